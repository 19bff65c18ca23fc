section
/-! 16y.bytes.lean.txt -/
/-! decode by bytes: the law's code is long; a byte's place is found by blocks of 16 -/
def bat (c : ByteArray) (p : Nat) (b : UInt8) : Prop := ∃ h : p < c.size, c[p]'h = b
theorem bat_of {c : ByteArray} {p : Nat} {b : UInt8} (h : c.data.toList[p]? = some b) : bat c p b := by
  obtain ⟨h1, h2⟩ := List.getElem?_eq_some_iff.mp h
  exact ⟨h1, h2⟩
theorem u1_at {c : ByteArray} {p : Nat} {b : UInt8} (h : bat c p b) : ((Jvm.ClassFile.Reader.u1 : Jvm.ClassFile.Reader Jvm.ClassFile.DecodeError Nat).run c).run p = .ok (b.toNat, p + 1) := by
  obtain ⟨h1, h2⟩ := h
  have e : ((dite (p < c.size) (fun h => do set (p + 1); pure (c[p]'h).toNat) (fun _ => throw (Jvm.ClassFile.HasTruncated.truncated p)) : Jvm.ClassFile.Reader Jvm.ClassFile.DecodeError Nat).run c).run p = .ok (b.toNat, p + 1) := by
    rw [dif_pos h1, h2]
    rfl
  exact e
theorem u2_at {c : ByteArray} {p : Nat} {b b2 : UInt8} (h : bat c p b) (h2 : bat c (p + 1) b2) : ((Jvm.ClassFile.Reader.u2 : Jvm.ClassFile.Reader Jvm.ClassFile.DecodeError Nat).run c).run p = .ok (b.toNat * 256 + b2.toNat, p + 2) := by
  show Except.bind (((Jvm.ClassFile.Reader.u1 : Jvm.ClassFile.Reader Jvm.ClassFile.DecodeError Nat).run c).run p) (fun r => Except.bind (((Jvm.ClassFile.Reader.u1 : Jvm.ClassFile.Reader Jvm.ClassFile.DecodeError Nat).run c).run r.2) (fun q => .ok (r.1 * 256 + q.1, q.2))) = _
  rw [u1_at h]
  show Except.bind (((Jvm.ClassFile.Reader.u1 : Jvm.ClassFile.Reader Jvm.ClassFile.DecodeError Nat).run c).run (p + 1)) (fun q => .ok (b.toNat * 256 + q.1, q.2)) = _
  rw [u1_at h2]
  rfl
theorem s2_at {c : ByteArray} {p : Nat} {b b2 : UInt8} (h : bat c p b) (h2 : bat c (p + 1) b2) : ((Jvm.ClassFile.Reader.s2 : Jvm.ClassFile.Reader Jvm.ClassFile.DecodeError Int).run c).run p = .ok (Jvm.ClassFile.Reader.signed 16 (b.toNat * 256 + b2.toNat), p + 2) := by
  show Except.bind (((Jvm.ClassFile.Reader.u2 : Jvm.ClassFile.Reader Jvm.ClassFile.DecodeError Nat).run c).run p) (fun r => .ok (Jvm.ClassFile.Reader.signed 16 r.1, r.2)) = _
  rw [u2_at h h2]
  rfl
theorem de_l1 (pc : Nat) : pc + 1 - pc = 1 := Nat.add_sub_cancel_left pc 1
theorem de_l2 (pc : Nat) : pc + 2 - pc = 2 := Nat.add_sub_cancel_left pc 2
theorem de_l3 (pc : Nat) : pc + 3 - pc = 3 := Nat.add_sub_cancel_left pc 3
theorem de_3 {c : ByteArray} {pc : Nat} (h : bat c pc 3) : decode c pc = .ok (Jvm.ClassFile.Instr.iconst 0, 1) := by
  show Except.bind (Except.bind (((Jvm.ClassFile.Reader.u1 : Jvm.ClassFile.Reader Jvm.ClassFile.DecodeError Nat).run c).run pc) _) _ = _
  rw [u1_at h]
  show Except.ok (Jvm.ClassFile.Instr.iconst 0, pc + 1 - pc) = _
  rw [de_l1]
theorem de_4 {c : ByteArray} {pc : Nat} (h : bat c pc 4) : decode c pc = .ok (Jvm.ClassFile.Instr.iconst 1, 1) := by
  show Except.bind (Except.bind (((Jvm.ClassFile.Reader.u1 : Jvm.ClassFile.Reader Jvm.ClassFile.DecodeError Nat).run c).run pc) _) _ = _
  rw [u1_at h]
  show Except.ok (Jvm.ClassFile.Instr.iconst 1, pc + 1 - pc) = _
  rw [de_l1]
theorem de_5 {c : ByteArray} {pc : Nat} (h : bat c pc 5) : decode c pc = .ok (Jvm.ClassFile.Instr.iconst 2, 1) := by
  show Except.bind (Except.bind (((Jvm.ClassFile.Reader.u1 : Jvm.ClassFile.Reader Jvm.ClassFile.DecodeError Nat).run c).run pc) _) _ = _
  rw [u1_at h]
  show Except.ok (Jvm.ClassFile.Instr.iconst 2, pc + 1 - pc) = _
  rw [de_l1]
theorem de_6 {c : ByteArray} {pc : Nat} (h : bat c pc 6) : decode c pc = .ok (Jvm.ClassFile.Instr.iconst 3, 1) := by
  show Except.bind (Except.bind (((Jvm.ClassFile.Reader.u1 : Jvm.ClassFile.Reader Jvm.ClassFile.DecodeError Nat).run c).run pc) _) _ = _
  rw [u1_at h]
  show Except.ok (Jvm.ClassFile.Instr.iconst 3, pc + 1 - pc) = _
  rw [de_l1]
theorem de_7 {c : ByteArray} {pc : Nat} (h : bat c pc 7) : decode c pc = .ok (Jvm.ClassFile.Instr.iconst 4, 1) := by
  show Except.bind (Except.bind (((Jvm.ClassFile.Reader.u1 : Jvm.ClassFile.Reader Jvm.ClassFile.DecodeError Nat).run c).run pc) _) _ = _
  rw [u1_at h]
  show Except.ok (Jvm.ClassFile.Instr.iconst 4, pc + 1 - pc) = _
  rw [de_l1]
theorem de_8 {c : ByteArray} {pc : Nat} (h : bat c pc 8) : decode c pc = .ok (Jvm.ClassFile.Instr.iconst 5, 1) := by
  show Except.bind (Except.bind (((Jvm.ClassFile.Reader.u1 : Jvm.ClassFile.Reader Jvm.ClassFile.DecodeError Nat).run c).run pc) _) _ = _
  rw [u1_at h]
  show Except.ok (Jvm.ClassFile.Instr.iconst 5, pc + 1 - pc) = _
  rw [de_l1]
theorem de_21 {c : ByteArray} {pc v : Nat} {b1 : UInt8} (h : bat c pc 21) (h1 : bat c (pc + 1) b1) (e : b1.toNat = v) : decode c pc = .ok (Jvm.ClassFile.Instr.iload v, 2) := by
  show Except.bind (Except.bind (((Jvm.ClassFile.Reader.u1 : Jvm.ClassFile.Reader Jvm.ClassFile.DecodeError Nat).run c).run pc) _) _ = _
  rw [u1_at h]
  show Except.bind (Except.bind (((Jvm.ClassFile.Reader.u1 : Jvm.ClassFile.Reader Jvm.ClassFile.DecodeError Nat).run c).run (pc + 1)) (fun r => .ok (Jvm.ClassFile.Instr.iload r.1, r.2))) (fun r => .ok (r.1, r.2 - pc)) = _
  rw [u1_at h1, e]
  show Except.ok (Jvm.ClassFile.Instr.iload v, pc + 2 - pc) = _
  rw [de_l2]
theorem de_25 {c : ByteArray} {pc v : Nat} {b1 : UInt8} (h : bat c pc 25) (h1 : bat c (pc + 1) b1) (e : b1.toNat = v) : decode c pc = .ok (Jvm.ClassFile.Instr.aload v, 2) := by
  show Except.bind (Except.bind (((Jvm.ClassFile.Reader.u1 : Jvm.ClassFile.Reader Jvm.ClassFile.DecodeError Nat).run c).run pc) _) _ = _
  rw [u1_at h]
  show Except.bind (Except.bind (((Jvm.ClassFile.Reader.u1 : Jvm.ClassFile.Reader Jvm.ClassFile.DecodeError Nat).run c).run (pc + 1)) (fun r => .ok (Jvm.ClassFile.Instr.aload r.1, r.2))) (fun r => .ok (r.1, r.2 - pc)) = _
  rw [u1_at h1, e]
  show Except.ok (Jvm.ClassFile.Instr.aload v, pc + 2 - pc) = _
  rw [de_l2]
theorem de_42 {c : ByteArray} {pc : Nat} (h : bat c pc 42) : decode c pc = .ok (Jvm.ClassFile.Instr.aload_n 0, 1) := by
  show Except.bind (Except.bind (((Jvm.ClassFile.Reader.u1 : Jvm.ClassFile.Reader Jvm.ClassFile.DecodeError Nat).run c).run pc) _) _ = _
  rw [u1_at h]
  show Except.ok (Jvm.ClassFile.Instr.aload_n 0, pc + 1 - pc) = _
  rw [de_l1]
theorem de_43 {c : ByteArray} {pc : Nat} (h : bat c pc 43) : decode c pc = .ok (Jvm.ClassFile.Instr.aload_n 1, 1) := by
  show Except.bind (Except.bind (((Jvm.ClassFile.Reader.u1 : Jvm.ClassFile.Reader Jvm.ClassFile.DecodeError Nat).run c).run pc) _) _ = _
  rw [u1_at h]
  show Except.ok (Jvm.ClassFile.Instr.aload_n 1, pc + 1 - pc) = _
  rw [de_l1]
theorem de_44 {c : ByteArray} {pc : Nat} (h : bat c pc 44) : decode c pc = .ok (Jvm.ClassFile.Instr.aload_n 2, 1) := by
  show Except.bind (Except.bind (((Jvm.ClassFile.Reader.u1 : Jvm.ClassFile.Reader Jvm.ClassFile.DecodeError Nat).run c).run pc) _) _ = _
  rw [u1_at h]
  show Except.ok (Jvm.ClassFile.Instr.aload_n 2, pc + 1 - pc) = _
  rw [de_l1]
theorem de_45 {c : ByteArray} {pc : Nat} (h : bat c pc 45) : decode c pc = .ok (Jvm.ClassFile.Instr.aload_n 3, 1) := by
  show Except.bind (Except.bind (((Jvm.ClassFile.Reader.u1 : Jvm.ClassFile.Reader Jvm.ClassFile.DecodeError Nat).run c).run pc) _) _ = _
  rw [u1_at h]
  show Except.ok (Jvm.ClassFile.Instr.aload_n 3, pc + 1 - pc) = _
  rw [de_l1]
theorem de_46 {c : ByteArray} {pc : Nat} (h : bat c pc 46) : decode c pc = .ok (Jvm.ClassFile.Instr.iaload, 1) := by
  show Except.bind (Except.bind (((Jvm.ClassFile.Reader.u1 : Jvm.ClassFile.Reader Jvm.ClassFile.DecodeError Nat).run c).run pc) _) _ = _
  rw [u1_at h]
  show Except.ok (Jvm.ClassFile.Instr.iaload, pc + 1 - pc) = _
  rw [de_l1]
theorem de_47 {c : ByteArray} {pc : Nat} (h : bat c pc 47) : decode c pc = .ok (Jvm.ClassFile.Instr.laload, 1) := by
  show Except.bind (Except.bind (((Jvm.ClassFile.Reader.u1 : Jvm.ClassFile.Reader Jvm.ClassFile.DecodeError Nat).run c).run pc) _) _ = _
  rw [u1_at h]
  show Except.ok (Jvm.ClassFile.Instr.laload, pc + 1 - pc) = _
  rw [de_l1]
theorem de_54 {c : ByteArray} {pc v : Nat} {b1 : UInt8} (h : bat c pc 54) (h1 : bat c (pc + 1) b1) (e : b1.toNat = v) : decode c pc = .ok (Jvm.ClassFile.Instr.istore v, 2) := by
  show Except.bind (Except.bind (((Jvm.ClassFile.Reader.u1 : Jvm.ClassFile.Reader Jvm.ClassFile.DecodeError Nat).run c).run pc) _) _ = _
  rw [u1_at h]
  show Except.bind (Except.bind (((Jvm.ClassFile.Reader.u1 : Jvm.ClassFile.Reader Jvm.ClassFile.DecodeError Nat).run c).run (pc + 1)) (fun r => .ok (Jvm.ClassFile.Instr.istore r.1, r.2))) (fun r => .ok (r.1, r.2 - pc)) = _
  rw [u1_at h1, e]
  show Except.ok (Jvm.ClassFile.Instr.istore v, pc + 2 - pc) = _
  rw [de_l2]
theorem de_55 {c : ByteArray} {pc v : Nat} {b1 : UInt8} (h : bat c pc 55) (h1 : bat c (pc + 1) b1) (e : b1.toNat = v) : decode c pc = .ok (Jvm.ClassFile.Instr.lstore v, 2) := by
  show Except.bind (Except.bind (((Jvm.ClassFile.Reader.u1 : Jvm.ClassFile.Reader Jvm.ClassFile.DecodeError Nat).run c).run pc) _) _ = _
  rw [u1_at h]
  show Except.bind (Except.bind (((Jvm.ClassFile.Reader.u1 : Jvm.ClassFile.Reader Jvm.ClassFile.DecodeError Nat).run c).run (pc + 1)) (fun r => .ok (Jvm.ClassFile.Instr.lstore r.1, r.2))) (fun r => .ok (r.1, r.2 - pc)) = _
  rw [u1_at h1, e]
  show Except.ok (Jvm.ClassFile.Instr.lstore v, pc + 2 - pc) = _
  rw [de_l2]
theorem de_56 {c : ByteArray} {pc v : Nat} {b1 : UInt8} (h : bat c pc 56) (h1 : bat c (pc + 1) b1) (e : b1.toNat = v) : decode c pc = .ok (Jvm.ClassFile.Instr.fstore v, 2) := by
  show Except.bind (Except.bind (((Jvm.ClassFile.Reader.u1 : Jvm.ClassFile.Reader Jvm.ClassFile.DecodeError Nat).run c).run pc) _) _ = _
  rw [u1_at h]
  show Except.bind (Except.bind (((Jvm.ClassFile.Reader.u1 : Jvm.ClassFile.Reader Jvm.ClassFile.DecodeError Nat).run c).run (pc + 1)) (fun r => .ok (Jvm.ClassFile.Instr.fstore r.1, r.2))) (fun r => .ok (r.1, r.2 - pc)) = _
  rw [u1_at h1, e]
  show Except.ok (Jvm.ClassFile.Instr.fstore v, pc + 2 - pc) = _
  rw [de_l2]
theorem de_87 {c : ByteArray} {pc : Nat} (h : bat c pc 87) : decode c pc = .ok (Jvm.ClassFile.Instr.pop, 1) := by
  show Except.bind (Except.bind (((Jvm.ClassFile.Reader.u1 : Jvm.ClassFile.Reader Jvm.ClassFile.DecodeError Nat).run c).run pc) _) _ = _
  rw [u1_at h]
  show Except.ok (Jvm.ClassFile.Instr.pop, pc + 1 - pc) = _
  rw [de_l1]
theorem de_96 {c : ByteArray} {pc : Nat} (h : bat c pc 96) : decode c pc = .ok (Jvm.ClassFile.Instr.iadd, 1) := by
  show Except.bind (Except.bind (((Jvm.ClassFile.Reader.u1 : Jvm.ClassFile.Reader Jvm.ClassFile.DecodeError Nat).run c).run pc) _) _ = _
  rw [u1_at h]
  show Except.ok (Jvm.ClassFile.Instr.iadd, pc + 1 - pc) = _
  rw [de_l1]
theorem de_100 {c : ByteArray} {pc : Nat} (h : bat c pc 100) : decode c pc = .ok (Jvm.ClassFile.Instr.isub, 1) := by
  show Except.bind (Except.bind (((Jvm.ClassFile.Reader.u1 : Jvm.ClassFile.Reader Jvm.ClassFile.DecodeError Nat).run c).run pc) _) _ = _
  rw [u1_at h]
  show Except.ok (Jvm.ClassFile.Instr.isub, pc + 1 - pc) = _
  rw [de_l1]
theorem de_126 {c : ByteArray} {pc : Nat} (h : bat c pc 126) : decode c pc = .ok (Jvm.ClassFile.Instr.iand, 1) := by
  show Except.bind (Except.bind (((Jvm.ClassFile.Reader.u1 : Jvm.ClassFile.Reader Jvm.ClassFile.DecodeError Nat).run c).run pc) _) _ = _
  rw [u1_at h]
  show Except.ok (Jvm.ClassFile.Instr.iand, pc + 1 - pc) = _
  rw [de_l1]
theorem de_133 {c : ByteArray} {pc : Nat} (h : bat c pc 133) : decode c pc = .ok (Jvm.ClassFile.Instr.i2l, 1) := by
  show Except.bind (Except.bind (((Jvm.ClassFile.Reader.u1 : Jvm.ClassFile.Reader Jvm.ClassFile.DecodeError Nat).run c).run pc) _) _ = _
  rw [u1_at h]
  show Except.ok (Jvm.ClassFile.Instr.i2l, pc + 1 - pc) = _
  rw [de_l1]
theorem de_148 {c : ByteArray} {pc : Nat} (h : bat c pc 148) : decode c pc = .ok (Jvm.ClassFile.Instr.lcmp, 1) := by
  show Except.bind (Except.bind (((Jvm.ClassFile.Reader.u1 : Jvm.ClassFile.Reader Jvm.ClassFile.DecodeError Nat).run c).run pc) _) _ = _
  rw [u1_at h]
  show Except.ok (Jvm.ClassFile.Instr.lcmp, pc + 1 - pc) = _
  rw [de_l1]
theorem de_153 {c : ByteArray} {pc : Nat} {v : Int} {b1 b2 : UInt8} (h : bat c pc 153) (h1 : bat c (pc + 1) b1) (h2 : bat c (pc + 1 + 1) b2) (e : Jvm.ClassFile.Reader.signed 16 (b1.toNat * 256 + b2.toNat) = v) : decode c pc = .ok (Jvm.ClassFile.Instr.ifCond .eq v, 3) := by
  show Except.bind (Except.bind (((Jvm.ClassFile.Reader.u1 : Jvm.ClassFile.Reader Jvm.ClassFile.DecodeError Nat).run c).run pc) _) _ = _
  rw [u1_at h]
  show Except.bind (Except.bind (((Jvm.ClassFile.Reader.s2 : Jvm.ClassFile.Reader Jvm.ClassFile.DecodeError Int).run c).run (pc + 1)) (fun r => .ok (Jvm.ClassFile.Instr.ifCond .eq r.1, r.2))) (fun r => .ok (r.1, r.2 - pc)) = _
  rw [s2_at h1 h2, e]
  show Except.ok (Jvm.ClassFile.Instr.ifCond .eq v, pc + 3 - pc) = _
  rw [de_l3]
theorem de_154 {c : ByteArray} {pc : Nat} {v : Int} {b1 b2 : UInt8} (h : bat c pc 154) (h1 : bat c (pc + 1) b1) (h2 : bat c (pc + 1 + 1) b2) (e : Jvm.ClassFile.Reader.signed 16 (b1.toNat * 256 + b2.toNat) = v) : decode c pc = .ok (Jvm.ClassFile.Instr.ifCond .ne v, 3) := by
  show Except.bind (Except.bind (((Jvm.ClassFile.Reader.u1 : Jvm.ClassFile.Reader Jvm.ClassFile.DecodeError Nat).run c).run pc) _) _ = _
  rw [u1_at h]
  show Except.bind (Except.bind (((Jvm.ClassFile.Reader.s2 : Jvm.ClassFile.Reader Jvm.ClassFile.DecodeError Int).run c).run (pc + 1)) (fun r => .ok (Jvm.ClassFile.Instr.ifCond .ne r.1, r.2))) (fun r => .ok (r.1, r.2 - pc)) = _
  rw [s2_at h1 h2, e]
  show Except.ok (Jvm.ClassFile.Instr.ifCond .ne v, pc + 3 - pc) = _
  rw [de_l3]
theorem de_159 {c : ByteArray} {pc : Nat} {v : Int} {b1 b2 : UInt8} (h : bat c pc 159) (h1 : bat c (pc + 1) b1) (h2 : bat c (pc + 1 + 1) b2) (e : Jvm.ClassFile.Reader.signed 16 (b1.toNat * 256 + b2.toNat) = v) : decode c pc = .ok (Jvm.ClassFile.Instr.if_icmp .eq v, 3) := by
  show Except.bind (Except.bind (((Jvm.ClassFile.Reader.u1 : Jvm.ClassFile.Reader Jvm.ClassFile.DecodeError Nat).run c).run pc) _) _ = _
  rw [u1_at h]
  show Except.bind (Except.bind (((Jvm.ClassFile.Reader.s2 : Jvm.ClassFile.Reader Jvm.ClassFile.DecodeError Int).run c).run (pc + 1)) (fun r => .ok (Jvm.ClassFile.Instr.if_icmp .eq r.1, r.2))) (fun r => .ok (r.1, r.2 - pc)) = _
  rw [s2_at h1 h2, e]
  show Except.ok (Jvm.ClassFile.Instr.if_icmp .eq v, pc + 3 - pc) = _
  rw [de_l3]
theorem de_163 {c : ByteArray} {pc : Nat} {v : Int} {b1 b2 : UInt8} (h : bat c pc 163) (h1 : bat c (pc + 1) b1) (h2 : bat c (pc + 1 + 1) b2) (e : Jvm.ClassFile.Reader.signed 16 (b1.toNat * 256 + b2.toNat) = v) : decode c pc = .ok (Jvm.ClassFile.Instr.if_icmp .gt v, 3) := by
  show Except.bind (Except.bind (((Jvm.ClassFile.Reader.u1 : Jvm.ClassFile.Reader Jvm.ClassFile.DecodeError Nat).run c).run pc) _) _ = _
  rw [u1_at h]
  show Except.bind (Except.bind (((Jvm.ClassFile.Reader.s2 : Jvm.ClassFile.Reader Jvm.ClassFile.DecodeError Int).run c).run (pc + 1)) (fun r => .ok (Jvm.ClassFile.Instr.if_icmp .gt r.1, r.2))) (fun r => .ok (r.1, r.2 - pc)) = _
  rw [s2_at h1 h2, e]
  show Except.ok (Jvm.ClassFile.Instr.if_icmp .gt v, pc + 3 - pc) = _
  rw [de_l3]
theorem de_167 {c : ByteArray} {pc : Nat} {v : Int} {b1 b2 : UInt8} (h : bat c pc 167) (h1 : bat c (pc + 1) b1) (h2 : bat c (pc + 1 + 1) b2) (e : Jvm.ClassFile.Reader.signed 16 (b1.toNat * 256 + b2.toNat) = v) : decode c pc = .ok (Jvm.ClassFile.Instr.goto v, 3) := by
  show Except.bind (Except.bind (((Jvm.ClassFile.Reader.u1 : Jvm.ClassFile.Reader Jvm.ClassFile.DecodeError Nat).run c).run pc) _) _ = _
  rw [u1_at h]
  show Except.bind (Except.bind (((Jvm.ClassFile.Reader.s2 : Jvm.ClassFile.Reader Jvm.ClassFile.DecodeError Int).run c).run (pc + 1)) (fun r => .ok (Jvm.ClassFile.Instr.goto r.1, r.2))) (fun r => .ok (r.1, r.2 - pc)) = _
  rw [s2_at h1 h2, e]
  show Except.ok (Jvm.ClassFile.Instr.goto v, pc + 3 - pc) = _
  rw [de_l3]
theorem de_172 {c : ByteArray} {pc : Nat} (h : bat c pc 172) : decode c pc = .ok (Jvm.ClassFile.Instr.ireturn, 1) := by
  show Except.bind (Except.bind (((Jvm.ClassFile.Reader.u1 : Jvm.ClassFile.Reader Jvm.ClassFile.DecodeError Nat).run c).run pc) _) _ = _
  rw [u1_at h]
  show Except.ok (Jvm.ClassFile.Instr.ireturn, pc + 1 - pc) = _
  rw [de_l1]
theorem de_182 {c : ByteArray} {pc v : Nat} {b1 b2 : UInt8} (h : bat c pc 182) (h1 : bat c (pc + 1) b1) (h2 : bat c (pc + 1 + 1) b2) (e : b1.toNat * 256 + b2.toNat = v) : decode c pc = .ok (Jvm.ClassFile.Instr.invokevirtual v, 3) := by
  show Except.bind (Except.bind (((Jvm.ClassFile.Reader.u1 : Jvm.ClassFile.Reader Jvm.ClassFile.DecodeError Nat).run c).run pc) _) _ = _
  rw [u1_at h]
  show Except.bind (Except.bind (((Jvm.ClassFile.Reader.u2 : Jvm.ClassFile.Reader Jvm.ClassFile.DecodeError Nat).run c).run (pc + 1)) (fun r => .ok (Jvm.ClassFile.Instr.invokevirtual r.1, r.2))) (fun r => .ok (r.1, r.2 - pc)) = _
  rw [u2_at h1 h2, e]
  show Except.ok (Jvm.ClassFile.Instr.invokevirtual v, pc + 3 - pc) = _
  rw [de_l3]
theorem de_184 {c : ByteArray} {pc v : Nat} {b1 b2 : UInt8} (h : bat c pc 184) (h1 : bat c (pc + 1) b1) (h2 : bat c (pc + 1 + 1) b2) (e : b1.toNat * 256 + b2.toNat = v) : decode c pc = .ok (Jvm.ClassFile.Instr.invokestatic v, 3) := by
  show Except.bind (Except.bind (((Jvm.ClassFile.Reader.u1 : Jvm.ClassFile.Reader Jvm.ClassFile.DecodeError Nat).run c).run pc) _) _ = _
  rw [u1_at h]
  show Except.bind (Except.bind (((Jvm.ClassFile.Reader.u2 : Jvm.ClassFile.Reader Jvm.ClassFile.DecodeError Nat).run c).run (pc + 1)) (fun r => .ok (Jvm.ClassFile.Instr.invokestatic r.1, r.2))) (fun r => .ok (r.1, r.2 - pc)) = _
  rw [u2_at h1 h2, e]
  show Except.ok (Jvm.ClassFile.Instr.invokestatic v, pc + 3 - pc) = _
  rw [de_l3]
theorem de_190 {c : ByteArray} {pc : Nat} (h : bat c pc 190) : decode c pc = .ok (Jvm.ClassFile.Instr.arraylength, 1) := by
  show Except.bind (Except.bind (((Jvm.ClassFile.Reader.u1 : Jvm.ClassFile.Reader Jvm.ClassFile.DecodeError Nat).run c).run pc) _) _ = _
  rw [u1_at h]
  show Except.ok (Jvm.ClassFile.Instr.arraylength, pc + 1 - pc) = _
  rw [de_l1]
theorem ap16 {B t : List UInt8} (h : B.length = 16) (j : Nat) : (B ++ t)[16 + j]? = t[j]? := by
  rw [List.getElem?_append_right (by omega), h, Nat.add_sub_cancel_left]
def tL_152 : List UInt8 := [1, 150, 54, 7, 167, 0, 3, 132, 5, 6, 167, 246, 146, 4, 172]
def tL_151 : List UInt8 := [96, 46, 45, 184, 1, 148, 54, 6, 44, 42, 21, 5, 4, 96, 46, 182] ++ tL_152
def tL_150 : List UInt8 := [4, 96, 46, 182, 1, 147, 54, 7, 167, 0, 31, 43, 42, 21, 5, 4] ++ tL_151
def tL_149 : List UInt8 := [42, 21, 5, 4, 96, 46, 45, 184, 1, 145, 54, 6, 44, 42, 21, 5] ++ tL_150
def tL_148 : List UInt8 := [0, 72, 43, 182, 1, 141, 87, 44, 182, 1, 144, 87, 167, 0, 59, 43] ++ tL_149
def tL_147 : List UInt8 := [154, 0, 15, 45, 3, 47, 21, 7, 133, 148, 153, 0, 5, 3, 172, 167] ++ tL_148
def tL_146 : List UInt8 := [137, 54, 7, 44, 182, 1, 138, 21, 6, 159, 0, 5, 3, 172, 21, 6] ++ tL_147
def tL_145 : List UInt8 := [134, 54, 7, 167, 0, 116, 43, 45, 184, 1, 135, 54, 6, 44, 182, 1] ++ tL_146
def tL_144 : List UInt8 := [131, 54, 7, 167, 0, 132, 43, 45, 184, 1, 132, 54, 6, 44, 182, 1] ++ tL_145
def tL_143 : List UInt8 := [46, 45, 184, 1, 129, 54, 6, 44, 42, 21, 5, 4, 96, 46, 182, 1] ++ tL_144
def tL_142 : List UInt8 := [96, 46, 182, 1, 128, 54, 7, 167, 0, 160, 43, 42, 21, 5, 4, 96] ++ tL_143
def tL_141 : List UInt8 := [42, 21, 5, 4, 96, 46, 42, 21, 5, 5, 96, 46, 42, 21, 5, 6] ++ tL_142
def tL_140 : List UInt8 := [5, 96, 46, 42, 21, 5, 6, 96, 46, 45, 184, 1, 126, 54, 6, 44] ++ tL_141
def tL_139 : List UInt8 := [125, 54, 7, 167, 0, 212, 43, 42, 21, 5, 4, 96, 46, 42, 21, 5] ++ tL_140
def tL_138 : List UInt8 := [96, 46, 42, 21, 5, 5, 96, 46, 42, 21, 5, 6, 96, 46, 182, 1] ++ tL_139
def tL_137 : List UInt8 := [21, 5, 6, 96, 46, 45, 184, 1, 123, 54, 6, 44, 42, 21, 5, 4] ++ tL_138
def tL_136 : List UInt8 := [1, 8, 43, 42, 21, 5, 4, 96, 46, 42, 21, 5, 5, 96, 46, 42] ++ tL_137
def tL_135 : List UInt8 := [96, 46, 153, 0, 7, 4, 167, 0, 4, 3, 182, 1, 122, 54, 7, 167] ++ tL_136
def tL_134 : List UInt8 := [184, 1, 120, 54, 6, 44, 42, 21, 5, 4, 96, 46, 42, 21, 5, 5] ++ tL_135
def tL_133 : List UInt8 := [46, 42, 21, 5, 5, 96, 46, 153, 0, 7, 4, 167, 0, 4, 3, 45] ++ tL_134
def tL_132 : List UInt8 := [96, 46, 182, 1, 119, 54, 7, 167, 1, 64, 43, 42, 21, 5, 4, 96] ++ tL_133
def tL_131 : List UInt8 := [184, 1, 117, 54, 6, 44, 42, 21, 5, 4, 96, 46, 42, 21, 5, 5] ++ tL_132
def tL_130 : List UInt8 := [1, 104, 43, 42, 21, 5, 4, 96, 46, 42, 21, 5, 5, 96, 46, 45] ++ tL_131
def tL_129 : List UInt8 := [96, 46, 153, 0, 7, 4, 167, 0, 4, 3, 182, 1, 116, 54, 7, 167] ++ tL_130
def tL_128 : List UInt8 := [184, 1, 113, 54, 6, 44, 42, 21, 5, 4, 96, 46, 42, 21, 5, 5] ++ tL_129
def tL_127 : List UInt8 := [46, 42, 21, 5, 5, 96, 46, 153, 0, 7, 4, 167, 0, 4, 3, 45] ++ tL_128
def tL_126 : List UInt8 := [96, 46, 182, 1, 112, 54, 7, 167, 1, 160, 43, 42, 21, 5, 4, 96] ++ tL_127
def tL_125 : List UInt8 := [21, 5, 4, 96, 46, 45, 184, 1, 110, 54, 6, 44, 42, 21, 5, 4] ++ tL_126
def tL_124 : List UInt8 := [42, 21, 5, 4, 96, 46, 182, 1, 109, 54, 7, 167, 1, 188, 43, 42] ++ tL_125
def tL_123 : List UInt8 := [1, 216, 43, 42, 21, 5, 4, 96, 46, 45, 184, 1, 107, 54, 6, 44] ++ tL_124
def tL_122 : List UInt8 := [5, 5, 96, 46, 42, 21, 5, 6, 96, 46, 182, 1, 106, 55, 7, 167] ++ tL_123
def tL_121 : List UInt8 := [46, 45, 184, 1, 104, 54, 6, 44, 42, 21, 5, 4, 96, 46, 42, 21] ++ tL_122
def tL_120 : List UInt8 := [21, 5, 4, 96, 46, 42, 21, 5, 5, 96, 46, 42, 21, 5, 6, 96] ++ tL_121
def tL_119 : List UInt8 := [42, 21, 5, 5, 96, 46, 182, 1, 103, 54, 7, 167, 2, 12, 43, 42] ++ tL_120
def tL_118 : List UInt8 := [5, 96, 46, 45, 184, 1, 101, 54, 6, 44, 42, 21, 5, 4, 96, 46] ++ tL_119
def tL_117 : List UInt8 := [100, 54, 7, 167, 2, 52, 43, 42, 21, 5, 4, 96, 46, 42, 21, 5] ++ tL_118
def tL_116 : List UInt8 := [46, 45, 184, 1, 98, 54, 6, 44, 42, 21, 5, 4, 96, 46, 182, 1] ++ tL_117
def tL_115 : List UInt8 := [6, 44, 182, 1, 97, 54, 7, 167, 2, 80, 43, 42, 21, 5, 4, 96] ++ tL_116
def tL_114 : List UInt8 := [96, 46, 182, 1, 94, 54, 7, 167, 2, 96, 43, 45, 184, 1, 95, 54] ++ tL_115
def tL_113 : List UInt8 := [21, 5, 4, 96, 46, 45, 184, 1, 92, 54, 6, 44, 42, 21, 5, 4] ++ tL_114
def tL_112 : List UInt8 := [42, 21, 5, 4, 96, 46, 182, 1, 91, 55, 7, 167, 2, 124, 43, 42] ++ tL_113
def tL_111 : List UInt8 := [2, 152, 43, 42, 21, 5, 4, 96, 46, 45, 184, 1, 89, 54, 6, 44] ++ tL_112
def tL_110 : List UInt8 := [5, 5, 96, 46, 42, 21, 5, 6, 96, 46, 182, 1, 88, 54, 7, 167] ++ tL_111
def tL_109 : List UInt8 := [46, 45, 184, 1, 86, 54, 6, 44, 42, 21, 5, 4, 96, 46, 42, 21] ++ tL_110
def tL_108 : List UInt8 := [21, 5, 4, 96, 46, 42, 21, 5, 5, 96, 46, 42, 21, 5, 6, 96] ++ tL_109
def tL_107 : List UInt8 := [42, 21, 5, 6, 96, 46, 182, 1, 85, 55, 7, 167, 2, 204, 43, 42] ++ tL_108
def tL_106 : List UInt8 := [83, 54, 6, 44, 42, 21, 5, 4, 96, 46, 42, 21, 5, 5, 96, 46] ++ tL_107
def tL_105 : List UInt8 := [46, 42, 21, 5, 5, 96, 46, 42, 21, 5, 6, 96, 46, 45, 184, 1] ++ tL_106
def tL_104 : List UInt8 := [96, 46, 182, 1, 82, 54, 7, 167, 3, 0, 43, 42, 21, 5, 4, 96] ++ tL_105
def tL_103 : List UInt8 := [42, 21, 5, 4, 96, 46, 42, 21, 5, 5, 96, 46, 42, 21, 5, 6] ++ tL_104
def tL_102 : List UInt8 := [5, 96, 46, 42, 21, 5, 6, 96, 46, 45, 184, 1, 80, 54, 6, 44] ++ tL_103
def tL_101 : List UInt8 := [79, 55, 7, 167, 3, 52, 43, 42, 21, 5, 4, 96, 46, 42, 21, 5] ++ tL_102
def tL_100 : List UInt8 := [96, 46, 42, 21, 5, 5, 96, 46, 42, 21, 5, 6, 96, 46, 182, 1] ++ tL_101
def tL_99 : List UInt8 := [21, 5, 6, 96, 46, 45, 184, 1, 77, 54, 6, 44, 42, 21, 5, 4] ++ tL_100
def tL_98 : List UInt8 := [3, 104, 43, 42, 21, 5, 4, 96, 46, 42, 21, 5, 5, 96, 46, 42] ++ tL_99
def tL_97 : List UInt8 := [5, 4, 96, 46, 42, 21, 5, 5, 96, 46, 182, 1, 76, 54, 7, 167] ++ tL_98
def tL_96 : List UInt8 := [46, 42, 21, 5, 5, 96, 46, 45, 184, 1, 74, 54, 6, 44, 42, 21] ++ tL_97
def tL_95 : List UInt8 := [96, 46, 182, 1, 73, 55, 7, 167, 3, 144, 43, 42, 21, 5, 4, 96] ++ tL_96
def tL_94 : List UInt8 := [21, 5, 4, 96, 46, 45, 184, 1, 71, 54, 6, 44, 42, 21, 5, 4] ++ tL_95
def tL_93 : List UInt8 := [42, 21, 5, 4, 96, 46, 182, 1, 70, 54, 7, 167, 3, 172, 43, 42] ++ tL_94
def tL_92 : List UInt8 := [3, 200, 43, 42, 21, 5, 4, 96, 46, 45, 184, 1, 68, 54, 6, 44] ++ tL_93
def tL_91 : List UInt8 := [5, 4, 96, 46, 42, 21, 5, 5, 96, 46, 182, 1, 67, 54, 7, 167] ++ tL_92
def tL_90 : List UInt8 := [46, 42, 21, 5, 5, 96, 46, 45, 184, 1, 65, 54, 6, 44, 42, 21] ++ tL_91
def tL_89 : List UInt8 := [96, 46, 182, 1, 64, 55, 7, 167, 3, 240, 43, 42, 21, 5, 4, 96] ++ tL_90
def tL_88 : List UInt8 := [42, 21, 5, 4, 96, 46, 42, 21, 5, 5, 96, 46, 42, 21, 5, 6] ++ tL_89
def tL_87 : List UInt8 := [5, 96, 46, 42, 21, 5, 6, 96, 46, 45, 184, 1, 62, 54, 6, 44] ++ tL_88
def tL_86 : List UInt8 := [61, 54, 7, 167, 4, 36, 43, 42, 21, 5, 4, 96, 46, 42, 21, 5] ++ tL_87
def tL_85 : List UInt8 := [6, 44, 42, 21, 5, 4, 96, 46, 42, 21, 5, 5, 96, 46, 182, 1] ++ tL_86
def tL_84 : List UInt8 := [21, 5, 4, 96, 46, 42, 21, 5, 5, 96, 46, 45, 184, 1, 59, 54] ++ tL_85
def tL_83 : List UInt8 := [42, 21, 5, 6, 96, 46, 182, 1, 58, 54, 7, 167, 4, 76, 43, 42] ++ tL_84
def tL_82 : List UInt8 := [56, 54, 6, 44, 42, 21, 5, 4, 96, 46, 42, 21, 5, 5, 96, 46] ++ tL_83
def tL_81 : List UInt8 := [46, 42, 21, 5, 5, 96, 46, 42, 21, 5, 6, 96, 46, 45, 184, 1] ++ tL_82
def tL_80 : List UInt8 := [96, 46, 182, 1, 55, 54, 7, 167, 4, 128, 43, 42, 21, 5, 4, 96] ++ tL_81
def tL_79 : List UInt8 := [42, 21, 5, 4, 96, 46, 42, 21, 5, 5, 96, 46, 42, 21, 5, 6] ++ tL_80
def tL_78 : List UInt8 := [5, 96, 46, 42, 21, 5, 6, 96, 46, 45, 184, 1, 53, 54, 6, 44] ++ tL_79
def tL_77 : List UInt8 := [52, 56, 7, 167, 4, 180, 43, 42, 21, 5, 4, 96, 46, 42, 21, 5] ++ tL_78
def tL_76 : List UInt8 := [54, 7, 167, 4, 197, 43, 25, 4, 184, 1, 49, 54, 6, 44, 182, 1] ++ tL_77
def tL_75 : List UInt8 := [45, 184, 1, 46, 54, 6, 44, 42, 21, 5, 4, 96, 46, 182, 1, 48] ++ tL_76
def tL_74 : List UInt8 := [46, 182, 1, 45, 55, 7, 167, 4, 225, 43, 42, 21, 5, 4, 96, 46] ++ tL_75
def tL_73 : List UInt8 := [5, 4, 96, 46, 45, 184, 1, 43, 54, 6, 44, 42, 21, 5, 4, 96] ++ tL_74
def tL_72 : List UInt8 := [21, 5, 4, 96, 46, 182, 1, 42, 54, 7, 167, 4, 253, 43, 42, 21] ++ tL_73
def tL_71 : List UInt8 := [25, 43, 42, 21, 5, 4, 96, 46, 45, 184, 1, 40, 54, 6, 44, 42] ++ tL_72
def tL_70 : List UInt8 := [54, 6, 44, 42, 21, 5, 4, 96, 46, 182, 1, 39, 54, 7, 167, 5] ++ tL_71
def tL_69 : List UInt8 := [54, 7, 167, 5, 53, 43, 42, 21, 5, 4, 96, 46, 45, 184, 1, 37] ++ tL_70
def tL_68 : List UInt8 := [55, 7, 167, 5, 69, 43, 45, 184, 1, 34, 54, 6, 44, 182, 1, 36] ++ tL_69
def tL_67 : List UInt8 := [55, 7, 167, 5, 85, 43, 45, 184, 1, 31, 54, 6, 44, 182, 1, 33] ++ tL_68
def tL_66 : List UInt8 := [54, 7, 167, 5, 101, 43, 45, 184, 1, 28, 54, 6, 44, 182, 1, 30] ++ tL_67
def tL_65 : List UInt8 := [55, 7, 167, 5, 117, 43, 45, 184, 1, 24, 54, 6, 44, 182, 1, 27] ++ tL_66
def tL_64 : List UInt8 := [44, 42, 21, 5, 4, 96, 46, 42, 21, 5, 5, 96, 46, 182, 1, 23] ++ tL_65
def tL_63 : List UInt8 := [5, 4, 96, 46, 42, 21, 5, 5, 96, 46, 45, 184, 1, 21, 54, 6] ++ tL_64
def tL_62 : List UInt8 := [21, 5, 4, 96, 46, 182, 1, 20, 55, 7, 167, 5, 157, 43, 42, 21] ++ tL_63
def tL_61 : List UInt8 := [185, 43, 42, 21, 5, 4, 96, 46, 45, 184, 1, 18, 54, 6, 44, 42] ++ tL_62
def tL_60 : List UInt8 := [4, 96, 46, 42, 21, 5, 5, 96, 46, 182, 1, 17, 54, 7, 167, 5] ++ tL_61
def tL_59 : List UInt8 := [42, 21, 5, 5, 96, 46, 45, 184, 1, 15, 54, 6, 44, 42, 21, 5] ++ tL_60
def tL_58 : List UInt8 := [46, 182, 1, 14, 54, 7, 167, 5, 225, 43, 42, 21, 5, 4, 96, 46] ++ tL_59
def tL_57 : List UInt8 := [1, 12, 54, 6, 44, 42, 21, 5, 4, 96, 46, 42, 21, 5, 5, 96] ++ tL_58
def tL_56 : List UInt8 := [9, 43, 42, 21, 5, 4, 96, 46, 42, 21, 5, 5, 96, 46, 45, 184] ++ tL_57
def tL_55 : List UInt8 := [54, 6, 44, 42, 21, 5, 4, 96, 46, 182, 1, 11, 54, 7, 167, 6] ++ tL_56
def tL_54 : List UInt8 := [54, 7, 167, 6, 37, 43, 42, 21, 5, 4, 96, 46, 45, 184, 1, 9] ++ tL_55
def tL_53 : List UInt8 := [45, 184, 1, 6, 54, 6, 44, 42, 21, 5, 4, 96, 46, 182, 1, 8] ++ tL_54
def tL_52 : List UInt8 := [46, 182, 1, 5, 54, 7, 167, 6, 65, 43, 42, 21, 5, 4, 96, 46] ++ tL_53
def tL_51 : List UInt8 := [21, 5, 4, 96, 46, 42, 21, 5, 5, 96, 46, 42, 21, 5, 6, 96] ++ tL_52
def tL_50 : List UInt8 := [96, 46, 42, 21, 5, 6, 96, 46, 45, 184, 1, 3, 54, 6, 44, 42] ++ tL_51
def tL_49 : List UInt8 := [54, 7, 167, 6, 117, 43, 42, 21, 5, 4, 96, 46, 42, 21, 5, 5] ++ tL_50
def tL_48 : List UInt8 := [44, 42, 21, 5, 4, 96, 46, 42, 21, 5, 5, 96, 46, 182, 1, 2] ++ tL_49
def tL_47 : List UInt8 := [5, 4, 96, 46, 42, 21, 5, 5, 96, 46, 45, 184, 1, 0, 54, 6] ++ tL_48
def tL_46 : List UInt8 := [43, 182, 0, 252, 87, 44, 182, 0, 255, 87, 167, 6, 157, 43, 42, 21] ++ tL_47
def tL_45 : List UInt8 := [96, 46, 42, 21, 5, 5, 96, 46, 182, 0, 251, 54, 7, 167, 6, 170] ++ tL_46
def tL_44 : List UInt8 := [21, 5, 5, 96, 46, 45, 184, 0, 249, 54, 6, 44, 42, 21, 5, 4] ++ tL_45
def tL_43 : List UInt8 := [182, 0, 248, 54, 7, 167, 6, 210, 43, 42, 21, 5, 4, 96, 46, 42] ++ tL_44
def tL_42 : List UInt8 := [4, 96, 46, 45, 184, 0, 246, 54, 6, 44, 42, 21, 5, 4, 96, 46] ++ tL_43
def tL_41 : List UInt8 := [5, 6, 96, 46, 182, 0, 245, 54, 7, 167, 6, 238, 43, 42, 21, 5] ++ tL_42
def tL_40 : List UInt8 := [6, 44, 42, 21, 5, 4, 96, 46, 42, 21, 5, 5, 96, 46, 42, 21] ++ tL_41
def tL_39 : List UInt8 := [21, 5, 5, 96, 46, 42, 21, 5, 6, 96, 46, 45, 184, 0, 242, 54] ++ tL_40
def tL_38 : List UInt8 := [44, 182, 0, 241, 87, 167, 7, 34, 43, 42, 21, 5, 4, 96, 46, 42] ++ tL_39
def tL_37 : List UInt8 := [5, 96, 46, 182, 0, 237, 54, 7, 167, 7, 47, 43, 182, 0, 238, 87] ++ tL_38
def tL_36 : List UInt8 := [45, 184, 0, 235, 54, 6, 44, 42, 21, 5, 4, 96, 46, 42, 21, 5] ++ tL_37
def tL_35 : List UInt8 := [167, 7, 87, 43, 42, 21, 5, 4, 96, 46, 42, 21, 5, 5, 96, 46] ++ tL_36
def tL_34 : List UInt8 := [0, 230, 87, 167, 7, 100, 43, 182, 0, 231, 87, 44, 182, 0, 234, 87] ++ tL_35
def tL_33 : List UInt8 := [46, 182, 0, 226, 54, 7, 167, 7, 113, 43, 182, 0, 227, 87, 44, 182] ++ tL_34
def tL_32 : List UInt8 := [5, 4, 96, 46, 45, 184, 0, 224, 54, 6, 44, 42, 21, 5, 4, 96] ++ tL_33
def tL_31 : List UInt8 := [21, 5, 5, 96, 46, 182, 0, 223, 54, 7, 167, 7, 141, 43, 42, 21] ++ tL_32
def tL_30 : List UInt8 := [96, 46, 45, 184, 0, 220, 54, 6, 44, 42, 21, 5, 4, 96, 46, 42] ++ tL_31
def tL_29 : List UInt8 := [219, 87, 167, 7, 181, 43, 42, 21, 5, 4, 96, 46, 42, 21, 5, 5] ++ tL_30
def tL_28 : List UInt8 := [44, 182, 0, 215, 87, 167, 7, 194, 43, 182, 0, 216, 87, 44, 182, 0] ++ tL_29
def tL_27 : List UInt8 := [0, 208, 87, 44, 182, 0, 211, 87, 167, 7, 207, 43, 182, 0, 212, 87] ++ tL_28
def tL_26 : List UInt8 := [233, 43, 182, 0, 204, 87, 44, 182, 0, 207, 87, 167, 7, 220, 43, 182] ++ tL_27
def tL_25 : List UInt8 := [54, 6, 44, 42, 21, 5, 4, 96, 46, 182, 0, 203, 54, 7, 167, 7] ++ tL_26
def tL_24 : List UInt8 := [197, 87, 167, 8, 5, 43, 42, 21, 5, 4, 96, 46, 45, 184, 0, 198] ++ tL_25
def tL_23 : List UInt8 := [96, 46, 42, 21, 5, 7, 96, 46, 42, 21, 5, 8, 96, 46, 182, 0] ++ tL_24
def tL_22 : List UInt8 := [42, 21, 5, 4, 96, 46, 42, 21, 5, 5, 96, 46, 42, 21, 5, 6] ++ tL_23
def tL_21 : List UInt8 := [21, 5, 7, 96, 46, 42, 21, 5, 8, 96, 46, 182, 0, 193, 87, 44] ++ tL_22
def tL_20 : List UInt8 := [4, 96, 46, 42, 21, 5, 5, 96, 46, 42, 21, 5, 6, 96, 46, 42] ++ tL_21
def tL_19 : List UInt8 := [0, 0, 9, 21, 0, 0, 9, 34, 0, 0, 9, 62, 43, 42, 21, 5] ++ tL_20
def tL_18 : List UInt8 := [0, 0, 8, 137, 0, 0, 8, 189, 0, 0, 8, 217, 0, 0, 8, 233] ++ tL_19
def tL_17 : List UInt8 := [0, 0, 7, 189, 0, 0, 7, 245, 0, 0, 8, 29, 0, 0, 8, 85] ++ tL_18
def tL_16 : List UInt8 := [0, 0, 7, 41, 0, 0, 7, 81, 0, 0, 7, 133, 0, 0, 7, 161] ++ tL_17
def tL_15 : List UInt8 := [0, 0, 6, 197, 0, 0, 6, 225, 0, 0, 6, 253, 0, 0, 7, 13] ++ tL_16
def tL_14 : List UInt8 := [0, 0, 5, 245, 0, 0, 6, 41, 0, 0, 6, 93, 0, 0, 6, 145] ++ tL_15
def tL_13 : List UInt8 := [0, 0, 5, 109, 0, 0, 5, 149, 0, 0, 5, 177, 0, 0, 5, 205] ++ tL_14
def tL_12 : List UInt8 := [0, 0, 4, 169, 0, 0, 4, 221, 0, 0, 5, 17, 0, 0, 5, 57] ++ tL_13
def tL_11 : List UInt8 := [0, 0, 4, 68, 0, 0, 4, 96, 0, 0, 4, 124, 0, 0, 4, 152] ++ tL_12
def tL_10 : List UInt8 := [0, 0, 3, 248, 0, 0, 4, 8, 0, 0, 4, 24, 0, 0, 4, 40] ++ tL_11
def tL_9 : List UInt8 := [0, 0, 3, 124, 0, 0, 3, 164, 0, 0, 3, 192, 0, 0, 3, 232] ++ tL_10
def tL_8 : List UInt8 := [0, 0, 2, 232, 0, 0, 3, 28, 0, 0, 3, 56, 0, 0, 3, 84] ++ tL_9
def tL_7 : List UInt8 := [0, 0, 2, 111, 0, 0, 2, 139, 0, 0, 2, 179, 0, 0, 2, 192] ++ tL_8
def tL_6 : List UInt8 := [0, 0, 1, 249, 0, 0, 2, 6, 0, 0, 2, 46, 0, 0, 2, 59] ++ tL_7
def tL_5 : List UInt8 := [0, 0, 1, 155, 0, 0, 1, 168, 0, 0, 1, 208, 0, 0, 1, 236] ++ tL_6
def tL_4 : List UInt8 := [0, 0, 1, 88, 0, 0, 1, 116, 0, 0, 1, 129, 0, 0, 1, 142] ++ tL_5
def tL_3 : List UInt8 := [0, 0, 9, 90, 0, 0, 0, 0, 0, 0, 0, 63, 0, 0, 1, 15] ++ tL_4
def tL_2 : List UInt8 := [16, 6, 100, 163, 9, 106, 42, 21, 5, 46, 16, 63, 126, 170, 0, 0] ++ tL_3
def tL_1 : List UInt8 := [4, 188, 11, 78, 4, 188, 7, 58, 4, 3, 54, 5, 21, 5, 42, 190] ++ tL_2
def tL_0 : List UInt8 := [187, 0, 8, 89, 183, 0, 189, 76, 187, 0, 190, 89, 183, 0, 192, 77] ++ tL_1
set_option maxRecDepth 100000 in
theorem tL_ok : code.data.toList = tL_0 := by decide +kernel
theorem gL_0 (j : Nat) : code.data.toList[0 + j]? = tL_0[j]? := by rw [Nat.zero_add, tL_ok]
theorem gL_1 (j : Nat) : code.data.toList[16 + j]? = tL_1[j]? := (congrArg (fun n => code.data.toList[n]?) (Nat.add_assoc 0 16 j)).trans ((gL_0 (16 + j)).trans (ap16 (t := tL_1) rfl j))
theorem gL_2 (j : Nat) : code.data.toList[32 + j]? = tL_2[j]? := (congrArg (fun n => code.data.toList[n]?) (Nat.add_assoc 16 16 j)).trans ((gL_1 (16 + j)).trans (ap16 (t := tL_2) rfl j))
theorem gL_3 (j : Nat) : code.data.toList[48 + j]? = tL_3[j]? := (congrArg (fun n => code.data.toList[n]?) (Nat.add_assoc 32 16 j)).trans ((gL_2 (16 + j)).trans (ap16 (t := tL_3) rfl j))
theorem gL_4 (j : Nat) : code.data.toList[64 + j]? = tL_4[j]? := (congrArg (fun n => code.data.toList[n]?) (Nat.add_assoc 48 16 j)).trans ((gL_3 (16 + j)).trans (ap16 (t := tL_4) rfl j))
theorem gL_5 (j : Nat) : code.data.toList[80 + j]? = tL_5[j]? := (congrArg (fun n => code.data.toList[n]?) (Nat.add_assoc 64 16 j)).trans ((gL_4 (16 + j)).trans (ap16 (t := tL_5) rfl j))
theorem gL_6 (j : Nat) : code.data.toList[96 + j]? = tL_6[j]? := (congrArg (fun n => code.data.toList[n]?) (Nat.add_assoc 80 16 j)).trans ((gL_5 (16 + j)).trans (ap16 (t := tL_6) rfl j))
theorem gL_7 (j : Nat) : code.data.toList[112 + j]? = tL_7[j]? := (congrArg (fun n => code.data.toList[n]?) (Nat.add_assoc 96 16 j)).trans ((gL_6 (16 + j)).trans (ap16 (t := tL_7) rfl j))
theorem gL_8 (j : Nat) : code.data.toList[128 + j]? = tL_8[j]? := (congrArg (fun n => code.data.toList[n]?) (Nat.add_assoc 112 16 j)).trans ((gL_7 (16 + j)).trans (ap16 (t := tL_8) rfl j))
theorem gL_9 (j : Nat) : code.data.toList[144 + j]? = tL_9[j]? := (congrArg (fun n => code.data.toList[n]?) (Nat.add_assoc 128 16 j)).trans ((gL_8 (16 + j)).trans (ap16 (t := tL_9) rfl j))
theorem gL_10 (j : Nat) : code.data.toList[160 + j]? = tL_10[j]? := (congrArg (fun n => code.data.toList[n]?) (Nat.add_assoc 144 16 j)).trans ((gL_9 (16 + j)).trans (ap16 (t := tL_10) rfl j))
theorem gL_11 (j : Nat) : code.data.toList[176 + j]? = tL_11[j]? := (congrArg (fun n => code.data.toList[n]?) (Nat.add_assoc 160 16 j)).trans ((gL_10 (16 + j)).trans (ap16 (t := tL_11) rfl j))
theorem gL_12 (j : Nat) : code.data.toList[192 + j]? = tL_12[j]? := (congrArg (fun n => code.data.toList[n]?) (Nat.add_assoc 176 16 j)).trans ((gL_11 (16 + j)).trans (ap16 (t := tL_12) rfl j))
theorem gL_13 (j : Nat) : code.data.toList[208 + j]? = tL_13[j]? := (congrArg (fun n => code.data.toList[n]?) (Nat.add_assoc 192 16 j)).trans ((gL_12 (16 + j)).trans (ap16 (t := tL_13) rfl j))
theorem gL_14 (j : Nat) : code.data.toList[224 + j]? = tL_14[j]? := (congrArg (fun n => code.data.toList[n]?) (Nat.add_assoc 208 16 j)).trans ((gL_13 (16 + j)).trans (ap16 (t := tL_14) rfl j))
theorem gL_15 (j : Nat) : code.data.toList[240 + j]? = tL_15[j]? := (congrArg (fun n => code.data.toList[n]?) (Nat.add_assoc 224 16 j)).trans ((gL_14 (16 + j)).trans (ap16 (t := tL_15) rfl j))
theorem gL_16 (j : Nat) : code.data.toList[256 + j]? = tL_16[j]? := (congrArg (fun n => code.data.toList[n]?) (Nat.add_assoc 240 16 j)).trans ((gL_15 (16 + j)).trans (ap16 (t := tL_16) rfl j))
theorem gL_17 (j : Nat) : code.data.toList[272 + j]? = tL_17[j]? := (congrArg (fun n => code.data.toList[n]?) (Nat.add_assoc 256 16 j)).trans ((gL_16 (16 + j)).trans (ap16 (t := tL_17) rfl j))
theorem gL_18 (j : Nat) : code.data.toList[288 + j]? = tL_18[j]? := (congrArg (fun n => code.data.toList[n]?) (Nat.add_assoc 272 16 j)).trans ((gL_17 (16 + j)).trans (ap16 (t := tL_18) rfl j))
theorem gL_19 (j : Nat) : code.data.toList[304 + j]? = tL_19[j]? := (congrArg (fun n => code.data.toList[n]?) (Nat.add_assoc 288 16 j)).trans ((gL_18 (16 + j)).trans (ap16 (t := tL_19) rfl j))
theorem gL_20 (j : Nat) : code.data.toList[320 + j]? = tL_20[j]? := (congrArg (fun n => code.data.toList[n]?) (Nat.add_assoc 304 16 j)).trans ((gL_19 (16 + j)).trans (ap16 (t := tL_20) rfl j))
theorem gL_21 (j : Nat) : code.data.toList[336 + j]? = tL_21[j]? := (congrArg (fun n => code.data.toList[n]?) (Nat.add_assoc 320 16 j)).trans ((gL_20 (16 + j)).trans (ap16 (t := tL_21) rfl j))
theorem gL_22 (j : Nat) : code.data.toList[352 + j]? = tL_22[j]? := (congrArg (fun n => code.data.toList[n]?) (Nat.add_assoc 336 16 j)).trans ((gL_21 (16 + j)).trans (ap16 (t := tL_22) rfl j))
theorem gL_23 (j : Nat) : code.data.toList[368 + j]? = tL_23[j]? := (congrArg (fun n => code.data.toList[n]?) (Nat.add_assoc 352 16 j)).trans ((gL_22 (16 + j)).trans (ap16 (t := tL_23) rfl j))
theorem gL_24 (j : Nat) : code.data.toList[384 + j]? = tL_24[j]? := (congrArg (fun n => code.data.toList[n]?) (Nat.add_assoc 368 16 j)).trans ((gL_23 (16 + j)).trans (ap16 (t := tL_24) rfl j))
theorem gL_25 (j : Nat) : code.data.toList[400 + j]? = tL_25[j]? := (congrArg (fun n => code.data.toList[n]?) (Nat.add_assoc 384 16 j)).trans ((gL_24 (16 + j)).trans (ap16 (t := tL_25) rfl j))
theorem gL_26 (j : Nat) : code.data.toList[416 + j]? = tL_26[j]? := (congrArg (fun n => code.data.toList[n]?) (Nat.add_assoc 400 16 j)).trans ((gL_25 (16 + j)).trans (ap16 (t := tL_26) rfl j))
theorem gL_27 (j : Nat) : code.data.toList[432 + j]? = tL_27[j]? := (congrArg (fun n => code.data.toList[n]?) (Nat.add_assoc 416 16 j)).trans ((gL_26 (16 + j)).trans (ap16 (t := tL_27) rfl j))
theorem gL_28 (j : Nat) : code.data.toList[448 + j]? = tL_28[j]? := (congrArg (fun n => code.data.toList[n]?) (Nat.add_assoc 432 16 j)).trans ((gL_27 (16 + j)).trans (ap16 (t := tL_28) rfl j))
theorem gL_29 (j : Nat) : code.data.toList[464 + j]? = tL_29[j]? := (congrArg (fun n => code.data.toList[n]?) (Nat.add_assoc 448 16 j)).trans ((gL_28 (16 + j)).trans (ap16 (t := tL_29) rfl j))
theorem gL_30 (j : Nat) : code.data.toList[480 + j]? = tL_30[j]? := (congrArg (fun n => code.data.toList[n]?) (Nat.add_assoc 464 16 j)).trans ((gL_29 (16 + j)).trans (ap16 (t := tL_30) rfl j))
theorem gL_31 (j : Nat) : code.data.toList[496 + j]? = tL_31[j]? := (congrArg (fun n => code.data.toList[n]?) (Nat.add_assoc 480 16 j)).trans ((gL_30 (16 + j)).trans (ap16 (t := tL_31) rfl j))
theorem gL_32 (j : Nat) : code.data.toList[512 + j]? = tL_32[j]? := (congrArg (fun n => code.data.toList[n]?) (Nat.add_assoc 496 16 j)).trans ((gL_31 (16 + j)).trans (ap16 (t := tL_32) rfl j))
theorem gL_33 (j : Nat) : code.data.toList[528 + j]? = tL_33[j]? := (congrArg (fun n => code.data.toList[n]?) (Nat.add_assoc 512 16 j)).trans ((gL_32 (16 + j)).trans (ap16 (t := tL_33) rfl j))
theorem gL_34 (j : Nat) : code.data.toList[544 + j]? = tL_34[j]? := (congrArg (fun n => code.data.toList[n]?) (Nat.add_assoc 528 16 j)).trans ((gL_33 (16 + j)).trans (ap16 (t := tL_34) rfl j))
theorem gL_35 (j : Nat) : code.data.toList[560 + j]? = tL_35[j]? := (congrArg (fun n => code.data.toList[n]?) (Nat.add_assoc 544 16 j)).trans ((gL_34 (16 + j)).trans (ap16 (t := tL_35) rfl j))
theorem gL_36 (j : Nat) : code.data.toList[576 + j]? = tL_36[j]? := (congrArg (fun n => code.data.toList[n]?) (Nat.add_assoc 560 16 j)).trans ((gL_35 (16 + j)).trans (ap16 (t := tL_36) rfl j))
theorem gL_37 (j : Nat) : code.data.toList[592 + j]? = tL_37[j]? := (congrArg (fun n => code.data.toList[n]?) (Nat.add_assoc 576 16 j)).trans ((gL_36 (16 + j)).trans (ap16 (t := tL_37) rfl j))
theorem gL_38 (j : Nat) : code.data.toList[608 + j]? = tL_38[j]? := (congrArg (fun n => code.data.toList[n]?) (Nat.add_assoc 592 16 j)).trans ((gL_37 (16 + j)).trans (ap16 (t := tL_38) rfl j))
theorem gL_39 (j : Nat) : code.data.toList[624 + j]? = tL_39[j]? := (congrArg (fun n => code.data.toList[n]?) (Nat.add_assoc 608 16 j)).trans ((gL_38 (16 + j)).trans (ap16 (t := tL_39) rfl j))
theorem gL_40 (j : Nat) : code.data.toList[640 + j]? = tL_40[j]? := (congrArg (fun n => code.data.toList[n]?) (Nat.add_assoc 624 16 j)).trans ((gL_39 (16 + j)).trans (ap16 (t := tL_40) rfl j))
theorem gL_41 (j : Nat) : code.data.toList[656 + j]? = tL_41[j]? := (congrArg (fun n => code.data.toList[n]?) (Nat.add_assoc 640 16 j)).trans ((gL_40 (16 + j)).trans (ap16 (t := tL_41) rfl j))
theorem gL_42 (j : Nat) : code.data.toList[672 + j]? = tL_42[j]? := (congrArg (fun n => code.data.toList[n]?) (Nat.add_assoc 656 16 j)).trans ((gL_41 (16 + j)).trans (ap16 (t := tL_42) rfl j))
theorem gL_43 (j : Nat) : code.data.toList[688 + j]? = tL_43[j]? := (congrArg (fun n => code.data.toList[n]?) (Nat.add_assoc 672 16 j)).trans ((gL_42 (16 + j)).trans (ap16 (t := tL_43) rfl j))
theorem gL_44 (j : Nat) : code.data.toList[704 + j]? = tL_44[j]? := (congrArg (fun n => code.data.toList[n]?) (Nat.add_assoc 688 16 j)).trans ((gL_43 (16 + j)).trans (ap16 (t := tL_44) rfl j))
theorem gL_45 (j : Nat) : code.data.toList[720 + j]? = tL_45[j]? := (congrArg (fun n => code.data.toList[n]?) (Nat.add_assoc 704 16 j)).trans ((gL_44 (16 + j)).trans (ap16 (t := tL_45) rfl j))
theorem gL_46 (j : Nat) : code.data.toList[736 + j]? = tL_46[j]? := (congrArg (fun n => code.data.toList[n]?) (Nat.add_assoc 720 16 j)).trans ((gL_45 (16 + j)).trans (ap16 (t := tL_46) rfl j))
theorem gL_47 (j : Nat) : code.data.toList[752 + j]? = tL_47[j]? := (congrArg (fun n => code.data.toList[n]?) (Nat.add_assoc 736 16 j)).trans ((gL_46 (16 + j)).trans (ap16 (t := tL_47) rfl j))
theorem gL_48 (j : Nat) : code.data.toList[768 + j]? = tL_48[j]? := (congrArg (fun n => code.data.toList[n]?) (Nat.add_assoc 752 16 j)).trans ((gL_47 (16 + j)).trans (ap16 (t := tL_48) rfl j))
theorem gL_49 (j : Nat) : code.data.toList[784 + j]? = tL_49[j]? := (congrArg (fun n => code.data.toList[n]?) (Nat.add_assoc 768 16 j)).trans ((gL_48 (16 + j)).trans (ap16 (t := tL_49) rfl j))
theorem gL_50 (j : Nat) : code.data.toList[800 + j]? = tL_50[j]? := (congrArg (fun n => code.data.toList[n]?) (Nat.add_assoc 784 16 j)).trans ((gL_49 (16 + j)).trans (ap16 (t := tL_50) rfl j))
theorem gL_51 (j : Nat) : code.data.toList[816 + j]? = tL_51[j]? := (congrArg (fun n => code.data.toList[n]?) (Nat.add_assoc 800 16 j)).trans ((gL_50 (16 + j)).trans (ap16 (t := tL_51) rfl j))
theorem gL_52 (j : Nat) : code.data.toList[832 + j]? = tL_52[j]? := (congrArg (fun n => code.data.toList[n]?) (Nat.add_assoc 816 16 j)).trans ((gL_51 (16 + j)).trans (ap16 (t := tL_52) rfl j))
theorem gL_53 (j : Nat) : code.data.toList[848 + j]? = tL_53[j]? := (congrArg (fun n => code.data.toList[n]?) (Nat.add_assoc 832 16 j)).trans ((gL_52 (16 + j)).trans (ap16 (t := tL_53) rfl j))
theorem gL_54 (j : Nat) : code.data.toList[864 + j]? = tL_54[j]? := (congrArg (fun n => code.data.toList[n]?) (Nat.add_assoc 848 16 j)).trans ((gL_53 (16 + j)).trans (ap16 (t := tL_54) rfl j))
theorem gL_55 (j : Nat) : code.data.toList[880 + j]? = tL_55[j]? := (congrArg (fun n => code.data.toList[n]?) (Nat.add_assoc 864 16 j)).trans ((gL_54 (16 + j)).trans (ap16 (t := tL_55) rfl j))
theorem gL_56 (j : Nat) : code.data.toList[896 + j]? = tL_56[j]? := (congrArg (fun n => code.data.toList[n]?) (Nat.add_assoc 880 16 j)).trans ((gL_55 (16 + j)).trans (ap16 (t := tL_56) rfl j))
theorem gL_57 (j : Nat) : code.data.toList[912 + j]? = tL_57[j]? := (congrArg (fun n => code.data.toList[n]?) (Nat.add_assoc 896 16 j)).trans ((gL_56 (16 + j)).trans (ap16 (t := tL_57) rfl j))
theorem gL_58 (j : Nat) : code.data.toList[928 + j]? = tL_58[j]? := (congrArg (fun n => code.data.toList[n]?) (Nat.add_assoc 912 16 j)).trans ((gL_57 (16 + j)).trans (ap16 (t := tL_58) rfl j))
theorem gL_59 (j : Nat) : code.data.toList[944 + j]? = tL_59[j]? := (congrArg (fun n => code.data.toList[n]?) (Nat.add_assoc 928 16 j)).trans ((gL_58 (16 + j)).trans (ap16 (t := tL_59) rfl j))
theorem gL_60 (j : Nat) : code.data.toList[960 + j]? = tL_60[j]? := (congrArg (fun n => code.data.toList[n]?) (Nat.add_assoc 944 16 j)).trans ((gL_59 (16 + j)).trans (ap16 (t := tL_60) rfl j))
theorem gL_61 (j : Nat) : code.data.toList[976 + j]? = tL_61[j]? := (congrArg (fun n => code.data.toList[n]?) (Nat.add_assoc 960 16 j)).trans ((gL_60 (16 + j)).trans (ap16 (t := tL_61) rfl j))
theorem gL_62 (j : Nat) : code.data.toList[992 + j]? = tL_62[j]? := (congrArg (fun n => code.data.toList[n]?) (Nat.add_assoc 976 16 j)).trans ((gL_61 (16 + j)).trans (ap16 (t := tL_62) rfl j))
theorem gL_63 (j : Nat) : code.data.toList[1008 + j]? = tL_63[j]? := (congrArg (fun n => code.data.toList[n]?) (Nat.add_assoc 992 16 j)).trans ((gL_62 (16 + j)).trans (ap16 (t := tL_63) rfl j))
theorem gL_64 (j : Nat) : code.data.toList[1024 + j]? = tL_64[j]? := (congrArg (fun n => code.data.toList[n]?) (Nat.add_assoc 1008 16 j)).trans ((gL_63 (16 + j)).trans (ap16 (t := tL_64) rfl j))
theorem gL_65 (j : Nat) : code.data.toList[1040 + j]? = tL_65[j]? := (congrArg (fun n => code.data.toList[n]?) (Nat.add_assoc 1024 16 j)).trans ((gL_64 (16 + j)).trans (ap16 (t := tL_65) rfl j))
theorem gL_66 (j : Nat) : code.data.toList[1056 + j]? = tL_66[j]? := (congrArg (fun n => code.data.toList[n]?) (Nat.add_assoc 1040 16 j)).trans ((gL_65 (16 + j)).trans (ap16 (t := tL_66) rfl j))
theorem gL_67 (j : Nat) : code.data.toList[1072 + j]? = tL_67[j]? := (congrArg (fun n => code.data.toList[n]?) (Nat.add_assoc 1056 16 j)).trans ((gL_66 (16 + j)).trans (ap16 (t := tL_67) rfl j))
theorem gL_68 (j : Nat) : code.data.toList[1088 + j]? = tL_68[j]? := (congrArg (fun n => code.data.toList[n]?) (Nat.add_assoc 1072 16 j)).trans ((gL_67 (16 + j)).trans (ap16 (t := tL_68) rfl j))
theorem gL_69 (j : Nat) : code.data.toList[1104 + j]? = tL_69[j]? := (congrArg (fun n => code.data.toList[n]?) (Nat.add_assoc 1088 16 j)).trans ((gL_68 (16 + j)).trans (ap16 (t := tL_69) rfl j))
theorem gL_70 (j : Nat) : code.data.toList[1120 + j]? = tL_70[j]? := (congrArg (fun n => code.data.toList[n]?) (Nat.add_assoc 1104 16 j)).trans ((gL_69 (16 + j)).trans (ap16 (t := tL_70) rfl j))
theorem gL_71 (j : Nat) : code.data.toList[1136 + j]? = tL_71[j]? := (congrArg (fun n => code.data.toList[n]?) (Nat.add_assoc 1120 16 j)).trans ((gL_70 (16 + j)).trans (ap16 (t := tL_71) rfl j))
theorem gL_72 (j : Nat) : code.data.toList[1152 + j]? = tL_72[j]? := (congrArg (fun n => code.data.toList[n]?) (Nat.add_assoc 1136 16 j)).trans ((gL_71 (16 + j)).trans (ap16 (t := tL_72) rfl j))
theorem gL_73 (j : Nat) : code.data.toList[1168 + j]? = tL_73[j]? := (congrArg (fun n => code.data.toList[n]?) (Nat.add_assoc 1152 16 j)).trans ((gL_72 (16 + j)).trans (ap16 (t := tL_73) rfl j))
theorem gL_74 (j : Nat) : code.data.toList[1184 + j]? = tL_74[j]? := (congrArg (fun n => code.data.toList[n]?) (Nat.add_assoc 1168 16 j)).trans ((gL_73 (16 + j)).trans (ap16 (t := tL_74) rfl j))
theorem gL_75 (j : Nat) : code.data.toList[1200 + j]? = tL_75[j]? := (congrArg (fun n => code.data.toList[n]?) (Nat.add_assoc 1184 16 j)).trans ((gL_74 (16 + j)).trans (ap16 (t := tL_75) rfl j))
theorem gL_76 (j : Nat) : code.data.toList[1216 + j]? = tL_76[j]? := (congrArg (fun n => code.data.toList[n]?) (Nat.add_assoc 1200 16 j)).trans ((gL_75 (16 + j)).trans (ap16 (t := tL_76) rfl j))
theorem gL_77 (j : Nat) : code.data.toList[1232 + j]? = tL_77[j]? := (congrArg (fun n => code.data.toList[n]?) (Nat.add_assoc 1216 16 j)).trans ((gL_76 (16 + j)).trans (ap16 (t := tL_77) rfl j))
theorem gL_78 (j : Nat) : code.data.toList[1248 + j]? = tL_78[j]? := (congrArg (fun n => code.data.toList[n]?) (Nat.add_assoc 1232 16 j)).trans ((gL_77 (16 + j)).trans (ap16 (t := tL_78) rfl j))
theorem gL_79 (j : Nat) : code.data.toList[1264 + j]? = tL_79[j]? := (congrArg (fun n => code.data.toList[n]?) (Nat.add_assoc 1248 16 j)).trans ((gL_78 (16 + j)).trans (ap16 (t := tL_79) rfl j))
theorem gL_80 (j : Nat) : code.data.toList[1280 + j]? = tL_80[j]? := (congrArg (fun n => code.data.toList[n]?) (Nat.add_assoc 1264 16 j)).trans ((gL_79 (16 + j)).trans (ap16 (t := tL_80) rfl j))
theorem gL_81 (j : Nat) : code.data.toList[1296 + j]? = tL_81[j]? := (congrArg (fun n => code.data.toList[n]?) (Nat.add_assoc 1280 16 j)).trans ((gL_80 (16 + j)).trans (ap16 (t := tL_81) rfl j))
theorem gL_82 (j : Nat) : code.data.toList[1312 + j]? = tL_82[j]? := (congrArg (fun n => code.data.toList[n]?) (Nat.add_assoc 1296 16 j)).trans ((gL_81 (16 + j)).trans (ap16 (t := tL_82) rfl j))
theorem gL_83 (j : Nat) : code.data.toList[1328 + j]? = tL_83[j]? := (congrArg (fun n => code.data.toList[n]?) (Nat.add_assoc 1312 16 j)).trans ((gL_82 (16 + j)).trans (ap16 (t := tL_83) rfl j))
theorem gL_84 (j : Nat) : code.data.toList[1344 + j]? = tL_84[j]? := (congrArg (fun n => code.data.toList[n]?) (Nat.add_assoc 1328 16 j)).trans ((gL_83 (16 + j)).trans (ap16 (t := tL_84) rfl j))
theorem gL_85 (j : Nat) : code.data.toList[1360 + j]? = tL_85[j]? := (congrArg (fun n => code.data.toList[n]?) (Nat.add_assoc 1344 16 j)).trans ((gL_84 (16 + j)).trans (ap16 (t := tL_85) rfl j))
theorem gL_86 (j : Nat) : code.data.toList[1376 + j]? = tL_86[j]? := (congrArg (fun n => code.data.toList[n]?) (Nat.add_assoc 1360 16 j)).trans ((gL_85 (16 + j)).trans (ap16 (t := tL_86) rfl j))
theorem gL_87 (j : Nat) : code.data.toList[1392 + j]? = tL_87[j]? := (congrArg (fun n => code.data.toList[n]?) (Nat.add_assoc 1376 16 j)).trans ((gL_86 (16 + j)).trans (ap16 (t := tL_87) rfl j))
theorem gL_88 (j : Nat) : code.data.toList[1408 + j]? = tL_88[j]? := (congrArg (fun n => code.data.toList[n]?) (Nat.add_assoc 1392 16 j)).trans ((gL_87 (16 + j)).trans (ap16 (t := tL_88) rfl j))
theorem gL_89 (j : Nat) : code.data.toList[1424 + j]? = tL_89[j]? := (congrArg (fun n => code.data.toList[n]?) (Nat.add_assoc 1408 16 j)).trans ((gL_88 (16 + j)).trans (ap16 (t := tL_89) rfl j))
theorem gL_90 (j : Nat) : code.data.toList[1440 + j]? = tL_90[j]? := (congrArg (fun n => code.data.toList[n]?) (Nat.add_assoc 1424 16 j)).trans ((gL_89 (16 + j)).trans (ap16 (t := tL_90) rfl j))
theorem gL_91 (j : Nat) : code.data.toList[1456 + j]? = tL_91[j]? := (congrArg (fun n => code.data.toList[n]?) (Nat.add_assoc 1440 16 j)).trans ((gL_90 (16 + j)).trans (ap16 (t := tL_91) rfl j))
theorem gL_92 (j : Nat) : code.data.toList[1472 + j]? = tL_92[j]? := (congrArg (fun n => code.data.toList[n]?) (Nat.add_assoc 1456 16 j)).trans ((gL_91 (16 + j)).trans (ap16 (t := tL_92) rfl j))
theorem gL_93 (j : Nat) : code.data.toList[1488 + j]? = tL_93[j]? := (congrArg (fun n => code.data.toList[n]?) (Nat.add_assoc 1472 16 j)).trans ((gL_92 (16 + j)).trans (ap16 (t := tL_93) rfl j))
theorem gL_94 (j : Nat) : code.data.toList[1504 + j]? = tL_94[j]? := (congrArg (fun n => code.data.toList[n]?) (Nat.add_assoc 1488 16 j)).trans ((gL_93 (16 + j)).trans (ap16 (t := tL_94) rfl j))
theorem gL_95 (j : Nat) : code.data.toList[1520 + j]? = tL_95[j]? := (congrArg (fun n => code.data.toList[n]?) (Nat.add_assoc 1504 16 j)).trans ((gL_94 (16 + j)).trans (ap16 (t := tL_95) rfl j))
theorem gL_96 (j : Nat) : code.data.toList[1536 + j]? = tL_96[j]? := (congrArg (fun n => code.data.toList[n]?) (Nat.add_assoc 1520 16 j)).trans ((gL_95 (16 + j)).trans (ap16 (t := tL_96) rfl j))
theorem gL_97 (j : Nat) : code.data.toList[1552 + j]? = tL_97[j]? := (congrArg (fun n => code.data.toList[n]?) (Nat.add_assoc 1536 16 j)).trans ((gL_96 (16 + j)).trans (ap16 (t := tL_97) rfl j))
theorem gL_98 (j : Nat) : code.data.toList[1568 + j]? = tL_98[j]? := (congrArg (fun n => code.data.toList[n]?) (Nat.add_assoc 1552 16 j)).trans ((gL_97 (16 + j)).trans (ap16 (t := tL_98) rfl j))
theorem gL_99 (j : Nat) : code.data.toList[1584 + j]? = tL_99[j]? := (congrArg (fun n => code.data.toList[n]?) (Nat.add_assoc 1568 16 j)).trans ((gL_98 (16 + j)).trans (ap16 (t := tL_99) rfl j))
theorem gL_100 (j : Nat) : code.data.toList[1600 + j]? = tL_100[j]? := (congrArg (fun n => code.data.toList[n]?) (Nat.add_assoc 1584 16 j)).trans ((gL_99 (16 + j)).trans (ap16 (t := tL_100) rfl j))
theorem gL_101 (j : Nat) : code.data.toList[1616 + j]? = tL_101[j]? := (congrArg (fun n => code.data.toList[n]?) (Nat.add_assoc 1600 16 j)).trans ((gL_100 (16 + j)).trans (ap16 (t := tL_101) rfl j))
theorem gL_102 (j : Nat) : code.data.toList[1632 + j]? = tL_102[j]? := (congrArg (fun n => code.data.toList[n]?) (Nat.add_assoc 1616 16 j)).trans ((gL_101 (16 + j)).trans (ap16 (t := tL_102) rfl j))
theorem gL_103 (j : Nat) : code.data.toList[1648 + j]? = tL_103[j]? := (congrArg (fun n => code.data.toList[n]?) (Nat.add_assoc 1632 16 j)).trans ((gL_102 (16 + j)).trans (ap16 (t := tL_103) rfl j))
theorem gL_104 (j : Nat) : code.data.toList[1664 + j]? = tL_104[j]? := (congrArg (fun n => code.data.toList[n]?) (Nat.add_assoc 1648 16 j)).trans ((gL_103 (16 + j)).trans (ap16 (t := tL_104) rfl j))
theorem gL_105 (j : Nat) : code.data.toList[1680 + j]? = tL_105[j]? := (congrArg (fun n => code.data.toList[n]?) (Nat.add_assoc 1664 16 j)).trans ((gL_104 (16 + j)).trans (ap16 (t := tL_105) rfl j))
theorem gL_106 (j : Nat) : code.data.toList[1696 + j]? = tL_106[j]? := (congrArg (fun n => code.data.toList[n]?) (Nat.add_assoc 1680 16 j)).trans ((gL_105 (16 + j)).trans (ap16 (t := tL_106) rfl j))
theorem gL_107 (j : Nat) : code.data.toList[1712 + j]? = tL_107[j]? := (congrArg (fun n => code.data.toList[n]?) (Nat.add_assoc 1696 16 j)).trans ((gL_106 (16 + j)).trans (ap16 (t := tL_107) rfl j))
theorem gL_108 (j : Nat) : code.data.toList[1728 + j]? = tL_108[j]? := (congrArg (fun n => code.data.toList[n]?) (Nat.add_assoc 1712 16 j)).trans ((gL_107 (16 + j)).trans (ap16 (t := tL_108) rfl j))
theorem gL_109 (j : Nat) : code.data.toList[1744 + j]? = tL_109[j]? := (congrArg (fun n => code.data.toList[n]?) (Nat.add_assoc 1728 16 j)).trans ((gL_108 (16 + j)).trans (ap16 (t := tL_109) rfl j))
theorem gL_110 (j : Nat) : code.data.toList[1760 + j]? = tL_110[j]? := (congrArg (fun n => code.data.toList[n]?) (Nat.add_assoc 1744 16 j)).trans ((gL_109 (16 + j)).trans (ap16 (t := tL_110) rfl j))
theorem gL_111 (j : Nat) : code.data.toList[1776 + j]? = tL_111[j]? := (congrArg (fun n => code.data.toList[n]?) (Nat.add_assoc 1760 16 j)).trans ((gL_110 (16 + j)).trans (ap16 (t := tL_111) rfl j))
theorem gL_112 (j : Nat) : code.data.toList[1792 + j]? = tL_112[j]? := (congrArg (fun n => code.data.toList[n]?) (Nat.add_assoc 1776 16 j)).trans ((gL_111 (16 + j)).trans (ap16 (t := tL_112) rfl j))
theorem gL_113 (j : Nat) : code.data.toList[1808 + j]? = tL_113[j]? := (congrArg (fun n => code.data.toList[n]?) (Nat.add_assoc 1792 16 j)).trans ((gL_112 (16 + j)).trans (ap16 (t := tL_113) rfl j))
theorem gL_114 (j : Nat) : code.data.toList[1824 + j]? = tL_114[j]? := (congrArg (fun n => code.data.toList[n]?) (Nat.add_assoc 1808 16 j)).trans ((gL_113 (16 + j)).trans (ap16 (t := tL_114) rfl j))
theorem gL_115 (j : Nat) : code.data.toList[1840 + j]? = tL_115[j]? := (congrArg (fun n => code.data.toList[n]?) (Nat.add_assoc 1824 16 j)).trans ((gL_114 (16 + j)).trans (ap16 (t := tL_115) rfl j))
theorem gL_116 (j : Nat) : code.data.toList[1856 + j]? = tL_116[j]? := (congrArg (fun n => code.data.toList[n]?) (Nat.add_assoc 1840 16 j)).trans ((gL_115 (16 + j)).trans (ap16 (t := tL_116) rfl j))
theorem gL_117 (j : Nat) : code.data.toList[1872 + j]? = tL_117[j]? := (congrArg (fun n => code.data.toList[n]?) (Nat.add_assoc 1856 16 j)).trans ((gL_116 (16 + j)).trans (ap16 (t := tL_117) rfl j))
theorem gL_118 (j : Nat) : code.data.toList[1888 + j]? = tL_118[j]? := (congrArg (fun n => code.data.toList[n]?) (Nat.add_assoc 1872 16 j)).trans ((gL_117 (16 + j)).trans (ap16 (t := tL_118) rfl j))
theorem gL_119 (j : Nat) : code.data.toList[1904 + j]? = tL_119[j]? := (congrArg (fun n => code.data.toList[n]?) (Nat.add_assoc 1888 16 j)).trans ((gL_118 (16 + j)).trans (ap16 (t := tL_119) rfl j))
theorem gL_120 (j : Nat) : code.data.toList[1920 + j]? = tL_120[j]? := (congrArg (fun n => code.data.toList[n]?) (Nat.add_assoc 1904 16 j)).trans ((gL_119 (16 + j)).trans (ap16 (t := tL_120) rfl j))
theorem gL_121 (j : Nat) : code.data.toList[1936 + j]? = tL_121[j]? := (congrArg (fun n => code.data.toList[n]?) (Nat.add_assoc 1920 16 j)).trans ((gL_120 (16 + j)).trans (ap16 (t := tL_121) rfl j))
theorem gL_122 (j : Nat) : code.data.toList[1952 + j]? = tL_122[j]? := (congrArg (fun n => code.data.toList[n]?) (Nat.add_assoc 1936 16 j)).trans ((gL_121 (16 + j)).trans (ap16 (t := tL_122) rfl j))
theorem gL_123 (j : Nat) : code.data.toList[1968 + j]? = tL_123[j]? := (congrArg (fun n => code.data.toList[n]?) (Nat.add_assoc 1952 16 j)).trans ((gL_122 (16 + j)).trans (ap16 (t := tL_123) rfl j))
theorem gL_124 (j : Nat) : code.data.toList[1984 + j]? = tL_124[j]? := (congrArg (fun n => code.data.toList[n]?) (Nat.add_assoc 1968 16 j)).trans ((gL_123 (16 + j)).trans (ap16 (t := tL_124) rfl j))
theorem gL_125 (j : Nat) : code.data.toList[2000 + j]? = tL_125[j]? := (congrArg (fun n => code.data.toList[n]?) (Nat.add_assoc 1984 16 j)).trans ((gL_124 (16 + j)).trans (ap16 (t := tL_125) rfl j))
theorem gL_126 (j : Nat) : code.data.toList[2016 + j]? = tL_126[j]? := (congrArg (fun n => code.data.toList[n]?) (Nat.add_assoc 2000 16 j)).trans ((gL_125 (16 + j)).trans (ap16 (t := tL_126) rfl j))
theorem gL_127 (j : Nat) : code.data.toList[2032 + j]? = tL_127[j]? := (congrArg (fun n => code.data.toList[n]?) (Nat.add_assoc 2016 16 j)).trans ((gL_126 (16 + j)).trans (ap16 (t := tL_127) rfl j))
theorem gL_128 (j : Nat) : code.data.toList[2048 + j]? = tL_128[j]? := (congrArg (fun n => code.data.toList[n]?) (Nat.add_assoc 2032 16 j)).trans ((gL_127 (16 + j)).trans (ap16 (t := tL_128) rfl j))
theorem gL_129 (j : Nat) : code.data.toList[2064 + j]? = tL_129[j]? := (congrArg (fun n => code.data.toList[n]?) (Nat.add_assoc 2048 16 j)).trans ((gL_128 (16 + j)).trans (ap16 (t := tL_129) rfl j))
theorem gL_130 (j : Nat) : code.data.toList[2080 + j]? = tL_130[j]? := (congrArg (fun n => code.data.toList[n]?) (Nat.add_assoc 2064 16 j)).trans ((gL_129 (16 + j)).trans (ap16 (t := tL_130) rfl j))
theorem gL_131 (j : Nat) : code.data.toList[2096 + j]? = tL_131[j]? := (congrArg (fun n => code.data.toList[n]?) (Nat.add_assoc 2080 16 j)).trans ((gL_130 (16 + j)).trans (ap16 (t := tL_131) rfl j))
theorem gL_132 (j : Nat) : code.data.toList[2112 + j]? = tL_132[j]? := (congrArg (fun n => code.data.toList[n]?) (Nat.add_assoc 2096 16 j)).trans ((gL_131 (16 + j)).trans (ap16 (t := tL_132) rfl j))
theorem gL_133 (j : Nat) : code.data.toList[2128 + j]? = tL_133[j]? := (congrArg (fun n => code.data.toList[n]?) (Nat.add_assoc 2112 16 j)).trans ((gL_132 (16 + j)).trans (ap16 (t := tL_133) rfl j))
theorem gL_134 (j : Nat) : code.data.toList[2144 + j]? = tL_134[j]? := (congrArg (fun n => code.data.toList[n]?) (Nat.add_assoc 2128 16 j)).trans ((gL_133 (16 + j)).trans (ap16 (t := tL_134) rfl j))
theorem gL_135 (j : Nat) : code.data.toList[2160 + j]? = tL_135[j]? := (congrArg (fun n => code.data.toList[n]?) (Nat.add_assoc 2144 16 j)).trans ((gL_134 (16 + j)).trans (ap16 (t := tL_135) rfl j))
theorem gL_136 (j : Nat) : code.data.toList[2176 + j]? = tL_136[j]? := (congrArg (fun n => code.data.toList[n]?) (Nat.add_assoc 2160 16 j)).trans ((gL_135 (16 + j)).trans (ap16 (t := tL_136) rfl j))
theorem gL_137 (j : Nat) : code.data.toList[2192 + j]? = tL_137[j]? := (congrArg (fun n => code.data.toList[n]?) (Nat.add_assoc 2176 16 j)).trans ((gL_136 (16 + j)).trans (ap16 (t := tL_137) rfl j))
theorem gL_138 (j : Nat) : code.data.toList[2208 + j]? = tL_138[j]? := (congrArg (fun n => code.data.toList[n]?) (Nat.add_assoc 2192 16 j)).trans ((gL_137 (16 + j)).trans (ap16 (t := tL_138) rfl j))
theorem gL_139 (j : Nat) : code.data.toList[2224 + j]? = tL_139[j]? := (congrArg (fun n => code.data.toList[n]?) (Nat.add_assoc 2208 16 j)).trans ((gL_138 (16 + j)).trans (ap16 (t := tL_139) rfl j))
theorem gL_140 (j : Nat) : code.data.toList[2240 + j]? = tL_140[j]? := (congrArg (fun n => code.data.toList[n]?) (Nat.add_assoc 2224 16 j)).trans ((gL_139 (16 + j)).trans (ap16 (t := tL_140) rfl j))
theorem gL_141 (j : Nat) : code.data.toList[2256 + j]? = tL_141[j]? := (congrArg (fun n => code.data.toList[n]?) (Nat.add_assoc 2240 16 j)).trans ((gL_140 (16 + j)).trans (ap16 (t := tL_141) rfl j))
theorem gL_142 (j : Nat) : code.data.toList[2272 + j]? = tL_142[j]? := (congrArg (fun n => code.data.toList[n]?) (Nat.add_assoc 2256 16 j)).trans ((gL_141 (16 + j)).trans (ap16 (t := tL_142) rfl j))
theorem gL_143 (j : Nat) : code.data.toList[2288 + j]? = tL_143[j]? := (congrArg (fun n => code.data.toList[n]?) (Nat.add_assoc 2272 16 j)).trans ((gL_142 (16 + j)).trans (ap16 (t := tL_143) rfl j))
theorem gL_144 (j : Nat) : code.data.toList[2304 + j]? = tL_144[j]? := (congrArg (fun n => code.data.toList[n]?) (Nat.add_assoc 2288 16 j)).trans ((gL_143 (16 + j)).trans (ap16 (t := tL_144) rfl j))
theorem gL_145 (j : Nat) : code.data.toList[2320 + j]? = tL_145[j]? := (congrArg (fun n => code.data.toList[n]?) (Nat.add_assoc 2304 16 j)).trans ((gL_144 (16 + j)).trans (ap16 (t := tL_145) rfl j))
theorem gL_146 (j : Nat) : code.data.toList[2336 + j]? = tL_146[j]? := (congrArg (fun n => code.data.toList[n]?) (Nat.add_assoc 2320 16 j)).trans ((gL_145 (16 + j)).trans (ap16 (t := tL_146) rfl j))
theorem gL_147 (j : Nat) : code.data.toList[2352 + j]? = tL_147[j]? := (congrArg (fun n => code.data.toList[n]?) (Nat.add_assoc 2336 16 j)).trans ((gL_146 (16 + j)).trans (ap16 (t := tL_147) rfl j))
theorem gL_148 (j : Nat) : code.data.toList[2368 + j]? = tL_148[j]? := (congrArg (fun n => code.data.toList[n]?) (Nat.add_assoc 2352 16 j)).trans ((gL_147 (16 + j)).trans (ap16 (t := tL_148) rfl j))
theorem gL_149 (j : Nat) : code.data.toList[2384 + j]? = tL_149[j]? := (congrArg (fun n => code.data.toList[n]?) (Nat.add_assoc 2368 16 j)).trans ((gL_148 (16 + j)).trans (ap16 (t := tL_149) rfl j))
theorem gL_150 (j : Nat) : code.data.toList[2400 + j]? = tL_150[j]? := (congrArg (fun n => code.data.toList[n]?) (Nat.add_assoc 2384 16 j)).trans ((gL_149 (16 + j)).trans (ap16 (t := tL_150) rfl j))
theorem gL_151 (j : Nat) : code.data.toList[2416 + j]? = tL_151[j]? := (congrArg (fun n => code.data.toList[n]?) (Nat.add_assoc 2400 16 j)).trans ((gL_150 (16 + j)).trans (ap16 (t := tL_151) rfl j))
theorem gL_152 (j : Nat) : code.data.toList[2432 + j]? = tL_152[j]? := (congrArg (fun n => code.data.toList[n]?) (Nat.add_assoc 2416 16 j)).trans ((gL_151 (16 + j)).trans (ap16 (t := tL_152) rfl j))
theorem lb_1 {j : Nat} {b : UInt8} (h : tL_1[j]? = some b) : bat code (16 + j) b := bat_of ((gL_1 j).trans h)
theorem lb_2 {j : Nat} {b : UInt8} (h : tL_2[j]? = some b) : bat code (32 + j) b := bat_of ((gL_2 j).trans h)
theorem lb_19 {j : Nat} {b : UInt8} (h : tL_19[j]? = some b) : bat code (304 + j) b := bat_of ((gL_19 j).trans h)
theorem lb_20 {j : Nat} {b : UInt8} (h : tL_20[j]? = some b) : bat code (320 + j) b := bat_of ((gL_20 j).trans h)
theorem lb_21 {j : Nat} {b : UInt8} (h : tL_21[j]? = some b) : bat code (336 + j) b := bat_of ((gL_21 j).trans h)
theorem lb_22 {j : Nat} {b : UInt8} (h : tL_22[j]? = some b) : bat code (352 + j) b := bat_of ((gL_22 j).trans h)
theorem lb_23 {j : Nat} {b : UInt8} (h : tL_23[j]? = some b) : bat code (368 + j) b := bat_of ((gL_23 j).trans h)
theorem lb_24 {j : Nat} {b : UInt8} (h : tL_24[j]? = some b) : bat code (384 + j) b := bat_of ((gL_24 j).trans h)
theorem lb_25 {j : Nat} {b : UInt8} (h : tL_25[j]? = some b) : bat code (400 + j) b := bat_of ((gL_25 j).trans h)
theorem lb_26 {j : Nat} {b : UInt8} (h : tL_26[j]? = some b) : bat code (416 + j) b := bat_of ((gL_26 j).trans h)
theorem lb_27 {j : Nat} {b : UInt8} (h : tL_27[j]? = some b) : bat code (432 + j) b := bat_of ((gL_27 j).trans h)
theorem lb_28 {j : Nat} {b : UInt8} (h : tL_28[j]? = some b) : bat code (448 + j) b := bat_of ((gL_28 j).trans h)
theorem lb_29 {j : Nat} {b : UInt8} (h : tL_29[j]? = some b) : bat code (464 + j) b := bat_of ((gL_29 j).trans h)
theorem lb_30 {j : Nat} {b : UInt8} (h : tL_30[j]? = some b) : bat code (480 + j) b := bat_of ((gL_30 j).trans h)
theorem lb_31 {j : Nat} {b : UInt8} (h : tL_31[j]? = some b) : bat code (496 + j) b := bat_of ((gL_31 j).trans h)
theorem lb_32 {j : Nat} {b : UInt8} (h : tL_32[j]? = some b) : bat code (512 + j) b := bat_of ((gL_32 j).trans h)
theorem lb_33 {j : Nat} {b : UInt8} (h : tL_33[j]? = some b) : bat code (528 + j) b := bat_of ((gL_33 j).trans h)
theorem lb_34 {j : Nat} {b : UInt8} (h : tL_34[j]? = some b) : bat code (544 + j) b := bat_of ((gL_34 j).trans h)
theorem lb_35 {j : Nat} {b : UInt8} (h : tL_35[j]? = some b) : bat code (560 + j) b := bat_of ((gL_35 j).trans h)
theorem lb_36 {j : Nat} {b : UInt8} (h : tL_36[j]? = some b) : bat code (576 + j) b := bat_of ((gL_36 j).trans h)
theorem lb_37 {j : Nat} {b : UInt8} (h : tL_37[j]? = some b) : bat code (592 + j) b := bat_of ((gL_37 j).trans h)
theorem lb_38 {j : Nat} {b : UInt8} (h : tL_38[j]? = some b) : bat code (608 + j) b := bat_of ((gL_38 j).trans h)
theorem lb_39 {j : Nat} {b : UInt8} (h : tL_39[j]? = some b) : bat code (624 + j) b := bat_of ((gL_39 j).trans h)
theorem lb_40 {j : Nat} {b : UInt8} (h : tL_40[j]? = some b) : bat code (640 + j) b := bat_of ((gL_40 j).trans h)
theorem lb_41 {j : Nat} {b : UInt8} (h : tL_41[j]? = some b) : bat code (656 + j) b := bat_of ((gL_41 j).trans h)
theorem lb_42 {j : Nat} {b : UInt8} (h : tL_42[j]? = some b) : bat code (672 + j) b := bat_of ((gL_42 j).trans h)
theorem lb_43 {j : Nat} {b : UInt8} (h : tL_43[j]? = some b) : bat code (688 + j) b := bat_of ((gL_43 j).trans h)
theorem lb_44 {j : Nat} {b : UInt8} (h : tL_44[j]? = some b) : bat code (704 + j) b := bat_of ((gL_44 j).trans h)
theorem lb_45 {j : Nat} {b : UInt8} (h : tL_45[j]? = some b) : bat code (720 + j) b := bat_of ((gL_45 j).trans h)
theorem lb_46 {j : Nat} {b : UInt8} (h : tL_46[j]? = some b) : bat code (736 + j) b := bat_of ((gL_46 j).trans h)
theorem lb_47 {j : Nat} {b : UInt8} (h : tL_47[j]? = some b) : bat code (752 + j) b := bat_of ((gL_47 j).trans h)
theorem lb_48 {j : Nat} {b : UInt8} (h : tL_48[j]? = some b) : bat code (768 + j) b := bat_of ((gL_48 j).trans h)
theorem lb_49 {j : Nat} {b : UInt8} (h : tL_49[j]? = some b) : bat code (784 + j) b := bat_of ((gL_49 j).trans h)
theorem lb_50 {j : Nat} {b : UInt8} (h : tL_50[j]? = some b) : bat code (800 + j) b := bat_of ((gL_50 j).trans h)
theorem lb_51 {j : Nat} {b : UInt8} (h : tL_51[j]? = some b) : bat code (816 + j) b := bat_of ((gL_51 j).trans h)
theorem lb_52 {j : Nat} {b : UInt8} (h : tL_52[j]? = some b) : bat code (832 + j) b := bat_of ((gL_52 j).trans h)
theorem lb_53 {j : Nat} {b : UInt8} (h : tL_53[j]? = some b) : bat code (848 + j) b := bat_of ((gL_53 j).trans h)
theorem lb_54 {j : Nat} {b : UInt8} (h : tL_54[j]? = some b) : bat code (864 + j) b := bat_of ((gL_54 j).trans h)
theorem lb_55 {j : Nat} {b : UInt8} (h : tL_55[j]? = some b) : bat code (880 + j) b := bat_of ((gL_55 j).trans h)
theorem lb_56 {j : Nat} {b : UInt8} (h : tL_56[j]? = some b) : bat code (896 + j) b := bat_of ((gL_56 j).trans h)
theorem lb_57 {j : Nat} {b : UInt8} (h : tL_57[j]? = some b) : bat code (912 + j) b := bat_of ((gL_57 j).trans h)
theorem lb_58 {j : Nat} {b : UInt8} (h : tL_58[j]? = some b) : bat code (928 + j) b := bat_of ((gL_58 j).trans h)
theorem lb_59 {j : Nat} {b : UInt8} (h : tL_59[j]? = some b) : bat code (944 + j) b := bat_of ((gL_59 j).trans h)
theorem lb_60 {j : Nat} {b : UInt8} (h : tL_60[j]? = some b) : bat code (960 + j) b := bat_of ((gL_60 j).trans h)
theorem lb_61 {j : Nat} {b : UInt8} (h : tL_61[j]? = some b) : bat code (976 + j) b := bat_of ((gL_61 j).trans h)
theorem lb_62 {j : Nat} {b : UInt8} (h : tL_62[j]? = some b) : bat code (992 + j) b := bat_of ((gL_62 j).trans h)
theorem lb_63 {j : Nat} {b : UInt8} (h : tL_63[j]? = some b) : bat code (1008 + j) b := bat_of ((gL_63 j).trans h)
theorem lb_64 {j : Nat} {b : UInt8} (h : tL_64[j]? = some b) : bat code (1024 + j) b := bat_of ((gL_64 j).trans h)
theorem lb_65 {j : Nat} {b : UInt8} (h : tL_65[j]? = some b) : bat code (1040 + j) b := bat_of ((gL_65 j).trans h)
theorem lb_66 {j : Nat} {b : UInt8} (h : tL_66[j]? = some b) : bat code (1056 + j) b := bat_of ((gL_66 j).trans h)
theorem lb_67 {j : Nat} {b : UInt8} (h : tL_67[j]? = some b) : bat code (1072 + j) b := bat_of ((gL_67 j).trans h)
theorem lb_68 {j : Nat} {b : UInt8} (h : tL_68[j]? = some b) : bat code (1088 + j) b := bat_of ((gL_68 j).trans h)
theorem lb_69 {j : Nat} {b : UInt8} (h : tL_69[j]? = some b) : bat code (1104 + j) b := bat_of ((gL_69 j).trans h)
theorem lb_70 {j : Nat} {b : UInt8} (h : tL_70[j]? = some b) : bat code (1120 + j) b := bat_of ((gL_70 j).trans h)
theorem lb_71 {j : Nat} {b : UInt8} (h : tL_71[j]? = some b) : bat code (1136 + j) b := bat_of ((gL_71 j).trans h)
theorem lb_72 {j : Nat} {b : UInt8} (h : tL_72[j]? = some b) : bat code (1152 + j) b := bat_of ((gL_72 j).trans h)
theorem lb_73 {j : Nat} {b : UInt8} (h : tL_73[j]? = some b) : bat code (1168 + j) b := bat_of ((gL_73 j).trans h)
theorem lb_74 {j : Nat} {b : UInt8} (h : tL_74[j]? = some b) : bat code (1184 + j) b := bat_of ((gL_74 j).trans h)
theorem lb_75 {j : Nat} {b : UInt8} (h : tL_75[j]? = some b) : bat code (1200 + j) b := bat_of ((gL_75 j).trans h)
theorem lb_76 {j : Nat} {b : UInt8} (h : tL_76[j]? = some b) : bat code (1216 + j) b := bat_of ((gL_76 j).trans h)
theorem lb_77 {j : Nat} {b : UInt8} (h : tL_77[j]? = some b) : bat code (1232 + j) b := bat_of ((gL_77 j).trans h)
theorem lb_78 {j : Nat} {b : UInt8} (h : tL_78[j]? = some b) : bat code (1248 + j) b := bat_of ((gL_78 j).trans h)
theorem lb_79 {j : Nat} {b : UInt8} (h : tL_79[j]? = some b) : bat code (1264 + j) b := bat_of ((gL_79 j).trans h)
theorem lb_80 {j : Nat} {b : UInt8} (h : tL_80[j]? = some b) : bat code (1280 + j) b := bat_of ((gL_80 j).trans h)
theorem lb_81 {j : Nat} {b : UInt8} (h : tL_81[j]? = some b) : bat code (1296 + j) b := bat_of ((gL_81 j).trans h)
theorem lb_82 {j : Nat} {b : UInt8} (h : tL_82[j]? = some b) : bat code (1312 + j) b := bat_of ((gL_82 j).trans h)
theorem lb_83 {j : Nat} {b : UInt8} (h : tL_83[j]? = some b) : bat code (1328 + j) b := bat_of ((gL_83 j).trans h)
theorem lb_84 {j : Nat} {b : UInt8} (h : tL_84[j]? = some b) : bat code (1344 + j) b := bat_of ((gL_84 j).trans h)
theorem lb_85 {j : Nat} {b : UInt8} (h : tL_85[j]? = some b) : bat code (1360 + j) b := bat_of ((gL_85 j).trans h)
theorem lb_86 {j : Nat} {b : UInt8} (h : tL_86[j]? = some b) : bat code (1376 + j) b := bat_of ((gL_86 j).trans h)
theorem lb_87 {j : Nat} {b : UInt8} (h : tL_87[j]? = some b) : bat code (1392 + j) b := bat_of ((gL_87 j).trans h)
theorem lb_88 {j : Nat} {b : UInt8} (h : tL_88[j]? = some b) : bat code (1408 + j) b := bat_of ((gL_88 j).trans h)
theorem lb_89 {j : Nat} {b : UInt8} (h : tL_89[j]? = some b) : bat code (1424 + j) b := bat_of ((gL_89 j).trans h)
theorem lb_90 {j : Nat} {b : UInt8} (h : tL_90[j]? = some b) : bat code (1440 + j) b := bat_of ((gL_90 j).trans h)
theorem lb_91 {j : Nat} {b : UInt8} (h : tL_91[j]? = some b) : bat code (1456 + j) b := bat_of ((gL_91 j).trans h)
theorem lb_92 {j : Nat} {b : UInt8} (h : tL_92[j]? = some b) : bat code (1472 + j) b := bat_of ((gL_92 j).trans h)
theorem lb_93 {j : Nat} {b : UInt8} (h : tL_93[j]? = some b) : bat code (1488 + j) b := bat_of ((gL_93 j).trans h)
theorem lb_94 {j : Nat} {b : UInt8} (h : tL_94[j]? = some b) : bat code (1504 + j) b := bat_of ((gL_94 j).trans h)
theorem lb_95 {j : Nat} {b : UInt8} (h : tL_95[j]? = some b) : bat code (1520 + j) b := bat_of ((gL_95 j).trans h)
theorem lb_96 {j : Nat} {b : UInt8} (h : tL_96[j]? = some b) : bat code (1536 + j) b := bat_of ((gL_96 j).trans h)
theorem lb_97 {j : Nat} {b : UInt8} (h : tL_97[j]? = some b) : bat code (1552 + j) b := bat_of ((gL_97 j).trans h)
theorem lb_98 {j : Nat} {b : UInt8} (h : tL_98[j]? = some b) : bat code (1568 + j) b := bat_of ((gL_98 j).trans h)
theorem lb_99 {j : Nat} {b : UInt8} (h : tL_99[j]? = some b) : bat code (1584 + j) b := bat_of ((gL_99 j).trans h)
theorem lb_100 {j : Nat} {b : UInt8} (h : tL_100[j]? = some b) : bat code (1600 + j) b := bat_of ((gL_100 j).trans h)
theorem lb_101 {j : Nat} {b : UInt8} (h : tL_101[j]? = some b) : bat code (1616 + j) b := bat_of ((gL_101 j).trans h)
theorem lb_102 {j : Nat} {b : UInt8} (h : tL_102[j]? = some b) : bat code (1632 + j) b := bat_of ((gL_102 j).trans h)
theorem lb_103 {j : Nat} {b : UInt8} (h : tL_103[j]? = some b) : bat code (1648 + j) b := bat_of ((gL_103 j).trans h)
theorem lb_104 {j : Nat} {b : UInt8} (h : tL_104[j]? = some b) : bat code (1664 + j) b := bat_of ((gL_104 j).trans h)
theorem lb_105 {j : Nat} {b : UInt8} (h : tL_105[j]? = some b) : bat code (1680 + j) b := bat_of ((gL_105 j).trans h)
theorem lb_106 {j : Nat} {b : UInt8} (h : tL_106[j]? = some b) : bat code (1696 + j) b := bat_of ((gL_106 j).trans h)
theorem lb_107 {j : Nat} {b : UInt8} (h : tL_107[j]? = some b) : bat code (1712 + j) b := bat_of ((gL_107 j).trans h)
theorem lb_108 {j : Nat} {b : UInt8} (h : tL_108[j]? = some b) : bat code (1728 + j) b := bat_of ((gL_108 j).trans h)
theorem lb_109 {j : Nat} {b : UInt8} (h : tL_109[j]? = some b) : bat code (1744 + j) b := bat_of ((gL_109 j).trans h)
theorem lb_110 {j : Nat} {b : UInt8} (h : tL_110[j]? = some b) : bat code (1760 + j) b := bat_of ((gL_110 j).trans h)
theorem lb_111 {j : Nat} {b : UInt8} (h : tL_111[j]? = some b) : bat code (1776 + j) b := bat_of ((gL_111 j).trans h)
theorem lb_112 {j : Nat} {b : UInt8} (h : tL_112[j]? = some b) : bat code (1792 + j) b := bat_of ((gL_112 j).trans h)
theorem lb_113 {j : Nat} {b : UInt8} (h : tL_113[j]? = some b) : bat code (1808 + j) b := bat_of ((gL_113 j).trans h)
theorem lb_114 {j : Nat} {b : UInt8} (h : tL_114[j]? = some b) : bat code (1824 + j) b := bat_of ((gL_114 j).trans h)
theorem lb_115 {j : Nat} {b : UInt8} (h : tL_115[j]? = some b) : bat code (1840 + j) b := bat_of ((gL_115 j).trans h)
theorem lb_116 {j : Nat} {b : UInt8} (h : tL_116[j]? = some b) : bat code (1856 + j) b := bat_of ((gL_116 j).trans h)
theorem lb_117 {j : Nat} {b : UInt8} (h : tL_117[j]? = some b) : bat code (1872 + j) b := bat_of ((gL_117 j).trans h)
theorem lb_118 {j : Nat} {b : UInt8} (h : tL_118[j]? = some b) : bat code (1888 + j) b := bat_of ((gL_118 j).trans h)
theorem lb_119 {j : Nat} {b : UInt8} (h : tL_119[j]? = some b) : bat code (1904 + j) b := bat_of ((gL_119 j).trans h)
theorem lb_120 {j : Nat} {b : UInt8} (h : tL_120[j]? = some b) : bat code (1920 + j) b := bat_of ((gL_120 j).trans h)
theorem lb_121 {j : Nat} {b : UInt8} (h : tL_121[j]? = some b) : bat code (1936 + j) b := bat_of ((gL_121 j).trans h)
theorem lb_122 {j : Nat} {b : UInt8} (h : tL_122[j]? = some b) : bat code (1952 + j) b := bat_of ((gL_122 j).trans h)
theorem lb_123 {j : Nat} {b : UInt8} (h : tL_123[j]? = some b) : bat code (1968 + j) b := bat_of ((gL_123 j).trans h)
theorem lb_124 {j : Nat} {b : UInt8} (h : tL_124[j]? = some b) : bat code (1984 + j) b := bat_of ((gL_124 j).trans h)
theorem lb_125 {j : Nat} {b : UInt8} (h : tL_125[j]? = some b) : bat code (2000 + j) b := bat_of ((gL_125 j).trans h)
theorem lb_126 {j : Nat} {b : UInt8} (h : tL_126[j]? = some b) : bat code (2016 + j) b := bat_of ((gL_126 j).trans h)
theorem lb_127 {j : Nat} {b : UInt8} (h : tL_127[j]? = some b) : bat code (2032 + j) b := bat_of ((gL_127 j).trans h)
theorem lb_128 {j : Nat} {b : UInt8} (h : tL_128[j]? = some b) : bat code (2048 + j) b := bat_of ((gL_128 j).trans h)
theorem lb_129 {j : Nat} {b : UInt8} (h : tL_129[j]? = some b) : bat code (2064 + j) b := bat_of ((gL_129 j).trans h)
theorem lb_130 {j : Nat} {b : UInt8} (h : tL_130[j]? = some b) : bat code (2080 + j) b := bat_of ((gL_130 j).trans h)
theorem lb_131 {j : Nat} {b : UInt8} (h : tL_131[j]? = some b) : bat code (2096 + j) b := bat_of ((gL_131 j).trans h)
theorem lb_132 {j : Nat} {b : UInt8} (h : tL_132[j]? = some b) : bat code (2112 + j) b := bat_of ((gL_132 j).trans h)
theorem lb_133 {j : Nat} {b : UInt8} (h : tL_133[j]? = some b) : bat code (2128 + j) b := bat_of ((gL_133 j).trans h)
theorem lb_134 {j : Nat} {b : UInt8} (h : tL_134[j]? = some b) : bat code (2144 + j) b := bat_of ((gL_134 j).trans h)
theorem lb_135 {j : Nat} {b : UInt8} (h : tL_135[j]? = some b) : bat code (2160 + j) b := bat_of ((gL_135 j).trans h)
theorem lb_136 {j : Nat} {b : UInt8} (h : tL_136[j]? = some b) : bat code (2176 + j) b := bat_of ((gL_136 j).trans h)
theorem lb_137 {j : Nat} {b : UInt8} (h : tL_137[j]? = some b) : bat code (2192 + j) b := bat_of ((gL_137 j).trans h)
theorem lb_138 {j : Nat} {b : UInt8} (h : tL_138[j]? = some b) : bat code (2208 + j) b := bat_of ((gL_138 j).trans h)
theorem lb_139 {j : Nat} {b : UInt8} (h : tL_139[j]? = some b) : bat code (2224 + j) b := bat_of ((gL_139 j).trans h)
theorem lb_140 {j : Nat} {b : UInt8} (h : tL_140[j]? = some b) : bat code (2240 + j) b := bat_of ((gL_140 j).trans h)
theorem lb_141 {j : Nat} {b : UInt8} (h : tL_141[j]? = some b) : bat code (2256 + j) b := bat_of ((gL_141 j).trans h)
theorem lb_142 {j : Nat} {b : UInt8} (h : tL_142[j]? = some b) : bat code (2272 + j) b := bat_of ((gL_142 j).trans h)
theorem lb_143 {j : Nat} {b : UInt8} (h : tL_143[j]? = some b) : bat code (2288 + j) b := bat_of ((gL_143 j).trans h)
theorem lb_144 {j : Nat} {b : UInt8} (h : tL_144[j]? = some b) : bat code (2304 + j) b := bat_of ((gL_144 j).trans h)
theorem lb_145 {j : Nat} {b : UInt8} (h : tL_145[j]? = some b) : bat code (2320 + j) b := bat_of ((gL_145 j).trans h)
theorem lb_146 {j : Nat} {b : UInt8} (h : tL_146[j]? = some b) : bat code (2336 + j) b := bat_of ((gL_146 j).trans h)
theorem lb_147 {j : Nat} {b : UInt8} (h : tL_147[j]? = some b) : bat code (2352 + j) b := bat_of ((gL_147 j).trans h)
theorem lb_148 {j : Nat} {b : UInt8} (h : tL_148[j]? = some b) : bat code (2368 + j) b := bat_of ((gL_148 j).trans h)
theorem lb_149 {j : Nat} {b : UInt8} (h : tL_149[j]? = some b) : bat code (2384 + j) b := bat_of ((gL_149 j).trans h)
theorem lb_150 {j : Nat} {b : UInt8} (h : tL_150[j]? = some b) : bat code (2400 + j) b := bat_of ((gL_150 j).trans h)
theorem lb_151 {j : Nat} {b : UInt8} (h : tL_151[j]? = some b) : bat code (2416 + j) b := bat_of ((gL_151 j).trans h)
theorem lb_152 {j : Nat} {b : UInt8} (h : tL_152[j]? = some b) : bat code (2432 + j) b := bat_of ((gL_152 j).trans h)
end
section
/-! 17a.arm0.lean.txt -/
theorem lg_cmp_rf (x : Int64) : lg_cmp x x = 0 := by
  unfold lg_cmp
  rw [if_neg (show ¬ x > x from Int64.lt_irrefl), if_pos rfl]
theorem gl_in {ws : List Cond} (as : List (Nat × Nat)) (h : t_chk ws as = true) (g : ws.all goodWord = true) : ∀ w ∈ ws, w ∈ lw_tbl ∧ goodWord w = true := fun w hw => ⟨t_of ws as h w hw, List.all_eq_true.mp g w hw⟩
def vnz (x : Int32) : Int32 := if x = 0 then 0 else 1
theorem vnz_r (x : Int32) : 0 ≤ (vnz x).toInt ∧ (vnz x).toInt ≤ 1 := by
  unfold vnz
  split <;> decide
theorem dL_law_316 : decode cL_law 316 = .ok (.aload_n 1, 1) := de_43 (lb_19 (j := 12) (b := 43) rfl)
theorem dL_law_317 : decode cL_law 317 = .ok (.aload_n 0, 1) := de_42 (lb_19 (j := 13) (b := 42) rfl)
theorem dL_law_318 : decode cL_law 318 = .ok (.iload 5, 2) := de_21 (lb_19 (j := 14) (b := 21) rfl) (lb_19 (j := 15) (b := 5) rfl) rfl
theorem dL_law_320 : decode cL_law 320 = .ok (.iconst 1, 1) := de_4 (lb_20 (j := 0) (b := 4) rfl)
theorem dL_law_321 : decode cL_law 321 = .ok (.iadd, 1) := de_96 (lb_20 (j := 1) (b := 96) rfl)
theorem dL_law_322 : decode cL_law 322 = .ok (.iaload, 1) := de_46 (lb_20 (j := 2) (b := 46) rfl)
theorem dL_law_323 : decode cL_law 323 = .ok (.aload_n 0, 1) := de_42 (lb_20 (j := 3) (b := 42) rfl)
theorem dL_law_324 : decode cL_law 324 = .ok (.iload 5, 2) := de_21 (lb_20 (j := 4) (b := 21) rfl) (lb_20 (j := 5) (b := 5) rfl) rfl
theorem dL_law_326 : decode cL_law 326 = .ok (.iconst 2, 1) := de_5 (lb_20 (j := 6) (b := 5) rfl)
theorem dL_law_327 : decode cL_law 327 = .ok (.iadd, 1) := de_96 (lb_20 (j := 7) (b := 96) rfl)
theorem dL_law_328 : decode cL_law 328 = .ok (.iaload, 1) := de_46 (lb_20 (j := 8) (b := 46) rfl)
theorem dL_law_329 : decode cL_law 329 = .ok (.aload_n 0, 1) := de_42 (lb_20 (j := 9) (b := 42) rfl)
theorem dL_law_330 : decode cL_law 330 = .ok (.iload 5, 2) := de_21 (lb_20 (j := 10) (b := 21) rfl) (lb_20 (j := 11) (b := 5) rfl) rfl
theorem dL_law_332 : decode cL_law 332 = .ok (.iconst 3, 1) := de_6 (lb_20 (j := 12) (b := 6) rfl)
theorem dL_law_333 : decode cL_law 333 = .ok (.iadd, 1) := de_96 (lb_20 (j := 13) (b := 96) rfl)
theorem dL_law_334 : decode cL_law 334 = .ok (.iaload, 1) := de_46 (lb_20 (j := 14) (b := 46) rfl)
theorem dL_law_335 : decode cL_law 335 = .ok (.aload_n 0, 1) := de_42 (lb_20 (j := 15) (b := 42) rfl)
theorem dL_law_336 : decode cL_law 336 = .ok (.iload 5, 2) := de_21 (lb_21 (j := 0) (b := 21) rfl) (lb_21 (j := 1) (b := 5) rfl) rfl
theorem dL_law_338 : decode cL_law 338 = .ok (.iconst 4, 1) := de_7 (lb_21 (j := 2) (b := 7) rfl)
theorem dL_law_339 : decode cL_law 339 = .ok (.iadd, 1) := de_96 (lb_21 (j := 3) (b := 96) rfl)
theorem dL_law_340 : decode cL_law 340 = .ok (.iaload, 1) := de_46 (lb_21 (j := 4) (b := 46) rfl)
theorem dL_law_341 : decode cL_law 341 = .ok (.aload_n 0, 1) := de_42 (lb_21 (j := 5) (b := 42) rfl)
theorem dL_law_342 : decode cL_law 342 = .ok (.iload 5, 2) := de_21 (lb_21 (j := 6) (b := 21) rfl) (lb_21 (j := 7) (b := 5) rfl) rfl
theorem dL_law_344 : decode cL_law 344 = .ok (.iconst 5, 1) := de_8 (lb_21 (j := 8) (b := 8) rfl)
theorem dL_law_345 : decode cL_law 345 = .ok (.iadd, 1) := de_96 (lb_21 (j := 9) (b := 96) rfl)
theorem dL_law_346 : decode cL_law 346 = .ok (.iaload, 1) := de_46 (lb_21 (j := 10) (b := 46) rfl)
theorem dL_law_347 : decode cL_law 347 = .ok (.invokevirtual 193, 3) := de_182 (lb_21 (j := 11) (b := 182) rfl) (lb_21 (j := 12) (b := 0) rfl) (lb_21 (j := 13) (b := 193) rfl) rfl
theorem dL_law_350 : decode cL_law 350 = .ok (.pop, 1) := de_87 (lb_21 (j := 14) (b := 87) rfl)
theorem dL_law_351 : decode cL_law 351 = .ok (.aload_n 2, 1) := de_44 (lb_21 (j := 15) (b := 44) rfl)
theorem dL_law_352 : decode cL_law 352 = .ok (.aload_n 0, 1) := de_42 (lb_22 (j := 0) (b := 42) rfl)
theorem dL_law_353 : decode cL_law 353 = .ok (.iload 5, 2) := de_21 (lb_22 (j := 1) (b := 21) rfl) (lb_22 (j := 2) (b := 5) rfl) rfl
theorem dL_law_355 : decode cL_law 355 = .ok (.iconst 1, 1) := de_4 (lb_22 (j := 3) (b := 4) rfl)
theorem dL_law_356 : decode cL_law 356 = .ok (.iadd, 1) := de_96 (lb_22 (j := 4) (b := 96) rfl)
theorem dL_law_357 : decode cL_law 357 = .ok (.iaload, 1) := de_46 (lb_22 (j := 5) (b := 46) rfl)
theorem dL_law_358 : decode cL_law 358 = .ok (.aload_n 0, 1) := de_42 (lb_22 (j := 6) (b := 42) rfl)
theorem dL_law_359 : decode cL_law 359 = .ok (.iload 5, 2) := de_21 (lb_22 (j := 7) (b := 21) rfl) (lb_22 (j := 8) (b := 5) rfl) rfl
theorem dL_law_361 : decode cL_law 361 = .ok (.iconst 2, 1) := de_5 (lb_22 (j := 9) (b := 5) rfl)
theorem dL_law_362 : decode cL_law 362 = .ok (.iadd, 1) := de_96 (lb_22 (j := 10) (b := 96) rfl)
theorem dL_law_363 : decode cL_law 363 = .ok (.iaload, 1) := de_46 (lb_22 (j := 11) (b := 46) rfl)
theorem dL_law_364 : decode cL_law 364 = .ok (.aload_n 0, 1) := de_42 (lb_22 (j := 12) (b := 42) rfl)
theorem dL_law_365 : decode cL_law 365 = .ok (.iload 5, 2) := de_21 (lb_22 (j := 13) (b := 21) rfl) (lb_22 (j := 14) (b := 5) rfl) rfl
theorem dL_law_367 : decode cL_law 367 = .ok (.iconst 3, 1) := de_6 (lb_22 (j := 15) (b := 6) rfl)
theorem dL_law_368 : decode cL_law 368 = .ok (.iadd, 1) := de_96 (lb_23 (j := 0) (b := 96) rfl)
theorem dL_law_369 : decode cL_law 369 = .ok (.iaload, 1) := de_46 (lb_23 (j := 1) (b := 46) rfl)
theorem dL_law_370 : decode cL_law 370 = .ok (.aload_n 0, 1) := de_42 (lb_23 (j := 2) (b := 42) rfl)
theorem dL_law_371 : decode cL_law 371 = .ok (.iload 5, 2) := de_21 (lb_23 (j := 3) (b := 21) rfl) (lb_23 (j := 4) (b := 5) rfl) rfl
theorem dL_law_373 : decode cL_law 373 = .ok (.iconst 4, 1) := de_7 (lb_23 (j := 5) (b := 7) rfl)
theorem dL_law_374 : decode cL_law 374 = .ok (.iadd, 1) := de_96 (lb_23 (j := 6) (b := 96) rfl)
theorem dL_law_375 : decode cL_law 375 = .ok (.iaload, 1) := de_46 (lb_23 (j := 7) (b := 46) rfl)
theorem dL_law_376 : decode cL_law 376 = .ok (.aload_n 0, 1) := de_42 (lb_23 (j := 8) (b := 42) rfl)
theorem dL_law_377 : decode cL_law 377 = .ok (.iload 5, 2) := de_21 (lb_23 (j := 9) (b := 21) rfl) (lb_23 (j := 10) (b := 5) rfl) rfl
theorem dL_law_379 : decode cL_law 379 = .ok (.iconst 5, 1) := de_8 (lb_23 (j := 11) (b := 8) rfl)
theorem dL_law_380 : decode cL_law 380 = .ok (.iadd, 1) := de_96 (lb_23 (j := 12) (b := 96) rfl)
theorem dL_law_381 : decode cL_law 381 = .ok (.iaload, 1) := de_46 (lb_23 (j := 13) (b := 46) rfl)
theorem dL_law_382 : decode cL_law 382 = .ok (.invokevirtual 197, 3) := de_182 (lb_23 (j := 14) (b := 182) rfl) (lb_23 (j := 15) (b := 0) rfl) (lb_24 (j := 0) (b := 197) rfl) rfl
theorem dL_law_385 : decode cL_law 385 = .ok (.pop, 1) := de_87 (lb_24 (j := 1) (b := 87) rfl)
theorem dL_law_386 : decode cL_law 386 = .ok (.goto 2053, 3) := de_167 (lb_24 (j := 2) (b := 167) rfl) (lb_24 (j := 3) (b := 8) rfl) (lb_24 (j := 4) (b := 5) rfl) (by decide +kernel)
theorem dL_law_389 : decode cL_law 389 = .ok (.aload_n 1, 1) := de_43 (lb_24 (j := 5) (b := 43) rfl)
theorem dL_law_390 : decode cL_law 390 = .ok (.aload_n 0, 1) := de_42 (lb_24 (j := 6) (b := 42) rfl)
theorem dL_law_391 : decode cL_law 391 = .ok (.iload 5, 2) := de_21 (lb_24 (j := 7) (b := 21) rfl) (lb_24 (j := 8) (b := 5) rfl) rfl
theorem dL_law_393 : decode cL_law 393 = .ok (.iconst 1, 1) := de_4 (lb_24 (j := 9) (b := 4) rfl)
theorem dL_law_394 : decode cL_law 394 = .ok (.iadd, 1) := de_96 (lb_24 (j := 10) (b := 96) rfl)
theorem dL_law_395 : decode cL_law 395 = .ok (.iaload, 1) := de_46 (lb_24 (j := 11) (b := 46) rfl)
theorem dL_law_396 : decode cL_law 396 = .ok (.aload_n 3, 1) := de_45 (lb_24 (j := 12) (b := 45) rfl)
theorem dL_law_397 : decode cL_law 397 = .ok (.invokestatic 198, 3) := de_184 (lb_24 (j := 13) (b := 184) rfl) (lb_24 (j := 14) (b := 0) rfl) (lb_24 (j := 15) (b := 198) rfl) rfl
theorem dL_law_400 : decode cL_law 400 = .ok (.istore 6, 2) := de_54 (lb_25 (j := 0) (b := 54) rfl) (lb_25 (j := 1) (b := 6) rfl) rfl
theorem dL_law_402 : decode cL_law 402 = .ok (.aload_n 2, 1) := de_44 (lb_25 (j := 2) (b := 44) rfl)
theorem dL_law_403 : decode cL_law 403 = .ok (.aload_n 0, 1) := de_42 (lb_25 (j := 3) (b := 42) rfl)
theorem dL_law_404 : decode cL_law 404 = .ok (.iload 5, 2) := de_21 (lb_25 (j := 4) (b := 21) rfl) (lb_25 (j := 5) (b := 5) rfl) rfl
theorem dL_law_406 : decode cL_law 406 = .ok (.iconst 1, 1) := de_4 (lb_25 (j := 6) (b := 4) rfl)
theorem dL_law_407 : decode cL_law 407 = .ok (.iadd, 1) := de_96 (lb_25 (j := 7) (b := 96) rfl)
theorem dL_law_408 : decode cL_law 408 = .ok (.iaload, 1) := de_46 (lb_25 (j := 8) (b := 46) rfl)
theorem dL_law_409 : decode cL_law 409 = .ok (.invokevirtual 203, 3) := de_182 (lb_25 (j := 9) (b := 182) rfl) (lb_25 (j := 10) (b := 0) rfl) (lb_25 (j := 11) (b := 203) rfl) rfl
theorem dL_law_412 : decode cL_law 412 = .ok (.istore 7, 2) := de_54 (lb_25 (j := 12) (b := 54) rfl) (lb_25 (j := 13) (b := 7) rfl) rfl
theorem dL_law_414 : decode cL_law 414 = .ok (.goto 2025, 3) := de_167 (lb_25 (j := 14) (b := 167) rfl) (lb_25 (j := 15) (b := 7) rfl) (lb_26 (j := 0) (b := 233) rfl) (by decide +kernel)
theorem dL_law_417 : decode cL_law 417 = .ok (.aload_n 1, 1) := de_43 (lb_26 (j := 1) (b := 43) rfl)
theorem dL_law_418 : decode cL_law 418 = .ok (.invokevirtual 204, 3) := de_182 (lb_26 (j := 2) (b := 182) rfl) (lb_26 (j := 3) (b := 0) rfl) (lb_26 (j := 4) (b := 204) rfl) rfl
theorem dL_law_421 : decode cL_law 421 = .ok (.pop, 1) := de_87 (lb_26 (j := 5) (b := 87) rfl)
theorem dL_law_422 : decode cL_law 422 = .ok (.aload_n 2, 1) := de_44 (lb_26 (j := 6) (b := 44) rfl)
theorem dL_law_423 : decode cL_law 423 = .ok (.invokevirtual 207, 3) := de_182 (lb_26 (j := 7) (b := 182) rfl) (lb_26 (j := 8) (b := 0) rfl) (lb_26 (j := 9) (b := 207) rfl) rfl
theorem dL_law_426 : decode cL_law 426 = .ok (.pop, 1) := de_87 (lb_26 (j := 10) (b := 87) rfl)
theorem dL_law_427 : decode cL_law 427 = .ok (.goto 2012, 3) := de_167 (lb_26 (j := 11) (b := 167) rfl) (lb_26 (j := 12) (b := 7) rfl) (lb_26 (j := 13) (b := 220) rfl) (by decide +kernel)
theorem dL_law_430 : decode cL_law 430 = .ok (.aload_n 1, 1) := de_43 (lb_26 (j := 14) (b := 43) rfl)
theorem dL_law_431 : decode cL_law 431 = .ok (.invokevirtual 208, 3) := de_182 (lb_26 (j := 15) (b := 182) rfl) (lb_27 (j := 0) (b := 0) rfl) (lb_27 (j := 1) (b := 208) rfl) rfl
theorem dL_law_434 : decode cL_law 434 = .ok (.pop, 1) := de_87 (lb_27 (j := 2) (b := 87) rfl)
theorem dL_law_435 : decode cL_law 435 = .ok (.aload_n 2, 1) := de_44 (lb_27 (j := 3) (b := 44) rfl)
theorem dL_law_436 : decode cL_law 436 = .ok (.invokevirtual 211, 3) := de_182 (lb_27 (j := 4) (b := 182) rfl) (lb_27 (j := 5) (b := 0) rfl) (lb_27 (j := 6) (b := 211) rfl) rfl
theorem dL_law_439 : decode cL_law 439 = .ok (.pop, 1) := de_87 (lb_27 (j := 7) (b := 87) rfl)
theorem dL_law_440 : decode cL_law 440 = .ok (.goto 1999, 3) := de_167 (lb_27 (j := 8) (b := 167) rfl) (lb_27 (j := 9) (b := 7) rfl) (lb_27 (j := 10) (b := 207) rfl) (by decide +kernel)
theorem dL_law_443 : decode cL_law 443 = .ok (.aload_n 1, 1) := de_43 (lb_27 (j := 11) (b := 43) rfl)
theorem dL_law_444 : decode cL_law 444 = .ok (.invokevirtual 212, 3) := de_182 (lb_27 (j := 12) (b := 182) rfl) (lb_27 (j := 13) (b := 0) rfl) (lb_27 (j := 14) (b := 212) rfl) rfl
theorem dL_law_447 : decode cL_law 447 = .ok (.pop, 1) := de_87 (lb_27 (j := 15) (b := 87) rfl)
theorem dL_law_448 : decode cL_law 448 = .ok (.aload_n 2, 1) := de_44 (lb_28 (j := 0) (b := 44) rfl)
theorem dL_law_449 : decode cL_law 449 = .ok (.invokevirtual 215, 3) := de_182 (lb_28 (j := 1) (b := 182) rfl) (lb_28 (j := 2) (b := 0) rfl) (lb_28 (j := 3) (b := 215) rfl) rfl
theorem dL_law_452 : decode cL_law 452 = .ok (.pop, 1) := de_87 (lb_28 (j := 4) (b := 87) rfl)
theorem dL_law_453 : decode cL_law 453 = .ok (.goto 1986, 3) := de_167 (lb_28 (j := 5) (b := 167) rfl) (lb_28 (j := 6) (b := 7) rfl) (lb_28 (j := 7) (b := 194) rfl) (by decide +kernel)
theorem dL_law_456 : decode cL_law 456 = .ok (.aload_n 1, 1) := de_43 (lb_28 (j := 8) (b := 43) rfl)
theorem dL_law_457 : decode cL_law 457 = .ok (.invokevirtual 216, 3) := de_182 (lb_28 (j := 9) (b := 182) rfl) (lb_28 (j := 10) (b := 0) rfl) (lb_28 (j := 11) (b := 216) rfl) rfl
theorem dL_law_460 : decode cL_law 460 = .ok (.pop, 1) := de_87 (lb_28 (j := 12) (b := 87) rfl)
theorem dL_law_461 : decode cL_law 461 = .ok (.aload_n 2, 1) := de_44 (lb_28 (j := 13) (b := 44) rfl)
theorem dL_law_462 : decode cL_law 462 = .ok (.invokevirtual 219, 3) := de_182 (lb_28 (j := 14) (b := 182) rfl) (lb_28 (j := 15) (b := 0) rfl) (lb_29 (j := 0) (b := 219) rfl) rfl
theorem dL_law_465 : decode cL_law 465 = .ok (.pop, 1) := de_87 (lb_29 (j := 1) (b := 87) rfl)
theorem dL_law_466 : decode cL_law 466 = .ok (.goto 1973, 3) := de_167 (lb_29 (j := 2) (b := 167) rfl) (lb_29 (j := 3) (b := 7) rfl) (lb_29 (j := 4) (b := 181) rfl) (by decide +kernel)
theorem dL_law_469 : decode cL_law 469 = .ok (.aload_n 1, 1) := de_43 (lb_29 (j := 5) (b := 43) rfl)
theorem dL_law_470 : decode cL_law 470 = .ok (.aload_n 0, 1) := de_42 (lb_29 (j := 6) (b := 42) rfl)
theorem dL_law_471 : decode cL_law 471 = .ok (.iload 5, 2) := de_21 (lb_29 (j := 7) (b := 21) rfl) (lb_29 (j := 8) (b := 5) rfl) rfl
theorem dL_law_473 : decode cL_law 473 = .ok (.iconst 1, 1) := de_4 (lb_29 (j := 9) (b := 4) rfl)
theorem dL_law_474 : decode cL_law 474 = .ok (.iadd, 1) := de_96 (lb_29 (j := 10) (b := 96) rfl)
theorem dL_law_475 : decode cL_law 475 = .ok (.iaload, 1) := de_46 (lb_29 (j := 11) (b := 46) rfl)
theorem dL_law_476 : decode cL_law 476 = .ok (.aload_n 0, 1) := de_42 (lb_29 (j := 12) (b := 42) rfl)
theorem dL_law_477 : decode cL_law 477 = .ok (.iload 5, 2) := de_21 (lb_29 (j := 13) (b := 21) rfl) (lb_29 (j := 14) (b := 5) rfl) rfl
theorem dL_law_479 : decode cL_law 479 = .ok (.iconst 2, 1) := de_5 (lb_29 (j := 15) (b := 5) rfl)
theorem dL_law_480 : decode cL_law 480 = .ok (.iadd, 1) := de_96 (lb_30 (j := 0) (b := 96) rfl)
theorem dL_law_481 : decode cL_law 481 = .ok (.iaload, 1) := de_46 (lb_30 (j := 1) (b := 46) rfl)
theorem dL_law_482 : decode cL_law 482 = .ok (.aload_n 3, 1) := de_45 (lb_30 (j := 2) (b := 45) rfl)
theorem dL_law_483 : decode cL_law 483 = .ok (.invokestatic 220, 3) := de_184 (lb_30 (j := 3) (b := 184) rfl) (lb_30 (j := 4) (b := 0) rfl) (lb_30 (j := 5) (b := 220) rfl) rfl
theorem dL_law_486 : decode cL_law 486 = .ok (.istore 6, 2) := de_54 (lb_30 (j := 6) (b := 54) rfl) (lb_30 (j := 7) (b := 6) rfl) rfl
theorem dL_law_488 : decode cL_law 488 = .ok (.aload_n 2, 1) := de_44 (lb_30 (j := 8) (b := 44) rfl)
theorem dL_law_489 : decode cL_law 489 = .ok (.aload_n 0, 1) := de_42 (lb_30 (j := 9) (b := 42) rfl)
theorem dL_law_490 : decode cL_law 490 = .ok (.iload 5, 2) := de_21 (lb_30 (j := 10) (b := 21) rfl) (lb_30 (j := 11) (b := 5) rfl) rfl
theorem dL_law_492 : decode cL_law 492 = .ok (.iconst 1, 1) := de_4 (lb_30 (j := 12) (b := 4) rfl)
theorem dL_law_493 : decode cL_law 493 = .ok (.iadd, 1) := de_96 (lb_30 (j := 13) (b := 96) rfl)
theorem dL_law_494 : decode cL_law 494 = .ok (.iaload, 1) := de_46 (lb_30 (j := 14) (b := 46) rfl)
theorem dL_law_495 : decode cL_law 495 = .ok (.aload_n 0, 1) := de_42 (lb_30 (j := 15) (b := 42) rfl)
theorem dL_law_496 : decode cL_law 496 = .ok (.iload 5, 2) := de_21 (lb_31 (j := 0) (b := 21) rfl) (lb_31 (j := 1) (b := 5) rfl) rfl
theorem dL_law_498 : decode cL_law 498 = .ok (.iconst 2, 1) := de_5 (lb_31 (j := 2) (b := 5) rfl)
theorem dL_law_499 : decode cL_law 499 = .ok (.iadd, 1) := de_96 (lb_31 (j := 3) (b := 96) rfl)
theorem dL_law_500 : decode cL_law 500 = .ok (.iaload, 1) := de_46 (lb_31 (j := 4) (b := 46) rfl)
theorem dL_law_501 : decode cL_law 501 = .ok (.invokevirtual 223, 3) := de_182 (lb_31 (j := 5) (b := 182) rfl) (lb_31 (j := 6) (b := 0) rfl) (lb_31 (j := 7) (b := 223) rfl) rfl
theorem dL_law_504 : decode cL_law 504 = .ok (.istore 7, 2) := de_54 (lb_31 (j := 8) (b := 54) rfl) (lb_31 (j := 9) (b := 7) rfl) rfl
theorem dL_law_506 : decode cL_law 506 = .ok (.goto 1933, 3) := de_167 (lb_31 (j := 10) (b := 167) rfl) (lb_31 (j := 11) (b := 7) rfl) (lb_31 (j := 12) (b := 141) rfl) (by decide +kernel)
theorem dL_law_509 : decode cL_law 509 = .ok (.aload_n 1, 1) := de_43 (lb_31 (j := 13) (b := 43) rfl)
theorem dL_law_510 : decode cL_law 510 = .ok (.aload_n 0, 1) := de_42 (lb_31 (j := 14) (b := 42) rfl)
theorem dL_law_511 : decode cL_law 511 = .ok (.iload 5, 2) := de_21 (lb_31 (j := 15) (b := 21) rfl) (lb_32 (j := 0) (b := 5) rfl) rfl
theorem dL_law_513 : decode cL_law 513 = .ok (.iconst 1, 1) := de_4 (lb_32 (j := 1) (b := 4) rfl)
theorem dL_law_514 : decode cL_law 514 = .ok (.iadd, 1) := de_96 (lb_32 (j := 2) (b := 96) rfl)
theorem dL_law_515 : decode cL_law 515 = .ok (.iaload, 1) := de_46 (lb_32 (j := 3) (b := 46) rfl)
theorem dL_law_516 : decode cL_law 516 = .ok (.aload_n 3, 1) := de_45 (lb_32 (j := 4) (b := 45) rfl)
theorem dL_law_517 : decode cL_law 517 = .ok (.invokestatic 224, 3) := de_184 (lb_32 (j := 5) (b := 184) rfl) (lb_32 (j := 6) (b := 0) rfl) (lb_32 (j := 7) (b := 224) rfl) rfl
theorem dL_law_520 : decode cL_law 520 = .ok (.istore 6, 2) := de_54 (lb_32 (j := 8) (b := 54) rfl) (lb_32 (j := 9) (b := 6) rfl) rfl
theorem dL_law_522 : decode cL_law 522 = .ok (.aload_n 2, 1) := de_44 (lb_32 (j := 10) (b := 44) rfl)
theorem dL_law_523 : decode cL_law 523 = .ok (.aload_n 0, 1) := de_42 (lb_32 (j := 11) (b := 42) rfl)
theorem dL_law_524 : decode cL_law 524 = .ok (.iload 5, 2) := de_21 (lb_32 (j := 12) (b := 21) rfl) (lb_32 (j := 13) (b := 5) rfl) rfl
theorem dL_law_526 : decode cL_law 526 = .ok (.iconst 1, 1) := de_4 (lb_32 (j := 14) (b := 4) rfl)
theorem dL_law_527 : decode cL_law 527 = .ok (.iadd, 1) := de_96 (lb_32 (j := 15) (b := 96) rfl)
theorem dL_law_528 : decode cL_law 528 = .ok (.iaload, 1) := de_46 (lb_33 (j := 0) (b := 46) rfl)
theorem dL_law_529 : decode cL_law 529 = .ok (.invokevirtual 226, 3) := de_182 (lb_33 (j := 1) (b := 182) rfl) (lb_33 (j := 2) (b := 0) rfl) (lb_33 (j := 3) (b := 226) rfl) rfl
theorem dL_law_532 : decode cL_law 532 = .ok (.istore 7, 2) := de_54 (lb_33 (j := 4) (b := 54) rfl) (lb_33 (j := 5) (b := 7) rfl) rfl
theorem dL_law_534 : decode cL_law 534 = .ok (.goto 1905, 3) := de_167 (lb_33 (j := 6) (b := 167) rfl) (lb_33 (j := 7) (b := 7) rfl) (lb_33 (j := 8) (b := 113) rfl) (by decide +kernel)
set_option maxHeartbeats 4000000 in
set_option maxRecDepth 100000 in
theorem y_a0 {p : Program} {e : Env} {s : State} {m : MethodId} {below : List Frame} {meth : Method} {c : Code} (l : Launch) (hst : l.stackTraces = false) {b L : Nat} {xs : Nat → Int32} (hx : p.tables.exec = Jvm.exec) (hb : c.code = code) (hml : c.maxLocals = 9) (hown : s.vm.findClass RL = some m.cls) (hts : ∀ w ∈ lw_tbl, w.before #[Value.ref b] s = true) (hX0 : va_X b L xs s s.heap) (hbl : b < s.heap.size) (hX : xT (fun q => s.heap.size ≤ q) s) (hN : nC s) (hTS : sAll s.heap.size s) {D : va_G} {cI cJ cZ cMic cSrc cSt cAI cAJ cD : ClassId} (hK : va_K D vwCl (CT cI cJ cZ cMic cSrc cSt cAI cAJ ++ [(cD, .double)]) s) {Q : State → Prop} {i j : Nat} (hi : i + 6 ≤ L) (hL : L ≤ 3072) (hj : j < 512) {aj ae : Nat} {ad am : Nat → Nat} {T : AT} {Sm : MS} {f : Nat → Int64} {g : Nat → UInt64} {ls : Array Slot} {H : Heap} {locs : List Loc} (hV : IV aR0 1586 aK1 aK2 T) (hrc : RC T) (hJ : JJ Sm) (G : gL cI cJ cZ cMic cSrc cSt cAI cAJ D ad (fun q => s.heap.size ≤ q) s.heap H locs T (oJ aj cJ f :: oD ae cD g :: MW cI cJ cZ am Sm)) (hl : lv_has ls 9 [(5, .int (nI i)), (4, .ref ae), (3, .ref aj), (2, .ref (am 0)), (1, .ref (ad 0)), (0, .ref b)]) (kk : ∀ {r1 : Int32} {T1 : AT} {r2 : Int32} {S1 : MS} (ad2 : Nat → Nat) (f1 : Nat → Int64) (g1 : Nat → UInt64) (H1 : Heap) (locs1 : List Loc) (ls1 : Array Slot), g_X11_append T 0 (xs (i + 1)) (xs (i + 2)) (xs (i + 3)) (xs (i + 4)) (xs (i + 5)) = some (r1, T1) → fr_append Sm (xs (i + 1)) (xs (i + 2)) (xs (i + 3)) (xs (i + 4)) (xs (i + 5)) = some (r2, S1) → ad2 0 = ad 0 → IV aR0 1586 aK1 aK2 T1 → RC T1 → JJ S1 → gL cI cJ cZ cMic cSrc cSt cAI cAJ D ad2 (fun q => s.heap.size ≤ q) s.heap H1 locs1 T1 (oJ aj cJ f1 :: oD ae cD g1 :: MW cI cJ cZ am S1) → lv_has ls1 9 [(5, .int (nI i)), (4, .ref ae), (3, .ref aj), (2, .ref (am 0)), (1, .ref (ad2 0)), (0, .ref b)] → W p l e room_1 s m #[Value.ref b] below meth c H1 locs1 (19 + T1.1 + (j + 1)) (38467 + sg T1 + 6 * (j + 1)) Q (F0 m 2439 ls1 [])) : W p l e room_1 s m #[Value.ref b] below meth c H locs (19 + T.1 + j) (38467 + sg T + 6 * j) Q (F0 m 316 ls []) := by
  have E : cE p c cL_law s m #[Value.ref b] lw_tbl D RL (CT cI cJ cZ cMic cSrc cSt cAI cAJ ++ [(cD, .double)]) := ⟨hx, hb, hts, hown, hK⟩
  have hA : ∀ q : Nat, s.heap.size ≤ q → s.heap.size ≤ q := fun _ h => h
  have h0T : 0 < T.1 := Nat.lt_of_lt_of_le (by decide) hV.1.2.2
  have h0s : T.2.1 0 = (11, 0) := hV.2.1 0 ⟨by decide, by decide +kernel, by decide +kernel⟩
  refine lv_aload_n hx hb dL_law_316 rfl (lv_at hl 4 rfl) ?_
  refine lv_aload_n hx hb dL_law_317 rfl (lv_at hl 5 rfl) ?_
  refine lv_iload hx hb dL_law_318 (lv_at hl 0 rfl) ?_
  refine lv_iconst (v := 1) hx hb dL_law_320 (by decide) ?_
  refine lv_iadd hx hb dL_law_321 ?_
  refine lv_to (y := nI (i + 1)) (nI_add i 1) ?_
  refine va_sld hx hb hX0 hbl (Nat.not_le.mpr hbl) G.2.2 (i := nI (i + 1)) (vp_in_nI (n := i + 1) (N := L) (by omega) (by omega)) dL_law_322 ?_
  refine lv_to (y := xs (i + 1)) (congrArg xs (nI_clamp (by omega))) ?_
  refine lv_aload_n hx hb dL_law_323 rfl (lv_at hl 5 rfl) ?_
  refine lv_iload hx hb dL_law_324 (lv_at hl 0 rfl) ?_
  refine lv_iconst (v := 2) hx hb dL_law_326 (by decide) ?_
  refine lv_iadd hx hb dL_law_327 ?_
  refine lv_to (y := nI (i + 2)) (nI_add i 2) ?_
  refine va_sld hx hb hX0 hbl (Nat.not_le.mpr hbl) G.2.2 (i := nI (i + 2)) (vp_in_nI (n := i + 2) (N := L) (by omega) (by omega)) dL_law_328 ?_
  refine lv_to (y := xs (i + 2)) (congrArg xs (nI_clamp (by omega))) ?_
  refine lv_aload_n hx hb dL_law_329 rfl (lv_at hl 5 rfl) ?_
  refine lv_iload hx hb dL_law_330 (lv_at hl 0 rfl) ?_
  refine lv_iconst (v := 3) hx hb dL_law_332 (by decide) ?_
  refine lv_iadd hx hb dL_law_333 ?_
  refine lv_to (y := nI (i + 3)) (nI_add i 3) ?_
  refine va_sld hx hb hX0 hbl (Nat.not_le.mpr hbl) G.2.2 (i := nI (i + 3)) (vp_in_nI (n := i + 3) (N := L) (by omega) (by omega)) dL_law_334 ?_
  refine lv_to (y := xs (i + 3)) (congrArg xs (nI_clamp (by omega))) ?_
  refine lv_aload_n hx hb dL_law_335 rfl (lv_at hl 5 rfl) ?_
  refine lv_iload hx hb dL_law_336 (lv_at hl 0 rfl) ?_
  refine lv_iconst (v := 4) hx hb dL_law_338 (by decide) ?_
  refine lv_iadd hx hb dL_law_339 ?_
  refine lv_to (y := nI (i + 4)) (nI_add i 4) ?_
  refine va_sld hx hb hX0 hbl (Nat.not_le.mpr hbl) G.2.2 (i := nI (i + 4)) (vp_in_nI (n := i + 4) (N := L) (by omega) (by omega)) dL_law_340 ?_
  refine lv_to (y := xs (i + 4)) (congrArg xs (nI_clamp (by omega))) ?_
  refine lv_aload_n hx hb dL_law_341 rfl (lv_at hl 5 rfl) ?_
  refine lv_iload hx hb dL_law_342 (lv_at hl 0 rfl) ?_
  refine lv_iconst (v := 5) hx hb dL_law_344 (by decide) ?_
  refine lv_iadd hx hb dL_law_345 ?_
  refine lv_to (y := nI (i + 5)) (nI_add i 5) ?_
  refine va_sld hx hb hX0 hbl (Nat.not_le.mpr hbl) G.2.2 (i := nI (i + 5)) (vp_in_nI (n := i + 5) (N := L) (by omega) (by omega)) dL_law_346 ?_
  refine lv_to (y := xs (i + 5)) (congrArg xs (nI_clamp (by omega))) ?_
  obtain ⟨⟨r1, T1⟩, hg, hc⟩ := cs_X11_append T 0 (xs (i + 1)) (xs (i + 2)) (xs (i + 3)) (xs (i + 4)) (xs (i + 5)) hV (by decide +kernel)
  have hV1 : IV aR0 1586 aK1 aK2 T1 := hc.1.1
  have hg1 := (gl_sp (s_X11_append hg))
  have hg2 := sg_le hg1
  have hg3 := hg1.1
  have hk := hV1.2.2.2.2.2.2
  have hrc1 := hg1.2.2 hrc
  have hr0 := a_room
  refine t_cvi (As := [.int (xs (i + 1)), .int (xs (i + 2)), .int (xs (i + 3)), .int (xs (i + 4)), .int (xs (i + 5))]) (rest := []) E G hA hX hX.2.2.2.1 hml (u_X11_append l hst D cI cJ cZ cMic cSrc cSt cAI cAJ ad T 0 (xs (i + 1)) (xs (i + 2)) (xs (i + 3)) (xs (i + 4)) (xs (i + 5)) hg) (cwV 5 hts (glA (L := [Cond.methodLink RL 193 yX11_append, Cond.instanceMethod yX11_append, Cond.selects RX11 yX11_append yX11_append, Cond.initialized RX11]) (gl_in [(3, 48), (3, 49), (3, 50), (1, 1)] (by decide +kernel) (by decide +kernel)) ⟨(t_of [Cond.code yX11_append cX11_append 6 (some .int)] [(3, 51)] (by decide +kernel) _ List.mem_cons_self), List.all_eq_true.mp (by decide +kernel : [Cond.code yX11_append cX11_append 6 (some .int)].all goodWord = true) _ List.mem_cons_self⟩) rfl rfl rfl (by decide +kernel) ⟨Nat.le_of_ble_eq_true rfl, Nat.le_of_ble_eq_true rfl⟩) h0T (cc_o11 h0s) rfl rfl hl.1 rfl (lv_room (Nat.le_of_ble_eq_true rfl)) dL_law_347 ⟨by show _ ≤ 601024; omega, by show _ ≤ 7293034; omega⟩ ?_
  intro r9 T9 H locs hp G
  obtain ⟨hr9, hS1⟩ := hp
  rw [hS1] at G
  refine lv_to (y := r1) hr9 ?_
  refine lv_pop hx hb dL_law_350 rfl ?_
  refine lv_aload_n hx hb dL_law_351 rfl (lv_at hl 3 rfl) ?_
  refine lv_aload_n hx hb dL_law_352 rfl (lv_at hl 5 rfl) ?_
  refine lv_iload hx hb dL_law_353 (lv_at hl 0 rfl) ?_
  refine lv_iconst (v := 1) hx hb dL_law_355 (by decide) ?_
  refine lv_iadd hx hb dL_law_356 ?_
  refine lv_to (y := nI (i + 1)) (nI_add i 1) ?_
  refine va_sld hx hb hX0 hbl (Nat.not_le.mpr hbl) G.2.2 (i := nI (i + 1)) (vp_in_nI (n := i + 1) (N := L) (by omega) (by omega)) dL_law_357 ?_
  refine lv_to (y := xs (i + 1)) (congrArg xs (nI_clamp (by omega))) ?_
  refine lv_aload_n hx hb dL_law_358 rfl (lv_at hl 5 rfl) ?_
  refine lv_iload hx hb dL_law_359 (lv_at hl 0 rfl) ?_
  refine lv_iconst (v := 2) hx hb dL_law_361 (by decide) ?_
  refine lv_iadd hx hb dL_law_362 ?_
  refine lv_to (y := nI (i + 2)) (nI_add i 2) ?_
  refine va_sld hx hb hX0 hbl (Nat.not_le.mpr hbl) G.2.2 (i := nI (i + 2)) (vp_in_nI (n := i + 2) (N := L) (by omega) (by omega)) dL_law_363 ?_
  refine lv_to (y := xs (i + 2)) (congrArg xs (nI_clamp (by omega))) ?_
  refine lv_aload_n hx hb dL_law_364 rfl (lv_at hl 5 rfl) ?_
  refine lv_iload hx hb dL_law_365 (lv_at hl 0 rfl) ?_
  refine lv_iconst (v := 3) hx hb dL_law_367 (by decide) ?_
  refine lv_iadd hx hb dL_law_368 ?_
  refine lv_to (y := nI (i + 3)) (nI_add i 3) ?_
  refine va_sld hx hb hX0 hbl (Nat.not_le.mpr hbl) G.2.2 (i := nI (i + 3)) (vp_in_nI (n := i + 3) (N := L) (by omega) (by omega)) dL_law_369 ?_
  refine lv_to (y := xs (i + 3)) (congrArg xs (nI_clamp (by omega))) ?_
  refine lv_aload_n hx hb dL_law_370 rfl (lv_at hl 5 rfl) ?_
  refine lv_iload hx hb dL_law_371 (lv_at hl 0 rfl) ?_
  refine lv_iconst (v := 4) hx hb dL_law_373 (by decide) ?_
  refine lv_iadd hx hb dL_law_374 ?_
  refine lv_to (y := nI (i + 4)) (nI_add i 4) ?_
  refine va_sld hx hb hX0 hbl (Nat.not_le.mpr hbl) G.2.2 (i := nI (i + 4)) (vp_in_nI (n := i + 4) (N := L) (by omega) (by omega)) dL_law_375 ?_
  refine lv_to (y := xs (i + 4)) (congrArg xs (nI_clamp (by omega))) ?_
  refine lv_aload_n hx hb dL_law_376 rfl (lv_at hl 5 rfl) ?_
  refine lv_iload hx hb dL_law_377 (lv_at hl 0 rfl) ?_
  refine lv_iconst (v := 5) hx hb dL_law_379 (by decide) ?_
  refine lv_iadd hx hb dL_law_380 ?_
  refine lv_to (y := nI (i + 5)) (nI_add i 5) ?_
  refine va_sld hx hb hX0 hbl (Nat.not_le.mpr hbl) G.2.2 (i := nI (i + 5)) (vp_in_nI (n := i + 5) (N := L) (by omega) (by omega)) dL_law_381 ?_
  refine lv_to (y := xs (i + 5)) (congrArg xs (nI_clamp (by omega))) ?_
  obtain ⟨⟨r2, S1⟩, hf, hj⟩ := sj_append Sm (xs (i + 1)) (xs (i + 2)) (xs (i + 3)) (xs (i + 4)) (xs (i + 5)) hJ
  have hJ1 : JJ S1 := hj.1
  refine y_mi (As := [.int (xs (i + 1)), .int (xs (i + 2)), .int (xs (i + 3)), .int (xs (i + 4)), .int (xs (i + 5))]) (rest := []) E G hA hX.2.2.2.2 hml (tr_append l D cI cJ cZ am Sm (xs (i + 1)) (xs (i + 2)) (xs (i + 3)) (xs (i + 4)) (xs (i + 5)) hf) (cwV 5 hts (glM (L := [Cond.methodLink RL 197 yX12_append, Cond.instanceMethod yX12_append, Cond.selects RX12 yX12_append yX12_append, Cond.initialized RX12]) (gl_in [(8, 69), (8, 70), (8, 71), (1, 14)] (by decide +kernel) (by decide +kernel)) ⟨(t_of [Cond.code yX12_append cX12_append 6 (some .int)] [(8, 72)] (by decide +kernel) _ List.mem_cons_self), List.all_eq_true.mp (by decide +kernel : [Cond.code yX12_append cX12_append 6 (some .int)].all goodWord = true) _ List.mem_cons_self⟩) rfl rfl rfl (by decide +kernel) ⟨Nat.le_of_ble_eq_true rfl, Nat.le_of_ble_eq_true rfl⟩) rfl hl.1 rfl (lv_room (Nat.le_of_ble_eq_true rfl)) dL_law_382 ⟨by show _ ≤ 601024; omega, by show _ ≤ 7293034; omega⟩ (fun H locs G => ?_)
  refine lv_pop hx hb dL_law_385 rfl ?_
  refine lv_goto (tgt := 2439) hx hb dL_law_386 (by decide) ?_
  refine W.widen (k := 19 + T1.1 + (j + 1)) (n := 38467 + sg T1 + 6 * (j + 1)) (by omega) (by omega) ?_
  exact kk ad f g H locs ls hg hf rfl hV1 hrc1 hJ1 G hl
set_option maxHeartbeats 4000000 in
set_option maxRecDepth 100000 in
theorem y_a1 {p : Program} {e : Env} {s : State} {m : MethodId} {below : List Frame} {meth : Method} {c : Code} (l : Launch) (hst : l.stackTraces = false) {b L : Nat} {xs : Nat → Int32} (hx : p.tables.exec = Jvm.exec) (hb : c.code = code) (hml : c.maxLocals = 9) (hown : s.vm.findClass RL = some m.cls) (hts : ∀ w ∈ lw_tbl, w.before #[Value.ref b] s = true) (hX0 : va_X b L xs s s.heap) (hbl : b < s.heap.size) (hX : xT (fun q => s.heap.size ≤ q) s) (hN : nC s) (hTS : sAll s.heap.size s) {D : va_G} {cI cJ cZ cMic cSrc cSt cAI cAJ cD : ClassId} (hK : va_K D vwCl (CT cI cJ cZ cMic cSrc cSt cAI cAJ ++ [(cD, .double)]) s) {Q : State → Prop} {i j : Nat} (hi : i + 6 ≤ L) (hL : L ≤ 3072) (hj : j < 512) {aj ae : Nat} {ad am : Nat → Nat} {T : AT} {Sm : MS} {f : Nat → Int64} {g : Nat → UInt64} {ls : Array Slot} {H : Heap} {locs : List Loc} (hV : IV aR0 1586 aK1 aK2 T) (hrc : RC T) (hJ : JJ Sm) (G : gL cI cJ cZ cMic cSrc cSt cAI cAJ D ad (fun q => s.heap.size ≤ q) s.heap H locs T (oJ aj cJ f :: oD ae cD g :: MW cI cJ cZ am Sm)) (hl : lv_has ls 9 [(5, .int (nI i)), (4, .ref ae), (3, .ref aj), (2, .ref (am 0)), (1, .ref (ad 0)), (0, .ref b)]) (kk : ∀ {k1 : Nat} {r1 : Int32} {T1 : AT} {r2 : Int32} {S1 : MS} (ad2 : Nat → Nat) (f1 : Nat → Int64) (g1 : Nat → UInt64) (H1 : Heap) (locs1 : List Loc) (ls1 : Array Slot), g_X11_load T 0 (xs (i + 1)) = some (k1, r1, T1) → fr_load Sm (xs (i + 1)) = some (r2, S1) → ad2 0 = ad 0 → IV aR0 1586 aK1 aK2 T1 → RC T1 → JJ S1 → gL cI cJ cZ cMic cSrc cSt cAI cAJ D ad2 (fun q => s.heap.size ≤ q) s.heap H1 locs1 T1 (oJ aj cJ f1 :: oD ae cD g1 :: MW cI cJ cZ am S1) → lv_has ls1 9 [(5, .int (nI i)), (4, .ref ae), (3, .ref aj), (2, .ref (am 0)), (1, .ref (ad2 0)), (0, .ref b)] → W p l e room_1 s m #[Value.ref b] below meth c H1 locs1 (19 + T1.1 + (j + 1)) (38467 + sg T1 + 6 * (j + 1)) Q (F0 m 2439 ls1 [])) : W p l e room_1 s m #[Value.ref b] below meth c H locs (19 + T.1 + j) (38467 + sg T + 6 * j) Q (F0 m 389 ls []) := by
  have E : cE p c cL_law s m #[Value.ref b] lw_tbl D RL (CT cI cJ cZ cMic cSrc cSt cAI cAJ ++ [(cD, .double)]) := ⟨hx, hb, hts, hown, hK⟩
  have hA : ∀ q : Nat, s.heap.size ≤ q → s.heap.size ≤ q := fun _ h => h
  have h0T : 0 < T.1 := Nat.lt_of_lt_of_le (by decide) hV.1.2.2
  have h0s : T.2.1 0 = (11, 0) := hV.2.1 0 ⟨by decide, by decide +kernel, by decide +kernel⟩
  refine lv_aload_n hx hb dL_law_389 rfl (lv_at hl 4 rfl) ?_
  refine lv_aload_n hx hb dL_law_390 rfl (lv_at hl 5 rfl) ?_
  refine lv_iload hx hb dL_law_391 (lv_at hl 0 rfl) ?_
  refine lv_iconst (v := 1) hx hb dL_law_393 (by decide) ?_
  refine lv_iadd hx hb dL_law_394 ?_
  refine lv_to (y := nI (i + 1)) (nI_add i 1) ?_
  refine va_sld hx hb hX0 hbl (Nat.not_le.mpr hbl) G.2.2 (i := nI (i + 1)) (vp_in_nI (n := i + 1) (N := L) (by omega) (by omega)) dL_law_395 ?_
  refine lv_to (y := xs (i + 1)) (congrArg xs (nI_clamp (by omega))) ?_
  refine lv_aload_n hx hb dL_law_396 rfl (lv_at hl 2 rfl) ?_
  obtain ⟨⟨k1, r1, T1⟩, hg, hc⟩ := cs_X11_load T 0 (xs (i + 1)) hV (by decide +kernel)
  have hV1 : IV aR0 1586 aK1 aK2 T1 := hc.1.1
  have hg1 := s_X11_load hg
  have hg2 := sg_le hg1
  have hg3 := hg1.1
  have hk := hV1.2.2.2.2.2.2
  have hrc1 := hg1.2.2 hrc
  have hr0 := a_room
  refine l_v (h0 := s.heap.size) (As := [.ref (ad 0), .int (xs (i + 1)), .ref aj]) (rest := []) E G hA hX hN (fun _ h => h) hTS hml (v_load l hst D s.heap.size ad T 0 (xs (i + 1)) aj f hg hrc h0T h0s) (vx_cwSW 3 hts (glA (L := [Cond.methodLink RL 198 yL_load, Cond.static yL_load, Cond.initialized RL]) (gl_in [(3, 92), (3, 93), (1, 0)] (by decide +kernel) (by decide +kernel)) ⟨(t_of [Cond.codeWith yL_load cL_load 4 (some .int) [(0, 9, 12, 13), (0, 9, 15, 15)]] [(3, 94)] (by decide +kernel) _ List.mem_cons_self), List.all_eq_true.mp (by decide +kernel : [Cond.codeWith yL_load cL_load 4 (some .int) [(0, 9, 12, 13), (0, 9, 15, 15)]].all goodWord = true) _ List.mem_cons_self⟩) rfl rfl rfl (by decide +kernel) ⟨Nat.le_of_ble_eq_true rfl, Nat.le_of_ble_eq_true rfl⟩) rfl hl.1 rfl (lv_room (Nat.le_of_ble_eq_true rfl)) dL_law_397 ⟨by show _ ≤ 601024; omega, by show _ ≤ 7293034; omega⟩ ?_
  intro ad2 H locs had G
  rw [← had 0 h0T] at hl
  refine lv_istore (lv' := [(6, .int (vck 0 1 2 k1)), (5, .int (nI i)), (4, .ref ae), (3, .ref aj), (2, .ref (am 0)), (1, .ref (ad2 0)), (0, .ref b)]) hx hb dL_law_400 hl (by decide) rfl (fun ls hl => ?_)
  refine lv_aload_n hx hb dL_law_402 rfl (lv_at hl 4 rfl) ?_
  refine lv_aload_n hx hb dL_law_403 rfl (lv_at hl 6 rfl) ?_
  refine lv_iload hx hb dL_law_404 (lv_at hl 1 rfl) ?_
  refine lv_iconst (v := 1) hx hb dL_law_406 (by decide) ?_
  refine lv_iadd hx hb dL_law_407 ?_
  refine lv_to (y := nI (i + 1)) (nI_add i 1) ?_
  refine va_sld hx hb hX0 hbl (Nat.not_le.mpr hbl) G.2.2 (i := nI (i + 1)) (vp_in_nI (n := i + 1) (N := L) (by omega) (by omega)) dL_law_408 ?_
  refine lv_to (y := xs (i + 1)) (congrArg xs (nI_clamp (by omega))) ?_
  obtain ⟨⟨r2, S1⟩, hf, hj⟩ := sj_load Sm (xs (i + 1)) hJ
  have hJ1 : JJ S1 := hj
  refine y_miX (h0 := s.heap.size) (As := [.int (xs (i + 1))]) (rest := []) E G hA (fun _ h => h) hTS hX.2.2.2.2 hml (tr_load l D cI cJ cZ am Sm s.heap.size (xs (i + 1)) hf) (cwV 1 hts (glM (L := [Cond.methodLink RL 203 yX12_load, Cond.instanceMethod yX12_load, Cond.selects RX12 yX12_load yX12_load, Cond.initialized RX12]) (gl_in [(8, 89), (8, 90), (8, 91), (1, 14)] (by decide +kernel) (by decide +kernel)) ⟨(t_of [Cond.code yX12_load cX12_load 4 (some .int)] [(8, 92)] (by decide +kernel) _ List.mem_cons_self), List.all_eq_true.mp (by decide +kernel : [Cond.code yX12_load cX12_load 4 (some .int)].all goodWord = true) _ List.mem_cons_self⟩) rfl rfl rfl (by decide +kernel) ⟨Nat.le_of_ble_eq_true rfl, Nat.le_of_ble_eq_true rfl⟩) rfl hl.1 rfl (lv_room (Nat.le_of_ble_eq_true rfl)) dL_law_409 ⟨by show _ ≤ 601024; omega, by show _ ≤ 7293034; omega⟩ (fun H locs G => ?_)
  refine lv_istore (lv' := [(7, .int r2), (6, .int (vck 0 1 2 k1)), (5, .int (nI i)), (4, .ref ae), (3, .ref aj), (2, .ref (am 0)), (1, .ref (ad2 0)), (0, .ref b)]) hx hb dL_law_412 hl (by decide) rfl (fun ls hl => ?_)
  refine lv_goto (tgt := 2439) hx hb dL_law_414 (by decide) ?_
  have hl := lv_sub hl [2, 3, 4, 5, 6, 7] rfl
  refine W.widen (k := 19 + T1.1 + (j + 1)) (n := 38467 + sg T1 + 6 * (j + 1)) (by omega) (by omega) ?_
  exact kk ad2 (vfJ k1 f r1.toInt64) g H locs ls hg hf (had 0 h0T) hV1 hrc1 hJ1 G hl
set_option maxHeartbeats 4000000 in
set_option maxRecDepth 100000 in
theorem y_a2 {p : Program} {e : Env} {s : State} {m : MethodId} {below : List Frame} {meth : Method} {c : Code} (l : Launch) (hst : l.stackTraces = false) {b L : Nat} {xs : Nat → Int32} (hx : p.tables.exec = Jvm.exec) (hb : c.code = code) (hml : c.maxLocals = 9) (hown : s.vm.findClass RL = some m.cls) (hts : ∀ w ∈ lw_tbl, w.before #[Value.ref b] s = true) (hX0 : va_X b L xs s s.heap) (hbl : b < s.heap.size) (hX : xT (fun q => s.heap.size ≤ q) s) (hN : nC s) (hTS : sAll s.heap.size s) {D : va_G} {cI cJ cZ cMic cSrc cSt cAI cAJ cD : ClassId} (hK : va_K D vwCl (CT cI cJ cZ cMic cSrc cSt cAI cAJ ++ [(cD, .double)]) s) {Q : State → Prop} {i j : Nat} (hi : i + 6 ≤ L) (hL : L ≤ 3072) (hj : j < 512) {aj ae : Nat} {ad am : Nat → Nat} {T : AT} {Sm : MS} {f : Nat → Int64} {g : Nat → UInt64} {ls : Array Slot} {H : Heap} {locs : List Loc} (hV : IV aR0 1586 aK1 aK2 T) (hrc : RC T) (hJ : JJ Sm) (G : gL cI cJ cZ cMic cSrc cSt cAI cAJ D ad (fun q => s.heap.size ≤ q) s.heap H locs T (oJ aj cJ f :: oD ae cD g :: MW cI cJ cZ am Sm)) (hl : lv_has ls 9 [(5, .int (nI i)), (4, .ref ae), (3, .ref aj), (2, .ref (am 0)), (1, .ref (ad 0)), (0, .ref b)]) (kk : ∀ {r1 : Int32} {T1 : AT} {r2 : Int32} {S1 : MS} (ad2 : Nat → Nat) (f1 : Nat → Int64) (g1 : Nat → UInt64) (H1 : Heap) (locs1 : List Loc) (ls1 : Array Slot), g_X11_parseError T 0 = some (r1, T1) → fr_parseError Sm = some (r2, S1) → ad2 0 = ad 0 → IV aR0 1586 aK1 aK2 T1 → RC T1 → JJ S1 → gL cI cJ cZ cMic cSrc cSt cAI cAJ D ad2 (fun q => s.heap.size ≤ q) s.heap H1 locs1 T1 (oJ aj cJ f1 :: oD ae cD g1 :: MW cI cJ cZ am S1) → lv_has ls1 9 [(5, .int (nI i)), (4, .ref ae), (3, .ref aj), (2, .ref (am 0)), (1, .ref (ad2 0)), (0, .ref b)] → W p l e room_1 s m #[Value.ref b] below meth c H1 locs1 (19 + T1.1 + (j + 1)) (38467 + sg T1 + 6 * (j + 1)) Q (F0 m 2439 ls1 [])) : W p l e room_1 s m #[Value.ref b] below meth c H locs (19 + T.1 + j) (38467 + sg T + 6 * j) Q (F0 m 417 ls []) := by
  have E : cE p c cL_law s m #[Value.ref b] lw_tbl D RL (CT cI cJ cZ cMic cSrc cSt cAI cAJ ++ [(cD, .double)]) := ⟨hx, hb, hts, hown, hK⟩
  have hA : ∀ q : Nat, s.heap.size ≤ q → s.heap.size ≤ q := fun _ h => h
  have h0T : 0 < T.1 := Nat.lt_of_lt_of_le (by decide) hV.1.2.2
  have h0s : T.2.1 0 = (11, 0) := hV.2.1 0 ⟨by decide, by decide +kernel, by decide +kernel⟩
  refine lv_aload_n hx hb dL_law_417 rfl (lv_at hl 4 rfl) ?_
  obtain ⟨⟨r1, T1⟩, hg, hc⟩ := cs_X11_parseError T 0 hV (by decide +kernel)
  have hV1 : IV aR0 1586 aK1 aK2 T1 := by rw [show T1 = T from hc.1]; exact hV
  have hg1 := (gl_sp (s_X11_parseError hg))
  have hg2 := sg_le hg1
  have hg3 := hg1.1
  have hk := hV1.2.2.2.2.2.2
  have hrc1 := hg1.2.2 hrc
  have hr0 := a_room
  refine t_cvi (As := []) (rest := []) E G hA hX hX.2.2.2.1 hml (u_X11_parseError l hst D cI cJ cZ cMic cSrc cSt cAI cAJ ad T 0  hg) (cwV 0 hts (glA (L := [Cond.methodLink RL 204 yX11_parseError, Cond.instanceMethod yX11_parseError, Cond.selects RX11 yX11_parseError yX11_parseError, Cond.initialized RX11]) (gl_in [(3, 56), (3, 57), (3, 58), (1, 1)] (by decide +kernel) (by decide +kernel)) ⟨(t_of [Cond.code yX11_parseError cX11_parseError 1 (some .int)] [(3, 59)] (by decide +kernel) _ List.mem_cons_self), List.all_eq_true.mp (by decide +kernel : [Cond.code yX11_parseError cX11_parseError 1 (some .int)].all goodWord = true) _ List.mem_cons_self⟩) rfl rfl rfl (by decide +kernel) ⟨Nat.le_of_ble_eq_true rfl, Nat.le_of_ble_eq_true rfl⟩) h0T (cc_o11 h0s) rfl rfl hl.1 rfl (lv_room (Nat.le_of_ble_eq_true rfl)) dL_law_418 ⟨by show _ ≤ 601024; omega, by show _ ≤ 7293034; omega⟩ ?_
  intro r9 T9 H locs hp G
  obtain ⟨hr9, hS1⟩ := hp
  rw [hS1] at G
  refine lv_to (y := r1) hr9 ?_
  refine lv_pop hx hb dL_law_421 rfl ?_
  refine lv_aload_n hx hb dL_law_422 rfl (lv_at hl 3 rfl) ?_
  obtain ⟨⟨r2, S1⟩, hf, hj⟩ := sj_parseError Sm hJ
  have hJ1 : JJ S1 := hj
  refine y_mi (As := []) (rest := []) E G hA hX.2.2.2.2 hml (tr_parseError l D cI cJ cZ am Sm  hf) (cwV 0 hts (glM (L := [Cond.methodLink RL 207 yX12_parseError, Cond.instanceMethod yX12_parseError, Cond.selects RX12 yX12_parseError yX12_parseError, Cond.initialized RX12]) (gl_in [(8, 81), (8, 82), (8, 83), (1, 14)] (by decide +kernel) (by decide +kernel)) ⟨(t_of [Cond.code yX12_parseError cX12_parseError 1 (some .int)] [(8, 84)] (by decide +kernel) _ List.mem_cons_self), List.all_eq_true.mp (by decide +kernel : [Cond.code yX12_parseError cX12_parseError 1 (some .int)].all goodWord = true) _ List.mem_cons_self⟩) rfl rfl rfl (by decide +kernel) ⟨Nat.le_of_ble_eq_true rfl, Nat.le_of_ble_eq_true rfl⟩) rfl hl.1 rfl (lv_room (Nat.le_of_ble_eq_true rfl)) dL_law_423 ⟨by show _ ≤ 601024; omega, by show _ ≤ 7293034; omega⟩ (fun H locs G => ?_)
  refine lv_pop hx hb dL_law_426 rfl ?_
  refine lv_goto (tgt := 2439) hx hb dL_law_427 (by decide) ?_
  refine W.widen (k := 19 + T1.1 + (j + 1)) (n := 38467 + sg T1 + 6 * (j + 1)) (by omega) (by omega) ?_
  exact kk ad f g H locs ls hg hf rfl hV1 hrc1 hJ1 G hl
set_option maxHeartbeats 4000000 in
set_option maxRecDepth 100000 in
theorem y_a3 {p : Program} {e : Env} {s : State} {m : MethodId} {below : List Frame} {meth : Method} {c : Code} (l : Launch) (hst : l.stackTraces = false) {b L : Nat} {xs : Nat → Int32} (hx : p.tables.exec = Jvm.exec) (hb : c.code = code) (hml : c.maxLocals = 9) (hown : s.vm.findClass RL = some m.cls) (hts : ∀ w ∈ lw_tbl, w.before #[Value.ref b] s = true) (hX0 : va_X b L xs s s.heap) (hbl : b < s.heap.size) (hX : xT (fun q => s.heap.size ≤ q) s) (hN : nC s) (hTS : sAll s.heap.size s) {D : va_G} {cI cJ cZ cMic cSrc cSt cAI cAJ cD : ClassId} (hK : va_K D vwCl (CT cI cJ cZ cMic cSrc cSt cAI cAJ ++ [(cD, .double)]) s) {Q : State → Prop} {i j : Nat} (hi : i + 6 ≤ L) (hL : L ≤ 3072) (hj : j < 512) {aj ae : Nat} {ad am : Nat → Nat} {T : AT} {Sm : MS} {f : Nat → Int64} {g : Nat → UInt64} {ls : Array Slot} {H : Heap} {locs : List Loc} (hV : IV aR0 1586 aK1 aK2 T) (hrc : RC T) (hJ : JJ Sm) (G : gL cI cJ cZ cMic cSrc cSt cAI cAJ D ad (fun q => s.heap.size ≤ q) s.heap H locs T (oJ aj cJ f :: oD ae cD g :: MW cI cJ cZ am Sm)) (hl : lv_has ls 9 [(5, .int (nI i)), (4, .ref ae), (3, .ref aj), (2, .ref (am 0)), (1, .ref (ad 0)), (0, .ref b)]) (kk : ∀ {r1 : Int32} {T1 : AT} {r2 : Int32} {S1 : MS} (ad2 : Nat → Nat) (f1 : Nat → Int64) (g1 : Nat → UInt64) (H1 : Heap) (locs1 : List Loc) (ls1 : Array Slot), g_X11_errorPosition T 0 = some (r1, T1) → fr_errorPosition Sm = some (r2, S1) → ad2 0 = ad 0 → IV aR0 1586 aK1 aK2 T1 → RC T1 → JJ S1 → gL cI cJ cZ cMic cSrc cSt cAI cAJ D ad2 (fun q => s.heap.size ≤ q) s.heap H1 locs1 T1 (oJ aj cJ f1 :: oD ae cD g1 :: MW cI cJ cZ am S1) → lv_has ls1 9 [(5, .int (nI i)), (4, .ref ae), (3, .ref aj), (2, .ref (am 0)), (1, .ref (ad2 0)), (0, .ref b)] → W p l e room_1 s m #[Value.ref b] below meth c H1 locs1 (19 + T1.1 + (j + 1)) (38467 + sg T1 + 6 * (j + 1)) Q (F0 m 2439 ls1 [])) : W p l e room_1 s m #[Value.ref b] below meth c H locs (19 + T.1 + j) (38467 + sg T + 6 * j) Q (F0 m 430 ls []) := by
  have E : cE p c cL_law s m #[Value.ref b] lw_tbl D RL (CT cI cJ cZ cMic cSrc cSt cAI cAJ ++ [(cD, .double)]) := ⟨hx, hb, hts, hown, hK⟩
  have hA : ∀ q : Nat, s.heap.size ≤ q → s.heap.size ≤ q := fun _ h => h
  have h0T : 0 < T.1 := Nat.lt_of_lt_of_le (by decide) hV.1.2.2
  have h0s : T.2.1 0 = (11, 0) := hV.2.1 0 ⟨by decide, by decide +kernel, by decide +kernel⟩
  refine lv_aload_n hx hb dL_law_430 rfl (lv_at hl 4 rfl) ?_
  obtain ⟨⟨r1, T1⟩, hg, hc⟩ := cs_X11_errorPosition T 0 hV (by decide +kernel)
  have hV1 : IV aR0 1586 aK1 aK2 T1 := by rw [show T1 = T from hc.1]; exact hV
  have hg1 := (gl_sp (s_X11_errorPosition hg))
  have hg2 := sg_le hg1
  have hg3 := hg1.1
  have hk := hV1.2.2.2.2.2.2
  have hrc1 := hg1.2.2 hrc
  have hr0 := a_room
  refine t_cvi (As := []) (rest := []) E G hA hX hX.2.2.2.1 hml (u_X11_errorPosition l hst D cI cJ cZ cMic cSrc cSt cAI cAJ ad T 0  hg) (cwV 0 hts (glA (L := [Cond.methodLink RL 208 yX11_errorPosition, Cond.instanceMethod yX11_errorPosition, Cond.selects RX11 yX11_errorPosition yX11_errorPosition, Cond.initialized RX11]) (gl_in [(3, 60), (3, 61), (3, 62), (1, 1)] (by decide +kernel) (by decide +kernel)) ⟨(t_of [Cond.code yX11_errorPosition cX11_errorPosition 1 (some .int)] [(3, 63)] (by decide +kernel) _ List.mem_cons_self), List.all_eq_true.mp (by decide +kernel : [Cond.code yX11_errorPosition cX11_errorPosition 1 (some .int)].all goodWord = true) _ List.mem_cons_self⟩) rfl rfl rfl (by decide +kernel) ⟨Nat.le_of_ble_eq_true rfl, Nat.le_of_ble_eq_true rfl⟩) h0T (cc_o11 h0s) rfl rfl hl.1 rfl (lv_room (Nat.le_of_ble_eq_true rfl)) dL_law_431 ⟨by show _ ≤ 601024; omega, by show _ ≤ 7293034; omega⟩ ?_
  intro r9 T9 H locs hp G
  obtain ⟨hr9, hS1⟩ := hp
  rw [hS1] at G
  refine lv_to (y := r1) hr9 ?_
  refine lv_pop hx hb dL_law_434 rfl ?_
  refine lv_aload_n hx hb dL_law_435 rfl (lv_at hl 3 rfl) ?_
  obtain ⟨⟨r2, S1⟩, hf, hj⟩ := sj_errorPosition Sm hJ
  have hJ1 : JJ S1 := hj
  refine y_mi (As := []) (rest := []) E G hA hX.2.2.2.2 hml (tr_errorPosition l D cI cJ cZ am Sm  hf) (cwV 0 hts (glM (L := [Cond.methodLink RL 211 yX12_errorPosition, Cond.instanceMethod yX12_errorPosition, Cond.selects RX12 yX12_errorPosition yX12_errorPosition, Cond.initialized RX12]) (gl_in [(8, 85), (8, 86), (8, 87), (1, 14)] (by decide +kernel) (by decide +kernel)) ⟨(t_of [Cond.code yX12_errorPosition cX12_errorPosition 1 (some .int)] [(8, 88)] (by decide +kernel) _ List.mem_cons_self), List.all_eq_true.mp (by decide +kernel : [Cond.code yX12_errorPosition cX12_errorPosition 1 (some .int)].all goodWord = true) _ List.mem_cons_self⟩) rfl rfl rfl (by decide +kernel) ⟨Nat.le_of_ble_eq_true rfl, Nat.le_of_ble_eq_true rfl⟩) rfl hl.1 rfl (lv_room (Nat.le_of_ble_eq_true rfl)) dL_law_436 ⟨by show _ ≤ 601024; omega, by show _ ≤ 7293034; omega⟩ (fun H locs G => ?_)
  refine lv_pop hx hb dL_law_439 rfl ?_
  refine lv_goto (tgt := 2439) hx hb dL_law_440 (by decide) ?_
  refine W.widen (k := 19 + T1.1 + (j + 1)) (n := 38467 + sg T1 + 6 * (j + 1)) (by omega) (by omega) ?_
  exact kk ad f g H locs ls hg hf rfl hV1 hrc1 hJ1 G hl
set_option maxHeartbeats 4000000 in
set_option maxRecDepth 100000 in
theorem y_a4 {p : Program} {e : Env} {s : State} {m : MethodId} {below : List Frame} {meth : Method} {c : Code} (l : Launch) (hst : l.stackTraces = false) {b L : Nat} {xs : Nat → Int32} (hx : p.tables.exec = Jvm.exec) (hb : c.code = code) (hml : c.maxLocals = 9) (hown : s.vm.findClass RL = some m.cls) (hts : ∀ w ∈ lw_tbl, w.before #[Value.ref b] s = true) (hX0 : va_X b L xs s s.heap) (hbl : b < s.heap.size) (hX : xT (fun q => s.heap.size ≤ q) s) (hN : nC s) (hTS : sAll s.heap.size s) {D : va_G} {cI cJ cZ cMic cSrc cSt cAI cAJ cD : ClassId} (hK : va_K D vwCl (CT cI cJ cZ cMic cSrc cSt cAI cAJ ++ [(cD, .double)]) s) {Q : State → Prop} {i j : Nat} (hi : i + 6 ≤ L) (hL : L ≤ 3072) (hj : j < 512) {aj ae : Nat} {ad am : Nat → Nat} {T : AT} {Sm : MS} {f : Nat → Int64} {g : Nat → UInt64} {ls : Array Slot} {H : Heap} {locs : List Loc} (hV : IV aR0 1586 aK1 aK2 T) (hrc : RC T) (hJ : JJ Sm) (G : gL cI cJ cZ cMic cSrc cSt cAI cAJ D ad (fun q => s.heap.size ≤ q) s.heap H locs T (oJ aj cJ f :: oD ae cD g :: MW cI cJ cZ am Sm)) (hl : lv_has ls 9 [(5, .int (nI i)), (4, .ref ae), (3, .ref aj), (2, .ref (am 0)), (1, .ref (ad 0)), (0, .ref b)]) (kk : ∀ {r1 : Int32} {T1 : AT} {r2 : Int32} {S1 : MS} (ad2 : Nat → Nat) (f1 : Nat → Int64) (g1 : Nat → UInt64) (H1 : Heap) (locs1 : List Loc) (ls1 : Array Slot), g_X11_buffered T 0 = some (r1, T1) → fr_buffered Sm = some (r2, S1) → ad2 0 = ad 0 → IV aR0 1586 aK1 aK2 T1 → RC T1 → JJ S1 → gL cI cJ cZ cMic cSrc cSt cAI cAJ D ad2 (fun q => s.heap.size ≤ q) s.heap H1 locs1 T1 (oJ aj cJ f1 :: oD ae cD g1 :: MW cI cJ cZ am S1) → lv_has ls1 9 [(5, .int (nI i)), (4, .ref ae), (3, .ref aj), (2, .ref (am 0)), (1, .ref (ad2 0)), (0, .ref b)] → W p l e room_1 s m #[Value.ref b] below meth c H1 locs1 (19 + T1.1 + (j + 1)) (38467 + sg T1 + 6 * (j + 1)) Q (F0 m 2439 ls1 [])) : W p l e room_1 s m #[Value.ref b] below meth c H locs (19 + T.1 + j) (38467 + sg T + 6 * j) Q (F0 m 443 ls []) := by
  have E : cE p c cL_law s m #[Value.ref b] lw_tbl D RL (CT cI cJ cZ cMic cSrc cSt cAI cAJ ++ [(cD, .double)]) := ⟨hx, hb, hts, hown, hK⟩
  have hA : ∀ q : Nat, s.heap.size ≤ q → s.heap.size ≤ q := fun _ h => h
  have h0T : 0 < T.1 := Nat.lt_of_lt_of_le (by decide) hV.1.2.2
  have h0s : T.2.1 0 = (11, 0) := hV.2.1 0 ⟨by decide, by decide +kernel, by decide +kernel⟩
  refine lv_aload_n hx hb dL_law_443 rfl (lv_at hl 4 rfl) ?_
  obtain ⟨⟨r1, T1⟩, hg, hc⟩ := cs_X11_buffered T 0 hV (by decide +kernel)
  have hV1 : IV aR0 1586 aK1 aK2 T1 := by rw [show T1 = T from hc.1]; exact hV
  have hg1 := (gl_sp (s_X11_buffered hg))
  have hg2 := sg_le hg1
  have hg3 := hg1.1
  have hk := hV1.2.2.2.2.2.2
  have hrc1 := hg1.2.2 hrc
  have hr0 := a_room
  refine t_cvi (As := []) (rest := []) E G hA hX hX.2.2.2.1 hml (u_X11_buffered l hst D cI cJ cZ cMic cSrc cSt cAI cAJ ad T 0  hg) (cwV 0 hts (glA (L := [Cond.methodLink RL 212 yX11_buffered, Cond.instanceMethod yX11_buffered, Cond.selects RX11 yX11_buffered yX11_buffered, Cond.initialized RX11]) (gl_in [(3, 64), (3, 65), (3, 66), (1, 1)] (by decide +kernel) (by decide +kernel)) ⟨(t_of [Cond.code yX11_buffered cX11_buffered 1 (some .int)] [(3, 67)] (by decide +kernel) _ List.mem_cons_self), List.all_eq_true.mp (by decide +kernel : [Cond.code yX11_buffered cX11_buffered 1 (some .int)].all goodWord = true) _ List.mem_cons_self⟩) rfl rfl rfl (by decide +kernel) ⟨Nat.le_of_ble_eq_true rfl, Nat.le_of_ble_eq_true rfl⟩) h0T (cc_o11 h0s) rfl rfl hl.1 rfl (lv_room (Nat.le_of_ble_eq_true rfl)) dL_law_444 ⟨by show _ ≤ 601024; omega, by show _ ≤ 7293034; omega⟩ ?_
  intro r9 T9 H locs hp G
  obtain ⟨hr9, hS1⟩ := hp
  rw [hS1] at G
  refine lv_to (y := r1) hr9 ?_
  refine lv_pop hx hb dL_law_447 rfl ?_
  refine lv_aload_n hx hb dL_law_448 rfl (lv_at hl 3 rfl) ?_
  obtain ⟨⟨r2, S1⟩, hf, hj⟩ := sj_buffered Sm hJ
  have hJ1 : JJ S1 := hj
  refine y_mi (As := []) (rest := []) E G hA hX.2.2.2.2 hml (tr_buffered l D cI cJ cZ am Sm  hf) (cwV 0 hts (glM (L := [Cond.methodLink RL 215 yX12_buffered, Cond.instanceMethod yX12_buffered, Cond.selects RX12 yX12_buffered yX12_buffered, Cond.initialized RX12]) (gl_in [(8, 77), (8, 78), (8, 79), (1, 14)] (by decide +kernel) (by decide +kernel)) ⟨(t_of [Cond.code yX12_buffered cX12_buffered 1 (some .int)] [(8, 80)] (by decide +kernel) _ List.mem_cons_self), List.all_eq_true.mp (by decide +kernel : [Cond.code yX12_buffered cX12_buffered 1 (some .int)].all goodWord = true) _ List.mem_cons_self⟩) rfl rfl rfl (by decide +kernel) ⟨Nat.le_of_ble_eq_true rfl, Nat.le_of_ble_eq_true rfl⟩) rfl hl.1 rfl (lv_room (Nat.le_of_ble_eq_true rfl)) dL_law_449 ⟨by show _ ≤ 601024; omega, by show _ ≤ 7293034; omega⟩ (fun H locs G => ?_)
  refine lv_pop hx hb dL_law_452 rfl ?_
  refine lv_goto (tgt := 2439) hx hb dL_law_453 (by decide) ?_
  refine W.widen (k := 19 + T1.1 + (j + 1)) (n := 38467 + sg T1 + 6 * (j + 1)) (by omega) (by omega) ?_
  exact kk ad f g H locs ls hg hf rfl hV1 hrc1 hJ1 G hl
set_option maxHeartbeats 4000000 in
set_option maxRecDepth 100000 in
theorem y_a5 {p : Program} {e : Env} {s : State} {m : MethodId} {below : List Frame} {meth : Method} {c : Code} (l : Launch) (hst : l.stackTraces = false) {b L : Nat} {xs : Nat → Int32} (hx : p.tables.exec = Jvm.exec) (hb : c.code = code) (hml : c.maxLocals = 9) (hown : s.vm.findClass RL = some m.cls) (hts : ∀ w ∈ lw_tbl, w.before #[Value.ref b] s = true) (hX0 : va_X b L xs s s.heap) (hbl : b < s.heap.size) (hX : xT (fun q => s.heap.size ≤ q) s) (hN : nC s) (hTS : sAll s.heap.size s) {D : va_G} {cI cJ cZ cMic cSrc cSt cAI cAJ cD : ClassId} (hK : va_K D vwCl (CT cI cJ cZ cMic cSrc cSt cAI cAJ ++ [(cD, .double)]) s) {Q : State → Prop} {i j : Nat} (hi : i + 6 ≤ L) (hL : L ≤ 3072) (hj : j < 512) {aj ae : Nat} {ad am : Nat → Nat} {T : AT} {Sm : MS} {f : Nat → Int64} {g : Nat → UInt64} {ls : Array Slot} {H : Heap} {locs : List Loc} (hV : IV aR0 1586 aK1 aK2 T) (hrc : RC T) (hJ : JJ Sm) (G : gL cI cJ cZ cMic cSrc cSt cAI cAJ D ad (fun q => s.heap.size ≤ q) s.heap H locs T (oJ aj cJ f :: oD ae cD g :: MW cI cJ cZ am Sm)) (hl : lv_has ls 9 [(5, .int (nI i)), (4, .ref ae), (3, .ref aj), (2, .ref (am 0)), (1, .ref (ad 0)), (0, .ref b)]) (kk : ∀ {r1 : Int32} {T1 : AT} {r2 : Int32} {S1 : MS} (ad2 : Nat → Nat) (f1 : Nat → Int64) (g1 : Nat → UInt64) (H1 : Heap) (locs1 : List Loc) (ls1 : Array Slot), g_X11_mics T 0 = some (r1, T1) → fr_mics Sm = some (r2, S1) → ad2 0 = ad 0 → IV aR0 1586 aK1 aK2 T1 → RC T1 → JJ S1 → gL cI cJ cZ cMic cSrc cSt cAI cAJ D ad2 (fun q => s.heap.size ≤ q) s.heap H1 locs1 T1 (oJ aj cJ f1 :: oD ae cD g1 :: MW cI cJ cZ am S1) → lv_has ls1 9 [(5, .int (nI i)), (4, .ref ae), (3, .ref aj), (2, .ref (am 0)), (1, .ref (ad2 0)), (0, .ref b)] → W p l e room_1 s m #[Value.ref b] below meth c H1 locs1 (19 + T1.1 + (j + 1)) (38467 + sg T1 + 6 * (j + 1)) Q (F0 m 2439 ls1 [])) : W p l e room_1 s m #[Value.ref b] below meth c H locs (19 + T.1 + j) (38467 + sg T + 6 * j) Q (F0 m 456 ls []) := by
  have E : cE p c cL_law s m #[Value.ref b] lw_tbl D RL (CT cI cJ cZ cMic cSrc cSt cAI cAJ ++ [(cD, .double)]) := ⟨hx, hb, hts, hown, hK⟩
  have hA : ∀ q : Nat, s.heap.size ≤ q → s.heap.size ≤ q := fun _ h => h
  have h0T : 0 < T.1 := Nat.lt_of_lt_of_le (by decide) hV.1.2.2
  have h0s : T.2.1 0 = (11, 0) := hV.2.1 0 ⟨by decide, by decide +kernel, by decide +kernel⟩
  refine lv_aload_n hx hb dL_law_456 rfl (lv_at hl 4 rfl) ?_
  obtain ⟨⟨r1, T1⟩, hg, hc⟩ := cs_X11_mics T 0 hV (by decide +kernel)
  have hV1 : IV aR0 1586 aK1 aK2 T1 := by rw [show T1 = T from hc.1]; exact hV
  have hg1 := (gl_sp (s_X11_mics hg))
  have hg2 := sg_le hg1
  have hg3 := hg1.1
  have hk := hV1.2.2.2.2.2.2
  have hrc1 := hg1.2.2 hrc
  have hr0 := a_room
  refine t_cvi (As := []) (rest := []) E G hA hX hX.2.2.2.1 hml (u_X11_mics l hst D cI cJ cZ cMic cSrc cSt cAI cAJ ad T 0  hg) (cwV 0 hts (glA (L := [Cond.methodLink RL 216 yX11_mics, Cond.instanceMethod yX11_mics, Cond.selects RX11 yX11_mics yX11_mics, Cond.initialized RX11]) (gl_in [(3, 68), (3, 69), (3, 70), (1, 1)] (by decide +kernel) (by decide +kernel)) ⟨(t_of [Cond.code yX11_mics cX11_mics 1 (some .int)] [(3, 71)] (by decide +kernel) _ List.mem_cons_self), List.all_eq_true.mp (by decide +kernel : [Cond.code yX11_mics cX11_mics 1 (some .int)].all goodWord = true) _ List.mem_cons_self⟩) rfl rfl rfl (by decide +kernel) ⟨Nat.le_of_ble_eq_true rfl, Nat.le_of_ble_eq_true rfl⟩) h0T (cc_o11 h0s) rfl rfl hl.1 rfl (lv_room (Nat.le_of_ble_eq_true rfl)) dL_law_457 ⟨by show _ ≤ 601024; omega, by show _ ≤ 7293034; omega⟩ ?_
  intro r9 T9 H locs hp G
  obtain ⟨hr9, hS1⟩ := hp
  rw [hS1] at G
  refine lv_to (y := r1) hr9 ?_
  refine lv_pop hx hb dL_law_460 rfl ?_
  refine lv_aload_n hx hb dL_law_461 rfl (lv_at hl 3 rfl) ?_
  obtain ⟨⟨r2, S1⟩, hf, hj⟩ := sj_mics Sm hJ
  have hJ1 : JJ S1 := hj
  refine y_mi (As := []) (rest := []) E G hA hX.2.2.2.2 hml (tr_mics l D cI cJ cZ am Sm  hf) (cwV 0 hts (glM (L := [Cond.methodLink RL 219 yX12_mics, Cond.instanceMethod yX12_mics, Cond.selects RX12 yX12_mics yX12_mics, Cond.initialized RX12]) (gl_in [(9, 40), (9, 41), (9, 42), (1, 14)] (by decide +kernel) (by decide +kernel)) ⟨(t_of [Cond.code yX12_mics cX12_mics 1 (some .int)] [(9, 43)] (by decide +kernel) _ List.mem_cons_self), List.all_eq_true.mp (by decide +kernel : [Cond.code yX12_mics cX12_mics 1 (some .int)].all goodWord = true) _ List.mem_cons_self⟩) rfl rfl rfl (by decide +kernel) ⟨Nat.le_of_ble_eq_true rfl, Nat.le_of_ble_eq_true rfl⟩) rfl hl.1 rfl (lv_room (Nat.le_of_ble_eq_true rfl)) dL_law_462 ⟨by show _ ≤ 601024; omega, by show _ ≤ 7293034; omega⟩ (fun H locs G => ?_)
  refine lv_pop hx hb dL_law_465 rfl ?_
  refine lv_goto (tgt := 2439) hx hb dL_law_466 (by decide) ?_
  refine W.widen (k := 19 + T1.1 + (j + 1)) (n := 38467 + sg T1 + 6 * (j + 1)) (by omega) (by omega) ?_
  exact kk ad f g H locs ls hg hf rfl hV1 hrc1 hJ1 G hl
set_option maxHeartbeats 4000000 in
set_option maxRecDepth 100000 in
theorem y_a6 {p : Program} {e : Env} {s : State} {m : MethodId} {below : List Frame} {meth : Method} {c : Code} (l : Launch) (hst : l.stackTraces = false) {b L : Nat} {xs : Nat → Int32} (hx : p.tables.exec = Jvm.exec) (hb : c.code = code) (hml : c.maxLocals = 9) (hown : s.vm.findClass RL = some m.cls) (hts : ∀ w ∈ lw_tbl, w.before #[Value.ref b] s = true) (hX0 : va_X b L xs s s.heap) (hbl : b < s.heap.size) (hX : xT (fun q => s.heap.size ≤ q) s) (hN : nC s) (hTS : sAll s.heap.size s) {D : va_G} {cI cJ cZ cMic cSrc cSt cAI cAJ cD : ClassId} (hK : va_K D vwCl (CT cI cJ cZ cMic cSrc cSt cAI cAJ ++ [(cD, .double)]) s) {Q : State → Prop} {i j : Nat} (hi : i + 6 ≤ L) (hL : L ≤ 3072) (hj : j < 512) {aj ae : Nat} {ad am : Nat → Nat} {T : AT} {Sm : MS} {f : Nat → Int64} {g : Nat → UInt64} {ls : Array Slot} {H : Heap} {locs : List Loc} (hV : IV aR0 1586 aK1 aK2 T) (hrc : RC T) (hJ : JJ Sm) (G : gL cI cJ cZ cMic cSrc cSt cAI cAJ D ad (fun q => s.heap.size ≤ q) s.heap H locs T (oJ aj cJ f :: oD ae cD g :: MW cI cJ cZ am Sm)) (hl : lv_has ls 9 [(5, .int (nI i)), (4, .ref ae), (3, .ref aj), (2, .ref (am 0)), (1, .ref (ad 0)), (0, .ref b)]) (kk : ∀ {k1 : Nat} {r1 : Int32} {T1 : AT} {r2 : Int32} {S1 : MS} (ad2 : Nat → Nat) (f1 : Nat → Int64) (g1 : Nat → UInt64) (H1 : Heap) (locs1 : List Loc) (ls1 : Array Slot), g_X11_micAt T 0 (xs (i + 1)) (xs (i + 2)) = some (k1, r1, T1) → fr_micAt Sm (xs (i + 1)) (xs (i + 2)) = some (r2, S1) → ad2 0 = ad 0 → IV aR0 1586 aK1 aK2 T1 → RC T1 → JJ S1 → gL cI cJ cZ cMic cSrc cSt cAI cAJ D ad2 (fun q => s.heap.size ≤ q) s.heap H1 locs1 T1 (oJ aj cJ f1 :: oD ae cD g1 :: MW cI cJ cZ am S1) → lv_has ls1 9 [(5, .int (nI i)), (4, .ref ae), (3, .ref aj), (2, .ref (am 0)), (1, .ref (ad2 0)), (0, .ref b)] → W p l e room_1 s m #[Value.ref b] below meth c H1 locs1 (19 + T1.1 + (j + 1)) (38467 + sg T1 + 6 * (j + 1)) Q (F0 m 2439 ls1 [])) : W p l e room_1 s m #[Value.ref b] below meth c H locs (19 + T.1 + j) (38467 + sg T + 6 * j) Q (F0 m 469 ls []) := by
  have E : cE p c cL_law s m #[Value.ref b] lw_tbl D RL (CT cI cJ cZ cMic cSrc cSt cAI cAJ ++ [(cD, .double)]) := ⟨hx, hb, hts, hown, hK⟩
  have hA : ∀ q : Nat, s.heap.size ≤ q → s.heap.size ≤ q := fun _ h => h
  have h0T : 0 < T.1 := Nat.lt_of_lt_of_le (by decide) hV.1.2.2
  have h0s : T.2.1 0 = (11, 0) := hV.2.1 0 ⟨by decide, by decide +kernel, by decide +kernel⟩
  refine lv_aload_n hx hb dL_law_469 rfl (lv_at hl 4 rfl) ?_
  refine lv_aload_n hx hb dL_law_470 rfl (lv_at hl 5 rfl) ?_
  refine lv_iload hx hb dL_law_471 (lv_at hl 0 rfl) ?_
  refine lv_iconst (v := 1) hx hb dL_law_473 (by decide) ?_
  refine lv_iadd hx hb dL_law_474 ?_
  refine lv_to (y := nI (i + 1)) (nI_add i 1) ?_
  refine va_sld hx hb hX0 hbl (Nat.not_le.mpr hbl) G.2.2 (i := nI (i + 1)) (vp_in_nI (n := i + 1) (N := L) (by omega) (by omega)) dL_law_475 ?_
  refine lv_to (y := xs (i + 1)) (congrArg xs (nI_clamp (by omega))) ?_
  refine lv_aload_n hx hb dL_law_476 rfl (lv_at hl 5 rfl) ?_
  refine lv_iload hx hb dL_law_477 (lv_at hl 0 rfl) ?_
  refine lv_iconst (v := 2) hx hb dL_law_479 (by decide) ?_
  refine lv_iadd hx hb dL_law_480 ?_
  refine lv_to (y := nI (i + 2)) (nI_add i 2) ?_
  refine va_sld hx hb hX0 hbl (Nat.not_le.mpr hbl) G.2.2 (i := nI (i + 2)) (vp_in_nI (n := i + 2) (N := L) (by omega) (by omega)) dL_law_481 ?_
  refine lv_to (y := xs (i + 2)) (congrArg xs (nI_clamp (by omega))) ?_
  refine lv_aload_n hx hb dL_law_482 rfl (lv_at hl 2 rfl) ?_
  obtain ⟨⟨k1, r1, T1⟩, hg, hc⟩ := cs_X11_micAt T 0 (xs (i + 1)) (xs (i + 2)) hV (by decide +kernel)
  have hV1 : IV aR0 1586 aK1 aK2 T1 := by rw [show T1 = T from hc.1]; exact hV
  have hg1 := (gl_sp (s_X11_micAt hg))
  have hg2 := sg_le hg1
  have hg3 := hg1.1
  have hk := hV1.2.2.2.2.2.2
  have hrc1 := hg1.2.2 hrc
  have hr0 := a_room
  refine l_v (h0 := s.heap.size) (As := [.ref (ad 0), .int (xs (i + 1)), .int (xs (i + 2)), .ref aj]) (rest := []) E G hA hX hN (fun _ h => h) hTS hml (v_micAt l hst D s.heap.size ad T 0 (xs (i + 1)) (xs (i + 2)) aj f hg hrc h0T h0s) (vx_cwSW 4 hts (glA (L := [Cond.methodLink RL 220 yL_micAt, Cond.static yL_micAt, Cond.initialized RL]) (gl_in [(5, 20), (5, 21), (1, 0)] (by decide +kernel) (by decide +kernel)) ⟨(t_of [Cond.codeWith yL_micAt cL_micAt 5 (some .int) [(0, 10, 13, 21), (0, 10, 17, 13), (0, 10, 21, 15)]] [(5, 22)] (by decide +kernel) _ List.mem_cons_self), List.all_eq_true.mp (by decide +kernel : [Cond.codeWith yL_micAt cL_micAt 5 (some .int) [(0, 10, 13, 21), (0, 10, 17, 13), (0, 10, 21, 15)]].all goodWord = true) _ List.mem_cons_self⟩) rfl rfl rfl (by decide +kernel) ⟨Nat.le_of_ble_eq_true rfl, Nat.le_of_ble_eq_true rfl⟩) rfl hl.1 rfl (lv_room (Nat.le_of_ble_eq_true rfl)) dL_law_483 ⟨by show _ ≤ 601024; omega, by show _ ≤ 7293034; omega⟩ ?_
  intro ad2 H locs had G
  rw [← had 0 h0T] at hl
  refine lv_istore (lv' := [(6, .int (vck 1 2 3 k1)), (5, .int (nI i)), (4, .ref ae), (3, .ref aj), (2, .ref (am 0)), (1, .ref (ad2 0)), (0, .ref b)]) hx hb dL_law_486 hl (by decide) rfl (fun ls hl => ?_)
  refine lv_aload_n hx hb dL_law_488 rfl (lv_at hl 4 rfl) ?_
  refine lv_aload_n hx hb dL_law_489 rfl (lv_at hl 6 rfl) ?_
  refine lv_iload hx hb dL_law_490 (lv_at hl 1 rfl) ?_
  refine lv_iconst (v := 1) hx hb dL_law_492 (by decide) ?_
  refine lv_iadd hx hb dL_law_493 ?_
  refine lv_to (y := nI (i + 1)) (nI_add i 1) ?_
  refine va_sld hx hb hX0 hbl (Nat.not_le.mpr hbl) G.2.2 (i := nI (i + 1)) (vp_in_nI (n := i + 1) (N := L) (by omega) (by omega)) dL_law_494 ?_
  refine lv_to (y := xs (i + 1)) (congrArg xs (nI_clamp (by omega))) ?_
  refine lv_aload_n hx hb dL_law_495 rfl (lv_at hl 6 rfl) ?_
  refine lv_iload hx hb dL_law_496 (lv_at hl 1 rfl) ?_
  refine lv_iconst (v := 2) hx hb dL_law_498 (by decide) ?_
  refine lv_iadd hx hb dL_law_499 ?_
  refine lv_to (y := nI (i + 2)) (nI_add i 2) ?_
  refine va_sld hx hb hX0 hbl (Nat.not_le.mpr hbl) G.2.2 (i := nI (i + 2)) (vp_in_nI (n := i + 2) (N := L) (by omega) (by omega)) dL_law_500 ?_
  refine lv_to (y := xs (i + 2)) (congrArg xs (nI_clamp (by omega))) ?_
  obtain ⟨⟨r2, S1⟩, hf, hj⟩ := sj_micAt Sm (xs (i + 1)) (xs (i + 2)) hJ
  have hJ1 : JJ S1 := hj
  refine y_mi (As := [.int (xs (i + 1)), .int (xs (i + 2))]) (rest := []) E G hA hX.2.2.2.2 hml (tr_micAt l D cI cJ cZ am Sm (xs (i + 1)) (xs (i + 2)) hf) (cwV 2 hts (glM (L := [Cond.methodLink RL 223 yX12_micAt, Cond.instanceMethod yX12_micAt, Cond.selects RX12 yX12_micAt yX12_micAt, Cond.initialized RX12]) (gl_in [(9, 48), (9, 49), (9, 50), (1, 14)] (by decide +kernel) (by decide +kernel)) ⟨(t_of [Cond.code yX12_micAt cX12_micAt 3 (some .int)] [(9, 51)] (by decide +kernel) _ List.mem_cons_self), List.all_eq_true.mp (by decide +kernel : [Cond.code yX12_micAt cX12_micAt 3 (some .int)].all goodWord = true) _ List.mem_cons_self⟩) rfl rfl rfl (by decide +kernel) ⟨Nat.le_of_ble_eq_true rfl, Nat.le_of_ble_eq_true rfl⟩) rfl hl.1 rfl (lv_room (Nat.le_of_ble_eq_true rfl)) dL_law_501 ⟨by show _ ≤ 601024; omega, by show _ ≤ 7293034; omega⟩ (fun H locs G => ?_)
  refine lv_istore (lv' := [(7, .int r2), (6, .int (vck 1 2 3 k1)), (5, .int (nI i)), (4, .ref ae), (3, .ref aj), (2, .ref (am 0)), (1, .ref (ad2 0)), (0, .ref b)]) hx hb dL_law_504 hl (by decide) rfl (fun ls hl => ?_)
  refine lv_goto (tgt := 2439) hx hb dL_law_506 (by decide) ?_
  have hl := lv_sub hl [2, 3, 4, 5, 6, 7] rfl
  refine W.widen (k := 19 + T1.1 + (j + 1)) (n := 38467 + sg T1 + 6 * (j + 1)) (by omega) (by omega) ?_
  exact kk ad2 (vfJ k1 f r1.toInt64) g H locs ls hg hf (had 0 h0T) hV1 hrc1 hJ1 G hl
set_option maxHeartbeats 4000000 in
set_option maxRecDepth 100000 in
theorem y_a7 {p : Program} {e : Env} {s : State} {m : MethodId} {below : List Frame} {meth : Method} {c : Code} (l : Launch) (hst : l.stackTraces = false) {b L : Nat} {xs : Nat → Int32} (hx : p.tables.exec = Jvm.exec) (hb : c.code = code) (hml : c.maxLocals = 9) (hown : s.vm.findClass RL = some m.cls) (hts : ∀ w ∈ lw_tbl, w.before #[Value.ref b] s = true) (hX0 : va_X b L xs s s.heap) (hbl : b < s.heap.size) (hX : xT (fun q => s.heap.size ≤ q) s) (hN : nC s) (hTS : sAll s.heap.size s) {D : va_G} {cI cJ cZ cMic cSrc cSt cAI cAJ cD : ClassId} (hK : va_K D vwCl (CT cI cJ cZ cMic cSrc cSt cAI cAJ ++ [(cD, .double)]) s) {Q : State → Prop} {i j : Nat} (hi : i + 6 ≤ L) (hL : L ≤ 3072) (hj : j < 512) {aj ae : Nat} {ad am : Nat → Nat} {T : AT} {Sm : MS} {f : Nat → Int64} {g : Nat → UInt64} {ls : Array Slot} {H : Heap} {locs : List Loc} (hV : IV aR0 1586 aK1 aK2 T) (hrc : RC T) (hJ : JJ Sm) (G : gL cI cJ cZ cMic cSrc cSt cAI cAJ D ad (fun q => s.heap.size ≤ q) s.heap H locs T (oJ aj cJ f :: oD ae cD g :: MW cI cJ cZ am Sm)) (hl : lv_has ls 9 [(5, .int (nI i)), (4, .ref ae), (3, .ref aj), (2, .ref (am 0)), (1, .ref (ad 0)), (0, .ref b)]) (kk : ∀ {k1 : Nat} {r1 : Int32} {T1 : AT} {r2 : Int32} {S1 : MS} (ad2 : Nat → Nat) (f1 : Nat → Int64) (g1 : Nat → UInt64) (H1 : Heap) (locs1 : List Loc) (ls1 : Array Slot), g_X11_isMuted T 0 (xs (i + 1)) = some (k1, r1, T1) → fr_isMuted Sm (xs (i + 1)) = some (r2, S1) → ad2 0 = ad 0 → IV aR0 1586 aK1 aK2 T1 → RC T1 → JJ S1 → gL cI cJ cZ cMic cSrc cSt cAI cAJ D ad2 (fun q => s.heap.size ≤ q) s.heap H1 locs1 T1 (oJ aj cJ f1 :: oD ae cD g1 :: MW cI cJ cZ am S1) → lv_has ls1 9 [(5, .int (nI i)), (4, .ref ae), (3, .ref aj), (2, .ref (am 0)), (1, .ref (ad2 0)), (0, .ref b)] → W p l e room_1 s m #[Value.ref b] below meth c H1 locs1 (19 + T1.1 + (j + 1)) (38467 + sg T1 + 6 * (j + 1)) Q (F0 m 2439 ls1 [])) : W p l e room_1 s m #[Value.ref b] below meth c H locs (19 + T.1 + j) (38467 + sg T + 6 * j) Q (F0 m 509 ls []) := by
  have E : cE p c cL_law s m #[Value.ref b] lw_tbl D RL (CT cI cJ cZ cMic cSrc cSt cAI cAJ ++ [(cD, .double)]) := ⟨hx, hb, hts, hown, hK⟩
  have hA : ∀ q : Nat, s.heap.size ≤ q → s.heap.size ≤ q := fun _ h => h
  have h0T : 0 < T.1 := Nat.lt_of_lt_of_le (by decide) hV.1.2.2
  have h0s : T.2.1 0 = (11, 0) := hV.2.1 0 ⟨by decide, by decide +kernel, by decide +kernel⟩
  refine lv_aload_n hx hb dL_law_509 rfl (lv_at hl 4 rfl) ?_
  refine lv_aload_n hx hb dL_law_510 rfl (lv_at hl 5 rfl) ?_
  refine lv_iload hx hb dL_law_511 (lv_at hl 0 rfl) ?_
  refine lv_iconst (v := 1) hx hb dL_law_513 (by decide) ?_
  refine lv_iadd hx hb dL_law_514 ?_
  refine lv_to (y := nI (i + 1)) (nI_add i 1) ?_
  refine va_sld hx hb hX0 hbl (Nat.not_le.mpr hbl) G.2.2 (i := nI (i + 1)) (vp_in_nI (n := i + 1) (N := L) (by omega) (by omega)) dL_law_515 ?_
  refine lv_to (y := xs (i + 1)) (congrArg xs (nI_clamp (by omega))) ?_
  refine lv_aload_n hx hb dL_law_516 rfl (lv_at hl 2 rfl) ?_
  obtain ⟨⟨k1, r1, T1⟩, hg, hc⟩ := cs_X11_isMuted T 0 (xs (i + 1)) hV (by decide +kernel)
  have hV1 : IV aR0 1586 aK1 aK2 T1 := by rw [show T1 = T from hc.1]; exact hV
  have hg1 := (gl_sp (s_X11_isMuted hg))
  have hg2 := sg_le hg1
  have hg3 := hg1.1
  have hk := hV1.2.2.2.2.2.2
  have hrc1 := hg1.2.2 hrc
  have hr0 := a_room
  refine l_v (h0 := s.heap.size) (As := [.ref (ad 0), .int (xs (i + 1)), .ref aj]) (rest := []) E G hA hX hN (fun _ h => h) hTS hml (v_isMuted l hst D s.heap.size ad T 0 (xs (i + 1)) aj f hg hrc h0T h0s) (vx_cwSW 3 hts (glA (L := [Cond.methodLink RL 224 yL_isMuted, Cond.static yL_isMuted, Cond.initialized RL]) (gl_in [(5, 59), (5, 60), (1, 0)] (by decide +kernel) (by decide +kernel)) ⟨(t_of [Cond.codeWith yL_isMuted cL_isMuted 4 (some .int) [(0, 16, 19, 21), (0, 16, 22, 13)]] [(5, 61)] (by decide +kernel) _ List.mem_cons_self), List.all_eq_true.mp (by decide +kernel : [Cond.codeWith yL_isMuted cL_isMuted 4 (some .int) [(0, 16, 19, 21), (0, 16, 22, 13)]].all goodWord = true) _ List.mem_cons_self⟩) rfl rfl rfl (by decide +kernel) ⟨Nat.le_of_ble_eq_true rfl, Nat.le_of_ble_eq_true rfl⟩) rfl hl.1 rfl (lv_room (Nat.le_of_ble_eq_true rfl)) dL_law_517 ⟨by show _ ≤ 601024; omega, by show _ ≤ 7293034; omega⟩ ?_
  intro ad2 H locs had G
  rw [← had 0 h0T] at hl
  refine lv_istore (lv' := [(6, .int (vck 1 2 0 k1)), (5, .int (nI i)), (4, .ref ae), (3, .ref aj), (2, .ref (am 0)), (1, .ref (ad2 0)), (0, .ref b)]) hx hb dL_law_520 hl (by decide) rfl (fun ls hl => ?_)
  refine lv_aload_n hx hb dL_law_522 rfl (lv_at hl 4 rfl) ?_
  refine lv_aload_n hx hb dL_law_523 rfl (lv_at hl 6 rfl) ?_
  refine lv_iload hx hb dL_law_524 (lv_at hl 1 rfl) ?_
  refine lv_iconst (v := 1) hx hb dL_law_526 (by decide) ?_
  refine lv_iadd hx hb dL_law_527 ?_
  refine lv_to (y := nI (i + 1)) (nI_add i 1) ?_
  refine va_sld hx hb hX0 hbl (Nat.not_le.mpr hbl) G.2.2 (i := nI (i + 1)) (vp_in_nI (n := i + 1) (N := L) (by omega) (by omega)) dL_law_528 ?_
  refine lv_to (y := xs (i + 1)) (congrArg xs (nI_clamp (by omega))) ?_
  obtain ⟨⟨r2, S1⟩, hf, hj⟩ := sj_isMuted Sm (xs (i + 1)) hJ
  have hJ1 : JJ S1 := hj
  refine y_mi (As := [.int (xs (i + 1))]) (rest := []) E G hA hX.2.2.2.2 hml (tr_isMuted l D cI cJ cZ am Sm (xs (i + 1)) hf) (cwV 1 hts (glM (L := [Cond.methodLink RL 226 yX12_isMuted, Cond.instanceMethod yX12_isMuted, Cond.selects RX12 yX12_isMuted yX12_isMuted, Cond.initialized RX12]) (gl_in [(9, 60), (9, 61), (9, 62), (1, 14)] (by decide +kernel) (by decide +kernel)) ⟨(t_of [Cond.code yX12_isMuted cX12_isMuted 2 (some .boolean)] [(9, 63)] (by decide +kernel) _ List.mem_cons_self), List.all_eq_true.mp (by decide +kernel : [Cond.code yX12_isMuted cX12_isMuted 2 (some .boolean)].all goodWord = true) _ List.mem_cons_self⟩) rfl rfl rfl (by decide +kernel) ⟨Nat.le_of_ble_eq_true rfl, Nat.le_of_ble_eq_true rfl⟩) rfl hl.1 rfl (lv_room (Nat.le_of_ble_eq_true rfl)) dL_law_529 ⟨by show _ ≤ 601024; omega, by show _ ≤ 7293034; omega⟩ (fun H locs G => ?_)
  refine lv_istore (lv' := [(7, .int r2), (6, .int (vck 1 2 0 k1)), (5, .int (nI i)), (4, .ref ae), (3, .ref aj), (2, .ref (am 0)), (1, .ref (ad2 0)), (0, .ref b)]) hx hb dL_law_532 hl (by decide) rfl (fun ls hl => ?_)
  refine lv_goto (tgt := 2439) hx hb dL_law_534 (by decide) ?_
  have hl := lv_sub hl [2, 3, 4, 5, 6, 7] rfl
  refine W.widen (k := 19 + T1.1 + (j + 1)) (n := 38467 + sg T1 + 6 * (j + 1)) (by omega) (by omega) ?_
  exact kk ad2 (vfJ k1 f (vzb r1)) g H locs ls hg hf (had 0 h0T) hV1 hrc1 hJ1 G hl
end
section
/-! 17b.arm1.lean.txt -/
theorem dL_law_537 : decode cL_law 537 = .ok (.aload_n 1, 1) := de_43 (lb_33 (j := 9) (b := 43) rfl)
theorem dL_law_538 : decode cL_law 538 = .ok (.invokevirtual 227, 3) := de_182 (lb_33 (j := 10) (b := 182) rfl) (lb_33 (j := 11) (b := 0) rfl) (lb_33 (j := 12) (b := 227) rfl) rfl
theorem dL_law_541 : decode cL_law 541 = .ok (.pop, 1) := de_87 (lb_33 (j := 13) (b := 87) rfl)
theorem dL_law_542 : decode cL_law 542 = .ok (.aload_n 2, 1) := de_44 (lb_33 (j := 14) (b := 44) rfl)
theorem dL_law_543 : decode cL_law 543 = .ok (.invokevirtual 230, 3) := de_182 (lb_33 (j := 15) (b := 182) rfl) (lb_34 (j := 0) (b := 0) rfl) (lb_34 (j := 1) (b := 230) rfl) rfl
theorem dL_law_546 : decode cL_law 546 = .ok (.pop, 1) := de_87 (lb_34 (j := 2) (b := 87) rfl)
theorem dL_law_547 : decode cL_law 547 = .ok (.goto 1892, 3) := de_167 (lb_34 (j := 3) (b := 167) rfl) (lb_34 (j := 4) (b := 7) rfl) (lb_34 (j := 5) (b := 100) rfl) (by decide +kernel)
theorem dL_law_550 : decode cL_law 550 = .ok (.aload_n 1, 1) := de_43 (lb_34 (j := 6) (b := 43) rfl)
theorem dL_law_551 : decode cL_law 551 = .ok (.invokevirtual 231, 3) := de_182 (lb_34 (j := 7) (b := 182) rfl) (lb_34 (j := 8) (b := 0) rfl) (lb_34 (j := 9) (b := 231) rfl) rfl
theorem dL_law_554 : decode cL_law 554 = .ok (.pop, 1) := de_87 (lb_34 (j := 10) (b := 87) rfl)
theorem dL_law_555 : decode cL_law 555 = .ok (.aload_n 2, 1) := de_44 (lb_34 (j := 11) (b := 44) rfl)
theorem dL_law_556 : decode cL_law 556 = .ok (.invokevirtual 234, 3) := de_182 (lb_34 (j := 12) (b := 182) rfl) (lb_34 (j := 13) (b := 0) rfl) (lb_34 (j := 14) (b := 234) rfl) rfl
theorem dL_law_559 : decode cL_law 559 = .ok (.pop, 1) := de_87 (lb_34 (j := 15) (b := 87) rfl)
theorem dL_law_560 : decode cL_law 560 = .ok (.goto 1879, 3) := de_167 (lb_35 (j := 0) (b := 167) rfl) (lb_35 (j := 1) (b := 7) rfl) (lb_35 (j := 2) (b := 87) rfl) (by decide +kernel)
theorem dL_law_563 : decode cL_law 563 = .ok (.aload_n 1, 1) := de_43 (lb_35 (j := 3) (b := 43) rfl)
theorem dL_law_564 : decode cL_law 564 = .ok (.aload_n 0, 1) := de_42 (lb_35 (j := 4) (b := 42) rfl)
theorem dL_law_565 : decode cL_law 565 = .ok (.iload 5, 2) := de_21 (lb_35 (j := 5) (b := 21) rfl) (lb_35 (j := 6) (b := 5) rfl) rfl
theorem dL_law_567 : decode cL_law 567 = .ok (.iconst 1, 1) := de_4 (lb_35 (j := 7) (b := 4) rfl)
theorem dL_law_568 : decode cL_law 568 = .ok (.iadd, 1) := de_96 (lb_35 (j := 8) (b := 96) rfl)
theorem dL_law_569 : decode cL_law 569 = .ok (.iaload, 1) := de_46 (lb_35 (j := 9) (b := 46) rfl)
theorem dL_law_570 : decode cL_law 570 = .ok (.aload_n 0, 1) := de_42 (lb_35 (j := 10) (b := 42) rfl)
theorem dL_law_571 : decode cL_law 571 = .ok (.iload 5, 2) := de_21 (lb_35 (j := 11) (b := 21) rfl) (lb_35 (j := 12) (b := 5) rfl) rfl
theorem dL_law_573 : decode cL_law 573 = .ok (.iconst 2, 1) := de_5 (lb_35 (j := 13) (b := 5) rfl)
theorem dL_law_574 : decode cL_law 574 = .ok (.iadd, 1) := de_96 (lb_35 (j := 14) (b := 96) rfl)
theorem dL_law_575 : decode cL_law 575 = .ok (.iaload, 1) := de_46 (lb_35 (j := 15) (b := 46) rfl)
theorem dL_law_576 : decode cL_law 576 = .ok (.aload_n 3, 1) := de_45 (lb_36 (j := 0) (b := 45) rfl)
theorem dL_law_577 : decode cL_law 577 = .ok (.invokestatic 235, 3) := de_184 (lb_36 (j := 1) (b := 184) rfl) (lb_36 (j := 2) (b := 0) rfl) (lb_36 (j := 3) (b := 235) rfl) rfl
theorem dL_law_580 : decode cL_law 580 = .ok (.istore 6, 2) := de_54 (lb_36 (j := 4) (b := 54) rfl) (lb_36 (j := 5) (b := 6) rfl) rfl
theorem dL_law_582 : decode cL_law 582 = .ok (.aload_n 2, 1) := de_44 (lb_36 (j := 6) (b := 44) rfl)
theorem dL_law_583 : decode cL_law 583 = .ok (.aload_n 0, 1) := de_42 (lb_36 (j := 7) (b := 42) rfl)
theorem dL_law_584 : decode cL_law 584 = .ok (.iload 5, 2) := de_21 (lb_36 (j := 8) (b := 21) rfl) (lb_36 (j := 9) (b := 5) rfl) rfl
theorem dL_law_586 : decode cL_law 586 = .ok (.iconst 1, 1) := de_4 (lb_36 (j := 10) (b := 4) rfl)
theorem dL_law_587 : decode cL_law 587 = .ok (.iadd, 1) := de_96 (lb_36 (j := 11) (b := 96) rfl)
theorem dL_law_588 : decode cL_law 588 = .ok (.iaload, 1) := de_46 (lb_36 (j := 12) (b := 46) rfl)
theorem dL_law_589 : decode cL_law 589 = .ok (.aload_n 0, 1) := de_42 (lb_36 (j := 13) (b := 42) rfl)
theorem dL_law_590 : decode cL_law 590 = .ok (.iload 5, 2) := de_21 (lb_36 (j := 14) (b := 21) rfl) (lb_36 (j := 15) (b := 5) rfl) rfl
theorem dL_law_592 : decode cL_law 592 = .ok (.iconst 2, 1) := de_5 (lb_37 (j := 0) (b := 5) rfl)
theorem dL_law_593 : decode cL_law 593 = .ok (.iadd, 1) := de_96 (lb_37 (j := 1) (b := 96) rfl)
theorem dL_law_594 : decode cL_law 594 = .ok (.iaload, 1) := de_46 (lb_37 (j := 2) (b := 46) rfl)
theorem dL_law_595 : decode cL_law 595 = .ok (.invokevirtual 237, 3) := de_182 (lb_37 (j := 3) (b := 182) rfl) (lb_37 (j := 4) (b := 0) rfl) (lb_37 (j := 5) (b := 237) rfl) rfl
theorem dL_law_598 : decode cL_law 598 = .ok (.istore 7, 2) := de_54 (lb_37 (j := 6) (b := 54) rfl) (lb_37 (j := 7) (b := 7) rfl) rfl
theorem dL_law_600 : decode cL_law 600 = .ok (.goto 1839, 3) := de_167 (lb_37 (j := 8) (b := 167) rfl) (lb_37 (j := 9) (b := 7) rfl) (lb_37 (j := 10) (b := 47) rfl) (by decide +kernel)
theorem dL_law_603 : decode cL_law 603 = .ok (.aload_n 1, 1) := de_43 (lb_37 (j := 11) (b := 43) rfl)
theorem dL_law_604 : decode cL_law 604 = .ok (.invokevirtual 238, 3) := de_182 (lb_37 (j := 12) (b := 182) rfl) (lb_37 (j := 13) (b := 0) rfl) (lb_37 (j := 14) (b := 238) rfl) rfl
theorem dL_law_607 : decode cL_law 607 = .ok (.pop, 1) := de_87 (lb_37 (j := 15) (b := 87) rfl)
theorem dL_law_608 : decode cL_law 608 = .ok (.aload_n 2, 1) := de_44 (lb_38 (j := 0) (b := 44) rfl)
theorem dL_law_609 : decode cL_law 609 = .ok (.invokevirtual 241, 3) := de_182 (lb_38 (j := 1) (b := 182) rfl) (lb_38 (j := 2) (b := 0) rfl) (lb_38 (j := 3) (b := 241) rfl) rfl
theorem dL_law_612 : decode cL_law 612 = .ok (.pop, 1) := de_87 (lb_38 (j := 4) (b := 87) rfl)
theorem dL_law_613 : decode cL_law 613 = .ok (.goto 1826, 3) := de_167 (lb_38 (j := 5) (b := 167) rfl) (lb_38 (j := 6) (b := 7) rfl) (lb_38 (j := 7) (b := 34) rfl) (by decide +kernel)
theorem dL_law_616 : decode cL_law 616 = .ok (.aload_n 1, 1) := de_43 (lb_38 (j := 8) (b := 43) rfl)
theorem dL_law_617 : decode cL_law 617 = .ok (.aload_n 0, 1) := de_42 (lb_38 (j := 9) (b := 42) rfl)
theorem dL_law_618 : decode cL_law 618 = .ok (.iload 5, 2) := de_21 (lb_38 (j := 10) (b := 21) rfl) (lb_38 (j := 11) (b := 5) rfl) rfl
theorem dL_law_620 : decode cL_law 620 = .ok (.iconst 1, 1) := de_4 (lb_38 (j := 12) (b := 4) rfl)
theorem dL_law_621 : decode cL_law 621 = .ok (.iadd, 1) := de_96 (lb_38 (j := 13) (b := 96) rfl)
theorem dL_law_622 : decode cL_law 622 = .ok (.iaload, 1) := de_46 (lb_38 (j := 14) (b := 46) rfl)
theorem dL_law_623 : decode cL_law 623 = .ok (.aload_n 0, 1) := de_42 (lb_38 (j := 15) (b := 42) rfl)
theorem dL_law_624 : decode cL_law 624 = .ok (.iload 5, 2) := de_21 (lb_39 (j := 0) (b := 21) rfl) (lb_39 (j := 1) (b := 5) rfl) rfl
theorem dL_law_626 : decode cL_law 626 = .ok (.iconst 2, 1) := de_5 (lb_39 (j := 2) (b := 5) rfl)
theorem dL_law_627 : decode cL_law 627 = .ok (.iadd, 1) := de_96 (lb_39 (j := 3) (b := 96) rfl)
theorem dL_law_628 : decode cL_law 628 = .ok (.iaload, 1) := de_46 (lb_39 (j := 4) (b := 46) rfl)
theorem dL_law_629 : decode cL_law 629 = .ok (.aload_n 0, 1) := de_42 (lb_39 (j := 5) (b := 42) rfl)
theorem dL_law_630 : decode cL_law 630 = .ok (.iload 5, 2) := de_21 (lb_39 (j := 6) (b := 21) rfl) (lb_39 (j := 7) (b := 5) rfl) rfl
theorem dL_law_632 : decode cL_law 632 = .ok (.iconst 3, 1) := de_6 (lb_39 (j := 8) (b := 6) rfl)
theorem dL_law_633 : decode cL_law 633 = .ok (.iadd, 1) := de_96 (lb_39 (j := 9) (b := 96) rfl)
theorem dL_law_634 : decode cL_law 634 = .ok (.iaload, 1) := de_46 (lb_39 (j := 10) (b := 46) rfl)
theorem dL_law_635 : decode cL_law 635 = .ok (.aload_n 3, 1) := de_45 (lb_39 (j := 11) (b := 45) rfl)
theorem dL_law_636 : decode cL_law 636 = .ok (.invokestatic 242, 3) := de_184 (lb_39 (j := 12) (b := 184) rfl) (lb_39 (j := 13) (b := 0) rfl) (lb_39 (j := 14) (b := 242) rfl) rfl
theorem dL_law_639 : decode cL_law 639 = .ok (.istore 6, 2) := de_54 (lb_39 (j := 15) (b := 54) rfl) (lb_40 (j := 0) (b := 6) rfl) rfl
theorem dL_law_641 : decode cL_law 641 = .ok (.aload_n 2, 1) := de_44 (lb_40 (j := 1) (b := 44) rfl)
theorem dL_law_642 : decode cL_law 642 = .ok (.aload_n 0, 1) := de_42 (lb_40 (j := 2) (b := 42) rfl)
theorem dL_law_643 : decode cL_law 643 = .ok (.iload 5, 2) := de_21 (lb_40 (j := 3) (b := 21) rfl) (lb_40 (j := 4) (b := 5) rfl) rfl
theorem dL_law_645 : decode cL_law 645 = .ok (.iconst 1, 1) := de_4 (lb_40 (j := 5) (b := 4) rfl)
theorem dL_law_646 : decode cL_law 646 = .ok (.iadd, 1) := de_96 (lb_40 (j := 6) (b := 96) rfl)
theorem dL_law_647 : decode cL_law 647 = .ok (.iaload, 1) := de_46 (lb_40 (j := 7) (b := 46) rfl)
theorem dL_law_648 : decode cL_law 648 = .ok (.aload_n 0, 1) := de_42 (lb_40 (j := 8) (b := 42) rfl)
theorem dL_law_649 : decode cL_law 649 = .ok (.iload 5, 2) := de_21 (lb_40 (j := 9) (b := 21) rfl) (lb_40 (j := 10) (b := 5) rfl) rfl
theorem dL_law_651 : decode cL_law 651 = .ok (.iconst 2, 1) := de_5 (lb_40 (j := 11) (b := 5) rfl)
theorem dL_law_652 : decode cL_law 652 = .ok (.iadd, 1) := de_96 (lb_40 (j := 12) (b := 96) rfl)
theorem dL_law_653 : decode cL_law 653 = .ok (.iaload, 1) := de_46 (lb_40 (j := 13) (b := 46) rfl)
theorem dL_law_654 : decode cL_law 654 = .ok (.aload_n 0, 1) := de_42 (lb_40 (j := 14) (b := 42) rfl)
theorem dL_law_655 : decode cL_law 655 = .ok (.iload 5, 2) := de_21 (lb_40 (j := 15) (b := 21) rfl) (lb_41 (j := 0) (b := 5) rfl) rfl
theorem dL_law_657 : decode cL_law 657 = .ok (.iconst 3, 1) := de_6 (lb_41 (j := 1) (b := 6) rfl)
theorem dL_law_658 : decode cL_law 658 = .ok (.iadd, 1) := de_96 (lb_41 (j := 2) (b := 96) rfl)
theorem dL_law_659 : decode cL_law 659 = .ok (.iaload, 1) := de_46 (lb_41 (j := 3) (b := 46) rfl)
theorem dL_law_660 : decode cL_law 660 = .ok (.invokevirtual 245, 3) := de_182 (lb_41 (j := 4) (b := 182) rfl) (lb_41 (j := 5) (b := 0) rfl) (lb_41 (j := 6) (b := 245) rfl) rfl
theorem dL_law_663 : decode cL_law 663 = .ok (.istore 7, 2) := de_54 (lb_41 (j := 7) (b := 54) rfl) (lb_41 (j := 8) (b := 7) rfl) rfl
theorem dL_law_665 : decode cL_law 665 = .ok (.goto 1774, 3) := de_167 (lb_41 (j := 9) (b := 167) rfl) (lb_41 (j := 10) (b := 6) rfl) (lb_41 (j := 11) (b := 238) rfl) (by decide +kernel)
theorem dL_law_668 : decode cL_law 668 = .ok (.aload_n 1, 1) := de_43 (lb_41 (j := 12) (b := 43) rfl)
theorem dL_law_669 : decode cL_law 669 = .ok (.aload_n 0, 1) := de_42 (lb_41 (j := 13) (b := 42) rfl)
theorem dL_law_670 : decode cL_law 670 = .ok (.iload 5, 2) := de_21 (lb_41 (j := 14) (b := 21) rfl) (lb_41 (j := 15) (b := 5) rfl) rfl
theorem dL_law_672 : decode cL_law 672 = .ok (.iconst 1, 1) := de_4 (lb_42 (j := 0) (b := 4) rfl)
theorem dL_law_673 : decode cL_law 673 = .ok (.iadd, 1) := de_96 (lb_42 (j := 1) (b := 96) rfl)
theorem dL_law_674 : decode cL_law 674 = .ok (.iaload, 1) := de_46 (lb_42 (j := 2) (b := 46) rfl)
theorem dL_law_675 : decode cL_law 675 = .ok (.aload_n 3, 1) := de_45 (lb_42 (j := 3) (b := 45) rfl)
theorem dL_law_676 : decode cL_law 676 = .ok (.invokestatic 246, 3) := de_184 (lb_42 (j := 4) (b := 184) rfl) (lb_42 (j := 5) (b := 0) rfl) (lb_42 (j := 6) (b := 246) rfl) rfl
theorem dL_law_679 : decode cL_law 679 = .ok (.istore 6, 2) := de_54 (lb_42 (j := 7) (b := 54) rfl) (lb_42 (j := 8) (b := 6) rfl) rfl
theorem dL_law_681 : decode cL_law 681 = .ok (.aload_n 2, 1) := de_44 (lb_42 (j := 9) (b := 44) rfl)
theorem dL_law_682 : decode cL_law 682 = .ok (.aload_n 0, 1) := de_42 (lb_42 (j := 10) (b := 42) rfl)
theorem dL_law_683 : decode cL_law 683 = .ok (.iload 5, 2) := de_21 (lb_42 (j := 11) (b := 21) rfl) (lb_42 (j := 12) (b := 5) rfl) rfl
theorem dL_law_685 : decode cL_law 685 = .ok (.iconst 1, 1) := de_4 (lb_42 (j := 13) (b := 4) rfl)
theorem dL_law_686 : decode cL_law 686 = .ok (.iadd, 1) := de_96 (lb_42 (j := 14) (b := 96) rfl)
theorem dL_law_687 : decode cL_law 687 = .ok (.iaload, 1) := de_46 (lb_42 (j := 15) (b := 46) rfl)
theorem dL_law_688 : decode cL_law 688 = .ok (.invokevirtual 248, 3) := de_182 (lb_43 (j := 0) (b := 182) rfl) (lb_43 (j := 1) (b := 0) rfl) (lb_43 (j := 2) (b := 248) rfl) rfl
theorem dL_law_691 : decode cL_law 691 = .ok (.istore 7, 2) := de_54 (lb_43 (j := 3) (b := 54) rfl) (lb_43 (j := 4) (b := 7) rfl) rfl
theorem dL_law_693 : decode cL_law 693 = .ok (.goto 1746, 3) := de_167 (lb_43 (j := 5) (b := 167) rfl) (lb_43 (j := 6) (b := 6) rfl) (lb_43 (j := 7) (b := 210) rfl) (by decide +kernel)
theorem dL_law_696 : decode cL_law 696 = .ok (.aload_n 1, 1) := de_43 (lb_43 (j := 8) (b := 43) rfl)
theorem dL_law_697 : decode cL_law 697 = .ok (.aload_n 0, 1) := de_42 (lb_43 (j := 9) (b := 42) rfl)
theorem dL_law_698 : decode cL_law 698 = .ok (.iload 5, 2) := de_21 (lb_43 (j := 10) (b := 21) rfl) (lb_43 (j := 11) (b := 5) rfl) rfl
theorem dL_law_700 : decode cL_law 700 = .ok (.iconst 1, 1) := de_4 (lb_43 (j := 12) (b := 4) rfl)
theorem dL_law_701 : decode cL_law 701 = .ok (.iadd, 1) := de_96 (lb_43 (j := 13) (b := 96) rfl)
theorem dL_law_702 : decode cL_law 702 = .ok (.iaload, 1) := de_46 (lb_43 (j := 14) (b := 46) rfl)
theorem dL_law_703 : decode cL_law 703 = .ok (.aload_n 0, 1) := de_42 (lb_43 (j := 15) (b := 42) rfl)
theorem dL_law_704 : decode cL_law 704 = .ok (.iload 5, 2) := de_21 (lb_44 (j := 0) (b := 21) rfl) (lb_44 (j := 1) (b := 5) rfl) rfl
theorem dL_law_706 : decode cL_law 706 = .ok (.iconst 2, 1) := de_5 (lb_44 (j := 2) (b := 5) rfl)
theorem dL_law_707 : decode cL_law 707 = .ok (.iadd, 1) := de_96 (lb_44 (j := 3) (b := 96) rfl)
theorem dL_law_708 : decode cL_law 708 = .ok (.iaload, 1) := de_46 (lb_44 (j := 4) (b := 46) rfl)
theorem dL_law_709 : decode cL_law 709 = .ok (.aload_n 3, 1) := de_45 (lb_44 (j := 5) (b := 45) rfl)
theorem dL_law_710 : decode cL_law 710 = .ok (.invokestatic 249, 3) := de_184 (lb_44 (j := 6) (b := 184) rfl) (lb_44 (j := 7) (b := 0) rfl) (lb_44 (j := 8) (b := 249) rfl) rfl
theorem dL_law_713 : decode cL_law 713 = .ok (.istore 6, 2) := de_54 (lb_44 (j := 9) (b := 54) rfl) (lb_44 (j := 10) (b := 6) rfl) rfl
theorem dL_law_715 : decode cL_law 715 = .ok (.aload_n 2, 1) := de_44 (lb_44 (j := 11) (b := 44) rfl)
theorem dL_law_716 : decode cL_law 716 = .ok (.aload_n 0, 1) := de_42 (lb_44 (j := 12) (b := 42) rfl)
theorem dL_law_717 : decode cL_law 717 = .ok (.iload 5, 2) := de_21 (lb_44 (j := 13) (b := 21) rfl) (lb_44 (j := 14) (b := 5) rfl) rfl
theorem dL_law_719 : decode cL_law 719 = .ok (.iconst 1, 1) := de_4 (lb_44 (j := 15) (b := 4) rfl)
theorem dL_law_720 : decode cL_law 720 = .ok (.iadd, 1) := de_96 (lb_45 (j := 0) (b := 96) rfl)
theorem dL_law_721 : decode cL_law 721 = .ok (.iaload, 1) := de_46 (lb_45 (j := 1) (b := 46) rfl)
theorem dL_law_722 : decode cL_law 722 = .ok (.aload_n 0, 1) := de_42 (lb_45 (j := 2) (b := 42) rfl)
theorem dL_law_723 : decode cL_law 723 = .ok (.iload 5, 2) := de_21 (lb_45 (j := 3) (b := 21) rfl) (lb_45 (j := 4) (b := 5) rfl) rfl
theorem dL_law_725 : decode cL_law 725 = .ok (.iconst 2, 1) := de_5 (lb_45 (j := 5) (b := 5) rfl)
theorem dL_law_726 : decode cL_law 726 = .ok (.iadd, 1) := de_96 (lb_45 (j := 6) (b := 96) rfl)
theorem dL_law_727 : decode cL_law 727 = .ok (.iaload, 1) := de_46 (lb_45 (j := 7) (b := 46) rfl)
theorem dL_law_728 : decode cL_law 728 = .ok (.invokevirtual 251, 3) := de_182 (lb_45 (j := 8) (b := 182) rfl) (lb_45 (j := 9) (b := 0) rfl) (lb_45 (j := 10) (b := 251) rfl) rfl
theorem dL_law_731 : decode cL_law 731 = .ok (.istore 7, 2) := de_54 (lb_45 (j := 11) (b := 54) rfl) (lb_45 (j := 12) (b := 7) rfl) rfl
theorem dL_law_733 : decode cL_law 733 = .ok (.goto 1706, 3) := de_167 (lb_45 (j := 13) (b := 167) rfl) (lb_45 (j := 14) (b := 6) rfl) (lb_45 (j := 15) (b := 170) rfl) (by decide +kernel)
theorem dL_law_736 : decode cL_law 736 = .ok (.aload_n 1, 1) := de_43 (lb_46 (j := 0) (b := 43) rfl)
theorem dL_law_737 : decode cL_law 737 = .ok (.invokevirtual 252, 3) := de_182 (lb_46 (j := 1) (b := 182) rfl) (lb_46 (j := 2) (b := 0) rfl) (lb_46 (j := 3) (b := 252) rfl) rfl
theorem dL_law_740 : decode cL_law 740 = .ok (.pop, 1) := de_87 (lb_46 (j := 4) (b := 87) rfl)
theorem dL_law_741 : decode cL_law 741 = .ok (.aload_n 2, 1) := de_44 (lb_46 (j := 5) (b := 44) rfl)
theorem dL_law_742 : decode cL_law 742 = .ok (.invokevirtual 255, 3) := de_182 (lb_46 (j := 6) (b := 182) rfl) (lb_46 (j := 7) (b := 0) rfl) (lb_46 (j := 8) (b := 255) rfl) rfl
theorem dL_law_745 : decode cL_law 745 = .ok (.pop, 1) := de_87 (lb_46 (j := 9) (b := 87) rfl)
theorem dL_law_746 : decode cL_law 746 = .ok (.goto 1693, 3) := de_167 (lb_46 (j := 10) (b := 167) rfl) (lb_46 (j := 11) (b := 6) rfl) (lb_46 (j := 12) (b := 157) rfl) (by decide +kernel)
set_option maxHeartbeats 4000000 in
set_option maxRecDepth 100000 in
theorem y_a8 {p : Program} {e : Env} {s : State} {m : MethodId} {below : List Frame} {meth : Method} {c : Code} (l : Launch) (hst : l.stackTraces = false) {b L : Nat} {xs : Nat → Int32} (hx : p.tables.exec = Jvm.exec) (hb : c.code = code) (hml : c.maxLocals = 9) (hown : s.vm.findClass RL = some m.cls) (hts : ∀ w ∈ lw_tbl, w.before #[Value.ref b] s = true) (hX0 : va_X b L xs s s.heap) (hbl : b < s.heap.size) (hX : xT (fun q => s.heap.size ≤ q) s) (hN : nC s) (hTS : sAll s.heap.size s) {D : va_G} {cI cJ cZ cMic cSrc cSt cAI cAJ cD : ClassId} (hK : va_K D vwCl (CT cI cJ cZ cMic cSrc cSt cAI cAJ ++ [(cD, .double)]) s) {Q : State → Prop} {i j : Nat} (hi : i + 6 ≤ L) (hL : L ≤ 3072) (hj : j < 512) {aj ae : Nat} {ad am : Nat → Nat} {T : AT} {Sm : MS} {f : Nat → Int64} {g : Nat → UInt64} {ls : Array Slot} {H : Heap} {locs : List Loc} (hV : IV aR0 1586 aK1 aK2 T) (hrc : RC T) (hJ : JJ Sm) (G : gL cI cJ cZ cMic cSrc cSt cAI cAJ D ad (fun q => s.heap.size ≤ q) s.heap H locs T (oJ aj cJ f :: oD ae cD g :: MW cI cJ cZ am Sm)) (hl : lv_has ls 9 [(5, .int (nI i)), (4, .ref ae), (3, .ref aj), (2, .ref (am 0)), (1, .ref (ad 0)), (0, .ref b)]) (kk : ∀ {r1 : Int32} {T1 : AT} {r2 : Int32} {S1 : MS} (ad2 : Nat → Nat) (f1 : Nat → Int64) (g1 : Nat → UInt64) (H1 : Heap) (locs1 : List Loc) (ls1 : Array Slot), g_X11_columns T 0 = some (r1, T1) → fr_columns Sm = some (r2, S1) → ad2 0 = ad 0 → IV aR0 1586 aK1 aK2 T1 → RC T1 → JJ S1 → gL cI cJ cZ cMic cSrc cSt cAI cAJ D ad2 (fun q => s.heap.size ≤ q) s.heap H1 locs1 T1 (oJ aj cJ f1 :: oD ae cD g1 :: MW cI cJ cZ am S1) → lv_has ls1 9 [(5, .int (nI i)), (4, .ref ae), (3, .ref aj), (2, .ref (am 0)), (1, .ref (ad2 0)), (0, .ref b)] → W p l e room_1 s m #[Value.ref b] below meth c H1 locs1 (19 + T1.1 + (j + 1)) (38467 + sg T1 + 6 * (j + 1)) Q (F0 m 2439 ls1 [])) : W p l e room_1 s m #[Value.ref b] below meth c H locs (19 + T.1 + j) (38467 + sg T + 6 * j) Q (F0 m 537 ls []) := by
  have E : cE p c cL_law s m #[Value.ref b] lw_tbl D RL (CT cI cJ cZ cMic cSrc cSt cAI cAJ ++ [(cD, .double)]) := ⟨hx, hb, hts, hown, hK⟩
  have hA : ∀ q : Nat, s.heap.size ≤ q → s.heap.size ≤ q := fun _ h => h
  have h0T : 0 < T.1 := Nat.lt_of_lt_of_le (by decide) hV.1.2.2
  have h0s : T.2.1 0 = (11, 0) := hV.2.1 0 ⟨by decide, by decide +kernel, by decide +kernel⟩
  refine lv_aload_n hx hb dL_law_537 rfl (lv_at hl 4 rfl) ?_
  obtain ⟨⟨r1, T1⟩, hg, hc⟩ := cs_X11_columns T 0 hV (by decide +kernel)
  have hV1 : IV aR0 1586 aK1 aK2 T1 := by rw [show T1 = T from hc.1]; exact hV
  have hg1 := (gl_sp (s_X11_columns hg))
  have hg2 := sg_le hg1
  have hg3 := hg1.1
  have hk := hV1.2.2.2.2.2.2
  have hrc1 := hg1.2.2 hrc
  have hr0 := a_room
  refine t_cvi (As := []) (rest := []) E G hA hX hX.2.2.2.1 hml (u_X11_columns l hst D cI cJ cZ cMic cSrc cSt cAI cAJ ad T 0  hg) (cwV 0 hts (glA (L := [Cond.methodLink RL 227 yX11_columns, Cond.instanceMethod yX11_columns, Cond.selects RX11 yX11_columns yX11_columns, Cond.initialized RX11]) (gl_in [(3, 72), (3, 73), (3, 74), (1, 1)] (by decide +kernel) (by decide +kernel)) ⟨(t_of [Cond.code yX11_columns cX11_columns 1 (some .int)] [(3, 75)] (by decide +kernel) _ List.mem_cons_self), List.all_eq_true.mp (by decide +kernel : [Cond.code yX11_columns cX11_columns 1 (some .int)].all goodWord = true) _ List.mem_cons_self⟩) rfl rfl rfl (by decide +kernel) ⟨Nat.le_of_ble_eq_true rfl, Nat.le_of_ble_eq_true rfl⟩) h0T (cc_o11 h0s) rfl rfl hl.1 rfl (lv_room (Nat.le_of_ble_eq_true rfl)) dL_law_538 ⟨by show _ ≤ 601024; omega, by show _ ≤ 7293034; omega⟩ ?_
  intro r9 T9 H locs hp G
  obtain ⟨hr9, hS1⟩ := hp
  rw [hS1] at G
  refine lv_to (y := r1) hr9 ?_
  refine lv_pop hx hb dL_law_541 rfl ?_
  refine lv_aload_n hx hb dL_law_542 rfl (lv_at hl 3 rfl) ?_
  obtain ⟨⟨r2, S1⟩, hf, hj⟩ := sj_columns Sm hJ
  have hJ1 : JJ S1 := hj
  refine y_mi (As := []) (rest := []) E G hA hX.2.2.2.2 hml (tr_columns l D cI cJ cZ am Sm  hf) (cwV 0 hts (glM (L := [Cond.methodLink RL 230 yX12_columns, Cond.instanceMethod yX12_columns, Cond.selects RX12 yX12_columns yX12_columns, Cond.initialized RX12]) (gl_in [(9, 68), (9, 69), (9, 70), (1, 14)] (by decide +kernel) (by decide +kernel)) ⟨(t_of [Cond.code yX12_columns cX12_columns 1 (some .int)] [(9, 71)] (by decide +kernel) _ List.mem_cons_self), List.all_eq_true.mp (by decide +kernel : [Cond.code yX12_columns cX12_columns 1 (some .int)].all goodWord = true) _ List.mem_cons_self⟩) rfl rfl rfl (by decide +kernel) ⟨Nat.le_of_ble_eq_true rfl, Nat.le_of_ble_eq_true rfl⟩) rfl hl.1 rfl (lv_room (Nat.le_of_ble_eq_true rfl)) dL_law_543 ⟨by show _ ≤ 601024; omega, by show _ ≤ 7293034; omega⟩ (fun H locs G => ?_)
  refine lv_pop hx hb dL_law_546 rfl ?_
  refine lv_goto (tgt := 2439) hx hb dL_law_547 (by decide) ?_
  refine W.widen (k := 19 + T1.1 + (j + 1)) (n := 38467 + sg T1 + 6 * (j + 1)) (by omega) (by omega) ?_
  exact kk ad f g H locs ls hg hf rfl hV1 hrc1 hJ1 G hl
set_option maxHeartbeats 4000000 in
set_option maxRecDepth 100000 in
theorem y_a9 {p : Program} {e : Env} {s : State} {m : MethodId} {below : List Frame} {meth : Method} {c : Code} (l : Launch) (hst : l.stackTraces = false) {b L : Nat} {xs : Nat → Int32} (hx : p.tables.exec = Jvm.exec) (hb : c.code = code) (hml : c.maxLocals = 9) (hown : s.vm.findClass RL = some m.cls) (hts : ∀ w ∈ lw_tbl, w.before #[Value.ref b] s = true) (hX0 : va_X b L xs s s.heap) (hbl : b < s.heap.size) (hX : xT (fun q => s.heap.size ≤ q) s) (hN : nC s) (hTS : sAll s.heap.size s) {D : va_G} {cI cJ cZ cMic cSrc cSt cAI cAJ cD : ClassId} (hK : va_K D vwCl (CT cI cJ cZ cMic cSrc cSt cAI cAJ ++ [(cD, .double)]) s) {Q : State → Prop} {i j : Nat} (hi : i + 6 ≤ L) (hL : L ≤ 3072) (hj : j < 512) {aj ae : Nat} {ad am : Nat → Nat} {T : AT} {Sm : MS} {f : Nat → Int64} {g : Nat → UInt64} {ls : Array Slot} {H : Heap} {locs : List Loc} (hV : IV aR0 1586 aK1 aK2 T) (hrc : RC T) (hJ : JJ Sm) (G : gL cI cJ cZ cMic cSrc cSt cAI cAJ D ad (fun q => s.heap.size ≤ q) s.heap H locs T (oJ aj cJ f :: oD ae cD g :: MW cI cJ cZ am Sm)) (hl : lv_has ls 9 [(5, .int (nI i)), (4, .ref ae), (3, .ref aj), (2, .ref (am 0)), (1, .ref (ad 0)), (0, .ref b)]) (kk : ∀ {r1 : Int32} {T1 : AT} {r2 : Int32} {S1 : MS} (ad2 : Nat → Nat) (f1 : Nat → Int64) (g1 : Nat → UInt64) (H1 : Heap) (locs1 : List Loc) (ls1 : Array Slot), g_X11_rows T 0 = some (r1, T1) → fr_rows Sm = some (r2, S1) → ad2 0 = ad 0 → IV aR0 1586 aK1 aK2 T1 → RC T1 → JJ S1 → gL cI cJ cZ cMic cSrc cSt cAI cAJ D ad2 (fun q => s.heap.size ≤ q) s.heap H1 locs1 T1 (oJ aj cJ f1 :: oD ae cD g1 :: MW cI cJ cZ am S1) → lv_has ls1 9 [(5, .int (nI i)), (4, .ref ae), (3, .ref aj), (2, .ref (am 0)), (1, .ref (ad2 0)), (0, .ref b)] → W p l e room_1 s m #[Value.ref b] below meth c H1 locs1 (19 + T1.1 + (j + 1)) (38467 + sg T1 + 6 * (j + 1)) Q (F0 m 2439 ls1 [])) : W p l e room_1 s m #[Value.ref b] below meth c H locs (19 + T.1 + j) (38467 + sg T + 6 * j) Q (F0 m 550 ls []) := by
  have E : cE p c cL_law s m #[Value.ref b] lw_tbl D RL (CT cI cJ cZ cMic cSrc cSt cAI cAJ ++ [(cD, .double)]) := ⟨hx, hb, hts, hown, hK⟩
  have hA : ∀ q : Nat, s.heap.size ≤ q → s.heap.size ≤ q := fun _ h => h
  have h0T : 0 < T.1 := Nat.lt_of_lt_of_le (by decide) hV.1.2.2
  have h0s : T.2.1 0 = (11, 0) := hV.2.1 0 ⟨by decide, by decide +kernel, by decide +kernel⟩
  refine lv_aload_n hx hb dL_law_550 rfl (lv_at hl 4 rfl) ?_
  obtain ⟨⟨r1, T1⟩, hg, hc⟩ := cs_X11_rows T 0 hV (by decide +kernel)
  have hV1 : IV aR0 1586 aK1 aK2 T1 := by rw [show T1 = T from hc.1]; exact hV
  have hg1 := (gl_sp (s_X11_rows hg))
  have hg2 := sg_le hg1
  have hg3 := hg1.1
  have hk := hV1.2.2.2.2.2.2
  have hrc1 := hg1.2.2 hrc
  have hr0 := a_room
  refine t_cvi (As := []) (rest := []) E G hA hX hX.2.2.2.1 hml (u_X11_rows l hst D cI cJ cZ cMic cSrc cSt cAI cAJ ad T 0  hg) (cwV 0 hts (glA (L := [Cond.methodLink RL 231 yX11_rows, Cond.instanceMethod yX11_rows, Cond.selects RX11 yX11_rows yX11_rows, Cond.initialized RX11]) (gl_in [(3, 76), (3, 77), (3, 78), (1, 1)] (by decide +kernel) (by decide +kernel)) ⟨(t_of [Cond.code yX11_rows cX11_rows 1 (some .int)] [(3, 79)] (by decide +kernel) _ List.mem_cons_self), List.all_eq_true.mp (by decide +kernel : [Cond.code yX11_rows cX11_rows 1 (some .int)].all goodWord = true) _ List.mem_cons_self⟩) rfl rfl rfl (by decide +kernel) ⟨Nat.le_of_ble_eq_true rfl, Nat.le_of_ble_eq_true rfl⟩) h0T (cc_o11 h0s) rfl rfl hl.1 rfl (lv_room (Nat.le_of_ble_eq_true rfl)) dL_law_551 ⟨by show _ ≤ 601024; omega, by show _ ≤ 7293034; omega⟩ ?_
  intro r9 T9 H locs hp G
  obtain ⟨hr9, hS1⟩ := hp
  rw [hS1] at G
  refine lv_to (y := r1) hr9 ?_
  refine lv_pop hx hb dL_law_554 rfl ?_
  refine lv_aload_n hx hb dL_law_555 rfl (lv_at hl 3 rfl) ?_
  obtain ⟨⟨r2, S1⟩, hf, hj⟩ := sj_rows Sm hJ
  have hJ1 : JJ S1 := hj
  refine y_mi (As := []) (rest := []) E G hA hX.2.2.2.2 hml (tr_rows l D cI cJ cZ am Sm  hf) (cwV 0 hts (glM (L := [Cond.methodLink RL 234 yX12_rows, Cond.instanceMethod yX12_rows, Cond.selects RX12 yX12_rows yX12_rows, Cond.initialized RX12]) (gl_in [(9, 72), (9, 73), (9, 74), (1, 14)] (by decide +kernel) (by decide +kernel)) ⟨(t_of [Cond.code yX12_rows cX12_rows 1 (some .int)] [(9, 75)] (by decide +kernel) _ List.mem_cons_self), List.all_eq_true.mp (by decide +kernel : [Cond.code yX12_rows cX12_rows 1 (some .int)].all goodWord = true) _ List.mem_cons_self⟩) rfl rfl rfl (by decide +kernel) ⟨Nat.le_of_ble_eq_true rfl, Nat.le_of_ble_eq_true rfl⟩) rfl hl.1 rfl (lv_room (Nat.le_of_ble_eq_true rfl)) dL_law_556 ⟨by show _ ≤ 601024; omega, by show _ ≤ 7293034; omega⟩ (fun H locs G => ?_)
  refine lv_pop hx hb dL_law_559 rfl ?_
  refine lv_goto (tgt := 2439) hx hb dL_law_560 (by decide) ?_
  refine W.widen (k := 19 + T1.1 + (j + 1)) (n := 38467 + sg T1 + 6 * (j + 1)) (by omega) (by omega) ?_
  exact kk ad f g H locs ls hg hf rfl hV1 hrc1 hJ1 G hl
set_option maxHeartbeats 4000000 in
set_option maxRecDepth 100000 in
theorem y_a10 {p : Program} {e : Env} {s : State} {m : MethodId} {below : List Frame} {meth : Method} {c : Code} (l : Launch) (hst : l.stackTraces = false) {b L : Nat} {xs : Nat → Int32} (hx : p.tables.exec = Jvm.exec) (hb : c.code = code) (hml : c.maxLocals = 9) (hown : s.vm.findClass RL = some m.cls) (hts : ∀ w ∈ lw_tbl, w.before #[Value.ref b] s = true) (hX0 : va_X b L xs s s.heap) (hbl : b < s.heap.size) (hX : xT (fun q => s.heap.size ≤ q) s) (hN : nC s) (hTS : sAll s.heap.size s) {D : va_G} {cI cJ cZ cMic cSrc cSt cAI cAJ cD : ClassId} (hK : va_K D vwCl (CT cI cJ cZ cMic cSrc cSt cAI cAJ ++ [(cD, .double)]) s) {Q : State → Prop} {i j : Nat} (hi : i + 6 ≤ L) (hL : L ≤ 3072) (hj : j < 512) {aj ae : Nat} {ad am : Nat → Nat} {T : AT} {Sm : MS} {f : Nat → Int64} {g : Nat → UInt64} {ls : Array Slot} {H : Heap} {locs : List Loc} (hV : IV aR0 1586 aK1 aK2 T) (hrc : RC T) (hJ : JJ Sm) (G : gL cI cJ cZ cMic cSrc cSt cAI cAJ D ad (fun q => s.heap.size ≤ q) s.heap H locs T (oJ aj cJ f :: oD ae cD g :: MW cI cJ cZ am Sm)) (hl : lv_has ls 9 [(5, .int (nI i)), (4, .ref ae), (3, .ref aj), (2, .ref (am 0)), (1, .ref (ad 0)), (0, .ref b)]) (kk : ∀ {k1 : Nat} {r1 : Int32} {T1 : AT} {r2 : Int32} {S1 : MS} (ad2 : Nat → Nat) (f1 : Nat → Int64) (g1 : Nat → UInt64) (H1 : Heap) (locs1 : List Loc) (ls1 : Array Slot), g_X11_cellAt T 0 (xs (i + 1)) (xs (i + 2)) = some (k1, r1, T1) → fr_cellAt Sm (xs (i + 1)) (xs (i + 2)) = some (r2, S1) → ad2 0 = ad 0 → IV aR0 1586 aK1 aK2 T1 → RC T1 → JJ S1 → gL cI cJ cZ cMic cSrc cSt cAI cAJ D ad2 (fun q => s.heap.size ≤ q) s.heap H1 locs1 T1 (oJ aj cJ f1 :: oD ae cD g1 :: MW cI cJ cZ am S1) → lv_has ls1 9 [(5, .int (nI i)), (4, .ref ae), (3, .ref aj), (2, .ref (am 0)), (1, .ref (ad2 0)), (0, .ref b)] → W p l e room_1 s m #[Value.ref b] below meth c H1 locs1 (19 + T1.1 + (j + 1)) (38467 + sg T1 + 6 * (j + 1)) Q (F0 m 2439 ls1 [])) : W p l e room_1 s m #[Value.ref b] below meth c H locs (19 + T.1 + j) (38467 + sg T + 6 * j) Q (F0 m 563 ls []) := by
  have E : cE p c cL_law s m #[Value.ref b] lw_tbl D RL (CT cI cJ cZ cMic cSrc cSt cAI cAJ ++ [(cD, .double)]) := ⟨hx, hb, hts, hown, hK⟩
  have hA : ∀ q : Nat, s.heap.size ≤ q → s.heap.size ≤ q := fun _ h => h
  have h0T : 0 < T.1 := Nat.lt_of_lt_of_le (by decide) hV.1.2.2
  have h0s : T.2.1 0 = (11, 0) := hV.2.1 0 ⟨by decide, by decide +kernel, by decide +kernel⟩
  refine lv_aload_n hx hb dL_law_563 rfl (lv_at hl 4 rfl) ?_
  refine lv_aload_n hx hb dL_law_564 rfl (lv_at hl 5 rfl) ?_
  refine lv_iload hx hb dL_law_565 (lv_at hl 0 rfl) ?_
  refine lv_iconst (v := 1) hx hb dL_law_567 (by decide) ?_
  refine lv_iadd hx hb dL_law_568 ?_
  refine lv_to (y := nI (i + 1)) (nI_add i 1) ?_
  refine va_sld hx hb hX0 hbl (Nat.not_le.mpr hbl) G.2.2 (i := nI (i + 1)) (vp_in_nI (n := i + 1) (N := L) (by omega) (by omega)) dL_law_569 ?_
  refine lv_to (y := xs (i + 1)) (congrArg xs (nI_clamp (by omega))) ?_
  refine lv_aload_n hx hb dL_law_570 rfl (lv_at hl 5 rfl) ?_
  refine lv_iload hx hb dL_law_571 (lv_at hl 0 rfl) ?_
  refine lv_iconst (v := 2) hx hb dL_law_573 (by decide) ?_
  refine lv_iadd hx hb dL_law_574 ?_
  refine lv_to (y := nI (i + 2)) (nI_add i 2) ?_
  refine va_sld hx hb hX0 hbl (Nat.not_le.mpr hbl) G.2.2 (i := nI (i + 2)) (vp_in_nI (n := i + 2) (N := L) (by omega) (by omega)) dL_law_575 ?_
  refine lv_to (y := xs (i + 2)) (congrArg xs (nI_clamp (by omega))) ?_
  refine lv_aload_n hx hb dL_law_576 rfl (lv_at hl 2 rfl) ?_
  obtain ⟨⟨k1, r1, T1⟩, hg, hc⟩ := cs_X11_cellAt T 0 (xs (i + 1)) (xs (i + 2)) hV (by decide +kernel)
  have hV1 : IV aR0 1586 aK1 aK2 T1 := by rw [show T1 = T from hc.1]; exact hV
  have hg1 := (gl_sp (s_X11_cellAt hg))
  have hg2 := sg_le hg1
  have hg3 := hg1.1
  have hk := hV1.2.2.2.2.2.2
  have hrc1 := hg1.2.2 hrc
  have hr0 := a_room
  refine l_v (h0 := s.heap.size) (As := [.ref (ad 0), .int (xs (i + 1)), .int (xs (i + 2)), .ref aj]) (rest := []) E G hA hX hN (fun _ h => h) hTS hml (v_cellAt l hst D s.heap.size ad T 0 (xs (i + 1)) (xs (i + 2)) aj f hg hrc h0T h0s) (vx_cwSW 4 hts (glA (L := [Cond.methodLink RL 235 yL_cellAt, Cond.static yL_cellAt, Cond.initialized RL]) (gl_in [(5, 66), (5, 67), (1, 0)] (by decide +kernel) (by decide +kernel)) ⟨(t_of [Cond.codeWith yL_cellAt cL_cellAt 5 (some .int) [(0, 10, 13, 21), (0, 10, 17, 13), (0, 10, 21, 15)]] [(5, 68)] (by decide +kernel) _ List.mem_cons_self), List.all_eq_true.mp (by decide +kernel : [Cond.codeWith yL_cellAt cL_cellAt 5 (some .int) [(0, 10, 13, 21), (0, 10, 17, 13), (0, 10, 21, 15)]].all goodWord = true) _ List.mem_cons_self⟩) rfl rfl rfl (by decide +kernel) ⟨Nat.le_of_ble_eq_true rfl, Nat.le_of_ble_eq_true rfl⟩) rfl hl.1 rfl (lv_room (Nat.le_of_ble_eq_true rfl)) dL_law_577 ⟨by show _ ≤ 601024; omega, by show _ ≤ 7293034; omega⟩ ?_
  intro ad2 H locs had G
  rw [← had 0 h0T] at hl
  refine lv_istore (lv' := [(6, .int (vck 1 2 3 k1)), (5, .int (nI i)), (4, .ref ae), (3, .ref aj), (2, .ref (am 0)), (1, .ref (ad2 0)), (0, .ref b)]) hx hb dL_law_580 hl (by decide) rfl (fun ls hl => ?_)
  refine lv_aload_n hx hb dL_law_582 rfl (lv_at hl 4 rfl) ?_
  refine lv_aload_n hx hb dL_law_583 rfl (lv_at hl 6 rfl) ?_
  refine lv_iload hx hb dL_law_584 (lv_at hl 1 rfl) ?_
  refine lv_iconst (v := 1) hx hb dL_law_586 (by decide) ?_
  refine lv_iadd hx hb dL_law_587 ?_
  refine lv_to (y := nI (i + 1)) (nI_add i 1) ?_
  refine va_sld hx hb hX0 hbl (Nat.not_le.mpr hbl) G.2.2 (i := nI (i + 1)) (vp_in_nI (n := i + 1) (N := L) (by omega) (by omega)) dL_law_588 ?_
  refine lv_to (y := xs (i + 1)) (congrArg xs (nI_clamp (by omega))) ?_
  refine lv_aload_n hx hb dL_law_589 rfl (lv_at hl 6 rfl) ?_
  refine lv_iload hx hb dL_law_590 (lv_at hl 1 rfl) ?_
  refine lv_iconst (v := 2) hx hb dL_law_592 (by decide) ?_
  refine lv_iadd hx hb dL_law_593 ?_
  refine lv_to (y := nI (i + 2)) (nI_add i 2) ?_
  refine va_sld hx hb hX0 hbl (Nat.not_le.mpr hbl) G.2.2 (i := nI (i + 2)) (vp_in_nI (n := i + 2) (N := L) (by omega) (by omega)) dL_law_594 ?_
  refine lv_to (y := xs (i + 2)) (congrArg xs (nI_clamp (by omega))) ?_
  obtain ⟨⟨r2, S1⟩, hf, hj⟩ := sj_cellAt Sm (xs (i + 1)) (xs (i + 2)) hJ
  have hJ1 : JJ S1 := hj
  refine y_mi (As := [.int (xs (i + 1)), .int (xs (i + 2))]) (rest := []) E G hA hX.2.2.2.2 hml (tr_cellAt l D cI cJ cZ am Sm (xs (i + 1)) (xs (i + 2)) hf) (cwV 2 hts (glM (L := [Cond.methodLink RL 237 yX12_cellAt, Cond.instanceMethod yX12_cellAt, Cond.selects RX12 yX12_cellAt yX12_cellAt, Cond.initialized RX12]) (gl_in [(9, 76), (9, 77), (9, 78), (1, 14)] (by decide +kernel) (by decide +kernel)) ⟨(t_of [Cond.code yX12_cellAt cX12_cellAt 3 (some .int)] [(9, 79)] (by decide +kernel) _ List.mem_cons_self), List.all_eq_true.mp (by decide +kernel : [Cond.code yX12_cellAt cX12_cellAt 3 (some .int)].all goodWord = true) _ List.mem_cons_self⟩) rfl rfl rfl (by decide +kernel) ⟨Nat.le_of_ble_eq_true rfl, Nat.le_of_ble_eq_true rfl⟩) rfl hl.1 rfl (lv_room (Nat.le_of_ble_eq_true rfl)) dL_law_595 ⟨by show _ ≤ 601024; omega, by show _ ≤ 7293034; omega⟩ (fun H locs G => ?_)
  refine lv_istore (lv' := [(7, .int r2), (6, .int (vck 1 2 3 k1)), (5, .int (nI i)), (4, .ref ae), (3, .ref aj), (2, .ref (am 0)), (1, .ref (ad2 0)), (0, .ref b)]) hx hb dL_law_598 hl (by decide) rfl (fun ls hl => ?_)
  refine lv_goto (tgt := 2439) hx hb dL_law_600 (by decide) ?_
  have hl := lv_sub hl [2, 3, 4, 5, 6, 7] rfl
  refine W.widen (k := 19 + T1.1 + (j + 1)) (n := 38467 + sg T1 + 6 * (j + 1)) (by omega) (by omega) ?_
  exact kk ad2 (vfJ k1 f r1.toInt64) g H locs ls hg hf (had 0 h0T) hV1 hrc1 hJ1 G hl
set_option maxHeartbeats 4000000 in
set_option maxRecDepth 100000 in
theorem y_a11 {p : Program} {e : Env} {s : State} {m : MethodId} {below : List Frame} {meth : Method} {c : Code} (l : Launch) (hst : l.stackTraces = false) {b L : Nat} {xs : Nat → Int32} (hx : p.tables.exec = Jvm.exec) (hb : c.code = code) (hml : c.maxLocals = 9) (hown : s.vm.findClass RL = some m.cls) (hts : ∀ w ∈ lw_tbl, w.before #[Value.ref b] s = true) (hX0 : va_X b L xs s s.heap) (hbl : b < s.heap.size) (hX : xT (fun q => s.heap.size ≤ q) s) (hN : nC s) (hTS : sAll s.heap.size s) {D : va_G} {cI cJ cZ cMic cSrc cSt cAI cAJ cD : ClassId} (hK : va_K D vwCl (CT cI cJ cZ cMic cSrc cSt cAI cAJ ++ [(cD, .double)]) s) {Q : State → Prop} {i j : Nat} (hi : i + 6 ≤ L) (hL : L ≤ 3072) (hj : j < 512) {aj ae : Nat} {ad am : Nat → Nat} {T : AT} {Sm : MS} {f : Nat → Int64} {g : Nat → UInt64} {ls : Array Slot} {H : Heap} {locs : List Loc} (hV : IV aR0 1586 aK1 aK2 T) (hrc : RC T) (hJ : JJ Sm) (G : gL cI cJ cZ cMic cSrc cSt cAI cAJ D ad (fun q => s.heap.size ≤ q) s.heap H locs T (oJ aj cJ f :: oD ae cD g :: MW cI cJ cZ am Sm)) (hl : lv_has ls 9 [(5, .int (nI i)), (4, .ref ae), (3, .ref aj), (2, .ref (am 0)), (1, .ref (ad 0)), (0, .ref b)]) (kk : ∀ {r1 : Int32} {T1 : AT} {r2 : Int32} {S1 : MS} (ad2 : Nat → Nat) (f1 : Nat → Int64) (g1 : Nat → UInt64) (H1 : Heap) (locs1 : List Loc) (ls1 : Array Slot), g_X11_sources T 0 = some (r1, T1) → fr_sources Sm = some (r2, S1) → ad2 0 = ad 0 → IV aR0 1586 aK1 aK2 T1 → RC T1 → JJ S1 → gL cI cJ cZ cMic cSrc cSt cAI cAJ D ad2 (fun q => s.heap.size ≤ q) s.heap H1 locs1 T1 (oJ aj cJ f1 :: oD ae cD g1 :: MW cI cJ cZ am S1) → lv_has ls1 9 [(5, .int (nI i)), (4, .ref ae), (3, .ref aj), (2, .ref (am 0)), (1, .ref (ad2 0)), (0, .ref b)] → W p l e room_1 s m #[Value.ref b] below meth c H1 locs1 (19 + T1.1 + (j + 1)) (38467 + sg T1 + 6 * (j + 1)) Q (F0 m 2439 ls1 [])) : W p l e room_1 s m #[Value.ref b] below meth c H locs (19 + T.1 + j) (38467 + sg T + 6 * j) Q (F0 m 603 ls []) := by
  have E : cE p c cL_law s m #[Value.ref b] lw_tbl D RL (CT cI cJ cZ cMic cSrc cSt cAI cAJ ++ [(cD, .double)]) := ⟨hx, hb, hts, hown, hK⟩
  have hA : ∀ q : Nat, s.heap.size ≤ q → s.heap.size ≤ q := fun _ h => h
  have h0T : 0 < T.1 := Nat.lt_of_lt_of_le (by decide) hV.1.2.2
  have h0s : T.2.1 0 = (11, 0) := hV.2.1 0 ⟨by decide, by decide +kernel, by decide +kernel⟩
  refine lv_aload_n hx hb dL_law_603 rfl (lv_at hl 4 rfl) ?_
  obtain ⟨⟨r1, T1⟩, hg, hc⟩ := cs_X11_sources T 0 hV (by decide +kernel)
  have hV1 : IV aR0 1586 aK1 aK2 T1 := by rw [show T1 = T from hc.1]; exact hV
  have hg1 := (gl_sp (s_X11_sources hg))
  have hg2 := sg_le hg1
  have hg3 := hg1.1
  have hk := hV1.2.2.2.2.2.2
  have hrc1 := hg1.2.2 hrc
  have hr0 := a_room
  refine t_cvi (As := []) (rest := []) E G hA hX hX.2.2.2.1 hml (u_X11_sources l hst D cI cJ cZ cMic cSrc cSt cAI cAJ ad T 0  hg) (cwV 0 hts (glA (L := [Cond.methodLink RL 238 yX11_sources, Cond.instanceMethod yX11_sources, Cond.selects RX11 yX11_sources yX11_sources, Cond.initialized RX11]) (gl_in [(3, 80), (3, 81), (3, 82), (1, 1)] (by decide +kernel) (by decide +kernel)) ⟨(t_of [Cond.code yX11_sources cX11_sources 1 (some .int)] [(3, 83)] (by decide +kernel) _ List.mem_cons_self), List.all_eq_true.mp (by decide +kernel : [Cond.code yX11_sources cX11_sources 1 (some .int)].all goodWord = true) _ List.mem_cons_self⟩) rfl rfl rfl (by decide +kernel) ⟨Nat.le_of_ble_eq_true rfl, Nat.le_of_ble_eq_true rfl⟩) h0T (cc_o11 h0s) rfl rfl hl.1 rfl (lv_room (Nat.le_of_ble_eq_true rfl)) dL_law_604 ⟨by show _ ≤ 601024; omega, by show _ ≤ 7293034; omega⟩ ?_
  intro r9 T9 H locs hp G
  obtain ⟨hr9, hS1⟩ := hp
  rw [hS1] at G
  refine lv_to (y := r1) hr9 ?_
  refine lv_pop hx hb dL_law_607 rfl ?_
  refine lv_aload_n hx hb dL_law_608 rfl (lv_at hl 3 rfl) ?_
  obtain ⟨⟨r2, S1⟩, hf, hj⟩ := sj_sources Sm hJ
  have hJ1 : JJ S1 := hj
  refine y_mi (As := []) (rest := []) E G hA hX.2.2.2.2 hml (tr_sources l D cI cJ cZ am Sm  hf) (cwV 0 hts (glM (L := [Cond.methodLink RL 241 yX12_sources, Cond.instanceMethod yX12_sources, Cond.selects RX12 yX12_sources yX12_sources, Cond.initialized RX12]) (gl_in [(9, 84), (9, 85), (9, 86), (1, 14)] (by decide +kernel) (by decide +kernel)) ⟨(t_of [Cond.code yX12_sources cX12_sources 1 (some .int)] [(9, 87)] (by decide +kernel) _ List.mem_cons_self), List.all_eq_true.mp (by decide +kernel : [Cond.code yX12_sources cX12_sources 1 (some .int)].all goodWord = true) _ List.mem_cons_self⟩) rfl rfl rfl (by decide +kernel) ⟨Nat.le_of_ble_eq_true rfl, Nat.le_of_ble_eq_true rfl⟩) rfl hl.1 rfl (lv_room (Nat.le_of_ble_eq_true rfl)) dL_law_609 ⟨by show _ ≤ 601024; omega, by show _ ≤ 7293034; omega⟩ (fun H locs G => ?_)
  refine lv_pop hx hb dL_law_612 rfl ?_
  refine lv_goto (tgt := 2439) hx hb dL_law_613 (by decide) ?_
  refine W.widen (k := 19 + T1.1 + (j + 1)) (n := 38467 + sg T1 + 6 * (j + 1)) (by omega) (by omega) ?_
  exact kk ad f g H locs ls hg hf rfl hV1 hrc1 hJ1 G hl
set_option maxHeartbeats 4000000 in
set_option maxRecDepth 100000 in
theorem y_a12 {p : Program} {e : Env} {s : State} {m : MethodId} {below : List Frame} {meth : Method} {c : Code} (l : Launch) (hst : l.stackTraces = false) {b L : Nat} {xs : Nat → Int32} (hx : p.tables.exec = Jvm.exec) (hb : c.code = code) (hml : c.maxLocals = 9) (hown : s.vm.findClass RL = some m.cls) (hts : ∀ w ∈ lw_tbl, w.before #[Value.ref b] s = true) (hX0 : va_X b L xs s s.heap) (hbl : b < s.heap.size) (hX : xT (fun q => s.heap.size ≤ q) s) (hN : nC s) (hTS : sAll s.heap.size s) {D : va_G} {cI cJ cZ cMic cSrc cSt cAI cAJ cD : ClassId} (hK : va_K D vwCl (CT cI cJ cZ cMic cSrc cSt cAI cAJ ++ [(cD, .double)]) s) {Q : State → Prop} {i j : Nat} (hi : i + 6 ≤ L) (hL : L ≤ 3072) (hj : j < 512) {aj ae : Nat} {ad am : Nat → Nat} {T : AT} {Sm : MS} {f : Nat → Int64} {g : Nat → UInt64} {ls : Array Slot} {H : Heap} {locs : List Loc} (hV : IV aR0 1586 aK1 aK2 T) (hrc : RC T) (hJ : JJ Sm) (G : gL cI cJ cZ cMic cSrc cSt cAI cAJ D ad (fun q => s.heap.size ≤ q) s.heap H locs T (oJ aj cJ f :: oD ae cD g :: MW cI cJ cZ am Sm)) (hl : lv_has ls 9 [(5, .int (nI i)), (4, .ref ae), (3, .ref aj), (2, .ref (am 0)), (1, .ref (ad 0)), (0, .ref b)]) (kk : ∀ {k1 : Nat} {r1 : Int32} {T1 : AT} {r2 : Int32} {S1 : MS} (ad2 : Nat → Nat) (f1 : Nat → Int64) (g1 : Nat → UInt64) (H1 : Heap) (locs1 : List Loc) (ls1 : Array Slot), g_X11_sourceAt T 0 (xs (i + 1)) (xs (i + 2)) (xs (i + 3)) = some (k1, r1, T1) → fr_sourceAt Sm (xs (i + 1)) (xs (i + 2)) (xs (i + 3)) = some (r2, S1) → ad2 0 = ad 0 → IV aR0 1586 aK1 aK2 T1 → RC T1 → JJ S1 → gL cI cJ cZ cMic cSrc cSt cAI cAJ D ad2 (fun q => s.heap.size ≤ q) s.heap H1 locs1 T1 (oJ aj cJ f1 :: oD ae cD g1 :: MW cI cJ cZ am S1) → lv_has ls1 9 [(5, .int (nI i)), (4, .ref ae), (3, .ref aj), (2, .ref (am 0)), (1, .ref (ad2 0)), (0, .ref b)] → W p l e room_1 s m #[Value.ref b] below meth c H1 locs1 (19 + T1.1 + (j + 1)) (38467 + sg T1 + 6 * (j + 1)) Q (F0 m 2439 ls1 [])) : W p l e room_1 s m #[Value.ref b] below meth c H locs (19 + T.1 + j) (38467 + sg T + 6 * j) Q (F0 m 616 ls []) := by
  have E : cE p c cL_law s m #[Value.ref b] lw_tbl D RL (CT cI cJ cZ cMic cSrc cSt cAI cAJ ++ [(cD, .double)]) := ⟨hx, hb, hts, hown, hK⟩
  have hA : ∀ q : Nat, s.heap.size ≤ q → s.heap.size ≤ q := fun _ h => h
  have h0T : 0 < T.1 := Nat.lt_of_lt_of_le (by decide) hV.1.2.2
  have h0s : T.2.1 0 = (11, 0) := hV.2.1 0 ⟨by decide, by decide +kernel, by decide +kernel⟩
  refine lv_aload_n hx hb dL_law_616 rfl (lv_at hl 4 rfl) ?_
  refine lv_aload_n hx hb dL_law_617 rfl (lv_at hl 5 rfl) ?_
  refine lv_iload hx hb dL_law_618 (lv_at hl 0 rfl) ?_
  refine lv_iconst (v := 1) hx hb dL_law_620 (by decide) ?_
  refine lv_iadd hx hb dL_law_621 ?_
  refine lv_to (y := nI (i + 1)) (nI_add i 1) ?_
  refine va_sld hx hb hX0 hbl (Nat.not_le.mpr hbl) G.2.2 (i := nI (i + 1)) (vp_in_nI (n := i + 1) (N := L) (by omega) (by omega)) dL_law_622 ?_
  refine lv_to (y := xs (i + 1)) (congrArg xs (nI_clamp (by omega))) ?_
  refine lv_aload_n hx hb dL_law_623 rfl (lv_at hl 5 rfl) ?_
  refine lv_iload hx hb dL_law_624 (lv_at hl 0 rfl) ?_
  refine lv_iconst (v := 2) hx hb dL_law_626 (by decide) ?_
  refine lv_iadd hx hb dL_law_627 ?_
  refine lv_to (y := nI (i + 2)) (nI_add i 2) ?_
  refine va_sld hx hb hX0 hbl (Nat.not_le.mpr hbl) G.2.2 (i := nI (i + 2)) (vp_in_nI (n := i + 2) (N := L) (by omega) (by omega)) dL_law_628 ?_
  refine lv_to (y := xs (i + 2)) (congrArg xs (nI_clamp (by omega))) ?_
  refine lv_aload_n hx hb dL_law_629 rfl (lv_at hl 5 rfl) ?_
  refine lv_iload hx hb dL_law_630 (lv_at hl 0 rfl) ?_
  refine lv_iconst (v := 3) hx hb dL_law_632 (by decide) ?_
  refine lv_iadd hx hb dL_law_633 ?_
  refine lv_to (y := nI (i + 3)) (nI_add i 3) ?_
  refine va_sld hx hb hX0 hbl (Nat.not_le.mpr hbl) G.2.2 (i := nI (i + 3)) (vp_in_nI (n := i + 3) (N := L) (by omega) (by omega)) dL_law_634 ?_
  refine lv_to (y := xs (i + 3)) (congrArg xs (nI_clamp (by omega))) ?_
  refine lv_aload_n hx hb dL_law_635 rfl (lv_at hl 2 rfl) ?_
  obtain ⟨⟨k1, r1, T1⟩, hg, hc⟩ := cs_X11_sourceAt T 0 (xs (i + 1)) (xs (i + 2)) (xs (i + 3)) hV (by decide +kernel)
  have hV1 : IV aR0 1586 aK1 aK2 T1 := by rw [show T1 = T from hc.1]; exact hV
  have hg1 := (gl_sp (s_X11_sourceAt hg))
  have hg2 := sg_le hg1
  have hg3 := hg1.1
  have hk := hV1.2.2.2.2.2.2
  have hrc1 := hg1.2.2 hrc
  have hr0 := a_room
  refine l_v (h0 := s.heap.size) (As := [.ref (ad 0), .int (xs (i + 1)), .int (xs (i + 2)), .int (xs (i + 3)), .ref aj]) (rest := []) E G hA hX hN (fun _ h => h) hTS hml (v_sourceAt l hst D s.heap.size ad T 0 (xs (i + 1)) (xs (i + 2)) (xs (i + 3)) aj f hg hrc h0T h0s) (vx_cwSW 5 hts (glA (L := [Cond.methodLink RL 242 yL_sourceAt, Cond.static yL_sourceAt, Cond.initialized RL]) (gl_in [(5, 79), (5, 80), (1, 0)] (by decide +kernel) (by decide +kernel)) ⟨(t_of [Cond.codeWith yL_sourceAt cL_sourceAt 6 (some .int) [(0, 12, 15, 21), (0, 12, 19, 13), (0, 12, 23, 15)]] [(5, 81)] (by decide +kernel) _ List.mem_cons_self), List.all_eq_true.mp (by decide +kernel : [Cond.codeWith yL_sourceAt cL_sourceAt 6 (some .int) [(0, 12, 15, 21), (0, 12, 19, 13), (0, 12, 23, 15)]].all goodWord = true) _ List.mem_cons_self⟩) rfl rfl rfl (by decide +kernel) ⟨Nat.le_of_ble_eq_true rfl, Nat.le_of_ble_eq_true rfl⟩) rfl hl.1 rfl (lv_room (Nat.le_of_ble_eq_true rfl)) dL_law_636 ⟨by show _ ≤ 601024; omega, by show _ ≤ 7293034; omega⟩ ?_
  intro ad2 H locs had G
  rw [← had 0 h0T] at hl
  refine lv_istore (lv' := [(6, .int (vck 1 2 3 k1)), (5, .int (nI i)), (4, .ref ae), (3, .ref aj), (2, .ref (am 0)), (1, .ref (ad2 0)), (0, .ref b)]) hx hb dL_law_639 hl (by decide) rfl (fun ls hl => ?_)
  refine lv_aload_n hx hb dL_law_641 rfl (lv_at hl 4 rfl) ?_
  refine lv_aload_n hx hb dL_law_642 rfl (lv_at hl 6 rfl) ?_
  refine lv_iload hx hb dL_law_643 (lv_at hl 1 rfl) ?_
  refine lv_iconst (v := 1) hx hb dL_law_645 (by decide) ?_
  refine lv_iadd hx hb dL_law_646 ?_
  refine lv_to (y := nI (i + 1)) (nI_add i 1) ?_
  refine va_sld hx hb hX0 hbl (Nat.not_le.mpr hbl) G.2.2 (i := nI (i + 1)) (vp_in_nI (n := i + 1) (N := L) (by omega) (by omega)) dL_law_647 ?_
  refine lv_to (y := xs (i + 1)) (congrArg xs (nI_clamp (by omega))) ?_
  refine lv_aload_n hx hb dL_law_648 rfl (lv_at hl 6 rfl) ?_
  refine lv_iload hx hb dL_law_649 (lv_at hl 1 rfl) ?_
  refine lv_iconst (v := 2) hx hb dL_law_651 (by decide) ?_
  refine lv_iadd hx hb dL_law_652 ?_
  refine lv_to (y := nI (i + 2)) (nI_add i 2) ?_
  refine va_sld hx hb hX0 hbl (Nat.not_le.mpr hbl) G.2.2 (i := nI (i + 2)) (vp_in_nI (n := i + 2) (N := L) (by omega) (by omega)) dL_law_653 ?_
  refine lv_to (y := xs (i + 2)) (congrArg xs (nI_clamp (by omega))) ?_
  refine lv_aload_n hx hb dL_law_654 rfl (lv_at hl 6 rfl) ?_
  refine lv_iload hx hb dL_law_655 (lv_at hl 1 rfl) ?_
  refine lv_iconst (v := 3) hx hb dL_law_657 (by decide) ?_
  refine lv_iadd hx hb dL_law_658 ?_
  refine lv_to (y := nI (i + 3)) (nI_add i 3) ?_
  refine va_sld hx hb hX0 hbl (Nat.not_le.mpr hbl) G.2.2 (i := nI (i + 3)) (vp_in_nI (n := i + 3) (N := L) (by omega) (by omega)) dL_law_659 ?_
  refine lv_to (y := xs (i + 3)) (congrArg xs (nI_clamp (by omega))) ?_
  obtain ⟨⟨r2, S1⟩, hf, hj⟩ := sj_sourceAt Sm (xs (i + 1)) (xs (i + 2)) (xs (i + 3)) hJ
  have hJ1 : JJ S1 := hj
  refine y_mi (As := [.int (xs (i + 1)), .int (xs (i + 2)), .int (xs (i + 3))]) (rest := []) E G hA hX.2.2.2.2 hml (tr_sourceAt l D cI cJ cZ am Sm (xs (i + 1)) (xs (i + 2)) (xs (i + 3)) hf) (cwV 3 hts (glM (L := [Cond.methodLink RL 245 yX12_sourceAt, Cond.instanceMethod yX12_sourceAt, Cond.selects RX12 yX12_sourceAt yX12_sourceAt, Cond.initialized RX12]) (gl_in [(9, 88), (9, 89), (9, 90), (1, 14)] (by decide +kernel) (by decide +kernel)) ⟨(t_of [Cond.code yX12_sourceAt cX12_sourceAt 4 (some .int)] [(9, 91)] (by decide +kernel) _ List.mem_cons_self), List.all_eq_true.mp (by decide +kernel : [Cond.code yX12_sourceAt cX12_sourceAt 4 (some .int)].all goodWord = true) _ List.mem_cons_self⟩) rfl rfl rfl (by decide +kernel) ⟨Nat.le_of_ble_eq_true rfl, Nat.le_of_ble_eq_true rfl⟩) rfl hl.1 rfl (lv_room (Nat.le_of_ble_eq_true rfl)) dL_law_660 ⟨by show _ ≤ 601024; omega, by show _ ≤ 7293034; omega⟩ (fun H locs G => ?_)
  refine lv_istore (lv' := [(7, .int r2), (6, .int (vck 1 2 3 k1)), (5, .int (nI i)), (4, .ref ae), (3, .ref aj), (2, .ref (am 0)), (1, .ref (ad2 0)), (0, .ref b)]) hx hb dL_law_663 hl (by decide) rfl (fun ls hl => ?_)
  refine lv_goto (tgt := 2439) hx hb dL_law_665 (by decide) ?_
  have hl := lv_sub hl [2, 3, 4, 5, 6, 7] rfl
  refine W.widen (k := 19 + T1.1 + (j + 1)) (n := 38467 + sg T1 + 6 * (j + 1)) (by omega) (by omega) ?_
  exact kk ad2 (vfJ k1 f r1.toInt64) g H locs ls hg hf (had 0 h0T) hV1 hrc1 hJ1 G hl
set_option maxHeartbeats 4000000 in
set_option maxRecDepth 100000 in
theorem y_a13 {p : Program} {e : Env} {s : State} {m : MethodId} {below : List Frame} {meth : Method} {c : Code} (l : Launch) (hst : l.stackTraces = false) {b L : Nat} {xs : Nat → Int32} (hx : p.tables.exec = Jvm.exec) (hb : c.code = code) (hml : c.maxLocals = 9) (hown : s.vm.findClass RL = some m.cls) (hts : ∀ w ∈ lw_tbl, w.before #[Value.ref b] s = true) (hX0 : va_X b L xs s s.heap) (hbl : b < s.heap.size) (hX : xT (fun q => s.heap.size ≤ q) s) (hN : nC s) (hTS : sAll s.heap.size s) {D : va_G} {cI cJ cZ cMic cSrc cSt cAI cAJ cD : ClassId} (hK : va_K D vwCl (CT cI cJ cZ cMic cSrc cSt cAI cAJ ++ [(cD, .double)]) s) {Q : State → Prop} {i j : Nat} (hi : i + 6 ≤ L) (hL : L ≤ 3072) (hj : j < 512) {aj ae : Nat} {ad am : Nat → Nat} {T : AT} {Sm : MS} {f : Nat → Int64} {g : Nat → UInt64} {ls : Array Slot} {H : Heap} {locs : List Loc} (hV : IV aR0 1586 aK1 aK2 T) (hrc : RC T) (hJ : JJ Sm) (G : gL cI cJ cZ cMic cSrc cSt cAI cAJ D ad (fun q => s.heap.size ≤ q) s.heap H locs T (oJ aj cJ f :: oD ae cD g :: MW cI cJ cZ am Sm)) (hl : lv_has ls 9 [(5, .int (nI i)), (4, .ref ae), (3, .ref aj), (2, .ref (am 0)), (1, .ref (ad 0)), (0, .ref b)]) (kk : ∀ {k1 : Nat} {r1 : Int32} {T1 : AT} {r2 : Int32} {S1 : MS} (ad2 : Nat → Nat) (f1 : Nat → Int64) (g1 : Nat → UInt64) (H1 : Heap) (locs1 : List Loc) (ls1 : Array Slot), g_X11_isOn T 0 (xs (i + 1)) = some (k1, r1, T1) → fr_isOn Sm (xs (i + 1)) = some (r2, S1) → ad2 0 = ad 0 → IV aR0 1586 aK1 aK2 T1 → RC T1 → JJ S1 → gL cI cJ cZ cMic cSrc cSt cAI cAJ D ad2 (fun q => s.heap.size ≤ q) s.heap H1 locs1 T1 (oJ aj cJ f1 :: oD ae cD g1 :: MW cI cJ cZ am S1) → lv_has ls1 9 [(5, .int (nI i)), (4, .ref ae), (3, .ref aj), (2, .ref (am 0)), (1, .ref (ad2 0)), (0, .ref b)] → W p l e room_1 s m #[Value.ref b] below meth c H1 locs1 (19 + T1.1 + (j + 1)) (38467 + sg T1 + 6 * (j + 1)) Q (F0 m 2439 ls1 [])) : W p l e room_1 s m #[Value.ref b] below meth c H locs (19 + T.1 + j) (38467 + sg T + 6 * j) Q (F0 m 668 ls []) := by
  have E : cE p c cL_law s m #[Value.ref b] lw_tbl D RL (CT cI cJ cZ cMic cSrc cSt cAI cAJ ++ [(cD, .double)]) := ⟨hx, hb, hts, hown, hK⟩
  have hA : ∀ q : Nat, s.heap.size ≤ q → s.heap.size ≤ q := fun _ h => h
  have h0T : 0 < T.1 := Nat.lt_of_lt_of_le (by decide) hV.1.2.2
  have h0s : T.2.1 0 = (11, 0) := hV.2.1 0 ⟨by decide, by decide +kernel, by decide +kernel⟩
  refine lv_aload_n hx hb dL_law_668 rfl (lv_at hl 4 rfl) ?_
  refine lv_aload_n hx hb dL_law_669 rfl (lv_at hl 5 rfl) ?_
  refine lv_iload hx hb dL_law_670 (lv_at hl 0 rfl) ?_
  refine lv_iconst (v := 1) hx hb dL_law_672 (by decide) ?_
  refine lv_iadd hx hb dL_law_673 ?_
  refine lv_to (y := nI (i + 1)) (nI_add i 1) ?_
  refine va_sld hx hb hX0 hbl (Nat.not_le.mpr hbl) G.2.2 (i := nI (i + 1)) (vp_in_nI (n := i + 1) (N := L) (by omega) (by omega)) dL_law_674 ?_
  refine lv_to (y := xs (i + 1)) (congrArg xs (nI_clamp (by omega))) ?_
  refine lv_aload_n hx hb dL_law_675 rfl (lv_at hl 2 rfl) ?_
  obtain ⟨⟨k1, r1, T1⟩, hg, hc⟩ := cs_X11_isOn T 0 (xs (i + 1)) hV (by decide +kernel)
  have hV1 : IV aR0 1586 aK1 aK2 T1 := by rw [show T1 = T from hc.1]; exact hV
  have hg1 := (gl_sp (s_X11_isOn hg))
  have hg2 := sg_le hg1
  have hg3 := hg1.1
  have hk := hV1.2.2.2.2.2.2
  have hrc1 := hg1.2.2 hrc
  have hr0 := a_room
  refine l_v (h0 := s.heap.size) (As := [.ref (ad 0), .int (xs (i + 1)), .ref aj]) (rest := []) E G hA hX hN (fun _ h => h) hTS hml (v_isOn l hst D s.heap.size ad T 0 (xs (i + 1)) aj f hg hrc h0T h0s) (vx_cwSW 3 hts (glA (L := [Cond.methodLink RL 246 yL_isOn, Cond.static yL_isOn, Cond.initialized RL]) (gl_in [(5, 91), (5, 92), (1, 0)] (by decide +kernel) (by decide +kernel)) ⟨(t_of [Cond.codeWith yL_isOn cL_isOn 4 (some .int) [(0, 16, 19, 21), (0, 16, 22, 13)]] [(5, 93)] (by decide +kernel) _ List.mem_cons_self), List.all_eq_true.mp (by decide +kernel : [Cond.codeWith yL_isOn cL_isOn 4 (some .int) [(0, 16, 19, 21), (0, 16, 22, 13)]].all goodWord = true) _ List.mem_cons_self⟩) rfl rfl rfl (by decide +kernel) ⟨Nat.le_of_ble_eq_true rfl, Nat.le_of_ble_eq_true rfl⟩) rfl hl.1 rfl (lv_room (Nat.le_of_ble_eq_true rfl)) dL_law_676 ⟨by show _ ≤ 601024; omega, by show _ ≤ 7293034; omega⟩ ?_
  intro ad2 H locs had G
  rw [← had 0 h0T] at hl
  refine lv_istore (lv' := [(6, .int (vck 1 2 0 k1)), (5, .int (nI i)), (4, .ref ae), (3, .ref aj), (2, .ref (am 0)), (1, .ref (ad2 0)), (0, .ref b)]) hx hb dL_law_679 hl (by decide) rfl (fun ls hl => ?_)
  refine lv_aload_n hx hb dL_law_681 rfl (lv_at hl 4 rfl) ?_
  refine lv_aload_n hx hb dL_law_682 rfl (lv_at hl 6 rfl) ?_
  refine lv_iload hx hb dL_law_683 (lv_at hl 1 rfl) ?_
  refine lv_iconst (v := 1) hx hb dL_law_685 (by decide) ?_
  refine lv_iadd hx hb dL_law_686 ?_
  refine lv_to (y := nI (i + 1)) (nI_add i 1) ?_
  refine va_sld hx hb hX0 hbl (Nat.not_le.mpr hbl) G.2.2 (i := nI (i + 1)) (vp_in_nI (n := i + 1) (N := L) (by omega) (by omega)) dL_law_687 ?_
  refine lv_to (y := xs (i + 1)) (congrArg xs (nI_clamp (by omega))) ?_
  obtain ⟨⟨r2, S1⟩, hf, hj⟩ := sj_isOn Sm (xs (i + 1)) hJ
  have hJ1 : JJ S1 := hj
  refine y_mi (As := [.int (xs (i + 1))]) (rest := []) E G hA hX.2.2.2.2 hml (tr_isOn l D cI cJ cZ am Sm (xs (i + 1)) hf) (cwV 1 hts (glM (L := [Cond.methodLink RL 248 yX12_isOn, Cond.instanceMethod yX12_isOn, Cond.selects RX12 yX12_isOn yX12_isOn, Cond.initialized RX12]) (gl_in [(9, 100), (9, 101), (9, 102), (1, 14)] (by decide +kernel) (by decide +kernel)) ⟨(t_of [Cond.code yX12_isOn cX12_isOn 2 (some .boolean)] [(9, 103)] (by decide +kernel) _ List.mem_cons_self), List.all_eq_true.mp (by decide +kernel : [Cond.code yX12_isOn cX12_isOn 2 (some .boolean)].all goodWord = true) _ List.mem_cons_self⟩) rfl rfl rfl (by decide +kernel) ⟨Nat.le_of_ble_eq_true rfl, Nat.le_of_ble_eq_true rfl⟩) rfl hl.1 rfl (lv_room (Nat.le_of_ble_eq_true rfl)) dL_law_688 ⟨by show _ ≤ 601024; omega, by show _ ≤ 7293034; omega⟩ (fun H locs G => ?_)
  refine lv_istore (lv' := [(7, .int r2), (6, .int (vck 1 2 0 k1)), (5, .int (nI i)), (4, .ref ae), (3, .ref aj), (2, .ref (am 0)), (1, .ref (ad2 0)), (0, .ref b)]) hx hb dL_law_691 hl (by decide) rfl (fun ls hl => ?_)
  refine lv_goto (tgt := 2439) hx hb dL_law_693 (by decide) ?_
  have hl := lv_sub hl [2, 3, 4, 5, 6, 7] rfl
  refine W.widen (k := 19 + T1.1 + (j + 1)) (n := 38467 + sg T1 + 6 * (j + 1)) (by omega) (by omega) ?_
  exact kk ad2 (vfJ k1 f (vzb r1)) g H locs ls hg hf (had 0 h0T) hV1 hrc1 hJ1 G hl
set_option maxHeartbeats 4000000 in
set_option maxRecDepth 100000 in
theorem y_a14 {p : Program} {e : Env} {s : State} {m : MethodId} {below : List Frame} {meth : Method} {c : Code} (l : Launch) (hst : l.stackTraces = false) {b L : Nat} {xs : Nat → Int32} (hx : p.tables.exec = Jvm.exec) (hb : c.code = code) (hml : c.maxLocals = 9) (hown : s.vm.findClass RL = some m.cls) (hts : ∀ w ∈ lw_tbl, w.before #[Value.ref b] s = true) (hX0 : va_X b L xs s s.heap) (hbl : b < s.heap.size) (hX : xT (fun q => s.heap.size ≤ q) s) (hN : nC s) (hTS : sAll s.heap.size s) {D : va_G} {cI cJ cZ cMic cSrc cSt cAI cAJ cD : ClassId} (hK : va_K D vwCl (CT cI cJ cZ cMic cSrc cSt cAI cAJ ++ [(cD, .double)]) s) {Q : State → Prop} {i j : Nat} (hi : i + 6 ≤ L) (hL : L ≤ 3072) (hj : j < 512) {aj ae : Nat} {ad am : Nat → Nat} {T : AT} {Sm : MS} {f : Nat → Int64} {g : Nat → UInt64} {ls : Array Slot} {H : Heap} {locs : List Loc} (hV : IV aR0 1586 aK1 aK2 T) (hrc : RC T) (hJ : JJ Sm) (G : gL cI cJ cZ cMic cSrc cSt cAI cAJ D ad (fun q => s.heap.size ≤ q) s.heap H locs T (oJ aj cJ f :: oD ae cD g :: MW cI cJ cZ am Sm)) (hl : lv_has ls 9 [(5, .int (nI i)), (4, .ref ae), (3, .ref aj), (2, .ref (am 0)), (1, .ref (ad 0)), (0, .ref b)]) (kk : ∀ {k1 : Nat} {r1 : Int32} {T1 : AT} {r2 : Int32} {S1 : MS} (ad2 : Nat → Nat) (f1 : Nat → Int64) (g1 : Nat → UInt64) (H1 : Heap) (locs1 : List Loc) (ls1 : Array Slot), g_X11_waveAt T 0 (xs (i + 1)) (xs (i + 2)) = some (k1, r1, T1) → fr_waveAt Sm (xs (i + 1)) (xs (i + 2)) = some (r2, S1) → ad2 0 = ad 0 → IV aR0 1586 aK1 aK2 T1 → RC T1 → JJ S1 → gL cI cJ cZ cMic cSrc cSt cAI cAJ D ad2 (fun q => s.heap.size ≤ q) s.heap H1 locs1 T1 (oJ aj cJ f1 :: oD ae cD g1 :: MW cI cJ cZ am S1) → lv_has ls1 9 [(5, .int (nI i)), (4, .ref ae), (3, .ref aj), (2, .ref (am 0)), (1, .ref (ad2 0)), (0, .ref b)] → W p l e room_1 s m #[Value.ref b] below meth c H1 locs1 (19 + T1.1 + (j + 1)) (38467 + sg T1 + 6 * (j + 1)) Q (F0 m 2439 ls1 [])) : W p l e room_1 s m #[Value.ref b] below meth c H locs (19 + T.1 + j) (38467 + sg T + 6 * j) Q (F0 m 696 ls []) := by
  have E : cE p c cL_law s m #[Value.ref b] lw_tbl D RL (CT cI cJ cZ cMic cSrc cSt cAI cAJ ++ [(cD, .double)]) := ⟨hx, hb, hts, hown, hK⟩
  have hA : ∀ q : Nat, s.heap.size ≤ q → s.heap.size ≤ q := fun _ h => h
  have h0T : 0 < T.1 := Nat.lt_of_lt_of_le (by decide) hV.1.2.2
  have h0s : T.2.1 0 = (11, 0) := hV.2.1 0 ⟨by decide, by decide +kernel, by decide +kernel⟩
  refine lv_aload_n hx hb dL_law_696 rfl (lv_at hl 4 rfl) ?_
  refine lv_aload_n hx hb dL_law_697 rfl (lv_at hl 5 rfl) ?_
  refine lv_iload hx hb dL_law_698 (lv_at hl 0 rfl) ?_
  refine lv_iconst (v := 1) hx hb dL_law_700 (by decide) ?_
  refine lv_iadd hx hb dL_law_701 ?_
  refine lv_to (y := nI (i + 1)) (nI_add i 1) ?_
  refine va_sld hx hb hX0 hbl (Nat.not_le.mpr hbl) G.2.2 (i := nI (i + 1)) (vp_in_nI (n := i + 1) (N := L) (by omega) (by omega)) dL_law_702 ?_
  refine lv_to (y := xs (i + 1)) (congrArg xs (nI_clamp (by omega))) ?_
  refine lv_aload_n hx hb dL_law_703 rfl (lv_at hl 5 rfl) ?_
  refine lv_iload hx hb dL_law_704 (lv_at hl 0 rfl) ?_
  refine lv_iconst (v := 2) hx hb dL_law_706 (by decide) ?_
  refine lv_iadd hx hb dL_law_707 ?_
  refine lv_to (y := nI (i + 2)) (nI_add i 2) ?_
  refine va_sld hx hb hX0 hbl (Nat.not_le.mpr hbl) G.2.2 (i := nI (i + 2)) (vp_in_nI (n := i + 2) (N := L) (by omega) (by omega)) dL_law_708 ?_
  refine lv_to (y := xs (i + 2)) (congrArg xs (nI_clamp (by omega))) ?_
  refine lv_aload_n hx hb dL_law_709 rfl (lv_at hl 2 rfl) ?_
  obtain ⟨⟨k1, r1, T1⟩, hg, hc⟩ := cs_X11_waveAt T 0 (xs (i + 1)) (xs (i + 2)) hV (by decide +kernel)
  have hV1 : IV aR0 1586 aK1 aK2 T1 := by rw [show T1 = T from hc.1]; exact hV
  have hg1 := (gl_sp (s_X11_waveAt hg))
  have hg2 := sg_le hg1
  have hg3 := hg1.1
  have hk := hV1.2.2.2.2.2.2
  have hrc1 := hg1.2.2 hrc
  have hr0 := a_room
  refine l_v (h0 := s.heap.size) (As := [.ref (ad 0), .int (xs (i + 1)), .int (xs (i + 2)), .ref aj]) (rest := []) E G hA hX hN (fun _ h => h) hTS hml (v_waveAt l hst D s.heap.size ad T 0 (xs (i + 1)) (xs (i + 2)) aj f hg hrc h0T h0s) (vx_cwSW 4 hts (glA (L := [Cond.methodLink RL 249 yL_waveAt, Cond.static yL_waveAt, Cond.initialized RL]) (gl_in [(5, 98), (5, 99), (1, 0)] (by decide +kernel) (by decide +kernel)) ⟨(t_of [Cond.codeWith yL_waveAt cL_waveAt 5 (some .int) [(0, 10, 13, 21), (0, 10, 17, 13), (0, 10, 21, 15)]] [(5, 100)] (by decide +kernel) _ List.mem_cons_self), List.all_eq_true.mp (by decide +kernel : [Cond.codeWith yL_waveAt cL_waveAt 5 (some .int) [(0, 10, 13, 21), (0, 10, 17, 13), (0, 10, 21, 15)]].all goodWord = true) _ List.mem_cons_self⟩) rfl rfl rfl (by decide +kernel) ⟨Nat.le_of_ble_eq_true rfl, Nat.le_of_ble_eq_true rfl⟩) rfl hl.1 rfl (lv_room (Nat.le_of_ble_eq_true rfl)) dL_law_710 ⟨by show _ ≤ 601024; omega, by show _ ≤ 7293034; omega⟩ ?_
  intro ad2 H locs had G
  rw [← had 0 h0T] at hl
  refine lv_istore (lv' := [(6, .int (vck 1 2 3 k1)), (5, .int (nI i)), (4, .ref ae), (3, .ref aj), (2, .ref (am 0)), (1, .ref (ad2 0)), (0, .ref b)]) hx hb dL_law_713 hl (by decide) rfl (fun ls hl => ?_)
  refine lv_aload_n hx hb dL_law_715 rfl (lv_at hl 4 rfl) ?_
  refine lv_aload_n hx hb dL_law_716 rfl (lv_at hl 6 rfl) ?_
  refine lv_iload hx hb dL_law_717 (lv_at hl 1 rfl) ?_
  refine lv_iconst (v := 1) hx hb dL_law_719 (by decide) ?_
  refine lv_iadd hx hb dL_law_720 ?_
  refine lv_to (y := nI (i + 1)) (nI_add i 1) ?_
  refine va_sld hx hb hX0 hbl (Nat.not_le.mpr hbl) G.2.2 (i := nI (i + 1)) (vp_in_nI (n := i + 1) (N := L) (by omega) (by omega)) dL_law_721 ?_
  refine lv_to (y := xs (i + 1)) (congrArg xs (nI_clamp (by omega))) ?_
  refine lv_aload_n hx hb dL_law_722 rfl (lv_at hl 6 rfl) ?_
  refine lv_iload hx hb dL_law_723 (lv_at hl 1 rfl) ?_
  refine lv_iconst (v := 2) hx hb dL_law_725 (by decide) ?_
  refine lv_iadd hx hb dL_law_726 ?_
  refine lv_to (y := nI (i + 2)) (nI_add i 2) ?_
  refine va_sld hx hb hX0 hbl (Nat.not_le.mpr hbl) G.2.2 (i := nI (i + 2)) (vp_in_nI (n := i + 2) (N := L) (by omega) (by omega)) dL_law_727 ?_
  refine lv_to (y := xs (i + 2)) (congrArg xs (nI_clamp (by omega))) ?_
  obtain ⟨⟨r2, S1⟩, hf, hj⟩ := sj_waveAt Sm (xs (i + 1)) (xs (i + 2)) hJ
  have hJ1 : JJ S1 := hj
  refine y_mi (As := [.int (xs (i + 1)), .int (xs (i + 2))]) (rest := []) E G hA hX.2.2.2.2 hml (tr_waveAt l D cI cJ cZ am Sm (xs (i + 1)) (xs (i + 2)) hf) (cwV 2 hts (glM (L := [Cond.methodLink RL 251 yX12_waveAt, Cond.instanceMethod yX12_waveAt, Cond.selects RX12 yX12_waveAt yX12_waveAt, Cond.initialized RX12]) (gl_in [(9, 104), (9, 105), (9, 106), (1, 14)] (by decide +kernel) (by decide +kernel)) ⟨(t_of [Cond.code yX12_waveAt cX12_waveAt 3 (some .int)] [(9, 107)] (by decide +kernel) _ List.mem_cons_self), List.all_eq_true.mp (by decide +kernel : [Cond.code yX12_waveAt cX12_waveAt 3 (some .int)].all goodWord = true) _ List.mem_cons_self⟩) rfl rfl rfl (by decide +kernel) ⟨Nat.le_of_ble_eq_true rfl, Nat.le_of_ble_eq_true rfl⟩) rfl hl.1 rfl (lv_room (Nat.le_of_ble_eq_true rfl)) dL_law_728 ⟨by show _ ≤ 601024; omega, by show _ ≤ 7293034; omega⟩ (fun H locs G => ?_)
  refine lv_istore (lv' := [(7, .int r2), (6, .int (vck 1 2 3 k1)), (5, .int (nI i)), (4, .ref ae), (3, .ref aj), (2, .ref (am 0)), (1, .ref (ad2 0)), (0, .ref b)]) hx hb dL_law_731 hl (by decide) rfl (fun ls hl => ?_)
  refine lv_goto (tgt := 2439) hx hb dL_law_733 (by decide) ?_
  have hl := lv_sub hl [2, 3, 4, 5, 6, 7] rfl
  refine W.widen (k := 19 + T1.1 + (j + 1)) (n := 38467 + sg T1 + 6 * (j + 1)) (by omega) (by omega) ?_
  exact kk ad2 (vfJ k1 f r1.toInt64) g H locs ls hg hf (had 0 h0T) hV1 hrc1 hJ1 G hl
set_option maxHeartbeats 4000000 in
set_option maxRecDepth 100000 in
theorem y_a15 {p : Program} {e : Env} {s : State} {m : MethodId} {below : List Frame} {meth : Method} {c : Code} (l : Launch) (hst : l.stackTraces = false) {b L : Nat} {xs : Nat → Int32} (hx : p.tables.exec = Jvm.exec) (hb : c.code = code) (hml : c.maxLocals = 9) (hown : s.vm.findClass RL = some m.cls) (hts : ∀ w ∈ lw_tbl, w.before #[Value.ref b] s = true) (hX0 : va_X b L xs s s.heap) (hbl : b < s.heap.size) (hX : xT (fun q => s.heap.size ≤ q) s) (hN : nC s) (hTS : sAll s.heap.size s) {D : va_G} {cI cJ cZ cMic cSrc cSt cAI cAJ cD : ClassId} (hK : va_K D vwCl (CT cI cJ cZ cMic cSrc cSt cAI cAJ ++ [(cD, .double)]) s) {Q : State → Prop} {i j : Nat} (hi : i + 6 ≤ L) (hL : L ≤ 3072) (hj : j < 512) {aj ae : Nat} {ad am : Nat → Nat} {T : AT} {Sm : MS} {f : Nat → Int64} {g : Nat → UInt64} {ls : Array Slot} {H : Heap} {locs : List Loc} (hV : IV aR0 1586 aK1 aK2 T) (hrc : RC T) (hJ : JJ Sm) (G : gL cI cJ cZ cMic cSrc cSt cAI cAJ D ad (fun q => s.heap.size ≤ q) s.heap H locs T (oJ aj cJ f :: oD ae cD g :: MW cI cJ cZ am Sm)) (hl : lv_has ls 9 [(5, .int (nI i)), (4, .ref ae), (3, .ref aj), (2, .ref (am 0)), (1, .ref (ad 0)), (0, .ref b)]) (kk : ∀ {r1 : Int32} {T1 : AT} {r2 : Int32} {S1 : MS} (ad2 : Nat → Nat) (f1 : Nat → Int64) (g1 : Nat → UInt64) (H1 : Heap) (locs1 : List Loc) (ls1 : Array Slot), g_X11_samples T 0 = some (r1, T1) → fr_samples Sm = some (r2, S1) → ad2 0 = ad 0 → IV aR0 1586 aK1 aK2 T1 → RC T1 → JJ S1 → gL cI cJ cZ cMic cSrc cSt cAI cAJ D ad2 (fun q => s.heap.size ≤ q) s.heap H1 locs1 T1 (oJ aj cJ f1 :: oD ae cD g1 :: MW cI cJ cZ am S1) → lv_has ls1 9 [(5, .int (nI i)), (4, .ref ae), (3, .ref aj), (2, .ref (am 0)), (1, .ref (ad2 0)), (0, .ref b)] → W p l e room_1 s m #[Value.ref b] below meth c H1 locs1 (19 + T1.1 + (j + 1)) (38467 + sg T1 + 6 * (j + 1)) Q (F0 m 2439 ls1 [])) : W p l e room_1 s m #[Value.ref b] below meth c H locs (19 + T.1 + j) (38467 + sg T + 6 * j) Q (F0 m 736 ls []) := by
  have E : cE p c cL_law s m #[Value.ref b] lw_tbl D RL (CT cI cJ cZ cMic cSrc cSt cAI cAJ ++ [(cD, .double)]) := ⟨hx, hb, hts, hown, hK⟩
  have hA : ∀ q : Nat, s.heap.size ≤ q → s.heap.size ≤ q := fun _ h => h
  have h0T : 0 < T.1 := Nat.lt_of_lt_of_le (by decide) hV.1.2.2
  have h0s : T.2.1 0 = (11, 0) := hV.2.1 0 ⟨by decide, by decide +kernel, by decide +kernel⟩
  refine lv_aload_n hx hb dL_law_736 rfl (lv_at hl 4 rfl) ?_
  obtain ⟨⟨r1, T1⟩, hg, hc⟩ := cs_X11_samples T 0 hV (by decide +kernel)
  have hV1 : IV aR0 1586 aK1 aK2 T1 := by rw [show T1 = T from hc.1]; exact hV
  have hg1 := (gl_sp (s_X11_samples hg))
  have hg2 := sg_le hg1
  have hg3 := hg1.1
  have hk := hV1.2.2.2.2.2.2
  have hrc1 := hg1.2.2 hrc
  have hr0 := a_room
  refine t_cvi (As := []) (rest := []) E G hA hX hX.2.2.2.1 hml (u_X11_samples l hst D cI cJ cZ cMic cSrc cSt cAI cAJ ad T 0  hg) (cwV 0 hts (glA (L := [Cond.methodLink RL 252 yX11_samples, Cond.instanceMethod yX11_samples, Cond.selects RX11 yX11_samples yX11_samples, Cond.initialized RX11]) (gl_in [(3, 84), (3, 85), (3, 86), (1, 1)] (by decide +kernel) (by decide +kernel)) ⟨(t_of [Cond.code yX11_samples cX11_samples 1 (some .int)] [(3, 87)] (by decide +kernel) _ List.mem_cons_self), List.all_eq_true.mp (by decide +kernel : [Cond.code yX11_samples cX11_samples 1 (some .int)].all goodWord = true) _ List.mem_cons_self⟩) rfl rfl rfl (by decide +kernel) ⟨Nat.le_of_ble_eq_true rfl, Nat.le_of_ble_eq_true rfl⟩) h0T (cc_o11 h0s) rfl rfl hl.1 rfl (lv_room (Nat.le_of_ble_eq_true rfl)) dL_law_737 ⟨by show _ ≤ 601024; omega, by show _ ≤ 7293034; omega⟩ ?_
  intro r9 T9 H locs hp G
  obtain ⟨hr9, hS1⟩ := hp
  rw [hS1] at G
  refine lv_to (y := r1) hr9 ?_
  refine lv_pop hx hb dL_law_740 rfl ?_
  refine lv_aload_n hx hb dL_law_741 rfl (lv_at hl 3 rfl) ?_
  obtain ⟨⟨r2, S1⟩, hf, hj⟩ := sj_samples Sm hJ
  have hJ1 : JJ S1 := hj
  refine y_mi (As := []) (rest := []) E G hA hX.2.2.2.2 hml (tr_samples l D cI cJ cZ am Sm  hf) (cwV 0 hts (glM (L := [Cond.methodLink RL 255 yX12_samples, Cond.instanceMethod yX12_samples, Cond.selects RX12 yX12_samples yX12_samples, Cond.initialized RX12]) (gl_in [(9, 108), (9, 109), (9, 110), (1, 14)] (by decide +kernel) (by decide +kernel)) ⟨(t_of [Cond.code yX12_samples cX12_samples 1 (some .int)] [(9, 111)] (by decide +kernel) _ List.mem_cons_self), List.all_eq_true.mp (by decide +kernel : [Cond.code yX12_samples cX12_samples 1 (some .int)].all goodWord = true) _ List.mem_cons_self⟩) rfl rfl rfl (by decide +kernel) ⟨Nat.le_of_ble_eq_true rfl, Nat.le_of_ble_eq_true rfl⟩) rfl hl.1 rfl (lv_room (Nat.le_of_ble_eq_true rfl)) dL_law_742 ⟨by show _ ≤ 601024; omega, by show _ ≤ 7293034; omega⟩ (fun H locs G => ?_)
  refine lv_pop hx hb dL_law_745 rfl ?_
  refine lv_goto (tgt := 2439) hx hb dL_law_746 (by decide) ?_
  refine W.widen (k := 19 + T1.1 + (j + 1)) (n := 38467 + sg T1 + 6 * (j + 1)) (by omega) (by omega) ?_
  exact kk ad f g H locs ls hg hf rfl hV1 hrc1 hJ1 G hl
end
section
/-! 17c.arm2.lean.txt -/
theorem dL_law_749 : decode cL_law 749 = .ok (.aload_n 1, 1) := de_43 (lb_46 (j := 13) (b := 43) rfl)
theorem dL_law_750 : decode cL_law 750 = .ok (.aload_n 0, 1) := de_42 (lb_46 (j := 14) (b := 42) rfl)
theorem dL_law_751 : decode cL_law 751 = .ok (.iload 5, 2) := de_21 (lb_46 (j := 15) (b := 21) rfl) (lb_47 (j := 0) (b := 5) rfl) rfl
theorem dL_law_753 : decode cL_law 753 = .ok (.iconst 1, 1) := de_4 (lb_47 (j := 1) (b := 4) rfl)
theorem dL_law_754 : decode cL_law 754 = .ok (.iadd, 1) := de_96 (lb_47 (j := 2) (b := 96) rfl)
theorem dL_law_755 : decode cL_law 755 = .ok (.iaload, 1) := de_46 (lb_47 (j := 3) (b := 46) rfl)
theorem dL_law_756 : decode cL_law 756 = .ok (.aload_n 0, 1) := de_42 (lb_47 (j := 4) (b := 42) rfl)
theorem dL_law_757 : decode cL_law 757 = .ok (.iload 5, 2) := de_21 (lb_47 (j := 5) (b := 21) rfl) (lb_47 (j := 6) (b := 5) rfl) rfl
theorem dL_law_759 : decode cL_law 759 = .ok (.iconst 2, 1) := de_5 (lb_47 (j := 7) (b := 5) rfl)
theorem dL_law_760 : decode cL_law 760 = .ok (.iadd, 1) := de_96 (lb_47 (j := 8) (b := 96) rfl)
theorem dL_law_761 : decode cL_law 761 = .ok (.iaload, 1) := de_46 (lb_47 (j := 9) (b := 46) rfl)
theorem dL_law_762 : decode cL_law 762 = .ok (.aload_n 3, 1) := de_45 (lb_47 (j := 10) (b := 45) rfl)
theorem dL_law_763 : decode cL_law 763 = .ok (.invokestatic 256, 3) := de_184 (lb_47 (j := 11) (b := 184) rfl) (lb_47 (j := 12) (b := 1) rfl) (lb_47 (j := 13) (b := 0) rfl) rfl
theorem dL_law_766 : decode cL_law 766 = .ok (.istore 6, 2) := de_54 (lb_47 (j := 14) (b := 54) rfl) (lb_47 (j := 15) (b := 6) rfl) rfl
theorem dL_law_768 : decode cL_law 768 = .ok (.aload_n 2, 1) := de_44 (lb_48 (j := 0) (b := 44) rfl)
theorem dL_law_769 : decode cL_law 769 = .ok (.aload_n 0, 1) := de_42 (lb_48 (j := 1) (b := 42) rfl)
theorem dL_law_770 : decode cL_law 770 = .ok (.iload 5, 2) := de_21 (lb_48 (j := 2) (b := 21) rfl) (lb_48 (j := 3) (b := 5) rfl) rfl
theorem dL_law_772 : decode cL_law 772 = .ok (.iconst 1, 1) := de_4 (lb_48 (j := 4) (b := 4) rfl)
theorem dL_law_773 : decode cL_law 773 = .ok (.iadd, 1) := de_96 (lb_48 (j := 5) (b := 96) rfl)
theorem dL_law_774 : decode cL_law 774 = .ok (.iaload, 1) := de_46 (lb_48 (j := 6) (b := 46) rfl)
theorem dL_law_775 : decode cL_law 775 = .ok (.aload_n 0, 1) := de_42 (lb_48 (j := 7) (b := 42) rfl)
theorem dL_law_776 : decode cL_law 776 = .ok (.iload 5, 2) := de_21 (lb_48 (j := 8) (b := 21) rfl) (lb_48 (j := 9) (b := 5) rfl) rfl
theorem dL_law_778 : decode cL_law 778 = .ok (.iconst 2, 1) := de_5 (lb_48 (j := 10) (b := 5) rfl)
theorem dL_law_779 : decode cL_law 779 = .ok (.iadd, 1) := de_96 (lb_48 (j := 11) (b := 96) rfl)
theorem dL_law_780 : decode cL_law 780 = .ok (.iaload, 1) := de_46 (lb_48 (j := 12) (b := 46) rfl)
theorem dL_law_781 : decode cL_law 781 = .ok (.invokevirtual 258, 3) := de_182 (lb_48 (j := 13) (b := 182) rfl) (lb_48 (j := 14) (b := 1) rfl) (lb_48 (j := 15) (b := 2) rfl) rfl
theorem dL_law_784 : decode cL_law 784 = .ok (.istore 7, 2) := de_54 (lb_49 (j := 0) (b := 54) rfl) (lb_49 (j := 1) (b := 7) rfl) rfl
theorem dL_law_786 : decode cL_law 786 = .ok (.goto 1653, 3) := de_167 (lb_49 (j := 2) (b := 167) rfl) (lb_49 (j := 3) (b := 6) rfl) (lb_49 (j := 4) (b := 117) rfl) (by decide +kernel)
theorem dL_law_789 : decode cL_law 789 = .ok (.aload_n 1, 1) := de_43 (lb_49 (j := 5) (b := 43) rfl)
theorem dL_law_790 : decode cL_law 790 = .ok (.aload_n 0, 1) := de_42 (lb_49 (j := 6) (b := 42) rfl)
theorem dL_law_791 : decode cL_law 791 = .ok (.iload 5, 2) := de_21 (lb_49 (j := 7) (b := 21) rfl) (lb_49 (j := 8) (b := 5) rfl) rfl
theorem dL_law_793 : decode cL_law 793 = .ok (.iconst 1, 1) := de_4 (lb_49 (j := 9) (b := 4) rfl)
theorem dL_law_794 : decode cL_law 794 = .ok (.iadd, 1) := de_96 (lb_49 (j := 10) (b := 96) rfl)
theorem dL_law_795 : decode cL_law 795 = .ok (.iaload, 1) := de_46 (lb_49 (j := 11) (b := 46) rfl)
theorem dL_law_796 : decode cL_law 796 = .ok (.aload_n 0, 1) := de_42 (lb_49 (j := 12) (b := 42) rfl)
theorem dL_law_797 : decode cL_law 797 = .ok (.iload 5, 2) := de_21 (lb_49 (j := 13) (b := 21) rfl) (lb_49 (j := 14) (b := 5) rfl) rfl
theorem dL_law_799 : decode cL_law 799 = .ok (.iconst 2, 1) := de_5 (lb_49 (j := 15) (b := 5) rfl)
theorem dL_law_800 : decode cL_law 800 = .ok (.iadd, 1) := de_96 (lb_50 (j := 0) (b := 96) rfl)
theorem dL_law_801 : decode cL_law 801 = .ok (.iaload, 1) := de_46 (lb_50 (j := 1) (b := 46) rfl)
theorem dL_law_802 : decode cL_law 802 = .ok (.aload_n 0, 1) := de_42 (lb_50 (j := 2) (b := 42) rfl)
theorem dL_law_803 : decode cL_law 803 = .ok (.iload 5, 2) := de_21 (lb_50 (j := 3) (b := 21) rfl) (lb_50 (j := 4) (b := 5) rfl) rfl
theorem dL_law_805 : decode cL_law 805 = .ok (.iconst 3, 1) := de_6 (lb_50 (j := 5) (b := 6) rfl)
theorem dL_law_806 : decode cL_law 806 = .ok (.iadd, 1) := de_96 (lb_50 (j := 6) (b := 96) rfl)
theorem dL_law_807 : decode cL_law 807 = .ok (.iaload, 1) := de_46 (lb_50 (j := 7) (b := 46) rfl)
theorem dL_law_808 : decode cL_law 808 = .ok (.aload_n 3, 1) := de_45 (lb_50 (j := 8) (b := 45) rfl)
theorem dL_law_809 : decode cL_law 809 = .ok (.invokestatic 259, 3) := de_184 (lb_50 (j := 9) (b := 184) rfl) (lb_50 (j := 10) (b := 1) rfl) (lb_50 (j := 11) (b := 3) rfl) rfl
theorem dL_law_812 : decode cL_law 812 = .ok (.istore 6, 2) := de_54 (lb_50 (j := 12) (b := 54) rfl) (lb_50 (j := 13) (b := 6) rfl) rfl
theorem dL_law_814 : decode cL_law 814 = .ok (.aload_n 2, 1) := de_44 (lb_50 (j := 14) (b := 44) rfl)
theorem dL_law_815 : decode cL_law 815 = .ok (.aload_n 0, 1) := de_42 (lb_50 (j := 15) (b := 42) rfl)
theorem dL_law_816 : decode cL_law 816 = .ok (.iload 5, 2) := de_21 (lb_51 (j := 0) (b := 21) rfl) (lb_51 (j := 1) (b := 5) rfl) rfl
theorem dL_law_818 : decode cL_law 818 = .ok (.iconst 1, 1) := de_4 (lb_51 (j := 2) (b := 4) rfl)
theorem dL_law_819 : decode cL_law 819 = .ok (.iadd, 1) := de_96 (lb_51 (j := 3) (b := 96) rfl)
theorem dL_law_820 : decode cL_law 820 = .ok (.iaload, 1) := de_46 (lb_51 (j := 4) (b := 46) rfl)
theorem dL_law_821 : decode cL_law 821 = .ok (.aload_n 0, 1) := de_42 (lb_51 (j := 5) (b := 42) rfl)
theorem dL_law_822 : decode cL_law 822 = .ok (.iload 5, 2) := de_21 (lb_51 (j := 6) (b := 21) rfl) (lb_51 (j := 7) (b := 5) rfl) rfl
theorem dL_law_824 : decode cL_law 824 = .ok (.iconst 2, 1) := de_5 (lb_51 (j := 8) (b := 5) rfl)
theorem dL_law_825 : decode cL_law 825 = .ok (.iadd, 1) := de_96 (lb_51 (j := 9) (b := 96) rfl)
theorem dL_law_826 : decode cL_law 826 = .ok (.iaload, 1) := de_46 (lb_51 (j := 10) (b := 46) rfl)
theorem dL_law_827 : decode cL_law 827 = .ok (.aload_n 0, 1) := de_42 (lb_51 (j := 11) (b := 42) rfl)
theorem dL_law_828 : decode cL_law 828 = .ok (.iload 5, 2) := de_21 (lb_51 (j := 12) (b := 21) rfl) (lb_51 (j := 13) (b := 5) rfl) rfl
theorem dL_law_830 : decode cL_law 830 = .ok (.iconst 3, 1) := de_6 (lb_51 (j := 14) (b := 6) rfl)
theorem dL_law_831 : decode cL_law 831 = .ok (.iadd, 1) := de_96 (lb_51 (j := 15) (b := 96) rfl)
theorem dL_law_832 : decode cL_law 832 = .ok (.iaload, 1) := de_46 (lb_52 (j := 0) (b := 46) rfl)
theorem dL_law_833 : decode cL_law 833 = .ok (.invokevirtual 261, 3) := de_182 (lb_52 (j := 1) (b := 182) rfl) (lb_52 (j := 2) (b := 1) rfl) (lb_52 (j := 3) (b := 5) rfl) rfl
theorem dL_law_836 : decode cL_law 836 = .ok (.istore 7, 2) := de_54 (lb_52 (j := 4) (b := 54) rfl) (lb_52 (j := 5) (b := 7) rfl) rfl
theorem dL_law_838 : decode cL_law 838 = .ok (.goto 1601, 3) := de_167 (lb_52 (j := 6) (b := 167) rfl) (lb_52 (j := 7) (b := 6) rfl) (lb_52 (j := 8) (b := 65) rfl) (by decide +kernel)
theorem dL_law_841 : decode cL_law 841 = .ok (.aload_n 1, 1) := de_43 (lb_52 (j := 9) (b := 43) rfl)
theorem dL_law_842 : decode cL_law 842 = .ok (.aload_n 0, 1) := de_42 (lb_52 (j := 10) (b := 42) rfl)
theorem dL_law_843 : decode cL_law 843 = .ok (.iload 5, 2) := de_21 (lb_52 (j := 11) (b := 21) rfl) (lb_52 (j := 12) (b := 5) rfl) rfl
theorem dL_law_845 : decode cL_law 845 = .ok (.iconst 1, 1) := de_4 (lb_52 (j := 13) (b := 4) rfl)
theorem dL_law_846 : decode cL_law 846 = .ok (.iadd, 1) := de_96 (lb_52 (j := 14) (b := 96) rfl)
theorem dL_law_847 : decode cL_law 847 = .ok (.iaload, 1) := de_46 (lb_52 (j := 15) (b := 46) rfl)
theorem dL_law_848 : decode cL_law 848 = .ok (.aload_n 3, 1) := de_45 (lb_53 (j := 0) (b := 45) rfl)
theorem dL_law_849 : decode cL_law 849 = .ok (.invokestatic 262, 3) := de_184 (lb_53 (j := 1) (b := 184) rfl) (lb_53 (j := 2) (b := 1) rfl) (lb_53 (j := 3) (b := 6) rfl) rfl
theorem dL_law_852 : decode cL_law 852 = .ok (.istore 6, 2) := de_54 (lb_53 (j := 4) (b := 54) rfl) (lb_53 (j := 5) (b := 6) rfl) rfl
theorem dL_law_854 : decode cL_law 854 = .ok (.aload_n 2, 1) := de_44 (lb_53 (j := 6) (b := 44) rfl)
theorem dL_law_855 : decode cL_law 855 = .ok (.aload_n 0, 1) := de_42 (lb_53 (j := 7) (b := 42) rfl)
theorem dL_law_856 : decode cL_law 856 = .ok (.iload 5, 2) := de_21 (lb_53 (j := 8) (b := 21) rfl) (lb_53 (j := 9) (b := 5) rfl) rfl
theorem dL_law_858 : decode cL_law 858 = .ok (.iconst 1, 1) := de_4 (lb_53 (j := 10) (b := 4) rfl)
theorem dL_law_859 : decode cL_law 859 = .ok (.iadd, 1) := de_96 (lb_53 (j := 11) (b := 96) rfl)
theorem dL_law_860 : decode cL_law 860 = .ok (.iaload, 1) := de_46 (lb_53 (j := 12) (b := 46) rfl)
theorem dL_law_861 : decode cL_law 861 = .ok (.invokevirtual 264, 3) := de_182 (lb_53 (j := 13) (b := 182) rfl) (lb_53 (j := 14) (b := 1) rfl) (lb_53 (j := 15) (b := 8) rfl) rfl
theorem dL_law_864 : decode cL_law 864 = .ok (.istore 7, 2) := de_54 (lb_54 (j := 0) (b := 54) rfl) (lb_54 (j := 1) (b := 7) rfl) rfl
theorem dL_law_866 : decode cL_law 866 = .ok (.goto 1573, 3) := de_167 (lb_54 (j := 2) (b := 167) rfl) (lb_54 (j := 3) (b := 6) rfl) (lb_54 (j := 4) (b := 37) rfl) (by decide +kernel)
theorem dL_law_869 : decode cL_law 869 = .ok (.aload_n 1, 1) := de_43 (lb_54 (j := 5) (b := 43) rfl)
theorem dL_law_870 : decode cL_law 870 = .ok (.aload_n 0, 1) := de_42 (lb_54 (j := 6) (b := 42) rfl)
theorem dL_law_871 : decode cL_law 871 = .ok (.iload 5, 2) := de_21 (lb_54 (j := 7) (b := 21) rfl) (lb_54 (j := 8) (b := 5) rfl) rfl
theorem dL_law_873 : decode cL_law 873 = .ok (.iconst 1, 1) := de_4 (lb_54 (j := 9) (b := 4) rfl)
theorem dL_law_874 : decode cL_law 874 = .ok (.iadd, 1) := de_96 (lb_54 (j := 10) (b := 96) rfl)
theorem dL_law_875 : decode cL_law 875 = .ok (.iaload, 1) := de_46 (lb_54 (j := 11) (b := 46) rfl)
theorem dL_law_876 : decode cL_law 876 = .ok (.aload_n 3, 1) := de_45 (lb_54 (j := 12) (b := 45) rfl)
theorem dL_law_877 : decode cL_law 877 = .ok (.invokestatic 265, 3) := de_184 (lb_54 (j := 13) (b := 184) rfl) (lb_54 (j := 14) (b := 1) rfl) (lb_54 (j := 15) (b := 9) rfl) rfl
theorem dL_law_880 : decode cL_law 880 = .ok (.istore 6, 2) := de_54 (lb_55 (j := 0) (b := 54) rfl) (lb_55 (j := 1) (b := 6) rfl) rfl
theorem dL_law_882 : decode cL_law 882 = .ok (.aload_n 2, 1) := de_44 (lb_55 (j := 2) (b := 44) rfl)
theorem dL_law_883 : decode cL_law 883 = .ok (.aload_n 0, 1) := de_42 (lb_55 (j := 3) (b := 42) rfl)
theorem dL_law_884 : decode cL_law 884 = .ok (.iload 5, 2) := de_21 (lb_55 (j := 4) (b := 21) rfl) (lb_55 (j := 5) (b := 5) rfl) rfl
theorem dL_law_886 : decode cL_law 886 = .ok (.iconst 1, 1) := de_4 (lb_55 (j := 6) (b := 4) rfl)
theorem dL_law_887 : decode cL_law 887 = .ok (.iadd, 1) := de_96 (lb_55 (j := 7) (b := 96) rfl)
theorem dL_law_888 : decode cL_law 888 = .ok (.iaload, 1) := de_46 (lb_55 (j := 8) (b := 46) rfl)
theorem dL_law_889 : decode cL_law 889 = .ok (.invokevirtual 267, 3) := de_182 (lb_55 (j := 9) (b := 182) rfl) (lb_55 (j := 10) (b := 1) rfl) (lb_55 (j := 11) (b := 11) rfl) rfl
theorem dL_law_892 : decode cL_law 892 = .ok (.istore 7, 2) := de_54 (lb_55 (j := 12) (b := 54) rfl) (lb_55 (j := 13) (b := 7) rfl) rfl
theorem dL_law_894 : decode cL_law 894 = .ok (.goto 1545, 3) := de_167 (lb_55 (j := 14) (b := 167) rfl) (lb_55 (j := 15) (b := 6) rfl) (lb_56 (j := 0) (b := 9) rfl) (by decide +kernel)
theorem dL_law_897 : decode cL_law 897 = .ok (.aload_n 1, 1) := de_43 (lb_56 (j := 1) (b := 43) rfl)
theorem dL_law_898 : decode cL_law 898 = .ok (.aload_n 0, 1) := de_42 (lb_56 (j := 2) (b := 42) rfl)
theorem dL_law_899 : decode cL_law 899 = .ok (.iload 5, 2) := de_21 (lb_56 (j := 3) (b := 21) rfl) (lb_56 (j := 4) (b := 5) rfl) rfl
theorem dL_law_901 : decode cL_law 901 = .ok (.iconst 1, 1) := de_4 (lb_56 (j := 5) (b := 4) rfl)
theorem dL_law_902 : decode cL_law 902 = .ok (.iadd, 1) := de_96 (lb_56 (j := 6) (b := 96) rfl)
theorem dL_law_903 : decode cL_law 903 = .ok (.iaload, 1) := de_46 (lb_56 (j := 7) (b := 46) rfl)
theorem dL_law_904 : decode cL_law 904 = .ok (.aload_n 0, 1) := de_42 (lb_56 (j := 8) (b := 42) rfl)
theorem dL_law_905 : decode cL_law 905 = .ok (.iload 5, 2) := de_21 (lb_56 (j := 9) (b := 21) rfl) (lb_56 (j := 10) (b := 5) rfl) rfl
theorem dL_law_907 : decode cL_law 907 = .ok (.iconst 2, 1) := de_5 (lb_56 (j := 11) (b := 5) rfl)
theorem dL_law_908 : decode cL_law 908 = .ok (.iadd, 1) := de_96 (lb_56 (j := 12) (b := 96) rfl)
theorem dL_law_909 : decode cL_law 909 = .ok (.iaload, 1) := de_46 (lb_56 (j := 13) (b := 46) rfl)
theorem dL_law_910 : decode cL_law 910 = .ok (.aload_n 3, 1) := de_45 (lb_56 (j := 14) (b := 45) rfl)
theorem dL_law_911 : decode cL_law 911 = .ok (.invokestatic 268, 3) := de_184 (lb_56 (j := 15) (b := 184) rfl) (lb_57 (j := 0) (b := 1) rfl) (lb_57 (j := 1) (b := 12) rfl) rfl
theorem dL_law_914 : decode cL_law 914 = .ok (.istore 6, 2) := de_54 (lb_57 (j := 2) (b := 54) rfl) (lb_57 (j := 3) (b := 6) rfl) rfl
theorem dL_law_916 : decode cL_law 916 = .ok (.aload_n 2, 1) := de_44 (lb_57 (j := 4) (b := 44) rfl)
theorem dL_law_917 : decode cL_law 917 = .ok (.aload_n 0, 1) := de_42 (lb_57 (j := 5) (b := 42) rfl)
theorem dL_law_918 : decode cL_law 918 = .ok (.iload 5, 2) := de_21 (lb_57 (j := 6) (b := 21) rfl) (lb_57 (j := 7) (b := 5) rfl) rfl
theorem dL_law_920 : decode cL_law 920 = .ok (.iconst 1, 1) := de_4 (lb_57 (j := 8) (b := 4) rfl)
theorem dL_law_921 : decode cL_law 921 = .ok (.iadd, 1) := de_96 (lb_57 (j := 9) (b := 96) rfl)
theorem dL_law_922 : decode cL_law 922 = .ok (.iaload, 1) := de_46 (lb_57 (j := 10) (b := 46) rfl)
theorem dL_law_923 : decode cL_law 923 = .ok (.aload_n 0, 1) := de_42 (lb_57 (j := 11) (b := 42) rfl)
theorem dL_law_924 : decode cL_law 924 = .ok (.iload 5, 2) := de_21 (lb_57 (j := 12) (b := 21) rfl) (lb_57 (j := 13) (b := 5) rfl) rfl
theorem dL_law_926 : decode cL_law 926 = .ok (.iconst 2, 1) := de_5 (lb_57 (j := 14) (b := 5) rfl)
theorem dL_law_927 : decode cL_law 927 = .ok (.iadd, 1) := de_96 (lb_57 (j := 15) (b := 96) rfl)
theorem dL_law_928 : decode cL_law 928 = .ok (.iaload, 1) := de_46 (lb_58 (j := 0) (b := 46) rfl)
theorem dL_law_929 : decode cL_law 929 = .ok (.invokevirtual 270, 3) := de_182 (lb_58 (j := 1) (b := 182) rfl) (lb_58 (j := 2) (b := 1) rfl) (lb_58 (j := 3) (b := 14) rfl) rfl
theorem dL_law_932 : decode cL_law 932 = .ok (.istore 7, 2) := de_54 (lb_58 (j := 4) (b := 54) rfl) (lb_58 (j := 5) (b := 7) rfl) rfl
theorem dL_law_934 : decode cL_law 934 = .ok (.goto 1505, 3) := de_167 (lb_58 (j := 6) (b := 167) rfl) (lb_58 (j := 7) (b := 5) rfl) (lb_58 (j := 8) (b := 225) rfl) (by decide +kernel)
theorem dL_law_937 : decode cL_law 937 = .ok (.aload_n 1, 1) := de_43 (lb_58 (j := 9) (b := 43) rfl)
theorem dL_law_938 : decode cL_law 938 = .ok (.aload_n 0, 1) := de_42 (lb_58 (j := 10) (b := 42) rfl)
theorem dL_law_939 : decode cL_law 939 = .ok (.iload 5, 2) := de_21 (lb_58 (j := 11) (b := 21) rfl) (lb_58 (j := 12) (b := 5) rfl) rfl
theorem dL_law_941 : decode cL_law 941 = .ok (.iconst 1, 1) := de_4 (lb_58 (j := 13) (b := 4) rfl)
theorem dL_law_942 : decode cL_law 942 = .ok (.iadd, 1) := de_96 (lb_58 (j := 14) (b := 96) rfl)
theorem dL_law_943 : decode cL_law 943 = .ok (.iaload, 1) := de_46 (lb_58 (j := 15) (b := 46) rfl)
theorem dL_law_944 : decode cL_law 944 = .ok (.aload_n 0, 1) := de_42 (lb_59 (j := 0) (b := 42) rfl)
theorem dL_law_945 : decode cL_law 945 = .ok (.iload 5, 2) := de_21 (lb_59 (j := 1) (b := 21) rfl) (lb_59 (j := 2) (b := 5) rfl) rfl
theorem dL_law_947 : decode cL_law 947 = .ok (.iconst 2, 1) := de_5 (lb_59 (j := 3) (b := 5) rfl)
theorem dL_law_948 : decode cL_law 948 = .ok (.iadd, 1) := de_96 (lb_59 (j := 4) (b := 96) rfl)
theorem dL_law_949 : decode cL_law 949 = .ok (.iaload, 1) := de_46 (lb_59 (j := 5) (b := 46) rfl)
theorem dL_law_950 : decode cL_law 950 = .ok (.aload_n 3, 1) := de_45 (lb_59 (j := 6) (b := 45) rfl)
theorem dL_law_951 : decode cL_law 951 = .ok (.invokestatic 271, 3) := de_184 (lb_59 (j := 7) (b := 184) rfl) (lb_59 (j := 8) (b := 1) rfl) (lb_59 (j := 9) (b := 15) rfl) rfl
theorem dL_law_954 : decode cL_law 954 = .ok (.istore 6, 2) := de_54 (lb_59 (j := 10) (b := 54) rfl) (lb_59 (j := 11) (b := 6) rfl) rfl
theorem dL_law_956 : decode cL_law 956 = .ok (.aload_n 2, 1) := de_44 (lb_59 (j := 12) (b := 44) rfl)
theorem dL_law_957 : decode cL_law 957 = .ok (.aload_n 0, 1) := de_42 (lb_59 (j := 13) (b := 42) rfl)
theorem dL_law_958 : decode cL_law 958 = .ok (.iload 5, 2) := de_21 (lb_59 (j := 14) (b := 21) rfl) (lb_59 (j := 15) (b := 5) rfl) rfl
theorem dL_law_960 : decode cL_law 960 = .ok (.iconst 1, 1) := de_4 (lb_60 (j := 0) (b := 4) rfl)
theorem dL_law_961 : decode cL_law 961 = .ok (.iadd, 1) := de_96 (lb_60 (j := 1) (b := 96) rfl)
theorem dL_law_962 : decode cL_law 962 = .ok (.iaload, 1) := de_46 (lb_60 (j := 2) (b := 46) rfl)
theorem dL_law_963 : decode cL_law 963 = .ok (.aload_n 0, 1) := de_42 (lb_60 (j := 3) (b := 42) rfl)
theorem dL_law_964 : decode cL_law 964 = .ok (.iload 5, 2) := de_21 (lb_60 (j := 4) (b := 21) rfl) (lb_60 (j := 5) (b := 5) rfl) rfl
theorem dL_law_966 : decode cL_law 966 = .ok (.iconst 2, 1) := de_5 (lb_60 (j := 6) (b := 5) rfl)
theorem dL_law_967 : decode cL_law 967 = .ok (.iadd, 1) := de_96 (lb_60 (j := 7) (b := 96) rfl)
theorem dL_law_968 : decode cL_law 968 = .ok (.iaload, 1) := de_46 (lb_60 (j := 8) (b := 46) rfl)
theorem dL_law_969 : decode cL_law 969 = .ok (.invokevirtual 273, 3) := de_182 (lb_60 (j := 9) (b := 182) rfl) (lb_60 (j := 10) (b := 1) rfl) (lb_60 (j := 11) (b := 17) rfl) rfl
theorem dL_law_972 : decode cL_law 972 = .ok (.istore 7, 2) := de_54 (lb_60 (j := 12) (b := 54) rfl) (lb_60 (j := 13) (b := 7) rfl) rfl
theorem dL_law_974 : decode cL_law 974 = .ok (.goto 1465, 3) := de_167 (lb_60 (j := 14) (b := 167) rfl) (lb_60 (j := 15) (b := 5) rfl) (lb_61 (j := 0) (b := 185) rfl) (by decide +kernel)
theorem dL_law_977 : decode cL_law 977 = .ok (.aload_n 1, 1) := de_43 (lb_61 (j := 1) (b := 43) rfl)
theorem dL_law_978 : decode cL_law 978 = .ok (.aload_n 0, 1) := de_42 (lb_61 (j := 2) (b := 42) rfl)
theorem dL_law_979 : decode cL_law 979 = .ok (.iload 5, 2) := de_21 (lb_61 (j := 3) (b := 21) rfl) (lb_61 (j := 4) (b := 5) rfl) rfl
theorem dL_law_981 : decode cL_law 981 = .ok (.iconst 1, 1) := de_4 (lb_61 (j := 5) (b := 4) rfl)
theorem dL_law_982 : decode cL_law 982 = .ok (.iadd, 1) := de_96 (lb_61 (j := 6) (b := 96) rfl)
theorem dL_law_983 : decode cL_law 983 = .ok (.iaload, 1) := de_46 (lb_61 (j := 7) (b := 46) rfl)
theorem dL_law_984 : decode cL_law 984 = .ok (.aload_n 3, 1) := de_45 (lb_61 (j := 8) (b := 45) rfl)
theorem dL_law_985 : decode cL_law 985 = .ok (.invokestatic 274, 3) := de_184 (lb_61 (j := 9) (b := 184) rfl) (lb_61 (j := 10) (b := 1) rfl) (lb_61 (j := 11) (b := 18) rfl) rfl
theorem dL_law_988 : decode cL_law 988 = .ok (.istore 6, 2) := de_54 (lb_61 (j := 12) (b := 54) rfl) (lb_61 (j := 13) (b := 6) rfl) rfl
theorem dL_law_990 : decode cL_law 990 = .ok (.aload_n 2, 1) := de_44 (lb_61 (j := 14) (b := 44) rfl)
theorem dL_law_991 : decode cL_law 991 = .ok (.aload_n 0, 1) := de_42 (lb_61 (j := 15) (b := 42) rfl)
theorem dL_law_992 : decode cL_law 992 = .ok (.iload 5, 2) := de_21 (lb_62 (j := 0) (b := 21) rfl) (lb_62 (j := 1) (b := 5) rfl) rfl
theorem dL_law_994 : decode cL_law 994 = .ok (.iconst 1, 1) := de_4 (lb_62 (j := 2) (b := 4) rfl)
theorem dL_law_995 : decode cL_law 995 = .ok (.iadd, 1) := de_96 (lb_62 (j := 3) (b := 96) rfl)
theorem dL_law_996 : decode cL_law 996 = .ok (.iaload, 1) := de_46 (lb_62 (j := 4) (b := 46) rfl)
theorem dL_law_997 : decode cL_law 997 = .ok (.invokevirtual 276, 3) := de_182 (lb_62 (j := 5) (b := 182) rfl) (lb_62 (j := 6) (b := 1) rfl) (lb_62 (j := 7) (b := 20) rfl) rfl
theorem dL_law_1000 : decode cL_law 1000 = .ok (.lstore 7, 2) := de_55 (lb_62 (j := 8) (b := 55) rfl) (lb_62 (j := 9) (b := 7) rfl) rfl
theorem dL_law_1002 : decode cL_law 1002 = .ok (.goto 1437, 3) := de_167 (lb_62 (j := 10) (b := 167) rfl) (lb_62 (j := 11) (b := 5) rfl) (lb_62 (j := 12) (b := 157) rfl) (by decide +kernel)
theorem dL_law_1005 : decode cL_law 1005 = .ok (.aload_n 1, 1) := de_43 (lb_62 (j := 13) (b := 43) rfl)
theorem dL_law_1006 : decode cL_law 1006 = .ok (.aload_n 0, 1) := de_42 (lb_62 (j := 14) (b := 42) rfl)
theorem dL_law_1007 : decode cL_law 1007 = .ok (.iload 5, 2) := de_21 (lb_62 (j := 15) (b := 21) rfl) (lb_63 (j := 0) (b := 5) rfl) rfl
theorem dL_law_1009 : decode cL_law 1009 = .ok (.iconst 1, 1) := de_4 (lb_63 (j := 1) (b := 4) rfl)
theorem dL_law_1010 : decode cL_law 1010 = .ok (.iadd, 1) := de_96 (lb_63 (j := 2) (b := 96) rfl)
theorem dL_law_1011 : decode cL_law 1011 = .ok (.iaload, 1) := de_46 (lb_63 (j := 3) (b := 46) rfl)
theorem dL_law_1012 : decode cL_law 1012 = .ok (.aload_n 0, 1) := de_42 (lb_63 (j := 4) (b := 42) rfl)
theorem dL_law_1013 : decode cL_law 1013 = .ok (.iload 5, 2) := de_21 (lb_63 (j := 5) (b := 21) rfl) (lb_63 (j := 6) (b := 5) rfl) rfl
theorem dL_law_1015 : decode cL_law 1015 = .ok (.iconst 2, 1) := de_5 (lb_63 (j := 7) (b := 5) rfl)
theorem dL_law_1016 : decode cL_law 1016 = .ok (.iadd, 1) := de_96 (lb_63 (j := 8) (b := 96) rfl)
theorem dL_law_1017 : decode cL_law 1017 = .ok (.iaload, 1) := de_46 (lb_63 (j := 9) (b := 46) rfl)
theorem dL_law_1018 : decode cL_law 1018 = .ok (.aload_n 3, 1) := de_45 (lb_63 (j := 10) (b := 45) rfl)
theorem dL_law_1019 : decode cL_law 1019 = .ok (.invokestatic 277, 3) := de_184 (lb_63 (j := 11) (b := 184) rfl) (lb_63 (j := 12) (b := 1) rfl) (lb_63 (j := 13) (b := 21) rfl) rfl
theorem dL_law_1022 : decode cL_law 1022 = .ok (.istore 6, 2) := de_54 (lb_63 (j := 14) (b := 54) rfl) (lb_63 (j := 15) (b := 6) rfl) rfl
theorem dL_law_1024 : decode cL_law 1024 = .ok (.aload_n 2, 1) := de_44 (lb_64 (j := 0) (b := 44) rfl)
theorem dL_law_1025 : decode cL_law 1025 = .ok (.aload_n 0, 1) := de_42 (lb_64 (j := 1) (b := 42) rfl)
theorem dL_law_1026 : decode cL_law 1026 = .ok (.iload 5, 2) := de_21 (lb_64 (j := 2) (b := 21) rfl) (lb_64 (j := 3) (b := 5) rfl) rfl
theorem dL_law_1028 : decode cL_law 1028 = .ok (.iconst 1, 1) := de_4 (lb_64 (j := 4) (b := 4) rfl)
theorem dL_law_1029 : decode cL_law 1029 = .ok (.iadd, 1) := de_96 (lb_64 (j := 5) (b := 96) rfl)
theorem dL_law_1030 : decode cL_law 1030 = .ok (.iaload, 1) := de_46 (lb_64 (j := 6) (b := 46) rfl)
theorem dL_law_1031 : decode cL_law 1031 = .ok (.aload_n 0, 1) := de_42 (lb_64 (j := 7) (b := 42) rfl)
theorem dL_law_1032 : decode cL_law 1032 = .ok (.iload 5, 2) := de_21 (lb_64 (j := 8) (b := 21) rfl) (lb_64 (j := 9) (b := 5) rfl) rfl
theorem dL_law_1034 : decode cL_law 1034 = .ok (.iconst 2, 1) := de_5 (lb_64 (j := 10) (b := 5) rfl)
theorem dL_law_1035 : decode cL_law 1035 = .ok (.iadd, 1) := de_96 (lb_64 (j := 11) (b := 96) rfl)
theorem dL_law_1036 : decode cL_law 1036 = .ok (.iaload, 1) := de_46 (lb_64 (j := 12) (b := 46) rfl)
theorem dL_law_1037 : decode cL_law 1037 = .ok (.invokevirtual 279, 3) := de_182 (lb_64 (j := 13) (b := 182) rfl) (lb_64 (j := 14) (b := 1) rfl) (lb_64 (j := 15) (b := 23) rfl) rfl
theorem dL_law_1040 : decode cL_law 1040 = .ok (.lstore 7, 2) := de_55 (lb_65 (j := 0) (b := 55) rfl) (lb_65 (j := 1) (b := 7) rfl) rfl
theorem dL_law_1042 : decode cL_law 1042 = .ok (.goto 1397, 3) := de_167 (lb_65 (j := 2) (b := 167) rfl) (lb_65 (j := 3) (b := 5) rfl) (lb_65 (j := 4) (b := 117) rfl) (by decide +kernel)
set_option maxHeartbeats 4000000 in
set_option maxRecDepth 100000 in
theorem y_a16 {p : Program} {e : Env} {s : State} {m : MethodId} {below : List Frame} {meth : Method} {c : Code} (l : Launch) (hst : l.stackTraces = false) {b L : Nat} {xs : Nat → Int32} (hx : p.tables.exec = Jvm.exec) (hb : c.code = code) (hml : c.maxLocals = 9) (hown : s.vm.findClass RL = some m.cls) (hts : ∀ w ∈ lw_tbl, w.before #[Value.ref b] s = true) (hX0 : va_X b L xs s s.heap) (hbl : b < s.heap.size) (hX : xT (fun q => s.heap.size ≤ q) s) (hN : nC s) (hTS : sAll s.heap.size s) {D : va_G} {cI cJ cZ cMic cSrc cSt cAI cAJ cD : ClassId} (hK : va_K D vwCl (CT cI cJ cZ cMic cSrc cSt cAI cAJ ++ [(cD, .double)]) s) {Q : State → Prop} {i j : Nat} (hi : i + 6 ≤ L) (hL : L ≤ 3072) (hj : j < 512) {aj ae : Nat} {ad am : Nat → Nat} {T : AT} {Sm : MS} {f : Nat → Int64} {g : Nat → UInt64} {ls : Array Slot} {H : Heap} {locs : List Loc} (hV : IV aR0 1586 aK1 aK2 T) (hrc : RC T) (hJ : JJ Sm) (G : gL cI cJ cZ cMic cSrc cSt cAI cAJ D ad (fun q => s.heap.size ≤ q) s.heap H locs T (oJ aj cJ f :: oD ae cD g :: MW cI cJ cZ am Sm)) (hl : lv_has ls 9 [(5, .int (nI i)), (4, .ref ae), (3, .ref aj), (2, .ref (am 0)), (1, .ref (ad 0)), (0, .ref b)]) (kk : ∀ {k1 : Nat} {r1 : Int32} {T1 : AT} {r2 : Int32} {S1 : MS} (ad2 : Nat → Nat) (f1 : Nat → Int64) (g1 : Nat → UInt64) (H1 : Heap) (locs1 : List Loc) (ls1 : Array Slot), g_X11_delay T 0 (xs (i + 1)) (xs (i + 2)) = some (k1, r1, T1) → fr_delay Sm (xs (i + 1)) (xs (i + 2)) = some (r2, S1) → ad2 0 = ad 0 → IV aR0 1586 aK1 aK2 T1 → RC T1 → JJ S1 → gL cI cJ cZ cMic cSrc cSt cAI cAJ D ad2 (fun q => s.heap.size ≤ q) s.heap H1 locs1 T1 (oJ aj cJ f1 :: oD ae cD g1 :: MW cI cJ cZ am S1) → lv_has ls1 9 [(5, .int (nI i)), (4, .ref ae), (3, .ref aj), (2, .ref (am 0)), (1, .ref (ad2 0)), (0, .ref b)] → W p l e room_1 s m #[Value.ref b] below meth c H1 locs1 (19 + T1.1 + (j + 1)) (38467 + sg T1 + 6 * (j + 1)) Q (F0 m 2439 ls1 [])) : W p l e room_1 s m #[Value.ref b] below meth c H locs (19 + T.1 + j) (38467 + sg T + 6 * j) Q (F0 m 749 ls []) := by
  have E : cE p c cL_law s m #[Value.ref b] lw_tbl D RL (CT cI cJ cZ cMic cSrc cSt cAI cAJ ++ [(cD, .double)]) := ⟨hx, hb, hts, hown, hK⟩
  have hA : ∀ q : Nat, s.heap.size ≤ q → s.heap.size ≤ q := fun _ h => h
  have h0T : 0 < T.1 := Nat.lt_of_lt_of_le (by decide) hV.1.2.2
  have h0s : T.2.1 0 = (11, 0) := hV.2.1 0 ⟨by decide, by decide +kernel, by decide +kernel⟩
  refine lv_aload_n hx hb dL_law_749 rfl (lv_at hl 4 rfl) ?_
  refine lv_aload_n hx hb dL_law_750 rfl (lv_at hl 5 rfl) ?_
  refine lv_iload hx hb dL_law_751 (lv_at hl 0 rfl) ?_
  refine lv_iconst (v := 1) hx hb dL_law_753 (by decide) ?_
  refine lv_iadd hx hb dL_law_754 ?_
  refine lv_to (y := nI (i + 1)) (nI_add i 1) ?_
  refine va_sld hx hb hX0 hbl (Nat.not_le.mpr hbl) G.2.2 (i := nI (i + 1)) (vp_in_nI (n := i + 1) (N := L) (by omega) (by omega)) dL_law_755 ?_
  refine lv_to (y := xs (i + 1)) (congrArg xs (nI_clamp (by omega))) ?_
  refine lv_aload_n hx hb dL_law_756 rfl (lv_at hl 5 rfl) ?_
  refine lv_iload hx hb dL_law_757 (lv_at hl 0 rfl) ?_
  refine lv_iconst (v := 2) hx hb dL_law_759 (by decide) ?_
  refine lv_iadd hx hb dL_law_760 ?_
  refine lv_to (y := nI (i + 2)) (nI_add i 2) ?_
  refine va_sld hx hb hX0 hbl (Nat.not_le.mpr hbl) G.2.2 (i := nI (i + 2)) (vp_in_nI (n := i + 2) (N := L) (by omega) (by omega)) dL_law_761 ?_
  refine lv_to (y := xs (i + 2)) (congrArg xs (nI_clamp (by omega))) ?_
  refine lv_aload_n hx hb dL_law_762 rfl (lv_at hl 2 rfl) ?_
  obtain ⟨⟨k1, r1, T1⟩, hg, hc⟩ := cs_X11_delay T 0 (xs (i + 1)) (xs (i + 2)) hV (by decide +kernel)
  have hV1 : IV aR0 1586 aK1 aK2 T1 := by rw [show T1 = T from hc.1]; exact hV
  have hg1 := (gl_sp (s_X11_delay hg))
  have hg2 := sg_le hg1
  have hg3 := hg1.1
  have hk := hV1.2.2.2.2.2.2
  have hrc1 := hg1.2.2 hrc
  have hr0 := a_room
  refine l_v (h0 := s.heap.size) (As := [.ref (ad 0), .int (xs (i + 1)), .int (xs (i + 2)), .ref aj]) (rest := []) E G hA hX hN (fun _ h => h) hTS hml (v_delay l hst D s.heap.size ad T 0 (xs (i + 1)) (xs (i + 2)) aj f hg hrc h0T h0s) (vx_cwSW 4 hts (glA (L := [Cond.methodLink RL 256 yL_delay, Cond.static yL_delay, Cond.initialized RL]) (gl_in [(5, 106), (5, 107), (1, 0)] (by decide +kernel) (by decide +kernel)) ⟨(t_of [Cond.codeWith yL_delay cL_delay 5 (some .int) [(0, 10, 13, 21), (0, 10, 17, 13)]] [(5, 108)] (by decide +kernel) _ List.mem_cons_self), List.all_eq_true.mp (by decide +kernel : [Cond.codeWith yL_delay cL_delay 5 (some .int) [(0, 10, 13, 21), (0, 10, 17, 13)]].all goodWord = true) _ List.mem_cons_self⟩) rfl rfl rfl (by decide +kernel) ⟨Nat.le_of_ble_eq_true rfl, Nat.le_of_ble_eq_true rfl⟩) rfl hl.1 rfl (lv_room (Nat.le_of_ble_eq_true rfl)) dL_law_763 ⟨by show _ ≤ 601024; omega, by show _ ≤ 7293034; omega⟩ ?_
  intro ad2 H locs had G
  rw [← had 0 h0T] at hl
  refine lv_istore (lv' := [(6, .int (vck 1 2 0 k1)), (5, .int (nI i)), (4, .ref ae), (3, .ref aj), (2, .ref (am 0)), (1, .ref (ad2 0)), (0, .ref b)]) hx hb dL_law_766 hl (by decide) rfl (fun ls hl => ?_)
  refine lv_aload_n hx hb dL_law_768 rfl (lv_at hl 4 rfl) ?_
  refine lv_aload_n hx hb dL_law_769 rfl (lv_at hl 6 rfl) ?_
  refine lv_iload hx hb dL_law_770 (lv_at hl 1 rfl) ?_
  refine lv_iconst (v := 1) hx hb dL_law_772 (by decide) ?_
  refine lv_iadd hx hb dL_law_773 ?_
  refine lv_to (y := nI (i + 1)) (nI_add i 1) ?_
  refine va_sld hx hb hX0 hbl (Nat.not_le.mpr hbl) G.2.2 (i := nI (i + 1)) (vp_in_nI (n := i + 1) (N := L) (by omega) (by omega)) dL_law_774 ?_
  refine lv_to (y := xs (i + 1)) (congrArg xs (nI_clamp (by omega))) ?_
  refine lv_aload_n hx hb dL_law_775 rfl (lv_at hl 6 rfl) ?_
  refine lv_iload hx hb dL_law_776 (lv_at hl 1 rfl) ?_
  refine lv_iconst (v := 2) hx hb dL_law_778 (by decide) ?_
  refine lv_iadd hx hb dL_law_779 ?_
  refine lv_to (y := nI (i + 2)) (nI_add i 2) ?_
  refine va_sld hx hb hX0 hbl (Nat.not_le.mpr hbl) G.2.2 (i := nI (i + 2)) (vp_in_nI (n := i + 2) (N := L) (by omega) (by omega)) dL_law_780 ?_
  refine lv_to (y := xs (i + 2)) (congrArg xs (nI_clamp (by omega))) ?_
  obtain ⟨⟨r2, S1⟩, hf, hj⟩ := sj_delay Sm (xs (i + 1)) (xs (i + 2)) hJ
  have hJ1 : JJ S1 := hj
  refine y_mi (As := [.int (xs (i + 1)), .int (xs (i + 2))]) (rest := []) E G hA hX.2.2.2.2 hml (tr_delay l D cI cJ cZ am Sm (xs (i + 1)) (xs (i + 2)) hf) (cwV 2 hts (glM (L := [Cond.methodLink RL 258 yX12_delay, Cond.instanceMethod yX12_delay, Cond.selects RX12 yX12_delay yX12_delay, Cond.initialized RX12]) (gl_in [(9, 112), (9, 113), (9, 114), (1, 14)] (by decide +kernel) (by decide +kernel)) ⟨(t_of [Cond.code yX12_delay cX12_delay 3 (some .int)] [(9, 115)] (by decide +kernel) _ List.mem_cons_self), List.all_eq_true.mp (by decide +kernel : [Cond.code yX12_delay cX12_delay 3 (some .int)].all goodWord = true) _ List.mem_cons_self⟩) rfl rfl rfl (by decide +kernel) ⟨Nat.le_of_ble_eq_true rfl, Nat.le_of_ble_eq_true rfl⟩) rfl hl.1 rfl (lv_room (Nat.le_of_ble_eq_true rfl)) dL_law_781 ⟨by show _ ≤ 601024; omega, by show _ ≤ 7293034; omega⟩ (fun H locs G => ?_)
  refine lv_istore (lv' := [(7, .int r2), (6, .int (vck 1 2 0 k1)), (5, .int (nI i)), (4, .ref ae), (3, .ref aj), (2, .ref (am 0)), (1, .ref (ad2 0)), (0, .ref b)]) hx hb dL_law_784 hl (by decide) rfl (fun ls hl => ?_)
  refine lv_goto (tgt := 2439) hx hb dL_law_786 (by decide) ?_
  have hl := lv_sub hl [2, 3, 4, 5, 6, 7] rfl
  refine W.widen (k := 19 + T1.1 + (j + 1)) (n := 38467 + sg T1 + 6 * (j + 1)) (by omega) (by omega) ?_
  exact kk ad2 (vfJ k1 f r1.toInt64) g H locs ls hg hf (had 0 h0T) hV1 hrc1 hJ1 G hl
set_option maxHeartbeats 4000000 in
set_option maxRecDepth 100000 in
theorem y_a17 {p : Program} {e : Env} {s : State} {m : MethodId} {below : List Frame} {meth : Method} {c : Code} (l : Launch) (hst : l.stackTraces = false) {b L : Nat} {xs : Nat → Int32} (hx : p.tables.exec = Jvm.exec) (hb : c.code = code) (hml : c.maxLocals = 9) (hown : s.vm.findClass RL = some m.cls) (hts : ∀ w ∈ lw_tbl, w.before #[Value.ref b] s = true) (hX0 : va_X b L xs s s.heap) (hbl : b < s.heap.size) (hX : xT (fun q => s.heap.size ≤ q) s) (hN : nC s) (hTS : sAll s.heap.size s) {D : va_G} {cI cJ cZ cMic cSrc cSt cAI cAJ cD : ClassId} (hK : va_K D vwCl (CT cI cJ cZ cMic cSrc cSt cAI cAJ ++ [(cD, .double)]) s) {Q : State → Prop} {i j : Nat} (hi : i + 6 ≤ L) (hL : L ≤ 3072) (hj : j < 512) {aj ae : Nat} {ad am : Nat → Nat} {T : AT} {Sm : MS} {f : Nat → Int64} {g : Nat → UInt64} {ls : Array Slot} {H : Heap} {locs : List Loc} (hV : IV aR0 1586 aK1 aK2 T) (hrc : RC T) (hJ : JJ Sm) (G : gL cI cJ cZ cMic cSrc cSt cAI cAJ D ad (fun q => s.heap.size ≤ q) s.heap H locs T (oJ aj cJ f :: oD ae cD g :: MW cI cJ cZ am Sm)) (hl : lv_has ls 9 [(5, .int (nI i)), (4, .ref ae), (3, .ref aj), (2, .ref (am 0)), (1, .ref (ad 0)), (0, .ref b)]) (kk : ∀ {k1 : Nat} {r1 : Int32} {T1 : AT} {r2 : Int32} {S1 : MS} (ad2 : Nat → Nat) (f1 : Nat → Int64) (g1 : Nat → UInt64) (H1 : Heap) (locs1 : List Loc) (ls1 : Array Slot), g_X11_delayTo T 0 (xs (i + 1)) (xs (i + 2)) (xs (i + 3)) = some (k1, r1, T1) → fr_delayTo Sm (xs (i + 1)) (xs (i + 2)) (xs (i + 3)) = some (r2, S1) → ad2 0 = ad 0 → IV aR0 1586 aK1 aK2 T1 → RC T1 → JJ S1 → gL cI cJ cZ cMic cSrc cSt cAI cAJ D ad2 (fun q => s.heap.size ≤ q) s.heap H1 locs1 T1 (oJ aj cJ f1 :: oD ae cD g1 :: MW cI cJ cZ am S1) → lv_has ls1 9 [(5, .int (nI i)), (4, .ref ae), (3, .ref aj), (2, .ref (am 0)), (1, .ref (ad2 0)), (0, .ref b)] → W p l e room_1 s m #[Value.ref b] below meth c H1 locs1 (19 + T1.1 + (j + 1)) (38467 + sg T1 + 6 * (j + 1)) Q (F0 m 2439 ls1 [])) : W p l e room_1 s m #[Value.ref b] below meth c H locs (19 + T.1 + j) (38467 + sg T + 6 * j) Q (F0 m 789 ls []) := by
  have E : cE p c cL_law s m #[Value.ref b] lw_tbl D RL (CT cI cJ cZ cMic cSrc cSt cAI cAJ ++ [(cD, .double)]) := ⟨hx, hb, hts, hown, hK⟩
  have hA : ∀ q : Nat, s.heap.size ≤ q → s.heap.size ≤ q := fun _ h => h
  have h0T : 0 < T.1 := Nat.lt_of_lt_of_le (by decide) hV.1.2.2
  have h0s : T.2.1 0 = (11, 0) := hV.2.1 0 ⟨by decide, by decide +kernel, by decide +kernel⟩
  refine lv_aload_n hx hb dL_law_789 rfl (lv_at hl 4 rfl) ?_
  refine lv_aload_n hx hb dL_law_790 rfl (lv_at hl 5 rfl) ?_
  refine lv_iload hx hb dL_law_791 (lv_at hl 0 rfl) ?_
  refine lv_iconst (v := 1) hx hb dL_law_793 (by decide) ?_
  refine lv_iadd hx hb dL_law_794 ?_
  refine lv_to (y := nI (i + 1)) (nI_add i 1) ?_
  refine va_sld hx hb hX0 hbl (Nat.not_le.mpr hbl) G.2.2 (i := nI (i + 1)) (vp_in_nI (n := i + 1) (N := L) (by omega) (by omega)) dL_law_795 ?_
  refine lv_to (y := xs (i + 1)) (congrArg xs (nI_clamp (by omega))) ?_
  refine lv_aload_n hx hb dL_law_796 rfl (lv_at hl 5 rfl) ?_
  refine lv_iload hx hb dL_law_797 (lv_at hl 0 rfl) ?_
  refine lv_iconst (v := 2) hx hb dL_law_799 (by decide) ?_
  refine lv_iadd hx hb dL_law_800 ?_
  refine lv_to (y := nI (i + 2)) (nI_add i 2) ?_
  refine va_sld hx hb hX0 hbl (Nat.not_le.mpr hbl) G.2.2 (i := nI (i + 2)) (vp_in_nI (n := i + 2) (N := L) (by omega) (by omega)) dL_law_801 ?_
  refine lv_to (y := xs (i + 2)) (congrArg xs (nI_clamp (by omega))) ?_
  refine lv_aload_n hx hb dL_law_802 rfl (lv_at hl 5 rfl) ?_
  refine lv_iload hx hb dL_law_803 (lv_at hl 0 rfl) ?_
  refine lv_iconst (v := 3) hx hb dL_law_805 (by decide) ?_
  refine lv_iadd hx hb dL_law_806 ?_
  refine lv_to (y := nI (i + 3)) (nI_add i 3) ?_
  refine va_sld hx hb hX0 hbl (Nat.not_le.mpr hbl) G.2.2 (i := nI (i + 3)) (vp_in_nI (n := i + 3) (N := L) (by omega) (by omega)) dL_law_807 ?_
  refine lv_to (y := xs (i + 3)) (congrArg xs (nI_clamp (by omega))) ?_
  refine lv_aload_n hx hb dL_law_808 rfl (lv_at hl 2 rfl) ?_
  obtain ⟨⟨k1, r1, T1⟩, hg, hc⟩ := cs_X11_delayTo T 0 (xs (i + 1)) (xs (i + 2)) (xs (i + 3)) hV (by decide +kernel)
  have hV1 : IV aR0 1586 aK1 aK2 T1 := by rw [show T1 = T from hc.1]; exact hV
  have hg1 := (gl_sp (s_X11_delayTo hg))
  have hg2 := sg_le hg1
  have hg3 := hg1.1
  have hk := hV1.2.2.2.2.2.2
  have hrc1 := hg1.2.2 hrc
  have hr0 := a_room
  refine l_v (h0 := s.heap.size) (As := [.ref (ad 0), .int (xs (i + 1)), .int (xs (i + 2)), .int (xs (i + 3)), .ref aj]) (rest := []) E G hA hX hN (fun _ h => h) hTS hml (v_delayTo l hst D s.heap.size ad T 0 (xs (i + 1)) (xs (i + 2)) (xs (i + 3)) aj f hg hrc h0T h0s) (vx_cwSW 5 hts (glA (L := [Cond.methodLink RL 259 yL_delayTo, Cond.static yL_delayTo, Cond.initialized RL]) (gl_in [(5, 113), (5, 114), (1, 0)] (by decide +kernel) (by decide +kernel)) ⟨(t_of [Cond.codeWith yL_delayTo cL_delayTo 6 (some .int) [(0, 12, 15, 21), (0, 12, 19, 13), (0, 12, 23, 15)]] [(5, 115)] (by decide +kernel) _ List.mem_cons_self), List.all_eq_true.mp (by decide +kernel : [Cond.codeWith yL_delayTo cL_delayTo 6 (some .int) [(0, 12, 15, 21), (0, 12, 19, 13), (0, 12, 23, 15)]].all goodWord = true) _ List.mem_cons_self⟩) rfl rfl rfl (by decide +kernel) ⟨Nat.le_of_ble_eq_true rfl, Nat.le_of_ble_eq_true rfl⟩) rfl hl.1 rfl (lv_room (Nat.le_of_ble_eq_true rfl)) dL_law_809 ⟨by show _ ≤ 601024; omega, by show _ ≤ 7293034; omega⟩ ?_
  intro ad2 H locs had G
  rw [← had 0 h0T] at hl
  refine lv_istore (lv' := [(6, .int (vck 1 2 3 k1)), (5, .int (nI i)), (4, .ref ae), (3, .ref aj), (2, .ref (am 0)), (1, .ref (ad2 0)), (0, .ref b)]) hx hb dL_law_812 hl (by decide) rfl (fun ls hl => ?_)
  refine lv_aload_n hx hb dL_law_814 rfl (lv_at hl 4 rfl) ?_
  refine lv_aload_n hx hb dL_law_815 rfl (lv_at hl 6 rfl) ?_
  refine lv_iload hx hb dL_law_816 (lv_at hl 1 rfl) ?_
  refine lv_iconst (v := 1) hx hb dL_law_818 (by decide) ?_
  refine lv_iadd hx hb dL_law_819 ?_
  refine lv_to (y := nI (i + 1)) (nI_add i 1) ?_
  refine va_sld hx hb hX0 hbl (Nat.not_le.mpr hbl) G.2.2 (i := nI (i + 1)) (vp_in_nI (n := i + 1) (N := L) (by omega) (by omega)) dL_law_820 ?_
  refine lv_to (y := xs (i + 1)) (congrArg xs (nI_clamp (by omega))) ?_
  refine lv_aload_n hx hb dL_law_821 rfl (lv_at hl 6 rfl) ?_
  refine lv_iload hx hb dL_law_822 (lv_at hl 1 rfl) ?_
  refine lv_iconst (v := 2) hx hb dL_law_824 (by decide) ?_
  refine lv_iadd hx hb dL_law_825 ?_
  refine lv_to (y := nI (i + 2)) (nI_add i 2) ?_
  refine va_sld hx hb hX0 hbl (Nat.not_le.mpr hbl) G.2.2 (i := nI (i + 2)) (vp_in_nI (n := i + 2) (N := L) (by omega) (by omega)) dL_law_826 ?_
  refine lv_to (y := xs (i + 2)) (congrArg xs (nI_clamp (by omega))) ?_
  refine lv_aload_n hx hb dL_law_827 rfl (lv_at hl 6 rfl) ?_
  refine lv_iload hx hb dL_law_828 (lv_at hl 1 rfl) ?_
  refine lv_iconst (v := 3) hx hb dL_law_830 (by decide) ?_
  refine lv_iadd hx hb dL_law_831 ?_
  refine lv_to (y := nI (i + 3)) (nI_add i 3) ?_
  refine va_sld hx hb hX0 hbl (Nat.not_le.mpr hbl) G.2.2 (i := nI (i + 3)) (vp_in_nI (n := i + 3) (N := L) (by omega) (by omega)) dL_law_832 ?_
  refine lv_to (y := xs (i + 3)) (congrArg xs (nI_clamp (by omega))) ?_
  obtain ⟨⟨r2, S1⟩, hf, hj⟩ := sj_delayTo Sm (xs (i + 1)) (xs (i + 2)) (xs (i + 3)) hJ
  have hJ1 : JJ S1 := hj
  refine y_mi (As := [.int (xs (i + 1)), .int (xs (i + 2)), .int (xs (i + 3))]) (rest := []) E G hA hX.2.2.2.2 hml (tr_delayTo l D cI cJ cZ am Sm (xs (i + 1)) (xs (i + 2)) (xs (i + 3)) hf) (cwV 3 hts (glM (L := [Cond.methodLink RL 261 yX12_delayTo, Cond.instanceMethod yX12_delayTo, Cond.selects RX12 yX12_delayTo yX12_delayTo, Cond.initialized RX12]) (gl_in [(9, 116), (9, 117), (9, 118), (1, 14)] (by decide +kernel) (by decide +kernel)) ⟨(t_of [Cond.code yX12_delayTo cX12_delayTo 4 (some .int)] [(9, 119)] (by decide +kernel) _ List.mem_cons_self), List.all_eq_true.mp (by decide +kernel : [Cond.code yX12_delayTo cX12_delayTo 4 (some .int)].all goodWord = true) _ List.mem_cons_self⟩) rfl rfl rfl (by decide +kernel) ⟨Nat.le_of_ble_eq_true rfl, Nat.le_of_ble_eq_true rfl⟩) rfl hl.1 rfl (lv_room (Nat.le_of_ble_eq_true rfl)) dL_law_833 ⟨by show _ ≤ 601024; omega, by show _ ≤ 7293034; omega⟩ (fun H locs G => ?_)
  refine lv_istore (lv' := [(7, .int r2), (6, .int (vck 1 2 3 k1)), (5, .int (nI i)), (4, .ref ae), (3, .ref aj), (2, .ref (am 0)), (1, .ref (ad2 0)), (0, .ref b)]) hx hb dL_law_836 hl (by decide) rfl (fun ls hl => ?_)
  refine lv_goto (tgt := 2439) hx hb dL_law_838 (by decide) ?_
  have hl := lv_sub hl [2, 3, 4, 5, 6, 7] rfl
  refine W.widen (k := 19 + T1.1 + (j + 1)) (n := 38467 + sg T1 + 6 * (j + 1)) (by omega) (by omega) ?_
  exact kk ad2 (vfJ k1 f r1.toInt64) g H locs ls hg hf (had 0 h0T) hV1 hrc1 hJ1 G hl
set_option maxHeartbeats 4000000 in
set_option maxRecDepth 100000 in
theorem y_a18 {p : Program} {e : Env} {s : State} {m : MethodId} {below : List Frame} {meth : Method} {c : Code} (l : Launch) (hst : l.stackTraces = false) {b L : Nat} {xs : Nat → Int32} (hx : p.tables.exec = Jvm.exec) (hb : c.code = code) (hml : c.maxLocals = 9) (hown : s.vm.findClass RL = some m.cls) (hts : ∀ w ∈ lw_tbl, w.before #[Value.ref b] s = true) (hX0 : va_X b L xs s s.heap) (hbl : b < s.heap.size) (hX : xT (fun q => s.heap.size ≤ q) s) (hN : nC s) (hTS : sAll s.heap.size s) {D : va_G} {cI cJ cZ cMic cSrc cSt cAI cAJ cD : ClassId} (hK : va_K D vwCl (CT cI cJ cZ cMic cSrc cSt cAI cAJ ++ [(cD, .double)]) s) {Q : State → Prop} {i j : Nat} (hi : i + 6 ≤ L) (hL : L ≤ 3072) (hj : j < 512) {aj ae : Nat} {ad am : Nat → Nat} {T : AT} {Sm : MS} {f : Nat → Int64} {g : Nat → UInt64} {ls : Array Slot} {H : Heap} {locs : List Loc} (hV : IV aR0 1586 aK1 aK2 T) (hrc : RC T) (hJ : JJ Sm) (G : gL cI cJ cZ cMic cSrc cSt cAI cAJ D ad (fun q => s.heap.size ≤ q) s.heap H locs T (oJ aj cJ f :: oD ae cD g :: MW cI cJ cZ am Sm)) (hl : lv_has ls 9 [(5, .int (nI i)), (4, .ref ae), (3, .ref aj), (2, .ref (am 0)), (1, .ref (ad 0)), (0, .ref b)]) (kk : ∀ {k1 : Nat} {r1 : Int32} {T1 : AT} {r2 : Int32} {S1 : MS} (ad2 : Nat → Nat) (f1 : Nat → Int64) (g1 : Nat → UInt64) (H1 : Heap) (locs1 : List Loc) (ls1 : Array Slot), g_X11_spread T 0 (xs (i + 1)) = some (k1, r1, T1) → fr_spread Sm (xs (i + 1)) = some (r2, S1) → ad2 0 = ad 0 → IV aR0 1586 aK1 aK2 T1 → RC T1 → JJ S1 → gL cI cJ cZ cMic cSrc cSt cAI cAJ D ad2 (fun q => s.heap.size ≤ q) s.heap H1 locs1 T1 (oJ aj cJ f1 :: oD ae cD g1 :: MW cI cJ cZ am S1) → lv_has ls1 9 [(5, .int (nI i)), (4, .ref ae), (3, .ref aj), (2, .ref (am 0)), (1, .ref (ad2 0)), (0, .ref b)] → W p l e room_1 s m #[Value.ref b] below meth c H1 locs1 (19 + T1.1 + (j + 1)) (38467 + sg T1 + 6 * (j + 1)) Q (F0 m 2439 ls1 [])) : W p l e room_1 s m #[Value.ref b] below meth c H locs (19 + T.1 + j) (38467 + sg T + 6 * j) Q (F0 m 841 ls []) := by
  have E : cE p c cL_law s m #[Value.ref b] lw_tbl D RL (CT cI cJ cZ cMic cSrc cSt cAI cAJ ++ [(cD, .double)]) := ⟨hx, hb, hts, hown, hK⟩
  have hA : ∀ q : Nat, s.heap.size ≤ q → s.heap.size ≤ q := fun _ h => h
  have h0T : 0 < T.1 := Nat.lt_of_lt_of_le (by decide) hV.1.2.2
  have h0s : T.2.1 0 = (11, 0) := hV.2.1 0 ⟨by decide, by decide +kernel, by decide +kernel⟩
  refine lv_aload_n hx hb dL_law_841 rfl (lv_at hl 4 rfl) ?_
  refine lv_aload_n hx hb dL_law_842 rfl (lv_at hl 5 rfl) ?_
  refine lv_iload hx hb dL_law_843 (lv_at hl 0 rfl) ?_
  refine lv_iconst (v := 1) hx hb dL_law_845 (by decide) ?_
  refine lv_iadd hx hb dL_law_846 ?_
  refine lv_to (y := nI (i + 1)) (nI_add i 1) ?_
  refine va_sld hx hb hX0 hbl (Nat.not_le.mpr hbl) G.2.2 (i := nI (i + 1)) (vp_in_nI (n := i + 1) (N := L) (by omega) (by omega)) dL_law_847 ?_
  refine lv_to (y := xs (i + 1)) (congrArg xs (nI_clamp (by omega))) ?_
  refine lv_aload_n hx hb dL_law_848 rfl (lv_at hl 2 rfl) ?_
  obtain ⟨⟨k1, r1, T1⟩, hg, hc⟩ := cs_X11_spread T 0 (xs (i + 1)) hV (by decide +kernel)
  have hV1 : IV aR0 1586 aK1 aK2 T1 := by rw [show T1 = T from hc.1]; exact hV
  have hg1 := (gl_sp (s_X11_spread hg))
  have hg2 := sg_le hg1
  have hg3 := hg1.1
  have hk := hV1.2.2.2.2.2.2
  have hrc1 := hg1.2.2 hrc
  have hr0 := a_room
  refine l_v (h0 := s.heap.size) (As := [.ref (ad 0), .int (xs (i + 1)), .ref aj]) (rest := []) E G hA hX hN (fun _ h => h) hTS hml (v_spread l hst D s.heap.size ad T 0 (xs (i + 1)) aj f hg hrc h0T h0s) (vx_cwSW 3 hts (glA (L := [Cond.methodLink RL 262 yL_spread, Cond.static yL_spread, Cond.initialized RL]) (gl_in [(5, 121), (5, 122), (1, 0)] (by decide +kernel) (by decide +kernel)) ⟨(t_of [Cond.codeWith yL_spread cL_spread 4 (some .int) [(0, 9, 12, 21), (0, 9, 15, 13)]] [(5, 123)] (by decide +kernel) _ List.mem_cons_self), List.all_eq_true.mp (by decide +kernel : [Cond.codeWith yL_spread cL_spread 4 (some .int) [(0, 9, 12, 21), (0, 9, 15, 13)]].all goodWord = true) _ List.mem_cons_self⟩) rfl rfl rfl (by decide +kernel) ⟨Nat.le_of_ble_eq_true rfl, Nat.le_of_ble_eq_true rfl⟩) rfl hl.1 rfl (lv_room (Nat.le_of_ble_eq_true rfl)) dL_law_849 ⟨by show _ ≤ 601024; omega, by show _ ≤ 7293034; omega⟩ ?_
  intro ad2 H locs had G
  rw [← had 0 h0T] at hl
  refine lv_istore (lv' := [(6, .int (vck 1 2 0 k1)), (5, .int (nI i)), (4, .ref ae), (3, .ref aj), (2, .ref (am 0)), (1, .ref (ad2 0)), (0, .ref b)]) hx hb dL_law_852 hl (by decide) rfl (fun ls hl => ?_)
  refine lv_aload_n hx hb dL_law_854 rfl (lv_at hl 4 rfl) ?_
  refine lv_aload_n hx hb dL_law_855 rfl (lv_at hl 6 rfl) ?_
  refine lv_iload hx hb dL_law_856 (lv_at hl 1 rfl) ?_
  refine lv_iconst (v := 1) hx hb dL_law_858 (by decide) ?_
  refine lv_iadd hx hb dL_law_859 ?_
  refine lv_to (y := nI (i + 1)) (nI_add i 1) ?_
  refine va_sld hx hb hX0 hbl (Nat.not_le.mpr hbl) G.2.2 (i := nI (i + 1)) (vp_in_nI (n := i + 1) (N := L) (by omega) (by omega)) dL_law_860 ?_
  refine lv_to (y := xs (i + 1)) (congrArg xs (nI_clamp (by omega))) ?_
  obtain ⟨⟨r2, S1⟩, hf, hj⟩ := sj_spread Sm (xs (i + 1)) hJ
  have hJ1 : JJ S1 := hj
  refine y_mi (As := [.int (xs (i + 1))]) (rest := []) E G hA hX.2.2.2.2 hml (tr_spread l D cI cJ cZ am Sm (xs (i + 1)) hf) (cwV 1 hts (glM (L := [Cond.methodLink RL 264 yX12_spread, Cond.instanceMethod yX12_spread, Cond.selects RX12 yX12_spread yX12_spread, Cond.initialized RX12]) (gl_in [(9, 123), (9, 124), (9, 125), (1, 14)] (by decide +kernel) (by decide +kernel)) ⟨(t_of [Cond.code yX12_spread cX12_spread 5 (some .int)] [(9, 126)] (by decide +kernel) _ List.mem_cons_self), List.all_eq_true.mp (by decide +kernel : [Cond.code yX12_spread cX12_spread 5 (some .int)].all goodWord = true) _ List.mem_cons_self⟩) rfl rfl rfl (by decide +kernel) ⟨Nat.le_of_ble_eq_true rfl, Nat.le_of_ble_eq_true rfl⟩) rfl hl.1 rfl (lv_room (Nat.le_of_ble_eq_true rfl)) dL_law_861 ⟨by show _ ≤ 601024; omega, by show _ ≤ 7293034; omega⟩ (fun H locs G => ?_)
  refine lv_istore (lv' := [(7, .int r2), (6, .int (vck 1 2 0 k1)), (5, .int (nI i)), (4, .ref ae), (3, .ref aj), (2, .ref (am 0)), (1, .ref (ad2 0)), (0, .ref b)]) hx hb dL_law_864 hl (by decide) rfl (fun ls hl => ?_)
  refine lv_goto (tgt := 2439) hx hb dL_law_866 (by decide) ?_
  have hl := lv_sub hl [2, 3, 4, 5, 6, 7] rfl
  refine W.widen (k := 19 + T1.1 + (j + 1)) (n := 38467 + sg T1 + 6 * (j + 1)) (by omega) (by omega) ?_
  exact kk ad2 (vfJ k1 f r1.toInt64) g H locs ls hg hf (had 0 h0T) hV1 hrc1 hJ1 G hl
set_option maxHeartbeats 4000000 in
set_option maxRecDepth 100000 in
theorem y_a19 {p : Program} {e : Env} {s : State} {m : MethodId} {below : List Frame} {meth : Method} {c : Code} (l : Launch) (hst : l.stackTraces = false) {b L : Nat} {xs : Nat → Int32} (hx : p.tables.exec = Jvm.exec) (hb : c.code = code) (hml : c.maxLocals = 9) (hown : s.vm.findClass RL = some m.cls) (hts : ∀ w ∈ lw_tbl, w.before #[Value.ref b] s = true) (hX0 : va_X b L xs s s.heap) (hbl : b < s.heap.size) (hX : xT (fun q => s.heap.size ≤ q) s) (hN : nC s) (hTS : sAll s.heap.size s) {D : va_G} {cI cJ cZ cMic cSrc cSt cAI cAJ cD : ClassId} (hK : va_K D vwCl (CT cI cJ cZ cMic cSrc cSt cAI cAJ ++ [(cD, .double)]) s) {Q : State → Prop} {i j : Nat} (hi : i + 6 ≤ L) (hL : L ≤ 3072) (hj : j < 512) {aj ae : Nat} {ad am : Nat → Nat} {T : AT} {Sm : MS} {f : Nat → Int64} {g : Nat → UInt64} {ls : Array Slot} {H : Heap} {locs : List Loc} (hV : IV aR0 1586 aK1 aK2 T) (hrc : RC T) (hJ : JJ Sm) (G : gL cI cJ cZ cMic cSrc cSt cAI cAJ D ad (fun q => s.heap.size ≤ q) s.heap H locs T (oJ aj cJ f :: oD ae cD g :: MW cI cJ cZ am Sm)) (hl : lv_has ls 9 [(5, .int (nI i)), (4, .ref ae), (3, .ref aj), (2, .ref (am 0)), (1, .ref (ad 0)), (0, .ref b)]) (kk : ∀ {k1 : Nat} {r1 : Int32} {T1 : AT} {r2 : Int32} {S1 : MS} (ad2 : Nat → Nat) (f1 : Nat → Int64) (g1 : Nat → UInt64) (H1 : Heap) (locs1 : List Loc) (ls1 : Array Slot), g_X11_window T 0 (xs (i + 1)) = some (k1, r1, T1) → fr_window Sm (xs (i + 1)) = some (r2, S1) → ad2 0 = ad 0 → IV aR0 1586 aK1 aK2 T1 → RC T1 → JJ S1 → gL cI cJ cZ cMic cSrc cSt cAI cAJ D ad2 (fun q => s.heap.size ≤ q) s.heap H1 locs1 T1 (oJ aj cJ f1 :: oD ae cD g1 :: MW cI cJ cZ am S1) → lv_has ls1 9 [(5, .int (nI i)), (4, .ref ae), (3, .ref aj), (2, .ref (am 0)), (1, .ref (ad2 0)), (0, .ref b)] → W p l e room_1 s m #[Value.ref b] below meth c H1 locs1 (19 + T1.1 + (j + 1)) (38467 + sg T1 + 6 * (j + 1)) Q (F0 m 2439 ls1 [])) : W p l e room_1 s m #[Value.ref b] below meth c H locs (19 + T.1 + j) (38467 + sg T + 6 * j) Q (F0 m 869 ls []) := by
  have E : cE p c cL_law s m #[Value.ref b] lw_tbl D RL (CT cI cJ cZ cMic cSrc cSt cAI cAJ ++ [(cD, .double)]) := ⟨hx, hb, hts, hown, hK⟩
  have hA : ∀ q : Nat, s.heap.size ≤ q → s.heap.size ≤ q := fun _ h => h
  have h0T : 0 < T.1 := Nat.lt_of_lt_of_le (by decide) hV.1.2.2
  have h0s : T.2.1 0 = (11, 0) := hV.2.1 0 ⟨by decide, by decide +kernel, by decide +kernel⟩
  refine lv_aload_n hx hb dL_law_869 rfl (lv_at hl 4 rfl) ?_
  refine lv_aload_n hx hb dL_law_870 rfl (lv_at hl 5 rfl) ?_
  refine lv_iload hx hb dL_law_871 (lv_at hl 0 rfl) ?_
  refine lv_iconst (v := 1) hx hb dL_law_873 (by decide) ?_
  refine lv_iadd hx hb dL_law_874 ?_
  refine lv_to (y := nI (i + 1)) (nI_add i 1) ?_
  refine va_sld hx hb hX0 hbl (Nat.not_le.mpr hbl) G.2.2 (i := nI (i + 1)) (vp_in_nI (n := i + 1) (N := L) (by omega) (by omega)) dL_law_875 ?_
  refine lv_to (y := xs (i + 1)) (congrArg xs (nI_clamp (by omega))) ?_
  refine lv_aload_n hx hb dL_law_876 rfl (lv_at hl 2 rfl) ?_
  obtain ⟨⟨k1, r1, T1⟩, hg, hc⟩ := cs_X11_window T 0 (xs (i + 1)) hV (by decide +kernel)
  have hV1 : IV aR0 1586 aK1 aK2 T1 := by rw [show T1 = T from hc.1]; exact hV
  have hg1 := (gl_sp (s_X11_window hg))
  have hg2 := sg_le hg1
  have hg3 := hg1.1
  have hk := hV1.2.2.2.2.2.2
  have hrc1 := hg1.2.2 hrc
  have hr0 := a_room
  refine l_v (h0 := s.heap.size) (As := [.ref (ad 0), .int (xs (i + 1)), .ref aj]) (rest := []) E G hA hX hN (fun _ h => h) hTS hml (v_window l hst D s.heap.size ad T 0 (xs (i + 1)) aj f hg hrc h0T h0s) (vx_cwSW 3 hts (glA (L := [Cond.methodLink RL 265 yL_window, Cond.static yL_window, Cond.initialized RL]) (gl_in [(5, 139), (5, 140), (1, 0)] (by decide +kernel) (by decide +kernel)) ⟨(t_of [Cond.codeWith yL_window cL_window 4 (some .int) [(0, 9, 12, 21), (0, 9, 15, 13)]] [(5, 141)] (by decide +kernel) _ List.mem_cons_self), List.all_eq_true.mp (by decide +kernel : [Cond.codeWith yL_window cL_window 4 (some .int) [(0, 9, 12, 21), (0, 9, 15, 13)]].all goodWord = true) _ List.mem_cons_self⟩) rfl rfl rfl (by decide +kernel) ⟨Nat.le_of_ble_eq_true rfl, Nat.le_of_ble_eq_true rfl⟩) rfl hl.1 rfl (lv_room (Nat.le_of_ble_eq_true rfl)) dL_law_877 ⟨by show _ ≤ 601024; omega, by show _ ≤ 7293034; omega⟩ ?_
  intro ad2 H locs had G
  rw [← had 0 h0T] at hl
  refine lv_istore (lv' := [(6, .int (vck 1 2 0 k1)), (5, .int (nI i)), (4, .ref ae), (3, .ref aj), (2, .ref (am 0)), (1, .ref (ad2 0)), (0, .ref b)]) hx hb dL_law_880 hl (by decide) rfl (fun ls hl => ?_)
  refine lv_aload_n hx hb dL_law_882 rfl (lv_at hl 4 rfl) ?_
  refine lv_aload_n hx hb dL_law_883 rfl (lv_at hl 6 rfl) ?_
  refine lv_iload hx hb dL_law_884 (lv_at hl 1 rfl) ?_
  refine lv_iconst (v := 1) hx hb dL_law_886 (by decide) ?_
  refine lv_iadd hx hb dL_law_887 ?_
  refine lv_to (y := nI (i + 1)) (nI_add i 1) ?_
  refine va_sld hx hb hX0 hbl (Nat.not_le.mpr hbl) G.2.2 (i := nI (i + 1)) (vp_in_nI (n := i + 1) (N := L) (by omega) (by omega)) dL_law_888 ?_
  refine lv_to (y := xs (i + 1)) (congrArg xs (nI_clamp (by omega))) ?_
  obtain ⟨⟨r2, S1⟩, hf, hj⟩ := sj_window Sm (xs (i + 1)) hJ
  have hJ1 : JJ S1 := hj
  refine y_mi (As := [.int (xs (i + 1))]) (rest := []) E G hA hX.2.2.2.2 hml (tr_window l D cI cJ cZ am Sm (xs (i + 1)) hf) (cwV 1 hts (glM (L := [Cond.methodLink RL 267 yX12_window, Cond.instanceMethod yX12_window, Cond.selects RX12 yX12_window yX12_window, Cond.initialized RX12]) (gl_in [(9, 132), (9, 133), (9, 134), (1, 14)] (by decide +kernel) (by decide +kernel)) ⟨(t_of [Cond.code yX12_window cX12_window 2 (some .int)] [(9, 135)] (by decide +kernel) _ List.mem_cons_self), List.all_eq_true.mp (by decide +kernel : [Cond.code yX12_window cX12_window 2 (some .int)].all goodWord = true) _ List.mem_cons_self⟩) rfl rfl rfl (by decide +kernel) ⟨Nat.le_of_ble_eq_true rfl, Nat.le_of_ble_eq_true rfl⟩) rfl hl.1 rfl (lv_room (Nat.le_of_ble_eq_true rfl)) dL_law_889 ⟨by show _ ≤ 601024; omega, by show _ ≤ 7293034; omega⟩ (fun H locs G => ?_)
  refine lv_istore (lv' := [(7, .int r2), (6, .int (vck 1 2 0 k1)), (5, .int (nI i)), (4, .ref ae), (3, .ref aj), (2, .ref (am 0)), (1, .ref (ad2 0)), (0, .ref b)]) hx hb dL_law_892 hl (by decide) rfl (fun ls hl => ?_)
  refine lv_goto (tgt := 2439) hx hb dL_law_894 (by decide) ?_
  have hl := lv_sub hl [2, 3, 4, 5, 6, 7] rfl
  refine W.widen (k := 19 + T1.1 + (j + 1)) (n := 38467 + sg T1 + 6 * (j + 1)) (by omega) (by omega) ?_
  exact kk ad2 (vfJ k1 f r1.toInt64) g H locs ls hg hf (had 0 h0T) hV1 hrc1 hJ1 G hl
set_option maxHeartbeats 4000000 in
set_option maxRecDepth 100000 in
theorem y_a20 {p : Program} {e : Env} {s : State} {m : MethodId} {below : List Frame} {meth : Method} {c : Code} (l : Launch) (hst : l.stackTraces = false) {b L : Nat} {xs : Nat → Int32} (hx : p.tables.exec = Jvm.exec) (hb : c.code = code) (hml : c.maxLocals = 9) (hown : s.vm.findClass RL = some m.cls) (hts : ∀ w ∈ lw_tbl, w.before #[Value.ref b] s = true) (hX0 : va_X b L xs s s.heap) (hbl : b < s.heap.size) (hX : xT (fun q => s.heap.size ≤ q) s) (hN : nC s) (hTS : sAll s.heap.size s) {D : va_G} {cI cJ cZ cMic cSrc cSt cAI cAJ cD : ClassId} (hK : va_K D vwCl (CT cI cJ cZ cMic cSrc cSt cAI cAJ ++ [(cD, .double)]) s) {Q : State → Prop} {i j : Nat} (hi : i + 6 ≤ L) (hL : L ≤ 3072) (hj : j < 512) {aj ae : Nat} {ad am : Nat → Nat} {T : AT} {Sm : MS} {f : Nat → Int64} {g : Nat → UInt64} {ls : Array Slot} {H : Heap} {locs : List Loc} (hV : IV aR0 1586 aK1 aK2 T) (hrc : RC T) (hJ : JJ Sm) (G : gL cI cJ cZ cMic cSrc cSt cAI cAJ D ad (fun q => s.heap.size ≤ q) s.heap H locs T (oJ aj cJ f :: oD ae cD g :: MW cI cJ cZ am Sm)) (hl : lv_has ls 9 [(5, .int (nI i)), (4, .ref ae), (3, .ref aj), (2, .ref (am 0)), (1, .ref (ad 0)), (0, .ref b)]) (kk : ∀ {k1 : Nat} {r1 : Int32} {T1 : AT} {r2 : Int32} {S1 : MS} (ad2 : Nat → Nat) (f1 : Nat → Int64) (g1 : Nat → UInt64) (H1 : Heap) (locs1 : List Loc) (ls1 : Array Slot), g_X11_sample T 0 (xs (i + 1)) (xs (i + 2)) = some (k1, r1, T1) → fr_sample Sm (xs (i + 1)) (xs (i + 2)) = some (r2, S1) → ad2 0 = ad 0 → IV aR0 1586 aK1 aK2 T1 → RC T1 → JJ S1 → gL cI cJ cZ cMic cSrc cSt cAI cAJ D ad2 (fun q => s.heap.size ≤ q) s.heap H1 locs1 T1 (oJ aj cJ f1 :: oD ae cD g1 :: MW cI cJ cZ am S1) → lv_has ls1 9 [(5, .int (nI i)), (4, .ref ae), (3, .ref aj), (2, .ref (am 0)), (1, .ref (ad2 0)), (0, .ref b)] → W p l e room_1 s m #[Value.ref b] below meth c H1 locs1 (19 + T1.1 + (j + 1)) (38467 + sg T1 + 6 * (j + 1)) Q (F0 m 2439 ls1 [])) : W p l e room_1 s m #[Value.ref b] below meth c H locs (19 + T.1 + j) (38467 + sg T + 6 * j) Q (F0 m 897 ls []) := by
  have E : cE p c cL_law s m #[Value.ref b] lw_tbl D RL (CT cI cJ cZ cMic cSrc cSt cAI cAJ ++ [(cD, .double)]) := ⟨hx, hb, hts, hown, hK⟩
  have hA : ∀ q : Nat, s.heap.size ≤ q → s.heap.size ≤ q := fun _ h => h
  have h0T : 0 < T.1 := Nat.lt_of_lt_of_le (by decide) hV.1.2.2
  have h0s : T.2.1 0 = (11, 0) := hV.2.1 0 ⟨by decide, by decide +kernel, by decide +kernel⟩
  refine lv_aload_n hx hb dL_law_897 rfl (lv_at hl 4 rfl) ?_
  refine lv_aload_n hx hb dL_law_898 rfl (lv_at hl 5 rfl) ?_
  refine lv_iload hx hb dL_law_899 (lv_at hl 0 rfl) ?_
  refine lv_iconst (v := 1) hx hb dL_law_901 (by decide) ?_
  refine lv_iadd hx hb dL_law_902 ?_
  refine lv_to (y := nI (i + 1)) (nI_add i 1) ?_
  refine va_sld hx hb hX0 hbl (Nat.not_le.mpr hbl) G.2.2 (i := nI (i + 1)) (vp_in_nI (n := i + 1) (N := L) (by omega) (by omega)) dL_law_903 ?_
  refine lv_to (y := xs (i + 1)) (congrArg xs (nI_clamp (by omega))) ?_
  refine lv_aload_n hx hb dL_law_904 rfl (lv_at hl 5 rfl) ?_
  refine lv_iload hx hb dL_law_905 (lv_at hl 0 rfl) ?_
  refine lv_iconst (v := 2) hx hb dL_law_907 (by decide) ?_
  refine lv_iadd hx hb dL_law_908 ?_
  refine lv_to (y := nI (i + 2)) (nI_add i 2) ?_
  refine va_sld hx hb hX0 hbl (Nat.not_le.mpr hbl) G.2.2 (i := nI (i + 2)) (vp_in_nI (n := i + 2) (N := L) (by omega) (by omega)) dL_law_909 ?_
  refine lv_to (y := xs (i + 2)) (congrArg xs (nI_clamp (by omega))) ?_
  refine lv_aload_n hx hb dL_law_910 rfl (lv_at hl 2 rfl) ?_
  obtain ⟨⟨k1, r1, T1⟩, hg, hc⟩ := cs_X11_sample T 0 (xs (i + 1)) (xs (i + 2)) hV (by decide +kernel)
  have hV1 : IV aR0 1586 aK1 aK2 T1 := by rw [show T1 = T from hc.1]; exact hV
  have hg1 := (gl_sp (s_X11_sample hg))
  have hg2 := sg_le hg1
  have hg3 := hg1.1
  have hk := hV1.2.2.2.2.2.2
  have hrc1 := hg1.2.2 hrc
  have hr0 := a_room
  refine l_v (h0 := s.heap.size) (As := [.ref (ad 0), .int (xs (i + 1)), .int (xs (i + 2)), .ref aj]) (rest := []) E G hA hX hN (fun _ h => h) hTS hml (v_sample l hst D s.heap.size ad T 0 (xs (i + 1)) (xs (i + 2)) aj f hg hrc h0T h0s) (vx_cwSW 4 hts (glA (L := [Cond.methodLink RL 268 yL_sample, Cond.static yL_sample, Cond.initialized RL]) (gl_in [(5, 150), (5, 151), (1, 0)] (by decide +kernel) (by decide +kernel)) ⟨(t_of [Cond.codeWith yL_sample cL_sample 5 (some .int) [(0, 10, 13, 21), (0, 10, 17, 13), (0, 10, 21, 15)]] [(5, 152)] (by decide +kernel) _ List.mem_cons_self), List.all_eq_true.mp (by decide +kernel : [Cond.codeWith yL_sample cL_sample 5 (some .int) [(0, 10, 13, 21), (0, 10, 17, 13), (0, 10, 21, 15)]].all goodWord = true) _ List.mem_cons_self⟩) rfl rfl rfl (by decide +kernel) ⟨Nat.le_of_ble_eq_true rfl, Nat.le_of_ble_eq_true rfl⟩) rfl hl.1 rfl (lv_room (Nat.le_of_ble_eq_true rfl)) dL_law_911 ⟨by show _ ≤ 601024; omega, by show _ ≤ 7293034; omega⟩ ?_
  intro ad2 H locs had G
  rw [← had 0 h0T] at hl
  refine lv_istore (lv' := [(6, .int (vck 1 2 3 k1)), (5, .int (nI i)), (4, .ref ae), (3, .ref aj), (2, .ref (am 0)), (1, .ref (ad2 0)), (0, .ref b)]) hx hb dL_law_914 hl (by decide) rfl (fun ls hl => ?_)
  refine lv_aload_n hx hb dL_law_916 rfl (lv_at hl 4 rfl) ?_
  refine lv_aload_n hx hb dL_law_917 rfl (lv_at hl 6 rfl) ?_
  refine lv_iload hx hb dL_law_918 (lv_at hl 1 rfl) ?_
  refine lv_iconst (v := 1) hx hb dL_law_920 (by decide) ?_
  refine lv_iadd hx hb dL_law_921 ?_
  refine lv_to (y := nI (i + 1)) (nI_add i 1) ?_
  refine va_sld hx hb hX0 hbl (Nat.not_le.mpr hbl) G.2.2 (i := nI (i + 1)) (vp_in_nI (n := i + 1) (N := L) (by omega) (by omega)) dL_law_922 ?_
  refine lv_to (y := xs (i + 1)) (congrArg xs (nI_clamp (by omega))) ?_
  refine lv_aload_n hx hb dL_law_923 rfl (lv_at hl 6 rfl) ?_
  refine lv_iload hx hb dL_law_924 (lv_at hl 1 rfl) ?_
  refine lv_iconst (v := 2) hx hb dL_law_926 (by decide) ?_
  refine lv_iadd hx hb dL_law_927 ?_
  refine lv_to (y := nI (i + 2)) (nI_add i 2) ?_
  refine va_sld hx hb hX0 hbl (Nat.not_le.mpr hbl) G.2.2 (i := nI (i + 2)) (vp_in_nI (n := i + 2) (N := L) (by omega) (by omega)) dL_law_928 ?_
  refine lv_to (y := xs (i + 2)) (congrArg xs (nI_clamp (by omega))) ?_
  obtain ⟨⟨r2, S1⟩, hf, hj⟩ := sj_sample Sm (xs (i + 1)) (xs (i + 2)) hJ
  have hJ1 : JJ S1 := hj
  refine y_mi (As := [.int (xs (i + 1)), .int (xs (i + 2))]) (rest := []) E G hA hX.2.2.2.2 hml (tr_sample l D cI cJ cZ am Sm (xs (i + 1)) (xs (i + 2)) hf) (cwV 2 hts (glM (L := [Cond.methodLink RL 270 yX12_sample, Cond.instanceMethod yX12_sample, Cond.selects RX12 yX12_sample yX12_sample, Cond.initialized RX12]) (gl_in [(9, 144), (9, 145), (9, 146), (1, 14)] (by decide +kernel) (by decide +kernel)) ⟨(t_of [Cond.code yX12_sample cX12_sample 3 (some .int)] [(9, 147)] (by decide +kernel) _ List.mem_cons_self), List.all_eq_true.mp (by decide +kernel : [Cond.code yX12_sample cX12_sample 3 (some .int)].all goodWord = true) _ List.mem_cons_self⟩) rfl rfl rfl (by decide +kernel) ⟨Nat.le_of_ble_eq_true rfl, Nat.le_of_ble_eq_true rfl⟩) rfl hl.1 rfl (lv_room (Nat.le_of_ble_eq_true rfl)) dL_law_929 ⟨by show _ ≤ 601024; omega, by show _ ≤ 7293034; omega⟩ (fun H locs G => ?_)
  refine lv_istore (lv' := [(7, .int r2), (6, .int (vck 1 2 3 k1)), (5, .int (nI i)), (4, .ref ae), (3, .ref aj), (2, .ref (am 0)), (1, .ref (ad2 0)), (0, .ref b)]) hx hb dL_law_932 hl (by decide) rfl (fun ls hl => ?_)
  refine lv_goto (tgt := 2439) hx hb dL_law_934 (by decide) ?_
  have hl := lv_sub hl [2, 3, 4, 5, 6, 7] rfl
  refine W.widen (k := 19 + T1.1 + (j + 1)) (n := 38467 + sg T1 + 6 * (j + 1)) (by omega) (by omega) ?_
  exact kk ad2 (vfJ k1 f r1.toInt64) g H locs ls hg hf (had 0 h0T) hV1 hrc1 hJ1 G hl
set_option maxHeartbeats 4000000 in
set_option maxRecDepth 100000 in
theorem y_a21 {p : Program} {e : Env} {s : State} {m : MethodId} {below : List Frame} {meth : Method} {c : Code} (l : Launch) (hst : l.stackTraces = false) {b L : Nat} {xs : Nat → Int32} (hx : p.tables.exec = Jvm.exec) (hb : c.code = code) (hml : c.maxLocals = 9) (hown : s.vm.findClass RL = some m.cls) (hts : ∀ w ∈ lw_tbl, w.before #[Value.ref b] s = true) (hX0 : va_X b L xs s s.heap) (hbl : b < s.heap.size) (hX : xT (fun q => s.heap.size ≤ q) s) (hN : nC s) (hTS : sAll s.heap.size s) {D : va_G} {cI cJ cZ cMic cSrc cSt cAI cAJ cD : ClassId} (hK : va_K D vwCl (CT cI cJ cZ cMic cSrc cSt cAI cAJ ++ [(cD, .double)]) s) {Q : State → Prop} {i j : Nat} (hi : i + 6 ≤ L) (hL : L ≤ 3072) (hj : j < 512) {aj ae : Nat} {ad am : Nat → Nat} {T : AT} {Sm : MS} {f : Nat → Int64} {g : Nat → UInt64} {ls : Array Slot} {H : Heap} {locs : List Loc} (hV : IV aR0 1586 aK1 aK2 T) (hrc : RC T) (hJ : JJ Sm) (G : gL cI cJ cZ cMic cSrc cSt cAI cAJ D ad (fun q => s.heap.size ≤ q) s.heap H locs T (oJ aj cJ f :: oD ae cD g :: MW cI cJ cZ am Sm)) (hl : lv_has ls 9 [(5, .int (nI i)), (4, .ref ae), (3, .ref aj), (2, .ref (am 0)), (1, .ref (ad 0)), (0, .ref b)]) (kk : ∀ {k1 : Nat} {r1 : Int32} {T1 : AT} {r2 : Int32} {S1 : MS} (ad2 : Nat → Nat) (f1 : Nat → Int64) (g1 : Nat → UInt64) (H1 : Heap) (locs1 : List Loc) (ls1 : Array Slot), g_X11_beam T 0 (xs (i + 1)) (xs (i + 2)) = some (k1, r1, T1) → fr_beam Sm (xs (i + 1)) (xs (i + 2)) = some (r2, S1) → ad2 0 = ad 0 → IV aR0 1586 aK1 aK2 T1 → RC T1 → JJ S1 → gL cI cJ cZ cMic cSrc cSt cAI cAJ D ad2 (fun q => s.heap.size ≤ q) s.heap H1 locs1 T1 (oJ aj cJ f1 :: oD ae cD g1 :: MW cI cJ cZ am S1) → lv_has ls1 9 [(5, .int (nI i)), (4, .ref ae), (3, .ref aj), (2, .ref (am 0)), (1, .ref (ad2 0)), (0, .ref b)] → W p l e room_1 s m #[Value.ref b] below meth c H1 locs1 (19 + T1.1 + (j + 1)) (38467 + sg T1 + 6 * (j + 1)) Q (F0 m 2439 ls1 [])) : W p l e room_1 s m #[Value.ref b] below meth c H locs (19 + T.1 + j) (38467 + sg T + 6 * j) Q (F0 m 937 ls []) := by
  have E : cE p c cL_law s m #[Value.ref b] lw_tbl D RL (CT cI cJ cZ cMic cSrc cSt cAI cAJ ++ [(cD, .double)]) := ⟨hx, hb, hts, hown, hK⟩
  have hA : ∀ q : Nat, s.heap.size ≤ q → s.heap.size ≤ q := fun _ h => h
  have h0T : 0 < T.1 := Nat.lt_of_lt_of_le (by decide) hV.1.2.2
  have h0s : T.2.1 0 = (11, 0) := hV.2.1 0 ⟨by decide, by decide +kernel, by decide +kernel⟩
  refine lv_aload_n hx hb dL_law_937 rfl (lv_at hl 4 rfl) ?_
  refine lv_aload_n hx hb dL_law_938 rfl (lv_at hl 5 rfl) ?_
  refine lv_iload hx hb dL_law_939 (lv_at hl 0 rfl) ?_
  refine lv_iconst (v := 1) hx hb dL_law_941 (by decide) ?_
  refine lv_iadd hx hb dL_law_942 ?_
  refine lv_to (y := nI (i + 1)) (nI_add i 1) ?_
  refine va_sld hx hb hX0 hbl (Nat.not_le.mpr hbl) G.2.2 (i := nI (i + 1)) (vp_in_nI (n := i + 1) (N := L) (by omega) (by omega)) dL_law_943 ?_
  refine lv_to (y := xs (i + 1)) (congrArg xs (nI_clamp (by omega))) ?_
  refine lv_aload_n hx hb dL_law_944 rfl (lv_at hl 5 rfl) ?_
  refine lv_iload hx hb dL_law_945 (lv_at hl 0 rfl) ?_
  refine lv_iconst (v := 2) hx hb dL_law_947 (by decide) ?_
  refine lv_iadd hx hb dL_law_948 ?_
  refine lv_to (y := nI (i + 2)) (nI_add i 2) ?_
  refine va_sld hx hb hX0 hbl (Nat.not_le.mpr hbl) G.2.2 (i := nI (i + 2)) (vp_in_nI (n := i + 2) (N := L) (by omega) (by omega)) dL_law_949 ?_
  refine lv_to (y := xs (i + 2)) (congrArg xs (nI_clamp (by omega))) ?_
  refine lv_aload_n hx hb dL_law_950 rfl (lv_at hl 2 rfl) ?_
  obtain ⟨⟨k1, r1, T1⟩, hg, hc⟩ := cs_X11_beam T 0 (xs (i + 1)) (xs (i + 2)) hV (by decide +kernel)
  have hV1 : IV aR0 1586 aK1 aK2 T1 := hc.1.1
  have hg1 := s_X11_beam hg
  have hg2 := sg_le hg1
  have hg3 := hg1.1
  have hk := hV1.2.2.2.2.2.2
  have hrc1 := hg1.2.2 hrc
  have hr0 := a_room
  refine l_v (h0 := s.heap.size) (As := [.ref (ad 0), .int (xs (i + 1)), .int (xs (i + 2)), .ref aj]) (rest := []) E G hA hX hN (fun _ h => h) hTS hml (v_beam l hst D s.heap.size ad T 0 (xs (i + 1)) (xs (i + 2)) aj f hg hrc h0T h0s) (vx_cwSW 4 hts (glA (L := [Cond.methodLink RL 271 yL_beam, Cond.static yL_beam, Cond.initialized RL]) (gl_in [(5, 162), (5, 163), (1, 0)] (by decide +kernel) (by decide +kernel)) ⟨(t_of [Cond.codeWith yL_beam cL_beam 5 (some .int) [(0, 10, 13, 21), (0, 10, 17, 13), (0, 10, 21, 15)]] [(5, 164)] (by decide +kernel) _ List.mem_cons_self), List.all_eq_true.mp (by decide +kernel : [Cond.codeWith yL_beam cL_beam 5 (some .int) [(0, 10, 13, 21), (0, 10, 17, 13), (0, 10, 21, 15)]].all goodWord = true) _ List.mem_cons_self⟩) rfl rfl rfl (by decide +kernel) ⟨Nat.le_of_ble_eq_true rfl, Nat.le_of_ble_eq_true rfl⟩) rfl hl.1 rfl (lv_room (Nat.le_of_ble_eq_true rfl)) dL_law_951 ⟨by show _ ≤ 601024; omega, by show _ ≤ 7293034; omega⟩ ?_
  intro ad2 H locs had G
  rw [← had 0 h0T] at hl
  refine lv_istore (lv' := [(6, .int (vck 1 2 3 k1)), (5, .int (nI i)), (4, .ref ae), (3, .ref aj), (2, .ref (am 0)), (1, .ref (ad2 0)), (0, .ref b)]) hx hb dL_law_954 hl (by decide) rfl (fun ls hl => ?_)
  refine lv_aload_n hx hb dL_law_956 rfl (lv_at hl 4 rfl) ?_
  refine lv_aload_n hx hb dL_law_957 rfl (lv_at hl 6 rfl) ?_
  refine lv_iload hx hb dL_law_958 (lv_at hl 1 rfl) ?_
  refine lv_iconst (v := 1) hx hb dL_law_960 (by decide) ?_
  refine lv_iadd hx hb dL_law_961 ?_
  refine lv_to (y := nI (i + 1)) (nI_add i 1) ?_
  refine va_sld hx hb hX0 hbl (Nat.not_le.mpr hbl) G.2.2 (i := nI (i + 1)) (vp_in_nI (n := i + 1) (N := L) (by omega) (by omega)) dL_law_962 ?_
  refine lv_to (y := xs (i + 1)) (congrArg xs (nI_clamp (by omega))) ?_
  refine lv_aload_n hx hb dL_law_963 rfl (lv_at hl 6 rfl) ?_
  refine lv_iload hx hb dL_law_964 (lv_at hl 1 rfl) ?_
  refine lv_iconst (v := 2) hx hb dL_law_966 (by decide) ?_
  refine lv_iadd hx hb dL_law_967 ?_
  refine lv_to (y := nI (i + 2)) (nI_add i 2) ?_
  refine va_sld hx hb hX0 hbl (Nat.not_le.mpr hbl) G.2.2 (i := nI (i + 2)) (vp_in_nI (n := i + 2) (N := L) (by omega) (by omega)) dL_law_968 ?_
  refine lv_to (y := xs (i + 2)) (congrArg xs (nI_clamp (by omega))) ?_
  obtain ⟨⟨r2, S1⟩, hf, hj⟩ := sj_beam Sm (xs (i + 1)) (xs (i + 2)) hJ
  have hJ1 : JJ S1 := hj
  refine y_mi (As := [.int (xs (i + 1)), .int (xs (i + 2))]) (rest := []) E G hA hX.2.2.2.2 hml (tr_beam l D cI cJ cZ am Sm (xs (i + 1)) (xs (i + 2)) hf) (cwV 2 hts (glM (L := [Cond.methodLink RL 273 yX12_beam, Cond.instanceMethod yX12_beam, Cond.selects RX12 yX12_beam yX12_beam, Cond.initialized RX12]) (gl_in [(9, 148), (9, 149), (9, 150), (1, 14)] (by decide +kernel) (by decide +kernel)) ⟨(t_of [Cond.code yX12_beam cX12_beam 3 (some .int)] [(9, 151)] (by decide +kernel) _ List.mem_cons_self), List.all_eq_true.mp (by decide +kernel : [Cond.code yX12_beam cX12_beam 3 (some .int)].all goodWord = true) _ List.mem_cons_self⟩) rfl rfl rfl (by decide +kernel) ⟨Nat.le_of_ble_eq_true rfl, Nat.le_of_ble_eq_true rfl⟩) rfl hl.1 rfl (lv_room (Nat.le_of_ble_eq_true rfl)) dL_law_969 ⟨by show _ ≤ 601024; omega, by show _ ≤ 7293034; omega⟩ (fun H locs G => ?_)
  refine lv_istore (lv' := [(7, .int r2), (6, .int (vck 1 2 3 k1)), (5, .int (nI i)), (4, .ref ae), (3, .ref aj), (2, .ref (am 0)), (1, .ref (ad2 0)), (0, .ref b)]) hx hb dL_law_972 hl (by decide) rfl (fun ls hl => ?_)
  refine lv_goto (tgt := 2439) hx hb dL_law_974 (by decide) ?_
  have hl := lv_sub hl [2, 3, 4, 5, 6, 7] rfl
  refine W.widen (k := 19 + T1.1 + (j + 1)) (n := 38467 + sg T1 + 6 * (j + 1)) (by omega) (by omega) ?_
  exact kk ad2 (vfJ k1 f r1.toInt64) g H locs ls hg hf (had 0 h0T) hV1 hrc1 hJ1 G hl
set_option maxHeartbeats 4000000 in
set_option maxRecDepth 100000 in
theorem y_a22 {p : Program} {e : Env} {s : State} {m : MethodId} {below : List Frame} {meth : Method} {c : Code} (l : Launch) (hst : l.stackTraces = false) {b L : Nat} {xs : Nat → Int32} (hx : p.tables.exec = Jvm.exec) (hb : c.code = code) (hml : c.maxLocals = 9) (hown : s.vm.findClass RL = some m.cls) (hts : ∀ w ∈ lw_tbl, w.before #[Value.ref b] s = true) (hX0 : va_X b L xs s s.heap) (hbl : b < s.heap.size) (hX : xT (fun q => s.heap.size ≤ q) s) (hN : nC s) (hTS : sAll s.heap.size s) {D : va_G} {cI cJ cZ cMic cSrc cSt cAI cAJ cD : ClassId} (hK : va_K D vwCl (CT cI cJ cZ cMic cSrc cSt cAI cAJ ++ [(cD, .double)]) s) {Q : State → Prop} {i j : Nat} (hi : i + 6 ≤ L) (hL : L ≤ 3072) (hj : j < 512) {aj ae : Nat} {ad am : Nat → Nat} {T : AT} {Sm : MS} {f : Nat → Int64} {g : Nat → UInt64} {ls : Array Slot} {H : Heap} {locs : List Loc} (hV : IV aR0 1586 aK1 aK2 T) (hrc : RC T) (hJ : JJ Sm) (G : gL cI cJ cZ cMic cSrc cSt cAI cAJ D ad (fun q => s.heap.size ≤ q) s.heap H locs T (oJ aj cJ f :: oD ae cD g :: MW cI cJ cZ am Sm)) (hl : lv_has ls 9 [(5, .int (nI i)), (4, .ref ae), (3, .ref aj), (2, .ref (am 0)), (1, .ref (ad 0)), (0, .ref b)]) (kk : ∀ {k1 : Nat} {r1 : Int64} {T1 : AT} {r2 : Int64} {S1 : MS} (ad2 : Nat → Nat) (f1 : Nat → Int64) (g1 : Nat → UInt64) (H1 : Heap) (locs1 : List Loc) (ls1 : Array Slot), g_X11_power T 0 (xs (i + 1)) = some (k1, r1, T1) → fr_power Sm (xs (i + 1)) = some (r2, S1) → ad2 0 = ad 0 → IV aR0 1586 aK1 aK2 T1 → RC T1 → JJ S1 → gL cI cJ cZ cMic cSrc cSt cAI cAJ D ad2 (fun q => s.heap.size ≤ q) s.heap H1 locs1 T1 (oJ aj cJ f1 :: oD ae cD g1 :: MW cI cJ cZ am S1) → lv_has ls1 9 [(5, .int (nI i)), (4, .ref ae), (3, .ref aj), (2, .ref (am 0)), (1, .ref (ad2 0)), (0, .ref b)] → W p l e room_1 s m #[Value.ref b] below meth c H1 locs1 (19 + T1.1 + (j + 1)) (38467 + sg T1 + 6 * (j + 1)) Q (F0 m 2439 ls1 [])) : W p l e room_1 s m #[Value.ref b] below meth c H locs (19 + T.1 + j) (38467 + sg T + 6 * j) Q (F0 m 977 ls []) := by
  have E : cE p c cL_law s m #[Value.ref b] lw_tbl D RL (CT cI cJ cZ cMic cSrc cSt cAI cAJ ++ [(cD, .double)]) := ⟨hx, hb, hts, hown, hK⟩
  have hA : ∀ q : Nat, s.heap.size ≤ q → s.heap.size ≤ q := fun _ h => h
  have h0T : 0 < T.1 := Nat.lt_of_lt_of_le (by decide) hV.1.2.2
  have h0s : T.2.1 0 = (11, 0) := hV.2.1 0 ⟨by decide, by decide +kernel, by decide +kernel⟩
  refine lv_aload_n hx hb dL_law_977 rfl (lv_at hl 4 rfl) ?_
  refine lv_aload_n hx hb dL_law_978 rfl (lv_at hl 5 rfl) ?_
  refine lv_iload hx hb dL_law_979 (lv_at hl 0 rfl) ?_
  refine lv_iconst (v := 1) hx hb dL_law_981 (by decide) ?_
  refine lv_iadd hx hb dL_law_982 ?_
  refine lv_to (y := nI (i + 1)) (nI_add i 1) ?_
  refine va_sld hx hb hX0 hbl (Nat.not_le.mpr hbl) G.2.2 (i := nI (i + 1)) (vp_in_nI (n := i + 1) (N := L) (by omega) (by omega)) dL_law_983 ?_
  refine lv_to (y := xs (i + 1)) (congrArg xs (nI_clamp (by omega))) ?_
  refine lv_aload_n hx hb dL_law_984 rfl (lv_at hl 2 rfl) ?_
  obtain ⟨⟨k1, r1, T1⟩, hg, hc⟩ := cs_X11_power T 0 (xs (i + 1)) hV (by decide +kernel)
  have hV1 : IV aR0 1586 aK1 aK2 T1 := hc.1.1
  have hg1 := s_X11_power hg
  have hg2 := sg_le hg1
  have hg3 := hg1.1
  have hk := hV1.2.2.2.2.2.2
  have hrc1 := hg1.2.2 hrc
  have hr0 := a_room
  refine l_v (h0 := s.heap.size) (As := [.ref (ad 0), .int (xs (i + 1)), .ref aj]) (rest := []) E G hA hX hN (fun _ h => h) hTS hml (v_power l hst D s.heap.size ad T 0 (xs (i + 1)) aj f hg hrc h0T h0s) (vx_cwSW 3 hts (glA (L := [Cond.methodLink RL 274 yL_power, Cond.static yL_power, Cond.initialized RL]) (gl_in [(5, 181), (5, 182), (1, 0)] (by decide +kernel) (by decide +kernel)) ⟨(t_of [Cond.codeWith yL_power cL_power 4 (some .int) [(0, 8, 11, 21), (0, 8, 14, 13)]] [(5, 183)] (by decide +kernel) _ List.mem_cons_self), List.all_eq_true.mp (by decide +kernel : [Cond.codeWith yL_power cL_power 4 (some .int) [(0, 8, 11, 21), (0, 8, 14, 13)]].all goodWord = true) _ List.mem_cons_self⟩) rfl rfl rfl (by decide +kernel) ⟨Nat.le_of_ble_eq_true rfl, Nat.le_of_ble_eq_true rfl⟩) rfl hl.1 rfl (lv_room (Nat.le_of_ble_eq_true rfl)) dL_law_985 ⟨by show _ ≤ 601024; omega, by show _ ≤ 7293034; omega⟩ ?_
  intro ad2 H locs had G
  rw [← had 0 h0T] at hl
  refine lv_istore (lv' := [(6, .int (vck 1 2 0 k1)), (5, .int (nI i)), (4, .ref ae), (3, .ref aj), (2, .ref (am 0)), (1, .ref (ad2 0)), (0, .ref b)]) hx hb dL_law_988 hl (by decide) rfl (fun ls hl => ?_)
  refine lv_aload_n hx hb dL_law_990 rfl (lv_at hl 4 rfl) ?_
  refine lv_aload_n hx hb dL_law_991 rfl (lv_at hl 6 rfl) ?_
  refine lv_iload hx hb dL_law_992 (lv_at hl 1 rfl) ?_
  refine lv_iconst (v := 1) hx hb dL_law_994 (by decide) ?_
  refine lv_iadd hx hb dL_law_995 ?_
  refine lv_to (y := nI (i + 1)) (nI_add i 1) ?_
  refine va_sld hx hb hX0 hbl (Nat.not_le.mpr hbl) G.2.2 (i := nI (i + 1)) (vp_in_nI (n := i + 1) (N := L) (by omega) (by omega)) dL_law_996 ?_
  refine lv_to (y := xs (i + 1)) (congrArg xs (nI_clamp (by omega))) ?_
  obtain ⟨⟨r2, S1⟩, hf, hj⟩ := sj_power Sm (xs (i + 1)) hJ
  have hJ1 : JJ S1 := hj
  refine y_ml (As := [.int (xs (i + 1))]) (rest := []) E G hA hX.2.2.2.2 hml (tr_power l D cI cJ cZ am Sm (xs (i + 1)) hf) (cwV 1 hts (glM (L := [Cond.methodLink RL 276 yX12_power, Cond.instanceMethod yX12_power, Cond.selects RX12 yX12_power yX12_power, Cond.initialized RX12]) (gl_in [(9, 156), (9, 157), (9, 158), (1, 14)] (by decide +kernel) (by decide +kernel)) ⟨(t_of [Cond.code yX12_power cX12_power 2 (some .long)] [(9, 159)] (by decide +kernel) _ List.mem_cons_self), List.all_eq_true.mp (by decide +kernel : [Cond.code yX12_power cX12_power 2 (some .long)].all goodWord = true) _ List.mem_cons_self⟩) rfl rfl rfl (by decide +kernel) ⟨Nat.le_of_ble_eq_true rfl, Nat.le_of_ble_eq_true rfl⟩) rfl hl.1 rfl (lv_room (Nat.le_of_ble_eq_true rfl)) dL_law_997 ⟨by show _ ≤ 601024; omega, by show _ ≤ 7293034; omega⟩ (fun H locs G => ?_)
  refine lv_lstore (lv' := [(7, .long r2), (6, .int (vck 1 2 0 k1)), (5, .int (nI i)), (4, .ref ae), (3, .ref aj), (2, .ref (am 0)), (1, .ref (ad2 0)), (0, .ref b)]) hx hb dL_law_1000 hl (by decide) rfl (fun ls hl => ?_)
  refine lv_goto (tgt := 2439) hx hb dL_law_1002 (by decide) ?_
  have hl := lv_sub hl [2, 3, 4, 5, 6, 7] rfl
  refine W.widen (k := 19 + T1.1 + (j + 1)) (n := 38467 + sg T1 + 6 * (j + 1)) (by omega) (by omega) ?_
  exact kk ad2 (vfJ k1 f r1) g H locs ls hg hf (had 0 h0T) hV1 hrc1 hJ1 G hl
set_option maxHeartbeats 4000000 in
set_option maxRecDepth 100000 in
theorem y_a23 {p : Program} {e : Env} {s : State} {m : MethodId} {below : List Frame} {meth : Method} {c : Code} (l : Launch) (hst : l.stackTraces = false) {b L : Nat} {xs : Nat → Int32} (hx : p.tables.exec = Jvm.exec) (hb : c.code = code) (hml : c.maxLocals = 9) (hown : s.vm.findClass RL = some m.cls) (hts : ∀ w ∈ lw_tbl, w.before #[Value.ref b] s = true) (hX0 : va_X b L xs s s.heap) (hbl : b < s.heap.size) (hX : xT (fun q => s.heap.size ≤ q) s) (hN : nC s) (hTS : sAll s.heap.size s) {D : va_G} {cI cJ cZ cMic cSrc cSt cAI cAJ cD : ClassId} (hK : va_K D vwCl (CT cI cJ cZ cMic cSrc cSt cAI cAJ ++ [(cD, .double)]) s) {Q : State → Prop} {i j : Nat} (hi : i + 6 ≤ L) (hL : L ≤ 3072) (hj : j < 512) {aj ae : Nat} {ad am : Nat → Nat} {T : AT} {Sm : MS} {f : Nat → Int64} {g : Nat → UInt64} {ls : Array Slot} {H : Heap} {locs : List Loc} (hV : IV aR0 1586 aK1 aK2 T) (hrc : RC T) (hJ : JJ Sm) (G : gL cI cJ cZ cMic cSrc cSt cAI cAJ D ad (fun q => s.heap.size ≤ q) s.heap H locs T (oJ aj cJ f :: oD ae cD g :: MW cI cJ cZ am Sm)) (hl : lv_has ls 9 [(5, .int (nI i)), (4, .ref ae), (3, .ref aj), (2, .ref (am 0)), (1, .ref (ad 0)), (0, .ref b)]) (kk : ∀ {k1 : Nat} {r1 : Int64} {T1 : AT} {r2 : Int64} {S1 : MS} (ad2 : Nat → Nat) (f1 : Nat → Int64) (g1 : Nat → UInt64) (H1 : Heap) (locs1 : List Loc) (ls1 : Array Slot), g_X11_powerAt T 0 (xs (i + 1)) (xs (i + 2)) = some (k1, r1, T1) → fr_powerAt Sm (xs (i + 1)) (xs (i + 2)) = some (r2, S1) → ad2 0 = ad 0 → IV aR0 1586 aK1 aK2 T1 → RC T1 → JJ S1 → gL cI cJ cZ cMic cSrc cSt cAI cAJ D ad2 (fun q => s.heap.size ≤ q) s.heap H1 locs1 T1 (oJ aj cJ f1 :: oD ae cD g1 :: MW cI cJ cZ am S1) → lv_has ls1 9 [(5, .int (nI i)), (4, .ref ae), (3, .ref aj), (2, .ref (am 0)), (1, .ref (ad2 0)), (0, .ref b)] → W p l e room_1 s m #[Value.ref b] below meth c H1 locs1 (19 + T1.1 + (j + 1)) (38467 + sg T1 + 6 * (j + 1)) Q (F0 m 2439 ls1 [])) : W p l e room_1 s m #[Value.ref b] below meth c H locs (19 + T.1 + j) (38467 + sg T + 6 * j) Q (F0 m 1005 ls []) := by
  have E : cE p c cL_law s m #[Value.ref b] lw_tbl D RL (CT cI cJ cZ cMic cSrc cSt cAI cAJ ++ [(cD, .double)]) := ⟨hx, hb, hts, hown, hK⟩
  have hA : ∀ q : Nat, s.heap.size ≤ q → s.heap.size ≤ q := fun _ h => h
  have h0T : 0 < T.1 := Nat.lt_of_lt_of_le (by decide) hV.1.2.2
  have h0s : T.2.1 0 = (11, 0) := hV.2.1 0 ⟨by decide, by decide +kernel, by decide +kernel⟩
  refine lv_aload_n hx hb dL_law_1005 rfl (lv_at hl 4 rfl) ?_
  refine lv_aload_n hx hb dL_law_1006 rfl (lv_at hl 5 rfl) ?_
  refine lv_iload hx hb dL_law_1007 (lv_at hl 0 rfl) ?_
  refine lv_iconst (v := 1) hx hb dL_law_1009 (by decide) ?_
  refine lv_iadd hx hb dL_law_1010 ?_
  refine lv_to (y := nI (i + 1)) (nI_add i 1) ?_
  refine va_sld hx hb hX0 hbl (Nat.not_le.mpr hbl) G.2.2 (i := nI (i + 1)) (vp_in_nI (n := i + 1) (N := L) (by omega) (by omega)) dL_law_1011 ?_
  refine lv_to (y := xs (i + 1)) (congrArg xs (nI_clamp (by omega))) ?_
  refine lv_aload_n hx hb dL_law_1012 rfl (lv_at hl 5 rfl) ?_
  refine lv_iload hx hb dL_law_1013 (lv_at hl 0 rfl) ?_
  refine lv_iconst (v := 2) hx hb dL_law_1015 (by decide) ?_
  refine lv_iadd hx hb dL_law_1016 ?_
  refine lv_to (y := nI (i + 2)) (nI_add i 2) ?_
  refine va_sld hx hb hX0 hbl (Nat.not_le.mpr hbl) G.2.2 (i := nI (i + 2)) (vp_in_nI (n := i + 2) (N := L) (by omega) (by omega)) dL_law_1017 ?_
  refine lv_to (y := xs (i + 2)) (congrArg xs (nI_clamp (by omega))) ?_
  refine lv_aload_n hx hb dL_law_1018 rfl (lv_at hl 2 rfl) ?_
  obtain ⟨⟨k1, r1, T1⟩, hg, hc⟩ := cs_X11_powerAt T 0 (xs (i + 1)) (xs (i + 2)) hV (by decide +kernel)
  have hV1 : IV aR0 1586 aK1 aK2 T1 := hc.1.1
  have hg1 := s_X11_powerAt hg
  have hg2 := sg_le hg1
  have hg3 := hg1.1
  have hk := hV1.2.2.2.2.2.2
  have hrc1 := hg1.2.2 hrc
  have hr0 := a_room
  refine l_v (h0 := s.heap.size) (As := [.ref (ad 0), .int (xs (i + 1)), .int (xs (i + 2)), .ref aj]) (rest := []) E G hA hX hN (fun _ h => h) hTS hml (v_powerAt l hst D s.heap.size ad T 0 (xs (i + 1)) (xs (i + 2)) aj f hg hrc h0T h0s) (vx_cwSW 4 hts (glA (L := [Cond.methodLink RL 277 yL_powerAt, Cond.static yL_powerAt, Cond.initialized RL]) (gl_in [(6, 10), (6, 11), (1, 0)] (by decide +kernel) (by decide +kernel)) ⟨(t_of [Cond.codeWith yL_powerAt cL_powerAt 5 (some .int) [(0, 9, 12, 21), (0, 9, 16, 15)]] [(6, 12)] (by decide +kernel) _ List.mem_cons_self), List.all_eq_true.mp (by decide +kernel : [Cond.codeWith yL_powerAt cL_powerAt 5 (some .int) [(0, 9, 12, 21), (0, 9, 16, 15)]].all goodWord = true) _ List.mem_cons_self⟩) rfl rfl rfl (by decide +kernel) ⟨Nat.le_of_ble_eq_true rfl, Nat.le_of_ble_eq_true rfl⟩) rfl hl.1 rfl (lv_room (Nat.le_of_ble_eq_true rfl)) dL_law_1019 ⟨by show _ ≤ 601024; omega, by show _ ≤ 7293034; omega⟩ ?_
  intro ad2 H locs had G
  rw [← had 0 h0T] at hl
  refine lv_istore (lv' := [(6, .int (vck 1 0 2 k1)), (5, .int (nI i)), (4, .ref ae), (3, .ref aj), (2, .ref (am 0)), (1, .ref (ad2 0)), (0, .ref b)]) hx hb dL_law_1022 hl (by decide) rfl (fun ls hl => ?_)
  refine lv_aload_n hx hb dL_law_1024 rfl (lv_at hl 4 rfl) ?_
  refine lv_aload_n hx hb dL_law_1025 rfl (lv_at hl 6 rfl) ?_
  refine lv_iload hx hb dL_law_1026 (lv_at hl 1 rfl) ?_
  refine lv_iconst (v := 1) hx hb dL_law_1028 (by decide) ?_
  refine lv_iadd hx hb dL_law_1029 ?_
  refine lv_to (y := nI (i + 1)) (nI_add i 1) ?_
  refine va_sld hx hb hX0 hbl (Nat.not_le.mpr hbl) G.2.2 (i := nI (i + 1)) (vp_in_nI (n := i + 1) (N := L) (by omega) (by omega)) dL_law_1030 ?_
  refine lv_to (y := xs (i + 1)) (congrArg xs (nI_clamp (by omega))) ?_
  refine lv_aload_n hx hb dL_law_1031 rfl (lv_at hl 6 rfl) ?_
  refine lv_iload hx hb dL_law_1032 (lv_at hl 1 rfl) ?_
  refine lv_iconst (v := 2) hx hb dL_law_1034 (by decide) ?_
  refine lv_iadd hx hb dL_law_1035 ?_
  refine lv_to (y := nI (i + 2)) (nI_add i 2) ?_
  refine va_sld hx hb hX0 hbl (Nat.not_le.mpr hbl) G.2.2 (i := nI (i + 2)) (vp_in_nI (n := i + 2) (N := L) (by omega) (by omega)) dL_law_1036 ?_
  refine lv_to (y := xs (i + 2)) (congrArg xs (nI_clamp (by omega))) ?_
  obtain ⟨⟨r2, S1⟩, hf, hj⟩ := sj_powerAt Sm (xs (i + 1)) (xs (i + 2)) hJ
  have hJ1 : JJ S1 := hj
  refine y_ml (As := [.int (xs (i + 1)), .int (xs (i + 2))]) (rest := []) E G hA hX.2.2.2.2 hml (tr_powerAt l D cI cJ cZ am Sm (xs (i + 1)) (xs (i + 2)) hf) (cwV 2 hts (glM (L := [Cond.methodLink RL 279 yX12_powerAt, Cond.instanceMethod yX12_powerAt, Cond.selects RX12 yX12_powerAt yX12_powerAt, Cond.initialized RX12]) (gl_in [(9, 172), (9, 173), (9, 174), (1, 14)] (by decide +kernel) (by decide +kernel)) ⟨(t_of [Cond.code yX12_powerAt cX12_powerAt 3 (some .long)] [(9, 175)] (by decide +kernel) _ List.mem_cons_self), List.all_eq_true.mp (by decide +kernel : [Cond.code yX12_powerAt cX12_powerAt 3 (some .long)].all goodWord = true) _ List.mem_cons_self⟩) rfl rfl rfl (by decide +kernel) ⟨Nat.le_of_ble_eq_true rfl, Nat.le_of_ble_eq_true rfl⟩) rfl hl.1 rfl (lv_room (Nat.le_of_ble_eq_true rfl)) dL_law_1037 ⟨by show _ ≤ 601024; omega, by show _ ≤ 7293034; omega⟩ (fun H locs G => ?_)
  refine lv_lstore (lv' := [(7, .long r2), (6, .int (vck 1 0 2 k1)), (5, .int (nI i)), (4, .ref ae), (3, .ref aj), (2, .ref (am 0)), (1, .ref (ad2 0)), (0, .ref b)]) hx hb dL_law_1040 hl (by decide) rfl (fun ls hl => ?_)
  refine lv_goto (tgt := 2439) hx hb dL_law_1042 (by decide) ?_
  have hl := lv_sub hl [2, 3, 4, 5, 6, 7] rfl
  refine W.widen (k := 19 + T1.1 + (j + 1)) (n := 38467 + sg T1 + 6 * (j + 1)) (by omega) (by omega) ?_
  exact kk ad2 (vfJ k1 f r1) g H locs ls hg hf (had 0 h0T) hV1 hrc1 hJ1 G hl
end
section
/-! 17d.arm3.lean.txt -/
theorem dL_law_1045 : decode cL_law 1045 = .ok (.aload_n 1, 1) := de_43 (lb_65 (j := 5) (b := 43) rfl)
theorem dL_law_1046 : decode cL_law 1046 = .ok (.aload_n 3, 1) := de_45 (lb_65 (j := 6) (b := 45) rfl)
theorem dL_law_1047 : decode cL_law 1047 = .ok (.invokestatic 280, 3) := de_184 (lb_65 (j := 7) (b := 184) rfl) (lb_65 (j := 8) (b := 1) rfl) (lb_65 (j := 9) (b := 24) rfl) rfl
theorem dL_law_1050 : decode cL_law 1050 = .ok (.istore 6, 2) := de_54 (lb_65 (j := 10) (b := 54) rfl) (lb_65 (j := 11) (b := 6) rfl) rfl
theorem dL_law_1052 : decode cL_law 1052 = .ok (.aload_n 2, 1) := de_44 (lb_65 (j := 12) (b := 44) rfl)
theorem dL_law_1053 : decode cL_law 1053 = .ok (.invokevirtual 283, 3) := de_182 (lb_65 (j := 13) (b := 182) rfl) (lb_65 (j := 14) (b := 1) rfl) (lb_65 (j := 15) (b := 27) rfl) rfl
theorem dL_law_1056 : decode cL_law 1056 = .ok (.istore 7, 2) := de_54 (lb_66 (j := 0) (b := 54) rfl) (lb_66 (j := 1) (b := 7) rfl) rfl
theorem dL_law_1058 : decode cL_law 1058 = .ok (.goto 1381, 3) := de_167 (lb_66 (j := 2) (b := 167) rfl) (lb_66 (j := 3) (b := 5) rfl) (lb_66 (j := 4) (b := 101) rfl) (by decide +kernel)
theorem dL_law_1061 : decode cL_law 1061 = .ok (.aload_n 1, 1) := de_43 (lb_66 (j := 5) (b := 43) rfl)
theorem dL_law_1062 : decode cL_law 1062 = .ok (.aload_n 3, 1) := de_45 (lb_66 (j := 6) (b := 45) rfl)
theorem dL_law_1063 : decode cL_law 1063 = .ok (.invokestatic 284, 3) := de_184 (lb_66 (j := 7) (b := 184) rfl) (lb_66 (j := 8) (b := 1) rfl) (lb_66 (j := 9) (b := 28) rfl) rfl
theorem dL_law_1066 : decode cL_law 1066 = .ok (.istore 6, 2) := de_54 (lb_66 (j := 10) (b := 54) rfl) (lb_66 (j := 11) (b := 6) rfl) rfl
theorem dL_law_1068 : decode cL_law 1068 = .ok (.aload_n 2, 1) := de_44 (lb_66 (j := 12) (b := 44) rfl)
theorem dL_law_1069 : decode cL_law 1069 = .ok (.invokevirtual 286, 3) := de_182 (lb_66 (j := 13) (b := 182) rfl) (lb_66 (j := 14) (b := 1) rfl) (lb_66 (j := 15) (b := 30) rfl) rfl
theorem dL_law_1072 : decode cL_law 1072 = .ok (.lstore 7, 2) := de_55 (lb_67 (j := 0) (b := 55) rfl) (lb_67 (j := 1) (b := 7) rfl) rfl
theorem dL_law_1074 : decode cL_law 1074 = .ok (.goto 1365, 3) := de_167 (lb_67 (j := 2) (b := 167) rfl) (lb_67 (j := 3) (b := 5) rfl) (lb_67 (j := 4) (b := 85) rfl) (by decide +kernel)
theorem dL_law_1077 : decode cL_law 1077 = .ok (.aload_n 1, 1) := de_43 (lb_67 (j := 5) (b := 43) rfl)
theorem dL_law_1078 : decode cL_law 1078 = .ok (.aload_n 3, 1) := de_45 (lb_67 (j := 6) (b := 45) rfl)
theorem dL_law_1079 : decode cL_law 1079 = .ok (.invokestatic 287, 3) := de_184 (lb_67 (j := 7) (b := 184) rfl) (lb_67 (j := 8) (b := 1) rfl) (lb_67 (j := 9) (b := 31) rfl) rfl
theorem dL_law_1082 : decode cL_law 1082 = .ok (.istore 6, 2) := de_54 (lb_67 (j := 10) (b := 54) rfl) (lb_67 (j := 11) (b := 6) rfl) rfl
theorem dL_law_1084 : decode cL_law 1084 = .ok (.aload_n 2, 1) := de_44 (lb_67 (j := 12) (b := 44) rfl)
theorem dL_law_1085 : decode cL_law 1085 = .ok (.invokevirtual 289, 3) := de_182 (lb_67 (j := 13) (b := 182) rfl) (lb_67 (j := 14) (b := 1) rfl) (lb_67 (j := 15) (b := 33) rfl) rfl
theorem dL_law_1088 : decode cL_law 1088 = .ok (.lstore 7, 2) := de_55 (lb_68 (j := 0) (b := 55) rfl) (lb_68 (j := 1) (b := 7) rfl) rfl
theorem dL_law_1090 : decode cL_law 1090 = .ok (.goto 1349, 3) := de_167 (lb_68 (j := 2) (b := 167) rfl) (lb_68 (j := 3) (b := 5) rfl) (lb_68 (j := 4) (b := 69) rfl) (by decide +kernel)
theorem dL_law_1093 : decode cL_law 1093 = .ok (.aload_n 1, 1) := de_43 (lb_68 (j := 5) (b := 43) rfl)
theorem dL_law_1094 : decode cL_law 1094 = .ok (.aload_n 3, 1) := de_45 (lb_68 (j := 6) (b := 45) rfl)
theorem dL_law_1095 : decode cL_law 1095 = .ok (.invokestatic 290, 3) := de_184 (lb_68 (j := 7) (b := 184) rfl) (lb_68 (j := 8) (b := 1) rfl) (lb_68 (j := 9) (b := 34) rfl) rfl
theorem dL_law_1098 : decode cL_law 1098 = .ok (.istore 6, 2) := de_54 (lb_68 (j := 10) (b := 54) rfl) (lb_68 (j := 11) (b := 6) rfl) rfl
theorem dL_law_1100 : decode cL_law 1100 = .ok (.aload_n 2, 1) := de_44 (lb_68 (j := 12) (b := 44) rfl)
theorem dL_law_1101 : decode cL_law 1101 = .ok (.invokevirtual 292, 3) := de_182 (lb_68 (j := 13) (b := 182) rfl) (lb_68 (j := 14) (b := 1) rfl) (lb_68 (j := 15) (b := 36) rfl) rfl
theorem dL_law_1104 : decode cL_law 1104 = .ok (.istore 7, 2) := de_54 (lb_69 (j := 0) (b := 54) rfl) (lb_69 (j := 1) (b := 7) rfl) rfl
theorem dL_law_1106 : decode cL_law 1106 = .ok (.goto 1333, 3) := de_167 (lb_69 (j := 2) (b := 167) rfl) (lb_69 (j := 3) (b := 5) rfl) (lb_69 (j := 4) (b := 53) rfl) (by decide +kernel)
theorem dL_law_1109 : decode cL_law 1109 = .ok (.aload_n 1, 1) := de_43 (lb_69 (j := 5) (b := 43) rfl)
theorem dL_law_1110 : decode cL_law 1110 = .ok (.aload_n 0, 1) := de_42 (lb_69 (j := 6) (b := 42) rfl)
theorem dL_law_1111 : decode cL_law 1111 = .ok (.iload 5, 2) := de_21 (lb_69 (j := 7) (b := 21) rfl) (lb_69 (j := 8) (b := 5) rfl) rfl
theorem dL_law_1113 : decode cL_law 1113 = .ok (.iconst 1, 1) := de_4 (lb_69 (j := 9) (b := 4) rfl)
theorem dL_law_1114 : decode cL_law 1114 = .ok (.iadd, 1) := de_96 (lb_69 (j := 10) (b := 96) rfl)
theorem dL_law_1115 : decode cL_law 1115 = .ok (.iaload, 1) := de_46 (lb_69 (j := 11) (b := 46) rfl)
theorem dL_law_1116 : decode cL_law 1116 = .ok (.aload_n 3, 1) := de_45 (lb_69 (j := 12) (b := 45) rfl)
theorem dL_law_1117 : decode cL_law 1117 = .ok (.invokestatic 293, 3) := de_184 (lb_69 (j := 13) (b := 184) rfl) (lb_69 (j := 14) (b := 1) rfl) (lb_69 (j := 15) (b := 37) rfl) rfl
theorem dL_law_1120 : decode cL_law 1120 = .ok (.istore 6, 2) := de_54 (lb_70 (j := 0) (b := 54) rfl) (lb_70 (j := 1) (b := 6) rfl) rfl
theorem dL_law_1122 : decode cL_law 1122 = .ok (.aload_n 2, 1) := de_44 (lb_70 (j := 2) (b := 44) rfl)
theorem dL_law_1123 : decode cL_law 1123 = .ok (.aload_n 0, 1) := de_42 (lb_70 (j := 3) (b := 42) rfl)
theorem dL_law_1124 : decode cL_law 1124 = .ok (.iload 5, 2) := de_21 (lb_70 (j := 4) (b := 21) rfl) (lb_70 (j := 5) (b := 5) rfl) rfl
theorem dL_law_1126 : decode cL_law 1126 = .ok (.iconst 1, 1) := de_4 (lb_70 (j := 6) (b := 4) rfl)
theorem dL_law_1127 : decode cL_law 1127 = .ok (.iadd, 1) := de_96 (lb_70 (j := 7) (b := 96) rfl)
theorem dL_law_1128 : decode cL_law 1128 = .ok (.iaload, 1) := de_46 (lb_70 (j := 8) (b := 46) rfl)
theorem dL_law_1129 : decode cL_law 1129 = .ok (.invokevirtual 295, 3) := de_182 (lb_70 (j := 9) (b := 182) rfl) (lb_70 (j := 10) (b := 1) rfl) (lb_70 (j := 11) (b := 39) rfl) rfl
theorem dL_law_1132 : decode cL_law 1132 = .ok (.istore 7, 2) := de_54 (lb_70 (j := 12) (b := 54) rfl) (lb_70 (j := 13) (b := 7) rfl) rfl
theorem dL_law_1134 : decode cL_law 1134 = .ok (.goto 1305, 3) := de_167 (lb_70 (j := 14) (b := 167) rfl) (lb_70 (j := 15) (b := 5) rfl) (lb_71 (j := 0) (b := 25) rfl) (by decide +kernel)
theorem dL_law_1137 : decode cL_law 1137 = .ok (.aload_n 1, 1) := de_43 (lb_71 (j := 1) (b := 43) rfl)
theorem dL_law_1138 : decode cL_law 1138 = .ok (.aload_n 0, 1) := de_42 (lb_71 (j := 2) (b := 42) rfl)
theorem dL_law_1139 : decode cL_law 1139 = .ok (.iload 5, 2) := de_21 (lb_71 (j := 3) (b := 21) rfl) (lb_71 (j := 4) (b := 5) rfl) rfl
theorem dL_law_1141 : decode cL_law 1141 = .ok (.iconst 1, 1) := de_4 (lb_71 (j := 5) (b := 4) rfl)
theorem dL_law_1142 : decode cL_law 1142 = .ok (.iadd, 1) := de_96 (lb_71 (j := 6) (b := 96) rfl)
theorem dL_law_1143 : decode cL_law 1143 = .ok (.iaload, 1) := de_46 (lb_71 (j := 7) (b := 46) rfl)
theorem dL_law_1144 : decode cL_law 1144 = .ok (.aload_n 3, 1) := de_45 (lb_71 (j := 8) (b := 45) rfl)
theorem dL_law_1145 : decode cL_law 1145 = .ok (.invokestatic 296, 3) := de_184 (lb_71 (j := 9) (b := 184) rfl) (lb_71 (j := 10) (b := 1) rfl) (lb_71 (j := 11) (b := 40) rfl) rfl
theorem dL_law_1148 : decode cL_law 1148 = .ok (.istore 6, 2) := de_54 (lb_71 (j := 12) (b := 54) rfl) (lb_71 (j := 13) (b := 6) rfl) rfl
theorem dL_law_1150 : decode cL_law 1150 = .ok (.aload_n 2, 1) := de_44 (lb_71 (j := 14) (b := 44) rfl)
theorem dL_law_1151 : decode cL_law 1151 = .ok (.aload_n 0, 1) := de_42 (lb_71 (j := 15) (b := 42) rfl)
theorem dL_law_1152 : decode cL_law 1152 = .ok (.iload 5, 2) := de_21 (lb_72 (j := 0) (b := 21) rfl) (lb_72 (j := 1) (b := 5) rfl) rfl
theorem dL_law_1154 : decode cL_law 1154 = .ok (.iconst 1, 1) := de_4 (lb_72 (j := 2) (b := 4) rfl)
theorem dL_law_1155 : decode cL_law 1155 = .ok (.iadd, 1) := de_96 (lb_72 (j := 3) (b := 96) rfl)
theorem dL_law_1156 : decode cL_law 1156 = .ok (.iaload, 1) := de_46 (lb_72 (j := 4) (b := 46) rfl)
theorem dL_law_1157 : decode cL_law 1157 = .ok (.invokevirtual 298, 3) := de_182 (lb_72 (j := 5) (b := 182) rfl) (lb_72 (j := 6) (b := 1) rfl) (lb_72 (j := 7) (b := 42) rfl) rfl
theorem dL_law_1160 : decode cL_law 1160 = .ok (.istore 7, 2) := de_54 (lb_72 (j := 8) (b := 54) rfl) (lb_72 (j := 9) (b := 7) rfl) rfl
theorem dL_law_1162 : decode cL_law 1162 = .ok (.goto 1277, 3) := de_167 (lb_72 (j := 10) (b := 167) rfl) (lb_72 (j := 11) (b := 4) rfl) (lb_72 (j := 12) (b := 253) rfl) (by decide +kernel)
theorem dL_law_1165 : decode cL_law 1165 = .ok (.aload_n 1, 1) := de_43 (lb_72 (j := 13) (b := 43) rfl)
theorem dL_law_1166 : decode cL_law 1166 = .ok (.aload_n 0, 1) := de_42 (lb_72 (j := 14) (b := 42) rfl)
theorem dL_law_1167 : decode cL_law 1167 = .ok (.iload 5, 2) := de_21 (lb_72 (j := 15) (b := 21) rfl) (lb_73 (j := 0) (b := 5) rfl) rfl
theorem dL_law_1169 : decode cL_law 1169 = .ok (.iconst 1, 1) := de_4 (lb_73 (j := 1) (b := 4) rfl)
theorem dL_law_1170 : decode cL_law 1170 = .ok (.iadd, 1) := de_96 (lb_73 (j := 2) (b := 96) rfl)
theorem dL_law_1171 : decode cL_law 1171 = .ok (.iaload, 1) := de_46 (lb_73 (j := 3) (b := 46) rfl)
theorem dL_law_1172 : decode cL_law 1172 = .ok (.aload_n 3, 1) := de_45 (lb_73 (j := 4) (b := 45) rfl)
theorem dL_law_1173 : decode cL_law 1173 = .ok (.invokestatic 299, 3) := de_184 (lb_73 (j := 5) (b := 184) rfl) (lb_73 (j := 6) (b := 1) rfl) (lb_73 (j := 7) (b := 43) rfl) rfl
theorem dL_law_1176 : decode cL_law 1176 = .ok (.istore 6, 2) := de_54 (lb_73 (j := 8) (b := 54) rfl) (lb_73 (j := 9) (b := 6) rfl) rfl
theorem dL_law_1178 : decode cL_law 1178 = .ok (.aload_n 2, 1) := de_44 (lb_73 (j := 10) (b := 44) rfl)
theorem dL_law_1179 : decode cL_law 1179 = .ok (.aload_n 0, 1) := de_42 (lb_73 (j := 11) (b := 42) rfl)
theorem dL_law_1180 : decode cL_law 1180 = .ok (.iload 5, 2) := de_21 (lb_73 (j := 12) (b := 21) rfl) (lb_73 (j := 13) (b := 5) rfl) rfl
theorem dL_law_1182 : decode cL_law 1182 = .ok (.iconst 1, 1) := de_4 (lb_73 (j := 14) (b := 4) rfl)
theorem dL_law_1183 : decode cL_law 1183 = .ok (.iadd, 1) := de_96 (lb_73 (j := 15) (b := 96) rfl)
theorem dL_law_1184 : decode cL_law 1184 = .ok (.iaload, 1) := de_46 (lb_74 (j := 0) (b := 46) rfl)
theorem dL_law_1185 : decode cL_law 1185 = .ok (.invokevirtual 301, 3) := de_182 (lb_74 (j := 1) (b := 182) rfl) (lb_74 (j := 2) (b := 1) rfl) (lb_74 (j := 3) (b := 45) rfl) rfl
theorem dL_law_1188 : decode cL_law 1188 = .ok (.lstore 7, 2) := de_55 (lb_74 (j := 4) (b := 55) rfl) (lb_74 (j := 5) (b := 7) rfl) rfl
theorem dL_law_1190 : decode cL_law 1190 = .ok (.goto 1249, 3) := de_167 (lb_74 (j := 6) (b := 167) rfl) (lb_74 (j := 7) (b := 4) rfl) (lb_74 (j := 8) (b := 225) rfl) (by decide +kernel)
theorem dL_law_1193 : decode cL_law 1193 = .ok (.aload_n 1, 1) := de_43 (lb_74 (j := 9) (b := 43) rfl)
theorem dL_law_1194 : decode cL_law 1194 = .ok (.aload_n 0, 1) := de_42 (lb_74 (j := 10) (b := 42) rfl)
theorem dL_law_1195 : decode cL_law 1195 = .ok (.iload 5, 2) := de_21 (lb_74 (j := 11) (b := 21) rfl) (lb_74 (j := 12) (b := 5) rfl) rfl
theorem dL_law_1197 : decode cL_law 1197 = .ok (.iconst 1, 1) := de_4 (lb_74 (j := 13) (b := 4) rfl)
theorem dL_law_1198 : decode cL_law 1198 = .ok (.iadd, 1) := de_96 (lb_74 (j := 14) (b := 96) rfl)
theorem dL_law_1199 : decode cL_law 1199 = .ok (.iaload, 1) := de_46 (lb_74 (j := 15) (b := 46) rfl)
theorem dL_law_1200 : decode cL_law 1200 = .ok (.aload_n 3, 1) := de_45 (lb_75 (j := 0) (b := 45) rfl)
theorem dL_law_1201 : decode cL_law 1201 = .ok (.invokestatic 302, 3) := de_184 (lb_75 (j := 1) (b := 184) rfl) (lb_75 (j := 2) (b := 1) rfl) (lb_75 (j := 3) (b := 46) rfl) rfl
theorem dL_law_1204 : decode cL_law 1204 = .ok (.istore 6, 2) := de_54 (lb_75 (j := 4) (b := 54) rfl) (lb_75 (j := 5) (b := 6) rfl) rfl
theorem dL_law_1206 : decode cL_law 1206 = .ok (.aload_n 2, 1) := de_44 (lb_75 (j := 6) (b := 44) rfl)
theorem dL_law_1207 : decode cL_law 1207 = .ok (.aload_n 0, 1) := de_42 (lb_75 (j := 7) (b := 42) rfl)
theorem dL_law_1208 : decode cL_law 1208 = .ok (.iload 5, 2) := de_21 (lb_75 (j := 8) (b := 21) rfl) (lb_75 (j := 9) (b := 5) rfl) rfl
theorem dL_law_1210 : decode cL_law 1210 = .ok (.iconst 1, 1) := de_4 (lb_75 (j := 10) (b := 4) rfl)
theorem dL_law_1211 : decode cL_law 1211 = .ok (.iadd, 1) := de_96 (lb_75 (j := 11) (b := 96) rfl)
theorem dL_law_1212 : decode cL_law 1212 = .ok (.iaload, 1) := de_46 (lb_75 (j := 12) (b := 46) rfl)
theorem dL_law_1213 : decode cL_law 1213 = .ok (.invokevirtual 304, 3) := de_182 (lb_75 (j := 13) (b := 182) rfl) (lb_75 (j := 14) (b := 1) rfl) (lb_75 (j := 15) (b := 48) rfl) rfl
theorem dL_law_1216 : decode cL_law 1216 = .ok (.istore 7, 2) := de_54 (lb_76 (j := 0) (b := 54) rfl) (lb_76 (j := 1) (b := 7) rfl) rfl
theorem dL_law_1218 : decode cL_law 1218 = .ok (.goto 1221, 3) := de_167 (lb_76 (j := 2) (b := 167) rfl) (lb_76 (j := 3) (b := 4) rfl) (lb_76 (j := 4) (b := 197) rfl) (by decide +kernel)
set_option maxHeartbeats 4000000 in
set_option maxRecDepth 100000 in
theorem y_a24 {p : Program} {e : Env} {s : State} {m : MethodId} {below : List Frame} {meth : Method} {c : Code} (l : Launch) (hst : l.stackTraces = false) {b L : Nat} {xs : Nat → Int32} (hx : p.tables.exec = Jvm.exec) (hb : c.code = code) (hml : c.maxLocals = 9) (hown : s.vm.findClass RL = some m.cls) (hts : ∀ w ∈ lw_tbl, w.before #[Value.ref b] s = true) (hX0 : va_X b L xs s s.heap) (hbl : b < s.heap.size) (hX : xT (fun q => s.heap.size ≤ q) s) (hN : nC s) (hTS : sAll s.heap.size s) {D : va_G} {cI cJ cZ cMic cSrc cSt cAI cAJ cD : ClassId} (hK : va_K D vwCl (CT cI cJ cZ cMic cSrc cSt cAI cAJ ++ [(cD, .double)]) s) {Q : State → Prop} {i j : Nat} (hi : i + 6 ≤ L) (hL : L ≤ 3072) (hj : j < 512) {aj ae : Nat} {ad am : Nat → Nat} {T : AT} {Sm : MS} {f : Nat → Int64} {g : Nat → UInt64} {ls : Array Slot} {H : Heap} {locs : List Loc} (hV : IV aR0 1586 aK1 aK2 T) (hrc : RC T) (hJ : JJ Sm) (G : gL cI cJ cZ cMic cSrc cSt cAI cAJ D ad (fun q => s.heap.size ≤ q) s.heap H locs T (oJ aj cJ f :: oD ae cD g :: MW cI cJ cZ am Sm)) (hl : lv_has ls 9 [(5, .int (nI i)), (4, .ref ae), (3, .ref aj), (2, .ref (am 0)), (1, .ref (ad 0)), (0, .ref b)]) (kk : ∀ {k1 : Nat} {r1 : Int32} {T1 : AT} {r2 : Int32} {S1 : MS} (ad2 : Nat → Nat) (f1 : Nat → Int64) (g1 : Nat → UInt64) (H1 : Heap) (locs1 : List Loc) (ls1 : Array Slot), g_X11_best T 0 = some (k1, r1, T1) → fr_best Sm = some (r2, S1) → ad2 0 = ad 0 → IV aR0 1586 aK1 aK2 T1 → RC T1 → JJ S1 → gL cI cJ cZ cMic cSrc cSt cAI cAJ D ad2 (fun q => s.heap.size ≤ q) s.heap H1 locs1 T1 (oJ aj cJ f1 :: oD ae cD g1 :: MW cI cJ cZ am S1) → lv_has ls1 9 [(5, .int (nI i)), (4, .ref ae), (3, .ref aj), (2, .ref (am 0)), (1, .ref (ad2 0)), (0, .ref b)] → W p l e room_1 s m #[Value.ref b] below meth c H1 locs1 (19 + T1.1 + (j + 1)) (38467 + sg T1 + 6 * (j + 1)) Q (F0 m 2439 ls1 [])) : W p l e room_1 s m #[Value.ref b] below meth c H locs (19 + T.1 + j) (38467 + sg T + 6 * j) Q (F0 m 1045 ls []) := by
  have E : cE p c cL_law s m #[Value.ref b] lw_tbl D RL (CT cI cJ cZ cMic cSrc cSt cAI cAJ ++ [(cD, .double)]) := ⟨hx, hb, hts, hown, hK⟩
  have hA : ∀ q : Nat, s.heap.size ≤ q → s.heap.size ≤ q := fun _ h => h
  have h0T : 0 < T.1 := Nat.lt_of_lt_of_le (by decide) hV.1.2.2
  have h0s : T.2.1 0 = (11, 0) := hV.2.1 0 ⟨by decide, by decide +kernel, by decide +kernel⟩
  refine lv_aload_n hx hb dL_law_1045 rfl (lv_at hl 4 rfl) ?_
  refine lv_aload_n hx hb dL_law_1046 rfl (lv_at hl 2 rfl) ?_
  obtain ⟨⟨k1, r1, T1⟩, hg, hc⟩ := cs_X11_best T 0 hV (by decide +kernel)
  have hV1 : IV aR0 1586 aK1 aK2 T1 := hc.1.1
  have hg1 := s_X11_best hg
  have hg2 := sg_le hg1
  have hg3 := hg1.1
  have hk := hV1.2.2.2.2.2.2
  have hrc1 := hg1.2.2 hrc
  have hr0 := a_room
  refine l_v (h0 := s.heap.size) (As := [.ref (ad 0), .ref aj]) (rest := []) E G hA hX hN (fun _ h => h) hTS hml (v_best l hst D s.heap.size ad T 0  aj f hg hrc h0T h0s) (vx_cwSW 2 hts (glA (L := [Cond.methodLink RL 280 yL_best, Cond.static yL_best, Cond.initialized RL]) (gl_in [(6, 23), (6, 24), (1, 0)] (by decide +kernel) (by decide +kernel)) ⟨(t_of [Cond.codeWith yL_best cL_best 3 (some .int) [(0, 8, 11, 21)]] [(6, 25)] (by decide +kernel) _ List.mem_cons_self), List.all_eq_true.mp (by decide +kernel : [Cond.codeWith yL_best cL_best 3 (some .int) [(0, 8, 11, 21)]].all goodWord = true) _ List.mem_cons_self⟩) rfl rfl rfl (by decide +kernel) ⟨Nat.le_of_ble_eq_true rfl, Nat.le_of_ble_eq_true rfl⟩) rfl hl.1 rfl (lv_room (Nat.le_of_ble_eq_true rfl)) dL_law_1047 ⟨by show _ ≤ 601024; omega, by show _ ≤ 7293034; omega⟩ ?_
  intro ad2 H locs had G
  rw [← had 0 h0T] at hl
  refine lv_istore (lv' := [(6, .int (vck 1 0 0 k1)), (5, .int (nI i)), (4, .ref ae), (3, .ref aj), (2, .ref (am 0)), (1, .ref (ad2 0)), (0, .ref b)]) hx hb dL_law_1050 hl (by decide) rfl (fun ls hl => ?_)
  refine lv_aload_n hx hb dL_law_1052 rfl (lv_at hl 4 rfl) ?_
  obtain ⟨⟨r2, S1⟩, hf, hj⟩ := sj_best Sm hJ
  have hJ1 : JJ S1 := hj
  refine y_mi (As := []) (rest := []) E G hA hX.2.2.2.2 hml (tr_best l D cI cJ cZ am Sm  hf) (cwV 0 hts (glM (L := [Cond.methodLink RL 283 yX12_best, Cond.instanceMethod yX12_best, Cond.selects RX12 yX12_best yX12_best, Cond.initialized RX12]) (gl_in [(9, 180), (9, 181), (9, 182), (1, 14)] (by decide +kernel) (by decide +kernel)) ⟨(t_of [Cond.code yX12_best cX12_best 1 (some .int)] [(9, 183)] (by decide +kernel) _ List.mem_cons_self), List.all_eq_true.mp (by decide +kernel : [Cond.code yX12_best cX12_best 1 (some .int)].all goodWord = true) _ List.mem_cons_self⟩) rfl rfl rfl (by decide +kernel) ⟨Nat.le_of_ble_eq_true rfl, Nat.le_of_ble_eq_true rfl⟩) rfl hl.1 rfl (lv_room (Nat.le_of_ble_eq_true rfl)) dL_law_1053 ⟨by show _ ≤ 601024; omega, by show _ ≤ 7293034; omega⟩ (fun H locs G => ?_)
  refine lv_istore (lv' := [(7, .int r2), (6, .int (vck 1 0 0 k1)), (5, .int (nI i)), (4, .ref ae), (3, .ref aj), (2, .ref (am 0)), (1, .ref (ad2 0)), (0, .ref b)]) hx hb dL_law_1056 hl (by decide) rfl (fun ls hl => ?_)
  refine lv_goto (tgt := 2439) hx hb dL_law_1058 (by decide) ?_
  have hl := lv_sub hl [2, 3, 4, 5, 6, 7] rfl
  refine W.widen (k := 19 + T1.1 + (j + 1)) (n := 38467 + sg T1 + 6 * (j + 1)) (by omega) (by omega) ?_
  exact kk ad2 (vfJ k1 f r1.toInt64) g H locs ls hg hf (had 0 h0T) hV1 hrc1 hJ1 G hl
set_option maxHeartbeats 4000000 in
set_option maxRecDepth 100000 in
theorem y_a25 {p : Program} {e : Env} {s : State} {m : MethodId} {below : List Frame} {meth : Method} {c : Code} (l : Launch) (hst : l.stackTraces = false) {b L : Nat} {xs : Nat → Int32} (hx : p.tables.exec = Jvm.exec) (hb : c.code = code) (hml : c.maxLocals = 9) (hown : s.vm.findClass RL = some m.cls) (hts : ∀ w ∈ lw_tbl, w.before #[Value.ref b] s = true) (hX0 : va_X b L xs s s.heap) (hbl : b < s.heap.size) (hX : xT (fun q => s.heap.size ≤ q) s) (hN : nC s) (hTS : sAll s.heap.size s) {D : va_G} {cI cJ cZ cMic cSrc cSt cAI cAJ cD : ClassId} (hK : va_K D vwCl (CT cI cJ cZ cMic cSrc cSt cAI cAJ ++ [(cD, .double)]) s) {Q : State → Prop} {i j : Nat} (hi : i + 6 ≤ L) (hL : L ≤ 3072) (hj : j < 512) {aj ae : Nat} {ad am : Nat → Nat} {T : AT} {Sm : MS} {f : Nat → Int64} {g : Nat → UInt64} {ls : Array Slot} {H : Heap} {locs : List Loc} (hV : IV aR0 1586 aK1 aK2 T) (hrc : RC T) (hJ : JJ Sm) (G : gL cI cJ cZ cMic cSrc cSt cAI cAJ D ad (fun q => s.heap.size ≤ q) s.heap H locs T (oJ aj cJ f :: oD ae cD g :: MW cI cJ cZ am Sm)) (hl : lv_has ls 9 [(5, .int (nI i)), (4, .ref ae), (3, .ref aj), (2, .ref (am 0)), (1, .ref (ad 0)), (0, .ref b)]) (kk : ∀ {k1 : Nat} {r1 : Int64} {T1 : AT} {r2 : Int64} {S1 : MS} (ad2 : Nat → Nat) (f1 : Nat → Int64) (g1 : Nat → UInt64) (H1 : Heap) (locs1 : List Loc) (ls1 : Array Slot), g_X11_bestPower T 0 = some (k1, r1, T1) → fr_bestPower Sm = some (r2, S1) → ad2 0 = ad 0 → IV aR0 1586 aK1 aK2 T1 → RC T1 → JJ S1 → gL cI cJ cZ cMic cSrc cSt cAI cAJ D ad2 (fun q => s.heap.size ≤ q) s.heap H1 locs1 T1 (oJ aj cJ f1 :: oD ae cD g1 :: MW cI cJ cZ am S1) → lv_has ls1 9 [(5, .int (nI i)), (4, .ref ae), (3, .ref aj), (2, .ref (am 0)), (1, .ref (ad2 0)), (0, .ref b)] → W p l e room_1 s m #[Value.ref b] below meth c H1 locs1 (19 + T1.1 + (j + 1)) (38467 + sg T1 + 6 * (j + 1)) Q (F0 m 2439 ls1 [])) : W p l e room_1 s m #[Value.ref b] below meth c H locs (19 + T.1 + j) (38467 + sg T + 6 * j) Q (F0 m 1061 ls []) := by
  have E : cE p c cL_law s m #[Value.ref b] lw_tbl D RL (CT cI cJ cZ cMic cSrc cSt cAI cAJ ++ [(cD, .double)]) := ⟨hx, hb, hts, hown, hK⟩
  have hA : ∀ q : Nat, s.heap.size ≤ q → s.heap.size ≤ q := fun _ h => h
  have h0T : 0 < T.1 := Nat.lt_of_lt_of_le (by decide) hV.1.2.2
  have h0s : T.2.1 0 = (11, 0) := hV.2.1 0 ⟨by decide, by decide +kernel, by decide +kernel⟩
  refine lv_aload_n hx hb dL_law_1061 rfl (lv_at hl 4 rfl) ?_
  refine lv_aload_n hx hb dL_law_1062 rfl (lv_at hl 2 rfl) ?_
  obtain ⟨⟨k1, r1, T1⟩, hg, hc⟩ := cs_X11_bestPower T 0 hV (by decide +kernel)
  have hV1 : IV aR0 1586 aK1 aK2 T1 := hc.1.1
  have hg1 := s_X11_bestPower hg
  have hg2 := sg_le hg1
  have hg3 := hg1.1
  have hk := hV1.2.2.2.2.2.2
  have hrc1 := hg1.2.2 hrc
  have hr0 := a_room
  refine l_v (h0 := s.heap.size) (As := [.ref (ad 0), .ref aj]) (rest := []) E G hA hX hN (fun _ h => h) hTS hml (v_bestPower l hst D s.heap.size ad T 0  aj f hg hrc h0T h0s) (vx_cwSW 2 hts (glA (L := [Cond.methodLink RL 284 yL_bestPower, Cond.static yL_bestPower, Cond.initialized RL]) (gl_in [(6, 30), (6, 31), (1, 0)] (by decide +kernel) (by decide +kernel)) ⟨(t_of [Cond.codeWith yL_bestPower cL_bestPower 3 (some .int) [(0, 7, 10, 21)]] [(6, 32)] (by decide +kernel) _ List.mem_cons_self), List.all_eq_true.mp (by decide +kernel : [Cond.codeWith yL_bestPower cL_bestPower 3 (some .int) [(0, 7, 10, 21)]].all goodWord = true) _ List.mem_cons_self⟩) rfl rfl rfl (by decide +kernel) ⟨Nat.le_of_ble_eq_true rfl, Nat.le_of_ble_eq_true rfl⟩) rfl hl.1 rfl (lv_room (Nat.le_of_ble_eq_true rfl)) dL_law_1063 ⟨by show _ ≤ 601024; omega, by show _ ≤ 7293034; omega⟩ ?_
  intro ad2 H locs had G
  rw [← had 0 h0T] at hl
  refine lv_istore (lv' := [(6, .int (vck 1 0 0 k1)), (5, .int (nI i)), (4, .ref ae), (3, .ref aj), (2, .ref (am 0)), (1, .ref (ad2 0)), (0, .ref b)]) hx hb dL_law_1066 hl (by decide) rfl (fun ls hl => ?_)
  refine lv_aload_n hx hb dL_law_1068 rfl (lv_at hl 4 rfl) ?_
  obtain ⟨⟨r2, S1⟩, hf, hj⟩ := sj_bestPower Sm hJ
  have hJ1 : JJ S1 := hj
  refine y_ml (As := []) (rest := []) E G hA hX.2.2.2.2 hml (tr_bestPower l D cI cJ cZ am Sm  hf) (cwV 0 hts (glM (L := [Cond.methodLink RL 286 yX12_bestPower, Cond.instanceMethod yX12_bestPower, Cond.selects RX12 yX12_bestPower yX12_bestPower, Cond.initialized RX12]) (gl_in [(9, 192), (9, 193), (9, 194), (1, 14)] (by decide +kernel) (by decide +kernel)) ⟨(t_of [Cond.code yX12_bestPower cX12_bestPower 1 (some .long)] [(9, 195)] (by decide +kernel) _ List.mem_cons_self), List.all_eq_true.mp (by decide +kernel : [Cond.code yX12_bestPower cX12_bestPower 1 (some .long)].all goodWord = true) _ List.mem_cons_self⟩) rfl rfl rfl (by decide +kernel) ⟨Nat.le_of_ble_eq_true rfl, Nat.le_of_ble_eq_true rfl⟩) rfl hl.1 rfl (lv_room (Nat.le_of_ble_eq_true rfl)) dL_law_1069 ⟨by show _ ≤ 601024; omega, by show _ ≤ 7293034; omega⟩ (fun H locs G => ?_)
  refine lv_lstore (lv' := [(7, .long r2), (6, .int (vck 1 0 0 k1)), (5, .int (nI i)), (4, .ref ae), (3, .ref aj), (2, .ref (am 0)), (1, .ref (ad2 0)), (0, .ref b)]) hx hb dL_law_1072 hl (by decide) rfl (fun ls hl => ?_)
  refine lv_goto (tgt := 2439) hx hb dL_law_1074 (by decide) ?_
  have hl := lv_sub hl [2, 3, 4, 5, 6, 7] rfl
  refine W.widen (k := 19 + T1.1 + (j + 1)) (n := 38467 + sg T1 + 6 * (j + 1)) (by omega) (by omega) ?_
  exact kk ad2 (vfJ k1 f r1) g H locs ls hg hf (had 0 h0T) hV1 hrc1 hJ1 G hl
set_option maxHeartbeats 4000000 in
set_option maxRecDepth 100000 in
theorem y_a26 {p : Program} {e : Env} {s : State} {m : MethodId} {below : List Frame} {meth : Method} {c : Code} (l : Launch) (hst : l.stackTraces = false) {b L : Nat} {xs : Nat → Int32} (hx : p.tables.exec = Jvm.exec) (hb : c.code = code) (hml : c.maxLocals = 9) (hown : s.vm.findClass RL = some m.cls) (hts : ∀ w ∈ lw_tbl, w.before #[Value.ref b] s = true) (hX0 : va_X b L xs s s.heap) (hbl : b < s.heap.size) (hX : xT (fun q => s.heap.size ≤ q) s) (hN : nC s) (hTS : sAll s.heap.size s) {D : va_G} {cI cJ cZ cMic cSrc cSt cAI cAJ cD : ClassId} (hK : va_K D vwCl (CT cI cJ cZ cMic cSrc cSt cAI cAJ ++ [(cD, .double)]) s) {Q : State → Prop} {i j : Nat} (hi : i + 6 ≤ L) (hL : L ≤ 3072) (hj : j < 512) {aj ae : Nat} {ad am : Nat → Nat} {T : AT} {Sm : MS} {f : Nat → Int64} {g : Nat → UInt64} {ls : Array Slot} {H : Heap} {locs : List Loc} (hV : IV aR0 1586 aK1 aK2 T) (hrc : RC T) (hJ : JJ Sm) (G : gL cI cJ cZ cMic cSrc cSt cAI cAJ D ad (fun q => s.heap.size ≤ q) s.heap H locs T (oJ aj cJ f :: oD ae cD g :: MW cI cJ cZ am Sm)) (hl : lv_has ls 9 [(5, .int (nI i)), (4, .ref ae), (3, .ref aj), (2, .ref (am 0)), (1, .ref (ad 0)), (0, .ref b)]) (kk : ∀ {k1 : Nat} {r1 : Int64} {T1 : AT} {r2 : Int64} {S1 : MS} (ad2 : Nat → Nat) (f1 : Nat → Int64) (g1 : Nat → UInt64) (H1 : Heap) (locs1 : List Loc) (ls1 : Array Slot), g_X11_meanPower T 0 = some (k1, r1, T1) → fr_meanPower Sm = some (r2, S1) → ad2 0 = ad 0 → IV aR0 1586 aK1 aK2 T1 → RC T1 → JJ S1 → gL cI cJ cZ cMic cSrc cSt cAI cAJ D ad2 (fun q => s.heap.size ≤ q) s.heap H1 locs1 T1 (oJ aj cJ f1 :: oD ae cD g1 :: MW cI cJ cZ am S1) → lv_has ls1 9 [(5, .int (nI i)), (4, .ref ae), (3, .ref aj), (2, .ref (am 0)), (1, .ref (ad2 0)), (0, .ref b)] → W p l e room_1 s m #[Value.ref b] below meth c H1 locs1 (19 + T1.1 + (j + 1)) (38467 + sg T1 + 6 * (j + 1)) Q (F0 m 2439 ls1 [])) : W p l e room_1 s m #[Value.ref b] below meth c H locs (19 + T.1 + j) (38467 + sg T + 6 * j) Q (F0 m 1077 ls []) := by
  have E : cE p c cL_law s m #[Value.ref b] lw_tbl D RL (CT cI cJ cZ cMic cSrc cSt cAI cAJ ++ [(cD, .double)]) := ⟨hx, hb, hts, hown, hK⟩
  have hA : ∀ q : Nat, s.heap.size ≤ q → s.heap.size ≤ q := fun _ h => h
  have h0T : 0 < T.1 := Nat.lt_of_lt_of_le (by decide) hV.1.2.2
  have h0s : T.2.1 0 = (11, 0) := hV.2.1 0 ⟨by decide, by decide +kernel, by decide +kernel⟩
  refine lv_aload_n hx hb dL_law_1077 rfl (lv_at hl 4 rfl) ?_
  refine lv_aload_n hx hb dL_law_1078 rfl (lv_at hl 2 rfl) ?_
  obtain ⟨⟨k1, r1, T1⟩, hg, hc⟩ := cs_X11_meanPower T 0 hV (by decide +kernel)
  have hV1 : IV aR0 1586 aK1 aK2 T1 := hc.1.1
  have hg1 := s_X11_meanPower hg
  have hg2 := sg_le hg1
  have hg3 := hg1.1
  have hk := hV1.2.2.2.2.2.2
  have hrc1 := hg1.2.2 hrc
  have hr0 := a_room
  refine l_v (h0 := s.heap.size) (As := [.ref (ad 0), .ref aj]) (rest := []) E G hA hX hN (fun _ h => h) hTS hml (v_meanPower l hst D s.heap.size ad T 0  aj f hg hrc h0T h0s) (vx_cwSW 2 hts (glA (L := [Cond.methodLink RL 287 yL_meanPower, Cond.static yL_meanPower, Cond.initialized RL]) (gl_in [(6, 37), (6, 38), (1, 0)] (by decide +kernel) (by decide +kernel)) ⟨(t_of [Cond.codeWith yL_meanPower cL_meanPower 3 (some .int) [(0, 7, 10, 21)]] [(6, 39)] (by decide +kernel) _ List.mem_cons_self), List.all_eq_true.mp (by decide +kernel : [Cond.codeWith yL_meanPower cL_meanPower 3 (some .int) [(0, 7, 10, 21)]].all goodWord = true) _ List.mem_cons_self⟩) rfl rfl rfl (by decide +kernel) ⟨Nat.le_of_ble_eq_true rfl, Nat.le_of_ble_eq_true rfl⟩) rfl hl.1 rfl (lv_room (Nat.le_of_ble_eq_true rfl)) dL_law_1079 ⟨by show _ ≤ 601024; omega, by show _ ≤ 7293034; omega⟩ ?_
  intro ad2 H locs had G
  rw [← had 0 h0T] at hl
  refine lv_istore (lv' := [(6, .int (vck 1 0 0 k1)), (5, .int (nI i)), (4, .ref ae), (3, .ref aj), (2, .ref (am 0)), (1, .ref (ad2 0)), (0, .ref b)]) hx hb dL_law_1082 hl (by decide) rfl (fun ls hl => ?_)
  refine lv_aload_n hx hb dL_law_1084 rfl (lv_at hl 4 rfl) ?_
  obtain ⟨⟨r2, S1⟩, hf, hj⟩ := sj_meanPower Sm hJ
  have hJ1 : JJ S1 := hj
  refine y_ml (As := []) (rest := []) E G hA hX.2.2.2.2 hml (tr_meanPower l D cI cJ cZ am Sm  hf) (cwV 0 hts (glM (L := [Cond.methodLink RL 289 yX12_meanPower, Cond.instanceMethod yX12_meanPower, Cond.selects RX12 yX12_meanPower yX12_meanPower, Cond.initialized RX12]) (gl_in [(9, 196), (9, 197), (9, 198), (1, 14)] (by decide +kernel) (by decide +kernel)) ⟨(t_of [Cond.code yX12_meanPower cX12_meanPower 4 (some .long)] [(9, 199)] (by decide +kernel) _ List.mem_cons_self), List.all_eq_true.mp (by decide +kernel : [Cond.code yX12_meanPower cX12_meanPower 4 (some .long)].all goodWord = true) _ List.mem_cons_self⟩) rfl rfl rfl (by decide +kernel) ⟨Nat.le_of_ble_eq_true rfl, Nat.le_of_ble_eq_true rfl⟩) rfl hl.1 rfl (lv_room (Nat.le_of_ble_eq_true rfl)) dL_law_1085 ⟨by show _ ≤ 601024; omega, by show _ ≤ 7293034; omega⟩ (fun H locs G => ?_)
  refine lv_lstore (lv' := [(7, .long r2), (6, .int (vck 1 0 0 k1)), (5, .int (nI i)), (4, .ref ae), (3, .ref aj), (2, .ref (am 0)), (1, .ref (ad2 0)), (0, .ref b)]) hx hb dL_law_1088 hl (by decide) rfl (fun ls hl => ?_)
  refine lv_goto (tgt := 2439) hx hb dL_law_1090 (by decide) ?_
  have hl := lv_sub hl [2, 3, 4, 5, 6, 7] rfl
  refine W.widen (k := 19 + T1.1 + (j + 1)) (n := 38467 + sg T1 + 6 * (j + 1)) (by omega) (by omega) ?_
  exact kk ad2 (vfJ k1 f r1) g H locs ls hg hf (had 0 h0T) hV1 hrc1 hJ1 G hl
set_option maxHeartbeats 4000000 in
set_option maxRecDepth 100000 in
theorem y_a27 {p : Program} {e : Env} {s : State} {m : MethodId} {below : List Frame} {meth : Method} {c : Code} (l : Launch) (hst : l.stackTraces = false) {b L : Nat} {xs : Nat → Int32} (hx : p.tables.exec = Jvm.exec) (hb : c.code = code) (hml : c.maxLocals = 9) (hown : s.vm.findClass RL = some m.cls) (hts : ∀ w ∈ lw_tbl, w.before #[Value.ref b] s = true) (hX0 : va_X b L xs s s.heap) (hbl : b < s.heap.size) (hX : xT (fun q => s.heap.size ≤ q) s) (hN : nC s) (hTS : sAll s.heap.size s) {D : va_G} {cI cJ cZ cMic cSrc cSt cAI cAJ cD : ClassId} (hK : va_K D vwCl (CT cI cJ cZ cMic cSrc cSt cAI cAJ ++ [(cD, .double)]) s) {Q : State → Prop} {i j : Nat} (hi : i + 6 ≤ L) (hL : L ≤ 3072) (hj : j < 512) {aj ae : Nat} {ad am : Nat → Nat} {T : AT} {Sm : MS} {f : Nat → Int64} {g : Nat → UInt64} {ls : Array Slot} {H : Heap} {locs : List Loc} (hV : IV aR0 1586 aK1 aK2 T) (hrc : RC T) (hJ : JJ Sm) (G : gL cI cJ cZ cMic cSrc cSt cAI cAJ D ad (fun q => s.heap.size ≤ q) s.heap H locs T (oJ aj cJ f :: oD ae cD g :: MW cI cJ cZ am Sm)) (hl : lv_has ls 9 [(5, .int (nI i)), (4, .ref ae), (3, .ref aj), (2, .ref (am 0)), (1, .ref (ad 0)), (0, .ref b)]) (kk : ∀ {k1 : Nat} {r1 : Int32} {T1 : AT} {r2 : Int32} {S1 : MS} (ad2 : Nat → Nat) (f1 : Nat → Int64) (g1 : Nat → UInt64) (H1 : Heap) (locs1 : List Loc) (ls1 : Array Slot), g_X11_peaks T 0 = some (k1, r1, T1) → fr_peaks Sm = some (r2, S1) → ad2 0 = ad 0 → IV aR0 1586 aK1 aK2 T1 → RC T1 → JJ S1 → gL cI cJ cZ cMic cSrc cSt cAI cAJ D ad2 (fun q => s.heap.size ≤ q) s.heap H1 locs1 T1 (oJ aj cJ f1 :: oD ae cD g1 :: MW cI cJ cZ am S1) → lv_has ls1 9 [(5, .int (nI i)), (4, .ref ae), (3, .ref aj), (2, .ref (am 0)), (1, .ref (ad2 0)), (0, .ref b)] → W p l e room_1 s m #[Value.ref b] below meth c H1 locs1 (19 + T1.1 + (j + 1)) (38467 + sg T1 + 6 * (j + 1)) Q (F0 m 2439 ls1 [])) : W p l e room_1 s m #[Value.ref b] below meth c H locs (19 + T.1 + j) (38467 + sg T + 6 * j) Q (F0 m 1093 ls []) := by
  have E : cE p c cL_law s m #[Value.ref b] lw_tbl D RL (CT cI cJ cZ cMic cSrc cSt cAI cAJ ++ [(cD, .double)]) := ⟨hx, hb, hts, hown, hK⟩
  have hA : ∀ q : Nat, s.heap.size ≤ q → s.heap.size ≤ q := fun _ h => h
  have h0T : 0 < T.1 := Nat.lt_of_lt_of_le (by decide) hV.1.2.2
  have h0s : T.2.1 0 = (11, 0) := hV.2.1 0 ⟨by decide, by decide +kernel, by decide +kernel⟩
  refine lv_aload_n hx hb dL_law_1093 rfl (lv_at hl 4 rfl) ?_
  refine lv_aload_n hx hb dL_law_1094 rfl (lv_at hl 2 rfl) ?_
  obtain ⟨⟨k1, r1, T1⟩, hg, hc⟩ := cs_X11_peaks T 0 hV (by decide +kernel)
  have hV1 : IV aR0 1586 aK1 aK2 T1 := hc.1.1
  have hg1 := s_X11_peaks hg
  have hg2 := sg_le hg1
  have hg3 := hg1.1
  have hk := hV1.2.2.2.2.2.2
  have hrc1 := hg1.2.2 hrc
  have hr0 := a_room
  refine l_v (h0 := s.heap.size) (As := [.ref (ad 0), .ref aj]) (rest := []) E G hA hX hN (fun _ h => h) hTS hml (v_peaks l hst D s.heap.size ad T 0  aj f hg hrc h0T h0s) (vx_cwSW 2 hts (glA (L := [Cond.methodLink RL 290 yL_peaks, Cond.static yL_peaks, Cond.initialized RL]) (gl_in [(6, 51), (6, 52), (1, 0)] (by decide +kernel) (by decide +kernel)) ⟨(t_of [Cond.codeWith yL_peaks cL_peaks 3 (some .int) [(0, 8, 11, 21)]] [(6, 53)] (by decide +kernel) _ List.mem_cons_self), List.all_eq_true.mp (by decide +kernel : [Cond.codeWith yL_peaks cL_peaks 3 (some .int) [(0, 8, 11, 21)]].all goodWord = true) _ List.mem_cons_self⟩) rfl rfl rfl (by decide +kernel) ⟨Nat.le_of_ble_eq_true rfl, Nat.le_of_ble_eq_true rfl⟩) rfl hl.1 rfl (lv_room (Nat.le_of_ble_eq_true rfl)) dL_law_1095 ⟨by show _ ≤ 601024; omega, by show _ ≤ 7293034; omega⟩ ?_
  intro ad2 H locs had G
  rw [← had 0 h0T] at hl
  refine lv_istore (lv' := [(6, .int (vck 1 0 0 k1)), (5, .int (nI i)), (4, .ref ae), (3, .ref aj), (2, .ref (am 0)), (1, .ref (ad2 0)), (0, .ref b)]) hx hb dL_law_1098 hl (by decide) rfl (fun ls hl => ?_)
  refine lv_aload_n hx hb dL_law_1100 rfl (lv_at hl 4 rfl) ?_
  obtain ⟨⟨r2, S1⟩, hf, hj⟩ := sj_peaks Sm hJ
  have hJ1 : JJ S1 := hj
  refine y_mi (As := []) (rest := []) E G hA hX.2.2.2.2 hml (tr_peaks l D cI cJ cZ am Sm  hf) (cwV 0 hts (glM (L := [Cond.methodLink RL 292 yX12_peaks, Cond.instanceMethod yX12_peaks, Cond.selects RX12 yX12_peaks yX12_peaks, Cond.initialized RX12]) (gl_in [(9, 200), (9, 201), (9, 202), (1, 14)] (by decide +kernel) (by decide +kernel)) ⟨(t_of [Cond.code yX12_peaks cX12_peaks 3 (some .int)] [(9, 203)] (by decide +kernel) _ List.mem_cons_self), List.all_eq_true.mp (by decide +kernel : [Cond.code yX12_peaks cX12_peaks 3 (some .int)].all goodWord = true) _ List.mem_cons_self⟩) rfl rfl rfl (by decide +kernel) ⟨Nat.le_of_ble_eq_true rfl, Nat.le_of_ble_eq_true rfl⟩) rfl hl.1 rfl (lv_room (Nat.le_of_ble_eq_true rfl)) dL_law_1101 ⟨by show _ ≤ 601024; omega, by show _ ≤ 7293034; omega⟩ (fun H locs G => ?_)
  refine lv_istore (lv' := [(7, .int r2), (6, .int (vck 1 0 0 k1)), (5, .int (nI i)), (4, .ref ae), (3, .ref aj), (2, .ref (am 0)), (1, .ref (ad2 0)), (0, .ref b)]) hx hb dL_law_1104 hl (by decide) rfl (fun ls hl => ?_)
  refine lv_goto (tgt := 2439) hx hb dL_law_1106 (by decide) ?_
  have hl := lv_sub hl [2, 3, 4, 5, 6, 7] rfl
  refine W.widen (k := 19 + T1.1 + (j + 1)) (n := 38467 + sg T1 + 6 * (j + 1)) (by omega) (by omega) ?_
  exact kk ad2 (vfJ k1 f r1.toInt64) g H locs ls hg hf (had 0 h0T) hV1 hrc1 hJ1 G hl
set_option maxHeartbeats 4000000 in
set_option maxRecDepth 100000 in
theorem y_a28 {p : Program} {e : Env} {s : State} {m : MethodId} {below : List Frame} {meth : Method} {c : Code} (l : Launch) (hst : l.stackTraces = false) {b L : Nat} {xs : Nat → Int32} (hx : p.tables.exec = Jvm.exec) (hb : c.code = code) (hml : c.maxLocals = 9) (hown : s.vm.findClass RL = some m.cls) (hts : ∀ w ∈ lw_tbl, w.before #[Value.ref b] s = true) (hX0 : va_X b L xs s s.heap) (hbl : b < s.heap.size) (hX : xT (fun q => s.heap.size ≤ q) s) (hN : nC s) (hTS : sAll s.heap.size s) {D : va_G} {cI cJ cZ cMic cSrc cSt cAI cAJ cD : ClassId} (hK : va_K D vwCl (CT cI cJ cZ cMic cSrc cSt cAI cAJ ++ [(cD, .double)]) s) {Q : State → Prop} {i j : Nat} (hi : i + 6 ≤ L) (hL : L ≤ 3072) (hj : j < 512) {aj ae : Nat} {ad am : Nat → Nat} {T : AT} {Sm : MS} {f : Nat → Int64} {g : Nat → UInt64} {ls : Array Slot} {H : Heap} {locs : List Loc} (hV : IV aR0 1586 aK1 aK2 T) (hrc : RC T) (hJ : JJ Sm) (G : gL cI cJ cZ cMic cSrc cSt cAI cAJ D ad (fun q => s.heap.size ≤ q) s.heap H locs T (oJ aj cJ f :: oD ae cD g :: MW cI cJ cZ am Sm)) (hl : lv_has ls 9 [(5, .int (nI i)), (4, .ref ae), (3, .ref aj), (2, .ref (am 0)), (1, .ref (ad 0)), (0, .ref b)]) (kk : ∀ {k1 : Nat} {r1 : Int32} {T1 : AT} {r2 : Int32} {S1 : MS} (ad2 : Nat → Nat) (f1 : Nat → Int64) (g1 : Nat → UInt64) (H1 : Heap) (locs1 : List Loc) (ls1 : Array Slot), g_X11_peakAt T 0 (xs (i + 1)) = some (k1, r1, T1) → fr_peakAt Sm (xs (i + 1)) = some (r2, S1) → ad2 0 = ad 0 → IV aR0 1586 aK1 aK2 T1 → RC T1 → JJ S1 → gL cI cJ cZ cMic cSrc cSt cAI cAJ D ad2 (fun q => s.heap.size ≤ q) s.heap H1 locs1 T1 (oJ aj cJ f1 :: oD ae cD g1 :: MW cI cJ cZ am S1) → lv_has ls1 9 [(5, .int (nI i)), (4, .ref ae), (3, .ref aj), (2, .ref (am 0)), (1, .ref (ad2 0)), (0, .ref b)] → W p l e room_1 s m #[Value.ref b] below meth c H1 locs1 (19 + T1.1 + (j + 1)) (38467 + sg T1 + 6 * (j + 1)) Q (F0 m 2439 ls1 [])) : W p l e room_1 s m #[Value.ref b] below meth c H locs (19 + T.1 + j) (38467 + sg T + 6 * j) Q (F0 m 1109 ls []) := by
  have E : cE p c cL_law s m #[Value.ref b] lw_tbl D RL (CT cI cJ cZ cMic cSrc cSt cAI cAJ ++ [(cD, .double)]) := ⟨hx, hb, hts, hown, hK⟩
  have hA : ∀ q : Nat, s.heap.size ≤ q → s.heap.size ≤ q := fun _ h => h
  have h0T : 0 < T.1 := Nat.lt_of_lt_of_le (by decide) hV.1.2.2
  have h0s : T.2.1 0 = (11, 0) := hV.2.1 0 ⟨by decide, by decide +kernel, by decide +kernel⟩
  refine lv_aload_n hx hb dL_law_1109 rfl (lv_at hl 4 rfl) ?_
  refine lv_aload_n hx hb dL_law_1110 rfl (lv_at hl 5 rfl) ?_
  refine lv_iload hx hb dL_law_1111 (lv_at hl 0 rfl) ?_
  refine lv_iconst (v := 1) hx hb dL_law_1113 (by decide) ?_
  refine lv_iadd hx hb dL_law_1114 ?_
  refine lv_to (y := nI (i + 1)) (nI_add i 1) ?_
  refine va_sld hx hb hX0 hbl (Nat.not_le.mpr hbl) G.2.2 (i := nI (i + 1)) (vp_in_nI (n := i + 1) (N := L) (by omega) (by omega)) dL_law_1115 ?_
  refine lv_to (y := xs (i + 1)) (congrArg xs (nI_clamp (by omega))) ?_
  refine lv_aload_n hx hb dL_law_1116 rfl (lv_at hl 2 rfl) ?_
  obtain ⟨⟨k1, r1, T1⟩, hg, hc⟩ := cs_X11_peakAt T 0 (xs (i + 1)) hV (by decide +kernel)
  have hV1 : IV aR0 1586 aK1 aK2 T1 := hc.1.1
  have hg1 := s_X11_peakAt hg
  have hg2 := sg_le hg1
  have hg3 := hg1.1
  have hk := hV1.2.2.2.2.2.2
  have hrc1 := hg1.2.2 hrc
  have hr0 := a_room
  refine l_v (h0 := s.heap.size) (As := [.ref (ad 0), .int (xs (i + 1)), .ref aj]) (rest := []) E G hA hX hN (fun _ h => h) hTS hml (v_peakAt l hst D s.heap.size ad T 0 (xs (i + 1)) aj f hg hrc h0T h0s) (vx_cwSW 3 hts (glA (L := [Cond.methodLink RL 293 yL_peakAt, Cond.static yL_peakAt, Cond.initialized RL]) (gl_in [(6, 58), (6, 59), (1, 0)] (by decide +kernel) (by decide +kernel)) ⟨(t_of [Cond.codeWith yL_peakAt cL_peakAt 4 (some .int) [(0, 9, 12, 21), (0, 9, 15, 13)]] [(6, 60)] (by decide +kernel) _ List.mem_cons_self), List.all_eq_true.mp (by decide +kernel : [Cond.codeWith yL_peakAt cL_peakAt 4 (some .int) [(0, 9, 12, 21), (0, 9, 15, 13)]].all goodWord = true) _ List.mem_cons_self⟩) rfl rfl rfl (by decide +kernel) ⟨Nat.le_of_ble_eq_true rfl, Nat.le_of_ble_eq_true rfl⟩) rfl hl.1 rfl (lv_room (Nat.le_of_ble_eq_true rfl)) dL_law_1117 ⟨by show _ ≤ 601024; omega, by show _ ≤ 7293034; omega⟩ ?_
  intro ad2 H locs had G
  rw [← had 0 h0T] at hl
  refine lv_istore (lv' := [(6, .int (vck 1 2 0 k1)), (5, .int (nI i)), (4, .ref ae), (3, .ref aj), (2, .ref (am 0)), (1, .ref (ad2 0)), (0, .ref b)]) hx hb dL_law_1120 hl (by decide) rfl (fun ls hl => ?_)
  refine lv_aload_n hx hb dL_law_1122 rfl (lv_at hl 4 rfl) ?_
  refine lv_aload_n hx hb dL_law_1123 rfl (lv_at hl 6 rfl) ?_
  refine lv_iload hx hb dL_law_1124 (lv_at hl 1 rfl) ?_
  refine lv_iconst (v := 1) hx hb dL_law_1126 (by decide) ?_
  refine lv_iadd hx hb dL_law_1127 ?_
  refine lv_to (y := nI (i + 1)) (nI_add i 1) ?_
  refine va_sld hx hb hX0 hbl (Nat.not_le.mpr hbl) G.2.2 (i := nI (i + 1)) (vp_in_nI (n := i + 1) (N := L) (by omega) (by omega)) dL_law_1128 ?_
  refine lv_to (y := xs (i + 1)) (congrArg xs (nI_clamp (by omega))) ?_
  obtain ⟨⟨r2, S1⟩, hf, hj⟩ := sj_peakAt Sm (xs (i + 1)) hJ
  have hJ1 : JJ S1 := hj
  refine y_mi (As := [.int (xs (i + 1))]) (rest := []) E G hA hX.2.2.2.2 hml (tr_peakAt l D cI cJ cZ am Sm (xs (i + 1)) hf) (cwV 1 hts (glM (L := [Cond.methodLink RL 295 yX12_peakAt, Cond.instanceMethod yX12_peakAt, Cond.selects RX12 yX12_peakAt yX12_peakAt, Cond.initialized RX12]) (gl_in [(9, 208), (9, 209), (9, 210), (1, 14)] (by decide +kernel) (by decide +kernel)) ⟨(t_of [Cond.code yX12_peakAt cX12_peakAt 5 (some .int)] [(9, 211)] (by decide +kernel) _ List.mem_cons_self), List.all_eq_true.mp (by decide +kernel : [Cond.code yX12_peakAt cX12_peakAt 5 (some .int)].all goodWord = true) _ List.mem_cons_self⟩) rfl rfl rfl (by decide +kernel) ⟨Nat.le_of_ble_eq_true rfl, Nat.le_of_ble_eq_true rfl⟩) rfl hl.1 rfl (lv_room (Nat.le_of_ble_eq_true rfl)) dL_law_1129 ⟨by show _ ≤ 601024; omega, by show _ ≤ 7293034; omega⟩ (fun H locs G => ?_)
  refine lv_istore (lv' := [(7, .int r2), (6, .int (vck 1 2 0 k1)), (5, .int (nI i)), (4, .ref ae), (3, .ref aj), (2, .ref (am 0)), (1, .ref (ad2 0)), (0, .ref b)]) hx hb dL_law_1132 hl (by decide) rfl (fun ls hl => ?_)
  refine lv_goto (tgt := 2439) hx hb dL_law_1134 (by decide) ?_
  have hl := lv_sub hl [2, 3, 4, 5, 6, 7] rfl
  refine W.widen (k := 19 + T1.1 + (j + 1)) (n := 38467 + sg T1 + 6 * (j + 1)) (by omega) (by omega) ?_
  exact kk ad2 (vfJ k1 f r1.toInt64) g H locs ls hg hf (had 0 h0T) hV1 hrc1 hJ1 G hl
set_option maxHeartbeats 4000000 in
set_option maxRecDepth 100000 in
theorem y_a29 {p : Program} {e : Env} {s : State} {m : MethodId} {below : List Frame} {meth : Method} {c : Code} (l : Launch) (hst : l.stackTraces = false) {b L : Nat} {xs : Nat → Int32} (hx : p.tables.exec = Jvm.exec) (hb : c.code = code) (hml : c.maxLocals = 9) (hown : s.vm.findClass RL = some m.cls) (hts : ∀ w ∈ lw_tbl, w.before #[Value.ref b] s = true) (hX0 : va_X b L xs s s.heap) (hbl : b < s.heap.size) (hX : xT (fun q => s.heap.size ≤ q) s) (hN : nC s) (hTS : sAll s.heap.size s) {D : va_G} {cI cJ cZ cMic cSrc cSt cAI cAJ cD : ClassId} (hK : va_K D vwCl (CT cI cJ cZ cMic cSrc cSt cAI cAJ ++ [(cD, .double)]) s) {Q : State → Prop} {i j : Nat} (hi : i + 6 ≤ L) (hL : L ≤ 3072) (hj : j < 512) {aj ae : Nat} {ad am : Nat → Nat} {T : AT} {Sm : MS} {f : Nat → Int64} {g : Nat → UInt64} {ls : Array Slot} {H : Heap} {locs : List Loc} (hV : IV aR0 1586 aK1 aK2 T) (hrc : RC T) (hJ : JJ Sm) (G : gL cI cJ cZ cMic cSrc cSt cAI cAJ D ad (fun q => s.heap.size ≤ q) s.heap H locs T (oJ aj cJ f :: oD ae cD g :: MW cI cJ cZ am Sm)) (hl : lv_has ls 9 [(5, .int (nI i)), (4, .ref ae), (3, .ref aj), (2, .ref (am 0)), (1, .ref (ad 0)), (0, .ref b)]) (kk : ∀ {k1 : Nat} {r1 : Int32} {T1 : AT} {r2 : Int32} {S1 : MS} (ad2 : Nat → Nat) (f1 : Nat → Int64) (g1 : Nat → UInt64) (H1 : Heap) (locs1 : List Loc) (ls1 : Array Slot), g_X11_isPeak T 0 (xs (i + 1)) = some (k1, r1, T1) → fr_isPeak Sm (xs (i + 1)) = some (r2, S1) → ad2 0 = ad 0 → IV aR0 1586 aK1 aK2 T1 → RC T1 → JJ S1 → gL cI cJ cZ cMic cSrc cSt cAI cAJ D ad2 (fun q => s.heap.size ≤ q) s.heap H1 locs1 T1 (oJ aj cJ f1 :: oD ae cD g1 :: MW cI cJ cZ am S1) → lv_has ls1 9 [(5, .int (nI i)), (4, .ref ae), (3, .ref aj), (2, .ref (am 0)), (1, .ref (ad2 0)), (0, .ref b)] → W p l e room_1 s m #[Value.ref b] below meth c H1 locs1 (19 + T1.1 + (j + 1)) (38467 + sg T1 + 6 * (j + 1)) Q (F0 m 2439 ls1 [])) : W p l e room_1 s m #[Value.ref b] below meth c H locs (19 + T.1 + j) (38467 + sg T + 6 * j) Q (F0 m 1137 ls []) := by
  have E : cE p c cL_law s m #[Value.ref b] lw_tbl D RL (CT cI cJ cZ cMic cSrc cSt cAI cAJ ++ [(cD, .double)]) := ⟨hx, hb, hts, hown, hK⟩
  have hA : ∀ q : Nat, s.heap.size ≤ q → s.heap.size ≤ q := fun _ h => h
  have h0T : 0 < T.1 := Nat.lt_of_lt_of_le (by decide) hV.1.2.2
  have h0s : T.2.1 0 = (11, 0) := hV.2.1 0 ⟨by decide, by decide +kernel, by decide +kernel⟩
  refine lv_aload_n hx hb dL_law_1137 rfl (lv_at hl 4 rfl) ?_
  refine lv_aload_n hx hb dL_law_1138 rfl (lv_at hl 5 rfl) ?_
  refine lv_iload hx hb dL_law_1139 (lv_at hl 0 rfl) ?_
  refine lv_iconst (v := 1) hx hb dL_law_1141 (by decide) ?_
  refine lv_iadd hx hb dL_law_1142 ?_
  refine lv_to (y := nI (i + 1)) (nI_add i 1) ?_
  refine va_sld hx hb hX0 hbl (Nat.not_le.mpr hbl) G.2.2 (i := nI (i + 1)) (vp_in_nI (n := i + 1) (N := L) (by omega) (by omega)) dL_law_1143 ?_
  refine lv_to (y := xs (i + 1)) (congrArg xs (nI_clamp (by omega))) ?_
  refine lv_aload_n hx hb dL_law_1144 rfl (lv_at hl 2 rfl) ?_
  obtain ⟨⟨k1, r1, T1⟩, hg, hc⟩ := cs_X11_isPeak T 0 (xs (i + 1)) hV (by decide +kernel)
  have hV1 : IV aR0 1586 aK1 aK2 T1 := hc.1.1
  have hg1 := s_X11_isPeak hg
  have hg2 := sg_le hg1
  have hg3 := hg1.1
  have hk := hV1.2.2.2.2.2.2
  have hrc1 := hg1.2.2 hrc
  have hr0 := a_room
  refine l_v (h0 := s.heap.size) (As := [.ref (ad 0), .int (xs (i + 1)), .ref aj]) (rest := []) E G hA hX hN (fun _ h => h) hTS hml (v_isPeak l hst D s.heap.size ad T 0 (xs (i + 1)) aj f hg hrc h0T h0s) (vx_cwSW 3 hts (glA (L := [Cond.methodLink RL 296 yL_isPeak, Cond.static yL_isPeak, Cond.initialized RL]) (gl_in [(6, 74), (6, 75), (1, 0)] (by decide +kernel) (by decide +kernel)) ⟨(t_of [Cond.codeWith yL_isPeak cL_isPeak 4 (some .int) [(0, 16, 19, 21), (0, 16, 22, 13)]] [(6, 76)] (by decide +kernel) _ List.mem_cons_self), List.all_eq_true.mp (by decide +kernel : [Cond.codeWith yL_isPeak cL_isPeak 4 (some .int) [(0, 16, 19, 21), (0, 16, 22, 13)]].all goodWord = true) _ List.mem_cons_self⟩) rfl rfl rfl (by decide +kernel) ⟨Nat.le_of_ble_eq_true rfl, Nat.le_of_ble_eq_true rfl⟩) rfl hl.1 rfl (lv_room (Nat.le_of_ble_eq_true rfl)) dL_law_1145 ⟨by show _ ≤ 601024; omega, by show _ ≤ 7293034; omega⟩ ?_
  intro ad2 H locs had G
  rw [← had 0 h0T] at hl
  refine lv_istore (lv' := [(6, .int (vck 1 2 0 k1)), (5, .int (nI i)), (4, .ref ae), (3, .ref aj), (2, .ref (am 0)), (1, .ref (ad2 0)), (0, .ref b)]) hx hb dL_law_1148 hl (by decide) rfl (fun ls hl => ?_)
  refine lv_aload_n hx hb dL_law_1150 rfl (lv_at hl 4 rfl) ?_
  refine lv_aload_n hx hb dL_law_1151 rfl (lv_at hl 6 rfl) ?_
  refine lv_iload hx hb dL_law_1152 (lv_at hl 1 rfl) ?_
  refine lv_iconst (v := 1) hx hb dL_law_1154 (by decide) ?_
  refine lv_iadd hx hb dL_law_1155 ?_
  refine lv_to (y := nI (i + 1)) (nI_add i 1) ?_
  refine va_sld hx hb hX0 hbl (Nat.not_le.mpr hbl) G.2.2 (i := nI (i + 1)) (vp_in_nI (n := i + 1) (N := L) (by omega) (by omega)) dL_law_1156 ?_
  refine lv_to (y := xs (i + 1)) (congrArg xs (nI_clamp (by omega))) ?_
  obtain ⟨⟨r2, S1⟩, hf, hj⟩ := sj_isPeak Sm (xs (i + 1)) hJ
  have hJ1 : JJ S1 := hj
  refine y_mi (As := [.int (xs (i + 1))]) (rest := []) E G hA hX.2.2.2.2 hml (tr_isPeak l D cI cJ cZ am Sm (xs (i + 1)) hf) (cwV 1 hts (glM (L := [Cond.methodLink RL 298 yX12_isPeak, Cond.instanceMethod yX12_isPeak, Cond.selects RX12 yX12_isPeak yX12_isPeak, Cond.initialized RX12]) (gl_in [(9, 216), (9, 217), (9, 218), (1, 14)] (by decide +kernel) (by decide +kernel)) ⟨(t_of [Cond.code yX12_isPeak cX12_isPeak 2 (some .boolean)] [(9, 219)] (by decide +kernel) _ List.mem_cons_self), List.all_eq_true.mp (by decide +kernel : [Cond.code yX12_isPeak cX12_isPeak 2 (some .boolean)].all goodWord = true) _ List.mem_cons_self⟩) rfl rfl rfl (by decide +kernel) ⟨Nat.le_of_ble_eq_true rfl, Nat.le_of_ble_eq_true rfl⟩) rfl hl.1 rfl (lv_room (Nat.le_of_ble_eq_true rfl)) dL_law_1157 ⟨by show _ ≤ 601024; omega, by show _ ≤ 7293034; omega⟩ (fun H locs G => ?_)
  refine lv_istore (lv' := [(7, .int r2), (6, .int (vck 1 2 0 k1)), (5, .int (nI i)), (4, .ref ae), (3, .ref aj), (2, .ref (am 0)), (1, .ref (ad2 0)), (0, .ref b)]) hx hb dL_law_1160 hl (by decide) rfl (fun ls hl => ?_)
  refine lv_goto (tgt := 2439) hx hb dL_law_1162 (by decide) ?_
  have hl := lv_sub hl [2, 3, 4, 5, 6, 7] rfl
  refine W.widen (k := 19 + T1.1 + (j + 1)) (n := 38467 + sg T1 + 6 * (j + 1)) (by omega) (by omega) ?_
  exact kk ad2 (vfJ k1 f (vzb r1)) g H locs ls hg hf (had 0 h0T) hV1 hrc1 hJ1 G hl
set_option maxHeartbeats 4000000 in
set_option maxRecDepth 100000 in
theorem y_a30 {p : Program} {e : Env} {s : State} {m : MethodId} {below : List Frame} {meth : Method} {c : Code} (l : Launch) (hst : l.stackTraces = false) {b L : Nat} {xs : Nat → Int32} (hx : p.tables.exec = Jvm.exec) (hb : c.code = code) (hml : c.maxLocals = 9) (hown : s.vm.findClass RL = some m.cls) (hts : ∀ w ∈ lw_tbl, w.before #[Value.ref b] s = true) (hX0 : va_X b L xs s s.heap) (hbl : b < s.heap.size) (hX : xT (fun q => s.heap.size ≤ q) s) (hN : nC s) (hTS : sAll s.heap.size s) {D : va_G} {cI cJ cZ cMic cSrc cSt cAI cAJ cD : ClassId} (hK : va_K D vwCl (CT cI cJ cZ cMic cSrc cSt cAI cAJ ++ [(cD, .double)]) s) {Q : State → Prop} {i j : Nat} (hi : i + 6 ≤ L) (hL : L ≤ 3072) (hj : j < 512) {aj ae : Nat} {ad am : Nat → Nat} {T : AT} {Sm : MS} {f : Nat → Int64} {g : Nat → UInt64} {ls : Array Slot} {H : Heap} {locs : List Loc} (hV : IV aR0 1586 aK1 aK2 T) (hrc : RC T) (hJ : JJ Sm) (G : gL cI cJ cZ cMic cSrc cSt cAI cAJ D ad (fun q => s.heap.size ≤ q) s.heap H locs T (oJ aj cJ f :: oD ae cD g :: MW cI cJ cZ am Sm)) (hl : lv_has ls 9 [(5, .int (nI i)), (4, .ref ae), (3, .ref aj), (2, .ref (am 0)), (1, .ref (ad 0)), (0, .ref b)]) (kk : ∀ {k1 : Nat} {r1 : Int64} {T1 : AT} {r2 : Int64} {S1 : MS} (ad2 : Nat → Nat) (f1 : Nat → Int64) (g1 : Nat → UInt64) (H1 : Heap) (locs1 : List Loc) (ls1 : Array Slot), g_X11_zonePower T 0 (xs (i + 1)) = some (k1, r1, T1) → fr_zonePower Sm (xs (i + 1)) = some (r2, S1) → ad2 0 = ad 0 → IV aR0 1586 aK1 aK2 T1 → RC T1 → JJ S1 → gL cI cJ cZ cMic cSrc cSt cAI cAJ D ad2 (fun q => s.heap.size ≤ q) s.heap H1 locs1 T1 (oJ aj cJ f1 :: oD ae cD g1 :: MW cI cJ cZ am S1) → lv_has ls1 9 [(5, .int (nI i)), (4, .ref ae), (3, .ref aj), (2, .ref (am 0)), (1, .ref (ad2 0)), (0, .ref b)] → W p l e room_1 s m #[Value.ref b] below meth c H1 locs1 (19 + T1.1 + (j + 1)) (38467 + sg T1 + 6 * (j + 1)) Q (F0 m 2439 ls1 [])) : W p l e room_1 s m #[Value.ref b] below meth c H locs (19 + T.1 + j) (38467 + sg T + 6 * j) Q (F0 m 1165 ls []) := by
  have E : cE p c cL_law s m #[Value.ref b] lw_tbl D RL (CT cI cJ cZ cMic cSrc cSt cAI cAJ ++ [(cD, .double)]) := ⟨hx, hb, hts, hown, hK⟩
  have hA : ∀ q : Nat, s.heap.size ≤ q → s.heap.size ≤ q := fun _ h => h
  have h0T : 0 < T.1 := Nat.lt_of_lt_of_le (by decide) hV.1.2.2
  have h0s : T.2.1 0 = (11, 0) := hV.2.1 0 ⟨by decide, by decide +kernel, by decide +kernel⟩
  refine lv_aload_n hx hb dL_law_1165 rfl (lv_at hl 4 rfl) ?_
  refine lv_aload_n hx hb dL_law_1166 rfl (lv_at hl 5 rfl) ?_
  refine lv_iload hx hb dL_law_1167 (lv_at hl 0 rfl) ?_
  refine lv_iconst (v := 1) hx hb dL_law_1169 (by decide) ?_
  refine lv_iadd hx hb dL_law_1170 ?_
  refine lv_to (y := nI (i + 1)) (nI_add i 1) ?_
  refine va_sld hx hb hX0 hbl (Nat.not_le.mpr hbl) G.2.2 (i := nI (i + 1)) (vp_in_nI (n := i + 1) (N := L) (by omega) (by omega)) dL_law_1171 ?_
  refine lv_to (y := xs (i + 1)) (congrArg xs (nI_clamp (by omega))) ?_
  refine lv_aload_n hx hb dL_law_1172 rfl (lv_at hl 2 rfl) ?_
  obtain ⟨⟨k1, r1, T1⟩, hg, hc⟩ := cs_X11_zonePower T 0 (xs (i + 1)) hV (by decide +kernel)
  have hV1 : IV aR0 1586 aK1 aK2 T1 := hc.1.1
  have hg1 := s_X11_zonePower hg
  have hg2 := sg_le hg1
  have hg3 := hg1.1
  have hk := hV1.2.2.2.2.2.2
  have hrc1 := hg1.2.2 hrc
  have hr0 := a_room
  refine l_v (h0 := s.heap.size) (As := [.ref (ad 0), .int (xs (i + 1)), .ref aj]) (rest := []) E G hA hX hN (fun _ h => h) hTS hml (v_zonePower l hst D s.heap.size ad T 0 (xs (i + 1)) aj f hg hrc h0T h0s) (vx_cwSW 3 hts (glA (L := [Cond.methodLink RL 299 yL_zonePower, Cond.static yL_zonePower, Cond.initialized RL]) (gl_in [(6, 82), (6, 83), (1, 0)] (by decide +kernel) (by decide +kernel)) ⟨(t_of [Cond.codeWith yL_zonePower cL_zonePower 4 (some .int) [(0, 8, 11, 21), (0, 8, 14, 13)]] [(6, 84)] (by decide +kernel) _ List.mem_cons_self), List.all_eq_true.mp (by decide +kernel : [Cond.codeWith yL_zonePower cL_zonePower 4 (some .int) [(0, 8, 11, 21), (0, 8, 14, 13)]].all goodWord = true) _ List.mem_cons_self⟩) rfl rfl rfl (by decide +kernel) ⟨Nat.le_of_ble_eq_true rfl, Nat.le_of_ble_eq_true rfl⟩) rfl hl.1 rfl (lv_room (Nat.le_of_ble_eq_true rfl)) dL_law_1173 ⟨by show _ ≤ 601024; omega, by show _ ≤ 7293034; omega⟩ ?_
  intro ad2 H locs had G
  rw [← had 0 h0T] at hl
  refine lv_istore (lv' := [(6, .int (vck 1 2 0 k1)), (5, .int (nI i)), (4, .ref ae), (3, .ref aj), (2, .ref (am 0)), (1, .ref (ad2 0)), (0, .ref b)]) hx hb dL_law_1176 hl (by decide) rfl (fun ls hl => ?_)
  refine lv_aload_n hx hb dL_law_1178 rfl (lv_at hl 4 rfl) ?_
  refine lv_aload_n hx hb dL_law_1179 rfl (lv_at hl 6 rfl) ?_
  refine lv_iload hx hb dL_law_1180 (lv_at hl 1 rfl) ?_
  refine lv_iconst (v := 1) hx hb dL_law_1182 (by decide) ?_
  refine lv_iadd hx hb dL_law_1183 ?_
  refine lv_to (y := nI (i + 1)) (nI_add i 1) ?_
  refine va_sld hx hb hX0 hbl (Nat.not_le.mpr hbl) G.2.2 (i := nI (i + 1)) (vp_in_nI (n := i + 1) (N := L) (by omega) (by omega)) dL_law_1184 ?_
  refine lv_to (y := xs (i + 1)) (congrArg xs (nI_clamp (by omega))) ?_
  obtain ⟨⟨r2, S1⟩, hf, hj⟩ := sj_zonePower Sm (xs (i + 1)) hJ
  have hJ1 : JJ S1 := hj
  refine y_ml (As := [.int (xs (i + 1))]) (rest := []) E G hA hX.2.2.2.2 hml (tr_zonePower l D cI cJ cZ am Sm (xs (i + 1)) hf) (cwV 1 hts (glM (L := [Cond.methodLink RL 301 yX12_zonePower, Cond.instanceMethod yX12_zonePower, Cond.selects RX12 yX12_zonePower yX12_zonePower, Cond.initialized RX12]) (gl_in [(10, 69), (10, 70), (10, 71), (1, 14)] (by decide +kernel) (by decide +kernel)) ⟨(t_of [Cond.code yX12_zonePower cX12_zonePower 5 (some .long)] [(10, 72)] (by decide +kernel) _ List.mem_cons_self), List.all_eq_true.mp (by decide +kernel : [Cond.code yX12_zonePower cX12_zonePower 5 (some .long)].all goodWord = true) _ List.mem_cons_self⟩) rfl rfl rfl (by decide +kernel) ⟨Nat.le_of_ble_eq_true rfl, Nat.le_of_ble_eq_true rfl⟩) rfl hl.1 rfl (lv_room (Nat.le_of_ble_eq_true rfl)) dL_law_1185 ⟨by show _ ≤ 601024; omega, by show _ ≤ 7293034; omega⟩ (fun H locs G => ?_)
  refine lv_lstore (lv' := [(7, .long r2), (6, .int (vck 1 2 0 k1)), (5, .int (nI i)), (4, .ref ae), (3, .ref aj), (2, .ref (am 0)), (1, .ref (ad2 0)), (0, .ref b)]) hx hb dL_law_1188 hl (by decide) rfl (fun ls hl => ?_)
  refine lv_goto (tgt := 2439) hx hb dL_law_1190 (by decide) ?_
  have hl := lv_sub hl [2, 3, 4, 5, 6, 7] rfl
  refine W.widen (k := 19 + T1.1 + (j + 1)) (n := 38467 + sg T1 + 6 * (j + 1)) (by omega) (by omega) ?_
  exact kk ad2 (vfJ k1 f r1) g H locs ls hg hf (had 0 h0T) hV1 hrc1 hJ1 G hl
set_option maxHeartbeats 4000000 in
set_option maxRecDepth 100000 in
theorem y_a31 {p : Program} {e : Env} {s : State} {m : MethodId} {below : List Frame} {meth : Method} {c : Code} (l : Launch) (hst : l.stackTraces = false) {b L : Nat} {xs : Nat → Int32} (hx : p.tables.exec = Jvm.exec) (hb : c.code = code) (hml : c.maxLocals = 9) (hown : s.vm.findClass RL = some m.cls) (hts : ∀ w ∈ lw_tbl, w.before #[Value.ref b] s = true) (hX0 : va_X b L xs s s.heap) (hbl : b < s.heap.size) (hX : xT (fun q => s.heap.size ≤ q) s) (hN : nC s) (hTS : sAll s.heap.size s) {D : va_G} {cI cJ cZ cMic cSrc cSt cAI cAJ cD : ClassId} (hK : va_K D vwCl (CT cI cJ cZ cMic cSrc cSt cAI cAJ ++ [(cD, .double)]) s) {Q : State → Prop} {i j : Nat} (hi : i + 6 ≤ L) (hL : L ≤ 3072) (hj : j < 512) {aj ae : Nat} {ad am : Nat → Nat} {T : AT} {Sm : MS} {f : Nat → Int64} {g : Nat → UInt64} {ls : Array Slot} {H : Heap} {locs : List Loc} (hV : IV aR0 1586 aK1 aK2 T) (hrc : RC T) (hJ : JJ Sm) (G : gL cI cJ cZ cMic cSrc cSt cAI cAJ D ad (fun q => s.heap.size ≤ q) s.heap H locs T (oJ aj cJ f :: oD ae cD g :: MW cI cJ cZ am Sm)) (hl : lv_has ls 9 [(5, .int (nI i)), (4, .ref ae), (3, .ref aj), (2, .ref (am 0)), (1, .ref (ad 0)), (0, .ref b)]) (kk : ∀ {k1 : Nat} {r1 : Int32} {T1 : AT} {r2 : Int32} {S1 : MS} (ad2 : Nat → Nat) (f1 : Nat → Int64) (g1 : Nat → UInt64) (H1 : Heap) (locs1 : List Loc) (ls1 : Array Slot), g_X11_zoneBest T 0 (xs (i + 1)) = some (k1, r1, T1) → fr_zoneBest Sm (xs (i + 1)) = some (r2, S1) → ad2 0 = ad 0 → IV aR0 1586 aK1 aK2 T1 → RC T1 → JJ S1 → gL cI cJ cZ cMic cSrc cSt cAI cAJ D ad2 (fun q => s.heap.size ≤ q) s.heap H1 locs1 T1 (oJ aj cJ f1 :: oD ae cD g1 :: MW cI cJ cZ am S1) → lv_has ls1 9 [(5, .int (nI i)), (4, .ref ae), (3, .ref aj), (2, .ref (am 0)), (1, .ref (ad2 0)), (0, .ref b)] → W p l e room_1 s m #[Value.ref b] below meth c H1 locs1 (19 + T1.1 + (j + 1)) (38467 + sg T1 + 6 * (j + 1)) Q (F0 m 2439 ls1 [])) : W p l e room_1 s m #[Value.ref b] below meth c H locs (19 + T.1 + j) (38467 + sg T + 6 * j) Q (F0 m 1193 ls []) := by
  have E : cE p c cL_law s m #[Value.ref b] lw_tbl D RL (CT cI cJ cZ cMic cSrc cSt cAI cAJ ++ [(cD, .double)]) := ⟨hx, hb, hts, hown, hK⟩
  have hA : ∀ q : Nat, s.heap.size ≤ q → s.heap.size ≤ q := fun _ h => h
  have h0T : 0 < T.1 := Nat.lt_of_lt_of_le (by decide) hV.1.2.2
  have h0s : T.2.1 0 = (11, 0) := hV.2.1 0 ⟨by decide, by decide +kernel, by decide +kernel⟩
  refine lv_aload_n hx hb dL_law_1193 rfl (lv_at hl 4 rfl) ?_
  refine lv_aload_n hx hb dL_law_1194 rfl (lv_at hl 5 rfl) ?_
  refine lv_iload hx hb dL_law_1195 (lv_at hl 0 rfl) ?_
  refine lv_iconst (v := 1) hx hb dL_law_1197 (by decide) ?_
  refine lv_iadd hx hb dL_law_1198 ?_
  refine lv_to (y := nI (i + 1)) (nI_add i 1) ?_
  refine va_sld hx hb hX0 hbl (Nat.not_le.mpr hbl) G.2.2 (i := nI (i + 1)) (vp_in_nI (n := i + 1) (N := L) (by omega) (by omega)) dL_law_1199 ?_
  refine lv_to (y := xs (i + 1)) (congrArg xs (nI_clamp (by omega))) ?_
  refine lv_aload_n hx hb dL_law_1200 rfl (lv_at hl 2 rfl) ?_
  obtain ⟨⟨k1, r1, T1⟩, hg, hc⟩ := cs_X11_zoneBest T 0 (xs (i + 1)) hV (by decide +kernel)
  have hV1 : IV aR0 1586 aK1 aK2 T1 := hc.1.1
  have hg1 := s_X11_zoneBest hg
  have hg2 := sg_le hg1
  have hg3 := hg1.1
  have hk := hV1.2.2.2.2.2.2
  have hrc1 := hg1.2.2 hrc
  have hr0 := a_room
  refine l_v (h0 := s.heap.size) (As := [.ref (ad 0), .int (xs (i + 1)), .ref aj]) (rest := []) E G hA hX hN (fun _ h => h) hTS hml (v_zoneBest l hst D s.heap.size ad T 0 (xs (i + 1)) aj f hg hrc h0T h0s) (vx_cwSW 3 hts (glA (L := [Cond.methodLink RL 302 yL_zoneBest, Cond.static yL_zoneBest, Cond.initialized RL]) (gl_in [(6, 89), (6, 90), (1, 0)] (by decide +kernel) (by decide +kernel)) ⟨(t_of [Cond.codeWith yL_zoneBest cL_zoneBest 4 (some .int) [(0, 9, 12, 21), (0, 9, 15, 13)]] [(6, 91)] (by decide +kernel) _ List.mem_cons_self), List.all_eq_true.mp (by decide +kernel : [Cond.codeWith yL_zoneBest cL_zoneBest 4 (some .int) [(0, 9, 12, 21), (0, 9, 15, 13)]].all goodWord = true) _ List.mem_cons_self⟩) rfl rfl rfl (by decide +kernel) ⟨Nat.le_of_ble_eq_true rfl, Nat.le_of_ble_eq_true rfl⟩) rfl hl.1 rfl (lv_room (Nat.le_of_ble_eq_true rfl)) dL_law_1201 ⟨by show _ ≤ 601024; omega, by show _ ≤ 7293034; omega⟩ ?_
  intro ad2 H locs had G
  rw [← had 0 h0T] at hl
  refine lv_istore (lv' := [(6, .int (vck 1 2 0 k1)), (5, .int (nI i)), (4, .ref ae), (3, .ref aj), (2, .ref (am 0)), (1, .ref (ad2 0)), (0, .ref b)]) hx hb dL_law_1204 hl (by decide) rfl (fun ls hl => ?_)
  refine lv_aload_n hx hb dL_law_1206 rfl (lv_at hl 4 rfl) ?_
  refine lv_aload_n hx hb dL_law_1207 rfl (lv_at hl 6 rfl) ?_
  refine lv_iload hx hb dL_law_1208 (lv_at hl 1 rfl) ?_
  refine lv_iconst (v := 1) hx hb dL_law_1210 (by decide) ?_
  refine lv_iadd hx hb dL_law_1211 ?_
  refine lv_to (y := nI (i + 1)) (nI_add i 1) ?_
  refine va_sld hx hb hX0 hbl (Nat.not_le.mpr hbl) G.2.2 (i := nI (i + 1)) (vp_in_nI (n := i + 1) (N := L) (by omega) (by omega)) dL_law_1212 ?_
  refine lv_to (y := xs (i + 1)) (congrArg xs (nI_clamp (by omega))) ?_
  obtain ⟨⟨r2, S1⟩, hf, hj⟩ := sj_zoneBest Sm (xs (i + 1)) hJ
  have hJ1 : JJ S1 := hj
  refine y_mi (As := [.int (xs (i + 1))]) (rest := []) E G hA hX.2.2.2.2 hml (tr_zoneBest l D cI cJ cZ am Sm (xs (i + 1)) hf) (cwV 1 hts (glM (L := [Cond.methodLink RL 304 yX12_zoneBest, Cond.instanceMethod yX12_zoneBest, Cond.selects RX12 yX12_zoneBest yX12_zoneBest, Cond.initialized RX12]) (gl_in [(10, 81), (10, 82), (10, 83), (1, 14)] (by decide +kernel) (by decide +kernel)) ⟨(t_of [Cond.code yX12_zoneBest cX12_zoneBest 4 (some .int)] [(10, 84)] (by decide +kernel) _ List.mem_cons_self), List.all_eq_true.mp (by decide +kernel : [Cond.code yX12_zoneBest cX12_zoneBest 4 (some .int)].all goodWord = true) _ List.mem_cons_self⟩) rfl rfl rfl (by decide +kernel) ⟨Nat.le_of_ble_eq_true rfl, Nat.le_of_ble_eq_true rfl⟩) rfl hl.1 rfl (lv_room (Nat.le_of_ble_eq_true rfl)) dL_law_1213 ⟨by show _ ≤ 601024; omega, by show _ ≤ 7293034; omega⟩ (fun H locs G => ?_)
  refine lv_istore (lv' := [(7, .int r2), (6, .int (vck 1 2 0 k1)), (5, .int (nI i)), (4, .ref ae), (3, .ref aj), (2, .ref (am 0)), (1, .ref (ad2 0)), (0, .ref b)]) hx hb dL_law_1216 hl (by decide) rfl (fun ls hl => ?_)
  refine lv_goto (tgt := 2439) hx hb dL_law_1218 (by decide) ?_
  have hl := lv_sub hl [2, 3, 4, 5, 6, 7] rfl
  refine W.widen (k := 19 + T1.1 + (j + 1)) (n := 38467 + sg T1 + 6 * (j + 1)) (by omega) (by omega) ?_
  exact kk ad2 (vfJ k1 f r1.toInt64) g H locs ls hg hf (had 0 h0T) hV1 hrc1 hJ1 G hl
end
section
/-! 17e.arm4.lean.txt -/
theorem dL_law_1221 : decode cL_law 1221 = .ok (.aload_n 1, 1) := de_43 (lb_76 (j := 5) (b := 43) rfl)
theorem dL_law_1222 : decode cL_law 1222 = .ok (.aload 4, 2) := de_25 (lb_76 (j := 6) (b := 25) rfl) (lb_76 (j := 7) (b := 4) rfl) rfl
theorem dL_law_1224 : decode cL_law 1224 = .ok (.invokestatic 305, 3) := de_184 (lb_76 (j := 8) (b := 184) rfl) (lb_76 (j := 9) (b := 1) rfl) (lb_76 (j := 10) (b := 49) rfl) rfl
theorem dL_law_1227 : decode cL_law 1227 = .ok (.istore 6, 2) := de_54 (lb_76 (j := 11) (b := 54) rfl) (lb_76 (j := 12) (b := 6) rfl) rfl
theorem dL_law_1229 : decode cL_law 1229 = .ok (.aload_n 2, 1) := de_44 (lb_76 (j := 13) (b := 44) rfl)
theorem dL_law_1230 : decode cL_law 1230 = .ok (.invokevirtual 308, 3) := de_182 (lb_76 (j := 14) (b := 182) rfl) (lb_76 (j := 15) (b := 1) rfl) (lb_77 (j := 0) (b := 52) rfl) rfl
theorem dL_law_1233 : decode cL_law 1233 = .ok (.fstore 7, 2) := de_56 (lb_77 (j := 1) (b := 56) rfl) (lb_77 (j := 2) (b := 7) rfl) rfl
theorem dL_law_1235 : decode cL_law 1235 = .ok (.goto 1204, 3) := de_167 (lb_77 (j := 3) (b := 167) rfl) (lb_77 (j := 4) (b := 4) rfl) (lb_77 (j := 5) (b := 180) rfl) (by decide +kernel)
theorem dL_law_1238 : decode cL_law 1238 = .ok (.aload_n 1, 1) := de_43 (lb_77 (j := 6) (b := 43) rfl)
theorem dL_law_1239 : decode cL_law 1239 = .ok (.aload_n 0, 1) := de_42 (lb_77 (j := 7) (b := 42) rfl)
theorem dL_law_1240 : decode cL_law 1240 = .ok (.iload 5, 2) := de_21 (lb_77 (j := 8) (b := 21) rfl) (lb_77 (j := 9) (b := 5) rfl) rfl
theorem dL_law_1242 : decode cL_law 1242 = .ok (.iconst 1, 1) := de_4 (lb_77 (j := 10) (b := 4) rfl)
theorem dL_law_1243 : decode cL_law 1243 = .ok (.iadd, 1) := de_96 (lb_77 (j := 11) (b := 96) rfl)
theorem dL_law_1244 : decode cL_law 1244 = .ok (.iaload, 1) := de_46 (lb_77 (j := 12) (b := 46) rfl)
theorem dL_law_1245 : decode cL_law 1245 = .ok (.aload_n 0, 1) := de_42 (lb_77 (j := 13) (b := 42) rfl)
theorem dL_law_1246 : decode cL_law 1246 = .ok (.iload 5, 2) := de_21 (lb_77 (j := 14) (b := 21) rfl) (lb_77 (j := 15) (b := 5) rfl) rfl
theorem dL_law_1248 : decode cL_law 1248 = .ok (.iconst 2, 1) := de_5 (lb_78 (j := 0) (b := 5) rfl)
theorem dL_law_1249 : decode cL_law 1249 = .ok (.iadd, 1) := de_96 (lb_78 (j := 1) (b := 96) rfl)
theorem dL_law_1250 : decode cL_law 1250 = .ok (.iaload, 1) := de_46 (lb_78 (j := 2) (b := 46) rfl)
theorem dL_law_1251 : decode cL_law 1251 = .ok (.aload_n 0, 1) := de_42 (lb_78 (j := 3) (b := 42) rfl)
theorem dL_law_1252 : decode cL_law 1252 = .ok (.iload 5, 2) := de_21 (lb_78 (j := 4) (b := 21) rfl) (lb_78 (j := 5) (b := 5) rfl) rfl
theorem dL_law_1254 : decode cL_law 1254 = .ok (.iconst 3, 1) := de_6 (lb_78 (j := 6) (b := 6) rfl)
theorem dL_law_1255 : decode cL_law 1255 = .ok (.iadd, 1) := de_96 (lb_78 (j := 7) (b := 96) rfl)
theorem dL_law_1256 : decode cL_law 1256 = .ok (.iaload, 1) := de_46 (lb_78 (j := 8) (b := 46) rfl)
theorem dL_law_1257 : decode cL_law 1257 = .ok (.aload_n 3, 1) := de_45 (lb_78 (j := 9) (b := 45) rfl)
theorem dL_law_1258 : decode cL_law 1258 = .ok (.invokestatic 309, 3) := de_184 (lb_78 (j := 10) (b := 184) rfl) (lb_78 (j := 11) (b := 1) rfl) (lb_78 (j := 12) (b := 53) rfl) rfl
theorem dL_law_1261 : decode cL_law 1261 = .ok (.istore 6, 2) := de_54 (lb_78 (j := 13) (b := 54) rfl) (lb_78 (j := 14) (b := 6) rfl) rfl
theorem dL_law_1263 : decode cL_law 1263 = .ok (.aload_n 2, 1) := de_44 (lb_78 (j := 15) (b := 44) rfl)
theorem dL_law_1264 : decode cL_law 1264 = .ok (.aload_n 0, 1) := de_42 (lb_79 (j := 0) (b := 42) rfl)
theorem dL_law_1265 : decode cL_law 1265 = .ok (.iload 5, 2) := de_21 (lb_79 (j := 1) (b := 21) rfl) (lb_79 (j := 2) (b := 5) rfl) rfl
theorem dL_law_1267 : decode cL_law 1267 = .ok (.iconst 1, 1) := de_4 (lb_79 (j := 3) (b := 4) rfl)
theorem dL_law_1268 : decode cL_law 1268 = .ok (.iadd, 1) := de_96 (lb_79 (j := 4) (b := 96) rfl)
theorem dL_law_1269 : decode cL_law 1269 = .ok (.iaload, 1) := de_46 (lb_79 (j := 5) (b := 46) rfl)
theorem dL_law_1270 : decode cL_law 1270 = .ok (.aload_n 0, 1) := de_42 (lb_79 (j := 6) (b := 42) rfl)
theorem dL_law_1271 : decode cL_law 1271 = .ok (.iload 5, 2) := de_21 (lb_79 (j := 7) (b := 21) rfl) (lb_79 (j := 8) (b := 5) rfl) rfl
theorem dL_law_1273 : decode cL_law 1273 = .ok (.iconst 2, 1) := de_5 (lb_79 (j := 9) (b := 5) rfl)
theorem dL_law_1274 : decode cL_law 1274 = .ok (.iadd, 1) := de_96 (lb_79 (j := 10) (b := 96) rfl)
theorem dL_law_1275 : decode cL_law 1275 = .ok (.iaload, 1) := de_46 (lb_79 (j := 11) (b := 46) rfl)
theorem dL_law_1276 : decode cL_law 1276 = .ok (.aload_n 0, 1) := de_42 (lb_79 (j := 12) (b := 42) rfl)
theorem dL_law_1277 : decode cL_law 1277 = .ok (.iload 5, 2) := de_21 (lb_79 (j := 13) (b := 21) rfl) (lb_79 (j := 14) (b := 5) rfl) rfl
theorem dL_law_1279 : decode cL_law 1279 = .ok (.iconst 3, 1) := de_6 (lb_79 (j := 15) (b := 6) rfl)
theorem dL_law_1280 : decode cL_law 1280 = .ok (.iadd, 1) := de_96 (lb_80 (j := 0) (b := 96) rfl)
theorem dL_law_1281 : decode cL_law 1281 = .ok (.iaload, 1) := de_46 (lb_80 (j := 1) (b := 46) rfl)
theorem dL_law_1282 : decode cL_law 1282 = .ok (.invokevirtual 311, 3) := de_182 (lb_80 (j := 2) (b := 182) rfl) (lb_80 (j := 3) (b := 1) rfl) (lb_80 (j := 4) (b := 55) rfl) rfl
theorem dL_law_1285 : decode cL_law 1285 = .ok (.istore 7, 2) := de_54 (lb_80 (j := 5) (b := 54) rfl) (lb_80 (j := 6) (b := 7) rfl) rfl
theorem dL_law_1287 : decode cL_law 1287 = .ok (.goto 1152, 3) := de_167 (lb_80 (j := 7) (b := 167) rfl) (lb_80 (j := 8) (b := 4) rfl) (lb_80 (j := 9) (b := 128) rfl) (by decide +kernel)
theorem dL_law_1290 : decode cL_law 1290 = .ok (.aload_n 1, 1) := de_43 (lb_80 (j := 10) (b := 43) rfl)
theorem dL_law_1291 : decode cL_law 1291 = .ok (.aload_n 0, 1) := de_42 (lb_80 (j := 11) (b := 42) rfl)
theorem dL_law_1292 : decode cL_law 1292 = .ok (.iload 5, 2) := de_21 (lb_80 (j := 12) (b := 21) rfl) (lb_80 (j := 13) (b := 5) rfl) rfl
theorem dL_law_1294 : decode cL_law 1294 = .ok (.iconst 1, 1) := de_4 (lb_80 (j := 14) (b := 4) rfl)
theorem dL_law_1295 : decode cL_law 1295 = .ok (.iadd, 1) := de_96 (lb_80 (j := 15) (b := 96) rfl)
theorem dL_law_1296 : decode cL_law 1296 = .ok (.iaload, 1) := de_46 (lb_81 (j := 0) (b := 46) rfl)
theorem dL_law_1297 : decode cL_law 1297 = .ok (.aload_n 0, 1) := de_42 (lb_81 (j := 1) (b := 42) rfl)
theorem dL_law_1298 : decode cL_law 1298 = .ok (.iload 5, 2) := de_21 (lb_81 (j := 2) (b := 21) rfl) (lb_81 (j := 3) (b := 5) rfl) rfl
theorem dL_law_1300 : decode cL_law 1300 = .ok (.iconst 2, 1) := de_5 (lb_81 (j := 4) (b := 5) rfl)
theorem dL_law_1301 : decode cL_law 1301 = .ok (.iadd, 1) := de_96 (lb_81 (j := 5) (b := 96) rfl)
theorem dL_law_1302 : decode cL_law 1302 = .ok (.iaload, 1) := de_46 (lb_81 (j := 6) (b := 46) rfl)
theorem dL_law_1303 : decode cL_law 1303 = .ok (.aload_n 0, 1) := de_42 (lb_81 (j := 7) (b := 42) rfl)
theorem dL_law_1304 : decode cL_law 1304 = .ok (.iload 5, 2) := de_21 (lb_81 (j := 8) (b := 21) rfl) (lb_81 (j := 9) (b := 5) rfl) rfl
theorem dL_law_1306 : decode cL_law 1306 = .ok (.iconst 3, 1) := de_6 (lb_81 (j := 10) (b := 6) rfl)
theorem dL_law_1307 : decode cL_law 1307 = .ok (.iadd, 1) := de_96 (lb_81 (j := 11) (b := 96) rfl)
theorem dL_law_1308 : decode cL_law 1308 = .ok (.iaload, 1) := de_46 (lb_81 (j := 12) (b := 46) rfl)
theorem dL_law_1309 : decode cL_law 1309 = .ok (.aload_n 3, 1) := de_45 (lb_81 (j := 13) (b := 45) rfl)
theorem dL_law_1310 : decode cL_law 1310 = .ok (.invokestatic 312, 3) := de_184 (lb_81 (j := 14) (b := 184) rfl) (lb_81 (j := 15) (b := 1) rfl) (lb_82 (j := 0) (b := 56) rfl) rfl
theorem dL_law_1313 : decode cL_law 1313 = .ok (.istore 6, 2) := de_54 (lb_82 (j := 1) (b := 54) rfl) (lb_82 (j := 2) (b := 6) rfl) rfl
theorem dL_law_1315 : decode cL_law 1315 = .ok (.aload_n 2, 1) := de_44 (lb_82 (j := 3) (b := 44) rfl)
theorem dL_law_1316 : decode cL_law 1316 = .ok (.aload_n 0, 1) := de_42 (lb_82 (j := 4) (b := 42) rfl)
theorem dL_law_1317 : decode cL_law 1317 = .ok (.iload 5, 2) := de_21 (lb_82 (j := 5) (b := 21) rfl) (lb_82 (j := 6) (b := 5) rfl) rfl
theorem dL_law_1319 : decode cL_law 1319 = .ok (.iconst 1, 1) := de_4 (lb_82 (j := 7) (b := 4) rfl)
theorem dL_law_1320 : decode cL_law 1320 = .ok (.iadd, 1) := de_96 (lb_82 (j := 8) (b := 96) rfl)
theorem dL_law_1321 : decode cL_law 1321 = .ok (.iaload, 1) := de_46 (lb_82 (j := 9) (b := 46) rfl)
theorem dL_law_1322 : decode cL_law 1322 = .ok (.aload_n 0, 1) := de_42 (lb_82 (j := 10) (b := 42) rfl)
theorem dL_law_1323 : decode cL_law 1323 = .ok (.iload 5, 2) := de_21 (lb_82 (j := 11) (b := 21) rfl) (lb_82 (j := 12) (b := 5) rfl) rfl
theorem dL_law_1325 : decode cL_law 1325 = .ok (.iconst 2, 1) := de_5 (lb_82 (j := 13) (b := 5) rfl)
theorem dL_law_1326 : decode cL_law 1326 = .ok (.iadd, 1) := de_96 (lb_82 (j := 14) (b := 96) rfl)
theorem dL_law_1327 : decode cL_law 1327 = .ok (.iaload, 1) := de_46 (lb_82 (j := 15) (b := 46) rfl)
theorem dL_law_1328 : decode cL_law 1328 = .ok (.aload_n 0, 1) := de_42 (lb_83 (j := 0) (b := 42) rfl)
theorem dL_law_1329 : decode cL_law 1329 = .ok (.iload 5, 2) := de_21 (lb_83 (j := 1) (b := 21) rfl) (lb_83 (j := 2) (b := 5) rfl) rfl
theorem dL_law_1331 : decode cL_law 1331 = .ok (.iconst 3, 1) := de_6 (lb_83 (j := 3) (b := 6) rfl)
theorem dL_law_1332 : decode cL_law 1332 = .ok (.iadd, 1) := de_96 (lb_83 (j := 4) (b := 96) rfl)
theorem dL_law_1333 : decode cL_law 1333 = .ok (.iaload, 1) := de_46 (lb_83 (j := 5) (b := 46) rfl)
theorem dL_law_1334 : decode cL_law 1334 = .ok (.invokevirtual 314, 3) := de_182 (lb_83 (j := 6) (b := 182) rfl) (lb_83 (j := 7) (b := 1) rfl) (lb_83 (j := 8) (b := 58) rfl) rfl
theorem dL_law_1337 : decode cL_law 1337 = .ok (.istore 7, 2) := de_54 (lb_83 (j := 9) (b := 54) rfl) (lb_83 (j := 10) (b := 7) rfl) rfl
theorem dL_law_1339 : decode cL_law 1339 = .ok (.goto 1100, 3) := de_167 (lb_83 (j := 11) (b := 167) rfl) (lb_83 (j := 12) (b := 4) rfl) (lb_83 (j := 13) (b := 76) rfl) (by decide +kernel)
theorem dL_law_1342 : decode cL_law 1342 = .ok (.aload_n 1, 1) := de_43 (lb_83 (j := 14) (b := 43) rfl)
theorem dL_law_1343 : decode cL_law 1343 = .ok (.aload_n 0, 1) := de_42 (lb_83 (j := 15) (b := 42) rfl)
theorem dL_law_1344 : decode cL_law 1344 = .ok (.iload 5, 2) := de_21 (lb_84 (j := 0) (b := 21) rfl) (lb_84 (j := 1) (b := 5) rfl) rfl
theorem dL_law_1346 : decode cL_law 1346 = .ok (.iconst 1, 1) := de_4 (lb_84 (j := 2) (b := 4) rfl)
theorem dL_law_1347 : decode cL_law 1347 = .ok (.iadd, 1) := de_96 (lb_84 (j := 3) (b := 96) rfl)
theorem dL_law_1348 : decode cL_law 1348 = .ok (.iaload, 1) := de_46 (lb_84 (j := 4) (b := 46) rfl)
theorem dL_law_1349 : decode cL_law 1349 = .ok (.aload_n 0, 1) := de_42 (lb_84 (j := 5) (b := 42) rfl)
theorem dL_law_1350 : decode cL_law 1350 = .ok (.iload 5, 2) := de_21 (lb_84 (j := 6) (b := 21) rfl) (lb_84 (j := 7) (b := 5) rfl) rfl
theorem dL_law_1352 : decode cL_law 1352 = .ok (.iconst 2, 1) := de_5 (lb_84 (j := 8) (b := 5) rfl)
theorem dL_law_1353 : decode cL_law 1353 = .ok (.iadd, 1) := de_96 (lb_84 (j := 9) (b := 96) rfl)
theorem dL_law_1354 : decode cL_law 1354 = .ok (.iaload, 1) := de_46 (lb_84 (j := 10) (b := 46) rfl)
theorem dL_law_1355 : decode cL_law 1355 = .ok (.aload_n 3, 1) := de_45 (lb_84 (j := 11) (b := 45) rfl)
theorem dL_law_1356 : decode cL_law 1356 = .ok (.invokestatic 315, 3) := de_184 (lb_84 (j := 12) (b := 184) rfl) (lb_84 (j := 13) (b := 1) rfl) (lb_84 (j := 14) (b := 59) rfl) rfl
theorem dL_law_1359 : decode cL_law 1359 = .ok (.istore 6, 2) := de_54 (lb_84 (j := 15) (b := 54) rfl) (lb_85 (j := 0) (b := 6) rfl) rfl
theorem dL_law_1361 : decode cL_law 1361 = .ok (.aload_n 2, 1) := de_44 (lb_85 (j := 1) (b := 44) rfl)
theorem dL_law_1362 : decode cL_law 1362 = .ok (.aload_n 0, 1) := de_42 (lb_85 (j := 2) (b := 42) rfl)
theorem dL_law_1363 : decode cL_law 1363 = .ok (.iload 5, 2) := de_21 (lb_85 (j := 3) (b := 21) rfl) (lb_85 (j := 4) (b := 5) rfl) rfl
theorem dL_law_1365 : decode cL_law 1365 = .ok (.iconst 1, 1) := de_4 (lb_85 (j := 5) (b := 4) rfl)
theorem dL_law_1366 : decode cL_law 1366 = .ok (.iadd, 1) := de_96 (lb_85 (j := 6) (b := 96) rfl)
theorem dL_law_1367 : decode cL_law 1367 = .ok (.iaload, 1) := de_46 (lb_85 (j := 7) (b := 46) rfl)
theorem dL_law_1368 : decode cL_law 1368 = .ok (.aload_n 0, 1) := de_42 (lb_85 (j := 8) (b := 42) rfl)
theorem dL_law_1369 : decode cL_law 1369 = .ok (.iload 5, 2) := de_21 (lb_85 (j := 9) (b := 21) rfl) (lb_85 (j := 10) (b := 5) rfl) rfl
theorem dL_law_1371 : decode cL_law 1371 = .ok (.iconst 2, 1) := de_5 (lb_85 (j := 11) (b := 5) rfl)
theorem dL_law_1372 : decode cL_law 1372 = .ok (.iadd, 1) := de_96 (lb_85 (j := 12) (b := 96) rfl)
theorem dL_law_1373 : decode cL_law 1373 = .ok (.iaload, 1) := de_46 (lb_85 (j := 13) (b := 46) rfl)
theorem dL_law_1374 : decode cL_law 1374 = .ok (.invokevirtual 317, 3) := de_182 (lb_85 (j := 14) (b := 182) rfl) (lb_85 (j := 15) (b := 1) rfl) (lb_86 (j := 0) (b := 61) rfl) rfl
theorem dL_law_1377 : decode cL_law 1377 = .ok (.istore 7, 2) := de_54 (lb_86 (j := 1) (b := 54) rfl) (lb_86 (j := 2) (b := 7) rfl) rfl
theorem dL_law_1379 : decode cL_law 1379 = .ok (.goto 1060, 3) := de_167 (lb_86 (j := 3) (b := 167) rfl) (lb_86 (j := 4) (b := 4) rfl) (lb_86 (j := 5) (b := 36) rfl) (by decide +kernel)
theorem dL_law_1382 : decode cL_law 1382 = .ok (.aload_n 1, 1) := de_43 (lb_86 (j := 6) (b := 43) rfl)
theorem dL_law_1383 : decode cL_law 1383 = .ok (.aload_n 0, 1) := de_42 (lb_86 (j := 7) (b := 42) rfl)
theorem dL_law_1384 : decode cL_law 1384 = .ok (.iload 5, 2) := de_21 (lb_86 (j := 8) (b := 21) rfl) (lb_86 (j := 9) (b := 5) rfl) rfl
theorem dL_law_1386 : decode cL_law 1386 = .ok (.iconst 1, 1) := de_4 (lb_86 (j := 10) (b := 4) rfl)
theorem dL_law_1387 : decode cL_law 1387 = .ok (.iadd, 1) := de_96 (lb_86 (j := 11) (b := 96) rfl)
theorem dL_law_1388 : decode cL_law 1388 = .ok (.iaload, 1) := de_46 (lb_86 (j := 12) (b := 46) rfl)
theorem dL_law_1389 : decode cL_law 1389 = .ok (.aload_n 0, 1) := de_42 (lb_86 (j := 13) (b := 42) rfl)
theorem dL_law_1390 : decode cL_law 1390 = .ok (.iload 5, 2) := de_21 (lb_86 (j := 14) (b := 21) rfl) (lb_86 (j := 15) (b := 5) rfl) rfl
theorem dL_law_1392 : decode cL_law 1392 = .ok (.iconst 2, 1) := de_5 (lb_87 (j := 0) (b := 5) rfl)
theorem dL_law_1393 : decode cL_law 1393 = .ok (.iadd, 1) := de_96 (lb_87 (j := 1) (b := 96) rfl)
theorem dL_law_1394 : decode cL_law 1394 = .ok (.iaload, 1) := de_46 (lb_87 (j := 2) (b := 46) rfl)
theorem dL_law_1395 : decode cL_law 1395 = .ok (.aload_n 0, 1) := de_42 (lb_87 (j := 3) (b := 42) rfl)
theorem dL_law_1396 : decode cL_law 1396 = .ok (.iload 5, 2) := de_21 (lb_87 (j := 4) (b := 21) rfl) (lb_87 (j := 5) (b := 5) rfl) rfl
theorem dL_law_1398 : decode cL_law 1398 = .ok (.iconst 3, 1) := de_6 (lb_87 (j := 6) (b := 6) rfl)
theorem dL_law_1399 : decode cL_law 1399 = .ok (.iadd, 1) := de_96 (lb_87 (j := 7) (b := 96) rfl)
theorem dL_law_1400 : decode cL_law 1400 = .ok (.iaload, 1) := de_46 (lb_87 (j := 8) (b := 46) rfl)
theorem dL_law_1401 : decode cL_law 1401 = .ok (.aload_n 3, 1) := de_45 (lb_87 (j := 9) (b := 45) rfl)
theorem dL_law_1402 : decode cL_law 1402 = .ok (.invokestatic 318, 3) := de_184 (lb_87 (j := 10) (b := 184) rfl) (lb_87 (j := 11) (b := 1) rfl) (lb_87 (j := 12) (b := 62) rfl) rfl
theorem dL_law_1405 : decode cL_law 1405 = .ok (.istore 6, 2) := de_54 (lb_87 (j := 13) (b := 54) rfl) (lb_87 (j := 14) (b := 6) rfl) rfl
theorem dL_law_1407 : decode cL_law 1407 = .ok (.aload_n 2, 1) := de_44 (lb_87 (j := 15) (b := 44) rfl)
theorem dL_law_1408 : decode cL_law 1408 = .ok (.aload_n 0, 1) := de_42 (lb_88 (j := 0) (b := 42) rfl)
theorem dL_law_1409 : decode cL_law 1409 = .ok (.iload 5, 2) := de_21 (lb_88 (j := 1) (b := 21) rfl) (lb_88 (j := 2) (b := 5) rfl) rfl
theorem dL_law_1411 : decode cL_law 1411 = .ok (.iconst 1, 1) := de_4 (lb_88 (j := 3) (b := 4) rfl)
theorem dL_law_1412 : decode cL_law 1412 = .ok (.iadd, 1) := de_96 (lb_88 (j := 4) (b := 96) rfl)
theorem dL_law_1413 : decode cL_law 1413 = .ok (.iaload, 1) := de_46 (lb_88 (j := 5) (b := 46) rfl)
theorem dL_law_1414 : decode cL_law 1414 = .ok (.aload_n 0, 1) := de_42 (lb_88 (j := 6) (b := 42) rfl)
theorem dL_law_1415 : decode cL_law 1415 = .ok (.iload 5, 2) := de_21 (lb_88 (j := 7) (b := 21) rfl) (lb_88 (j := 8) (b := 5) rfl) rfl
theorem dL_law_1417 : decode cL_law 1417 = .ok (.iconst 2, 1) := de_5 (lb_88 (j := 9) (b := 5) rfl)
theorem dL_law_1418 : decode cL_law 1418 = .ok (.iadd, 1) := de_96 (lb_88 (j := 10) (b := 96) rfl)
theorem dL_law_1419 : decode cL_law 1419 = .ok (.iaload, 1) := de_46 (lb_88 (j := 11) (b := 46) rfl)
theorem dL_law_1420 : decode cL_law 1420 = .ok (.aload_n 0, 1) := de_42 (lb_88 (j := 12) (b := 42) rfl)
theorem dL_law_1421 : decode cL_law 1421 = .ok (.iload 5, 2) := de_21 (lb_88 (j := 13) (b := 21) rfl) (lb_88 (j := 14) (b := 5) rfl) rfl
theorem dL_law_1423 : decode cL_law 1423 = .ok (.iconst 3, 1) := de_6 (lb_88 (j := 15) (b := 6) rfl)
theorem dL_law_1424 : decode cL_law 1424 = .ok (.iadd, 1) := de_96 (lb_89 (j := 0) (b := 96) rfl)
theorem dL_law_1425 : decode cL_law 1425 = .ok (.iaload, 1) := de_46 (lb_89 (j := 1) (b := 46) rfl)
theorem dL_law_1426 : decode cL_law 1426 = .ok (.invokevirtual 320, 3) := de_182 (lb_89 (j := 2) (b := 182) rfl) (lb_89 (j := 3) (b := 1) rfl) (lb_89 (j := 4) (b := 64) rfl) rfl
theorem dL_law_1429 : decode cL_law 1429 = .ok (.lstore 7, 2) := de_55 (lb_89 (j := 5) (b := 55) rfl) (lb_89 (j := 6) (b := 7) rfl) rfl
theorem dL_law_1431 : decode cL_law 1431 = .ok (.goto 1008, 3) := de_167 (lb_89 (j := 7) (b := 167) rfl) (lb_89 (j := 8) (b := 3) rfl) (lb_89 (j := 9) (b := 240) rfl) (by decide +kernel)
theorem dL_law_1434 : decode cL_law 1434 = .ok (.aload_n 1, 1) := de_43 (lb_89 (j := 10) (b := 43) rfl)
theorem dL_law_1435 : decode cL_law 1435 = .ok (.aload_n 0, 1) := de_42 (lb_89 (j := 11) (b := 42) rfl)
theorem dL_law_1436 : decode cL_law 1436 = .ok (.iload 5, 2) := de_21 (lb_89 (j := 12) (b := 21) rfl) (lb_89 (j := 13) (b := 5) rfl) rfl
theorem dL_law_1438 : decode cL_law 1438 = .ok (.iconst 1, 1) := de_4 (lb_89 (j := 14) (b := 4) rfl)
theorem dL_law_1439 : decode cL_law 1439 = .ok (.iadd, 1) := de_96 (lb_89 (j := 15) (b := 96) rfl)
theorem dL_law_1440 : decode cL_law 1440 = .ok (.iaload, 1) := de_46 (lb_90 (j := 0) (b := 46) rfl)
theorem dL_law_1441 : decode cL_law 1441 = .ok (.aload_n 0, 1) := de_42 (lb_90 (j := 1) (b := 42) rfl)
theorem dL_law_1442 : decode cL_law 1442 = .ok (.iload 5, 2) := de_21 (lb_90 (j := 2) (b := 21) rfl) (lb_90 (j := 3) (b := 5) rfl) rfl
theorem dL_law_1444 : decode cL_law 1444 = .ok (.iconst 2, 1) := de_5 (lb_90 (j := 4) (b := 5) rfl)
theorem dL_law_1445 : decode cL_law 1445 = .ok (.iadd, 1) := de_96 (lb_90 (j := 5) (b := 96) rfl)
theorem dL_law_1446 : decode cL_law 1446 = .ok (.iaload, 1) := de_46 (lb_90 (j := 6) (b := 46) rfl)
theorem dL_law_1447 : decode cL_law 1447 = .ok (.aload_n 3, 1) := de_45 (lb_90 (j := 7) (b := 45) rfl)
theorem dL_law_1448 : decode cL_law 1448 = .ok (.invokestatic 321, 3) := de_184 (lb_90 (j := 8) (b := 184) rfl) (lb_90 (j := 9) (b := 1) rfl) (lb_90 (j := 10) (b := 65) rfl) rfl
theorem dL_law_1451 : decode cL_law 1451 = .ok (.istore 6, 2) := de_54 (lb_90 (j := 11) (b := 54) rfl) (lb_90 (j := 12) (b := 6) rfl) rfl
theorem dL_law_1453 : decode cL_law 1453 = .ok (.aload_n 2, 1) := de_44 (lb_90 (j := 13) (b := 44) rfl)
theorem dL_law_1454 : decode cL_law 1454 = .ok (.aload_n 0, 1) := de_42 (lb_90 (j := 14) (b := 42) rfl)
theorem dL_law_1455 : decode cL_law 1455 = .ok (.iload 5, 2) := de_21 (lb_90 (j := 15) (b := 21) rfl) (lb_91 (j := 0) (b := 5) rfl) rfl
theorem dL_law_1457 : decode cL_law 1457 = .ok (.iconst 1, 1) := de_4 (lb_91 (j := 1) (b := 4) rfl)
theorem dL_law_1458 : decode cL_law 1458 = .ok (.iadd, 1) := de_96 (lb_91 (j := 2) (b := 96) rfl)
theorem dL_law_1459 : decode cL_law 1459 = .ok (.iaload, 1) := de_46 (lb_91 (j := 3) (b := 46) rfl)
theorem dL_law_1460 : decode cL_law 1460 = .ok (.aload_n 0, 1) := de_42 (lb_91 (j := 4) (b := 42) rfl)
theorem dL_law_1461 : decode cL_law 1461 = .ok (.iload 5, 2) := de_21 (lb_91 (j := 5) (b := 21) rfl) (lb_91 (j := 6) (b := 5) rfl) rfl
theorem dL_law_1463 : decode cL_law 1463 = .ok (.iconst 2, 1) := de_5 (lb_91 (j := 7) (b := 5) rfl)
theorem dL_law_1464 : decode cL_law 1464 = .ok (.iadd, 1) := de_96 (lb_91 (j := 8) (b := 96) rfl)
theorem dL_law_1465 : decode cL_law 1465 = .ok (.iaload, 1) := de_46 (lb_91 (j := 9) (b := 46) rfl)
theorem dL_law_1466 : decode cL_law 1466 = .ok (.invokevirtual 323, 3) := de_182 (lb_91 (j := 10) (b := 182) rfl) (lb_91 (j := 11) (b := 1) rfl) (lb_91 (j := 12) (b := 67) rfl) rfl
theorem dL_law_1469 : decode cL_law 1469 = .ok (.istore 7, 2) := de_54 (lb_91 (j := 13) (b := 54) rfl) (lb_91 (j := 14) (b := 7) rfl) rfl
theorem dL_law_1471 : decode cL_law 1471 = .ok (.goto 968, 3) := de_167 (lb_91 (j := 15) (b := 167) rfl) (lb_92 (j := 0) (b := 3) rfl) (lb_92 (j := 1) (b := 200) rfl) (by decide +kernel)
theorem dL_law_1474 : decode cL_law 1474 = .ok (.aload_n 1, 1) := de_43 (lb_92 (j := 2) (b := 43) rfl)
theorem dL_law_1475 : decode cL_law 1475 = .ok (.aload_n 0, 1) := de_42 (lb_92 (j := 3) (b := 42) rfl)
theorem dL_law_1476 : decode cL_law 1476 = .ok (.iload 5, 2) := de_21 (lb_92 (j := 4) (b := 21) rfl) (lb_92 (j := 5) (b := 5) rfl) rfl
theorem dL_law_1478 : decode cL_law 1478 = .ok (.iconst 1, 1) := de_4 (lb_92 (j := 6) (b := 4) rfl)
theorem dL_law_1479 : decode cL_law 1479 = .ok (.iadd, 1) := de_96 (lb_92 (j := 7) (b := 96) rfl)
theorem dL_law_1480 : decode cL_law 1480 = .ok (.iaload, 1) := de_46 (lb_92 (j := 8) (b := 46) rfl)
theorem dL_law_1481 : decode cL_law 1481 = .ok (.aload_n 3, 1) := de_45 (lb_92 (j := 9) (b := 45) rfl)
theorem dL_law_1482 : decode cL_law 1482 = .ok (.invokestatic 324, 3) := de_184 (lb_92 (j := 10) (b := 184) rfl) (lb_92 (j := 11) (b := 1) rfl) (lb_92 (j := 12) (b := 68) rfl) rfl
theorem dL_law_1485 : decode cL_law 1485 = .ok (.istore 6, 2) := de_54 (lb_92 (j := 13) (b := 54) rfl) (lb_92 (j := 14) (b := 6) rfl) rfl
theorem dL_law_1487 : decode cL_law 1487 = .ok (.aload_n 2, 1) := de_44 (lb_92 (j := 15) (b := 44) rfl)
theorem dL_law_1488 : decode cL_law 1488 = .ok (.aload_n 0, 1) := de_42 (lb_93 (j := 0) (b := 42) rfl)
theorem dL_law_1489 : decode cL_law 1489 = .ok (.iload 5, 2) := de_21 (lb_93 (j := 1) (b := 21) rfl) (lb_93 (j := 2) (b := 5) rfl) rfl
theorem dL_law_1491 : decode cL_law 1491 = .ok (.iconst 1, 1) := de_4 (lb_93 (j := 3) (b := 4) rfl)
theorem dL_law_1492 : decode cL_law 1492 = .ok (.iadd, 1) := de_96 (lb_93 (j := 4) (b := 96) rfl)
theorem dL_law_1493 : decode cL_law 1493 = .ok (.iaload, 1) := de_46 (lb_93 (j := 5) (b := 46) rfl)
theorem dL_law_1494 : decode cL_law 1494 = .ok (.invokevirtual 326, 3) := de_182 (lb_93 (j := 6) (b := 182) rfl) (lb_93 (j := 7) (b := 1) rfl) (lb_93 (j := 8) (b := 70) rfl) rfl
theorem dL_law_1497 : decode cL_law 1497 = .ok (.istore 7, 2) := de_54 (lb_93 (j := 9) (b := 54) rfl) (lb_93 (j := 10) (b := 7) rfl) rfl
theorem dL_law_1499 : decode cL_law 1499 = .ok (.goto 940, 3) := de_167 (lb_93 (j := 11) (b := 167) rfl) (lb_93 (j := 12) (b := 3) rfl) (lb_93 (j := 13) (b := 172) rfl) (by decide +kernel)
theorem dL_law_1502 : decode cL_law 1502 = .ok (.aload_n 1, 1) := de_43 (lb_93 (j := 14) (b := 43) rfl)
theorem dL_law_1503 : decode cL_law 1503 = .ok (.aload_n 0, 1) := de_42 (lb_93 (j := 15) (b := 42) rfl)
theorem dL_law_1504 : decode cL_law 1504 = .ok (.iload 5, 2) := de_21 (lb_94 (j := 0) (b := 21) rfl) (lb_94 (j := 1) (b := 5) rfl) rfl
theorem dL_law_1506 : decode cL_law 1506 = .ok (.iconst 1, 1) := de_4 (lb_94 (j := 2) (b := 4) rfl)
theorem dL_law_1507 : decode cL_law 1507 = .ok (.iadd, 1) := de_96 (lb_94 (j := 3) (b := 96) rfl)
theorem dL_law_1508 : decode cL_law 1508 = .ok (.iaload, 1) := de_46 (lb_94 (j := 4) (b := 46) rfl)
theorem dL_law_1509 : decode cL_law 1509 = .ok (.aload_n 3, 1) := de_45 (lb_94 (j := 5) (b := 45) rfl)
theorem dL_law_1510 : decode cL_law 1510 = .ok (.invokestatic 327, 3) := de_184 (lb_94 (j := 6) (b := 184) rfl) (lb_94 (j := 7) (b := 1) rfl) (lb_94 (j := 8) (b := 71) rfl) rfl
theorem dL_law_1513 : decode cL_law 1513 = .ok (.istore 6, 2) := de_54 (lb_94 (j := 9) (b := 54) rfl) (lb_94 (j := 10) (b := 6) rfl) rfl
theorem dL_law_1515 : decode cL_law 1515 = .ok (.aload_n 2, 1) := de_44 (lb_94 (j := 11) (b := 44) rfl)
theorem dL_law_1516 : decode cL_law 1516 = .ok (.aload_n 0, 1) := de_42 (lb_94 (j := 12) (b := 42) rfl)
theorem dL_law_1517 : decode cL_law 1517 = .ok (.iload 5, 2) := de_21 (lb_94 (j := 13) (b := 21) rfl) (lb_94 (j := 14) (b := 5) rfl) rfl
theorem dL_law_1519 : decode cL_law 1519 = .ok (.iconst 1, 1) := de_4 (lb_94 (j := 15) (b := 4) rfl)
theorem dL_law_1520 : decode cL_law 1520 = .ok (.iadd, 1) := de_96 (lb_95 (j := 0) (b := 96) rfl)
theorem dL_law_1521 : decode cL_law 1521 = .ok (.iaload, 1) := de_46 (lb_95 (j := 1) (b := 46) rfl)
theorem dL_law_1522 : decode cL_law 1522 = .ok (.invokevirtual 329, 3) := de_182 (lb_95 (j := 2) (b := 182) rfl) (lb_95 (j := 3) (b := 1) rfl) (lb_95 (j := 4) (b := 73) rfl) rfl
theorem dL_law_1525 : decode cL_law 1525 = .ok (.lstore 7, 2) := de_55 (lb_95 (j := 5) (b := 55) rfl) (lb_95 (j := 6) (b := 7) rfl) rfl
theorem dL_law_1527 : decode cL_law 1527 = .ok (.goto 912, 3) := de_167 (lb_95 (j := 7) (b := 167) rfl) (lb_95 (j := 8) (b := 3) rfl) (lb_95 (j := 9) (b := 144) rfl) (by decide +kernel)
set_option maxHeartbeats 4000000 in
set_option maxRecDepth 100000 in
theorem y_a32 {p : Program} {e : Env} {s : State} {m : MethodId} {below : List Frame} {meth : Method} {c : Code} (l : Launch) (hst : l.stackTraces = false) {b L : Nat} {xs : Nat → Int32} (hx : p.tables.exec = Jvm.exec) (hb : c.code = code) (hml : c.maxLocals = 9) (hown : s.vm.findClass RL = some m.cls) (hts : ∀ w ∈ lw_tbl, w.before #[Value.ref b] s = true) (hX0 : va_X b L xs s s.heap) (hbl : b < s.heap.size) (hX : xT (fun q => s.heap.size ≤ q) s) (hN : nC s) (hTS : sAll s.heap.size s) {D : va_G} {cI cJ cZ cMic cSrc cSt cAI cAJ cD : ClassId} (hK : va_K D vwCl (CT cI cJ cZ cMic cSrc cSt cAI cAJ ++ [(cD, .double)]) s) {Q : State → Prop} {i j : Nat} (hi : i + 6 ≤ L) (hL : L ≤ 3072) (hj : j < 512) {aj ae : Nat} {ad am : Nat → Nat} {T : AT} {Sm : MS} {f : Nat → Int64} {g : Nat → UInt64} {ls : Array Slot} {H : Heap} {locs : List Loc} (hV : IV aR0 1586 aK1 aK2 T) (hrc : RC T) (hJ : JJ Sm) (G : gL cI cJ cZ cMic cSrc cSt cAI cAJ D ad (fun q => s.heap.size ≤ q) s.heap H locs T (oJ aj cJ f :: oD ae cD g :: MW cI cJ cZ am Sm)) (hl : lv_has ls 9 [(5, .int (nI i)), (4, .ref ae), (3, .ref aj), (2, .ref (am 0)), (1, .ref (ad 0)), (0, .ref b)]) (kk : ∀ {k1 : Nat} {r1 : UInt32} {T1 : AT} {r2 : UInt32} {S1 : MS} (ad2 : Nat → Nat) (f1 : Nat → Int64) (g1 : Nat → UInt64) (H1 : Heap) (locs1 : List Loc) (ls1 : Array Slot), g_X11_contrast T 0 = some (k1, r1, T1) → fr_contrast Sm = some (r2, S1) → ad2 0 = ad 0 → IV aR0 1586 aK1 aK2 T1 → RC T1 → JJ S1 → gL cI cJ cZ cMic cSrc cSt cAI cAJ D ad2 (fun q => s.heap.size ≤ q) s.heap H1 locs1 T1 (oJ aj cJ f1 :: oD ae cD g1 :: MW cI cJ cZ am S1) → lv_has ls1 9 [(5, .int (nI i)), (4, .ref ae), (3, .ref aj), (2, .ref (am 0)), (1, .ref (ad2 0)), (0, .ref b)] → W p l e room_1 s m #[Value.ref b] below meth c H1 locs1 (19 + T1.1 + (j + 1)) (38467 + sg T1 + 6 * (j + 1)) Q (F0 m 2439 ls1 [])) : W p l e room_1 s m #[Value.ref b] below meth c H locs (19 + T.1 + j) (38467 + sg T + 6 * j) Q (F0 m 1221 ls []) := by
  have E : cE p c cL_law s m #[Value.ref b] lw_tbl D RL (CT cI cJ cZ cMic cSrc cSt cAI cAJ ++ [(cD, .double)]) := ⟨hx, hb, hts, hown, hK⟩
  have hA : ∀ q : Nat, s.heap.size ≤ q → s.heap.size ≤ q := fun _ h => h
  have h0T : 0 < T.1 := Nat.lt_of_lt_of_le (by decide) hV.1.2.2
  have h0s : T.2.1 0 = (11, 0) := hV.2.1 0 ⟨by decide, by decide +kernel, by decide +kernel⟩
  refine lv_aload_n hx hb dL_law_1221 rfl (lv_at hl 4 rfl) ?_
  refine lv_aload hx hb dL_law_1222 (lv_at hl 1 rfl) ?_
  obtain ⟨⟨k1, r1, T1⟩, hg, hc⟩ := cs_X11_contrast T 0 hV (by decide +kernel)
  have hV1 : IV aR0 1586 aK1 aK2 T1 := hc.1.1
  have hg1 := s_X11_contrast hg
  have hg2 := sg_le hg1
  have hg3 := hg1.1
  have hk := hV1.2.2.2.2.2.2
  have hrc1 := hg1.2.2 hrc
  have hr0 := a_room
  have G := gL_swap G
  refine l_v (h0 := s.heap.size) (As := [.ref (ad 0), .ref ae]) (rest := []) E G hA hX hN (fun _ h => h) hTS hml (v_contrast l hst D s.heap.size ad T 0  ae g nn_contrast hg hrc h0T h0s) (vx_cwSW 2 hts (glA (L := [Cond.methodLink RL 305 yL_contrast, Cond.static yL_contrast, Cond.initialized RL]) (gl_in [(6, 97), (6, 98), (1, 0)] (by decide +kernel) (by decide +kernel)) ⟨(t_of [Cond.codeWith yL_contrast cL_contrast 3 (some .int) [(0, 8, 11, 21)]] [(6, 99)] (by decide +kernel) _ List.mem_cons_self), List.all_eq_true.mp (by decide +kernel : [Cond.codeWith yL_contrast cL_contrast 3 (some .int) [(0, 8, 11, 21)]].all goodWord = true) _ List.mem_cons_self⟩) rfl rfl rfl (by decide +kernel) ⟨Nat.le_of_ble_eq_true rfl, Nat.le_of_ble_eq_true rfl⟩) rfl hl.1 rfl (lv_room (Nat.le_of_ble_eq_true rfl)) dL_law_1224 ⟨by show _ ≤ 601024; omega, by show _ ≤ 7293034; omega⟩ ?_
  intro ad2 H locs had G
  have G := gL_swap G
  rw [← had 0 h0T] at hl
  refine lv_istore (lv' := [(6, .int (vck 1 0 0 k1)), (5, .int (nI i)), (4, .ref ae), (3, .ref aj), (2, .ref (am 0)), (1, .ref (ad2 0)), (0, .ref b)]) hx hb dL_law_1227 hl (by decide) rfl (fun ls hl => ?_)
  refine lv_aload_n hx hb dL_law_1229 rfl (lv_at hl 4 rfl) ?_
  obtain ⟨⟨r2, S1⟩, hf, hj⟩ := sj_contrast Sm hJ
  have hJ1 : JJ S1 := hj
  refine y_mf (As := []) (rest := []) E G hA hX.2.2.2.2 hml (tr_contrast l D cI cJ cZ am Sm  hf) (cwV 0 hts (glM (L := [Cond.methodLink RL 308 yX12_contrast, Cond.instanceMethod yX12_contrast, Cond.selects RX12 yX12_contrast yX12_contrast, Cond.initialized RX12]) (gl_in [(9, 220), (9, 221), (9, 222), (1, 14)] (by decide +kernel) (by decide +kernel)) ⟨(t_of [Cond.code yX12_contrast cX12_contrast 5 (some .float)] [(9, 223)] (by decide +kernel) _ List.mem_cons_self), List.all_eq_true.mp (by decide +kernel : [Cond.code yX12_contrast cX12_contrast 5 (some .float)].all goodWord = true) _ List.mem_cons_self⟩) rfl rfl rfl (by decide +kernel) ⟨Nat.le_of_ble_eq_true rfl, Nat.le_of_ble_eq_true rfl⟩) rfl hl.1 rfl (lv_room (Nat.le_of_ble_eq_true rfl)) dL_law_1230 ⟨by show _ ≤ 601024; omega, by show _ ≤ 7293034; omega⟩ (fun H locs G => ?_)
  refine lv_fstore (lv' := [(7, .float r2), (6, .int (vck 1 0 0 k1)), (5, .int (nI i)), (4, .ref ae), (3, .ref aj), (2, .ref (am 0)), (1, .ref (ad2 0)), (0, .ref b)]) hx hb dL_law_1233 hl (by decide) rfl (fun ls hl => ?_)
  refine lv_goto (tgt := 2439) hx hb dL_law_1235 (by decide) ?_
  have hl := lv_sub hl [2, 3, 4, 5, 6, 7] rfl
  refine W.widen (k := 19 + T1.1 + (j + 1)) (n := 38467 + sg T1 + 6 * (j + 1)) (by omega) (by omega) ?_
  exact kk ad2 f (vfD k1 g (FP.f2d r1)) H locs ls hg hf (had 0 h0T) hV1 hrc1 hJ1 G hl
set_option maxHeartbeats 4000000 in
set_option maxRecDepth 100000 in
theorem y_a33 {p : Program} {e : Env} {s : State} {m : MethodId} {below : List Frame} {meth : Method} {c : Code} (l : Launch) (hst : l.stackTraces = false) {b L : Nat} {xs : Nat → Int32} (hx : p.tables.exec = Jvm.exec) (hb : c.code = code) (hml : c.maxLocals = 9) (hown : s.vm.findClass RL = some m.cls) (hts : ∀ w ∈ lw_tbl, w.before #[Value.ref b] s = true) (hX0 : va_X b L xs s s.heap) (hbl : b < s.heap.size) (hX : xT (fun q => s.heap.size ≤ q) s) (hN : nC s) (hTS : sAll s.heap.size s) {D : va_G} {cI cJ cZ cMic cSrc cSt cAI cAJ cD : ClassId} (hK : va_K D vwCl (CT cI cJ cZ cMic cSrc cSt cAI cAJ ++ [(cD, .double)]) s) {Q : State → Prop} {i j : Nat} (hi : i + 6 ≤ L) (hL : L ≤ 3072) (hj : j < 512) {aj ae : Nat} {ad am : Nat → Nat} {T : AT} {Sm : MS} {f : Nat → Int64} {g : Nat → UInt64} {ls : Array Slot} {H : Heap} {locs : List Loc} (hV : IV aR0 1586 aK1 aK2 T) (hrc : RC T) (hJ : JJ Sm) (G : gL cI cJ cZ cMic cSrc cSt cAI cAJ D ad (fun q => s.heap.size ≤ q) s.heap H locs T (oJ aj cJ f :: oD ae cD g :: MW cI cJ cZ am Sm)) (hl : lv_has ls 9 [(5, .int (nI i)), (4, .ref ae), (3, .ref aj), (2, .ref (am 0)), (1, .ref (ad 0)), (0, .ref b)]) (kk : ∀ {k1 : Nat} {r1 : Int32} {T1 : AT} {r2 : Int32} {S1 : MS} (ad2 : Nat → Nat) (f1 : Nat → Int64) (g1 : Nat → UInt64) (H1 : Heap) (locs1 : List Loc) (ls1 : Array Slot), g_X11_alias T 0 (xs (i + 1)) (xs (i + 2)) (xs (i + 3)) = some (k1, r1, T1) → fr_alias Sm (xs (i + 1)) (xs (i + 2)) (xs (i + 3)) = some (r2, S1) → ad2 0 = ad 0 → IV aR0 1586 aK1 aK2 T1 → RC T1 → JJ S1 → gL cI cJ cZ cMic cSrc cSt cAI cAJ D ad2 (fun q => s.heap.size ≤ q) s.heap H1 locs1 T1 (oJ aj cJ f1 :: oD ae cD g1 :: MW cI cJ cZ am S1) → lv_has ls1 9 [(5, .int (nI i)), (4, .ref ae), (3, .ref aj), (2, .ref (am 0)), (1, .ref (ad2 0)), (0, .ref b)] → W p l e room_1 s m #[Value.ref b] below meth c H1 locs1 (19 + T1.1 + (j + 1)) (38467 + sg T1 + 6 * (j + 1)) Q (F0 m 2439 ls1 [])) : W p l e room_1 s m #[Value.ref b] below meth c H locs (19 + T.1 + j) (38467 + sg T + 6 * j) Q (F0 m 1238 ls []) := by
  have E : cE p c cL_law s m #[Value.ref b] lw_tbl D RL (CT cI cJ cZ cMic cSrc cSt cAI cAJ ++ [(cD, .double)]) := ⟨hx, hb, hts, hown, hK⟩
  have hA : ∀ q : Nat, s.heap.size ≤ q → s.heap.size ≤ q := fun _ h => h
  have h0T : 0 < T.1 := Nat.lt_of_lt_of_le (by decide) hV.1.2.2
  have h0s : T.2.1 0 = (11, 0) := hV.2.1 0 ⟨by decide, by decide +kernel, by decide +kernel⟩
  refine lv_aload_n hx hb dL_law_1238 rfl (lv_at hl 4 rfl) ?_
  refine lv_aload_n hx hb dL_law_1239 rfl (lv_at hl 5 rfl) ?_
  refine lv_iload hx hb dL_law_1240 (lv_at hl 0 rfl) ?_
  refine lv_iconst (v := 1) hx hb dL_law_1242 (by decide) ?_
  refine lv_iadd hx hb dL_law_1243 ?_
  refine lv_to (y := nI (i + 1)) (nI_add i 1) ?_
  refine va_sld hx hb hX0 hbl (Nat.not_le.mpr hbl) G.2.2 (i := nI (i + 1)) (vp_in_nI (n := i + 1) (N := L) (by omega) (by omega)) dL_law_1244 ?_
  refine lv_to (y := xs (i + 1)) (congrArg xs (nI_clamp (by omega))) ?_
  refine lv_aload_n hx hb dL_law_1245 rfl (lv_at hl 5 rfl) ?_
  refine lv_iload hx hb dL_law_1246 (lv_at hl 0 rfl) ?_
  refine lv_iconst (v := 2) hx hb dL_law_1248 (by decide) ?_
  refine lv_iadd hx hb dL_law_1249 ?_
  refine lv_to (y := nI (i + 2)) (nI_add i 2) ?_
  refine va_sld hx hb hX0 hbl (Nat.not_le.mpr hbl) G.2.2 (i := nI (i + 2)) (vp_in_nI (n := i + 2) (N := L) (by omega) (by omega)) dL_law_1250 ?_
  refine lv_to (y := xs (i + 2)) (congrArg xs (nI_clamp (by omega))) ?_
  refine lv_aload_n hx hb dL_law_1251 rfl (lv_at hl 5 rfl) ?_
  refine lv_iload hx hb dL_law_1252 (lv_at hl 0 rfl) ?_
  refine lv_iconst (v := 3) hx hb dL_law_1254 (by decide) ?_
  refine lv_iadd hx hb dL_law_1255 ?_
  refine lv_to (y := nI (i + 3)) (nI_add i 3) ?_
  refine va_sld hx hb hX0 hbl (Nat.not_le.mpr hbl) G.2.2 (i := nI (i + 3)) (vp_in_nI (n := i + 3) (N := L) (by omega) (by omega)) dL_law_1256 ?_
  refine lv_to (y := xs (i + 3)) (congrArg xs (nI_clamp (by omega))) ?_
  refine lv_aload_n hx hb dL_law_1257 rfl (lv_at hl 2 rfl) ?_
  obtain ⟨⟨k1, r1, T1⟩, hg, hc⟩ := cs_X11_alias T 0 (xs (i + 1)) (xs (i + 2)) (xs (i + 3)) hV (by decide +kernel)
  have hV1 : IV aR0 1586 aK1 aK2 T1 := by rw [show T1 = T from hc.1]; exact hV
  have hg1 := (gl_sp (s_X11_alias hg))
  have hg2 := sg_le hg1
  have hg3 := hg1.1
  have hk := hV1.2.2.2.2.2.2
  have hrc1 := hg1.2.2 hrc
  have hr0 := a_room
  refine l_v (h0 := s.heap.size) (As := [.ref (ad 0), .int (xs (i + 1)), .int (xs (i + 2)), .int (xs (i + 3)), .ref aj]) (rest := []) E G hA hX hN (fun _ h => h) hTS hml (v_alias l hst D s.heap.size ad T 0 (xs (i + 1)) (xs (i + 2)) (xs (i + 3)) aj f hg hrc h0T h0s) (vx_cwSW 5 hts (glA (L := [Cond.methodLink RL 309 yL_alias, Cond.static yL_alias, Cond.initialized RL]) (gl_in [(6, 121), (6, 122), (1, 0)] (by decide +kernel) (by decide +kernel)) ⟨(t_of [Cond.codeWith yL_alias cL_alias 6 (some .int) [(0, 12, 15, 21), (0, 12, 19, 13), (0, 12, 23, 15)]] [(6, 123)] (by decide +kernel) _ List.mem_cons_self), List.all_eq_true.mp (by decide +kernel : [Cond.codeWith yL_alias cL_alias 6 (some .int) [(0, 12, 15, 21), (0, 12, 19, 13), (0, 12, 23, 15)]].all goodWord = true) _ List.mem_cons_self⟩) rfl rfl rfl (by decide +kernel) ⟨Nat.le_of_ble_eq_true rfl, Nat.le_of_ble_eq_true rfl⟩) rfl hl.1 rfl (lv_room (Nat.le_of_ble_eq_true rfl)) dL_law_1258 ⟨by show _ ≤ 601024; omega, by show _ ≤ 7293034; omega⟩ ?_
  intro ad2 H locs had G
  rw [← had 0 h0T] at hl
  refine lv_istore (lv' := [(6, .int (vck 1 2 3 k1)), (5, .int (nI i)), (4, .ref ae), (3, .ref aj), (2, .ref (am 0)), (1, .ref (ad2 0)), (0, .ref b)]) hx hb dL_law_1261 hl (by decide) rfl (fun ls hl => ?_)
  refine lv_aload_n hx hb dL_law_1263 rfl (lv_at hl 4 rfl) ?_
  refine lv_aload_n hx hb dL_law_1264 rfl (lv_at hl 6 rfl) ?_
  refine lv_iload hx hb dL_law_1265 (lv_at hl 1 rfl) ?_
  refine lv_iconst (v := 1) hx hb dL_law_1267 (by decide) ?_
  refine lv_iadd hx hb dL_law_1268 ?_
  refine lv_to (y := nI (i + 1)) (nI_add i 1) ?_
  refine va_sld hx hb hX0 hbl (Nat.not_le.mpr hbl) G.2.2 (i := nI (i + 1)) (vp_in_nI (n := i + 1) (N := L) (by omega) (by omega)) dL_law_1269 ?_
  refine lv_to (y := xs (i + 1)) (congrArg xs (nI_clamp (by omega))) ?_
  refine lv_aload_n hx hb dL_law_1270 rfl (lv_at hl 6 rfl) ?_
  refine lv_iload hx hb dL_law_1271 (lv_at hl 1 rfl) ?_
  refine lv_iconst (v := 2) hx hb dL_law_1273 (by decide) ?_
  refine lv_iadd hx hb dL_law_1274 ?_
  refine lv_to (y := nI (i + 2)) (nI_add i 2) ?_
  refine va_sld hx hb hX0 hbl (Nat.not_le.mpr hbl) G.2.2 (i := nI (i + 2)) (vp_in_nI (n := i + 2) (N := L) (by omega) (by omega)) dL_law_1275 ?_
  refine lv_to (y := xs (i + 2)) (congrArg xs (nI_clamp (by omega))) ?_
  refine lv_aload_n hx hb dL_law_1276 rfl (lv_at hl 6 rfl) ?_
  refine lv_iload hx hb dL_law_1277 (lv_at hl 1 rfl) ?_
  refine lv_iconst (v := 3) hx hb dL_law_1279 (by decide) ?_
  refine lv_iadd hx hb dL_law_1280 ?_
  refine lv_to (y := nI (i + 3)) (nI_add i 3) ?_
  refine va_sld hx hb hX0 hbl (Nat.not_le.mpr hbl) G.2.2 (i := nI (i + 3)) (vp_in_nI (n := i + 3) (N := L) (by omega) (by omega)) dL_law_1281 ?_
  refine lv_to (y := xs (i + 3)) (congrArg xs (nI_clamp (by omega))) ?_
  obtain ⟨⟨r2, S1⟩, hf, hj⟩ := sj_alias Sm (xs (i + 1)) (xs (i + 2)) (xs (i + 3)) hJ
  have hJ1 : JJ S1 := hj
  refine y_mi (As := [.int (xs (i + 1)), .int (xs (i + 2)), .int (xs (i + 3))]) (rest := []) E G hA hX.2.2.2.2 hml (tr_alias l D cI cJ cZ am Sm (xs (i + 1)) (xs (i + 2)) (xs (i + 3)) hf) (cwV 3 hts (glM (L := [Cond.methodLink RL 311 yX12_alias, Cond.instanceMethod yX12_alias, Cond.selects RX12 yX12_alias yX12_alias, Cond.initialized RX12]) (gl_in [(9, 227), (9, 228), (9, 229), (1, 14)] (by decide +kernel) (by decide +kernel)) ⟨(t_of [Cond.code yX12_alias cX12_alias 4 (some .int)] [(9, 230)] (by decide +kernel) _ List.mem_cons_self), List.all_eq_true.mp (by decide +kernel : [Cond.code yX12_alias cX12_alias 4 (some .int)].all goodWord = true) _ List.mem_cons_self⟩) rfl rfl rfl (by decide +kernel) ⟨Nat.le_of_ble_eq_true rfl, Nat.le_of_ble_eq_true rfl⟩) rfl hl.1 rfl (lv_room (Nat.le_of_ble_eq_true rfl)) dL_law_1282 ⟨by show _ ≤ 601024; omega, by show _ ≤ 7293034; omega⟩ (fun H locs G => ?_)
  refine lv_istore (lv' := [(7, .int r2), (6, .int (vck 1 2 3 k1)), (5, .int (nI i)), (4, .ref ae), (3, .ref aj), (2, .ref (am 0)), (1, .ref (ad2 0)), (0, .ref b)]) hx hb dL_law_1285 hl (by decide) rfl (fun ls hl => ?_)
  refine lv_goto (tgt := 2439) hx hb dL_law_1287 (by decide) ?_
  have hl := lv_sub hl [2, 3, 4, 5, 6, 7] rfl
  refine W.widen (k := 19 + T1.1 + (j + 1)) (n := 38467 + sg T1 + 6 * (j + 1)) (by omega) (by omega) ?_
  exact kk ad2 (vfJ k1 f r1.toInt64) g H locs ls hg hf (had 0 h0T) hV1 hrc1 hJ1 G hl
set_option maxHeartbeats 4000000 in
set_option maxRecDepth 100000 in
theorem y_a34 {p : Program} {e : Env} {s : State} {m : MethodId} {below : List Frame} {meth : Method} {c : Code} (l : Launch) (hst : l.stackTraces = false) {b L : Nat} {xs : Nat → Int32} (hx : p.tables.exec = Jvm.exec) (hb : c.code = code) (hml : c.maxLocals = 9) (hown : s.vm.findClass RL = some m.cls) (hts : ∀ w ∈ lw_tbl, w.before #[Value.ref b] s = true) (hX0 : va_X b L xs s s.heap) (hbl : b < s.heap.size) (hX : xT (fun q => s.heap.size ≤ q) s) (hN : nC s) (hTS : sAll s.heap.size s) {D : va_G} {cI cJ cZ cMic cSrc cSt cAI cAJ cD : ClassId} (hK : va_K D vwCl (CT cI cJ cZ cMic cSrc cSt cAI cAJ ++ [(cD, .double)]) s) {Q : State → Prop} {i j : Nat} (hi : i + 6 ≤ L) (hL : L ≤ 3072) (hj : j < 512) {aj ae : Nat} {ad am : Nat → Nat} {T : AT} {Sm : MS} {f : Nat → Int64} {g : Nat → UInt64} {ls : Array Slot} {H : Heap} {locs : List Loc} (hV : IV aR0 1586 aK1 aK2 T) (hrc : RC T) (hJ : JJ Sm) (G : gL cI cJ cZ cMic cSrc cSt cAI cAJ D ad (fun q => s.heap.size ≤ q) s.heap H locs T (oJ aj cJ f :: oD ae cD g :: MW cI cJ cZ am Sm)) (hl : lv_has ls 9 [(5, .int (nI i)), (4, .ref ae), (3, .ref aj), (2, .ref (am 0)), (1, .ref (ad 0)), (0, .ref b)]) (kk : ∀ {k1 : Nat} {r1 : Int32} {T1 : AT} {r2 : Int32} {S1 : MS} (ad2 : Nat → Nat) (f1 : Nat → Int64) (g1 : Nat → UInt64) (H1 : Heap) (locs1 : List Loc) (ls1 : Array Slot), g_X11_isAlias T 0 (xs (i + 1)) (xs (i + 2)) (xs (i + 3)) = some (k1, r1, T1) → fr_isAlias Sm (xs (i + 1)) (xs (i + 2)) (xs (i + 3)) = some (r2, S1) → ad2 0 = ad 0 → IV aR0 1586 aK1 aK2 T1 → RC T1 → JJ S1 → gL cI cJ cZ cMic cSrc cSt cAI cAJ D ad2 (fun q => s.heap.size ≤ q) s.heap H1 locs1 T1 (oJ aj cJ f1 :: oD ae cD g1 :: MW cI cJ cZ am S1) → lv_has ls1 9 [(5, .int (nI i)), (4, .ref ae), (3, .ref aj), (2, .ref (am 0)), (1, .ref (ad2 0)), (0, .ref b)] → W p l e room_1 s m #[Value.ref b] below meth c H1 locs1 (19 + T1.1 + (j + 1)) (38467 + sg T1 + 6 * (j + 1)) Q (F0 m 2439 ls1 [])) : W p l e room_1 s m #[Value.ref b] below meth c H locs (19 + T.1 + j) (38467 + sg T + 6 * j) Q (F0 m 1290 ls []) := by
  have E : cE p c cL_law s m #[Value.ref b] lw_tbl D RL (CT cI cJ cZ cMic cSrc cSt cAI cAJ ++ [(cD, .double)]) := ⟨hx, hb, hts, hown, hK⟩
  have hA : ∀ q : Nat, s.heap.size ≤ q → s.heap.size ≤ q := fun _ h => h
  have h0T : 0 < T.1 := Nat.lt_of_lt_of_le (by decide) hV.1.2.2
  have h0s : T.2.1 0 = (11, 0) := hV.2.1 0 ⟨by decide, by decide +kernel, by decide +kernel⟩
  refine lv_aload_n hx hb dL_law_1290 rfl (lv_at hl 4 rfl) ?_
  refine lv_aload_n hx hb dL_law_1291 rfl (lv_at hl 5 rfl) ?_
  refine lv_iload hx hb dL_law_1292 (lv_at hl 0 rfl) ?_
  refine lv_iconst (v := 1) hx hb dL_law_1294 (by decide) ?_
  refine lv_iadd hx hb dL_law_1295 ?_
  refine lv_to (y := nI (i + 1)) (nI_add i 1) ?_
  refine va_sld hx hb hX0 hbl (Nat.not_le.mpr hbl) G.2.2 (i := nI (i + 1)) (vp_in_nI (n := i + 1) (N := L) (by omega) (by omega)) dL_law_1296 ?_
  refine lv_to (y := xs (i + 1)) (congrArg xs (nI_clamp (by omega))) ?_
  refine lv_aload_n hx hb dL_law_1297 rfl (lv_at hl 5 rfl) ?_
  refine lv_iload hx hb dL_law_1298 (lv_at hl 0 rfl) ?_
  refine lv_iconst (v := 2) hx hb dL_law_1300 (by decide) ?_
  refine lv_iadd hx hb dL_law_1301 ?_
  refine lv_to (y := nI (i + 2)) (nI_add i 2) ?_
  refine va_sld hx hb hX0 hbl (Nat.not_le.mpr hbl) G.2.2 (i := nI (i + 2)) (vp_in_nI (n := i + 2) (N := L) (by omega) (by omega)) dL_law_1302 ?_
  refine lv_to (y := xs (i + 2)) (congrArg xs (nI_clamp (by omega))) ?_
  refine lv_aload_n hx hb dL_law_1303 rfl (lv_at hl 5 rfl) ?_
  refine lv_iload hx hb dL_law_1304 (lv_at hl 0 rfl) ?_
  refine lv_iconst (v := 3) hx hb dL_law_1306 (by decide) ?_
  refine lv_iadd hx hb dL_law_1307 ?_
  refine lv_to (y := nI (i + 3)) (nI_add i 3) ?_
  refine va_sld hx hb hX0 hbl (Nat.not_le.mpr hbl) G.2.2 (i := nI (i + 3)) (vp_in_nI (n := i + 3) (N := L) (by omega) (by omega)) dL_law_1308 ?_
  refine lv_to (y := xs (i + 3)) (congrArg xs (nI_clamp (by omega))) ?_
  refine lv_aload_n hx hb dL_law_1309 rfl (lv_at hl 2 rfl) ?_
  obtain ⟨⟨k1, r1, T1⟩, hg, hc⟩ := cs_X11_isAlias T 0 (xs (i + 1)) (xs (i + 2)) (xs (i + 3)) hV (by decide +kernel)
  have hV1 : IV aR0 1586 aK1 aK2 T1 := hc.1.1
  have hg1 := s_X11_isAlias hg
  have hg2 := sg_le hg1
  have hg3 := hg1.1
  have hk := hV1.2.2.2.2.2.2
  have hrc1 := hg1.2.2 hrc
  have hr0 := a_room
  refine l_v (h0 := s.heap.size) (As := [.ref (ad 0), .int (xs (i + 1)), .int (xs (i + 2)), .int (xs (i + 3)), .ref aj]) (rest := []) E G hA hX hN (fun _ h => h) hTS hml (v_isAlias l hst D s.heap.size ad T 0 (xs (i + 1)) (xs (i + 2)) (xs (i + 3)) aj f hg hrc h0T h0s) (vx_cwSW 5 hts (glA (L := [Cond.methodLink RL 312 yL_isAlias, Cond.static yL_isAlias, Cond.initialized RL]) (gl_in [(6, 134), (6, 135), (1, 0)] (by decide +kernel) (by decide +kernel)) ⟨(t_of [Cond.codeWith yL_isAlias cL_isAlias 6 (some .int) [(0, 19, 22, 21), (0, 19, 26, 13), (0, 19, 30, 15)]] [(6, 136)] (by decide +kernel) _ List.mem_cons_self), List.all_eq_true.mp (by decide +kernel : [Cond.codeWith yL_isAlias cL_isAlias 6 (some .int) [(0, 19, 22, 21), (0, 19, 26, 13), (0, 19, 30, 15)]].all goodWord = true) _ List.mem_cons_self⟩) rfl rfl rfl (by decide +kernel) ⟨Nat.le_of_ble_eq_true rfl, Nat.le_of_ble_eq_true rfl⟩) rfl hl.1 rfl (lv_room (Nat.le_of_ble_eq_true rfl)) dL_law_1310 ⟨by show _ ≤ 601024; omega, by show _ ≤ 7293034; omega⟩ ?_
  intro ad2 H locs had G
  rw [← had 0 h0T] at hl
  refine lv_istore (lv' := [(6, .int (vck 1 2 3 k1)), (5, .int (nI i)), (4, .ref ae), (3, .ref aj), (2, .ref (am 0)), (1, .ref (ad2 0)), (0, .ref b)]) hx hb dL_law_1313 hl (by decide) rfl (fun ls hl => ?_)
  refine lv_aload_n hx hb dL_law_1315 rfl (lv_at hl 4 rfl) ?_
  refine lv_aload_n hx hb dL_law_1316 rfl (lv_at hl 6 rfl) ?_
  refine lv_iload hx hb dL_law_1317 (lv_at hl 1 rfl) ?_
  refine lv_iconst (v := 1) hx hb dL_law_1319 (by decide) ?_
  refine lv_iadd hx hb dL_law_1320 ?_
  refine lv_to (y := nI (i + 1)) (nI_add i 1) ?_
  refine va_sld hx hb hX0 hbl (Nat.not_le.mpr hbl) G.2.2 (i := nI (i + 1)) (vp_in_nI (n := i + 1) (N := L) (by omega) (by omega)) dL_law_1321 ?_
  refine lv_to (y := xs (i + 1)) (congrArg xs (nI_clamp (by omega))) ?_
  refine lv_aload_n hx hb dL_law_1322 rfl (lv_at hl 6 rfl) ?_
  refine lv_iload hx hb dL_law_1323 (lv_at hl 1 rfl) ?_
  refine lv_iconst (v := 2) hx hb dL_law_1325 (by decide) ?_
  refine lv_iadd hx hb dL_law_1326 ?_
  refine lv_to (y := nI (i + 2)) (nI_add i 2) ?_
  refine va_sld hx hb hX0 hbl (Nat.not_le.mpr hbl) G.2.2 (i := nI (i + 2)) (vp_in_nI (n := i + 2) (N := L) (by omega) (by omega)) dL_law_1327 ?_
  refine lv_to (y := xs (i + 2)) (congrArg xs (nI_clamp (by omega))) ?_
  refine lv_aload_n hx hb dL_law_1328 rfl (lv_at hl 6 rfl) ?_
  refine lv_iload hx hb dL_law_1329 (lv_at hl 1 rfl) ?_
  refine lv_iconst (v := 3) hx hb dL_law_1331 (by decide) ?_
  refine lv_iadd hx hb dL_law_1332 ?_
  refine lv_to (y := nI (i + 3)) (nI_add i 3) ?_
  refine va_sld hx hb hX0 hbl (Nat.not_le.mpr hbl) G.2.2 (i := nI (i + 3)) (vp_in_nI (n := i + 3) (N := L) (by omega) (by omega)) dL_law_1333 ?_
  refine lv_to (y := xs (i + 3)) (congrArg xs (nI_clamp (by omega))) ?_
  obtain ⟨⟨r2, S1⟩, hf, hj⟩ := sj_isAlias Sm (xs (i + 1)) (xs (i + 2)) (xs (i + 3)) hJ
  have hJ1 : JJ S1 := hj
  refine y_mi (As := [.int (xs (i + 1)), .int (xs (i + 2)), .int (xs (i + 3))]) (rest := []) E G hA hX.2.2.2.2 hml (tr_isAlias l D cI cJ cZ am Sm (xs (i + 1)) (xs (i + 2)) (xs (i + 3)) hf) (cwV 3 hts (glM (L := [Cond.methodLink RL 314 yX12_isAlias, Cond.instanceMethod yX12_isAlias, Cond.selects RX12 yX12_isAlias yX12_isAlias, Cond.initialized RX12]) (gl_in [(10, 2), (10, 3), (10, 4), (1, 14)] (by decide +kernel) (by decide +kernel)) ⟨(t_of [Cond.code yX12_isAlias cX12_isAlias 4 (some .boolean)] [(10, 5)] (by decide +kernel) _ List.mem_cons_self), List.all_eq_true.mp (by decide +kernel : [Cond.code yX12_isAlias cX12_isAlias 4 (some .boolean)].all goodWord = true) _ List.mem_cons_self⟩) rfl rfl rfl (by decide +kernel) ⟨Nat.le_of_ble_eq_true rfl, Nat.le_of_ble_eq_true rfl⟩) rfl hl.1 rfl (lv_room (Nat.le_of_ble_eq_true rfl)) dL_law_1334 ⟨by show _ ≤ 601024; omega, by show _ ≤ 7293034; omega⟩ (fun H locs G => ?_)
  refine lv_istore (lv' := [(7, .int r2), (6, .int (vck 1 2 3 k1)), (5, .int (nI i)), (4, .ref ae), (3, .ref aj), (2, .ref (am 0)), (1, .ref (ad2 0)), (0, .ref b)]) hx hb dL_law_1337 hl (by decide) rfl (fun ls hl => ?_)
  refine lv_goto (tgt := 2439) hx hb dL_law_1339 (by decide) ?_
  have hl := lv_sub hl [2, 3, 4, 5, 6, 7] rfl
  refine W.widen (k := 19 + T1.1 + (j + 1)) (n := 38467 + sg T1 + 6 * (j + 1)) (by omega) (by omega) ?_
  exact kk ad2 (vfJ k1 f (vzb r1)) g H locs ls hg hf (had 0 h0T) hV1 hrc1 hJ1 G hl
set_option maxHeartbeats 4000000 in
set_option maxRecDepth 100000 in
theorem y_a35 {p : Program} {e : Env} {s : State} {m : MethodId} {below : List Frame} {meth : Method} {c : Code} (l : Launch) (hst : l.stackTraces = false) {b L : Nat} {xs : Nat → Int32} (hx : p.tables.exec = Jvm.exec) (hb : c.code = code) (hml : c.maxLocals = 9) (hown : s.vm.findClass RL = some m.cls) (hts : ∀ w ∈ lw_tbl, w.before #[Value.ref b] s = true) (hX0 : va_X b L xs s s.heap) (hbl : b < s.heap.size) (hX : xT (fun q => s.heap.size ≤ q) s) (hN : nC s) (hTS : sAll s.heap.size s) {D : va_G} {cI cJ cZ cMic cSrc cSt cAI cAJ cD : ClassId} (hK : va_K D vwCl (CT cI cJ cZ cMic cSrc cSt cAI cAJ ++ [(cD, .double)]) s) {Q : State → Prop} {i j : Nat} (hi : i + 6 ≤ L) (hL : L ≤ 3072) (hj : j < 512) {aj ae : Nat} {ad am : Nat → Nat} {T : AT} {Sm : MS} {f : Nat → Int64} {g : Nat → UInt64} {ls : Array Slot} {H : Heap} {locs : List Loc} (hV : IV aR0 1586 aK1 aK2 T) (hrc : RC T) (hJ : JJ Sm) (G : gL cI cJ cZ cMic cSrc cSt cAI cAJ D ad (fun q => s.heap.size ≤ q) s.heap H locs T (oJ aj cJ f :: oD ae cD g :: MW cI cJ cZ am Sm)) (hl : lv_has ls 9 [(5, .int (nI i)), (4, .ref ae), (3, .ref aj), (2, .ref (am 0)), (1, .ref (ad 0)), (0, .ref b)]) (kk : ∀ {k1 : Nat} {r1 : Int32} {T1 : AT} {r2 : Int32} {S1 : MS} (ad2 : Nat → Nat) (f1 : Nat → Int64) (g1 : Nat → UInt64) (H1 : Heap) (locs1 : List Loc) (ls1 : Array Slot), g_X11_aliases T 0 (xs (i + 1)) (xs (i + 2)) = some (k1, r1, T1) → fr_aliases Sm (xs (i + 1)) (xs (i + 2)) = some (r2, S1) → ad2 0 = ad 0 → IV aR0 1586 aK1 aK2 T1 → RC T1 → JJ S1 → gL cI cJ cZ cMic cSrc cSt cAI cAJ D ad2 (fun q => s.heap.size ≤ q) s.heap H1 locs1 T1 (oJ aj cJ f1 :: oD ae cD g1 :: MW cI cJ cZ am S1) → lv_has ls1 9 [(5, .int (nI i)), (4, .ref ae), (3, .ref aj), (2, .ref (am 0)), (1, .ref (ad2 0)), (0, .ref b)] → W p l e room_1 s m #[Value.ref b] below meth c H1 locs1 (19 + T1.1 + (j + 1)) (38467 + sg T1 + 6 * (j + 1)) Q (F0 m 2439 ls1 [])) : W p l e room_1 s m #[Value.ref b] below meth c H locs (19 + T.1 + j) (38467 + sg T + 6 * j) Q (F0 m 1342 ls []) := by
  have E : cE p c cL_law s m #[Value.ref b] lw_tbl D RL (CT cI cJ cZ cMic cSrc cSt cAI cAJ ++ [(cD, .double)]) := ⟨hx, hb, hts, hown, hK⟩
  have hA : ∀ q : Nat, s.heap.size ≤ q → s.heap.size ≤ q := fun _ h => h
  have h0T : 0 < T.1 := Nat.lt_of_lt_of_le (by decide) hV.1.2.2
  have h0s : T.2.1 0 = (11, 0) := hV.2.1 0 ⟨by decide, by decide +kernel, by decide +kernel⟩
  refine lv_aload_n hx hb dL_law_1342 rfl (lv_at hl 4 rfl) ?_
  refine lv_aload_n hx hb dL_law_1343 rfl (lv_at hl 5 rfl) ?_
  refine lv_iload hx hb dL_law_1344 (lv_at hl 0 rfl) ?_
  refine lv_iconst (v := 1) hx hb dL_law_1346 (by decide) ?_
  refine lv_iadd hx hb dL_law_1347 ?_
  refine lv_to (y := nI (i + 1)) (nI_add i 1) ?_
  refine va_sld hx hb hX0 hbl (Nat.not_le.mpr hbl) G.2.2 (i := nI (i + 1)) (vp_in_nI (n := i + 1) (N := L) (by omega) (by omega)) dL_law_1348 ?_
  refine lv_to (y := xs (i + 1)) (congrArg xs (nI_clamp (by omega))) ?_
  refine lv_aload_n hx hb dL_law_1349 rfl (lv_at hl 5 rfl) ?_
  refine lv_iload hx hb dL_law_1350 (lv_at hl 0 rfl) ?_
  refine lv_iconst (v := 2) hx hb dL_law_1352 (by decide) ?_
  refine lv_iadd hx hb dL_law_1353 ?_
  refine lv_to (y := nI (i + 2)) (nI_add i 2) ?_
  refine va_sld hx hb hX0 hbl (Nat.not_le.mpr hbl) G.2.2 (i := nI (i + 2)) (vp_in_nI (n := i + 2) (N := L) (by omega) (by omega)) dL_law_1354 ?_
  refine lv_to (y := xs (i + 2)) (congrArg xs (nI_clamp (by omega))) ?_
  refine lv_aload_n hx hb dL_law_1355 rfl (lv_at hl 2 rfl) ?_
  obtain ⟨⟨k1, r1, T1⟩, hg, hc⟩ := cs_X11_aliases T 0 (xs (i + 1)) (xs (i + 2)) hV (by decide +kernel)
  have hV1 : IV aR0 1586 aK1 aK2 T1 := hc.1.1
  have hg1 := s_X11_aliases hg
  have hg2 := sg_le hg1
  have hg3 := hg1.1
  have hk := hV1.2.2.2.2.2.2
  have hrc1 := hg1.2.2 hrc
  have hr0 := a_room
  refine l_v (h0 := s.heap.size) (As := [.ref (ad 0), .int (xs (i + 1)), .int (xs (i + 2)), .ref aj]) (rest := []) E G hA hX hN (fun _ h => h) hTS hml (v_aliases l hst D s.heap.size ad T 0 (xs (i + 1)) (xs (i + 2)) aj f hg hrc h0T h0s) (vx_cwSW 4 hts (glA (L := [Cond.methodLink RL 315 yL_aliases, Cond.static yL_aliases, Cond.initialized RL]) (gl_in [(6, 149), (6, 150), (1, 0)] (by decide +kernel) (by decide +kernel)) ⟨(t_of [Cond.codeWith yL_aliases cL_aliases 5 (some .int) [(0, 10, 13, 21), (0, 10, 17, 15)]] [(6, 151)] (by decide +kernel) _ List.mem_cons_self), List.all_eq_true.mp (by decide +kernel : [Cond.codeWith yL_aliases cL_aliases 5 (some .int) [(0, 10, 13, 21), (0, 10, 17, 15)]].all goodWord = true) _ List.mem_cons_self⟩) rfl rfl rfl (by decide +kernel) ⟨Nat.le_of_ble_eq_true rfl, Nat.le_of_ble_eq_true rfl⟩) rfl hl.1 rfl (lv_room (Nat.le_of_ble_eq_true rfl)) dL_law_1356 ⟨by show _ ≤ 601024; omega, by show _ ≤ 7293034; omega⟩ ?_
  intro ad2 H locs had G
  rw [← had 0 h0T] at hl
  refine lv_istore (lv' := [(6, .int (vck 1 0 2 k1)), (5, .int (nI i)), (4, .ref ae), (3, .ref aj), (2, .ref (am 0)), (1, .ref (ad2 0)), (0, .ref b)]) hx hb dL_law_1359 hl (by decide) rfl (fun ls hl => ?_)
  refine lv_aload_n hx hb dL_law_1361 rfl (lv_at hl 4 rfl) ?_
  refine lv_aload_n hx hb dL_law_1362 rfl (lv_at hl 6 rfl) ?_
  refine lv_iload hx hb dL_law_1363 (lv_at hl 1 rfl) ?_
  refine lv_iconst (v := 1) hx hb dL_law_1365 (by decide) ?_
  refine lv_iadd hx hb dL_law_1366 ?_
  refine lv_to (y := nI (i + 1)) (nI_add i 1) ?_
  refine va_sld hx hb hX0 hbl (Nat.not_le.mpr hbl) G.2.2 (i := nI (i + 1)) (vp_in_nI (n := i + 1) (N := L) (by omega) (by omega)) dL_law_1367 ?_
  refine lv_to (y := xs (i + 1)) (congrArg xs (nI_clamp (by omega))) ?_
  refine lv_aload_n hx hb dL_law_1368 rfl (lv_at hl 6 rfl) ?_
  refine lv_iload hx hb dL_law_1369 (lv_at hl 1 rfl) ?_
  refine lv_iconst (v := 2) hx hb dL_law_1371 (by decide) ?_
  refine lv_iadd hx hb dL_law_1372 ?_
  refine lv_to (y := nI (i + 2)) (nI_add i 2) ?_
  refine va_sld hx hb hX0 hbl (Nat.not_le.mpr hbl) G.2.2 (i := nI (i + 2)) (vp_in_nI (n := i + 2) (N := L) (by omega) (by omega)) dL_law_1373 ?_
  refine lv_to (y := xs (i + 2)) (congrArg xs (nI_clamp (by omega))) ?_
  obtain ⟨⟨r2, S1⟩, hf, hj⟩ := sj_aliases Sm (xs (i + 1)) (xs (i + 2)) hJ
  have hJ1 : JJ S1 := hj
  refine y_mi (As := [.int (xs (i + 1)), .int (xs (i + 2))]) (rest := []) E G hA hX.2.2.2.2 hml (tr_aliases l D cI cJ cZ am Sm (xs (i + 1)) (xs (i + 2)) hf) (cwV 2 hts (glM (L := [Cond.methodLink RL 317 yX12_aliases, Cond.instanceMethod yX12_aliases, Cond.selects RX12 yX12_aliases yX12_aliases, Cond.initialized RX12]) (gl_in [(10, 13), (10, 14), (10, 15), (1, 14)] (by decide +kernel) (by decide +kernel)) ⟨(t_of [Cond.code yX12_aliases cX12_aliases 6 (some .int)] [(10, 16)] (by decide +kernel) _ List.mem_cons_self), List.all_eq_true.mp (by decide +kernel : [Cond.code yX12_aliases cX12_aliases 6 (some .int)].all goodWord = true) _ List.mem_cons_self⟩) rfl rfl rfl (by decide +kernel) ⟨Nat.le_of_ble_eq_true rfl, Nat.le_of_ble_eq_true rfl⟩) rfl hl.1 rfl (lv_room (Nat.le_of_ble_eq_true rfl)) dL_law_1374 ⟨by show _ ≤ 601024; omega, by show _ ≤ 7293034; omega⟩ (fun H locs G => ?_)
  refine lv_istore (lv' := [(7, .int r2), (6, .int (vck 1 0 2 k1)), (5, .int (nI i)), (4, .ref ae), (3, .ref aj), (2, .ref (am 0)), (1, .ref (ad2 0)), (0, .ref b)]) hx hb dL_law_1377 hl (by decide) rfl (fun ls hl => ?_)
  refine lv_goto (tgt := 2439) hx hb dL_law_1379 (by decide) ?_
  have hl := lv_sub hl [2, 3, 4, 5, 6, 7] rfl
  refine W.widen (k := 19 + T1.1 + (j + 1)) (n := 38467 + sg T1 + 6 * (j + 1)) (by omega) (by omega) ?_
  exact kk ad2 (vfJ k1 f r1.toInt64) g H locs ls hg hf (had 0 h0T) hV1 hrc1 hJ1 G hl
set_option maxHeartbeats 4000000 in
set_option maxRecDepth 100000 in
theorem y_a36 {p : Program} {e : Env} {s : State} {m : MethodId} {below : List Frame} {meth : Method} {c : Code} (l : Launch) (hst : l.stackTraces = false) {b L : Nat} {xs : Nat → Int32} (hx : p.tables.exec = Jvm.exec) (hb : c.code = code) (hml : c.maxLocals = 9) (hown : s.vm.findClass RL = some m.cls) (hts : ∀ w ∈ lw_tbl, w.before #[Value.ref b] s = true) (hX0 : va_X b L xs s s.heap) (hbl : b < s.heap.size) (hX : xT (fun q => s.heap.size ≤ q) s) (hN : nC s) (hTS : sAll s.heap.size s) {D : va_G} {cI cJ cZ cMic cSrc cSt cAI cAJ cD : ClassId} (hK : va_K D vwCl (CT cI cJ cZ cMic cSrc cSt cAI cAJ ++ [(cD, .double)]) s) {Q : State → Prop} {i j : Nat} (hi : i + 6 ≤ L) (hL : L ≤ 3072) (hj : j < 512) {aj ae : Nat} {ad am : Nat → Nat} {T : AT} {Sm : MS} {f : Nat → Int64} {g : Nat → UInt64} {ls : Array Slot} {H : Heap} {locs : List Loc} (hV : IV aR0 1586 aK1 aK2 T) (hrc : RC T) (hJ : JJ Sm) (G : gL cI cJ cZ cMic cSrc cSt cAI cAJ D ad (fun q => s.heap.size ≤ q) s.heap H locs T (oJ aj cJ f :: oD ae cD g :: MW cI cJ cZ am Sm)) (hl : lv_has ls 9 [(5, .int (nI i)), (4, .ref ae), (3, .ref aj), (2, .ref (am 0)), (1, .ref (ad 0)), (0, .ref b)]) (kk : ∀ {k1 : Nat} {r1 : Int64} {T1 : AT} {r2 : Int64} {S1 : MS} (ad2 : Nat → Nat) (f1 : Nat → Int64) (g1 : Nat → UInt64) (H1 : Heap) (locs1 : List Loc) (ls1 : Array Slot), g_X11_blockPower T 0 (xs (i + 1)) (xs (i + 2)) (xs (i + 3)) = some (k1, r1, T1) → fr_blockPower Sm (xs (i + 1)) (xs (i + 2)) (xs (i + 3)) = some (r2, S1) → ad2 0 = ad 0 → IV aR0 1586 aK1 aK2 T1 → RC T1 → JJ S1 → gL cI cJ cZ cMic cSrc cSt cAI cAJ D ad2 (fun q => s.heap.size ≤ q) s.heap H1 locs1 T1 (oJ aj cJ f1 :: oD ae cD g1 :: MW cI cJ cZ am S1) → lv_has ls1 9 [(5, .int (nI i)), (4, .ref ae), (3, .ref aj), (2, .ref (am 0)), (1, .ref (ad2 0)), (0, .ref b)] → W p l e room_1 s m #[Value.ref b] below meth c H1 locs1 (19 + T1.1 + (j + 1)) (38467 + sg T1 + 6 * (j + 1)) Q (F0 m 2439 ls1 [])) : W p l e room_1 s m #[Value.ref b] below meth c H locs (19 + T.1 + j) (38467 + sg T + 6 * j) Q (F0 m 1382 ls []) := by
  have E : cE p c cL_law s m #[Value.ref b] lw_tbl D RL (CT cI cJ cZ cMic cSrc cSt cAI cAJ ++ [(cD, .double)]) := ⟨hx, hb, hts, hown, hK⟩
  have hA : ∀ q : Nat, s.heap.size ≤ q → s.heap.size ≤ q := fun _ h => h
  have h0T : 0 < T.1 := Nat.lt_of_lt_of_le (by decide) hV.1.2.2
  have h0s : T.2.1 0 = (11, 0) := hV.2.1 0 ⟨by decide, by decide +kernel, by decide +kernel⟩
  refine lv_aload_n hx hb dL_law_1382 rfl (lv_at hl 4 rfl) ?_
  refine lv_aload_n hx hb dL_law_1383 rfl (lv_at hl 5 rfl) ?_
  refine lv_iload hx hb dL_law_1384 (lv_at hl 0 rfl) ?_
  refine lv_iconst (v := 1) hx hb dL_law_1386 (by decide) ?_
  refine lv_iadd hx hb dL_law_1387 ?_
  refine lv_to (y := nI (i + 1)) (nI_add i 1) ?_
  refine va_sld hx hb hX0 hbl (Nat.not_le.mpr hbl) G.2.2 (i := nI (i + 1)) (vp_in_nI (n := i + 1) (N := L) (by omega) (by omega)) dL_law_1388 ?_
  refine lv_to (y := xs (i + 1)) (congrArg xs (nI_clamp (by omega))) ?_
  refine lv_aload_n hx hb dL_law_1389 rfl (lv_at hl 5 rfl) ?_
  refine lv_iload hx hb dL_law_1390 (lv_at hl 0 rfl) ?_
  refine lv_iconst (v := 2) hx hb dL_law_1392 (by decide) ?_
  refine lv_iadd hx hb dL_law_1393 ?_
  refine lv_to (y := nI (i + 2)) (nI_add i 2) ?_
  refine va_sld hx hb hX0 hbl (Nat.not_le.mpr hbl) G.2.2 (i := nI (i + 2)) (vp_in_nI (n := i + 2) (N := L) (by omega) (by omega)) dL_law_1394 ?_
  refine lv_to (y := xs (i + 2)) (congrArg xs (nI_clamp (by omega))) ?_
  refine lv_aload_n hx hb dL_law_1395 rfl (lv_at hl 5 rfl) ?_
  refine lv_iload hx hb dL_law_1396 (lv_at hl 0 rfl) ?_
  refine lv_iconst (v := 3) hx hb dL_law_1398 (by decide) ?_
  refine lv_iadd hx hb dL_law_1399 ?_
  refine lv_to (y := nI (i + 3)) (nI_add i 3) ?_
  refine va_sld hx hb hX0 hbl (Nat.not_le.mpr hbl) G.2.2 (i := nI (i + 3)) (vp_in_nI (n := i + 3) (N := L) (by omega) (by omega)) dL_law_1400 ?_
  refine lv_to (y := xs (i + 3)) (congrArg xs (nI_clamp (by omega))) ?_
  refine lv_aload_n hx hb dL_law_1401 rfl (lv_at hl 2 rfl) ?_
  obtain ⟨⟨k1, r1, T1⟩, hg, hc⟩ := cs_X11_blockPower T 0 (xs (i + 1)) (xs (i + 2)) (xs (i + 3)) hV (by decide +kernel)
  have hV1 : IV aR0 1586 aK1 aK2 T1 := hc.1.1
  have hg1 := s_X11_blockPower hg
  have hg2 := sg_le hg1
  have hg3 := hg1.1
  have hk := hV1.2.2.2.2.2.2
  have hrc1 := hg1.2.2 hrc
  have hr0 := a_room
  refine l_v (h0 := s.heap.size) (As := [.ref (ad 0), .int (xs (i + 1)), .int (xs (i + 2)), .int (xs (i + 3)), .ref aj]) (rest := []) E G hA hX hN (fun _ h => h) hTS hml (v_blockPower l hst D s.heap.size ad T 0 (xs (i + 1)) (xs (i + 2)) (xs (i + 3)) aj f hg hrc h0T h0s) (vx_cwSW 5 hts (glA (L := [Cond.methodLink RL 318 yL_blockPower, Cond.static yL_blockPower, Cond.initialized RL]) (gl_in [(6, 156), (6, 157), (1, 0)] (by decide +kernel) (by decide +kernel)) ⟨(t_of [Cond.codeWith yL_blockPower cL_blockPower 6 (some .int) [(0, 11, 14, 21), (0, 11, 18, 13), (0, 11, 22, 15)]] [(6, 158)] (by decide +kernel) _ List.mem_cons_self), List.all_eq_true.mp (by decide +kernel : [Cond.codeWith yL_blockPower cL_blockPower 6 (some .int) [(0, 11, 14, 21), (0, 11, 18, 13), (0, 11, 22, 15)]].all goodWord = true) _ List.mem_cons_self⟩) rfl rfl rfl (by decide +kernel) ⟨Nat.le_of_ble_eq_true rfl, Nat.le_of_ble_eq_true rfl⟩) rfl hl.1 rfl (lv_room (Nat.le_of_ble_eq_true rfl)) dL_law_1402 ⟨by show _ ≤ 601024; omega, by show _ ≤ 7293034; omega⟩ ?_
  intro ad2 H locs had G
  rw [← had 0 h0T] at hl
  refine lv_istore (lv' := [(6, .int (vck 1 2 3 k1)), (5, .int (nI i)), (4, .ref ae), (3, .ref aj), (2, .ref (am 0)), (1, .ref (ad2 0)), (0, .ref b)]) hx hb dL_law_1405 hl (by decide) rfl (fun ls hl => ?_)
  refine lv_aload_n hx hb dL_law_1407 rfl (lv_at hl 4 rfl) ?_
  refine lv_aload_n hx hb dL_law_1408 rfl (lv_at hl 6 rfl) ?_
  refine lv_iload hx hb dL_law_1409 (lv_at hl 1 rfl) ?_
  refine lv_iconst (v := 1) hx hb dL_law_1411 (by decide) ?_
  refine lv_iadd hx hb dL_law_1412 ?_
  refine lv_to (y := nI (i + 1)) (nI_add i 1) ?_
  refine va_sld hx hb hX0 hbl (Nat.not_le.mpr hbl) G.2.2 (i := nI (i + 1)) (vp_in_nI (n := i + 1) (N := L) (by omega) (by omega)) dL_law_1413 ?_
  refine lv_to (y := xs (i + 1)) (congrArg xs (nI_clamp (by omega))) ?_
  refine lv_aload_n hx hb dL_law_1414 rfl (lv_at hl 6 rfl) ?_
  refine lv_iload hx hb dL_law_1415 (lv_at hl 1 rfl) ?_
  refine lv_iconst (v := 2) hx hb dL_law_1417 (by decide) ?_
  refine lv_iadd hx hb dL_law_1418 ?_
  refine lv_to (y := nI (i + 2)) (nI_add i 2) ?_
  refine va_sld hx hb hX0 hbl (Nat.not_le.mpr hbl) G.2.2 (i := nI (i + 2)) (vp_in_nI (n := i + 2) (N := L) (by omega) (by omega)) dL_law_1419 ?_
  refine lv_to (y := xs (i + 2)) (congrArg xs (nI_clamp (by omega))) ?_
  refine lv_aload_n hx hb dL_law_1420 rfl (lv_at hl 6 rfl) ?_
  refine lv_iload hx hb dL_law_1421 (lv_at hl 1 rfl) ?_
  refine lv_iconst (v := 3) hx hb dL_law_1423 (by decide) ?_
  refine lv_iadd hx hb dL_law_1424 ?_
  refine lv_to (y := nI (i + 3)) (nI_add i 3) ?_
  refine va_sld hx hb hX0 hbl (Nat.not_le.mpr hbl) G.2.2 (i := nI (i + 3)) (vp_in_nI (n := i + 3) (N := L) (by omega) (by omega)) dL_law_1425 ?_
  refine lv_to (y := xs (i + 3)) (congrArg xs (nI_clamp (by omega))) ?_
  obtain ⟨⟨r2, S1⟩, hf, hj⟩ := sj_blockPower Sm (xs (i + 1)) (xs (i + 2)) (xs (i + 3)) hJ
  have hJ1 : JJ S1 := hj
  refine y_ml (As := [.int (xs (i + 1)), .int (xs (i + 2)), .int (xs (i + 3))]) (rest := []) E G hA hX.2.2.2.2 hml (tr_blockPower l D cI cJ cZ am Sm (xs (i + 1)) (xs (i + 2)) (xs (i + 3)) hf) (cwV 3 hts (glM (L := [Cond.methodLink RL 320 yX12_blockPower, Cond.instanceMethod yX12_blockPower, Cond.selects RX12 yX12_blockPower yX12_blockPower, Cond.initialized RX12]) (gl_in [(10, 17), (10, 18), (10, 19), (1, 14)] (by decide +kernel) (by decide +kernel)) ⟨(t_of [Cond.code yX12_blockPower cX12_blockPower 4 (some .long)] [(10, 20)] (by decide +kernel) _ List.mem_cons_self), List.all_eq_true.mp (by decide +kernel : [Cond.code yX12_blockPower cX12_blockPower 4 (some .long)].all goodWord = true) _ List.mem_cons_self⟩) rfl rfl rfl (by decide +kernel) ⟨Nat.le_of_ble_eq_true rfl, Nat.le_of_ble_eq_true rfl⟩) rfl hl.1 rfl (lv_room (Nat.le_of_ble_eq_true rfl)) dL_law_1426 ⟨by show _ ≤ 601024; omega, by show _ ≤ 7293034; omega⟩ (fun H locs G => ?_)
  refine lv_lstore (lv' := [(7, .long r2), (6, .int (vck 1 2 3 k1)), (5, .int (nI i)), (4, .ref ae), (3, .ref aj), (2, .ref (am 0)), (1, .ref (ad2 0)), (0, .ref b)]) hx hb dL_law_1429 hl (by decide) rfl (fun ls hl => ?_)
  refine lv_goto (tgt := 2439) hx hb dL_law_1431 (by decide) ?_
  have hl := lv_sub hl [2, 3, 4, 5, 6, 7] rfl
  refine W.widen (k := 19 + T1.1 + (j + 1)) (n := 38467 + sg T1 + 6 * (j + 1)) (by omega) (by omega) ?_
  exact kk ad2 (vfJ k1 f r1) g H locs ls hg hf (had 0 h0T) hV1 hrc1 hJ1 G hl
set_option maxHeartbeats 4000000 in
set_option maxRecDepth 100000 in
theorem y_a37 {p : Program} {e : Env} {s : State} {m : MethodId} {below : List Frame} {meth : Method} {c : Code} (l : Launch) (hst : l.stackTraces = false) {b L : Nat} {xs : Nat → Int32} (hx : p.tables.exec = Jvm.exec) (hb : c.code = code) (hml : c.maxLocals = 9) (hown : s.vm.findClass RL = some m.cls) (hts : ∀ w ∈ lw_tbl, w.before #[Value.ref b] s = true) (hX0 : va_X b L xs s s.heap) (hbl : b < s.heap.size) (hX : xT (fun q => s.heap.size ≤ q) s) (hN : nC s) (hTS : sAll s.heap.size s) {D : va_G} {cI cJ cZ cMic cSrc cSt cAI cAJ cD : ClassId} (hK : va_K D vwCl (CT cI cJ cZ cMic cSrc cSt cAI cAJ ++ [(cD, .double)]) s) {Q : State → Prop} {i j : Nat} (hi : i + 6 ≤ L) (hL : L ≤ 3072) (hj : j < 512) {aj ae : Nat} {ad am : Nat → Nat} {T : AT} {Sm : MS} {f : Nat → Int64} {g : Nat → UInt64} {ls : Array Slot} {H : Heap} {locs : List Loc} (hV : IV aR0 1586 aK1 aK2 T) (hrc : RC T) (hJ : JJ Sm) (G : gL cI cJ cZ cMic cSrc cSt cAI cAJ D ad (fun q => s.heap.size ≤ q) s.heap H locs T (oJ aj cJ f :: oD ae cD g :: MW cI cJ cZ am Sm)) (hl : lv_has ls 9 [(5, .int (nI i)), (4, .ref ae), (3, .ref aj), (2, .ref (am 0)), (1, .ref (ad 0)), (0, .ref b)]) (kk : ∀ {k1 : Nat} {r1 : Int32} {T1 : AT} {r2 : Int32} {S1 : MS} (ad2 : Nat → Nat) (f1 : Nat → Int64) (g1 : Nat → UInt64) (H1 : Heap) (locs1 : List Loc) (ls1 : Array Slot), g_X11_blockBest T 0 (xs (i + 1)) (xs (i + 2)) = some (k1, r1, T1) → fr_blockBest Sm (xs (i + 1)) (xs (i + 2)) = some (r2, S1) → ad2 0 = ad 0 → IV aR0 1586 aK1 aK2 T1 → RC T1 → JJ S1 → gL cI cJ cZ cMic cSrc cSt cAI cAJ D ad2 (fun q => s.heap.size ≤ q) s.heap H1 locs1 T1 (oJ aj cJ f1 :: oD ae cD g1 :: MW cI cJ cZ am S1) → lv_has ls1 9 [(5, .int (nI i)), (4, .ref ae), (3, .ref aj), (2, .ref (am 0)), (1, .ref (ad2 0)), (0, .ref b)] → W p l e room_1 s m #[Value.ref b] below meth c H1 locs1 (19 + T1.1 + (j + 1)) (38467 + sg T1 + 6 * (j + 1)) Q (F0 m 2439 ls1 [])) : W p l e room_1 s m #[Value.ref b] below meth c H locs (19 + T.1 + j) (38467 + sg T + 6 * j) Q (F0 m 1434 ls []) := by
  have E : cE p c cL_law s m #[Value.ref b] lw_tbl D RL (CT cI cJ cZ cMic cSrc cSt cAI cAJ ++ [(cD, .double)]) := ⟨hx, hb, hts, hown, hK⟩
  have hA : ∀ q : Nat, s.heap.size ≤ q → s.heap.size ≤ q := fun _ h => h
  have h0T : 0 < T.1 := Nat.lt_of_lt_of_le (by decide) hV.1.2.2
  have h0s : T.2.1 0 = (11, 0) := hV.2.1 0 ⟨by decide, by decide +kernel, by decide +kernel⟩
  refine lv_aload_n hx hb dL_law_1434 rfl (lv_at hl 4 rfl) ?_
  refine lv_aload_n hx hb dL_law_1435 rfl (lv_at hl 5 rfl) ?_
  refine lv_iload hx hb dL_law_1436 (lv_at hl 0 rfl) ?_
  refine lv_iconst (v := 1) hx hb dL_law_1438 (by decide) ?_
  refine lv_iadd hx hb dL_law_1439 ?_
  refine lv_to (y := nI (i + 1)) (nI_add i 1) ?_
  refine va_sld hx hb hX0 hbl (Nat.not_le.mpr hbl) G.2.2 (i := nI (i + 1)) (vp_in_nI (n := i + 1) (N := L) (by omega) (by omega)) dL_law_1440 ?_
  refine lv_to (y := xs (i + 1)) (congrArg xs (nI_clamp (by omega))) ?_
  refine lv_aload_n hx hb dL_law_1441 rfl (lv_at hl 5 rfl) ?_
  refine lv_iload hx hb dL_law_1442 (lv_at hl 0 rfl) ?_
  refine lv_iconst (v := 2) hx hb dL_law_1444 (by decide) ?_
  refine lv_iadd hx hb dL_law_1445 ?_
  refine lv_to (y := nI (i + 2)) (nI_add i 2) ?_
  refine va_sld hx hb hX0 hbl (Nat.not_le.mpr hbl) G.2.2 (i := nI (i + 2)) (vp_in_nI (n := i + 2) (N := L) (by omega) (by omega)) dL_law_1446 ?_
  refine lv_to (y := xs (i + 2)) (congrArg xs (nI_clamp (by omega))) ?_
  refine lv_aload_n hx hb dL_law_1447 rfl (lv_at hl 2 rfl) ?_
  obtain ⟨⟨k1, r1, T1⟩, hg, hc⟩ := cs_X11_blockBest T 0 (xs (i + 1)) (xs (i + 2)) hV (by decide +kernel)
  have hV1 : IV aR0 1586 aK1 aK2 T1 := hc.1.1
  have hg1 := s_X11_blockBest hg
  have hg2 := sg_le hg1
  have hg3 := hg1.1
  have hk := hV1.2.2.2.2.2.2
  have hrc1 := hg1.2.2 hrc
  have hr0 := a_room
  refine l_v (h0 := s.heap.size) (As := [.ref (ad 0), .int (xs (i + 1)), .int (xs (i + 2)), .ref aj]) (rest := []) E G hA hX hN (fun _ h => h) hTS hml (v_blockBest l hst D s.heap.size ad T 0 (xs (i + 1)) (xs (i + 2)) aj f hg hrc h0T h0s) (vx_cwSW 4 hts (glA (L := [Cond.methodLink RL 321 yL_blockBest, Cond.static yL_blockBest, Cond.initialized RL]) (gl_in [(6, 164), (6, 165), (1, 0)] (by decide +kernel) (by decide +kernel)) ⟨(t_of [Cond.codeWith yL_blockBest cL_blockBest 5 (some .int) [(0, 10, 13, 21), (0, 10, 17, 15)]] [(6, 166)] (by decide +kernel) _ List.mem_cons_self), List.all_eq_true.mp (by decide +kernel : [Cond.codeWith yL_blockBest cL_blockBest 5 (some .int) [(0, 10, 13, 21), (0, 10, 17, 15)]].all goodWord = true) _ List.mem_cons_self⟩) rfl rfl rfl (by decide +kernel) ⟨Nat.le_of_ble_eq_true rfl, Nat.le_of_ble_eq_true rfl⟩) rfl hl.1 rfl (lv_room (Nat.le_of_ble_eq_true rfl)) dL_law_1448 ⟨by show _ ≤ 601024; omega, by show _ ≤ 7293034; omega⟩ ?_
  intro ad2 H locs had G
  rw [← had 0 h0T] at hl
  refine lv_istore (lv' := [(6, .int (vck 1 0 2 k1)), (5, .int (nI i)), (4, .ref ae), (3, .ref aj), (2, .ref (am 0)), (1, .ref (ad2 0)), (0, .ref b)]) hx hb dL_law_1451 hl (by decide) rfl (fun ls hl => ?_)
  refine lv_aload_n hx hb dL_law_1453 rfl (lv_at hl 4 rfl) ?_
  refine lv_aload_n hx hb dL_law_1454 rfl (lv_at hl 6 rfl) ?_
  refine lv_iload hx hb dL_law_1455 (lv_at hl 1 rfl) ?_
  refine lv_iconst (v := 1) hx hb dL_law_1457 (by decide) ?_
  refine lv_iadd hx hb dL_law_1458 ?_
  refine lv_to (y := nI (i + 1)) (nI_add i 1) ?_
  refine va_sld hx hb hX0 hbl (Nat.not_le.mpr hbl) G.2.2 (i := nI (i + 1)) (vp_in_nI (n := i + 1) (N := L) (by omega) (by omega)) dL_law_1459 ?_
  refine lv_to (y := xs (i + 1)) (congrArg xs (nI_clamp (by omega))) ?_
  refine lv_aload_n hx hb dL_law_1460 rfl (lv_at hl 6 rfl) ?_
  refine lv_iload hx hb dL_law_1461 (lv_at hl 1 rfl) ?_
  refine lv_iconst (v := 2) hx hb dL_law_1463 (by decide) ?_
  refine lv_iadd hx hb dL_law_1464 ?_
  refine lv_to (y := nI (i + 2)) (nI_add i 2) ?_
  refine va_sld hx hb hX0 hbl (Nat.not_le.mpr hbl) G.2.2 (i := nI (i + 2)) (vp_in_nI (n := i + 2) (N := L) (by omega) (by omega)) dL_law_1465 ?_
  refine lv_to (y := xs (i + 2)) (congrArg xs (nI_clamp (by omega))) ?_
  obtain ⟨⟨r2, S1⟩, hf, hj⟩ := sj_blockBest Sm (xs (i + 1)) (xs (i + 2)) hJ
  have hJ1 : JJ S1 := hj
  refine y_mi (As := [.int (xs (i + 1)), .int (xs (i + 2))]) (rest := []) E G hA hX.2.2.2.2 hml (tr_blockBest l D cI cJ cZ am Sm (xs (i + 1)) (xs (i + 2)) hf) (cwV 2 hts (glM (L := [Cond.methodLink RL 323 yX12_blockBest, Cond.instanceMethod yX12_blockBest, Cond.selects RX12 yX12_blockBest yX12_blockBest, Cond.initialized RX12]) (gl_in [(10, 29), (10, 30), (10, 31), (1, 14)] (by decide +kernel) (by decide +kernel)) ⟨(t_of [Cond.code yX12_blockBest cX12_blockBest 3 (some .int)] [(10, 32)] (by decide +kernel) _ List.mem_cons_self), List.all_eq_true.mp (by decide +kernel : [Cond.code yX12_blockBest cX12_blockBest 3 (some .int)].all goodWord = true) _ List.mem_cons_self⟩) rfl rfl rfl (by decide +kernel) ⟨Nat.le_of_ble_eq_true rfl, Nat.le_of_ble_eq_true rfl⟩) rfl hl.1 rfl (lv_room (Nat.le_of_ble_eq_true rfl)) dL_law_1466 ⟨by show _ ≤ 601024; omega, by show _ ≤ 7293034; omega⟩ (fun H locs G => ?_)
  refine lv_istore (lv' := [(7, .int r2), (6, .int (vck 1 0 2 k1)), (5, .int (nI i)), (4, .ref ae), (3, .ref aj), (2, .ref (am 0)), (1, .ref (ad2 0)), (0, .ref b)]) hx hb dL_law_1469 hl (by decide) rfl (fun ls hl => ?_)
  refine lv_goto (tgt := 2439) hx hb dL_law_1471 (by decide) ?_
  have hl := lv_sub hl [2, 3, 4, 5, 6, 7] rfl
  refine W.widen (k := 19 + T1.1 + (j + 1)) (n := 38467 + sg T1 + 6 * (j + 1)) (by omega) (by omega) ?_
  exact kk ad2 (vfJ k1 f r1.toInt64) g H locs ls hg hf (had 0 h0T) hV1 hrc1 hJ1 G hl
set_option maxHeartbeats 4000000 in
set_option maxRecDepth 100000 in
theorem y_a38 {p : Program} {e : Env} {s : State} {m : MethodId} {below : List Frame} {meth : Method} {c : Code} (l : Launch) (hst : l.stackTraces = false) {b L : Nat} {xs : Nat → Int32} (hx : p.tables.exec = Jvm.exec) (hb : c.code = code) (hml : c.maxLocals = 9) (hown : s.vm.findClass RL = some m.cls) (hts : ∀ w ∈ lw_tbl, w.before #[Value.ref b] s = true) (hX0 : va_X b L xs s s.heap) (hbl : b < s.heap.size) (hX : xT (fun q => s.heap.size ≤ q) s) (hN : nC s) (hTS : sAll s.heap.size s) {D : va_G} {cI cJ cZ cMic cSrc cSt cAI cAJ cD : ClassId} (hK : va_K D vwCl (CT cI cJ cZ cMic cSrc cSt cAI cAJ ++ [(cD, .double)]) s) {Q : State → Prop} {i j : Nat} (hi : i + 6 ≤ L) (hL : L ≤ 3072) (hj : j < 512) {aj ae : Nat} {ad am : Nat → Nat} {T : AT} {Sm : MS} {f : Nat → Int64} {g : Nat → UInt64} {ls : Array Slot} {H : Heap} {locs : List Loc} (hV : IV aR0 1586 aK1 aK2 T) (hrc : RC T) (hJ : JJ Sm) (G : gL cI cJ cZ cMic cSrc cSt cAI cAJ D ad (fun q => s.heap.size ≤ q) s.heap H locs T (oJ aj cJ f :: oD ae cD g :: MW cI cJ cZ am Sm)) (hl : lv_has ls 9 [(5, .int (nI i)), (4, .ref ae), (3, .ref aj), (2, .ref (am 0)), (1, .ref (ad 0)), (0, .ref b)]) (kk : ∀ {k1 : Nat} {r1 : Int32} {T1 : AT} {r2 : Int32} {S1 : MS} (ad2 : Nat → Nat) (f1 : Nat → Int64) (g1 : Nat → UInt64) (H1 : Heap) (locs1 : List Loc) (ls1 : Array Slot), g_X11_path T 0 (xs (i + 1)) = some (k1, r1, T1) → fr_path Sm (xs (i + 1)) = some (r2, S1) → ad2 0 = ad 0 → IV aR0 1586 aK1 aK2 T1 → RC T1 → JJ S1 → gL cI cJ cZ cMic cSrc cSt cAI cAJ D ad2 (fun q => s.heap.size ≤ q) s.heap H1 locs1 T1 (oJ aj cJ f1 :: oD ae cD g1 :: MW cI cJ cZ am S1) → lv_has ls1 9 [(5, .int (nI i)), (4, .ref ae), (3, .ref aj), (2, .ref (am 0)), (1, .ref (ad2 0)), (0, .ref b)] → W p l e room_1 s m #[Value.ref b] below meth c H1 locs1 (19 + T1.1 + (j + 1)) (38467 + sg T1 + 6 * (j + 1)) Q (F0 m 2439 ls1 [])) : W p l e room_1 s m #[Value.ref b] below meth c H locs (19 + T.1 + j) (38467 + sg T + 6 * j) Q (F0 m 1474 ls []) := by
  have E : cE p c cL_law s m #[Value.ref b] lw_tbl D RL (CT cI cJ cZ cMic cSrc cSt cAI cAJ ++ [(cD, .double)]) := ⟨hx, hb, hts, hown, hK⟩
  have hA : ∀ q : Nat, s.heap.size ≤ q → s.heap.size ≤ q := fun _ h => h
  have h0T : 0 < T.1 := Nat.lt_of_lt_of_le (by decide) hV.1.2.2
  have h0s : T.2.1 0 = (11, 0) := hV.2.1 0 ⟨by decide, by decide +kernel, by decide +kernel⟩
  refine lv_aload_n hx hb dL_law_1474 rfl (lv_at hl 4 rfl) ?_
  refine lv_aload_n hx hb dL_law_1475 rfl (lv_at hl 5 rfl) ?_
  refine lv_iload hx hb dL_law_1476 (lv_at hl 0 rfl) ?_
  refine lv_iconst (v := 1) hx hb dL_law_1478 (by decide) ?_
  refine lv_iadd hx hb dL_law_1479 ?_
  refine lv_to (y := nI (i + 1)) (nI_add i 1) ?_
  refine va_sld hx hb hX0 hbl (Nat.not_le.mpr hbl) G.2.2 (i := nI (i + 1)) (vp_in_nI (n := i + 1) (N := L) (by omega) (by omega)) dL_law_1480 ?_
  refine lv_to (y := xs (i + 1)) (congrArg xs (nI_clamp (by omega))) ?_
  refine lv_aload_n hx hb dL_law_1481 rfl (lv_at hl 2 rfl) ?_
  obtain ⟨⟨k1, r1, T1⟩, hg, hc⟩ := cs_X11_path T 0 (xs (i + 1)) hV (by decide +kernel)
  have hV1 : IV aR0 1586 aK1 aK2 T1 := hc.1.1
  have hg1 := s_X11_path hg
  have hg2 := sg_le hg1
  have hg3 := hg1.1
  have hk := hV1.2.2.2.2.2.2
  have hrc1 := hg1.2.2 hrc
  have hr0 := a_room
  refine l_v (h0 := s.heap.size) (As := [.ref (ad 0), .int (xs (i + 1)), .ref aj]) (rest := []) E G hA hX hN (fun _ h => h) hTS hml (v_path l hst D s.heap.size ad T 0 (xs (i + 1)) aj f hg hrc h0T h0s) (vx_cwSW 3 hts (glA (L := [Cond.methodLink RL 324 yL_path, Cond.static yL_path, Cond.initialized RL]) (gl_in [(6, 186), (6, 187), (1, 0)] (by decide +kernel) (by decide +kernel)) ⟨(t_of [Cond.codeWith yL_path cL_path 4 (some .int) [(0, 9, 12, 21), (0, 9, 15, 15)]] [(6, 188)] (by decide +kernel) _ List.mem_cons_self), List.all_eq_true.mp (by decide +kernel : [Cond.codeWith yL_path cL_path 4 (some .int) [(0, 9, 12, 21), (0, 9, 15, 15)]].all goodWord = true) _ List.mem_cons_self⟩) rfl rfl rfl (by decide +kernel) ⟨Nat.le_of_ble_eq_true rfl, Nat.le_of_ble_eq_true rfl⟩) rfl hl.1 rfl (lv_room (Nat.le_of_ble_eq_true rfl)) dL_law_1482 ⟨by show _ ≤ 601024; omega, by show _ ≤ 7293034; omega⟩ ?_
  intro ad2 H locs had G
  rw [← had 0 h0T] at hl
  refine lv_istore (lv' := [(6, .int (vck 1 0 2 k1)), (5, .int (nI i)), (4, .ref ae), (3, .ref aj), (2, .ref (am 0)), (1, .ref (ad2 0)), (0, .ref b)]) hx hb dL_law_1485 hl (by decide) rfl (fun ls hl => ?_)
  refine lv_aload_n hx hb dL_law_1487 rfl (lv_at hl 4 rfl) ?_
  refine lv_aload_n hx hb dL_law_1488 rfl (lv_at hl 6 rfl) ?_
  refine lv_iload hx hb dL_law_1489 (lv_at hl 1 rfl) ?_
  refine lv_iconst (v := 1) hx hb dL_law_1491 (by decide) ?_
  refine lv_iadd hx hb dL_law_1492 ?_
  refine lv_to (y := nI (i + 1)) (nI_add i 1) ?_
  refine va_sld hx hb hX0 hbl (Nat.not_le.mpr hbl) G.2.2 (i := nI (i + 1)) (vp_in_nI (n := i + 1) (N := L) (by omega) (by omega)) dL_law_1493 ?_
  refine lv_to (y := xs (i + 1)) (congrArg xs (nI_clamp (by omega))) ?_
  obtain ⟨⟨r2, S1⟩, hf, hj⟩ := sj_path Sm (xs (i + 1)) hJ
  have hJ1 : JJ S1 := hj
  refine y_mi (As := [.int (xs (i + 1))]) (rest := []) E G hA hX.2.2.2.2 hml (tr_path l D cI cJ cZ am Sm (xs (i + 1)) hf) (cwV 1 hts (glM (L := [Cond.methodLink RL 326 yX12_path, Cond.instanceMethod yX12_path, Cond.selects RX12 yX12_path yX12_path, Cond.initialized RX12]) (gl_in [(10, 37), (10, 38), (10, 39), (1, 14)] (by decide +kernel) (by decide +kernel)) ⟨(t_of [Cond.code yX12_path cX12_path 6 (some .int)] [(10, 40)] (by decide +kernel) _ List.mem_cons_self), List.all_eq_true.mp (by decide +kernel : [Cond.code yX12_path cX12_path 6 (some .int)].all goodWord = true) _ List.mem_cons_self⟩) rfl rfl rfl (by decide +kernel) ⟨Nat.le_of_ble_eq_true rfl, Nat.le_of_ble_eq_true rfl⟩) rfl hl.1 rfl (lv_room (Nat.le_of_ble_eq_true rfl)) dL_law_1494 ⟨by show _ ≤ 601024; omega, by show _ ≤ 7293034; omega⟩ (fun H locs G => ?_)
  refine lv_istore (lv' := [(7, .int r2), (6, .int (vck 1 0 2 k1)), (5, .int (nI i)), (4, .ref ae), (3, .ref aj), (2, .ref (am 0)), (1, .ref (ad2 0)), (0, .ref b)]) hx hb dL_law_1497 hl (by decide) rfl (fun ls hl => ?_)
  refine lv_goto (tgt := 2439) hx hb dL_law_1499 (by decide) ?_
  have hl := lv_sub hl [2, 3, 4, 5, 6, 7] rfl
  refine W.widen (k := 19 + T1.1 + (j + 1)) (n := 38467 + sg T1 + 6 * (j + 1)) (by omega) (by omega) ?_
  exact kk ad2 (vfJ k1 f r1.toInt64) g H locs ls hg hf (had 0 h0T) hV1 hrc1 hJ1 G hl
set_option maxHeartbeats 4000000 in
set_option maxRecDepth 100000 in
theorem y_a39 {p : Program} {e : Env} {s : State} {m : MethodId} {below : List Frame} {meth : Method} {c : Code} (l : Launch) (hst : l.stackTraces = false) {b L : Nat} {xs : Nat → Int32} (hx : p.tables.exec = Jvm.exec) (hb : c.code = code) (hml : c.maxLocals = 9) (hown : s.vm.findClass RL = some m.cls) (hts : ∀ w ∈ lw_tbl, w.before #[Value.ref b] s = true) (hX0 : va_X b L xs s s.heap) (hbl : b < s.heap.size) (hX : xT (fun q => s.heap.size ≤ q) s) (hN : nC s) (hTS : sAll s.heap.size s) {D : va_G} {cI cJ cZ cMic cSrc cSt cAI cAJ cD : ClassId} (hK : va_K D vwCl (CT cI cJ cZ cMic cSrc cSt cAI cAJ ++ [(cD, .double)]) s) {Q : State → Prop} {i j : Nat} (hi : i + 6 ≤ L) (hL : L ≤ 3072) (hj : j < 512) {aj ae : Nat} {ad am : Nat → Nat} {T : AT} {Sm : MS} {f : Nat → Int64} {g : Nat → UInt64} {ls : Array Slot} {H : Heap} {locs : List Loc} (hV : IV aR0 1586 aK1 aK2 T) (hrc : RC T) (hJ : JJ Sm) (G : gL cI cJ cZ cMic cSrc cSt cAI cAJ D ad (fun q => s.heap.size ≤ q) s.heap H locs T (oJ aj cJ f :: oD ae cD g :: MW cI cJ cZ am Sm)) (hl : lv_has ls 9 [(5, .int (nI i)), (4, .ref ae), (3, .ref aj), (2, .ref (am 0)), (1, .ref (ad 0)), (0, .ref b)]) (kk : ∀ {k1 : Nat} {r1 : Int64} {T1 : AT} {r2 : Int64} {S1 : MS} (ad2 : Nat → Nat) (f1 : Nat → Int64) (g1 : Nat → UInt64) (H1 : Heap) (locs1 : List Loc) (ls1 : Array Slot), g_X11_trackScore T 0 (xs (i + 1)) = some (k1, r1, T1) → fr_trackScore Sm (xs (i + 1)) = some (r2, S1) → ad2 0 = ad 0 → IV aR0 1586 aK1 aK2 T1 → RC T1 → JJ S1 → gL cI cJ cZ cMic cSrc cSt cAI cAJ D ad2 (fun q => s.heap.size ≤ q) s.heap H1 locs1 T1 (oJ aj cJ f1 :: oD ae cD g1 :: MW cI cJ cZ am S1) → lv_has ls1 9 [(5, .int (nI i)), (4, .ref ae), (3, .ref aj), (2, .ref (am 0)), (1, .ref (ad2 0)), (0, .ref b)] → W p l e room_1 s m #[Value.ref b] below meth c H1 locs1 (19 + T1.1 + (j + 1)) (38467 + sg T1 + 6 * (j + 1)) Q (F0 m 2439 ls1 [])) : W p l e room_1 s m #[Value.ref b] below meth c H locs (19 + T.1 + j) (38467 + sg T + 6 * j) Q (F0 m 1502 ls []) := by
  have E : cE p c cL_law s m #[Value.ref b] lw_tbl D RL (CT cI cJ cZ cMic cSrc cSt cAI cAJ ++ [(cD, .double)]) := ⟨hx, hb, hts, hown, hK⟩
  have hA : ∀ q : Nat, s.heap.size ≤ q → s.heap.size ≤ q := fun _ h => h
  have h0T : 0 < T.1 := Nat.lt_of_lt_of_le (by decide) hV.1.2.2
  have h0s : T.2.1 0 = (11, 0) := hV.2.1 0 ⟨by decide, by decide +kernel, by decide +kernel⟩
  refine lv_aload_n hx hb dL_law_1502 rfl (lv_at hl 4 rfl) ?_
  refine lv_aload_n hx hb dL_law_1503 rfl (lv_at hl 5 rfl) ?_
  refine lv_iload hx hb dL_law_1504 (lv_at hl 0 rfl) ?_
  refine lv_iconst (v := 1) hx hb dL_law_1506 (by decide) ?_
  refine lv_iadd hx hb dL_law_1507 ?_
  refine lv_to (y := nI (i + 1)) (nI_add i 1) ?_
  refine va_sld hx hb hX0 hbl (Nat.not_le.mpr hbl) G.2.2 (i := nI (i + 1)) (vp_in_nI (n := i + 1) (N := L) (by omega) (by omega)) dL_law_1508 ?_
  refine lv_to (y := xs (i + 1)) (congrArg xs (nI_clamp (by omega))) ?_
  refine lv_aload_n hx hb dL_law_1509 rfl (lv_at hl 2 rfl) ?_
  obtain ⟨⟨k1, r1, T1⟩, hg, hc⟩ := cs_X11_trackScore T 0 (xs (i + 1)) hV (by decide +kernel)
  have hV1 : IV aR0 1586 aK1 aK2 T1 := hc.1.1
  have hg1 := s_X11_trackScore hg
  have hg2 := sg_le hg1
  have hg3 := hg1.1
  have hk := hV1.2.2.2.2.2.2
  have hrc1 := hg1.2.2 hrc
  have hr0 := a_room
  refine l_v (h0 := s.heap.size) (As := [.ref (ad 0), .int (xs (i + 1)), .ref aj]) (rest := []) E G hA hX hN (fun _ h => h) hTS hml (v_trackScore l hst D s.heap.size ad T 0 (xs (i + 1)) aj f hg hrc h0T h0s) (vx_cwSW 3 hts (glA (L := [Cond.methodLink RL 327 yL_trackScore, Cond.static yL_trackScore, Cond.initialized RL]) (gl_in [(6, 193), (6, 194), (1, 0)] (by decide +kernel) (by decide +kernel)) ⟨(t_of [Cond.codeWith yL_trackScore cL_trackScore 4 (some .int) [(0, 8, 11, 21), (0, 8, 14, 15)]] [(6, 195)] (by decide +kernel) _ List.mem_cons_self), List.all_eq_true.mp (by decide +kernel : [Cond.codeWith yL_trackScore cL_trackScore 4 (some .int) [(0, 8, 11, 21), (0, 8, 14, 15)]].all goodWord = true) _ List.mem_cons_self⟩) rfl rfl rfl (by decide +kernel) ⟨Nat.le_of_ble_eq_true rfl, Nat.le_of_ble_eq_true rfl⟩) rfl hl.1 rfl (lv_room (Nat.le_of_ble_eq_true rfl)) dL_law_1510 ⟨by show _ ≤ 601024; omega, by show _ ≤ 7293034; omega⟩ ?_
  intro ad2 H locs had G
  rw [← had 0 h0T] at hl
  refine lv_istore (lv' := [(6, .int (vck 1 0 2 k1)), (5, .int (nI i)), (4, .ref ae), (3, .ref aj), (2, .ref (am 0)), (1, .ref (ad2 0)), (0, .ref b)]) hx hb dL_law_1513 hl (by decide) rfl (fun ls hl => ?_)
  refine lv_aload_n hx hb dL_law_1515 rfl (lv_at hl 4 rfl) ?_
  refine lv_aload_n hx hb dL_law_1516 rfl (lv_at hl 6 rfl) ?_
  refine lv_iload hx hb dL_law_1517 (lv_at hl 1 rfl) ?_
  refine lv_iconst (v := 1) hx hb dL_law_1519 (by decide) ?_
  refine lv_iadd hx hb dL_law_1520 ?_
  refine lv_to (y := nI (i + 1)) (nI_add i 1) ?_
  refine va_sld hx hb hX0 hbl (Nat.not_le.mpr hbl) G.2.2 (i := nI (i + 1)) (vp_in_nI (n := i + 1) (N := L) (by omega) (by omega)) dL_law_1521 ?_
  refine lv_to (y := xs (i + 1)) (congrArg xs (nI_clamp (by omega))) ?_
  obtain ⟨⟨r2, S1⟩, hf, hj⟩ := sj_trackScore Sm (xs (i + 1)) hJ
  have hJ1 : JJ S1 := hj
  refine y_ml (As := [.int (xs (i + 1))]) (rest := []) E G hA hX.2.2.2.2 hml (tr_trackScore l D cI cJ cZ am Sm (xs (i + 1)) hf) (cwV 1 hts (glM (L := [Cond.methodLink RL 329 yX12_trackScore, Cond.instanceMethod yX12_trackScore, Cond.selects RX12 yX12_trackScore yX12_trackScore, Cond.initialized RX12]) (gl_in [(10, 41), (10, 42), (10, 43), (1, 14)] (by decide +kernel) (by decide +kernel)) ⟨(t_of [Cond.code yX12_trackScore cX12_trackScore 2 (some .long)] [(10, 44)] (by decide +kernel) _ List.mem_cons_self), List.all_eq_true.mp (by decide +kernel : [Cond.code yX12_trackScore cX12_trackScore 2 (some .long)].all goodWord = true) _ List.mem_cons_self⟩) rfl rfl rfl (by decide +kernel) ⟨Nat.le_of_ble_eq_true rfl, Nat.le_of_ble_eq_true rfl⟩) rfl hl.1 rfl (lv_room (Nat.le_of_ble_eq_true rfl)) dL_law_1522 ⟨by show _ ≤ 601024; omega, by show _ ≤ 7293034; omega⟩ (fun H locs G => ?_)
  refine lv_lstore (lv' := [(7, .long r2), (6, .int (vck 1 0 2 k1)), (5, .int (nI i)), (4, .ref ae), (3, .ref aj), (2, .ref (am 0)), (1, .ref (ad2 0)), (0, .ref b)]) hx hb dL_law_1525 hl (by decide) rfl (fun ls hl => ?_)
  refine lv_goto (tgt := 2439) hx hb dL_law_1527 (by decide) ?_
  have hl := lv_sub hl [2, 3, 4, 5, 6, 7] rfl
  refine W.widen (k := 19 + T1.1 + (j + 1)) (n := 38467 + sg T1 + 6 * (j + 1)) (by omega) (by omega) ?_
  exact kk ad2 (vfJ k1 f r1) g H locs ls hg hf (had 0 h0T) hV1 hrc1 hJ1 G hl
end
