/-! decode by bytes: the law's code is long; a byte's place is found by blocks of 16 -/
def bat (c : ByteArray) (p : Nat) (b : UInt8) : Prop := ∃ h : p < c.size, c[p]'h = b
theorem bat_of {c : ByteArray} {p : Nat} {b : UInt8} (h : c.data.toList[p]? = some b) : bat c p b := by
  obtain ⟨h1, h2⟩ := List.getElem?_eq_some_iff.mp h
  exact ⟨h1, h2⟩
theorem u1_at {c : ByteArray} {p : Nat} {b : UInt8} (h : bat c p b) : ((Jvm.ClassFile.Reader.u1 : Jvm.ClassFile.Reader Jvm.ClassFile.DecodeError Nat).run c).run p = .ok (b.toNat, p + 1) := by
  obtain ⟨h1, h2⟩ := h
  have e : ((dite (p < c.size) (fun h => do set (p + 1); pure (c[p]'h).toNat) (fun _ => throw (Jvm.ClassFile.HasTruncated.truncated p)) : Jvm.ClassFile.Reader Jvm.ClassFile.DecodeError Nat).run c).run p = .ok (b.toNat, p + 1) := by
    rw [dif_pos h1, h2]
    rfl
  exact e
theorem u2_at {c : ByteArray} {p : Nat} {b b2 : UInt8} (h : bat c p b) (h2 : bat c (p + 1) b2) : ((Jvm.ClassFile.Reader.u2 : Jvm.ClassFile.Reader Jvm.ClassFile.DecodeError Nat).run c).run p = .ok (b.toNat * 256 + b2.toNat, p + 2) := by
  show Except.bind (((Jvm.ClassFile.Reader.u1 : Jvm.ClassFile.Reader Jvm.ClassFile.DecodeError Nat).run c).run p) (fun r => Except.bind (((Jvm.ClassFile.Reader.u1 : Jvm.ClassFile.Reader Jvm.ClassFile.DecodeError Nat).run c).run r.2) (fun q => .ok (r.1 * 256 + q.1, q.2))) = _
  rw [u1_at h]
  show Except.bind (((Jvm.ClassFile.Reader.u1 : Jvm.ClassFile.Reader Jvm.ClassFile.DecodeError Nat).run c).run (p + 1)) (fun q => .ok (b.toNat * 256 + q.1, q.2)) = _
  rw [u1_at h2]
  rfl
theorem s2_at {c : ByteArray} {p : Nat} {b b2 : UInt8} (h : bat c p b) (h2 : bat c (p + 1) b2) : ((Jvm.ClassFile.Reader.s2 : Jvm.ClassFile.Reader Jvm.ClassFile.DecodeError Int).run c).run p = .ok (Jvm.ClassFile.Reader.signed 16 (b.toNat * 256 + b2.toNat), p + 2) := by
  show Except.bind (((Jvm.ClassFile.Reader.u2 : Jvm.ClassFile.Reader Jvm.ClassFile.DecodeError Nat).run c).run p) (fun r => .ok (Jvm.ClassFile.Reader.signed 16 r.1, r.2)) = _
  rw [u2_at h h2]
  rfl
theorem de_l1 (pc : Nat) : pc + 1 - pc = 1 := Nat.add_sub_cancel_left pc 1
theorem de_l2 (pc : Nat) : pc + 2 - pc = 2 := Nat.add_sub_cancel_left pc 2
theorem de_l3 (pc : Nat) : pc + 3 - pc = 3 := Nat.add_sub_cancel_left pc 3
theorem de_3 {c : ByteArray} {pc : Nat} (h : bat c pc 3) : decode c pc = .ok (Jvm.ClassFile.Instr.iconst 0, 1) := by
  show Except.bind (Except.bind (((Jvm.ClassFile.Reader.u1 : Jvm.ClassFile.Reader Jvm.ClassFile.DecodeError Nat).run c).run pc) _) _ = _
  rw [u1_at h]
  show Except.ok (Jvm.ClassFile.Instr.iconst 0, pc + 1 - pc) = _
  rw [de_l1]
theorem de_4 {c : ByteArray} {pc : Nat} (h : bat c pc 4) : decode c pc = .ok (Jvm.ClassFile.Instr.iconst 1, 1) := by
  show Except.bind (Except.bind (((Jvm.ClassFile.Reader.u1 : Jvm.ClassFile.Reader Jvm.ClassFile.DecodeError Nat).run c).run pc) _) _ = _
  rw [u1_at h]
  show Except.ok (Jvm.ClassFile.Instr.iconst 1, pc + 1 - pc) = _
  rw [de_l1]
theorem de_5 {c : ByteArray} {pc : Nat} (h : bat c pc 5) : decode c pc = .ok (Jvm.ClassFile.Instr.iconst 2, 1) := by
  show Except.bind (Except.bind (((Jvm.ClassFile.Reader.u1 : Jvm.ClassFile.Reader Jvm.ClassFile.DecodeError Nat).run c).run pc) _) _ = _
  rw [u1_at h]
  show Except.ok (Jvm.ClassFile.Instr.iconst 2, pc + 1 - pc) = _
  rw [de_l1]
theorem de_6 {c : ByteArray} {pc : Nat} (h : bat c pc 6) : decode c pc = .ok (Jvm.ClassFile.Instr.iconst 3, 1) := by
  show Except.bind (Except.bind (((Jvm.ClassFile.Reader.u1 : Jvm.ClassFile.Reader Jvm.ClassFile.DecodeError Nat).run c).run pc) _) _ = _
  rw [u1_at h]
  show Except.ok (Jvm.ClassFile.Instr.iconst 3, pc + 1 - pc) = _
  rw [de_l1]
theorem de_7 {c : ByteArray} {pc : Nat} (h : bat c pc 7) : decode c pc = .ok (Jvm.ClassFile.Instr.iconst 4, 1) := by
  show Except.bind (Except.bind (((Jvm.ClassFile.Reader.u1 : Jvm.ClassFile.Reader Jvm.ClassFile.DecodeError Nat).run c).run pc) _) _ = _
  rw [u1_at h]
  show Except.ok (Jvm.ClassFile.Instr.iconst 4, pc + 1 - pc) = _
  rw [de_l1]
theorem de_8 {c : ByteArray} {pc : Nat} (h : bat c pc 8) : decode c pc = .ok (Jvm.ClassFile.Instr.iconst 5, 1) := by
  show Except.bind (Except.bind (((Jvm.ClassFile.Reader.u1 : Jvm.ClassFile.Reader Jvm.ClassFile.DecodeError Nat).run c).run pc) _) _ = _
  rw [u1_at h]
  show Except.ok (Jvm.ClassFile.Instr.iconst 5, pc + 1 - pc) = _
  rw [de_l1]
theorem de_21 {c : ByteArray} {pc v : Nat} {b1 : UInt8} (h : bat c pc 21) (h1 : bat c (pc + 1) b1) (e : b1.toNat = v) : decode c pc = .ok (Jvm.ClassFile.Instr.iload v, 2) := by
  show Except.bind (Except.bind (((Jvm.ClassFile.Reader.u1 : Jvm.ClassFile.Reader Jvm.ClassFile.DecodeError Nat).run c).run pc) _) _ = _
  rw [u1_at h]
  show Except.bind (Except.bind (((Jvm.ClassFile.Reader.u1 : Jvm.ClassFile.Reader Jvm.ClassFile.DecodeError Nat).run c).run (pc + 1)) (fun r => .ok (Jvm.ClassFile.Instr.iload r.1, r.2))) (fun r => .ok (r.1, r.2 - pc)) = _
  rw [u1_at h1, e]
  show Except.ok (Jvm.ClassFile.Instr.iload v, pc + 2 - pc) = _
  rw [de_l2]
theorem de_25 {c : ByteArray} {pc v : Nat} {b1 : UInt8} (h : bat c pc 25) (h1 : bat c (pc + 1) b1) (e : b1.toNat = v) : decode c pc = .ok (Jvm.ClassFile.Instr.aload v, 2) := by
  show Except.bind (Except.bind (((Jvm.ClassFile.Reader.u1 : Jvm.ClassFile.Reader Jvm.ClassFile.DecodeError Nat).run c).run pc) _) _ = _
  rw [u1_at h]
  show Except.bind (Except.bind (((Jvm.ClassFile.Reader.u1 : Jvm.ClassFile.Reader Jvm.ClassFile.DecodeError Nat).run c).run (pc + 1)) (fun r => .ok (Jvm.ClassFile.Instr.aload r.1, r.2))) (fun r => .ok (r.1, r.2 - pc)) = _
  rw [u1_at h1, e]
  show Except.ok (Jvm.ClassFile.Instr.aload v, pc + 2 - pc) = _
  rw [de_l2]
theorem de_42 {c : ByteArray} {pc : Nat} (h : bat c pc 42) : decode c pc = .ok (Jvm.ClassFile.Instr.aload_n 0, 1) := by
  show Except.bind (Except.bind (((Jvm.ClassFile.Reader.u1 : Jvm.ClassFile.Reader Jvm.ClassFile.DecodeError Nat).run c).run pc) _) _ = _
  rw [u1_at h]
  show Except.ok (Jvm.ClassFile.Instr.aload_n 0, pc + 1 - pc) = _
  rw [de_l1]
theorem de_43 {c : ByteArray} {pc : Nat} (h : bat c pc 43) : decode c pc = .ok (Jvm.ClassFile.Instr.aload_n 1, 1) := by
  show Except.bind (Except.bind (((Jvm.ClassFile.Reader.u1 : Jvm.ClassFile.Reader Jvm.ClassFile.DecodeError Nat).run c).run pc) _) _ = _
  rw [u1_at h]
  show Except.ok (Jvm.ClassFile.Instr.aload_n 1, pc + 1 - pc) = _
  rw [de_l1]
theorem de_44 {c : ByteArray} {pc : Nat} (h : bat c pc 44) : decode c pc = .ok (Jvm.ClassFile.Instr.aload_n 2, 1) := by
  show Except.bind (Except.bind (((Jvm.ClassFile.Reader.u1 : Jvm.ClassFile.Reader Jvm.ClassFile.DecodeError Nat).run c).run pc) _) _ = _
  rw [u1_at h]
  show Except.ok (Jvm.ClassFile.Instr.aload_n 2, pc + 1 - pc) = _
  rw [de_l1]
theorem de_45 {c : ByteArray} {pc : Nat} (h : bat c pc 45) : decode c pc = .ok (Jvm.ClassFile.Instr.aload_n 3, 1) := by
  show Except.bind (Except.bind (((Jvm.ClassFile.Reader.u1 : Jvm.ClassFile.Reader Jvm.ClassFile.DecodeError Nat).run c).run pc) _) _ = _
  rw [u1_at h]
  show Except.ok (Jvm.ClassFile.Instr.aload_n 3, pc + 1 - pc) = _
  rw [de_l1]
theorem de_46 {c : ByteArray} {pc : Nat} (h : bat c pc 46) : decode c pc = .ok (Jvm.ClassFile.Instr.iaload, 1) := by
  show Except.bind (Except.bind (((Jvm.ClassFile.Reader.u1 : Jvm.ClassFile.Reader Jvm.ClassFile.DecodeError Nat).run c).run pc) _) _ = _
  rw [u1_at h]
  show Except.ok (Jvm.ClassFile.Instr.iaload, pc + 1 - pc) = _
  rw [de_l1]
theorem de_47 {c : ByteArray} {pc : Nat} (h : bat c pc 47) : decode c pc = .ok (Jvm.ClassFile.Instr.laload, 1) := by
  show Except.bind (Except.bind (((Jvm.ClassFile.Reader.u1 : Jvm.ClassFile.Reader Jvm.ClassFile.DecodeError Nat).run c).run pc) _) _ = _
  rw [u1_at h]
  show Except.ok (Jvm.ClassFile.Instr.laload, pc + 1 - pc) = _
  rw [de_l1]
theorem de_54 {c : ByteArray} {pc v : Nat} {b1 : UInt8} (h : bat c pc 54) (h1 : bat c (pc + 1) b1) (e : b1.toNat = v) : decode c pc = .ok (Jvm.ClassFile.Instr.istore v, 2) := by
  show Except.bind (Except.bind (((Jvm.ClassFile.Reader.u1 : Jvm.ClassFile.Reader Jvm.ClassFile.DecodeError Nat).run c).run pc) _) _ = _
  rw [u1_at h]
  show Except.bind (Except.bind (((Jvm.ClassFile.Reader.u1 : Jvm.ClassFile.Reader Jvm.ClassFile.DecodeError Nat).run c).run (pc + 1)) (fun r => .ok (Jvm.ClassFile.Instr.istore r.1, r.2))) (fun r => .ok (r.1, r.2 - pc)) = _
  rw [u1_at h1, e]
  show Except.ok (Jvm.ClassFile.Instr.istore v, pc + 2 - pc) = _
  rw [de_l2]
theorem de_55 {c : ByteArray} {pc v : Nat} {b1 : UInt8} (h : bat c pc 55) (h1 : bat c (pc + 1) b1) (e : b1.toNat = v) : decode c pc = .ok (Jvm.ClassFile.Instr.lstore v, 2) := by
  show Except.bind (Except.bind (((Jvm.ClassFile.Reader.u1 : Jvm.ClassFile.Reader Jvm.ClassFile.DecodeError Nat).run c).run pc) _) _ = _
  rw [u1_at h]
  show Except.bind (Except.bind (((Jvm.ClassFile.Reader.u1 : Jvm.ClassFile.Reader Jvm.ClassFile.DecodeError Nat).run c).run (pc + 1)) (fun r => .ok (Jvm.ClassFile.Instr.lstore r.1, r.2))) (fun r => .ok (r.1, r.2 - pc)) = _
  rw [u1_at h1, e]
  show Except.ok (Jvm.ClassFile.Instr.lstore v, pc + 2 - pc) = _
  rw [de_l2]
theorem de_56 {c : ByteArray} {pc v : Nat} {b1 : UInt8} (h : bat c pc 56) (h1 : bat c (pc + 1) b1) (e : b1.toNat = v) : decode c pc = .ok (Jvm.ClassFile.Instr.fstore v, 2) := by
  show Except.bind (Except.bind (((Jvm.ClassFile.Reader.u1 : Jvm.ClassFile.Reader Jvm.ClassFile.DecodeError Nat).run c).run pc) _) _ = _
  rw [u1_at h]
  show Except.bind (Except.bind (((Jvm.ClassFile.Reader.u1 : Jvm.ClassFile.Reader Jvm.ClassFile.DecodeError Nat).run c).run (pc + 1)) (fun r => .ok (Jvm.ClassFile.Instr.fstore r.1, r.2))) (fun r => .ok (r.1, r.2 - pc)) = _
  rw [u1_at h1, e]
  show Except.ok (Jvm.ClassFile.Instr.fstore v, pc + 2 - pc) = _
  rw [de_l2]
theorem de_87 {c : ByteArray} {pc : Nat} (h : bat c pc 87) : decode c pc = .ok (Jvm.ClassFile.Instr.pop, 1) := by
  show Except.bind (Except.bind (((Jvm.ClassFile.Reader.u1 : Jvm.ClassFile.Reader Jvm.ClassFile.DecodeError Nat).run c).run pc) _) _ = _
  rw [u1_at h]
  show Except.ok (Jvm.ClassFile.Instr.pop, pc + 1 - pc) = _
  rw [de_l1]
theorem de_96 {c : ByteArray} {pc : Nat} (h : bat c pc 96) : decode c pc = .ok (Jvm.ClassFile.Instr.iadd, 1) := by
  show Except.bind (Except.bind (((Jvm.ClassFile.Reader.u1 : Jvm.ClassFile.Reader Jvm.ClassFile.DecodeError Nat).run c).run pc) _) _ = _
  rw [u1_at h]
  show Except.ok (Jvm.ClassFile.Instr.iadd, pc + 1 - pc) = _
  rw [de_l1]
theorem de_100 {c : ByteArray} {pc : Nat} (h : bat c pc 100) : decode c pc = .ok (Jvm.ClassFile.Instr.isub, 1) := by
  show Except.bind (Except.bind (((Jvm.ClassFile.Reader.u1 : Jvm.ClassFile.Reader Jvm.ClassFile.DecodeError Nat).run c).run pc) _) _ = _
  rw [u1_at h]
  show Except.ok (Jvm.ClassFile.Instr.isub, pc + 1 - pc) = _
  rw [de_l1]
theorem de_126 {c : ByteArray} {pc : Nat} (h : bat c pc 126) : decode c pc = .ok (Jvm.ClassFile.Instr.iand, 1) := by
  show Except.bind (Except.bind (((Jvm.ClassFile.Reader.u1 : Jvm.ClassFile.Reader Jvm.ClassFile.DecodeError Nat).run c).run pc) _) _ = _
  rw [u1_at h]
  show Except.ok (Jvm.ClassFile.Instr.iand, pc + 1 - pc) = _
  rw [de_l1]
theorem de_133 {c : ByteArray} {pc : Nat} (h : bat c pc 133) : decode c pc = .ok (Jvm.ClassFile.Instr.i2l, 1) := by
  show Except.bind (Except.bind (((Jvm.ClassFile.Reader.u1 : Jvm.ClassFile.Reader Jvm.ClassFile.DecodeError Nat).run c).run pc) _) _ = _
  rw [u1_at h]
  show Except.ok (Jvm.ClassFile.Instr.i2l, pc + 1 - pc) = _
  rw [de_l1]
theorem de_148 {c : ByteArray} {pc : Nat} (h : bat c pc 148) : decode c pc = .ok (Jvm.ClassFile.Instr.lcmp, 1) := by
  show Except.bind (Except.bind (((Jvm.ClassFile.Reader.u1 : Jvm.ClassFile.Reader Jvm.ClassFile.DecodeError Nat).run c).run pc) _) _ = _
  rw [u1_at h]
  show Except.ok (Jvm.ClassFile.Instr.lcmp, pc + 1 - pc) = _
  rw [de_l1]
theorem de_153 {c : ByteArray} {pc : Nat} {v : Int} {b1 b2 : UInt8} (h : bat c pc 153) (h1 : bat c (pc + 1) b1) (h2 : bat c (pc + 1 + 1) b2) (e : Jvm.ClassFile.Reader.signed 16 (b1.toNat * 256 + b2.toNat) = v) : decode c pc = .ok (Jvm.ClassFile.Instr.ifCond .eq v, 3) := by
  show Except.bind (Except.bind (((Jvm.ClassFile.Reader.u1 : Jvm.ClassFile.Reader Jvm.ClassFile.DecodeError Nat).run c).run pc) _) _ = _
  rw [u1_at h]
  show Except.bind (Except.bind (((Jvm.ClassFile.Reader.s2 : Jvm.ClassFile.Reader Jvm.ClassFile.DecodeError Int).run c).run (pc + 1)) (fun r => .ok (Jvm.ClassFile.Instr.ifCond .eq r.1, r.2))) (fun r => .ok (r.1, r.2 - pc)) = _
  rw [s2_at h1 h2, e]
  show Except.ok (Jvm.ClassFile.Instr.ifCond .eq v, pc + 3 - pc) = _
  rw [de_l3]
theorem de_154 {c : ByteArray} {pc : Nat} {v : Int} {b1 b2 : UInt8} (h : bat c pc 154) (h1 : bat c (pc + 1) b1) (h2 : bat c (pc + 1 + 1) b2) (e : Jvm.ClassFile.Reader.signed 16 (b1.toNat * 256 + b2.toNat) = v) : decode c pc = .ok (Jvm.ClassFile.Instr.ifCond .ne v, 3) := by
  show Except.bind (Except.bind (((Jvm.ClassFile.Reader.u1 : Jvm.ClassFile.Reader Jvm.ClassFile.DecodeError Nat).run c).run pc) _) _ = _
  rw [u1_at h]
  show Except.bind (Except.bind (((Jvm.ClassFile.Reader.s2 : Jvm.ClassFile.Reader Jvm.ClassFile.DecodeError Int).run c).run (pc + 1)) (fun r => .ok (Jvm.ClassFile.Instr.ifCond .ne r.1, r.2))) (fun r => .ok (r.1, r.2 - pc)) = _
  rw [s2_at h1 h2, e]
  show Except.ok (Jvm.ClassFile.Instr.ifCond .ne v, pc + 3 - pc) = _
  rw [de_l3]
theorem de_159 {c : ByteArray} {pc : Nat} {v : Int} {b1 b2 : UInt8} (h : bat c pc 159) (h1 : bat c (pc + 1) b1) (h2 : bat c (pc + 1 + 1) b2) (e : Jvm.ClassFile.Reader.signed 16 (b1.toNat * 256 + b2.toNat) = v) : decode c pc = .ok (Jvm.ClassFile.Instr.if_icmp .eq v, 3) := by
  show Except.bind (Except.bind (((Jvm.ClassFile.Reader.u1 : Jvm.ClassFile.Reader Jvm.ClassFile.DecodeError Nat).run c).run pc) _) _ = _
  rw [u1_at h]
  show Except.bind (Except.bind (((Jvm.ClassFile.Reader.s2 : Jvm.ClassFile.Reader Jvm.ClassFile.DecodeError Int).run c).run (pc + 1)) (fun r => .ok (Jvm.ClassFile.Instr.if_icmp .eq r.1, r.2))) (fun r => .ok (r.1, r.2 - pc)) = _
  rw [s2_at h1 h2, e]
  show Except.ok (Jvm.ClassFile.Instr.if_icmp .eq v, pc + 3 - pc) = _
  rw [de_l3]
theorem de_163 {c : ByteArray} {pc : Nat} {v : Int} {b1 b2 : UInt8} (h : bat c pc 163) (h1 : bat c (pc + 1) b1) (h2 : bat c (pc + 1 + 1) b2) (e : Jvm.ClassFile.Reader.signed 16 (b1.toNat * 256 + b2.toNat) = v) : decode c pc = .ok (Jvm.ClassFile.Instr.if_icmp .gt v, 3) := by
  show Except.bind (Except.bind (((Jvm.ClassFile.Reader.u1 : Jvm.ClassFile.Reader Jvm.ClassFile.DecodeError Nat).run c).run pc) _) _ = _
  rw [u1_at h]
  show Except.bind (Except.bind (((Jvm.ClassFile.Reader.s2 : Jvm.ClassFile.Reader Jvm.ClassFile.DecodeError Int).run c).run (pc + 1)) (fun r => .ok (Jvm.ClassFile.Instr.if_icmp .gt r.1, r.2))) (fun r => .ok (r.1, r.2 - pc)) = _
  rw [s2_at h1 h2, e]
  show Except.ok (Jvm.ClassFile.Instr.if_icmp .gt v, pc + 3 - pc) = _
  rw [de_l3]
theorem de_167 {c : ByteArray} {pc : Nat} {v : Int} {b1 b2 : UInt8} (h : bat c pc 167) (h1 : bat c (pc + 1) b1) (h2 : bat c (pc + 1 + 1) b2) (e : Jvm.ClassFile.Reader.signed 16 (b1.toNat * 256 + b2.toNat) = v) : decode c pc = .ok (Jvm.ClassFile.Instr.goto v, 3) := by
  show Except.bind (Except.bind (((Jvm.ClassFile.Reader.u1 : Jvm.ClassFile.Reader Jvm.ClassFile.DecodeError Nat).run c).run pc) _) _ = _
  rw [u1_at h]
  show Except.bind (Except.bind (((Jvm.ClassFile.Reader.s2 : Jvm.ClassFile.Reader Jvm.ClassFile.DecodeError Int).run c).run (pc + 1)) (fun r => .ok (Jvm.ClassFile.Instr.goto r.1, r.2))) (fun r => .ok (r.1, r.2 - pc)) = _
  rw [s2_at h1 h2, e]
  show Except.ok (Jvm.ClassFile.Instr.goto v, pc + 3 - pc) = _
  rw [de_l3]
theorem de_172 {c : ByteArray} {pc : Nat} (h : bat c pc 172) : decode c pc = .ok (Jvm.ClassFile.Instr.ireturn, 1) := by
  show Except.bind (Except.bind (((Jvm.ClassFile.Reader.u1 : Jvm.ClassFile.Reader Jvm.ClassFile.DecodeError Nat).run c).run pc) _) _ = _
  rw [u1_at h]
  show Except.ok (Jvm.ClassFile.Instr.ireturn, pc + 1 - pc) = _
  rw [de_l1]
theorem de_182 {c : ByteArray} {pc v : Nat} {b1 b2 : UInt8} (h : bat c pc 182) (h1 : bat c (pc + 1) b1) (h2 : bat c (pc + 1 + 1) b2) (e : b1.toNat * 256 + b2.toNat = v) : decode c pc = .ok (Jvm.ClassFile.Instr.invokevirtual v, 3) := by
  show Except.bind (Except.bind (((Jvm.ClassFile.Reader.u1 : Jvm.ClassFile.Reader Jvm.ClassFile.DecodeError Nat).run c).run pc) _) _ = _
  rw [u1_at h]
  show Except.bind (Except.bind (((Jvm.ClassFile.Reader.u2 : Jvm.ClassFile.Reader Jvm.ClassFile.DecodeError Nat).run c).run (pc + 1)) (fun r => .ok (Jvm.ClassFile.Instr.invokevirtual r.1, r.2))) (fun r => .ok (r.1, r.2 - pc)) = _
  rw [u2_at h1 h2, e]
  show Except.ok (Jvm.ClassFile.Instr.invokevirtual v, pc + 3 - pc) = _
  rw [de_l3]
theorem de_184 {c : ByteArray} {pc v : Nat} {b1 b2 : UInt8} (h : bat c pc 184) (h1 : bat c (pc + 1) b1) (h2 : bat c (pc + 1 + 1) b2) (e : b1.toNat * 256 + b2.toNat = v) : decode c pc = .ok (Jvm.ClassFile.Instr.invokestatic v, 3) := by
  show Except.bind (Except.bind (((Jvm.ClassFile.Reader.u1 : Jvm.ClassFile.Reader Jvm.ClassFile.DecodeError Nat).run c).run pc) _) _ = _
  rw [u1_at h]
  show Except.bind (Except.bind (((Jvm.ClassFile.Reader.u2 : Jvm.ClassFile.Reader Jvm.ClassFile.DecodeError Nat).run c).run (pc + 1)) (fun r => .ok (Jvm.ClassFile.Instr.invokestatic r.1, r.2))) (fun r => .ok (r.1, r.2 - pc)) = _
  rw [u2_at h1 h2, e]
  show Except.ok (Jvm.ClassFile.Instr.invokestatic v, pc + 3 - pc) = _
  rw [de_l3]
theorem de_190 {c : ByteArray} {pc : Nat} (h : bat c pc 190) : decode c pc = .ok (Jvm.ClassFile.Instr.arraylength, 1) := by
  show Except.bind (Except.bind (((Jvm.ClassFile.Reader.u1 : Jvm.ClassFile.Reader Jvm.ClassFile.DecodeError Nat).run c).run pc) _) _ = _
  rw [u1_at h]
  show Except.ok (Jvm.ClassFile.Instr.arraylength, pc + 1 - pc) = _
  rw [de_l1]
theorem ap16 {B t : List UInt8} (h : B.length = 16) (j : Nat) : (B ++ t)[16 + j]? = t[j]? := by
  rw [List.getElem?_append_right (by omega), h, Nat.add_sub_cancel_left]
def tL_152 : List UInt8 := [1, 150, 54, 7, 167, 0, 3, 132, 5, 6, 167, 246, 146, 4, 172]
def tL_151 : List UInt8 := [96, 46, 45, 184, 1, 148, 54, 6, 44, 42, 21, 5, 4, 96, 46, 182] ++ tL_152
def tL_150 : List UInt8 := [4, 96, 46, 182, 1, 147, 54, 7, 167, 0, 31, 43, 42, 21, 5, 4] ++ tL_151
def tL_149 : List UInt8 := [42, 21, 5, 4, 96, 46, 45, 184, 1, 145, 54, 6, 44, 42, 21, 5] ++ tL_150
def tL_148 : List UInt8 := [0, 72, 43, 182, 1, 141, 87, 44, 182, 1, 144, 87, 167, 0, 59, 43] ++ tL_149
def tL_147 : List UInt8 := [0, 88, 43, 45, 184, 1, 138, 54, 6, 44, 182, 1, 140, 54, 7, 167] ++ tL_148
def tL_146 : List UInt8 := [0, 104, 43, 45, 184, 1, 135, 54, 6, 44, 182, 1, 137, 54, 7, 167] ++ tL_147
def tL_145 : List UInt8 := [132, 54, 6, 44, 42, 21, 5, 4, 96, 46, 182, 1, 134, 54, 7, 167] ++ tL_146
def tL_144 : List UInt8 := [131, 54, 7, 167, 0, 132, 43, 42, 21, 5, 4, 96, 46, 45, 184, 1] ++ tL_145
def tL_143 : List UInt8 := [96, 46, 42, 21, 5, 5, 96, 46, 42, 21, 5, 6, 96, 46, 182, 1] ++ tL_144
def tL_142 : List UInt8 := [21, 5, 6, 96, 46, 45, 184, 1, 129, 54, 6, 44, 42, 21, 5, 4] ++ tL_143
def tL_141 : List UInt8 := [0, 184, 43, 42, 21, 5, 4, 96, 46, 42, 21, 5, 5, 96, 46, 42] ++ tL_142
def tL_140 : List UInt8 := [5, 5, 96, 46, 42, 21, 5, 6, 96, 46, 182, 1, 128, 54, 7, 167] ++ tL_141
def tL_139 : List UInt8 := [46, 45, 184, 1, 126, 54, 6, 44, 42, 21, 5, 4, 96, 46, 42, 21] ++ tL_140
def tL_138 : List UInt8 := [21, 5, 4, 96, 46, 42, 21, 5, 5, 96, 46, 42, 21, 5, 6, 96] ++ tL_139
def tL_137 : List UInt8 := [7, 4, 167, 0, 4, 3, 182, 1, 125, 54, 7, 167, 0, 236, 43, 42] ++ tL_138
def tL_136 : List UInt8 := [6, 44, 42, 21, 5, 4, 96, 46, 42, 21, 5, 5, 96, 46, 153, 0] ++ tL_137
def tL_135 : List UInt8 := [5, 96, 46, 153, 0, 7, 4, 167, 0, 4, 3, 45, 184, 1, 123, 54] ++ tL_136
def tL_134 : List UInt8 := [122, 54, 7, 167, 1, 36, 43, 42, 21, 5, 4, 96, 46, 42, 21, 5] ++ tL_135
def tL_133 : List UInt8 := [6, 44, 42, 21, 5, 4, 96, 46, 42, 21, 5, 5, 96, 46, 182, 1] ++ tL_134
def tL_132 : List UInt8 := [21, 5, 4, 96, 46, 42, 21, 5, 5, 96, 46, 45, 184, 1, 120, 54] ++ tL_133
def tL_131 : List UInt8 := [7, 4, 167, 0, 4, 3, 182, 1, 119, 54, 7, 167, 1, 76, 43, 42] ++ tL_132
def tL_130 : List UInt8 := [6, 44, 42, 21, 5, 4, 96, 46, 42, 21, 5, 5, 96, 46, 153, 0] ++ tL_131
def tL_129 : List UInt8 := [5, 96, 46, 153, 0, 7, 4, 167, 0, 4, 3, 45, 184, 1, 116, 54] ++ tL_130
def tL_128 : List UInt8 := [115, 54, 7, 167, 1, 132, 43, 42, 21, 5, 4, 96, 46, 42, 21, 5] ++ tL_129
def tL_127 : List UInt8 := [46, 45, 184, 1, 113, 54, 6, 44, 42, 21, 5, 4, 96, 46, 182, 1] ++ tL_128
def tL_126 : List UInt8 := [96, 46, 182, 1, 112, 54, 7, 167, 1, 160, 43, 42, 21, 5, 4, 96] ++ tL_127
def tL_125 : List UInt8 := [21, 5, 4, 96, 46, 45, 184, 1, 110, 54, 6, 44, 42, 21, 5, 4] ++ tL_126
def tL_124 : List UInt8 := [42, 21, 5, 6, 96, 46, 182, 1, 109, 55, 7, 167, 1, 188, 43, 42] ++ tL_125
def tL_123 : List UInt8 := [107, 54, 6, 44, 42, 21, 5, 4, 96, 46, 42, 21, 5, 5, 96, 46] ++ tL_124
def tL_122 : List UInt8 := [46, 42, 21, 5, 5, 96, 46, 42, 21, 5, 6, 96, 46, 45, 184, 1] ++ tL_123
def tL_121 : List UInt8 := [96, 46, 182, 1, 106, 54, 7, 167, 1, 240, 43, 42, 21, 5, 4, 96] ++ tL_122
def tL_120 : List UInt8 := [184, 1, 104, 54, 6, 44, 42, 21, 5, 4, 96, 46, 42, 21, 5, 5] ++ tL_121
def tL_119 : List UInt8 := [2, 24, 43, 42, 21, 5, 4, 96, 46, 42, 21, 5, 5, 96, 46, 45] ++ tL_120
def tL_118 : List UInt8 := [101, 54, 6, 44, 42, 21, 5, 4, 96, 46, 182, 1, 103, 54, 7, 167] ++ tL_119
def tL_117 : List UInt8 := [100, 54, 7, 167, 2, 52, 43, 42, 21, 5, 4, 96, 46, 45, 184, 1] ++ tL_118
def tL_116 : List UInt8 := [97, 54, 7, 167, 2, 68, 43, 45, 184, 1, 98, 54, 6, 44, 182, 1] ++ tL_117
def tL_115 : List UInt8 := [46, 45, 184, 1, 95, 54, 6, 44, 42, 21, 5, 4, 96, 46, 182, 1] ++ tL_116
def tL_114 : List UInt8 := [96, 46, 182, 1, 94, 55, 7, 167, 2, 96, 43, 42, 21, 5, 4, 96] ++ tL_115
def tL_113 : List UInt8 := [21, 5, 4, 96, 46, 45, 184, 1, 92, 54, 6, 44, 42, 21, 5, 4] ++ tL_114
def tL_112 : List UInt8 := [42, 21, 5, 6, 96, 46, 182, 1, 91, 54, 7, 167, 2, 124, 43, 42] ++ tL_113
def tL_111 : List UInt8 := [89, 54, 6, 44, 42, 21, 5, 4, 96, 46, 42, 21, 5, 5, 96, 46] ++ tL_112
def tL_110 : List UInt8 := [46, 42, 21, 5, 5, 96, 46, 42, 21, 5, 6, 96, 46, 45, 184, 1] ++ tL_111
def tL_109 : List UInt8 := [96, 46, 182, 1, 88, 55, 7, 167, 2, 176, 43, 42, 21, 5, 4, 96] ++ tL_110
def tL_108 : List UInt8 := [42, 21, 5, 4, 96, 46, 42, 21, 5, 5, 96, 46, 42, 21, 5, 6] ++ tL_109
def tL_107 : List UInt8 := [5, 96, 46, 42, 21, 5, 6, 96, 46, 45, 184, 1, 86, 54, 6, 44] ++ tL_108
def tL_106 : List UInt8 := [85, 54, 7, 167, 2, 228, 43, 42, 21, 5, 4, 96, 46, 42, 21, 5] ++ tL_107
def tL_105 : List UInt8 := [96, 46, 42, 21, 5, 5, 96, 46, 42, 21, 5, 6, 96, 46, 182, 1] ++ tL_106
def tL_104 : List UInt8 := [21, 5, 6, 96, 46, 45, 184, 1, 83, 54, 6, 44, 42, 21, 5, 4] ++ tL_105
def tL_103 : List UInt8 := [3, 24, 43, 42, 21, 5, 4, 96, 46, 42, 21, 5, 5, 96, 46, 42] ++ tL_104
def tL_102 : List UInt8 := [5, 5, 96, 46, 42, 21, 5, 6, 96, 46, 182, 1, 82, 55, 7, 167] ++ tL_103
def tL_101 : List UInt8 := [46, 45, 184, 1, 80, 54, 6, 44, 42, 21, 5, 4, 96, 46, 42, 21] ++ tL_102
def tL_100 : List UInt8 := [21, 5, 4, 96, 46, 42, 21, 5, 5, 96, 46, 42, 21, 5, 6, 96] ++ tL_101
def tL_99 : List UInt8 := [42, 21, 5, 5, 96, 46, 182, 1, 79, 54, 7, 167, 3, 76, 43, 42] ++ tL_100
def tL_98 : List UInt8 := [5, 96, 46, 45, 184, 1, 77, 54, 6, 44, 42, 21, 5, 4, 96, 46] ++ tL_99
def tL_97 : List UInt8 := [76, 55, 7, 167, 3, 116, 43, 42, 21, 5, 4, 96, 46, 42, 21, 5] ++ tL_98
def tL_96 : List UInt8 := [46, 45, 184, 1, 74, 54, 6, 44, 42, 21, 5, 4, 96, 46, 182, 1] ++ tL_97
def tL_95 : List UInt8 := [96, 46, 182, 1, 73, 54, 7, 167, 3, 144, 43, 42, 21, 5, 4, 96] ++ tL_96
def tL_94 : List UInt8 := [21, 5, 4, 96, 46, 45, 184, 1, 71, 54, 6, 44, 42, 21, 5, 4] ++ tL_95
def tL_93 : List UInt8 := [42, 21, 5, 5, 96, 46, 182, 1, 70, 54, 7, 167, 3, 172, 43, 42] ++ tL_94
def tL_92 : List UInt8 := [5, 96, 46, 45, 184, 1, 68, 54, 6, 44, 42, 21, 5, 4, 96, 46] ++ tL_93
def tL_91 : List UInt8 := [67, 55, 7, 167, 3, 212, 43, 42, 21, 5, 4, 96, 46, 42, 21, 5] ++ tL_92
def tL_90 : List UInt8 := [96, 46, 42, 21, 5, 5, 96, 46, 42, 21, 5, 6, 96, 46, 182, 1] ++ tL_91
def tL_89 : List UInt8 := [21, 5, 6, 96, 46, 45, 184, 1, 65, 54, 6, 44, 42, 21, 5, 4] ++ tL_90
def tL_88 : List UInt8 := [4, 8, 43, 42, 21, 5, 4, 96, 46, 42, 21, 5, 5, 96, 46, 42] ++ tL_89
def tL_87 : List UInt8 := [5, 4, 96, 46, 42, 21, 5, 5, 96, 46, 182, 1, 64, 54, 7, 167] ++ tL_88
def tL_86 : List UInt8 := [46, 42, 21, 5, 5, 96, 46, 45, 184, 1, 62, 54, 6, 44, 42, 21] ++ tL_87
def tL_85 : List UInt8 := [96, 46, 182, 1, 61, 54, 7, 167, 4, 48, 43, 42, 21, 5, 4, 96] ++ tL_86
def tL_84 : List UInt8 := [42, 21, 5, 4, 96, 46, 42, 21, 5, 5, 96, 46, 42, 21, 5, 6] ++ tL_85
def tL_83 : List UInt8 := [5, 96, 46, 42, 21, 5, 6, 96, 46, 45, 184, 1, 59, 54, 6, 44] ++ tL_84
def tL_82 : List UInt8 := [58, 54, 7, 167, 4, 100, 43, 42, 21, 5, 4, 96, 46, 42, 21, 5] ++ tL_83
def tL_81 : List UInt8 := [96, 46, 42, 21, 5, 5, 96, 46, 42, 21, 5, 6, 96, 46, 182, 1] ++ tL_82
def tL_80 : List UInt8 := [21, 5, 6, 96, 46, 45, 184, 1, 56, 54, 6, 44, 42, 21, 5, 4] ++ tL_81
def tL_79 : List UInt8 := [4, 152, 43, 42, 21, 5, 4, 96, 46, 42, 21, 5, 5, 96, 46, 42] ++ tL_80
def tL_78 : List UInt8 := [169, 43, 25, 4, 184, 1, 52, 54, 6, 44, 182, 1, 55, 56, 7, 167] ++ tL_79
def tL_77 : List UInt8 := [54, 6, 44, 42, 21, 5, 4, 96, 46, 182, 1, 51, 54, 7, 167, 4] ++ tL_78
def tL_76 : List UInt8 := [55, 7, 167, 4, 197, 43, 42, 21, 5, 4, 96, 46, 45, 184, 1, 49] ++ tL_77
def tL_75 : List UInt8 := [45, 184, 1, 46, 54, 6, 44, 42, 21, 5, 4, 96, 46, 182, 1, 48] ++ tL_76
def tL_74 : List UInt8 := [46, 182, 1, 45, 54, 7, 167, 4, 225, 43, 42, 21, 5, 4, 96, 46] ++ tL_75
def tL_73 : List UInt8 := [5, 4, 96, 46, 45, 184, 1, 43, 54, 6, 44, 42, 21, 5, 4, 96] ++ tL_74
def tL_72 : List UInt8 := [21, 5, 4, 96, 46, 182, 1, 42, 54, 7, 167, 4, 253, 43, 42, 21] ++ tL_73
def tL_71 : List UInt8 := [25, 43, 42, 21, 5, 4, 96, 46, 45, 184, 1, 40, 54, 6, 44, 42] ++ tL_72
def tL_70 : List UInt8 := [41, 43, 45, 184, 1, 37, 54, 6, 44, 182, 1, 39, 54, 7, 167, 5] ++ tL_71
def tL_69 : List UInt8 := [57, 43, 45, 184, 1, 34, 54, 6, 44, 182, 1, 36, 55, 7, 167, 5] ++ tL_70
def tL_68 : List UInt8 := [73, 43, 45, 184, 1, 31, 54, 6, 44, 182, 1, 33, 55, 7, 167, 5] ++ tL_69
def tL_67 : List UInt8 := [89, 43, 45, 184, 1, 27, 54, 6, 44, 182, 1, 30, 54, 7, 167, 5] ++ tL_68
def tL_66 : List UInt8 := [4, 96, 46, 42, 21, 5, 5, 96, 46, 182, 1, 26, 55, 7, 167, 5] ++ tL_67
def tL_65 : List UInt8 := [42, 21, 5, 5, 96, 46, 45, 184, 1, 24, 54, 6, 44, 42, 21, 5] ++ tL_66
def tL_64 : List UInt8 := [46, 182, 1, 23, 55, 7, 167, 5, 129, 43, 42, 21, 5, 4, 96, 46] ++ tL_65
def tL_63 : List UInt8 := [5, 4, 96, 46, 45, 184, 1, 21, 54, 6, 44, 42, 21, 5, 4, 96] ++ tL_64
def tL_62 : List UInt8 := [21, 5, 5, 96, 46, 182, 1, 20, 54, 7, 167, 5, 157, 43, 42, 21] ++ tL_63
def tL_61 : List UInt8 := [96, 46, 45, 184, 1, 18, 54, 6, 44, 42, 21, 5, 4, 96, 46, 42] ++ tL_62
def tL_60 : List UInt8 := [54, 7, 167, 5, 197, 43, 42, 21, 5, 4, 96, 46, 42, 21, 5, 5] ++ tL_61
def tL_59 : List UInt8 := [44, 42, 21, 5, 4, 96, 46, 42, 21, 5, 5, 96, 46, 182, 1, 17] ++ tL_60
def tL_58 : List UInt8 := [5, 4, 96, 46, 42, 21, 5, 5, 96, 46, 45, 184, 1, 15, 54, 6] ++ tL_59
def tL_57 : List UInt8 := [21, 5, 4, 96, 46, 182, 1, 14, 54, 7, 167, 5, 237, 43, 42, 21] ++ tL_58
def tL_56 : List UInt8 := [9, 43, 42, 21, 5, 4, 96, 46, 45, 184, 1, 12, 54, 6, 44, 42] ++ tL_57
def tL_55 : List UInt8 := [54, 6, 44, 42, 21, 5, 4, 96, 46, 182, 1, 11, 54, 7, 167, 6] ++ tL_56
def tL_54 : List UInt8 := [54, 7, 167, 6, 37, 43, 42, 21, 5, 4, 96, 46, 45, 184, 1, 9] ++ tL_55
def tL_53 : List UInt8 := [46, 42, 21, 5, 5, 96, 46, 42, 21, 5, 6, 96, 46, 182, 1, 8] ++ tL_54
def tL_52 : List UInt8 := [5, 6, 96, 46, 45, 184, 1, 6, 54, 6, 44, 42, 21, 5, 4, 96] ++ tL_53
def tL_51 : List UInt8 := [89, 43, 42, 21, 5, 4, 96, 46, 42, 21, 5, 5, 96, 46, 42, 21] ++ tL_52
def tL_50 : List UInt8 := [4, 96, 46, 42, 21, 5, 5, 96, 46, 182, 1, 5, 54, 7, 167, 6] ++ tL_51
def tL_49 : List UInt8 := [42, 21, 5, 5, 96, 46, 45, 184, 1, 3, 54, 6, 44, 42, 21, 5] ++ tL_50
def tL_48 : List UInt8 := [87, 44, 182, 1, 2, 87, 167, 6, 129, 43, 42, 21, 5, 4, 96, 46] ++ tL_49
def tL_47 : List UInt8 := [5, 5, 96, 46, 182, 0, 254, 54, 7, 167, 6, 142, 43, 182, 0, 255] ++ tL_48
def tL_46 : List UInt8 := [46, 45, 184, 0, 252, 54, 6, 44, 42, 21, 5, 4, 96, 46, 42, 21] ++ tL_47
def tL_45 : List UInt8 := [7, 167, 6, 182, 43, 42, 21, 5, 4, 96, 46, 42, 21, 5, 5, 96] ++ tL_46
def tL_44 : List UInt8 := [184, 0, 249, 54, 6, 44, 42, 21, 5, 4, 96, 46, 182, 0, 251, 54] ++ tL_45
def tL_43 : List UInt8 := [182, 0, 248, 54, 7, 167, 6, 210, 43, 42, 21, 5, 4, 96, 46, 45] ++ tL_44
def tL_42 : List UInt8 := [5, 4, 96, 46, 42, 21, 5, 5, 96, 46, 42, 21, 5, 6, 96, 46] ++ tL_43
def tL_41 : List UInt8 := [46, 42, 21, 5, 6, 96, 46, 45, 184, 0, 245, 54, 6, 44, 42, 21] ++ tL_42
def tL_40 : List UInt8 := [87, 167, 7, 6, 43, 42, 21, 5, 4, 96, 46, 42, 21, 5, 5, 96] ++ tL_41
def tL_39 : List UInt8 := [0, 240, 54, 7, 167, 7, 19, 43, 182, 0, 241, 87, 44, 182, 0, 244] ++ tL_40
def tL_38 : List UInt8 := [54, 6, 44, 42, 21, 5, 4, 96, 46, 42, 21, 5, 5, 96, 46, 182] ++ tL_39
def tL_37 : List UInt8 := [42, 21, 5, 4, 96, 46, 42, 21, 5, 5, 96, 46, 45, 184, 0, 238] ++ tL_38
def tL_36 : List UInt8 := [7, 72, 43, 182, 0, 234, 87, 44, 182, 0, 237, 87, 167, 7, 59, 43] ++ tL_37
def tL_35 : List UInt8 := [54, 7, 167, 7, 85, 43, 182, 0, 230, 87, 44, 182, 0, 233, 87, 167] ++ tL_36
def tL_34 : List UInt8 := [45, 184, 0, 227, 54, 6, 44, 42, 21, 5, 4, 96, 46, 182, 0, 229] ++ tL_35
def tL_33 : List UInt8 := [148, 153, 0, 5, 3, 172, 167, 7, 113, 43, 42, 21, 5, 4, 96, 46] ++ tL_34
def tL_32 : List UInt8 := [159, 0, 5, 3, 172, 21, 6, 154, 0, 15, 45, 3, 47, 21, 7, 133] ++ tL_33
def tL_31 : List UInt8 := [21, 5, 5, 96, 46, 182, 0, 223, 54, 7, 44, 182, 0, 224, 21, 6] ++ tL_32
def tL_30 : List UInt8 := [96, 46, 45, 184, 0, 220, 54, 6, 44, 42, 21, 5, 4, 96, 46, 42] ++ tL_31
def tL_29 : List UInt8 := [219, 87, 167, 7, 181, 43, 42, 21, 5, 4, 96, 46, 42, 21, 5, 5] ++ tL_30
def tL_28 : List UInt8 := [44, 182, 0, 215, 87, 167, 7, 194, 43, 182, 0, 216, 87, 44, 182, 0] ++ tL_29
def tL_27 : List UInt8 := [0, 208, 87, 44, 182, 0, 211, 87, 167, 7, 207, 43, 182, 0, 212, 87] ++ tL_28
def tL_26 : List UInt8 := [233, 43, 182, 0, 204, 87, 44, 182, 0, 207, 87, 167, 7, 220, 43, 182] ++ tL_27
def tL_25 : List UInt8 := [54, 6, 44, 42, 21, 5, 4, 96, 46, 182, 0, 203, 54, 7, 167, 7] ++ tL_26
def tL_24 : List UInt8 := [197, 87, 167, 8, 5, 43, 42, 21, 5, 4, 96, 46, 45, 184, 0, 198] ++ tL_25
def tL_23 : List UInt8 := [96, 46, 42, 21, 5, 7, 96, 46, 42, 21, 5, 8, 96, 46, 182, 0] ++ tL_24
def tL_22 : List UInt8 := [42, 21, 5, 4, 96, 46, 42, 21, 5, 5, 96, 46, 42, 21, 5, 6] ++ tL_23
def tL_21 : List UInt8 := [21, 5, 7, 96, 46, 42, 21, 5, 8, 96, 46, 182, 0, 193, 87, 44] ++ tL_22
def tL_20 : List UInt8 := [4, 96, 46, 42, 21, 5, 5, 96, 46, 42, 21, 5, 6, 96, 46, 42] ++ tL_21
def tL_19 : List UInt8 := [0, 0, 9, 21, 0, 0, 9, 34, 0, 0, 9, 62, 43, 42, 21, 5] ++ tL_20
def tL_18 : List UInt8 := [0, 0, 8, 165, 0, 0, 8, 217, 0, 0, 8, 245, 0, 0, 9, 5] ++ tL_19
def tL_17 : List UInt8 := [0, 0, 7, 217, 0, 0, 8, 17, 0, 0, 8, 57, 0, 0, 8, 113] ++ tL_18
def tL_16 : List UInt8 := [0, 0, 7, 69, 0, 0, 7, 109, 0, 0, 7, 161, 0, 0, 7, 189] ++ tL_17
def tL_15 : List UInt8 := [0, 0, 6, 225, 0, 0, 6, 253, 0, 0, 7, 25, 0, 0, 7, 41] ++ tL_16
def tL_14 : List UInt8 := [0, 0, 6, 17, 0, 0, 6, 69, 0, 0, 6, 121, 0, 0, 6, 173] ++ tL_15
def tL_13 : List UInt8 := [0, 0, 5, 137, 0, 0, 5, 177, 0, 0, 5, 205, 0, 0, 5, 233] ++ tL_14
def tL_12 : List UInt8 := [0, 0, 4, 197, 0, 0, 4, 249, 0, 0, 5, 45, 0, 0, 5, 85] ++ tL_13
def tL_11 : List UInt8 := [0, 0, 4, 96, 0, 0, 4, 124, 0, 0, 4, 152, 0, 0, 4, 180] ++ tL_12
def tL_10 : List UInt8 := [0, 0, 4, 20, 0, 0, 4, 36, 0, 0, 4, 52, 0, 0, 4, 68] ++ tL_11
def tL_9 : List UInt8 := [0, 0, 3, 152, 0, 0, 3, 192, 0, 0, 3, 220, 0, 0, 4, 4] ++ tL_10
def tL_8 : List UInt8 := [0, 0, 3, 4, 0, 0, 3, 56, 0, 0, 3, 84, 0, 0, 3, 112] ++ tL_9
def tL_7 : List UInt8 := [0, 0, 2, 139, 0, 0, 2, 167, 0, 0, 2, 207, 0, 0, 2, 220] ++ tL_8
def tL_6 : List UInt8 := [0, 0, 2, 21, 0, 0, 2, 34, 0, 0, 2, 74, 0, 0, 2, 87] ++ tL_7
def tL_5 : List UInt8 := [0, 0, 1, 155, 0, 0, 1, 168, 0, 0, 1, 236, 0, 0, 2, 8] ++ tL_6
def tL_4 : List UInt8 := [0, 0, 1, 88, 0, 0, 1, 116, 0, 0, 1, 129, 0, 0, 1, 142] ++ tL_5
def tL_3 : List UInt8 := [0, 0, 9, 90, 0, 0, 0, 0, 0, 0, 0, 63, 0, 0, 1, 15] ++ tL_4
def tL_2 : List UInt8 := [16, 6, 100, 163, 9, 106, 42, 21, 5, 46, 16, 63, 126, 170, 0, 0] ++ tL_3
def tL_1 : List UInt8 := [4, 188, 11, 78, 4, 188, 7, 58, 4, 3, 54, 5, 21, 5, 42, 190] ++ tL_2
def tL_0 : List UInt8 := [187, 0, 8, 89, 183, 0, 189, 76, 187, 0, 190, 89, 183, 0, 192, 77] ++ tL_1
set_option maxRecDepth 100000 in
theorem tL_ok : code.data.toList = tL_0 := by decide +kernel
theorem gL_0 (j : Nat) : code.data.toList[0 + j]? = tL_0[j]? := by rw [Nat.zero_add, tL_ok]
theorem gL_1 (j : Nat) : code.data.toList[16 + j]? = tL_1[j]? := (congrArg (fun n => code.data.toList[n]?) (Nat.add_assoc 0 16 j)).trans ((gL_0 (16 + j)).trans (ap16 (t := tL_1) rfl j))
theorem gL_2 (j : Nat) : code.data.toList[32 + j]? = tL_2[j]? := (congrArg (fun n => code.data.toList[n]?) (Nat.add_assoc 16 16 j)).trans ((gL_1 (16 + j)).trans (ap16 (t := tL_2) rfl j))
theorem gL_3 (j : Nat) : code.data.toList[48 + j]? = tL_3[j]? := (congrArg (fun n => code.data.toList[n]?) (Nat.add_assoc 32 16 j)).trans ((gL_2 (16 + j)).trans (ap16 (t := tL_3) rfl j))
theorem gL_4 (j : Nat) : code.data.toList[64 + j]? = tL_4[j]? := (congrArg (fun n => code.data.toList[n]?) (Nat.add_assoc 48 16 j)).trans ((gL_3 (16 + j)).trans (ap16 (t := tL_4) rfl j))
theorem gL_5 (j : Nat) : code.data.toList[80 + j]? = tL_5[j]? := (congrArg (fun n => code.data.toList[n]?) (Nat.add_assoc 64 16 j)).trans ((gL_4 (16 + j)).trans (ap16 (t := tL_5) rfl j))
theorem gL_6 (j : Nat) : code.data.toList[96 + j]? = tL_6[j]? := (congrArg (fun n => code.data.toList[n]?) (Nat.add_assoc 80 16 j)).trans ((gL_5 (16 + j)).trans (ap16 (t := tL_6) rfl j))
theorem gL_7 (j : Nat) : code.data.toList[112 + j]? = tL_7[j]? := (congrArg (fun n => code.data.toList[n]?) (Nat.add_assoc 96 16 j)).trans ((gL_6 (16 + j)).trans (ap16 (t := tL_7) rfl j))
theorem gL_8 (j : Nat) : code.data.toList[128 + j]? = tL_8[j]? := (congrArg (fun n => code.data.toList[n]?) (Nat.add_assoc 112 16 j)).trans ((gL_7 (16 + j)).trans (ap16 (t := tL_8) rfl j))
theorem gL_9 (j : Nat) : code.data.toList[144 + j]? = tL_9[j]? := (congrArg (fun n => code.data.toList[n]?) (Nat.add_assoc 128 16 j)).trans ((gL_8 (16 + j)).trans (ap16 (t := tL_9) rfl j))
theorem gL_10 (j : Nat) : code.data.toList[160 + j]? = tL_10[j]? := (congrArg (fun n => code.data.toList[n]?) (Nat.add_assoc 144 16 j)).trans ((gL_9 (16 + j)).trans (ap16 (t := tL_10) rfl j))
theorem gL_11 (j : Nat) : code.data.toList[176 + j]? = tL_11[j]? := (congrArg (fun n => code.data.toList[n]?) (Nat.add_assoc 160 16 j)).trans ((gL_10 (16 + j)).trans (ap16 (t := tL_11) rfl j))
theorem gL_12 (j : Nat) : code.data.toList[192 + j]? = tL_12[j]? := (congrArg (fun n => code.data.toList[n]?) (Nat.add_assoc 176 16 j)).trans ((gL_11 (16 + j)).trans (ap16 (t := tL_12) rfl j))
theorem gL_13 (j : Nat) : code.data.toList[208 + j]? = tL_13[j]? := (congrArg (fun n => code.data.toList[n]?) (Nat.add_assoc 192 16 j)).trans ((gL_12 (16 + j)).trans (ap16 (t := tL_13) rfl j))
theorem gL_14 (j : Nat) : code.data.toList[224 + j]? = tL_14[j]? := (congrArg (fun n => code.data.toList[n]?) (Nat.add_assoc 208 16 j)).trans ((gL_13 (16 + j)).trans (ap16 (t := tL_14) rfl j))
theorem gL_15 (j : Nat) : code.data.toList[240 + j]? = tL_15[j]? := (congrArg (fun n => code.data.toList[n]?) (Nat.add_assoc 224 16 j)).trans ((gL_14 (16 + j)).trans (ap16 (t := tL_15) rfl j))
theorem gL_16 (j : Nat) : code.data.toList[256 + j]? = tL_16[j]? := (congrArg (fun n => code.data.toList[n]?) (Nat.add_assoc 240 16 j)).trans ((gL_15 (16 + j)).trans (ap16 (t := tL_16) rfl j))
theorem gL_17 (j : Nat) : code.data.toList[272 + j]? = tL_17[j]? := (congrArg (fun n => code.data.toList[n]?) (Nat.add_assoc 256 16 j)).trans ((gL_16 (16 + j)).trans (ap16 (t := tL_17) rfl j))
theorem gL_18 (j : Nat) : code.data.toList[288 + j]? = tL_18[j]? := (congrArg (fun n => code.data.toList[n]?) (Nat.add_assoc 272 16 j)).trans ((gL_17 (16 + j)).trans (ap16 (t := tL_18) rfl j))
theorem gL_19 (j : Nat) : code.data.toList[304 + j]? = tL_19[j]? := (congrArg (fun n => code.data.toList[n]?) (Nat.add_assoc 288 16 j)).trans ((gL_18 (16 + j)).trans (ap16 (t := tL_19) rfl j))
theorem gL_20 (j : Nat) : code.data.toList[320 + j]? = tL_20[j]? := (congrArg (fun n => code.data.toList[n]?) (Nat.add_assoc 304 16 j)).trans ((gL_19 (16 + j)).trans (ap16 (t := tL_20) rfl j))
theorem gL_21 (j : Nat) : code.data.toList[336 + j]? = tL_21[j]? := (congrArg (fun n => code.data.toList[n]?) (Nat.add_assoc 320 16 j)).trans ((gL_20 (16 + j)).trans (ap16 (t := tL_21) rfl j))
theorem gL_22 (j : Nat) : code.data.toList[352 + j]? = tL_22[j]? := (congrArg (fun n => code.data.toList[n]?) (Nat.add_assoc 336 16 j)).trans ((gL_21 (16 + j)).trans (ap16 (t := tL_22) rfl j))
theorem gL_23 (j : Nat) : code.data.toList[368 + j]? = tL_23[j]? := (congrArg (fun n => code.data.toList[n]?) (Nat.add_assoc 352 16 j)).trans ((gL_22 (16 + j)).trans (ap16 (t := tL_23) rfl j))
theorem gL_24 (j : Nat) : code.data.toList[384 + j]? = tL_24[j]? := (congrArg (fun n => code.data.toList[n]?) (Nat.add_assoc 368 16 j)).trans ((gL_23 (16 + j)).trans (ap16 (t := tL_24) rfl j))
theorem gL_25 (j : Nat) : code.data.toList[400 + j]? = tL_25[j]? := (congrArg (fun n => code.data.toList[n]?) (Nat.add_assoc 384 16 j)).trans ((gL_24 (16 + j)).trans (ap16 (t := tL_25) rfl j))
theorem gL_26 (j : Nat) : code.data.toList[416 + j]? = tL_26[j]? := (congrArg (fun n => code.data.toList[n]?) (Nat.add_assoc 400 16 j)).trans ((gL_25 (16 + j)).trans (ap16 (t := tL_26) rfl j))
theorem gL_27 (j : Nat) : code.data.toList[432 + j]? = tL_27[j]? := (congrArg (fun n => code.data.toList[n]?) (Nat.add_assoc 416 16 j)).trans ((gL_26 (16 + j)).trans (ap16 (t := tL_27) rfl j))
theorem gL_28 (j : Nat) : code.data.toList[448 + j]? = tL_28[j]? := (congrArg (fun n => code.data.toList[n]?) (Nat.add_assoc 432 16 j)).trans ((gL_27 (16 + j)).trans (ap16 (t := tL_28) rfl j))
theorem gL_29 (j : Nat) : code.data.toList[464 + j]? = tL_29[j]? := (congrArg (fun n => code.data.toList[n]?) (Nat.add_assoc 448 16 j)).trans ((gL_28 (16 + j)).trans (ap16 (t := tL_29) rfl j))
theorem gL_30 (j : Nat) : code.data.toList[480 + j]? = tL_30[j]? := (congrArg (fun n => code.data.toList[n]?) (Nat.add_assoc 464 16 j)).trans ((gL_29 (16 + j)).trans (ap16 (t := tL_30) rfl j))
theorem gL_31 (j : Nat) : code.data.toList[496 + j]? = tL_31[j]? := (congrArg (fun n => code.data.toList[n]?) (Nat.add_assoc 480 16 j)).trans ((gL_30 (16 + j)).trans (ap16 (t := tL_31) rfl j))
theorem gL_32 (j : Nat) : code.data.toList[512 + j]? = tL_32[j]? := (congrArg (fun n => code.data.toList[n]?) (Nat.add_assoc 496 16 j)).trans ((gL_31 (16 + j)).trans (ap16 (t := tL_32) rfl j))
theorem gL_33 (j : Nat) : code.data.toList[528 + j]? = tL_33[j]? := (congrArg (fun n => code.data.toList[n]?) (Nat.add_assoc 512 16 j)).trans ((gL_32 (16 + j)).trans (ap16 (t := tL_33) rfl j))
theorem gL_34 (j : Nat) : code.data.toList[544 + j]? = tL_34[j]? := (congrArg (fun n => code.data.toList[n]?) (Nat.add_assoc 528 16 j)).trans ((gL_33 (16 + j)).trans (ap16 (t := tL_34) rfl j))
theorem gL_35 (j : Nat) : code.data.toList[560 + j]? = tL_35[j]? := (congrArg (fun n => code.data.toList[n]?) (Nat.add_assoc 544 16 j)).trans ((gL_34 (16 + j)).trans (ap16 (t := tL_35) rfl j))
theorem gL_36 (j : Nat) : code.data.toList[576 + j]? = tL_36[j]? := (congrArg (fun n => code.data.toList[n]?) (Nat.add_assoc 560 16 j)).trans ((gL_35 (16 + j)).trans (ap16 (t := tL_36) rfl j))
theorem gL_37 (j : Nat) : code.data.toList[592 + j]? = tL_37[j]? := (congrArg (fun n => code.data.toList[n]?) (Nat.add_assoc 576 16 j)).trans ((gL_36 (16 + j)).trans (ap16 (t := tL_37) rfl j))
theorem gL_38 (j : Nat) : code.data.toList[608 + j]? = tL_38[j]? := (congrArg (fun n => code.data.toList[n]?) (Nat.add_assoc 592 16 j)).trans ((gL_37 (16 + j)).trans (ap16 (t := tL_38) rfl j))
theorem gL_39 (j : Nat) : code.data.toList[624 + j]? = tL_39[j]? := (congrArg (fun n => code.data.toList[n]?) (Nat.add_assoc 608 16 j)).trans ((gL_38 (16 + j)).trans (ap16 (t := tL_39) rfl j))
theorem gL_40 (j : Nat) : code.data.toList[640 + j]? = tL_40[j]? := (congrArg (fun n => code.data.toList[n]?) (Nat.add_assoc 624 16 j)).trans ((gL_39 (16 + j)).trans (ap16 (t := tL_40) rfl j))
theorem gL_41 (j : Nat) : code.data.toList[656 + j]? = tL_41[j]? := (congrArg (fun n => code.data.toList[n]?) (Nat.add_assoc 640 16 j)).trans ((gL_40 (16 + j)).trans (ap16 (t := tL_41) rfl j))
theorem gL_42 (j : Nat) : code.data.toList[672 + j]? = tL_42[j]? := (congrArg (fun n => code.data.toList[n]?) (Nat.add_assoc 656 16 j)).trans ((gL_41 (16 + j)).trans (ap16 (t := tL_42) rfl j))
theorem gL_43 (j : Nat) : code.data.toList[688 + j]? = tL_43[j]? := (congrArg (fun n => code.data.toList[n]?) (Nat.add_assoc 672 16 j)).trans ((gL_42 (16 + j)).trans (ap16 (t := tL_43) rfl j))
theorem gL_44 (j : Nat) : code.data.toList[704 + j]? = tL_44[j]? := (congrArg (fun n => code.data.toList[n]?) (Nat.add_assoc 688 16 j)).trans ((gL_43 (16 + j)).trans (ap16 (t := tL_44) rfl j))
theorem gL_45 (j : Nat) : code.data.toList[720 + j]? = tL_45[j]? := (congrArg (fun n => code.data.toList[n]?) (Nat.add_assoc 704 16 j)).trans ((gL_44 (16 + j)).trans (ap16 (t := tL_45) rfl j))
theorem gL_46 (j : Nat) : code.data.toList[736 + j]? = tL_46[j]? := (congrArg (fun n => code.data.toList[n]?) (Nat.add_assoc 720 16 j)).trans ((gL_45 (16 + j)).trans (ap16 (t := tL_46) rfl j))
theorem gL_47 (j : Nat) : code.data.toList[752 + j]? = tL_47[j]? := (congrArg (fun n => code.data.toList[n]?) (Nat.add_assoc 736 16 j)).trans ((gL_46 (16 + j)).trans (ap16 (t := tL_47) rfl j))
theorem gL_48 (j : Nat) : code.data.toList[768 + j]? = tL_48[j]? := (congrArg (fun n => code.data.toList[n]?) (Nat.add_assoc 752 16 j)).trans ((gL_47 (16 + j)).trans (ap16 (t := tL_48) rfl j))
theorem gL_49 (j : Nat) : code.data.toList[784 + j]? = tL_49[j]? := (congrArg (fun n => code.data.toList[n]?) (Nat.add_assoc 768 16 j)).trans ((gL_48 (16 + j)).trans (ap16 (t := tL_49) rfl j))
theorem gL_50 (j : Nat) : code.data.toList[800 + j]? = tL_50[j]? := (congrArg (fun n => code.data.toList[n]?) (Nat.add_assoc 784 16 j)).trans ((gL_49 (16 + j)).trans (ap16 (t := tL_50) rfl j))
theorem gL_51 (j : Nat) : code.data.toList[816 + j]? = tL_51[j]? := (congrArg (fun n => code.data.toList[n]?) (Nat.add_assoc 800 16 j)).trans ((gL_50 (16 + j)).trans (ap16 (t := tL_51) rfl j))
theorem gL_52 (j : Nat) : code.data.toList[832 + j]? = tL_52[j]? := (congrArg (fun n => code.data.toList[n]?) (Nat.add_assoc 816 16 j)).trans ((gL_51 (16 + j)).trans (ap16 (t := tL_52) rfl j))
theorem gL_53 (j : Nat) : code.data.toList[848 + j]? = tL_53[j]? := (congrArg (fun n => code.data.toList[n]?) (Nat.add_assoc 832 16 j)).trans ((gL_52 (16 + j)).trans (ap16 (t := tL_53) rfl j))
theorem gL_54 (j : Nat) : code.data.toList[864 + j]? = tL_54[j]? := (congrArg (fun n => code.data.toList[n]?) (Nat.add_assoc 848 16 j)).trans ((gL_53 (16 + j)).trans (ap16 (t := tL_54) rfl j))
theorem gL_55 (j : Nat) : code.data.toList[880 + j]? = tL_55[j]? := (congrArg (fun n => code.data.toList[n]?) (Nat.add_assoc 864 16 j)).trans ((gL_54 (16 + j)).trans (ap16 (t := tL_55) rfl j))
theorem gL_56 (j : Nat) : code.data.toList[896 + j]? = tL_56[j]? := (congrArg (fun n => code.data.toList[n]?) (Nat.add_assoc 880 16 j)).trans ((gL_55 (16 + j)).trans (ap16 (t := tL_56) rfl j))
theorem gL_57 (j : Nat) : code.data.toList[912 + j]? = tL_57[j]? := (congrArg (fun n => code.data.toList[n]?) (Nat.add_assoc 896 16 j)).trans ((gL_56 (16 + j)).trans (ap16 (t := tL_57) rfl j))
theorem gL_58 (j : Nat) : code.data.toList[928 + j]? = tL_58[j]? := (congrArg (fun n => code.data.toList[n]?) (Nat.add_assoc 912 16 j)).trans ((gL_57 (16 + j)).trans (ap16 (t := tL_58) rfl j))
theorem gL_59 (j : Nat) : code.data.toList[944 + j]? = tL_59[j]? := (congrArg (fun n => code.data.toList[n]?) (Nat.add_assoc 928 16 j)).trans ((gL_58 (16 + j)).trans (ap16 (t := tL_59) rfl j))
theorem gL_60 (j : Nat) : code.data.toList[960 + j]? = tL_60[j]? := (congrArg (fun n => code.data.toList[n]?) (Nat.add_assoc 944 16 j)).trans ((gL_59 (16 + j)).trans (ap16 (t := tL_60) rfl j))
theorem gL_61 (j : Nat) : code.data.toList[976 + j]? = tL_61[j]? := (congrArg (fun n => code.data.toList[n]?) (Nat.add_assoc 960 16 j)).trans ((gL_60 (16 + j)).trans (ap16 (t := tL_61) rfl j))
theorem gL_62 (j : Nat) : code.data.toList[992 + j]? = tL_62[j]? := (congrArg (fun n => code.data.toList[n]?) (Nat.add_assoc 976 16 j)).trans ((gL_61 (16 + j)).trans (ap16 (t := tL_62) rfl j))
theorem gL_63 (j : Nat) : code.data.toList[1008 + j]? = tL_63[j]? := (congrArg (fun n => code.data.toList[n]?) (Nat.add_assoc 992 16 j)).trans ((gL_62 (16 + j)).trans (ap16 (t := tL_63) rfl j))
theorem gL_64 (j : Nat) : code.data.toList[1024 + j]? = tL_64[j]? := (congrArg (fun n => code.data.toList[n]?) (Nat.add_assoc 1008 16 j)).trans ((gL_63 (16 + j)).trans (ap16 (t := tL_64) rfl j))
theorem gL_65 (j : Nat) : code.data.toList[1040 + j]? = tL_65[j]? := (congrArg (fun n => code.data.toList[n]?) (Nat.add_assoc 1024 16 j)).trans ((gL_64 (16 + j)).trans (ap16 (t := tL_65) rfl j))
theorem gL_66 (j : Nat) : code.data.toList[1056 + j]? = tL_66[j]? := (congrArg (fun n => code.data.toList[n]?) (Nat.add_assoc 1040 16 j)).trans ((gL_65 (16 + j)).trans (ap16 (t := tL_66) rfl j))
theorem gL_67 (j : Nat) : code.data.toList[1072 + j]? = tL_67[j]? := (congrArg (fun n => code.data.toList[n]?) (Nat.add_assoc 1056 16 j)).trans ((gL_66 (16 + j)).trans (ap16 (t := tL_67) rfl j))
theorem gL_68 (j : Nat) : code.data.toList[1088 + j]? = tL_68[j]? := (congrArg (fun n => code.data.toList[n]?) (Nat.add_assoc 1072 16 j)).trans ((gL_67 (16 + j)).trans (ap16 (t := tL_68) rfl j))
theorem gL_69 (j : Nat) : code.data.toList[1104 + j]? = tL_69[j]? := (congrArg (fun n => code.data.toList[n]?) (Nat.add_assoc 1088 16 j)).trans ((gL_68 (16 + j)).trans (ap16 (t := tL_69) rfl j))
theorem gL_70 (j : Nat) : code.data.toList[1120 + j]? = tL_70[j]? := (congrArg (fun n => code.data.toList[n]?) (Nat.add_assoc 1104 16 j)).trans ((gL_69 (16 + j)).trans (ap16 (t := tL_70) rfl j))
theorem gL_71 (j : Nat) : code.data.toList[1136 + j]? = tL_71[j]? := (congrArg (fun n => code.data.toList[n]?) (Nat.add_assoc 1120 16 j)).trans ((gL_70 (16 + j)).trans (ap16 (t := tL_71) rfl j))
theorem gL_72 (j : Nat) : code.data.toList[1152 + j]? = tL_72[j]? := (congrArg (fun n => code.data.toList[n]?) (Nat.add_assoc 1136 16 j)).trans ((gL_71 (16 + j)).trans (ap16 (t := tL_72) rfl j))
theorem gL_73 (j : Nat) : code.data.toList[1168 + j]? = tL_73[j]? := (congrArg (fun n => code.data.toList[n]?) (Nat.add_assoc 1152 16 j)).trans ((gL_72 (16 + j)).trans (ap16 (t := tL_73) rfl j))
theorem gL_74 (j : Nat) : code.data.toList[1184 + j]? = tL_74[j]? := (congrArg (fun n => code.data.toList[n]?) (Nat.add_assoc 1168 16 j)).trans ((gL_73 (16 + j)).trans (ap16 (t := tL_74) rfl j))
theorem gL_75 (j : Nat) : code.data.toList[1200 + j]? = tL_75[j]? := (congrArg (fun n => code.data.toList[n]?) (Nat.add_assoc 1184 16 j)).trans ((gL_74 (16 + j)).trans (ap16 (t := tL_75) rfl j))
theorem gL_76 (j : Nat) : code.data.toList[1216 + j]? = tL_76[j]? := (congrArg (fun n => code.data.toList[n]?) (Nat.add_assoc 1200 16 j)).trans ((gL_75 (16 + j)).trans (ap16 (t := tL_76) rfl j))
theorem gL_77 (j : Nat) : code.data.toList[1232 + j]? = tL_77[j]? := (congrArg (fun n => code.data.toList[n]?) (Nat.add_assoc 1216 16 j)).trans ((gL_76 (16 + j)).trans (ap16 (t := tL_77) rfl j))
theorem gL_78 (j : Nat) : code.data.toList[1248 + j]? = tL_78[j]? := (congrArg (fun n => code.data.toList[n]?) (Nat.add_assoc 1232 16 j)).trans ((gL_77 (16 + j)).trans (ap16 (t := tL_78) rfl j))
theorem gL_79 (j : Nat) : code.data.toList[1264 + j]? = tL_79[j]? := (congrArg (fun n => code.data.toList[n]?) (Nat.add_assoc 1248 16 j)).trans ((gL_78 (16 + j)).trans (ap16 (t := tL_79) rfl j))
theorem gL_80 (j : Nat) : code.data.toList[1280 + j]? = tL_80[j]? := (congrArg (fun n => code.data.toList[n]?) (Nat.add_assoc 1264 16 j)).trans ((gL_79 (16 + j)).trans (ap16 (t := tL_80) rfl j))
theorem gL_81 (j : Nat) : code.data.toList[1296 + j]? = tL_81[j]? := (congrArg (fun n => code.data.toList[n]?) (Nat.add_assoc 1280 16 j)).trans ((gL_80 (16 + j)).trans (ap16 (t := tL_81) rfl j))
theorem gL_82 (j : Nat) : code.data.toList[1312 + j]? = tL_82[j]? := (congrArg (fun n => code.data.toList[n]?) (Nat.add_assoc 1296 16 j)).trans ((gL_81 (16 + j)).trans (ap16 (t := tL_82) rfl j))
theorem gL_83 (j : Nat) : code.data.toList[1328 + j]? = tL_83[j]? := (congrArg (fun n => code.data.toList[n]?) (Nat.add_assoc 1312 16 j)).trans ((gL_82 (16 + j)).trans (ap16 (t := tL_83) rfl j))
theorem gL_84 (j : Nat) : code.data.toList[1344 + j]? = tL_84[j]? := (congrArg (fun n => code.data.toList[n]?) (Nat.add_assoc 1328 16 j)).trans ((gL_83 (16 + j)).trans (ap16 (t := tL_84) rfl j))
theorem gL_85 (j : Nat) : code.data.toList[1360 + j]? = tL_85[j]? := (congrArg (fun n => code.data.toList[n]?) (Nat.add_assoc 1344 16 j)).trans ((gL_84 (16 + j)).trans (ap16 (t := tL_85) rfl j))
theorem gL_86 (j : Nat) : code.data.toList[1376 + j]? = tL_86[j]? := (congrArg (fun n => code.data.toList[n]?) (Nat.add_assoc 1360 16 j)).trans ((gL_85 (16 + j)).trans (ap16 (t := tL_86) rfl j))
theorem gL_87 (j : Nat) : code.data.toList[1392 + j]? = tL_87[j]? := (congrArg (fun n => code.data.toList[n]?) (Nat.add_assoc 1376 16 j)).trans ((gL_86 (16 + j)).trans (ap16 (t := tL_87) rfl j))
theorem gL_88 (j : Nat) : code.data.toList[1408 + j]? = tL_88[j]? := (congrArg (fun n => code.data.toList[n]?) (Nat.add_assoc 1392 16 j)).trans ((gL_87 (16 + j)).trans (ap16 (t := tL_88) rfl j))
theorem gL_89 (j : Nat) : code.data.toList[1424 + j]? = tL_89[j]? := (congrArg (fun n => code.data.toList[n]?) (Nat.add_assoc 1408 16 j)).trans ((gL_88 (16 + j)).trans (ap16 (t := tL_89) rfl j))
theorem gL_90 (j : Nat) : code.data.toList[1440 + j]? = tL_90[j]? := (congrArg (fun n => code.data.toList[n]?) (Nat.add_assoc 1424 16 j)).trans ((gL_89 (16 + j)).trans (ap16 (t := tL_90) rfl j))
theorem gL_91 (j : Nat) : code.data.toList[1456 + j]? = tL_91[j]? := (congrArg (fun n => code.data.toList[n]?) (Nat.add_assoc 1440 16 j)).trans ((gL_90 (16 + j)).trans (ap16 (t := tL_91) rfl j))
theorem gL_92 (j : Nat) : code.data.toList[1472 + j]? = tL_92[j]? := (congrArg (fun n => code.data.toList[n]?) (Nat.add_assoc 1456 16 j)).trans ((gL_91 (16 + j)).trans (ap16 (t := tL_92) rfl j))
theorem gL_93 (j : Nat) : code.data.toList[1488 + j]? = tL_93[j]? := (congrArg (fun n => code.data.toList[n]?) (Nat.add_assoc 1472 16 j)).trans ((gL_92 (16 + j)).trans (ap16 (t := tL_93) rfl j))
theorem gL_94 (j : Nat) : code.data.toList[1504 + j]? = tL_94[j]? := (congrArg (fun n => code.data.toList[n]?) (Nat.add_assoc 1488 16 j)).trans ((gL_93 (16 + j)).trans (ap16 (t := tL_94) rfl j))
theorem gL_95 (j : Nat) : code.data.toList[1520 + j]? = tL_95[j]? := (congrArg (fun n => code.data.toList[n]?) (Nat.add_assoc 1504 16 j)).trans ((gL_94 (16 + j)).trans (ap16 (t := tL_95) rfl j))
theorem gL_96 (j : Nat) : code.data.toList[1536 + j]? = tL_96[j]? := (congrArg (fun n => code.data.toList[n]?) (Nat.add_assoc 1520 16 j)).trans ((gL_95 (16 + j)).trans (ap16 (t := tL_96) rfl j))
theorem gL_97 (j : Nat) : code.data.toList[1552 + j]? = tL_97[j]? := (congrArg (fun n => code.data.toList[n]?) (Nat.add_assoc 1536 16 j)).trans ((gL_96 (16 + j)).trans (ap16 (t := tL_97) rfl j))
theorem gL_98 (j : Nat) : code.data.toList[1568 + j]? = tL_98[j]? := (congrArg (fun n => code.data.toList[n]?) (Nat.add_assoc 1552 16 j)).trans ((gL_97 (16 + j)).trans (ap16 (t := tL_98) rfl j))
theorem gL_99 (j : Nat) : code.data.toList[1584 + j]? = tL_99[j]? := (congrArg (fun n => code.data.toList[n]?) (Nat.add_assoc 1568 16 j)).trans ((gL_98 (16 + j)).trans (ap16 (t := tL_99) rfl j))
theorem gL_100 (j : Nat) : code.data.toList[1600 + j]? = tL_100[j]? := (congrArg (fun n => code.data.toList[n]?) (Nat.add_assoc 1584 16 j)).trans ((gL_99 (16 + j)).trans (ap16 (t := tL_100) rfl j))
theorem gL_101 (j : Nat) : code.data.toList[1616 + j]? = tL_101[j]? := (congrArg (fun n => code.data.toList[n]?) (Nat.add_assoc 1600 16 j)).trans ((gL_100 (16 + j)).trans (ap16 (t := tL_101) rfl j))
theorem gL_102 (j : Nat) : code.data.toList[1632 + j]? = tL_102[j]? := (congrArg (fun n => code.data.toList[n]?) (Nat.add_assoc 1616 16 j)).trans ((gL_101 (16 + j)).trans (ap16 (t := tL_102) rfl j))
theorem gL_103 (j : Nat) : code.data.toList[1648 + j]? = tL_103[j]? := (congrArg (fun n => code.data.toList[n]?) (Nat.add_assoc 1632 16 j)).trans ((gL_102 (16 + j)).trans (ap16 (t := tL_103) rfl j))
theorem gL_104 (j : Nat) : code.data.toList[1664 + j]? = tL_104[j]? := (congrArg (fun n => code.data.toList[n]?) (Nat.add_assoc 1648 16 j)).trans ((gL_103 (16 + j)).trans (ap16 (t := tL_104) rfl j))
theorem gL_105 (j : Nat) : code.data.toList[1680 + j]? = tL_105[j]? := (congrArg (fun n => code.data.toList[n]?) (Nat.add_assoc 1664 16 j)).trans ((gL_104 (16 + j)).trans (ap16 (t := tL_105) rfl j))
theorem gL_106 (j : Nat) : code.data.toList[1696 + j]? = tL_106[j]? := (congrArg (fun n => code.data.toList[n]?) (Nat.add_assoc 1680 16 j)).trans ((gL_105 (16 + j)).trans (ap16 (t := tL_106) rfl j))
theorem gL_107 (j : Nat) : code.data.toList[1712 + j]? = tL_107[j]? := (congrArg (fun n => code.data.toList[n]?) (Nat.add_assoc 1696 16 j)).trans ((gL_106 (16 + j)).trans (ap16 (t := tL_107) rfl j))
theorem gL_108 (j : Nat) : code.data.toList[1728 + j]? = tL_108[j]? := (congrArg (fun n => code.data.toList[n]?) (Nat.add_assoc 1712 16 j)).trans ((gL_107 (16 + j)).trans (ap16 (t := tL_108) rfl j))
theorem gL_109 (j : Nat) : code.data.toList[1744 + j]? = tL_109[j]? := (congrArg (fun n => code.data.toList[n]?) (Nat.add_assoc 1728 16 j)).trans ((gL_108 (16 + j)).trans (ap16 (t := tL_109) rfl j))
theorem gL_110 (j : Nat) : code.data.toList[1760 + j]? = tL_110[j]? := (congrArg (fun n => code.data.toList[n]?) (Nat.add_assoc 1744 16 j)).trans ((gL_109 (16 + j)).trans (ap16 (t := tL_110) rfl j))
theorem gL_111 (j : Nat) : code.data.toList[1776 + j]? = tL_111[j]? := (congrArg (fun n => code.data.toList[n]?) (Nat.add_assoc 1760 16 j)).trans ((gL_110 (16 + j)).trans (ap16 (t := tL_111) rfl j))
theorem gL_112 (j : Nat) : code.data.toList[1792 + j]? = tL_112[j]? := (congrArg (fun n => code.data.toList[n]?) (Nat.add_assoc 1776 16 j)).trans ((gL_111 (16 + j)).trans (ap16 (t := tL_112) rfl j))
theorem gL_113 (j : Nat) : code.data.toList[1808 + j]? = tL_113[j]? := (congrArg (fun n => code.data.toList[n]?) (Nat.add_assoc 1792 16 j)).trans ((gL_112 (16 + j)).trans (ap16 (t := tL_113) rfl j))
theorem gL_114 (j : Nat) : code.data.toList[1824 + j]? = tL_114[j]? := (congrArg (fun n => code.data.toList[n]?) (Nat.add_assoc 1808 16 j)).trans ((gL_113 (16 + j)).trans (ap16 (t := tL_114) rfl j))
theorem gL_115 (j : Nat) : code.data.toList[1840 + j]? = tL_115[j]? := (congrArg (fun n => code.data.toList[n]?) (Nat.add_assoc 1824 16 j)).trans ((gL_114 (16 + j)).trans (ap16 (t := tL_115) rfl j))
theorem gL_116 (j : Nat) : code.data.toList[1856 + j]? = tL_116[j]? := (congrArg (fun n => code.data.toList[n]?) (Nat.add_assoc 1840 16 j)).trans ((gL_115 (16 + j)).trans (ap16 (t := tL_116) rfl j))
theorem gL_117 (j : Nat) : code.data.toList[1872 + j]? = tL_117[j]? := (congrArg (fun n => code.data.toList[n]?) (Nat.add_assoc 1856 16 j)).trans ((gL_116 (16 + j)).trans (ap16 (t := tL_117) rfl j))
theorem gL_118 (j : Nat) : code.data.toList[1888 + j]? = tL_118[j]? := (congrArg (fun n => code.data.toList[n]?) (Nat.add_assoc 1872 16 j)).trans ((gL_117 (16 + j)).trans (ap16 (t := tL_118) rfl j))
theorem gL_119 (j : Nat) : code.data.toList[1904 + j]? = tL_119[j]? := (congrArg (fun n => code.data.toList[n]?) (Nat.add_assoc 1888 16 j)).trans ((gL_118 (16 + j)).trans (ap16 (t := tL_119) rfl j))
theorem gL_120 (j : Nat) : code.data.toList[1920 + j]? = tL_120[j]? := (congrArg (fun n => code.data.toList[n]?) (Nat.add_assoc 1904 16 j)).trans ((gL_119 (16 + j)).trans (ap16 (t := tL_120) rfl j))
theorem gL_121 (j : Nat) : code.data.toList[1936 + j]? = tL_121[j]? := (congrArg (fun n => code.data.toList[n]?) (Nat.add_assoc 1920 16 j)).trans ((gL_120 (16 + j)).trans (ap16 (t := tL_121) rfl j))
theorem gL_122 (j : Nat) : code.data.toList[1952 + j]? = tL_122[j]? := (congrArg (fun n => code.data.toList[n]?) (Nat.add_assoc 1936 16 j)).trans ((gL_121 (16 + j)).trans (ap16 (t := tL_122) rfl j))
theorem gL_123 (j : Nat) : code.data.toList[1968 + j]? = tL_123[j]? := (congrArg (fun n => code.data.toList[n]?) (Nat.add_assoc 1952 16 j)).trans ((gL_122 (16 + j)).trans (ap16 (t := tL_123) rfl j))
theorem gL_124 (j : Nat) : code.data.toList[1984 + j]? = tL_124[j]? := (congrArg (fun n => code.data.toList[n]?) (Nat.add_assoc 1968 16 j)).trans ((gL_123 (16 + j)).trans (ap16 (t := tL_124) rfl j))
theorem gL_125 (j : Nat) : code.data.toList[2000 + j]? = tL_125[j]? := (congrArg (fun n => code.data.toList[n]?) (Nat.add_assoc 1984 16 j)).trans ((gL_124 (16 + j)).trans (ap16 (t := tL_125) rfl j))
theorem gL_126 (j : Nat) : code.data.toList[2016 + j]? = tL_126[j]? := (congrArg (fun n => code.data.toList[n]?) (Nat.add_assoc 2000 16 j)).trans ((gL_125 (16 + j)).trans (ap16 (t := tL_126) rfl j))
theorem gL_127 (j : Nat) : code.data.toList[2032 + j]? = tL_127[j]? := (congrArg (fun n => code.data.toList[n]?) (Nat.add_assoc 2016 16 j)).trans ((gL_126 (16 + j)).trans (ap16 (t := tL_127) rfl j))
theorem gL_128 (j : Nat) : code.data.toList[2048 + j]? = tL_128[j]? := (congrArg (fun n => code.data.toList[n]?) (Nat.add_assoc 2032 16 j)).trans ((gL_127 (16 + j)).trans (ap16 (t := tL_128) rfl j))
theorem gL_129 (j : Nat) : code.data.toList[2064 + j]? = tL_129[j]? := (congrArg (fun n => code.data.toList[n]?) (Nat.add_assoc 2048 16 j)).trans ((gL_128 (16 + j)).trans (ap16 (t := tL_129) rfl j))
theorem gL_130 (j : Nat) : code.data.toList[2080 + j]? = tL_130[j]? := (congrArg (fun n => code.data.toList[n]?) (Nat.add_assoc 2064 16 j)).trans ((gL_129 (16 + j)).trans (ap16 (t := tL_130) rfl j))
theorem gL_131 (j : Nat) : code.data.toList[2096 + j]? = tL_131[j]? := (congrArg (fun n => code.data.toList[n]?) (Nat.add_assoc 2080 16 j)).trans ((gL_130 (16 + j)).trans (ap16 (t := tL_131) rfl j))
theorem gL_132 (j : Nat) : code.data.toList[2112 + j]? = tL_132[j]? := (congrArg (fun n => code.data.toList[n]?) (Nat.add_assoc 2096 16 j)).trans ((gL_131 (16 + j)).trans (ap16 (t := tL_132) rfl j))
theorem gL_133 (j : Nat) : code.data.toList[2128 + j]? = tL_133[j]? := (congrArg (fun n => code.data.toList[n]?) (Nat.add_assoc 2112 16 j)).trans ((gL_132 (16 + j)).trans (ap16 (t := tL_133) rfl j))
theorem gL_134 (j : Nat) : code.data.toList[2144 + j]? = tL_134[j]? := (congrArg (fun n => code.data.toList[n]?) (Nat.add_assoc 2128 16 j)).trans ((gL_133 (16 + j)).trans (ap16 (t := tL_134) rfl j))
theorem gL_135 (j : Nat) : code.data.toList[2160 + j]? = tL_135[j]? := (congrArg (fun n => code.data.toList[n]?) (Nat.add_assoc 2144 16 j)).trans ((gL_134 (16 + j)).trans (ap16 (t := tL_135) rfl j))
theorem gL_136 (j : Nat) : code.data.toList[2176 + j]? = tL_136[j]? := (congrArg (fun n => code.data.toList[n]?) (Nat.add_assoc 2160 16 j)).trans ((gL_135 (16 + j)).trans (ap16 (t := tL_136) rfl j))
theorem gL_137 (j : Nat) : code.data.toList[2192 + j]? = tL_137[j]? := (congrArg (fun n => code.data.toList[n]?) (Nat.add_assoc 2176 16 j)).trans ((gL_136 (16 + j)).trans (ap16 (t := tL_137) rfl j))
theorem gL_138 (j : Nat) : code.data.toList[2208 + j]? = tL_138[j]? := (congrArg (fun n => code.data.toList[n]?) (Nat.add_assoc 2192 16 j)).trans ((gL_137 (16 + j)).trans (ap16 (t := tL_138) rfl j))
theorem gL_139 (j : Nat) : code.data.toList[2224 + j]? = tL_139[j]? := (congrArg (fun n => code.data.toList[n]?) (Nat.add_assoc 2208 16 j)).trans ((gL_138 (16 + j)).trans (ap16 (t := tL_139) rfl j))
theorem gL_140 (j : Nat) : code.data.toList[2240 + j]? = tL_140[j]? := (congrArg (fun n => code.data.toList[n]?) (Nat.add_assoc 2224 16 j)).trans ((gL_139 (16 + j)).trans (ap16 (t := tL_140) rfl j))
theorem gL_141 (j : Nat) : code.data.toList[2256 + j]? = tL_141[j]? := (congrArg (fun n => code.data.toList[n]?) (Nat.add_assoc 2240 16 j)).trans ((gL_140 (16 + j)).trans (ap16 (t := tL_141) rfl j))
theorem gL_142 (j : Nat) : code.data.toList[2272 + j]? = tL_142[j]? := (congrArg (fun n => code.data.toList[n]?) (Nat.add_assoc 2256 16 j)).trans ((gL_141 (16 + j)).trans (ap16 (t := tL_142) rfl j))
theorem gL_143 (j : Nat) : code.data.toList[2288 + j]? = tL_143[j]? := (congrArg (fun n => code.data.toList[n]?) (Nat.add_assoc 2272 16 j)).trans ((gL_142 (16 + j)).trans (ap16 (t := tL_143) rfl j))
theorem gL_144 (j : Nat) : code.data.toList[2304 + j]? = tL_144[j]? := (congrArg (fun n => code.data.toList[n]?) (Nat.add_assoc 2288 16 j)).trans ((gL_143 (16 + j)).trans (ap16 (t := tL_144) rfl j))
theorem gL_145 (j : Nat) : code.data.toList[2320 + j]? = tL_145[j]? := (congrArg (fun n => code.data.toList[n]?) (Nat.add_assoc 2304 16 j)).trans ((gL_144 (16 + j)).trans (ap16 (t := tL_145) rfl j))
theorem gL_146 (j : Nat) : code.data.toList[2336 + j]? = tL_146[j]? := (congrArg (fun n => code.data.toList[n]?) (Nat.add_assoc 2320 16 j)).trans ((gL_145 (16 + j)).trans (ap16 (t := tL_146) rfl j))
theorem gL_147 (j : Nat) : code.data.toList[2352 + j]? = tL_147[j]? := (congrArg (fun n => code.data.toList[n]?) (Nat.add_assoc 2336 16 j)).trans ((gL_146 (16 + j)).trans (ap16 (t := tL_147) rfl j))
theorem gL_148 (j : Nat) : code.data.toList[2368 + j]? = tL_148[j]? := (congrArg (fun n => code.data.toList[n]?) (Nat.add_assoc 2352 16 j)).trans ((gL_147 (16 + j)).trans (ap16 (t := tL_148) rfl j))
theorem gL_149 (j : Nat) : code.data.toList[2384 + j]? = tL_149[j]? := (congrArg (fun n => code.data.toList[n]?) (Nat.add_assoc 2368 16 j)).trans ((gL_148 (16 + j)).trans (ap16 (t := tL_149) rfl j))
theorem gL_150 (j : Nat) : code.data.toList[2400 + j]? = tL_150[j]? := (congrArg (fun n => code.data.toList[n]?) (Nat.add_assoc 2384 16 j)).trans ((gL_149 (16 + j)).trans (ap16 (t := tL_150) rfl j))
theorem gL_151 (j : Nat) : code.data.toList[2416 + j]? = tL_151[j]? := (congrArg (fun n => code.data.toList[n]?) (Nat.add_assoc 2400 16 j)).trans ((gL_150 (16 + j)).trans (ap16 (t := tL_151) rfl j))
theorem gL_152 (j : Nat) : code.data.toList[2432 + j]? = tL_152[j]? := (congrArg (fun n => code.data.toList[n]?) (Nat.add_assoc 2416 16 j)).trans ((gL_151 (16 + j)).trans (ap16 (t := tL_152) rfl j))
theorem lb_1 {j : Nat} {b : UInt8} (h : tL_1[j]? = some b) : bat code (16 + j) b := bat_of ((gL_1 j).trans h)
theorem lb_2 {j : Nat} {b : UInt8} (h : tL_2[j]? = some b) : bat code (32 + j) b := bat_of ((gL_2 j).trans h)
theorem lb_19 {j : Nat} {b : UInt8} (h : tL_19[j]? = some b) : bat code (304 + j) b := bat_of ((gL_19 j).trans h)
theorem lb_20 {j : Nat} {b : UInt8} (h : tL_20[j]? = some b) : bat code (320 + j) b := bat_of ((gL_20 j).trans h)
theorem lb_21 {j : Nat} {b : UInt8} (h : tL_21[j]? = some b) : bat code (336 + j) b := bat_of ((gL_21 j).trans h)
theorem lb_22 {j : Nat} {b : UInt8} (h : tL_22[j]? = some b) : bat code (352 + j) b := bat_of ((gL_22 j).trans h)
theorem lb_23 {j : Nat} {b : UInt8} (h : tL_23[j]? = some b) : bat code (368 + j) b := bat_of ((gL_23 j).trans h)
theorem lb_24 {j : Nat} {b : UInt8} (h : tL_24[j]? = some b) : bat code (384 + j) b := bat_of ((gL_24 j).trans h)
theorem lb_25 {j : Nat} {b : UInt8} (h : tL_25[j]? = some b) : bat code (400 + j) b := bat_of ((gL_25 j).trans h)
theorem lb_26 {j : Nat} {b : UInt8} (h : tL_26[j]? = some b) : bat code (416 + j) b := bat_of ((gL_26 j).trans h)
theorem lb_27 {j : Nat} {b : UInt8} (h : tL_27[j]? = some b) : bat code (432 + j) b := bat_of ((gL_27 j).trans h)
theorem lb_28 {j : Nat} {b : UInt8} (h : tL_28[j]? = some b) : bat code (448 + j) b := bat_of ((gL_28 j).trans h)
theorem lb_29 {j : Nat} {b : UInt8} (h : tL_29[j]? = some b) : bat code (464 + j) b := bat_of ((gL_29 j).trans h)
theorem lb_30 {j : Nat} {b : UInt8} (h : tL_30[j]? = some b) : bat code (480 + j) b := bat_of ((gL_30 j).trans h)
theorem lb_31 {j : Nat} {b : UInt8} (h : tL_31[j]? = some b) : bat code (496 + j) b := bat_of ((gL_31 j).trans h)
theorem lb_32 {j : Nat} {b : UInt8} (h : tL_32[j]? = some b) : bat code (512 + j) b := bat_of ((gL_32 j).trans h)
theorem lb_33 {j : Nat} {b : UInt8} (h : tL_33[j]? = some b) : bat code (528 + j) b := bat_of ((gL_33 j).trans h)
theorem lb_34 {j : Nat} {b : UInt8} (h : tL_34[j]? = some b) : bat code (544 + j) b := bat_of ((gL_34 j).trans h)
theorem lb_35 {j : Nat} {b : UInt8} (h : tL_35[j]? = some b) : bat code (560 + j) b := bat_of ((gL_35 j).trans h)
theorem lb_36 {j : Nat} {b : UInt8} (h : tL_36[j]? = some b) : bat code (576 + j) b := bat_of ((gL_36 j).trans h)
theorem lb_37 {j : Nat} {b : UInt8} (h : tL_37[j]? = some b) : bat code (592 + j) b := bat_of ((gL_37 j).trans h)
theorem lb_38 {j : Nat} {b : UInt8} (h : tL_38[j]? = some b) : bat code (608 + j) b := bat_of ((gL_38 j).trans h)
theorem lb_39 {j : Nat} {b : UInt8} (h : tL_39[j]? = some b) : bat code (624 + j) b := bat_of ((gL_39 j).trans h)
theorem lb_40 {j : Nat} {b : UInt8} (h : tL_40[j]? = some b) : bat code (640 + j) b := bat_of ((gL_40 j).trans h)
theorem lb_41 {j : Nat} {b : UInt8} (h : tL_41[j]? = some b) : bat code (656 + j) b := bat_of ((gL_41 j).trans h)
theorem lb_42 {j : Nat} {b : UInt8} (h : tL_42[j]? = some b) : bat code (672 + j) b := bat_of ((gL_42 j).trans h)
theorem lb_43 {j : Nat} {b : UInt8} (h : tL_43[j]? = some b) : bat code (688 + j) b := bat_of ((gL_43 j).trans h)
theorem lb_44 {j : Nat} {b : UInt8} (h : tL_44[j]? = some b) : bat code (704 + j) b := bat_of ((gL_44 j).trans h)
theorem lb_45 {j : Nat} {b : UInt8} (h : tL_45[j]? = some b) : bat code (720 + j) b := bat_of ((gL_45 j).trans h)
theorem lb_46 {j : Nat} {b : UInt8} (h : tL_46[j]? = some b) : bat code (736 + j) b := bat_of ((gL_46 j).trans h)
theorem lb_47 {j : Nat} {b : UInt8} (h : tL_47[j]? = some b) : bat code (752 + j) b := bat_of ((gL_47 j).trans h)
theorem lb_48 {j : Nat} {b : UInt8} (h : tL_48[j]? = some b) : bat code (768 + j) b := bat_of ((gL_48 j).trans h)
theorem lb_49 {j : Nat} {b : UInt8} (h : tL_49[j]? = some b) : bat code (784 + j) b := bat_of ((gL_49 j).trans h)
theorem lb_50 {j : Nat} {b : UInt8} (h : tL_50[j]? = some b) : bat code (800 + j) b := bat_of ((gL_50 j).trans h)
theorem lb_51 {j : Nat} {b : UInt8} (h : tL_51[j]? = some b) : bat code (816 + j) b := bat_of ((gL_51 j).trans h)
theorem lb_52 {j : Nat} {b : UInt8} (h : tL_52[j]? = some b) : bat code (832 + j) b := bat_of ((gL_52 j).trans h)
theorem lb_53 {j : Nat} {b : UInt8} (h : tL_53[j]? = some b) : bat code (848 + j) b := bat_of ((gL_53 j).trans h)
theorem lb_54 {j : Nat} {b : UInt8} (h : tL_54[j]? = some b) : bat code (864 + j) b := bat_of ((gL_54 j).trans h)
theorem lb_55 {j : Nat} {b : UInt8} (h : tL_55[j]? = some b) : bat code (880 + j) b := bat_of ((gL_55 j).trans h)
theorem lb_56 {j : Nat} {b : UInt8} (h : tL_56[j]? = some b) : bat code (896 + j) b := bat_of ((gL_56 j).trans h)
theorem lb_57 {j : Nat} {b : UInt8} (h : tL_57[j]? = some b) : bat code (912 + j) b := bat_of ((gL_57 j).trans h)
theorem lb_58 {j : Nat} {b : UInt8} (h : tL_58[j]? = some b) : bat code (928 + j) b := bat_of ((gL_58 j).trans h)
theorem lb_59 {j : Nat} {b : UInt8} (h : tL_59[j]? = some b) : bat code (944 + j) b := bat_of ((gL_59 j).trans h)
theorem lb_60 {j : Nat} {b : UInt8} (h : tL_60[j]? = some b) : bat code (960 + j) b := bat_of ((gL_60 j).trans h)
theorem lb_61 {j : Nat} {b : UInt8} (h : tL_61[j]? = some b) : bat code (976 + j) b := bat_of ((gL_61 j).trans h)
theorem lb_62 {j : Nat} {b : UInt8} (h : tL_62[j]? = some b) : bat code (992 + j) b := bat_of ((gL_62 j).trans h)
theorem lb_63 {j : Nat} {b : UInt8} (h : tL_63[j]? = some b) : bat code (1008 + j) b := bat_of ((gL_63 j).trans h)
theorem lb_64 {j : Nat} {b : UInt8} (h : tL_64[j]? = some b) : bat code (1024 + j) b := bat_of ((gL_64 j).trans h)
theorem lb_65 {j : Nat} {b : UInt8} (h : tL_65[j]? = some b) : bat code (1040 + j) b := bat_of ((gL_65 j).trans h)
theorem lb_66 {j : Nat} {b : UInt8} (h : tL_66[j]? = some b) : bat code (1056 + j) b := bat_of ((gL_66 j).trans h)
theorem lb_67 {j : Nat} {b : UInt8} (h : tL_67[j]? = some b) : bat code (1072 + j) b := bat_of ((gL_67 j).trans h)
theorem lb_68 {j : Nat} {b : UInt8} (h : tL_68[j]? = some b) : bat code (1088 + j) b := bat_of ((gL_68 j).trans h)
theorem lb_69 {j : Nat} {b : UInt8} (h : tL_69[j]? = some b) : bat code (1104 + j) b := bat_of ((gL_69 j).trans h)
theorem lb_70 {j : Nat} {b : UInt8} (h : tL_70[j]? = some b) : bat code (1120 + j) b := bat_of ((gL_70 j).trans h)
theorem lb_71 {j : Nat} {b : UInt8} (h : tL_71[j]? = some b) : bat code (1136 + j) b := bat_of ((gL_71 j).trans h)
theorem lb_72 {j : Nat} {b : UInt8} (h : tL_72[j]? = some b) : bat code (1152 + j) b := bat_of ((gL_72 j).trans h)
theorem lb_73 {j : Nat} {b : UInt8} (h : tL_73[j]? = some b) : bat code (1168 + j) b := bat_of ((gL_73 j).trans h)
theorem lb_74 {j : Nat} {b : UInt8} (h : tL_74[j]? = some b) : bat code (1184 + j) b := bat_of ((gL_74 j).trans h)
theorem lb_75 {j : Nat} {b : UInt8} (h : tL_75[j]? = some b) : bat code (1200 + j) b := bat_of ((gL_75 j).trans h)
theorem lb_76 {j : Nat} {b : UInt8} (h : tL_76[j]? = some b) : bat code (1216 + j) b := bat_of ((gL_76 j).trans h)
theorem lb_77 {j : Nat} {b : UInt8} (h : tL_77[j]? = some b) : bat code (1232 + j) b := bat_of ((gL_77 j).trans h)
theorem lb_78 {j : Nat} {b : UInt8} (h : tL_78[j]? = some b) : bat code (1248 + j) b := bat_of ((gL_78 j).trans h)
theorem lb_79 {j : Nat} {b : UInt8} (h : tL_79[j]? = some b) : bat code (1264 + j) b := bat_of ((gL_79 j).trans h)
theorem lb_80 {j : Nat} {b : UInt8} (h : tL_80[j]? = some b) : bat code (1280 + j) b := bat_of ((gL_80 j).trans h)
theorem lb_81 {j : Nat} {b : UInt8} (h : tL_81[j]? = some b) : bat code (1296 + j) b := bat_of ((gL_81 j).trans h)
theorem lb_82 {j : Nat} {b : UInt8} (h : tL_82[j]? = some b) : bat code (1312 + j) b := bat_of ((gL_82 j).trans h)
theorem lb_83 {j : Nat} {b : UInt8} (h : tL_83[j]? = some b) : bat code (1328 + j) b := bat_of ((gL_83 j).trans h)
theorem lb_84 {j : Nat} {b : UInt8} (h : tL_84[j]? = some b) : bat code (1344 + j) b := bat_of ((gL_84 j).trans h)
theorem lb_85 {j : Nat} {b : UInt8} (h : tL_85[j]? = some b) : bat code (1360 + j) b := bat_of ((gL_85 j).trans h)
theorem lb_86 {j : Nat} {b : UInt8} (h : tL_86[j]? = some b) : bat code (1376 + j) b := bat_of ((gL_86 j).trans h)
theorem lb_87 {j : Nat} {b : UInt8} (h : tL_87[j]? = some b) : bat code (1392 + j) b := bat_of ((gL_87 j).trans h)
theorem lb_88 {j : Nat} {b : UInt8} (h : tL_88[j]? = some b) : bat code (1408 + j) b := bat_of ((gL_88 j).trans h)
theorem lb_89 {j : Nat} {b : UInt8} (h : tL_89[j]? = some b) : bat code (1424 + j) b := bat_of ((gL_89 j).trans h)
theorem lb_90 {j : Nat} {b : UInt8} (h : tL_90[j]? = some b) : bat code (1440 + j) b := bat_of ((gL_90 j).trans h)
theorem lb_91 {j : Nat} {b : UInt8} (h : tL_91[j]? = some b) : bat code (1456 + j) b := bat_of ((gL_91 j).trans h)
theorem lb_92 {j : Nat} {b : UInt8} (h : tL_92[j]? = some b) : bat code (1472 + j) b := bat_of ((gL_92 j).trans h)
theorem lb_93 {j : Nat} {b : UInt8} (h : tL_93[j]? = some b) : bat code (1488 + j) b := bat_of ((gL_93 j).trans h)
theorem lb_94 {j : Nat} {b : UInt8} (h : tL_94[j]? = some b) : bat code (1504 + j) b := bat_of ((gL_94 j).trans h)
theorem lb_95 {j : Nat} {b : UInt8} (h : tL_95[j]? = some b) : bat code (1520 + j) b := bat_of ((gL_95 j).trans h)
theorem lb_96 {j : Nat} {b : UInt8} (h : tL_96[j]? = some b) : bat code (1536 + j) b := bat_of ((gL_96 j).trans h)
theorem lb_97 {j : Nat} {b : UInt8} (h : tL_97[j]? = some b) : bat code (1552 + j) b := bat_of ((gL_97 j).trans h)
theorem lb_98 {j : Nat} {b : UInt8} (h : tL_98[j]? = some b) : bat code (1568 + j) b := bat_of ((gL_98 j).trans h)
theorem lb_99 {j : Nat} {b : UInt8} (h : tL_99[j]? = some b) : bat code (1584 + j) b := bat_of ((gL_99 j).trans h)
theorem lb_100 {j : Nat} {b : UInt8} (h : tL_100[j]? = some b) : bat code (1600 + j) b := bat_of ((gL_100 j).trans h)
theorem lb_101 {j : Nat} {b : UInt8} (h : tL_101[j]? = some b) : bat code (1616 + j) b := bat_of ((gL_101 j).trans h)
theorem lb_102 {j : Nat} {b : UInt8} (h : tL_102[j]? = some b) : bat code (1632 + j) b := bat_of ((gL_102 j).trans h)
theorem lb_103 {j : Nat} {b : UInt8} (h : tL_103[j]? = some b) : bat code (1648 + j) b := bat_of ((gL_103 j).trans h)
theorem lb_104 {j : Nat} {b : UInt8} (h : tL_104[j]? = some b) : bat code (1664 + j) b := bat_of ((gL_104 j).trans h)
theorem lb_105 {j : Nat} {b : UInt8} (h : tL_105[j]? = some b) : bat code (1680 + j) b := bat_of ((gL_105 j).trans h)
theorem lb_106 {j : Nat} {b : UInt8} (h : tL_106[j]? = some b) : bat code (1696 + j) b := bat_of ((gL_106 j).trans h)
theorem lb_107 {j : Nat} {b : UInt8} (h : tL_107[j]? = some b) : bat code (1712 + j) b := bat_of ((gL_107 j).trans h)
theorem lb_108 {j : Nat} {b : UInt8} (h : tL_108[j]? = some b) : bat code (1728 + j) b := bat_of ((gL_108 j).trans h)
theorem lb_109 {j : Nat} {b : UInt8} (h : tL_109[j]? = some b) : bat code (1744 + j) b := bat_of ((gL_109 j).trans h)
theorem lb_110 {j : Nat} {b : UInt8} (h : tL_110[j]? = some b) : bat code (1760 + j) b := bat_of ((gL_110 j).trans h)
theorem lb_111 {j : Nat} {b : UInt8} (h : tL_111[j]? = some b) : bat code (1776 + j) b := bat_of ((gL_111 j).trans h)
theorem lb_112 {j : Nat} {b : UInt8} (h : tL_112[j]? = some b) : bat code (1792 + j) b := bat_of ((gL_112 j).trans h)
theorem lb_113 {j : Nat} {b : UInt8} (h : tL_113[j]? = some b) : bat code (1808 + j) b := bat_of ((gL_113 j).trans h)
theorem lb_114 {j : Nat} {b : UInt8} (h : tL_114[j]? = some b) : bat code (1824 + j) b := bat_of ((gL_114 j).trans h)
theorem lb_115 {j : Nat} {b : UInt8} (h : tL_115[j]? = some b) : bat code (1840 + j) b := bat_of ((gL_115 j).trans h)
theorem lb_116 {j : Nat} {b : UInt8} (h : tL_116[j]? = some b) : bat code (1856 + j) b := bat_of ((gL_116 j).trans h)
theorem lb_117 {j : Nat} {b : UInt8} (h : tL_117[j]? = some b) : bat code (1872 + j) b := bat_of ((gL_117 j).trans h)
theorem lb_118 {j : Nat} {b : UInt8} (h : tL_118[j]? = some b) : bat code (1888 + j) b := bat_of ((gL_118 j).trans h)
theorem lb_119 {j : Nat} {b : UInt8} (h : tL_119[j]? = some b) : bat code (1904 + j) b := bat_of ((gL_119 j).trans h)
theorem lb_120 {j : Nat} {b : UInt8} (h : tL_120[j]? = some b) : bat code (1920 + j) b := bat_of ((gL_120 j).trans h)
theorem lb_121 {j : Nat} {b : UInt8} (h : tL_121[j]? = some b) : bat code (1936 + j) b := bat_of ((gL_121 j).trans h)
theorem lb_122 {j : Nat} {b : UInt8} (h : tL_122[j]? = some b) : bat code (1952 + j) b := bat_of ((gL_122 j).trans h)
theorem lb_123 {j : Nat} {b : UInt8} (h : tL_123[j]? = some b) : bat code (1968 + j) b := bat_of ((gL_123 j).trans h)
theorem lb_124 {j : Nat} {b : UInt8} (h : tL_124[j]? = some b) : bat code (1984 + j) b := bat_of ((gL_124 j).trans h)
theorem lb_125 {j : Nat} {b : UInt8} (h : tL_125[j]? = some b) : bat code (2000 + j) b := bat_of ((gL_125 j).trans h)
theorem lb_126 {j : Nat} {b : UInt8} (h : tL_126[j]? = some b) : bat code (2016 + j) b := bat_of ((gL_126 j).trans h)
theorem lb_127 {j : Nat} {b : UInt8} (h : tL_127[j]? = some b) : bat code (2032 + j) b := bat_of ((gL_127 j).trans h)
theorem lb_128 {j : Nat} {b : UInt8} (h : tL_128[j]? = some b) : bat code (2048 + j) b := bat_of ((gL_128 j).trans h)
theorem lb_129 {j : Nat} {b : UInt8} (h : tL_129[j]? = some b) : bat code (2064 + j) b := bat_of ((gL_129 j).trans h)
theorem lb_130 {j : Nat} {b : UInt8} (h : tL_130[j]? = some b) : bat code (2080 + j) b := bat_of ((gL_130 j).trans h)
theorem lb_131 {j : Nat} {b : UInt8} (h : tL_131[j]? = some b) : bat code (2096 + j) b := bat_of ((gL_131 j).trans h)
theorem lb_132 {j : Nat} {b : UInt8} (h : tL_132[j]? = some b) : bat code (2112 + j) b := bat_of ((gL_132 j).trans h)
theorem lb_133 {j : Nat} {b : UInt8} (h : tL_133[j]? = some b) : bat code (2128 + j) b := bat_of ((gL_133 j).trans h)
theorem lb_134 {j : Nat} {b : UInt8} (h : tL_134[j]? = some b) : bat code (2144 + j) b := bat_of ((gL_134 j).trans h)
theorem lb_135 {j : Nat} {b : UInt8} (h : tL_135[j]? = some b) : bat code (2160 + j) b := bat_of ((gL_135 j).trans h)
theorem lb_136 {j : Nat} {b : UInt8} (h : tL_136[j]? = some b) : bat code (2176 + j) b := bat_of ((gL_136 j).trans h)
theorem lb_137 {j : Nat} {b : UInt8} (h : tL_137[j]? = some b) : bat code (2192 + j) b := bat_of ((gL_137 j).trans h)
theorem lb_138 {j : Nat} {b : UInt8} (h : tL_138[j]? = some b) : bat code (2208 + j) b := bat_of ((gL_138 j).trans h)
theorem lb_139 {j : Nat} {b : UInt8} (h : tL_139[j]? = some b) : bat code (2224 + j) b := bat_of ((gL_139 j).trans h)
theorem lb_140 {j : Nat} {b : UInt8} (h : tL_140[j]? = some b) : bat code (2240 + j) b := bat_of ((gL_140 j).trans h)
theorem lb_141 {j : Nat} {b : UInt8} (h : tL_141[j]? = some b) : bat code (2256 + j) b := bat_of ((gL_141 j).trans h)
theorem lb_142 {j : Nat} {b : UInt8} (h : tL_142[j]? = some b) : bat code (2272 + j) b := bat_of ((gL_142 j).trans h)
theorem lb_143 {j : Nat} {b : UInt8} (h : tL_143[j]? = some b) : bat code (2288 + j) b := bat_of ((gL_143 j).trans h)
theorem lb_144 {j : Nat} {b : UInt8} (h : tL_144[j]? = some b) : bat code (2304 + j) b := bat_of ((gL_144 j).trans h)
theorem lb_145 {j : Nat} {b : UInt8} (h : tL_145[j]? = some b) : bat code (2320 + j) b := bat_of ((gL_145 j).trans h)
theorem lb_146 {j : Nat} {b : UInt8} (h : tL_146[j]? = some b) : bat code (2336 + j) b := bat_of ((gL_146 j).trans h)
theorem lb_147 {j : Nat} {b : UInt8} (h : tL_147[j]? = some b) : bat code (2352 + j) b := bat_of ((gL_147 j).trans h)
theorem lb_148 {j : Nat} {b : UInt8} (h : tL_148[j]? = some b) : bat code (2368 + j) b := bat_of ((gL_148 j).trans h)
theorem lb_149 {j : Nat} {b : UInt8} (h : tL_149[j]? = some b) : bat code (2384 + j) b := bat_of ((gL_149 j).trans h)
theorem lb_150 {j : Nat} {b : UInt8} (h : tL_150[j]? = some b) : bat code (2400 + j) b := bat_of ((gL_150 j).trans h)
theorem lb_151 {j : Nat} {b : UInt8} (h : tL_151[j]? = some b) : bat code (2416 + j) b := bat_of ((gL_151 j).trans h)
theorem lb_152 {j : Nat} {b : UInt8} (h : tL_152[j]? = some b) : bat code (2432 + j) b := bat_of ((gL_152 j).trans h)
