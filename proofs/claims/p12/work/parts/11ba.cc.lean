/-- the class's world by numbers: how many cells, what each is (class or kind of array, length), its ints, its longs, its references (cells by number) -/
abbrev AT : Type := Nat × (Nat → Nat × Nat) × (Nat → Nat → Int32) × (Nat → Nat → Int64) × (Nat → Nat → Option Nat)
def ccv (cI cJ cZ cMic cSrc cSt cAI cAJ : ClassId) (ad : Nat → Nat) (sh : Nat × Nat) (vi : Nat → Int32) (vj : Nat → Int64) (vr : Nat → Option Nat) : va_E := match sh.1 with
  | 0 => .inr (0, [va_rf ((vr 0).map ad)])
  | 1 => .inr (1, [.int (vi 0), .int (vi 1), .int (vi 2), .int (vi 3), .int (vi 4), va_rf ((vr 5).map ad), va_rf ((vr 6).map ad), .int (vi 7), va_rf ((vr 8).map ad)])
  | 2 => .inr (2, [.int (vi 0), .int (vi 1), .int (vi 2), .int (vi 3)])
  | 3 => .inr (3, [va_rf ((vr 0).map ad), .int (vi 1), .int (vi 2), .int (vi 3)])
  | 4 => .inr (4, [.int (vi 0), va_rf ((vr 1).map ad), .int (vi 2), .int (vi 3), va_rf ((vr 4).map ad), va_rf ((vr 5).map ad)])
  | 5 => .inr (5, [va_rf ((vr 0).map ad), va_rf ((vr 1).map ad)])
  | 6 => .inr (6, [.int (vi 0), .int (vi 1), .int (vi 2), .int (vi 3), va_rf ((vr 4).map ad), .int (vi 5), va_rf ((vr 6).map ad), va_rf ((vr 7).map ad), .int (vi 8), va_rf ((vr 9).map ad), va_rf ((vr 10).map ad), .int (vi 11), .int (vi 12), va_rf ((vr 13).map ad), .int (vi 14), va_rf ((vr 15).map ad), .int (vi 16), va_rf ((vr 17).map ad)])
  | 7 => .inr (7, [.int (vi 0), .int (vi 1), .int (vi 2), .int (vi 3), .int (vi 4), .int (vi 5), .int (vi 6), .int (vi 7), .int (vi 8), .int (vi 9)])
  | 8 => .inr (8, [.int (vi 0), .int (vi 1), .int (vi 2), va_rf ((vr 3).map ad), va_rf ((vr 4).map ad), va_rf ((vr 5).map ad), va_rf ((vr 6).map ad), va_rf ((vr 7).map ad), va_rf ((vr 8).map ad), va_rf ((vr 9).map ad), va_rf ((vr 10).map ad), va_rf ((vr 11).map ad)])
  | 9 => .inr (9, [va_rf ((vr 0).map ad), .int (vi 1), va_rf ((vr 2).map ad), va_rf ((vr 3).map ad), va_rf ((vr 4).map ad), .int (vi 5)])
  | 10 => .inr (10, [.int (vi 0), va_rf ((vr 1).map ad), .int (vi 2)])
  | 11 => .inr (11, [va_rf ((vr 0).map ad), va_rf ((vr 1).map ad), va_rf ((vr 2).map ad), va_rf ((vr 3).map ad), va_rf ((vr 4).map ad), va_rf ((vr 5).map ad), va_rf ((vr 6).map ad), va_rf ((vr 7).map ad), va_rf ((vr 8).map ad), va_rf ((vr 9).map ad), va_rf ((vr 10).map ad), va_rf ((vr 11).map ad), va_rf ((vr 12).map ad), va_rf ((vr 13).map ad), va_rf ((vr 14).map ad), va_rf ((vr 15).map ad), .int (vi 16), .int (vi 17), .int (vi 18)])
  | 100 => .inl (cI, sh.2, .inl vi)
  | 101 => .inl (cJ, sh.2, .inr (.inl vj))
  | 102 => .inl (cZ, sh.2, .inl vi)
  | 103 => .inl (cMic, sh.2, .inr (.inr (.inr (.inr (fun i => (vr i).map ad)))))
  | 104 => .inl (cSrc, sh.2, .inr (.inr (.inr (.inr (fun i => (vr i).map ad)))))
  | 105 => .inl (cSt, sh.2, .inr (.inr (.inr (.inr (fun i => (vr i).map ad)))))
  | 106 => .inl (cAI, sh.2, .inr (.inr (.inr (.inr (fun i => (vr i).map ad)))))
  | 107 => .inl (cAJ, sh.2, .inr (.inr (.inr (.inr (fun i => (vr i).map ad)))))
  | _ => .inr (0, [])
def cc (cI cJ cZ cMic cSrc cSt cAI cAJ : ClassId) (ad : Nat → Nat) (T : AT) (n : Nat) : va_E := ccv cI cJ cZ cMic cSrc cSt cAI cAJ ad (T.2.1 n) (T.2.2.1 n) (T.2.2.2.1 n) (T.2.2.2.2 n)
def uI (T : AT) (n k : Nat) (v : Int32) : AT := (T.1, T.2.1, va_up T.2.2.1 n (upd (T.2.2.1 n) k v), T.2.2.2)
def uJ (T : AT) (n k : Nat) (v : Int64) : AT := (T.1, T.2.1, T.2.2.1, va_up T.2.2.2.1 n (vp_updL (T.2.2.2.1 n) k v), T.2.2.2.2)
def uR (T : AT) (n k q : Nat) : AT := (T.1, T.2.1, T.2.2.1, T.2.2.2.1, va_up T.2.2.2.2 n (va_up (T.2.2.2.2 n) k (some q)))
def oO (T : AT) (n c : Nat) : Bool := Nat.blt n T.1 && decide (T.2.1 n = (c, 0))
def aA (T : AT) (n c : Nat) : Bool := Nat.blt n T.1 && (decide ((T.2.1 n).1 = c) && Nat.blt (T.2.1 n).2 (2 ^ 31))
theorem oO_k {T : AT} {n c : Nat} (h : oO T n c = true) : n < T.1 ∧ T.2.1 n = (c, 0) := ⟨Nat.le_of_ble_eq_true ((Bool.and_eq_true _ _).mp h).1, of_decide_eq_true ((Bool.and_eq_true _ _).mp h).2⟩
theorem aA_k {T : AT} {n c : Nat} (h : aA T n c = true) : n < T.1 ∧ (T.2.1 n).1 = c ∧ (T.2.1 n).2 < 2 ^ 31 := ⟨Nat.le_of_ble_eq_true ((Bool.and_eq_true _ _).mp h).1, of_decide_eq_true ((Bool.and_eq_true _ _).mp ((Bool.and_eq_true _ _).mp h).2).1, Nat.le_of_ble_eq_true ((Bool.and_eq_true _ _).mp ((Bool.and_eq_true _ _).mp h).2).2⟩
theorem cc_o0 {cI cJ cZ cMic cSrc cSt cAI cAJ : ClassId} {ad : Nat → Nat} {T : AT} {n : Nat} (h : T.2.1 n = (0, 0)) : cc cI cJ cZ cMic cSrc cSt cAI cAJ ad T n = .inr (0, [va_rf ((T.2.2.2.2 n 0).map ad)]) := by
  unfold cc
  rw [h]
  rfl
theorem cc_o1 {cI cJ cZ cMic cSrc cSt cAI cAJ : ClassId} {ad : Nat → Nat} {T : AT} {n : Nat} (h : T.2.1 n = (1, 0)) : cc cI cJ cZ cMic cSrc cSt cAI cAJ ad T n = .inr (1, [.int (T.2.2.1 n 0), .int (T.2.2.1 n 1), .int (T.2.2.1 n 2), .int (T.2.2.1 n 3), .int (T.2.2.1 n 4), va_rf ((T.2.2.2.2 n 5).map ad), va_rf ((T.2.2.2.2 n 6).map ad), .int (T.2.2.1 n 7), va_rf ((T.2.2.2.2 n 8).map ad)]) := by
  unfold cc
  rw [h]
  rfl
theorem cc_o2 {cI cJ cZ cMic cSrc cSt cAI cAJ : ClassId} {ad : Nat → Nat} {T : AT} {n : Nat} (h : T.2.1 n = (2, 0)) : cc cI cJ cZ cMic cSrc cSt cAI cAJ ad T n = .inr (2, [.int (T.2.2.1 n 0), .int (T.2.2.1 n 1), .int (T.2.2.1 n 2), .int (T.2.2.1 n 3)]) := by
  unfold cc
  rw [h]
  rfl
theorem cc_o3 {cI cJ cZ cMic cSrc cSt cAI cAJ : ClassId} {ad : Nat → Nat} {T : AT} {n : Nat} (h : T.2.1 n = (3, 0)) : cc cI cJ cZ cMic cSrc cSt cAI cAJ ad T n = .inr (3, [va_rf ((T.2.2.2.2 n 0).map ad), .int (T.2.2.1 n 1), .int (T.2.2.1 n 2), .int (T.2.2.1 n 3)]) := by
  unfold cc
  rw [h]
  rfl
theorem cc_o4 {cI cJ cZ cMic cSrc cSt cAI cAJ : ClassId} {ad : Nat → Nat} {T : AT} {n : Nat} (h : T.2.1 n = (4, 0)) : cc cI cJ cZ cMic cSrc cSt cAI cAJ ad T n = .inr (4, [.int (T.2.2.1 n 0), va_rf ((T.2.2.2.2 n 1).map ad), .int (T.2.2.1 n 2), .int (T.2.2.1 n 3), va_rf ((T.2.2.2.2 n 4).map ad), va_rf ((T.2.2.2.2 n 5).map ad)]) := by
  unfold cc
  rw [h]
  rfl
theorem cc_o5 {cI cJ cZ cMic cSrc cSt cAI cAJ : ClassId} {ad : Nat → Nat} {T : AT} {n : Nat} (h : T.2.1 n = (5, 0)) : cc cI cJ cZ cMic cSrc cSt cAI cAJ ad T n = .inr (5, [va_rf ((T.2.2.2.2 n 0).map ad), va_rf ((T.2.2.2.2 n 1).map ad)]) := by
  unfold cc
  rw [h]
  rfl
theorem cc_o6 {cI cJ cZ cMic cSrc cSt cAI cAJ : ClassId} {ad : Nat → Nat} {T : AT} {n : Nat} (h : T.2.1 n = (6, 0)) : cc cI cJ cZ cMic cSrc cSt cAI cAJ ad T n = .inr (6, [.int (T.2.2.1 n 0), .int (T.2.2.1 n 1), .int (T.2.2.1 n 2), .int (T.2.2.1 n 3), va_rf ((T.2.2.2.2 n 4).map ad), .int (T.2.2.1 n 5), va_rf ((T.2.2.2.2 n 6).map ad), va_rf ((T.2.2.2.2 n 7).map ad), .int (T.2.2.1 n 8), va_rf ((T.2.2.2.2 n 9).map ad), va_rf ((T.2.2.2.2 n 10).map ad), .int (T.2.2.1 n 11), .int (T.2.2.1 n 12), va_rf ((T.2.2.2.2 n 13).map ad), .int (T.2.2.1 n 14), va_rf ((T.2.2.2.2 n 15).map ad), .int (T.2.2.1 n 16), va_rf ((T.2.2.2.2 n 17).map ad)]) := by
  unfold cc
  rw [h]
  rfl
theorem cc_o7 {cI cJ cZ cMic cSrc cSt cAI cAJ : ClassId} {ad : Nat → Nat} {T : AT} {n : Nat} (h : T.2.1 n = (7, 0)) : cc cI cJ cZ cMic cSrc cSt cAI cAJ ad T n = .inr (7, [.int (T.2.2.1 n 0), .int (T.2.2.1 n 1), .int (T.2.2.1 n 2), .int (T.2.2.1 n 3), .int (T.2.2.1 n 4), .int (T.2.2.1 n 5), .int (T.2.2.1 n 6), .int (T.2.2.1 n 7), .int (T.2.2.1 n 8), .int (T.2.2.1 n 9)]) := by
  unfold cc
  rw [h]
  rfl
theorem cc_o8 {cI cJ cZ cMic cSrc cSt cAI cAJ : ClassId} {ad : Nat → Nat} {T : AT} {n : Nat} (h : T.2.1 n = (8, 0)) : cc cI cJ cZ cMic cSrc cSt cAI cAJ ad T n = .inr (8, [.int (T.2.2.1 n 0), .int (T.2.2.1 n 1), .int (T.2.2.1 n 2), va_rf ((T.2.2.2.2 n 3).map ad), va_rf ((T.2.2.2.2 n 4).map ad), va_rf ((T.2.2.2.2 n 5).map ad), va_rf ((T.2.2.2.2 n 6).map ad), va_rf ((T.2.2.2.2 n 7).map ad), va_rf ((T.2.2.2.2 n 8).map ad), va_rf ((T.2.2.2.2 n 9).map ad), va_rf ((T.2.2.2.2 n 10).map ad), va_rf ((T.2.2.2.2 n 11).map ad)]) := by
  unfold cc
  rw [h]
  rfl
theorem cc_o9 {cI cJ cZ cMic cSrc cSt cAI cAJ : ClassId} {ad : Nat → Nat} {T : AT} {n : Nat} (h : T.2.1 n = (9, 0)) : cc cI cJ cZ cMic cSrc cSt cAI cAJ ad T n = .inr (9, [va_rf ((T.2.2.2.2 n 0).map ad), .int (T.2.2.1 n 1), va_rf ((T.2.2.2.2 n 2).map ad), va_rf ((T.2.2.2.2 n 3).map ad), va_rf ((T.2.2.2.2 n 4).map ad), .int (T.2.2.1 n 5)]) := by
  unfold cc
  rw [h]
  rfl
theorem cc_o10 {cI cJ cZ cMic cSrc cSt cAI cAJ : ClassId} {ad : Nat → Nat} {T : AT} {n : Nat} (h : T.2.1 n = (10, 0)) : cc cI cJ cZ cMic cSrc cSt cAI cAJ ad T n = .inr (10, [.int (T.2.2.1 n 0), va_rf ((T.2.2.2.2 n 1).map ad), .int (T.2.2.1 n 2)]) := by
  unfold cc
  rw [h]
  rfl
theorem cc_o11 {cI cJ cZ cMic cSrc cSt cAI cAJ : ClassId} {ad : Nat → Nat} {T : AT} {n : Nat} (h : T.2.1 n = (11, 0)) : cc cI cJ cZ cMic cSrc cSt cAI cAJ ad T n = .inr (11, [va_rf ((T.2.2.2.2 n 0).map ad), va_rf ((T.2.2.2.2 n 1).map ad), va_rf ((T.2.2.2.2 n 2).map ad), va_rf ((T.2.2.2.2 n 3).map ad), va_rf ((T.2.2.2.2 n 4).map ad), va_rf ((T.2.2.2.2 n 5).map ad), va_rf ((T.2.2.2.2 n 6).map ad), va_rf ((T.2.2.2.2 n 7).map ad), va_rf ((T.2.2.2.2 n 8).map ad), va_rf ((T.2.2.2.2 n 9).map ad), va_rf ((T.2.2.2.2 n 10).map ad), va_rf ((T.2.2.2.2 n 11).map ad), va_rf ((T.2.2.2.2 n 12).map ad), va_rf ((T.2.2.2.2 n 13).map ad), va_rf ((T.2.2.2.2 n 14).map ad), va_rf ((T.2.2.2.2 n 15).map ad), .int (T.2.2.1 n 16), .int (T.2.2.1 n 17), .int (T.2.2.1 n 18)]) := by
  unfold cc
  rw [h]
  rfl
theorem ccv_100 {cI cJ cZ cMic cSrc cSt cAI cAJ : ClassId} {ad : Nat → Nat} {sh : Nat × Nat} {vi : Nat → Int32} {vj : Nat → Int64} {vr : Nat → Option Nat} (h : sh.1 = 100) : ccv cI cJ cZ cMic cSrc cSt cAI cAJ ad sh vi vj vr = .inl (cI, sh.2, .inl vi) := by
  unfold ccv
  rw [h]
  rfl
theorem cc_a100 {cI cJ cZ cMic cSrc cSt cAI cAJ : ClassId} {ad : Nat → Nat} {T : AT} {n : Nat} (h : (T.2.1 n).1 = 100) : cc cI cJ cZ cMic cSrc cSt cAI cAJ ad T n = .inl (cI, (T.2.1 n).2, .inl (T.2.2.1 n)) := ccv_100 h
theorem ccv_101 {cI cJ cZ cMic cSrc cSt cAI cAJ : ClassId} {ad : Nat → Nat} {sh : Nat × Nat} {vi : Nat → Int32} {vj : Nat → Int64} {vr : Nat → Option Nat} (h : sh.1 = 101) : ccv cI cJ cZ cMic cSrc cSt cAI cAJ ad sh vi vj vr = .inl (cJ, sh.2, .inr (.inl vj)) := by
  unfold ccv
  rw [h]
  rfl
theorem cc_a101 {cI cJ cZ cMic cSrc cSt cAI cAJ : ClassId} {ad : Nat → Nat} {T : AT} {n : Nat} (h : (T.2.1 n).1 = 101) : cc cI cJ cZ cMic cSrc cSt cAI cAJ ad T n = .inl (cJ, (T.2.1 n).2, .inr (.inl (T.2.2.2.1 n))) := ccv_101 h
theorem ccv_102 {cI cJ cZ cMic cSrc cSt cAI cAJ : ClassId} {ad : Nat → Nat} {sh : Nat × Nat} {vi : Nat → Int32} {vj : Nat → Int64} {vr : Nat → Option Nat} (h : sh.1 = 102) : ccv cI cJ cZ cMic cSrc cSt cAI cAJ ad sh vi vj vr = .inl (cZ, sh.2, .inl vi) := by
  unfold ccv
  rw [h]
  rfl
theorem cc_a102 {cI cJ cZ cMic cSrc cSt cAI cAJ : ClassId} {ad : Nat → Nat} {T : AT} {n : Nat} (h : (T.2.1 n).1 = 102) : cc cI cJ cZ cMic cSrc cSt cAI cAJ ad T n = .inl (cZ, (T.2.1 n).2, .inl (T.2.2.1 n)) := ccv_102 h
theorem ccv_103 {cI cJ cZ cMic cSrc cSt cAI cAJ : ClassId} {ad : Nat → Nat} {sh : Nat × Nat} {vi : Nat → Int32} {vj : Nat → Int64} {vr : Nat → Option Nat} (h : sh.1 = 103) : ccv cI cJ cZ cMic cSrc cSt cAI cAJ ad sh vi vj vr = .inl (cMic, sh.2, .inr (.inr (.inr (.inr (fun i => (vr i).map ad))))) := by
  unfold ccv
  rw [h]
  rfl
theorem cc_a103 {cI cJ cZ cMic cSrc cSt cAI cAJ : ClassId} {ad : Nat → Nat} {T : AT} {n : Nat} (h : (T.2.1 n).1 = 103) : cc cI cJ cZ cMic cSrc cSt cAI cAJ ad T n = .inl (cMic, (T.2.1 n).2, .inr (.inr (.inr (.inr (fun i => (T.2.2.2.2 n i).map ad))))) := ccv_103 h
theorem ccv_104 {cI cJ cZ cMic cSrc cSt cAI cAJ : ClassId} {ad : Nat → Nat} {sh : Nat × Nat} {vi : Nat → Int32} {vj : Nat → Int64} {vr : Nat → Option Nat} (h : sh.1 = 104) : ccv cI cJ cZ cMic cSrc cSt cAI cAJ ad sh vi vj vr = .inl (cSrc, sh.2, .inr (.inr (.inr (.inr (fun i => (vr i).map ad))))) := by
  unfold ccv
  rw [h]
  rfl
theorem cc_a104 {cI cJ cZ cMic cSrc cSt cAI cAJ : ClassId} {ad : Nat → Nat} {T : AT} {n : Nat} (h : (T.2.1 n).1 = 104) : cc cI cJ cZ cMic cSrc cSt cAI cAJ ad T n = .inl (cSrc, (T.2.1 n).2, .inr (.inr (.inr (.inr (fun i => (T.2.2.2.2 n i).map ad))))) := ccv_104 h
theorem ccv_105 {cI cJ cZ cMic cSrc cSt cAI cAJ : ClassId} {ad : Nat → Nat} {sh : Nat × Nat} {vi : Nat → Int32} {vj : Nat → Int64} {vr : Nat → Option Nat} (h : sh.1 = 105) : ccv cI cJ cZ cMic cSrc cSt cAI cAJ ad sh vi vj vr = .inl (cSt, sh.2, .inr (.inr (.inr (.inr (fun i => (vr i).map ad))))) := by
  unfold ccv
  rw [h]
  rfl
theorem cc_a105 {cI cJ cZ cMic cSrc cSt cAI cAJ : ClassId} {ad : Nat → Nat} {T : AT} {n : Nat} (h : (T.2.1 n).1 = 105) : cc cI cJ cZ cMic cSrc cSt cAI cAJ ad T n = .inl (cSt, (T.2.1 n).2, .inr (.inr (.inr (.inr (fun i => (T.2.2.2.2 n i).map ad))))) := ccv_105 h
theorem ccv_106 {cI cJ cZ cMic cSrc cSt cAI cAJ : ClassId} {ad : Nat → Nat} {sh : Nat × Nat} {vi : Nat → Int32} {vj : Nat → Int64} {vr : Nat → Option Nat} (h : sh.1 = 106) : ccv cI cJ cZ cMic cSrc cSt cAI cAJ ad sh vi vj vr = .inl (cAI, sh.2, .inr (.inr (.inr (.inr (fun i => (vr i).map ad))))) := by
  unfold ccv
  rw [h]
  rfl
theorem cc_a106 {cI cJ cZ cMic cSrc cSt cAI cAJ : ClassId} {ad : Nat → Nat} {T : AT} {n : Nat} (h : (T.2.1 n).1 = 106) : cc cI cJ cZ cMic cSrc cSt cAI cAJ ad T n = .inl (cAI, (T.2.1 n).2, .inr (.inr (.inr (.inr (fun i => (T.2.2.2.2 n i).map ad))))) := ccv_106 h
theorem ccv_107 {cI cJ cZ cMic cSrc cSt cAI cAJ : ClassId} {ad : Nat → Nat} {sh : Nat × Nat} {vi : Nat → Int32} {vj : Nat → Int64} {vr : Nat → Option Nat} (h : sh.1 = 107) : ccv cI cJ cZ cMic cSrc cSt cAI cAJ ad sh vi vj vr = .inl (cAJ, sh.2, .inr (.inr (.inr (.inr (fun i => (vr i).map ad))))) := by
  unfold ccv
  rw [h]
  rfl
theorem cc_a107 {cI cJ cZ cMic cSrc cSt cAI cAJ : ClassId} {ad : Nat → Nat} {T : AT} {n : Nat} (h : (T.2.1 n).1 = 107) : cc cI cJ cZ cMic cSrc cSt cAI cAJ ad T n = .inl (cAJ, (T.2.1 n).2, .inr (.inr (.inr (.inr (fun i => (T.2.2.2.2 n i).map ad))))) := ccv_107 h
abbrev gC (cI cJ cZ cMic cSrc cSt cAI cAJ : ClassId) (D : va_G) (ad : Nat → Nat) (A : Nat → Prop) (H0 H : Heap) (locs : List Loc) (T : AT) : Prop := cG D ad T.1 A H0 H locs (cc cI cJ cZ cMic cSrc cSt cAI cAJ ad T)
theorem cc_up_i {cI cJ cZ cMic cSrc cSt cAI cAJ : ClassId} {ad : Nat → Nat} {T : AT} {n : Nat} {f : Nat → Int32} {e : va_E} (h : ccv cI cJ cZ cMic cSrc cSt cAI cAJ ad (T.2.1 n) f (T.2.2.2.1 n) (T.2.2.2.2 n) = e) : va_up (cc cI cJ cZ cMic cSrc cSt cAI cAJ ad T) n e = cc cI cJ cZ cMic cSrc cSt cAI cAJ ad (T.1, T.2.1, va_up T.2.2.1 n f, T.2.2.2) := by
  funext m
  by_cases q : m = n
  · subst q
    rw [va_up_self]
    unfold cc
    show e = _
    dsimp only
    rw [va_up_self]
    exact h.symm
  · rw [va_up_ne _ _ q]
    unfold cc
    dsimp only
    rw [va_up_ne _ _ q]
theorem gC_up_i {cI cJ cZ cMic cSrc cSt cAI cAJ : ClassId} {ad : Nat → Nat} {D : va_G} {A : Nat → Prop} {H0 H : Heap} {locs : List Loc} {T : AT} {n : Nat} {f : Nat → Int32} {e : va_E} (h : ccv cI cJ cZ cMic cSrc cSt cAI cAJ ad (T.2.1 n) f (T.2.2.2.1 n) (T.2.2.2.2 n) = e) (G : cG D ad T.1 A H0 H locs (va_up (cc cI cJ cZ cMic cSrc cSt cAI cAJ ad T) n e)) : gC cI cJ cZ cMic cSrc cSt cAI cAJ D ad A H0 H locs (T.1, T.2.1, va_up T.2.2.1 n f, T.2.2.2) := by
  rw [cc_up_i h] at G
  exact G
theorem cc_up_j {cI cJ cZ cMic cSrc cSt cAI cAJ : ClassId} {ad : Nat → Nat} {T : AT} {n : Nat} {f : Nat → Int64} {e : va_E} (h : ccv cI cJ cZ cMic cSrc cSt cAI cAJ ad (T.2.1 n) (T.2.2.1 n) f (T.2.2.2.2 n) = e) : va_up (cc cI cJ cZ cMic cSrc cSt cAI cAJ ad T) n e = cc cI cJ cZ cMic cSrc cSt cAI cAJ ad (T.1, T.2.1, T.2.2.1, va_up T.2.2.2.1 n f, T.2.2.2.2) := by
  funext m
  by_cases q : m = n
  · subst q
    rw [va_up_self]
    unfold cc
    show e = _
    dsimp only
    rw [va_up_self]
    exact h.symm
  · rw [va_up_ne _ _ q]
    unfold cc
    dsimp only
    rw [va_up_ne _ _ q]
theorem gC_up_j {cI cJ cZ cMic cSrc cSt cAI cAJ : ClassId} {ad : Nat → Nat} {D : va_G} {A : Nat → Prop} {H0 H : Heap} {locs : List Loc} {T : AT} {n : Nat} {f : Nat → Int64} {e : va_E} (h : ccv cI cJ cZ cMic cSrc cSt cAI cAJ ad (T.2.1 n) (T.2.2.1 n) f (T.2.2.2.2 n) = e) (G : cG D ad T.1 A H0 H locs (va_up (cc cI cJ cZ cMic cSrc cSt cAI cAJ ad T) n e)) : gC cI cJ cZ cMic cSrc cSt cAI cAJ D ad A H0 H locs (T.1, T.2.1, T.2.2.1, va_up T.2.2.2.1 n f, T.2.2.2.2) := by
  rw [cc_up_j h] at G
  exact G
theorem cc_up_r {cI cJ cZ cMic cSrc cSt cAI cAJ : ClassId} {ad : Nat → Nat} {T : AT} {n : Nat} {f : Nat → Option Nat} {e : va_E} (h : ccv cI cJ cZ cMic cSrc cSt cAI cAJ ad (T.2.1 n) (T.2.2.1 n) (T.2.2.2.1 n) f = e) : va_up (cc cI cJ cZ cMic cSrc cSt cAI cAJ ad T) n e = cc cI cJ cZ cMic cSrc cSt cAI cAJ ad (T.1, T.2.1, T.2.2.1, T.2.2.2.1, va_up T.2.2.2.2 n f) := by
  funext m
  by_cases q : m = n
  · subst q
    rw [va_up_self]
    unfold cc
    show e = _
    dsimp only
    rw [va_up_self]
    exact h.symm
  · rw [va_up_ne _ _ q]
    unfold cc
    dsimp only
    rw [va_up_ne _ _ q]
theorem gC_up_r {cI cJ cZ cMic cSrc cSt cAI cAJ : ClassId} {ad : Nat → Nat} {D : va_G} {A : Nat → Prop} {H0 H : Heap} {locs : List Loc} {T : AT} {n : Nat} {f : Nat → Option Nat} {e : va_E} (h : ccv cI cJ cZ cMic cSrc cSt cAI cAJ ad (T.2.1 n) (T.2.2.1 n) (T.2.2.2.1 n) f = e) (G : cG D ad T.1 A H0 H locs (va_up (cc cI cJ cZ cMic cSrc cSt cAI cAJ ad T) n e)) : gC cI cJ cZ cMic cSrc cSt cAI cAJ D ad A H0 H locs (T.1, T.2.1, T.2.2.1, T.2.2.2.1, va_up T.2.2.2.2 n f) := by
  rw [cc_up_r h] at G
  exact G
abbrev kB (cI cJ cZ cMic cSrc cSt cAI cAJ : ClassId) (D : va_G) (ad : Nat → Nat) (T : AT) (sz : Nat) : State → Prop := fun U => U.heap.size = sz ∧ va_P D vwCl (cW ad T.1 (cc cI cJ cZ cMic cSrc cSt cAI cAJ ad T)) U.heap ∧ va_K D vwCl (CT cI cJ cZ cMic cSrc cSt cAI cAJ) U ∧ va_D (fun _ => True) (cW ad T.1 (cc cI cJ cZ cMic cSrc cSt cAI cAJ ad T)) ∧ xT (va_A (cW ad T.1 (cc cI cJ cZ cMic cSrc cSt cAI cAJ ad T)) sz) U ∧ nX U
abbrev kAt (cI cJ cZ cMic cSrc cSt cAI cAJ : ClassId) (D : va_G) (ad : Nat → Nat) (A : Nat → Prop) (T : AT) (t : State) : Prop := va_P D vwCl (cW ad T.1 (cc cI cJ cZ cMic cSrc cSt cAI cAJ ad T)) t.heap ∧ va_K D vwCl (CT cI cJ cZ cMic cSrc cSt cAI cAJ) t ∧ va_D A (cW ad T.1 (cc cI cJ cZ cMic cSrc cSt cAI cAJ ad T))
abbrev kCi (l : Launch) (y : MethodName) (ws : List Cond) (fr lo : Nat) (cI cJ cZ cMic cSrc cSt cAI cAJ : ClassId) (D : va_G) (ad : Nat → Nat) (T : AT) (As : List Value) (post : Int32 → AT → Prop) : Prop := ∀ sz : Nat, Met l y ws { frames := fr, cells := 0, slots := 0, locals := lo } (va_Pc As (kB cI cJ cZ cMic cSrc cSt cAI cAJ D ad T sz)) (va_Qi post (kAt cI cJ cZ cMic cSrc cSt cAI cAJ D ad (va_A (cW ad T.1 (cc cI cJ cZ cMic cSrc cSt cAI cAJ ad T)) sz)) (va_A (cW ad T.1 (cc cI cJ cZ cMic cSrc cSt cAI cAJ ad T)) sz)) 0 0 (va_A (cW ad T.1 (cc cI cJ cZ cMic cSrc cSt cAI cAJ ad T)) sz)
abbrev kCl (l : Launch) (y : MethodName) (ws : List Cond) (fr lo : Nat) (cI cJ cZ cMic cSrc cSt cAI cAJ : ClassId) (D : va_G) (ad : Nat → Nat) (T : AT) (As : List Value) (post : Int64 → AT → Prop) : Prop := ∀ sz : Nat, Met l y ws { frames := fr, cells := 0, slots := 0, locals := lo } (va_Pc As (kB cI cJ cZ cMic cSrc cSt cAI cAJ D ad T sz)) (va_Ql post (kAt cI cJ cZ cMic cSrc cSt cAI cAJ D ad (va_A (cW ad T.1 (cc cI cJ cZ cMic cSrc cSt cAI cAJ ad T)) sz)) (va_A (cW ad T.1 (cc cI cJ cZ cMic cSrc cSt cAI cAJ ad T)) sz)) 0 0 (va_A (cW ad T.1 (cc cI cJ cZ cMic cSrc cSt cAI cAJ ad T)) sz)
abbrev kCf (l : Launch) (y : MethodName) (ws : List Cond) (fr lo : Nat) (cI cJ cZ cMic cSrc cSt cAI cAJ : ClassId) (D : va_G) (ad : Nat → Nat) (T : AT) (As : List Value) (post : UInt32 → AT → Prop) : Prop := ∀ sz : Nat, Met l y ws { frames := fr, cells := 0, slots := 0, locals := lo } (va_Pc As (kB cI cJ cZ cMic cSrc cSt cAI cAJ D ad T sz)) (va_Qf post (kAt cI cJ cZ cMic cSrc cSt cAI cAJ D ad (va_A (cW ad T.1 (cc cI cJ cZ cMic cSrc cSt cAI cAJ ad T)) sz)) (va_A (cW ad T.1 (cc cI cJ cZ cMic cSrc cSt cAI cAJ ad T)) sz)) 0 0 (va_A (cW ad T.1 (cc cI cJ cZ cMic cSrc cSt cAI cAJ ad T)) sz)
abbrev kCv (l : Launch) (y : MethodName) (ws : List Cond) (fr lo : Nat) (cI cJ cZ cMic cSrc cSt cAI cAJ : ClassId) (D : va_G) (ad : Nat → Nat) (T : AT) (As : List Value) (post : AT → Prop) : Prop := ∀ sz : Nat, Met l y ws { frames := fr, cells := 0, slots := 0, locals := lo } (va_Pc As (kB cI cJ cZ cMic cSrc cSt cAI cAJ D ad T sz)) (va_Qv post (kAt cI cJ cZ cMic cSrc cSt cAI cAJ D ad (va_A (cW ad T.1 (cc cI cJ cZ cMic cSrc cSt cAI cAJ ad T)) sz)) (va_A (cW ad T.1 (cc cI cJ cZ cMic cSrc cSt cAI cAJ ad T)) sz)) 0 0 (va_A (cW ad T.1 (cc cI cJ cZ cMic cSrc cSt cAI cAJ ad T)) sz)
theorem q_cvi {p : Program} {l : Launch} {e : Env} {R : Room} {s : State} {m : MethodId} {args : Array Value} {below : List Frame} {meth : Method} {c : Code} {H : Heap} {locs : List Loc} {cells slots : Nat} {Q : State → Prop} {cc0 : ByteArray} {pc : Nat} {ls : Array Slot} {rest : List Value} {D : va_G} {A : Nat → Prop} {Ts : List Cond} {own : String} {cI cJ cZ cMic cSrc cSt cAI cAJ : ClassId} {ad : Nat → Nat} {T : AT} {y : MethodName} {bytes : ByteArray} {maxL nL n index fr lo : Nat} {ret : Option FieldType} {ws : List Cond} {As : List Value} {C : String} {TT : u_T} {nf ci q : Nat} {fs : List Value} {post : Int32 → AT → Prop} (E : cE p c cc0 s m args Ts D own (CT cI cJ cZ cMic cSrc cSt cAI cAJ)) (G : gC cI cJ cZ cMic cSrc cSt cAI cAJ D ad A s.heap H locs T) (hA : ∀ q, s.heap.size ≤ q → A q) (hX : xT A s) (hN : nX s) (hml : c.maxLocals = nL) (hM : kCi l y ws fr lo cI cJ cZ cMic cSrc cSt cAI cAJ D ad T (.ref (ad q) :: As) post) (cw : CallW R s args own C index y bytes maxL ret ws { frames := fr, cells := 0, slots := 0, locals := lo } 0 0 n) (hq : q < T.1) (hSq : cc cI cJ cZ cMic cSrc cSt cAI cAJ ad T q = .inr (ci, fs)) (hc : vwCl[ci]? = some (C, TT, nf)) (hn : As.length = n) (hsz : ls.size = nL) {st : List Value} (hst : st = As.reverse ++ .ref (ad q) :: rest) (hW : 2 * (F0 m pc ls st).monitorRoom + (rest.map fun v => v.category).sum ≤ 8) (hdg : decode cc0 pc = .ok (.invokevirtual index, 3)) (hf : cells + 0 ≤ R.cells ∧ slots + 0 ≤ R.slots) (kk : ∀ (r : Int32) (T1 : AT) (H1 : Heap) (locs1 : List Loc), post r T1 → gC cI cJ cZ cMic cSrc cSt cAI cAJ D ad A s.heap H1 locs1 T1 → W p l e R s m args below meth c H1 locs1 (cells + 0) (slots + 0) Q (F0 m (pc + 3) ls (.int r :: rest))) : W p l e R s m args below meth c H locs cells slots Q (F0 m pc ls st) := by
  obtain ⟨hx, hb, hts, hown, hK⟩ := E
  obtain ⟨hP, hD, hS⟩ := G
  have hFc := va_free (wc := cW ad T.1 (cc cI cJ cZ cMic cSrc cSt cAI cAJ ad T)) hD hS hA (List.range T.1) (cW_all ad T.1 (cc cI cJ cZ cMic cSrc cSt cAI cAJ ad T))
  refine va_calli (va_runV (As := As) (rest := rest) ⟨hx, hb, hml, hown, hts⟩ (hM H.size) cw ⟨fun a U g mk q => by obtain ⟨q0, q1, qP, qK, qD, qX, qN⟩ := q; exact ⟨q0, q1, qP, va_K.moved (u := U) (U := U.calling g mk a) (Vm.Alike.refl U.vm) qK, qD, qX.blind, nX.moved U (U.calling g mk a) (State.WarmedH.refl U) qN⟩, va_recv hK hP (ci := ci) (q0 := q) hc (cW_e hq hSq), fun U hU hW => ⟨rfl, by rw [hU], by rw [hU]; exact hP, va_K.moved hW.alike hK, hD.weaken (fun _ _ _ _ => trivial), hX.go hW hU hS hFc, nX.moved s U hW hN⟩⟩ rfl hn hsz hst hW hdg hf) hS (fun q _ h => hFc q h) hFc (fun r u t H1 locs1 ht hvm hw hB hz1 hk1 hS => ?_)
  obtain ⟨hP1, hK1, hD1⟩ := hB
  rw [ht] at hP1
  obtain ⟨hP2, hD2⟩ := va_join (wr := []) (w1 := cW ad u.1 (cc cI cJ cZ cMic cSrc cSt cAI cAJ ad u)) hP hD (List.range T.1) [] (cW_all ad T.1 (cc cI cJ cZ cMic cSrc cSt cAI cAJ ad T)) rfl rfl (fun i hi => absurd hi List.not_mem_nil) hk1 hFc hP1 hD1
  exact kk r u H1 locs1 hw ⟨hP2, hD2, hS⟩
theorem q_csi {p : Program} {l : Launch} {e : Env} {R : Room} {s : State} {m : MethodId} {args : Array Value} {below : List Frame} {meth : Method} {c : Code} {H : Heap} {locs : List Loc} {cells slots : Nat} {Q : State → Prop} {cc0 : ByteArray} {pc : Nat} {ls : Array Slot} {rest : List Value} {D : va_G} {A : Nat → Prop} {Ts : List Cond} {own : String} {cI cJ cZ cMic cSrc cSt cAI cAJ : ClassId} {ad : Nat → Nat} {T : AT} {y : MethodName} {bytes : ByteArray} {maxL nL n index fr lo : Nat} {ret : Option FieldType} {ws : List Cond} {As : List Value} {post : Int32 → AT → Prop} (E : cE p c cc0 s m args Ts D own (CT cI cJ cZ cMic cSrc cSt cAI cAJ)) (G : gC cI cJ cZ cMic cSrc cSt cAI cAJ D ad A s.heap H locs T) (hA : ∀ q, s.heap.size ≤ q → A q) (hX : xT A s) (hN : nX s) (hml : c.maxLocals = nL) (hM : kCi l y ws fr lo cI cJ cZ cMic cSrc cSt cAI cAJ D ad T (As) post) (cw : CallB R s args own index y bytes maxL ret ws { frames := fr, cells := 0, slots := 0, locals := lo } 0 0 n ∧ (Cond.static y).before args s = true) (hn : As.length = n) (hsz : ls.size = nL) {st : List Value} (hst : st = As.reverse ++ rest) (hW : 2 * (F0 m pc ls st).monitorRoom + (rest.map fun v => v.category).sum ≤ 8) (hdg : decode cc0 pc = .ok (.invokestatic index, 3)) (hf : cells + 0 ≤ R.cells ∧ slots + 0 ≤ R.slots) (kk : ∀ (r : Int32) (T1 : AT) (H1 : Heap) (locs1 : List Loc), post r T1 → gC cI cJ cZ cMic cSrc cSt cAI cAJ D ad A s.heap H1 locs1 T1 → W p l e R s m args below meth c H1 locs1 (cells + 0) (slots + 0) Q (F0 m (pc + 3) ls (.int r :: rest))) : W p l e R s m args below meth c H locs cells slots Q (F0 m pc ls st) := by
  obtain ⟨hx, hb, hts, hown, hK⟩ := E
  obtain ⟨hP, hD, hS⟩ := G
  have hFc := va_free (wc := cW ad T.1 (cc cI cJ cZ cMic cSrc cSt cAI cAJ ad T)) hD hS hA (List.range T.1) (cW_all ad T.1 (cc cI cJ cZ cMic cSrc cSt cAI cAJ ad T))
  refine va_calli (va_runS (As := As) (rest := rest) ⟨hx, hb, hml, hown, hts⟩ (hM H.size) cw ⟨fun a U g mk q => by obtain ⟨q0, q1, qP, qK, qD, qX, qN⟩ := q; exact ⟨q0, q1, qP, va_K.moved (u := U) (U := U.calling g mk a) (Vm.Alike.refl U.vm) qK, qD, qX.blind, nX.moved U (U.calling g mk a) (State.WarmedH.refl U) qN⟩, fun U hU hW => ⟨rfl, by rw [hU], by rw [hU]; exact hP, va_K.moved hW.alike hK, hD.weaken (fun _ _ _ _ => trivial), hX.go hW hU hS hFc, nX.moved s U hW hN⟩⟩ rfl hn hsz hst hW hdg hf) hS (fun q _ h => hFc q h) hFc (fun r u t H1 locs1 ht hvm hw hB hz1 hk1 hS => ?_)
  obtain ⟨hP1, hK1, hD1⟩ := hB
  rw [ht] at hP1
  obtain ⟨hP2, hD2⟩ := va_join (wr := []) (w1 := cW ad u.1 (cc cI cJ cZ cMic cSrc cSt cAI cAJ ad u)) hP hD (List.range T.1) [] (cW_all ad T.1 (cc cI cJ cZ cMic cSrc cSt cAI cAJ ad T)) rfl rfl (fun i hi => absurd hi List.not_mem_nil) hk1 hFc hP1 hD1
  exact kk r u H1 locs1 hw ⟨hP2, hD2, hS⟩
theorem q_cvl {p : Program} {l : Launch} {e : Env} {R : Room} {s : State} {m : MethodId} {args : Array Value} {below : List Frame} {meth : Method} {c : Code} {H : Heap} {locs : List Loc} {cells slots : Nat} {Q : State → Prop} {cc0 : ByteArray} {pc : Nat} {ls : Array Slot} {rest : List Value} {D : va_G} {A : Nat → Prop} {Ts : List Cond} {own : String} {cI cJ cZ cMic cSrc cSt cAI cAJ : ClassId} {ad : Nat → Nat} {T : AT} {y : MethodName} {bytes : ByteArray} {maxL nL n index fr lo : Nat} {ret : Option FieldType} {ws : List Cond} {As : List Value} {C : String} {TT : u_T} {nf ci q : Nat} {fs : List Value} {post : Int64 → AT → Prop} (E : cE p c cc0 s m args Ts D own (CT cI cJ cZ cMic cSrc cSt cAI cAJ)) (G : gC cI cJ cZ cMic cSrc cSt cAI cAJ D ad A s.heap H locs T) (hA : ∀ q, s.heap.size ≤ q → A q) (hX : xT A s) (hN : nX s) (hml : c.maxLocals = nL) (hM : kCl l y ws fr lo cI cJ cZ cMic cSrc cSt cAI cAJ D ad T (.ref (ad q) :: As) post) (cw : CallW R s args own C index y bytes maxL ret ws { frames := fr, cells := 0, slots := 0, locals := lo } 0 0 n) (hq : q < T.1) (hSq : cc cI cJ cZ cMic cSrc cSt cAI cAJ ad T q = .inr (ci, fs)) (hc : vwCl[ci]? = some (C, TT, nf)) (hn : As.length = n) (hsz : ls.size = nL) {st : List Value} (hst : st = As.reverse ++ .ref (ad q) :: rest) (hW : 2 * (F0 m pc ls st).monitorRoom + (rest.map fun v => v.category).sum ≤ 8) (hdg : decode cc0 pc = .ok (.invokevirtual index, 3)) (hf : cells + 0 ≤ R.cells ∧ slots + 0 ≤ R.slots) (kk : ∀ (r : Int64) (T1 : AT) (H1 : Heap) (locs1 : List Loc), post r T1 → gC cI cJ cZ cMic cSrc cSt cAI cAJ D ad A s.heap H1 locs1 T1 → W p l e R s m args below meth c H1 locs1 (cells + 0) (slots + 0) Q (F0 m (pc + 3) ls (.long r :: rest))) : W p l e R s m args below meth c H locs cells slots Q (F0 m pc ls st) := by
  obtain ⟨hx, hb, hts, hown, hK⟩ := E
  obtain ⟨hP, hD, hS⟩ := G
  have hFc := va_free (wc := cW ad T.1 (cc cI cJ cZ cMic cSrc cSt cAI cAJ ad T)) hD hS hA (List.range T.1) (cW_all ad T.1 (cc cI cJ cZ cMic cSrc cSt cAI cAJ ad T))
  refine va_calll (va_runV (As := As) (rest := rest) ⟨hx, hb, hml, hown, hts⟩ (hM H.size) cw ⟨fun a U g mk q => by obtain ⟨q0, q1, qP, qK, qD, qX, qN⟩ := q; exact ⟨q0, q1, qP, va_K.moved (u := U) (U := U.calling g mk a) (Vm.Alike.refl U.vm) qK, qD, qX.blind, nX.moved U (U.calling g mk a) (State.WarmedH.refl U) qN⟩, va_recv hK hP (ci := ci) (q0 := q) hc (cW_e hq hSq), fun U hU hW => ⟨rfl, by rw [hU], by rw [hU]; exact hP, va_K.moved hW.alike hK, hD.weaken (fun _ _ _ _ => trivial), hX.go hW hU hS hFc, nX.moved s U hW hN⟩⟩ rfl hn hsz hst hW hdg hf) hS (fun q _ h => hFc q h) hFc (fun r u t H1 locs1 ht hvm hw hB hz1 hk1 hS => ?_)
  obtain ⟨hP1, hK1, hD1⟩ := hB
  rw [ht] at hP1
  obtain ⟨hP2, hD2⟩ := va_join (wr := []) (w1 := cW ad u.1 (cc cI cJ cZ cMic cSrc cSt cAI cAJ ad u)) hP hD (List.range T.1) [] (cW_all ad T.1 (cc cI cJ cZ cMic cSrc cSt cAI cAJ ad T)) rfl rfl (fun i hi => absurd hi List.not_mem_nil) hk1 hFc hP1 hD1
  exact kk r u H1 locs1 hw ⟨hP2, hD2, hS⟩
theorem q_cvf {p : Program} {l : Launch} {e : Env} {R : Room} {s : State} {m : MethodId} {args : Array Value} {below : List Frame} {meth : Method} {c : Code} {H : Heap} {locs : List Loc} {cells slots : Nat} {Q : State → Prop} {cc0 : ByteArray} {pc : Nat} {ls : Array Slot} {rest : List Value} {D : va_G} {A : Nat → Prop} {Ts : List Cond} {own : String} {cI cJ cZ cMic cSrc cSt cAI cAJ : ClassId} {ad : Nat → Nat} {T : AT} {y : MethodName} {bytes : ByteArray} {maxL nL n index fr lo : Nat} {ret : Option FieldType} {ws : List Cond} {As : List Value} {C : String} {TT : u_T} {nf ci q : Nat} {fs : List Value} {post : UInt32 → AT → Prop} (E : cE p c cc0 s m args Ts D own (CT cI cJ cZ cMic cSrc cSt cAI cAJ)) (G : gC cI cJ cZ cMic cSrc cSt cAI cAJ D ad A s.heap H locs T) (hA : ∀ q, s.heap.size ≤ q → A q) (hX : xT A s) (hN : nX s) (hml : c.maxLocals = nL) (hM : kCf l y ws fr lo cI cJ cZ cMic cSrc cSt cAI cAJ D ad T (.ref (ad q) :: As) post) (cw : CallW R s args own C index y bytes maxL ret ws { frames := fr, cells := 0, slots := 0, locals := lo } 0 0 n) (hq : q < T.1) (hSq : cc cI cJ cZ cMic cSrc cSt cAI cAJ ad T q = .inr (ci, fs)) (hc : vwCl[ci]? = some (C, TT, nf)) (hn : As.length = n) (hsz : ls.size = nL) {st : List Value} (hst : st = As.reverse ++ .ref (ad q) :: rest) (hW : 2 * (F0 m pc ls st).monitorRoom + (rest.map fun v => v.category).sum ≤ 8) (hdg : decode cc0 pc = .ok (.invokevirtual index, 3)) (hf : cells + 0 ≤ R.cells ∧ slots + 0 ≤ R.slots) (kk : ∀ (r : UInt32) (T1 : AT) (H1 : Heap) (locs1 : List Loc), post r T1 → gC cI cJ cZ cMic cSrc cSt cAI cAJ D ad A s.heap H1 locs1 T1 → W p l e R s m args below meth c H1 locs1 (cells + 0) (slots + 0) Q (F0 m (pc + 3) ls (.float r :: rest))) : W p l e R s m args below meth c H locs cells slots Q (F0 m pc ls st) := by
  obtain ⟨hx, hb, hts, hown, hK⟩ := E
  obtain ⟨hP, hD, hS⟩ := G
  have hFc := va_free (wc := cW ad T.1 (cc cI cJ cZ cMic cSrc cSt cAI cAJ ad T)) hD hS hA (List.range T.1) (cW_all ad T.1 (cc cI cJ cZ cMic cSrc cSt cAI cAJ ad T))
  refine va_callf (va_runV (As := As) (rest := rest) ⟨hx, hb, hml, hown, hts⟩ (hM H.size) cw ⟨fun a U g mk q => by obtain ⟨q0, q1, qP, qK, qD, qX, qN⟩ := q; exact ⟨q0, q1, qP, va_K.moved (u := U) (U := U.calling g mk a) (Vm.Alike.refl U.vm) qK, qD, qX.blind, nX.moved U (U.calling g mk a) (State.WarmedH.refl U) qN⟩, va_recv hK hP (ci := ci) (q0 := q) hc (cW_e hq hSq), fun U hU hW => ⟨rfl, by rw [hU], by rw [hU]; exact hP, va_K.moved hW.alike hK, hD.weaken (fun _ _ _ _ => trivial), hX.go hW hU hS hFc, nX.moved s U hW hN⟩⟩ rfl hn hsz hst hW hdg hf) hS (fun q _ h => hFc q h) hFc (fun r u t H1 locs1 ht hvm hw hB hz1 hk1 hS => ?_)
  obtain ⟨hP1, hK1, hD1⟩ := hB
  rw [ht] at hP1
  obtain ⟨hP2, hD2⟩ := va_join (wr := []) (w1 := cW ad u.1 (cc cI cJ cZ cMic cSrc cSt cAI cAJ ad u)) hP hD (List.range T.1) [] (cW_all ad T.1 (cc cI cJ cZ cMic cSrc cSt cAI cAJ ad T)) rfl rfl (fun i hi => absurd hi List.not_mem_nil) hk1 hFc hP1 hD1
  exact kk r u H1 locs1 hw ⟨hP2, hD2, hS⟩
theorem q_cvv {p : Program} {l : Launch} {e : Env} {R : Room} {s : State} {m : MethodId} {args : Array Value} {below : List Frame} {meth : Method} {c : Code} {H : Heap} {locs : List Loc} {cells slots : Nat} {Q : State → Prop} {cc0 : ByteArray} {pc : Nat} {ls : Array Slot} {rest : List Value} {D : va_G} {A : Nat → Prop} {Ts : List Cond} {own : String} {cI cJ cZ cMic cSrc cSt cAI cAJ : ClassId} {ad : Nat → Nat} {T : AT} {y : MethodName} {bytes : ByteArray} {maxL nL n index fr lo : Nat} {ret : Option FieldType} {ws : List Cond} {As : List Value} {C : String} {TT : u_T} {nf ci q : Nat} {fs : List Value} {post : AT → Prop} (E : cE p c cc0 s m args Ts D own (CT cI cJ cZ cMic cSrc cSt cAI cAJ)) (G : gC cI cJ cZ cMic cSrc cSt cAI cAJ D ad A s.heap H locs T) (hA : ∀ q, s.heap.size ≤ q → A q) (hX : xT A s) (hN : nX s) (hml : c.maxLocals = nL) (hM : kCv l y ws fr lo cI cJ cZ cMic cSrc cSt cAI cAJ D ad T (.ref (ad q) :: As) post) (cw : CallW R s args own C index y bytes maxL ret ws { frames := fr, cells := 0, slots := 0, locals := lo } 0 0 n) (hq : q < T.1) (hSq : cc cI cJ cZ cMic cSrc cSt cAI cAJ ad T q = .inr (ci, fs)) (hc : vwCl[ci]? = some (C, TT, nf)) (hn : As.length = n) (hsz : ls.size = nL) {st : List Value} (hst : st = As.reverse ++ .ref (ad q) :: rest) (hW : 2 * (F0 m pc ls st).monitorRoom + (rest.map fun v => v.category).sum ≤ 8) (hdg : decode cc0 pc = .ok (.invokevirtual index, 3)) (hf : cells + 0 ≤ R.cells ∧ slots + 0 ≤ R.slots) (kk : ∀ (T1 : AT) (H1 : Heap) (locs1 : List Loc), post T1 → gC cI cJ cZ cMic cSrc cSt cAI cAJ D ad A s.heap H1 locs1 T1 → W p l e R s m args below meth c H1 locs1 (cells + 0) (slots + 0) Q (F0 m (pc + 3) ls rest)) : W p l e R s m args below meth c H locs cells slots Q (F0 m pc ls st) := by
  obtain ⟨hx, hb, hts, hown, hK⟩ := E
  obtain ⟨hP, hD, hS⟩ := G
  have hFc := va_free (wc := cW ad T.1 (cc cI cJ cZ cMic cSrc cSt cAI cAJ ad T)) hD hS hA (List.range T.1) (cW_all ad T.1 (cc cI cJ cZ cMic cSrc cSt cAI cAJ ad T))
  refine va_callv (va_runV (As := As) (rest := rest) ⟨hx, hb, hml, hown, hts⟩ (hM H.size) cw ⟨fun a U g mk q => by obtain ⟨q0, q1, qP, qK, qD, qX, qN⟩ := q; exact ⟨q0, q1, qP, va_K.moved (u := U) (U := U.calling g mk a) (Vm.Alike.refl U.vm) qK, qD, qX.blind, nX.moved U (U.calling g mk a) (State.WarmedH.refl U) qN⟩, va_recv hK hP (ci := ci) (q0 := q) hc (cW_e hq hSq), fun U hU hW => ⟨rfl, by rw [hU], by rw [hU]; exact hP, va_K.moved hW.alike hK, hD.weaken (fun _ _ _ _ => trivial), hX.go hW hU hS hFc, nX.moved s U hW hN⟩⟩ rfl hn hsz hst hW hdg hf) hS (fun q _ h => hFc q h) hFc (fun u t H1 locs1 ht hvm hw hB hz1 hk1 hS => ?_)
  obtain ⟨hP1, hK1, hD1⟩ := hB
  rw [ht] at hP1
  obtain ⟨hP2, hD2⟩ := va_join (wr := []) (w1 := cW ad u.1 (cc cI cJ cZ cMic cSrc cSt cAI cAJ ad u)) hP hD (List.range T.1) [] (cW_all ad T.1 (cc cI cJ cZ cMic cSrc cSt cAI cAJ ad T)) rfl rfl (fun i hi => absurd hi List.not_mem_nil) hk1 hFc hP1 hD1
  exact kk u H1 locs1 hw ⟨hP2, hD2, hS⟩
theorem q_csv {p : Program} {l : Launch} {e : Env} {R : Room} {s : State} {m : MethodId} {args : Array Value} {below : List Frame} {meth : Method} {c : Code} {H : Heap} {locs : List Loc} {cells slots : Nat} {Q : State → Prop} {cc0 : ByteArray} {pc : Nat} {ls : Array Slot} {rest : List Value} {D : va_G} {A : Nat → Prop} {Ts : List Cond} {own : String} {cI cJ cZ cMic cSrc cSt cAI cAJ : ClassId} {ad : Nat → Nat} {T : AT} {y : MethodName} {bytes : ByteArray} {maxL nL n index fr lo : Nat} {ret : Option FieldType} {ws : List Cond} {As : List Value} {post : AT → Prop} (E : cE p c cc0 s m args Ts D own (CT cI cJ cZ cMic cSrc cSt cAI cAJ)) (G : gC cI cJ cZ cMic cSrc cSt cAI cAJ D ad A s.heap H locs T) (hA : ∀ q, s.heap.size ≤ q → A q) (hX : xT A s) (hN : nX s) (hml : c.maxLocals = nL) (hM : kCv l y ws fr lo cI cJ cZ cMic cSrc cSt cAI cAJ D ad T (As) post) (cw : CallB R s args own index y bytes maxL ret ws { frames := fr, cells := 0, slots := 0, locals := lo } 0 0 n ∧ (Cond.static y).before args s = true) (hn : As.length = n) (hsz : ls.size = nL) {st : List Value} (hst : st = As.reverse ++ rest) (hW : 2 * (F0 m pc ls st).monitorRoom + (rest.map fun v => v.category).sum ≤ 8) (hdg : decode cc0 pc = .ok (.invokestatic index, 3)) (hf : cells + 0 ≤ R.cells ∧ slots + 0 ≤ R.slots) (kk : ∀ (T1 : AT) (H1 : Heap) (locs1 : List Loc), post T1 → gC cI cJ cZ cMic cSrc cSt cAI cAJ D ad A s.heap H1 locs1 T1 → W p l e R s m args below meth c H1 locs1 (cells + 0) (slots + 0) Q (F0 m (pc + 3) ls rest)) : W p l e R s m args below meth c H locs cells slots Q (F0 m pc ls st) := by
  obtain ⟨hx, hb, hts, hown, hK⟩ := E
  obtain ⟨hP, hD, hS⟩ := G
  have hFc := va_free (wc := cW ad T.1 (cc cI cJ cZ cMic cSrc cSt cAI cAJ ad T)) hD hS hA (List.range T.1) (cW_all ad T.1 (cc cI cJ cZ cMic cSrc cSt cAI cAJ ad T))
  refine va_callv (va_runS (As := As) (rest := rest) ⟨hx, hb, hml, hown, hts⟩ (hM H.size) cw ⟨fun a U g mk q => by obtain ⟨q0, q1, qP, qK, qD, qX, qN⟩ := q; exact ⟨q0, q1, qP, va_K.moved (u := U) (U := U.calling g mk a) (Vm.Alike.refl U.vm) qK, qD, qX.blind, nX.moved U (U.calling g mk a) (State.WarmedH.refl U) qN⟩, fun U hU hW => ⟨rfl, by rw [hU], by rw [hU]; exact hP, va_K.moved hW.alike hK, hD.weaken (fun _ _ _ _ => trivial), hX.go hW hU hS hFc, nX.moved s U hW hN⟩⟩ rfl hn hsz hst hW hdg hf) hS (fun q _ h => hFc q h) hFc (fun u t H1 locs1 ht hvm hw hB hz1 hk1 hS => ?_)
  obtain ⟨hP1, hK1, hD1⟩ := hB
  rw [ht] at hP1
  obtain ⟨hP2, hD2⟩ := va_join (wr := []) (w1 := cW ad u.1 (cc cI cJ cZ cMic cSrc cSt cAI cAJ ad u)) hP hD (List.range T.1) [] (cW_all ad T.1 (cc cI cJ cZ cMic cSrc cSt cAI cAJ ad T)) rfl rfl (fun i hi => absurd hi List.not_mem_nil) hk1 hFc hP1 hD1
  exact kk u H1 locs1 hw ⟨hP2, hD2, hS⟩
/-- Met.ofW where the class is one whose rows the machine has of its own (java/lang/Math), the method not -/
theorem met_ofF {l : Launch} {y : MethodName} {ws ws' : List Cond} {rm : Room} {Pc : Array Value → State → Prop} {Qc : Array Value → State → Outcome → State → Prop} {mc ms : Nat} {free : Addr → Prop} {cc : ByteArray} {maxL : Nat} {ret : Option FieldType} (hy : plainFor y = true) (hw : ws = Cond.code y cc maxL ret :: ws') (body : ∀ p e s m args below meth c s₁, BodyLoose p l y (headSpec ws rm) cc maxL ret e s m args below meth c s₁ → c.maxLocals = maxL → Pc args s → W p l e (headSpec ws rm).room s m args below meth c s.heap [] 0 0 (MQ below Qc args s mc ms free) (entryFrame m args maxL)) : Met l y ws rm Pc Qc mc ms free := by
  refine MetFree.of_bodySF (code := cc) (maxLocals := maxL) (ret := ret) hy (fun args s m h hn => ?_) (fun p e s m args below meth c s₁ B hml hP _ => ?_)
  · obtain ⟨meth, c, h1, h2, h3, h4, h5, h6, -, -⟩ := Cond.code_spec hn (atoms_spec (ws := ws) h _ (by rw [hw]; exact List.mem_cons_self))
    exact ⟨meth, c, h1, h2, h3, h4, h5, h6⟩
  · have hh0 : s₁.heap = s.heap := by rw [B.state]; rfl
    obtain ⟨t, a1, o, b1, b2, b3⟩ := body p e s m args below meth c s₁ B hml hP s₁ hh0 (Stand.of_body B)
    exact ⟨t, o, a1, b1, b2, ⟨b3.1, b3.2⟩⟩
/-- no cell is made, none gets another kind, no reference is written -/
def SP (T T1 : AT) : Prop := T1.1 = T.1 ∧ T1.2.1 = T.2.1 ∧ T1.2.2.2.2 = T.2.2.2.2
theorem SP.rf (T : AT) : SP T T := ⟨rfl, rfl, rfl⟩
theorem SP.tr {T T1 T2 : AT} (h : SP T T1) (k : SP T1 T2) : SP T T2 := ⟨k.1.trans h.1, k.2.1.trans h.2.1, k.2.2.trans h.2.2⟩
theorem sp_uI {T : AT} {n k : Nat} {v : Int32} : SP T (uI T n k v) := ⟨rfl, rfl, rfl⟩
theorem sp_uJ {T : AT} {n k : Nat} {v : Int64} : SP T (uJ T n k v) := ⟨rfl, rfl, rfl⟩
theorem oif_or {β : Type} {c : Prop} [Decidable c] {x z : Option β} {y : β} (h : (if c then x else z) = some y) : (c ∧ x = some y) ∨ (¬ c ∧ z = some y) := by
  by_cases hc : c
  · rw [if_pos hc] at h
    exact .inl ⟨hc, h⟩
  · rw [if_neg hc] at h
    exact .inr ⟨hc, h⟩
def uC (T : AT) (a b k : Nat) : AT := (T.1, T.2.1, T.2.2.1, va_up T.2.2.2.1 b (va_cpy (T.2.2.2.1 a) (T.2.2.2.1 b) 0 0 k), T.2.2.2.2)
theorem sp_uC {T : AT} {a b k : Nat} : SP T (uC T a b k) := ⟨rfl, rfl, rfl⟩
theorem q_copyl {p : Program} {l : Launch} {e : Env} {R : Room} {s : State} {m : MethodId} {args : Array Value} {below : List Frame} {meth : Method} {c : Code} {H : Heap} {locs : List Loc} {cells slots : Nat} {Q : State → Prop} {cc0 : ByteArray} {pc : Nat} {ls : Array Slot} {rest : List Value} {D : va_G} {A : Nat → Prop} {Ts : List Cond} {own : String} {cI cJ cZ cMic cSrc cSt cAI cAJ : ClassId} {ad : Nat → Nat} {T : AT} (E : cE p c cc0 s m args Ts D own (CT cI cJ cZ cMic cSrc cSt cAI cAJ)) (G : gC cI cJ cZ cMic cSrc cSt cAI cAJ D ad A s.heap H locs T) (a b : Nat) {n : Int32} {index : Nat} (ha : a < T.1) (hb2 : b < T.1) (ka : (T.2.1 a).1 = 101) (kb : (T.2.1 b).1 = 101) (hn : 0 ≤ n) (h4 : n.toNatClampNeg ≤ (T.2.1 a).2) (h5 : n.toNatClampNeg ≤ (T.2.1 b).2) (hml : c.maxLocals = ls.size) (hlink : (Cond.methodLink own index arraycopyName).before args s = true) (hnat : (Cond.native arraycopyName).before args s = true) (hstat : (Cond.static arraycopyName).before args s = true) (hini : (Cond.initialized "java/lang/System").before args s = true) (hframes : 1 ≤ R.frames) (hlocals : (rest.map fun v => v.category).sum + (nativeFrameWords "java/lang/System" "arraycopy" 5 + 11) ≤ R.locals) (hdg : decode cc0 pc = .ok (.invokestatic index, 3)) (kk : ∀ (H1 : Heap) (locs1 : List Loc), gC cI cJ cZ cMic cSrc cSt cAI cAJ D ad A s.heap H1 locs1 (uC T a b n.toNatClampNeg) → W p l e R s m args below meth c H1 locs1 cells slots Q (F0 m (pc + 3) ls rest)) : W p l e R s m args below meth c H locs cells slots Q (F0 m pc ls (.int n :: .int 0 :: .ref (ad b) :: .int 0 :: .ref (ad a) :: rest)) := by
  refine va_copyl E.1 E.2.1 hml E.2.2.2.1 hlink hnat hstat hini E.2.2.2.2 G.1 G.2.1 G.2.2 a b 1 1 (cW_e ha (cc_a101 ka)) (cW_e hb2 (cc_a101 kb)) rfl rfl rfl (by decide) (by decide) (Int32.not_lt.mpr hn) (by show 0 + _ ≤ _; omega) (by show 0 + _ ≤ _; omega) (fun _ _ => rfl) hframes hlocals hdg (fun H1 locs1 h1 h2 h3 => kk H1 locs1 ?_)
  have e := cW_set (ad := ad) (S := cc cI cJ cZ cMic cSrc cSt cAI cAJ ad T) (e := (.inl (cJ, (T.2.1 b).2, .inr (.inl (va_cpy (T.2.2.2.1 a) (T.2.2.2.1 b) 0 0 n.toNatClampNeg))) : va_E)) hb2
  rw [show (0 : Int32).toNatClampNeg = 0 from by decide] at h1 h2
  rw [e] at h1 h2
  exact gC_up_j (f := va_cpy (T.2.2.2.1 a) (T.2.2.2.1 b) 0 0 n.toNatClampNeg) (ccv_101 kb) ⟨h1, h2, h3⟩
def RC (T : AT) : Prop := ∀ n k q, T.2.2.2.2 n k = some q → q < T.1
def newJ (T : AT) (K : Nat) : AT := (T.1 + 1, va_up T.2.1 T.1 (101, K), T.2.2.1, va_up T.2.2.2.1 T.1 (fun _ => 0), T.2.2.2.2)
def sgA (f : Nat → Nat × Nat) : Nat → Nat
  | 0 => 0
  | n + 1 => sgA f n + (f n).2
def sg (T : AT) : Nat := sgA T.2.1 T.1
def GL (T T1 : AT) : Prop := T.1 ≤ T1.1 ∧ (∀ n, n < T.1 → T1.2.1 n = T.2.1 n) ∧ (RC T → RC T1)
theorem GL.rf (T : AT) : GL T T := ⟨Nat.le_refl _, fun _ _ => rfl, fun h => h⟩
theorem GL.tr {T T1 T2 : AT} (h : GL T T1) (k : GL T1 T2) : GL T T2 := ⟨Nat.le_trans h.1 k.1, fun n hn => (k.2.1 n (Nat.lt_of_lt_of_le hn h.1)).trans (h.2.1 n hn), fun q => k.2.2 (h.2.2 q)⟩
theorem gl_sp {T T1 : AT} (h : SP T T1) : GL T T1 := ⟨Nat.le_of_eq h.1.symm, fun n _ => congrFun h.2.1 n, fun q n k x hx => by rw [h.1]; exact q n k x (by rw [← h.2.2]; exact hx)⟩
theorem gl_uR {T : AT} {n k x : Nat} (hx : x < T.1) : GL T (uR T n k x) := by
  refine ⟨Nat.le_refl _, fun _ _ => rfl, fun q m j y hy => ?_⟩
  show y < T.1
  have hy : va_up T.2.2.2.2 n (va_up (T.2.2.2.2 n) k (some x)) m j = some y := hy
  by_cases e : m = n
  · subst e
    rw [va_up_self] at hy
    by_cases e2 : j = k
    · subst e2
      rw [va_up_self] at hy
      cases hy
      exact hx
    · rw [va_up_ne _ _ e2] at hy
      exact q m j y hy
  · rw [va_up_ne _ _ e] at hy
    exact q m j y hy
theorem gl_newJ {T : AT} {K : Nat} : GL T (newJ T K) := ⟨Nat.le_succ _, fun n hn => va_up_ne T.2.1 _ (Nat.ne_of_lt hn), fun q n k x hx => Nat.lt_succ_of_lt (q n k x hx)⟩
theorem sgA_congr {f g : Nat → Nat × Nat} : ∀ N, (∀ n, n < N → f n = g n) → sgA f N = sgA g N
  | 0, _ => rfl
  | N + 1, h => by
    show sgA f N + (f N).2 = sgA g N + (g N).2
    rw [sgA_congr N (fun n hn => h n (Nat.lt_succ_of_lt hn)), h N (Nat.lt_succ_self N)]
theorem sgA_mono {f : Nat → Nat × Nat} {a b : Nat} (h : a ≤ b) : sgA f a ≤ sgA f b := by
  induction h with
  | refl => exact Nat.le_refl _
  | step _ ih => exact Nat.le_trans ih (Nat.le_add_right _ _)
theorem sg_le {T T1 : AT} (h : GL T T1) : sg T ≤ sg T1 := by
  unfold sg
  rw [← sgA_congr T.1 h.2.1]
  exact sgA_mono h.1
theorem sg_newJ {T : AT} {K : Nat} : sg (newJ T K) = sg T + K := by
  show sgA (va_up T.2.1 T.1 (101, K)) T.1 + (va_up T.2.1 T.1 (101, K) T.1).2 = sg T + K
  rw [va_up_self, sgA_congr (g := T.2.1) T.1 (fun n hn => va_up_ne T.2.1 _ (Nat.ne_of_lt hn))]
  rfl
def CPR (Tb T : AT) : Prop := T.1 = Tb.1 ∧ T.2.1 = Tb.2.1 ∧ RC T
theorem cpr0 {T : AT} (h : RC T) : CPR T T := ⟨rfl, rfl, h⟩
theorem cpr_sp {Tb T T2 : AT} (h : CPR Tb T) (k : SP T T2) : CPR Tb T2 := ⟨k.1.trans h.1, k.2.1.trans h.2.1, (gl_sp k).2.2 h.2.2⟩
theorem cpr_uR {Tb T : AT} {n k x : Nat} (h : CPR Tb T) (hx : x < T.1) : CPR Tb (uR T n k x) := ⟨h.1, h.2.1, (gl_uR hx).2.2 h.2.2⟩
theorem sg_cpr {Tb T : AT} (h : CPR Tb T) : sg T = sg Tb := by
  unfold sg
  rw [h.1, h.2.1]
theorem gl_cpr {T0 Tb T : AT} (h : GL T0 Tb) (k : CPR Tb T) : GL T0 T := ⟨by rw [k.1]; exact h.1, fun n hn => by rw [k.2.1]; exact h.2.1 n hn, fun _ => k.2.2⟩
theorem cs_ok {T0 T T1 : AT} (_ : GL T0 T) (k : GL T T1) : (T.1 - T0.1) + 0 ≤ T1.1 - T0.1 ∧ (sg T - sg T0) + 0 ≤ sg T1 - sg T0 := ⟨Nat.sub_le_sub_right k.1 _, Nat.sub_le_sub_right (sg_le k) _⟩
theorem cs_okx {T0 T T1 : AT} (h : GL T0 T) (k : GL T T1) : (T.1 - T0.1) + 0 ≤ T1.1 - T0.1 + 1 ∧ (sg T - sg T0) + 0 ≤ sg T1 - sg T0 + 6 := ⟨Nat.le_trans (cs_ok h k).1 (Nat.le_add_right _ _), Nat.le_trans (cs_ok h k).2 (Nat.le_add_right _ _)⟩
theorem cs_okx1 {T0 T T1 : AT} (h : GL T0 T) (k : GL T T1) : (T.1 - T0.1) + 1 ≤ T1.1 - T0.1 + 1 ∧ (sg T - sg T0) + 6 ≤ sg T1 - sg T0 + 6 := ⟨Nat.add_le_add_right (cs_ok h k).1 _, Nat.add_le_add_right (cs_ok h k).2 _⟩
theorem cs_new {T0 Tb T T1 T2 : AT} {K : Nat} (h : GL T0 Tb) (c : CPR Tb T) (k : GL T2 T1) (e1 : T2.1 = T.1 + 1) (e2 : sg T2 = sg T + K) : (Tb.1 - T0.1) + 1 ≤ T1.1 - T0.1 ∧ (sg Tb - sg T0) + K ≤ sg T1 - sg T0 := by
  have a := h.1
  have b := k.1
  have c1 := sg_le h
  have d := sg_le k
  have x := c.1
  have y := sg_cpr c
  exact ⟨by omega, by omega⟩
theorem cs_e1 {T0 Tb T T2 : AT} (h : GL T0 Tb) (c : CPR Tb T) (e1 : T2.1 = T.1 + 1) : (Tb.1 - T0.1) + 1 = T2.1 - T0.1 := by
  have a := h.1
  have x := c.1
  omega
theorem cs_e2 {T0 Tb T T2 : AT} {K : Nat} (h : GL T0 Tb) (c : CPR Tb T) (e2 : sg T2 = sg T + K) : (sg Tb - sg T0) + K = sg T2 - sg T0 := by
  have a := sg_le h
  have x := sg_cpr c
  omega
theorem cs_f1 {T0 Tb T T2 : AT} (h : GL T0 Tb) (c : CPR Tb T) (g : GL T T2) : (Tb.1 - T0.1) + (T2.1 - T.1) = T2.1 - T0.1 := by
  have a := h.1
  have x := c.1
  have y := g.1
  omega
theorem cs_f2 {T0 Tb T T2 : AT} (h : GL T0 Tb) (c : CPR Tb T) (g : GL T T2) : (sg Tb - sg T0) + (sg T2 - sg T) = sg T2 - sg T0 := by
  have a := sg_le h
  have x := sg_cpr c
  have y := sg_le g
  omega
theorem cs_av {T0 Tb T T1 T2 : AT} (h : GL T0 Tb) (c : CPR Tb T) (g : GL T T2) (k : GL T2 T1) : (Tb.1 - T0.1) + (T2.1 - T.1) ≤ T1.1 - T0.1 ∧ (sg Tb - sg T0) + (sg T2 - sg T) ≤ sg T1 - sg T0 := by
  rw [cs_f1 h c g, cs_f2 h c g]
  exact ⟨Nat.sub_le_sub_right k.1 _, Nat.sub_le_sub_right (sg_le k) _⟩
theorem cs_avx {T0 Tb T T1 T2 : AT} (h : GL T0 Tb) (c : CPR Tb T) (g : GL T T2) (k : GL T2 T1) : (Tb.1 - T0.1) + (T2.1 - T.1) ≤ T1.1 - T0.1 + 1 ∧ (sg Tb - sg T0) + (sg T2 - sg T) ≤ sg T1 - sg T0 + 6 := ⟨Nat.le_trans (cs_av h c g k).1 (Nat.le_add_right _ _), Nat.le_trans (cs_av h c g k).2 (Nat.le_add_right _ _)⟩
theorem w_cast {p : Program} {l : Launch} {e : Env} {R : Room} {s : State} {m : MethodId} {args : Array Value} {below : List Frame} {meth : Method} {c : Code} {H : Heap} {locs : List Loc} {Q : State → Prop} {g : JFrame} {c1 c2 s1 s2 : Nat} (hc : c1 = c2) (hs : s1 = s2) (k : W p l e R s m args below meth c H locs c2 s2 Q g) : W p l e R s m args below meth c H locs c1 s1 Q g := by
  subst hc
  subst hs
  exact k
theorem w_st {p : Program} {l : Launch} {e : Env} {R : Room} {s : State} {m : MethodId} {args : Array Value} {below : List Frame} {meth : Method} {c : Code} {H : Heap} {locs : List Loc} {cells slots : Nat} {Q : State → Prop} {pc : Nat} {ls : Array Slot} {st1 st2 : List Value} (h : st1 = st2) (k : W p l e R s m args below meth c H locs cells slots Q (F0 m pc ls st2)) : W p l e R s m args below meth c H locs cells slots Q (F0 m pc ls st1) := by
  subst h
  exact k
theorem map_up {ad : Nat → Nat} {f : Nat → Option Nat} {k x : Nat} : (fun i => (va_up f k (some x) i).map ad) = va_up (fun i => (f i).map ad) k (some (ad x)) := by
  funext i
  by_cases q : i = k
  · subst q
    rw [va_up_self, va_up_self]
    rfl
  · rw [va_up_ne _ _ q, va_up_ne _ _ q]
theorem ccv_ad {cI cJ cZ cMic cSrc cSt cAI cAJ : ClassId} {ad : Nat → Nat} {ad2 : Nat → Nat} {sh : Nat × Nat} {vi : Nat → Int32} {vj : Nat → Int64} {vr : Nat → Option Nat} (h : ∀ k q, vr k = some q → ad2 q = ad q) : ccv cI cJ cZ cMic cSrc cSt cAI cAJ ad2 sh vi vj vr = ccv cI cJ cZ cMic cSrc cSt cAI cAJ ad sh vi vj vr := by
  have e : (fun k => (vr k).map ad2) = fun k => (vr k).map ad := by
    funext k
    cases hk : vr k with
    | none => rfl
    | some q => exact congrArg some (h k q hk)
  have e1 : ∀ k, (vr k).map ad2 = (vr k).map ad := fun k => congrFun e k
  unfold ccv
  simp only [e1]
theorem gC_new {cI cJ cZ cMic cSrc cSt cAI cAJ : ClassId} {ad : Nat → Nat} {D : va_G} {A : Nat → Prop} {H0 H : Heap} {locs : List Loc} {T : AT} {q K : Nat} (hrc : RC T) (G : cG D (cat T.1 ad (fun _ => q)) (T.1 + 1) A H0 H locs (cat T.1 (cc cI cJ cZ cMic cSrc cSt cAI cAJ ad T) (fun _ => .inl (cJ, K, .inr (.inl (fun _ => 0)))))) : gC cI cJ cZ cMic cSrc cSt cAI cAJ D (cat T.1 ad (fun _ => q)) A H0 H locs (newJ T K) := by
  have e : cW (cat T.1 ad (fun _ => q)) (T.1 + 1) (cat T.1 (cc cI cJ cZ cMic cSrc cSt cAI cAJ ad T) (fun _ => .inl (cJ, K, .inr (.inl (fun _ => 0))))) = cW (cat T.1 ad (fun _ => q)) (T.1 + 1) (cc cI cJ cZ cMic cSrc cSt cAI cAJ (cat T.1 ad (fun _ => q)) (newJ T K)) := by
    refine cW_congr (fun n hn => ?_)
    unfold cc
    show _ = ccv cI cJ cZ cMic cSrc cSt cAI cAJ (cat T.1 ad (fun _ => q)) (va_up T.2.1 T.1 (101, K) n) (T.2.2.1 n) (va_up T.2.2.2.1 T.1 (fun _ => 0) n) (T.2.2.2.2 n)
    rw [ccv_ad (ad2 := cat T.1 ad (fun _ => q)) (ad := ad) (fun k x hx => cat_lo (hrc n k x hx))]
    rcases Nat.lt_or_eq_of_le (Nat.le_of_lt_succ hn) with h1 | rfl
    · rw [cat_lo h1]
      show ccv cI cJ cZ cMic cSrc cSt cAI cAJ ad (T.2.1 n) (T.2.2.1 n) (T.2.2.2.1 n) (T.2.2.2.2 n) = ccv cI cJ cZ cMic cSrc cSt cAI cAJ ad (va_up T.2.1 T.1 (101, K) n) (T.2.2.1 n) (va_up T.2.2.2.1 T.1 (fun _ => 0) n) (T.2.2.2.2 n)
      rw [va_up_ne _ _ (Nat.ne_of_lt h1), va_up_ne _ _ (Nat.ne_of_lt h1)]
    · rw [cat_hi (Nat.le_refl _)]
      show _ = ccv cI cJ cZ cMic cSrc cSt cAI cAJ ad (va_up T.2.1 T.1 (101, K) T.1) (T.2.2.1 T.1) (va_up T.2.2.2.1 T.1 (fun _ => 0) T.1) (T.2.2.2.2 T.1)
      rw [va_up_self, va_up_self, ccv_101 rfl]
  obtain ⟨h1, h2, h3⟩ := G
  rw [e] at h1 h2
  exact ⟨h1, h2, h3⟩
def exn (e : Nat) : String := match e with
  | 0 => xISE
  | 1 => xIOB
  | _ => xIAE
def othr {α β : Type} (x : Option (Nat × α × AT)) (z : β) (f : α → AT → Option (Nat × β × AT)) : Option (Nat × β × AT) := match x with
  | none => none
  | some (0, r, T) => f r T
  | some (k + 1, _, T) => some (k + 1, z, T)
theorem osome3 {α β γ : Type} {a b : α} {x y : β} {u v : γ} (h : some (a, x, u) = some (b, y, v)) : a = b ∧ x = y ∧ u = v := ⟨congrArg Prod.fst (Option.some.inj h), congrArg (fun q => q.2.1) (Option.some.inj h), congrArg (fun q => q.2.2) (Option.some.inj h)⟩
theorem othr_n {α β : Type} {x : Option (Nat × α × AT)} {z : β} {f : α → AT → Option (Nat × β × AT)} {r1 : β} {T1 : AT} (h : othr x z f = some (0, r1, T1)) : ∃ r T, x = some (0, r, T) ∧ f r T = some (0, r1, T1) := by
  match x, h with
  | none, h => cases h
  | some (0, r, T), h => exact ⟨r, T, rfl, h⟩
  | some (k + 1, r, T), h => exact (Nat.succ_ne_zero _ (congrArg Prod.fst (Option.some.inj h))).elim
theorem othr_s {α β : Type} {x : Option (Nat × α × AT)} {z : β} {f : α → AT → Option (Nat × β × AT)} {e1 : Nat} {r1 : β} {T1 : AT} (h : othr x z f = some (e1, r1, T1)) : (∃ k r, x = some (k, r, T1) ∧ e1 = k) ∨ ∃ r T, x = some (0, r, T) ∧ f r T = some (e1, r1, T1) := by
  match x, h with
  | none, h => cases h
  | some (0, r, T), h => exact .inr ⟨r, T, rfl, h⟩
  | some (k + 1, r, T), h =>
    have h := osome3 h
    refine .inl ⟨k + 1, r, ?_, h.1.symm⟩
    rw [h.2.2]
theorem othr_t {α β : Type} {x : Option (Nat × α × AT)} {z : β} {f : α → AT → Option (Nat × β × AT)} {e1 : Nat} {r1 : β} {T1 : AT} (h : othr x z f = some (e1 + 1, r1, T1)) : (∃ r, x = some (e1 + 1, r, T1)) ∨ ∃ r T, x = some (0, r, T) ∧ f r T = some (e1 + 1, r1, T1) := by
  match x, h with
  | none, h => cases h
  | some (0, r, T), h => exact .inr ⟨r, T, rfl, h⟩
  | some (k + 1, r, T), h =>
    have h := osome3 h
    refine .inl ⟨r, ?_⟩
    rw [h.1, h.2.2]
abbrev kCr (l : Launch) (y : MethodName) (ws : List Cond) (fr lo : Nat) (cI cJ cZ cMic cSrc cSt cAI cAJ : ClassId) (D : va_G) (ad : Nat → Nat) (T : AT) (As : List Value) (post : AT → Prop) (n1 : Nat) : Prop := ∀ sz : Nat, Met l y ws { frames := fr, cells := 0, slots := 0, locals := lo } (va_Pc As (kB cI cJ cZ cMic cSrc cSt cAI cAJ D ad T sz)) (va_Qr post (fun u a t => a = ad n1 ∧ kAt cI cJ cZ cMic cSrc cSt cAI cAJ D ad (va_A (cW ad T.1 (cc cI cJ cZ cMic cSrc cSt cAI cAJ ad T)) sz) u t) (va_A (cW ad T.1 (cc cI cJ cZ cMic cSrc cSt cAI cAJ ad T)) sz)) 0 0 (va_A (cW ad T.1 (cc cI cJ cZ cMic cSrc cSt cAI cAJ ad T)) sz)
theorem q_cvr {p : Program} {l : Launch} {e : Env} {R : Room} {s : State} {m : MethodId} {args : Array Value} {below : List Frame} {meth : Method} {c : Code} {H : Heap} {locs : List Loc} {cells slots : Nat} {Q : State → Prop} {cc0 : ByteArray} {pc : Nat} {ls : Array Slot} {rest : List Value} {D : va_G} {A : Nat → Prop} {Ts : List Cond} {own : String} {cI cJ cZ cMic cSrc cSt cAI cAJ : ClassId} {ad : Nat → Nat} {T : AT} {y : MethodName} {bytes : ByteArray} {maxL nL n index fr lo : Nat} {ret : Option FieldType} {ws : List Cond} {As : List Value} {C : String} {TT : u_T} {nf ci q n1 : Nat} {fs : List Value} {post : AT → Prop} (E : cE p c cc0 s m args Ts D own (CT cI cJ cZ cMic cSrc cSt cAI cAJ)) (G : gC cI cJ cZ cMic cSrc cSt cAI cAJ D ad A s.heap H locs T) (hA : ∀ q, s.heap.size ≤ q → A q) (hX : xT A s) (hN : nX s) (hml : c.maxLocals = nL) (hM : kCr l y ws fr lo cI cJ cZ cMic cSrc cSt cAI cAJ D ad T (.ref (ad q) :: As) post n1) (cw : CallW R s args own C index y bytes maxL ret ws { frames := fr, cells := 0, slots := 0, locals := lo } 0 0 n) (hq : q < T.1) (hSq : cc cI cJ cZ cMic cSrc cSt cAI cAJ ad T q = .inr (ci, fs)) (hc : vwCl[ci]? = some (C, TT, nf)) (hn : As.length = n) (hsz : ls.size = nL) {st : List Value} (hst : st = As.reverse ++ .ref (ad q) :: rest) (hW : 2 * (F0 m pc ls st).monitorRoom + (rest.map fun v => v.category).sum ≤ 8) (hdg : decode cc0 pc = .ok (.invokevirtual index, 3)) (hf : cells + 0 ≤ R.cells ∧ slots + 0 ≤ R.slots) (kk : ∀ (T1 : AT) (H1 : Heap) (locs1 : List Loc), post T1 → gC cI cJ cZ cMic cSrc cSt cAI cAJ D ad A s.heap H1 locs1 T1 → W p l e R s m args below meth c H1 locs1 (cells + 0) (slots + 0) Q (F0 m (pc + 3) ls (.ref (ad n1) :: rest))) : W p l e R s m args below meth c H locs cells slots Q (F0 m pc ls st) := by
  obtain ⟨hx, hb, hts, hown, hK⟩ := E
  obtain ⟨hP, hD, hS⟩ := G
  have hFc := va_free (wc := cW ad T.1 (cc cI cJ cZ cMic cSrc cSt cAI cAJ ad T)) hD hS hA (List.range T.1) (cW_all ad T.1 (cc cI cJ cZ cMic cSrc cSt cAI cAJ ad T))
  refine va_callr (va_runV (As := As) (rest := rest) ⟨hx, hb, hml, hown, hts⟩ (hM H.size) cw ⟨fun a U g mk q => by obtain ⟨q0, q1, qP, qK, qD, qX, qN⟩ := q; exact ⟨q0, q1, qP, va_K.moved (u := U) (U := U.calling g mk a) (Vm.Alike.refl U.vm) qK, qD, qX.blind, nX.moved U (U.calling g mk a) (State.WarmedH.refl U) qN⟩, va_recv hK hP (ci := ci) (q0 := q) hc (cW_e hq hSq), fun U hU hW => ⟨rfl, by rw [hU], by rw [hU]; exact hP, va_K.moved hW.alike hK, hD.weaken (fun _ _ _ _ => trivial), hX.go hW hU hS hFc, nX.moved s U hW hN⟩⟩ rfl hn hsz hst hW hdg hf) hS (fun q _ h => hFc q h) hFc (fun u ra t H1 locs1 ht hvm hw hB hz1 hk1 hS => ?_)
  obtain ⟨ha, hP1, hK1, hD1⟩ := hB
  rw [ht] at hP1
  rw [ha]
  obtain ⟨hP2, hD2⟩ := va_join (wr := []) (w1 := cW ad u.1 (cc cI cJ cZ cMic cSrc cSt cAI cAJ ad u)) hP hD (List.range T.1) [] (cW_all ad T.1 (cc cI cJ cZ cMic cSrc cSt cAI cAJ ad T)) rfl rfl (fun i hi => absurd hi List.not_mem_nil) hk1 hFc hP1 hD1
  exact kk u H1 locs1 hw ⟨hP2, hD2, hS⟩
abbrev kXi (l : Launch) (y : MethodName) (ws : List Cond) (fr lo : Nat) (cI cJ cZ cMic cSrc cSt cAI cAJ : ClassId) (D : va_G) (ad : Nat → Nat) (T : AT) (As : List Value) (e1 : Nat) (T1 : AT) : Prop := ∀ sz : Nat, vx_Met l y ws { frames := fr, cells := 1, slots := 6, locals := lo } (va_Pc As (kB cI cJ cZ cMic cSrc cSt cAI cAJ D ad T sz)) (va_Qi (fun (_ : Int32) (_ : AT) => False) (kAt cI cJ cZ cMic cSrc cSt cAI cAJ D ad (va_A (cW ad T.1 (cc cI cJ cZ cMic cSrc cSt cAI cAJ ad T)) sz)) (va_A (cW ad T.1 (cc cI cJ cZ cMic cSrc cSt cAI cAJ ad T)) sz)) (vx_X (fun _ => True) (fun E u t => (E = exn e1 ∧ u = T1) ∧ kAt cI cJ cZ cMic cSrc cSt cAI cAJ D ad (va_A (cW ad T.1 (cc cI cJ cZ cMic cSrc cSt cAI cAJ ad T)) sz) u t) (va_A (cW ad T.1 (cc cI cJ cZ cMic cSrc cSt cAI cAJ ad T)) sz)) 1 6 (va_A (cW ad T.1 (cc cI cJ cZ cMic cSrc cSt cAI cAJ ad T)) sz)
theorem q_xvi {p : Program} {l : Launch} {e : Env} {R : Room} {s : State} {m : MethodId} {args : Array Value} {below : List Frame} {meth : Method} {c : Code} {H : Heap} {locs : List Loc} {cells slots : Nat} {Q : State → Prop} {cc0 : ByteArray} {pc : Nat} {ls : Array Slot} {rest : List Value} {D : va_G} {A : Nat → Prop} {Ts : List Cond} {own : String} {cI cJ cZ cMic cSrc cSt cAI cAJ : ClassId} {ad : Nat → Nat} {T : AT} {y : MethodName} {bytes : ByteArray} {maxL nL n index fr lo : Nat} {ret : Option FieldType} {ws : List Cond} {As : List Value} {C : String} {TT : u_T} {nf ci q : Nat} {fs : List Value} {e1 : Nat} {T1 : AT} (E : cE p c cc0 s m args Ts D own (CT cI cJ cZ cMic cSrc cSt cAI cAJ)) (G : gC cI cJ cZ cMic cSrc cSt cAI cAJ D ad A s.heap H locs T) (hA : ∀ q, s.heap.size ≤ q → A q) (hX : xT A s) (hN : nX s) (hml : c.maxLocals = nL) (hM : kXi l y ws fr lo cI cJ cZ cMic cSrc cSt cAI cAJ D ad T (.ref (ad q) :: As) e1 T1) (cw : CallW R s args own C index y bytes maxL ret ws { frames := fr, cells := 1, slots := 6, locals := lo } 1 6 n) (hq : q < T.1) (hSq : cc cI cJ cZ cMic cSrc cSt cAI cAJ ad T q = .inr (ci, fs)) (hc : vwCl[ci]? = some (C, TT, nf)) (hn : As.length = n) (hsz : ls.size = nL) {st : List Value} (hst : st = As.reverse ++ .ref (ad q) :: rest) (hW : 2 * (F0 m pc ls st).monitorRoom + (rest.map fun v => v.category).sum ≤ 8) (hdg : decode cc0 pc = .ok (.invokevirtual index, 3)) (hf : cells + 1 ≤ R.cells ∧ slots + 6 ≤ R.slots) (kx : ∀ (E9 : String) (ce : Cell) (q9 : Addr) (T9 : AT) (H1 : Heap) (locs1 : List Loc), E9 = exn e1 ∧ T9 = T1 → gC cI cJ cZ cMic cSrc cSt cAI cAJ D ad A s.heap H1 locs1 T9 → H1[q9]? = some ce → ce.vm = .none → s.vm.findClass E9 = some ce.cls → vx_W p l e R s m args below meth c H1 locs1 (cells + 1) (slots + 6) Q (F0 m pc ls rest) q9) : W p l e R s m args below meth c H locs cells slots Q (F0 m pc ls st) := by
  obtain ⟨hx, hb, hts, hown, hK⟩ := E
  obtain ⟨hP, hD, hS⟩ := G
  have hFc := va_free (wc := cW ad T.1 (cc cI cJ cZ cMic cSrc cSt cAI cAJ ad T)) hD hS hA (List.range T.1) (cW_all ad T.1 (cc cI cJ cZ cMic cSrc cSt cAI cAJ ad T))
  refine vx_calli (vx_runV (As := As) (rest := rest) ⟨hx, hb, hml, hown, hts⟩ (hM H.size) cw ⟨fun a U g mk q => by obtain ⟨q0, q1, qP, qK, qD, qX, qN⟩ := q; exact ⟨q0, q1, qP, va_K.moved (u := U) (U := U.calling g mk a) (Vm.Alike.refl U.vm) qK, qD, qX.blind, nX.moved U (U.calling g mk a) (State.WarmedH.refl U) qN⟩, va_recv hK hP (ci := ci) (q0 := q) hc (cW_e hq hSq), fun U hU hW => ⟨rfl, by rw [hU], by rw [hU]; exact hP, va_K.moved hW.alike hK, hD.weaken (fun _ _ _ _ => trivial), hX.go hW hU hS hFc, nX.moved s U hW hN⟩⟩ rfl hn hsz hst hW hdg hf) hS (fun q _ h => hFc q h) hFc (fun q _ h => hFc q h) (fun E9 ce q9 u t H1 locs1 ht hvm _ hB hz1 hk1 hS hce hcv hcl => ?_) (fun r u t H1 locs1 ht hvm hw hB hz1 hk1 hS => hw.elim)
  obtain ⟨hpx, hP1, hK1, hD1⟩ := hB
  rw [ht] at hP1
  obtain ⟨hP2, hD2⟩ := va_join (wr := []) (w1 := cW ad u.1 (cc cI cJ cZ cMic cSrc cSt cAI cAJ ad u)) hP hD (List.range T.1) [] (cW_all ad T.1 (cc cI cJ cZ cMic cSrc cSt cAI cAJ ad T)) rfl rfl (fun i hi => absurd hi List.not_mem_nil) hk1 hFc hP1 hD1
  exact kx E9 ce q9 u H1 locs1 hpx ⟨hP2, hD2, hS⟩ hce hcv hcl
abbrev kXv (l : Launch) (y : MethodName) (ws : List Cond) (fr lo : Nat) (cI cJ cZ cMic cSrc cSt cAI cAJ : ClassId) (D : va_G) (ad : Nat → Nat) (T : AT) (As : List Value) (e1 : Nat) (T1 : AT) : Prop := ∀ sz : Nat, vx_Met l y ws { frames := fr, cells := 1, slots := 6, locals := lo } (va_Pc As (kB cI cJ cZ cMic cSrc cSt cAI cAJ D ad T sz)) (va_Qv (fun (_ : AT) => False) (kAt cI cJ cZ cMic cSrc cSt cAI cAJ D ad (va_A (cW ad T.1 (cc cI cJ cZ cMic cSrc cSt cAI cAJ ad T)) sz)) (va_A (cW ad T.1 (cc cI cJ cZ cMic cSrc cSt cAI cAJ ad T)) sz)) (vx_X (fun _ => True) (fun E u t => (E = exn e1 ∧ u = T1) ∧ kAt cI cJ cZ cMic cSrc cSt cAI cAJ D ad (va_A (cW ad T.1 (cc cI cJ cZ cMic cSrc cSt cAI cAJ ad T)) sz) u t) (va_A (cW ad T.1 (cc cI cJ cZ cMic cSrc cSt cAI cAJ ad T)) sz)) 1 6 (va_A (cW ad T.1 (cc cI cJ cZ cMic cSrc cSt cAI cAJ ad T)) sz)
theorem q_xvv {p : Program} {l : Launch} {e : Env} {R : Room} {s : State} {m : MethodId} {args : Array Value} {below : List Frame} {meth : Method} {c : Code} {H : Heap} {locs : List Loc} {cells slots : Nat} {Q : State → Prop} {cc0 : ByteArray} {pc : Nat} {ls : Array Slot} {rest : List Value} {D : va_G} {A : Nat → Prop} {Ts : List Cond} {own : String} {cI cJ cZ cMic cSrc cSt cAI cAJ : ClassId} {ad : Nat → Nat} {T : AT} {y : MethodName} {bytes : ByteArray} {maxL nL n index fr lo : Nat} {ret : Option FieldType} {ws : List Cond} {As : List Value} {C : String} {TT : u_T} {nf ci q : Nat} {fs : List Value} {e1 : Nat} {T1 : AT} (E : cE p c cc0 s m args Ts D own (CT cI cJ cZ cMic cSrc cSt cAI cAJ)) (G : gC cI cJ cZ cMic cSrc cSt cAI cAJ D ad A s.heap H locs T) (hA : ∀ q, s.heap.size ≤ q → A q) (hX : xT A s) (hN : nX s) (hml : c.maxLocals = nL) (hM : kXv l y ws fr lo cI cJ cZ cMic cSrc cSt cAI cAJ D ad T (.ref (ad q) :: As) e1 T1) (cw : CallW R s args own C index y bytes maxL ret ws { frames := fr, cells := 1, slots := 6, locals := lo } 1 6 n) (hq : q < T.1) (hSq : cc cI cJ cZ cMic cSrc cSt cAI cAJ ad T q = .inr (ci, fs)) (hc : vwCl[ci]? = some (C, TT, nf)) (hn : As.length = n) (hsz : ls.size = nL) {st : List Value} (hst : st = As.reverse ++ .ref (ad q) :: rest) (hW : 2 * (F0 m pc ls st).monitorRoom + (rest.map fun v => v.category).sum ≤ 8) (hdg : decode cc0 pc = .ok (.invokevirtual index, 3)) (hf : cells + 1 ≤ R.cells ∧ slots + 6 ≤ R.slots) (kx : ∀ (E9 : String) (ce : Cell) (q9 : Addr) (T9 : AT) (H1 : Heap) (locs1 : List Loc), E9 = exn e1 ∧ T9 = T1 → gC cI cJ cZ cMic cSrc cSt cAI cAJ D ad A s.heap H1 locs1 T9 → H1[q9]? = some ce → ce.vm = .none → s.vm.findClass E9 = some ce.cls → vx_W p l e R s m args below meth c H1 locs1 (cells + 1) (slots + 6) Q (F0 m pc ls rest) q9) : W p l e R s m args below meth c H locs cells slots Q (F0 m pc ls st) := by
  obtain ⟨hx, hb, hts, hown, hK⟩ := E
  obtain ⟨hP, hD, hS⟩ := G
  have hFc := va_free (wc := cW ad T.1 (cc cI cJ cZ cMic cSrc cSt cAI cAJ ad T)) hD hS hA (List.range T.1) (cW_all ad T.1 (cc cI cJ cZ cMic cSrc cSt cAI cAJ ad T))
  refine vx_callv (vx_runV (As := As) (rest := rest) ⟨hx, hb, hml, hown, hts⟩ (hM H.size) cw ⟨fun a U g mk q => by obtain ⟨q0, q1, qP, qK, qD, qX, qN⟩ := q; exact ⟨q0, q1, qP, va_K.moved (u := U) (U := U.calling g mk a) (Vm.Alike.refl U.vm) qK, qD, qX.blind, nX.moved U (U.calling g mk a) (State.WarmedH.refl U) qN⟩, va_recv hK hP (ci := ci) (q0 := q) hc (cW_e hq hSq), fun U hU hW => ⟨rfl, by rw [hU], by rw [hU]; exact hP, va_K.moved hW.alike hK, hD.weaken (fun _ _ _ _ => trivial), hX.go hW hU hS hFc, nX.moved s U hW hN⟩⟩ rfl hn hsz hst hW hdg hf) hS (fun q _ h => hFc q h) hFc (fun q _ h => hFc q h) (fun E9 ce q9 u t H1 locs1 ht hvm _ hB hz1 hk1 hS hce hcv hcl => ?_) (fun u t H1 locs1 ht hvm hw hB hz1 hk1 hS => hw.elim)
  obtain ⟨hpx, hP1, hK1, hD1⟩ := hB
  rw [ht] at hP1
  obtain ⟨hP2, hD2⟩ := va_join (wr := []) (w1 := cW ad u.1 (cc cI cJ cZ cMic cSrc cSt cAI cAJ ad u)) hP hD (List.range T.1) [] (cW_all ad T.1 (cc cI cJ cZ cMic cSrc cSt cAI cAJ ad T)) rfl rfl (fun i hi => absurd hi List.not_mem_nil) hk1 hFc hP1 hD1
  exact kx E9 ce q9 u H1 locs1 hpx ⟨hP2, hD2, hS⟩ hce hcv hcl
theorem q_xsv {p : Program} {l : Launch} {e : Env} {R : Room} {s : State} {m : MethodId} {args : Array Value} {below : List Frame} {meth : Method} {c : Code} {H : Heap} {locs : List Loc} {cells slots : Nat} {Q : State → Prop} {cc0 : ByteArray} {pc : Nat} {ls : Array Slot} {rest : List Value} {D : va_G} {A : Nat → Prop} {Ts : List Cond} {own : String} {cI cJ cZ cMic cSrc cSt cAI cAJ : ClassId} {ad : Nat → Nat} {T : AT} {y : MethodName} {bytes : ByteArray} {maxL nL n index fr lo : Nat} {ret : Option FieldType} {ws : List Cond} {As : List Value} {e1 : Nat} {T1 : AT} (E : cE p c cc0 s m args Ts D own (CT cI cJ cZ cMic cSrc cSt cAI cAJ)) (G : gC cI cJ cZ cMic cSrc cSt cAI cAJ D ad A s.heap H locs T) (hA : ∀ q, s.heap.size ≤ q → A q) (hX : xT A s) (hN : nX s) (hml : c.maxLocals = nL) (hM : kXv l y ws fr lo cI cJ cZ cMic cSrc cSt cAI cAJ D ad T (As) e1 T1) (cw : CallB R s args own index y bytes maxL ret ws { frames := fr, cells := 1, slots := 6, locals := lo } 1 6 n ∧ (Cond.static y).before args s = true) (hn : As.length = n) (hsz : ls.size = nL) {st : List Value} (hst : st = As.reverse ++ rest) (hW : 2 * (F0 m pc ls st).monitorRoom + (rest.map fun v => v.category).sum ≤ 8) (hdg : decode cc0 pc = .ok (.invokestatic index, 3)) (hf : cells + 1 ≤ R.cells ∧ slots + 6 ≤ R.slots) (kx : ∀ (E9 : String) (ce : Cell) (q9 : Addr) (T9 : AT) (H1 : Heap) (locs1 : List Loc), E9 = exn e1 ∧ T9 = T1 → gC cI cJ cZ cMic cSrc cSt cAI cAJ D ad A s.heap H1 locs1 T9 → H1[q9]? = some ce → ce.vm = .none → s.vm.findClass E9 = some ce.cls → vx_W p l e R s m args below meth c H1 locs1 (cells + 1) (slots + 6) Q (F0 m pc ls rest) q9) : W p l e R s m args below meth c H locs cells slots Q (F0 m pc ls st) := by
  obtain ⟨hx, hb, hts, hown, hK⟩ := E
  obtain ⟨hP, hD, hS⟩ := G
  have hFc := va_free (wc := cW ad T.1 (cc cI cJ cZ cMic cSrc cSt cAI cAJ ad T)) hD hS hA (List.range T.1) (cW_all ad T.1 (cc cI cJ cZ cMic cSrc cSt cAI cAJ ad T))
  refine vx_callv (vx_runS (As := As) (rest := rest) ⟨hx, hb, hml, hown, hts⟩ (hM H.size) cw ⟨fun a U g mk q => by obtain ⟨q0, q1, qP, qK, qD, qX, qN⟩ := q; exact ⟨q0, q1, qP, va_K.moved (u := U) (U := U.calling g mk a) (Vm.Alike.refl U.vm) qK, qD, qX.blind, nX.moved U (U.calling g mk a) (State.WarmedH.refl U) qN⟩, fun U hU hW => ⟨rfl, by rw [hU], by rw [hU]; exact hP, va_K.moved hW.alike hK, hD.weaken (fun _ _ _ _ => trivial), hX.go hW hU hS hFc, nX.moved s U hW hN⟩⟩ rfl hn hsz hst hW hdg hf) hS (fun q _ h => hFc q h) hFc (fun q _ h => hFc q h) (fun E9 ce q9 u t H1 locs1 ht hvm _ hB hz1 hk1 hS hce hcv hcl => ?_) (fun u t H1 locs1 ht hvm hw hB hz1 hk1 hS => hw.elim)
  obtain ⟨hpx, hP1, hK1, hD1⟩ := hB
  rw [ht] at hP1
  obtain ⟨hP2, hD2⟩ := va_join (wr := []) (w1 := cW ad u.1 (cc cI cJ cZ cMic cSrc cSt cAI cAJ ad u)) hP hD (List.range T.1) [] (cW_all ad T.1 (cc cI cJ cZ cMic cSrc cSt cAI cAJ ad T)) rfl rfl (fun i hi => absurd hi List.not_mem_nil) hk1 hFc hP1 hD1
  exact kx E9 ce q9 u H1 locs1 hpx ⟨hP2, hD2, hS⟩ hce hcv hcl
abbrev kAi (l : Launch) (y : MethodName) (ws : List Cond) (fr lo : Nat) (cI cJ cZ cMic cSrc cSt cAI cAJ : ClassId) (D : va_G) (ad : Nat → Nat) (T : AT) (As : List Value) (r1 : Int32) (T1 : AT) : Prop := ∀ sz : Nat, Met l y ws { frames := fr, cells := T1.1 - T.1, slots := sg T1 - sg T, locals := lo } (va_Pc As (kB cI cJ cZ cMic cSrc cSt cAI cAJ D ad T sz)) (va_Qi (fun r (u : AT × (Nat → Nat)) => r = r1 ∧ u.1 = T1 ∧ ∀ n, n < T.1 → u.2 n = ad n) (fun (u : AT × (Nat → Nat)) t => kAt cI cJ cZ cMic cSrc cSt cAI cAJ D u.2 (va_A (cW ad T.1 (cc cI cJ cZ cMic cSrc cSt cAI cAJ ad T)) sz) u.1 t) (va_A (cW ad T.1 (cc cI cJ cZ cMic cSrc cSt cAI cAJ ad T)) sz)) (T1.1 - T.1) (sg T1 - sg T) (va_A (cW ad T.1 (cc cI cJ cZ cMic cSrc cSt cAI cAJ ad T)) sz)
theorem q_avi {p : Program} {l : Launch} {e : Env} {R : Room} {s : State} {m : MethodId} {args : Array Value} {below : List Frame} {meth : Method} {c : Code} {H : Heap} {locs : List Loc} {cells slots : Nat} {Q : State → Prop} {cc0 : ByteArray} {pc : Nat} {ls : Array Slot} {rest : List Value} {D : va_G} {A : Nat → Prop} {Ts : List Cond} {own : String} {cI cJ cZ cMic cSrc cSt cAI cAJ : ClassId} {ad : Nat → Nat} {T : AT} {y : MethodName} {bytes : ByteArray} {maxL nL n index fr lo : Nat} {ret : Option FieldType} {ws : List Cond} {As : List Value} {C : String} {TT : u_T} {nf ci q : Nat} {fs : List Value} {r1 : Int32} {T1 : AT} (E : cE p c cc0 s m args Ts D own (CT cI cJ cZ cMic cSrc cSt cAI cAJ)) (G : gC cI cJ cZ cMic cSrc cSt cAI cAJ D ad A s.heap H locs T) (hA : ∀ q, s.heap.size ≤ q → A q) (hX : xT A s) (hN : nX s) (hml : c.maxLocals = nL) (hM : kAi l y ws fr lo cI cJ cZ cMic cSrc cSt cAI cAJ D ad T (.ref (ad q) :: As) r1 T1) (cw : CallW R s args own C index y bytes maxL ret ws { frames := fr, cells := T1.1 - T.1, slots := sg T1 - sg T, locals := lo } (T1.1 - T.1) (sg T1 - sg T) n) (hq : q < T.1) (hSq : cc cI cJ cZ cMic cSrc cSt cAI cAJ ad T q = .inr (ci, fs)) (hc : vwCl[ci]? = some (C, TT, nf)) (hn : As.length = n) (hsz : ls.size = nL) {st : List Value} (hst : st = As.reverse ++ .ref (ad q) :: rest) (hW : 2 * (F0 m pc ls st).monitorRoom + (rest.map fun v => v.category).sum ≤ 8) (hdg : decode cc0 pc = .ok (.invokevirtual index, 3)) (hf : cells + (T1.1 - T.1) ≤ R.cells ∧ slots + (sg T1 - sg T) ≤ R.slots) (kk : ∀ (ad2 : Nat → Nat) (H1 : Heap) (locs1 : List Loc), (∀ n, n < T.1 → ad2 n = ad n) → gC cI cJ cZ cMic cSrc cSt cAI cAJ D ad2 A s.heap H1 locs1 T1 → W p l e R s m args below meth c H1 locs1 (cells + (T1.1 - T.1)) (slots + (sg T1 - sg T)) Q (F0 m (pc + 3) ls (.int r1 :: rest))) : W p l e R s m args below meth c H locs cells slots Q (F0 m pc ls st) := by
  obtain ⟨hx, hb, hts, hown, hK⟩ := E
  obtain ⟨hP, hD, hS⟩ := G
  have hFc := va_free (wc := cW ad T.1 (cc cI cJ cZ cMic cSrc cSt cAI cAJ ad T)) hD hS hA (List.range T.1) (cW_all ad T.1 (cc cI cJ cZ cMic cSrc cSt cAI cAJ ad T))
  refine va_calli (va_runV (As := As) (rest := rest) ⟨hx, hb, hml, hown, hts⟩ (hM H.size) cw ⟨fun a U g mk q => by obtain ⟨q0, q1, qP, qK, qD, qX, qN⟩ := q; exact ⟨q0, q1, qP, va_K.moved (u := U) (U := U.calling g mk a) (Vm.Alike.refl U.vm) qK, qD, qX.blind, nX.moved U (U.calling g mk a) (State.WarmedH.refl U) qN⟩, va_recv hK hP (ci := ci) (q0 := q) hc (cW_e hq hSq), fun U hU hW => ⟨rfl, by rw [hU], by rw [hU]; exact hP, va_K.moved hW.alike hK, hD.weaken (fun _ _ _ _ => trivial), hX.go hW hU hS hFc, nX.moved s U hW hN⟩⟩ rfl hn hsz hst hW hdg hf) hS (fun q _ h => hFc q h) hFc (fun r u t H1 locs1 ht hvm hw hB hz1 hk1 hS => ?_)
  obtain ⟨u1, u2⟩ := u
  obtain ⟨hw1, hw2, hw3⟩ := hw
  have hw2 : u1 = T1 := hw2
  obtain ⟨hP1, hK1, hD1⟩ := hB
  rw [ht] at hP1
  obtain ⟨hP2, hD2⟩ := va_join (wr := []) (w1 := cW u2 u1.1 (cc cI cJ cZ cMic cSrc cSt cAI cAJ u2 u1)) hP hD (List.range T.1) [] (cW_all ad T.1 (cc cI cJ cZ cMic cSrc cSt cAI cAJ ad T)) rfl rfl (fun i hi => absurd hi List.not_mem_nil) hk1 hFc hP1 hD1
  rw [hw1]
  rw [hw2] at hP2 hD2
  exact kk u2 H1 locs1 hw3 ⟨hP2, hD2, hS⟩
abbrev kAXi (l : Launch) (y : MethodName) (ws : List Cond) (fr lo : Nat) (cI cJ cZ cMic cSrc cSt cAI cAJ : ClassId) (D : va_G) (ad : Nat → Nat) (T : AT) (As : List Value) (e1 : Nat) (T1 : AT) : Prop := ∀ sz : Nat, vx_Met l y ws { frames := fr, cells := T1.1 - T.1 + 1, slots := sg T1 - sg T + 6, locals := lo } (va_Pc As (kB cI cJ cZ cMic cSrc cSt cAI cAJ D ad T sz)) (va_Qi (fun (_ : Int32) (_ : AT × (Nat → Nat)) => False) (fun (u : AT × (Nat → Nat)) t => kAt cI cJ cZ cMic cSrc cSt cAI cAJ D u.2 (va_A (cW ad T.1 (cc cI cJ cZ cMic cSrc cSt cAI cAJ ad T)) sz) u.1 t) (va_A (cW ad T.1 (cc cI cJ cZ cMic cSrc cSt cAI cAJ ad T)) sz)) (vx_X (fun _ => True) (fun E (u : AT × (Nat → Nat)) t => (E = exn e1 ∧ u.1 = T1 ∧ ∀ n, n < T.1 → u.2 n = ad n) ∧ kAt cI cJ cZ cMic cSrc cSt cAI cAJ D u.2 (va_A (cW ad T.1 (cc cI cJ cZ cMic cSrc cSt cAI cAJ ad T)) sz) u.1 t) (va_A (cW ad T.1 (cc cI cJ cZ cMic cSrc cSt cAI cAJ ad T)) sz)) (T1.1 - T.1 + 1) (sg T1 - sg T + 6) (va_A (cW ad T.1 (cc cI cJ cZ cMic cSrc cSt cAI cAJ ad T)) sz)
abbrev kAl (l : Launch) (y : MethodName) (ws : List Cond) (fr lo : Nat) (cI cJ cZ cMic cSrc cSt cAI cAJ : ClassId) (D : va_G) (ad : Nat → Nat) (T : AT) (As : List Value) (r1 : Int64) (T1 : AT) : Prop := ∀ sz : Nat, Met l y ws { frames := fr, cells := T1.1 - T.1, slots := sg T1 - sg T, locals := lo } (va_Pc As (kB cI cJ cZ cMic cSrc cSt cAI cAJ D ad T sz)) (va_Ql (fun r (u : AT × (Nat → Nat)) => r = r1 ∧ u.1 = T1 ∧ ∀ n, n < T.1 → u.2 n = ad n) (fun (u : AT × (Nat → Nat)) t => kAt cI cJ cZ cMic cSrc cSt cAI cAJ D u.2 (va_A (cW ad T.1 (cc cI cJ cZ cMic cSrc cSt cAI cAJ ad T)) sz) u.1 t) (va_A (cW ad T.1 (cc cI cJ cZ cMic cSrc cSt cAI cAJ ad T)) sz)) (T1.1 - T.1) (sg T1 - sg T) (va_A (cW ad T.1 (cc cI cJ cZ cMic cSrc cSt cAI cAJ ad T)) sz)
abbrev kAXl (l : Launch) (y : MethodName) (ws : List Cond) (fr lo : Nat) (cI cJ cZ cMic cSrc cSt cAI cAJ : ClassId) (D : va_G) (ad : Nat → Nat) (T : AT) (As : List Value) (e1 : Nat) (T1 : AT) : Prop := ∀ sz : Nat, vx_Met l y ws { frames := fr, cells := T1.1 - T.1 + 1, slots := sg T1 - sg T + 6, locals := lo } (va_Pc As (kB cI cJ cZ cMic cSrc cSt cAI cAJ D ad T sz)) (va_Ql (fun (_ : Int64) (_ : AT × (Nat → Nat)) => False) (fun (u : AT × (Nat → Nat)) t => kAt cI cJ cZ cMic cSrc cSt cAI cAJ D u.2 (va_A (cW ad T.1 (cc cI cJ cZ cMic cSrc cSt cAI cAJ ad T)) sz) u.1 t) (va_A (cW ad T.1 (cc cI cJ cZ cMic cSrc cSt cAI cAJ ad T)) sz)) (vx_X (fun _ => True) (fun E (u : AT × (Nat → Nat)) t => (E = exn e1 ∧ u.1 = T1 ∧ ∀ n, n < T.1 → u.2 n = ad n) ∧ kAt cI cJ cZ cMic cSrc cSt cAI cAJ D u.2 (va_A (cW ad T.1 (cc cI cJ cZ cMic cSrc cSt cAI cAJ ad T)) sz) u.1 t) (va_A (cW ad T.1 (cc cI cJ cZ cMic cSrc cSt cAI cAJ ad T)) sz)) (T1.1 - T.1 + 1) (sg T1 - sg T + 6) (va_A (cW ad T.1 (cc cI cJ cZ cMic cSrc cSt cAI cAJ ad T)) sz)
abbrev kAf (l : Launch) (y : MethodName) (ws : List Cond) (fr lo : Nat) (cI cJ cZ cMic cSrc cSt cAI cAJ : ClassId) (D : va_G) (ad : Nat → Nat) (T : AT) (As : List Value) (r1 : UInt32) (T1 : AT) : Prop := ∀ sz : Nat, Met l y ws { frames := fr, cells := T1.1 - T.1, slots := sg T1 - sg T, locals := lo } (va_Pc As (kB cI cJ cZ cMic cSrc cSt cAI cAJ D ad T sz)) (va_Qf (fun r (u : AT × (Nat → Nat)) => r = r1 ∧ u.1 = T1 ∧ ∀ n, n < T.1 → u.2 n = ad n) (fun (u : AT × (Nat → Nat)) t => kAt cI cJ cZ cMic cSrc cSt cAI cAJ D u.2 (va_A (cW ad T.1 (cc cI cJ cZ cMic cSrc cSt cAI cAJ ad T)) sz) u.1 t) (va_A (cW ad T.1 (cc cI cJ cZ cMic cSrc cSt cAI cAJ ad T)) sz)) (T1.1 - T.1) (sg T1 - sg T) (va_A (cW ad T.1 (cc cI cJ cZ cMic cSrc cSt cAI cAJ ad T)) sz)
abbrev kAXf (l : Launch) (y : MethodName) (ws : List Cond) (fr lo : Nat) (cI cJ cZ cMic cSrc cSt cAI cAJ : ClassId) (D : va_G) (ad : Nat → Nat) (T : AT) (As : List Value) (e1 : Nat) (T1 : AT) : Prop := ∀ sz : Nat, vx_Met l y ws { frames := fr, cells := T1.1 - T.1 + 1, slots := sg T1 - sg T + 6, locals := lo } (va_Pc As (kB cI cJ cZ cMic cSrc cSt cAI cAJ D ad T sz)) (va_Qf (fun (_ : UInt32) (_ : AT × (Nat → Nat)) => False) (fun (u : AT × (Nat → Nat)) t => kAt cI cJ cZ cMic cSrc cSt cAI cAJ D u.2 (va_A (cW ad T.1 (cc cI cJ cZ cMic cSrc cSt cAI cAJ ad T)) sz) u.1 t) (va_A (cW ad T.1 (cc cI cJ cZ cMic cSrc cSt cAI cAJ ad T)) sz)) (vx_X (fun _ => True) (fun E (u : AT × (Nat → Nat)) t => (E = exn e1 ∧ u.1 = T1 ∧ ∀ n, n < T.1 → u.2 n = ad n) ∧ kAt cI cJ cZ cMic cSrc cSt cAI cAJ D u.2 (va_A (cW ad T.1 (cc cI cJ cZ cMic cSrc cSt cAI cAJ ad T)) sz) u.1 t) (va_A (cW ad T.1 (cc cI cJ cZ cMic cSrc cSt cAI cAJ ad T)) sz)) (T1.1 - T.1 + 1) (sg T1 - sg T + 6) (va_A (cW ad T.1 (cc cI cJ cZ cMic cSrc cSt cAI cAJ ad T)) sz)
abbrev kAv (l : Launch) (y : MethodName) (ws : List Cond) (fr lo : Nat) (cI cJ cZ cMic cSrc cSt cAI cAJ : ClassId) (D : va_G) (ad : Nat → Nat) (T : AT) (As : List Value) (T1 : AT) : Prop := ∀ sz : Nat, Met l y ws { frames := fr, cells := T1.1 - T.1, slots := sg T1 - sg T, locals := lo } (va_Pc As (kB cI cJ cZ cMic cSrc cSt cAI cAJ D ad T sz)) (va_Qv (fun (u : AT × (Nat → Nat)) => u.1 = T1 ∧ ∀ n, n < T.1 → u.2 n = ad n) (fun (u : AT × (Nat → Nat)) t => kAt cI cJ cZ cMic cSrc cSt cAI cAJ D u.2 (va_A (cW ad T.1 (cc cI cJ cZ cMic cSrc cSt cAI cAJ ad T)) sz) u.1 t) (va_A (cW ad T.1 (cc cI cJ cZ cMic cSrc cSt cAI cAJ ad T)) sz)) (T1.1 - T.1) (sg T1 - sg T) (va_A (cW ad T.1 (cc cI cJ cZ cMic cSrc cSt cAI cAJ ad T)) sz)
theorem q_avv {p : Program} {l : Launch} {e : Env} {R : Room} {s : State} {m : MethodId} {args : Array Value} {below : List Frame} {meth : Method} {c : Code} {H : Heap} {locs : List Loc} {cells slots : Nat} {Q : State → Prop} {cc0 : ByteArray} {pc : Nat} {ls : Array Slot} {rest : List Value} {D : va_G} {A : Nat → Prop} {Ts : List Cond} {own : String} {cI cJ cZ cMic cSrc cSt cAI cAJ : ClassId} {ad : Nat → Nat} {T : AT} {y : MethodName} {bytes : ByteArray} {maxL nL n index fr lo : Nat} {ret : Option FieldType} {ws : List Cond} {As : List Value} {C : String} {TT : u_T} {nf ci q : Nat} {fs : List Value} {T1 : AT} (E : cE p c cc0 s m args Ts D own (CT cI cJ cZ cMic cSrc cSt cAI cAJ)) (G : gC cI cJ cZ cMic cSrc cSt cAI cAJ D ad A s.heap H locs T) (hA : ∀ q, s.heap.size ≤ q → A q) (hX : xT A s) (hN : nX s) (hml : c.maxLocals = nL) (hM : kAv l y ws fr lo cI cJ cZ cMic cSrc cSt cAI cAJ D ad T (.ref (ad q) :: As) T1) (cw : CallW R s args own C index y bytes maxL ret ws { frames := fr, cells := T1.1 - T.1, slots := sg T1 - sg T, locals := lo } (T1.1 - T.1) (sg T1 - sg T) n) (hq : q < T.1) (hSq : cc cI cJ cZ cMic cSrc cSt cAI cAJ ad T q = .inr (ci, fs)) (hc : vwCl[ci]? = some (C, TT, nf)) (hn : As.length = n) (hsz : ls.size = nL) {st : List Value} (hst : st = As.reverse ++ .ref (ad q) :: rest) (hW : 2 * (F0 m pc ls st).monitorRoom + (rest.map fun v => v.category).sum ≤ 8) (hdg : decode cc0 pc = .ok (.invokevirtual index, 3)) (hf : cells + (T1.1 - T.1) ≤ R.cells ∧ slots + (sg T1 - sg T) ≤ R.slots) (kk : ∀ (ad2 : Nat → Nat) (H1 : Heap) (locs1 : List Loc), (∀ n, n < T.1 → ad2 n = ad n) → gC cI cJ cZ cMic cSrc cSt cAI cAJ D ad2 A s.heap H1 locs1 T1 → W p l e R s m args below meth c H1 locs1 (cells + (T1.1 - T.1)) (slots + (sg T1 - sg T)) Q (F0 m (pc + 3) ls rest)) : W p l e R s m args below meth c H locs cells slots Q (F0 m pc ls st) := by
  obtain ⟨hx, hb, hts, hown, hK⟩ := E
  obtain ⟨hP, hD, hS⟩ := G
  have hFc := va_free (wc := cW ad T.1 (cc cI cJ cZ cMic cSrc cSt cAI cAJ ad T)) hD hS hA (List.range T.1) (cW_all ad T.1 (cc cI cJ cZ cMic cSrc cSt cAI cAJ ad T))
  refine va_callv (va_runV (As := As) (rest := rest) ⟨hx, hb, hml, hown, hts⟩ (hM H.size) cw ⟨fun a U g mk q => by obtain ⟨q0, q1, qP, qK, qD, qX, qN⟩ := q; exact ⟨q0, q1, qP, va_K.moved (u := U) (U := U.calling g mk a) (Vm.Alike.refl U.vm) qK, qD, qX.blind, nX.moved U (U.calling g mk a) (State.WarmedH.refl U) qN⟩, va_recv hK hP (ci := ci) (q0 := q) hc (cW_e hq hSq), fun U hU hW => ⟨rfl, by rw [hU], by rw [hU]; exact hP, va_K.moved hW.alike hK, hD.weaken (fun _ _ _ _ => trivial), hX.go hW hU hS hFc, nX.moved s U hW hN⟩⟩ rfl hn hsz hst hW hdg hf) hS (fun q _ h => hFc q h) hFc (fun u t H1 locs1 ht hvm hw hB hz1 hk1 hS => ?_)
  obtain ⟨u1, u2⟩ := u
  obtain ⟨hw2, hw3⟩ := hw
  have hw2 : u1 = T1 := hw2
  obtain ⟨hP1, hK1, hD1⟩ := hB
  rw [ht] at hP1
  obtain ⟨hP2, hD2⟩ := va_join (wr := []) (w1 := cW u2 u1.1 (cc cI cJ cZ cMic cSrc cSt cAI cAJ u2 u1)) hP hD (List.range T.1) [] (cW_all ad T.1 (cc cI cJ cZ cMic cSrc cSt cAI cAJ ad T)) rfl rfl (fun i hi => absurd hi List.not_mem_nil) hk1 hFc hP1 hD1
  rw [hw2] at hP2 hD2
  exact kk u2 H1 locs1 hw3 ⟨hP2, hD2, hS⟩
abbrev kAr (l : Launch) (y : MethodName) (ws : List Cond) (fr lo : Nat) (cI cJ cZ cMic cSrc cSt cAI cAJ : ClassId) (D : va_G) (ad : Nat → Nat) (T : AT) (As : List Value) (r1 : Nat) (T1 : AT) : Prop := ∀ sz : Nat, Met l y ws { frames := fr, cells := T1.1 - T.1, slots := sg T1 - sg T, locals := lo } (va_Pc As (kB cI cJ cZ cMic cSrc cSt cAI cAJ D ad T sz)) (va_Qr (fun (u : AT × (Nat → Nat)) => u.1 = T1 ∧ ∀ n, n < T.1 → u.2 n = ad n) (fun (u : AT × (Nat → Nat)) a t => a = u.2 r1 ∧ kAt cI cJ cZ cMic cSrc cSt cAI cAJ D u.2 (va_A (cW ad T.1 (cc cI cJ cZ cMic cSrc cSt cAI cAJ ad T)) sz) u.1 t) (va_A (cW ad T.1 (cc cI cJ cZ cMic cSrc cSt cAI cAJ ad T)) sz)) (T1.1 - T.1) (sg T1 - sg T) (va_A (cW ad T.1 (cc cI cJ cZ cMic cSrc cSt cAI cAJ ad T)) sz)
theorem q_avr {p : Program} {l : Launch} {e : Env} {R : Room} {s : State} {m : MethodId} {args : Array Value} {below : List Frame} {meth : Method} {c : Code} {H : Heap} {locs : List Loc} {cells slots : Nat} {Q : State → Prop} {cc0 : ByteArray} {pc : Nat} {ls : Array Slot} {rest : List Value} {D : va_G} {A : Nat → Prop} {Ts : List Cond} {own : String} {cI cJ cZ cMic cSrc cSt cAI cAJ : ClassId} {ad : Nat → Nat} {T : AT} {y : MethodName} {bytes : ByteArray} {maxL nL n index fr lo : Nat} {ret : Option FieldType} {ws : List Cond} {As : List Value} {C : String} {TT : u_T} {nf ci q : Nat} {fs : List Value} {r1 : Nat} {T1 : AT} (E : cE p c cc0 s m args Ts D own (CT cI cJ cZ cMic cSrc cSt cAI cAJ)) (G : gC cI cJ cZ cMic cSrc cSt cAI cAJ D ad A s.heap H locs T) (hA : ∀ q, s.heap.size ≤ q → A q) (hX : xT A s) (hN : nX s) (hml : c.maxLocals = nL) (hM : kAr l y ws fr lo cI cJ cZ cMic cSrc cSt cAI cAJ D ad T (.ref (ad q) :: As) r1 T1) (cw : CallW R s args own C index y bytes maxL ret ws { frames := fr, cells := T1.1 - T.1, slots := sg T1 - sg T, locals := lo } (T1.1 - T.1) (sg T1 - sg T) n) (hq : q < T.1) (hSq : cc cI cJ cZ cMic cSrc cSt cAI cAJ ad T q = .inr (ci, fs)) (hc : vwCl[ci]? = some (C, TT, nf)) (hn : As.length = n) (hsz : ls.size = nL) {st : List Value} (hst : st = As.reverse ++ .ref (ad q) :: rest) (hW : 2 * (F0 m pc ls st).monitorRoom + (rest.map fun v => v.category).sum ≤ 8) (hdg : decode cc0 pc = .ok (.invokevirtual index, 3)) (hf : cells + (T1.1 - T.1) ≤ R.cells ∧ slots + (sg T1 - sg T) ≤ R.slots) (kk : ∀ (ad2 : Nat → Nat) (H1 : Heap) (locs1 : List Loc), (∀ n, n < T.1 → ad2 n = ad n) → gC cI cJ cZ cMic cSrc cSt cAI cAJ D ad2 A s.heap H1 locs1 T1 → W p l e R s m args below meth c H1 locs1 (cells + (T1.1 - T.1)) (slots + (sg T1 - sg T)) Q (F0 m (pc + 3) ls (.ref (ad2 r1) :: rest))) : W p l e R s m args below meth c H locs cells slots Q (F0 m pc ls st) := by
  obtain ⟨hx, hb, hts, hown, hK⟩ := E
  obtain ⟨hP, hD, hS⟩ := G
  have hFc := va_free (wc := cW ad T.1 (cc cI cJ cZ cMic cSrc cSt cAI cAJ ad T)) hD hS hA (List.range T.1) (cW_all ad T.1 (cc cI cJ cZ cMic cSrc cSt cAI cAJ ad T))
  refine va_callr (va_runV (As := As) (rest := rest) ⟨hx, hb, hml, hown, hts⟩ (hM H.size) cw ⟨fun a U g mk q => by obtain ⟨q0, q1, qP, qK, qD, qX, qN⟩ := q; exact ⟨q0, q1, qP, va_K.moved (u := U) (U := U.calling g mk a) (Vm.Alike.refl U.vm) qK, qD, qX.blind, nX.moved U (U.calling g mk a) (State.WarmedH.refl U) qN⟩, va_recv hK hP (ci := ci) (q0 := q) hc (cW_e hq hSq), fun U hU hW => ⟨rfl, by rw [hU], by rw [hU]; exact hP, va_K.moved hW.alike hK, hD.weaken (fun _ _ _ _ => trivial), hX.go hW hU hS hFc, nX.moved s U hW hN⟩⟩ rfl hn hsz hst hW hdg hf) hS (fun q _ h => hFc q h) hFc (fun u ra t H1 locs1 ht hvm hw hB hz1 hk1 hS => ?_)
  obtain ⟨u1, u2⟩ := u
  obtain ⟨hw2, hw3⟩ := hw
  have hw2 : u1 = T1 := hw2
  obtain ⟨ha, hP1, hK1, hD1⟩ := hB
  rw [ht] at hP1
  obtain ⟨hP2, hD2⟩ := va_join (wr := []) (w1 := cW u2 u1.1 (cc cI cJ cZ cMic cSrc cSt cAI cAJ u2 u1)) hP hD (List.range T.1) [] (cW_all ad T.1 (cc cI cJ cZ cMic cSrc cSt cAI cAJ ad T)) rfl rfl (fun i hi => absurd hi List.not_mem_nil) hk1 hFc hP1 hD1
  rw [ha]
  rw [hw2] at hP2 hD2
  exact kk u2 H1 locs1 hw3 ⟨hP2, hD2, hS⟩
theorem q_sti {p : Program} {l : Launch} {e : Env} {R : Room} {s : State} {m : MethodId} {args : Array Value} {below : List Frame} {meth : Method} {c : Code} {H : Heap} {locs : List Loc} {cells slots : Nat} {Q : State → Prop} {cc0 : ByteArray} {pc : Nat} {ls : Array Slot} {rest : List Value} {Ts : List Cond} {own : String} {y : MethodName} {bytes : ByteArray} {maxL nL n index fr lo : Nat} {ret : Option FieldType} {ws : List Cond} {As : List Value} {post : Int32 → Prop} (F : CallFix p m c cc0 nL s args Ts own) (hN : nX s) (hM : Met l y ws { frames := fr, cells := 0, slots := 0, locals := lo } (va_Pc As nX) (vp_Si post) 0 0 (fun _ => False)) (cw : CallB R s args own index y bytes maxL ret ws { frames := fr, cells := 0, slots := 0, locals := lo } 0 0 n ∧ (Cond.static y).before args s = true) (hn : As.length = n) (hsz : ls.size = nL) {st : List Value} (hst : st = As.reverse ++ rest) (hW : 2 * (F0 m pc ls st).monitorRoom + (rest.map fun v => v.category).sum ≤ 8) (hdg : decode cc0 pc = .ok (.invokestatic index, 3)) (hf : cells + 0 ≤ R.cells ∧ slots + 0 ≤ R.slots) (kk : ∀ r : Int32, post r → W p l e R s m args below meth c H locs cells slots Q (F0 m (pc + 3) ls (.int r :: rest))) : W p l e R s m args below meth c H locs cells slots Q (F0 m pc ls st) :=
  vp_callSi (W.runS F hM cw ⟨fun a U g mk q => ⟨q.1, nX.moved U (U.calling g mk a) (State.WarmedH.refl U) q.2⟩, fun U hU hW => ⟨rfl, nX.moved s U hW hN⟩⟩ rfl hn hsz hst hW hdg hf) kk
theorem q_stiN {p : Program} {l : Launch} {e : Env} {R : Room} {s : State} {m : MethodId} {args : Array Value} {below : List Frame} {meth : Method} {c : Code} {H : Heap} {locs : List Loc} {cells slots : Nat} {Q : State → Prop} {cc0 : ByteArray} {pc : Nat} {ls : Array Slot} {rest : List Value} {Ts : List Cond} {own host : String} {y : MethodName} {bytes : ByteArray} {maxL nL n index fr lo : Nat} {ret : Option FieldType} {ws : List Cond} {As : List Value} {post : Int32 → Prop} (F : CallFix p m c cc0 nL s args Ts own) (hN : nX s) (hM : Met l y ws { frames := fr, cells := 0, slots := 0, locals := lo } (va_Pc As nX) (vp_Si post) 0 0 (fun _ => False)) (cw : va_CN R s args own index y host bytes maxL ret ws { frames := fr, cells := 0, slots := 0, locals := lo } 0 0 n ∧ (Cond.static y).before args s = true ∧ True) (hn : As.length = n) (hsz : ls.size = nL) {st : List Value} (hst : st = As.reverse ++ rest) (hW : 2 * (F0 m pc ls st).monitorRoom + (rest.map fun v => v.category).sum ≤ 8) (hdg : decode cc0 pc = .ok (.invokestatic index, 3)) (hf : cells + 0 ≤ R.cells ∧ slots + 0 ≤ R.slots) (kk : ∀ r : Int32, post r → W p l e R s m args below meth c H locs cells slots Q (F0 m (pc + 3) ls (.int r :: rest))) : W p l e R s m args below meth c H locs cells slots Q (F0 m pc ls st) :=
  vp_callSi (va_Run.run (va_runSN F hM cw ⟨fun a U g mk q => ⟨q.1, nX.moved U (U.calling g mk a) (State.WarmedH.refl U) q.2⟩, fun U hU hW => ⟨rfl, nX.moved s U hW hN⟩⟩ rfl hn hsz hst hW hdg hf)) kk
theorem q_stl {p : Program} {l : Launch} {e : Env} {R : Room} {s : State} {m : MethodId} {args : Array Value} {below : List Frame} {meth : Method} {c : Code} {H : Heap} {locs : List Loc} {cells slots : Nat} {Q : State → Prop} {cc0 : ByteArray} {pc : Nat} {ls : Array Slot} {rest : List Value} {Ts : List Cond} {own : String} {y : MethodName} {bytes : ByteArray} {maxL nL n index fr lo : Nat} {ret : Option FieldType} {ws : List Cond} {As : List Value} {post : Int64 → Prop} (F : CallFix p m c cc0 nL s args Ts own) (hN : nX s) (hM : Met l y ws { frames := fr, cells := 0, slots := 0, locals := lo } (va_Pc As nX) (vp_Sl post) 0 0 (fun _ => False)) (cw : CallB R s args own index y bytes maxL ret ws { frames := fr, cells := 0, slots := 0, locals := lo } 0 0 n ∧ (Cond.static y).before args s = true) (hn : As.length = n) (hsz : ls.size = nL) {st : List Value} (hst : st = As.reverse ++ rest) (hW : 2 * (F0 m pc ls st).monitorRoom + (rest.map fun v => v.category).sum ≤ 8) (hdg : decode cc0 pc = .ok (.invokestatic index, 3)) (hf : cells + 0 ≤ R.cells ∧ slots + 0 ≤ R.slots) (kk : ∀ r : Int64, post r → W p l e R s m args below meth c H locs cells slots Q (F0 m (pc + 3) ls (.long r :: rest))) : W p l e R s m args below meth c H locs cells slots Q (F0 m pc ls st) :=
  vp_callSl (W.runS F hM cw ⟨fun a U g mk q => ⟨q.1, nX.moved U (U.calling g mk a) (State.WarmedH.refl U) q.2⟩, fun U hU hW => ⟨rfl, nX.moved s U hW hN⟩⟩ rfl hn hsz hst hW hdg hf) kk
theorem q_stlN {p : Program} {l : Launch} {e : Env} {R : Room} {s : State} {m : MethodId} {args : Array Value} {below : List Frame} {meth : Method} {c : Code} {H : Heap} {locs : List Loc} {cells slots : Nat} {Q : State → Prop} {cc0 : ByteArray} {pc : Nat} {ls : Array Slot} {rest : List Value} {Ts : List Cond} {own host : String} {y : MethodName} {bytes : ByteArray} {maxL nL n index fr lo : Nat} {ret : Option FieldType} {ws : List Cond} {As : List Value} {post : Int64 → Prop} (F : CallFix p m c cc0 nL s args Ts own) (hN : nX s) (hM : Met l y ws { frames := fr, cells := 0, slots := 0, locals := lo } (va_Pc As nX) (vp_Sl post) 0 0 (fun _ => False)) (cw : va_CN R s args own index y host bytes maxL ret ws { frames := fr, cells := 0, slots := 0, locals := lo } 0 0 n ∧ (Cond.static y).before args s = true ∧ True) (hn : As.length = n) (hsz : ls.size = nL) {st : List Value} (hst : st = As.reverse ++ rest) (hW : 2 * (F0 m pc ls st).monitorRoom + (rest.map fun v => v.category).sum ≤ 8) (hdg : decode cc0 pc = .ok (.invokestatic index, 3)) (hf : cells + 0 ≤ R.cells ∧ slots + 0 ≤ R.slots) (kk : ∀ r : Int64, post r → W p l e R s m args below meth c H locs cells slots Q (F0 m (pc + 3) ls (.long r :: rest))) : W p l e R s m args below meth c H locs cells slots Q (F0 m pc ls st) :=
  vp_callSl (va_Run.run (va_runSN F hM cw ⟨fun a U g mk q => ⟨q.1, nX.moved U (U.calling g mk a) (State.WarmedH.refl U) q.2⟩, fun U hU hW => ⟨rfl, nX.moved s U hW hN⟩⟩ rfl hn hsz hst hW hdg hf)) kk
abbrev kCiX (l : Launch) (y : MethodName) (ws : List Cond) (fr lo : Nat) (cI cJ cZ cMic cSrc cSt cAI cAJ : ClassId) (D : va_G) (ad : Nat → Nat) (T : AT) (As : List Value) (X : Nat → State → Prop) (post : Int32 → AT → Prop) : Prop := ∀ sz : Nat, Met l y ws { frames := fr, cells := 0, slots := 0, locals := lo } (va_Pc As (fun U => kB cI cJ cZ cMic cSrc cSt cAI cAJ D ad T sz U ∧ X sz U)) (va_Qi post (kAt cI cJ cZ cMic cSrc cSt cAI cAJ D ad (va_A (cW ad T.1 (cc cI cJ cZ cMic cSrc cSt cAI cAJ ad T)) sz)) (va_A (cW ad T.1 (cc cI cJ cZ cMic cSrc cSt cAI cAJ ad T)) sz)) 0 0 (va_A (cW ad T.1 (cc cI cJ cZ cMic cSrc cSt cAI cAJ ad T)) sz)
abbrev kCvX (l : Launch) (y : MethodName) (ws : List Cond) (fr lo : Nat) (cI cJ cZ cMic cSrc cSt cAI cAJ : ClassId) (D : va_G) (ad : Nat → Nat) (T : AT) (As : List Value) (X : Nat → State → Prop) (post : AT → Prop) : Prop := ∀ sz : Nat, Met l y ws { frames := fr, cells := 0, slots := 0, locals := lo } (va_Pc As (fun U => kB cI cJ cZ cMic cSrc cSt cAI cAJ D ad T sz U ∧ X sz U)) (va_Qv post (kAt cI cJ cZ cMic cSrc cSt cAI cAJ D ad (va_A (cW ad T.1 (cc cI cJ cZ cMic cSrc cSt cAI cAJ ad T)) sz)) (va_A (cW ad T.1 (cc cI cJ cZ cMic cSrc cSt cAI cAJ ad T)) sz)) 0 0 (va_A (cW ad T.1 (cc cI cJ cZ cMic cSrc cSt cAI cAJ ad T)) sz)
abbrev kXiX (l : Launch) (y : MethodName) (ws : List Cond) (fr lo : Nat) (cI cJ cZ cMic cSrc cSt cAI cAJ : ClassId) (D : va_G) (ad : Nat → Nat) (T : AT) (As : List Value) (X : Nat → State → Prop) (e1 : Nat) (T1 : AT) : Prop := ∀ sz : Nat, vx_Met l y ws { frames := fr, cells := 1, slots := 6, locals := lo } (va_Pc As (fun U => kB cI cJ cZ cMic cSrc cSt cAI cAJ D ad T sz U ∧ X sz U)) (va_Qi (fun (_ : Int32) (_ : AT) => False) (kAt cI cJ cZ cMic cSrc cSt cAI cAJ D ad (va_A (cW ad T.1 (cc cI cJ cZ cMic cSrc cSt cAI cAJ ad T)) sz)) (va_A (cW ad T.1 (cc cI cJ cZ cMic cSrc cSt cAI cAJ ad T)) sz)) (vx_X (fun _ => True) (fun E u t => (E = exn e1 ∧ u = T1) ∧ kAt cI cJ cZ cMic cSrc cSt cAI cAJ D ad (va_A (cW ad T.1 (cc cI cJ cZ cMic cSrc cSt cAI cAJ ad T)) sz) u t) (va_A (cW ad T.1 (cc cI cJ cZ cMic cSrc cSt cAI cAJ ad T)) sz)) 1 6 (va_A (cW ad T.1 (cc cI cJ cZ cMic cSrc cSt cAI cAJ ad T)) sz)
abbrev kXvX (l : Launch) (y : MethodName) (ws : List Cond) (fr lo : Nat) (cI cJ cZ cMic cSrc cSt cAI cAJ : ClassId) (D : va_G) (ad : Nat → Nat) (T : AT) (As : List Value) (X : Nat → State → Prop) (e1 : Nat) (T1 : AT) : Prop := ∀ sz : Nat, vx_Met l y ws { frames := fr, cells := 1, slots := 6, locals := lo } (va_Pc As (fun U => kB cI cJ cZ cMic cSrc cSt cAI cAJ D ad T sz U ∧ X sz U)) (va_Qv (fun (_ : AT) => False) (kAt cI cJ cZ cMic cSrc cSt cAI cAJ D ad (va_A (cW ad T.1 (cc cI cJ cZ cMic cSrc cSt cAI cAJ ad T)) sz)) (va_A (cW ad T.1 (cc cI cJ cZ cMic cSrc cSt cAI cAJ ad T)) sz)) (vx_X (fun _ => True) (fun E u t => (E = exn e1 ∧ u = T1) ∧ kAt cI cJ cZ cMic cSrc cSt cAI cAJ D ad (va_A (cW ad T.1 (cc cI cJ cZ cMic cSrc cSt cAI cAJ ad T)) sz) u t) (va_A (cW ad T.1 (cc cI cJ cZ cMic cSrc cSt cAI cAJ ad T)) sz)) 1 6 (va_A (cW ad T.1 (cc cI cJ cZ cMic cSrc cSt cAI cAJ ad T)) sz)
abbrev kAiS (l : Launch) (y : MethodName) (ws : List Cond) (fr lo : Nat) (cI cJ cZ cMic cSrc cSt cAI cAJ : ClassId) (D : va_G) (ad : Nat → Nat) (T : AT) (As : List Value) (X : Nat → State → Prop) (r1 : Int32) (T1 : AT) : Prop := ∀ sz : Nat, Met l y ws { frames := fr, cells := T1.1 - T.1, slots := sg T1 - sg T, locals := lo } (va_Pc As (fun U => kB cI cJ cZ cMic cSrc cSt cAI cAJ D ad T sz U ∧ X sz U)) (va_Qi (fun r (u : AT × (Nat → Nat)) => r = r1 ∧ u.1 = T1 ∧ ∀ n, n < T.1 → u.2 n = ad n) (fun (u : AT × (Nat → Nat)) t => kAt cI cJ cZ cMic cSrc cSt cAI cAJ D u.2 (va_A (cW ad T.1 (cc cI cJ cZ cMic cSrc cSt cAI cAJ ad T)) sz) u.1 t) (va_A (cW ad T.1 (cc cI cJ cZ cMic cSrc cSt cAI cAJ ad T)) sz)) (T1.1 - T.1) (sg T1 - sg T) (va_A (cW ad T.1 (cc cI cJ cZ cMic cSrc cSt cAI cAJ ad T)) sz)
abbrev kAXiS (l : Launch) (y : MethodName) (ws : List Cond) (fr lo : Nat) (cI cJ cZ cMic cSrc cSt cAI cAJ : ClassId) (D : va_G) (ad : Nat → Nat) (T : AT) (As : List Value) (X : Nat → State → Prop) (e1 : Nat) (T1 : AT) : Prop := ∀ sz : Nat, vx_Met l y ws { frames := fr, cells := T1.1 - T.1 + 1, slots := sg T1 - sg T + 6, locals := lo } (va_Pc As (fun U => kB cI cJ cZ cMic cSrc cSt cAI cAJ D ad T sz U ∧ X sz U)) (va_Qi (fun (_ : Int32) (_ : AT × (Nat → Nat)) => False) (fun (u : AT × (Nat → Nat)) t => kAt cI cJ cZ cMic cSrc cSt cAI cAJ D u.2 (va_A (cW ad T.1 (cc cI cJ cZ cMic cSrc cSt cAI cAJ ad T)) sz) u.1 t) (va_A (cW ad T.1 (cc cI cJ cZ cMic cSrc cSt cAI cAJ ad T)) sz)) (vx_X (fun _ => True) (fun E (u : AT × (Nat → Nat)) t => (E = exn e1 ∧ u.1 = T1 ∧ ∀ n, n < T.1 → u.2 n = ad n) ∧ kAt cI cJ cZ cMic cSrc cSt cAI cAJ D u.2 (va_A (cW ad T.1 (cc cI cJ cZ cMic cSrc cSt cAI cAJ ad T)) sz) u.1 t) (va_A (cW ad T.1 (cc cI cJ cZ cMic cSrc cSt cAI cAJ ad T)) sz)) (T1.1 - T.1 + 1) (sg T1 - sg T + 6) (va_A (cW ad T.1 (cc cI cJ cZ cMic cSrc cSt cAI cAJ ad T)) sz)
theorem q_cviX {p : Program} {l : Launch} {e : Env} {R : Room} {s : State} {m : MethodId} {args : Array Value} {below : List Frame} {meth : Method} {c : Code} {H : Heap} {locs : List Loc} {cells slots : Nat} {Q : State → Prop} {cc0 : ByteArray} {pc : Nat} {ls : Array Slot} {rest : List Value} {D : va_G} {A : Nat → Prop} {Ts : List Cond} {own : String} {cI cJ cZ cMic cSrc cSt cAI cAJ : ClassId} {ad : Nat → Nat} {T : AT} {y : MethodName} {bytes : ByteArray} {maxL nL n index fr lo : Nat} {ret : Option FieldType} {ws : List Cond} {As : List Value} {C : String} {TT : u_T} {nf ci q : Nat} {fs : List Value} {post : Int32 → AT → Prop} {X : Nat → State → Prop} (E : cE p c cc0 s m args Ts D own (CT cI cJ cZ cMic cSrc cSt cAI cAJ)) (G : gC cI cJ cZ cMic cSrc cSt cAI cAJ D ad A s.heap H locs T) (hA : ∀ q, s.heap.size ≤ q → A q) (hX : xT A s) (hN : nX s) (hml : c.maxLocals = nL) (hM : kCiX l y ws fr lo cI cJ cZ cMic cSrc cSt cAI cAJ D ad T (.ref (ad q) :: As) X post) (cw : CallW R s args own C index y bytes maxL ret ws { frames := fr, cells := 0, slots := 0, locals := lo } 0 0 n) (hq : q < T.1) (hSq : cc cI cJ cZ cMic cSrc cSt cAI cAJ ad T q = .inr (ci, fs)) (hc : vwCl[ci]? = some (C, TT, nf)) (hn : As.length = n) (hsz : ls.size = nL) {st : List Value} (hst : st = As.reverse ++ .ref (ad q) :: rest) (hW : 2 * (F0 m pc ls st).monitorRoom + (rest.map fun v => v.category).sum ≤ 8) (hdg : decode cc0 pc = .ok (.invokevirtual index, 3)) (hf : cells + 0 ≤ R.cells ∧ slots + 0 ≤ R.slots) (hXb : ∀ (sz : Nat) (a : Array Value) (U : State) (g : JFrame) (mk : MethodId), X sz U → X sz (U.calling g mk a)) (hXp : ∀ U : State, U.heap = H → s.WarmedH U.vm → X H.size U) (kk : ∀ (r : Int32) (T1 : AT) (H1 : Heap) (locs1 : List Loc), post r T1 → gC cI cJ cZ cMic cSrc cSt cAI cAJ D ad A s.heap H1 locs1 T1 → W p l e R s m args below meth c H1 locs1 (cells + 0) (slots + 0) Q (F0 m (pc + 3) ls (.int r :: rest))) : W p l e R s m args below meth c H locs cells slots Q (F0 m pc ls st) := by
  obtain ⟨hx, hb, hts, hown, hK⟩ := E
  obtain ⟨hP, hD, hS⟩ := G
  have hFc := va_free (wc := cW ad T.1 (cc cI cJ cZ cMic cSrc cSt cAI cAJ ad T)) hD hS hA (List.range T.1) (cW_all ad T.1 (cc cI cJ cZ cMic cSrc cSt cAI cAJ ad T))
  refine va_calli (va_runV (As := As) (rest := rest) ⟨hx, hb, hml, hown, hts⟩ (hM H.size) cw ⟨fun a U g mk q => by obtain ⟨q0, ⟨q1, qP, qK, qD, qX, qN⟩, qY⟩ := q; exact ⟨q0, ⟨q1, qP, va_K.moved (u := U) (U := U.calling g mk a) (Vm.Alike.refl U.vm) qK, qD, qX.blind, nX.moved U (U.calling g mk a) (State.WarmedH.refl U) qN⟩, hXb _ _ _ _ _ qY⟩, va_recv hK hP (ci := ci) (q0 := q) hc (cW_e hq hSq), fun U hU hW => ⟨rfl, ⟨by rw [hU], by rw [hU]; exact hP, va_K.moved hW.alike hK, hD.weaken (fun _ _ _ _ => trivial), hX.go hW hU hS hFc, nX.moved s U hW hN⟩, hXp U hU hW⟩⟩ rfl hn hsz hst hW hdg hf) hS (fun q _ h => hFc q h) hFc (fun r u t H1 locs1 ht hvm hw hB hz1 hk1 hS => ?_)
  obtain ⟨hP1, hK1, hD1⟩ := hB
  rw [ht] at hP1
  obtain ⟨hP2, hD2⟩ := va_join (wr := []) (w1 := cW ad u.1 (cc cI cJ cZ cMic cSrc cSt cAI cAJ ad u)) hP hD (List.range T.1) [] (cW_all ad T.1 (cc cI cJ cZ cMic cSrc cSt cAI cAJ ad T)) rfl rfl (fun i hi => absurd hi List.not_mem_nil) hk1 hFc hP1 hD1
  exact kk r u H1 locs1 hw ⟨hP2, hD2, hS⟩
theorem q_cvvX {p : Program} {l : Launch} {e : Env} {R : Room} {s : State} {m : MethodId} {args : Array Value} {below : List Frame} {meth : Method} {c : Code} {H : Heap} {locs : List Loc} {cells slots : Nat} {Q : State → Prop} {cc0 : ByteArray} {pc : Nat} {ls : Array Slot} {rest : List Value} {D : va_G} {A : Nat → Prop} {Ts : List Cond} {own : String} {cI cJ cZ cMic cSrc cSt cAI cAJ : ClassId} {ad : Nat → Nat} {T : AT} {y : MethodName} {bytes : ByteArray} {maxL nL n index fr lo : Nat} {ret : Option FieldType} {ws : List Cond} {As : List Value} {C : String} {TT : u_T} {nf ci q : Nat} {fs : List Value} {post : AT → Prop} {X : Nat → State → Prop} (E : cE p c cc0 s m args Ts D own (CT cI cJ cZ cMic cSrc cSt cAI cAJ)) (G : gC cI cJ cZ cMic cSrc cSt cAI cAJ D ad A s.heap H locs T) (hA : ∀ q, s.heap.size ≤ q → A q) (hX : xT A s) (hN : nX s) (hml : c.maxLocals = nL) (hM : kCvX l y ws fr lo cI cJ cZ cMic cSrc cSt cAI cAJ D ad T (.ref (ad q) :: As) X post) (cw : CallW R s args own C index y bytes maxL ret ws { frames := fr, cells := 0, slots := 0, locals := lo } 0 0 n) (hq : q < T.1) (hSq : cc cI cJ cZ cMic cSrc cSt cAI cAJ ad T q = .inr (ci, fs)) (hc : vwCl[ci]? = some (C, TT, nf)) (hn : As.length = n) (hsz : ls.size = nL) {st : List Value} (hst : st = As.reverse ++ .ref (ad q) :: rest) (hW : 2 * (F0 m pc ls st).monitorRoom + (rest.map fun v => v.category).sum ≤ 8) (hdg : decode cc0 pc = .ok (.invokevirtual index, 3)) (hf : cells + 0 ≤ R.cells ∧ slots + 0 ≤ R.slots) (hXb : ∀ (sz : Nat) (a : Array Value) (U : State) (g : JFrame) (mk : MethodId), X sz U → X sz (U.calling g mk a)) (hXp : ∀ U : State, U.heap = H → s.WarmedH U.vm → X H.size U) (kk : ∀ (T1 : AT) (H1 : Heap) (locs1 : List Loc), post T1 → gC cI cJ cZ cMic cSrc cSt cAI cAJ D ad A s.heap H1 locs1 T1 → W p l e R s m args below meth c H1 locs1 (cells + 0) (slots + 0) Q (F0 m (pc + 3) ls rest)) : W p l e R s m args below meth c H locs cells slots Q (F0 m pc ls st) := by
  obtain ⟨hx, hb, hts, hown, hK⟩ := E
  obtain ⟨hP, hD, hS⟩ := G
  have hFc := va_free (wc := cW ad T.1 (cc cI cJ cZ cMic cSrc cSt cAI cAJ ad T)) hD hS hA (List.range T.1) (cW_all ad T.1 (cc cI cJ cZ cMic cSrc cSt cAI cAJ ad T))
  refine va_callv (va_runV (As := As) (rest := rest) ⟨hx, hb, hml, hown, hts⟩ (hM H.size) cw ⟨fun a U g mk q => by obtain ⟨q0, ⟨q1, qP, qK, qD, qX, qN⟩, qY⟩ := q; exact ⟨q0, ⟨q1, qP, va_K.moved (u := U) (U := U.calling g mk a) (Vm.Alike.refl U.vm) qK, qD, qX.blind, nX.moved U (U.calling g mk a) (State.WarmedH.refl U) qN⟩, hXb _ _ _ _ _ qY⟩, va_recv hK hP (ci := ci) (q0 := q) hc (cW_e hq hSq), fun U hU hW => ⟨rfl, ⟨by rw [hU], by rw [hU]; exact hP, va_K.moved hW.alike hK, hD.weaken (fun _ _ _ _ => trivial), hX.go hW hU hS hFc, nX.moved s U hW hN⟩, hXp U hU hW⟩⟩ rfl hn hsz hst hW hdg hf) hS (fun q _ h => hFc q h) hFc (fun u t H1 locs1 ht hvm hw hB hz1 hk1 hS => ?_)
  obtain ⟨hP1, hK1, hD1⟩ := hB
  rw [ht] at hP1
  obtain ⟨hP2, hD2⟩ := va_join (wr := []) (w1 := cW ad u.1 (cc cI cJ cZ cMic cSrc cSt cAI cAJ ad u)) hP hD (List.range T.1) [] (cW_all ad T.1 (cc cI cJ cZ cMic cSrc cSt cAI cAJ ad T)) rfl rfl (fun i hi => absurd hi List.not_mem_nil) hk1 hFc hP1 hD1
  exact kk u H1 locs1 hw ⟨hP2, hD2, hS⟩
theorem q_xviX {p : Program} {l : Launch} {e : Env} {R : Room} {s : State} {m : MethodId} {args : Array Value} {below : List Frame} {meth : Method} {c : Code} {H : Heap} {locs : List Loc} {cells slots : Nat} {Q : State → Prop} {cc0 : ByteArray} {pc : Nat} {ls : Array Slot} {rest : List Value} {D : va_G} {A : Nat → Prop} {Ts : List Cond} {own : String} {cI cJ cZ cMic cSrc cSt cAI cAJ : ClassId} {ad : Nat → Nat} {T : AT} {y : MethodName} {bytes : ByteArray} {maxL nL n index fr lo : Nat} {ret : Option FieldType} {ws : List Cond} {As : List Value} {C : String} {TT : u_T} {nf ci q : Nat} {fs : List Value} {e1 : Nat} {T1 : AT} {X : Nat → State → Prop} (E : cE p c cc0 s m args Ts D own (CT cI cJ cZ cMic cSrc cSt cAI cAJ)) (G : gC cI cJ cZ cMic cSrc cSt cAI cAJ D ad A s.heap H locs T) (hA : ∀ q, s.heap.size ≤ q → A q) (hX : xT A s) (hN : nX s) (hml : c.maxLocals = nL) (hM : kXiX l y ws fr lo cI cJ cZ cMic cSrc cSt cAI cAJ D ad T (.ref (ad q) :: As) X e1 T1) (cw : CallW R s args own C index y bytes maxL ret ws { frames := fr, cells := 1, slots := 6, locals := lo } 1 6 n) (hq : q < T.1) (hSq : cc cI cJ cZ cMic cSrc cSt cAI cAJ ad T q = .inr (ci, fs)) (hc : vwCl[ci]? = some (C, TT, nf)) (hn : As.length = n) (hsz : ls.size = nL) {st : List Value} (hst : st = As.reverse ++ .ref (ad q) :: rest) (hW : 2 * (F0 m pc ls st).monitorRoom + (rest.map fun v => v.category).sum ≤ 8) (hdg : decode cc0 pc = .ok (.invokevirtual index, 3)) (hf : cells + 1 ≤ R.cells ∧ slots + 6 ≤ R.slots) (hXb : ∀ (sz : Nat) (a : Array Value) (U : State) (g : JFrame) (mk : MethodId), X sz U → X sz (U.calling g mk a)) (hXp : ∀ U : State, U.heap = H → s.WarmedH U.vm → X H.size U) (kx : ∀ (E9 : String) (ce : Cell) (q9 : Addr) (T9 : AT) (H1 : Heap) (locs1 : List Loc), E9 = exn e1 ∧ T9 = T1 → gC cI cJ cZ cMic cSrc cSt cAI cAJ D ad A s.heap H1 locs1 T9 → H1[q9]? = some ce → ce.vm = .none → s.vm.findClass E9 = some ce.cls → vx_W p l e R s m args below meth c H1 locs1 (cells + 1) (slots + 6) Q (F0 m pc ls rest) q9) : W p l e R s m args below meth c H locs cells slots Q (F0 m pc ls st) := by
  obtain ⟨hx, hb, hts, hown, hK⟩ := E
  obtain ⟨hP, hD, hS⟩ := G
  have hFc := va_free (wc := cW ad T.1 (cc cI cJ cZ cMic cSrc cSt cAI cAJ ad T)) hD hS hA (List.range T.1) (cW_all ad T.1 (cc cI cJ cZ cMic cSrc cSt cAI cAJ ad T))
  refine vx_calli (vx_runV (As := As) (rest := rest) ⟨hx, hb, hml, hown, hts⟩ (hM H.size) cw ⟨fun a U g mk q => by obtain ⟨q0, ⟨q1, qP, qK, qD, qX, qN⟩, qY⟩ := q; exact ⟨q0, ⟨q1, qP, va_K.moved (u := U) (U := U.calling g mk a) (Vm.Alike.refl U.vm) qK, qD, qX.blind, nX.moved U (U.calling g mk a) (State.WarmedH.refl U) qN⟩, hXb _ _ _ _ _ qY⟩, va_recv hK hP (ci := ci) (q0 := q) hc (cW_e hq hSq), fun U hU hW => ⟨rfl, ⟨by rw [hU], by rw [hU]; exact hP, va_K.moved hW.alike hK, hD.weaken (fun _ _ _ _ => trivial), hX.go hW hU hS hFc, nX.moved s U hW hN⟩, hXp U hU hW⟩⟩ rfl hn hsz hst hW hdg hf) hS (fun q _ h => hFc q h) hFc (fun q _ h => hFc q h) (fun E9 ce q9 u t H1 locs1 ht hvm _ hB hz1 hk1 hS hce hcv hcl => ?_) (fun r u t H1 locs1 ht hvm hw hB hz1 hk1 hS => hw.elim)
  obtain ⟨hpx, hP1, hK1, hD1⟩ := hB
  rw [ht] at hP1
  obtain ⟨hP2, hD2⟩ := va_join (wr := []) (w1 := cW ad u.1 (cc cI cJ cZ cMic cSrc cSt cAI cAJ ad u)) hP hD (List.range T.1) [] (cW_all ad T.1 (cc cI cJ cZ cMic cSrc cSt cAI cAJ ad T)) rfl rfl (fun i hi => absurd hi List.not_mem_nil) hk1 hFc hP1 hD1
  exact kx E9 ce q9 u H1 locs1 hpx ⟨hP2, hD2, hS⟩ hce hcv hcl
theorem q_xvvX {p : Program} {l : Launch} {e : Env} {R : Room} {s : State} {m : MethodId} {args : Array Value} {below : List Frame} {meth : Method} {c : Code} {H : Heap} {locs : List Loc} {cells slots : Nat} {Q : State → Prop} {cc0 : ByteArray} {pc : Nat} {ls : Array Slot} {rest : List Value} {D : va_G} {A : Nat → Prop} {Ts : List Cond} {own : String} {cI cJ cZ cMic cSrc cSt cAI cAJ : ClassId} {ad : Nat → Nat} {T : AT} {y : MethodName} {bytes : ByteArray} {maxL nL n index fr lo : Nat} {ret : Option FieldType} {ws : List Cond} {As : List Value} {C : String} {TT : u_T} {nf ci q : Nat} {fs : List Value} {e1 : Nat} {T1 : AT} {X : Nat → State → Prop} (E : cE p c cc0 s m args Ts D own (CT cI cJ cZ cMic cSrc cSt cAI cAJ)) (G : gC cI cJ cZ cMic cSrc cSt cAI cAJ D ad A s.heap H locs T) (hA : ∀ q, s.heap.size ≤ q → A q) (hX : xT A s) (hN : nX s) (hml : c.maxLocals = nL) (hM : kXvX l y ws fr lo cI cJ cZ cMic cSrc cSt cAI cAJ D ad T (.ref (ad q) :: As) X e1 T1) (cw : CallW R s args own C index y bytes maxL ret ws { frames := fr, cells := 1, slots := 6, locals := lo } 1 6 n) (hq : q < T.1) (hSq : cc cI cJ cZ cMic cSrc cSt cAI cAJ ad T q = .inr (ci, fs)) (hc : vwCl[ci]? = some (C, TT, nf)) (hn : As.length = n) (hsz : ls.size = nL) {st : List Value} (hst : st = As.reverse ++ .ref (ad q) :: rest) (hW : 2 * (F0 m pc ls st).monitorRoom + (rest.map fun v => v.category).sum ≤ 8) (hdg : decode cc0 pc = .ok (.invokevirtual index, 3)) (hf : cells + 1 ≤ R.cells ∧ slots + 6 ≤ R.slots) (hXb : ∀ (sz : Nat) (a : Array Value) (U : State) (g : JFrame) (mk : MethodId), X sz U → X sz (U.calling g mk a)) (hXp : ∀ U : State, U.heap = H → s.WarmedH U.vm → X H.size U) (kx : ∀ (E9 : String) (ce : Cell) (q9 : Addr) (T9 : AT) (H1 : Heap) (locs1 : List Loc), E9 = exn e1 ∧ T9 = T1 → gC cI cJ cZ cMic cSrc cSt cAI cAJ D ad A s.heap H1 locs1 T9 → H1[q9]? = some ce → ce.vm = .none → s.vm.findClass E9 = some ce.cls → vx_W p l e R s m args below meth c H1 locs1 (cells + 1) (slots + 6) Q (F0 m pc ls rest) q9) : W p l e R s m args below meth c H locs cells slots Q (F0 m pc ls st) := by
  obtain ⟨hx, hb, hts, hown, hK⟩ := E
  obtain ⟨hP, hD, hS⟩ := G
  have hFc := va_free (wc := cW ad T.1 (cc cI cJ cZ cMic cSrc cSt cAI cAJ ad T)) hD hS hA (List.range T.1) (cW_all ad T.1 (cc cI cJ cZ cMic cSrc cSt cAI cAJ ad T))
  refine vx_callv (vx_runV (As := As) (rest := rest) ⟨hx, hb, hml, hown, hts⟩ (hM H.size) cw ⟨fun a U g mk q => by obtain ⟨q0, ⟨q1, qP, qK, qD, qX, qN⟩, qY⟩ := q; exact ⟨q0, ⟨q1, qP, va_K.moved (u := U) (U := U.calling g mk a) (Vm.Alike.refl U.vm) qK, qD, qX.blind, nX.moved U (U.calling g mk a) (State.WarmedH.refl U) qN⟩, hXb _ _ _ _ _ qY⟩, va_recv hK hP (ci := ci) (q0 := q) hc (cW_e hq hSq), fun U hU hW => ⟨rfl, ⟨by rw [hU], by rw [hU]; exact hP, va_K.moved hW.alike hK, hD.weaken (fun _ _ _ _ => trivial), hX.go hW hU hS hFc, nX.moved s U hW hN⟩, hXp U hU hW⟩⟩ rfl hn hsz hst hW hdg hf) hS (fun q _ h => hFc q h) hFc (fun q _ h => hFc q h) (fun E9 ce q9 u t H1 locs1 ht hvm _ hB hz1 hk1 hS hce hcv hcl => ?_) (fun u t H1 locs1 ht hvm hw hB hz1 hk1 hS => hw.elim)
  obtain ⟨hpx, hP1, hK1, hD1⟩ := hB
  rw [ht] at hP1
  obtain ⟨hP2, hD2⟩ := va_join (wr := []) (w1 := cW ad u.1 (cc cI cJ cZ cMic cSrc cSt cAI cAJ ad u)) hP hD (List.range T.1) [] (cW_all ad T.1 (cc cI cJ cZ cMic cSrc cSt cAI cAJ ad T)) rfl rfl (fun i hi => absurd hi List.not_mem_nil) hk1 hFc hP1 hD1
  exact kx E9 ce q9 u H1 locs1 hpx ⟨hP2, hD2, hS⟩ hce hcv hcl
def yT0 (cI cJ cZ cMic cSrc cSt cAI cAJ : ClassId) (h0 : Nat) (ad : Nat → Nat) (T : AT) (sz : Nat) (U : State) : Prop := (∀ a, va_A (cW ad T.1 (cc cI cJ cZ cMic cSrc cSt cAI cAJ ad T)) sz a → h0 ≤ a) ∧ sAll h0 U
def yT1 (cI cJ cZ cMic cSrc cSt cAI cAJ : ClassId) (h0 : Nat) (ad : Nat → Nat) (T : AT) (tx : Nat × (Nat → Int32)) (q sz : Nat) (U : State) : Prop := yT0 cI cJ cZ cMic cSrc cSt cAI cAJ h0 ad T sz U ∧ sO tx q (fun a => h0 ≤ a) U U.heap
theorem yT0.blind {cI cJ cZ cMic cSrc cSt cAI cAJ : ClassId} {ad : Nat → Nat} {h0 : Nat} {T : AT} (sz : Nat) (a : Array Value) (U : State) (g : JFrame) (mk : MethodId) (h : yT0 cI cJ cZ cMic cSrc cSt cAI cAJ h0 ad T sz U) : yT0 cI cJ cZ cMic cSrc cSt cAI cAJ h0 ad T sz (U.calling g mk a) := ⟨h.1, h.2.blind⟩
theorem yT1.blind {cI cJ cZ cMic cSrc cSt cAI cAJ : ClassId} {ad : Nat → Nat} {h0 : Nat} {T : AT} {tx : Nat × (Nat → Int32)} {q : Nat} (sz : Nat) (a : Array Value) (U : State) (g : JFrame) (mk : MethodId) (h : yT1 cI cJ cZ cMic cSrc cSt cAI cAJ h0 ad T tx q sz U) : yT1 cI cJ cZ cMic cSrc cSt cAI cAJ h0 ad T tx q sz (U.calling g mk a) := ⟨⟨h.1.1, h.1.2.blind⟩, sO.moved (u := U) (U := U.calling g mk a) (Vm.Alike.refl U.vm) h.2⟩
theorem yT0.go {D : va_G} {cI cJ cZ cMic cSrc cSt cAI cAJ : ClassId} {ad : Nat → Nat} {h0 : Nat} {T : AT} {A : Nat → Prop} {s : State} {H : Heap} {locs : List Loc} (hT : sAll h0 s) (hA0 : ∀ a : Nat, A a → h0 ≤ a) (hA : ∀ q : Nat, s.heap.size ≤ q → A q) (G : gC cI cJ cZ cMic cSrc cSt cAI cAJ D ad A s.heap H locs T) (U : State) (hU : U.heap = H) (hW : s.WarmedH U.vm) : yT0 cI cJ cZ cMic cSrc cSt cAI cAJ h0 ad T H.size U :=
  ⟨fun a h => hA0 a (va_free (wc := cW ad T.1 (cc cI cJ cZ cMic cSrc cSt cAI cAJ ad T)) G.2.1 G.2.2 hA (List.range T.1) (cW_all ad T.1 (cc cI cJ cZ cMic cSrc cSt cAI cAJ ad T)) a h), hT.moved hA0 G.2.2 hU hW⟩
theorem yT1.go {D : va_G} {cI cJ cZ cMic cSrc cSt cAI cAJ : ClassId} {ad : Nat → Nat} {h0 : Nat} {T : AT} {A : Nat → Prop} {s : State} {H : Heap} {locs : List Loc} {tx : Nat × (Nat → Int32)} {q : Nat} (hT : sAll h0 s) (hA0 : ∀ a : Nat, A a → h0 ≤ a) (hA : ∀ q : Nat, s.heap.size ≤ q → A q) (G : gC cI cJ cZ cMic cSrc cSt cAI cAJ D ad A s.heap H locs T) (hO : sO tx q (fun a => h0 ≤ a) s s.heap) (U : State) (hU : U.heap = H) (hW : s.WarmedH U.vm) : yT1 cI cJ cZ cMic cSrc cSt cAI cAJ h0 ad T tx q H.size U :=
  ⟨yT0.go hT hA0 hA G U hU hW, by rw [hU]; exact sO.moved hW.alike (hO.kept (fun a h1 h2 => G.2.2.2.1 a h1 (fun h3 => h2 (hA0 a h3))))⟩
theorem va_alda {p : Program} {l : Launch} {e : Env} {R : Room} {s : State} {m : MethodId} {args : Array Value} {below : List Frame} {meth : Method} {c : Code} {H : Heap} {locs : List Loc} {cells slots : Nat} {Q : State → Prop} {cc0 : ByteArray} {pc : Nat} {ls : Array Slot} {rest : List Value} {D : va_G}   {a : Nat} {tys : List (ClassId × FieldType)} {ws : va_W} (hexec : p.tables.exec = Jvm.exec) (hb : c.code = cc0) (hK : va_K D vwCl tys s) (hP : va_P D vwCl ws H) (q0 t0 : Nat) {cA : ClassId} {ty : FieldType} {n : Nat} {f : Nat → Option Nat} (ha : ws[q0]? = some (a, .inl (cA, n, .inr (.inr (.inr (.inr f)))))) (ht : tys[t0]? = some (cA, .array ty)) {i : Int32} (hin : vp_in i n) (hdg : decode cc0 pc = .ok (.aaload, 1))
    (kk : W p l e R s m args below meth c H locs cells slots Q (F0 m (pc + 1) ls (va_rf (f i.toNatClampNeg) :: rest))) : W p l e R s m args below meth c H locs cells slots Q (F0 m pc ls (.int i :: .ref a :: rest)) := by
  have hlt : i.toNatClampNeg < n := Nat.not_le.mp fun q => hin (Or.inr q)
  exact W.aald (v := va_rf (f i.toNatClampNeg)) (ty := .array ty) hexec hb (hP q0 _ ha) ((hK.2 t0 _ ht).1 n (fun j => va_rf (f j))) rfl (fun q => by cases q) (by show ¬ (i < 0 ∨ (arrV _ _ _).slots.size ≤ _); rw [arrV_size]; exact hin) (by show (arrV _ _ _).slots[_]? = _; rw [arrV_read _ _ hlt]) rfl rfl hdg kk
theorem c_alda {N : Nat} {S : Nat → va_E} {tys : List (ClassId × FieldType)} {H0 : Heap} {ad : Nat → Nat} {p : Program} {l : Launch} {e : Env} {R : Room} {s : State} {m : MethodId} {args : Array Value} {below : List Frame} {meth : Method} {c : Code} {H : Heap} {locs : List Loc} {cells slots : Nat} {Q : State → Prop} {cc0 : ByteArray} {pc : Nat} {ls : Array Slot} {rest : List Value} {D : va_G} {A : Nat → Prop} {Ts : List Cond} {own : String}  (E : cE p c cc0 s m args Ts D own tys) (G : cG D ad N A H0 H locs S) (q t0 : Nat) {cA : ClassId} {ty : FieldType} {n k : Nat} {f : Nat → Option Nat} {i : Int32} {v : Value} (hq : q < N) (hS : S q = .inl (cA, n, .inr (.inr (.inr (.inr f))))) (ht : tys[t0]? = some (cA, .array ty)) (hi : i = nI k) (hk : k < n) (hn : n < 2 ^ 31) (hv : va_rf (f k) = v) (hdg : decode cc0 pc = .ok (.aaload, 1)) (kk : W p l e R s m args below meth c H locs cells slots Q (F0 m (pc + 1) ls (v :: rest))) : W p l e R s m args below meth c H locs cells slots Q (F0 m pc ls (.int i :: .ref (ad q) :: rest)) := by
  subst hi
  subst hv
  refine va_alda E.1 E.2.1 E.2.2.2.2 G.1 q t0 (cW_e hq hS) ht (vp_in_nI hk hn) hdg ?_
  rw [nI_clamp (Nat.lt_trans hk hn)]
  exact kk
