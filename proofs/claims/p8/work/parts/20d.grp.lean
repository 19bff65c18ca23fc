/-! what the class's scene s (being read) and the reference's new plan have in common -/
section
variable {s : Nat} {T T1 : AT} {P P1 D D1 : Nat → Int32}
def HDg (s : Nat) (T : AT) (P : Nat → Int32) : Prop := T.2.2.1 s 0 = P 0 ∧ T.2.2.1 s 1 = P 1 ∧ T.2.2.1 s 2 = P 2 ∧ T.2.2.1 s 3 = P 3
def MICg (s : Nat) (T : AT) (P : Nat → Int32) : Prop := ∃ c : Nat, c ≤ 12 ∧ T.2.2.1 s 5 = nI c ∧ P 4 = nI c ∧ (∀ m, m < c → T.2.2.1 (s + 160 + m) 0 = P (11 + m) ∧ T.2.2.1 (s + 160 + m) 1 = P (23 + m) ∧ T.2.2.1 (s + 160 + m) 2 = P (35 + m) ∧ T.2.2.1 (s + 160 + m) 3 = P (83 + m)) ∧ ∀ m, c ≤ m → m < 12 → P (83 + m) = 0
def GRDg (s : Nat) (T : AT) (P : Nat → Int32) : Prop := T.2.2.1 (s + 2) 3 = P 9 ∧ T.2.2.1 (s + 2) 4 = P 10 ∧ (P 8 = 0 ∧ P 9 = 0 ∧ P 10 = 0 ∨ 1 ≤ (P 8).toInt ∧ 1 ≤ (P 9).toInt ∧ T.2.2.1 (s + 2) 0 = P 6 ∧ T.2.2.1 (s + 2) 1 = P 7 ∧ T.2.2.1 (s + 2) 2 = P 8 ∧ T.2.2.1 (s + 3) 2 = P 9 - 1 ∧ T.2.2.1 (s + 3) 3 = P 10 - 1)
def SRCg (s : Nat) (T : AT) (P D : Nat → Int32) : Prop := ∃ c : Nat, c ≤ 6 ∧ T.2.2.1 s 8 = nI c ∧ P 5 = nI c ∧ ∀ k, k < c → T.2.2.1 (s + 172 + k) 0 = P (47 + k) ∧ T.2.2.1 (s + 172 + k) 5 = P (53 + k) ∧ T.2.2.1 (s + 172 + k) 6 = P (59 + k) ∧ T.2.2.1 (s + 172 + k) 7 = P (65 + k) ∧ T.2.2.1 (s + 172 + k) 8 = P (95 + k) ∧ (T.2.2.1 (s + 172 + k) 9 = 0 ∧ D (25 + k) = 1 ∨ T.2.2.1 (s + 172 + k) 9 = 1 ∧ D (25 + k) = 0) ∧ T.2.2.1 (s + 172 + k) 1 = D (31 + k) ∧ T.2.2.1 (s + 172 + k) 2 = D (37 + k) ∧ T.2.2.1 (s + 172 + k) 3 = D (43 + k) ∧ T.2.2.1 (s + 172 + k) 4 = D (49 + k)
def WALg (s : Nat) (T : AT) (P : Nat → Int32) : Prop := ∃ c : Nat, c ≤ 2 ∧ T.2.2.1 s 11 = nI c ∧ P 71 = nI c ∧ ∀ k, k < c → T.2.2.1 (s + 11) k = P (72 + k) ∧ T.2.2.1 (s + 12) k = P (74 + k)
def FADg (s : Nat) (T : AT) (P : Nat → Int32) : Prop := T.2.2.1 s 12 = P 76
def TAPg (s : Nat) (T : AT) (P : Nat → Int32) : Prop := ∃ c : Nat, c ≤ 5 ∧ T.2.2.1 s 14 = nI c ∧ P 77 = nI c ∧ ∀ k, k < c → T.2.2.1 (s + 13) k = P (78 + k)
def ZONg (s : Nat) (T : AT) (P : Nat → Int32) : Prop := ∃ c : Nat, c ≤ 4 ∧ T.2.2.1 (s + 2) 7 = nI c ∧ P 101 = nI c ∧ ∀ k, k < c → ∀ j, j < 4 → T.2.2.1 (s + 5 + k) j = P (102 + 4 * k + j)
def SHDg (s : Nat) (T : AT) (P : Nat → Int32) : Prop := ∃ c : Nat, c ≤ 12 ∧ T.2.2.1 s 16 = nI c ∧ P 118 = nI c ∧ ∀ k, k < c → T.2.2.1 (s + 14) k = P (119 + k)
def DZg (D : Nat → Int32) : Prop := ∀ j, j < 25 → D j = 0
theorem HDg.cg (h : HDg s T P) (a : ∀ j, j < 4 → T1.2.2.1 s j = T.2.2.1 s j) (b : ∀ j, j < 4 → P1 j = P j) : HDg s T1 P1 := by
  unfold HDg at h ⊢
  rw [a 0 (by decide), a 1 (by decide), a 2 (by decide), a 3 (by decide), b 0 (by decide), b 1 (by decide), b 2 (by decide), b 3 (by decide)]
  exact h
theorem MICg.cg (h : MICg s T P) (a0 : T1.2.2.1 s 5 = T.2.2.1 s 5) (a : ∀ m k, s + 160 ≤ m → m < s + 172 → T1.2.2.1 m k = T.2.2.1 m k) (b : ∀ j, j = 4 ∨ 11 ≤ j ∧ j < 47 ∨ 83 ≤ j ∧ j < 95 → P1 j = P j) : MICg s T1 P1 := by
  obtain ⟨c, h1, h2, h3, h4, h5⟩ := h
  refine ⟨c, h1, a0.trans h2, (b 4 (by omega)).trans h3, fun m hm => ?_, fun m hm hm2 => (b _ (by omega)).trans (h5 m hm hm2)⟩
  rw [a _ _ (by omega) (by omega), a _ _ (by omega) (by omega), a _ _ (by omega) (by omega), a _ _ (by omega) (by omega), b (11 + m) (by omega), b (23 + m) (by omega), b (35 + m) (by omega), b (83 + m) (by omega)]
  exact h4 m hm
theorem GRDg.cg (h : GRDg s T P) (a : ∀ k, k < 5 → T1.2.2.1 (s + 2) k = T.2.2.1 (s + 2) k) (a2 : ∀ k, T1.2.2.1 (s + 3) k = T.2.2.1 (s + 3) k) (b : ∀ j, 6 ≤ j → j ≤ 10 → P1 j = P j) : GRDg s T1 P1 := by
  unfold GRDg at h ⊢
  rw [a 0 (by decide), a 1 (by decide), a 2 (by decide), a 3 (by decide), a 4 (by decide), a2, a2, b 6 (by decide) (by decide), b 7 (by decide) (by decide), b 8 (by decide) (by decide), b 9 (by decide) (by decide), b 10 (by decide) (by decide)]
  exact h
theorem SRCg.cg (h : SRCg s T P D) (a0 : T1.2.2.1 s 8 = T.2.2.1 s 8) (a : ∀ m k, s + 172 ≤ m → m < s + 178 → T1.2.2.1 m k = T.2.2.1 m k) (b : ∀ j, j = 5 ∨ 47 ≤ j ∧ j < 71 ∨ 95 ≤ j ∧ j < 101 → P1 j = P j) (d : ∀ j, 25 ≤ j → j < 55 → D1 j = D j) : SRCg s T1 P1 D1 := by
  obtain ⟨c, h1, h2, h3, h4⟩ := h
  refine ⟨c, h1, a0.trans h2, (b 5 (by omega)).trans h3, fun k hk => ?_⟩
  have q : ∀ j, T1.2.2.1 (s + 172 + k) j = T.2.2.1 (s + 172 + k) j := fun j => a _ _ (by omega) (by omega)
  rw [q, q, q, q, q, q, q, q, q, q, b (47 + k) (by omega), b (53 + k) (by omega), b (59 + k) (by omega), b (65 + k) (by omega), b (95 + k) (by omega), d (25 + k) (by omega) (by omega), d (31 + k) (by omega) (by omega), d (37 + k) (by omega) (by omega), d (43 + k) (by omega) (by omega), d (49 + k) (by omega) (by omega)]
  exact h4 k hk
theorem WALg.cg (h : WALg s T P) (a0 : T1.2.2.1 s 11 = T.2.2.1 s 11) (a : ∀ k, T1.2.2.1 (s + 11) k = T.2.2.1 (s + 11) k) (a2 : ∀ k, T1.2.2.1 (s + 12) k = T.2.2.1 (s + 12) k) (b : ∀ j, 71 ≤ j → j < 76 → P1 j = P j) : WALg s T1 P1 := by
  obtain ⟨c, h1, h2, h3, h4⟩ := h
  refine ⟨c, h1, a0.trans h2, (b 71 (by omega) (by omega)).trans h3, fun k hk => ?_⟩
  rw [a, a2, b (72 + k) (by omega) (by omega), b (74 + k) (by omega) (by omega)]
  exact h4 k hk
theorem FADg.cg (h : FADg s T P) (a : T1.2.2.1 s 12 = T.2.2.1 s 12) (b : P1 76 = P 76) : FADg s T1 P1 := a.trans (h.trans b.symm)
theorem TAPg.cg (h : TAPg s T P) (a0 : T1.2.2.1 s 14 = T.2.2.1 s 14) (a : ∀ k, T1.2.2.1 (s + 13) k = T.2.2.1 (s + 13) k) (b : ∀ j, 77 ≤ j → j < 83 → P1 j = P j) : TAPg s T1 P1 := by
  obtain ⟨c, h1, h2, h3, h4⟩ := h
  refine ⟨c, h1, a0.trans h2, (b 77 (by omega) (by omega)).trans h3, fun k hk => ?_⟩
  rw [a, b (78 + k) (by omega) (by omega)]
  exact h4 k hk
theorem ZONg.cg (h : ZONg s T P) (a0 : T1.2.2.1 (s + 2) 7 = T.2.2.1 (s + 2) 7) (a : ∀ m k, s + 5 ≤ m → m < s + 9 → T1.2.2.1 m k = T.2.2.1 m k) (b : ∀ j, 101 ≤ j → j < 118 → P1 j = P j) : ZONg s T1 P1 := by
  obtain ⟨c, h1, h2, h3, h4⟩ := h
  refine ⟨c, h1, a0.trans h2, (b 101 (by omega) (by omega)).trans h3, fun k hk j hj => ?_⟩
  rw [a _ _ (by omega) (by omega), b _ (by omega) (by omega)]
  exact h4 k hk j hj
theorem SHDg.cg (h : SHDg s T P) (a0 : T1.2.2.1 s 16 = T.2.2.1 s 16) (a : ∀ k, T1.2.2.1 (s + 14) k = T.2.2.1 (s + 14) k) (b : ∀ j, 118 ≤ j → j < 131 → P1 j = P j) : SHDg s T1 P1 := by
  obtain ⟨c, h1, h2, h3, h4⟩ := h
  refine ⟨c, h1, a0.trans h2, (b 118 (by omega) (by omega)).trans h3, fun k hk => ?_⟩
  rw [a, b (119 + k) (by omega) (by omega)]
  exact h4 k hk
def SCN0 (s : Nat) (T : AT) (P D : Nat → Int32) : Prop := MICg s T P ∧ GRDg s T P ∧ SRCg s T P D ∧ WALg s T P ∧ FADg s T P ∧ TAPg s T P ∧ ZONg s T P ∧ SHDg s T P ∧ DZg D
def SRF (s : Nat) (T : AT) : Prop := T.2.2.2.2 s 4 = some (s + 1) ∧ T.2.2.2.2 s 6 = some (s + 2) ∧ T.2.2.2.2 s 7 = some (s + 10) ∧ T.2.2.2.2 s 9 = some (s + 11) ∧ T.2.2.2.2 s 10 = some (s + 12) ∧ T.2.2.2.2 s 13 = some (s + 13) ∧ T.2.2.2.2 s 15 = some (s + 14) ∧ T.2.2.2.2 s 17 = some (s + 15) ∧ (∀ i, i < 12 → T.2.2.2.2 (s + 1) i = some (s + 160 + i)) ∧ (∀ i, i < 6 → T.2.2.2.2 (s + 10) i = some (s + 172 + i)) ∧ T.2.2.2.2 (s + 2) 5 = some (s + 3) ∧ T.2.2.2.2 (s + 2) 6 = some (s + 4) ∧ (∀ i, i < 4 → T.2.2.2.2 (s + 4) i = some (s + 5 + i)) ∧ T.2.2.2.2 (s + 2) 8 = some (s + 9) ∧ ∀ c, c < 144 → T.2.2.2.2 (s + 15) c = some (s + 16 + c)
theorem SRF.sub (h : SRF s T) (e : T1.2.2.2.2 = T.2.2.2.2) : SRF s T1 := by
  unfold SRF at h ⊢
  rw [e]
  exact h
def SCNq (s : Nat) (T : AT) (P D : Nat → Int32) : Prop := HDg s T P ∧ SCN0 s T P D
/-- the outcome of a line -/
def LNq (b : Nat → Int32) (n c i s : Nat) (T T1 : AT) (S1 : MS) (k : Nat) : Prop := (k = 0 ∧ (∃ j, i < j ∧ PRq b n c j T1 S1) ∧ SCNq s T1 (S1.2.1 11) (S1.2.1 13) ∧ T1.2.2.2.2 = T.2.2.2.2) ∨ (k = 3 ∧ ERq T1 S1)
end
