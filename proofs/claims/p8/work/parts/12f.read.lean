/-! Safety of the reference's reading of a text -/
def nP (k : Nat) (v : Int32) : Prop := ((k = 0 → 0 ≤ v.toInt ∧ v.toInt ≤ 5000) ∧ (k = 1 → 0 ≤ v.toInt ∧ v.toInt ≤ 99) ∧ (k = 2 → 0 ≤ v.toInt ∧ v.toInt ≤ 200) ∧ (k = 3 → 0 ≤ v.toInt ∧ v.toInt ≤ 9999) ∧ (k = 4 → 0 ≤ v.toInt ∧ v.toInt ≤ 12) ∧ (k = 5 → 0 ≤ v.toInt ∧ v.toInt ≤ 6))
  ∧ ((6 ≤ k → k < 8 → -999 ≤ v.toInt ∧ v.toInt ≤ 999) ∧ (k = 8 → 0 ≤ v.toInt ∧ v.toInt ≤ 99) ∧ (9 ≤ k → k < 11 → 0 ≤ v.toInt ∧ v.toInt ≤ 12) ∧ (11 ≤ k → k < 35 → -500 ≤ v.toInt ∧ v.toInt ≤ 500) ∧ (35 ≤ k → k < 47 → 0 ≤ v.toInt ∧ v.toInt ≤ 9) ∧ (47 ≤ k → k < 53 → 0 ≤ v.toInt ∧ v.toInt ≤ 3))
  ∧ ((53 ≤ k → k < 59 → 0 ≤ v.toInt ∧ v.toInt ≤ 999) ∧ (59 ≤ k → k < 71 → 0 ≤ v.toInt ∧ v.toInt ≤ 99) ∧ (k = 71 → 0 ≤ v.toInt ∧ v.toInt ≤ 2) ∧ (72 ≤ k → k < 74 → -2000 ≤ v.toInt ∧ v.toInt ≤ 2000) ∧ (74 ≤ k → k < 76 → 0 ≤ v.toInt ∧ v.toInt ≤ 100) ∧ (k = 76 → 0 ≤ v.toInt ∧ v.toInt ≤ 999))
  ∧ ((k = 77 → 0 ≤ v.toInt ∧ v.toInt ≤ 5) ∧ (78 ≤ k → k < 83 → -9 ≤ v.toInt ∧ v.toInt ≤ 9) ∧ (83 ≤ k → k < 95 → 0 ≤ v.toInt ∧ v.toInt ≤ 31) ∧ (95 ≤ k → k < 101 → 0 ≤ v.toInt ∧ v.toInt ≤ 199) ∧ (k = 101 → 0 ≤ v.toInt ∧ v.toInt ≤ 4) ∧ (102 ≤ k → k < 118 → 0 ≤ v.toInt ∧ v.toInt ≤ 11) ∧ (k = 118 → 0 ≤ v.toInt ∧ v.toInt ≤ 12) ∧ (119 ≤ k → k < 131 → 0 ≤ v.toInt ∧ v.toInt ≤ 9))
theorem nP_4 {v : Int32} (h : nP 4 v) : 0 ≤ v.toInt ∧ v.toInt ≤ 12 := h.1.2.2.2.2.1 rfl
theorem nP_5 {v : Int32} (h : nP 5 v) : 0 ≤ v.toInt ∧ v.toInt ≤ 6 := h.1.2.2.2.2.2 rfl
theorem nP_9 {v : Int32} (h : nP 9 v) : 0 ≤ v.toInt ∧ v.toInt ≤ 12 := h.2.1.2.2.1 (by decide) (by decide)
theorem nP_10 {v : Int32} (h : nP 10 v) : 0 ≤ v.toInt ∧ v.toInt ≤ 12 := h.2.1.2.2.1 (by decide) (by decide)
theorem nP_71 {v : Int32} (h : nP 71 v) : 0 ≤ v.toInt ∧ v.toInt ≤ 2 := h.2.2.1.2.2.1 rfl
theorem nP_77 {v : Int32} (h : nP 77 v) : 0 ≤ v.toInt ∧ v.toInt ≤ 5 := h.2.2.2.1 rfl
theorem nP_101 {v : Int32} (h : nP 101 v) : 0 ≤ v.toInt ∧ v.toInt ≤ 4 := h.2.2.2.2.2.2.2.1 rfl
theorem nP_118 {v : Int32} (h : nP 118 v) : 0 ≤ v.toInt ∧ v.toInt ≤ 12 := h.2.2.2.2.2.2.2.2.2.1 rfl
def rlN (N : Nat → Int32) : Prop := (1 ≤ (N 8).toInt → 1 ≤ (N 9).toInt ∧ 1 ≤ (N 10).toInt) ∧ ∀ k : Nat, 59 ≤ k → (k : Int) < 59 + (N 5).toInt → 2 ≤ (N k).toInt
def AP (N D : Nat → Int32) : Prop := (∀ k, nP k (N k)) ∧ (∀ k, nR k (D k)) ∧ rlN N
def F4 (N : Nat → Int32) : Prop := (100 ≤ (N 0).toInt ∧ 1 ≤ (N 1).toInt) ∧ 32 ≤ (N 2).toInt ∧ 1 ≤ (N 3).toInt
/-- the arrays of a text that is being read -/
def RY (S : MS) : Prop := AP (S.2.1 11) (S.2.1 13) ∧ F4 (S.2.1 11)
theorem ry_kp {S S1 : MS} (y : RY S) (k : KP S S1) : RY S1 := by
  unfold RY at *
  rw [k.2]
  exact y
theorem w11 {S S1 : MS} {k : Nat} {v : Int32} (e : S1 = mf S 11 (upd (S.2.1 11) k v)) : (∀ j, j ≠ k → S1.2.1 11 j = S.2.1 11 j) ∧ S1.2.1 11 k = v ∧ S1.2.1 13 = S.2.1 13 ∧ S1.1 = S.1 := by
  rw [e]
  refine ⟨fun j hj => ?_, ?_, rfl, rfl⟩
  · show upd (S.2.1 11) k v j = _
    unfold upd
    rw [if_neg hj]
  · show upd (S.2.1 11) k v k = _
    unfold upd
    rw [if_pos rfl]
theorem w13 {S S1 : MS} {k : Nat} {v : Int32} (e : S1 = mf S 13 (upd (S.2.1 13) k v)) : (∀ j, j ≠ k → S1.2.1 13 j = S.2.1 13 j) ∧ S1.2.1 13 k = v ∧ S1.2.1 11 = S.2.1 11 ∧ S1.1 = S.1 := by
  rw [e]
  refine ⟨fun j hj => ?_, ?_, rfl, rfl⟩
  · show upd (S.2.1 13) k v j = _
    unfold upd
    rw [if_neg hj]
  · show upd (S.2.1 13) k v k = _
    unfold upd
    rw [if_pos rfl]
theorem ks_w {S S1 : MS} (e : S1.1 = S.1) (h : TK S) : KS S S1 := by
  unfold KS TK at *
  rw [e]
  omega
/-- a place that nothing else hangs on -/
def fr_ok (k : Nat) : Prop := 4 ≤ k ∧ k ≠ 5 ∧ k ≠ 8 ∧ k ≠ 9 ∧ k ≠ 10 ∧ (k < 59 ∨ 65 ≤ k)
theorem ap_11 {S S1 : MS} {k : Nat} {v : Int32} (y : AP (S.2.1 11) (S.2.1 13)) (e : S1 = mf S 11 (upd (S.2.1 11) k v)) (hn : nP k v) (hk : fr_ok k) : AP (S1.2.1 11) (S1.2.1 13) := by
  obtain ⟨w1, w2, w3, w4⟩ := w11 e
  unfold fr_ok at hk
  refine ⟨fun j => ?_, by rw [w3]; exact y.2.1, ?_, fun j h1 h2 => ?_⟩
  · by_cases hj : j = k
    · rw [hj, w2]; exact hn
    · rw [w1 j hj]; exact y.1 j
  · rw [w1 8 (by omega), w1 9 (by omega), w1 10 (by omega)]; exact y.2.2.1
  · rw [w1 5 (by omega)] at h2
    have := nP_5 (y.1 5)
    rw [w1 j (by omega)]
    exact y.2.2.2 j h1 h2
theorem ry_11 {S S1 : MS} {k : Nat} {v : Int32} (y : RY S) (e : S1 = mf S 11 (upd (S.2.1 11) k v)) (hn : nP k v) (hk : fr_ok k) : RY S1 := by
  refine ⟨ap_11 y.1 e hn hk, ?_⟩
  obtain ⟨w1, w2, w3, w4⟩ := w11 e
  unfold fr_ok at hk
  unfold F4
  rw [w1 0 (by omega), w1 1 (by omega), w1 2 (by omega), w1 3 (by omega)]
  exact y.2
theorem ry_13 {S S1 : MS} {k : Nat} {v : Int32} (y : RY S) (e : S1 = mf S 13 (upd (S.2.1 13) k v)) (hn : nR k v) : RY S1 := by
  obtain ⟨w1, w2, w3, w4⟩ := w13 e
  refine ⟨⟨by rw [w3]; exact y.1.1, fun j => ?_, by rw [w3]; exact y.1.2.2⟩, by rw [w3]; exact y.2⟩
  by_cases hj : j = k
  · rw [hj, w2]; exact hn
  · rw [w1 j hj]; exact y.1.2.1 j
/-- reading goes on and leaves things in order -/
def RP (S S1 : MS) : Prop := KS S S1 ∧ RY S1
theorem rmic_b {S : MS} (h : TK S) (y : RY S) (l1 : Int32) (e1 : l1 = S.2.1 11 4) (g : l1.toInt = 12 → 0 < (S.1 5).toInt) : Tot (fr_readMic_b18 S l1) (fun S1 => RP S S1) := by
  have z0 : (0 : Int32).toInt = 0 := by decide
  have z1 : (1 : Int32).toInt = 1 := by decide
  have z9 : (9 : Int32).toInt = 9 := by decide
  have z11 : (11 : Int32).toInt = 11 := by decide
  have z23 : (23 : Int32).toInt = 23 := by decide
  have z35 : (35 : Int32).toInt = 35 := by decide
  have za : (-500 : Int32).toInt = -500 := by decide
  have zb : (500 : Int32).toInt = 500 := by decide
  have y4 := nP_4 (y.1.1 4)
  rw [← e1] at y4
  unfold fr_readMic_b18
  refine tot_bind (tnext h) (fun S2 d2 => ?_)
  have k2 : KP S S2 := d2.1
  refine tot_bind2 (tsigned (-500) 500 (by omega) k2.1.1) (fun r8 S5 d5 => ?_)
  have k5 : KP S S5 := k2.tr d5.1
  have b5 : (-500 : Int32).toInt ≤ r8.toInt ∧ r8.toInt ≤ (500 : Int32).toInt := d5.2
  refine tot_bind2 (tsigned (-500) 500 (by omega) k5.1.1) (fun r12 S9 d9 => ?_)
  have k9 : KP S S9 := k5.tr d9.1
  have b9 : (-500 : Int32).toInt ≤ r12.toInt ∧ r12.toInt ≤ (500 : Int32).toInt := d9.2
  refine tot_bind2 (tnumber 1 9 k9.1.1) (fun r16 S13 d13 => ?_)
  have k13 : KP S S13 := k9.tr d13.1
  have b13 : (1 : Int32).toInt ≤ r16.toInt ∧ r16.toInt ≤ (9 : Int32).toInt := d13.2.1 (by omega)
  have y13 := ry_kp y k13
  have m13 := k13.1.2
  refine tot_let (fun v17 e17 => ?_)
  have q17 := i_eq e17
  refine tot_if (fun c => ?_) (fun c => tot_some ⟨k13.1, y13⟩)
  replace c := i_le c
  have hl : l1.toInt ≤ 11 := by omega
  refine tot_let (fun v19 e19 => ?_)
  have q19 := i_add e19 (by omega) (by omega)
  have x19 := i_cl (i := v19) (by omega)
  refine tot_oif (i_inb (by omega) (by omega)) ?_
  refine tot_let (fun S21 e21 => ?_)
  have y21 := ry_11 y13 e21 (by unfold nP; omega) (by unfold fr_ok; omega)
  refine tot_let (fun v22 e22 => ?_)
  have q22 := i_add e22 (by omega) (by omega)
  have x22 := i_cl (i := v22) (by omega)
  refine tot_oif (i_inb (by omega) (by omega)) ?_
  refine tot_let (fun S24 e24 => ?_)
  have y24 := ry_11 y21 e24 (by unfold nP; omega) (by unfold fr_ok; omega)
  refine tot_let (fun v25 e25 => ?_)
  have q25 := i_add e25 (by omega) (by omega)
  have x25 := i_cl (i := v25) (by omega)
  refine tot_oif (i_inb (by omega) (by omega)) ?_
  refine tot_let (fun S27 e27 => ?_)
  have y27 := ry_11 y24 e27 (by unfold nP; omega) (by unfold fr_ok; omega)
  refine tot_let (fun v28 e28 => ?_)
  rw [(w11 e27).1 4 (by omega), (w11 e24).1 4 (by omega), (w11 e21).1 4 (by omega), k13.2, ← e1] at e28
  have q28 := i_eq e28
  refine tot_let (fun v29 e29 => ?_)
  have q29 := i_add e29 (by omega) (by omega)
  refine tot_let (fun S30 e30 => ?_)
  have y30 := ry_11 y27 e30 (by unfold nP; omega) (by unfold fr_ok; omega)
  exact tot_some ⟨k13.1.tr (ks_w ((w11 e30).2.2.2.trans ((w11 e27).2.2.2.trans ((w11 e24).2.2.2.trans (w11 e21).2.2.2))) k13.1.1), y30⟩
theorem rmic {S : MS} (h : TK S) (y : RY S) : Tot (fr_readMic S) (fun S1 => RP S S1) := by
  have z4 : (4 : Int32).toInt = 4 := by decide
  have z12 : (12 : Int32).toInt = 12 := by decide
  unfold fr_readMic
  refine tot_let (fun v2 e2 => ?_)
  refine tot_if (fun c => ?_) (fun c => ?_)
  · refine tot_bind (tfaults 4 h (by omega)) (fun S4 d4 => ?_)
    refine tot_w (rmic_b d4.1.1.1 (ry_kp y d4.1) v2 (by rw [d4.1.2]; exact e2) (fun _ => d4.2)) (fun S1 k => ⟨d4.1.1.tr k.1, k.2⟩)
  · replace c := i_ne c
    exact rmic_b h y v2 e2 (fun q => by omega)
