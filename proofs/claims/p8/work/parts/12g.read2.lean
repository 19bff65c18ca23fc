theorem rwall_b {S : MS} (h : TK S) (y : RY S) (l1 : Int32) (e1 : l1 = S.2.1 11 71) (g : l1.toInt = 2 → 0 < (S.1 5).toInt) : Tot (fr_readWall_b18 S l1) (fun S1 => RP S S1) := by
  have z0 : (0 : Int32).toInt = 0 := by decide
  have z1 : (1 : Int32).toInt = 1 := by decide
  have z72 : (72 : Int32).toInt = 72 := by decide
  have z74 : (74 : Int32).toInt = 74 := by decide
  have z100 : (100 : Int32).toInt = 100 := by decide
  have z2000 : (2000 : Int32).toInt = 2000 := by decide
  have zm2000 : ((-2000) : Int32).toInt = -2000 := by decide
  have y4 := nP_71 (y.1.1 71)
  rw [← e1] at y4
  unfold fr_readWall_b18
  refine tot_bind (tnext h) (fun S2 d2 => ?_)
  have k2 : KP S S2 := d2.1
  refine tot_bind2 (tsigned (-2000) 2000 (by omega) k2.1.1) (fun r8 S5 d5 => ?_)
  have k5 : KP S S5 := k2.tr d5.1
  have b5 : (-2000 : Int32).toInt ≤ r8.toInt ∧ r8.toInt ≤ (2000 : Int32).toInt := d5.2
  refine tot_bind2 (tnumber 1 100 k5.1.1) (fun r12 S9 d9 => ?_)
  have k9 : KP S S9 := k5.tr d9.1
  have b9 : (1 : Int32).toInt ≤ r12.toInt ∧ r12.toInt ≤ (100 : Int32).toInt := d9.2.1 (by omega)
  have y9 := ry_kp y k9
  have m9 := k9.1.2
  refine tot_let (fun v13 e13 => ?_)
  have q13 := i_eq e13
  refine tot_if (fun c => ?_) (fun c => tot_some ⟨k9.1, y9⟩)
  replace c := i_le c
  have hl : l1.toInt ≤ 1 := by omega
  refine tot_let (fun v15 ev15 => ?_)
  have qv15 := i_add ev15 (by omega) (by omega)
  have xv15 := i_cl (i := v15) (by omega)
  refine tot_oif (i_inb (by omega) (by omega)) ?_
  refine tot_let (fun S17 e17 => ?_)
  have y17 := ry_11 y9 e17 (by unfold nP; omega) (by unfold fr_ok; omega)
  refine tot_let (fun v18 ev18 => ?_)
  have qv18 := i_add ev18 (by omega) (by omega)
  have xv18 := i_cl (i := v18) (by omega)
  refine tot_oif (i_inb (by omega) (by omega)) ?_
  refine tot_let (fun S20 e20 => ?_)
  have y20 := ry_11 y17 e20 (by unfold nP; omega) (by unfold fr_ok; omega)
  refine tot_let (fun v21 e21 => ?_)
  rw [(w11 e20).1 71 (by omega), (w11 e17).1 71 (by omega), k9.2, ← e1] at e21
  have q21 := i_eq e21
  refine tot_let (fun v22 e22 => ?_)
  have q22 := i_add e22 (by omega) (by omega)
  refine tot_let (fun S23 e23 => ?_)
  have y23 := ry_11 y20 e23 (by unfold nP; omega) (by unfold fr_ok; omega)
  exact tot_some ⟨k9.1.tr (ks_w ((w11 e23).2.2.2.trans ((w11 e20).2.2.2.trans (w11 e17).2.2.2)) k9.1.1), y23⟩
theorem rwall {S : MS} (h : TK S) (y : RY S) : Tot (fr_readWall S) (fun S1 => RP S S1) := by
  have z4 : (4 : Int32).toInt = 4 := by decide
  have z2 : (2 : Int32).toInt = 2 := by decide
  unfold fr_readWall
  refine tot_let (fun v2 e2 => ?_)
  refine tot_if (fun c => ?_) (fun c => ?_)
  · refine tot_bind (tfaults 4 h (by omega)) (fun S4 d4 => ?_)
    refine tot_w (rwall_b d4.1.1.1 (ry_kp y d4.1) v2 (by rw [d4.1.2]; exact e2) (fun _ => d4.2)) (fun S1 k => ⟨d4.1.1.tr k.1, k.2⟩)
  · replace c := i_ne c
    exact rwall_b h y v2 e2 (fun q => by omega)
theorem rfade_b {S : MS} (h : TK S) (y : RY S) : Tot (fr_readFade_b15 S) (fun S1 => RP S S1) := by
  have z0 : (0 : Int32).toInt = 0 := by decide
  have z1 : (1 : Int32).toInt = 1 := by decide
  have z999 : (999 : Int32).toInt = 999 := by decide
  unfold fr_readFade_b15 fr_readFade_b43
  refine tot_bind (tnext h) (fun S2 d2 => ?_)
  have k2 : KP S S2 := d2.1
  refine tot_bind2 (tnumber 1 999 k2.1.1) (fun r8 S5 d5 => ?_)
  have k5 : KP S S5 := k2.tr d5.1
  have b5 : (1 : Int32).toInt ≤ r8.toInt ∧ r8.toInt ≤ (999 : Int32).toInt := d5.2.1 (by omega)
  have y5 := ry_kp y k5
  refine tot_let (fun v9 e9 => ?_)
  refine tot_if (fun c => ?_) (fun c => tot_some ⟨k5.1, y5⟩)
  refine tot_let (fun S11 e11 => ?_)
  have y11 := ry_11 y5 e11 (by unfold nP; omega) (by unfold fr_ok; omega)
  exact tot_some ⟨k5.1.tr (ks_w (w11 e11).2.2.2 k5.1.1), y11⟩
theorem rfade {S : MS} (h : TK S) (y : RY S) : Tot (fr_readFade S) (fun S1 => RP S S1) := by
  have z3 : (3 : Int32).toInt = 3 := by decide
  unfold fr_readFade
  refine tot_let (fun v2 e2 => ?_)
  refine tot_if (fun c => rfade_b h y) (fun c => ?_)
  refine tot_bind (tfaults 3 h (by omega)) (fun S4 d4 => ?_)
  exact tot_w (rfade_b d4.1.1.1 (ry_kp y d4.1)) (fun S1 k => ⟨d4.1.1.tr k.1, k.2⟩)
theorem rfil : ∀ (n : Nat) (S : MS), TK S → RY S → 5 - (S.2.1 11 77).toInt < (n : Int) → Tot (fr_readFilter_b19 n S) (fun S1 => RP S S1) := by
  have z0 : (0 : Int32).toInt = 0 := by decide
  have z1 : (1 : Int32).toInt = 1 := by decide
  have z3 : (3 : Int32).toInt = 3 := by decide
  have z4 : (4 : Int32).toInt = 4 := by decide
  have z5 : (5 : Int32).toInt = 5 := by decide
  have z9 : (9 : Int32).toInt = 9 := by decide
  have z45 : (45 : Int32).toInt = 45 := by decide
  have z78 : (78 : Int32).toInt = 78 := by decide
  have zm9 : ((-9) : Int32).toInt = -9 := by decide
  intro n
  induction n with
  | zero =>
    intro S h y hm
    have y4 := nP_77 (y.1.1 77)
    exfalso
    omega
  | succ n ih =>
    intro S h y hm
    have y4 := nP_77 (y.1.1 77)
    have go : ∀ T : MS, KP S T → ((S.2.1 11 77).toInt = 5 → 0 < (T.1 5).toInt) → Tot (fr_readFilter_b65 (fr_readFilter_b19 n) T) (fun S1 => RP S S1) := by
      intro T k g
      unfold fr_readFilter_b65
      refine tot_bind2 (tsigned (-9) 9 (by omega) k.1.1) (fun r5 S2 d2 => ?_)
      have k2 : KP S S2 := k.tr d2.1
      have b2 : (-9 : Int32).toInt ≤ r5.toInt ∧ r5.toInt ≤ (9 : Int32).toInt := d2.2
      have y2 := ry_kp y k2
      have m2 := d2.1.1.2
      refine tot_let (fun v6 e6 => ?_)
      have q6 := i_eq e6
      refine tot_if (fun c => ?_) (fun c => tot_some ⟨k2.1, y2⟩)
      replace c := i_le c
      have m3 : (T.1 5).toInt ≤ 0 := by
        have q : (0 < (T.1 5).toInt → 0 < (S2.1 5).toInt) := m2.1
        omega
      have hl : (S.2.1 11 77).toInt ≤ 4 := by omega
      refine tot_let (fun v8 e8 => ?_)
      rw [k2.2] at e8
      have q8 := i_eq e8
      refine tot_let (fun v9 e9 => ?_)
      have q9 := i_add e9 (by omega) (by omega)
      have x9 := i_cl (i := v9) (by omega)
      refine tot_oif (i_inb (by omega) (by omega)) ?_
      refine tot_let (fun S11 e11 => ?_)
      have y11 := ry_11 y2 e11 (by unfold nP; omega) (by unfold fr_ok; omega)
      refine tot_let (fun v12 e12 => ?_)
      rw [(w11 e11).1 77 (by omega), k2.2] at e12
      have q12 := i_eq e12
      refine tot_let (fun v13 e13 => ?_)
      have q13 := i_add e13 (by omega) (by omega)
      refine tot_let (fun S14 e14 => ?_)
      have y14 := ry_11 y11 e14 (by unfold nP; omega) (by unfold fr_ok; omega)
      have k14 : KS S S14 := k2.1.tr (ks_w ((w11 e14).2.2.2.trans (w11 e11).2.2.2) k2.1.1)
      have n14 : (S14.2.1 11 77).toInt = v13.toInt := by rw [(w11 e14).2.1]
      have more : Tot (fr_readFilter_b19 n S14) (fun S1 => RP S S1) := tot_w (ih S14 k14.1 y14 (by omega)) (fun S1 k => ⟨k14.tr k.1, k.2⟩)
      refine tot_let (fun v15 e15 => ?_)
      refine tot_if (fun c => more) (fun c => ?_)
      refine tot_bindp (R := fun r : Int32 => True) (tot_w (tsignhere 45) (fun r q => ⟨q.1, trivial⟩)) (fun r20 _ => ?_)
      exact tot_if (fun c => tot_some ⟨k14, y14⟩) (fun c => more)
    unfold fr_readFilter_b19
    refine tot_let (fun v2 e2 => ?_)
    have q2 := i_eq e2
    have over : ∀ T : MS, KP S T → Tot (fr_readFilter_b56 (fr_readFilter_b19 n) T 1) (fun S1 => RP S S1) := by
      intro T k
      unfold fr_readFilter_b56
      refine tot_if (fun c => absurd (i_eq c) (by omega)) (fun c => ?_)
      refine tot_bind (tfaults 4 k.1.1 (by omega)) (fun S3 d3 => ?_)
      exact go S3 (k.tr d3.1) (fun _ => d3.2)
    refine tot_if (fun c => ?_) (fun c => ?_)
    · unfold fr_readFilter_b35
      refine tot_if (fun c => absurd (i_eq c) (by omega)) (fun c => ?_)
      refine tot_let (fun v3 e3 => ?_)
      refine tot_if (fun c => ?_) (fun c => over S (KP.rf h))
      refine tot_bind2 (tlook 0 9 h) (fun r8 S5 d5 => ?_)
      exact over S5 d5.1
    · replace c := i_ne c
      unfold fr_readFilter_b35
      refine tot_if (fun c => ?_) (fun c => absurd rfl c)
      unfold fr_readFilter_b56
      refine tot_if (fun c => ?_) (fun c => absurd rfl c)
      exact go S (KP.rf h) (fun q => by omega)
theorem rfilter {S : MS} (h : TK S) (y : RY S) : Tot (fr_readFilter S) (fun S1 => RP S S1) := by
  have z3 : (3 : Int32).toInt = 3 := by decide
  have go : ∀ T : MS, KP S T → Tot (fr_readFilter_b15 T) (fun S1 => RP S S1) := by
    intro T k
    unfold fr_readFilter_b15
    refine tot_bind (tnext k.1.1) (fun S2 d2 => ?_)
    have k2 := k.tr d2.1
    have y2 := ry_kp y k2
    have := nP_77 (y2.1.1 77)
    exact tot_w (rfil 16384 S2 k2.1.1 y2 (by omega)) (fun S1 k => ⟨k2.1.tr k.1, k.2⟩)
  unfold fr_readFilter
  refine tot_let (fun v2 e2 => ?_)
  refine tot_if (fun c => go S (KP.rf h)) (fun c => ?_)
  refine tot_bind (tfaults 3 h (by omega)) (fun S4 d4 => ?_)
  exact go S4 d4.1
theorem rclock_b {S : MS} (h : TK S) (y : RY S) (l1 : Int32) (g : (S.1 5).toInt ≤ 0 → 0 ≤ l1.toInt ∧ l1.toInt ≤ 11) : Tot (fr_readClock_b42 S l1) (fun S1 => RP S S1) := by
  have z0 : (0 : Int32).toInt = 0 := by decide
  have z1 : (1 : Int32).toInt = 1 := by decide
  have z31 : (31 : Int32).toInt = 31 := by decide
  have z83 : (83 : Int32).toInt = 83 := by decide
  unfold fr_readClock_b42 fr_readClock_b71
  refine tot_bind (tnext h) (fun S2 d2 => ?_)
  have k2 : KP S S2 := d2.1
  refine tot_bind2 (tnumber 1 31 k2.1.1) (fun r8 S5 d5 => ?_)
  have k5 : KP S S5 := k2.tr d5.1
  have b5 : (1 : Int32).toInt ≤ r8.toInt ∧ r8.toInt ≤ (31 : Int32).toInt := d5.2.1 (by omega)
  have y5 := ry_kp y k5
  have m5 := k5.1.2
  refine tot_let (fun v9 e9 => ?_)
  have q9 := i_eq e9
  refine tot_if (fun c => ?_) (fun c => tot_some ⟨k5.1, y5⟩)
  replace c := i_eq c
  have hl : 0 ≤ l1.toInt ∧ l1.toInt ≤ 11 := g (by omega)
  refine tot_let (fun v11 ev11 => ?_)
  have qv11 := i_add ev11 (by omega) (by omega)
  have xv11 := i_cl (i := v11) (by omega)
  refine tot_oif (i_inb (by omega) (by omega)) ?_
  refine tot_let (fun S13 e13 => ?_)
  have y13 := ry_11 y5 e13 (by unfold nP; omega) (by unfold fr_ok; omega)
  exact tot_some ⟨k5.1.tr (ks_w (w11 e13).2.2.2 k5.1.1), y13⟩
theorem rclock {S : MS} (h : TK S) (y : RY S) : Tot (fr_readClock S) (fun S1 => RP S S1) := by
  have z0 : (0 : Int32).toInt = 0 := by decide
  have z1 : (1 : Int32).toInt = 1 := by decide
  have z3 : (3 : Int32).toInt = 3 := by decide
  have z83 : (83 : Int32).toInt = 83 := by decide
  have y4 := nP_4 (y.1.1 4)
  unfold fr_readClock
  refine tot_bind (tnext h) (fun S2 d2 => ?_)
  have k2 : KP S S2 := d2.1
  refine tot_let (fun v5 e5 => ?_)
  rw [k2.2] at e5
  have q5 := i_eq e5
  refine tot_let (fun v6 e6 => ?_)
  have q6 := i_sub e6 (by omega) (by omega)
  refine tot_bind2 (tlook 0 v6 k2.1.1) (fun r10 S7 d7 => ?_)
  have k7 : KP S S7 := k2.tr d7.1
  have b7 : (S7.1 5).toInt ≤ 0 → (0 : Int32).toInt ≤ r10.toInt ∧ r10.toInt ≤ v6.toInt := d7.2.2
  have y7 := ry_kp y k7
  refine tot_let (fun v11 e11 => ?_)
  have q11 := i_eq e11
  have nxt : ∀ T : MS, KP S7 T → Tot (fr_readClock_b42 T r10) (fun S1 => RP S S1) := by
    intro T k
    have m := k.1.2
    have t := k7.1.1
    unfold TK at t
    have t2 := k.1.1
    unfold TK at t2
    exact tot_w (rclock_b k.1.1 (ry_kp y7 k) r10 (fun q => by omega)) (fun S1 k2 => ⟨k7.1.tr (k.1.tr k2.1), k2.2⟩)
  refine tot_if (fun c => ?_) (fun c => nxt S7 (KP.rf k7.1.1))
  replace c := i_eq c
  refine tot_let (fun v13 e13 => ?_)
  have q13 := i_add e13 (by omega) (by omega)
  refine tot_oif (i_inb (by omega) (by omega)) ?_
  refine tot_let (fun v15 e15 => ?_)
  refine tot_if (fun c => nxt S7 (KP.rf k7.1.1)) (fun c => ?_)
  refine tot_bind (tfaults 3 k7.1.1 (by omega)) (fun S17 d17 => ?_)
  exact nxt S17 d17.1
theorem roff_b {S : MS} (h : TK S) (y : RY S) (l1 : Int32) (g : (S.1 5).toInt ≤ 0 → 0 ≤ l1.toInt ∧ l1.toInt ≤ 5) : Tot (fr_readOff_b42 S l1) (fun S1 => RP S S1) := by
  have z0 : (0 : Int32).toInt = 0 := by decide
  have z25 : (25 : Int32).toInt = 25 := by decide
  unfold fr_readOff_b42 fr_readOff_b63
  refine tot_bind (tnext h) (fun S2 d2 => ?_)
  have k2 : KP S S2 := d2.1
  have y2 := ry_kp y k2
  have m2 := k2.1.2
  refine tot_let (fun v5 e5 => ?_)
  have q5 := i_eq e5
  refine tot_if (fun c => ?_) (fun c => tot_some ⟨k2.1, y2⟩)
  replace c := i_eq c
  have hl : 0 ≤ l1.toInt ∧ l1.toInt ≤ 5 := g (by omega)
  refine tot_let (fun v7 e7 => ?_)
  have q7 := i_add e7 (by omega) (by omega)
  have x7 := i_cl (i := v7) (by omega)
  refine tot_oif (i_inb (by omega) (by omega)) ?_
  refine tot_let (fun S9 e9 => ?_)
  have y9 := ry_13 y2 e9 (by unfold nR; omega)
  exact tot_some ⟨k2.1.tr (ks_w (w13 e9).2.2.2 k2.1.1), y9⟩
theorem roff {S : MS} (h : TK S) (y : RY S) : Tot (fr_readOff S) (fun S1 => RP S S1) := by
  have z0 : (0 : Int32).toInt = 0 := by decide
  have z1 : (1 : Int32).toInt = 1 := by decide
  have z3 : (3 : Int32).toInt = 3 := by decide
  have z25 : (25 : Int32).toInt = 25 := by decide
  have y4 := nP_5 (y.1.1 5)
  unfold fr_readOff
  refine tot_bind (tnext h) (fun S2 d2 => ?_)
  have k2 : KP S S2 := d2.1
  refine tot_let (fun v5 e5 => ?_)
  rw [k2.2] at e5
  have q5 := i_eq e5
  refine tot_let (fun v6 e6 => ?_)
  have q6 := i_sub e6 (by omega) (by omega)
  refine tot_bind2 (tlook 0 v6 k2.1.1) (fun r10 S7 d7 => ?_)
  have k7 : KP S S7 := k2.tr d7.1
  have b7 : (S7.1 5).toInt ≤ 0 → (0 : Int32).toInt ≤ r10.toInt ∧ r10.toInt ≤ v6.toInt := d7.2.2
  have y7 := ry_kp y k7
  refine tot_let (fun v11 e11 => ?_)
  have q11 := i_eq e11
  have nxt : ∀ T : MS, KP S7 T → Tot (fr_readOff_b42 T r10) (fun S1 => RP S S1) := by
    intro T k
    have m := k.1.2
    have t := k7.1.1
    unfold TK at t
    have t2 := k.1.1
    unfold TK at t2
    exact tot_w (roff_b k.1.1 (ry_kp y7 k) r10 (fun q => by omega)) (fun S1 k2 => ⟨k7.1.tr (k.1.tr k2.1), k2.2⟩)
  refine tot_if (fun c => ?_) (fun c => nxt S7 (KP.rf k7.1.1))
  replace c := i_eq c
  refine tot_let (fun v13 e13 => ?_)
  have q13 := i_add e13 (by omega) (by omega)
  refine tot_oif (i_inb (by omega) (by omega)) ?_
  refine tot_let (fun v15 e15 => ?_)
  refine tot_if (fun c => ?_) (fun c => nxt S7 (KP.rf k7.1.1))
  refine tot_bind (tfaults 3 k7.1.1 (by omega)) (fun S17 d17 => ?_)
  exact nxt S17 d17.1
theorem rsha : ∀ (n : Nat) (S : MS), TK S → RY S → 12 - (S.2.1 11 118).toInt < (n : Int) → Tot (fr_readShade_b19 n S) (fun S1 => RP S S1) := by
  have z0 : (0 : Int32).toInt = 0 := by decide
  have z1 : (1 : Int32).toInt = 1 := by decide
  have z3 : (3 : Int32).toInt = 3 := by decide
  have z4 : (4 : Int32).toInt = 4 := by decide
  have z9 : (9 : Int32).toInt = 9 := by decide
  have z12 : (12 : Int32).toInt = 12 := by decide
  have z119 : (119 : Int32).toInt = 119 := by decide
  intro n
  induction n with
  | zero =>
    intro S h y hm
    have y4 := nP_118 (y.1.1 118)
    exfalso
    omega
  | succ n ih =>
    intro S h y hm
    have y4 := nP_118 (y.1.1 118)
    unfold fr_readShade_b19
    refine tot_bind2 (tlook 0 9 h) (fun r5 S2 d2 => ?_)
    have k2 : KP S S2 := d2.1
    have b2 : (0 : Int32).toInt ≤ r5.toInt ∧ r5.toInt ≤ (9 : Int32).toInt := d2.2.1 (by omega)
    have go : ∀ T : MS, KP S T → ((S.2.1 11 118).toInt = 12 → 0 < (T.1 5).toInt) → Tot (fr_readShade_b44 (fr_readShade_b19 n) T r5) (fun S1 => RP S S1) := by
      intro T k g
      unfold fr_readShade_b44
      refine tot_bind (tnext k.1.1) (fun S3 d3 => ?_)
      have k3 : KP S S3 := k.tr d3.1
      have y3 := ry_kp y k3
      have m3 := d3.2.1
      refine tot_let (fun v6 e6 => ?_)
      have q6 := i_eq e6
      refine tot_if (fun c => ?_) (fun c => tot_some ⟨k3.1, y3⟩)
      replace c := i_le c
      have hl : (S.2.1 11 118).toInt ≤ 11 := by omega
      refine tot_let (fun v8 e8 => ?_)
      rw [k3.2] at e8
      have q8 := i_eq e8
      refine tot_let (fun v9 e9 => ?_)
      have q9 := i_add e9 (by omega) (by omega)
      have x9 := i_cl (i := v9) (by omega)
      refine tot_oif (i_inb (by omega) (by omega)) ?_
      refine tot_let (fun S11 e11 => ?_)
      have y11 := ry_11 y3 e11 (by unfold nP; omega) (by unfold fr_ok; omega)
      refine tot_let (fun v12 e12 => ?_)
      rw [(w11 e11).1 118 (by omega), k3.2] at e12
      have q12 := i_eq e12
      refine tot_let (fun v13 e13 => ?_)
      have q13 := i_add e13 (by omega) (by omega)
      refine tot_let (fun S14 e14 => ?_)
      have y14 := ry_11 y11 e14 (by unfold nP; omega) (by unfold fr_ok; omega)
      have k14 : KS S S14 := k3.1.tr (ks_w ((w11 e14).2.2.2.trans (w11 e11).2.2.2) k3.1.1)
      have n14 : (S14.2.1 11 118).toInt = v13.toInt := by rw [(w11 e14).2.1]
      refine tot_let (fun v15 e15 => ?_)
      refine tot_if (fun c => ?_) (fun c => tot_some ⟨k14, y14⟩)
      exact tot_w (ih S14 k14.1 y14 (by omega)) (fun S1 k => ⟨k14.tr k.1, k.2⟩)
    refine tot_let (fun v6 e6 => ?_)
    rw [k2.2] at e6
    have q6 := i_eq e6
    refine tot_if (fun c => ?_) (fun c => ?_)
    · refine tot_bind (tfaults 4 k2.1.1 (by omega)) (fun S8 d8 => ?_)
      exact go S8 (k2.tr d8.1) (fun _ => d8.2)
    · replace c := i_ne c
      exact go S2 k2 (fun q => by omega)
theorem rshade {S : MS} (h : TK S) (y : RY S) : Tot (fr_readShade S) (fun S1 => RP S S1) := by
  have z3 : (3 : Int32).toInt = 3 := by decide
  have go : ∀ T : MS, KP S T → Tot (fr_readShade_b15 T) (fun S1 => RP S S1) := by
    intro T k
    unfold fr_readShade_b15
    refine tot_bind (tnext k.1.1) (fun S2 d2 => ?_)
    have k2 := k.tr d2.1
    have y2 := ry_kp y k2
    have := nP_118 (y2.1.1 118)
    exact tot_w (rsha 16384 S2 k2.1.1 y2 (by omega)) (fun S1 k => ⟨k2.1.tr k.1, k.2⟩)
  unfold fr_readShade
  refine tot_let (fun v2 e2 => ?_)
  refine tot_if (fun c => go S (KP.rf h)) (fun c => ?_)
  refine tot_bind (tfaults 3 h (by omega)) (fun S4 d4 => ?_)
  exact go S4 d4.1
theorem rzone_b {S : MS} (h : TK S) (y : RY S) (l1 : Int32) (e1 : l1 = S.2.1 11 101) (g : l1.toInt = 4 → 0 < (S.1 5).toInt) : Tot (fr_readZone_b18 S l1) (fun S1 => RP S S1) := by
  have z0 : (0 : Int32).toInt = 0 := by decide
  have z1 : (1 : Int32).toInt = 1 := by decide
  have z2 : (2 : Int32).toInt = 2 := by decide
  have z3 : (3 : Int32).toInt = 3 := by decide
  have z4 : (4 : Int32).toInt = 4 := by decide
  have z102 : (102 : Int32).toInt = 102 := by decide
  have y4 := nP_101 (y.1.1 101)
  rw [← e1] at y4
  have y9 := nP_9 (y.1.1 9)
  have y10 := nP_10 (y.1.1 10)
  unfold fr_readZone_b18
  refine tot_bind (tnext h) (fun S2 d2 => ?_)
  have k2 : KP S S2 := d2.1
  refine tot_let (fun v7a e7a => ?_)
  rw [k2.2] at e7a
  have q7a := i_eq e7a
  refine tot_let (fun v7b e7b => ?_)
  have q7b := i_sub e7b (by omega) (by omega)
  refine tot_bind2 (tnumber 0 v7b k2.1.1) (fun r10 S7 d7 => ?_)
  have k7 : KP S S7 := k2.tr d7.1
  have b7 : (S7.1 5).toInt ≤ 0 → (0 : Int32).toInt ≤ r10.toInt ∧ r10.toInt ≤ v7b.toInt := d7.2.2
  have m7 : 0 < (S2.1 5).toInt → 0 < (S7.1 5).toInt := d7.1.1.2.1
  refine tot_let (fun v13a e13a => ?_)
  rw [k7.2] at e13a
  have q13a := i_eq e13a
  refine tot_let (fun v13b e13b => ?_)
  have q13b := i_sub e13b (by omega) (by omega)
  refine tot_bind2 (tnumber 0 v13b k7.1.1) (fun r16 S13 d13 => ?_)
  have k13 : KP S S13 := k7.tr d13.1
  have b13 : (S13.1 5).toInt ≤ 0 → (0 : Int32).toInt ≤ r16.toInt ∧ r16.toInt ≤ v13b.toInt := d13.2.2
  have m13 : 0 < (S7.1 5).toInt → 0 < (S13.1 5).toInt := d13.1.1.2.1
  refine tot_let (fun v19a e19a => ?_)
  rw [k13.2] at e19a
  have q19a := i_eq e19a
  refine tot_let (fun v19b e19b => ?_)
  have q19b := i_sub e19b (by omega) (by omega)
  refine tot_bind2 (tnumber r10 v19b k13.1.1) (fun r22 S19 d19 => ?_)
  have k19 : KP S S19 := k13.tr d19.1
  have b19 : (S19.1 5).toInt ≤ 0 → r10.toInt ≤ r22.toInt ∧ r22.toInt ≤ v19b.toInt := d19.2.2
  have m19 : 0 < (S13.1 5).toInt → 0 < (S19.1 5).toInt := d19.1.1.2.1
  refine tot_let (fun v25a e25a => ?_)
  rw [k19.2] at e25a
  have q25a := i_eq e25a
  refine tot_let (fun v25b e25b => ?_)
  have q25b := i_sub e25b (by omega) (by omega)
  refine tot_bind2 (tnumber r16 v25b k19.1.1) (fun r28 S25 d25 => ?_)
  have k25 : KP S S25 := k19.tr d25.1
  have b25 : (S25.1 5).toInt ≤ 0 → r16.toInt ≤ r28.toInt ∧ r28.toInt ≤ v25b.toInt := d25.2.2
  have m25 : 0 < (S19.1 5).toInt → 0 < (S25.1 5).toInt := d25.1.1.2.1
  have y25 := ry_kp y k25
  have m25s := k25.1.2
  have t7 := k7.1.1.2.1
  have t13 := k13.1.1.2.1
  have t19 := k19.1.1.2.1
  refine tot_let (fun v29 e29 => ?_)
  have q29 := i_eq e29
  refine tot_if (fun c => ?_) (fun c => tot_some ⟨k25.1, y25⟩)
  replace c := i_le c
  have c19 : (S19.1 5).toInt ≤ 0 := by omega
  have c13 : (S13.1 5).toInt ≤ 0 := by omega
  have c7 : (S7.1 5).toInt ≤ 0 := by omega
  have hl : l1.toInt ≤ 3 := by omega
  have b7 := b7 c7
  have b13 := b13 c13
  have b19 := b19 c19
  have b25 := b25 (by omega)
  clear m7 m13 m19 m25 t7 t13 t19
  refine tot_let (fun v31 e31 => ?_)
  have q31 := i_mulk e31 z4 (by omega) (by omega)
  refine tot_let (fun v32 e32 => ?_)
  have q32 := i_add e32 (by omega) (by omega)
  have x32 := i_cl (i := v32) (by omega)
  refine tot_oif (i_inb (by omega) (by omega)) ?_
  refine tot_let (fun S34 e34 => ?_)
  have y34 := ry_11 y25 e34 (by unfold nP; omega) (by unfold fr_ok; omega)
  refine tot_let (fun v35 ev35 => ?_)
  have qv35 := i_add ev35 (by omega) (by omega)
  have xv35 := i_cl (i := v35) (by omega)
  refine tot_oif (i_inb (by omega) (by omega)) ?_
  refine tot_let (fun S37 e37 => ?_)
  have y37 := ry_11 y34 e37 (by unfold nP; omega) (by unfold fr_ok; omega)
  refine tot_let (fun v38 ev38 => ?_)
  have qv38 := i_add ev38 (by omega) (by omega)
  have xv38 := i_cl (i := v38) (by omega)
  refine tot_oif (i_inb (by omega) (by omega)) ?_
  refine tot_let (fun S40 e40 => ?_)
  have y40 := ry_11 y37 e40 (by unfold nP; omega) (by unfold fr_ok; omega)
  refine tot_let (fun v41 ev41 => ?_)
  have qv41 := i_add ev41 (by omega) (by omega)
  have xv41 := i_cl (i := v41) (by omega)
  refine tot_oif (i_inb (by omega) (by omega)) ?_
  refine tot_let (fun S43 e43 => ?_)
  have y43 := ry_11 y40 e43 (by unfold nP; omega) (by unfold fr_ok; omega)
  refine tot_let (fun v44 e44 => ?_)
  rw [(w11 e43).1 101 (by omega), (w11 e40).1 101 (by omega), (w11 e37).1 101 (by omega), (w11 e34).1 101 (by omega), k25.2, ← e1] at e44
  have q44 := i_eq e44
  refine tot_let (fun v45 e45 => ?_)
  have q45 := i_add e45 (by omega) (by omega)
  refine tot_let (fun S46 e46 => ?_)
  have y46 := ry_11 y43 e46 (by unfold nP; omega) (by unfold fr_ok; omega)
  exact tot_some ⟨k25.1.tr (ks_w ((w11 e46).2.2.2.trans ((w11 e43).2.2.2.trans ((w11 e40).2.2.2.trans ((w11 e37).2.2.2.trans (w11 e34).2.2.2)))) k25.1.1), y46⟩
theorem rzone {S : MS} (h : TK S) (y : RY S) : Tot (fr_readZone S) (fun S1 => RP S S1) := by
  have z4 : (4 : Int32).toInt = 4 := by decide
  unfold fr_readZone
  refine tot_let (fun v2 e2 => ?_)
  refine tot_if (fun c => ?_) (fun c => ?_)
  · refine tot_bind (tfaults 4 h (by omega)) (fun S4 d4 => ?_)
    refine tot_w (rzone_b d4.1.1.1 (ry_kp y d4.1) v2 (by rw [d4.1.2]; exact e2) (fun _ => d4.2)) (fun S1 k => ⟨d4.1.1.tr k.1, k.2⟩)
  · replace c := i_ne c
    exact rzone_b h y v2 e2 (fun q => by omega)
