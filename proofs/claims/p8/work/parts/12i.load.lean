/-! Safety of the reference's load -/
theorem ib_fk {S S1 : MS} (h : IB S) (w : FK [4, 5, 6, 7, 8, 9] [11, 13] S S1) (h7 : 0 ≤ (S1.1 7).toInt ∧ (S1.1 7).toInt ≤ 4) (h13 : ∀ k, nR k (S1.2.1 13 k)) : IB S1 := by
  unfold IB at *
  rw [w.1 2 (by decide), w.1 19 (by decide), w.1 21 (by decide), w.1 22 (by decide), w.1 28 (by decide), w.2 12 (by decide), w.2 14 (by decide), w.2 15 (by decide), w.2 16 (by decide), w.2 17 (by decide), w.2 18 (by decide), w.2 24 (by decide)]
  exact ⟨⟨h.1.1, h.1.2.1, h.1.2.2.1, h.1.2.2.2.1, h7⟩, h.2.1, h13, h.2.2.2⟩
theorem pl_of {P N D : Nat → Int32} (e : ∀ j, j < 131 → P j = N j) (a : AP N D) (f : F4 N) (h4 : 1 ≤ (N 4).toInt) (h8 : 1 ≤ (N 8).toInt) : PL P := by
  have r := a.2.2.1 h8
  have g : ∀ k, k < 131 → nP k (P k) := fun k hk => by rw [e k hk]; exact a.1 k
  have f0 := (g 0 (by decide)).1.1 rfl
  have f1 := (g 1 (by decide)).1.2.1 rfl
  have f2 := (g 2 (by decide)).1.2.2.1 rfl
  have f3 := (g 3 (by decide)).1.2.2.2.1 rfl
  have f4 := nP_4 (g 4 (by decide))
  have f8 := (g 8 (by decide)).2.1.2.1 rfl
  have f9 := nP_9 (g 9 (by decide))
  have f10 := nP_10 (g 10 (by decide))
  unfold F4 at f
  rw [← e 0 (by decide), ← e 1 (by decide), ← e 2 (by decide), ← e 3 (by decide)] at f
  rw [← e 4 (by decide)] at h4
  rw [← e 8 (by decide)] at h8
  rw [← e 9 (by decide), ← e 10 (by decide)] at r
  refine ⟨⟨?_, ?_, ?_, ?_⟩, ⟨?_, ?_, ?_, ?_⟩, ⟨?_, ?_, ?_, ?_⟩, ⟨?_, ?_, ?_, ?_⟩, fun k a b => ?_, fun k a b => ?_, fun k a b => ?_, fun k a b => ?_, fun k a b => ?_, fun k a b => ?_, fun k a b => ?_, fun k a b => ?_, fun k a b => ?_, fun k a b => ?_, fun k a b => ?_, fun k a b => ?_, fun k a b => ?_, fun k k1 k2 => ?_⟩
  · omega
  · omega
  · omega
  · omega
  · omega
  · exact nP_5 (g 5 (by decide))
  · exact (g 6 (by decide)).2.1.1 (by decide) (by decide)
  · exact (g 7 (by decide)).2.1.1 (by decide) (by decide)
  · omega
  · omega
  · omega
  · exact nP_71 (g 71 (by decide))
  · exact (g 76 (by decide)).2.2.1.2.2.2.2.2 rfl
  · exact nP_77 (g 77 (by decide))
  · exact nP_101 (g 101 (by decide))
  · exact nP_118 (g 118 (by decide))
  · exact (g k (by omega)).2.1.2.2.2.1 a b
  · exact (g k (by omega)).2.1.2.2.2.2.1 a b
  · exact (g k (by omega)).2.1.2.2.2.2.2 a b
  · exact (g k (by omega)).2.2.1.1 a b
  · exact (g k (by omega)).2.2.1.2.1 a (by omega)
  · exact (g k (by omega)).2.2.1.2.1 (by omega) b
  · exact (g k (by omega)).2.2.1.2.2.2.1 a b
  · exact (g k (by omega)).2.2.1.2.2.2.2.1 a b
  · exact (g k (by omega)).2.2.2.2.1 a b
  · exact (g k (by omega)).2.2.2.2.2.1 a b
  · exact (g k (by omega)).2.2.2.2.2.2.1 a b
  · exact (g k (by omega)).2.2.2.2.2.2.2.2.1 a b
  · exact (g k (by omega)).2.2.2.2.2.2.2.2.2.2 a b
  · rw [e 5 (by decide)] at k2
    have := nP_5 (a.1 5)
    rw [e k (by omega)]
    exact a.2.2.2 k k1 k2
theorem ld_plan : ∀ (n : Nat) (S : MS) (l2 : Int32), RY S → IB S → 1 ≤ (S.2.1 11 4).toInt → 1 ≤ (S.2.1 11 8).toInt → (0 ≤ l2.toInt ∧ l2.toInt ≤ 131) → (∀ j : Nat, (j : Int) < l2.toInt → S.2.1 10 j = S.2.1 11 j) → 131 - l2.toInt < (n : Int) → Tot (fr_load_b67 n S l2) (fun r => ∃ P, PL P ∧ IC P r.2) := by
  have z0 : (0 : Int32).toInt = 0 := by decide
  have z131 : (131 : Int32).toInt = 131 := by decide
  have z1 : (Int32.ofInt (1) : Int32).toInt = 1 := by decide
  intro n
  induction n with
  | zero =>
    intro S l2 y b h4 h8 g hj hm
    exfalso
    omega
  | succ n ih =>
    intro S l2 y b h4 h8 g hj hm
    unfold fr_load_b67
    refine tot_if (fun c => ?_) (fun c => ?_)
    · replace c := i_le c
      have hP : PL (S.2.1 10) := pl_of (fun j q => hj j (by omega)) y.1 y.2 h4 h8
      refine tot_bind (sf_copy_13_12 hP S 0 0 ⟨rfl, b⟩ (by omega) (by omega)) (fun S3 d3 => ?_)
      exact tot_w (lcam hP S3 d3.1) (fun r q => ⟨_, hP, q.1⟩)
    · replace c := i_nle c
      have x1 := i_cl (i := l2) (by omega)
      refine tot_oif (i_inb (by omega) (by omega)) ?_
      refine tot_let (fun v7 e7 => ?_)
      refine tot_oif (i_inb (by omega) (by omega)) ?_
      refine tot_let (fun S9 e9 => ?_)
      refine tot_let (fun v10 e10 => ?_)
      have q10 := i_add e10 (by omega) (by omega)
      have a11 : S9.2.1 11 = S.2.1 11 := by rw [e9]; rfl
      have a13 : S9.2.1 13 = S.2.1 13 := by rw [e9]; rfl
      have a10 : S9.2.1 10 = upd (S.2.1 10) l2.toNatClampNeg v7 := by rw [e9]; rfl
      have b9 : IB S9 := by rw [e9]; exact b
      refine ih S9 v10 (by unfold RY; rw [a11, a13]; exact y) b9 (by rw [a11]; exact h4) (by rw [a11]; exact h8) (by omega) (fun j q => ?_) (by omega)
      rw [a10, a11]
      unfold upd
      by_cases ej : j = l2.toNatClampNeg
      · rw [if_pos ej, e7, ej]
      · rw [if_neg ej]
        exact hj j (by omega)
/-- with a camera, without one -/
def CAM (S : MS) : Prop := ∃ P, PL P ∧ IC P S
def NC (S : MS) : Prop := ((S.2.1 10 = (fun _ => 0) ∧ IB S) ∧ (S.1 20).toInt = 0 ∧ (S.1 19).toInt = 0) ∧ (S.2.1 18 0).toInt = 0 ∧ (S.2.1 18 1).toInt = 0
def JJ (S : MS) : Prop := CAM S ∨ NC S
theorem jj_ib {S : MS} (h : JJ S) : IB S := by
  rcases h with ⟨P, _, h⟩ | h
  · exact h.2
  · exact h.1.1.2
/-- what keeps plan and the rest in order keeps either -/
theorem jj_of {S S1 : MS} (h : JJ S) (b : IB S1) (e10 : S1.2.1 10 = S.2.1 10) (e20 : S1.1 20 = S.1 20) (e19 : S1.1 19 = S.1 19) (e18 : S1.2.1 18 = S.2.1 18) : JJ S1 := by
  rcases h with ⟨P, hP, h⟩ | h
  · exact .inl ⟨P, hP, e10.trans h.1, b⟩
  · refine .inr ⟨⟨⟨e10.trans h.1.1.1, b⟩, ?_, ?_⟩, ?_, ?_⟩
    · rw [e20]; exact h.1.2.1
    · rw [e19]; exact h.1.2.2
    · rw [e18]; exact h.2.1
    · rw [e18]; exact h.2.2
theorem sj_load (S : MS) (a0 : Int32) (h : JJ S) : Tot (fr_load S a0) (fun r => JJ r.2) := by
  have z0 : (0 : Int32).toInt = 0 := by decide
  have b := jj_ib h
  unfold fr_load fr_throwsAt
  refine tot_let (fun S2 e2 => ?_)
  have j2 : JJ S2 := by rw [e2]; exact h
  refine tot_let (fun v3 e3 => ?_)
  have q3 := i_eq e3
  have b3 := (jj_ib j2).1.1
  refine tot_bind (tin a0 0 v3) (fun r4 d4 => ?_)
  refine tot_if (fun c => ?_) (fun c => ?_)
  · refine tot_bind2 (Q := fun r => JJ r.2) (tot_let (fun S4 e4 => tot_some (by rw [e4]; exact j2))) (fun r10 S7 d7 => ?_)
    exact tot_some d7
  · replace c := i_ne c
    refine tot_let (fun S11 e11 => ?_)
    refine tot_let (fun S12 e12 => ?_)
    refine tot_let (fun S13 e13 => ?_)
    refine tot_let (fun S14 e14 => ?_)
    refine tot_let (fun S15 e15 => ?_)
    have b2 := jj_ib j2
    have b15 : IB S15 := by
      rw [e15, e14, e13, e12, e11]
      exact ⟨⟨⟨by show 0 ≤ (0 : Int32).toInt; decide, by show (0 : Int32).toInt ≤ 1000; decide⟩, b2.1.2⟩, b2.2⟩
    have ta : TKa S15 ∧ (S15.1 5).toInt = 0 := by
      have r3 : (S15.1 3).toInt = a0.toInt := by rw [e15, e14, e13, e12, e11]; rfl
      have r4 : (S15.1 4).toInt = 0 := by rw [e15, e14, e13]; rfl
      have r5 : (S15.1 5).toInt = 0 := by rw [e15, e14]; rfl
      have r7 := b15.1.2.2.2.2
      unfold TKa
      omega
    have j15 : JJ S15 := jj_of j2 b15 (by rw [e15, e14, e13, e12, e11]; rfl) (by rw [e15, e14, e13, e12, e11]; rfl) (by rw [e15, e14, e13, e12, e11]; rfl) (by rw [e15, e14, e13, e12, e11]; rfl)
    refine tot_bind (tot_and (rtext ta.1 ta.2) (fun S1 e => w_fr_readText e)) (fun S16 d16 => ?_)
    have t16 := d16.1.1.1
    have y16 := d16.1.1.2
    have b16 : IB S16 := ib_fk b15 d16.2 t16.2.2.1 y16.1.2.1
    refine tot_let (fun v19 e19 => ?_)
    have q19 := i_eq e19
    refine tot_if (fun c => ?_) (fun c => ?_)
    · replace c := i_le c
      have h48 := d16.1.2 (by omega)
      exact tot_w (ld_plan 16384 S16 0 y16 b16 h48.1 h48.2 (by omega) (fun j hj => by omega) (by omega)) (fun r q => .inl q)
    · have j16 : JJ S16 := jj_of j15 b16 (d16.2.2 10 (by decide)) (d16.2.1 20 (by decide)) (d16.2.1 19 (by decide)) (d16.2.2 18 (by decide))
      refine tot_bind2 (Q := fun r => JJ r.2) (tot_let (fun S4 e4 => tot_some (by rw [e4]; exact j16))) (fun r10 S7 d7 => ?_)
      exact tot_some d7
/-- four bytes of append -/
theorem s_four : ∀ (j n : Nat) (S : MS) (l1 l2 : Int32), JJ S → l2.toInt = 8 * (j : Int) - 8 → j ≤ 4 → (S.1 2).toInt + j ≤ 1000 → j < n → Tot (fr_four_b3 n S l1 l2) (fun S1 => JJ S1 ∧ (S1.1 2).toInt = (S.1 2).toInt + j) := by
  have z0 : (0 : Int32).toInt = 0 := by decide
  have z1 : (1 : Int32).toInt = 1 := by decide
  have z8 : (Int32.ofInt (-8) : Int32).toInt = -8 := by decide
  intro j
  induction j with
  | zero =>
    intro n S l1 l2 h e hj hb hn
    obtain ⟨n, rfl⟩ : ∃ k, n = k + 1 := ⟨n - 1, by omega⟩
    unfold fr_four_b3
    refine tot_if (fun c => ?_) (fun c => ?_)
    · exact tot_some ⟨h, by omega⟩
    · replace c := i_nlt c
      exfalso
      omega
  | succ j ih =>
    intro n S l1 l2 h e hj hb hn
    obtain ⟨n, rfl⟩ : ∃ k, n = k + 1 := ⟨n - 1, by omega⟩
    have b := jj_ib h
    have b2 := b.1.1
    rw [four_step (b := 999) ⟨b2.1, by omega⟩ (by omega) (fun q => by have := i_lt q; omega)]
    have q2 : (S.1 2 + 1).toInt = (S.1 2).toInt + 1 := i_add rfl (by omega) (by omega)
    have q8 : (l2 + Int32.ofInt (-8)).toInt = l2.toInt - 8 := (i_add rfl (by omega) (by omega)).trans (by omega)
    refine tot_w (ih n _ l1 (l2 + Int32.ofInt (-8)) (jj_of h ?_ rfl rfl rfl rfl) (by omega) (by omega) ?_ (by omega)) (fun S1 q => ⟨q.1, ?_⟩)
    · exact ⟨⟨⟨by show 0 ≤ (S.1 2 + 1).toInt; omega, by show (S.1 2 + 1).toInt ≤ 1000; omega⟩, b.1.2⟩, b.2⟩
    · show (S.1 2 + 1).toInt + j ≤ 1000
      omega
    · have q1 : (S1.1 2).toInt = (S.1 2 + 1).toInt + j := q.2
      omega
theorem sj_four (S : MS) (a0 : Int32) (h : JJ S) (hb : (S.1 2).toInt + 4 ≤ 1000) : Tot (fr_four S a0) (fun S1 => JJ S1 ∧ (S1.1 2).toInt = (S.1 2).toInt + 4) := by
  unfold fr_four
  exact s_four 4 16384 S a0 24 h (by decide) (by decide) hb (by decide)
theorem sj_append (S : MS) (a0 a1 a2 a3 a4 : Int32) (h : JJ S) : Tot (fr_append S a0 a1 a2 a3 a4) (fun r => JJ r.2 ∧ ((S.1 2).toInt + 20 ≤ 1000 ∧ r.1.toInt = (S.1 2).toInt + 20 ∧ (r.2.1 2).toInt = (S.1 2).toInt + 20 ∨ 1000 < (S.1 2).toInt + 20 ∧ r.1 = -1 ∧ (r.2.1 2).toInt = (S.1 2).toInt)) := by
  have z20 : (20 : Int32).toInt = 20 := by decide
  have z1000 : (1000 : Int32).toInt = 1000 := by decide
  have b := (jj_ib h).1.1
  unfold fr_append
  refine tot_let (fun S2 e2 => ?_)
  have j2 : JJ S2 := by rw [e2]; exact h
  have f2 : (S2.1 2).toInt = (S.1 2).toInt := by rw [e2]; rfl
  refine tot_let (fun v3 e3 => ?_)
  have q3 := i_eq e3
  refine tot_let (fun v4 e4 => ?_)
  have q4 := i_add e4 (by omega) (by omega)
  refine tot_if (fun c => ?_) (fun c => ?_)
  · replace c := i_le c
    refine tot_bind (sj_four S2 a0 j2 (by omega)) (fun S6 d6 => ?_)
    refine tot_bind (sj_four S6 a1 d6.1 (by omega)) (fun S9 d9 => ?_)
    refine tot_bind (sj_four S9 a2 d9.1 (by omega)) (fun S12 d12 => ?_)
    refine tot_bind (sj_four S12 a3 d12.1 (by omega)) (fun S15 d15 => ?_)
    refine tot_bind (sj_four S15 a4 d15.1 (by omega)) (fun S18 d18 => ?_)
    refine tot_let (fun v21 e21 => ?_)
    have q21 := i_eq e21
    exact tot_some ⟨d18.1, .inl ⟨by omega, show v21.toInt = _ from by omega, show (S18.1 2).toInt = _ from by omega⟩⟩
  · replace c := i_nle c
    exact tot_some ⟨j2, .inr ⟨by omega, rfl, f2⟩⟩
