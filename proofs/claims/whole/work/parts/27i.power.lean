/-! the class's powers as whole numbers -/
section
variable {T T1 T0 : AT} {P A : Nat → Int32} {o x y z d dl xs ro : Nat} {c4 n2 C : Nat} {D : Nat → Int32} {v : Nat → Int}
def mxS (A D : Nat → Int32) : Nat → Int
  | 0 => 0
  | m + 1 => if A (1 + m) = 0 then (if mxS A D m < (D m).toInt then (D m).toInt else mxS A D m) else mxS A D m
def wdS (A D : Nat → Int32) (n2 c4 : Nat) : Nat := ((n2 : Int) - mxS A D c4).toNat
def enS (A D : Nat → Int32) (n2 c4 : Nat) : Nat → Int
  | 0 => 0
  | t + 1 => enS A D n2 c4 t + bmS A D n2 t c4 * bmS A D n2 t c4
def pwS (A D : Nat → Int32) (n2 c4 : Nat) : Int := if wdS A D n2 c4 = 0 then 0 else enS A D n2 c4 (wdS A D n2 c4) / (wdS A D n2 c4 : Int)
theorem mx_rg (hD : ∀ m, m < c4 → 0 ≤ (D m).toInt ∧ (D m).toInt ≤ 65535) : ∀ m, m ≤ c4 → 0 ≤ mxS A D m ∧ mxS A D m ≤ 65535 := by
  intro m
  induction m with
  | zero =>
    intro _
    refine ⟨?_, ?_⟩
    · show (0 : Int) ≤ 0
      decide
    · show (0 : Int) ≤ 65535
      decide
  | succ m ih =>
    intro hm
    have q := ih (by omega)
    have p := hD m (by omega)
    show 0 ≤ (if A (1 + m) = 0 then (if mxS A D m < (D m).toInt then (D m).toInt else mxS A D m) else mxS A D m) ∧ (if A (1 + m) = 0 then (if mxS A D m < (D m).toInt then (D m).toInt else mxS A D m) else mxS A D m) ≤ 65535
    by_cases c : A (1 + m) = 0
    · rw [if_pos c]
      by_cases c2 : mxS A D m < (D m).toInt
      · rw [if_pos c2]; exact p
      · rw [if_neg c2]; exact q
    · rw [if_neg c]; exact q
theorem wd_le (hD : ∀ m, m < c4 → 0 ≤ (D m).toInt ∧ (D m).toInt ≤ 65535) : wdS A D n2 c4 ≤ n2 := by
  have q := mx_rg (A := A) hD c4 (Nat.le_refl _)
  unfold wdS
  omega
theorem sq_rg {b : Int} (h0 : -1079892 ≤ b) (h1 : b ≤ 1079892) : 0 ≤ b * b ∧ b * b ≤ 1166166731664 := by
  rcases Int.le_total 0 b with h | h
  · exact ⟨Int.mul_nonneg h h, Int.mul_le_mul h1 h1 h (by decide)⟩
  · have e : b * b = (-b) * (-b) := (Int.neg_mul_neg b b).symm
    rw [e]
    exact ⟨Int.mul_nonneg (by omega) (by omega), Int.mul_le_mul (by omega : -b ≤ 1079892) (by omega : -b ≤ 1079892) (by omega) (by decide)⟩
theorem en_rg (hr : SMr A c4 n2) (l4 : c4 ≤ 12) : ∀ t : Nat, 0 ≤ enS A D n2 c4 t ∧ enS A D n2 c4 t ≤ 1166166731664 * (t : Int) := by
  intro t
  induction t with
  | zero =>
    refine ⟨?_, ?_⟩
    · show (0 : Int) ≤ 0
      decide
    · show (0 : Int) ≤ 1166166731664 * ((0 : Nat) : Int)
      decide
  | succ t ih =>
    have b := bm_rg (D := D) hr (t := t) c4 (Nat.le_refl _)
    have s := sq_rg (b := bmS A D n2 t c4) (by omega) (by omega)
    show 0 ≤ enS A D n2 c4 t + _ ∧ enS A D n2 c4 t + _ ≤ 1166166731664 * ((t + 1 : Nat) : Int)
    generalize bmS A D n2 t c4 * bmS A D n2 t c4 = k at s ⊢
    omega
theorem c_mx {r : Int32} (hc : CRF T) (hd : d ∈ sds) (e4 : P 4 = nI c4) (l4 : c4 ≤ 12) (hS : SVa T d xs P A c4 n2) (hD : DLs T dl D c4) (hg : g_X8_greatestDelay T d dl = some (r, T1)) : T1 = T ∧ r.toInt = mxS A D c4 := by
  obtain ⟨r3, r4, -⟩ := sd_rf hc hd
  obtain ⟨s0, s1, s2, s3⟩ := hS
  have z0 : (0 : Int32).toInt = 0 := by decide
  have lp : ∀ (n m : Nat) {u : Int32}, m ≤ c4 → u.toInt = mxS A D m → g_X8_greatestDelay_b4 n T d dl u (nI m) = some (r, T1) → T1 = T ∧ r.toInt = mxS A D c4 := by
    intro n
    induction n with
    | zero => intro m u hm hu h; cases h
    | succ n ih =>
      intro m u hm hu h
      have km : (nI m).toNatClampNeg = m := nI_clamp (by omega)
      have b29 : ∀ {w : Int32}, m < c4 → w.toInt = mxS A D (m + 1) → g_X8_greatestDelay_b29 (g_X8_greatestDelay_b4 n) T d dl w (nI m) = some (r, T1) → T1 = T ∧ r.toInt = mxS A D c4 := by
        intro w hm hw h
        unfold g_X8_greatestDelay_b29 at h
        obtain ⟨v2, d2, h⟩ := elet_some h
        rw [show v2 = nI (m + 1) from d2.trans (nI_p1 m)] at h
        exact ih (m + 1) (by omega) hw h
      unfold g_X8_greatestDelay_b4 at h
      obtain ⟨-, h⟩ := oif_some h
      obtain ⟨v3, d3, h⟩ := elet_some h
      rw [s0, e4] at d3
      rcases oif_or h with ⟨q, h⟩ | ⟨q, h⟩
      · rw [d3] at q
        have q2 := (nI_leI (a := c4) (by omega) (by omega)).mp q
        rw [← (osome2 h).1, ← (osome2 h).2, hu, show m = c4 by omega]
        exact ⟨rfl, rfl⟩
      · rw [d3] at q
        have q2 : ¬ c4 ≤ m := fun z => q ((nI_leI (a := c4) (by omega) (by omega)).mpr z)
        obtain ⟨D1, -⟩ := hD m (by omega)
        obtain ⟨a1, -⟩ := s2 m (by omega)
        obtain ⟨-, h⟩ := oif_some h
        obtain ⟨n6, en, h⟩ := obind_some h
        rw [r3] at en
        cases en
        obtain ⟨-, h⟩ := oif_some h
        obtain ⟨-, h⟩ := oif_some h
        obtain ⟨v9, d9, h⟩ := elet_some h
        rw [km, a1] at d9
        rcases oif_or h with ⟨c, h⟩ | ⟨c, h⟩
        · obtain ⟨-, h⟩ := oif_some h
          obtain ⟨-, h⟩ := oif_some h
          obtain ⟨v13, d13, h⟩ := elet_some h
          rw [km, D1] at d13
          obtain ⟨v14, d14, h⟩ := elet_some h
          refine b29 (by omega) ?_ h
          show _ = if A (1 + m) = 0 then (if mxS A D m < (D m).toInt then (D m).toInt else mxS A D m) else mxS A D m
          rw [if_pos (d9.symm.trans c), d14, d13]
          by_cases c2 : u < D m
          · have c3 := i_lt c2
            rw [if_pos c2, if_pos (by omega)]
          · have c3 := i_nlt c2
            rw [if_neg c2, if_neg (by omega), hu]
        · refine b29 (by omega) ?_ h
          show _ = if A (1 + m) = 0 then (if mxS A D m < (D m).toInt then (D m).toInt else mxS A D m) else mxS A D m
          rw [if_neg (fun w => c (d9.trans w)), hu]
  unfold g_X8_greatestDelay at hg
  exact lp 16384 0 (Nat.zero_le _) z0 hg
theorem c_wnd {r : Int32} (hc : CRF T) (hd : d ∈ sds) (e4 : P 4 = nI c4) (l4 : c4 ≤ 12) (e2 : P 2 = nI n2) (l2 : n2 ≤ 200) (hS : SVa T d xs P A c4 n2) (hD : DLs T dl D c4) (hg : g_X8_windowOf T d dl = some (r, T1)) : T1 = T ∧ r = nI (wdS A D n2 c4) := by
  have i2 : (nI n2).toInt = (n2 : Int) := nI_toInt (by omega)
  have z0 : (0 : Int32).toInt = 0 := by decide
  have mr := mx_rg (A := A) (fun m hm => (hD m hm).2) c4 (Nat.le_refl _)
  unfold g_X8_windowOf at hg
  obtain ⟨-, hg⟩ := oif_some hg
  obtain ⟨v3, d3, hg⟩ := elet_some hg
  rw [hS.2.1, e2] at d3
  obtain ⟨-, hg⟩ := oif_some hg
  obtain ⟨r7, T5, g5, hg⟩ := obind2_some hg
  obtain ⟨e5, q5⟩ := c_mx hc hd e4 l4 hS hD g5
  obtain ⟨v9, d9, hg⟩ := elet_some hg
  have q3 : v3.toInt = (n2 : Int) := by rw [d3]; exact i2
  have q9 := i_sub d9 (by omega) (by omega)
  obtain ⟨v10, d10, hg⟩ := elet_some hg
  rw [← (osome2 hg).1, ← (osome2 hg).2, e5, d10]
  refine ⟨rfl, Int32.toInt_inj.mp ?_⟩
  have wl := wd_le (A := A) (n2 := n2) (fun m hm => (hD m hm).2)
  rw [nI_toInt (by omega)]
  unfold wdS
  by_cases c : v9 < 0
  · have c2 := i_lt c
    rw [if_pos c]
    omega
  · have c2 := i_nlt c
    rw [if_neg c]
    omega
/-- what the sums of a state need of the class's cells: out o with first row x, samples' row xs, beam's row z -/
def BN (T : AT) (d xs z o x : Nat) (P A : Nat → Int32) (c4 n2 : Nat) : Prop := (IV aR0 1586 aK1 aK2 T ∧ CRF T ∧ RC T ∧ RI T) ∧ (W1 T (d + 8) xs ∧ SVa T d xs P A c4 n2) ∧ (T.2.2.2.2 (d + 51) 1 = some (d + 52) ∧ T.2.2.2.2 (d + 52) 0 = some z ∧ T.2.2.2.2 o 1 = some (o + 1) ∧ T.2.2.2.2 (o + 1) 0 = some x) ∧ ((T.2.1 xs).1 = 101 ∧ (T.2.1 z).1 = 101 ∧ (T.2.1 x).1 = 101)
theorem BN.ne (h : BN T d xs z o x P A c4 n2) (h1 : o ≠ d + 8) (h2 : o ≠ d + 51) : z ≠ xs ∧ x ≠ xs ∧ x ≠ z := by
  obtain ⟨⟨-, -, -, ri⟩, ⟨⟨w1, w2, -⟩, -⟩, ⟨b1, b2, o1, o2⟩, s1, s2, s3⟩ := h
  refine ⟨fun e => ?_, fun e => ?_, fun e => ?_⟩
  · rw [e] at b2
    have := ri _ _ _ _ _ b2 w2 s1
    omega
  · rw [e] at o2
    have := ri _ _ _ _ _ o2 w2 s1
    omega
  · rw [e] at o2
    have := ri _ _ _ _ _ o2 b2 s2
    omega
/-- the numbers below C are v: in one part, or in two -/
def RGU (T : AT) (o x C : Nat) (v : Nat → Int) : Prop := ∃ y, U2 T o x y ∧ (T.2.1 y).1 = 101 ∧ ∀ c, c < C → V2 T x y c (v c)
def RG (T : AT) (o x C : Nat) (v : Nat → Int) : Prop := (W1 T o x ∧ ∀ c, c < C → (T.2.2.2.1 x c).toInt = v c ∧ 0 ≤ v c ∧ v c < 268435456) ∨ RGU T o x C v
/-- but for the tables o and b (how many parts) and rows that change, T1 is T -/
def FQ (T T1 : AT) (o b : Nat) : Prop := (∀ m k, m ≠ o → m ≠ b → T1.2.2.1 m k = T.2.2.1 m k) ∧ (∀ m j, m ≠ o + 1 → T1.2.2.2.2 m j = T.2.2.2.2 m j) ∧ (∀ m, m < T.1 → T1.2.1 m = T.2.1 m) ∧ T.1 ≤ T1.1
theorem FQ.rf {b : Nat} : FQ T T o b := ⟨fun _ _ _ _ => rfl, fun _ _ _ => rfl, fun _ _ => rfl, Nat.le_refl _⟩
theorem FQ.tr {b : Nat} (h : FQ T0 T o b) (k : FQ T T1 o b) : FQ T0 T1 o b := ⟨fun m j a c => (k.1 m j a c).trans (h.1 m j a c), fun m j a => (k.2.1 m j a).trans (h.2.1 m j a), fun m a => (k.2.2.1 m (Nat.lt_of_lt_of_le a h.2.2.2)).trans (h.2.2.1 m a), Nat.le_trans h.2.2.2 k.2.2.2⟩
theorem fq_lq {b : Nat} (h : LQ T T1) : FQ T T1 o b := ⟨fun m k _ _ => by rw [h.2.2.1], fun m j _ => by rw [h.2.2.2], fun m _ => by rw [h.2.1], Nat.le_of_eq h.1.symm⟩
/-- the bundle goes on -/
theorem BN.go (h : BN T d xs z o x P A c4 n2) (h1 : o ≠ d + 8) (hod : o < d ∨ d + 94 ≤ o) (f : FQ T T1 o (d + 51)) (hV : IV aR0 1586 aK1 aK2 T1) (hc : CRF T1) (hrc : RC T1) (hri : RI T1) (hx : T1.2.2.2.2 (o + 1) 0 = some x) (hl : ∀ k, T1.2.2.2.1 xs k = T.2.2.2.1 xs k) : BN T1 d xs z o x P A c4 n2 := by
  obtain ⟨⟨-, -, rc, ri⟩, ⟨⟨w1, w2, w3⟩, s0, s1, s2, s3⟩, ⟨b1, b2, o1, o2⟩, t1, t2, t3⟩ := h
  obtain ⟨f1, f2, f3, f4⟩ := f
  refine ⟨⟨hV, hc, hrc, hri⟩, ⟨⟨?_, ?_, ?_⟩, ?_, ?_, fun m hm => ?_, fun m u hm hu => ?_⟩, ⟨?_, ?_, ?_, hx⟩, ?_, ?_, ?_⟩
  · rw [f2 _ _ (by omega)]; exact w1
  · rw [f2 _ _ (by omega)]; exact w2
  · rw [f1 _ _ (by omega) (by omega)]; exact w3
  · rw [f1 _ _ (by omega) (by omega)]; exact s0
  · rw [f1 _ _ (by omega) (by omega)]; exact s1
  · rw [f1 _ _ (by omega) (by omega), f1 _ _ (by omega) (by omega)]; exact s2 m hm
  · rw [hl]; exact s3 m u hm hu
  · rw [f2 _ _ (by omega)]; exact b1
  · rw [f2 _ _ (by omega)]; exact b2
  · rw [f2 _ _ (by omega)]; exact o1
  · rw [f3 _ (rc _ _ _ w2)]; exact t1
  · rw [f3 _ (rc _ _ _ b2)]; exact t2
  · rw [f3 _ (rc _ _ _ o2)]; exact t3
/-- a beam's square is added to number C -/
theorem c_addp {s : Int} (hB : BN T d xs z o x P A c4 n2) (h1 : o ≠ d + 8) (hod : o < d ∨ d + 94 ≤ o) (hd : d ∈ sds) (ho : aR0 o = ro) (hro : isW ro = true) (hC : C < cnt ro) (hb : W1 T (d + 51) z) (hG : RG T o x (C + 1) v) (hs : (T.2.2.2.1 z 0).toInt * (T.2.2.2.1 z 0).toInt = s) (hs0 : 0 ≤ s) (hl : s ≤ 2000000000000) (hv : v C < 1000000000000000) (hg : g_X10_addProduct T o (nI C) (d + 51) 0 (d + 51) 0 = some T1) : BN T1 d xs z o x P A c4 n2 ∧ RGU T1 o x (C + 1) (fun c => if c = C then v C + s else v c) ∧ FQ T T1 o (d + 51) := by
  have rd := sd_ro hd
  have w := isW_f hro
  have l7 := w.2.2.2.1
  have kC : (nI C).toNatClampNeg = C := nI_clamp (by omega)
  have CI : (nI C).toInt = (C : Int) := nI_toInt (by omega)
  obtain ⟨n1, n2', n3⟩ := hB.ne h1 (by omega)
  obtain ⟨⟨hV, hc, hrc, hri⟩, ⟨hw, hS⟩, ⟨b1, b2, o1, o2⟩, t1, t2, t3⟩ := id hB
  have q1 := tgo (c_addProduct ho hro rd.2.2.2.2.2.2.2.2.2 (by decide) rd.2.2.2.2.2.2.2.2.2 (by decide) hV (by omega) (by decide) (by decide)) hg
  have hc1 := crf_gr hc hV (sr_X10_addProduct hg)
  have hi1 := si_X10_addProduct hg hrc hri
  unfold g_X10_addProduct at hg
  obtain ⟨-, hg⟩ := oif_some hg
  obtain ⟨v3, d3, hg⟩ := elet_some hg
  obtain ⟨-, hg⟩ := oif_some hg
  obtain ⟨v5, d5, hg⟩ := elet_some hg
  rw [hb.2.2] at d3 d5
  obtain ⟨v6, d6, hg⟩ := elet_some hg
  have e6 : v6 = 2 := by rw [d6, d5, d3]; decide
  obtain ⟨-, hg⟩ := oif_some hg
  obtain ⟨T8, g8, hg⟩ := obind_some hg
  rw [e6] at g8
  -- in two parts now
  have two : ∃ y, U2 T8 o x y ∧ (T8.2.1 y).1 = 101 ∧ (∀ c, c < C + 1 → V2 T8 x y c (v c)) ∧ FQ T T8 o (d + 51) ∧ (∀ m k, m ≠ o ∨ k ≠ 2 → T8.2.2.1 m k = T.2.2.1 m k) ∧ (∀ m k, m < T.1 → m ≠ x → m ≠ y → T8.2.2.2.1 m k = T.2.2.2.1 m k) ∧ RI T8 ∧ (∀ m j, m ≠ o + 1 ∨ j ≠ 1 → T8.2.2.2.2 m j = T.2.2.2.2 m j) := by
    rcases hG with ⟨hw1, hv1⟩ | ⟨y, hu, sy, hv1⟩
    · have i8 := si_X10_widenTo g8 hrc hri
      have c0 : T.2.2.1 o 0 = nI (cnt ro) := Int32.toInt_inj.mp (by rw [w_cnt hV ho hro, nI_toInt (by omega)])
      have gl := (sr_X10_widenTo g8).1
      obtain ⟨y, a1, a2, a3, a4, a5, a6⟩ := c_widen2 hw1 c0 l7.2 hrc hri t3 g8
      refine ⟨y, a1, a2, fun c hcc => ?_, ⟨fun m k hm _ => a3 m k (.inl hm), fun m j hm => a4 m j (.inl hm), gl.2.1, gl.1⟩, a3, a5, i8.2, a4⟩
      obtain ⟨p1, p2, p3⟩ := hv1 c hcc
      have q := a6 c (by omega) (by omega) (by omega)
      rw [p1] at q
      exact q
    · have e8 := c_widenS (by rw [hu.2.2.2.1]; decide) g8
      rw [e8]
      exact ⟨y, hu, sy, hv1, FQ.rf, fun _ _ _ => rfl, fun _ _ _ _ _ => rfl, hri, fun _ _ _ => rfl⟩
  obtain ⟨y, u8, s8, v8, f8, i8, j8, r8, a8⟩ := two
  have hx8 := hrc _ _ _ o2
  have hz8 := hrc _ _ _ b2
  have hxs8 := hrc _ _ _ hw.2.1
  have nzy : z ≠ y := fun e => by
    have p := u8.2.2.1
    rw [← e] at p
    have := r8 (o + 1) 1 (d + 52) 0 _ p (by rw [a8 _ _ (.inl (by omega))]; exact b2) (by rw [f8.2.2.1 z hz8]; exact t2)
    omega
  have nxy : xs ≠ y := fun e => by
    have p := u8.2.2.1
    rw [← e] at p
    have := r8 (o + 1) 1 (d + 8 + 1) 0 _ p (by rw [a8 _ _ (.inl (by omega))]; exact hw.2.1) (by rw [f8.2.2.1 xs hxs8]; exact t1)
    omega
  have hb8 : W1 T8 (d + 51) z := ⟨by rw [a8 _ _ (.inl (by omega))]; exact b1, by rw [a8 _ _ (.inl (by omega))]; exact b2, by rw [i8 _ _ (.inl (by omega))]; exact hb.2.2⟩
  have z8 : T8.2.2.2.1 z 0 = T.2.2.2.1 z 0 := j8 z 0 hz8 (fun e => n3 e.symm) nzy
  obtain ⟨l1, p1, le1⟩ := c_addp2 (i := nI C) u8 hb8 (fun e => n3 e.symm) nzy (by rw [kC]; exact v8 C (by omega)) (by rw [z8]; exact hs) hl hs0 hv hg
  rw [kC] at p1 le1
  have fq : FQ T T1 o (d + 51) := f8.tr (fq_lq l1)
  refine ⟨hB.go h1 hod fq q1.1 hc1 hi1.1 hi1.2 ?_ (fun k => ?_), ⟨y, u8.lq l1, ?_, fun c hcc => ?_⟩, fq⟩
  · rw [l1.2.2.2]; exact u8.2.1
  · rw [le1 xs k (.inl ⟨fun e => n2' e.symm, nxy⟩)]
    exact j8 xs k hxs8 (fun e => n2' e.symm) nxy
  · rw [l1.2.1]; exact s8
  · by_cases e : c = C
    · rw [e]
      show V2 T1 x y C (if C = C then v C + s else v C)
      rw [if_pos rfl]
      exact p1
    · show V2 T1 x y c (if c = C then v C + s else v c)
      rw [if_neg e]
      have q := v8 c hcc
      unfold V2 at q ⊢
      rw [le1 x c (.inr e), le1 y c (.inr e)]
      exact q
end
