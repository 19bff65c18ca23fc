/-! the class's power of a cell, as the one number of a table that may have had more parts -/
section
variable {T T1 T0 : AT} {P A : Nat → Int32} {o x y z d dl xs ro : Nat} {c4 n2 : Nat} {D : Nat → Int32} {v : Int}
/-- number 0 is v: in one part, or in more, those from the third on 0 -/
def ZU (T : AT) (o x : Nat) (v : Int) : Prop := ∃ y u, UZ T o x y u ∧ (T.2.1 y).1 = 101 ∧ ZH T o u 0 ∧ V2 T x y 0 v
def ZG (T : AT) (o x : Nat) (v : Int) : Prop := (W1 T o x ∧ (T.2.2.2.1 x 0).toInt = v ∧ 0 ≤ v ∧ v < 268435456) ∨ ZU T o x v
theorem zu_ne {u i : Nat} (hu : UZ T o x y u) (hri : RI T) (sx : (T.2.1 x).1 = 101) (sy : (T.2.1 y).1 = 101) (hz : ZH T o u i) : x ≠ y ∧ ∀ p w, 2 ≤ p → p < u → T.2.2.2.2 (o + 1) p = some w → w ≠ x ∧ w ≠ y ∧ T.2.2.2.1 w i = 0 := by
  refine ⟨fun e => ?_, fun p w h1 h2 h3 => ⟨fun e => ?_, fun e => ?_, hz p w h1 h2 h3⟩⟩
  · have q := hu.2.2.1
    rw [← e] at q
    have := hri _ _ _ _ _ hu.2.1 q sx
    omega
  · rw [e] at h3
    have := hri _ _ _ _ _ hu.2.1 h3 sx
    omega
  · rw [e] at h3
    have := hri _ _ _ _ _ hu.2.2.1 h3 sy
    omega
theorem z_uz (hV : IV aR0 1586 aK1 aK2 T) (ho : aR0 o = ro) (hro : isW ro = true) (o1 : T.2.2.2.2 o 1 = some (o + 1)) (ox : T.2.2.2.2 (o + 1) 0 = some x) : W1 T o x ∨ ∃ y u, UZ T o x y u ∧ (T.2.1 y).1 = 101 := by
  have w := isW_f hro
  have hs := iv_sta hV ho w.1.1.1 w.1.1.2
  have us := w_used hV ho hro
  obtain ⟨u, hu, eu⟩ := nI_of01 (x := T.2.2.1 o 2) (a := 41) (by omega) (by omega) (by omega)
  have uI' : (nI u).toInt = (u : Int) := nI_toInt (by omega)
  rw [eu, uI'] at us
  by_cases e : u = 1
  · exact .inl ⟨o1, ox, by rw [eu, e]; rfl⟩
  · obtain ⟨y, y1, y2⟩ := hV.2.2.2.2.1 o hs (by rw [ho]; exact hro) _ o1 1 (by rw [eu, uI']; omega)
    exact .inr ⟨y, u, ⟨o1, ox, y1, eu, by omega, by omega⟩, by rw [y2]⟩
/-- the number is emptied, whatever it was -/
theorem z_clear (hB : BN T d xs z o x P A c4 n2) (h1 : o ≠ d + 8) (hod : o < d ∨ d + 94 ≤ o) (ho : aR0 o = ro) (hro : isW ro = true) (hg : g_X10_clear T o 0 = some T1) : BN T1 d xs z o x P A c4 n2 ∧ ZG T1 o x 0 ∧ LQ T T1 := by
  have w := isW_f hro
  have l7 := w.2.2.2.1
  have z0 : (0 : Int64).toInt = 0 := by decide
  have y0 : (0 : Int32).toInt = 0 := by decide
  have k0 : (0 : Int32).toNatClampNeg = 0 := rfl
  obtain ⟨n1, nx, n3⟩ := hB.ne h1 (by omega)
  obtain ⟨⟨hV, hc, hrc, hri⟩, ⟨hw, hS⟩, ⟨b1, b2, o1, o2⟩, t1, t2, t3⟩ := id hB
  have q1 := tgo (c_clear hV ho hro (by omega)) hg
  have sp := s_X10_clear hg
  have i1 := gi_sp sp hrc hri
  have hc1 := crf_eq hc sp.2.2
  rcases z_uz hV ho hro o1 o2 with hw1 | ⟨y, u, hu, sy⟩
  · have e := c_clear1 hw1 hg
    rw [k0] at e
    have l : LQ T T1 := by rw [e]; exact lq_uJ
    have at1 : ∀ m j, T1.2.2.2.1 m j = if m = x ∧ j = 0 then 0 else T.2.2.2.1 m j := fun m j => by rw [e, uj_get]
    exact ⟨hB.go h1 hod (fq_lq l) q1.1 hc1 i1.1 i1.2 (by rw [l.2.2.2]; exact o2) (fun k => by rw [at1, if_neg (fun e => nx e.1.symm)]), .inl ⟨hw1.lq l, by rw [at1, if_pos ⟨rfl, rfl⟩]; exact z0, by decide, by decide⟩, l⟩
  · obtain ⟨l, p, le⟩ := c_clearU hu hg
    rw [k0] at p le
    have u2 := hu.2.2.2.2.1
    refine ⟨hB.go h1 hod (fq_lq l) q1.1 hc1 i1.1 i1.2 (by rw [l.2.2.2]; exact o2) (fun k => le xs k (.inl (fun p e => ?_))), .inr ⟨y, u, hu.lq l, by rw [l.2.1]; exact sy, fun p' w' h2 h3 h4 => p p' w' h3 (by rw [l.2.2.2] at h4; exact h4), ?_⟩, l⟩
    · have := hri _ _ _ _ _ e hw.2.1 t1
      omega
    · have px := p 0 x (by omega) hu.2.1
      have py := p 1 y (by omega) hu.2.2.1
      unfold V2
      rw [px, py, z0]
      exact ⟨⟨by decide, by decide⟩, ⟨by decide, by decide⟩, by decide⟩
/-- behind focus -/
theorem z_focus {t : Nat} (hB : BN T d xs z o x P A c4 n2) (h1 : o ≠ d + 8) (hod : o < d ∨ d + 94 ≤ o) (hd : d ∈ sds) (e4 : P 4 = nI c4) (l4 : c4 ≤ 12) (e2 : P 2 = nI n2) (l2 : n2 ≤ 200) (hr : SMr A c4 n2) (hD : DLs T dl D c4) (rdl : aR0 dl = 50) (hdl : dl < 242 ∨ 430 ≤ dl ∧ dl < 834) (ht : t < 200) (hG : ZG T o x v) (hg : g_X8_focus T d dl (nI t) = some T1) : BN T1 d xs z o x P A c4 n2 ∧ ZG T1 o x v ∧ (ZU T o x v → ZU T1 o x v) ∧ FQ T T1 o (d + 51) ∧ W1 T1 (d + 51) z ∧ (T1.2.2.2.1 z 0).toInt = bmS A D n2 t c4 := by
  have rd := sd_ro hd
  obtain ⟨n1, nx, n3⟩ := hB.ne h1 (by omega)
  obtain ⟨⟨hV, hc, hrc, hri⟩, ⟨hw, hS⟩, ⟨b1, b2, o1, o2⟩, t1, t2, t3⟩ := id hB
  have q1 := tgo (cs_X8_focus T d dl (nI t) hV rd.1 rdl) hg
  have hc1 := crf_gr hc hV (sr_X8_focus hg)
  have i1 := si_X8_focus hg hrc hri
  obtain ⟨⟨w, hwv, e⟩, hb⟩ := c_focus hc hd e4 l4 e2 l2 hw hS hr hD hdl ht b1 b2 n1 hg
  have ints : ∀ m k, m ≠ d + 51 → T1.2.2.1 m k = T.2.2.1 m k := fun m k h => by
    rw [e]
    show (uI T (d + 51) 2 1).2.2.1 m k = _
    exact ui_ne (.inl h)
  have refs : T1.2.2.2.2 = T.2.2.2.2 := by rw [e]; rfl
  have shs : T1.2.1 = T.2.1 := by rw [e]; rfl
  have ones : T1.1 = T.1 := by rw [e]; rfl
  have lng : ∀ m j, T1.2.2.2.1 m j = if m = z ∧ j = 0 then w else T.2.2.2.1 m j := fun m j => by
    rw [e, uj_get]
    rfl
  have fq : FQ T T1 o (d + 51) := ⟨fun m k _ h => ints m k h, fun m j _ => by rw [refs], fun m _ => by rw [shs], Nat.le_of_eq ones.symm⟩
  have w1 : W1 T o x → W1 T1 o x := fun h => ⟨by rw [refs]; exact h.1, by rw [refs]; exact h.2.1, by rw [ints _ _ (by omega)]; exact h.2.2⟩
  have gu : ZU T o x v → ZU T1 o x v := fun ⟨y, u, hu, sy, hz, hv⟩ => by
    have nzr : ∀ p, T.2.2.2.2 (o + 1) p ≠ some z := fun p e => by
      have := hri _ _ _ _ _ e b2 t2
      omega
    have nzy : z ≠ y := fun e => nzr 1 (by rw [e]; exact hu.2.2.1)
    refine ⟨y, u, ?_, by rw [shs]; exact sy, fun p w' h2 h3 h4 => ?_, ?_⟩
    · unfold UZ
      rw [refs, ints _ _ (by omega)]
      exact hu
    · rw [refs] at h4
      rw [lng, if_neg (fun e => nzr p (by rw [← e.1]; exact h4))]
      exact hz p w' h2 h3 h4
    · unfold V2 at hv ⊢
      rw [lng x, lng y, if_neg (fun e => n3 e.1), if_neg (fun e => nzy e.1.symm)]
      exact hv
  refine ⟨hB.go h1 hod fq q1.1 hc1 i1.1 i1.2 (by rw [refs]; exact o2) (fun k => by rw [lng, if_neg (fun e => n1 e.1.symm)]), ?_, gu, fq, hb, by rw [lng, if_pos ⟨rfl, rfl⟩]; exact hwv⟩
  rcases hG with ⟨hw1, hv1⟩ | hu
  · refine .inl ⟨w1 hw1, ?_⟩
    rw [lng, if_neg (fun e => n3 e.1)]
    exact hv1
  · exact .inr (gu hu)
/-- a beam's square is added -/
theorem z_addp {s : Int} (hB : BN T d xs z o x P A c4 n2) (h1 : o ≠ d + 8) (hod : o < d ∨ d + 94 ≤ o) (hd : d ∈ sds) (ho : aR0 o = ro) (hro : isW ro = true) (hb : W1 T (d + 51) z) (hG : ZG T o x v) (hs : (T.2.2.2.1 z 0).toInt * (T.2.2.2.1 z 0).toInt = s) (hs0 : 0 ≤ s) (hl : s ≤ 2000000000000) (hv : v < 1000000000000000) (hg : g_X10_addProduct T o 0 (d + 51) 0 (d + 51) 0 = some T1) : BN T1 d xs z o x P A c4 n2 ∧ ZU T1 o x (v + s) ∧ FQ T T1 o (d + 51) := by
  have rd := sd_ro hd
  have w := isW_f hro
  have l7 := w.2.2.2.1
  have y0 : (0 : Int32).toInt = 0 := by decide
  have z2 : (2 : Int32).toInt = 2 := by decide
  have k0 : (0 : Int32).toNatClampNeg = 0 := rfl
  obtain ⟨n1, n2', n3⟩ := hB.ne h1 (by omega)
  obtain ⟨⟨hV, hc, hrc, hri⟩, ⟨hw, hS⟩, ⟨b1, b2, o1, o2⟩, t1, t2, t3⟩ := id hB
  have q1 := tgo (c_addProduct ho hro rd.2.2.2.2.2.2.2.2.2 (by decide) rd.2.2.2.2.2.2.2.2.2 (by decide) hV (by omega) (by decide) (by decide)) hg
  have hc1 := crf_gr hc hV (sr_X10_addProduct hg)
  have hi1 := si_X10_addProduct hg hrc hri
  unfold g_X10_addProduct at hg
  obtain ⟨-, hg⟩ := oif_some hg
  obtain ⟨v3, d3, hg⟩ := elet_some hg
  obtain ⟨-, hg⟩ := oif_some hg
  obtain ⟨v5, d5, hg⟩ := elet_some hg
  rw [hb.2.2] at d3 d5
  obtain ⟨v6, d6, hg⟩ := elet_some hg
  have e6 : v6 = 2 := by rw [d6, d5, d3]; decide
  obtain ⟨-, hg⟩ := oif_some hg
  obtain ⟨T8, g8, hg⟩ := obind_some hg
  rw [e6] at g8
  have two : ∃ y u, UZ T8 o x y u ∧ (T8.2.1 y).1 = 101 ∧ ZH T8 o u 0 ∧ V2 T8 x y 0 v ∧ FQ T T8 o (d + 51) ∧ (∀ m k, m ≠ o ∨ k ≠ 2 → T8.2.2.1 m k = T.2.2.1 m k) ∧ (∀ m k, m < T.1 → m ≠ x → m ≠ y → T8.2.2.2.1 m k = T.2.2.2.1 m k) ∧ RI T8 ∧ (∀ m j, m ≠ o + 1 ∨ j ≠ 1 → T8.2.2.2.2 m j = T.2.2.2.2 m j) := by
    rcases hG with ⟨hw1, hv1, hv2, hv3⟩ | ⟨y, u, hu, sy, hz, hv1⟩
    · have i8 := si_X10_widenTo g8 hrc hri
      have c0 : T.2.2.1 o 0 = nI (cnt ro) := Int32.toInt_inj.mp (by rw [w_cnt hV ho hro, nI_toInt (by omega)])
      have gl := (sr_X10_widenTo g8).1
      obtain ⟨y, a1, a2, a3, a4, a5, a6⟩ := c_widen2 hw1 c0 l7.2 hrc hri t3 g8
      refine ⟨y, 2, ⟨a1.1, a1.2.1, a1.2.2.1, by rw [a1.2.2.2.1]; rfl, Nat.le_refl 2, by decide⟩, a2, fun p w' h2 h3 => absurd h3 (by omega), ?_, ⟨fun m k hm _ => a3 m k (.inl hm), fun m j hm => a4 m j (.inl hm), gl.2.1, gl.1⟩, a3, a5, i8.2, a4⟩
      have q := a6 0 (by omega) (by omega) (by omega)
      rw [hv1] at q
      exact q
    · have uI' : (nI u).toInt = (u : Int) := nI_toInt (by have := hu.2.2.2.2.2; omega)
      have u2 := hu.2.2.2.2.1
      have e8 := c_widenS (by rw [hu.2.2.2.1]; omega) g8
      rw [e8]
      exact ⟨y, u, hu, sy, hz, hv1, FQ.rf, fun _ _ _ => rfl, fun _ _ _ _ _ => rfl, hri, fun _ _ _ => rfl⟩
  obtain ⟨y, u, u8, s8, h8, v8, f8, i8, j8, r8, a8⟩ := two
  have hx8 := hrc _ _ _ o2
  have hz8 := hrc _ _ _ b2
  have hxs8 := hrc _ _ _ hw.2.1
  have nzy : z ≠ y := fun e => by
    have p := u8.2.2.1
    rw [← e] at p
    have := r8 (o + 1) 1 (d + 52) 0 _ p (by rw [a8 _ _ (.inl (by omega))]; exact b2) (by rw [f8.2.2.1 z hz8]; exact t2)
    omega
  have nxy : xs ≠ y := fun e => by
    have p := u8.2.2.1
    rw [← e] at p
    have := r8 (o + 1) 1 (d + 8 + 1) 0 _ p (by rw [a8 _ _ (.inl (by omega))]; exact hw.2.1) (by rw [f8.2.2.1 xs hxs8]; exact t1)
    omega
  have hb8 : W1 T8 (d + 51) z := ⟨by rw [a8 _ _ (.inl (by omega))]; exact b1, by rw [a8 _ _ (.inl (by omega))]; exact b2, by rw [i8 _ _ (.inl (by omega))]; exact hb.2.2⟩
  have z8 : T8.2.2.2.1 z 0 = T.2.2.2.1 z 0 := j8 z 0 hz8 (fun e => n3 e.symm) nzy
  have sx8 : (T8.2.1 x).1 = 101 := by rw [f8.2.2.1 x hx8]; exact t3
  obtain ⟨nxy8, ne8⟩ := zu_ne u8 r8 sx8 s8 h8
  obtain ⟨l1, p1, le1⟩ := c_addpU (i := 0) u8 nxy8 (by rw [k0]; exact ne8) hb8 (fun e => n3 e.symm) nzy (by rw [k0]; exact v8) (by rw [z8]; exact hs) hl hs0 hv hg
  rw [k0] at p1 le1
  have fq : FQ T T1 o (d + 51) := f8.tr (fq_lq l1)
  refine ⟨hB.go h1 hod fq q1.1 hc1 hi1.1 hi1.2 ?_ (fun k => ?_), ⟨y, u, u8.lq l1, ?_, fun p w' h2 h3 h4 => ?_, p1⟩, fq⟩
  · rw [l1.2.2.2]; exact u8.2.1
  · rw [le1 xs k (.inl ⟨fun e => n2' e.symm, nxy⟩)]
    exact j8 xs k hxs8 (fun e => n2' e.symm) nxy
  · rw [l1.2.1]; exact s8
  · rw [l1.2.2.2] at h4
    obtain ⟨a, b, c⟩ := ne8 p w' h2 h3 h4
    rw [le1 w' 0 (.inl ⟨a, b⟩)]
    exact c
theorem z_bpow (hB : BN T d xs z o x P A c4 n2) (h1 : o ≠ d + 8) (hod : o < d ∨ d + 94 ≤ o) (hd : d ∈ sds) (ho : aR0 o = ro) (hro : isW ro = true) (e4 : P 4 = nI c4) (l4 : c4 ≤ 12) (e2 : P 2 = nI n2) (l2 : n2 ≤ 200) (hr : SMr A c4 n2) (hD : DLs T dl D c4) (rdl : aR0 dl = 50) (hdl : dl < 242 ∨ 430 ≤ dl ∧ dl < 834) (hdo : dl ≠ o) (hg : g_X8_blockPowerOf T d dl 0 (nI (wdS A D n2 c4)) o 0 = some T1) : BN T1 d xs z o x P A c4 n2 ∧ ZG T1 o x (pwS A D n2 c4) := by
  have w := isW_f hro
  have l7 := w.2.2.2.1
  have y0 : (0 : Int32).toInt = 0 := by decide
  have k0 : (0 : Int32).toNatClampNeg = 0 := rfl
  have hdb : dl ≠ d + 51 := by have := sd_in hd; omega
  have wl : wdS A D n2 c4 ≤ n2 := wd_le (fun m hm => (hD m hm).2)
  generalize hW : wdS A D n2 c4 = W at hg wl
  have WI : (nI W).toInt = (W : Int) := nI_toInt (by omega)
  unfold g_X8_blockPowerOf at hg
  obtain ⟨v2, d2, hg⟩ := elet_some hg
  have e2' : v2 = nI W := by rw [d2, Int32.zero_add]
  obtain ⟨-, hg⟩ := oif_some hg
  obtain ⟨r6, T4, g6, hg⟩ := obind2_some hg
  obtain ⟨eT4, q6⟩ := c_wnd hB.1.2.1 hd e4 l4 e2 l2 hB.2.1.2 hD g6
  rw [hW] at q6
  rw [eT4] at hg
  obtain ⟨v8, d8, hg⟩ := elet_some hg
  have e8 : v8 = nI W := by rw [d8, q6, e2', ite_self]
  rw [e8] at hg
  obtain ⟨-, hg⟩ := oif_some hg
  obtain ⟨T10, g10, hg⟩ := obind_some hg
  obtain ⟨B10, G10, lq10⟩ := z_clear hB h1 hod ho hro g10
  have lp : ∀ (n t : Nat) {U : AT}, t ≤ W → BN U d xs z o x P A c4 n2 → FQ T U o (d + 51) → ZG U o x (enS A D n2 c4 t) → (0 < t → ZU U o x (enS A D n2 c4 t)) → g_X8_blockPowerOf_b23 n U d dl (nI W) o 0 (nI W) (nI t) = some T1 → BN T1 d xs z o x P A c4 n2 ∧ ZG T1 o x (pwS A D n2 c4) := by
    intro n
    induction n with
    | zero => intro t U ht hB hf hG hU h; cases h
    | succ n ih =>
      intro t U ht hB hf hG hU h
      have tI : (nI t).toInt = (t : Int) := nI_toInt (by omega)
      have en := en_rg (D := D) hr l4 t
      unfold g_X8_blockPowerOf_b23 at h
      rcases oif_or h with ⟨q, h⟩ | ⟨q, h⟩
      · have q2 := (nI_leI (a := W) (by omega) (by omega)).mp q
        have et : t = W := by omega
        obtain ⟨-, h⟩ := oif_some h
        obtain ⟨T4, g4, h⟩ := obind_some h
        unfold g_X8_blockPowerOf_b68 at h
        rw [osome1 h] at g4
        by_cases z0 : W = 0
        · have e4 : T1 = U := by
            unfold g_X10_divide at g4
            rw [if_neg (by rw [z0]; decide)] at g4
            exact (osome1 g4).symm
          have ep : pwS A D n2 c4 = enS A D n2 c4 t := by
            unfold pwS
            rw [hW, if_pos z0, et, z0]
            rfl
          rw [e4, ep]
          exact ⟨hB, hG⟩
        · obtain ⟨y, u, hu, sy, hz, hv⟩ := hU (by omega)
          obtain ⟨n1, nx, n3⟩ := hB.ne h1 (by omega)
          obtain ⟨⟨hV, hc, hrc, hri⟩, ⟨hw, hS⟩, ⟨b1, b2, o1, o2⟩, t1, t2, t3⟩ := id hB
          obtain ⟨nxy8, ne8⟩ := zu_ne hu hri t3 sy hz
          obtain ⟨l, p, le⟩ := c_divU (i := 0) hu nxy8 (by rw [k0]; exact hz) (by rw [k0]; exact hv) (by omega) g4
          rw [k0] at p le
          have q1 := tgo (c_divide ho hro hV (by omega)) g4
          have hc1 := crf_gr hc hV (sr_X10_divide g4)
          have i1 := si_X10_divide g4 hrc hri
          have nxy : xs ≠ y := fun e => by
            have p := hu.2.2.1
            rw [← e] at p
            have := hri _ _ _ _ _ p hw.2.1 t1
            omega
          have ep : pwS A D n2 c4 = enS A D n2 c4 t / (nI W).toInt := by
            unfold pwS
            rw [hW, if_neg z0, et, WI]
          refine ⟨hB.go h1 hod (fq_lq l) q1.1 hc1 i1.1 i1.2 (by rw [l.2.2.2]; exact o2) (fun k => le xs k (.inl ⟨fun e => nx e.symm, nxy⟩)), .inr ⟨y, u, hu.lq l, by rw [l.2.1]; exact sy, fun p' w' h2 h3 h4 => ?_, by rw [ep]; exact p⟩⟩
          rw [l.2.2.2] at h4
          obtain ⟨a, b, c⟩ := ne8 p' w' h2 h3 h4
          rw [le w' 0 (.inl ⟨a, b⟩)]
          exact c
      · have q2 : ¬ W ≤ t := fun z => q ((nI_leI (a := W) (by omega) (by omega)).mpr z)
        obtain ⟨-, h⟩ := oif_some h
        obtain ⟨T7, g7, h⟩ := obind_some h
        have hDU := dls_fq hf hdo hdb hD
        obtain ⟨B7, G7, U7, f7, w7, z7⟩ := z_focus hB h1 hod hd e4 l4 e2 l2 hr hDU rdl hdl (by omega) hG g7
        unfold g_X8_blockPowerOf_b37 at h
        obtain ⟨-, h⟩ := oif_some h
        obtain ⟨n3, en3, h⟩ := obind_some h
        rw [(sd_rf B7.1.2.1 hd).2.2.2.2.2.2.2.2] at en3
        cases en3
        obtain ⟨-, h⟩ := oif_some h
        obtain ⟨n5, en5, h⟩ := obind_some h
        rw [(sd_rf B7.1.2.1 hd).2.2.2.2.2.2.2.2] at en5
        cases en5
        obtain ⟨-, h⟩ := oif_some h
        obtain ⟨T8, g8, h⟩ := obind_some h
        have bm := bm_rg (D := D) hr (t := t) c4 (Nat.le_refl _)
        have sq := sq_rg (b := bmS A D n2 t c4) (by omega) (by omega)
        obtain ⟨B8, U8, f8⟩ := z_addp (s := bmS A D n2 t c4 * bmS A D n2 t c4) B7 h1 hod hd ho hro w7 G7 (by rw [z7]) sq.1 (by omega) (by omega) g8
        unfold g_X8_blockPowerOf_b54 at h
        obtain ⟨w2, k2, h⟩ := elet_some h
        rw [show w2 = nI (t + 1) from k2.trans (nI_p1 t)] at h
        exact ih (t + 1) (by omega) B8 ((hf.tr f7).tr f8) (.inr U8) (fun _ => U8) h
  exact lp 16384 0 (Nat.zero_le _) B10 (fq_lq lq10) G10 (fun h => absurd h (Nat.lt_irrefl 0)) hg
end
