/-! the class's power of a cell: number C of a table -/
section
variable {T T1 T0 : AT} {P A : Nat → Int32} {o x y z d dl xs ro : Nat} {c4 n2 C : Nat} {D : Nat → Int32} {v : Nat → Int}
def upv (v : Nat → Int) (C : Nat) (k : Int) : Nat → Int := fun c => if c = C then k else v c
theorem upv_at {k : Int} : upv v C k C = k := by
  unfold upv
  rw [if_pos rfl]
theorem upv_ne {k : Int} {c : Nat} (h : c ≠ C) : upv v C k c = v c := by
  unfold upv
  rw [if_neg h]
theorem dls_fq {b : Nat} (h : FQ T T1 o b) (h1 : dl ≠ o) (h2 : dl ≠ b) (hD : DLs T dl D c4) : DLs T1 dl D c4 := fun m hm => by
  rw [h.1 _ _ h1 h2]
  exact hD m hm
/-- a place is emptied -/
theorem c_clearC (hB : BN T d xs z o x P A c4 n2) (h1 : o ≠ d + 8) (hod : o < d ∨ d + 94 ≤ o) (ho : aR0 o = ro) (hro : isW ro = true) (hC : C < cnt ro) (hG : RG T o x C v) (hg : g_X10_clear T o (nI C) = some T1) : BN T1 d xs z o x P A c4 n2 ∧ RG T1 o x (C + 1) (upv v C 0) ∧ LQ T T1 := by
  have w := isW_f hro
  have l7 := w.2.2.2.1
  have kC : (nI C).toNatClampNeg = C := nI_clamp (by omega)
  have CI : (nI C).toInt = (C : Int) := nI_toInt (by omega)
  have z0 : (0 : Int64).toInt = 0 := by decide
  obtain ⟨n1, nx, n3⟩ := hB.ne h1 (by omega)
  obtain ⟨⟨hV, hc, hrc, hri⟩, ⟨hw, hS⟩, ⟨b1, b2, o1, o2⟩, t1, t2, t3⟩ := id hB
  have q1 := tgo (c_clear hV ho hro (by omega)) hg
  have sp := s_X10_clear hg
  have i1 := gi_sp sp hrc hri
  have hc1 := crf_eq hc sp.2.2
  rcases hG with ⟨hw1, hv1⟩ | ⟨y, hu, sy, hv1⟩
  · have e := c_clear1 hw1 hg
    rw [kC] at e
    have l : LQ T T1 := by rw [e]; exact lq_uJ
    have at1 : ∀ m j, T1.2.2.2.1 m j = if m = x ∧ j = C then 0 else T.2.2.2.1 m j := fun m j => by rw [e, uj_get]
    refine ⟨hB.go h1 hod (fq_lq l) q1.1 hc1 i1.1 i1.2 (by rw [l.2.2.2]; exact o2) (fun k => ?_), .inl ⟨hw1.lq l, fun c hcc => ?_⟩, l⟩
    · rw [at1, if_neg (fun e => nx e.1.symm)]
    · by_cases e2 : c = C
      · rw [e2, upv_at, at1, if_pos ⟨rfl, rfl⟩]
        exact ⟨z0, by decide, by decide⟩
      · rw [upv_ne e2, at1, if_neg (fun e => e2 e.2)]
        exact hv1 c (by omega)
  · obtain ⟨l, p, le⟩ := c_clear2 hu hg
    rw [kC] at p le
    have nxy : xs ≠ y := fun e => by
      have p := hu.2.2.1
      rw [← e] at p
      have := hri _ _ _ _ _ p hw.2.1 t1
      omega
    refine ⟨hB.go h1 hod (fq_lq l) q1.1 hc1 i1.1 i1.2 (by rw [l.2.2.2]; exact o2) (fun k => le xs k (.inl ⟨fun e => nx e.symm, nxy⟩)), .inr ⟨y, hu.lq l, by rw [l.2.1]; exact sy, fun c hcc => ?_⟩, l⟩
    by_cases e2 : c = C
    · rw [e2, upv_at]; exact p
    · rw [upv_ne e2]
      have q := hv1 c (by omega)
      unfold V2 at q ⊢
      rw [le x c (.inr e2), le y c (.inr e2)]
      exact q
/-- behind focus: the bundle, the numbers, the beam -/
theorem c_focusB {t : Nat} (hB : BN T d xs z o x P A c4 n2) (h1 : o ≠ d + 8) (hod : o < d ∨ d + 94 ≤ o) (hd : d ∈ sds) (e4 : P 4 = nI c4) (l4 : c4 ≤ 12) (e2 : P 2 = nI n2) (l2 : n2 ≤ 200) (hr : SMr A c4 n2) (hD : DLs T dl D c4) (rdl : aR0 dl = 50) (hdl : dl < 242 ∨ 430 ≤ dl ∧ dl < 834) (ht : t < 200) (hG : RG T o x C v) (hg : g_X8_focus T d dl (nI t) = some T1) : BN T1 d xs z o x P A c4 n2 ∧ RG T1 o x C v ∧ (RGU T o x C v → RGU T1 o x C v) ∧ FQ T T1 o (d + 51) ∧ W1 T1 (d + 51) z ∧ (T1.2.2.2.1 z 0).toInt = bmS A D n2 t c4 := by
  have rd := sd_ro hd
  obtain ⟨n1, nx, n3⟩ := hB.ne h1 (by omega)
  obtain ⟨⟨hV, hc, hrc, hri⟩, ⟨hw, hS⟩, ⟨b1, b2, o1, o2⟩, t1, t2, t3⟩ := id hB
  have q1 := tgo (cs_X8_focus T d dl (nI t) hV rd.1 rdl) hg
  have hc1 := crf_gr hc hV (sr_X8_focus hg)
  have i1 := si_X8_focus hg hrc hri
  obtain ⟨⟨w, hwv, e⟩, hb⟩ := c_focus hc hd e4 l4 e2 l2 hw hS hr hD hdl ht b1 b2 n1 hg
  have ints : ∀ m k, m ≠ d + 51 → T1.2.2.1 m k = T.2.2.1 m k := fun m k h => by
    rw [e]
    show (uI T (d + 51) 2 1).2.2.1 m k = _
    exact ui_ne (.inl h)
  have refs : T1.2.2.2.2 = T.2.2.2.2 := by rw [e]; rfl
  have shs : T1.2.1 = T.2.1 := by rw [e]; rfl
  have ones : T1.1 = T.1 := by rw [e]; rfl
  have lng : ∀ m j, T1.2.2.2.1 m j = if m = z ∧ j = 0 then w else T.2.2.2.1 m j := fun m j => by
    rw [e, uj_get]
    rfl
  have fq : FQ T T1 o (d + 51) := ⟨fun m k _ h => ints m k h, fun m j _ => by rw [refs], fun m _ => by rw [shs], Nat.le_of_eq ones.symm⟩
  have w1 : W1 T o x → W1 T1 o x := fun h => ⟨by rw [refs]; exact h.1, by rw [refs]; exact h.2.1, by rw [ints _ _ (by omega)]; exact h.2.2⟩
  have gu : RGU T o x C v → RGU T1 o x C v := fun ⟨y, hu, sy, hv⟩ => by
    have nzy : z ≠ y := fun e => by
      have p := hu.2.2.1
      rw [← e] at p
      have := hri _ _ _ _ _ p b2 t2
      omega
    refine ⟨y, ⟨?_, ?_, ?_, ?_, hu.2.2.2.2⟩, by rw [shs]; exact sy, fun c hcc => ?_⟩
    · rw [refs]; exact hu.1
    · rw [refs]; exact hu.2.1
    · rw [refs]; exact hu.2.2.1
    · rw [ints _ _ (by omega)]; exact hu.2.2.2.1
    · have q := hv c hcc
      unfold V2 at q ⊢
      rw [lng x, lng y, if_neg (fun e => n3 e.1), if_neg (fun e => nzy e.1.symm)]
      exact q
  refine ⟨hB.go h1 hod fq q1.1 hc1 i1.1 i1.2 (by rw [refs]; exact o2) (fun k => by rw [lng, if_neg (fun e => n1 e.1.symm)]), ?_, gu, fq, hb, by rw [lng, if_pos ⟨rfl, rfl⟩]; exact hwv⟩
  rcases hG with ⟨hw1, hv1⟩ | hu
  · refine .inl ⟨w1 hw1, fun c hcc => ?_⟩
    rw [lng, if_neg (fun e => n3 e.1)]
    exact hv1 c hcc
  · exact .inr (gu hu)
theorem RG.cg {v1 : Nat → Int} (h : RG T o x C v) (e : ∀ c, c < C → v1 c = v c) : RG T o x C v1 := by
  rcases h with ⟨a, b⟩ | ⟨y, a, b, c⟩
  · exact .inl ⟨a, fun c hc => by rw [e c hc]; exact b c hc⟩
  · exact .inr ⟨y, a, b, fun k hk => by rw [e k hk]; exact c k hk⟩
theorem RGU.cg {v1 : Nat → Int} (h : RGU T o x C v) (e : ∀ c, c < C → v1 c = v c) : RGU T o x C v1 := by
  obtain ⟨y, a, b, c⟩ := h
  exact ⟨y, a, b, fun k hk => by rw [e k hk]; exact c k hk⟩
theorem c_bpow (hB : BN T d xs z o x P A c4 n2) (h1 : o ≠ d + 8) (hod : o < d ∨ d + 94 ≤ o) (hd : d ∈ sds) (ho : aR0 o = ro) (hro : isW ro = true) (hC : C < cnt ro) (e4 : P 4 = nI c4) (l4 : c4 ≤ 12) (e2 : P 2 = nI n2) (l2 : n2 ≤ 200) (hr : SMr A c4 n2) (hD : DLs T dl D c4) (rdl : aR0 dl = 50) (hdl : dl < 242 ∨ 430 ≤ dl ∧ dl < 834) (hdo : dl ≠ o) (hG : RG T o x C v) (hg : g_X8_blockPowerOf T d dl 0 (nI (wdS A D n2 c4)) o (nI C) = some T1) : BN T1 d xs z o x P A c4 n2 ∧ RG T1 o x (C + 1) (upv v C (pwS A D n2 c4)) ∧ FQ T T1 o (d + 51) := by
  have w := isW_f hro
  have l7 := w.2.2.2.1
  have CI : (nI C).toInt = (C : Int) := nI_toInt (by omega)
  have kC : (nI C).toNatClampNeg = C := nI_clamp (by omega)
  have hdb : dl ≠ d + 51 := by have := sd_in hd; omega
  have wl : wdS A D n2 c4 ≤ n2 := wd_le (fun m hm => (hD m hm).2)
  generalize hW : wdS A D n2 c4 = W at hg wl
  have WI : (nI W).toInt = (W : Int) := nI_toInt (by omega)
  unfold g_X8_blockPowerOf at hg
  obtain ⟨v2, d2, hg⟩ := elet_some hg
  have e2' : v2 = nI W := by rw [d2, Int32.zero_add]
  obtain ⟨-, hg⟩ := oif_some hg
  obtain ⟨r6, T4, g6, hg⟩ := obind2_some hg
  obtain ⟨eT4, q6⟩ := c_wnd hB.1.2.1 hd e4 l4 e2 l2 hB.2.1.2 hD g6
  rw [hW] at q6
  rw [eT4] at hg
  obtain ⟨v8, d8, hg⟩ := elet_some hg
  have e8 : v8 = nI W := by rw [d8, q6, e2', ite_self]
  rw [e8] at hg
  obtain ⟨-, hg⟩ := oif_some hg
  obtain ⟨T10, g10, hg⟩ := obind_some hg
  obtain ⟨B10, G10, lq10⟩ := c_clearC hB h1 hod ho hro hC hG g10
  have lp : ∀ (n t : Nat) {U : AT}, t ≤ W → BN U d xs z o x P A c4 n2 → FQ T U o (d + 51) → RG U o x (C + 1) (upv v C (enS A D n2 c4 t)) → (0 < t → RGU U o x (C + 1) (upv v C (enS A D n2 c4 t))) → g_X8_blockPowerOf_b23 n U d dl (nI W) o (nI C) (nI W) (nI t) = some T1 → BN T1 d xs z o x P A c4 n2 ∧ RG T1 o x (C + 1) (upv v C (pwS A D n2 c4)) ∧ FQ T T1 o (d + 51) := by
    intro n
    induction n with
    | zero => intro t U ht hB hf hG hU h; cases h
    | succ n ih =>
      intro t U ht hB hf hG hU h
      have tI : (nI t).toInt = (t : Int) := nI_toInt (by omega)
      have en := en_rg (D := D) hr l4 t
      unfold g_X8_blockPowerOf_b23 at h
      rcases oif_or h with ⟨q, h⟩ | ⟨q, h⟩
      · have q2 := (nI_leI (a := W) (by omega) (by omega)).mp q
        have et : t = W := by omega
        obtain ⟨-, h⟩ := oif_some h
        obtain ⟨T4, g4, h⟩ := obind_some h
        unfold g_X8_blockPowerOf_b68 at h
        rw [osome1 h] at g4
        by_cases z0 : W = 0
        · have e4 : T1 = U := by
            unfold g_X10_divide at g4
            rw [if_neg (by rw [z0]; decide)] at g4
            exact (osome1 g4).symm
          have ep : pwS A D n2 c4 = enS A D n2 c4 t := by
            unfold pwS
            rw [hW, if_pos z0, et, z0]
            rfl
          rw [e4, ep]
          exact ⟨hB, hG, hf⟩
        · obtain ⟨y, hu, sy, hv⟩ := hU (by omega)
          have hvC := hv C (by omega)
          rw [upv_at, ← kC] at hvC
          obtain ⟨l, p, le⟩ := c_div2 hu hvC (by omega) g4
          rw [kC] at p le
          obtain ⟨n1, nx, n3⟩ := hB.ne h1 (by omega)
          obtain ⟨⟨hV, hc, hrc, hri⟩, ⟨hw, hS⟩, ⟨b1, b2, o1, o2⟩, t1, t2, t3⟩ := id hB
          have q1 := tgo (c_divide ho hro hV (by omega)) g4
          have hc1 := crf_gr hc hV (sr_X10_divide g4)
          have i1 := si_X10_divide g4 hrc hri
          have nxy : xs ≠ y := fun e => by
            have p := hu.2.2.1
            rw [← e] at p
            have := hri _ _ _ _ _ p hw.2.1 t1
            omega
          have ep : pwS A D n2 c4 = enS A D n2 c4 t / (nI W).toInt := by
            unfold pwS
            rw [hW, if_neg z0, et, WI]
          refine ⟨hB.go h1 hod (fq_lq l) q1.1 hc1 i1.1 i1.2 (by rw [l.2.2.2]; exact o2) (fun k => le xs k (.inl ⟨fun e => nx e.symm, nxy⟩)), .inr ⟨y, hu.lq l, by rw [l.2.1]; exact sy, fun c hcc => ?_⟩, hf.tr (fq_lq l)⟩
          by_cases e2 : c = C
          · rw [e2, upv_at, ep]; exact p
          · have q := hv c hcc
            rw [upv_ne e2] at q ⊢
            unfold V2 at q ⊢
            rw [le x c (.inr e2), le y c (.inr e2)]
            exact q
      · have q2 : ¬ W ≤ t := fun z => q ((nI_leI (a := W) (by omega) (by omega)).mpr z)
        obtain ⟨-, h⟩ := oif_some h
        obtain ⟨T7, g7, h⟩ := obind_some h
        have hDU := dls_fq hf hdo hdb hD
        obtain ⟨B7, G7, U7, f7, w7, z7⟩ := c_focusB hB h1 hod hd e4 l4 e2 l2 hr hDU rdl hdl (by omega) hG g7
        unfold g_X8_blockPowerOf_b37 at h
        obtain ⟨-, h⟩ := oif_some h
        obtain ⟨n3, en3, h⟩ := obind_some h
        rw [(sd_rf B7.1.2.1 hd).2.2.2.2.2.2.2.2] at en3
        cases en3
        obtain ⟨-, h⟩ := oif_some h
        obtain ⟨n5, en5, h⟩ := obind_some h
        rw [(sd_rf B7.1.2.1 hd).2.2.2.2.2.2.2.2] at en5
        cases en5
        obtain ⟨-, h⟩ := oif_some h
        obtain ⟨T8, g8, h⟩ := obind_some h
        have bm := bm_rg (D := D) hr (t := t) c4 (Nat.le_refl _)
        have sq := sq_rg (b := bmS A D n2 t c4) (by omega) (by omega)
        obtain ⟨B8, U8, f8⟩ := c_addp (s := bmS A D n2 t c4 * bmS A D n2 t c4) B7 h1 hod hd ho hro hC w7 G7 (by rw [z7]) sq.1 (by omega) (by rw [upv_at]; omega) g8
        unfold g_X8_blockPowerOf_b54 at h
        obtain ⟨w2, k2, h⟩ := elet_some h
        rw [show w2 = nI (t + 1) from k2.trans (nI_p1 t)] at h
        have U8' : RGU T8 o x (C + 1) (upv v C (enS A D n2 c4 (t + 1))) := U8.cg (fun c hcc => by
          by_cases e : c = C
          · rw [e, upv_at, if_pos rfl, upv_at]
            rfl
          · rw [upv_ne e, if_neg e, upv_ne e])
        exact ih (t + 1) (by omega) B8 ((hf.tr f7).tr f8) (.inr U8') (fun _ => U8') h
  exact lp 16384 0 (Nat.zero_le _) B10 (fq_lq lq10) G10 (fun h => absurd h (Nat.lt_irrefl 0)) hg
end
