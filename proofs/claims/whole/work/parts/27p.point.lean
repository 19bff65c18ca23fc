/-! the recordings of a point; the answer of pointBest -/
section
variable {T T1 T0 : AT} {S S1 : MS} {P A : Nat → Int32} {s d xs : Nat} {c4 n2 c5 c71 c77 : Nat} {k1 : Nat} {r1 r2 : Int32}
theorem rm_rg {a v : Int32} (ha : 0 ≤ a.toInt) (hv : 1 ≤ v.toInt) : 0 ≤ (rmS a v).toInt ∧ (rmS a v).toInt < v.toInt := by
  have q := i_divq (v := a / v) rfl ha hv
  have l := Int32.toInt_lt a
  have m := Int.mul_ediv_add_emod a.toInt v.toInt
  have m0 := Int.emod_nonneg a.toInt (show v.toInt ≠ 0 by omega)
  have m1 := Int.emod_lt_of_pos a.toInt (show 0 < v.toInt by omega)
  have n := Int.ediv_nonneg ha (show 0 ≤ v.toInt by omega)
  have mn := Int.mul_nonneg (show 0 ≤ v.toInt by omega) n
  have p : (a / v * v).toInt = v.toInt * (a.toInt / v.toInt) := by
    rw [Int32.toInt_mul, q, Int.mul_comm, bm32 (by omega) (by omega)]
  have s := i_sub (v := a - a / v * v) rfl (by omega) (by omega)
  unfold rmS
  omega
theorem ctr_rg {a : Int32} (hP : PL P) (ha : 0 ≤ a.toInt) (h9 : a.toInt < (P 9).toInt * (P 10).toInt) : (-4000 ≤ (cxS P a).toInt ∧ (cxS P a).toInt ≤ 4000) ∧ -4000 ≤ (cyS P a).toInt ∧ (cyS P a).toInt ≤ 4000 := by
  have p6 := pl_6 hP
  have p7 := pl_7 hP
  have p8 := pl_8 hP
  have p9 := pl_9 hP
  have p10 := pl_10 hP
  have r := rm_rg (v := P 9) ha p9.1
  have m := i_muls (v := P 8 * rmS a (P 9)) (b := 99) (d := 11) rfl (by omega) (by omega) (by omega) (by omega) (by decide)
  have s := i_add (v := P 6 + P 8 * rmS a (P 9)) rfl (by omega) (by omega)
  have q := i_divq (v := a / P 9) rfl ha p9.1
  have q0 := Int.ediv_nonneg ha (show 0 ≤ (P 9).toInt by omega)
  have q1 : a.toInt / (P 9).toInt < (P 10).toInt := Int.ediv_lt_of_lt_mul (by omega) (by rw [Int.mul_comm]; exact h9)
  have m2 := i_muls (v := P 8 * (a / P 9)) (b := 99) (d := 11) rfl (by omega) (by omega) (by omega) (by omega) (by decide)
  have s2 := i_add (v := P 7 + P 8 * (a / P 9)) rfl (by omega) (by omega)
  unfold cxS cyS
  omega
theorem c_recp {a pp : Int32} (hs : s = 478 ∨ s = 656) (hP : PL P) (hI : IC P S) (hC : PCs P c4 n2 c5 c71 c77) (hc : CRF T) (hL : ∀ i, i < 12 → (T.2.1 (9 + i)).2 = 200) (hE : SCE s T P) (ha : 0 ≤ a.toInt) (h9 : a.toInt < (P 9).toInt * (P 10).toInt) (hp : 2 ≤ pp.toInt ∧ pp.toInt ≤ 99) (e7 : T.2.2.1 21 7 = 0) (e8 : T.2.2.1 21 8 = 0) (h : g_X5_recordPoint T 7 s d a pp = some T1) : ∃ T16 T2, (T16.2.1 = T.2.1 ∧ T16.2.2.2.2 = T.2.2.2.2 ∧ ∀ m k, ¬ (9 ≤ m ∧ m < 22) → T16.2.2.1 m k = T.2.2.1 m k) ∧ HQ T16 T2 ∧ HG T2 (fun m t => hvS P a pp m (cxS P a) (cyS P a) 0 t) c4 n2 ∧ g_X5_finish T2 7 s d = some T1 := by
  obtain ⟨e4, l4, e2, l2, e5, l5, e71, l71, e77, l77⟩ := hC
  have p9 := pl_9 hP
  have na : ¬ a = -1 := fun w => by rw [w] at ha; exact absurd ha (by decide)
  have i2 : (nI n2).toInt = (n2 : Int) := nI_toInt (by omega)
  unfold g_X5_recordPoint at h
  obtain ⟨-, h⟩ := oif_some h
  obtain ⟨T3, g3, h⟩ := obind_some h
  obtain ⟨hq, hz⟩ := c_silence hc hL g3
  have hc3 := crf_eq hc hq.2.1
  obtain ⟨-, h⟩ := oif_some h
  obtain ⟨n6, en, h⟩ := obind_some h
  rw [(rc_rf hc3).2.1] at en
  cases en
  obtain ⟨-, h⟩ := oif_some h
  obtain ⟨T8, e8', h⟩ := elet_some h
  have hc8 := crf_eq hc3 (show T8.2.2.2.2 = T3.2.2.2.2 by rw [e8']; rfl)
  obtain ⟨-, h⟩ := oif_some h
  obtain ⟨n10, en, h⟩ := obind_some h
  rw [(rc_rf hc8).2.1] at en
  cases en
  obtain ⟨-, h⟩ := oif_some h
  obtain ⟨T12, e12, h⟩ := elet_some h
  have hc12 := crf_eq hc8 (show T12.2.2.2.2 = T8.2.2.2.2 by rw [e12]; rfl)
  obtain ⟨-, h⟩ := oif_some h
  obtain ⟨n14, en, h⟩ := obind_some h
  rw [(rc_rf hc12).2.1] at en
  cases en
  obtain ⟨-, h⟩ := oif_some h
  obtain ⟨T16, e16, h⟩ := elet_some h
  have hc16 := crf_eq hc12 (show T16.2.2.2.2 = T12.2.2.2.2 by rw [e16]; rfl)
  have at16 : ∀ m k, m ≠ 21 → T16.2.2.1 m k = T3.2.2.1 m k := fun m k c => by
    rw [e16, ui_ne (.inl c), e12, ui_ne (.inl c), e8', ui_ne (.inl c)]
  have f0 : T16.2.2.1 21 0 = 0 := by rw [e16, ui_ne (.inr (by decide)), e12, ui_ne (.inr (by decide)), e8']; exact ui_at
  have f5 : T16.2.2.1 21 5 = 100 := by rw [e16, ui_ne (.inr (by decide)), e12]; exact ui_at
  have f6 : T16.2.2.1 21 6 = pp := by rw [e16]; exact ui_at
  have f7 : T16.2.2.1 21 7 = 0 := by rw [e16, ui_ne (.inr (by decide)), e12, ui_ne (.inr (by decide)), e8', ui_ne (.inr (by decide)), hq.2.2 _ _ (by decide)]; exact e7
  have f8 : T16.2.2.1 21 8 = 0 := by rw [e16, ui_ne (.inr (by decide)), e12, ui_ne (.inr (by decide)), e8', ui_ne (.inr (by decide)), hq.2.2 _ _ (by decide)]; exact e8
  have fr : ∀ m k, ¬ (9 ≤ m ∧ m < 22) → T16.2.2.1 m k = T.2.2.1 m k := fun m k c => by
    rw [at16 m k (by omega), hq.2.2 m k (by omega)]
  have sh16 : T16.2.1 = T.2.1 := by rw [e16, e12, e8']; exact hq.1
  have rf16 : T16.2.2.2.2 = T.2.2.2.2 := by rw [e16, e12, e8']; exact hq.2.1
  have hE16 : SCE s T16 P := sce_eq hE ⟨fun j _ => fr _ _ (by omega), fun j _ => fr _ _ (by omega), fun j => fr _ _ (by omega), fun m j _ _ => fr _ _ (by omega), fun m j _ _ => fr _ _ (by omega), fun m j _ _ _ => fr _ _ (by omega), fun m j _ _ _ => fr _ _ (by omega)⟩ (fun _ _ => rfl)
  have hS16 := snd_pt (P := P) na hp f0 f5 f6 f7 f8
  have hF := hc16.srf hs
  obtain ⟨-, -, ⟨y3, y4, gg⟩, -⟩ := id hE16
  have gg : T16.2.2.1 (s + 2) 0 = P 6 ∧ T16.2.2.1 (s + 2) 1 = P 7 ∧ T16.2.2.1 (s + 2) 2 = P 8 := by
    rcases gg with ⟨-, q1, -⟩ | ⟨-, -, x0, x1, x2, -⟩
    · rw [q1] at p9
      exact absurd p9.1 (by decide)
    · exact ⟨x0, x1, x2⟩
  obtain ⟨-, h⟩ := oif_some h
  obtain ⟨n18, en, h⟩ := obind_some h
  rw [hF.2.1] at en
  cases en
  obtain ⟨-, h⟩ := oif_some h
  obtain ⟨r22, T20, g20, h⟩ := obind2_some h
  obtain ⟨e20, q20⟩ := c_ctrX p9.1 y3 g20
  rw [e20] at h
  obtain ⟨-, h⟩ := oif_some h
  obtain ⟨n25, en, h⟩ := obind_some h
  rw [hF.2.1] at en
  cases en
  obtain ⟨-, h⟩ := oif_some h
  obtain ⟨r29, T27, g27, h⟩ := obind2_some h
  obtain ⟨e27, q27⟩ := c_ctrY ha p9.1 y3 g27
  rw [e27] at h
  rw [gg.1, gg.2.2] at q20
  rw [gg.2.1, gg.2.2] at q27
  have qx : r22 = cxS P a := q20
  have qy : r29 = cyS P a := q27
  rw [qx, qy] at h
  obtain ⟨gx, gy⟩ := ctr_rg hP ha h9
  have lp : ∀ (n t : Nat) {U : AT}, t ≤ n2 → HQ T16 U → (∀ m u, m < c4 → u < n2 → U.2.2.1 (9 + m) u = if u < t then hvS P a pp m (cxS P a) (cyS P a) 0 (nI u) else 0) → g_X5_recordPoint_b53 n U 7 s d (cxS P a) (cyS P a) (nI t) = some T1 → ∃ T2, HQ T16 T2 ∧ HG T2 (fun m t => hvS P a pp m (cxS P a) (cyS P a) 0 t) c4 n2 ∧ g_X5_finish T2 7 s d = some T1 := by
    intro n
    induction n with
    | zero => intro t U ht hu hh h; cases h
    | succ n ih =>
      intro t U ht hu hh h
      have tI : (nI t).toInt = (t : Int) := nI_toInt (by omega)
      have kt : (nI t).toNatClampNeg = t := nI_clamp (by omega)
      have hcU := crf_eq hc16 hu.2.1
      have hEU := hq_sce hu hs hE16
      unfold g_X5_recordPoint_b53 at h
      obtain ⟨-, h⟩ := oif_some h
      obtain ⟨v3, d3, h⟩ := elet_some h
      rw [hEU.1.2.2.1, e2] at d3
      rcases oif_or h with ⟨q, h⟩ | ⟨q, h⟩
      · rw [d3] at q
        have q2 := (nI_leI (a := n2) (by omega) (by omega)).mp q
        obtain ⟨-, h⟩ := oif_some h
        obtain ⟨T6, g6, h⟩ := obind_some h
        unfold g_X5_recordPoint_b89 at h
        rw [osome1 h] at g6
        exact ⟨U, hu, fun m u hm hu2 => by rw [hh m u hm hu2, if_pos (by omega)], g6⟩
      · rw [d3] at q
        have q2 : ¬ n2 ≤ t := fun z => q ((nI_leI (a := n2) (by omega) (by omega)).mpr z)
        obtain ⟨-, h⟩ := oif_some h
        obtain ⟨n9, en, h⟩ := obind_some h
        rw [(rc_rf hcU).2.1] at en
        cases en
        obtain ⟨-, h⟩ := oif_some h
        obtain ⟨T11, g11, h⟩ := obind_some h
        obtain ⟨v13, d13, h⟩ := elet_some h
        rw [show v13 = nI (t + 1) from d13.trans (nI_p1 t)] at h
        obtain ⟨hq11, hv⟩ := c_hear (pp := pp) hs (by decide) hP hI e4 l4 e71 l71 gx gy ⟨by omega, by omega⟩ hcU hEU (hq_snd hu (by decide) hS16) g11
        refine ih (t + 1) (by omega) (hu.tr hq11) (fun m u hm hu2 => ?_) h
        rw [hv m (by omega), kt, hh m u hm hu2]
        by_cases e : u = t
        · rw [if_pos (by omega), if_neg (by omega), if_pos (by omega), e, Int32.zero_add]
        · rw [if_neg (by omega)]
          by_cases e2 : u < t
          · rw [if_pos e2, if_pos (by omega)]
          · rw [if_neg e2, if_neg (by omega)]
  obtain ⟨T2, x1, x2, x3⟩ := lp 16384 0 (Nat.zero_le _) HQ.rf (fun m u hm hu => by rw [if_neg (by omega), at16 _ _ (by omega)]; exact hz m u (by omega) (by omega)) h
  exact ⟨T16, T2, ⟨sh16, rf16, fr⟩, x1, x2, x3⟩
/-- both record the point -/
theorem rp_alike {S' : MS} {a pp : Int32} (hs : s = 478 ∨ s = 656) (hP : PL (S.2.1 10)) (hI : IC (S.2.1 10) S') (hV : IV aR0 1586 aK1 aK2 T) (hc : CRF T) (hE : SCE s T (S.2.1 10)) (hS : STa T 336 (S.2.1 10) (S.2.1 14) 0) (hC : PCs (S.2.1 10) c4 n2 c5 c71 c77) (ha : 0 ≤ a.toInt) (h9 : a.toInt < (S.2.1 10 9).toInt * (S.2.1 10 10).toInt) (hp : 2 ≤ pp.toInt ∧ pp.toInt ≤ 99) (e7 : T.2.2.1 21 7 = 0) (e8 : T.2.2.1 21 8 = 0) (g : g_X5_recordPoint T 7 s 336 a pp = some T1) (f : fr_recordsPoint_14 S a pp = some S1) : ∃ xs, W1 T1 (336 + 8) xs ∧ SVa T1 336 xs (S.2.1 10) (S1.2.1 14) c4 n2 ∧ SMr (S1.2.1 14) c4 n2 ∧ ∀ m k, ¬ (9 ≤ m ∧ m < 22) → m ≠ 336 → m ≠ 344 → T1.2.2.1 m k = T.2.2.1 m k := by
  have na : ¬ a = -1 := fun w => by rw [w] at ha; exact absurd ha (by decide)
  have rd := sd_ro d336
  obtain ⟨b8, b51⟩ := sdw_rf hc d336
  obtain ⟨xs, hx, -⟩ := w_row0 hV rd.2.2.2.2.2.2.2.2.1 (by decide) b8
  obtain ⟨T16, T2, ⟨sh, rf, fr⟩, hq, hh, g2⟩ := c_recp hs hP hI hC hc (heard_len hV) hE ha h9 hp e7 e8 g
  unfold fr_recordsPoint_14 at f
  obtain ⟨U2, d2, f⟩ := elet_some f
  obtain ⟨U3, d3, f⟩ := elet_some f
  obtain ⟨U4, f4, f⟩ := obind_some f
  obtain ⟨U7, d7, f⟩ := elet_some f
  have u10 : U3.2.1 10 = S.2.1 10 := by rw [d3, d2]; rfl
  have u14 : U3.2.1 14 = S.2.1 14 := by rw [d3, d2]; rfl
  have u21 : U3.1 21 = a := by rw [d3, mi_ne (by decide), d2, mi_at]
  have u22 : U3.1 22 = pp := by rw [d3, mi_at]
  have iv := x_records_14 (by rw [u10]; exact hC) f4
  rw [u10, u14, u21, u22] at iv
  obtain ⟨i1, i2, i3, i4, i5⟩ := iv
  have e14 : S1.2.1 14 = U4.2.1 14 := by rw [← osome1 f, d7]; rfl
  -- the state's numbers and the scene's, behind silence and the probe
  have V16 : ∃ V : AT, V.2.1 = T.2.1 := ⟨T, rfl⟩
  have hE16 : SCE s T16 (S.2.1 10) := sce_eq hE ⟨fun j _ => fr _ _ (by omega), fun j _ => fr _ _ (by omega), fun j => fr _ _ (by omega), fun m j _ _ => fr _ _ (by omega), fun m j _ _ => fr _ _ (by omega), fun m j _ _ _ => fr _ _ (by omega), fun m j _ _ _ => fr _ _ (by omega)⟩ (fun _ _ => rfl)
  have hB : ∀ x, 1 ≤ x → x < 55 → S1.2.1 14 x = S.2.1 14 x := fun x h1 h2 => by rw [e14]; exact i4 x h1 h2
  have hR : ∀ m t, m < c4 → t < n2 → S1.2.1 14 (55 + 200 * m + t) = bdS (S.2.1 10) (fiS (S.2.1 10) (fun u => rwG (S.2.1 10) (fun m t => hvS (S.2.1 10) a pp m (cxS (S.2.1 10) a) (cyS (S.2.1 10) a) 0 t) m (nI u)) t) := fun m t hm ht => by
    rw [e14, i5 m t hm ht]
    exact rc_cg (fun u => rw_pt na)
  obtain ⟨T3, l3, o3, r3, e1⟩ := c_finish hs d336 hP hC (crf_eq (crf_eq hc rf) hq.2.1) (hq_sce hq hs hE16) hh (by rw [hq.2.1, rf]; exact b8) (by rw [hq.2.1, rf]; exact hx) g2
  have i4c : (S.2.1 10 4).toInt = (c4 : Int) := by rw [hC.1]; exact nI_toInt (by have := hC.2.1; omega)
  have l4 := hC.2.1
  have refs : T1.2.2.2.2 = T.2.2.2.2 := by
    rw [e1]
    show T3.2.2.2.2 = _
    rw [l3.2.2.2]
    exact hq.2.1.trans rf
  have i3' : ∀ m k, m ≠ 344 → T3.2.2.1 m k = T2.2.2.1 m k := fun m k hm => by
    rw [l3.2.2.1]
    exact ui_ne (.inl hm)
  have i1' : ∀ m k, ¬ (9 ≤ m ∧ m < 22) → m ≠ 344 → (m ≠ 336 ∨ k ≠ 2) → T1.2.2.1 m k = T.2.2.1 m k := fun m k c1 c2 c3 => by
    rw [e1, ui_ne c3, i3' m k c2, hq.2.2 m k (by omega), fr m k c1]
  have lng : T1.2.2.2.1 = T3.2.2.2.1 := by rw [e1]; rfl
  refine ⟨xs, ⟨by rw [refs]; exact b8, by rw [refs]; exact hx, ?_⟩, ⟨?_, ?_, fun m hm => ?_, fun m u hm hu => ?_⟩, ⟨fun m hm => ?_, fun m u hm hu => ?_⟩, fun m k c1 c2 c3 => i1' m k c1 c3 (.inl c2)⟩
  · rw [e1, ui_ne (.inl (by decide)), l3.2.2.1]
    exact ui_at
  · rw [i1' _ _ (by omega) (by omega) (.inr (by decide))]; exact hS.1
  · rw [i1' _ _ (by omega) (by omega) (.inr (by decide))]; exact hS.2.1
  · have q := hS.2.2.2.1 m (by omega)
    simp only [Nat.zero_add] at q
    rw [i1' _ _ (by omega) (by omega) (.inl (by omega)), i1' _ _ (by omega) (by omega) (.inl (by omega)), hB _ (by omega) (by omega), hB _ (by omega) (by omega)]
    exact q
  · rw [lng]
    have q := r3 m u hm hu
    unfold RCq at q
    rw [q, hR m u hm hu]
  · have q := hS.2.2.2.1 m (by omega)
    simp only [Nat.zero_add] at q
    rw [hB _ (by omega) (by omega)]
    exact iv_int hV rd.2.2.1 (by decide) (by decide) q.2.symm (rfl : iR 63 m = (0, 9))
  · rw [hR m u hm hu]
    exact bd_rg hP
end
