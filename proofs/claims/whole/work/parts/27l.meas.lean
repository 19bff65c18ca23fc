/-! the class measures all cells: the best cell -/
section
variable {T T1 T0 : AT} {P A : Nat → Int32} {o x y z d xs ro s po : Nat} {c4 n2 C c r N : Nat} {v : Nat → Int} {D : Nat → Nat → Int32}
set_option maxRecDepth 100000 in
theorem po_dec : [66, 154].all (fun po => okc po && okc (po + 1) && okc (po + 45) && decide ((arf po).getD 1 none = some (po + 1)) && decide ((arf po).getD 4 none = some (po + 44)) && decide ((arf po).getD 5 none = some (po + 45)) && decide ((arf (po + 1)).getD 1 none = some (po + 2)) && Nat.beq (aR0 po) 4 && Nat.beq (aR0 (po + 1)) 103 && Nat.beq (aR0 (po + 45)) 103) = true := by decide +kernel
theorem po_rf (hc : CRF T) (hp : po = 66 ∨ po = 154) : (T.2.2.2.2 po 1 = some (po + 1) ∧ T.2.2.2.2 po 4 = some (po + 44) ∧ T.2.2.2.2 po 5 = some (po + 45) ∧ T.2.2.2.2 (po + 1) 1 = some (po + 2)) ∧ aR0 po = 4 ∧ aR0 (po + 1) = 103 ∧ aR0 (po + 45) = 103 := by
  have q := List.all_eq_true.mp po_dec po (by rcases hp with e | e <;> rw [e] <;> decide)
  simp only [Bool.and_eq_true, decide_eq_true_eq] at q
  obtain ⟨⟨⟨⟨⟨⟨⟨⟨⟨q0, q1⟩, q2⟩, q3⟩, q4⟩, q5⟩, q6⟩, q7⟩, q8⟩, q9⟩ := q
  exact ⟨⟨(hc.at po q0 _).trans q3, (hc.at po q0 _).trans q4, (hc.at po q0 _).trans q5, (hc.at (po + 1) q1 _).trans q6⟩, Nat.eq_of_beq_eq_true q7, Nat.eq_of_beq_eq_true q8, Nat.eq_of_beq_eq_true q9⟩
set_option maxRecDepth 100000 in
theorem sdw_dec : sds.all (fun d => okc (d + 8) && okc (d + 51) && decide ((arf (d + 8)).getD 1 none = some (d + 9)) && decide ((arf (d + 51)).getD 1 none = some (d + 52))) = true := by decide +kernel
theorem sdw_rf (hc : CRF T) (hd : d ∈ sds) : T.2.2.2.2 (d + 8) 1 = some (d + 9) ∧ T.2.2.2.2 (d + 51) 1 = some (d + 52) := by
  have q := List.all_eq_true.mp sdw_dec d hd
  simp only [Bool.and_eq_true, decide_eq_true_eq] at q
  obtain ⟨⟨⟨q0, q1⟩, q2⟩, q3⟩ := q
  exact ⟨(hc.at _ q0 _).trans q2, (hc.at _ q1 _).trans q3⟩
/-- the first row of a table -/
theorem w_row0 (hV : IV aR0 1586 aK1 aK2 T) (ho : aR0 o = ro) (hro : isW ro = true) {q : Nat} (e : T.2.2.2.2 o 1 = some q) : ∃ x, T.2.2.2.2 q 0 = some x ∧ (T.2.1 x).1 = 101 := by
  have w := isW_f hro
  have hs := iv_sta hV ho w.1.1.1 w.1.1.2
  have u := w_used hV ho hro
  obtain ⟨x, x1, x2⟩ := hV.2.2.2.2.1 o hs (by rw [ho]; exact hro) q e 0 (by omega)
  exact ⟨x, x1, by rw [x2]⟩
theorem c_meas (hs : s = 478 ∨ s = 656) (hd : d ∈ sds) (hd2 : d < 430) (hp : po = 66 ∨ po = 154) (hV : IV aR0 1586 aK1 aK2 T) (hc : CRF T) (hrc : RC T) (hri : RI T) (hE : SCE s T P) (hw0 : T.2.2.1 (s + 3) 0 = 0) (hw1 : T.2.2.1 (s + 3) 1 = 0) (e4 : P 4 = nI c4) (l4 : c4 ≤ 12) (e2 : P 2 = nI n2) (l2 : n2 ≤ 200) (e9 : P 9 = nI c) (l9 : 1 ≤ c ∧ c ≤ 12) (e10 : P 10 = nI r) (l10 : 1 ≤ r ∧ r ≤ 12) (hN : N = c * r) (hw : W1 T (d + 8) xs) (hS : SVa T d xs P A c4 n2) (hr : SMr A c4 n2) (hD : ∀ k, k < N → DLs T (s + 16 + k) (D k) c4) (hg : g_X4_measure T po s d = some T1) : T1.2.2.1 po 2 = nI (bsS (fun k => pwS A (D k) n2 c4) N) := by
  have si := sd_in hd
  have rs := rsrole hs
  have h144 : N ≤ 144 := by
    rw [hN]
    exact Nat.mul_le_mul l9.2 l10.2
  have cI : (nI c).toInt = (c : Int) := nI_toInt (by omega)
  have rI : (nI r).toInt = (r : Int) := nI_toInt (by omega)
  have rd := sd_ro hd
  obtain ⟨⟨p1, p4, p5, pw⟩, rp, rp1, rp45⟩ := po_rf hc hp
  obtain ⟨b8, b51⟩ := sdw_rf hc hd
  obtain ⟨z, hz, sz⟩ := w_row0 hV rd.2.2.2.2.2.2.2.2.2 (by decide) b51
  obtain ⟨x, hx, sx⟩ := w_row0 hV rp1 (by decide) pw
  have sxs : (T.2.1 xs).1 = 101 := by
    obtain ⟨x', h', s'⟩ := w_row0 hV rd.2.2.2.2.2.2.2.2.1 (by decide) b8
    have q := hw.2.1
    rw [h'] at q
    cases q
    exact s'
  unfold g_X4_measure at hg
  obtain ⟨-, hg⟩ := oif_some hg
  obtain ⟨n3, en, hg⟩ := obind_some hg
  rw [p1] at en
  cases en
  obtain ⟨-, hg⟩ := oif_some hg
  obtain ⟨T5, g5, hg⟩ := obind_some hg
  have q5 := tgo (c_narrow hV rp1 (by decide)) g5
  have sp5 := s_X10_narrow g5
  have hc5 := crf_eq hc sp5.2.2
  obtain ⟨-, hg⟩ := oif_some hg
  obtain ⟨n8, en, hg⟩ := obind_some hg
  rw [sp5.2.2, p5] at en
  cases en
  obtain ⟨-, hg⟩ := oif_some hg
  obtain ⟨T10, g10, hg⟩ := obind_some hg
  have q10 := tgo (c_narrow q5.1 rp45 (by decide)) g10
  have sp10 := s_X10_narrow g10
  have sp := sp5.tr sp10
  have hc10 := crf_eq hc sp.2.2
  have i10 := gi_sp sp hrc hri
  have j5 : T5 = uI T (po + 1) 2 1 := by
    unfold g_X10_narrow at g5
    obtain ⟨-, g5⟩ := oif_some g5
    obtain ⟨T3, e3, g5⟩ := elet_some g5
    rw [← osome1 g5, e3]
  have j10 : T10 = uI T5 (po + 45) 2 1 := by
    unfold g_X10_narrow at g10
    obtain ⟨-, g10⟩ := oif_some g10
    obtain ⟨T3, e3, g10⟩ := elet_some g10
    rw [← osome1 g10, e3]
  have ints : ∀ m k, m ≠ po + 1 → m ≠ po + 45 → T10.2.2.1 m k = T.2.2.1 m k := fun m k a b => by
    rw [j10, ui_ne (.inl b), j5, ui_ne (.inl a)]
  have lng : T10.2.2.2.1 = T.2.2.2.1 := by rw [j10, j5]; rfl
  have w10 : T10.2.2.1 (po + 1) 2 = 1 := by rw [j10, ui_ne (.inl (by omega)), j5]; exact ui_at
  have hB : BN T10 d xs z (po + 1) x P A c4 n2 := by
    refine ⟨⟨q10.1, hc10, i10.1, i10.2⟩, ⟨⟨?_, ?_, ?_⟩, ?_, ?_, fun m hm => ?_, fun m u hm hu => ?_⟩, ⟨?_, ?_, ?_, ?_⟩, ?_, ?_, ?_⟩
    · rw [sp.2.2]; exact hw.1
    · rw [sp.2.2]; exact hw.2.1
    · rw [ints _ _ (by omega) (by omega)]; exact hw.2.2
    · rw [ints _ _ (by omega) (by omega)]; exact hS.1
    · rw [ints _ _ (by omega) (by omega)]; exact hS.2.1
    · rw [ints _ _ (by omega) (by omega), ints _ _ (by omega) (by omega)]; exact hS.2.2.1 m hm
    · rw [lng]; exact hS.2.2.2 m u hm hu
    · rw [sp.2.2]; exact b51
    · rw [sp.2.2]; exact hz
    · rw [sp.2.2]; exact pw
    · rw [sp.2.2]; exact hx
    · rw [sp.2.1]; exact sxs
    · rw [sp.2.1]; exact sz
    · rw [sp.2.1]; exact sx
  obtain ⟨-, -, ⟨y3, y4, gg⟩, -⟩ := id hE
  rcases gg with ⟨-, q1, -⟩ | ⟨g8, g9, x0, x1, x2, x3, x4⟩
  · rw [e9] at q1
    have q := congrArg Int32.toInt q1
    have z0 : (0 : Int32).toInt = 0 := by decide
    omega
  have lp : ∀ (n C : Nat) {U : AT}, C ≤ N → BN U d xs z (po + 1) x P A c4 n2 → FQ T10 U (po + 1) (d + 51) → RG U (po + 1) x C (fun k => pwS A (D k) n2 c4) → g_X4_measure_b16 n U po s d (nI C) = some T1 → T1.2.2.1 po 2 = nI (bsS (fun k => pwS A (D k) n2 c4) N) := by
    intro n
    induction n with
    | zero => intro C U hC hB hf hG h; cases h
    | succ n ih =>
      intro C U hC hB hf hG h
      have CI : (nI C).toInt = (C : Int) := nI_toInt (by omega)
      have kC : (nI C).toNatClampNeg = C := nI_clamp (by omega)
      have hcU := hB.1.2.1
      have hF := hcU.srf hs
      have iU : ∀ m k, m ≠ po + 1 → m ≠ po + 45 → m ≠ d + 51 → U.2.2.1 m k = T.2.2.1 m k := fun m k a b e => (hf.1 m k a e).trans (ints m k a b)
      have eN : nI c * nI r = nI N := by rw [hN, nI_mulk]
      unfold g_X4_measure_b16 at h
      obtain ⟨-, h⟩ := oif_some h
      obtain ⟨n3, en, h⟩ := obind_some h
      rw [hF.2.1] at en
      cases en
      obtain ⟨-, h⟩ := oif_some h
      obtain ⟨r7, T5', g7, h⟩ := obind2_some h
      unfold g_X1_cells at g7
      obtain ⟨-, g7⟩ := oif_some g7
      obtain ⟨u3, t3, g7⟩ := elet_some g7
      obtain ⟨-, g7⟩ := oif_some g7
      obtain ⟨u5, t5, g7⟩ := elet_some g7
      obtain ⟨u6, t6, g7⟩ := elet_some g7
      rw [iU _ _ (by omega) (by omega) (by omega), y3, e9] at t3
      rw [iU _ _ (by omega) (by omega) (by omega), y4, e10] at t5
      rw [t3, t5, eN] at t6
      have f7 := osome2 g7
      rw [← f7.2, ← f7.1, t6] at h
      rcases oif_or h with ⟨q, h⟩ | ⟨q, h⟩
      · have q2 := (nI_leI (a := N) (by omega) (by omega)).mp q
        have eC : C = N := by omega
        obtain ⟨-, h⟩ := oif_some h
        obtain ⟨n11, en, h⟩ := obind_some h
        rw [hF.2.1] at en
        cases en
        obtain ⟨-, h⟩ := oif_some h
        obtain ⟨n13, en, h⟩ := obind_some h
        rw [hF.2.1] at en
        cases en
        obtain ⟨-, h⟩ := oif_some h
        obtain ⟨n15, en, h⟩ := obind_some h
        rw [hF.2.2.2.2.2.2.2.2.2.2.1] at en
        cases en
        obtain ⟨-, h⟩ := oif_some h
        obtain ⟨n17, en, h⟩ := obind_some h
        rw [(po_rf hcU hp).1.1] at en
        cases en
        obtain ⟨-, h⟩ := oif_some h
        obtain ⟨r21, T19, g19, h⟩ := obind2_some h
        rw [eC] at hG
        obtain ⟨e19, q19⟩ := c_best l9 l10 hN h144 (by rw [iU _ _ (by omega) (by omega) (by omega), y3, e9]) (by rw [iU _ _ (by omega) (by omega) (by omega)]; exact hw0) (by rw [iU _ _ (by omega) (by omega) (by omega)]; exact hw1) (by rw [iU _ _ (by omega) (by omega) (by omega), x3, e9]) (by rw [iU _ _ (by omega) (by omega) (by omega), x4, e10]) hG g19
        rw [e19] at h
        obtain ⟨-, h⟩ := oif_some h
        obtain ⟨T24, e24, h⟩ := elet_some h
        obtain ⟨-, h⟩ := oif_some h
        obtain ⟨T26, e26, h⟩ := elet_some h
        have N1 : 1 ≤ N := by
          rw [hN]
          exact Nat.mul_le_mul l9.1 l10.1
        have bl := bs_lt (fun k => pwS A (D k) n2 c4) N
        have r21' : 0 ≤ r21.toInt ∧ r21.toInt ≤ 143 := by
          rw [q19, nI_toInt (by omega)]
          omega
        have V24 : IV aR0 1586 aK1 aK2 T24 := by
          rw [e24]
          exact iv_uI (a := 0) (b := 143) hB.1.1 rp (by decide) (by decide) rfl r21' (.inl rfl)
        have V26 : IV aR0 1586 aK1 aK2 T26 := by
          rw [e26]
          exact iv_uI (a := 0) (b := 144) V24 rp (by decide) (by decide) rfl (by decide) (.inl rfl)
        have e3 : T26.2.2.1 po 3 = 0 := by rw [e26]; exact ui_at
        have q := tgo (cq_X4_measure_b89 (Q := fun T1 => T1.2.2.1 po 2 = T26.2.2.1 po 2) po s T26 rp rs (fun T _ f => ⟨T, rfl, f po 2 (by rw [rp]; rfl)⟩) 16384 T26 0 V26 FW.rf (by decide) (by rw [e3]; decide) (by decide)) h
        rw [q, e26, ui_ne (.inr (by decide)), e24, ui_at, q19]
      · have q2 : ¬ N ≤ C := fun w => q ((nI_leI (a := N) (by omega) (by omega)).mpr w)
        obtain ⟨-, h⟩ := oif_some h
        obtain ⟨n28, en, h⟩ := obind_some h
        have e17 : U.2.2.2.2 s 17 = some (s + 15) := by unfold SRF at hF; exact hF.2.2.2.2.2.2.2.1
        rw [e17] at en
        cases en
        obtain ⟨-, h⟩ := oif_some h
        obtain ⟨-, h⟩ := oif_some h
        obtain ⟨n31, en, h⟩ := obind_some h
        have e31 : U.2.2.2.2 (s + 15) C = some (s + 16 + C) := by unfold SRF at hF; exact hF.2.2.2.2.2.2.2.2.2.2.2.2.2.2 _ (by omega)
        rw [kC, e31] at en
        cases en
        have hDU : DLs U (s + 16 + C) (D C) c4 := fun m hm => by
          rw [iU _ _ (by omega) (by omega) (by omega)]
          exact hD C (by omega) m hm
        obtain ⟨-, h⟩ := oif_some h
        obtain ⟨r35, T33, g33, h⟩ := obind2_some h
        obtain ⟨e33, q33⟩ := c_wnd hcU hd e4 l4 e2 l2 hB.2.1.2 hDU g33
        rw [e33, q33] at h
        obtain ⟨-, h⟩ := oif_some h
        obtain ⟨n38, en, h⟩ := obind_some h
        rw [(po_rf hcU hp).1.1] at en
        cases en
        obtain ⟨-, h⟩ := oif_some h
        obtain ⟨T40, g40, h⟩ := obind_some h
        obtain ⟨B4, G4, f4⟩ := c_bpow hB (by omega) (by omega) hd rp1 (by decide) (by rw [show cnt 103 = 144 from rfl]; omega) e4 l4 e2 l2 hr hDU (dl_ro hs (by omega)) (by omega) (by omega) hG g40
        unfold g_X4_measure_b53 at h
        obtain ⟨w2, k2, h⟩ := elet_some h
        rw [show w2 = nI (C + 1) from k2.trans (nI_p1 C)] at h
        refine ih (C + 1) (by omega) B4 (hf.tr f4) (G4.cg (fun k hk => ?_)) h
        by_cases e : k = C
        · rw [e, upv_at]
        · rw [upv_ne e]
  exact lp 16384 0 (Nat.zero_le _) hB FQ.rf (.inl ⟨⟨by rw [sp.2.2]; exact pw, by rw [sp.2.2]; exact hx, w10⟩, fun k hk => absurd hk (Nat.not_lt_zero k)⟩) hg
end
