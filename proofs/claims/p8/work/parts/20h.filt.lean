section
variable {b : Nat → Int32} {n c i k s : Nat} {T T1 : AT} {S S1 : MS} {r : Int32}
/-- the taps behind the first one -/
theorem k_fll (hs : s = 478 ∨ s = 656) : ∀ (f f2 : Nat) {i j k : Nat} {r : Int32} {T T1 : AT} {S S1 : MS}, PRq b n c i T S → SRF s T → SCNq s T (S.2.1 11) (S.2.1 13) → S.2.1 11 77 = nI j → 1 ≤ j → j ≤ 5 → g_X3_parseFilter_b31 f T 6 s (nI j) = some (k, r, T1) → (elet (S.1 7) fun v15 => if v15 = 3 then (fr_readFilter_b19 f2 S) else (obind2 (fr_isSignHere S 45) fun r20 S17 => if r20 = 0 then (some S17) else (fr_readFilter_b19 f2 S17))) = some S1 → (k = 0 ∧ (∃ j, i ≤ j ∧ PRq b n c j T1 S1) ∧ SCNq s T1 (S1.2.1 11) (S1.2.1 13) ∧ T1.2.2.2.2 = T.2.2.2.2) ∨ (k = 3 ∧ ERq T1 S1) := by
  intro f
  induction f with
  | zero => intro f2 i j k r T T1 S S1 p hF hC hj h1 h12 hg hf; cases hg
  | succ f ih =>
    intro f2 i j k r T T1 S S1 p hF hC hj h1 h12 hg hf
    have qt := p.2.2.2.2.2.2.2
    -- one more
    have go : (kd b n (pst b n i) = 2 ∨ kd b n (pst b n i) = 3) → g_X3_parseFilter_b52 (g_X3_parseFilter_b31 f) T 6 s (nI j) = some (k, r, T1) → fr_readFilter_b19 f2 S = some S1 → (k = 0 ∧ (∃ j, i ≤ j ∧ PRq b n c j T1 S1) ∧ SCNq s T1 (S1.2.1 11) (S1.2.1 13) ∧ T1.2.2.2.2 = T.2.2.2.2) ∨ (k = 3 ∧ ERq T1 S1) := by
      intro hk hg hf
      cases f2 with
      | zero => cases hf
      | succ f2 =>
        unfold fr_readFilter_b19 at hf
        obtain ⟨v2, e2, hf⟩ := elet_some hf
        rw [hj] at e2
        unfold g_X3_parseFilter_b52 at hg
        by_cases c5 : j = 5
        · rw [if_pos (by rw [c5]; rfl)] at hg
          obtain ⟨-, hg⟩ := oif_some hg
          rw [if_pos (by rw [e2, c5]; rfl)] at hf
          unfold fr_readFilter_b35 at hf
          rw [if_neg (by decide)] at hf
          obtain ⟨v3, e3, hf⟩ := elet_some hf
          have key : ∃ S2 S3, (kd b n (pst b n i) = 2 ∧ (∃ w, fr_look S 0 9 = some (w, S2)) ∨ kd b n (pst b n i) ≠ 2 ∧ S2 = S) ∧ fr_faults S2 4 = some S3 ∧ fr_readFilter_b65 (fr_readFilter_b19 f2) S3 = some S1 := by
            by_cases ck : kd b n (pst b n i) = 2
            · rw [if_pos (e3.trans ((tk_num qt).mpr ck))] at hf
              obtain ⟨r8, S5, f5, hf⟩ := obind2_some hf
              unfold fr_readFilter_b56 at hf
              rw [if_neg (by decide)] at hf
              obtain ⟨S3, f3, hf⟩ := obind_some hf
              exact ⟨S5, S3, .inl ⟨ck, r8, f5⟩, f3, hf⟩
            · rw [if_neg (fun q => ck ((tk_num qt).mp (e3.symm.trans q)))] at hf
              unfold fr_readFilter_b56 at hf
              rw [if_neg (by decide)] at hf
              obtain ⟨S3, f3, hf⟩ := obind_some hf
              exact ⟨S, S3, .inr ⟨ck, rfl⟩, f3, hf⟩
          obtain ⟨S2, S3, a1, a2, a3⟩ := key
          right
          rcases othr_k hg with ⟨r9, g9, -⟩ | ⟨r9, T9, g9, -⟩
          · obtain ⟨y1, y2⟩ := k_many rfl p g9 a1 a2
            rw [st_filt y2.1 a3]
            exact ⟨y1, y2⟩
          · exact absurd (k_many rfl p g9 a1 a2).1 (by decide)
        · rw [if_neg (by intro q; exact c5 ((nI_eq (a := j) (b := 5) (by omega) (by decide)).mp q))] at hg
          rw [if_neg (by rw [e2]; intro q; exact c5 ((nI_eq (a := j) (b := 5) (by omega) (by decide)).mp q))] at hf
          unfold fr_readFilter_b35 at hf
          rw [if_pos rfl] at hf
          unfold fr_readFilter_b56 at hf
          rw [if_pos rfl] at hf
          unfold fr_readFilter_b65 at hf
          obtain ⟨r5, S2, f5, hf⟩ := obind2_some hf
          obtain ⟨v6, e6, hf⟩ := elet_some hf
          unfold g_X3_parseFilter_b63 at hg
          obtain ⟨-, hg⟩ := oif_some hg
          rcases othr_k hg with ⟨r9, g9, z9⟩ | ⟨r5', T3, g9, hg⟩
          · rcases k_signed p g9 f5 with ⟨z, -⟩ | ⟨z1, z2⟩
            · exact absurd z z9
            · rw [if_neg (st_le z2.1 e6)] at hf
              exact .inr ⟨z1, by rw [← osome1 hf]; exact z2⟩
          rcases k_signed p g9 f5 with ⟨-, qr, ⟨i3, l3, p3⟩, t3, m3⟩ | ⟨z1, -⟩
          rotate_left
          · exact absurd z1 (by decide)
          rw [if_pos (by rw [e6, p3.2.2.1]; decide)] at hf
          obtain ⟨v8, e8, hf⟩ := elet_some hf
          rw [m3.1, hj] at e8
          obtain ⟨v9, e9, hf⟩ := elet_some hf
          have k9 : v9 = nI (78 + j) := by rw [e9, e8]; exact nI_add 78 j
          obtain ⟨-, hf⟩ := oif_some hf
          obtain ⟨S11, e11, hf⟩ := elet_some hf
          rw [k9, nI_clamp (by omega), qr] at e11
          obtain ⟨v12, e12, hf⟩ := elet_some hf
          rw [e11, mf_at] at e12
          have e12 : v12 = nI j := by
            rw [e12]
            show (if 77 = 78 + j then r5' else S2.2.1 11 77) = _
            rw [if_neg (by omega), m3.1, hj]
          obtain ⟨v13, e13, hf⟩ := elet_some hf
          rw [e12, nI_1] at e13
          obtain ⟨S14, e14, hf⟩ := elet_some hf
          rw [e13] at e14
          obtain ⟨-, hg⟩ := oif_some hg
          obtain ⟨T8, e8', hg⟩ := obind_some hg
          obtain ⟨v10, e10', hg⟩ := elet_some hg
          have e10' : v10 = nI (j + 1) := e10'.trans (nI_1 j)
          rw [e10'] at hg
          have r3 : T3.2.2.2.2 = T.2.2.2.2 := congrArg (fun x => x.2) t3.2.2.1
          obtain ⟨a1, a2, a3, a4⟩ := k_tap hs (hF.sub r3) (by rw [m3.1]; exact scn_tf hs t3 hC) (by rw [m3.1]; exact hj) (by omega) e8' p3 e11 e14
          rcases ih f2 a1 (hF.sub (a3.trans r3)) a2 a4 (by omega) (by omega) hg hf with ⟨y1, ⟨j2, y2, y3⟩, y4, y5⟩ | y
          · exact .inl ⟨y1, ⟨j2, by omega, y3⟩, y4, y5.trans (a3.trans r3)⟩
          · exact .inr y
    unfold g_X3_parseFilter_b31 at hg
    rw [if_neg (by intro q; have := (nI_ltI (a := 5) (b := j) (by omega) (by omega)).mp q; omega)] at hg
    obtain ⟨-, hg⟩ := oif_some hg
    obtain ⟨r6, T4, e6, hg⟩ := obind2_some hg
    obtain ⟨k1, k2⟩ := k_kind p e6
    rw [k2] at hg
    obtain ⟨v15, e15, hf⟩ := elet_some hf
    by_cases ck : kd b n (pst b n i) = 2
    · rw [if_pos (k1.trans ck)] at hg
      rw [if_pos (e15.trans ((tk_num qt).mpr ck))] at hf
      exact go (.inl ck) hg hf
    · rw [if_neg (fun q => ck (k1.symm.trans q))] at hg
      rw [if_neg (fun q => ck ((tk_num qt).mp (e15.symm.trans q)))] at hf
      obtain ⟨-, hg⟩ := oif_some hg
      obtain ⟨r12, T10, e12, hg⟩ := obind2_some hg
      obtain ⟨k3, k4⟩ := k_kind p e12
      rw [k4] at hg
      obtain ⟨r20, S17, f20, hf⟩ := obind2_some hf
      obtain ⟨g1, g2⟩ := k_here p (.inl rfl) f20
      rw [if_pos rfl] at g2
      rw [g1] at hf
      rcases g2 with ⟨w1, cm⟩ | ⟨w1, cm⟩
      · rw [if_pos (k3.trans cm)] at hg
        rw [if_neg (by rw [w1]; decide)] at hf
        exact go (.inr cm) hg hf
      · rw [if_neg (fun q => cm (k3.symm.trans q))] at hg
        rw [if_pos w1] at hf
        have g := osome3 (show some ((0 : Nat), (0 : Int32), T) = some (k, r, T1) from hg)
        have ff := osome1 hf
        rw [← ff, ← g.2.2]
        exact .inl ⟨g.1.symm, ⟨i, Nat.le_refl _, p⟩, hC, rfl⟩
set_option maxHeartbeats 400000 in
theorem l_filter (h : PRq b n c i T S) (hk : kd b n (pst b n i) = 1) (hs : s = 478 ∨ s = 656) (hF : SRF s T) (hC : SCNq s T (S.2.1 11) (S.2.1 13)) (hg : g_X3_parseFilter T 6 s = some (k, r, T1)) (hf : fr_readFilter S = some S1) : LNq b n c i s T T1 S1 k := by
  have hsb : 478 ≤ s ∧ s ≤ 656 := by omega
  obtain ⟨mc, b1, b2, b3, b4⟩ := hC.2.2.2.2.2.2.1
  have z0 : (0 : Int32).toInt = 0 := by decide
  have qm : (nI mc).toInt = (mc : Int) := nI_toInt (by omega)
  unfold g_X3_parseFilter at hg
  obtain ⟨-, hg⟩ := oif_some hg
  obtain ⟨v3, ev3, hg⟩ := elet_some hg
  rw [b2] at ev3
  unfold fr_readFilter at hf
  obtain ⟨v2, ev2, hf⟩ := elet_some hf
  rw [b3] at ev2
  have key : ∃ (a0 : Int32) (Sa : MS), g_X3_parseFilter_b13 T a0 6 6 s = some (k, r, T1) ∧ fr_readFilter_b15 Sa = some S1 ∧ ((a0 = 0 ∧ Sa = S) ∨ (a0 ≠ 0 ∧ fr_faults S 3 = some Sa)) ∧ (a0 = 0 → mc = 0) := by
    by_cases cm : nI mc ≤ 0
    · rw [ev3, if_pos cm] at hg
      rw [ev2, if_pos cm] at hf
      have := i_le cm
      exact ⟨0, S, hg, hf, .inl ⟨rfl, rfl⟩, fun _ => by omega⟩
    · rw [ev3, if_neg cm] at hg
      rw [ev2, if_neg cm] at hf
      obtain ⟨S4, f4, hf⟩ := obind_some hf
      exact ⟨1, S4, hg, hf, .inr ⟨by decide, f4⟩, fun q => absurd q (by decide)⟩
  obtain ⟨a0, Sa, hg, hf, hcase, hmc⟩ := key
  unfold fr_readFilter_b15 at hf
  obtain ⟨S2, fS2, hf⟩ := obind_some hf
  have fin56 : ∀ (f : Nat) {U : MS} {l : Int32}, 0 < (U.1 5).toInt → fr_readFilter_b56 (fr_readFilter_b19 f) U l = some S1 → S1 = U := by
    intro f U l q hf
    unfold fr_readFilter_b56 at hf
    by_cases cc : l = 0
    · rw [if_pos cc] at hf
      exact st_filt q hf
    · rw [if_neg cc] at hf
      obtain ⟨U3, f3, hf⟩ := obind_some hf
      rw [st_faults q f3] at hf
      exact st_filt q hf
  have fin35 : ∀ (f : Nat) {U : MS} {l : Int32}, 0 < (U.1 5).toInt → fr_readFilter_b35 (fr_readFilter_b19 f) U l = some S1 → S1 = U := by
    intro f U l q hf
    unfold fr_readFilter_b35 at hf
    by_cases cc : l = 0
    · rw [if_pos cc] at hf
      exact fin56 f q hf
    · rw [if_neg cc] at hf
      obtain ⟨v3, e3, hf⟩ := elet_some hf
      by_cases c3 : v3 = 3
      · rw [if_pos c3] at hf
        obtain ⟨r8, U5, f5, hf⟩ := obind2_some hf
        rw [st_look q f5] at hf
        exact fin56 f q hf
      · rw [if_neg c3] at hf
        exact fin56 f q hf
  have fin19 : ∀ (f : Nat) {U : MS}, 0 < (U.1 5).toInt → fr_readFilter_b19 f U = some S1 → S1 = U := by
    intro f U q hf
    cases f with
    | zero => cases hf
    | succ f =>
      unfold fr_readFilter_b19 at hf
      obtain ⟨v6, e6, hf⟩ := elet_some hf
      by_cases cc : v6 = 5
      · rw [if_pos cc] at hf
        exact fin35 f q hf
      · rw [if_neg cc] at hf
        exact fin35 f q hf
  unfold g_X3_parseFilter_b13 at hg
  obtain ⟨-, hg⟩ := oif_some hg
  rcases othr_k hg with ⟨r9, g9, z9⟩ | ⟨r5, T3, g9, hg⟩
  · rcases k_line h hk (by decide) g9 hcase fS2 with ⟨z, -⟩ | ⟨z1, z2⟩
    · exact absurd z z9
    · exact .inr ⟨z1, by rw [fin19 _ z2.1 hf]; exact z2⟩
  rcases k_line h hk (by decide) g9 hcase fS2 with ⟨-, p3, t3, m2, za⟩ | ⟨z1, -⟩
  rotate_left
  · exact absurd z1 (by decide)
  have e0 := hmc za
  subst e0
  obtain ⟨-, hg⟩ := oif_some hg
  have hf : fr_readFilter_b19 (16383 + 1) S2 = some S1 := hf
  unfold fr_readFilter_b19 at hf
  obtain ⟨v6, e6, hf⟩ := elet_some hf
  rw [m2.1, b3] at e6
  rw [if_neg (by rw [e6]; decide)] at hf
  unfold fr_readFilter_b35 at hf
  rw [if_pos rfl] at hf
  unfold fr_readFilter_b56 at hf
  rw [if_pos rfl] at hf
  unfold fr_readFilter_b65 at hf
  obtain ⟨w5, S5, f5, hf⟩ := obind2_some hf
  obtain ⟨v7, e7, hf⟩ := elet_some hf
  rcases othr_k hg with ⟨r9, g9, z9⟩ | ⟨r10, T8, g9, hg⟩
  · rcases k_signed p3 g9 f5 with ⟨z, -⟩ | ⟨z1, z2⟩
    · exact absurd z z9
    · rw [if_neg (st_le z2.1 e7)] at hf
      exact .inr ⟨z1, by rw [← osome1 hf]; exact z2⟩
  rcases k_signed p3 g9 f5 with ⟨-, qr, ⟨i8, l8, p8⟩, t8, m8⟩ | ⟨z1, -⟩
  rotate_left
  · exact absurd z1 (by decide)
  rw [if_pos (by rw [e7, p8.2.2.1]; decide)] at hf
  have PU : S5.2 = S.2 := m8.1.trans m2.1
  obtain ⟨v8, e8, hf⟩ := elet_some hf
  rw [PU, b3] at e8
  obtain ⟨v9, e9, hf⟩ := elet_some hf
  have k9 : v9 = nI (78 + 0) := by rw [e9, e8]; exact nI_add 78 0
  obtain ⟨-, hf⟩ := oif_some hf
  obtain ⟨S11, e11, hf⟩ := elet_some hf
  rw [k9, nI_clamp (by omega), qr] at e11
  obtain ⟨v12, e12, hf⟩ := elet_some hf
  rw [e11, mf_at] at e12
  have e12 : v12 = nI 0 := by
    rw [e12]
    show (if 77 = 78 + 0 then r10 else S5.2.1 11 77) = _
    rw [if_neg (by omega), PU, b3]
  obtain ⟨v13, e13, hf⟩ := elet_some hf
  rw [e12, nI_1] at e13
  obtain ⟨S14, e14, hf⟩ := elet_some hf
  rw [e13] at e14
  obtain ⟨-, hg⟩ := oif_some hg
  obtain ⟨T13, e13', hg⟩ := obind_some hg
  have t38 : TFq T T8 := t3.tr t8
  have r8 : T8.2.2.2.2 = T.2.2.2.2 := congrArg (fun x => x.2) t38.2.2.1
  obtain ⟨a1, a2, a3, a4⟩ := k_tap hs (hF.sub r8) (by rw [PU]; exact scn_tf hs t38 hC) (by rw [PU]; exact b3) (by omega) e13' p8 e11 e14
  rcases k_fll hs 16384 16383 a1 (hF.sub (a3.trans r8)) a2 a4 (by omega) (by omega) hg hf with ⟨y1, ⟨j2, y2, y3⟩, y4, y5⟩ | y
  · exact .inl ⟨y1, ⟨j2, by omega, y3⟩, y4, y5.trans (a3.trans r8)⟩
  · exact .inr y
end
