/-! clean: R2 is kept -/
section
variable {T T1 : AT} {S S1 : MS} {k1 : Nat} {r1 r2 : Int32}
theorem k_weight {U : AT} (e0 : T.2.2.1 242 0 = S.2.1 10 4) (p4 : (S.2.1 10 4).toInt ≤ 12) (hm : ∀ m : Nat, (m : Int) < (S.2.1 10 4).toInt → T.2.2.1 243 m = S.2.1 12 (1 + m) ∧ T.2.2.1 244 m = S.2.1 12 (13 + m)) (r3 : T.2.2.2.2 242 3 = some 243) (r4 : T.2.2.2.2 242 4 = some 244) : ∀ (f g j : Nat) {a : Int32}, j ≤ 12 → g_X8_activeWeight_b4 f T 242 a (nI j) = some (r1, U) → fr_weightOf_b4 g S a (nI j) = some (r2, S1) → r1 = r2 ∧ U = T ∧ S1 = S := by
  intro f
  induction f with
  | zero => intro g j a _ hg _; cases hg
  | succ f ih =>
    intro g j a hj hg hf
    cases g with
    | zero => cases hf
    | succ g =>
      have jI : (nI j).toInt = (j : Int) := nI_toInt (by omega)
      have kj : (nI j).toNatClampNeg = j := nI_clamp (by omega)
      unfold g_X8_activeWeight_b4 at hg
      unfold fr_weightOf_b4 at hf
      obtain ⟨-, hg⟩ := oif_some hg
      obtain ⟨v3, e3, hg⟩ := elet_some hg
      rw [e0] at e3
      obtain ⟨v2, e2, hf⟩ := elet_some hf
      have ev : v2 = v3 := e2.trans e3.symm
      rw [ev] at hf
      rcases oif_or hg with ⟨c, hg⟩ | ⟨c, hg⟩
      · rw [if_pos c] at hf
        rw [← (osome2 hg).1, ← (osome2 hg).2, ← (osome2 hf).1, ← (osome2 hf).2]
        exact ⟨rfl, rfl, rfl⟩
      · rw [if_neg c] at hf
        have c := i_nle c
        rw [e3] at c
        obtain ⟨m1, m2⟩ := hm j (by omega)
        obtain ⟨-, hg⟩ := oif_some hg
        obtain ⟨n6, en, hg⟩ := obind_some hg
        rw [r3] at en
        cases en
        obtain ⟨-, hg⟩ := oif_some hg
        obtain ⟨-, hg⟩ := oif_some hg
        obtain ⟨v9, e9, hg⟩ := elet_some hg
        rw [kj, m1] at e9
        obtain ⟨r7, S4, f4, hf⟩ := obind2_some hf
        obtain ⟨e4, q4⟩ := h_act (by omega) f4
        rw [e4] at hf
        have gb : ∀ {x : Int32}, g_X8_activeWeight_b32 (g_X8_activeWeight_b4 f) T x a 242 (nI j) = some (r1, U) → g_X8_activeWeight_b4 f T 242 (a + x) (nI (j + 1)) = some (r1, U) := by
          intro x h
          unfold g_X8_activeWeight_b32 at h
          obtain ⟨w2, d2, h⟩ := elet_some h
          obtain ⟨w3, d3, h⟩ := elet_some h
          rw [show w3 = nI (j + 1) from d3.trans (nI_p1 j), d2] at h
          exact h
        have fb : ∀ {x : Int32}, fr_weightOf_b40 (fr_weightOf_b4 g) S x a (nI j) = some (r2, S1) → fr_weightOf_b4 g S (a + x) (nI (j + 1)) = some (r2, S1) := by
          intro x h
          unfold fr_weightOf_b40 at h
          obtain ⟨w2, d2, h⟩ := elet_some h
          obtain ⟨w3, d3, h⟩ := elet_some h
          rw [show w3 = nI (j + 1) from d3.trans (nI_p1 j), d2] at h
          exact h
        rcases q4 with ⟨q, ac⟩ | ⟨q, ac⟩
        · rw [if_pos (e9.trans ac)] at hg
          rw [if_neg (by rw [q]; decide)] at hf
          obtain ⟨-, hg⟩ := oif_some hg
          obtain ⟨n12, en, hg⟩ := obind_some hg
          rw [r4] at en
          cases en
          obtain ⟨-, hg⟩ := oif_some hg
          obtain ⟨-, hg⟩ := oif_some hg
          obtain ⟨v15, e15, hg⟩ := elet_some hg
          rw [kj, m2] at e15
          obtain ⟨w9, d9, hf⟩ := elet_some hf
          obtain ⟨-, hf⟩ := oif_some hf
          obtain ⟨w11, d11, hf⟩ := elet_some hf
          have k9 : w9 = nI (13 + j) := by rw [d9, ← nI_add]; rfl
          rw [k9, nI_clamp (by omega)] at d11
          rw [e15] at hg
          rw [d11] at hf
          exact ih g (j + 1) (by omega) (gb hg) (fb hf)
        · rw [if_neg (fun u => ac (e9.symm.trans u))] at hg
          rw [if_pos q] at hf
          exact ih g (j + 1) (by omega) (gb hg) (fb hf)
theorem sub_out {a : Nat} {s : Nat} {p : Int32} (hc : CRF T) (hV : IV aR0 1586 aK1 aK2 T) (hs : s = 478 ∨ s = 656) (ha : s + 16 ≤ a ∧ a < s + 160) (hp : 1 ≤ p.toInt ∧ p.toInt ≤ 100) (h : g_X8_subtractBeam T 242 a p = some T1) : (∀ m k, ¬ (7 ≤ m ∧ m < 22) → ¬ (s ≤ m ∧ m < s + 178) → ¬ (242 ≤ m ∧ m < 336) → T1.2.2.1 m k = T.2.2.1 m k) ∧ IV aR0 1586 aK1 aK2 T1 ∧ FW aR0 [258, 3202] T T1 := by
  obtain ⟨-, -, rd⟩ := zRec_ro hs (.inl rfl : 242 = 242 ∨ 242 = 336)
  have r50 : aR0 a = 50 := by
    have q := dl_ro hs (c := a - (s + 16)) (by omega)
    rw [show s + 16 + (a - (s + 16)) = a from by omega] at q
    exact q
  have ra : pZ (zRec s 242) a = 50 := by
    refine (pZ_t ?_).trans r50
    unfold zRec
    rw [zbt_t.mpr (show s ≤ a ∧ a < s + 178 by omega), Bool.or_true]
    rfl
  have c := tgo (cs_X8_subtractBeam (R := pZ (zRec s 242)) T 242 a p (iv_rec hc hV hs (.inl rfl)) rd ra hp) h
  have c0 := tgo (cs_X8_subtractBeam T 242 a p hV (sd_ro d242).1 r50 hp) h
  exact ⟨fun m k a b e => c.2 m k (by rw [zRec_out a b e]; rfl), c0.1, c0.2⟩
theorem r2_clean {a0 : Int32} (hV : IV aR0 1586 aK1 aK2 T) (hJ : JJ S) (h : R2 T S) (hg : g_X11_clean T 0 a0 = some (k1, r1, T1)) (hf : fr_clean S a0 = some (r2, S1)) : R2 T1 S1 := by
  have z1 : (1 : Int32).toInt = 1 := by decide
  have z100 : (100 : Int32).toInt = 100 := by decide
  have no : ∀ {U : MS} {w : Int32}, ¬ w ≤ 0 → fr_clean_b34 U w a0 = some (r2, S1) → S1 = mi U 0 w := by
    intro U w hw hf
    unfold fr_clean_b34 at hf
    obtain ⟨V, eV, hf⟩ := elet_some hf
    obtain ⟨v3, e3, hf⟩ := elet_some hf
    rw [if_neg (by rw [e3, eV, mi_at]; exact hw)] at hf
    rw [← (osome2 hf).2, eV]
  unfold fr_clean at hf
  obtain ⟨v2, e2, hf⟩ := elet_some hf
  unfold g_X11_clean at hg
  obtain ⟨-, hg⟩ := oif_some hg
  rcases othr_k hg with ⟨rc, gc, hc⟩ | ⟨rc, Tc, gc, hg⟩
  · obtain ⟨eT, ⟨q, -⟩ | ⟨q, q20⟩⟩ := p_cam h.1 gc
    · exact absurd q hc
    · rw [if_pos (e2.trans q20)] at hf
      unfold fr_clean_b15 at hf
      rw [eT, no (by decide) hf]
      exact r2_mi0 h
  · obtain ⟨eT, ⟨-, q20⟩ | ⟨q, -⟩⟩ := p_cam h.1 gc
    case inr => exact absurd q (by decide)
    rw [eT] at hg
    rw [if_neg (by rw [e2, q20]; decide)] at hf
    have hP := r_pl hJ q20
    have p4 := pl_4 hP
    obtain ⟨p1, p2, p3, -⟩ := pl_cell hP
    obtain ⟨A, -, -, -⟩ := h.2.2.2 q20
    have hm : ∀ m : Nat, (m : Int) < (S.2.1 10 4).toInt → T.2.2.1 243 m = S.2.1 12 (1 + m) ∧ T.2.2.1 244 m = S.2.1 12 (13 + m) := fun m hm => by
      have q := A.2.2.2.1 m hm
      rw [Nat.zero_add, Nat.zero_add] at q
      exact q
    obtain ⟨r7, S4, f4, hf⟩ := obind2_some hf
    obtain ⟨-, hg⟩ := oif_some hg
    obtain ⟨n8, en, hg⟩ := obind_some hg
    rw [(c_fld h.1.1).2.1] at en
    cases en
    obtain ⟨-, hg⟩ := oif_some hg
    obtain ⟨r12, T10, g10, hg⟩ := obind2_some hg
    obtain ⟨ew, eT10, eS4⟩ := k_weight A.1 p4.2 hm (sd_rf h.1.1 d242).1 (sd_rf h.1.1 d242).2.1 16384 16384 0 (by decide) g10 f4
    rw [eT10] at hg
    rw [eS4, ← ew] at hf
    by_cases cw : r12 = 0
    · rw [if_pos cw] at hg hf
      unfold fr_clean_b15 at hf
      rw [← (osome3 hg).2.2, no (by decide) hf]
      exact r2_mi0 h
    · rw [if_neg cw] at hg hf
      obtain ⟨r9, f9, hf⟩ := obind_some hf
      have q9 := q_in f9
      rcases othr_k hg with ⟨rc3, gc3, hc⟩ | ⟨rc3, Tc3, gc3, hg⟩
      · obtain ⟨eT3, ⟨q, -⟩ | ⟨q, qd⟩⟩ := c_rng gc3
        · exact absurd q hc
        · rcases q9 with ⟨-, z⟩ | ⟨z, -⟩
          · exact absurd z qd
          · rw [if_pos z] at hf
            rw [eT3, no (by decide) hf]
            exact r2_mi0 h
      obtain ⟨eT3, ⟨-, qd⟩ | ⟨q, -⟩⟩ := c_rng gc3
      case inr => exact absurd q (by decide)
      rw [eT3] at hg
      rcases q9 with ⟨z, -⟩ | ⟨-, z⟩
      case inr => exact absurd qd z
      rw [if_neg (by rw [z]; decide)] at hf
      unfold fr_clean_b34 at hf
      obtain ⟨V, eV, hf⟩ := elet_some hf
      obtain ⟨v3, e3, hf⟩ := elet_some hf
      rw [if_pos (by rw [e3, eV, mi_at]; decide)] at hf
      obtain ⟨S5, f5, hf⟩ := obind_some hf
      obtain ⟨r11, S8, f8, hf⟩ := obind2_some hf
      obtain ⟨S12, f12, hf⟩ := obind_some hf
      obtain ⟨r18, S15, f15, hf⟩ := obind2_some hf
      have hPV : PL (V.2.1 10) := by rw [eV]; exact hP
      obtain ⟨-, hg⟩ := oif_some hg
      obtain ⟨r21, T20, g20, hg⟩ := obind2_some hg
      obtain ⟨-, hg⟩ := oif_some hg
      have P := r2_pb (S := V) (fun _ => hPV) hV (by rw [eV]; exact r2_mi0 h) g20 (FK.rf : FK [] [24] V V)
      have pr := (tgo (cs_X11_powersNow T 0 hV rrole.2.2.2) g20).2
      unfold g_X11_clean_b33 at hg
      obtain ⟨-, hg⟩ := oif_some hg
      obtain ⟨b3, d3, hg⟩ := elet_some hg
      have m3 := iv_int P.2 pr (by decide) (by decide) d3 (rfl : iR 4 2 = (0, 143))
      obtain ⟨-, hg⟩ := oif_some hg
      obtain ⟨T5, g5, hg⟩ := obind_some hg
      obtain ⟨K1, K2, K3, K4, K5, K6, -⟩ := r2_keepu hPV (by rw [eV]; exact q20) P.2 P.1 g5 f5
      have hP5 : PL (S5.2.1 10) := by rw [K4]; exact hPV
      have kb := w_fr_bestIn_12 f8
      have kl := w_fr_laysCell f12
      have kw := w_fr_windowOf_12 f15
      have kk : FK [] [24] S5 S15 := (kb.tr kl).tr (kw.w (by decide))
      have Q : R2 T5 S15 := r2_keepG (fun _ => hP5) K1 (r1_keep (W := []) K1.1 K2 FW.rf (by decide +kernel) (GR.rf T5) ⟨kk.1 2 (by decide), kk.1 5 (by decide), kk.1 6 (by decide), kk.1 20 (by decide), kk.2 1 (by decide), kk.2 10 (by decide)⟩) CKr.rf ⟨kk.1 19 (by decide), kk.1 20 (by decide), kk.2 10 (by decide), kk.2 12 (by decide), kk.2 15 (by decide), kk.2 16 (by decide), kk.2 17 (by decide), kk.2 18 (by decide)⟩
      obtain ⟨s, hs, h14⟩ := crf_14 Q.1.1
      have hF := Q.1.1.srf hs
      have e7' : T5.2.2.2.2 s 17 = some (s + 15) := by unfold SRF at hF; exact hF.2.2.2.2.2.2.2.1
      have e10 : ∀ c, c < 144 → T5.2.2.2.2 (s + 15) c = some (s + 16 + c) := by unfold SRF at hF; exact hF.2.2.2.2.2.2.2.2.2.2.2.2.2.2
      have kb3 := i_cl m3.1
      unfold g_X11_clean_b41 at hg
      obtain ⟨-, hg⟩ := oif_some hg
      obtain ⟨n3, en, hg⟩ := obind_some hg
      rw [(c_fld Q.1.1).2.1] at en
      cases en
      obtain ⟨-, hg⟩ := oif_some hg
      obtain ⟨n5, en, hg⟩ := obind_some hg
      rw [h14] at en
      cases en
      obtain ⟨-, hg⟩ := oif_some hg
      obtain ⟨n7, en, hg⟩ := obind_some hg
      rw [e7'] at en
      cases en
      obtain ⟨-, hg⟩ := oif_some hg
      obtain ⟨-, hg⟩ := oif_some hg
      obtain ⟨n10, en, hg⟩ := obind_some hg
      rw [e10 _ (by omega)] at en
      cases en
      obtain ⟨-, hg⟩ := oif_some hg
      obtain ⟨T12, g12, hg⟩ := obind_some hg
      unfold g_X11_clean_b58 at hg
      rw [← (osome3 hg).2.2]
      have hd := dl_ro hs (c := b3.toNatClampNeg) (by omega)
      obtain ⟨o, hV12, fw⟩ := sub_out Q.1.1 K2 hs (by omega) (by omega) g12
      have ct := c_subtract Q.1.1 K2 d242 hd g12
      have gr := sr_X8_subtractBeam g12
      have r0 := rrole.2.2.2
      have J15 : ∀ k, 0 ≤ (S15.2.1 24 k).toInt ∧ (S15.2.1 24 k).toInt ≤ 65535 := by
        have hC : IC (S.2.1 10) S := ⟨rfl, jj_ib hJ⟩
        have c5 := (tgo (sf_remember hP V (by rw [eV]; exact ic_mi0 hC 0)) f5).1
        have c8 := tgo (sf_bestIn_12 hP S5 c5) f8
        have c12 := (tgo (sf_laysCell hP S8 r11 c8.1 c8.2) f12).1
        intro k
        rw [kw.2 24 (by decide)]
        exact c12.2.2.2.2.2.2.2.2.2 k
      have l18 : r18.toInt ≤ 200 := by
        have hC : IC (S.2.1 10) S := ⟨rfl, jj_ib hJ⟩
        have c5 := (tgo (sf_remember hP V (by rw [eV]; exact ic_mi0 hC 0)) f5).1
        have c8 := tgo (sf_bestIn_12 hP S5 c5) f8
        have c12 := (tgo (sf_laysCell hP S8 r11 c8.1 c8.2) f12).1
        exact (tgo (sf_windowOf_12 hP S12 c12) f15).2.2
      have e15 : S15.2.1 10 = S.2.1 10 := by rw [kk.2 10 (by decide), K4, eV]; rfl
      obtain ⟨l1, l0, lk, la⟩ := l_cl76 hP l18 16384 e15 J15 hf
      have hP15 : PL (S15.2.1 10) := by rw [e15]; exact hP
      refine r2_now hP15 Q (r1_keep Q.1 K2 fw (by decide +kernel) gr ⟨lk 2, lk 5, lk 6, lk 20, la 1 (by decide) (by decide), la 10 (by decide) (by decide)⟩) (fun d hd hne m i h1 h2 h3 => ?_) (fun d hd n1 n2 => ?_) ⟨fw 0 16 (by rw [r0]; rfl), fw 0 17 (by rw [r0]; rfl), fun i => fw 432 i (by rw [r432]; rfl), fun s c i hs hc => fw _ i (by rw [dl_ro hs hc]; rfl), e14_gr K2 gr⟩ ⟨lk 19, lk 20, la 10 (by decide) (by decide), la 15 (by decide) (by decide), la 16 (by decide) (by decide), la 17 (by decide) (by decide), la 18 (by decide) (by decide)⟩ l1 (fun q => ?_)
      · obtain ⟨r0, r1, r2, r3, r4, r5, r6, r7, -⟩ := sd_ro hd
        refine fw m i ?_
        rcases (show m = d ∨ m = d + 1 ∨ m = d + 2 ∨ m = d + 3 ∨ m = d + 4 ∨ m = d + 5 ∨ m = d + 6 ∨ m = d + 7 by omega) with q | q | q | q | q | q | q | q <;> subst q
        · rw [r0]
          rcases (show i = 0 ∨ i = 1 by omega) with q | q <;> subst q <;> rfl
        · rw [r1]; rfl
        · rw [r2]; rfl
        · rw [r3]; rfl
        · rw [r4]; rfl
        · rw [r5]; rfl
        · rw [r6]; rfl
        · rw [r7]; rfl
      · have gap := sd_gap hd d242 n2
        have si := sd_in hd
        exact o d 2 (by omega) (by omega) (by omega)
      · rw [ct, l0, ((Q.2.2.2 q).1).2.2.1]
end
