/-! the answer of pointBest -/
section
variable {T T1 : AT} {S S1 : MS} {s xs : Nat} {c4 n2 c5 c71 c77 : Nat} {k1 : Nat} {r1 r2 : Int32}
theorem q_per {a r : Int32} (hf : fr_isPeriod a = some r) : r = 1 ∧ 2 ≤ a.toInt ∧ a.toInt ≤ 99 ∨ r = 0 ∧ ¬ (2 ≤ a.toInt ∧ a.toInt ≤ 99) := by
  have z2 : (2 : Int32).toInt = 2 := by decide
  have z9 : (99 : Int32).toInt = 99 := by decide
  unfold fr_isPeriod at hf
  obtain ⟨w, g, hf⟩ := obind_some hf
  obtain ⟨-, hf⟩ := oif_some hf
  rw [← osome1 hf]
  rcases q_in g with ⟨e, q⟩ | ⟨e, q⟩
  · exact .inl ⟨e, by omega, by omega⟩
  · exact .inr ⟨e, fun u => q ⟨by omega, by omega⟩⟩
/-- both lay the point's recordings into the state of trials -/
theorem tp_alike {a b : Int32} {S0 : MS} (hs : s = 478 ∨ s = 656) (hA : AL T s (S.2.1 10)) (hP : PL (S.2.1 10)) (h : R2 T S) (h20 : S.1 20 = 1) (hI : IC (S.2.1 10) S0) (ha : 0 ≤ a.toInt ∧ a.toInt < (S.2.1 10 9 * S.2.1 10 10).toInt) (hb : 2 ≤ b.toInt ∧ b.toInt ≤ 99) (e7 : T.2.2.1 21 7 = 0) (e8 : T.2.2.1 21 8 = 0) {S11 S1 : MS} (f1 : fr_copy_12_14 S 0 0 = some S11) (f2 : fr_recordsPoint_14 S11 a b = some S1) (g : g_X11_recordPoint T 0 a b = some T1) (hC : PCs (S.2.1 10) c4 n2 c5 c71 c77) : AL T1 s (S1.2.1 10) ∧ DRw T1 s S1 ∧ S1.2.1 10 = S.2.1 10 ∧ S1.2.1 17 = S.2.1 17 ∧ S1.1 0 = S.1 0 ∧ ∃ xs, W1 T1 (336 + 8) xs ∧ SVa T1 336 xs (S1.2.1 10) (S1.2.1 14) c4 n2 ∧ SMr (S1.2.1 14) c4 n2 := by
  obtain ⟨hV, hc⟩ := hA.1
  obtain ⟨f4, f6, f7, -⟩ := c_fld hc
  have pc := pl_cell hP
  unfold g_X11_recordPoint at g
  obtain ⟨-, g⟩ := oif_some g
  obtain ⟨n3, en, g⟩ := obind_some g
  rw [f7] at en
  cases en
  obtain ⟨-, g⟩ := oif_some g
  obtain ⟨n5, en, g⟩ := obind_some g
  rw [f6] at en
  cases en
  obtain ⟨-, g⟩ := oif_some g
  obtain ⟨T7, g7, g⟩ := obind_some g
  obtain ⟨A1, st1, D1, e10, e17, t0, t21, pr⟩ := tr_copy hs hA hP h h20 g7 f1
  unfold g_X11_recordPoint_b11 g_X11_recordPoint_b28 at g
  obtain ⟨-, g⟩ := oif_some g
  obtain ⟨m3, en, g⟩ := obind_some g
  rw [(c_fld2 A1.1.2).2.2.2] at en
  cases en
  obtain ⟨-, g⟩ := oif_some g
  obtain ⟨m5, en, g⟩ := obind_some g
  rw [A1.2.2.2.2] at en
  cases en
  obtain ⟨-, g⟩ := oif_some g
  obtain ⟨m7, en, g⟩ := obind_some g
  rw [(c_fld A1.1.2).2.2.1] at en
  cases en
  obtain ⟨-, g⟩ := oif_some g
  obtain ⟨T9, g9, g⟩ := obind_some g
  rw [osome1 g] at g9
  have hP1 : PL (S11.2.1 10) := by rw [e10]; exact hP
  obtain ⟨xs, w1, sv, sm, ints⟩ := rp_alike hs hP1 (S' := S0) (by rw [e10]; exact hI) A1.1.1 A1.1.2 A1.2.2.1 st1 (by rw [e10]; exact hC) ha.1 (by rw [e10]; omega) hb (by rw [pr]; exact e7) (by rw [pr]; exact e8) g9 f2
  have wr := w_fr_recordsPoint_14 f2
  have z10 : S1.2.1 10 = S11.2.1 10 := wr.2 10 (by decide)
  have z17 : S1.2.1 17 = S11.2.1 17 := wr.2 17 (by decide)
  have fw := tgo (cs_X5_recordPoint T7 7 s 336 a b A1.1.1 (by decide +kernel) (rsrole hs) (sd_ro d336).1 ⟨ha.1, by omega⟩ hb) g9
  obtain ⟨o, hV9, -⟩ := rp_out A1.1.2 A1.1.1 hs ⟨ha.1, by omega⟩ hb g9
  have gr := sr_X5_recordPoint g9
  have hc9 := crf_gr A1.1.2 A1.1.1 gr
  have i9 := si_X5_recordPoint g9 A1.2.1.1 A1.2.1.2
  refine ⟨⟨⟨hV9, hc9⟩, i9, ?_, ?_, (e14_gr A1.1.1 gr).trans A1.2.2.2.2⟩, fun k m hk hm => ?_, z10.trans e10, z17.trans e17, (wr.1 0 (by decide)).trans t0, xs, w1, by rw [z10]; exact sv, sm⟩
  · rw [z10]
    exact sce_eq A1.2.2.1 ⟨fun j _ => ints _ _ (by omega) (by omega) (by omega), fun j _ => ints _ _ (by omega) (by omega) (by omega), fun j => ints _ _ (by omega) (by omega) (by omega), fun m j _ _ => ints _ _ (by omega) (by omega) (by omega), fun m j _ _ => ints _ _ (by omega) (by omega) (by omega), fun m j _ _ _ => ints _ _ (by omega) (by omega) (by omega), fun m j _ _ _ => ints _ _ (by omega) (by omega) (by omega)⟩ (fun _ _ => rfl)
  · intro s' hs'
    rw [ints _ _ (by omega) (by omega) (by omega), ints _ _ (by omega) (by omega) (by omega)]
    exact A1.2.2.2.1 s' hs'
  · rw [z10] at hk hm
    rw [ints _ _ (by omega) (by rw [e10] at hk; omega) (by rw [e10] at hk; omega), z17]
    exact D1 k m hk hm
theorem r3h_pointBest {a0 a1 : Int32} (hV : IV aR0 1586 aK1 aK2 T) (hJ : JJ S) (h : R3 T S) (hg : g_X11_pointBest T 0 a0 a1 = some (k1, r1, T1)) (hf : fr_pointBest S a0 a1 = some (r2, S1)) : S1.1 0 = vck 1 2 3 k1 ∧ (vck 1 2 3 k1 = 0 → k1 = 0 ∧ r1 = r2) := by
  have z2 : (2 : Int32).toInt = 2 := by decide
  have z9 : (99 : Int32).toInt = 99 := by decide
  unfold fr_pointBest at hf
  obtain ⟨r5, S2, f5, hf⟩ := obind2_some hf
  obtain ⟨r9, S6, f9, hf⟩ := obind2_some hf
  have eS := (r_cell f5).1
  rw [eS] at f9
  unfold g_X11_pointBest at hg
  obtain ⟨-, hg⟩ := oif_some hg
  rcases othr_k hg with ⟨rc, gc, hc⟩ | ⟨rc, Tc, gc, hg⟩
  · obtain ⟨-, ⟨q, -⟩ | ⟨q, q20⟩⟩ := p_cam h.1.1 gc
    · exact absurd q hc
    · obtain ⟨e, er⟩ := ask_0 q20 f9
      rw [if_pos er] at hf
      rw [q, ← (osome2 hf).2, e, mi_at]
      exact ⟨rfl, fun q => absurd q (by decide)⟩
  · obtain ⟨eT, ⟨-, q20⟩ | ⟨q, -⟩⟩ := p_cam h.1.1 gc
    case inr => exact absurd q (by decide)
    rw [eT] at hg
    have hP := r_pl hJ q20
    obtain ⟨-, hg⟩ := oif_some hg
    rcases othr_k hg with ⟨rc2, gc2, hc⟩ | ⟨rc2, Tc2, gc2, hg⟩
    · obtain ⟨-, ⟨q, -⟩ | ⟨q, qc⟩⟩ := p_cell h.1.1 q20 gc2
      · exact absurd q hc
      · rcases (q_cell hP f5).2 with ⟨-, z⟩ | ⟨z, -⟩
        · exact absurd z qc
        · rw [z] at f9
          obtain ⟨e, er⟩ := ask_2 q20 f9
          rw [if_pos er] at hf
          rw [q, ← (osome2 hf).2, e, mi_at]
          exact ⟨rfl, fun q => absurd q (by decide)⟩
    · obtain ⟨eT2, ⟨-, qc⟩ | ⟨q, -⟩⟩ := p_cell h.1.1 q20 gc2
      case inr => exact absurd q (by decide)
      rw [eT2] at hg
      rcases (q_cell hP f5).2 with ⟨z, -⟩ | ⟨-, z⟩
      case inr => exact absurd qc z
      rw [z] at f9
      obtain ⟨e, er⟩ := ask_1 q20 f9
      rw [if_neg (by rw [er]; decide)] at hf
      obtain ⟨r11, f11, hf⟩ := obind_some hf
      have q11 := q_per f11
      rcases othr_k hg with ⟨rc3, gc3, hc⟩ | ⟨rc3, Tc3, gc3, hg⟩
      · obtain ⟨-, ⟨q, -⟩ | ⟨q, qd⟩⟩ := c_rng gc3
        · exact absurd q hc
        · rcases q11 with ⟨-, z⟩ | ⟨z, -⟩
          · exact absurd (by omega) qd
          · rw [if_pos z] at hf
            obtain ⟨r17, S14, f17, hf⟩ := obind2_some hf
            rw [q, ← (osome2 hf).2, r_thr f17, mi_at]
            exact ⟨rfl, fun q => absurd q (by decide)⟩
      · obtain ⟨eT3, ⟨-, qd⟩ | ⟨q, -⟩⟩ := c_rng gc3
        case inr => exact absurd q (by decide)
        rw [eT3] at hg
        rcases q11 with ⟨z, -⟩ | ⟨-, z⟩
        case inr => exact absurd (by omega) z
        rw [if_neg (by rw [z]; decide)] at hf
        obtain ⟨S18, f18, hf⟩ := obind_some hf
        obtain ⟨S21, f21, hf⟩ := obind_some hf
        obtain ⟨r27, S24, f27, hf⟩ := obind2_some hf
        obtain ⟨s, hs, hA⟩ := al_of hV h q20
        have hI : IC (S.2.1 10) S := ⟨rfl, jj_ib hJ⟩
        have i17 : ∀ m, 0 ≤ (S.2.1 17 m).toInt ∧ (S.2.1 17 m).toInt ≤ 65535 := fun m => (jj_ib hJ).2.2.2.2.2.2.1 m
        obtain ⟨c4, n2, c5, c71, c77, hC⟩ := pc_of hP
        obtain ⟨-, hg⟩ := oif_some hg
        obtain ⟨T17, g17, hg⟩ := obind_some hg
        have e6 : S6.2.1 10 = S.2.1 10 := by rw [e]; rfl
        obtain ⟨A1, D1, e10, e17, t0, xs, w1, sv, sm⟩ := tp_alike (S := S6) (S0 := S) hs (by rw [e]; exact hA) (by rw [e]; exact hP) (by rw [e]; exact r2_mi0 h.1) (by rw [e]; exact q20) (by rw [e]; exact hI) (by rw [e]; exact qc) (by omega) h.2.2.1.1 h.2.2.1.2 f18 f21 g17 (by rw [e6]; exact hC)
        unfold g_X11_pointBest_b22 g_X11_pointBest_b26 at hg
        obtain ⟨-, hg⟩ := oif_some hg
        obtain ⟨r4, T3, g3, hg⟩ := obind2_some hg
        have q := tb_alike hs A1 (by rw [e10, e6]; exact hP) (by rw [e10, e6]; exact hC) w1 sv sm D1 (fun k => by rw [e17, e]; exact i17 k) g3 f27
        have gg := osome3 hg
        have ff := osome2 hf
        have wb := w_fr_bestIn_14 f27
        rw [← gg.1, ← gg.2.1, ← ff.1, ← ff.2, wb.1 0 (by decide), t0, e, mi_at]
        exact ⟨rfl, fun _ => ⟨rfl, q⟩⟩
end
