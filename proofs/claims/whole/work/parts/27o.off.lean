/-! R3; the answer of bestIfOff -/
section
variable {T T1 : AT} {S S1 : MS} {P : Nat → Int32} {s xs : Nat} {c4 n2 c5 c71 c77 : Nat} {k1 : Nat} {r1 r2 : Int32}
def WH0 (T : AT) : Prop := ∀ s, s = 478 ∨ s = 656 → T.2.2.1 (s + 3) 0 = 0 ∧ T.2.2.1 (s + 3) 1 = 0
/-- R2, no rows are one array, the probe's phase and from and the map's corner are 0, no point is recorded -/
def R3 (T : AT) (S : MS) : Prop := R2 T S ∧ (RC T ∧ RI T) ∧ (T.2.2.1 21 7 = 0 ∧ T.2.2.1 21 8 = 0) ∧ WH0 T ∧ S.1 21 = -1
/-- what the sums need between their steps -/
def AL (T : AT) (s : Nat) (P : Nat → Int32) : Prop := (IV aR0 1586 aK1 aK2 T ∧ CRF T) ∧ (RC T ∧ RI T) ∧ SCE s T P ∧ WH0 T ∧ T.2.2.2.2 0 14 = some s
theorem wh_fw {W : List Nat} (hw : FW aR0 W T T1) (c : W.contains 1888 = false) (h : WH0 T) : WH0 T1 := fun s hs => by
  have r := (sro hs).2.2.1
  rw [hw _ 0 (by rw [r]; exact c), hw _ 1 (by rw [r]; exact c)]
  exact h s hs
theorem al_go {W : List Nat} (hs : s = 478 ∨ s = 656) (h : AL T s P) (hV : IV aR0 1586 aK1 aK2 T1) (hc : CRF T1) (hi : GI T T1) (hw : FW aR0 W T T1) (c : scodes.all (fun x => !(W.contains x)) = true) (c2 : W.contains 1888 = false) (h14 : T1.2.2.2.2 0 14 = T.2.2.2.2 0 14) : AL T1 s P :=
  ⟨⟨hV, hc⟩, hi h.2.1.1 h.2.1.2, sce_eq h.2.2.1 (fw_seq hw c hs) (fun _ _ => rfl), wh_fw hw c2 h.2.2.2.1, h14.trans h.2.2.2.2⟩
theorem al_of (hV : IV aR0 1586 aK1 aK2 T) (h : R3 T S) (h20 : S.1 20 = 1) : ∃ s, (s = 478 ∨ s = 656) ∧ AL T s (S.2.1 10) := by
  obtain ⟨s, hs, h14, -, hE, -⟩ := r1_sce h.1.1 h20
  exact ⟨s, hs, ⟨hV, h.1.1.1⟩, h.2.1, hE, h.2.2.2.1, h14⟩
/-- the delays of the cells -/
def DRw (T : AT) (s : Nat) (S : MS) : Prop := ∀ k m : Nat, (k : Int) < (S.2.1 10 9 * S.2.1 10 10).toInt → (m : Int) < (S.2.1 10 4).toInt → T.2.2.1 (s + 16 + k) m = S.2.1 17 (12 * k + m)
theorem tb_alike (hs : s = 478 ∨ s = 656) (hA : AL T s (S.2.1 10)) (hP : PL (S.2.1 10)) (hC : PCs (S.2.1 10) c4 n2 c5 c71 c77) (hw : W1 T (336 + 8) xs) (hS : SVa T 336 xs (S.2.1 10) (S.2.1 14) c4 n2) (hr : SMr (S.2.1 14) c4 n2) (hD : DRw T s S) (h17 : ∀ k, 0 ≤ (S.2.1 17 k).toInt ∧ (S.2.1 17 k).toInt ≤ 65535) (g : g_X11_trialBest T 0 = some (r1, T1)) (f : fr_bestIn_14 S = some (r2, S1)) : r1 = r2 := by
  obtain ⟨⟨hV, hc⟩, ⟨hrc, hri⟩, hE, hw0, h14⟩ := hA
  unfold g_X11_trialBest at g
  obtain ⟨-, g⟩ := oif_some g
  obtain ⟨n3, en, g⟩ := obind_some g
  rw [(c_fld2 hc).2.2.1] at en
  cases en
  obtain ⟨-, g⟩ := oif_some g
  obtain ⟨n5, en, g⟩ := obind_some g
  rw [h14] at en
  cases en
  obtain ⟨-, g⟩ := oif_some g
  obtain ⟨n7, en, g⟩ := obind_some g
  rw [(c_fld hc).2.2.1] at en
  cases en
  obtain ⟨-, g⟩ := oif_some g
  obtain ⟨T9, g9, g⟩ := obind_some g
  have q := best_alike_14 hs d336 (by decide) (.inr rfl) hV hc hrc hri hP hE (hw0 s hs).1 (hw0 s hs).2 hC hw hS hr hD h17 g9 f
  have hc9 := crf_gr hc hV (sr_X4_measure g9)
  unfold g_X11_trialBest_b15 at g
  obtain ⟨-, g⟩ := oif_some g
  obtain ⟨n3, en, g⟩ := obind_some g
  rw [(c_fld2 hc9).2.2.1] at en
  cases en
  obtain ⟨-, g⟩ := oif_some g
  obtain ⟨v5, d5, g⟩ := elet_some g
  rw [← (osome2 g).1, d5]
  exact q
/-- the state of trials is now's -/
theorem tr_copy (hs : s = 478 ∨ s = 656) (hA : AL T s (S.2.1 10)) (hP : PL (S.2.1 10)) (h : R2 T S) (h20 : S.1 20 = 1) (g : g_X8_copyFrom T 336 242 = some T1) (f : fr_copy_12_14 S 0 0 = some S1) : AL T1 s (S1.2.1 10) ∧ STa T1 336 (S1.2.1 10) (S1.2.1 14) 0 ∧ DRw T1 s S1 ∧ S1.2.1 10 = S.2.1 10 ∧ S1.2.1 17 = S.2.1 17 ∧ S1.1 0 = S.1 0 ∧ S1.1 21 = S.1 21 ∧ ∀ k, T1.2.2.1 21 k = T.2.2.1 21 k := by
  obtain ⟨hV, hc⟩ := hA.1
  obtain ⟨p4, p5⟩ := r2_pl hP
  have w := w_fr_copy_12_14 f
  have x := x_copy_12_14 (o1 := 0) (o3 := 0) (by decide) (by decide) f
  have cp := c_stcopy hc hV d336 d242 (by decide) g
  have c := tgo (cs_X8_copyFrom T 336 242 hV (sd_ro d336).1 (sd_ro d242).1) g
  have gr := sr_X8_copyFrom g
  have hc1 := crf_gr hc hV gr
  have e10 : S1.2.1 10 = S.2.1 10 := w.2 10 (by decide)
  have e17 : S1.2.1 17 = S.2.1 17 := w.2 17 (by decide)
  have pc := (pl_cell hP).2.2.1
  refine ⟨?_, (h.2.2.2 h20).1.cp p4 p5 cp (fun j hj => ?_) (fun j _ => by rw [e10]), fun k m hk hm => ?_, e10, e17, w.1 0 (by decide), w.1 21 (by decide), fun k => cp.2.2.2 21 k (.inl (by decide)) (by decide +kernel)⟩
  · rw [e10]
    exact al_go hs hA c.1 hc1 (si_X8_copyFrom g) c.2 (by decide +kernel) (by decide) (e14_gr hV gr)
  · rw [x, if_pos (by omega)]
    rw [show 0 + (0 + j - 0) = 0 + j by omega]
  · rw [e10] at hk hm
    rw [cp.2.2.2 _ m (.inr (by omega)) (by rw [dl_ro hs (by omega)]; rfl), e17]
    exact (h.2.2.2 h20).2.1 s hA.2.2.2.2 k m hk hm
theorem r3h_bestIfOff {a0 : Int32} (hV : IV aR0 1586 aK1 aK2 T) (hJ : JJ S) (h : R3 T S) (hg : g_X11_bestIfOff T 0 a0 = some (k1, r1, T1)) (hf : fr_bestIfOff S a0 = some (r2, S1)) : S1.1 0 = vck 1 2 0 k1 ∧ (vck 1 2 0 k1 = 0 → k1 = 0 ∧ r1 = r2) := by
  unfold fr_bestIfOff at hf
  obtain ⟨r5, S2, f5, hf⟩ := obind2_some hf
  obtain ⟨r9, S6, f9, hf⟩ := obind2_some hf
  have eS := src_same f5
  rw [eS] at f9
  unfold g_X11_bestIfOff at hg
  obtain ⟨-, hg⟩ := oif_some hg
  rcases othr_k hg with ⟨rc, gc, hc⟩ | ⟨rc, Tc, gc, hg⟩
  · obtain ⟨-, ⟨q, -⟩ | ⟨q, q20⟩⟩ := p_cam h.1.1 gc
    · exact absurd q hc
    · obtain ⟨e, er⟩ := ask_0 q20 f9
      rw [if_pos er] at hf
      rw [q, ← (osome2 hf).2, e, mi_at]
      exact ⟨rfl, fun q => absurd q (by decide)⟩
  · obtain ⟨eT, ⟨-, q20⟩ | ⟨q, -⟩⟩ := p_cam h.1.1 gc
    case inr => exact absurd q (by decide)
    rw [eT] at hg
    have hP := r_pl hJ q20
    have p5 := pl_5 hP
    obtain ⟨-, hg⟩ := oif_some hg
    rcases othr_k hg with ⟨rc2, gc2, hc⟩ | ⟨rc2, Tc2, gc2, hg⟩
    · obtain ⟨-, ⟨q, -⟩ | ⟨q, qc⟩⟩ := p_src h.1.1 q20 gc2
      · exact absurd q hc
      · rcases (q_src hP f5).2 with ⟨-, z⟩ | ⟨z, -⟩
        · exact absurd z qc
        · rw [z] at f9
          obtain ⟨e, er⟩ := ask_2 q20 f9
          rw [if_pos er] at hf
          rw [q, ← (osome2 hf).2, e, mi_at]
          exact ⟨rfl, fun q => absurd q (by decide)⟩
    · obtain ⟨eT2, ⟨-, qc⟩ | ⟨q, -⟩⟩ := p_src h.1.1 q20 gc2
      case inr => exact absurd q (by decide)
      rw [eT2] at hg
      rcases (q_src hP f5).2 with ⟨z, -⟩ | ⟨-, z⟩
      case inr => exact absurd qc z
      rw [z] at f9
      obtain ⟨e, er⟩ := ask_1 q20 f9
      rw [if_neg (by rw [er]; decide)] at hf
      obtain ⟨s, hs, hA⟩ := al_of hV h q20
      have hI : IC (S.2.1 10) S := ⟨rfl, jj_ib hJ⟩
      have i17 : ∀ m, 0 ≤ (S.2.1 17 m).toInt ∧ (S.2.1 17 m).toInt ≤ 65535 := fun m => (jj_ib hJ).2.2.2.2.2.2.1 m
      obtain ⟨S11, f11, hf⟩ := obind_some hf
      obtain ⟨v14, d14, hf⟩ := elet_some hf
      obtain ⟨-, hf⟩ := oif_some hf
      obtain ⟨S16, e16, hf⟩ := elet_some hf
      obtain ⟨S17, f17, hf⟩ := obind_some hf
      obtain ⟨r23, S20, f23, hf⟩ := obind2_some hf
      have ka := i_cl qc.1
      have k14 := cl_ad (n := 25) (by decide) qc.1 (by omega) d14
      rw [k14] at e16
      obtain ⟨f4, f6, f7, -⟩ := c_fld h.1.1.1
      obtain ⟨-, hg⟩ := oif_some hg
      obtain ⟨n13, en, hg⟩ := obind_some hg
      rw [f7] at en
      cases en
      obtain ⟨-, hg⟩ := oif_some hg
      obtain ⟨n15, en, hg⟩ := obind_some hg
      rw [f6] at en
      cases en
      obtain ⟨-, hg⟩ := oif_some hg
      obtain ⟨T17, g17, hg⟩ := obind_some hg
      obtain ⟨A1, st1, D1, e10, e17, t0, t21, -⟩ := tr_copy (S := S6) hs (by rw [e]; exact hA) (by rw [e]; exact hP) (by rw [e]; exact r2_mi0 h.1) (by rw [e]; exact q20) g17 f11
      have e6 : S6.2.1 10 = S.2.1 10 := by rw [e]; rfl
      unfold g_X11_bestIfOff_b20 at hg
      obtain ⟨-, hg⟩ := oif_some hg
      obtain ⟨n3, en, hg⟩ := obind_some hg
      rw [(c_fld A1.1.2).2.2.1] at en
      cases en
      obtain ⟨-, hg⟩ := oif_some hg
      obtain ⟨n5, en, hg⟩ := obind_some hg
      rw [(sd_rf A1.1.2 d336).2.2.1] at en
      cases en
      obtain ⟨-, hg⟩ := oif_some hg
      obtain ⟨-, hg⟩ := oif_some hg
      obtain ⟨T8, e8, hg⟩ := elet_some hg
      have hP1 : PL (S11.2.1 10) := by rw [e10, e6]; exact hP
      obtain ⟨p4, p5'⟩ := r2_pl hP1
      have q10 : S16.2.1 10 = S11.2.1 10 := by rw [e16, mf_ne (by decide)]
      have q17 : S16.2.1 17 = S11.2.1 17 := by rw [e16, mf_ne (by decide)]
      have A2 : AL T8 s (S16.2.1 10) := by
        rw [q10]
        exact al_go (W := [2048]) hs A1 (by rw [e8]; exact (iv_mut A1.1.1).2) (crf_eq A1.1.2 (by rw [e8]; rfl)) (gi_sp (by rw [e8]; exact sp_uI)) (fw_uA e8 (sd_ro d336).2.2.2.1 rfl rfl (by decide)) (by decide +kernel) (by decide) (by rw [e8]; rfl)
      have i8 : ∀ m k, m ≠ 339 ∨ k ≠ a0.toNatClampNeg → T8.2.2.1 m k = T17.2.2.1 m k := fun m k c => by rw [e8, ui_ne c]
      have a8 : T8.2.2.1 339 a0.toNatClampNeg = 0 := by rw [e8]; exact ui_at
      have r14 : ∀ x, S16.2.1 14 x = if x = 25 + a0.toNatClampNeg then 0 else S11.2.1 14 x := fun x => by
        rw [e16, mf_at]
        rfl
      have st2 : STa T8 336 (S16.2.1 10) (S16.2.1 14) 0 := by
        obtain ⟨a0', a1, a2, am, ak⟩ := st1
        rw [q10]
        refine ⟨?_, ?_, ?_, fun m hm => ?_, fun k hk => ?_⟩
        · rw [i8 _ _ (.inl (by decide))]; exact a0'
        · rw [i8 _ _ (.inl (by decide))]; exact a1
        · rw [i8 _ _ (.inl (by decide)), r14, if_neg (by omega)]; exact a2
        · rw [i8 _ _ (.inl (by decide)), i8 _ _ (.inl (by decide)), r14, r14, if_neg (by omega), if_neg (by omega)]; exact am m hm
        · obtain ⟨b3, b4, b5, b6, b7⟩ := ak k hk
          refine ⟨?_, ?_, ?_, ?_, ?_⟩
          · rw [r14]
            by_cases c : k = a0.toNatClampNeg
            · rw [if_pos (by omega), c]; exact a8
            · rw [if_neg (by omega), i8 _ _ (.inr c)]; exact b3
          · rw [i8 _ _ (.inl (by decide)), r14, if_neg (by omega)]; exact b4
          · rw [i8 _ _ (.inl (by decide)), r14, if_neg (by omega)]; exact b5
          · rw [i8 _ _ (.inl (by decide)), r14, if_neg (by omega)]; exact b6
          · rw [i8 _ _ (.inl (by decide)), r14, if_neg (by omega)]; exact b7
      obtain ⟨-, hg⟩ := oif_some hg
      obtain ⟨n10, en, hg⟩ := obind_some hg
      rw [(c_fld2 A2.1.2).2.2.2] at en
      cases en
      obtain ⟨-, hg⟩ := oif_some hg
      obtain ⟨n12, en, hg⟩ := obind_some hg
      rw [A2.2.2.2.2] at en
      cases en
      obtain ⟨-, hg⟩ := oif_some hg
      obtain ⟨n14, en, hg⟩ := obind_some hg
      rw [(c_fld A2.1.2).2.2.1] at en
      cases en
      obtain ⟨-, hg⟩ := oif_some hg
      obtain ⟨T16, g16, hg⟩ := obind_some hg
      have hP2 : PL (S16.2.1 10) := by rw [q10]; exact hP1
      obtain ⟨c4, n2, c5, c71, c77, hC⟩ := pc_of hP2
      have s21 : S16.1 21 = -1 := by
        rw [e16]
        show S11.1 21 = -1
        rw [t21, e]
        exact h.2.2.2.2
      obtain ⟨xs, w1, sv, sm, refs, shs, ints⟩ := rec_alike_14 hs d336 hP2 (S' := S) (by rw [q10, e10, e6]; exact hI) hC s21 A2.1.1 A2.1.2 A2.2.2.1 st2 g16 f17
      have wr := w_fr_records_14 f17
      have z10 : S17.2.1 10 = S16.2.1 10 := wr.2 10 (by decide)
      have z17 : S17.2.1 17 = S16.2.1 17 := wr.2 17 (by decide)
      obtain ⟨o, hV16, fw⟩ := rec_out A2.1.2 A2.1.1 hs (.inr rfl) g16
      have A3 : AL T16 s (S17.2.1 10) := by
        rw [z10]
        exact al_go hs A2 hV16 (crf_gr A2.1.2 A2.1.1 (sr_X5_record g16)) (si_X5_record g16) fw (by decide +kernel) (by decide) (e14_gr A2.1.1 (sr_X5_record g16))
      have pc := (pl_cell hP2).2.2.1
      have D3 : DRw T16 s S17 := fun k m hk hm => by
        rw [z10] at hk hm
        rw [ints _ _ (by omega) (by omega) (by omega), i8 _ _ (.inl (by omega)), z17, q17]
        rw [q10] at hk hm
        exact D1 k m hk hm
      unfold g_X11_bestIfOff_b45 g_X11_bestIfOff_b49 at hg
      obtain ⟨-, hg⟩ := oif_some hg
      obtain ⟨r4, T3, g3, hg⟩ := obind2_some hg
      have q := tb_alike hs A3 (by rw [z10]; exact hP2) (by rw [z10]; exact hC) w1 (by rw [z10]; exact sv) sm D3 (fun k => by rw [z17, q17, e17, e]; exact i17 k) g3 f23
      have gg := osome3 hg
      have ff := osome2 hf
      have wb := w_fr_bestIn_14 f23
      rw [← gg.1, ← gg.2.1, ← ff.1, ← ff.2, wb.1 0 (by decide), wr.1 0 (by decide), e16]
      refine ⟨?_, fun _ => ⟨rfl, q⟩⟩
      show S11.1 0 = _
      rw [t0, e, mi_at]
      rfl
end
