set_option maxRecDepth 100000 in
theorem r1_0 : R1 aT0 mS0 := by
  refine ⟨⟨fun n _ _ _ k => rfl, fun k _ _ => rfl, .inl ⟨by decide +kernel, by decide +kernel⟩⟩, ⟨by decide +kernel, fun k _ => ?_⟩, by decide +kernel, by decide +kernel, 478, .inl rfl, by decide +kernel, .inr ⟨by decide +kernel, by decide +kernel, by decide +kernel, by decide +kernel, by decide +kernel, by decide +kernel, by decide +kernel⟩⟩
  show fviR (aR0 2) k = 0
  rw [rrole.2.1]
  rfl
theorem r1_append {T : AT} {S : MS} {a0 a1 a2 a3 a4 r1 r2 : Int32} {T1 : AT} {S1 : MS} (hV : IV aR0 1586 aK1 aK2 T) (hJ : JJ S) (h : R1 T S) (hg : g_X11_append T 0 a0 a1 a2 a3 a4 = some (r1, T1)) (hf : fr_append S a0 a1 a2 a3 a4 = some (r2, S1)) : R1 T1 S1 := by
  obtain ⟨hc, hB, h5, h6, s, hs, h14, hr⟩ := h
  obtain ⟨d1, d2, d6, d0⟩ := rrole
  obtain ⟨a1', -, b1, -, -, -, -, t8, -, -⟩ := txr_dec
  have q := k_append ((hc.2.1 0 (by decide) (by decide)).trans t8) ((hc.at 1 a1' 0).trans b1) hB hg hf
  have c := tgo (cs_X11_append T 0 a0 a1 a2 a3 a4 hV d0) hg
  have f := w_fr_append hf
  refine ⟨crf_eq hc q.2.2, q.2.1, ?_, ?_, rs_eq hs (fw_seq c.1.2 (by decide +kernel) hs) (fun x _ => by rw [f.2 10 (by decide)]) (f.1 20 (by decide)) (by rw [q.2.2]; exact h14) hr⟩
  · rw [c.1.2 6 2 (by rw [d6]; rfl), f.1 5 (by decide)]; exact h5
  · rw [c.1.2 6 3 (by rw [d6]; rfl), f.1 6 (by decide)]; exact h6
theorem r1_parseError {T : AT} {S : MS} {r1 : Int32} {r2 : Int32} {T1 : AT} {S1 : MS} (hV : IV aR0 1586 aK1 aK2 T) (hJ : JJ S) (h : R1 T S) (hg : g_X11_parseError T 0 = some (r1, T1)) (hf : fr_parseError S = some (r2, S1)) : R1 T1 S1 := by
  have c := tgo (cs_X11_parseError T 0  hV rrole.2.2.2) hg
  have f := w_fr_parseError hf
  exact r1_keep (W := []) h hV (by rw [show T1 = T from c.1]; exact FW.rf) (by decide +kernel) (by rw [show T1 = T from c.1]; exact GR.rf T) ⟨f.1 2 (by decide), f.1 5 (by decide), f.1 6 (by decide), f.1 20 (by decide), f.2 1 (by decide), f.2 10 (by decide)⟩
theorem r1_errorPosition {T : AT} {S : MS} {r1 : Int32} {r2 : Int32} {T1 : AT} {S1 : MS} (hV : IV aR0 1586 aK1 aK2 T) (hJ : JJ S) (h : R1 T S) (hg : g_X11_errorPosition T 0 = some (r1, T1)) (hf : fr_errorPosition S = some (r2, S1)) : R1 T1 S1 := by
  have c := tgo (cs_X11_errorPosition T 0  hV rrole.2.2.2) hg
  have f := w_fr_errorPosition hf
  exact r1_keep (W := []) h hV (by rw [show T1 = T from c.1]; exact FW.rf) (by decide +kernel) (by rw [show T1 = T from c.1]; exact GR.rf T) ⟨f.1 2 (by decide), f.1 5 (by decide), f.1 6 (by decide), f.1 20 (by decide), f.2 1 (by decide), f.2 10 (by decide)⟩
theorem r1_buffered {T : AT} {S : MS} {r1 : Int32} {r2 : Int32} {T1 : AT} {S1 : MS} (hV : IV aR0 1586 aK1 aK2 T) (hJ : JJ S) (h : R1 T S) (hg : g_X11_buffered T 0 = some (r1, T1)) (hf : fr_buffered S = some (r2, S1)) : R1 T1 S1 := by
  have c := tgo (cs_X11_buffered T 0  hV rrole.2.2.2) hg
  have f := w_fr_buffered hf
  exact r1_keep (W := []) h hV (by rw [show T1 = T from c.1]; exact FW.rf) (by decide +kernel) (by rw [show T1 = T from c.1]; exact GR.rf T) ⟨f.1 2 (by decide), f.1 5 (by decide), f.1 6 (by decide), f.1 20 (by decide), f.2 1 (by decide), f.2 10 (by decide)⟩
theorem r1_mics {T : AT} {S : MS} {r1 : Int32} {r2 : Int32} {T1 : AT} {S1 : MS} (hV : IV aR0 1586 aK1 aK2 T) (hJ : JJ S) (h : R1 T S) (hg : g_X11_mics T 0 = some (r1, T1)) (hf : fr_mics S = some (r2, S1)) : R1 T1 S1 := by
  have c := tgo (cs_X11_mics T 0  hV rrole.2.2.2) hg
  have f := w_fr_mics hf
  exact r1_keep (W := []) h hV (by rw [show T1 = T from c.1]; exact FW.rf) (by decide +kernel) (by rw [show T1 = T from c.1]; exact GR.rf T) ⟨f.1 2 (by decide), f.1 5 (by decide), f.1 6 (by decide), f.1 20 (by decide), f.2 1 (by decide), f.2 10 (by decide)⟩
theorem r1_micAt {T : AT} {S : MS} {a0 a1 : Int32} {r1 : Int32} {r2 : Int32} {k1 : Nat} {T1 : AT} {S1 : MS} (hV : IV aR0 1586 aK1 aK2 T) (hJ : JJ S) (h : R1 T S) (hg : g_X11_micAt T 0 a0 a1 = some (k1, r1, T1)) (hf : fr_micAt S a0 a1 = some (r2, S1)) : R1 T1 S1 := by
  have c := tgo (cs_X11_micAt T 0 a0 a1 hV rrole.2.2.2) hg
  have f := w_fr_micAt hf
  exact r1_keep (W := []) h hV (by rw [show T1 = T from c.1]; exact FW.rf) (by decide +kernel) (by rw [show T1 = T from c.1]; exact GR.rf T) ⟨f.1 2 (by decide), f.1 5 (by decide), f.1 6 (by decide), f.1 20 (by decide), f.2 1 (by decide), f.2 10 (by decide)⟩
theorem r1_isMuted {T : AT} {S : MS} {a0 : Int32} {r1 : Int32} {r2 : Int32} {k1 : Nat} {T1 : AT} {S1 : MS} (hV : IV aR0 1586 aK1 aK2 T) (hJ : JJ S) (h : R1 T S) (hg : g_X11_isMuted T 0 a0 = some (k1, r1, T1)) (hf : fr_isMuted S a0 = some (r2, S1)) : R1 T1 S1 := by
  have c := tgo (cs_X11_isMuted T 0 a0 hV rrole.2.2.2) hg
  have f := w_fr_isMuted hf
  exact r1_keep (W := []) h hV (by rw [show T1 = T from c.1]; exact FW.rf) (by decide +kernel) (by rw [show T1 = T from c.1]; exact GR.rf T) ⟨f.1 2 (by decide), f.1 5 (by decide), f.1 6 (by decide), f.1 20 (by decide), f.2 1 (by decide), f.2 10 (by decide)⟩
theorem r1_columns {T : AT} {S : MS} {r1 : Int32} {r2 : Int32} {T1 : AT} {S1 : MS} (hV : IV aR0 1586 aK1 aK2 T) (hJ : JJ S) (h : R1 T S) (hg : g_X11_columns T 0 = some (r1, T1)) (hf : fr_columns S = some (r2, S1)) : R1 T1 S1 := by
  have c := tgo (cs_X11_columns T 0  hV rrole.2.2.2) hg
  have f := w_fr_columns hf
  exact r1_keep (W := []) h hV (by rw [show T1 = T from c.1]; exact FW.rf) (by decide +kernel) (by rw [show T1 = T from c.1]; exact GR.rf T) ⟨f.1 2 (by decide), f.1 5 (by decide), f.1 6 (by decide), f.1 20 (by decide), f.2 1 (by decide), f.2 10 (by decide)⟩
theorem r1_rows {T : AT} {S : MS} {r1 : Int32} {r2 : Int32} {T1 : AT} {S1 : MS} (hV : IV aR0 1586 aK1 aK2 T) (hJ : JJ S) (h : R1 T S) (hg : g_X11_rows T 0 = some (r1, T1)) (hf : fr_rows S = some (r2, S1)) : R1 T1 S1 := by
  have c := tgo (cs_X11_rows T 0  hV rrole.2.2.2) hg
  have f := w_fr_rows hf
  exact r1_keep (W := []) h hV (by rw [show T1 = T from c.1]; exact FW.rf) (by decide +kernel) (by rw [show T1 = T from c.1]; exact GR.rf T) ⟨f.1 2 (by decide), f.1 5 (by decide), f.1 6 (by decide), f.1 20 (by decide), f.2 1 (by decide), f.2 10 (by decide)⟩
theorem r1_cellAt {T : AT} {S : MS} {a0 a1 : Int32} {r1 : Int32} {r2 : Int32} {k1 : Nat} {T1 : AT} {S1 : MS} (hV : IV aR0 1586 aK1 aK2 T) (hJ : JJ S) (h : R1 T S) (hg : g_X11_cellAt T 0 a0 a1 = some (k1, r1, T1)) (hf : fr_cellAt S a0 a1 = some (r2, S1)) : R1 T1 S1 := by
  have c := tgo (cs_X11_cellAt T 0 a0 a1 hV rrole.2.2.2) hg
  have f := w_fr_cellAt hf
  exact r1_keep (W := []) h hV (by rw [show T1 = T from c.1]; exact FW.rf) (by decide +kernel) (by rw [show T1 = T from c.1]; exact GR.rf T) ⟨f.1 2 (by decide), f.1 5 (by decide), f.1 6 (by decide), f.1 20 (by decide), f.2 1 (by decide), f.2 10 (by decide)⟩
theorem r1_sources {T : AT} {S : MS} {r1 : Int32} {r2 : Int32} {T1 : AT} {S1 : MS} (hV : IV aR0 1586 aK1 aK2 T) (hJ : JJ S) (h : R1 T S) (hg : g_X11_sources T 0 = some (r1, T1)) (hf : fr_sources S = some (r2, S1)) : R1 T1 S1 := by
  have c := tgo (cs_X11_sources T 0  hV rrole.2.2.2) hg
  have f := w_fr_sources hf
  exact r1_keep (W := []) h hV (by rw [show T1 = T from c.1]; exact FW.rf) (by decide +kernel) (by rw [show T1 = T from c.1]; exact GR.rf T) ⟨f.1 2 (by decide), f.1 5 (by decide), f.1 6 (by decide), f.1 20 (by decide), f.2 1 (by decide), f.2 10 (by decide)⟩
theorem r1_sourceAt {T : AT} {S : MS} {a0 a1 a2 : Int32} {r1 : Int32} {r2 : Int32} {k1 : Nat} {T1 : AT} {S1 : MS} (hV : IV aR0 1586 aK1 aK2 T) (hJ : JJ S) (h : R1 T S) (hg : g_X11_sourceAt T 0 a0 a1 a2 = some (k1, r1, T1)) (hf : fr_sourceAt S a0 a1 a2 = some (r2, S1)) : R1 T1 S1 := by
  have c := tgo (cs_X11_sourceAt T 0 a0 a1 a2 hV rrole.2.2.2) hg
  have f := w_fr_sourceAt hf
  exact r1_keep (W := []) h hV (by rw [show T1 = T from c.1]; exact FW.rf) (by decide +kernel) (by rw [show T1 = T from c.1]; exact GR.rf T) ⟨f.1 2 (by decide), f.1 5 (by decide), f.1 6 (by decide), f.1 20 (by decide), f.2 1 (by decide), f.2 10 (by decide)⟩
theorem r1_isOn {T : AT} {S : MS} {a0 : Int32} {r1 : Int32} {r2 : Int32} {k1 : Nat} {T1 : AT} {S1 : MS} (hV : IV aR0 1586 aK1 aK2 T) (hJ : JJ S) (h : R1 T S) (hg : g_X11_isOn T 0 a0 = some (k1, r1, T1)) (hf : fr_isOn S a0 = some (r2, S1)) : R1 T1 S1 := by
  have c := tgo (cs_X11_isOn T 0 a0 hV rrole.2.2.2) hg
  have f := w_fr_isOn hf
  exact r1_keep (W := []) h hV (by rw [show T1 = T from c.1]; exact FW.rf) (by decide +kernel) (by rw [show T1 = T from c.1]; exact GR.rf T) ⟨f.1 2 (by decide), f.1 5 (by decide), f.1 6 (by decide), f.1 20 (by decide), f.2 1 (by decide), f.2 10 (by decide)⟩
theorem r1_waveAt {T : AT} {S : MS} {a0 a1 : Int32} {r1 : Int32} {r2 : Int32} {k1 : Nat} {T1 : AT} {S1 : MS} (hV : IV aR0 1586 aK1 aK2 T) (hJ : JJ S) (h : R1 T S) (hg : g_X11_waveAt T 0 a0 a1 = some (k1, r1, T1)) (hf : fr_waveAt S a0 a1 = some (r2, S1)) : R1 T1 S1 := by
  have c := tgo (cs_X11_waveAt T 0 a0 a1 hV rrole.2.2.2) hg
  have f := w_fr_waveAt hf
  exact r1_keep (W := []) h hV (by rw [show T1 = T from c.1]; exact FW.rf) (by decide +kernel) (by rw [show T1 = T from c.1]; exact GR.rf T) ⟨f.1 2 (by decide), f.1 5 (by decide), f.1 6 (by decide), f.1 20 (by decide), f.2 1 (by decide), f.2 10 (by decide)⟩
theorem r1_samples {T : AT} {S : MS} {r1 : Int32} {r2 : Int32} {T1 : AT} {S1 : MS} (hV : IV aR0 1586 aK1 aK2 T) (hJ : JJ S) (h : R1 T S) (hg : g_X11_samples T 0 = some (r1, T1)) (hf : fr_samples S = some (r2, S1)) : R1 T1 S1 := by
  have c := tgo (cs_X11_samples T 0  hV rrole.2.2.2) hg
  have f := w_fr_samples hf
  exact r1_keep (W := []) h hV (by rw [show T1 = T from c.1]; exact FW.rf) (by decide +kernel) (by rw [show T1 = T from c.1]; exact GR.rf T) ⟨f.1 2 (by decide), f.1 5 (by decide), f.1 6 (by decide), f.1 20 (by decide), f.2 1 (by decide), f.2 10 (by decide)⟩
theorem r1_delay {T : AT} {S : MS} {a0 a1 : Int32} {r1 : Int32} {r2 : Int32} {k1 : Nat} {T1 : AT} {S1 : MS} (hV : IV aR0 1586 aK1 aK2 T) (hJ : JJ S) (h : R1 T S) (hg : g_X11_delay T 0 a0 a1 = some (k1, r1, T1)) (hf : fr_delay S a0 a1 = some (r2, S1)) : R1 T1 S1 := by
  have c := tgo (cs_X11_delay T 0 a0 a1 hV rrole.2.2.2) hg
  have f := w_fr_delay hf
  exact r1_keep (W := []) h hV (by rw [show T1 = T from c.1]; exact FW.rf) (by decide +kernel) (by rw [show T1 = T from c.1]; exact GR.rf T) ⟨f.1 2 (by decide), f.1 5 (by decide), f.1 6 (by decide), f.1 20 (by decide), f.2 1 (by decide), f.2 10 (by decide)⟩
theorem r1_delayTo {T : AT} {S : MS} {a0 a1 a2 : Int32} {r1 : Int32} {r2 : Int32} {k1 : Nat} {T1 : AT} {S1 : MS} (hV : IV aR0 1586 aK1 aK2 T) (hJ : JJ S) (h : R1 T S) (hg : g_X11_delayTo T 0 a0 a1 a2 = some (k1, r1, T1)) (hf : fr_delayTo S a0 a1 a2 = some (r2, S1)) : R1 T1 S1 := by
  have c := tgo (cs_X11_delayTo T 0 a0 a1 a2 hV rrole.2.2.2) hg
  have f := w_fr_delayTo hf
  exact r1_keep (W := []) h hV (by rw [show T1 = T from c.1]; exact FW.rf) (by decide +kernel) (by rw [show T1 = T from c.1]; exact GR.rf T) ⟨f.1 2 (by decide), f.1 5 (by decide), f.1 6 (by decide), f.1 20 (by decide), f.2 1 (by decide), f.2 10 (by decide)⟩
theorem r1_spread {T : AT} {S : MS} {a0 : Int32} {r1 : Int32} {r2 : Int32} {k1 : Nat} {T1 : AT} {S1 : MS} (hV : IV aR0 1586 aK1 aK2 T) (hJ : JJ S) (h : R1 T S) (hg : g_X11_spread T 0 a0 = some (k1, r1, T1)) (hf : fr_spread S a0 = some (r2, S1)) : R1 T1 S1 := by
  have c := tgo (cs_X11_spread T 0 a0 hV rrole.2.2.2) hg
  have f := w_fr_spread hf
  exact r1_keep (W := []) h hV (by rw [show T1 = T from c.1]; exact FW.rf) (by decide +kernel) (by rw [show T1 = T from c.1]; exact GR.rf T) ⟨f.1 2 (by decide), f.1 5 (by decide), f.1 6 (by decide), f.1 20 (by decide), f.2 1 (by decide), f.2 10 (by decide)⟩
theorem r1_window {T : AT} {S : MS} {a0 : Int32} {r1 : Int32} {r2 : Int32} {k1 : Nat} {T1 : AT} {S1 : MS} (hV : IV aR0 1586 aK1 aK2 T) (hJ : JJ S) (h : R1 T S) (hg : g_X11_window T 0 a0 = some (k1, r1, T1)) (hf : fr_window S a0 = some (r2, S1)) : R1 T1 S1 := by
  have c := tgo (cs_X11_window T 0 a0 hV rrole.2.2.2) hg
  have f := w_fr_window hf
  exact r1_keep (W := []) h hV (by rw [show T1 = T from c.1]; exact FW.rf) (by decide +kernel) (by rw [show T1 = T from c.1]; exact GR.rf T) ⟨f.1 2 (by decide), f.1 5 (by decide), f.1 6 (by decide), f.1 20 (by decide), f.2 1 (by decide), f.2 10 (by decide)⟩
theorem r1_sample {T : AT} {S : MS} {a0 a1 : Int32} {r1 : Int32} {r2 : Int32} {k1 : Nat} {T1 : AT} {S1 : MS} (hV : IV aR0 1586 aK1 aK2 T) (hJ : JJ S) (h : R1 T S) (hg : g_X11_sample T 0 a0 a1 = some (k1, r1, T1)) (hf : fr_sample S a0 a1 = some (r2, S1)) : R1 T1 S1 := by
  have c := tgo (cs_X11_sample T 0 a0 a1 hV rrole.2.2.2) hg
  have f := w_fr_sample hf
  exact r1_keep (W := []) h hV (by rw [show T1 = T from c.1]; exact FW.rf) (by decide +kernel) (by rw [show T1 = T from c.1]; exact GR.rf T) ⟨f.1 2 (by decide), f.1 5 (by decide), f.1 6 (by decide), f.1 20 (by decide), f.2 1 (by decide), f.2 10 (by decide)⟩
theorem r1_beam {T : AT} {S : MS} {a0 a1 : Int32} {r1 : Int32} {r2 : Int32} {k1 : Nat} {T1 : AT} {S1 : MS} (hV : IV aR0 1586 aK1 aK2 T) (hJ : JJ S) (h : R1 T S) (hg : g_X11_beam T 0 a0 a1 = some (k1, r1, T1)) (hf : fr_beam S a0 a1 = some (r2, S1)) : R1 T1 S1 := by
  have c := tgo (cs_X11_beam T 0 a0 a1 hV rrole.2.2.2) hg
  have f := w_fr_beam hf
  exact r1_keep h hV (T1 := T1) c.1.2 (by decide +kernel) (sr_X11_beam hg) ⟨f.1 2 (by decide), f.1 5 (by decide), f.1 6 (by decide), f.1 20 (by decide), f.2 1 (by decide), f.2 10 (by decide)⟩
theorem r1_power {T : AT} {S : MS} {a0 : Int32} {r1 : Int64} {r2 : Int64} {k1 : Nat} {T1 : AT} {S1 : MS} (hV : IV aR0 1586 aK1 aK2 T) (hJ : JJ S) (h : R1 T S) (hg : g_X11_power T 0 a0 = some (k1, r1, T1)) (hf : fr_power S a0 = some (r2, S1)) : R1 T1 S1 := by
  have c := tgo (cs_X11_power T 0 a0 hV rrole.2.2.2) hg
  have f := w_fr_power hf
  exact r1_keep h hV (T1 := T1) c.1.2 (by decide +kernel) (sr_X11_power hg) ⟨f.1 2 (by decide), f.1 5 (by decide), f.1 6 (by decide), f.1 20 (by decide), f.2 1 (by decide), f.2 10 (by decide)⟩
theorem r1_powerAt {T : AT} {S : MS} {a0 a1 : Int32} {r1 : Int64} {r2 : Int64} {k1 : Nat} {T1 : AT} {S1 : MS} (hV : IV aR0 1586 aK1 aK2 T) (hJ : JJ S) (h : R1 T S) (hg : g_X11_powerAt T 0 a0 a1 = some (k1, r1, T1)) (hf : fr_powerAt S a0 a1 = some (r2, S1)) : R1 T1 S1 := by
  have c := tgo (cs_X11_powerAt T 0 a0 a1 hV rrole.2.2.2) hg
  have f := w_fr_powerAt hf
  exact r1_keep h hV (T1 := T1) c.1.2 (by decide +kernel) (sr_X11_powerAt hg) ⟨f.1 2 (by decide), f.1 5 (by decide), f.1 6 (by decide), f.1 20 (by decide), f.2 1 (by decide), f.2 10 (by decide)⟩
theorem r1_best {T : AT} {S : MS} {r1 : Int32} {r2 : Int32} {k1 : Nat} {T1 : AT} {S1 : MS} (hV : IV aR0 1586 aK1 aK2 T) (hJ : JJ S) (h : R1 T S) (hg : g_X11_best T 0 = some (k1, r1, T1)) (hf : fr_best S = some (r2, S1)) : R1 T1 S1 := by
  have c := tgo (cs_X11_best T 0  hV rrole.2.2.2) hg
  have f := w_fr_best hf
  exact r1_keep h hV (T1 := T1) c.1.2 (by decide +kernel) (sr_X11_best hg) ⟨f.1 2 (by decide), f.1 5 (by decide), f.1 6 (by decide), f.1 20 (by decide), f.2 1 (by decide), f.2 10 (by decide)⟩
theorem r1_bestPower {T : AT} {S : MS} {r1 : Int64} {r2 : Int64} {k1 : Nat} {T1 : AT} {S1 : MS} (hV : IV aR0 1586 aK1 aK2 T) (hJ : JJ S) (h : R1 T S) (hg : g_X11_bestPower T 0 = some (k1, r1, T1)) (hf : fr_bestPower S = some (r2, S1)) : R1 T1 S1 := by
  have c := tgo (cs_X11_bestPower T 0  hV rrole.2.2.2) hg
  have f := w_fr_bestPower hf
  exact r1_keep h hV (T1 := T1) c.1.2 (by decide +kernel) (sr_X11_bestPower hg) ⟨f.1 2 (by decide), f.1 5 (by decide), f.1 6 (by decide), f.1 20 (by decide), f.2 1 (by decide), f.2 10 (by decide)⟩
theorem r1_meanPower {T : AT} {S : MS} {r1 : Int64} {r2 : Int64} {k1 : Nat} {T1 : AT} {S1 : MS} (hV : IV aR0 1586 aK1 aK2 T) (hJ : JJ S) (h : R1 T S) (hg : g_X11_meanPower T 0 = some (k1, r1, T1)) (hf : fr_meanPower S = some (r2, S1)) : R1 T1 S1 := by
  have c := tgo (cs_X11_meanPower T 0  hV rrole.2.2.2) hg
  have f := w_fr_meanPower hf
  exact r1_keep h hV (T1 := T1) c.1.2 (by decide +kernel) (sr_X11_meanPower hg) ⟨f.1 2 (by decide), f.1 5 (by decide), f.1 6 (by decide), f.1 20 (by decide), f.2 1 (by decide), f.2 10 (by decide)⟩
theorem r1_peaks {T : AT} {S : MS} {r1 : Int32} {r2 : Int32} {k1 : Nat} {T1 : AT} {S1 : MS} (hV : IV aR0 1586 aK1 aK2 T) (hJ : JJ S) (h : R1 T S) (hg : g_X11_peaks T 0 = some (k1, r1, T1)) (hf : fr_peaks S = some (r2, S1)) : R1 T1 S1 := by
  have c := tgo (cs_X11_peaks T 0  hV rrole.2.2.2) hg
  have f := w_fr_peaks hf
  exact r1_keep h hV (T1 := T1) c.1.2 (by decide +kernel) (sr_X11_peaks hg) ⟨f.1 2 (by decide), f.1 5 (by decide), f.1 6 (by decide), f.1 20 (by decide), f.2 1 (by decide), f.2 10 (by decide)⟩
theorem r1_peakAt {T : AT} {S : MS} {a0 : Int32} {r1 : Int32} {r2 : Int32} {k1 : Nat} {T1 : AT} {S1 : MS} (hV : IV aR0 1586 aK1 aK2 T) (hJ : JJ S) (h : R1 T S) (hg : g_X11_peakAt T 0 a0 = some (k1, r1, T1)) (hf : fr_peakAt S a0 = some (r2, S1)) : R1 T1 S1 := by
  have c := tgo (cs_X11_peakAt T 0 a0 hV rrole.2.2.2) hg
  have f := w_fr_peakAt hf
  exact r1_keep h hV (T1 := T1) c.1.2 (by decide +kernel) (sr_X11_peakAt hg) ⟨f.1 2 (by decide), f.1 5 (by decide), f.1 6 (by decide), f.1 20 (by decide), f.2 1 (by decide), f.2 10 (by decide)⟩
theorem r1_isPeak {T : AT} {S : MS} {a0 : Int32} {r1 : Int32} {r2 : Int32} {k1 : Nat} {T1 : AT} {S1 : MS} (hV : IV aR0 1586 aK1 aK2 T) (hJ : JJ S) (h : R1 T S) (hg : g_X11_isPeak T 0 a0 = some (k1, r1, T1)) (hf : fr_isPeak S a0 = some (r2, S1)) : R1 T1 S1 := by
  have c := tgo (cs_X11_isPeak T 0 a0 hV rrole.2.2.2) hg
  have f := w_fr_isPeak hf
  exact r1_keep h hV (T1 := T1) c.1.2 (by decide +kernel) (sr_X11_isPeak hg) ⟨f.1 2 (by decide), f.1 5 (by decide), f.1 6 (by decide), f.1 20 (by decide), f.2 1 (by decide), f.2 10 (by decide)⟩
theorem r1_zonePower {T : AT} {S : MS} {a0 : Int32} {r1 : Int64} {r2 : Int64} {k1 : Nat} {T1 : AT} {S1 : MS} (hV : IV aR0 1586 aK1 aK2 T) (hJ : JJ S) (h : R1 T S) (hg : g_X11_zonePower T 0 a0 = some (k1, r1, T1)) (hf : fr_zonePower S a0 = some (r2, S1)) : R1 T1 S1 := by
  have c := tgo (cs_X11_zonePower T 0 a0 hV rrole.2.2.2) hg
  have f := w_fr_zonePower hf
  exact r1_keep h hV (T1 := T1) c.1.2 (by decide +kernel) (sr_X11_zonePower hg) ⟨f.1 2 (by decide), f.1 5 (by decide), f.1 6 (by decide), f.1 20 (by decide), f.2 1 (by decide), f.2 10 (by decide)⟩
theorem r1_zoneBest {T : AT} {S : MS} {a0 : Int32} {r1 : Int32} {r2 : Int32} {k1 : Nat} {T1 : AT} {S1 : MS} (hV : IV aR0 1586 aK1 aK2 T) (hJ : JJ S) (h : R1 T S) (hg : g_X11_zoneBest T 0 a0 = some (k1, r1, T1)) (hf : fr_zoneBest S a0 = some (r2, S1)) : R1 T1 S1 := by
  have c := tgo (cs_X11_zoneBest T 0 a0 hV rrole.2.2.2) hg
  have f := w_fr_zoneBest hf
  exact r1_keep h hV (T1 := T1) c.1.2 (by decide +kernel) (sr_X11_zoneBest hg) ⟨f.1 2 (by decide), f.1 5 (by decide), f.1 6 (by decide), f.1 20 (by decide), f.2 1 (by decide), f.2 10 (by decide)⟩
theorem r1_contrast {T : AT} {S : MS} {r1 : UInt32} {r2 : UInt32} {k1 : Nat} {T1 : AT} {S1 : MS} (hV : IV aR0 1586 aK1 aK2 T) (hJ : JJ S) (h : R1 T S) (hg : g_X11_contrast T 0 = some (k1, r1, T1)) (hf : fr_contrast S = some (r2, S1)) : R1 T1 S1 := by
  have c := tgo (cs_X11_contrast T 0  hV rrole.2.2.2) hg
  have f := w_fr_contrast hf
  exact r1_keep h hV (T1 := T1) c.1.2 (by decide +kernel) (sr_X11_contrast hg) ⟨f.1 2 (by decide), f.1 5 (by decide), f.1 6 (by decide), f.1 20 (by decide), f.2 1 (by decide), f.2 10 (by decide)⟩
theorem r1_alias {T : AT} {S : MS} {a0 a1 a2 : Int32} {r1 : Int32} {r2 : Int32} {k1 : Nat} {T1 : AT} {S1 : MS} (hV : IV aR0 1586 aK1 aK2 T) (hJ : JJ S) (h : R1 T S) (hg : g_X11_alias T 0 a0 a1 a2 = some (k1, r1, T1)) (hf : fr_alias S a0 a1 a2 = some (r2, S1)) : R1 T1 S1 := by
  have c := tgo (cs_X11_alias T 0 a0 a1 a2 hV rrole.2.2.2) hg
  have f := w_fr_alias hf
  exact r1_keep (W := []) h hV (by rw [show T1 = T from c.1]; exact FW.rf) (by decide +kernel) (by rw [show T1 = T from c.1]; exact GR.rf T) ⟨f.1 2 (by decide), f.1 5 (by decide), f.1 6 (by decide), f.1 20 (by decide), f.2 1 (by decide), f.2 10 (by decide)⟩
theorem r1_isAlias {T : AT} {S : MS} {a0 a1 a2 : Int32} {r1 : Int32} {r2 : Int32} {k1 : Nat} {T1 : AT} {S1 : MS} (hV : IV aR0 1586 aK1 aK2 T) (hJ : JJ S) (h : R1 T S) (hg : g_X11_isAlias T 0 a0 a1 a2 = some (k1, r1, T1)) (hf : fr_isAlias S a0 a1 a2 = some (r2, S1)) : R1 T1 S1 := by
  have c := tgo (cs_X11_isAlias T 0 a0 a1 a2 hV rrole.2.2.2) hg
  have f := w_fr_isAlias hf
  exact r1_keep h hV (T1 := T1) c.1.2 (by decide +kernel) (sr_X11_isAlias hg) ⟨f.1 2 (by decide), f.1 5 (by decide), f.1 6 (by decide), f.1 20 (by decide), f.2 1 (by decide), f.2 10 (by decide)⟩
theorem r1_aliases {T : AT} {S : MS} {a0 a1 : Int32} {r1 : Int32} {r2 : Int32} {k1 : Nat} {T1 : AT} {S1 : MS} (hV : IV aR0 1586 aK1 aK2 T) (hJ : JJ S) (h : R1 T S) (hg : g_X11_aliases T 0 a0 a1 = some (k1, r1, T1)) (hf : fr_aliases S a0 a1 = some (r2, S1)) : R1 T1 S1 := by
  have c := tgo (cs_X11_aliases T 0 a0 a1 hV rrole.2.2.2) hg
  have f := w_fr_aliases hf
  exact r1_keep h hV (T1 := T1) c.1.2 (by decide +kernel) (sr_X11_aliases hg) ⟨f.1 2 (by decide), f.1 5 (by decide), f.1 6 (by decide), f.1 20 (by decide), f.2 1 (by decide), f.2 10 (by decide)⟩
theorem r1_blockPower {T : AT} {S : MS} {a0 a1 a2 : Int32} {r1 : Int64} {r2 : Int64} {k1 : Nat} {T1 : AT} {S1 : MS} (hV : IV aR0 1586 aK1 aK2 T) (hJ : JJ S) (h : R1 T S) (hg : g_X11_blockPower T 0 a0 a1 a2 = some (k1, r1, T1)) (hf : fr_blockPower S a0 a1 a2 = some (r2, S1)) : R1 T1 S1 := by
  have c := tgo (cs_X11_blockPower T 0 a0 a1 a2 hV rrole.2.2.2) hg
  have f := w_fr_blockPower hf
  exact r1_keep h hV (T1 := T1) c.1.2 (by decide +kernel) (sr_X11_blockPower hg) ⟨f.1 2 (by decide), f.1 5 (by decide), f.1 6 (by decide), f.1 20 (by decide), f.2 1 (by decide), f.2 10 (by decide)⟩
theorem r1_blockBest {T : AT} {S : MS} {a0 a1 : Int32} {r1 : Int32} {r2 : Int32} {k1 : Nat} {T1 : AT} {S1 : MS} (hV : IV aR0 1586 aK1 aK2 T) (hJ : JJ S) (h : R1 T S) (hg : g_X11_blockBest T 0 a0 a1 = some (k1, r1, T1)) (hf : fr_blockBest S a0 a1 = some (r2, S1)) : R1 T1 S1 := by
  have c := tgo (cs_X11_blockBest T 0 a0 a1 hV rrole.2.2.2) hg
  have f := w_fr_blockBest hf
  exact r1_keep h hV (T1 := T1) c.1.2 (by decide +kernel) (sr_X11_blockBest hg) ⟨f.1 2 (by decide), f.1 5 (by decide), f.1 6 (by decide), f.1 20 (by decide), f.2 1 (by decide), f.2 10 (by decide)⟩
theorem r1_path {T : AT} {S : MS} {a0 : Int32} {r1 : Int32} {r2 : Int32} {k1 : Nat} {T1 : AT} {S1 : MS} (hV : IV aR0 1586 aK1 aK2 T) (hJ : JJ S) (h : R1 T S) (hg : g_X11_path T 0 a0 = some (k1, r1, T1)) (hf : fr_path S a0 = some (r2, S1)) : R1 T1 S1 := by
  have c := tgo (cs_X11_path T 0 a0 hV rrole.2.2.2) hg
  have f := w_fr_path hf
  exact r1_keep h hV (T1 := T1) c.1.2 (by decide +kernel) (sr_X11_path hg) ⟨f.1 2 (by decide), f.1 5 (by decide), f.1 6 (by decide), f.1 20 (by decide), f.2 1 (by decide), f.2 10 (by decide)⟩
theorem r1_trackScore {T : AT} {S : MS} {a0 : Int32} {r1 : Int64} {r2 : Int64} {k1 : Nat} {T1 : AT} {S1 : MS} (hV : IV aR0 1586 aK1 aK2 T) (hJ : JJ S) (h : R1 T S) (hg : g_X11_trackScore T 0 a0 = some (k1, r1, T1)) (hf : fr_trackScore S a0 = some (r2, S1)) : R1 T1 S1 := by
  have c := tgo (cs_X11_trackScore T 0 a0 hV rrole.2.2.2) hg
  have f := w_fr_trackScore hf
  exact r1_keep h hV (T1 := T1) c.1.2 (by decide +kernel) (sr_X11_trackScore hg) ⟨f.1 2 (by decide), f.1 5 (by decide), f.1 6 (by decide), f.1 20 (by decide), f.2 1 (by decide), f.2 10 (by decide)⟩
theorem r1_trackCell {T : AT} {S : MS} {a0 a1 : Int32} {r1 : Int32} {r2 : Int32} {k1 : Nat} {T1 : AT} {S1 : MS} (hV : IV aR0 1586 aK1 aK2 T) (hJ : JJ S) (h : R1 T S) (hg : g_X11_trackCell T 0 a0 a1 = some (k1, r1, T1)) (hf : fr_trackCell S a0 a1 = some (r2, S1)) : R1 T1 S1 := by
  have c := tgo (cs_X11_trackCell T 0 a0 a1 hV rrole.2.2.2) hg
  have f := w_fr_trackCell hf
  exact r1_keep h hV (T1 := T1) c.1.2 (by decide +kernel) (sr_X11_trackCell hg) ⟨f.1 2 (by decide), f.1 5 (by decide), f.1 6 (by decide), f.1 20 (by decide), f.2 1 (by decide), f.2 10 (by decide)⟩
theorem r1_movingPower {T : AT} {S : MS} {a0 a1 a2 : Int32} {r1 : Int64} {r2 : Int64} {k1 : Nat} {T1 : AT} {S1 : MS} (hV : IV aR0 1586 aK1 aK2 T) (hJ : JJ S) (h : R1 T S) (hg : g_X11_movingPower T 0 a0 a1 a2 = some (k1, r1, T1)) (hf : fr_movingPower S a0 a1 a2 = some (r2, S1)) : R1 T1 S1 := by
  have c := tgo (cs_X11_movingPower T 0 a0 a1 a2 hV rrole.2.2.2) hg
  have f := w_fr_movingPower hf
  exact r1_keep h hV (T1 := T1) c.1.2 (by decide +kernel) (sr_X11_movingPower hg) ⟨f.1 2 (by decide), f.1 5 (by decide), f.1 6 (by decide), f.1 20 (by decide), f.2 1 (by decide), f.2 10 (by decide)⟩
theorem r1_bestVelocity {T : AT} {S : MS} {a0 a1 a2 : Int32} {r1 : Int32} {r2 : Int32} {k1 : Nat} {T1 : AT} {S1 : MS} (hV : IV aR0 1586 aK1 aK2 T) (hJ : JJ S) (h : R1 T S) (hg : g_X11_bestVelocity T 0 a0 a1 a2 = some (k1, r1, T1)) (hf : fr_bestVelocity S a0 a1 a2 = some (r2, S1)) : R1 T1 S1 := by
  have c := tgo (cs_X11_bestVelocity T 0 a0 a1 a2 hV rrole.2.2.2) hg
  have f := w_fr_bestVelocity hf
  exact r1_keep h hV (T1 := T1) c.1.2 (by decide +kernel) (sr_X11_bestVelocity hg) ⟨f.1 2 (by decide), f.1 5 (by decide), f.1 6 (by decide), f.1 20 (by decide), f.2 1 (by decide), f.2 10 (by decide)⟩
theorem r1_correlation {T : AT} {S : MS} {a0 a1 a2 : Int32} {r1 : Int64} {r2 : Int64} {k1 : Nat} {T1 : AT} {S1 : MS} (hV : IV aR0 1586 aK1 aK2 T) (hJ : JJ S) (h : R1 T S) (hg : g_X11_correlation T 0 a0 a1 a2 = some (k1, r1, T1)) (hf : fr_correlation S a0 a1 a2 = some (r2, S1)) : R1 T1 S1 := by
  have c := tgo (cs_X11_correlation T 0 a0 a1 a2 hV rrole.2.2.2) hg
  have f := w_fr_correlation hf
  exact r1_keep h hV (T1 := T1) c.1.2 (by decide +kernel) (sr_X11_correlation hg) ⟨f.1 2 (by decide), f.1 5 (by decide), f.1 6 (by decide), f.1 20 (by decide), f.2 1 (by decide), f.2 10 (by decide)⟩
theorem r1_bestLag {T : AT} {S : MS} {a0 a1 a2 : Int32} {r1 : Int32} {r2 : Int32} {k1 : Nat} {T1 : AT} {S1 : MS} (hV : IV aR0 1586 aK1 aK2 T) (hJ : JJ S) (h : R1 T S) (hg : g_X11_bestLag T 0 a0 a1 a2 = some (k1, r1, T1)) (hf : fr_bestLag S a0 a1 a2 = some (r2, S1)) : R1 T1 S1 := by
  have c := tgo (cs_X11_bestLag T 0 a0 a1 a2 hV rrole.2.2.2) hg
  have f := w_fr_bestLag hf
  exact r1_keep h hV (T1 := T1) c.1.2 (by decide +kernel) (sr_X11_bestLag hg) ⟨f.1 2 (by decide), f.1 5 (by decide), f.1 6 (by decide), f.1 20 (by decide), f.2 1 (by decide), f.2 10 (by decide)⟩
theorem r1_level {T : AT} {S : MS} {a0 : Int32} {r1 : Int64} {r2 : Int64} {k1 : Nat} {T1 : AT} {S1 : MS} (hV : IV aR0 1586 aK1 aK2 T) (hJ : JJ S) (h : R1 T S) (hg : g_X11_level T 0 a0 = some (k1, r1, T1)) (hf : fr_level S a0 = some (r2, S1)) : R1 T1 S1 := by
  have c := tgo (cs_X11_level T 0 a0 hV rrole.2.2.2) hg
  have f := w_fr_level hf
  exact r1_keep h hV (T1 := T1) c.1.2 (by decide +kernel) (sr_X11_level hg) ⟨f.1 2 (by decide), f.1 5 (by decide), f.1 6 (by decide), f.1 20 (by decide), f.2 1 (by decide), f.2 10 (by decide)⟩
theorem r1_loudest {T : AT} {S : MS} {a0 : Int32} {r1 : Int32} {r2 : Int32} {k1 : Nat} {T1 : AT} {S1 : MS} (hV : IV aR0 1586 aK1 aK2 T) (hJ : JJ S) (h : R1 T S) (hg : g_X11_loudest T 0 a0 = some (k1, r1, T1)) (hf : fr_loudest S a0 = some (r2, S1)) : R1 T1 S1 := by
  have c := tgo (cs_X11_loudest T 0 a0 hV rrole.2.2.2) hg
  have f := w_fr_loudest hf
  exact r1_keep h hV (T1 := T1) c.1.2 (by decide +kernel) (sr_X11_loudest hg) ⟨f.1 2 (by decide), f.1 5 (by decide), f.1 6 (by decide), f.1 20 (by decide), f.2 1 (by decide), f.2 10 (by decide)⟩
theorem r1_writeMap {T : AT} {S : MS} {r1 : Int32} {r2 : Int32} {k1 : Nat} {T1 : AT} {S1 : MS} (hV : IV aR0 1586 aK1 aK2 T) (hJ : JJ S) (h : R1 T S) (hg : g_X11_writeMap T 0 = some (k1, r1, T1)) (hf : fr_writeMap S = some (r2, S1)) : R1 T1 S1 := by
  have c := tgo (cs_X11_writeMap T 0  hV rrole.2.2.2) hg
  have f := w_fr_writeMap hf
  exact r1_keep h hV (T1 := T1) c.1.2 (by decide +kernel) (sr_X11_writeMap hg) ⟨f.1 2 (by decide), f.1 5 (by decide), f.1 6 (by decide), f.1 20 (by decide), f.2 1 (by decide), f.2 10 (by decide)⟩
theorem r1_mapByte {T : AT} {S : MS} {a0 : Int32} {r1 : Int32} {r2 : Int32} {k1 : Nat} {T1 : AT} {S1 : MS} (hV : IV aR0 1586 aK1 aK2 T) (hJ : JJ S) (h : R1 T S) (hg : g_X11_mapByte T 0 a0 = some (k1, r1, T1)) (hf : fr_mapByte S a0 = some (r2, S1)) : R1 T1 S1 := by
  have c := tgo (cs_X11_mapByte T 0 a0 hV rrole.2.2.2) hg
  have f := w_fr_mapByte hf
  exact r1_keep (W := []) h hV (by rw [show T1 = T from c.1]; exact FW.rf) (by decide +kernel) (by rw [show T1 = T from c.1]; exact GR.rf T) ⟨f.1 2 (by decide), f.1 5 (by decide), f.1 6 (by decide), f.1 20 (by decide), f.2 1 (by decide), f.2 10 (by decide)⟩
theorem r1_pointBest {T : AT} {S : MS} {a0 a1 : Int32} {r1 : Int32} {r2 : Int32} {k1 : Nat} {T1 : AT} {S1 : MS} (hV : IV aR0 1586 aK1 aK2 T) (hJ : JJ S) (h : R1 T S) (hg : g_X11_pointBest T 0 a0 a1 = some (k1, r1, T1)) (hf : fr_pointBest S a0 a1 = some (r2, S1)) : R1 T1 S1 := by
  have c := tgo (cs_X11_pointBest T 0 a0 a1 hV rrole.2.2.2) hg
  have f := w_fr_pointBest hf
  exact r1_keep7 h hV (T1 := T1) c.1.2 (by decide +kernel) (crf_gr h.1 hV (sr_X11_pointBest hg)) (e14_gr hV (sr_X11_pointBest hg)) ⟨f.1 2 (by decide), f.1 5 (by decide), f.1 6 (by decide), f.1 20 (by decide), f.2 1 (by decide), f.2 10 (by decide)⟩ (fun m hm => q_pointBest hV h.1 hg hm)
theorem r1_pointPower {T : AT} {S : MS} {a0 a1 a2 : Int32} {r1 : Int64} {r2 : Int64} {k1 : Nat} {T1 : AT} {S1 : MS} (hV : IV aR0 1586 aK1 aK2 T) (hJ : JJ S) (h : R1 T S) (hg : g_X11_pointPower T 0 a0 a1 a2 = some (k1, r1, T1)) (hf : fr_pointPower S a0 a1 a2 = some (r2, S1)) : R1 T1 S1 := by
  have c := tgo (cs_X11_pointPower T 0 a0 a1 a2 hV rrole.2.2.2) hg
  have f := w_fr_pointPower hf
  exact r1_keep7 h hV (T1 := T1) c.1.2 (by decide +kernel) (crf_gr h.1 hV (sr_X11_pointPower hg)) (e14_gr hV (sr_X11_pointPower hg)) ⟨f.1 2 (by decide), f.1 5 (by decide), f.1 6 (by decide), f.1 20 (by decide), f.2 1 (by decide), f.2 10 (by decide)⟩ (fun m hm => q_pointPower hV h.1 hg hm)
theorem r1_bestWithout {T : AT} {S : MS} {a0 : Int32} {r1 : Int32} {r2 : Int32} {k1 : Nat} {T1 : AT} {S1 : MS} (hV : IV aR0 1586 aK1 aK2 T) (hJ : JJ S) (h : R1 T S) (hg : g_X11_bestWithout T 0 a0 = some (k1, r1, T1)) (hf : fr_bestWithout S a0 = some (r2, S1)) : R1 T1 S1 := by
  have c := tgo (cs_X11_bestWithout T 0 a0 hV rrole.2.2.2) hg
  have f := w_fr_bestWithout hf
  exact r1_keep h hV (T1 := T1) c.1.2 (by decide +kernel) (sr_X11_bestWithout hg) ⟨f.1 2 (by decide), f.1 5 (by decide), f.1 6 (by decide), f.1 20 (by decide), f.2 1 (by decide), f.2 10 (by decide)⟩
theorem r1_bestIfOff {T : AT} {S : MS} {a0 : Int32} {r1 : Int32} {r2 : Int32} {k1 : Nat} {T1 : AT} {S1 : MS} (hV : IV aR0 1586 aK1 aK2 T) (hJ : JJ S) (h : R1 T S) (hg : g_X11_bestIfOff T 0 a0 = some (k1, r1, T1)) (hf : fr_bestIfOff S a0 = some (r2, S1)) : R1 T1 S1 := by
  have c := tgo (cs_X11_bestIfOff T 0 a0 hV rrole.2.2.2) hg
  have f := w_fr_bestIfOff hf
  exact r1_keep h hV (T1 := T1) c.1.2 (by decide +kernel) (sr_X11_bestIfOff hg) ⟨f.1 2 (by decide), f.1 5 (by decide), f.1 6 (by decide), f.1 20 (by decide), f.2 1 (by decide), f.2 10 (by decide)⟩
theorem r1_cleaned {T : AT} {S : MS} {r1 : Int32} {r2 : Int32} {k1 : Nat} {T1 : AT} {S1 : MS} (hV : IV aR0 1586 aK1 aK2 T) (hJ : JJ S) (h : R1 T S) (hg : g_X11_cleaned T 0 = some (k1, r1, T1)) (hf : fr_cleaned S = some (r2, S1)) : R1 T1 S1 := by
  have c := tgo (cs_X11_cleaned T 0  hV rrole.2.2.2) hg
  have f := w_fr_cleaned hf
  exact r1_keep (W := []) h hV (by rw [show T1 = T from c.1]; exact FW.rf) (by decide +kernel) (by rw [show T1 = T from c.1]; exact GR.rf T) ⟨f.1 2 (by decide), f.1 5 (by decide), f.1 6 (by decide), f.1 20 (by decide), f.2 1 (by decide), f.2 10 (by decide)⟩
theorem r1_undo {T : AT} {S : MS} {r1 : Int32} {r2 : Int32} {k1 : Nat} {T1 : AT} {S1 : MS} (hV : IV aR0 1586 aK1 aK2 T) (hJ : JJ S) (h : R1 T S) (hg : g_X11_undo T 0 = some (k1, r1, T1)) (hf : fr_undo S = some (r2, S1)) : R1 T1 S1 := by
  have c := tgo (cs_X11_undo T 0  hV rrole.2.2.2) hg
  have f := w_fr_undo hf
  exact r1_keep h hV (T1 := T1) c.1.2 (by decide +kernel) (sr_X11_undo hg) ⟨f.1 2 (by decide), f.1 5 (by decide), f.1 6 (by decide), f.1 20 (by decide), f.2 1 (by decide), f.2 10 (by decide)⟩
theorem r1_undoable {T : AT} {S : MS} {r1 : Int32} {r2 : Int32} {T1 : AT} {S1 : MS} (hV : IV aR0 1586 aK1 aK2 T) (hJ : JJ S) (h : R1 T S) (hg : g_X11_undoable T 0 = some (r1, T1)) (hf : fr_undoable S = some (r2, S1)) : R1 T1 S1 := by
  have c := tgo (cs_X11_undoable T 0  hV rrole.2.2.2) hg
  have f := w_fr_undoable hf
  exact r1_keep (W := []) h hV (by rw [show T1 = T from c.1]; exact FW.rf) (by decide +kernel) (by rw [show T1 = T from c.1]; exact GR.rf T) ⟨f.1 2 (by decide), f.1 5 (by decide), f.1 6 (by decide), f.1 20 (by decide), f.2 1 (by decide), f.2 10 (by decide)⟩