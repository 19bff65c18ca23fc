set_option maxRecDepth 100000 in
theorem r2_0 : R2 aT0 mS0 := by
  refine ⟨r1_0, by decide +kernel, ⟨fun k hk => ?_, fun _ => ⟨rfl, fun _ _ => rfl⟩⟩, fun q => absurd q (by decide)⟩
  show fviR (aR0 432) k = _
  rw [r432]
  rfl
theorem r2_append {T : AT} {S : MS} {a0 a1 a2 a3 a4 : Int32} {r1 : Int32} {r2 : Int32} {T1 : AT} {S1 : MS} (hV : IV aR0 1586 aK1 aK2 T) (hJ : JJ S) (h : R2 T S) (hg : g_X11_append T 0 a0 a1 a2 a3 a4 = some (r1, T1)) (hf : fr_append S a0 a1 a2 a3 a4 = some (r2, S1)) : R2 T1 S1 := by
  have c := tgo (cs_X11_append T 0 a0 a1 a2 a3 a4 hV rrole.2.2.2) hg
  have f := w_fr_append hf
  exact r2_keepG (r_pl hJ) h (r1_append hV hJ h.1 hg hf) (ck_fw hV c.1.2 (by decide +kernel) (gr_sp (s_X11_append hg))) ⟨f.1 19 (by decide), f.1 20 (by decide), f.2 10 (by decide), f.2 12 (by decide), f.2 15 (by decide), f.2 16 (by decide), f.2 17 (by decide), f.2 18 (by decide)⟩
theorem r2_parseError {T : AT} {S : MS} {r1 : Int32} {r2 : Int32} {T1 : AT} {S1 : MS} (hV : IV aR0 1586 aK1 aK2 T) (hJ : JJ S) (h : R2 T S) (hg : g_X11_parseError T 0 = some (r1, T1)) (hf : fr_parseError S = some (r2, S1)) : R2 T1 S1 := by
  have c := tgo (cs_X11_parseError T 0  hV rrole.2.2.2) hg
  have f := w_fr_parseError hf
  exact r2_keepG (r_pl hJ) h (r1_parseError hV hJ h.1 hg hf) (ck_eq c.1) ⟨f.1 19 (by decide), f.1 20 (by decide), f.2 10 (by decide), f.2 12 (by decide), f.2 15 (by decide), f.2 16 (by decide), f.2 17 (by decide), f.2 18 (by decide)⟩
theorem r2_errorPosition {T : AT} {S : MS} {r1 : Int32} {r2 : Int32} {T1 : AT} {S1 : MS} (hV : IV aR0 1586 aK1 aK2 T) (hJ : JJ S) (h : R2 T S) (hg : g_X11_errorPosition T 0 = some (r1, T1)) (hf : fr_errorPosition S = some (r2, S1)) : R2 T1 S1 := by
  have c := tgo (cs_X11_errorPosition T 0  hV rrole.2.2.2) hg
  have f := w_fr_errorPosition hf
  exact r2_keepG (r_pl hJ) h (r1_errorPosition hV hJ h.1 hg hf) (ck_eq c.1) ⟨f.1 19 (by decide), f.1 20 (by decide), f.2 10 (by decide), f.2 12 (by decide), f.2 15 (by decide), f.2 16 (by decide), f.2 17 (by decide), f.2 18 (by decide)⟩
theorem r2_buffered {T : AT} {S : MS} {r1 : Int32} {r2 : Int32} {T1 : AT} {S1 : MS} (hV : IV aR0 1586 aK1 aK2 T) (hJ : JJ S) (h : R2 T S) (hg : g_X11_buffered T 0 = some (r1, T1)) (hf : fr_buffered S = some (r2, S1)) : R2 T1 S1 := by
  have c := tgo (cs_X11_buffered T 0  hV rrole.2.2.2) hg
  have f := w_fr_buffered hf
  exact r2_keepG (r_pl hJ) h (r1_buffered hV hJ h.1 hg hf) (ck_eq c.1) ⟨f.1 19 (by decide), f.1 20 (by decide), f.2 10 (by decide), f.2 12 (by decide), f.2 15 (by decide), f.2 16 (by decide), f.2 17 (by decide), f.2 18 (by decide)⟩
theorem r2_mics {T : AT} {S : MS} {r1 : Int32} {r2 : Int32} {T1 : AT} {S1 : MS} (hV : IV aR0 1586 aK1 aK2 T) (hJ : JJ S) (h : R2 T S) (hg : g_X11_mics T 0 = some (r1, T1)) (hf : fr_mics S = some (r2, S1)) : R2 T1 S1 := by
  have c := tgo (cs_X11_mics T 0  hV rrole.2.2.2) hg
  have f := w_fr_mics hf
  exact r2_keepG (r_pl hJ) h (r1_mics hV hJ h.1 hg hf) (ck_eq c.1) ⟨f.1 19 (by decide), f.1 20 (by decide), f.2 10 (by decide), f.2 12 (by decide), f.2 15 (by decide), f.2 16 (by decide), f.2 17 (by decide), f.2 18 (by decide)⟩
theorem r2_micAt {T : AT} {S : MS} {a0 a1 : Int32} {r1 : Int32} {r2 : Int32} {k1 : Nat} {T1 : AT} {S1 : MS} (hV : IV aR0 1586 aK1 aK2 T) (hJ : JJ S) (h : R2 T S) (hg : g_X11_micAt T 0 a0 a1 = some (k1, r1, T1)) (hf : fr_micAt S a0 a1 = some (r2, S1)) : R2 T1 S1 := by
  have c := tgo (cs_X11_micAt T 0 a0 a1 hV rrole.2.2.2) hg
  have f := w_fr_micAt hf
  exact r2_keepG (r_pl hJ) h (r1_micAt hV hJ h.1 hg hf) (ck_eq c.1) ⟨f.1 19 (by decide), f.1 20 (by decide), f.2 10 (by decide), f.2 12 (by decide), f.2 15 (by decide), f.2 16 (by decide), f.2 17 (by decide), f.2 18 (by decide)⟩
theorem r2_isMuted {T : AT} {S : MS} {a0 : Int32} {r1 : Int32} {r2 : Int32} {k1 : Nat} {T1 : AT} {S1 : MS} (hV : IV aR0 1586 aK1 aK2 T) (hJ : JJ S) (h : R2 T S) (hg : g_X11_isMuted T 0 a0 = some (k1, r1, T1)) (hf : fr_isMuted S a0 = some (r2, S1)) : R2 T1 S1 := by
  have c := tgo (cs_X11_isMuted T 0 a0 hV rrole.2.2.2) hg
  have f := w_fr_isMuted hf
  exact r2_keepG (r_pl hJ) h (r1_isMuted hV hJ h.1 hg hf) (ck_eq c.1) ⟨f.1 19 (by decide), f.1 20 (by decide), f.2 10 (by decide), f.2 12 (by decide), f.2 15 (by decide), f.2 16 (by decide), f.2 17 (by decide), f.2 18 (by decide)⟩
theorem r2_columns {T : AT} {S : MS} {r1 : Int32} {r2 : Int32} {T1 : AT} {S1 : MS} (hV : IV aR0 1586 aK1 aK2 T) (hJ : JJ S) (h : R2 T S) (hg : g_X11_columns T 0 = some (r1, T1)) (hf : fr_columns S = some (r2, S1)) : R2 T1 S1 := by
  have c := tgo (cs_X11_columns T 0  hV rrole.2.2.2) hg
  have f := w_fr_columns hf
  exact r2_keepG (r_pl hJ) h (r1_columns hV hJ h.1 hg hf) (ck_eq c.1) ⟨f.1 19 (by decide), f.1 20 (by decide), f.2 10 (by decide), f.2 12 (by decide), f.2 15 (by decide), f.2 16 (by decide), f.2 17 (by decide), f.2 18 (by decide)⟩
theorem r2_rows {T : AT} {S : MS} {r1 : Int32} {r2 : Int32} {T1 : AT} {S1 : MS} (hV : IV aR0 1586 aK1 aK2 T) (hJ : JJ S) (h : R2 T S) (hg : g_X11_rows T 0 = some (r1, T1)) (hf : fr_rows S = some (r2, S1)) : R2 T1 S1 := by
  have c := tgo (cs_X11_rows T 0  hV rrole.2.2.2) hg
  have f := w_fr_rows hf
  exact r2_keepG (r_pl hJ) h (r1_rows hV hJ h.1 hg hf) (ck_eq c.1) ⟨f.1 19 (by decide), f.1 20 (by decide), f.2 10 (by decide), f.2 12 (by decide), f.2 15 (by decide), f.2 16 (by decide), f.2 17 (by decide), f.2 18 (by decide)⟩
theorem r2_cellAt {T : AT} {S : MS} {a0 a1 : Int32} {r1 : Int32} {r2 : Int32} {k1 : Nat} {T1 : AT} {S1 : MS} (hV : IV aR0 1586 aK1 aK2 T) (hJ : JJ S) (h : R2 T S) (hg : g_X11_cellAt T 0 a0 a1 = some (k1, r1, T1)) (hf : fr_cellAt S a0 a1 = some (r2, S1)) : R2 T1 S1 := by
  have c := tgo (cs_X11_cellAt T 0 a0 a1 hV rrole.2.2.2) hg
  have f := w_fr_cellAt hf
  exact r2_keepG (r_pl hJ) h (r1_cellAt hV hJ h.1 hg hf) (ck_eq c.1) ⟨f.1 19 (by decide), f.1 20 (by decide), f.2 10 (by decide), f.2 12 (by decide), f.2 15 (by decide), f.2 16 (by decide), f.2 17 (by decide), f.2 18 (by decide)⟩
theorem r2_sources {T : AT} {S : MS} {r1 : Int32} {r2 : Int32} {T1 : AT} {S1 : MS} (hV : IV aR0 1586 aK1 aK2 T) (hJ : JJ S) (h : R2 T S) (hg : g_X11_sources T 0 = some (r1, T1)) (hf : fr_sources S = some (r2, S1)) : R2 T1 S1 := by
  have c := tgo (cs_X11_sources T 0  hV rrole.2.2.2) hg
  have f := w_fr_sources hf
  exact r2_keepG (r_pl hJ) h (r1_sources hV hJ h.1 hg hf) (ck_eq c.1) ⟨f.1 19 (by decide), f.1 20 (by decide), f.2 10 (by decide), f.2 12 (by decide), f.2 15 (by decide), f.2 16 (by decide), f.2 17 (by decide), f.2 18 (by decide)⟩
theorem r2_sourceAt {T : AT} {S : MS} {a0 a1 a2 : Int32} {r1 : Int32} {r2 : Int32} {k1 : Nat} {T1 : AT} {S1 : MS} (hV : IV aR0 1586 aK1 aK2 T) (hJ : JJ S) (h : R2 T S) (hg : g_X11_sourceAt T 0 a0 a1 a2 = some (k1, r1, T1)) (hf : fr_sourceAt S a0 a1 a2 = some (r2, S1)) : R2 T1 S1 := by
  have c := tgo (cs_X11_sourceAt T 0 a0 a1 a2 hV rrole.2.2.2) hg
  have f := w_fr_sourceAt hf
  exact r2_keepG (r_pl hJ) h (r1_sourceAt hV hJ h.1 hg hf) (ck_eq c.1) ⟨f.1 19 (by decide), f.1 20 (by decide), f.2 10 (by decide), f.2 12 (by decide), f.2 15 (by decide), f.2 16 (by decide), f.2 17 (by decide), f.2 18 (by decide)⟩
theorem r2_isOn {T : AT} {S : MS} {a0 : Int32} {r1 : Int32} {r2 : Int32} {k1 : Nat} {T1 : AT} {S1 : MS} (hV : IV aR0 1586 aK1 aK2 T) (hJ : JJ S) (h : R2 T S) (hg : g_X11_isOn T 0 a0 = some (k1, r1, T1)) (hf : fr_isOn S a0 = some (r2, S1)) : R2 T1 S1 := by
  have c := tgo (cs_X11_isOn T 0 a0 hV rrole.2.2.2) hg
  have f := w_fr_isOn hf
  exact r2_keepG (r_pl hJ) h (r1_isOn hV hJ h.1 hg hf) (ck_eq c.1) ⟨f.1 19 (by decide), f.1 20 (by decide), f.2 10 (by decide), f.2 12 (by decide), f.2 15 (by decide), f.2 16 (by decide), f.2 17 (by decide), f.2 18 (by decide)⟩
theorem r2_waveAt {T : AT} {S : MS} {a0 a1 : Int32} {r1 : Int32} {r2 : Int32} {k1 : Nat} {T1 : AT} {S1 : MS} (hV : IV aR0 1586 aK1 aK2 T) (hJ : JJ S) (h : R2 T S) (hg : g_X11_waveAt T 0 a0 a1 = some (k1, r1, T1)) (hf : fr_waveAt S a0 a1 = some (r2, S1)) : R2 T1 S1 := by
  have c := tgo (cs_X11_waveAt T 0 a0 a1 hV rrole.2.2.2) hg
  have f := w_fr_waveAt hf
  exact r2_keepG (r_pl hJ) h (r1_waveAt hV hJ h.1 hg hf) (ck_eq c.1) ⟨f.1 19 (by decide), f.1 20 (by decide), f.2 10 (by decide), f.2 12 (by decide), f.2 15 (by decide), f.2 16 (by decide), f.2 17 (by decide), f.2 18 (by decide)⟩
theorem r2_samples {T : AT} {S : MS} {r1 : Int32} {r2 : Int32} {T1 : AT} {S1 : MS} (hV : IV aR0 1586 aK1 aK2 T) (hJ : JJ S) (h : R2 T S) (hg : g_X11_samples T 0 = some (r1, T1)) (hf : fr_samples S = some (r2, S1)) : R2 T1 S1 := by
  have c := tgo (cs_X11_samples T 0  hV rrole.2.2.2) hg
  have f := w_fr_samples hf
  exact r2_keepG (r_pl hJ) h (r1_samples hV hJ h.1 hg hf) (ck_eq c.1) ⟨f.1 19 (by decide), f.1 20 (by decide), f.2 10 (by decide), f.2 12 (by decide), f.2 15 (by decide), f.2 16 (by decide), f.2 17 (by decide), f.2 18 (by decide)⟩
theorem r2_delay {T : AT} {S : MS} {a0 a1 : Int32} {r1 : Int32} {r2 : Int32} {k1 : Nat} {T1 : AT} {S1 : MS} (hV : IV aR0 1586 aK1 aK2 T) (hJ : JJ S) (h : R2 T S) (hg : g_X11_delay T 0 a0 a1 = some (k1, r1, T1)) (hf : fr_delay S a0 a1 = some (r2, S1)) : R2 T1 S1 := by
  have c := tgo (cs_X11_delay T 0 a0 a1 hV rrole.2.2.2) hg
  have f := w_fr_delay hf
  exact r2_keepG (r_pl hJ) h (r1_delay hV hJ h.1 hg hf) (ck_eq c.1) ⟨f.1 19 (by decide), f.1 20 (by decide), f.2 10 (by decide), f.2 12 (by decide), f.2 15 (by decide), f.2 16 (by decide), f.2 17 (by decide), f.2 18 (by decide)⟩
theorem r2_delayTo {T : AT} {S : MS} {a0 a1 a2 : Int32} {r1 : Int32} {r2 : Int32} {k1 : Nat} {T1 : AT} {S1 : MS} (hV : IV aR0 1586 aK1 aK2 T) (hJ : JJ S) (h : R2 T S) (hg : g_X11_delayTo T 0 a0 a1 a2 = some (k1, r1, T1)) (hf : fr_delayTo S a0 a1 a2 = some (r2, S1)) : R2 T1 S1 := by
  have c := tgo (cs_X11_delayTo T 0 a0 a1 a2 hV rrole.2.2.2) hg
  have f := w_fr_delayTo hf
  exact r2_keepG (r_pl hJ) h (r1_delayTo hV hJ h.1 hg hf) (ck_eq c.1) ⟨f.1 19 (by decide), f.1 20 (by decide), f.2 10 (by decide), f.2 12 (by decide), f.2 15 (by decide), f.2 16 (by decide), f.2 17 (by decide), f.2 18 (by decide)⟩
theorem r2_spread {T : AT} {S : MS} {a0 : Int32} {r1 : Int32} {r2 : Int32} {k1 : Nat} {T1 : AT} {S1 : MS} (hV : IV aR0 1586 aK1 aK2 T) (hJ : JJ S) (h : R2 T S) (hg : g_X11_spread T 0 a0 = some (k1, r1, T1)) (hf : fr_spread S a0 = some (r2, S1)) : R2 T1 S1 := by
  have c := tgo (cs_X11_spread T 0 a0 hV rrole.2.2.2) hg
  have f := w_fr_spread hf
  exact r2_keepG (r_pl hJ) h (r1_spread hV hJ h.1 hg hf) (ck_eq c.1) ⟨f.1 19 (by decide), f.1 20 (by decide), f.2 10 (by decide), f.2 12 (by decide), f.2 15 (by decide), f.2 16 (by decide), f.2 17 (by decide), f.2 18 (by decide)⟩
theorem r2_window {T : AT} {S : MS} {a0 : Int32} {r1 : Int32} {r2 : Int32} {k1 : Nat} {T1 : AT} {S1 : MS} (hV : IV aR0 1586 aK1 aK2 T) (hJ : JJ S) (h : R2 T S) (hg : g_X11_window T 0 a0 = some (k1, r1, T1)) (hf : fr_window S a0 = some (r2, S1)) : R2 T1 S1 := by
  have c := tgo (cs_X11_window T 0 a0 hV rrole.2.2.2) hg
  have f := w_fr_window hf
  exact r2_keepG (r_pl hJ) h (r1_window hV hJ h.1 hg hf) (ck_eq c.1) ⟨f.1 19 (by decide), f.1 20 (by decide), f.2 10 (by decide), f.2 12 (by decide), f.2 15 (by decide), f.2 16 (by decide), f.2 17 (by decide), f.2 18 (by decide)⟩
theorem r2_sample {T : AT} {S : MS} {a0 a1 : Int32} {r1 : Int32} {r2 : Int32} {k1 : Nat} {T1 : AT} {S1 : MS} (hV : IV aR0 1586 aK1 aK2 T) (hJ : JJ S) (h : R2 T S) (hg : g_X11_sample T 0 a0 a1 = some (k1, r1, T1)) (hf : fr_sample S a0 a1 = some (r2, S1)) : R2 T1 S1 := by
  have c := tgo (cs_X11_sample T 0 a0 a1 hV rrole.2.2.2) hg
  have f := w_fr_sample hf
  exact r2_keepG (r_pl hJ) h (r1_sample hV hJ h.1 hg hf) (ck_eq c.1) ⟨f.1 19 (by decide), f.1 20 (by decide), f.2 10 (by decide), f.2 12 (by decide), f.2 15 (by decide), f.2 16 (by decide), f.2 17 (by decide), f.2 18 (by decide)⟩
theorem r2_beam {T : AT} {S : MS} {a0 a1 : Int32} {r1 : Int32} {r2 : Int32} {k1 : Nat} {T1 : AT} {S1 : MS} (hV : IV aR0 1586 aK1 aK2 T) (hJ : JJ S) (h : R2 T S) (hg : g_X11_beam T 0 a0 a1 = some (k1, r1, T1)) (hf : fr_beam S a0 a1 = some (r2, S1)) : R2 T1 S1 := by
  have c := tgo (cs_X11_beam T 0 a0 a1 hV rrole.2.2.2) hg
  have f := w_fr_beam hf
  exact r2_keepG (r_pl hJ) h (r1_beam hV hJ h.1 hg hf) (ck_fw hV c.1.2 (by decide +kernel) (sr_X11_beam hg)) ⟨f.1 19 (by decide), f.1 20 (by decide), f.2 10 (by decide), f.2 12 (by decide), f.2 15 (by decide), f.2 16 (by decide), f.2 17 (by decide), f.2 18 (by decide)⟩
theorem r2_power {T : AT} {S : MS} {a0 : Int32} {r1 : Int64} {r2 : Int64} {k1 : Nat} {T1 : AT} {S1 : MS} (hV : IV aR0 1586 aK1 aK2 T) (hJ : JJ S) (h : R2 T S) (hg : g_X11_power T 0 a0 = some (k1, r1, T1)) (hf : fr_power S a0 = some (r2, S1)) : R2 T1 S1 := by
  have c := tgo (cs_X11_power T 0 a0 hV rrole.2.2.2) hg
  have f := w_fr_power hf
  exact r2_keepG (r_pl hJ) h (r1_power hV hJ h.1 hg hf) (ck_fw hV c.1.2 (by decide +kernel) (sr_X11_power hg)) ⟨f.1 19 (by decide), f.1 20 (by decide), f.2 10 (by decide), f.2 12 (by decide), f.2 15 (by decide), f.2 16 (by decide), f.2 17 (by decide), f.2 18 (by decide)⟩
theorem r2_powerAt {T : AT} {S : MS} {a0 a1 : Int32} {r1 : Int64} {r2 : Int64} {k1 : Nat} {T1 : AT} {S1 : MS} (hV : IV aR0 1586 aK1 aK2 T) (hJ : JJ S) (h : R2 T S) (hg : g_X11_powerAt T 0 a0 a1 = some (k1, r1, T1)) (hf : fr_powerAt S a0 a1 = some (r2, S1)) : R2 T1 S1 := by
  have c := tgo (cs_X11_powerAt T 0 a0 a1 hV rrole.2.2.2) hg
  have f := w_fr_powerAt hf
  exact r2_keepG (r_pl hJ) h (r1_powerAt hV hJ h.1 hg hf) (ck_fd hV c.1.2 (by decide +kernel) (q_powerAt h.1.1 hV hg) (sr_X11_powerAt hg)) ⟨f.1 19 (by decide), f.1 20 (by decide), f.2 10 (by decide), f.2 12 (by decide), f.2 15 (by decide), f.2 16 (by decide), f.2 17 (by decide), f.2 18 (by decide)⟩
theorem r2_best {T : AT} {S : MS} {r1 : Int32} {r2 : Int32} {k1 : Nat} {T1 : AT} {S1 : MS} (hV : IV aR0 1586 aK1 aK2 T) (hJ : JJ S) (h : R2 T S) (hg : g_X11_best T 0 = some (k1, r1, T1)) (hf : fr_best S = some (r2, S1)) : R2 T1 S1 := by
  have c := tgo (cs_X11_best T 0  hV rrole.2.2.2) hg
  have f := w_fr_best hf
  exact r2_keepG (r_pl hJ) h (r1_best hV hJ h.1 hg hf) (ck_fw hV c.1.2 (by decide +kernel) (sr_X11_best hg)) ⟨f.1 19 (by decide), f.1 20 (by decide), f.2 10 (by decide), f.2 12 (by decide), f.2 15 (by decide), f.2 16 (by decide), f.2 17 (by decide), f.2 18 (by decide)⟩
theorem r2_bestPower {T : AT} {S : MS} {r1 : Int64} {r2 : Int64} {k1 : Nat} {T1 : AT} {S1 : MS} (hV : IV aR0 1586 aK1 aK2 T) (hJ : JJ S) (h : R2 T S) (hg : g_X11_bestPower T 0 = some (k1, r1, T1)) (hf : fr_bestPower S = some (r2, S1)) : R2 T1 S1 := by
  have c := tgo (cs_X11_bestPower T 0  hV rrole.2.2.2) hg
  have f := w_fr_bestPower hf
  exact r2_keepG (r_pl hJ) h (r1_bestPower hV hJ h.1 hg hf) (ck_fw hV c.1.2 (by decide +kernel) (sr_X11_bestPower hg)) ⟨f.1 19 (by decide), f.1 20 (by decide), f.2 10 (by decide), f.2 12 (by decide), f.2 15 (by decide), f.2 16 (by decide), f.2 17 (by decide), f.2 18 (by decide)⟩
theorem r2_meanPower {T : AT} {S : MS} {r1 : Int64} {r2 : Int64} {k1 : Nat} {T1 : AT} {S1 : MS} (hV : IV aR0 1586 aK1 aK2 T) (hJ : JJ S) (h : R2 T S) (hg : g_X11_meanPower T 0 = some (k1, r1, T1)) (hf : fr_meanPower S = some (r2, S1)) : R2 T1 S1 := by
  have c := tgo (cs_X11_meanPower T 0  hV rrole.2.2.2) hg
  have f := w_fr_meanPower hf
  exact r2_keepG (r_pl hJ) h (r1_meanPower hV hJ h.1 hg hf) (ck_fw hV c.1.2 (by decide +kernel) (sr_X11_meanPower hg)) ⟨f.1 19 (by decide), f.1 20 (by decide), f.2 10 (by decide), f.2 12 (by decide), f.2 15 (by decide), f.2 16 (by decide), f.2 17 (by decide), f.2 18 (by decide)⟩
theorem r2_peaks {T : AT} {S : MS} {r1 : Int32} {r2 : Int32} {k1 : Nat} {T1 : AT} {S1 : MS} (hV : IV aR0 1586 aK1 aK2 T) (hJ : JJ S) (h : R2 T S) (hg : g_X11_peaks T 0 = some (k1, r1, T1)) (hf : fr_peaks S = some (r2, S1)) : R2 T1 S1 := by
  have c := tgo (cs_X11_peaks T 0  hV rrole.2.2.2) hg
  have f := w_fr_peaks hf
  exact r2_keepG (r_pl hJ) h (r1_peaks hV hJ h.1 hg hf) (ck_fw hV c.1.2 (by decide +kernel) (sr_X11_peaks hg)) ⟨f.1 19 (by decide), f.1 20 (by decide), f.2 10 (by decide), f.2 12 (by decide), f.2 15 (by decide), f.2 16 (by decide), f.2 17 (by decide), f.2 18 (by decide)⟩
theorem r2_peakAt {T : AT} {S : MS} {a0 : Int32} {r1 : Int32} {r2 : Int32} {k1 : Nat} {T1 : AT} {S1 : MS} (hV : IV aR0 1586 aK1 aK2 T) (hJ : JJ S) (h : R2 T S) (hg : g_X11_peakAt T 0 a0 = some (k1, r1, T1)) (hf : fr_peakAt S a0 = some (r2, S1)) : R2 T1 S1 := by
  have c := tgo (cs_X11_peakAt T 0 a0 hV rrole.2.2.2) hg
  have f := w_fr_peakAt hf
  exact r2_keepG (r_pl hJ) h (r1_peakAt hV hJ h.1 hg hf) (ck_fw hV c.1.2 (by decide +kernel) (sr_X11_peakAt hg)) ⟨f.1 19 (by decide), f.1 20 (by decide), f.2 10 (by decide), f.2 12 (by decide), f.2 15 (by decide), f.2 16 (by decide), f.2 17 (by decide), f.2 18 (by decide)⟩
theorem r2_isPeak {T : AT} {S : MS} {a0 : Int32} {r1 : Int32} {r2 : Int32} {k1 : Nat} {T1 : AT} {S1 : MS} (hV : IV aR0 1586 aK1 aK2 T) (hJ : JJ S) (h : R2 T S) (hg : g_X11_isPeak T 0 a0 = some (k1, r1, T1)) (hf : fr_isPeak S a0 = some (r2, S1)) : R2 T1 S1 := by
  have c := tgo (cs_X11_isPeak T 0 a0 hV rrole.2.2.2) hg
  have f := w_fr_isPeak hf
  exact r2_keepG (r_pl hJ) h (r1_isPeak hV hJ h.1 hg hf) (ck_fw hV c.1.2 (by decide +kernel) (sr_X11_isPeak hg)) ⟨f.1 19 (by decide), f.1 20 (by decide), f.2 10 (by decide), f.2 12 (by decide), f.2 15 (by decide), f.2 16 (by decide), f.2 17 (by decide), f.2 18 (by decide)⟩
theorem r2_zonePower {T : AT} {S : MS} {a0 : Int32} {r1 : Int64} {r2 : Int64} {k1 : Nat} {T1 : AT} {S1 : MS} (hV : IV aR0 1586 aK1 aK2 T) (hJ : JJ S) (h : R2 T S) (hg : g_X11_zonePower T 0 a0 = some (k1, r1, T1)) (hf : fr_zonePower S a0 = some (r2, S1)) : R2 T1 S1 := by
  have c := tgo (cs_X11_zonePower T 0 a0 hV rrole.2.2.2) hg
  have f := w_fr_zonePower hf
  exact r2_keepG (r_pl hJ) h (r1_zonePower hV hJ h.1 hg hf) (ck_fw hV c.1.2 (by decide +kernel) (sr_X11_zonePower hg)) ⟨f.1 19 (by decide), f.1 20 (by decide), f.2 10 (by decide), f.2 12 (by decide), f.2 15 (by decide), f.2 16 (by decide), f.2 17 (by decide), f.2 18 (by decide)⟩
theorem r2_zoneBest {T : AT} {S : MS} {a0 : Int32} {r1 : Int32} {r2 : Int32} {k1 : Nat} {T1 : AT} {S1 : MS} (hV : IV aR0 1586 aK1 aK2 T) (hJ : JJ S) (h : R2 T S) (hg : g_X11_zoneBest T 0 a0 = some (k1, r1, T1)) (hf : fr_zoneBest S a0 = some (r2, S1)) : R2 T1 S1 := by
  have c := tgo (cs_X11_zoneBest T 0 a0 hV rrole.2.2.2) hg
  have f := w_fr_zoneBest hf
  exact r2_keepG (r_pl hJ) h (r1_zoneBest hV hJ h.1 hg hf) (ck_fw hV c.1.2 (by decide +kernel) (sr_X11_zoneBest hg)) ⟨f.1 19 (by decide), f.1 20 (by decide), f.2 10 (by decide), f.2 12 (by decide), f.2 15 (by decide), f.2 16 (by decide), f.2 17 (by decide), f.2 18 (by decide)⟩
theorem r2_contrast {T : AT} {S : MS} {r1 : UInt32} {r2 : UInt32} {k1 : Nat} {T1 : AT} {S1 : MS} (hV : IV aR0 1586 aK1 aK2 T) (hJ : JJ S) (h : R2 T S) (hg : g_X11_contrast T 0 = some (k1, r1, T1)) (hf : fr_contrast S = some (r2, S1)) : R2 T1 S1 := by
  have c := tgo (cs_X11_contrast T 0  hV rrole.2.2.2) hg
  have f := w_fr_contrast hf
  exact r2_keepG (r_pl hJ) h (r1_contrast hV hJ h.1 hg hf) (ck_fw hV c.1.2 (by decide +kernel) (sr_X11_contrast hg)) ⟨f.1 19 (by decide), f.1 20 (by decide), f.2 10 (by decide), f.2 12 (by decide), f.2 15 (by decide), f.2 16 (by decide), f.2 17 (by decide), f.2 18 (by decide)⟩
theorem r2_alias {T : AT} {S : MS} {a0 a1 a2 : Int32} {r1 : Int32} {r2 : Int32} {k1 : Nat} {T1 : AT} {S1 : MS} (hV : IV aR0 1586 aK1 aK2 T) (hJ : JJ S) (h : R2 T S) (hg : g_X11_alias T 0 a0 a1 a2 = some (k1, r1, T1)) (hf : fr_alias S a0 a1 a2 = some (r2, S1)) : R2 T1 S1 := by
  have c := tgo (cs_X11_alias T 0 a0 a1 a2 hV rrole.2.2.2) hg
  have f := w_fr_alias hf
  exact r2_keepG (r_pl hJ) h (r1_alias hV hJ h.1 hg hf) (ck_eq c.1) ⟨f.1 19 (by decide), f.1 20 (by decide), f.2 10 (by decide), f.2 12 (by decide), f.2 15 (by decide), f.2 16 (by decide), f.2 17 (by decide), f.2 18 (by decide)⟩
theorem r2_isAlias {T : AT} {S : MS} {a0 a1 a2 : Int32} {r1 : Int32} {r2 : Int32} {k1 : Nat} {T1 : AT} {S1 : MS} (hV : IV aR0 1586 aK1 aK2 T) (hJ : JJ S) (h : R2 T S) (hg : g_X11_isAlias T 0 a0 a1 a2 = some (k1, r1, T1)) (hf : fr_isAlias S a0 a1 a2 = some (r2, S1)) : R2 T1 S1 := by
  have c := tgo (cs_X11_isAlias T 0 a0 a1 a2 hV rrole.2.2.2) hg
  have f := w_fr_isAlias hf
  exact r2_keepG (r_pl hJ) h (r1_isAlias hV hJ h.1 hg hf) (ck_fw hV c.1.2 (by decide +kernel) (sr_X11_isAlias hg)) ⟨f.1 19 (by decide), f.1 20 (by decide), f.2 10 (by decide), f.2 12 (by decide), f.2 15 (by decide), f.2 16 (by decide), f.2 17 (by decide), f.2 18 (by decide)⟩
theorem r2_aliases {T : AT} {S : MS} {a0 a1 : Int32} {r1 : Int32} {r2 : Int32} {k1 : Nat} {T1 : AT} {S1 : MS} (hV : IV aR0 1586 aK1 aK2 T) (hJ : JJ S) (h : R2 T S) (hg : g_X11_aliases T 0 a0 a1 = some (k1, r1, T1)) (hf : fr_aliases S a0 a1 = some (r2, S1)) : R2 T1 S1 := by
  have c := tgo (cs_X11_aliases T 0 a0 a1 hV rrole.2.2.2) hg
  have f := w_fr_aliases hf
  exact r2_keepG (r_pl hJ) h (r1_aliases hV hJ h.1 hg hf) (ck_fw hV c.1.2 (by decide +kernel) (sr_X11_aliases hg)) ⟨f.1 19 (by decide), f.1 20 (by decide), f.2 10 (by decide), f.2 12 (by decide), f.2 15 (by decide), f.2 16 (by decide), f.2 17 (by decide), f.2 18 (by decide)⟩
theorem r2_blockPower {T : AT} {S : MS} {a0 a1 a2 : Int32} {r1 : Int64} {r2 : Int64} {k1 : Nat} {T1 : AT} {S1 : MS} (hV : IV aR0 1586 aK1 aK2 T) (hJ : JJ S) (h : R2 T S) (hg : g_X11_blockPower T 0 a0 a1 a2 = some (k1, r1, T1)) (hf : fr_blockPower S a0 a1 a2 = some (r2, S1)) : R2 T1 S1 := by
  have c := tgo (cs_X11_blockPower T 0 a0 a1 a2 hV rrole.2.2.2) hg
  have f := w_fr_blockPower hf
  exact r2_keepG (r_pl hJ) h (r1_blockPower hV hJ h.1 hg hf) (ck_fw hV c.1.2 (by decide +kernel) (sr_X11_blockPower hg)) ⟨f.1 19 (by decide), f.1 20 (by decide), f.2 10 (by decide), f.2 12 (by decide), f.2 15 (by decide), f.2 16 (by decide), f.2 17 (by decide), f.2 18 (by decide)⟩
theorem r2_blockBest {T : AT} {S : MS} {a0 a1 : Int32} {r1 : Int32} {r2 : Int32} {k1 : Nat} {T1 : AT} {S1 : MS} (hV : IV aR0 1586 aK1 aK2 T) (hJ : JJ S) (h : R2 T S) (hg : g_X11_blockBest T 0 a0 a1 = some (k1, r1, T1)) (hf : fr_blockBest S a0 a1 = some (r2, S1)) : R2 T1 S1 := by
  have c := tgo (cs_X11_blockBest T 0 a0 a1 hV rrole.2.2.2) hg
  have f := w_fr_blockBest hf
  exact r2_keepG (r_pl hJ) h (r1_blockBest hV hJ h.1 hg hf) (ck_fw hV c.1.2 (by decide +kernel) (sr_X11_blockBest hg)) ⟨f.1 19 (by decide), f.1 20 (by decide), f.2 10 (by decide), f.2 12 (by decide), f.2 15 (by decide), f.2 16 (by decide), f.2 17 (by decide), f.2 18 (by decide)⟩
theorem r2_path {T : AT} {S : MS} {a0 : Int32} {r1 : Int32} {r2 : Int32} {k1 : Nat} {T1 : AT} {S1 : MS} (hV : IV aR0 1586 aK1 aK2 T) (hJ : JJ S) (h : R2 T S) (hg : g_X11_path T 0 a0 = some (k1, r1, T1)) (hf : fr_path S a0 = some (r2, S1)) : R2 T1 S1 := by
  have c := tgo (cs_X11_path T 0 a0 hV rrole.2.2.2) hg
  have f := w_fr_path hf
  exact r2_keepG (r_pl hJ) h (r1_path hV hJ h.1 hg hf) (ck_fw hV c.1.2 (by decide +kernel) (sr_X11_path hg)) ⟨f.1 19 (by decide), f.1 20 (by decide), f.2 10 (by decide), f.2 12 (by decide), f.2 15 (by decide), f.2 16 (by decide), f.2 17 (by decide), f.2 18 (by decide)⟩
theorem r2_trackScore {T : AT} {S : MS} {a0 : Int32} {r1 : Int64} {r2 : Int64} {k1 : Nat} {T1 : AT} {S1 : MS} (hV : IV aR0 1586 aK1 aK2 T) (hJ : JJ S) (h : R2 T S) (hg : g_X11_trackScore T 0 a0 = some (k1, r1, T1)) (hf : fr_trackScore S a0 = some (r2, S1)) : R2 T1 S1 := by
  have c := tgo (cs_X11_trackScore T 0 a0 hV rrole.2.2.2) hg
  have f := w_fr_trackScore hf
  exact r2_keepG (r_pl hJ) h (r1_trackScore hV hJ h.1 hg hf) (ck_fw hV c.1.2 (by decide +kernel) (sr_X11_trackScore hg)) ⟨f.1 19 (by decide), f.1 20 (by decide), f.2 10 (by decide), f.2 12 (by decide), f.2 15 (by decide), f.2 16 (by decide), f.2 17 (by decide), f.2 18 (by decide)⟩
theorem r2_trackCell {T : AT} {S : MS} {a0 a1 : Int32} {r1 : Int32} {r2 : Int32} {k1 : Nat} {T1 : AT} {S1 : MS} (hV : IV aR0 1586 aK1 aK2 T) (hJ : JJ S) (h : R2 T S) (hg : g_X11_trackCell T 0 a0 a1 = some (k1, r1, T1)) (hf : fr_trackCell S a0 a1 = some (r2, S1)) : R2 T1 S1 := by
  have c := tgo (cs_X11_trackCell T 0 a0 a1 hV rrole.2.2.2) hg
  have f := w_fr_trackCell hf
  exact r2_keepG (r_pl hJ) h (r1_trackCell hV hJ h.1 hg hf) (ck_fw hV c.1.2 (by decide +kernel) (sr_X11_trackCell hg)) ⟨f.1 19 (by decide), f.1 20 (by decide), f.2 10 (by decide), f.2 12 (by decide), f.2 15 (by decide), f.2 16 (by decide), f.2 17 (by decide), f.2 18 (by decide)⟩
theorem r2_movingPower {T : AT} {S : MS} {a0 a1 a2 : Int32} {r1 : Int64} {r2 : Int64} {k1 : Nat} {T1 : AT} {S1 : MS} (hV : IV aR0 1586 aK1 aK2 T) (hJ : JJ S) (h : R2 T S) (hg : g_X11_movingPower T 0 a0 a1 a2 = some (k1, r1, T1)) (hf : fr_movingPower S a0 a1 a2 = some (r2, S1)) : R2 T1 S1 := by
  have c := tgo (cs_X11_movingPower T 0 a0 a1 a2 hV rrole.2.2.2) hg
  have f := w_fr_movingPower hf
  exact r2_keepG (r_pl hJ) h (r1_movingPower hV hJ h.1 hg hf) (ck_fd hV c.1.2 (by decide +kernel) (q_movingPower h.1.1 hV hg) (sr_X11_movingPower hg)) ⟨f.1 19 (by decide), f.1 20 (by decide), f.2 10 (by decide), f.2 12 (by decide), f.2 15 (by decide), f.2 16 (by decide), f.2 17 (by decide), f.2 18 (by decide)⟩
theorem r2_bestVelocity {T : AT} {S : MS} {a0 a1 a2 : Int32} {r1 : Int32} {r2 : Int32} {k1 : Nat} {T1 : AT} {S1 : MS} (hV : IV aR0 1586 aK1 aK2 T) (hJ : JJ S) (h : R2 T S) (hg : g_X11_bestVelocity T 0 a0 a1 a2 = some (k1, r1, T1)) (hf : fr_bestVelocity S a0 a1 a2 = some (r2, S1)) : R2 T1 S1 := by
  have c := tgo (cs_X11_bestVelocity T 0 a0 a1 a2 hV rrole.2.2.2) hg
  have f := w_fr_bestVelocity hf
  exact r2_keepG (r_pl hJ) h (r1_bestVelocity hV hJ h.1 hg hf) (ck_fd hV c.1.2 (by decide +kernel) (q_bestVelocity h.1.1 hV hg) (sr_X11_bestVelocity hg)) ⟨f.1 19 (by decide), f.1 20 (by decide), f.2 10 (by decide), f.2 12 (by decide), f.2 15 (by decide), f.2 16 (by decide), f.2 17 (by decide), f.2 18 (by decide)⟩
theorem r2_correlation {T : AT} {S : MS} {a0 a1 a2 : Int32} {r1 : Int64} {r2 : Int64} {k1 : Nat} {T1 : AT} {S1 : MS} (hV : IV aR0 1586 aK1 aK2 T) (hJ : JJ S) (h : R2 T S) (hg : g_X11_correlation T 0 a0 a1 a2 = some (k1, r1, T1)) (hf : fr_correlation S a0 a1 a2 = some (r2, S1)) : R2 T1 S1 := by
  have c := tgo (cs_X11_correlation T 0 a0 a1 a2 hV rrole.2.2.2) hg
  have f := w_fr_correlation hf
  exact r2_keepG (r_pl hJ) h (r1_correlation hV hJ h.1 hg hf) (ck_fw hV c.1.2 (by decide +kernel) (sr_X11_correlation hg)) ⟨f.1 19 (by decide), f.1 20 (by decide), f.2 10 (by decide), f.2 12 (by decide), f.2 15 (by decide), f.2 16 (by decide), f.2 17 (by decide), f.2 18 (by decide)⟩
theorem r2_bestLag {T : AT} {S : MS} {a0 a1 a2 : Int32} {r1 : Int32} {r2 : Int32} {k1 : Nat} {T1 : AT} {S1 : MS} (hV : IV aR0 1586 aK1 aK2 T) (hJ : JJ S) (h : R2 T S) (hg : g_X11_bestLag T 0 a0 a1 a2 = some (k1, r1, T1)) (hf : fr_bestLag S a0 a1 a2 = some (r2, S1)) : R2 T1 S1 := by
  have c := tgo (cs_X11_bestLag T 0 a0 a1 a2 hV rrole.2.2.2) hg
  have f := w_fr_bestLag hf
  exact r2_keepG (r_pl hJ) h (r1_bestLag hV hJ h.1 hg hf) (ck_fw hV c.1.2 (by decide +kernel) (sr_X11_bestLag hg)) ⟨f.1 19 (by decide), f.1 20 (by decide), f.2 10 (by decide), f.2 12 (by decide), f.2 15 (by decide), f.2 16 (by decide), f.2 17 (by decide), f.2 18 (by decide)⟩
theorem r2_level {T : AT} {S : MS} {a0 : Int32} {r1 : Int64} {r2 : Int64} {k1 : Nat} {T1 : AT} {S1 : MS} (hV : IV aR0 1586 aK1 aK2 T) (hJ : JJ S) (h : R2 T S) (hg : g_X11_level T 0 a0 = some (k1, r1, T1)) (hf : fr_level S a0 = some (r2, S1)) : R2 T1 S1 := by
  have c := tgo (cs_X11_level T 0 a0 hV rrole.2.2.2) hg
  have f := w_fr_level hf
  exact r2_keepG (r_pl hJ) h (r1_level hV hJ h.1 hg hf) (ck_fw hV c.1.2 (by decide +kernel) (sr_X11_level hg)) ⟨f.1 19 (by decide), f.1 20 (by decide), f.2 10 (by decide), f.2 12 (by decide), f.2 15 (by decide), f.2 16 (by decide), f.2 17 (by decide), f.2 18 (by decide)⟩
theorem r2_loudest {T : AT} {S : MS} {a0 : Int32} {r1 : Int32} {r2 : Int32} {k1 : Nat} {T1 : AT} {S1 : MS} (hV : IV aR0 1586 aK1 aK2 T) (hJ : JJ S) (h : R2 T S) (hg : g_X11_loudest T 0 a0 = some (k1, r1, T1)) (hf : fr_loudest S a0 = some (r2, S1)) : R2 T1 S1 := by
  have c := tgo (cs_X11_loudest T 0 a0 hV rrole.2.2.2) hg
  have f := w_fr_loudest hf
  exact r2_keepG (r_pl hJ) h (r1_loudest hV hJ h.1 hg hf) (ck_fw hV c.1.2 (by decide +kernel) (sr_X11_loudest hg)) ⟨f.1 19 (by decide), f.1 20 (by decide), f.2 10 (by decide), f.2 12 (by decide), f.2 15 (by decide), f.2 16 (by decide), f.2 17 (by decide), f.2 18 (by decide)⟩
theorem r2_writeMap {T : AT} {S : MS} {r1 : Int32} {r2 : Int32} {k1 : Nat} {T1 : AT} {S1 : MS} (hV : IV aR0 1586 aK1 aK2 T) (hJ : JJ S) (h : R2 T S) (hg : g_X11_writeMap T 0 = some (k1, r1, T1)) (hf : fr_writeMap S = some (r2, S1)) : R2 T1 S1 := by
  have c := tgo (cs_X11_writeMap T 0  hV rrole.2.2.2) hg
  have f := w_fr_writeMap hf
  exact r2_keepG (r_pl hJ) h (r1_writeMap hV hJ h.1 hg hf) (ck_fw hV c.1.2 (by decide +kernel) (sr_X11_writeMap hg)) ⟨f.1 19 (by decide), f.1 20 (by decide), f.2 10 (by decide), f.2 12 (by decide), f.2 15 (by decide), f.2 16 (by decide), f.2 17 (by decide), f.2 18 (by decide)⟩
theorem r2_mapByte {T : AT} {S : MS} {a0 : Int32} {r1 : Int32} {r2 : Int32} {k1 : Nat} {T1 : AT} {S1 : MS} (hV : IV aR0 1586 aK1 aK2 T) (hJ : JJ S) (h : R2 T S) (hg : g_X11_mapByte T 0 a0 = some (k1, r1, T1)) (hf : fr_mapByte S a0 = some (r2, S1)) : R2 T1 S1 := by
  have c := tgo (cs_X11_mapByte T 0 a0 hV rrole.2.2.2) hg
  have f := w_fr_mapByte hf
  exact r2_keepG (r_pl hJ) h (r1_mapByte hV hJ h.1 hg hf) (ck_eq c.1) ⟨f.1 19 (by decide), f.1 20 (by decide), f.2 10 (by decide), f.2 12 (by decide), f.2 15 (by decide), f.2 16 (by decide), f.2 17 (by decide), f.2 18 (by decide)⟩
theorem r2_pointBest {T : AT} {S : MS} {a0 a1 : Int32} {r1 : Int32} {r2 : Int32} {k1 : Nat} {T1 : AT} {S1 : MS} (hV : IV aR0 1586 aK1 aK2 T) (hJ : JJ S) (h : R2 T S) (hg : g_X11_pointBest T 0 a0 a1 = some (k1, r1, T1)) (hf : fr_pointBest S a0 a1 = some (r2, S1)) : R2 T1 S1 := by
  have c := tgo (cs_X11_pointBest T 0 a0 a1 hV rrole.2.2.2) hg
  have f := w_fr_pointBest hf
  exact r2_keepG (r_pl hJ) h (r1_pointBest hV hJ h.1 hg hf) (ck_pointBest h.1.1 hV hg) ⟨f.1 19 (by decide), f.1 20 (by decide), f.2 10 (by decide), f.2 12 (by decide), f.2 15 (by decide), f.2 16 (by decide), f.2 17 (by decide), f.2 18 (by decide)⟩
theorem r2_pointPower {T : AT} {S : MS} {a0 a1 a2 : Int32} {r1 : Int64} {r2 : Int64} {k1 : Nat} {T1 : AT} {S1 : MS} (hV : IV aR0 1586 aK1 aK2 T) (hJ : JJ S) (h : R2 T S) (hg : g_X11_pointPower T 0 a0 a1 a2 = some (k1, r1, T1)) (hf : fr_pointPower S a0 a1 a2 = some (r2, S1)) : R2 T1 S1 := by
  have c := tgo (cs_X11_pointPower T 0 a0 a1 a2 hV rrole.2.2.2) hg
  have f := w_fr_pointPower hf
  exact r2_keepG (r_pl hJ) h (r1_pointPower hV hJ h.1 hg hf) (ck_pointPower h.1.1 hV hg) ⟨f.1 19 (by decide), f.1 20 (by decide), f.2 10 (by decide), f.2 12 (by decide), f.2 15 (by decide), f.2 16 (by decide), f.2 17 (by decide), f.2 18 (by decide)⟩
theorem r2_bestWithout {T : AT} {S : MS} {a0 : Int32} {r1 : Int32} {r2 : Int32} {k1 : Nat} {T1 : AT} {S1 : MS} (hV : IV aR0 1586 aK1 aK2 T) (hJ : JJ S) (h : R2 T S) (hg : g_X11_bestWithout T 0 a0 = some (k1, r1, T1)) (hf : fr_bestWithout S a0 = some (r2, S1)) : R2 T1 S1 := by
  have c := tgo (cs_X11_bestWithout T 0 a0 hV rrole.2.2.2) hg
  have f := w_fr_bestWithout hf
  exact r2_keepG (r_pl hJ) h (r1_bestWithout hV hJ h.1 hg hf) (ck_bestWithout h.1.1 hV hg) ⟨f.1 19 (by decide), f.1 20 (by decide), f.2 10 (by decide), f.2 12 (by decide), f.2 15 (by decide), f.2 16 (by decide), f.2 17 (by decide), f.2 18 (by decide)⟩
theorem r2_bestIfOff {T : AT} {S : MS} {a0 : Int32} {r1 : Int32} {r2 : Int32} {k1 : Nat} {T1 : AT} {S1 : MS} (hV : IV aR0 1586 aK1 aK2 T) (hJ : JJ S) (h : R2 T S) (hg : g_X11_bestIfOff T 0 a0 = some (k1, r1, T1)) (hf : fr_bestIfOff S a0 = some (r2, S1)) : R2 T1 S1 := by
  have c := tgo (cs_X11_bestIfOff T 0 a0 hV rrole.2.2.2) hg
  have f := w_fr_bestIfOff hf
  exact r2_keepG (r_pl hJ) h (r1_bestIfOff hV hJ h.1 hg hf) (ck_bestIfOff h.1.1 hV hg) ⟨f.1 19 (by decide), f.1 20 (by decide), f.2 10 (by decide), f.2 12 (by decide), f.2 15 (by decide), f.2 16 (by decide), f.2 17 (by decide), f.2 18 (by decide)⟩
theorem r2_mute {T : AT} {S : MS} {a0 a1 : Int32} {r1 : Int32} {r2 : Int32} {k1 : Nat} {T1 : AT} {S1 : MS} (hV : IV aR0 1586 aK1 aK2 T) (hJ : JJ S) (hb : 0 ≤ a1.toInt ∧ a1.toInt ≤ 1) (h : R2 T S) (hg : g_X11_mute T 0 a0 a1 = some (k1, r1, T1)) (hf : fr_mute S a0 a1 = some (r2, S1)) : R2 T1 S1 := (r2x_mute hV hJ hb h hg hf).1
theorem r2h_mute {T : AT} {S : MS} {a0 a1 : Int32} {r1 : Int32} {r2 : Int32} {k1 : Nat} {T1 : AT} {S1 : MS} (hV : IV aR0 1586 aK1 aK2 T) (hJ : JJ S) (hb : 0 ≤ a1.toInt ∧ a1.toInt ≤ 1) (h : R2 T S) (hg : g_X11_mute T 0 a0 a1 = some (k1, r1, T1)) (hf : fr_mute S a0 a1 = some (r2, S1)) : S1.1 0 = vck 1 2 0 k1 ∧ (vck 1 2 0 k1 = 0 → k1 = 0 ∧ r1 = r2) := (r2x_mute hV hJ hb h hg hf).2
theorem r2_setWeight {T : AT} {S : MS} {a0 a1 : Int32} {r1 : Int32} {r2 : Int32} {k1 : Nat} {T1 : AT} {S1 : MS} (hV : IV aR0 1586 aK1 aK2 T) (hJ : JJ S) (h : R2 T S) (hg : g_X11_setWeight T 0 a0 a1 = some (k1, r1, T1)) (hf : fr_setWeight S a0 a1 = some (r2, S1)) : R2 T1 S1 := (r2x_setWeight hV hJ h hg hf).1
theorem r2h_setWeight {T : AT} {S : MS} {a0 a1 : Int32} {r1 : Int32} {r2 : Int32} {k1 : Nat} {T1 : AT} {S1 : MS} (hV : IV aR0 1586 aK1 aK2 T) (hJ : JJ S) (h : R2 T S) (hg : g_X11_setWeight T 0 a0 a1 = some (k1, r1, T1)) (hf : fr_setWeight S a0 a1 = some (r2, S1)) : S1.1 0 = vck 1 2 3 k1 ∧ (vck 1 2 3 k1 = 0 → k1 = 0 ∧ r1 = r2) := (r2x_setWeight hV hJ h hg hf).2
theorem r2_setOn {T : AT} {S : MS} {a0 a1 : Int32} {r1 : Int32} {r2 : Int32} {k1 : Nat} {T1 : AT} {S1 : MS} (hV : IV aR0 1586 aK1 aK2 T) (hJ : JJ S) (hb : 0 ≤ a1.toInt ∧ a1.toInt ≤ 1) (h : R2 T S) (hg : g_X11_setOn T 0 a0 a1 = some (k1, r1, T1)) (hf : fr_setOn S a0 a1 = some (r2, S1)) : R2 T1 S1 := (r2x_setOn hV hJ hb h hg hf).1
theorem r2h_setOn {T : AT} {S : MS} {a0 a1 : Int32} {r1 : Int32} {r2 : Int32} {k1 : Nat} {T1 : AT} {S1 : MS} (hV : IV aR0 1586 aK1 aK2 T) (hJ : JJ S) (hb : 0 ≤ a1.toInt ∧ a1.toInt ≤ 1) (h : R2 T S) (hg : g_X11_setOn T 0 a0 a1 = some (k1, r1, T1)) (hf : fr_setOn S a0 a1 = some (r2, S1)) : S1.1 0 = vck 1 2 0 k1 ∧ (vck 1 2 0 k1 = 0 → k1 = 0 ∧ r1 = r2) := (r2x_setOn hV hJ hb h hg hf).2
theorem r2_cleaned {T : AT} {S : MS} {r1 : Int32} {r2 : Int32} {k1 : Nat} {T1 : AT} {S1 : MS} (hV : IV aR0 1586 aK1 aK2 T) (hJ : JJ S) (h : R2 T S) (hg : g_X11_cleaned T 0 = some (k1, r1, T1)) (hf : fr_cleaned S = some (r2, S1)) : R2 T1 S1 := by
  have c := tgo (cs_X11_cleaned T 0  hV rrole.2.2.2) hg
  have f := w_fr_cleaned hf
  exact r2_keepG (r_pl hJ) h (r1_cleaned hV hJ h.1 hg hf) (ck_eq c.1) ⟨f.1 19 (by decide), f.1 20 (by decide), f.2 10 (by decide), f.2 12 (by decide), f.2 15 (by decide), f.2 16 (by decide), f.2 17 (by decide), f.2 18 (by decide)⟩
theorem r2_undo {T : AT} {S : MS} {r1 : Int32} {r2 : Int32} {k1 : Nat} {T1 : AT} {S1 : MS} (hV : IV aR0 1586 aK1 aK2 T) (hJ : JJ S) (h : R2 T S) (hg : g_X11_undo T 0 = some (k1, r1, T1)) (hf : fr_undo S = some (r2, S1)) : R2 T1 S1 := (r2x_undo hV hJ h hg hf).1
theorem r2h_undo {T : AT} {S : MS} {r1 : Int32} {r2 : Int32} {k1 : Nat} {T1 : AT} {S1 : MS} (hV : IV aR0 1586 aK1 aK2 T) (hJ : JJ S) (h : R2 T S) (hg : g_X11_undo T 0 = some (k1, r1, T1)) (hf : fr_undo S = some (r2, S1)) : S1.1 0 = vck 1 0 0 k1 ∧ (vck 1 0 0 k1 = 0 → k1 = 0 ∧ r1 = r2) := (r2x_undo hV hJ h hg hf).2
theorem r2_undoable {T : AT} {S : MS} {r1 : Int32} {r2 : Int32} {T1 : AT} {S1 : MS} (hV : IV aR0 1586 aK1 aK2 T) (hJ : JJ S) (h : R2 T S) (hg : g_X11_undoable T 0 = some (r1, T1)) (hf : fr_undoable S = some (r2, S1)) : R2 T1 S1 := by
  have c := tgo (cs_X11_undoable T 0  hV rrole.2.2.2) hg
  have f := w_fr_undoable hf
  exact r2_keepG (r_pl hJ) h (r1_undoable hV hJ h.1 hg hf) (ck_eq c.1) ⟨f.1 19 (by decide), f.1 20 (by decide), f.2 10 (by decide), f.2 12 (by decide), f.2 15 (by decide), f.2 16 (by decide), f.2 17 (by decide), f.2 18 (by decide)⟩
