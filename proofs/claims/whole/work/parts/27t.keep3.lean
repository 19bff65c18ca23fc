/-! R3: at the start, and kept by every call but load -/
section
variable {T T1 : AT} {S S1 : MS}
theorem r21 : aR0 21 = 7 := by decide +kernel
theorem r3_keep {W : List Nat} (h : R3 T S) (h2 : R2 T1 S1) (hi : GI T T1) (hw : FW aR0 W T T1) (c : [231, 232, 1888].all (fun x => !(W.contains x)) = true) (h21 : S1.1 21 = S.1 21) : R3 T1 S1 := by
  have f := fun (x : Nat) (hx : x ∈ [231, 232, 1888]) => con_f (W := W) (List.all_eq_true.mp c x hx)
  refine ⟨h2, hi h.2.1.1 h.2.1.2, ⟨?_, ?_⟩, wh_fw hw (f 1888 (by decide)) h.2.2.2.1, h21.trans h.2.2.2.2⟩
  · rw [hw 21 7 (by rw [r21]; exact f 231 (by decide))]; exact h.2.2.1.1
  · rw [hw 21 8 (by rw [r21]; exact f 232 (by decide))]; exact h.2.2.1.2
theorem r3_eq (h : R3 T S) (h2 : R2 T1 S1) (e : T1 = T) (h21 : S1.1 21 = S.1 21) : R3 T1 S1 := by
  rw [e] at h2 ⊢
  exact ⟨h2, h.2.1, h.2.2.1, h.2.2.2.1, h21.trans h.2.2.2.2⟩
theorem x_rp21 {a b : Int32} (f : fr_recordsPoint_14 S a b = some S1) : S1.1 21 = -1 := by
  unfold fr_recordsPoint_14 at f
  obtain ⟨U2, d2, f⟩ := elet_some f
  obtain ⟨U3, d3, f⟩ := elet_some f
  obtain ⟨U4, f4, f⟩ := obind_some f
  obtain ⟨U7, d7, f⟩ := elet_some f
  rw [← osome1 f, d7, mi_at]
theorem p21_pointBest {a0 a1 r : Int32} (h : S.1 21 = -1) (hf : fr_pointBest S a0 a1 = some (r, S1)) : S1.1 21 = S.1 21 := by
  unfold fr_pointBest at hf
  obtain ⟨r5, S2, f5, hf⟩ := obind2_some hf
  obtain ⟨r9, S6, f9, hf⟩ := obind2_some hf
  have e6 : S6.1 21 = S.1 21 := ((w_fr_mayAsk f9).1 21 (by decide)).trans (by rw [(r_cell f5).1])
  rcases oif_or hf with ⟨-, hf⟩ | ⟨-, hf⟩
  · rw [← (osome2 hf).2, e6]
  · obtain ⟨r11, f11, hf⟩ := obind_some hf
    rcases oif_or hf with ⟨-, hf⟩ | ⟨-, hf⟩
    · obtain ⟨r17, S14, f17, hf⟩ := obind2_some hf
      rw [← (osome2 hf).2, r_thr f17, mi_ne (by decide), e6]
    · obtain ⟨S18, f18, hf⟩ := obind_some hf
      obtain ⟨S21, f21, hf⟩ := obind_some hf
      obtain ⟨r27, S24, f27, hf⟩ := obind2_some hf
      rw [← (osome2 hf).2, (w_fr_bestIn_14 f27).1 21 (by decide), x_rp21 f21, h]
theorem p21_pointPower {a0 a1 a2 : Int32} {r : Int64} (h : S.1 21 = -1) (hf : fr_pointPower S a0 a1 a2 = some (r, S1)) : S1.1 21 = S.1 21 := by
  have b22 : ∀ {U : MS} {w : Int32}, U.1 21 = -1 → fr_pointPower_b22 U w a0 a1 a2 = some (r, S1) → S1.1 21 = -1 := by
    intro U w hU hf
    unfold fr_pointPower_b22 at hf
    obtain ⟨r5, S2, f5, hf⟩ := obind2_some hf
    have e2 : S2.1 21 = -1 := ((w_fr_mayAsk f5).1 21 (by decide)).trans hU
    rcases oif_or hf with ⟨-, hf⟩ | ⟨-, hf⟩
    · rw [← (osome2 hf).2, e2]
    · obtain ⟨r7, f7, hf⟩ := obind_some hf
      rcases oif_or hf with ⟨-, hf⟩ | ⟨-, hf⟩
      · obtain ⟨r13, S10, f13, hf⟩ := obind2_some hf
        obtain ⟨v14, -, hf⟩ := elet_some hf
        rw [← (osome2 hf).2, r_thr f13, mi_ne (by decide), e2]
      · obtain ⟨S15, f15, hf⟩ := obind_some hf
        obtain ⟨S18, f18, hf⟩ := obind_some hf
        obtain ⟨r24, S21, f24, hf⟩ := obind2_some hf
        rw [← (osome2 hf).2, (w_fr_powerOf_14 f24).1 21 (by decide), x_rp21 f18]
  rw [h]
  unfold fr_pointPower at hf
  obtain ⟨r5, S2, f5, hf⟩ := obind2_some hf
  have e2 : S2.1 21 = -1 := by rw [(r_cell f5).1]; exact h
  rcases oif_or hf with ⟨-, hf⟩ | ⟨-, hf⟩
  · unfold fr_pointPower_b21 at hf
    exact b22 e2 hf
  · obtain ⟨r10, S7, f7, hf⟩ := obind2_some hf
    have e7 : S7.1 21 = -1 := by rw [(r_cell f7).1]; exact e2
    rcases oif_or hf with ⟨-, hf⟩ | ⟨-, hf⟩
    · unfold fr_pointPower_b21 at hf
      exact b22 e7 hf
    · exact b22 e7 hf
end
set_option maxRecDepth 100000 in
theorem r3_0 : R3 aT0 mS0 := by
  refine ⟨r2_0, ⟨a_RC, a_RI⟩, by decide +kernel, fun s hs => ?_, by decide⟩
  rcases hs with e | e <;> rw [e] <;> decide +kernel
theorem r3_append {T : AT} {S : MS} {a0 a1 a2 a3 a4 : Int32} {r1 : Int32} {r2 : Int32} {T1 : AT} {S1 : MS} (hV : IV aR0 1586 aK1 aK2 T) (hJ : JJ S) (h : R3 T S) (hg : g_X11_append T 0 a0 a1 a2 a3 a4 = some (r1, T1)) (hf : fr_append S a0 a1 a2 a3 a4 = some (r2, S1)) : R3 T1 S1 := by
  have c := tgo (cs_X11_append T 0 a0 a1 a2 a3 a4 hV rrole.2.2.2) hg
  exact r3_keep h (r2_append hV hJ h.1 hg hf) (gi_sp (s_X11_append hg)) c.1.2 (by decide +kernel) ((w_fr_append hf).1 21 (by decide))
theorem r3_parseError {T : AT} {S : MS} {r1 : Int32} {r2 : Int32} {T1 : AT} {S1 : MS} (hV : IV aR0 1586 aK1 aK2 T) (hJ : JJ S) (h : R3 T S) (hg : g_X11_parseError T 0 = some (r1, T1)) (hf : fr_parseError S = some (r2, S1)) : R3 T1 S1 := by
  have c := tgo (cs_X11_parseError T 0  hV rrole.2.2.2) hg
  exact r3_eq h (r2_parseError hV hJ h.1 hg hf) c.1 ((w_fr_parseError hf).1 21 (by decide))
theorem r3_errorPosition {T : AT} {S : MS} {r1 : Int32} {r2 : Int32} {T1 : AT} {S1 : MS} (hV : IV aR0 1586 aK1 aK2 T) (hJ : JJ S) (h : R3 T S) (hg : g_X11_errorPosition T 0 = some (r1, T1)) (hf : fr_errorPosition S = some (r2, S1)) : R3 T1 S1 := by
  have c := tgo (cs_X11_errorPosition T 0  hV rrole.2.2.2) hg
  exact r3_eq h (r2_errorPosition hV hJ h.1 hg hf) c.1 ((w_fr_errorPosition hf).1 21 (by decide))
theorem r3_buffered {T : AT} {S : MS} {r1 : Int32} {r2 : Int32} {T1 : AT} {S1 : MS} (hV : IV aR0 1586 aK1 aK2 T) (hJ : JJ S) (h : R3 T S) (hg : g_X11_buffered T 0 = some (r1, T1)) (hf : fr_buffered S = some (r2, S1)) : R3 T1 S1 := by
  have c := tgo (cs_X11_buffered T 0  hV rrole.2.2.2) hg
  exact r3_eq h (r2_buffered hV hJ h.1 hg hf) c.1 ((w_fr_buffered hf).1 21 (by decide))
theorem r3_mics {T : AT} {S : MS} {r1 : Int32} {r2 : Int32} {T1 : AT} {S1 : MS} (hV : IV aR0 1586 aK1 aK2 T) (hJ : JJ S) (h : R3 T S) (hg : g_X11_mics T 0 = some (r1, T1)) (hf : fr_mics S = some (r2, S1)) : R3 T1 S1 := by
  have c := tgo (cs_X11_mics T 0  hV rrole.2.2.2) hg
  exact r3_eq h (r2_mics hV hJ h.1 hg hf) c.1 ((w_fr_mics hf).1 21 (by decide))
theorem r3_micAt {T : AT} {S : MS} {a0 a1 : Int32} {r1 : Int32} {r2 : Int32} {k1 : Nat} {T1 : AT} {S1 : MS} (hV : IV aR0 1586 aK1 aK2 T) (hJ : JJ S) (h : R3 T S) (hg : g_X11_micAt T 0 a0 a1 = some (k1, r1, T1)) (hf : fr_micAt S a0 a1 = some (r2, S1)) : R3 T1 S1 := by
  have c := tgo (cs_X11_micAt T 0 a0 a1 hV rrole.2.2.2) hg
  exact r3_eq h (r2_micAt hV hJ h.1 hg hf) c.1 ((w_fr_micAt hf).1 21 (by decide))
theorem r3_isMuted {T : AT} {S : MS} {a0 : Int32} {r1 : Int32} {r2 : Int32} {k1 : Nat} {T1 : AT} {S1 : MS} (hV : IV aR0 1586 aK1 aK2 T) (hJ : JJ S) (h : R3 T S) (hg : g_X11_isMuted T 0 a0 = some (k1, r1, T1)) (hf : fr_isMuted S a0 = some (r2, S1)) : R3 T1 S1 := by
  have c := tgo (cs_X11_isMuted T 0 a0 hV rrole.2.2.2) hg
  exact r3_eq h (r2_isMuted hV hJ h.1 hg hf) c.1 ((w_fr_isMuted hf).1 21 (by decide))
theorem r3_columns {T : AT} {S : MS} {r1 : Int32} {r2 : Int32} {T1 : AT} {S1 : MS} (hV : IV aR0 1586 aK1 aK2 T) (hJ : JJ S) (h : R3 T S) (hg : g_X11_columns T 0 = some (r1, T1)) (hf : fr_columns S = some (r2, S1)) : R3 T1 S1 := by
  have c := tgo (cs_X11_columns T 0  hV rrole.2.2.2) hg
  exact r3_eq h (r2_columns hV hJ h.1 hg hf) c.1 ((w_fr_columns hf).1 21 (by decide))
theorem r3_rows {T : AT} {S : MS} {r1 : Int32} {r2 : Int32} {T1 : AT} {S1 : MS} (hV : IV aR0 1586 aK1 aK2 T) (hJ : JJ S) (h : R3 T S) (hg : g_X11_rows T 0 = some (r1, T1)) (hf : fr_rows S = some (r2, S1)) : R3 T1 S1 := by
  have c := tgo (cs_X11_rows T 0  hV rrole.2.2.2) hg
  exact r3_eq h (r2_rows hV hJ h.1 hg hf) c.1 ((w_fr_rows hf).1 21 (by decide))
theorem r3_cellAt {T : AT} {S : MS} {a0 a1 : Int32} {r1 : Int32} {r2 : Int32} {k1 : Nat} {T1 : AT} {S1 : MS} (hV : IV aR0 1586 aK1 aK2 T) (hJ : JJ S) (h : R3 T S) (hg : g_X11_cellAt T 0 a0 a1 = some (k1, r1, T1)) (hf : fr_cellAt S a0 a1 = some (r2, S1)) : R3 T1 S1 := by
  have c := tgo (cs_X11_cellAt T 0 a0 a1 hV rrole.2.2.2) hg
  exact r3_eq h (r2_cellAt hV hJ h.1 hg hf) c.1 ((w_fr_cellAt hf).1 21 (by decide))
theorem r3_sources {T : AT} {S : MS} {r1 : Int32} {r2 : Int32} {T1 : AT} {S1 : MS} (hV : IV aR0 1586 aK1 aK2 T) (hJ : JJ S) (h : R3 T S) (hg : g_X11_sources T 0 = some (r1, T1)) (hf : fr_sources S = some (r2, S1)) : R3 T1 S1 := by
  have c := tgo (cs_X11_sources T 0  hV rrole.2.2.2) hg
  exact r3_eq h (r2_sources hV hJ h.1 hg hf) c.1 ((w_fr_sources hf).1 21 (by decide))
theorem r3_sourceAt {T : AT} {S : MS} {a0 a1 a2 : Int32} {r1 : Int32} {r2 : Int32} {k1 : Nat} {T1 : AT} {S1 : MS} (hV : IV aR0 1586 aK1 aK2 T) (hJ : JJ S) (h : R3 T S) (hg : g_X11_sourceAt T 0 a0 a1 a2 = some (k1, r1, T1)) (hf : fr_sourceAt S a0 a1 a2 = some (r2, S1)) : R3 T1 S1 := by
  have c := tgo (cs_X11_sourceAt T 0 a0 a1 a2 hV rrole.2.2.2) hg
  exact r3_eq h (r2_sourceAt hV hJ h.1 hg hf) c.1 ((w_fr_sourceAt hf).1 21 (by decide))
theorem r3_isOn {T : AT} {S : MS} {a0 : Int32} {r1 : Int32} {r2 : Int32} {k1 : Nat} {T1 : AT} {S1 : MS} (hV : IV aR0 1586 aK1 aK2 T) (hJ : JJ S) (h : R3 T S) (hg : g_X11_isOn T 0 a0 = some (k1, r1, T1)) (hf : fr_isOn S a0 = some (r2, S1)) : R3 T1 S1 := by
  have c := tgo (cs_X11_isOn T 0 a0 hV rrole.2.2.2) hg
  exact r3_eq h (r2_isOn hV hJ h.1 hg hf) c.1 ((w_fr_isOn hf).1 21 (by decide))
theorem r3_waveAt {T : AT} {S : MS} {a0 a1 : Int32} {r1 : Int32} {r2 : Int32} {k1 : Nat} {T1 : AT} {S1 : MS} (hV : IV aR0 1586 aK1 aK2 T) (hJ : JJ S) (h : R3 T S) (hg : g_X11_waveAt T 0 a0 a1 = some (k1, r1, T1)) (hf : fr_waveAt S a0 a1 = some (r2, S1)) : R3 T1 S1 := by
  have c := tgo (cs_X11_waveAt T 0 a0 a1 hV rrole.2.2.2) hg
  exact r3_eq h (r2_waveAt hV hJ h.1 hg hf) c.1 ((w_fr_waveAt hf).1 21 (by decide))
theorem r3_samples {T : AT} {S : MS} {r1 : Int32} {r2 : Int32} {T1 : AT} {S1 : MS} (hV : IV aR0 1586 aK1 aK2 T) (hJ : JJ S) (h : R3 T S) (hg : g_X11_samples T 0 = some (r1, T1)) (hf : fr_samples S = some (r2, S1)) : R3 T1 S1 := by
  have c := tgo (cs_X11_samples T 0  hV rrole.2.2.2) hg
  exact r3_eq h (r2_samples hV hJ h.1 hg hf) c.1 ((w_fr_samples hf).1 21 (by decide))
theorem r3_delay {T : AT} {S : MS} {a0 a1 : Int32} {r1 : Int32} {r2 : Int32} {k1 : Nat} {T1 : AT} {S1 : MS} (hV : IV aR0 1586 aK1 aK2 T) (hJ : JJ S) (h : R3 T S) (hg : g_X11_delay T 0 a0 a1 = some (k1, r1, T1)) (hf : fr_delay S a0 a1 = some (r2, S1)) : R3 T1 S1 := by
  have c := tgo (cs_X11_delay T 0 a0 a1 hV rrole.2.2.2) hg
  exact r3_eq h (r2_delay hV hJ h.1 hg hf) c.1 ((w_fr_delay hf).1 21 (by decide))
theorem r3_delayTo {T : AT} {S : MS} {a0 a1 a2 : Int32} {r1 : Int32} {r2 : Int32} {k1 : Nat} {T1 : AT} {S1 : MS} (hV : IV aR0 1586 aK1 aK2 T) (hJ : JJ S) (h : R3 T S) (hg : g_X11_delayTo T 0 a0 a1 a2 = some (k1, r1, T1)) (hf : fr_delayTo S a0 a1 a2 = some (r2, S1)) : R3 T1 S1 := by
  have c := tgo (cs_X11_delayTo T 0 a0 a1 a2 hV rrole.2.2.2) hg
  exact r3_eq h (r2_delayTo hV hJ h.1 hg hf) c.1 ((w_fr_delayTo hf).1 21 (by decide))
theorem r3_spread {T : AT} {S : MS} {a0 : Int32} {r1 : Int32} {r2 : Int32} {k1 : Nat} {T1 : AT} {S1 : MS} (hV : IV aR0 1586 aK1 aK2 T) (hJ : JJ S) (h : R3 T S) (hg : g_X11_spread T 0 a0 = some (k1, r1, T1)) (hf : fr_spread S a0 = some (r2, S1)) : R3 T1 S1 := by
  have c := tgo (cs_X11_spread T 0 a0 hV rrole.2.2.2) hg
  exact r3_eq h (r2_spread hV hJ h.1 hg hf) c.1 ((w_fr_spread hf).1 21 (by decide))
theorem r3_window {T : AT} {S : MS} {a0 : Int32} {r1 : Int32} {r2 : Int32} {k1 : Nat} {T1 : AT} {S1 : MS} (hV : IV aR0 1586 aK1 aK2 T) (hJ : JJ S) (h : R3 T S) (hg : g_X11_window T 0 a0 = some (k1, r1, T1)) (hf : fr_window S a0 = some (r2, S1)) : R3 T1 S1 := by
  have c := tgo (cs_X11_window T 0 a0 hV rrole.2.2.2) hg
  exact r3_eq h (r2_window hV hJ h.1 hg hf) c.1 ((w_fr_window hf).1 21 (by decide))
theorem r3_sample {T : AT} {S : MS} {a0 a1 : Int32} {r1 : Int32} {r2 : Int32} {k1 : Nat} {T1 : AT} {S1 : MS} (hV : IV aR0 1586 aK1 aK2 T) (hJ : JJ S) (h : R3 T S) (hg : g_X11_sample T 0 a0 a1 = some (k1, r1, T1)) (hf : fr_sample S a0 a1 = some (r2, S1)) : R3 T1 S1 := by
  have c := tgo (cs_X11_sample T 0 a0 a1 hV rrole.2.2.2) hg
  exact r3_eq h (r2_sample hV hJ h.1 hg hf) c.1 ((w_fr_sample hf).1 21 (by decide))
theorem r3_beam {T : AT} {S : MS} {a0 a1 : Int32} {r1 : Int32} {r2 : Int32} {k1 : Nat} {T1 : AT} {S1 : MS} (hV : IV aR0 1586 aK1 aK2 T) (hJ : JJ S) (h : R3 T S) (hg : g_X11_beam T 0 a0 a1 = some (k1, r1, T1)) (hf : fr_beam S a0 a1 = some (r2, S1)) : R3 T1 S1 := by
  have c := tgo (cs_X11_beam T 0 a0 a1 hV rrole.2.2.2) hg
  exact r3_keep h (r2_beam hV hJ h.1 hg hf) (si_X11_beam hg) c.1.2 (by decide +kernel) ((w_fr_beam hf).1 21 (by decide))
theorem r3_power {T : AT} {S : MS} {a0 : Int32} {r1 : Int64} {r2 : Int64} {k1 : Nat} {T1 : AT} {S1 : MS} (hV : IV aR0 1586 aK1 aK2 T) (hJ : JJ S) (h : R3 T S) (hg : g_X11_power T 0 a0 = some (k1, r1, T1)) (hf : fr_power S a0 = some (r2, S1)) : R3 T1 S1 := by
  have c := tgo (cs_X11_power T 0 a0 hV rrole.2.2.2) hg
  exact r3_keep h (r2_power hV hJ h.1 hg hf) (si_X11_power hg) c.1.2 (by decide +kernel) ((w_fr_power hf).1 21 (by decide))
theorem r3_powerAt {T : AT} {S : MS} {a0 a1 : Int32} {r1 : Int64} {r2 : Int64} {k1 : Nat} {T1 : AT} {S1 : MS} (hV : IV aR0 1586 aK1 aK2 T) (hJ : JJ S) (h : R3 T S) (hg : g_X11_powerAt T 0 a0 a1 = some (k1, r1, T1)) (hf : fr_powerAt S a0 a1 = some (r2, S1)) : R3 T1 S1 := by
  have c := tgo (cs_X11_powerAt T 0 a0 a1 hV rrole.2.2.2) hg
  exact r3_keep h (r2_powerAt hV hJ h.1 hg hf) (si_X11_powerAt hg) c.1.2 (by decide +kernel) ((w_fr_powerAt hf).1 21 (by decide))
theorem r3_best {T : AT} {S : MS} {r1 : Int32} {r2 : Int32} {k1 : Nat} {T1 : AT} {S1 : MS} (hV : IV aR0 1586 aK1 aK2 T) (hJ : JJ S) (h : R3 T S) (hg : g_X11_best T 0 = some (k1, r1, T1)) (hf : fr_best S = some (r2, S1)) : R3 T1 S1 := by
  have c := tgo (cs_X11_best T 0  hV rrole.2.2.2) hg
  exact r3_keep h (r2_best hV hJ h.1 hg hf) (si_X11_best hg) c.1.2 (by decide +kernel) ((w_fr_best hf).1 21 (by decide))
theorem r3_bestPower {T : AT} {S : MS} {r1 : Int64} {r2 : Int64} {k1 : Nat} {T1 : AT} {S1 : MS} (hV : IV aR0 1586 aK1 aK2 T) (hJ : JJ S) (h : R3 T S) (hg : g_X11_bestPower T 0 = some (k1, r1, T1)) (hf : fr_bestPower S = some (r2, S1)) : R3 T1 S1 := by
  have c := tgo (cs_X11_bestPower T 0  hV rrole.2.2.2) hg
  exact r3_keep h (r2_bestPower hV hJ h.1 hg hf) (si_X11_bestPower hg) c.1.2 (by decide +kernel) ((w_fr_bestPower hf).1 21 (by decide))
theorem r3_meanPower {T : AT} {S : MS} {r1 : Int64} {r2 : Int64} {k1 : Nat} {T1 : AT} {S1 : MS} (hV : IV aR0 1586 aK1 aK2 T) (hJ : JJ S) (h : R3 T S) (hg : g_X11_meanPower T 0 = some (k1, r1, T1)) (hf : fr_meanPower S = some (r2, S1)) : R3 T1 S1 := by
  have c := tgo (cs_X11_meanPower T 0  hV rrole.2.2.2) hg
  exact r3_keep h (r2_meanPower hV hJ h.1 hg hf) (si_X11_meanPower hg) c.1.2 (by decide +kernel) ((w_fr_meanPower hf).1 21 (by decide))
theorem r3_peaks {T : AT} {S : MS} {r1 : Int32} {r2 : Int32} {k1 : Nat} {T1 : AT} {S1 : MS} (hV : IV aR0 1586 aK1 aK2 T) (hJ : JJ S) (h : R3 T S) (hg : g_X11_peaks T 0 = some (k1, r1, T1)) (hf : fr_peaks S = some (r2, S1)) : R3 T1 S1 := by
  have c := tgo (cs_X11_peaks T 0  hV rrole.2.2.2) hg
  exact r3_keep h (r2_peaks hV hJ h.1 hg hf) (si_X11_peaks hg) c.1.2 (by decide +kernel) ((w_fr_peaks hf).1 21 (by decide))
theorem r3_peakAt {T : AT} {S : MS} {a0 : Int32} {r1 : Int32} {r2 : Int32} {k1 : Nat} {T1 : AT} {S1 : MS} (hV : IV aR0 1586 aK1 aK2 T) (hJ : JJ S) (h : R3 T S) (hg : g_X11_peakAt T 0 a0 = some (k1, r1, T1)) (hf : fr_peakAt S a0 = some (r2, S1)) : R3 T1 S1 := by
  have c := tgo (cs_X11_peakAt T 0 a0 hV rrole.2.2.2) hg
  exact r3_keep h (r2_peakAt hV hJ h.1 hg hf) (si_X11_peakAt hg) c.1.2 (by decide +kernel) ((w_fr_peakAt hf).1 21 (by decide))
theorem r3_isPeak {T : AT} {S : MS} {a0 : Int32} {r1 : Int32} {r2 : Int32} {k1 : Nat} {T1 : AT} {S1 : MS} (hV : IV aR0 1586 aK1 aK2 T) (hJ : JJ S) (h : R3 T S) (hg : g_X11_isPeak T 0 a0 = some (k1, r1, T1)) (hf : fr_isPeak S a0 = some (r2, S1)) : R3 T1 S1 := by
  have c := tgo (cs_X11_isPeak T 0 a0 hV rrole.2.2.2) hg
  exact r3_keep h (r2_isPeak hV hJ h.1 hg hf) (si_X11_isPeak hg) c.1.2 (by decide +kernel) ((w_fr_isPeak hf).1 21 (by decide))
theorem r3_zonePower {T : AT} {S : MS} {a0 : Int32} {r1 : Int64} {r2 : Int64} {k1 : Nat} {T1 : AT} {S1 : MS} (hV : IV aR0 1586 aK1 aK2 T) (hJ : JJ S) (h : R3 T S) (hg : g_X11_zonePower T 0 a0 = some (k1, r1, T1)) (hf : fr_zonePower S a0 = some (r2, S1)) : R3 T1 S1 := by
  have c := tgo (cs_X11_zonePower T 0 a0 hV rrole.2.2.2) hg
  exact r3_keep h (r2_zonePower hV hJ h.1 hg hf) (si_X11_zonePower hg) c.1.2 (by decide +kernel) ((w_fr_zonePower hf).1 21 (by decide))
theorem r3_zoneBest {T : AT} {S : MS} {a0 : Int32} {r1 : Int32} {r2 : Int32} {k1 : Nat} {T1 : AT} {S1 : MS} (hV : IV aR0 1586 aK1 aK2 T) (hJ : JJ S) (h : R3 T S) (hg : g_X11_zoneBest T 0 a0 = some (k1, r1, T1)) (hf : fr_zoneBest S a0 = some (r2, S1)) : R3 T1 S1 := by
  have c := tgo (cs_X11_zoneBest T 0 a0 hV rrole.2.2.2) hg
  exact r3_keep h (r2_zoneBest hV hJ h.1 hg hf) (si_X11_zoneBest hg) c.1.2 (by decide +kernel) ((w_fr_zoneBest hf).1 21 (by decide))
theorem r3_contrast {T : AT} {S : MS} {r1 : UInt32} {r2 : UInt32} {k1 : Nat} {T1 : AT} {S1 : MS} (hV : IV aR0 1586 aK1 aK2 T) (hJ : JJ S) (h : R3 T S) (hg : g_X11_contrast T 0 = some (k1, r1, T1)) (hf : fr_contrast S = some (r2, S1)) : R3 T1 S1 := by
  have c := tgo (cs_X11_contrast T 0  hV rrole.2.2.2) hg
  exact r3_keep h (r2_contrast hV hJ h.1 hg hf) (si_X11_contrast hg) c.1.2 (by decide +kernel) ((w_fr_contrast hf).1 21 (by decide))
theorem r3_alias {T : AT} {S : MS} {a0 a1 a2 : Int32} {r1 : Int32} {r2 : Int32} {k1 : Nat} {T1 : AT} {S1 : MS} (hV : IV aR0 1586 aK1 aK2 T) (hJ : JJ S) (h : R3 T S) (hg : g_X11_alias T 0 a0 a1 a2 = some (k1, r1, T1)) (hf : fr_alias S a0 a1 a2 = some (r2, S1)) : R3 T1 S1 := by
  have c := tgo (cs_X11_alias T 0 a0 a1 a2 hV rrole.2.2.2) hg
  exact r3_eq h (r2_alias hV hJ h.1 hg hf) c.1 ((w_fr_alias hf).1 21 (by decide))
theorem r3_isAlias {T : AT} {S : MS} {a0 a1 a2 : Int32} {r1 : Int32} {r2 : Int32} {k1 : Nat} {T1 : AT} {S1 : MS} (hV : IV aR0 1586 aK1 aK2 T) (hJ : JJ S) (h : R3 T S) (hg : g_X11_isAlias T 0 a0 a1 a2 = some (k1, r1, T1)) (hf : fr_isAlias S a0 a1 a2 = some (r2, S1)) : R3 T1 S1 := by
  have c := tgo (cs_X11_isAlias T 0 a0 a1 a2 hV rrole.2.2.2) hg
  exact r3_keep h (r2_isAlias hV hJ h.1 hg hf) (si_X11_isAlias hg) c.1.2 (by decide +kernel) ((w_fr_isAlias hf).1 21 (by decide))
theorem r3_aliases {T : AT} {S : MS} {a0 a1 : Int32} {r1 : Int32} {r2 : Int32} {k1 : Nat} {T1 : AT} {S1 : MS} (hV : IV aR0 1586 aK1 aK2 T) (hJ : JJ S) (h : R3 T S) (hg : g_X11_aliases T 0 a0 a1 = some (k1, r1, T1)) (hf : fr_aliases S a0 a1 = some (r2, S1)) : R3 T1 S1 := by
  have c := tgo (cs_X11_aliases T 0 a0 a1 hV rrole.2.2.2) hg
  exact r3_keep h (r2_aliases hV hJ h.1 hg hf) (si_X11_aliases hg) c.1.2 (by decide +kernel) ((w_fr_aliases hf).1 21 (by decide))
theorem r3_blockPower {T : AT} {S : MS} {a0 a1 a2 : Int32} {r1 : Int64} {r2 : Int64} {k1 : Nat} {T1 : AT} {S1 : MS} (hV : IV aR0 1586 aK1 aK2 T) (hJ : JJ S) (h : R3 T S) (hg : g_X11_blockPower T 0 a0 a1 a2 = some (k1, r1, T1)) (hf : fr_blockPower S a0 a1 a2 = some (r2, S1)) : R3 T1 S1 := by
  have c := tgo (cs_X11_blockPower T 0 a0 a1 a2 hV rrole.2.2.2) hg
  exact r3_keep h (r2_blockPower hV hJ h.1 hg hf) (si_X11_blockPower hg) c.1.2 (by decide +kernel) ((w_fr_blockPower hf).1 21 (by decide))
theorem r3_blockBest {T : AT} {S : MS} {a0 a1 : Int32} {r1 : Int32} {r2 : Int32} {k1 : Nat} {T1 : AT} {S1 : MS} (hV : IV aR0 1586 aK1 aK2 T) (hJ : JJ S) (h : R3 T S) (hg : g_X11_blockBest T 0 a0 a1 = some (k1, r1, T1)) (hf : fr_blockBest S a0 a1 = some (r2, S1)) : R3 T1 S1 := by
  have c := tgo (cs_X11_blockBest T 0 a0 a1 hV rrole.2.2.2) hg
  exact r3_keep h (r2_blockBest hV hJ h.1 hg hf) (si_X11_blockBest hg) c.1.2 (by decide +kernel) ((w_fr_blockBest hf).1 21 (by decide))
theorem r3_path {T : AT} {S : MS} {a0 : Int32} {r1 : Int32} {r2 : Int32} {k1 : Nat} {T1 : AT} {S1 : MS} (hV : IV aR0 1586 aK1 aK2 T) (hJ : JJ S) (h : R3 T S) (hg : g_X11_path T 0 a0 = some (k1, r1, T1)) (hf : fr_path S a0 = some (r2, S1)) : R3 T1 S1 := by
  have c := tgo (cs_X11_path T 0 a0 hV rrole.2.2.2) hg
  exact r3_keep h (r2_path hV hJ h.1 hg hf) (si_X11_path hg) c.1.2 (by decide +kernel) ((w_fr_path hf).1 21 (by decide))
theorem r3_trackScore {T : AT} {S : MS} {a0 : Int32} {r1 : Int64} {r2 : Int64} {k1 : Nat} {T1 : AT} {S1 : MS} (hV : IV aR0 1586 aK1 aK2 T) (hJ : JJ S) (h : R3 T S) (hg : g_X11_trackScore T 0 a0 = some (k1, r1, T1)) (hf : fr_trackScore S a0 = some (r2, S1)) : R3 T1 S1 := by
  have c := tgo (cs_X11_trackScore T 0 a0 hV rrole.2.2.2) hg
  exact r3_keep h (r2_trackScore hV hJ h.1 hg hf) (si_X11_trackScore hg) c.1.2 (by decide +kernel) ((w_fr_trackScore hf).1 21 (by decide))
theorem r3_trackCell {T : AT} {S : MS} {a0 a1 : Int32} {r1 : Int32} {r2 : Int32} {k1 : Nat} {T1 : AT} {S1 : MS} (hV : IV aR0 1586 aK1 aK2 T) (hJ : JJ S) (h : R3 T S) (hg : g_X11_trackCell T 0 a0 a1 = some (k1, r1, T1)) (hf : fr_trackCell S a0 a1 = some (r2, S1)) : R3 T1 S1 := by
  have c := tgo (cs_X11_trackCell T 0 a0 a1 hV rrole.2.2.2) hg
  exact r3_keep h (r2_trackCell hV hJ h.1 hg hf) (si_X11_trackCell hg) c.1.2 (by decide +kernel) ((w_fr_trackCell hf).1 21 (by decide))
theorem r3_movingPower {T : AT} {S : MS} {a0 a1 a2 : Int32} {r1 : Int64} {r2 : Int64} {k1 : Nat} {T1 : AT} {S1 : MS} (hV : IV aR0 1586 aK1 aK2 T) (hJ : JJ S) (h : R3 T S) (hg : g_X11_movingPower T 0 a0 a1 a2 = some (k1, r1, T1)) (hf : fr_movingPower S a0 a1 a2 = some (r2, S1)) : R3 T1 S1 := by
  have c := tgo (cs_X11_movingPower T 0 a0 a1 a2 hV rrole.2.2.2) hg
  exact r3_keep h (r2_movingPower hV hJ h.1 hg hf) (si_X11_movingPower hg) c.1.2 (by decide +kernel) ((w_fr_movingPower hf).1 21 (by decide))
theorem r3_bestVelocity {T : AT} {S : MS} {a0 a1 a2 : Int32} {r1 : Int32} {r2 : Int32} {k1 : Nat} {T1 : AT} {S1 : MS} (hV : IV aR0 1586 aK1 aK2 T) (hJ : JJ S) (h : R3 T S) (hg : g_X11_bestVelocity T 0 a0 a1 a2 = some (k1, r1, T1)) (hf : fr_bestVelocity S a0 a1 a2 = some (r2, S1)) : R3 T1 S1 := by
  have c := tgo (cs_X11_bestVelocity T 0 a0 a1 a2 hV rrole.2.2.2) hg
  exact r3_keep h (r2_bestVelocity hV hJ h.1 hg hf) (si_X11_bestVelocity hg) c.1.2 (by decide +kernel) ((w_fr_bestVelocity hf).1 21 (by decide))
theorem r3_correlation {T : AT} {S : MS} {a0 a1 a2 : Int32} {r1 : Int64} {r2 : Int64} {k1 : Nat} {T1 : AT} {S1 : MS} (hV : IV aR0 1586 aK1 aK2 T) (hJ : JJ S) (h : R3 T S) (hg : g_X11_correlation T 0 a0 a1 a2 = some (k1, r1, T1)) (hf : fr_correlation S a0 a1 a2 = some (r2, S1)) : R3 T1 S1 := by
  have c := tgo (cs_X11_correlation T 0 a0 a1 a2 hV rrole.2.2.2) hg
  exact r3_keep h (r2_correlation hV hJ h.1 hg hf) (si_X11_correlation hg) c.1.2 (by decide +kernel) ((w_fr_correlation hf).1 21 (by decide))
theorem r3_bestLag {T : AT} {S : MS} {a0 a1 a2 : Int32} {r1 : Int32} {r2 : Int32} {k1 : Nat} {T1 : AT} {S1 : MS} (hV : IV aR0 1586 aK1 aK2 T) (hJ : JJ S) (h : R3 T S) (hg : g_X11_bestLag T 0 a0 a1 a2 = some (k1, r1, T1)) (hf : fr_bestLag S a0 a1 a2 = some (r2, S1)) : R3 T1 S1 := by
  have c := tgo (cs_X11_bestLag T 0 a0 a1 a2 hV rrole.2.2.2) hg
  exact r3_keep h (r2_bestLag hV hJ h.1 hg hf) (si_X11_bestLag hg) c.1.2 (by decide +kernel) ((w_fr_bestLag hf).1 21 (by decide))
theorem r3_level {T : AT} {S : MS} {a0 : Int32} {r1 : Int64} {r2 : Int64} {k1 : Nat} {T1 : AT} {S1 : MS} (hV : IV aR0 1586 aK1 aK2 T) (hJ : JJ S) (h : R3 T S) (hg : g_X11_level T 0 a0 = some (k1, r1, T1)) (hf : fr_level S a0 = some (r2, S1)) : R3 T1 S1 := by
  have c := tgo (cs_X11_level T 0 a0 hV rrole.2.2.2) hg
  exact r3_keep h (r2_level hV hJ h.1 hg hf) (si_X11_level hg) c.1.2 (by decide +kernel) ((w_fr_level hf).1 21 (by decide))
theorem r3_loudest {T : AT} {S : MS} {a0 : Int32} {r1 : Int32} {r2 : Int32} {k1 : Nat} {T1 : AT} {S1 : MS} (hV : IV aR0 1586 aK1 aK2 T) (hJ : JJ S) (h : R3 T S) (hg : g_X11_loudest T 0 a0 = some (k1, r1, T1)) (hf : fr_loudest S a0 = some (r2, S1)) : R3 T1 S1 := by
  have c := tgo (cs_X11_loudest T 0 a0 hV rrole.2.2.2) hg
  exact r3_keep h (r2_loudest hV hJ h.1 hg hf) (si_X11_loudest hg) c.1.2 (by decide +kernel) ((w_fr_loudest hf).1 21 (by decide))
theorem r3_writeMap {T : AT} {S : MS} {r1 : Int32} {r2 : Int32} {k1 : Nat} {T1 : AT} {S1 : MS} (hV : IV aR0 1586 aK1 aK2 T) (hJ : JJ S) (h : R3 T S) (hg : g_X11_writeMap T 0 = some (k1, r1, T1)) (hf : fr_writeMap S = some (r2, S1)) : R3 T1 S1 := by
  have c := tgo (cs_X11_writeMap T 0  hV rrole.2.2.2) hg
  exact r3_keep h (r2_writeMap hV hJ h.1 hg hf) (si_X11_writeMap hg) c.1.2 (by decide +kernel) ((w_fr_writeMap hf).1 21 (by decide))
theorem r3_mapByte {T : AT} {S : MS} {a0 : Int32} {r1 : Int32} {r2 : Int32} {k1 : Nat} {T1 : AT} {S1 : MS} (hV : IV aR0 1586 aK1 aK2 T) (hJ : JJ S) (h : R3 T S) (hg : g_X11_mapByte T 0 a0 = some (k1, r1, T1)) (hf : fr_mapByte S a0 = some (r2, S1)) : R3 T1 S1 := by
  have c := tgo (cs_X11_mapByte T 0 a0 hV rrole.2.2.2) hg
  exact r3_eq h (r2_mapByte hV hJ h.1 hg hf) c.1 ((w_fr_mapByte hf).1 21 (by decide))
theorem r3_pointBest {T : AT} {S : MS} {a0 a1 : Int32} {r1 : Int32} {r2 : Int32} {k1 : Nat} {T1 : AT} {S1 : MS} (hV : IV aR0 1586 aK1 aK2 T) (hJ : JJ S) (h : R3 T S) (hg : g_X11_pointBest T 0 a0 a1 = some (k1, r1, T1)) (hf : fr_pointBest S a0 a1 = some (r2, S1)) : R3 T1 S1 := by
  have c := tgo (cs_X11_pointBest T 0 a0 a1 hV rrole.2.2.2) hg
  exact r3_keep h (r2_pointBest hV hJ h.1 hg hf) (si_X11_pointBest hg) c.1.2 (by decide +kernel) (p21_pointBest h.2.2.2.2 hf)
theorem r3_pointPower {T : AT} {S : MS} {a0 a1 a2 : Int32} {r1 : Int64} {r2 : Int64} {k1 : Nat} {T1 : AT} {S1 : MS} (hV : IV aR0 1586 aK1 aK2 T) (hJ : JJ S) (h : R3 T S) (hg : g_X11_pointPower T 0 a0 a1 a2 = some (k1, r1, T1)) (hf : fr_pointPower S a0 a1 a2 = some (r2, S1)) : R3 T1 S1 := by
  have c := tgo (cs_X11_pointPower T 0 a0 a1 a2 hV rrole.2.2.2) hg
  exact r3_keep h (r2_pointPower hV hJ h.1 hg hf) (si_X11_pointPower hg) c.1.2 (by decide +kernel) (p21_pointPower h.2.2.2.2 hf)
theorem r3_bestWithout {T : AT} {S : MS} {a0 : Int32} {r1 : Int32} {r2 : Int32} {k1 : Nat} {T1 : AT} {S1 : MS} (hV : IV aR0 1586 aK1 aK2 T) (hJ : JJ S) (h : R3 T S) (hg : g_X11_bestWithout T 0 a0 = some (k1, r1, T1)) (hf : fr_bestWithout S a0 = some (r2, S1)) : R3 T1 S1 := by
  have c := tgo (cs_X11_bestWithout T 0 a0 hV rrole.2.2.2) hg
  exact r3_keep h (r2_bestWithout hV hJ h.1 hg hf) (si_X11_bestWithout hg) c.1.2 (by decide +kernel) ((w_fr_bestWithout hf).1 21 (by decide))
theorem r3_bestIfOff {T : AT} {S : MS} {a0 : Int32} {r1 : Int32} {r2 : Int32} {k1 : Nat} {T1 : AT} {S1 : MS} (hV : IV aR0 1586 aK1 aK2 T) (hJ : JJ S) (h : R3 T S) (hg : g_X11_bestIfOff T 0 a0 = some (k1, r1, T1)) (hf : fr_bestIfOff S a0 = some (r2, S1)) : R3 T1 S1 := by
  have c := tgo (cs_X11_bestIfOff T 0 a0 hV rrole.2.2.2) hg
  exact r3_keep h (r2_bestIfOff hV hJ h.1 hg hf) (si_X11_bestIfOff hg) c.1.2 (by decide +kernel) ((w_fr_bestIfOff hf).1 21 (by decide))
theorem r3_mute {T : AT} {S : MS} {a0 a1 : Int32} {r1 : Int32} {r2 : Int32} {k1 : Nat} {T1 : AT} {S1 : MS} (hV : IV aR0 1586 aK1 aK2 T) (hJ : JJ S) (hb : 0 ≤ a1.toInt ∧ a1.toInt ≤ 1) (h : R3 T S) (hg : g_X11_mute T 0 a0 a1 = some (k1, r1, T1)) (hf : fr_mute S a0 a1 = some (r2, S1)) : R3 T1 S1 := by
  have c := tgo (cs_X11_mute T 0 a0 a1 hV rrole.2.2.2 hb) hg
  exact r3_keep h (r2_mute hV hJ hb h.1 hg hf) (si_X11_mute hg) c.1.2 (by decide +kernel) ((w_fr_mute hf).1 21 (by decide))
theorem r3_setWeight {T : AT} {S : MS} {a0 a1 : Int32} {r1 : Int32} {r2 : Int32} {k1 : Nat} {T1 : AT} {S1 : MS} (hV : IV aR0 1586 aK1 aK2 T) (hJ : JJ S) (h : R3 T S) (hg : g_X11_setWeight T 0 a0 a1 = some (k1, r1, T1)) (hf : fr_setWeight S a0 a1 = some (r2, S1)) : R3 T1 S1 := by
  have c := tgo (cs_X11_setWeight T 0 a0 a1 hV rrole.2.2.2) hg
  exact r3_keep h (r2_setWeight hV hJ h.1 hg hf) (si_X11_setWeight hg) c.1.2 (by decide +kernel) ((w_fr_setWeight hf).1 21 (by decide))
theorem r3_setOn {T : AT} {S : MS} {a0 a1 : Int32} {r1 : Int32} {r2 : Int32} {k1 : Nat} {T1 : AT} {S1 : MS} (hV : IV aR0 1586 aK1 aK2 T) (hJ : JJ S) (hb : 0 ≤ a1.toInt ∧ a1.toInt ≤ 1) (h : R3 T S) (hg : g_X11_setOn T 0 a0 a1 = some (k1, r1, T1)) (hf : fr_setOn S a0 a1 = some (r2, S1)) : R3 T1 S1 := by
  have c := tgo (cs_X11_setOn T 0 a0 a1 hV rrole.2.2.2 hb) hg
  exact r3_keep h (r2_setOn hV hJ hb h.1 hg hf) (si_X11_setOn hg) c.1.2 (by decide +kernel) ((w_fr_setOn hf).1 21 (by decide))
theorem r3_moveSource {T : AT} {S : MS} {r1 r2 : Int32} {k1 : Nat} {T1 : AT} {S1 : MS} {a0 a1 a2 : Int32} (hV : IV aR0 1586 aK1 aK2 T) (hJ : JJ S) (h : R3 T S) (hg : g_X11_moveSource T 0 a0 a1 a2 = some (k1, r1, T1)) (hf : fr_moveSource S a0 a1 a2 = some (r2, S1)) : R3 T1 S1 := by
  have c := tgo (cs_X11_moveSource T 0 a0 a1 a2 hV rrole.2.2.2) hg
  exact r3_keep h (r2_moveSource hV hJ h.1 hg hf) (si_X11_moveSource hg) c.1.2 (by decide +kernel) ((w_fr_moveSource hf).1 21 (by decide))
theorem r3_setVelocity {T : AT} {S : MS} {r1 r2 : Int32} {k1 : Nat} {T1 : AT} {S1 : MS} {a0 a1 a2 : Int32} (hV : IV aR0 1586 aK1 aK2 T) (hJ : JJ S) (h : R3 T S) (hg : g_X11_setVelocity T 0 a0 a1 a2 = some (k1, r1, T1)) (hf : fr_setVelocity S a0 a1 a2 = some (r2, S1)) : R3 T1 S1 := by
  have c := tgo (cs_X11_setVelocity T 0 a0 a1 a2 hV rrole.2.2.2) hg
  exact r3_keep h (r2_setVelocity hV hJ h.1 hg hf) (si_X11_setVelocity hg) c.1.2 (by decide +kernel) ((w_fr_setVelocity hf).1 21 (by decide))
theorem r3_clean {T : AT} {S : MS} {r1 r2 : Int32} {k1 : Nat} {T1 : AT} {S1 : MS} {a0 : Int32} (hV : IV aR0 1586 aK1 aK2 T) (hJ : JJ S) (h : R3 T S) (hg : g_X11_clean T 0 a0 = some (k1, r1, T1)) (hf : fr_clean S a0 = some (r2, S1)) : R3 T1 S1 := by
  have c := tgo (cs_X11_clean T 0 a0 hV rrole.2.2.2) hg
  exact r3_keep h (r2_clean hV hJ h.1 hg hf) (si_X11_clean hg) c.1.2 (by decide +kernel) ((w_fr_clean hf).1 21 (by decide))
theorem r3_cleaned {T : AT} {S : MS} {r1 : Int32} {r2 : Int32} {k1 : Nat} {T1 : AT} {S1 : MS} (hV : IV aR0 1586 aK1 aK2 T) (hJ : JJ S) (h : R3 T S) (hg : g_X11_cleaned T 0 = some (k1, r1, T1)) (hf : fr_cleaned S = some (r2, S1)) : R3 T1 S1 := by
  have c := tgo (cs_X11_cleaned T 0  hV rrole.2.2.2) hg
  exact r3_eq h (r2_cleaned hV hJ h.1 hg hf) c.1 ((w_fr_cleaned hf).1 21 (by decide))
theorem r3_undo {T : AT} {S : MS} {r1 : Int32} {r2 : Int32} {k1 : Nat} {T1 : AT} {S1 : MS} (hV : IV aR0 1586 aK1 aK2 T) (hJ : JJ S) (h : R3 T S) (hg : g_X11_undo T 0 = some (k1, r1, T1)) (hf : fr_undo S = some (r2, S1)) : R3 T1 S1 := by
  have c := tgo (cs_X11_undo T 0  hV rrole.2.2.2) hg
  exact r3_keep h (r2_undo hV hJ h.1 hg hf) (si_X11_undo hg) c.1.2 (by decide +kernel) ((w_fr_undo hf).1 21 (by decide))
theorem r3_undoable {T : AT} {S : MS} {r1 : Int32} {r2 : Int32} {T1 : AT} {S1 : MS} (hV : IV aR0 1586 aK1 aK2 T) (hJ : JJ S) (h : R3 T S) (hg : g_X11_undoable T 0 = some (r1, T1)) (hf : fr_undoable S = some (r2, S1)) : R3 T1 S1 := by
  have c := tgo (cs_X11_undoable T 0  hV rrole.2.2.2) hg
  exact r3_eq h (r2_undoable hV hJ h.1 hg hf) c.1 ((w_fr_undoable hf).1 21 (by decide))
theorem r3_save {T : AT} {S : MS} {r1 r2 : Int32} {k1 : Nat} {T1 : AT} {S1 : MS} {a0 : Int32} (hV : IV aR0 1586 aK1 aK2 T) (hJ : JJ S) (h : R3 T S) (hg : g_X11_save T 0 a0 = some (k1, r1, T1)) (hf : fr_save S a0 = some (r2, S1)) : R3 T1 S1 := by
  have c := tgo (cs_X11_save T 0 a0 hV rrole.2.2.2) hg
  exact r3_keep h (r2_save hV hJ h.1 hg hf) (si_X11_save hg) c.1.2 (by decide +kernel) ((w_fr_save hf).1 21 (by decide))
theorem r3_restore {T : AT} {S : MS} {r1 r2 : Int32} {k1 : Nat} {T1 : AT} {S1 : MS} {a0 : Int32} (hV : IV aR0 1586 aK1 aK2 T) (hJ : JJ S) (h : R3 T S) (hg : g_X11_restore T 0 a0 = some (k1, r1, T1)) (hf : fr_restore S a0 = some (r2, S1)) : R3 T1 S1 := by
  have c := tgo (cs_X11_restore T 0 a0 hV rrole.2.2.2) hg
  exact r3_keep h (r2_restore hV hJ h.1 hg hf) (si_X11_restore hg) c.1.2 (by decide +kernel) ((w_fr_restore hf).1 21 (by decide))
