/-! the corner of the map stays 0: all lines, the whole text -/
section
variable {T T1 T0 : AT} {s k : Nat} {r : Int32}
theorem k_93 {a : Int32} (hs : s = 478 ∨ s = 656) (hV : IV aR0 1586 aK1 aK2 T) (h0 : 0 ≤ a.toInt ∧ a.toInt ≤ 1) (h2 : (T.2.2.1 6 1).toInt ≤ 1000) (h : g_X3_parseLine_b93 T a 6 6 s = some (k, r, T1)) : KW T T1 := by
  unfold g_X3_parseLine_b93 g_X3_parseLine_b209 at h
  obtain ⟨-, h⟩ := oif_some h
  rcases othr_k h with ⟨x, g, -⟩ | ⟨x, U3, g, h⟩
  · exact (ps_start hV h0 (by decide) h2 g).2.2
  have p3 := ps_start hV h0 (by decide) h2 g
  obtain ⟨-, h⟩ := oif_some h
  rcases othr_k h with ⟨x, g, -⟩ | ⟨x8, U8, g, h⟩
  · exact (p3.tr (ps_number p3.1 g).1).2.2
  have p8 := p3.tr (ps_number p3.1 g).1
  obtain ⟨-, h⟩ := oif_some h
  obtain ⟨U13, e13, h⟩ := elet_some h
  have k13 : KW U8 U13 := by rw [e13]; exact kw_ui (.inl (by omega))
  rw [← (osome3 h).2.2]
  exact p8.2.2.tr k13
theorem kw_line (hs : s = 478 ∨ s = 656) (hc : CRF T) (hV : IV aR0 1586 aK1 aK2 T) (h : g_X3_parseLine T 6 s = some (k, r, T1)) : KW T T1 := by
  have r6 := rrole.2.2.1
  have rs := rsrole hs
  have hF := hc.srf hs
  have z0 : (0 : Int32).toInt = 0 := by decide
  have pos : ∀ {w : Int32} {b : Prop}, ¬ w = 0 → (w.toInt = 0 ∨ b) → b := fun c q => by
    rcases q with q | q
    · exact absurd (Int32.toInt_inj.mp q) c
    · exact q
  unfold g_X3_parseLine g_X3_parseLine_b209 at h
  obtain ⟨-, h⟩ := oif_some h
  obtain ⟨w, U, g, h⟩ := obind2_some h
  have q := tgo (cs_X3_isWord T (sTx "mic") 6 hV r6 (by decide)) g
  rw [show U = T from q.1] at h
  rcases oif_or h with ⟨c, h⟩ | ⟨c, h⟩
  case inr =>
    obtain ⟨-, h⟩ := oif_some h
    rcases othr_k h with ⟨x, g, -⟩ | ⟨x, U, g, h⟩
    · exact kw_fw (tgo (cs_X3_parseMic T 6 s hV r6 rs (pos c q.2.2.2)) g).1.2 (by decide)
    · rw [← (osome3 h).2.2]
      exact kw_fw (tgo (cs_X3_parseMic T 6 s hV r6 rs (pos c q.2.2.2)) g).1.2 (by decide)
  obtain ⟨-, h⟩ := oif_some h
  obtain ⟨w, U, g, h⟩ := obind2_some h
  have q := tgo (cs_X3_isWord T (sTx "map") 6 hV r6 (by decide)) g
  rw [show U = T from q.1] at h
  rcases oif_or h with ⟨c, h⟩ | ⟨c, h⟩
  case inr =>
    obtain ⟨-, h⟩ := oif_some h
    obtain ⟨n6, en, h⟩ := obind_some h
    rw [hF.2.1] at en
    cases en
    obtain ⟨-, h⟩ := oif_some h
    rcases othr_k h with ⟨x, g, -⟩ | ⟨x, U, g, h⟩
    · exact k_map hs hc hV (pos c q.2.2.2) g
    · rw [← (osome3 h).2.2]
      exact k_map hs hc hV (pos c q.2.2.2) g
  obtain ⟨-, h⟩ := oif_some h
  obtain ⟨w, U, g, h⟩ := obind2_some h
  have q := tgo (cs_X3_isWord T (sTx "source") 6 hV r6 (by decide)) g
  rw [show U = T from q.1] at h
  rcases oif_or h with ⟨c, h⟩ | ⟨c, h⟩
  case inr =>
    obtain ⟨-, h⟩ := oif_some h
    rcases othr_k h with ⟨x, g, -⟩ | ⟨x, U, g, h⟩
    · exact kw_fw (tgo (cs_X3_parseSource T 6 s hV r6 rs (pos c q.2.2.2)) g).1.2 (by decide)
    · rw [← (osome3 h).2.2]
      exact kw_fw (tgo (cs_X3_parseSource T 6 s hV r6 rs (pos c q.2.2.2)) g).1.2 (by decide)
  obtain ⟨-, h⟩ := oif_some h
  obtain ⟨w, U, g, h⟩ := obind2_some h
  have q := tgo (cs_X3_isWord T (sTx "wall") 6 hV r6 (by decide)) g
  rw [show U = T from q.1] at h
  rcases oif_or h with ⟨c, h⟩ | ⟨c, h⟩
  case inr =>
    obtain ⟨-, h⟩ := oif_some h
    rcases othr_k h with ⟨x, g, -⟩ | ⟨x, U, g, h⟩
    · exact kw_fw (tgo (cs_X3_parseWall T 6 s hV r6 rs (pos c q.2.2.2)) g).1.2 (by decide)
    · rw [← (osome3 h).2.2]
      exact kw_fw (tgo (cs_X3_parseWall T 6 s hV r6 rs (pos c q.2.2.2)) g).1.2 (by decide)
  obtain ⟨-, h⟩ := oif_some h
  obtain ⟨w, U, g, h⟩ := obind2_some h
  have q := tgo (cs_X3_isWord T (sTx "fade") 6 hV r6 (by decide)) g
  rw [show U = T from q.1] at h
  rcases oif_or h with ⟨c, h⟩ | ⟨c, h⟩
  case inr =>
    obtain ⟨-, h⟩ := oif_some h
    obtain ⟨v, -, h⟩ := elet_some h
    rcases oif_or h with ⟨-, h⟩ | ⟨-, h⟩
    · exact k_93 hs hV (by decide) (pos c q.2.2.2) h
    · exact k_93 hs hV (by decide) (pos c q.2.2.2) h
  obtain ⟨-, h⟩ := oif_some h
  obtain ⟨w, U, g, h⟩ := obind2_some h
  have q := tgo (cs_X3_isWord T (sTx "filter") 6 hV r6 (by decide)) g
  rw [show U = T from q.1] at h
  rcases oif_or h with ⟨c, h⟩ | ⟨c, h⟩
  case inr =>
    obtain ⟨-, h⟩ := oif_some h
    rcases othr_k h with ⟨x, g, -⟩ | ⟨x, U, g, h⟩
    · exact kw_fw (tgo (cs_X3_parseFilter T 6 s hV r6 rs (pos c q.2.2.2)) g).1.2 (by decide)
    · rw [← (osome3 h).2.2]
      exact kw_fw (tgo (cs_X3_parseFilter T 6 s hV r6 rs (pos c q.2.2.2)) g).1.2 (by decide)
  obtain ⟨-, h⟩ := oif_some h
  obtain ⟨w, U, g, h⟩ := obind2_some h
  have q := tgo (cs_X3_isWord T (sTx "clock") 6 hV r6 (by decide)) g
  rw [show U = T from q.1] at h
  rcases oif_or h with ⟨c, h⟩ | ⟨c, h⟩
  case inr =>
    obtain ⟨-, h⟩ := oif_some h
    rcases othr_k h with ⟨x, g, -⟩ | ⟨x, U, g, h⟩
    · exact kw_fw (tgo (cs_X3_parseClock T 6 s hV r6 rs (pos c q.2.2.2)) g).1.2 (by decide)
    · rw [← (osome3 h).2.2]
      exact kw_fw (tgo (cs_X3_parseClock T 6 s hV r6 rs (pos c q.2.2.2)) g).1.2 (by decide)
  obtain ⟨-, h⟩ := oif_some h
  obtain ⟨w, U, g, h⟩ := obind2_some h
  have q := tgo (cs_X3_isWord T (sTx "zone") 6 hV r6 (by decide)) g
  rw [show U = T from q.1] at h
  rcases oif_or h with ⟨c, h⟩ | ⟨c, h⟩
  case inr =>
    obtain ⟨-, h⟩ := oif_some h
    obtain ⟨n6, en, h⟩ := obind_some h
    rw [hF.2.1] at en
    cases en
    obtain ⟨-, h⟩ := oif_some h
    rcases othr_k h with ⟨x, g, -⟩ | ⟨x, U, g, h⟩
    · exact k_zone hs hc hV (pos c q.2.2.2) g
    · rw [← (osome3 h).2.2]
      exact k_zone hs hc hV (pos c q.2.2.2) g
  obtain ⟨-, h⟩ := oif_some h
  obtain ⟨w, U, g, h⟩ := obind2_some h
  have q := tgo (cs_X3_isWord T (sTx "shade") 6 hV r6 (by decide)) g
  rw [show U = T from q.1] at h
  rcases oif_or h with ⟨c, h⟩ | ⟨c, h⟩
  case inr =>
    obtain ⟨-, h⟩ := oif_some h
    rcases othr_k h with ⟨x, g, -⟩ | ⟨x, U, g, h⟩
    · exact kw_fw (tgo (cs_X3_parseShade T 6 s hV r6 rs (pos c q.2.2.2)) g).1.2 (by decide)
    · rw [← (osome3 h).2.2]
      exact kw_fw (tgo (cs_X3_parseShade T 6 s hV r6 rs (pos c q.2.2.2)) g).1.2 (by decide)
  obtain ⟨-, h⟩ := oif_some h
  obtain ⟨w, U, g, h⟩ := obind2_some h
  have q := tgo (cs_X3_isWord T (sTx "off") 6 hV r6 (by decide)) g
  rw [show U = T from q.1] at h
  rcases oif_or h with ⟨c, h⟩ | ⟨c, h⟩
  case inr =>
    obtain ⟨-, h⟩ := oif_some h
    rcases othr_k h with ⟨x, g, -⟩ | ⟨x, U, g, h⟩
    · exact kw_fw (tgo (cs_X3_parseOff T 6 s hV r6 rs (pos c q.2.2.2)) g).1.2 (by decide)
    · rw [← (osome3 h).2.2]
      exact kw_fw (tgo (cs_X3_parseOff T 6 s hV r6 rs (pos c q.2.2.2)) g).1.2 (by decide)
  obtain ⟨-, h⟩ := oif_some h
  obtain ⟨v, ev, h⟩ := elet_some h
  have rv := iv_int hV r6 (by decide) (by decide) ev (rfl : iR 3 1 = (0, 1001))
  obtain ⟨-, h⟩ := oif_some h
  rcases othr_k h with ⟨x, g, -⟩ | ⟨x, U, g, h⟩
  · exact kw_fw (tgo (cs_X3_failAt T 6 v 1 hV r6 (by omega) (by decide)) g).1.2 (by decide)
  · rw [← (osome3 h).2.2]
    exact kw_fw (tgo (cs_X3_failAt T 6 v 1 hV r6 (by omega) (by decide)) g).1.2 (by decide)
set_option maxRecDepth 100000 in
theorem pa_dec : okc 6 && decide ((arf 6).getD 0 none = some 1) = true := by decide +kernel
theorem kw_parse {n : Int32} (hs : s = 478 ∨ s = 656) (hc : CRF T) (hV : IV aR0 1586 aK1 aK2 T) (hn : 0 ≤ n.toInt ∧ n.toInt ≤ 1000) (h : g_X3_parse T 6 n s = some (k, r, T1)) : KW T T1 := by
  have r6 := rrole.2.2.1
  have rs := rsrole hs
  have z1 : (1 : Int32).toInt = 1 := by decide
  have pd := (Bool.and_eq_true _ _).mp pa_dec
  have ref6 : ∀ {U : AT}, CRF U → U.2.2.2.2 6 0 = some 1 := fun hU => (hU.at 6 pd.1 _).trans (of_decide_eq_true pd.2)
  have b107 : ∀ {U : AT}, g_X3_parse_b107 U 6 = some (k, r, T1) → KW U T1 := by
    intro U h
    unfold g_X3_parse_b107 at h
    obtain ⟨-, h⟩ := oif_some h
    obtain ⟨U3, e3, h⟩ := elet_some h
    obtain ⟨-, h⟩ := oif_some h
    obtain ⟨U5, e5, h⟩ := elet_some h
    have k3 : KW U U3 := by rw [e3]; exact kw_ui (.inl (by decide))
    have k5 : KW U3 U5 := by rw [e5]; exact kw_ui (.inl (by decide))
    rw [← (osome3 h).2.2]
    exact k3.tr k5
  have b98 : ∀ {U : AT}, IV aR0 1586 aK1 aK2 U → g_X3_parse_b98 U 6 = some (k, r, T1) → KW U T1 := by
    intro U hU h
    unfold g_X3_parse_b98 at h
    obtain ⟨-, h⟩ := oif_some h
    obtain ⟨v, ev, h⟩ := elet_some h
    have rv := iv_int hU r6 (by decide) (by decide) ev (rfl : iR 3 1 = (0, 1001))
    obtain ⟨-, h⟩ := oif_some h
    rcases othr_k h with ⟨x, g, -⟩ | ⟨x, V, g, h⟩
    · exact kw_fw (tgo (cs_X3_failAt U 6 v 5 hU r6 (by omega) (by decide)) g).1.2 (by decide)
    · exact (kw_fw (tgo (cs_X3_failAt U 6 v 5 hU r6 (by omega) (by decide)) g).1.2 (by decide)).tr (b107 h)
  have b81 : ∀ {U : AT}, IV aR0 1586 aK1 aK2 U → g_X3_parse_b81 U 6 s = some (k, r, T1) → KW U T1 := by
    intro U hU h
    unfold g_X3_parse_b81 at h
    obtain ⟨-, h⟩ := oif_some h
    obtain ⟨v3, -, h⟩ := elet_some h
    rcases oif_or h with ⟨-, h⟩ | ⟨-, h⟩
    · exact b98 hU h
    · obtain ⟨-, h⟩ := oif_some h
      obtain ⟨n6, -, h⟩ := obind_some h
      obtain ⟨-, h⟩ := oif_some h
      obtain ⟨v8, -, h⟩ := elet_some h
      rcases oif_or h with ⟨-, h⟩ | ⟨-, h⟩
      · exact b98 hU h
      · exact b107 h
  have lp : ∀ (f : Nat) {U : AT} {l : Int32}, CRF U → IV aR0 1586 aK1 aK2 U → g_X3_parse_b24 f U 6 s l = some (k, r, T1) → KW U T1 := by
    intro f
    induction f with
    | zero => intro U l hcU hU h; cases h
    | succ f ih =>
      intro U l hcU hU h
      have b60 : ∀ {V : AT}, (V.2.2.1 6 1).toInt ≤ 1000 → CRF V → IV aR0 1586 aK1 aK2 V → g_X3_parse_b60 (g_X3_parse_b24 f) V 6 s l = some (k, r, T1) → KW V T1 := by
        intro V h3 hcV hV2 h
        unfold g_X3_parse_b60 at h
        obtain ⟨-, h⟩ := oif_some h
        obtain ⟨v3, e3, h⟩ := elet_some h
        have r3 := iv_int hV2 r6 (by decide) (by decide) e3 (rfl : iR 3 1 = (0, 1001))
        rw [← e3] at h3
        obtain ⟨v4, e4, h⟩ := elet_some h
        have q4 := i_add e4 (by omega) (by omega)
        obtain ⟨-, h⟩ := oif_some h
        obtain ⟨V6, e6, h⟩ := elet_some h
        have hV6 : IV aR0 1586 aK1 aK2 V6 := by rw [e6]; exact iv_uI (a := 0) (b := 1001) hV2 r6 (by decide) (by decide) rfl (by omega) (.inl rfl)
        have hc6 : CRF V6 := crf_eq hcV (by rw [e6]; rfl)
        have k6 : KW V V6 := by rw [e6]; exact kw_ui (.inl (by decide))
        obtain ⟨-, h⟩ := oif_some h
        rcases othr_k h with ⟨x, g, -⟩ | ⟨x, V8, g, h⟩
        · exact k6.tr (kw_line hs hc6 hV6 g)
        · obtain ⟨v12, -, h⟩ := elet_some h
          have c := tgo (cs_X3_parseLine V6 6 s hV6 r6 rs) g
          exact (k6.tr (kw_line hs hc6 hV6 g)).tr (ih (crf_eq hc6 (s_X3_parseLine g).2.2) c.1.1 h)
      unfold g_X3_parse_b24 at h
      obtain ⟨-, h⟩ := oif_some h
      obtain ⟨n3, en, h⟩ := obind_some h
      obtain ⟨-, h⟩ := oif_some h
      obtain ⟨v5, -, h⟩ := elet_some h
      rcases oif_or h with ⟨-, h⟩ | ⟨-, h⟩
      · exact b81 hU h
      · obtain ⟨-, h⟩ := oif_some h
        obtain ⟨w, V, g, h⟩ := obind2_some h
        have q := tgo (cs_X3_kind U 6 hU r6) g
        rw [show V = U from q.1] at h
        rcases oif_or h with ⟨-, h⟩ | ⟨c, h⟩
        · exact b81 hU h
        · have h3 : (U.2.2.1 6 1).toInt ≤ 1000 := by
            rcases q.2 with e | e
            · exact absurd (Int32.toInt_inj.mp (e.trans (by decide))) c
            · exact e
          obtain ⟨-, h⟩ := oif_some h
          obtain ⟨w2, V2, g2, h⟩ := obind2_some h
          have q2 := tgo (cs_X3_kind U 6 hU r6) g2
          rw [show V2 = U from q2.1] at h
          rcases oif_or h with ⟨-, h⟩ | ⟨-, h⟩
          · exact b60 h3 hcU hU h
          · obtain ⟨-, h⟩ := oif_some h
            obtain ⟨v20, e20, h⟩ := elet_some h
            have r20 := iv_int hU r6 (by decide) (by decide) e20 (rfl : iR 3 1 = (0, 1001))
            obtain ⟨-, h⟩ := oif_some h
            rcases othr_k h with ⟨x, g, -⟩ | ⟨x, V, g, h⟩
            · exact kw_fw (tgo (cs_X3_failAt U 6 v20 1 hU r6 (by omega) (by decide)) g).1.2 (by decide)
            · exact ((tgo (cs_X3_failAt U 6 v20 1 hU r6 (by omega) (by decide)) g).2 rfl).elim
  unfold g_X3_parse at h
  obtain ⟨-, h⟩ := oif_some h
  obtain ⟨n3, en, h⟩ := obind_some h
  rw [ref6 hc] at en
  cases en
  obtain ⟨-, h⟩ := oif_some h
  obtain ⟨U5, g5, h⟩ := obind_some h
  have c5 := tgo (cs_X9_cut T 1 n hV rrole.1 hn) g5
  have hc5 := crf_eq hc (s_X9_cut g5).2.2
  obtain ⟨-, h⟩ := oif_some h
  obtain ⟨U8, e8, h⟩ := elet_some h
  have hV8 : IV aR0 1586 aK1 aK2 U8 := by rw [e8]; exact iv_uI (a := 0) (b := 1001) c5.1 r6 (by decide) (by decide) rfl (by decide) (.inl rfl)
  have hc8 : CRF U8 := crf_eq hc5 (by rw [e8]; rfl)
  have k8 : KW U5 U8 := by rw [e8]; exact kw_ui (.inl (by decide))
  obtain ⟨-, h⟩ := oif_some h
  obtain ⟨U10, g10, h⟩ := obind_some h
  have c10 := tgo (cs_X6_clear U8 s hV8 rs) g10
  have hc10 := crf_eq hc8 (s_X6_clear g10).2.2
  have k10 : KW T U10 := ((kw_fw c5.2 (by decide)).tr k8).tr (kw_fw c10.2 (by decide))
  obtain ⟨-, h⟩ := oif_some h
  rcases othr_k h with ⟨x, g, -⟩ | ⟨x, U13, g, h⟩
  · exact k10.tr (kw_fw (tgo (cs_X3_parseHead U10 6 s c10.1 r6 rs) g).1.2 (by decide))
  · have c := tgo (cs_X3_parseHead U10 6 s c10.1 r6 rs) g
    exact (k10.tr (kw_fw c.1.2 (by decide))).tr (lp 16384 (crf_eq hc10 (s_X3_parseHead g).2.2) c.1.1 h)
end
