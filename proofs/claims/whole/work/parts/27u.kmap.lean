/-! the corner of the map stays 0: lines map and zone -/
section
variable {T T1 T0 : AT} {s k : Nat} {r : Int32}
def KW (T T1 : AT) : Prop := ∀ s, s = 478 ∨ s = 656 → T1.2.2.1 (s + 3) 0 = T.2.2.1 (s + 3) 0 ∧ T1.2.2.1 (s + 3) 1 = T.2.2.1 (s + 3) 1
theorem KW.rf : KW T T := fun _ _ => ⟨rfl, rfl⟩
theorem KW.tr (h : KW T0 T) (k : KW T T1) : KW T0 T1 := fun s hs => ⟨(k s hs).1.trans (h s hs).1, (k s hs).2.trans (h s hs).2⟩
theorem kw_fw {W : List Nat} (hw : FW aR0 W T T1) (c : W.contains 1888 = false) : KW T T1 := fun s hs => by
  have r := (sro hs).2.2.1
  exact ⟨hw _ 0 (by rw [r]; exact c), hw _ 1 (by rw [r]; exact c)⟩
theorem kw_ui {n j : Nat} {v : Int32} (h : n ≠ 481 ∧ n ≠ 659 ∨ 2 ≤ j) : KW T (uI T n j v) := fun s hs => by
  have e0 : s + 3 ≠ n ∨ 0 ≠ j := by omega
  have e1 : s + 3 ≠ n ∨ 1 ≠ j := by omega
  exact ⟨ui_ne e0, ui_ne e1⟩
/-- a step of the parser: the cells are still in order, the references as they were, the corner as it was -/
def PS (T T1 : AT) : Prop := IV aR0 1586 aK1 aK2 T1 ∧ SP T T1 ∧ KW T T1
theorem PS.tr (h : PS T0 T) (k : PS T T1) : PS T0 T1 := ⟨k.1, h.2.1.tr k.2.1, h.2.2.tr k.2.2⟩
theorem ps_start {a b : Int32} (hV : IV aR0 1586 aK1 aK2 T) (h0 : 0 ≤ a.toInt ∧ a.toInt ≤ 1) (h1 : 3 ≤ b.toInt ∧ b.toInt ≤ 4) (h2 : (T.2.2.1 6 1).toInt ≤ 1000) (h : g_X3_startLine T 6 a b = some (k, r, T1)) : PS T T1 := by
  have c := tgo (cs_X3_startLine T 6 a b hV rrole.2.2.1 h0 h1 h2) h
  exact ⟨c.1.1, s_X3_startLine h, kw_fw c.1.2 (by decide)⟩
theorem ps_signed {a b : Int32} (hV : IV aR0 1586 aK1 aK2 T) (h0 : -2000 ≤ a.toInt ∧ a.toInt ≤ -9) (h1 : 9 ≤ b.toInt ∧ b.toInt ≤ 2000) (h : g_X3_signed T 6 a b = some (k, r, T1)) : PS T T1 ∧ (k = 0 → a.toInt ≤ r.toInt ∧ r.toInt ≤ b.toInt) := by
  have c := tgo (cs_X3_signed T 6 a b hV rrole.2.2.1 h0 h1) h
  exact ⟨⟨c.1.1, s_X3_signed h, kw_fw c.1.2 (by decide)⟩, c.2⟩
theorem ps_number {a b : Int32} (hV : IV aR0 1586 aK1 aK2 T) (h : g_X3_number T 6 a b = some (k, r, T1)) : PS T T1 ∧ (k = 0 → a.toInt ≤ r.toInt ∧ r.toInt ≤ b.toInt) := by
  have c := tgo (cs_X3_number T 6 a b hV rrole.2.2.1) h
  exact ⟨⟨c.1.1, s_X3_number h, kw_fw c.1.2 (by decide)⟩, c.2⟩
theorem k_open {a b : Int32} (hs : s = 478 ∨ s = 656) (hc : CRF T) (h : g_X1_open T (s + 2) a b = some T1) : KW T T1 := by
  unfold g_X1_open at h
  obtain ⟨-, h⟩ := oif_some h
  obtain ⟨T3, e3, h⟩ := elet_some h
  obtain ⟨-, h⟩ := oif_some h
  obtain ⟨T5, e5, h⟩ := elet_some h
  have hc5 := crf_eq hc (show T5.2.2.2.2 = T.2.2.2.2 by rw [e5, e3]; rfl)
  obtain ⟨-, h⟩ := oif_some h
  obtain ⟨n7, en, h⟩ := obind_some h
  rw [(hc5.srf hs).2.2.2.2.2.2.2.2.2.2.1] at en
  cases en
  obtain ⟨v8, d8, h⟩ := elet_some h
  obtain ⟨-, h⟩ := oif_some h
  obtain ⟨-, h⟩ := oif_some h
  obtain ⟨T11, e11, h⟩ := elet_some h
  have hc11 := crf_eq hc5 (show T11.2.2.2.2 = T5.2.2.2.2 by rw [e11]; rfl)
  obtain ⟨-, h⟩ := oif_some h
  obtain ⟨n13, en, h⟩ := obind_some h
  rw [(hc11.srf hs).2.2.2.2.2.2.2.2.2.2.1] at en
  cases en
  obtain ⟨v14, d14, h⟩ := elet_some h
  obtain ⟨-, h⟩ := oif_some h
  obtain ⟨-, h⟩ := oif_some h
  obtain ⟨T17, e17, h⟩ := elet_some h
  have k3 : KW T T3 := by rw [e3]; exact kw_ui (.inl (by omega))
  have k5 : KW T3 T5 := by rw [e5]; exact kw_ui (.inl (by omega))
  have k11 : KW T5 T11 := by rw [e11]; exact kw_ui (.inr (by decide))
  have k17 : KW T11 T17 := by rw [e17]; exact kw_ui (.inr (by decide))
  rw [← osome1 h]
  exact ((k3.tr k5).tr k11).tr k17
theorem ps_grid {j : Nat} {v : Int32} {a b : Int} (hs : s = 478 ∨ s = 656) (hV : IV aR0 1586 aK1 aK2 T) (hi : iR 1 j = (a, b)) (hv : a ≤ v.toInt ∧ v.toInt ≤ b) (e : T1 = uI T (s + 2) j v) : PS T T1 := by
  rw [e]
  exact ⟨iv_uI hV (sro hs).2.1 (by decide) (by decide) hi hv (.inl rfl), sp_uI, kw_ui (.inl (by omega))⟩
theorem k_map13 {a : Int32} (hs : s = 478 ∨ s = 656) (hc : CRF T) (hV : IV aR0 1586 aK1 aK2 T) (h0 : 0 ≤ a.toInt ∧ a.toInt ≤ 1) (h2 : (T.2.2.1 6 1).toInt ≤ 1000) (h : g_X3_parseMap_b13 T a 6 6 (s + 2) = some (k, r, T1)) : KW T T1 := by
  have z9 : (999 : Int32).toInt = 999 := by decide
  have zm : ((-999) : Int32).toInt = -999 := by decide
  have z1 : (1 : Int32).toInt = 1 := by decide
  have z99 : (99 : Int32).toInt = 99 := by decide
  unfold g_X3_parseMap_b13 at h
  obtain ⟨-, h⟩ := oif_some h
  rcases othr_k h with ⟨x, g, -⟩ | ⟨x, U3, g, h⟩
  · exact (ps_start hV h0 (by decide) h2 g).2.2
  have p3 := ps_start hV h0 (by decide) h2 g
  obtain ⟨-, h⟩ := oif_some h
  rcases othr_k h with ⟨x, g, -⟩ | ⟨x8, U8, g, h⟩
  · exact (p3.tr (ps_signed p3.1 (by decide) (by decide) g).1).2.2
  have q8 := ps_signed p3.1 (by decide) (by decide) g
  have p8 := p3.tr q8.1
  have b8 := q8.2 rfl
  obtain ⟨-, h⟩ := oif_some h
  obtain ⟨U13, e13, h⟩ := elet_some h
  have p13 := p8.tr (ps_grid (a := -999) (b := 999) hs p8.1 rfl (by omega) e13)
  obtain ⟨-, h⟩ := oif_some h
  rcases othr_k h with ⟨x, g, -⟩ | ⟨x15, U15, g, h⟩
  · exact (p13.tr (ps_signed p13.1 (by decide) (by decide) g).1).2.2
  have q15 := ps_signed p13.1 (by decide) (by decide) g
  have p15 := p13.tr q15.1
  have b15 := q15.2 rfl
  obtain ⟨-, h⟩ := oif_some h
  obtain ⟨U20, e20, h⟩ := elet_some h
  have p20 := p15.tr (ps_grid (a := -999) (b := 999) hs p15.1 rfl (by omega) e20)
  obtain ⟨-, h⟩ := oif_some h
  rcases othr_k h with ⟨x, g, -⟩ | ⟨x22, U22, g, h⟩
  · exact (p20.tr (ps_number p20.1 g).1).2.2
  have q22 := ps_number p20.1 g
  have p22 := p20.tr q22.1
  have b22 := q22.2 rfl
  obtain ⟨-, h⟩ := oif_some h
  obtain ⟨U27, e27, h⟩ := elet_some h
  have p27 := p22.tr (ps_grid (a := 0) (b := 99) hs p22.1 rfl (by omega) e27)
  obtain ⟨-, h⟩ := oif_some h
  rcases othr_k h with ⟨x, g, -⟩ | ⟨x29, U29, g, h⟩
  · exact (p27.tr (ps_number p27.1 g).1).2.2
  have p29 := p27.tr (ps_number p27.1 g).1
  obtain ⟨-, h⟩ := oif_some h
  rcases othr_k h with ⟨x, g, -⟩ | ⟨x34, U34, g, h⟩
  · exact (p29.tr (ps_number p29.1 g).1).2.2
  have p34 := p29.tr (ps_number p29.1 g).1
  obtain ⟨-, h⟩ := oif_some h
  obtain ⟨U39, g39, h⟩ := obind_some h
  rw [← (osome3 h).2.2]
  exact p34.2.2.tr (k_open hs (crf_eq hc p34.2.1.2.2) g39)
theorem k_map (hs : s = 478 ∨ s = 656) (hc : CRF T) (hV : IV aR0 1586 aK1 aK2 T) (h2 : (T.2.2.1 6 1).toInt ≤ 1000) (h : g_X3_parseMap T 6 (s + 2) = some (k, r, T1)) : KW T T1 := by
  unfold g_X3_parseMap at h
  obtain ⟨-, h⟩ := oif_some h
  obtain ⟨v3, -, h⟩ := elet_some h
  rcases oif_or h with ⟨-, h⟩ | ⟨-, h⟩
  · exact k_map13 hs hc hV (by decide) h2 h
  · exact k_map13 hs hc hV (by decide) h2 h
end
