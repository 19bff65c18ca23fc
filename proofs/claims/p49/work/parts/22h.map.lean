/-! a cell's byte: both count one more -/
section
variable {T T1 : AT} {S S1 : MS}
theorem fk_rf : FKq S S := ⟨rfl, rfl, rfl, rfl, rfl, rfl⟩
theorem c_b54 {k16 : AT → Nat → Nat → Int32 → Option (Nat × Int32 × AT)} {l1 : Nat} {l2 r1 : Int32} {k1 : Nat} (hV : IV aR0 1586 aK1 aK2 T) (h : R1 T S) (hl : aR0 l1 = 4) (hj : 0 ≤ l2.toInt ∧ l2.toInt ≤ 143) (hc : (T.2.2.1 0 18).toInt < 155) (hg : g_X11_writeMap_b54 k16 T 0 l1 l2 = some (k1, r1, T1)) : ∃ T4, IV aR0 1586 aK1 aK2 T4 ∧ R1 T4 S ∧ T4.2.2.1 0 18 = T.2.2.1 0 18 + 1 ∧ k16 T4 0 l1 (l2 + 1) = some (k1, r1, T1) := by
  have z48 : (48 : Int32).toInt = 48 := by decide
  unfold g_X11_writeMap_b54 at hg
  obtain ⟨-, hg⟩ := oif_some hg
  obtain ⟨n3, e3, hg⟩ := obind_some hg
  obtain ⟨q, eq, -, kq⟩ := hV.2.2.1 0 12 (iv_sta hV rrole.2.2.2 (by decide) (by decide)) (by rw [rrole.2.2.2]; decide)
  rw [e3] at eq
  cases eq
  rw [rrole.2.2.2] at kq
  obtain ⟨-, hg⟩ := oif_some hg
  obtain ⟨r6, T5, g6, hg⟩ := obind2_some hg
  have q := tgo (cs_X4_digit T l1 l2 n3 hV hl kq (by decide) hj (by decide)) g6
  unfold g_X11_writeMap_b66 at hg
  obtain ⟨v2, e2, hg⟩ := elet_some hg
  obtain ⟨-, hg⟩ := oif_some hg
  obtain ⟨T4, g4, hg⟩ := obind_some hg
  obtain ⟨v6, e6, hg⟩ := elet_some hg
  have q6 : 0 ≤ r6.toInt ∧ r6.toInt ≤ 9 := q.2
  have q2 := i_add e2 (by omega) (by omega)
  have q4 := tgo (cs_X11_addMapByte T5 0 v2 q.1.1 rrole.2.2.2 ⟨by omega, by omega⟩) g4
  have e18 : T5.2.2.1 0 18 = T.2.2.1 0 18 := q.1.2 0 18 (by rw [rrole.2.2.2]; decide)
  refine ⟨T4, q4.1, r1_keep (r1_keep h hV q.1.2 (by decide +kernel) (sr_X4_digit g6) fk_rf) q.1.1 q4.2 (by decide +kernel) (gr_sp (s_X11_addMapByte g4)) fk_rf, ?_, ?_⟩
  · rw [a_byte q.1.1 (by rw [e18]; exact hc) g4, e18]
  · rw [e6] at hg
    exact hg
theorem r_b109 {k31 : MS → Int64 → Int32 → Option (Int32 × MS)} {s0 s1 s2 l3 r2 : Int32} {l1 : Int64} (hf : fr_writeMap_b109 k31 S s0 s1 s2 l1 l3 = some (r2, S1)) : ∃ S7, S7.2.1 10 = S.2.1 10 ∧ S7.1 28 = S.1 28 + 1 ∧ k31 S7 l1 (l3 + 1) = some (r2, S1) := by
  unfold fr_writeMap_b109 at hf
  obtain ⟨v2, e2, hf⟩ := elet_some hf
  obtain ⟨-, hf⟩ := oif_some hf
  obtain ⟨S4, e4, hf⟩ := elet_some hf
  obtain ⟨v5, e5, hf⟩ := elet_some hf
  obtain ⟨v6, e6, hf⟩ := elet_some hf
  obtain ⟨S7, e7, hf⟩ := elet_some hf
  obtain ⟨v8, e8, hf⟩ := elet_some hf
  refine ⟨S7, ?_, ?_, ?_⟩
  · rw [e7, e4]
    rfl
  · rw [e7, mi_at, e6, e5, e4]
    rfl
  · rw [e8] at hf
    exact hf
theorem r_b76 {k31 : MS → Int64 → Int32 → Option (Int32 × MS)} {l3 r2 : Int32} {l1 : Int64} (hf : fr_writeMap_b76 k31 S l1 l3 = some (r2, S1)) : ∃ S7, S7.2.1 10 = S.2.1 10 ∧ S7.1 28 = S.1 28 + 1 ∧ k31 S7 l1 (l3 + 1) = some (r2, S1) := by
  unfold fr_writeMap_b76 at hf
  obtain ⟨v2, e2, hf⟩ := elet_some hf
  obtain ⟨v3, e3, hf⟩ := elet_some hf
  by_cases c : v3 = 0
  · rw [if_pos c] at hf
    exact r_b109 hf
  · rw [if_neg c] at hf
    obtain ⟨-, hf⟩ := oif_some hf
    obtain ⟨v6, e6, hf⟩ := elet_some hf
    obtain ⟨v7, e7, hf⟩ := elet_some hf
    obtain ⟨-, hf⟩ := oif_some hf
    obtain ⟨v9, e9, hf⟩ := elet_some hf
    obtain ⟨v10, e10, hf⟩ := elet_some hf
    exact r_b109 hf
end
