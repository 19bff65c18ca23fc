/-! writeMap: as many bytes in both -/
section
variable {T T1 : AT} {S S1 : MS}
theorem r_map0 {l1 : Int64} {r : Int32} : ∀ (n : Nat) (S : MS) (l3 : Int32), fr_writeMap_b31 n S l1 l3 = some (r, S1) → S1.1 0 = S.1 0 := by
  intro n
  induction n with
  | zero => intro S l3 h; cases h
  | succ n ih =>
    have b109 : ∀ {S : MS} {a b c l3 : Int32}, fr_writeMap_b109 (fr_writeMap_b31 n) S a b c l1 l3 = some (r, S1) → S1.1 0 = S.1 0 := by
      intro S a b c l3 h
      unfold fr_writeMap_b109 at h
      obtain ⟨v2, -, h⟩ := elet_some h
      obtain ⟨-, h⟩ := oif_some h
      obtain ⟨S4, e4, h⟩ := elet_some h
      obtain ⟨v5, -, h⟩ := elet_some h
      obtain ⟨v6, -, h⟩ := elet_some h
      obtain ⟨S7, e7, h⟩ := elet_some h
      obtain ⟨v8, -, h⟩ := elet_some h
      rw [ih _ _ h, e7, mi_ne (by decide), e4]
      rfl
    have b76 : ∀ {S : MS} {l3 : Int32}, fr_writeMap_b76 (fr_writeMap_b31 n) S l1 l3 = some (r, S1) → S1.1 0 = S.1 0 := by
      intro S l3 h
      unfold fr_writeMap_b76 at h
      obtain ⟨v2, -, h⟩ := elet_some h
      obtain ⟨v3, -, h⟩ := elet_some h
      rcases oif_or h with ⟨-, h⟩ | ⟨-, h⟩
      · exact b109 h
      · obtain ⟨-, h⟩ := oif_some h
        obtain ⟨v6, -, h⟩ := elet_some h
        obtain ⟨v7, -, h⟩ := elet_some h
        obtain ⟨-, h⟩ := oif_some h
        obtain ⟨v9, -, h⟩ := elet_some h
        obtain ⟨v10, -, h⟩ := elet_some h
        exact b109 h
    intro S l3 h
    unfold fr_writeMap_b31 at h
    obtain ⟨r5, S2, f5, h⟩ := obind2_some h
    have e2 : S2 = S := by
      unfold fr_cellCount at f5
      obtain ⟨v2, d2, f5⟩ := elet_some f5
      obtain ⟨v3, d3, f5⟩ := elet_some f5
      obtain ⟨v4, d4, f5⟩ := elet_some f5
      exact (osome2 f5).2.symm
    rcases oif_or h with ⟨-, h⟩ | ⟨-, h⟩
    · obtain ⟨v7, -, h⟩ := elet_some h
      rw [← (osome2 h).2, e2]
    · rcases oif_or h with ⟨-, h⟩ | ⟨-, h⟩
      · rw [b76 h, e2]
      · obtain ⟨v9, -, h⟩ := elet_some h
        obtain ⟨-, h⟩ := oif_some h
        obtain ⟨v11, -, h⟩ := elet_some h
        rcases oif_or h with ⟨-, h⟩ | ⟨-, h⟩
        · obtain ⟨v13, -, h⟩ := elet_some h
          obtain ⟨-, h⟩ := oif_some h
          obtain ⟨S15, e15, h⟩ := elet_some h
          obtain ⟨v16, -, h⟩ := elet_some h
          obtain ⟨v17, -, h⟩ := elet_some h
          obtain ⟨S18, e18, h⟩ := elet_some h
          rw [b76 h, e18, mi_ne (by decide), e15]
          show S2.1 0 = _
          rw [e2]
        · rw [b76 h, e2]
theorem r1h_writeMap {k1 : Nat} {r1 r2 : Int32} (hV : IV aR0 1586 aK1 aK2 T) (hJ : JJ S) (h : R1 T S) (hg : g_X11_writeMap T 0 = some (k1, r1, T1)) (hf : fr_writeMap S = some (r2, S1)) : S1.1 0 = vck 1 0 0 k1 ∧ (vck 1 0 0 k1 = 0 → k1 = 0 ∧ r1 = r2) := by
  have z0 : (0 : Int32).toInt = 0 := by decide
  obtain ⟨s, hs, h14, hr⟩ := h.2.2.2.2
  unfold fr_writeMap at hf
  obtain ⟨r5, S2, f5, hf⟩ := obind2_some hf
  obtain ⟨eS2, er5⟩ := r_ask f5
  unfold g_X11_writeMap at hg
  obtain ⟨-, hg⟩ := oif_some hg
  rcases othr_k hg with ⟨rc, gc, hc⟩ | ⟨rc, Tc, gc, hg⟩
  · obtain ⟨-, ⟨q, -⟩ | ⟨q, q5⟩⟩ := c_cam h14 gc
    · exact absurd q hc
    · rw [q]
      rcases hr with ⟨a, b, b4, b8⟩ | ⟨a, -⟩
      · obtain ⟨c, -, x, y, -⟩ := b.2.1
        exact absurd (y.trans (x.symm.trans q5)) b4
      · have w : wAsk S 1 = 1 := by unfold wAsk; rw [if_pos a]
        rw [w] at eS2 er5
        rw [if_pos (show r5 = 0 from er5)] at hf
        rw [← (osome2 hf).2, eS2, mi_at]
        exact ⟨rfl, fun q => absurd q (by decide)⟩
  · obtain ⟨eT, ⟨-, q5⟩ | ⟨q, -⟩⟩ := c_cam h14 gc
    case inr => exact absurd q (by decide)
    rw [eT] at hg
    rcases hr with ⟨a, b, b4, b8⟩ | ⟨-, -, a, -⟩
    case inr => exact absurd a q5
    have hP := r_pl hJ a
    obtain ⟨p1, p2, p3, p4⟩ := pl_cell hP
    have p9 := pl_9 hP
    have p10 := pl_10 hP
    have a20 : ¬ S.1 20 = 0 := by rw [a]; decide
    have w : wAsk S 1 = 0 := by unfold wAsk; rw [if_neg a20, if_neg (by decide)]
    rw [w] at eS2 er5
    rw [if_neg (show ¬ r5 = 0 from by rw [er5]; decide)] at hf
    obtain ⟨r10, S7, f10, hf⟩ := obind2_some hf
    obtain ⟨-, hf⟩ := oif_some hf
    obtain ⟨v12, e12, hf⟩ := elet_some hf
    obtain ⟨S13, e13, hf⟩ := elet_some hf
    obtain ⟨-, hg⟩ := oif_some hg
    obtain ⟨r9, T8, g8, hg⟩ := obind2_some hg
    obtain ⟨-, hg⟩ := oif_some hg
    unfold g_X11_writeMap_b8 at hg
    obtain ⟨-, hg⟩ := oif_some hg
    obtain ⟨T3, e3, hg⟩ := elet_some hg
    have c8 := tgo (cs_X11_powersNow T 0 hV rrole.2.2.2) g8
    have R8 : R1 T8 S := r1_keep h hV c8.1.2 (by decide +kernel) (sr_X11_powersNow g8) fk_rf
    have hV3 : IV aR0 1586 aK1 aK2 T3 := by
      rw [e3]
      exact iv_uI c8.1.1 rrole.2.2.2 (by decide) (by decide) (rfl : iR 11 18 = (0, 155)) (by decide) (.inl rfl)
    have R3 : R1 T3 S := r1_keep R8 c8.1.1 (W := [370]) (fw_uI e3 rrole.2.2.2 (by decide)) (by decide +kernel) (gr_sp (by rw [e3]; exact ⟨rfl, rfl, rfl⟩)) fk_rf
    have k7 := w_fr_bestIn_12 f10
    obtain ⟨c, hc, ec⟩ := nI_of01 (x := S.2.1 10 9) (a := 13) (by omega) (by omega) (by omega)
    obtain ⟨r, hr, er⟩ := nI_of01 (x := S.2.1 10 10) (a := 13) (by omega) (by omega) (by omega)
    have cI : (S.2.1 10 9).toInt = (c : Int) := by rw [ec]; exact nI_toInt (by omega)
    have rI : (S.2.1 10 10).toInt = (r : Int) := by rw [er]; exact nI_toInt (by omega)
    have hm : (nI c * nI r).toInt = ((c * r : Nat) : Int) := by
      rw [← ec, ← er, p1, cI, rI, Int.natCast_mul]
    have h144 : c * r ≤ 144 := by
      rw [p1, cI, rI, ← Int.natCast_mul] at p3
      omega
    have lp := map_loop (S0 := S) (l1 := r9) (lg := v12) (c := c) (r := r) (N := c * r) ⟨by omega, by omega⟩ ⟨by omega, by omega⟩ rfl h144 ec er hm a c8.2 16384 0 0 T3 S13 hV3 R3 (by rw [e13, show (mi S7 28 0).2.1 10 = S7.2.1 10 from rfl, k7.2 10 (by decide), eS2]; rfl) (by rw [e3, ui_at]; rfl) (by rw [e13, mi_at]; rfl) (by omega) (.inl ⟨rfl, rfl⟩) k1 r1 r2 T1 S1 hg hf
    refine ⟨?_, fun _ => lp⟩
    rw [r_map0 _ _ _ hf, e13, mi_ne (by decide), k7.1 0 (by decide), eS2, mi_at, lp.1]
    rfl
end
