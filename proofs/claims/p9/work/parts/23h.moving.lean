/-! the delays of a point lie in a row of their own: the scene's delays stay -/
section
variable {T T1 : AT} {s : Nat}
def FD (T T1 : AT) : Prop := ∀ m k, aR0 m = 50 → m ≠ 433 → T1.2.2.1 m k = T.2.2.1 m k
theorem FD.rf : FD T T := fun _ _ _ _ => rfl
theorem FD.tr {T2 : AT} (h : FD T T1) (k : FD T1 T2) : FD T T2 := fun m j a b => (k m j a b).trans (h m j a b)
theorem fd_fw {W : List Nat} (h : FW aR0 W T T1) (c : W.contains 1600 = false) : FD T T1 := fun m k a _ => h m k (by rw [a]; exact c)
theorem fd_i (h : T1.2.2.1 = T.2.2.1) : FD T T1 := fun m k _ _ => by rw [h]
theorem q_df {x y : Int32} {n o : Nat} (h : g_X6_delaysFrom T o x y n = some T1) : ∀ m k, m ≠ n → T1.2.2.1 m k = T.2.2.1 m k := by
  have b3 : ∀ (f : Nat) (T : AT) (l4 : Int32), g_X6_delaysFrom_b3 f T o x y n l4 = some T1 → ∀ m k, m ≠ n → T1.2.2.1 m k = T.2.2.1 m k := by
    intro f
    induction f with
    | zero => intro T l4 h; cases h
    | succ f ih =>
      intro T l4 h m k hm
      unfold g_X6_delaysFrom_b3 at h
      obtain ⟨-, h⟩ := oif_some h
      obtain ⟨v3, -, h⟩ := elet_some h
      rcases oif_or h with ⟨-, h⟩ | ⟨-, h⟩
      · rw [← osome1 h]
      · obtain ⟨-, h⟩ := oif_some h
        obtain ⟨n6, -, h⟩ := obind_some h
        obtain ⟨-, h⟩ := oif_some h
        obtain ⟨-, h⟩ := oif_some h
        obtain ⟨n9, -, h⟩ := obind_some h
        obtain ⟨-, h⟩ := oif_some h
        obtain ⟨r13, T11, g11, h⟩ := obind2_some h
        obtain ⟨-, h⟩ := oif_some h
        obtain ⟨-, h⟩ := oif_some h
        obtain ⟨T17, e17, h⟩ := elet_some h
        obtain ⟨v18, -, h⟩ := elet_some h
        have e11 : T11 = T := by
          unfold g_X6_delayFrom at g11
          obtain ⟨-, g11⟩ := oif_some g11
          obtain ⟨w, -, g11⟩ := elet_some g11
          obtain ⟨w, -, g11⟩ := elet_some g11
          obtain ⟨-, g11⟩ := oif_some g11
          obtain ⟨w, -, g11⟩ := elet_some g11
          obtain ⟨w, -, g11⟩ := elet_some g11
          obtain ⟨w, -, g11⟩ := elet_some g11
          obtain ⟨w, -, g11⟩ := elet_some g11
          obtain ⟨w, -, g11⟩ := elet_some g11
          obtain ⟨-, g11⟩ := oif_some g11
          obtain ⟨w, -, g11⟩ := elet_some g11
          obtain ⟨-, g11⟩ := oif_some g11
          obtain ⟨w, -, g11⟩ := elet_some g11
          obtain ⟨w, -, g11⟩ := elet_some g11
          obtain ⟨w, -, g11⟩ := elet_some g11
          obtain ⟨w, -, g11⟩ := obind_some g11
          obtain ⟨w, -, g11⟩ := elet_some g11
          obtain ⟨-, g11⟩ := oif_some g11
          obtain ⟨w, -, g11⟩ := elet_some g11
          obtain ⟨w, -, g11⟩ := elet_some g11
          obtain ⟨w, -, g11⟩ := obind_some g11
          obtain ⟨-, g11⟩ := oif_some g11
          obtain ⟨w, -, g11⟩ := elet_some g11
          obtain ⟨w, -, g11⟩ := elet_some g11
          obtain ⟨-, g11⟩ := oif_some g11
          obtain ⟨w, -, g11⟩ := elet_some g11
          obtain ⟨w, -, g11⟩ := elet_some g11
          obtain ⟨w, -, g11⟩ := obind_some g11
          obtain ⟨w, -, g11⟩ := elet_some g11
          obtain ⟨w, -, g11⟩ := elet_some g11
          exact (osome2 g11).2.symm
        rw [ih _ _ h m k hm, e17, ui_ne (.inl hm), e11]
  exact b3 _ _ _ h
set_option maxRecDepth 100000 in
theorem pt11_dec : (arf 0).getD 11 none = some 433 ∧ (arf 0).getD 12 none = some 434 ∧ (arf 0).getD 5 none = some 154 ∧ aR0 433 = 50 ∧ aR0 434 = 102 ∧ aR0 154 = 4 := by decide +kernel
theorem c_fld2 (hc : CRF T) : T.2.2.2.2 0 11 = some 433 ∧ T.2.2.2.2 0 12 = some 434 ∧ T.2.2.2.2 0 5 = some 154 ∧ T.2.2.2.2 0 2 = some 7 := by
  obtain ⟨a, b, c, -⟩ := pt11_dec
  exact ⟨(hc.2.1 11 (by decide) (by decide)).trans a, (hc.2.1 12 (by decide) (by decide)).trans b, (hc.2.1 5 (by decide) (by decide)).trans c, (hc.2.1 2 (by decide) (by decide)).trans pt_dec.2.2⟩
theorem crf_14 (hc : CRF T) : ∃ s, (s = 478 ∨ s = 656) ∧ T.2.2.2.2 0 14 = some s := by
  rcases hc.2.2 with ⟨a, -⟩ | ⟨a, -⟩
  · exact ⟨478, .inl rfl, a⟩
  · exact ⟨656, .inr rfl, a⟩
theorem q_pm38 {l2 l3 l4 l5 l6 : Int32} (h2 : -999 ≤ l2.toInt ∧ l2.toInt ≤ 999) (h3 : -999 ≤ l3.toInt ∧ l3.toInt ≤ 999) (h4 : 0 ≤ l4.toInt ∧ l4.toInt ≤ 1) (h5 : -2000 ≤ l5.toInt ∧ l5.toInt ≤ 15156) (h6 : -2000 ≤ l6.toInt ∧ l6.toInt ≤ 15156) : ∀ (f : Nat) {T : AT} {l7 : Int32}, CRF T → IV aR0 1586 aK1 aK2 T → 0 ≤ l7.toInt → g_X11_powerOnTheMove_b38 f T 0 l2 l3 l4 l5 l6 l7 = some T1 → FD T T1 := by
  have z1 : (1 : Int32).toInt = 1 := by decide
  have z0 : (0 : Int32).toInt = 0 := by decide
  have c102 : (cnt 102 : Int) = 12 := by decide
  have c101 : (cnt 101 : Int) = 1 := by decide
  obtain ⟨-, -, -, r433, r434, -⟩ := pt11_dec
  obtain ⟨rd, -, -, -, -, -, -, -, -, rb⟩ := sd_ro (show 242 ∈ sds from by decide)
  intro f
  induction f with
  | zero => intro T l7 hc hV h7 h; cases h
  | succ f ih =>
    intro T l7 hc hV h7 h
    obtain ⟨s, hs, h14⟩ := crf_14 hc
    obtain ⟨f11, f12, -, -⟩ := c_fld2 hc
    obtain ⟨-, f6, -⟩ := c_fld hc
    unfold g_X11_powerOnTheMove_b38 at h
    obtain ⟨-, h⟩ := oif_some h
    obtain ⟨n3, en, h⟩ := obind_some h
    rw [h14] at en
    cases en
    obtain ⟨-, h⟩ := oif_some h
    obtain ⟨v5, e5, h⟩ := elet_some h
    have m5 := iv_int hV (rsrole hs) (by decide) (by decide) e5 (rfl : iR 6 2 = (0, 200))
    rcases oif_or h with ⟨-, h⟩ | ⟨c, h⟩
    · obtain ⟨-, h⟩ := oif_some h
      obtain ⟨n8, en, h⟩ := obind_some h
      rw [f12] at en
      cases en
      obtain ⟨-, h⟩ := oif_some h
      obtain ⟨n10, en, h⟩ := obind_some h
      obtain ⟨-, h⟩ := oif_some h
      obtain ⟨v12, -, h⟩ := elet_some h
      obtain ⟨-, h⟩ := oif_some h
      obtain ⟨T14, g14, h⟩ := obind_some h
      have q := tgo (c_divide r434 (by decide) hV (by omega)) g14
      rw [← osome1 (show some T14 = some T1 from h)]
      exact fd_fw (fw_wx q.2 r434 (by decide) (W := [3202]) (by decide)) (by decide)
    · have c := i_nle c
      obtain ⟨-, h⟩ := oif_some h
      obtain ⟨n17, en, h⟩ := obind_some h
      rw [h14] at en
      cases en
      obtain ⟨r18, g18, h⟩ := obind_some h
      obtain ⟨r20, g20, h⟩ := obind_some h
      have q18 := tgo (cs_X11_moved l5 l2 l7 h5 h2 (by omega)) g18
      have q20 := tgo (cs_X11_moved l6 l3 l7 h6 h3 (by omega)) g20
      obtain ⟨-, h⟩ := oif_some h
      obtain ⟨n23, en, h⟩ := obind_some h
      rw [f11] at en
      cases en
      obtain ⟨-, h⟩ := oif_some h
      obtain ⟨T25, g25, h⟩ := obind_some h
      have d25 := q_df g25
      have c25 := tgo (cs_X6_delaysFrom T s r18 r20 433 hV (rsrole hs) r433 (by omega) (by omega)) g25
      have hc25 := crf_eq hc (s_X6_delaysFrom g25).2.2
      obtain ⟨-, h⟩ := oif_some h
      obtain ⟨n28, en, h⟩ := obind_some h
      rw [(c_fld hc25).2.1] at en
      cases en
      obtain ⟨-, h⟩ := oif_some h
      obtain ⟨n30, en, h⟩ := obind_some h
      rw [(c_fld2 hc25).1] at en
      cases en
      obtain ⟨-, h⟩ := oif_some h
      obtain ⟨T32, g32, h⟩ := obind_some h
      have c32 := tgo (cs_X8_focus T25 242 433 l7 c25.1 rd r433) g32
      have hc32 := crf_gr hc25 c25.1 (sr_X8_focus g32)
      unfold g_X11_powerOnTheMove_b90 at h
      obtain ⟨-, h⟩ := oif_some h
      obtain ⟨n3', en, h⟩ := obind_some h
      rw [(c_fld2 hc32).2.1] at en
      cases en
      obtain ⟨-, h⟩ := oif_some h
      obtain ⟨n5', en, h⟩ := obind_some h
      rw [(c_fld hc32).2.1] at en
      cases en
      obtain ⟨-, h⟩ := oif_some h
      obtain ⟨n7, en, h⟩ := obind_some h
      rw [(sd_rf hc32 (show 242 ∈ sds from by decide)).2.2.2.2.2.2.2.2] at en
      cases en
      obtain ⟨-, h⟩ := oif_some h
      obtain ⟨n9, en, h⟩ := obind_some h
      rw [(c_fld hc32).2.1] at en
      cases en
      obtain ⟨-, h⟩ := oif_some h
      obtain ⟨n11, en, h⟩ := obind_some h
      rw [(sd_rf hc32 (show 242 ∈ sds from by decide)).2.2.2.2.2.2.2.2] at en
      cases en
      obtain ⟨-, h⟩ := oif_some h
      obtain ⟨T13, g13, h⟩ := obind_some h
      have c13 := tgo (c_addProduct r434 (by decide) rb (by decide) rb (by decide) c32.1 (by omega) (by omega) (by omega)) g13
      have hc13 := crf_gr hc32 c32.1 (sr_X10_addProduct g13)
      unfold g_X11_powerOnTheMove_b115 at h
      obtain ⟨v2, e2, h⟩ := elet_some h
      have q2 := i_add (y := 1) e2 (by omega) (by omega)
      have fin := ih hc13 c13.1 (by omega) h
      refine FD.tr (T1 := T25) (fun m k _ hm => d25 m k hm) (FD.tr (T1 := T32) (fd_fw c32.2 (by decide)) (FD.tr (T1 := T13) ?_ fin))
      exact fd_fw (fw_wx c13.2 r434 (by decide) (W := [3202]) (by decide)) (by decide)
theorem q_pm {a0 a1 a2 a3 : Int32} (hc : CRF T) (hV : IV aR0 1586 aK1 aK2 T) (h0 : 0 ≤ a0.toInt ∧ a0.toInt ≤ 143) (h1 : -999 ≤ a1.toInt ∧ a1.toInt ≤ 999) (h2 : -999 ≤ a2.toInt ∧ a2.toInt ≤ 999) (h3 : 0 ≤ a3.toInt ∧ a3.toInt ≤ 1) (h : g_X11_powerOnTheMove T 0 a0 a1 a2 a3 = some T1) : FD T T1 := by
  have c102 : (cnt 102 : Int) = 12 := by decide
  obtain ⟨-, -, -, r433, r434, -⟩ := pt11_dec
  obtain ⟨s, hs, h14⟩ := crf_14 hc
  obtain ⟨f11, f12, -, -⟩ := c_fld2 hc
  have hF := hc.srf hs
  have r2 := (sro hs).2.1
  unfold g_X11_powerOnTheMove at h
  obtain ⟨-, h⟩ := oif_some h
  obtain ⟨n3, en, h⟩ := obind_some h
  rw [h14] at en
  cases en
  obtain ⟨-, h⟩ := oif_some h
  obtain ⟨n5, en, h⟩ := obind_some h
  rw [hF.2.1] at en
  cases en
  obtain ⟨-, h⟩ := oif_some h
  obtain ⟨r9, T7, g7, h⟩ := obind2_some h
  obtain ⟨e7, m7⟩ := tgo (cs_X1_centreX T (s + 2) a0 hV r2 h0) g7
  have e7 : T7 = T := e7
  have m7 : -999 ≤ r9.toInt ∧ r9.toInt ≤ 2088 := m7
  rw [e7] at h
  obtain ⟨-, h⟩ := oif_some h
  obtain ⟨n12, en, h⟩ := obind_some h
  rw [h14] at en
  cases en
  obtain ⟨-, h⟩ := oif_some h
  obtain ⟨n14, en, h⟩ := obind_some h
  rw [hF.2.1] at en
  cases en
  obtain ⟨-, h⟩ := oif_some h
  obtain ⟨r18, T16, g16, h⟩ := obind2_some h
  obtain ⟨e16, m16⟩ := tgo (cs_X1_centreY T (s + 2) a0 hV r2 h0) g16
  have e16 : T16 = T := e16
  have m16 : -999 ≤ r18.toInt ∧ r18.toInt ≤ 15156 := m16
  rw [e16] at h
  obtain ⟨-, h⟩ := oif_some h
  obtain ⟨n21, en, h⟩ := obind_some h
  rw [f12] at en
  cases en
  obtain ⟨-, h⟩ := oif_some h
  obtain ⟨T23, g23, h⟩ := obind_some h
  have c23 := tgo (c_clear hV r434 (by decide) (by omega)) g23
  exact (fd_i c23.2).tr (q_pm38 h1 h2 h3 ⟨by omega, by omega⟩ ⟨by omega, by omega⟩ 16384 (crf_gr hc hV (gr_sp (s_X10_clear g23))) c23.1 (by decide) h)
theorem iv_pm {a0 a1 a2 a3 : Int32} (hc : CRF T) (hV : IV aR0 1586 aK1 aK2 T) (h0 : 0 ≤ a0.toInt ∧ a0.toInt ≤ 143) (h1 : -999 ≤ a1.toInt ∧ a1.toInt ≤ 999) (h2 : -999 ≤ a2.toInt ∧ a2.toInt ≤ 999) (h3 : 0 ≤ a3.toInt ∧ a3.toInt ≤ 1) (h : g_X11_powerOnTheMove T 0 a0 a1 a2 a3 = some T1) : CRF T1 ∧ IV aR0 1586 aK1 aK2 T1 := ⟨crf_gr hc hV (sr_X11_powerOnTheMove h), (tgo (cs_X11_powerOnTheMove T 0 a0 a1 a2 a3 hV rrole.2.2.2 h0 h1 h2 h3) h).1⟩
theorem q_movingPower {a0 a1 a2 : Int32} {k : Nat} {r : Int64} (hc : CRF T) (hV : IV aR0 1586 aK1 aK2 T) (h : g_X11_movingPower T 0 a0 a1 a2 = some (k, r, T1)) : FD T T1 := by
  have r0 := rrole.2.2.2
  have c102 : (cnt 102 : Int) = 12 := by decide
  have z0 : (0 : Int32).toInt = 0 := by decide
  obtain ⟨-, -, -, r433, r434, -⟩ := pt11_dec
  unfold g_X11_movingPower at h
  obtain ⟨-, h⟩ := oif_some h
  rcases othr_k h with ⟨r9, g9, -⟩ | ⟨r9, T3, g9, h⟩
  · exact fd_i (by rw [need_same.1 g9])
  · rw [need_same.1 g9] at h
    obtain ⟨-, h⟩ := oif_some h
    rcases othr_k h with ⟨r9, g9, -⟩ | ⟨r9, T8, g9, h⟩
    · exact fd_i (by rw [need_same.2.1 g9])
    · rw [need_same.2.1 g9] at h
      have m8 := (tgo (cs_X11_needCell T 0 a0 hV r0) g9).2 rfl
      rcases othr_k h with ⟨r9, g9, -⟩ | ⟨r9, T12, g9, h⟩
      · exact fd_i (by rw [need_same.2.2 g9])
      · obtain ⟨e12, ⟨-, m12⟩ | ⟨q, -⟩⟩ := c_rng g9
        case inr => exact absurd q (by decide)
        rw [e12] at h
        rcases othr_k h with ⟨r9, g9, -⟩ | ⟨r9, T16, g9, h⟩
        · exact fd_i (by rw [need_same.2.2 g9])
        · obtain ⟨e16, ⟨-, m16⟩ | ⟨q, -⟩⟩ := c_rng g9
          case inr => exact absurd q (by decide)
          rw [e16] at h
          obtain ⟨-, h⟩ := oif_some h
          obtain ⟨T21, g21, h⟩ := obind_some h
          have q21 := q_pm hc hV m8 m12 m16 (by decide) g21
          obtain ⟨hc21, hV21⟩ := iv_pm hc hV m8 m12 m16 (by decide) g21
          unfold g_X11_movingPower_b37 at h
          obtain ⟨-, h⟩ := oif_some h
          obtain ⟨n3, en, h⟩ := obind_some h
          rw [(c_fld2 hc21).2.1] at en
          cases en
          obtain ⟨-, h⟩ := oif_some h
          obtain ⟨r7, T5, g5, h⟩ := obind2_some h
          have e5 : T5 = T21 := (tgo (c_value r434 (by decide) hV21 (by omega)) g5).1
          rw [← (osome3 h).2.2, e5]
          exact q21
theorem q_bv39 {a0 l2 l3 : Int32} {k : Nat} {r : Int32} {k29 : AT → Nat → Int32 → Int32 → Int32 → Int32 → Int32 → Option (Nat × Int32 × AT)} {l5 : Int32} (h0 : 0 ≤ a0.toInt ∧ a0.toInt ≤ 143) (h2 : 1 ≤ l2.toInt ∧ l2.toInt ≤ 99) (h3 : 0 ≤ l3.toInt ∧ l3.toInt ≤ 4) (h5 : -4 ≤ l5.toInt ∧ l5.toInt ≤ 4) (hk : ∀ {T : AT} {l4 l : Int32}, CRF T → IV aR0 1586 aK1 aK2 T → l.toInt = l5.toInt + 1 → k29 T 0 a0 l2 l3 l4 l = some (k, r, T1) → FD T T1) : ∀ (f : Nat) {T : AT} {l4 l6 : Int32}, CRF T → IV aR0 1586 aK1 aK2 T → -4 ≤ l6.toInt → g_X11_bestVelocity_b39 k29 f T 0 a0 l2 l3 l4 l5 l6 = some (k, r, T1) → FD T T1 := by
  have z1 : (1 : Int32).toInt = 1 := by decide
  have z0 : (0 : Int32).toInt = 0 := by decide
  have c102 : (cnt 102 : Int) = 12 := by decide
  obtain ⟨-, -, -, r433, r434, -⟩ := pt11_dec
  intro f
  induction f with
  | zero => intro T l4 l6 hc hV h6 h; cases h
  | succ f ih =>
    have b104 : ∀ {T : AT} {l4 l6 : Int32}, CRF T → IV aR0 1586 aK1 aK2 T → -4 ≤ l6.toInt → l6.toInt ≤ 4 → g_X11_bestVelocity_b104 k29 (g_X11_bestVelocity_b39 k29 f) T 0 a0 l2 l3 l4 l5 l6 = some (k, r, T1) → FD T T1 := by
      intro T l4 l6 hc hV h6 h7 h
      unfold g_X11_bestVelocity_b104 at h
      obtain ⟨v2, e2, h⟩ := elet_some h
      have q2 := i_add (y := 1) e2 (by omega) (by omega)
      exact ih hc hV (by omega) h
    have b77 : ∀ {T : AT} {l6 : Int32}, CRF T → IV aR0 1586 aK1 aK2 T → -4 ≤ l6.toInt → l6.toInt ≤ 4 → g_X11_bestVelocity_b77 k29 (g_X11_bestVelocity_b39 k29 f) T 0 a0 l2 l3 l5 l6 = some (k, r, T1) → FD T T1 := by
      intro T l6 hc hV h6 h7 h
      unfold g_X11_bestVelocity_b77 at h
      obtain ⟨-, h⟩ := oif_some h
      obtain ⟨n3, en, h⟩ := obind_some h
      rw [(c_fld2 hc).2.1] at en
      cases en
      obtain ⟨-, h⟩ := oif_some h
      obtain ⟨n5, en, h⟩ := obind_some h
      rw [(c_fld2 hc).2.1] at en
      cases en
      obtain ⟨-, h⟩ := oif_some h
      obtain ⟨T7, g7, h⟩ := obind_some h
      have q := tgo (c_set r434 (by decide) r434 (by decide) hV (by omega) (by omega)) g7
      unfold g_X11_bestVelocity_b90 at h
      obtain ⟨v2, -, h⟩ := elet_some h
      obtain ⟨v3, -, h⟩ := elet_some h
      obtain ⟨v4, -, h⟩ := elet_some h
      obtain ⟨v5, -, h⟩ := elet_some h
      exact FD.tr (fd_fw (fw_wx q.2 r434 (by decide) (W := [3202]) (by decide)) (by decide)) (b104 (crf_gr hc hV (sr_X10_set g7)) q.1 h6 h7 h)
    intro T l4 l6 hc hV h6 h
    unfold g_X11_bestVelocity_b39 at h
    rcases oif_or h with ⟨-, h⟩ | ⟨c, h⟩
    · obtain ⟨v3, e3, h⟩ := elet_some h
      exact hk hc hV (i_add (y := 1) e3 (by omega) (by omega)) h
    · have c := i_nlt c
      obtain ⟨v4, e4, h⟩ := elet_some h
      obtain ⟨v5, e5, h⟩ := elet_some h
      obtain ⟨-, h⟩ := oif_some h
      obtain ⟨T7, g7, h⟩ := obind_some h
      have q4 := i_muls (b := 99) (d := 4) e4 (by omega) (by omega) (by omega) (by omega) (by decide)
      have q5 := i_muls (b := 99) (d := 4) e5 (by omega) (by omega) (by omega) (by omega) (by decide)
      have q7 := q_pm hc hV h0 (by omega) (by omega) (by decide) g7
      obtain ⟨hc7, hV7⟩ := iv_pm hc hV h0 (by omega) (by omega) (by decide) g7
      refine q7.tr ?_
      unfold g_X11_bestVelocity_b59 at h
      rcases oif_or h with ⟨-, h⟩ | ⟨-, h⟩
      · exact b77 hc7 hV7 h6 (by omega) h
      · obtain ⟨-, h⟩ := oif_some h
        obtain ⟨n4, en, h⟩ := obind_some h
        rw [(c_fld2 hc7).2.1] at en
        cases en
        obtain ⟨-, h⟩ := oif_some h
        obtain ⟨r8, T6, g6, h⟩ := obind2_some h
        have e6 : T6 = T7 := (tgo (c_compare r434 (by decide) hV7 (by omega) (by omega)) g6).1
        rw [e6] at h
        rcases oif_or h with ⟨-, h⟩ | ⟨-, h⟩
        · exact b104 hc7 hV7 h6 (by omega) h
        · exact b77 hc7 hV7 h6 (by omega) h
theorem q_bestVelocity {a0 a1 a2 : Int32} {k : Nat} {r : Int32} (hc : CRF T) (hV : IV aR0 1586 aK1 aK2 T) (h : g_X11_bestVelocity T 0 a0 a1 a2 = some (k, r, T1)) : FD T T1 := by
  have r0 := rrole.2.2.2
  have z0 : (0 : Int32).toInt = 0 := by decide
  have z1 : (1 : Int32).toInt = 1 := by decide
  have z4 : (4 : Int32).toInt = 4 := by decide
  have z99 : (99 : Int32).toInt = 99 := by decide
  unfold g_X11_bestVelocity at h
  obtain ⟨-, h⟩ := oif_some h
  rcases othr_k h with ⟨r9, g9, -⟩ | ⟨r9, T3, g9, h⟩
  · exact fd_i (by rw [need_same.1 g9])
  · rw [need_same.1 g9] at h
    obtain ⟨-, h⟩ := oif_some h
    rcases othr_k h with ⟨r9, g9, -⟩ | ⟨r9, T8, g9, h⟩
    · exact fd_i (by rw [need_same.2.1 g9])
    · rw [need_same.2.1 g9] at h
      have m8 := (tgo (cs_X11_needCell T 0 a0 hV r0) g9).2 rfl
      rcases othr_k h with ⟨r9, g9, -⟩ | ⟨r9, T12, g9, h⟩
      · exact fd_i (by rw [need_same.2.2 g9])
      · obtain ⟨e12, ⟨-, m12⟩ | ⟨q, -⟩⟩ := c_rng g9
        case inr => exact absurd q (by decide)
        rw [e12] at h
        rcases othr_k h with ⟨r9, g9, -⟩ | ⟨r9, T16, g9, h⟩
        · exact fd_i (by rw [need_same.2.2 g9])
        · obtain ⟨e16, ⟨-, m16⟩ | ⟨q, -⟩⟩ := c_rng g9
          case inr => exact absurd q (by decide)
          rw [e16] at h
          obtain ⟨v20, e20, h⟩ := elet_some h
          have q20 := i_neg e20 (by omega)
          have b29 : ∀ (f : Nat) {T : AT} {l4 l5 : Int32}, CRF T → IV aR0 1586 aK1 aK2 T → -4 ≤ l5.toInt → g_X11_bestVelocity_b29 f T 0 a0 a1 a2 l4 l5 = some (k, r, T1) → FD T T1 := by
            intro f
            induction f with
            | zero => intro T l4 l5 hc hV h5 h; cases h
            | succ f ih =>
              intro T l4 l5 hc hV h5 h
              unfold g_X11_bestVelocity_b29 at h
              rcases oif_or h with ⟨-, h⟩ | ⟨c, h⟩
              · exact fd_i (by rw [(osome3 h).2.2])
              · have c := i_nlt c
                obtain ⟨v3, e3, h⟩ := elet_some h
                have q3 := i_neg e3 (by omega)
                exact q_bv39 m8 (by omega) (by omega) ⟨h5, by omega⟩ (fun {T l4 l} a b d q => ih a b (by omega) q) 16384 hc hV (by omega) h
          exact b29 16384 hc hV (by omega) h
theorem q_powerAt {a0 a1 : Int32} {k : Nat} {r : Int64} (hc : CRF T) (hV : IV aR0 1586 aK1 aK2 T) (h : g_X11_powerAt T 0 a0 a1 = some (k, r, T1)) : FD T T1 := by
  have z0 : (0 : Int32).toInt = 0 := by decide
  have c102 : (cnt 102 : Int) = 12 := by decide
  have zm : ((-9999) : Int32).toInt = -9999 := by decide
  have zp : (9999 : Int32).toInt = 9999 := by decide
  obtain ⟨-, -, -, r433, r434, -⟩ := pt11_dec
  obtain ⟨rd, -⟩ := sd_ro (show 242 ∈ sds from by decide)
  obtain ⟨s, hs, h14⟩ := crf_14 hc
  unfold g_X11_powerAt at h
  obtain ⟨-, h⟩ := oif_some h
  rcases othr_k h with ⟨r9, g9, -⟩ | ⟨r9, T3, g9, h⟩
  · exact fd_i (by rw [need_same.1 g9])
  · rw [need_same.1 g9] at h
    rcases othr_k h with ⟨r9, g9, -⟩ | ⟨r9, T7, g9, h⟩
    · exact fd_i (by rw [need_same.2.2 g9])
    · obtain ⟨e7, ⟨-, m7⟩ | ⟨q, -⟩⟩ := c_rng g9
      case inr => exact absurd q (by decide)
      rw [e7] at h
      rcases othr_k h with ⟨r9, g9, -⟩ | ⟨r9, T11, g9, h⟩
      · exact fd_i (by rw [need_same.2.2 g9])
      · obtain ⟨e11, ⟨-, m11⟩ | ⟨q, -⟩⟩ := c_rng g9
        case inr => exact absurd q (by decide)
        rw [e11] at h
        obtain ⟨-, h⟩ := oif_some h
        obtain ⟨n16, en, h⟩ := obind_some h
        rw [h14] at en
        cases en
        obtain ⟨-, h⟩ := oif_some h
        obtain ⟨n18, en, h⟩ := obind_some h
        rw [(c_fld2 hc).1] at en
        cases en
        obtain ⟨-, h⟩ := oif_some h
        obtain ⟨T20, g20, h⟩ := obind_some h
        have d20 := q_df g20
        have c20 := tgo (cs_X6_delaysFrom T s a0 a1 433 hV (rsrole hs) r433 (by omega) (by omega)) g20
        have hc20 := crf_eq hc (s_X6_delaysFrom g20).2.2
        obtain ⟨-, h⟩ := oif_some h
        obtain ⟨n23, en, h⟩ := obind_some h
        rw [(c_fld hc20).2.1] at en
        cases en
        obtain ⟨-, h⟩ := oif_some h
        obtain ⟨n25, en, h⟩ := obind_some h
        rw [(c_fld2 hc20).1] at en
        cases en
        obtain ⟨-, h⟩ := oif_some h
        obtain ⟨n27, en, h⟩ := obind_some h
        rw [(c_fld2 hc20).2.1] at en
        cases en
        obtain ⟨-, h⟩ := oif_some h
        obtain ⟨T29, g29, h⟩ := obind_some h
        have c29 := tgo (cs_X8_powerOf T20 242 433 434 0 c20.1 rd r433 r434 (by decide) (by decide) (by omega)) g29
        have hc29 := crf_gr hc20 c20.1 (sr_X8_powerOf g29)
        unfold g_X11_powerAt_b53 at h
        obtain ⟨-, h⟩ := oif_some h
        obtain ⟨n3, en, h⟩ := obind_some h
        rw [(c_fld2 hc29).2.1] at en
        cases en
        obtain ⟨-, h⟩ := oif_some h
        obtain ⟨r7, T5, g5, h⟩ := obind2_some h
        have e5 : T5 = T29 := (tgo (c_value r434 (by decide) c29.1 (by omega)) g5).1
        rw [← (osome3 h).2.2, e5]
        exact FD.tr (T1 := T20) (fun m k _ hm => d20 m k hm) (fd_fw c29.2 (by decide))
end
