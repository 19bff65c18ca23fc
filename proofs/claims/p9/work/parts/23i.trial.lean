/-! questions that work on the state of trials: what R2 speaks of stays -/
section
variable {T T1 : AT} {s : Nat}
theorem d336 : (336 : Nat) ∈ sds := by decide
theorem d242 : (242 : Nat) ∈ sds := by decide
/-- class: what R2 speaks of is as it was, and the cells are still in order -/
def CKo (T T1 : AT) : Prop := CKr T T1 ∧ CRF T1 ∧ IV aR0 1586 aK1 aK2 T1
theorem CKo.tr {T2 : AT} (h : CKo T T1) (k : CKo T1 T2) : CKo T T2 := ⟨h.1.tr k.1, k.2⟩
theorem ck_copyt (hc : CRF T) (hV : IV aR0 1586 aK1 aK2 T) (h : g_X8_copyFrom T 336 242 = some T1) : CKo T T1 :=
  ⟨ck_trial hV (c_stcopy hc hV d336 d242 (by decide) h) (sr_X8_copyFrom h), crf_gr hc hV (sr_X8_copyFrom h), (tgo (cs_X8_copyFrom T 336 242 hV (sd_ro d336).1 (sd_ro d242).1) h).1⟩
theorem ck_tbest {r : Int32} (hc : CRF T) (hV : IV aR0 1586 aK1 aK2 T) (h : g_X11_trialBest T 0 = some (r, T1)) : CKo T T1 := by
  have c := tgo (cs_X11_trialBest T 0 hV rrole.2.2.2) h
  exact ⟨ck_fw hV c.1.2 (by decide +kernel) (sr_X11_trialBest h), crf_gr hc hV (sr_X11_trialBest h), c.1.1⟩
theorem ck_rp {a b : Int32} (hc : CRF T) (hV : IV aR0 1586 aK1 aK2 T) (ha : 0 ≤ a.toInt ∧ a.toInt ≤ 143) (hb : 2 ≤ b.toInt ∧ b.toInt ≤ 99) (h : g_X11_recordPoint T 0 a b = some T1) : CKo T T1 := by
  obtain ⟨f4, f6, f7, f8, f9, f10, -⟩ := c_fld hc
  unfold g_X11_recordPoint at h
  obtain ⟨-, h⟩ := oif_some h
  obtain ⟨n3, en, h⟩ := obind_some h
  rw [f7] at en
  cases en
  obtain ⟨-, h⟩ := oif_some h
  obtain ⟨n5, en, h⟩ := obind_some h
  rw [f6] at en
  cases en
  obtain ⟨-, h⟩ := oif_some h
  obtain ⟨T7, g7, h⟩ := obind_some h
  have c7 := ck_copyt hc hV g7
  obtain ⟨-, -, f7', -⟩ := c_fld c7.2.1
  obtain ⟨-, -, -, f2⟩ := c_fld2 c7.2.1
  obtain ⟨s, hs, h14⟩ := crf_14 c7.2.1
  unfold g_X11_recordPoint_b11 at h
  obtain ⟨-, h⟩ := oif_some h
  obtain ⟨m3, en, h⟩ := obind_some h
  rw [f2] at en
  cases en
  obtain ⟨-, h⟩ := oif_some h
  obtain ⟨m5, en, h⟩ := obind_some h
  rw [h14] at en
  cases en
  obtain ⟨-, h⟩ := oif_some h
  obtain ⟨m7, en, h⟩ := obind_some h
  rw [f7'] at en
  cases en
  obtain ⟨-, h⟩ := oif_some h
  obtain ⟨T9, g9, h⟩ := obind_some h
  obtain ⟨o, hV9, fw⟩ := rp_out c7.2.1 c7.2.2 hs ha hb g9
  rw [← osome1 (show some T9 = some T1 from h)]
  exact c7.tr ⟨ck_out c7.2.2 hs o fw (by decide) (sr_X5_recordPoint g9), crf_gr c7.2.1 c7.2.2 (sr_X5_recordPoint g9), hV9⟩
theorem ck_pointBest {a0 a1 r : Int32} {k : Nat} (hc : CRF T) (hV : IV aR0 1586 aK1 aK2 T) (h : g_X11_pointBest T 0 a0 a1 = some (k, r, T1)) : CKr T T1 := by
  unfold g_X11_pointBest at h
  obtain ⟨-, h⟩ := oif_some h
  rcases othr_k h with ⟨r9, g9, -⟩ | ⟨r9, T3, g9, h⟩
  · exact ck_eq (need_same.1 g9)
  · rw [need_same.1 g9] at h
    obtain ⟨-, h⟩ := oif_some h
    rcases othr_k h with ⟨r9, g9, -⟩ | ⟨r9, T8, g9, h⟩
    · exact ck_eq (need_same.2.1 g9)
    · rw [need_same.2.1 g9] at h
      have m8 := (tgo (cs_X11_needCell T 0 a0 hV rrole.2.2.2) g9).2 rfl
      rcases othr_k h with ⟨r9, g9, -⟩ | ⟨r9, T12, g9, h⟩
      · exact ck_eq (need_same.2.2 g9)
      · obtain ⟨e12, ⟨-, m12⟩ | ⟨q, -⟩⟩ := c_rng g9
        case inr => exact absurd q (by decide)
        rw [e12] at h
        obtain ⟨-, h⟩ := oif_some h
        obtain ⟨T17, g17, h⟩ := obind_some h
        have c17 := ck_rp hc hV m8 m12 g17
        unfold g_X11_pointBest_b22 at h
        obtain ⟨-, h⟩ := oif_some h
        obtain ⟨r4, T3', g3, h⟩ := obind2_some h
        have c3 := ck_tbest c17.2.1 c17.2.2 g3
        unfold g_X11_pointBest_b26 at h
        rw [← (osome3 h).2.2]
        exact c17.1.tr c3.1
theorem ck_pointPower {a0 a1 a2 : Int32} {r : Int64} {k : Nat} (hc : CRF T) (hV : IV aR0 1586 aK1 aK2 T) (h : g_X11_pointPower T 0 a0 a1 a2 = some (k, r, T1)) : CKr T T1 := by
  have c102 : (cnt 102 : Int) = 12 := by decide
  have z0 : (0 : Int32).toInt = 0 := by decide
  obtain ⟨-, -, -, -, r434, -⟩ := pt11_dec
  unfold g_X11_pointPower at h
  obtain ⟨-, h⟩ := oif_some h
  rcases othr_k h with ⟨r9, g9, -⟩ | ⟨r9, T3, g9, h⟩
  · exact ck_eq (need_same.1 g9)
  · rw [need_same.1 g9] at h
    obtain ⟨-, h⟩ := oif_some h
    rcases othr_k h with ⟨r9, g9, -⟩ | ⟨r9, T8, g9, h⟩
    · exact ck_eq (need_same.2.1 g9)
    · rw [need_same.2.1 g9] at h
      have m8 := (tgo (cs_X11_needCell T 0 a0 hV rrole.2.2.2) g9).2 rfl
      obtain ⟨-, h⟩ := oif_some h
      rcases othr_k h with ⟨r9, g9, -⟩ | ⟨r9, T13, g9, h⟩
      · exact ck_eq (need_same.2.1 g9)
      · rw [need_same.2.1 g9] at h
        have m13 := (tgo (cs_X11_needCell T 0 a1 hV rrole.2.2.2) g9).2 rfl
        rcases othr_k h with ⟨r9, g9, -⟩ | ⟨r9, T17, g9, h⟩
        · exact ck_eq (need_same.2.2 g9)
        · obtain ⟨e17, ⟨-, m17⟩ | ⟨q, -⟩⟩ := c_rng g9
          case inr => exact absurd q (by decide)
          rw [e17] at h
          obtain ⟨-, h⟩ := oif_some h
          obtain ⟨T22, g22, h⟩ := obind_some h
          have c22 := ck_rp hc hV m8 m17 g22
          obtain ⟨s, hs, h14⟩ := crf_14 c22.2.1
          have hF := c22.2.1.srf hs
          unfold g_X11_pointPower_b27 at h
          obtain ⟨-, h⟩ := oif_some h
          obtain ⟨n3, en, h⟩ := obind_some h
          rw [(c_fld c22.2.1).2.2.1] at en
          cases en
          obtain ⟨-, h⟩ := oif_some h
          obtain ⟨n5, en, h⟩ := obind_some h
          rw [h14] at en
          cases en
          obtain ⟨-, h⟩ := oif_some h
          obtain ⟨n7, en, h⟩ := obind_some h
          have e7 : T22.2.2.2.2 s 17 = some (s + 15) := by unfold SRF at hF; exact hF.2.2.2.2.2.2.2.1
          rw [e7] at en
          cases en
          obtain ⟨-, h⟩ := oif_some h
          obtain ⟨-, h⟩ := oif_some h
          obtain ⟨n10, en, h⟩ := obind_some h
          have ka := i_cl m13.1
          have e10 : T22.2.2.2.2 (s + 15) a1.toNatClampNeg = some (s + 16 + a1.toNatClampNeg) := by unfold SRF at hF; exact hF.2.2.2.2.2.2.2.2.2.2.2.2.2.2 _ (by omega)
          rw [e10] at en
          cases en
          obtain ⟨-, h⟩ := oif_some h
          obtain ⟨n12, en, h⟩ := obind_some h
          rw [(c_fld2 c22.2.1).2.1] at en
          cases en
          obtain ⟨-, h⟩ := oif_some h
          obtain ⟨T14, g14, h⟩ := obind_some h
          have c14 := tgo (cs_X8_powerOf T22 336 (s + 16 + a1.toNatClampNeg) 434 0 c22.2.2 (sd_ro d336).1 (dl_ro hs (by omega)) r434 (by decide) (by decide) (by omega)) g14
          have hc14 := crf_gr c22.2.1 c22.2.2 (sr_X8_powerOf g14)
          unfold g_X11_pointPower_b48 at h
          obtain ⟨-, h⟩ := oif_some h
          obtain ⟨n3, en, h⟩ := obind_some h
          rw [(c_fld2 hc14).2.1] at en
          cases en
          obtain ⟨-, h⟩ := oif_some h
          obtain ⟨r7, T5, g5, h⟩ := obind2_some h
          have e5 : T5 = T14 := (tgo (c_value r434 (by decide) c14.1 (by omega)) g5).1
          rw [← (osome3 h).2.2, e5]
          exact c22.1.tr (ck_fw c22.2.2 c14.2 (by decide +kernel) (sr_X8_powerOf g14))
theorem iv_mut {k : Nat} (hV : IV aR0 1586 aK1 aK2 T) : IV aR0 1586 aK1 aK2 (uI T 337 k 1) ∧ IV aR0 1586 aK1 aK2 (uI T 339 k 0) :=
  ⟨iv_uI hV (show aR0 337 = 62 from (sd_ro d336).2.1) (by decide) (by decide) (rfl : iR 62 k = (0, 1)) (by decide) (.inl rfl), iv_uI hV (show aR0 339 = 64 from (sd_ro d336).2.2.2.1) (by decide) (by decide) (rfl : iR 64 k = (0, 1)) (by decide) (.inl rfl)⟩
theorem ck_bestWithout {a0 r : Int32} {k : Nat} (hc : CRF T) (hV : IV aR0 1586 aK1 aK2 T) (h : g_X11_bestWithout T 0 a0 = some (k, r, T1)) : CKr T T1 := by
  obtain ⟨s, hs, h14⟩ := crf_14 hc
  unfold g_X11_bestWithout at h
  obtain ⟨-, h⟩ := oif_some h
  rcases othr_k h with ⟨r9, g9, -⟩ | ⟨r9, T3, g9, h⟩
  · exact ck_eq (need_same.1 g9)
  · rw [need_same.1 g9] at h
    obtain ⟨-, h⟩ := oif_some h
    rcases othr_k h with ⟨r9, g9, -⟩ | ⟨r9, T8, g9, h⟩
    · exact ck_eq (c_mic h14 g9).1
    · rw [(c_mic h14 g9).1] at h
      obtain ⟨f4, f6, f7, -⟩ := c_fld hc
      obtain ⟨-, h⟩ := oif_some h
      obtain ⟨n13, en, h⟩ := obind_some h
      rw [f7] at en
      cases en
      obtain ⟨-, h⟩ := oif_some h
      obtain ⟨n15, en, h⟩ := obind_some h
      rw [f6] at en
      cases en
      obtain ⟨-, h⟩ := oif_some h
      obtain ⟨T17, g17, h⟩ := obind_some h
      have c17 := ck_copyt hc hV g17
      unfold g_X11_bestWithout_b20 at h
      obtain ⟨-, h⟩ := oif_some h
      obtain ⟨n3, en, h⟩ := obind_some h
      rw [(c_fld c17.2.1).2.2.1] at en
      cases en
      obtain ⟨-, h⟩ := oif_some h
      obtain ⟨n5, en, h⟩ := obind_some h
      rw [(sd_rf c17.2.1 d336).1] at en
      cases en
      obtain ⟨-, h⟩ := oif_some h
      obtain ⟨-, h⟩ := oif_some h
      obtain ⟨T8', e8, h⟩ := elet_some h
      obtain ⟨-, h⟩ := oif_some h
      obtain ⟨r11, T10, g10, h⟩ := obind2_some h
      have o8 : CKo T17 T8' := by
        rw [e8]
        exact ⟨ck_uI (by decide), crf_eq c17.2.1 rfl, (iv_mut c17.2.2).1⟩
      have c10 := ck_tbest o8.2.1 o8.2.2 g10
      unfold g_X11_bestWithout_b34 at h
      rw [← (osome3 h).2.2]
      exact (c17.tr o8).1.tr c10.1
theorem ck_bestIfOff {a0 r : Int32} {k : Nat} (hc : CRF T) (hV : IV aR0 1586 aK1 aK2 T) (h : g_X11_bestIfOff T 0 a0 = some (k, r, T1)) : CKr T T1 := by
  obtain ⟨s, hs, h14⟩ := crf_14 hc
  unfold g_X11_bestIfOff at h
  obtain ⟨-, h⟩ := oif_some h
  rcases othr_k h with ⟨r9, g9, -⟩ | ⟨r9, T3, g9, h⟩
  · exact ck_eq (need_same.1 g9)
  · rw [need_same.1 g9] at h
    obtain ⟨-, h⟩ := oif_some h
    rcases othr_k h with ⟨r9, g9, -⟩ | ⟨r9, T8, g9, h⟩
    · exact ck_eq (c_src h14 g9).1
    · rw [(c_src h14 g9).1] at h
      obtain ⟨f4, f6, f7, -⟩ := c_fld hc
      obtain ⟨-, h⟩ := oif_some h
      obtain ⟨n13, en, h⟩ := obind_some h
      rw [f7] at en
      cases en
      obtain ⟨-, h⟩ := oif_some h
      obtain ⟨n15, en, h⟩ := obind_some h
      rw [f6] at en
      cases en
      obtain ⟨-, h⟩ := oif_some h
      obtain ⟨T17, g17, h⟩ := obind_some h
      have c17 := ck_copyt hc hV g17
      unfold g_X11_bestIfOff_b20 at h
      obtain ⟨-, h⟩ := oif_some h
      obtain ⟨n3, en, h⟩ := obind_some h
      rw [(c_fld c17.2.1).2.2.1] at en
      cases en
      obtain ⟨-, h⟩ := oif_some h
      obtain ⟨n5, en, h⟩ := obind_some h
      rw [(sd_rf c17.2.1 d336).2.2.1] at en
      cases en
      obtain ⟨-, h⟩ := oif_some h
      obtain ⟨-, h⟩ := oif_some h
      obtain ⟨T8', e8, h⟩ := elet_some h
      have o8 : CKo T17 T8' := by
        rw [e8]
        exact ⟨ck_uI (by decide), crf_eq c17.2.1 rfl, (iv_mut c17.2.2).2⟩
      obtain ⟨s', hs', h14'⟩ := crf_14 o8.2.1
      obtain ⟨-, h⟩ := oif_some h
      obtain ⟨n10, en, h⟩ := obind_some h
      rw [(c_fld2 o8.2.1).2.2.2] at en
      cases en
      obtain ⟨-, h⟩ := oif_some h
      obtain ⟨n12, en, h⟩ := obind_some h
      rw [h14'] at en
      cases en
      obtain ⟨-, h⟩ := oif_some h
      obtain ⟨n14, en, h⟩ := obind_some h
      rw [(c_fld o8.2.1).2.2.1] at en
      cases en
      obtain ⟨-, h⟩ := oif_some h
      obtain ⟨T16, g16, h⟩ := obind_some h
      obtain ⟨o, hV16, fw⟩ := rec_out o8.2.1 o8.2.2 hs' (.inr rfl) g16
      have c16 : CKo T8' T16 := ⟨ck_out o8.2.2 hs' o fw (by decide) (sr_X5_record g16), crf_gr o8.2.1 o8.2.2 (sr_X5_record g16), hV16⟩
      unfold g_X11_bestIfOff_b45 at h
      obtain ⟨-, h⟩ := oif_some h
      obtain ⟨r4, T3', g3, h⟩ := obind2_some h
      have c3 := ck_tbest c16.2.1 c16.2.2 g3
      unfold g_X11_bestIfOff_b49 at h
      rw [← (osome3 h).2.2]
      exact ((c17.tr o8).tr c16).1.tr c3.1
/-- questions that lay the delays of a point into their own row -/
theorem ck_fd {W : List Nat} (hV : IV aR0 1586 aK1 aK2 T) (hw : FW aR0 W T T1) (c : [256, 257, 258, 1984, 2016, 2048, 2080, 2112, 368, 369, 1568].all (fun x => !(W.contains x)) = true) (hd : FD T T1) (hg : GR T T1) : CKr T T1 := by
  have r0 := rrole.2.2.2
  have f := fun (x : Nat) (hx : x ∈ [256, 257, 258, 1984, 2016, 2048, 2080, 2112, 368, 369, 1568]) => con_f (W := W) (List.all_eq_true.mp c x hx)
  refine ⟨hw 0 16 ?_, hw 0 17 ?_, fun k => hw 432 k ?_, fun d hd _ => ck_st hw (fun x hx => f x ?_) hd, fun s c' k hs hc => hd _ k (dl_ro hs hc) (by omega), e14_gr hV hg⟩
  · rw [r0]; exact f 368 (by decide)
  · rw [r0]; exact f 369 (by decide)
  · rw [r432]; exact f 1568 (by decide)
  · rw [show [256, 257, 258, 1984, 2016, 2048, 2080, 2112, 368, 369, 1568] = [256, 257, 258, 1984, 2016, 2048, 2080, 2112] ++ [368, 369, 1568] from rfl]
    exact List.mem_append_left _ hx
end
