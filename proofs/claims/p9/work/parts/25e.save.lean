/-! save, restore: R2 is kept -/
section
variable {T T1 : AT} {S S1 : MS} {k1 : Nat} {r1 r2 : Int32}
theorem con_ne {a b : Nat} (n : a ≠ b) : [b].contains a = false := by
  cases e : [b].contains a with
  | false => rfl
  | true => exact absurd (List.mem_singleton.mp (List.contains_iff_mem.mp e)) n
theorem r2_save {a0 : Int32} (hV : IV aR0 1586 aK1 aK2 T) (hJ : JJ S) (h : R2 T S) (hg : g_X11_save T 0 a0 = some (k1, r1, T1)) (hf : fr_save S a0 = some (r2, S1)) : R2 T1 S1 := by
  have z0 : (0 : Int32).toInt = 0 := by decide
  have z1 : (1 : Int32).toInt = 1 := by decide
  have z2 : (2 : Int32).toInt = 2 := by decide
  unfold fr_save at hf
  obtain ⟨x2, f2, hf⟩ := obind_some hf
  obtain ⟨r7, S4, f4, hf⟩ := obind2_some hf
  have q2 := q_in f2
  unfold g_X11_save at hg
  obtain ⟨-, hg⟩ := oif_some hg
  rcases othr_k hg with ⟨rc, gc, hc⟩ | ⟨rc, Tc, gc, hg⟩
  · obtain ⟨eT, ⟨q, -⟩ | ⟨q, q20⟩⟩ := p_cam h.1 gc
    · exact absurd q hc
    · obtain ⟨e, er⟩ := ask_0 q20 f4
      rw [if_pos er] at hf
      rw [eT, ← (osome2 hf).2, e]
      exact r2_mi0 h
  · obtain ⟨eT, ⟨-, q20⟩ | ⟨q, -⟩⟩ := p_cam h.1 gc
    case inr => exact absurd q (by decide)
    rw [eT] at hg
    have hP := r_pl hJ q20
    obtain ⟨p4, p5⟩ := r2_pl hP
    rcases othr_k hg with ⟨rc2, gc2, hc⟩ | ⟨rc2, Tc2, gc2, hg⟩
    · obtain ⟨eT2, ⟨q, -⟩ | ⟨q, qc⟩⟩ := c_idx gc2
      · exact absurd q hc
      · rcases q2 with ⟨-, z⟩ | ⟨z, -⟩
        · exact absurd ⟨by omega, by omega⟩ qc
        · rw [z] at f4
          obtain ⟨e, er⟩ := ask_2 q20 f4
          rw [if_pos er] at hf
          rw [eT2, ← (osome2 hf).2, e]
          exact r2_mi0 h
    · obtain ⟨eT2, ⟨-, qc⟩ | ⟨q, -⟩⟩ := c_idx gc2
      case inr => exact absurd q (by decide)
      rw [eT2] at hg
      rcases q2 with ⟨z, -⟩ | ⟨-, z⟩
      case inr => exact absurd ⟨by omega, by omega⟩ z
      rw [z] at f4
      obtain ⟨e, er⟩ := ask_1 q20 f4
      rw [if_neg (by rw [er]; decide)] at hf
      obtain ⟨k, hk2, ek⟩ := nI_of01 (x := a0) (a := 2) (by omega) (by omega) (by omega)
      have kk : a0.toNatClampNeg = k := by rw [ek]; exact nI_clamp (by omega)
      obtain ⟨v9, d9, hf⟩ := elet_some hf
      obtain ⟨S10, f10, hf⟩ := obind_some hf
      obtain ⟨-, hf⟩ := oif_some hf
      obtain ⟨S14, e14, hf⟩ := elet_some hf
      obtain ⟨r18, S15, f15, hf⟩ := obind2_some hf
      have k9 : v9 = nI (2455 * k) := by rw [d9, ek]; exact nI_mulk 2455 k
      rw [k9] at f10
      have x10 := x_copy_12_16 (o1 := 0) (o3 := 2455 * k) (by decide) (by omega) f10
      have fk := w_fr_copy_12_16 f10
      obtain ⟨-, hg⟩ := oif_some hg
      obtain ⟨n12, en, hg⟩ := obind_some hg
      rw [(c_fld h.1.1).2.2.2.2.1] at en
      cases en
      obtain ⟨-, hg⟩ := oif_some hg
      obtain ⟨-, hg⟩ := oif_some hg
      obtain ⟨n15, en, hg⟩ := obind_some hg
      rw [kk, (c_fld h.1.1).2.2.2.2.2.2.2 k hk2] at en
      cases en
      obtain ⟨-, hg⟩ := oif_some hg
      obtain ⟨n17, en, hg⟩ := obind_some hg
      rw [(c_fld h.1.1).2.1] at en
      cases en
      obtain ⟨-, hg⟩ := oif_some hg
      obtain ⟨T19, g19, hg⟩ := obind_some hg
      have cp := c_stcopy h.1.1 hV (slot_in hk2) d242 (by omega) g19
      have cc := tgo (cs_X8_copyFrom T (1398 + 94 * k) 242 hV (sd_ro (slot_in hk2)).1 (sd_ro d242).1) g19
      have gr := sr_X8_copyFrom g19
      have hc19 : CRF T19 := crf_gr h.1.1 hV gr
      unfold g_X11_save_b22 at hg
      obtain ⟨-, hg⟩ := oif_some hg
      obtain ⟨n3, en, hg⟩ := obind_some hg
      rw [(c_fld hc19).2.2.2.2.2.1] at en
      cases en
      obtain ⟨-, hg⟩ := oif_some hg
      obtain ⟨-, hg⟩ := oif_some hg
      obtain ⟨T6, e6, hg⟩ := elet_some hg
      rw [kk] at e6
      obtain ⟨-, hg⟩ := oif_some hg
      obtain ⟨r9, T8, g8, hg⟩ := obind2_some hg
      obtain ⟨-, hg⟩ := oif_some hg
      unfold g_X11_save_b33 at hg
      obtain ⟨-, hg⟩ := oif_some hg
      obtain ⟨v3, -, hg⟩ := elet_some hg
      have hV6 : IV aR0 1586 aK1 aK2 T6 := by
        rw [e6]
        exact iv_uI cc.1 r432 (by decide) (by decide) (rfl : iR 49 k = (0, 1)) (by decide) (.inl rfl)
      have sc : ∀ j, S14.1 j = (mi S 0 0).1 j := fun j => by
        rw [e14, show (mf S10 18 (upd (S10.2.1 18) a0.toNatClampNeg 1)).1 j = S10.1 j from rfl, fk.1 j rfl, e]
      have arr : ∀ a, a ≠ 16 → a ≠ 18 → S14.2.1 a = S.2.1 a := fun a n1 n2 => by
        rw [e14, mf_ne n2, fk.2 a (con_ne n1), e]
        rfl
      have a16 : ∀ x, S14.2.1 16 x = if 2455 * k ≤ x ∧ x < 2455 * k + 2455 then S.2.1 12 (x - 2455 * k) else S.2.1 16 x := fun x => by
        rw [e14, mf_ne (by decide), x10 x, e, Nat.zero_add]
        rfl
      have a18 : ∀ x, S14.2.1 18 x = if x = k then 1 else S.2.1 18 x := fun x => by
        rw [e14, mf_at, kk]
        show (if x = k then (1 : Int32) else S10.2.1 18 x) = _
        rw [fk.2 18 rfl, e]
        rfl
      have st : ∀ d, d ∈ sds → d ≠ 1398 + 94 * k → ∀ m i, d ≤ m → m < d + 8 → T6.2.2.1 m i = T.2.2.1 m i := fun d hd hne m i h1 h2 => by
        have gap := sd_gap hd (slot_in hk2) hne
        have si := sd_in hd
        rw [e6, ui_ne (.inl (by omega)), cp.2.2.2 m i (by omega) (sd_nw hd h1 h2)]
      have o0 : ∀ j, T6.2.2.1 0 j = T.2.2.1 0 j := fun j => by
        rw [e6, ui_ne (.inl (by decide)), cp.2.2.2 0 j (.inl (by omega)) (by rw [rrole.2.2.2]; rfl)]
      have R19 : R1 T19 S := r1_keep h.1 hV cc.2 (by decide +kernel) gr fk_rf
      have R6 : R1 T6 S14 := r1_keep R19 cc.1 (W := [1568]) (fw_uA e6 r432 rfl rfl (by decide)) (by decide +kernel) (gr_sp (by rw [e6]; exact ⟨rfl, rfl, rfl⟩)) ⟨sc 2, sc 5, sc 6, sc 20, arr 1 (by decide) (by decide), arr 10 (by decide) (by decide)⟩
      obtain ⟨A, B, ⟨u, w, hu, hw, eu, ew, hj⟩, v⟩ := h.2.2.2 q20
      have e14' : T6.2.2.2.2 0 14 = T.2.2.2.2 0 14 := by
        rw [show T6.2.2.2.2 = T19.2.2.2.2 from by rw [e6]; rfl]
        exact e14_gr hV gr
      have Q : R2 T6 S14 := by
        refine ⟨R6, ?_, ⟨fun j hj => ?_, fun z => absurd ((sc 20).symm.trans z) (by show ¬ S.1 20 = 0; rw [q20]; decide)⟩, fun _ => ⟨?_, ?_, ?_, ?_⟩⟩
        · rw [o0, sc 19]; exact h.2.1
        · rw [a18, e6, ui_get, cp.2.2.2 432 j (.inl (by omega)) (by rw [r432]; rfl)]
          by_cases q : j = k
          · rw [if_pos ⟨rfl, q⟩, if_pos q]
          · rw [if_neg (fun z => q z.2), if_neg q]; exact h.2.2.1.1 j hj
        · rw [arr 10 (by decide) (by decide), arr 12 (by decide) (by decide)]
          exact A.cg p4 p5 (fun m i h1 h2 _ => st 242 d242 (by omega) m i h1 h2) (fun _ _ => rfl) (fun _ _ => rfl)
        · intro s e' c' m hc hm
          rw [e14'] at e'
          rw [arr 10 (by decide) (by decide)] at hc hm
          have si := r1_s h.1 e'
          have pc := (pl_cell hP).2.2.1
          rw [e6, ui_ne (.inl (by omega)), cp.2.2.2 _ m (by omega) (by rw [dl_ro si (by omega)]; rfl), arr 17 (by decide) (by decide)]
          exact B s e' c' m hc hm
        · refine ⟨u, w, hu, hw, (sc 19).trans eu, (o0 17).trans ew, fun j hjx => ?_⟩
          rw [arr 10 (by decide) (by decide), arr 15 (by decide) (by decide)]
          have l6 : (w + 7 + j - u) % 6 < 6 := Nat.mod_lt _ (by decide)
          exact (hj j hjx).cg p4 p5 (fun m i h1 h2 _ => st _ (past_in l6) (by omega) m i h1 h2) (fun _ _ => rfl) (fun _ _ => rfl)
        · intro i hi hn
          rw [arr 10 (by decide) (by decide)]
          by_cases q : i = k
          · subst q
            refine A.mv p4 p5 (fun j hj => ?_) (fun j hj => ?_) (fun j hj => ?_) (fun y hy => ?_) (fun _ _ => rfl)
            · rw [e6, ui_ne (.inl (by omega))]; exact cp.1 j hj
            · rw [e6, ui_ne (.inl (by omega)), ui_ne (.inl (by omega))]; exact cp.2.1 j hj
            · rw [e6, ui_ne (.inl (by omega)), ui_ne (.inl (by omega)), ui_ne (.inl (by omega)), ui_ne (.inl (by omega)), ui_ne (.inl (by omega))]; exact cp.2.2.1 j hj
            · rw [a16, if_pos (by omega), show 2455 * i + y - 2455 * i = 0 + y from by omega]
          · rw [a18, if_neg q] at hn
            exact (v i hi hn).cg p4 p5 (fun m j h1 h2 _ => st _ (slot_in hi) (by omega) m j h1 h2) (fun y hy => by rw [a16, if_neg (by omega)]) (fun _ _ => rfl)
      have hP14 : PL (S14.2.1 10) := by rw [arr 10 (by decide) (by decide)]; exact hP
      rw [← (osome3 hg).2.2, ← (osome2 hf).2]
      exact (r2_pb (fun _ => hP14) hV6 Q g8 (w_fr_bestIn_12 f15)).1
theorem r2_restore {a0 : Int32} (hV : IV aR0 1586 aK1 aK2 T) (hJ : JJ S) (h : R2 T S) (hg : g_X11_restore T 0 a0 = some (k1, r1, T1)) (hf : fr_restore S a0 = some (r2, S1)) : R2 T1 S1 := by
  have z0 : (0 : Int32).toInt = 0 := by decide
  have z1 : (1 : Int32).toInt = 1 := by decide
  have z2 : (2 : Int32).toInt = 2 := by decide
  have no : ∀ {w : Int32}, ¬ w ≤ 0 → fr_restore_b28 S w a0 = some (r2, S1) → S1 = mi S 0 w := by
    intro w hw hf
    unfold fr_restore_b28 at hf
    obtain ⟨V, eV, hf⟩ := elet_some hf
    obtain ⟨v3, e3, hf⟩ := elet_some hf
    rw [if_neg (by rw [e3, eV, mi_at]; exact hw)] at hf
    rw [← (osome2 hf).2, eV]
  unfold fr_restore at hf
  obtain ⟨x2, f2, hf⟩ := obind_some hf
  have q2 := q_in f2
  unfold g_X11_restore at hg
  rcases othr_k hg with ⟨rc2, gc2, hc⟩ | ⟨rc2, Tc2, gc2, hg⟩
  · obtain ⟨eT2, ⟨q, -⟩ | ⟨q, qc⟩⟩ := c_idx gc2
    · exact absurd q hc
    · rcases q2 with ⟨-, z⟩ | ⟨z, -⟩
      · exact absurd ⟨by omega, by omega⟩ qc
      · rw [if_pos z] at hf
        rw [eT2, no (by decide) hf]
        exact r2_mi0 h
  · obtain ⟨eT2, ⟨-, qc⟩ | ⟨q, -⟩⟩ := c_idx gc2
    case inr => exact absurd q (by decide)
    rw [eT2] at hg
    rcases q2 with ⟨z, -⟩ | ⟨-, z⟩
    case inr => exact absurd ⟨by omega, by omega⟩ z
    rw [if_neg (by rw [z]; decide)] at hf
    obtain ⟨k, hk2, ek⟩ := nI_of01 (x := a0) (a := 2) (by omega) (by omega) (by omega)
    have kk : a0.toNatClampNeg = k := by rw [ek]; exact nI_clamp (by omega)
    obtain ⟨-, hf⟩ := oif_some hf
    obtain ⟨v6, e6, hf⟩ := elet_some hf
    rw [kk] at e6
    obtain ⟨-, hg⟩ := oif_some hg
    obtain ⟨n7, en, hg⟩ := obind_some hg
    rw [(c_fld h.1.1).2.2.2.2.2.1] at en
    cases en
    obtain ⟨-, hg⟩ := oif_some hg
    obtain ⟨-, hg⟩ := oif_some hg
    obtain ⟨v10, e10, hg⟩ := elet_some hg
    rw [kk, h.2.2.1.1 k hk2, ← e6] at e10
    rw [e10] at hg
    by_cases c : v6 = 0
    · rw [if_pos c] at hg hf
      rw [← (osome3 hg).2.2, no (by decide) hf]
      exact r2_mi0 h
    · rw [if_neg c] at hg hf
      have q20 : S.1 20 = 1 := by
        obtain ⟨s, hs, h14, hr⟩ := h.1.2.2.2.2
        rcases hr with ⟨a, -⟩ | ⟨a, -⟩
        · exact a
        · exact absurd (e6.trans ((h.2.2.1.2 a).2 k hk2)) c
      have hP := r_pl hJ q20
      obtain ⟨p4, p5⟩ := r2_pl hP
      unfold fr_restore_b28 at hf
      obtain ⟨V, eV, hf⟩ := elet_some hf
      obtain ⟨v3, e3, hf⟩ := elet_some hf
      rw [if_pos (by rw [e3, eV, mi_at]; decide)] at hf
      obtain ⟨v5, d5, hf⟩ := elet_some hf
      obtain ⟨S6, f6, hf⟩ := obind_some hf
      obtain ⟨S9, e9, hf⟩ := elet_some hf
      obtain ⟨r13, S10, f10, hf⟩ := obind2_some hf
      have k5 : v5 = nI (2455 * k) := by rw [d5, ek]; exact nI_mulk 2455 k
      rw [k5] at f6
      have x6 := x_copy_16_12 (o1 := 2455 * k) (o3 := 0) (by omega) (by decide) f6
      have fk := w_fr_copy_16_12 f6
      obtain ⟨-, hg⟩ := oif_some hg
      obtain ⟨n13, en, hg⟩ := obind_some hg
      rw [(c_fld h.1.1).2.1] at en
      cases en
      obtain ⟨-, hg⟩ := oif_some hg
      obtain ⟨n15, en, hg⟩ := obind_some hg
      rw [(c_fld h.1.1).2.2.2.2.1] at en
      cases en
      obtain ⟨-, hg⟩ := oif_some hg
      obtain ⟨-, hg⟩ := oif_some hg
      obtain ⟨n18, en, hg⟩ := obind_some hg
      rw [kk, (c_fld h.1.1).2.2.2.2.2.2.2 k hk2] at en
      cases en
      obtain ⟨-, hg⟩ := oif_some hg
      obtain ⟨T20, g20, hg⟩ := obind_some hg
      have cp := c_stcopy h.1.1 hV d242 (slot_in hk2) (by omega) g20
      have cc := tgo (cs_X8_copyFrom T 242 (1398 + 94 * k) hV (sd_ro d242).1 (sd_ro (slot_in hk2)).1) g20
      have gr := sr_X8_copyFrom g20
      have hc20 : CRF T20 := crf_gr h.1.1 hV gr
      obtain ⟨-, -, -, -, -, -, r66, -⟩ := cam_dec
      unfold g_X11_restore_b35 at hg
      obtain ⟨-, hg⟩ := oif_some hg
      obtain ⟨T3, t3, hg⟩ := elet_some hg
      obtain ⟨-, hg⟩ := oif_some hg
      obtain ⟨n5, en, hg⟩ := obind_some hg
      rw [show T3.2.2.2.2 = T20.2.2.2.2 from by rw [t3]; rfl, (c_fld hc20).1] at en
      cases en
      obtain ⟨-, hg⟩ := oif_some hg
      obtain ⟨T7, t7, hg⟩ := elet_some hg
      obtain ⟨-, hg⟩ := oif_some hg
      obtain ⟨r10, T9, g9, hg⟩ := obind2_some hg
      obtain ⟨-, hg⟩ := oif_some hg
      unfold g_X11_restore_b52 at hg
      obtain ⟨-, hg⟩ := oif_some hg
      obtain ⟨w3, -, hg⟩ := elet_some hg
      have hV3 : IV aR0 1586 aK1 aK2 T3 := by
        rw [t3]
        exact iv_uI cc.1 rrole.2.2.2 (by decide) (by decide) (rfl : iR 11 16 = (0, 6)) (by decide) (.inl rfl)
      have hV7 : IV aR0 1586 aK1 aK2 T7 := by
        rw [t7]
        exact iv_uI hV3 r66 (by decide) (by decide) (rfl : iR 4 0 = (0, 1)) (by decide) (.inl rfl)
      have sc : ∀ j, j ≠ 19 → S9.1 j = (mi S 0 0).1 j := fun j n => by
        rw [e9, mi_ne n, fk.1 j rfl, eV]
      have s19 : S9.1 19 = 0 := by rw [e9, mi_at]
      have arr : ∀ a, a ≠ 12 → S9.2.1 a = S.2.1 a := fun a n1 => by
        rw [e9, show (mi S6 19 0).2.1 a = S6.2.1 a from rfl, fk.2 a (con_ne n1), eV]
        rfl
      have a12 : ∀ x, x < 55 → S9.2.1 12 (0 + x) = S.2.1 16 (2455 * k + x) := fun x hx => by
        rw [e9, show (mi S6 19 0).2.1 12 (0 + x) = S6.2.1 12 (0 + x) from rfl, x6, if_pos (by omega), eV, show 2455 * k + (0 + x - 0) = 2455 * k + x from by omega]
        rfl
      have ot : ∀ m i, m ≠ 66 → (m ≠ 0 ∨ i ≠ 16) → T7.2.2.1 m i = T20.2.2.1 m i := fun m i n1 n2 => by
        rw [t7, ui_ne (.inl n1), t3, ui_ne n2]
      have st : ∀ d, d ∈ sds → d ≠ 242 → ∀ m i, d ≤ m → m < d + 8 → T7.2.2.1 m i = T.2.2.1 m i := fun d hd hne m i h1 h2 => by
        have gap := sd_gap hd d242 hne
        have si := sd_in hd
        rw [ot m i (by omega) (by omega), cp.2.2.2 m i (by omega) (sd_nw hd h1 h2)]
      have R20 : R1 T20 S := r1_keep h.1 hV cc.2 (by decide +kernel) gr fk_rf
      have R3 : R1 T3 S := r1_keep R20 cc.1 (W := [368]) (fw_uI t3 rrole.2.2.2 (by decide)) (by decide +kernel) (gr_sp (by rw [t3]; exact ⟨rfl, rfl, rfl⟩)) fk_rf
      have R7 : R1 T7 S9 := r1_keep R3 hV3 (W := [128]) (fw_uI t7 r66 (by decide)) (by decide +kernel) (gr_sp (by rw [t7]; exact ⟨rfl, rfl, rfl⟩)) ⟨sc 2 (by decide), sc 5 (by decide), sc 6 (by decide), sc 20 (by decide), arr 1 (by decide), arr 10 (by decide)⟩
      obtain ⟨A, B, ⟨u, w, hu, hw, eu, ew, hj⟩, v⟩ := h.2.2.2 q20
      have e14' : T7.2.2.2.2 0 14 = T.2.2.2.2 0 14 := by
        rw [show T7.2.2.2.2 = T20.2.2.2.2 from by rw [t7, t3]; rfl]
        exact e14_gr hV gr
      have Q : R2 T7 S9 := by
        refine ⟨R7, ?_, ⟨fun j hj => ?_, fun z => absurd ((sc 20 (by decide)).symm.trans z) (by show ¬ S.1 20 = 0; rw [q20]; decide)⟩, fun _ => ⟨?_, ?_, ?_, ?_⟩⟩
        · rw [t7, ui_ne (.inl (by decide)), t3, ui_at, s19]
        · rw [ot 432 j (by decide) (.inl (by decide)), cp.2.2.2 432 j (.inr (by decide)) (by rw [r432]; rfl), arr 18 (by decide)]
          exact h.2.2.1.1 j hj
        · rw [arr 10 (by decide)]
          refine (v k hk2 (by rw [← e6]; exact c)).mv p4 p5 (fun j hj => ?_) (fun j hj => ?_) (fun j hj => ?_) a12 (fun _ _ => rfl)
          · rw [ot _ j (by decide) (.inl (by decide))]; exact cp.1 j hj
          · rw [ot _ j (by decide) (.inl (by decide)), ot _ j (by decide) (.inl (by decide))]; exact cp.2.1 j hj
          · rw [ot _ j (by decide) (.inl (by decide)), ot _ j (by decide) (.inl (by decide)), ot _ j (by decide) (.inl (by decide)), ot _ j (by decide) (.inl (by decide)), ot _ j (by decide) (.inl (by decide))]; exact cp.2.2.1 j hj
        · intro s e' c' m hc hm
          rw [e14'] at e'
          rw [arr 10 (by decide)] at hc hm
          have si := r1_s h.1 e'
          have pc := (pl_cell hP).2.2.1
          rw [ot _ m (by omega) (.inl (by omega)), cp.2.2.2 _ m (by omega) (by rw [dl_ro si (by omega)]; rfl), arr 17 (by decide)]
          exact B s e' c' m hc hm
        · refine ⟨0, w, by decide, hw, s19, ?_, fun j hjx => absurd hjx (Nat.not_lt_zero j)⟩
          rw [ot 0 17 (by decide) (.inr (by decide)), cp.2.2.2 0 17 (.inl (by decide)) (by rw [rrole.2.2.2]; rfl)]
          exact ew
        · intro i hi hn
          rw [arr 18 (by decide)] at hn
          rw [arr 10 (by decide), arr 16 (by decide)]
          exact (v i hi hn).cg p4 p5 (fun m j h1 h2 _ => st _ (slot_in hi) (by omega) m j h1 h2) (fun _ _ => rfl) (fun _ _ => rfl)
      have hP9 : PL (S9.2.1 10) := by rw [arr 10 (by decide)]; exact hP
      rw [← (osome3 hg).2.2, ← (osome2 hf).2]
      exact (r2_pb (fun _ => hP9) hV7 Q g9 (w_fr_bestIn_12 f10)).1
end
