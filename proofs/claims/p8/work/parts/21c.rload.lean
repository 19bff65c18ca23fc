section
variable {T T1 : AT} {S S1 : MS} {s : Nat}
theorem crf_eq (h : CRF T) (e : T1.2.2.2.2 = T.2.2.2.2) : CRF T1 := by
  unfold CRF at h ⊢
  rw [e]
  exact h
theorem rsrole (hs : s = 478 ∨ s = 656) : aR0 s = 6 := (sro hs).1
theorem seq_of (h : ∀ m j, s ≤ m → m < s + 178 → T1.2.2.1 m j = T.2.2.1 m j) : SEQ s T T1 := ⟨fun j _ => h _ _ (by omega) (by omega), fun j _ => h _ _ (by omega) (by omega), fun j => h _ _ (by omega) (by omega), fun m j a b => h _ _ (by omega) (by omega), fun m j a b => h _ _ (by omega) (by omega), fun m j a b _ => h _ _ (by omega) (by omega), fun m j a b _ => h _ _ (by omega) (by omega)⟩
set_option maxHeartbeats 400000 in
theorem r1_load {a0 r1 r2 : Int32} {k1 : Nat} (hV : IV aR0 1586 aK1 aK2 T) (hJ : JJ S) (h : R1 T S) (hg : g_X11_load T 0 a0 = some (k1, r1, T1)) (hf : fr_load S a0 = some (r2, S1)) : R1 T1 S1 ∧ (k1 = 0 ∧ S1.1 0 = 0 ∧ r1 = r2 ∨ k1 = 2 ∧ S1.1 0 = 1 ∨ k1 = 3 ∧ S1.1 0 = 2) := by
  have z0 : (0 : Int32).toInt = 0 := by decide
  obtain ⟨hc, hB, h5, h6, w0, hw0, h14, hr⟩ := h
  obtain ⟨d1, d2, d6, d0⟩ := rrole
  obtain ⟨-, -, -, -, -, -, -, t8, t9, -⟩ := txr_dec
  have c00 : T.2.2.2.2 0 0 = some 1 := (hc.2.1 0 (by decide) (by decide)).trans t8
  have c01 : T.2.2.2.2 0 1 = some 6 := (hc.2.1 1 (by decide) (by decide)).trans t9
  have h1000 : (S.1 2).toInt ≤ 1000 := (jj_ib hJ).1.1.2
  unfold fr_load at hf
  obtain ⟨S2, e2, hf⟩ := elet_some hf
  obtain ⟨v3, e3, hf⟩ := elet_some hf
  have e3 : v3 = S.1 2 := by rw [e3, e2]; rfl
  obtain ⟨r4, f4, hf⟩ := obind_some hf
  have out : g_X11_load_b15 T = some (k1, r1, T1) → (∃ r10 S7, fr_throwsAt S2 1 = some (r10, S7) ∧ S1 = S7) → R1 T1 S1 ∧ (k1 = 0 ∧ S1.1 0 = 0 ∧ r1 = r2 ∨ k1 = 2 ∧ S1.1 0 = 1 ∨ k1 = 3 ∧ S1.1 0 = 2) := by
    intro hg q
    obtain ⟨r10, S7, f7, e7⟩ := q
    unfold g_X11_load_b15 at hg
    have g := osome3 hg
    unfold fr_throwsAt at f7
    obtain ⟨U, eU, f7⟩ := elet_some f7
    have g7 := (osome2 f7).2
    rw [← g.2.2, e7, ← g7, eU, e2]
    refine ⟨r1_keep (W := []) (T := T) (S := S) ⟨hc, hB, h5, h6, w0, hw0, h14, hr⟩ hV FW.rf (by decide +kernel) (GR.rf T) ⟨rfl, rfl, rfl, rfl, rfl, rfl⟩, .inr (.inl ⟨g.1.symm, rfl⟩)⟩
  rcases tin2 f4 with ⟨c4, c0, c1⟩ | ⟨c4, cn⟩
  rotate_left
  · rw [if_pos c4] at hf
    obtain ⟨r10, S7, f7, hf⟩ := obind2_some hf
    refine out ?_ ⟨r10, S7, f7, (osome2 hf).2.symm⟩
    unfold g_X11_load at hg
    by_cases b0 : a0 < 0
    · rw [if_pos b0] at hg; exact hg
    · rw [if_neg b0] at hg
      obtain ⟨-, hg⟩ := oif_some hg
      obtain ⟨n4, e4, hg⟩ := obind_some hg
      rw [c00] at e4
      cases e4
      obtain ⟨-, hg⟩ := oif_some hg
      obtain ⟨v6, e6, hg⟩ := elet_some hg
      rw [if_neg (fun q => cn ⟨Int32.not_lt.mp b0, by rw [e3, ← hB.1, ← e6]; exact q⟩)] at hg
      exact hg
  rw [if_neg (by rw [c4]; decide)] at hf
  rw [e3] at c1
  have q0 := i_le c0
  have q1 := i_le c1
  obtain ⟨n, hn, en⟩ := nI_of01 (x := a0) (a := 1001) (by omega) (by omega) (by omega)
  obtain ⟨S11, e11, hf⟩ := elet_some hf
  obtain ⟨S12, e12, hf⟩ := elet_some hf
  obtain ⟨S13, e13, hf⟩ := elet_some hf
  obtain ⟨S14, e14, hf⟩ := elet_some hf
  obtain ⟨S15, e15, hf⟩ := elet_some hf
  obtain ⟨S16, f16, hf⟩ := obind_some hf
  obtain ⟨v19, e19, hf⟩ := elet_some hf
  have s15 : S15 = mi (mi (mi (mi (mi (mi S 0 0) 3 a0) 2 0) 4 0) 5 0) 6 (-1) := by rw [e15, e14, e13, e12, e11, e2]
  have k16 := w_fr_readText f16
  have j16 : ∀ k, k = 0 ∨ k = 2 ∨ k = 20 → S16.1 k = S15.1 k := fun k hk => by rcases hk with e | e | e <;> rw [e] <;> exact k16.1 _ (by decide)
  unfold g_X11_load at hg
  rw [if_neg (Int32.not_lt.mpr c0)] at hg
  obtain ⟨-, hg⟩ := oif_some hg
  obtain ⟨n4, en4, hg⟩ := obind_some hg
  rw [c00] at en4
  cases en4
  obtain ⟨-, hg⟩ := oif_some hg
  obtain ⟨v6, e6, hg⟩ := elet_some hg
  rw [if_pos (by rw [e6, hB.1]; exact c1)] at hg
  obtain ⟨-, hg⟩ := oif_some hg
  obtain ⟨n9, en9, hg⟩ := obind_some hg
  rw [c00] at en9
  cases en9
  obtain ⟨-, hg⟩ := oif_some hg
  obtain ⟨T11, e11', hg⟩ := elet_some hg
  have R11 : T11.2.2.2.2 = T.2.2.2.2 := by rw [e11']; rfl
  have hc11 := crf_eq hc R11
  have hV11 : IV aR0 1586 aK1 aK2 T11 := by
    rw [e11']
    exact iv_uI hV d1 (by decide) (by decide) (rfl : iR 9 1 = (0, 1000)) (by decide) (.inl rfl)
  obtain ⟨u, w, hu, hw, huw, e15u, e14w⟩ : ∃ u w, (u = 478 ∨ u = 656) ∧ (w = 478 ∨ w = 656) ∧ u ≠ w ∧ T.2.2.2.2 0 15 = some u ∧ T.2.2.2.2 0 14 = some w := by
    rcases hc.2.2 with ⟨a, b⟩ | ⟨a, b⟩
    · exact ⟨656, 478, .inr rfl, .inl rfl, by decide, b, a⟩
    · exact ⟨478, 656, .inl rfl, .inr rfl, by decide, b, a⟩
  have ew : w0 = w := by
    rw [h14] at e14w
    exact Option.some.inj e14w
  subst ew
  obtain ⟨-, hg⟩ := oif_some hg
  obtain ⟨n13, en13, hg⟩ := obind_some hg
  rw [R11, c01] at en13
  cases en13
  obtain ⟨-, hg⟩ := oif_some hg
  obtain ⟨n15, en15, hg⟩ := obind_some hg
  rw [R11, e15u] at en15
  cases en15
  obtain ⟨-, hg⟩ := oif_some hg
  have lp : ∀ {k : Nat} {r : Int32} {U : AT}, g_X3_parse T11 6 a0 u = some (k, r, U) → TXq u T11 U S16 k := fun {k r U} g => by
    rw [en] at g
    exact l_parse (b := S.2.1 1) hu (hc11.txr hV11) (hc11.srf hu) (fun j hj => by rw [e11', ui_ne (.inl (by decide))]; exact hB.2 j hj) (by omega) (by rw [s15]; rfl) (by rw [s15]; exact en) (by rw [s15]; rfl) (by rw [s15]; rfl) (by rw [s15]; rfl) g f16
  have po := fun {k : Nat} {r : Int32} {U : AT} (g : g_X3_parse T11 6 a0 u = some (k, r, U)) => parse_out hc11 hV11 hu (by omega) (by omega) g
  have seqw : ∀ {k : Nat} {r : Int32} {U : AT}, g_X3_parse T11 6 a0 u = some (k, r, U) → SEQ w0 T U := fun {k r U} g => seq_of (fun m j a b => by
    rw [(po g).1 m j (by omega) (by omega), e11', ui_ne (.inl (by omega))])
  have l11 : T11.2.2.1 1 1 = 0 := by rw [e11', ui_at]
  have b11 : ∀ j, T11.2.2.1 2 j = T.2.2.1 2 j := fun j => by rw [e11', ui_ne (.inl (by decide))]
  have s2 : S15.1 2 = 0 := by rw [s15]; rfl
  have s00 : S15.1 0 = 0 := by rw [s15]; rfl
  have s20 : S15.1 20 = S.1 20 := by rw [s15]; rfl
  have sA : S15.2 = S.2 := by rw [s15]; rfl
  rcases othr_k hg with ⟨r9, g9, z9⟩ | ⟨r19, T17, g9, hg⟩
  · rcases lp g9 with ⟨z, -⟩ | ⟨z1, z2⟩
    · exact absurd z z9
    rw [if_neg (st_le z2.1 e19)] at hf
    obtain ⟨r24, S21, f21, hf⟩ := obind2_some hf
    unfold fr_throwsAt at f21
    obtain ⟨U, eU, f21⟩ := elet_some f21
    have g21 := (osome2 f21).2
    have ff := (osome2 hf).2
    have eS : S1 = mi S16 0 2 := by rw [← ff, ← g21, eU]
    have p := po g9
    have R1' : T1.2.2.2.2 = T.2.2.2.2 := (s_X3_parse g9).2.2.trans R11
    refine ⟨⟨crf_eq hc R1', ⟨?_, fun k hk => ?_⟩, ?_, ?_, rs_eq hw0 (seqw g9) (fun x _ => ?_) ?_ (by rw [R1']; exact h14) hr⟩, .inr (.inr ⟨z1, ?_⟩)⟩
    · rw [p.2.2.1, l11, eS, mi_ne (by decide), j16 2 (by omega), s2]
    · rw [p.2.1, b11, hB.2 k hk, eS]
      show _ = S16.2.1 1 k
      rw [k16.2 1 (by decide), sA]
    · rw [eS, mi_ne (by decide)]; exact z2.2.1
    · rw [eS, mi_ne (by decide)]; exact z2.2.2
    · rw [eS]
      show S16.2.1 10 x = _
      rw [k16.2 10 (by decide), sA]
    · rw [eS, mi_ne (by decide), j16 20 (by omega), s20]
    · rw [eS, mi_at]
  · rcases lp g9 with ⟨-, C17, R17, p2, p3, u5, u6, u4, u8⟩ | ⟨z, -⟩
    rotate_left
    · exact absurd z (by decide)
    have p := po g9
    have R17 := R17.trans R11
    rw [if_pos (by rw [e19, u5]; decide)] at hf
    obtain ⟨U, V, a1, a2, a3, fV, hf⟩ := r_cp 16384 (l := 0) (by omega) (fun x hx => absurd hx (Nat.not_lt_zero x)) hf
    have kV := w_fr_copy_13_12 fV
    have k1' := w3_fr_load_b107 _ _ _ hf
    have zq := z_107 _ hf
    have sc : ∀ k, k = 0 ∨ k = 2 ∨ k = 5 ∨ k = 6 → S1.1 k = S16.1 k := fun k hk => by
      rw [← a1]
      rcases hk with e | e | e | e <;> rw [e] <;> exact (k1'.1 _ (by decide)).trans (kV.1 _ (by decide))
    have sp : ∀ x, x < 131 → S1.2.1 10 x = S16.2.1 11 x := fun x hx => by
      rw [k1'.2 10 (by decide), kV.2 10 (by decide)]
      exact a3 x hx
    have sb : S1.2.1 1 = S.2.1 1 := by
      rw [k1'.2 1 (by decide), kV.2 1 (by decide), a2 1 (by decide), k16.2 1 (by decide), sA]
    obtain ⟨-, hg⟩ := oif_some hg
    obtain ⟨n22, en22, hg⟩ := obind_some hg
    rw [R17, h14] at en22
    cases en22
    obtain ⟨-, hg⟩ := oif_some hg
    obtain ⟨n24, en24, hg⟩ := obind_some hg
    rw [R17, e15u] at en24
    cases en24
    obtain ⟨-, hg⟩ := oif_some hg
    obtain ⟨-, hg⟩ := oif_some hg
    obtain ⟨T27, e27, hg⟩ := elet_some hg
    obtain ⟨-, hg⟩ := oif_some hg
    obtain ⟨-, hg⟩ := oif_some hg
    obtain ⟨T30, e30, hg⟩ := elet_some hg
    obtain ⟨-, hg⟩ := oif_some hg
    obtain ⟨T32, g32, hg⟩ := obind_some hg
    have hV27 : IV aR0 1586 aK1 aK2 T27 := by
      rw [e27]
      exact iv_uR p.2.2.2 d0 (by decide) (by decide) rfl rfl (rsrole hu) ⟨by decide, by decide⟩
    have hV30 : IV aR0 1586 aK1 aK2 T30 := by
      rw [e30]
      exact iv_uR hV27 d0 (by decide) (by decide) rfl rfl (rsrole hw0) ⟨by decide, by decide⟩
    have i30 : T30.2.2.1 = T17.2.2.1 := by rw [e30, e27]; rfl
    have r30 : ∀ n k, n ≠ 0 → T30.2.2.2.2 n k = T.2.2.2.2 n k := fun n k hn => by
      rw [e30]
      show va_up T27.2.2.2.2 0 _ n k = _
      rw [va_up_ne _ _ hn, e27]
      show va_up T17.2.2.2.2 0 _ n k = _
      rw [va_up_ne _ _ hn, R17]
    have r30' : ∀ k, T30.2.2.2.2 0 k = if k = 15 then some w0 else if k = 14 then some u else T.2.2.2.2 0 k := fun k => by
      rw [e30]
      show va_up T27.2.2.2.2 0 (va_up (T27.2.2.2.2 0) 15 (some w0)) 0 k = _
      rw [va_up_self, e27]
      show (if k = 15 then some w0 else va_up T17.2.2.2.2 0 (va_up (T17.2.2.2.2 0) 14 (some u)) 0 k) = _
      rw [va_up_self, R17]
      rfl
    have hc30 : CRF T30 := by
      refine ⟨fun n hn hs hr k => (r30 n k hn).trans (hc.1 n hn hs hr k), fun k b14 b15 => by rw [r30', if_neg b15, if_neg b14]; exact hc.2.1 k b14 b15, ?_⟩
      rw [r30', r30', if_neg (by decide), if_pos rfl, if_pos rfl]
      rcases hu with e | e <;> rcases hw0 with e' | e' <;> subst e <;> subst e'
      · exact absurd rfl huw
      · exact .inl ⟨rfl, rfl⟩
      · exact .inr ⟨rfl, rfl⟩
      · exact absurd rfl huw
    have cb := tgo (cs_X11_begin T30 0 hV30 d0) g32
    have gb := sr_X11_begin g32
    have hc32 : CRF T32 := crf_gr hc30 hV30 gb
    have e14' : T32.2.2.2.2 0 14 = some u := by
      have q : T32.2.2.2.2 0 14 = T30.2.2.2.2 0 14 := by
        refine gb.2 0 14 (Nat.lt_of_lt_of_le (by decide) hV30.1.2.2) ?_
        rw [hV30.2.1 0 (iv_sta hV30 d0 (by decide) (by decide)), d0]
        decide
      rw [q, r30', if_neg (by decide), if_pos rfl]
    have sq : SEQ u T17 T32 := by
      have q := fw_seq (s := u) cb.2 (by decide +kernel) hu
      unfold SEQ at q ⊢
      rw [i30] at q
      exact q
    have sce : SCE u T32 (S1.2.1 10) := sce_eq (sce_of C17) sq sp
    unfold g_X11_load_b65 at hg
    obtain ⟨-, hg⟩ := oif_some hg
    obtain ⟨n3, en3, hg⟩ := obind_some hg
    rw [e14'] at en3
    cases en3
    obtain ⟨-, hg⟩ := oif_some hg
    obtain ⟨n5, en5, hg⟩ := obind_some hg
    rw [(hc32.srf hu).2.1] at en5
    cases en5
    obtain ⟨-, hg⟩ := oif_some hg
    obtain ⟨r9', T7, g7, hg⟩ := obind2_some hg
    unfold g_X1_cells at g7
    obtain ⟨-, g7⟩ := oif_some g7
    obtain ⟨x3, y3, g7⟩ := elet_some g7
    obtain ⟨-, g7⟩ := oif_some g7
    obtain ⟨x5, y5, g7⟩ := elet_some g7
    obtain ⟨x6, y6, g7⟩ := elet_some g7
    have gg := osome2 g7
    have g := osome3 hg
    rw [← g.2.2, ← gg.2]
    refine ⟨⟨hc32, ⟨?_, fun k hk => ?_⟩, ?_, ?_, u, hu, e14', .inl ⟨zq.2, sce, by rw [sp 4 (by decide)]; exact u4, by rw [sp 8 (by decide)]; exact u8⟩⟩, .inl ⟨g.1.symm, ?_, ?_⟩⟩
    · rw [cb.2 1 1 (by rw [d1]; rfl), i30, p.2.2.1, l11, sc 2 (by omega), j16 2 (by omega), s2]
    · rw [cb.2 2 k (by rw [d2]; rfl), i30, p.2.1, b11, hB.2 k hk, sb]
    · rw [cb.2 6 2 (by rw [d6]; rfl), i30, p2, sc 5 (by omega), u5]
    · rw [cb.2 6 3 (by rw [d6]; rfl), i30, p3, sc 6 (by omega), u6]
    · rw [sc 0 (by omega), j16 0 (by omega), s00]
    · rw [← g.2.1, ← gg.1, y6, y3, y5, sce.2.2.1.1, sce.2.2.1.2.1]
      exact zq.1.symm
end
