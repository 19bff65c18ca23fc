/-! load: R2 is kept -/
section
variable {T T1 : AT} {S S1 : MS} {s : Nat}
set_option maxHeartbeats 400000 in
theorem r2_load {a0 r1 r2 : Int32} {k1 : Nat} (hV : IV aR0 1586 aK1 aK2 T) (hJ : JJ S) (h : R2 T S) (hg : g_X11_load T 0 a0 = some (k1, r1, T1)) (hf : fr_load S a0 = some (r2, S1)) : R2 T1 S1 := by
  have HR := (r1_load hV hJ h.1 hg hf).1
  have HJ0 := tgo (sj_load S a0 hJ) hf
  have HJ : JJ S1 := HJ0
  have z0 : (0 : Int32).toInt = 0 := by decide
  have hh := h
  obtain ⟨hc, hB, h5, h6, w0, hw0, h14, hr⟩ := h.1
  obtain ⟨d1, d2, d6, d0⟩ := rrole
  obtain ⟨-, -, -, -, -, -, -, t8, t9, -⟩ := txr_dec
  have c00 : T.2.2.2.2 0 0 = some 1 := (hc.2.1 0 (by decide) (by decide)).trans t8
  have c01 : T.2.2.2.2 0 1 = some 6 := (hc.2.1 1 (by decide) (by decide)).trans t9
  have h1000 : (S.1 2).toInt ≤ 1000 := (jj_ib hJ).1.1.2
  unfold fr_load at hf
  obtain ⟨S2, e2, hf⟩ := elet_some hf
  obtain ⟨v3, e3, hf⟩ := elet_some hf
  have e3 : v3 = S.1 2 := by rw [e3, e2]; rfl
  obtain ⟨r4, f4, hf⟩ := obind_some hf
  have out : g_X11_load_b15 T = some (k1, r1, T1) → (∃ r10 S7, fr_throwsAt S2 1 = some (r10, S7) ∧ S1 = S7) → R2 T1 S1 := by
    intro hg q
    obtain ⟨r10, S7, f7, e7⟩ := q
    unfold g_X11_load_b15 at hg
    have g := osome3 hg
    rw [← g.2.2, e7, r_thr f7, e2]
    exact r2_mi0 (r2_mi0 hh)
  rcases tin2 f4 with ⟨c4, c0, c1⟩ | ⟨c4, cn⟩
  rotate_left
  · rw [if_pos c4] at hf
    obtain ⟨r10, S7, f7, hf⟩ := obind2_some hf
    refine out ?_ ⟨r10, S7, f7, (osome2 hf).2.symm⟩
    unfold g_X11_load at hg
    by_cases b0 : a0 < 0
    · rw [if_pos b0] at hg; exact hg
    · rw [if_neg b0] at hg
      obtain ⟨-, hg⟩ := oif_some hg
      obtain ⟨n4, e4, hg⟩ := obind_some hg
      rw [c00] at e4
      cases e4
      obtain ⟨-, hg⟩ := oif_some hg
      obtain ⟨v6, e6, hg⟩ := elet_some hg
      rw [if_neg (fun q => cn ⟨Int32.not_lt.mp b0, by rw [e3, ← hB.1, ← e6]; exact q⟩)] at hg
      exact hg
  rw [if_neg (by rw [c4]; decide)] at hf
  rw [e3] at c1
  have q0 := i_le c0
  have q1 := i_le c1
  obtain ⟨n, hn, en⟩ := nI_of01 (x := a0) (a := 1001) (by omega) (by omega) (by omega)
  obtain ⟨S11, e11, hf⟩ := elet_some hf
  obtain ⟨S12, e12, hf⟩ := elet_some hf
  obtain ⟨S13, e13, hf⟩ := elet_some hf
  obtain ⟨S14, e14, hf⟩ := elet_some hf
  obtain ⟨S15, e15, hf⟩ := elet_some hf
  obtain ⟨S16, f16, hf⟩ := obind_some hf
  obtain ⟨v19, e19, hf⟩ := elet_some hf
  have s15 : S15 = mi (mi (mi (mi (mi (mi S 0 0) 3 a0) 2 0) 4 0) 5 0) 6 (-1) := by rw [e15, e14, e13, e12, e11, e2]
  have k16 := w_fr_readText f16
  have j16 : ∀ k, k = 0 ∨ k = 2 ∨ k = 20 → S16.1 k = S15.1 k := fun k hk => by rcases hk with e | e | e <;> rw [e] <;> exact k16.1 _ (by decide)
  unfold g_X11_load at hg
  rw [if_neg (Int32.not_lt.mpr c0)] at hg
  obtain ⟨-, hg⟩ := oif_some hg
  obtain ⟨n4, en4, hg⟩ := obind_some hg
  rw [c00] at en4
  cases en4
  obtain ⟨-, hg⟩ := oif_some hg
  obtain ⟨v6, e6, hg⟩ := elet_some hg
  rw [if_pos (by rw [e6, hB.1]; exact c1)] at hg
  obtain ⟨-, hg⟩ := oif_some hg
  obtain ⟨n9, en9, hg⟩ := obind_some hg
  rw [c00] at en9
  cases en9
  obtain ⟨-, hg⟩ := oif_some hg
  obtain ⟨T11, e11', hg⟩ := elet_some hg
  have R11 : T11.2.2.2.2 = T.2.2.2.2 := by rw [e11']; rfl
  have hc11 := crf_eq hc R11
  have hV11 : IV aR0 1586 aK1 aK2 T11 := by
    rw [e11']
    exact iv_uI hV d1 (by decide) (by decide) (rfl : iR 9 1 = (0, 1000)) (by decide) (.inl rfl)
  obtain ⟨u, w, hu, hw, huw, e15u, e14w⟩ : ∃ u w, (u = 478 ∨ u = 656) ∧ (w = 478 ∨ w = 656) ∧ u ≠ w ∧ T.2.2.2.2 0 15 = some u ∧ T.2.2.2.2 0 14 = some w := by
    rcases hc.2.2 with ⟨a, b⟩ | ⟨a, b⟩
    · exact ⟨656, 478, .inr rfl, .inl rfl, by decide, b, a⟩
    · exact ⟨478, 656, .inl rfl, .inr rfl, by decide, b, a⟩
  have ew : w0 = w := by
    rw [h14] at e14w
    exact Option.some.inj e14w
  subst ew
  obtain ⟨-, hg⟩ := oif_some hg
  obtain ⟨n13, en13, hg⟩ := obind_some hg
  rw [R11, c01] at en13
  cases en13
  obtain ⟨-, hg⟩ := oif_some hg
  obtain ⟨n15, en15, hg⟩ := obind_some hg
  rw [R11, e15u] at en15
  cases en15
  obtain ⟨-, hg⟩ := oif_some hg
  have lp : ∀ {k : Nat} {r : Int32} {U : AT}, g_X3_parse T11 6 a0 u = some (k, r, U) → TXq u T11 U S16 k := fun {k r U} g => by
    rw [en] at g
    exact l_parse (b := S.2.1 1) hu (hc11.txr hV11) (hc11.srf hu) (fun j hj => by rw [e11', ui_ne (.inl (by decide))]; exact hB.2 j hj) (by omega) (by rw [s15]; rfl) (by rw [s15]; exact en) (by rw [s15]; rfl) (by rw [s15]; rfl) (by rw [s15]; rfl) g f16
  have po := fun {k : Nat} {r : Int32} {U : AT} (g : g_X3_parse T11 6 a0 u = some (k, r, U)) => parse_out hc11 hV11 hu (by omega) (by omega) g
  have seqw : ∀ {k : Nat} {r : Int32} {U : AT}, g_X3_parse T11 6 a0 u = some (k, r, U) → SEQ w0 T U := fun {k r U} g => seq_of (fun m j a b => by
    rw [(po g).1 m j (by omega) (by omega), e11', ui_ne (.inl (by omega))])
  have l11 : T11.2.2.1 1 1 = 0 := by rw [e11', ui_at]
  have b11 : ∀ j, T11.2.2.1 2 j = T.2.2.1 2 j := fun j => by rw [e11', ui_ne (.inl (by decide))]
  have s2 : S15.1 2 = 0 := by rw [s15]; rfl
  have s00 : S15.1 0 = 0 := by rw [s15]; rfl
  have s20 : S15.1 20 = S.1 20 := by rw [s15]; rfl
  have sA : S15.2 = S.2 := by rw [s15]; rfl
  rcases othr_k hg with ⟨r9, g9, z9⟩ | ⟨r19, T17, g9, hg⟩
  · rcases lp g9 with ⟨z, -⟩ | ⟨z1, z2⟩
    · exact absurd z z9
    rw [if_neg (st_le z2.1 e19)] at hf
    obtain ⟨r24, S21, f21, hf⟩ := obind2_some hf
    have ff := (osome2 hf).2
    have eS : S1 = mi S16 0 2 := by rw [← ff, r_thr f21]
    have cp := tgo (cs_X3_parse T11 6 a0 u hV11 d6 (rsrole hu) (by omega)) g9
    have k11 : CKr T T11 := by
      rw [e11']
      exact ⟨ui_ne (.inl (by decide)), ui_ne (.inl (by decide)), fun k => ui_ne (.inl (by decide)), fun d hd _ m k h1 h2 _ => ui_ne (.inl (by have := sd_in hd; omega)), fun s c k hs hc => ui_ne (.inl (by omega)), rfl⟩
    have kp : CKr T11 T1 := ck_fw hV11 cp.1.2 (by decide +kernel) (gr_sp (s_X3_parse g9))
    have sc : ∀ k, k = 19 ∨ k = 20 → S1.1 k = S.1 k := fun k hk => by
      rw [eS, mi_ne (by omega), k16.1 k (by rcases hk with e | e <;> rw [e] <;> decide), s15]
      rcases hk with e | e <;> rw [e] <;> rfl
    have ar : ∀ a, [11, 13].contains a = false → S1.2.1 a = S.2.1 a := fun a ha => by
      rw [eS, show (mi S16 0 2).2.1 a = S16.2.1 a from rfl, k16.2 a ha, sA]
    exact r2_keepG (r_pl hJ) hh HR (k11.tr kp) ⟨sc 19 (.inl rfl), sc 20 (.inr rfl), ar 10 rfl, ar 12 rfl, ar 15 rfl, ar 16 rfl, ar 17 rfl, ar 18 rfl⟩
  · rcases lp g9 with ⟨-, C17, R17, p2, p3, u5, u6, u4, u8⟩ | ⟨z, -⟩
    rotate_left
    · exact absurd z (by decide)
    have p := po g9
    have R17 := R17.trans R11
    rw [if_pos (by rw [e19, u5]; decide)] at hf
    obtain ⟨U, V, a1, a2, a3, fV, hf⟩ := r_cp 16384 (l := 0) (by omega) (fun x hx => absurd hx (Nat.not_lt_zero x)) hf
    have kV := w_fr_copy_13_12 fV
    have k1' := w3_fr_load_b107 _ _ _ hf
    have zq := z_107 _ hf
    have sp : ∀ x, x < 131 → S1.2.1 10 x = S16.2.1 11 x := fun x hx => by
      rw [k1'.2 10 (by decide), kV.2 10 (by decide)]
      exact a3 x hx
    have eP : V.2.1 10 = S1.2.1 10 := (k1'.2 10 (by decide)).symm
    have hP : PL (S1.2.1 10) := r_pl HJ zq.2
    have p4 := pl_4 hP
    have p5 := pl_5 hP
    have xc := x_copy_13_12 (o1 := 0) (o3 := 0) (by decide) (by decide) fV
    have v12 : ∀ x, x < 55 → V.2.1 12 x = S16.2.1 13 x := fun x hx => by
      rw [xc x, if_pos (by omega), a2 13 (by decide), show 0 + (x - 0) = x from by omega]
    obtain ⟨W, w1, w2, w3, S7, w4, w5, w6, w7, w8, w9, w10⟩ := x_107 (V := V) hP 16384 0 (by omega) eP (fun x hx => by rw [if_neg (by omega)]) hf
    obtain ⟨l0, l1⟩ := l_records (by rw [w1]; exact hP) w4
    have low : ∀ x, 1 ≤ x → x < 55 → S1.2.1 12 x = W.2.1 12 x := fun x h1 h2 => by rw [w5]; exact l1 x h1 h2
    obtain ⟨-, hg⟩ := oif_some hg
    obtain ⟨n22, en22, hg⟩ := obind_some hg
    rw [R17, h14] at en22
    cases en22
    obtain ⟨-, hg⟩ := oif_some hg
    obtain ⟨n24, en24, hg⟩ := obind_some hg
    rw [R17, e15u] at en24
    cases en24
    obtain ⟨-, hg⟩ := oif_some hg
    obtain ⟨-, hg⟩ := oif_some hg
    obtain ⟨T27, e27, hg⟩ := elet_some hg
    obtain ⟨-, hg⟩ := oif_some hg
    obtain ⟨-, hg⟩ := oif_some hg
    obtain ⟨T30, e30, hg⟩ := elet_some hg
    obtain ⟨-, hg⟩ := oif_some hg
    obtain ⟨T32, g32, hg⟩ := obind_some hg
    have hV27 : IV aR0 1586 aK1 aK2 T27 := by
      rw [e27]
      exact iv_uR p.2.2.2 d0 (by decide) (by decide) rfl rfl (rsrole hu) ⟨by decide, by decide⟩
    have hV30 : IV aR0 1586 aK1 aK2 T30 := by
      rw [e30]
      exact iv_uR hV27 d0 (by decide) (by decide) rfl rfl (rsrole hw0) ⟨by decide, by decide⟩
    have i30 : T30.2.2.1 = T17.2.2.1 := by rw [e30, e27]; rfl
    have r30 : ∀ n k, n ≠ 0 → T30.2.2.2.2 n k = T.2.2.2.2 n k := fun n k hn => by
      rw [e30]
      show va_up T27.2.2.2.2 0 _ n k = _
      rw [va_up_ne _ _ hn, e27]
      show va_up T17.2.2.2.2 0 _ n k = _
      rw [va_up_ne _ _ hn, R17]
    have r30' : ∀ k, T30.2.2.2.2 0 k = if k = 15 then some w0 else if k = 14 then some u else T.2.2.2.2 0 k := fun k => by
      rw [e30]
      show va_up T27.2.2.2.2 0 (va_up (T27.2.2.2.2 0) 15 (some w0)) 0 k = _
      rw [va_up_self, e27]
      show (if k = 15 then some w0 else va_up T17.2.2.2.2 0 (va_up (T17.2.2.2.2 0) 14 (some u)) 0 k) = _
      rw [va_up_self, R17]
      rfl
    have hc30 : CRF T30 := by
      refine ⟨fun n hn hs hr k => (r30 n k hn).trans (hc.1 n hn hs hr k), fun k b14 b15 => by rw [r30', if_neg b15, if_neg b14]; exact hc.2.1 k b14 b15, ?_⟩
      rw [r30', r30', if_neg (by decide), if_pos rfl, if_pos rfl]
      rcases hu with e | e <;> rcases hw0 with e' | e' <;> subst e <;> subst e'
      · exact absurd rfl huw
      · exact .inl ⟨rfl, rfl⟩
      · exact .inr ⟨rfl, rfl⟩
      · exact absurd rfl huw
    have f14 : T30.2.2.2.2 0 14 = some u := by rw [r30', if_neg (by decide), if_pos rfl]
    have C30 : SCE u T30 (S1.2.1 10) := by
      refine sce_eq (sce_of C17) ?_ sp
      unfold SEQ
      rw [i30]
      exact ⟨fun _ _ => rfl, fun _ _ => rfl, fun _ => rfl, fun _ _ _ _ => rfl, fun _ _ _ _ => rfl, fun _ _ _ _ _ => rfl, fun _ _ _ _ _ => rfl⟩
    obtain ⟨-, -, -, gS, -, -, -, -, -, gD⟩ := C17
    have S30 : SRCg u T30 (S1.2.1 10) (S16.2.1 13) := by
      obtain ⟨c, c6, y8, y5, ys⟩ := gS
      unfold SRCg
      rw [i30]
      refine ⟨c, c6, y8, (sp 5 (by decide)).trans y5, fun k hk => ?_⟩
      obtain ⟨q1, q2, q3, q4, q5, q6⟩ := ys k hk
      rw [sp _ (by omega), sp _ (by omega), sp _ (by omega), sp _ (by omega), sp _ (by omega)]
      exact ⟨q1, q2, q3, q4, q5, q6⟩
    have m17 := iv_int hV30 d0 (by decide) (by decide) (rfl : T30.2.2.1 0 17 = T30.2.2.1 0 17) (rfl : iR 11 17 = (0, 5))
    obtain ⟨w, hw6, ew⟩ := nI_of01 (x := T30.2.2.1 0 17) (a := 6) (by omega) (by omega) (by omega)
    obtain ⟨b14, b16, b17, b432, brow, b0, b1, b2, bm, bk⟩ := c_beg hP hc30 hV30 hu f14 C30 S30 (by rw [sp 8 (by decide)]; exact u8) ew g32
    have eT : T1 = T32 := by
      unfold g_X11_load_b65 at hg
      obtain ⟨-, hg⟩ := oif_some hg
      obtain ⟨n3, en3, hg⟩ := obind_some hg
      obtain ⟨-, hg⟩ := oif_some hg
      obtain ⟨n5, en5, hg⟩ := obind_some hg
      obtain ⟨-, hg⟩ := oif_some hg
      obtain ⟨r9', T7, g7, hg⟩ := obind2_some hg
      unfold g_X1_cells at g7
      obtain ⟨-, g7⟩ := oif_some g7
      obtain ⟨x3, y3, g7⟩ := elet_some g7
      obtain ⟨-, g7⟩ := oif_some g7
      obtain ⟨x5, y5, g7⟩ := elet_some g7
      obtain ⟨x6, y6, g7⟩ := elet_some g7
      rw [← (osome3 hg).2.2, ← (osome2 g7).2]
    rw [eT] at HR ⊢
    refine ⟨HR, by rw [b16, w7], ⟨fun k hk => ?_, fun z => absurd (w8.symm.trans z) (by decide)⟩, fun _ => ⟨⟨b0, b1, ?_, fun m hm => ?_, fun k hk => ?_⟩, ?_, ?_, ?_⟩⟩
    · rw [b432 k hk]
      rcases (show k = 0 ∨ k = 1 by omega) with q | q <;> rw [q]
      · exact w9.symm
      · exact w10.symm
    · rw [b2, w5, l0]
    · obtain ⟨x1, x2⟩ := bm m hm
      rw [x1, x2, Nat.zero_add, Nat.zero_add, low _ (by omega) (by omega), low _ (by omega) (by omega), w2 (1 + m) (by omega), w2 (13 + m) (by omega), if_neg (show ¬ (13 ≤ 1 + m ∧ ((1 + m : Nat) : Int) < 13 + (S1.2.1 10 4).toInt) by omega), if_pos (show 13 ≤ 13 + m ∧ ((13 + m : Nat) : Int) < 13 + (S1.2.1 10 4).toInt by omega), v12 _ (by omega), gD _ (by omega)]
      refine ⟨rfl, ?_⟩
      rw [show 13 + m - 13 = m from by omega]
      by_cases q : (m : Int) < (S1.2.1 10 118).toInt
      · rw [if_pos q, if_pos (show ((13 + m : Nat) : Int) < 13 + (S1.2.1 10 118).toInt by omega)]
      · rw [if_neg q, if_neg (show ¬ ((13 + m : Nat) : Int) < 13 + (S1.2.1 10 118).toInt by omega)]
    · obtain ⟨x1, x2, x3, x4, x5⟩ := bk k hk
      have lo : ∀ o, 25 ≤ o → o < 50 → S1.2.1 12 (0 + o + k) = S16.2.1 13 (o + k) := fun o h1 h2 => by
        rw [Nat.zero_add, low _ (by omega) (by omega), w2 _ (by omega), if_neg (by omega), v12 _ (by omega)]
      rw [x1, x2, x3, x4, x5, lo 25 (by decide) (by decide), lo 31 (by decide) (by decide), lo 37 (by decide) (by decide), lo 43 (by decide) (by decide), lo 49 (by decide) (by decide)]
      exact ⟨rfl, rfl, rfl, rfl, rfl⟩
    · intro s e c m hc hm
      rw [b14] at e
      cases e
      rw [w6]
      exact (brow c m hc hm).fn (w3 c m hc hm)
    · exact ⟨0, w, by decide, by omega, w7, b17, fun j hj => absurd hj (Nat.not_lt_zero j)⟩
    · intro k hk hn
      rcases (show k = 0 ∨ k = 1 by omega) with q | q <;> rw [q] at hn
      · exact absurd w9 hn
      · exact absurd w10 hn
end
