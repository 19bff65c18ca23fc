section
/-! 21c.rload.lean.txt -/
section
variable {T T1 : AT} {S S1 : MS} {s : Nat}
theorem crf_eq (h : CRF T) (e : T1.2.2.2.2 = T.2.2.2.2) : CRF T1 := by
  unfold CRF at h ⊢
  rw [e]
  exact h
theorem rsrole (hs : s = 478 ∨ s = 656) : aR0 s = 6 := (sro hs).1
theorem seq_of (h : ∀ m j, s ≤ m → m < s + 178 → T1.2.2.1 m j = T.2.2.1 m j) : SEQ s T T1 := ⟨fun j _ => h _ _ (by omega) (by omega), fun j _ => h _ _ (by omega) (by omega), fun j => h _ _ (by omega) (by omega), fun m j a b => h _ _ (by omega) (by omega), fun m j a b => h _ _ (by omega) (by omega), fun m j a b _ => h _ _ (by omega) (by omega), fun m j a b _ => h _ _ (by omega) (by omega)⟩
set_option maxHeartbeats 400000 in
theorem r1_load {a0 r1 r2 : Int32} {k1 : Nat} (hV : IV aR0 1586 aK1 aK2 T) (hJ : JJ S) (h : R1 T S) (hg : g_X11_load T 0 a0 = some (k1, r1, T1)) (hf : fr_load S a0 = some (r2, S1)) : R1 T1 S1 ∧ (k1 = 0 ∧ S1.1 0 = 0 ∧ r1 = r2 ∨ k1 = 2 ∧ S1.1 0 = 1 ∨ k1 = 3 ∧ S1.1 0 = 2) := by
  have z0 : (0 : Int32).toInt = 0 := by decide
  obtain ⟨hc, hB, h5, h6, w0, hw0, h14, hr⟩ := h
  obtain ⟨d1, d2, d6, d0⟩ := rrole
  obtain ⟨-, -, -, -, -, -, -, t8, t9, -⟩ := txr_dec
  have c00 : T.2.2.2.2 0 0 = some 1 := (hc.2.1 0 (by decide) (by decide)).trans t8
  have c01 : T.2.2.2.2 0 1 = some 6 := (hc.2.1 1 (by decide) (by decide)).trans t9
  have h1000 : (S.1 2).toInt ≤ 1000 := (jj_ib hJ).1.1.2
  unfold fr_load at hf
  obtain ⟨S2, e2, hf⟩ := elet_some hf
  obtain ⟨v3, e3, hf⟩ := elet_some hf
  have e3 : v3 = S.1 2 := by rw [e3, e2]; rfl
  obtain ⟨r4, f4, hf⟩ := obind_some hf
  have out : g_X11_load_b15 T = some (k1, r1, T1) → (∃ r10 S7, fr_throwsAt S2 1 = some (r10, S7) ∧ S1 = S7) → R1 T1 S1 ∧ (k1 = 0 ∧ S1.1 0 = 0 ∧ r1 = r2 ∨ k1 = 2 ∧ S1.1 0 = 1 ∨ k1 = 3 ∧ S1.1 0 = 2) := by
    intro hg q
    obtain ⟨r10, S7, f7, e7⟩ := q
    unfold g_X11_load_b15 at hg
    have g := osome3 hg
    unfold fr_throwsAt at f7
    obtain ⟨U, eU, f7⟩ := elet_some f7
    have g7 := (osome2 f7).2
    rw [← g.2.2, e7, ← g7, eU, e2]
    refine ⟨r1_keep (W := []) (T := T) (S := S) ⟨hc, hB, h5, h6, w0, hw0, h14, hr⟩ hV FW.rf (by decide +kernel) (GR.rf T) ⟨rfl, rfl, rfl, rfl, rfl, rfl⟩, .inr (.inl ⟨g.1.symm, rfl⟩)⟩
  rcases tin2 f4 with ⟨c4, c0, c1⟩ | ⟨c4, cn⟩
  rotate_left
  · rw [if_pos c4] at hf
    obtain ⟨r10, S7, f7, hf⟩ := obind2_some hf
    refine out ?_ ⟨r10, S7, f7, (osome2 hf).2.symm⟩
    unfold g_X11_load at hg
    by_cases b0 : a0 < 0
    · rw [if_pos b0] at hg; exact hg
    · rw [if_neg b0] at hg
      obtain ⟨-, hg⟩ := oif_some hg
      obtain ⟨n4, e4, hg⟩ := obind_some hg
      rw [c00] at e4
      cases e4
      obtain ⟨-, hg⟩ := oif_some hg
      obtain ⟨v6, e6, hg⟩ := elet_some hg
      rw [if_neg (fun q => cn ⟨Int32.not_lt.mp b0, by rw [e3, ← hB.1, ← e6]; exact q⟩)] at hg
      exact hg
  rw [if_neg (by rw [c4]; decide)] at hf
  rw [e3] at c1
  have q0 := i_le c0
  have q1 := i_le c1
  obtain ⟨n, hn, en⟩ := nI_of01 (x := a0) (a := 1001) (by omega) (by omega) (by omega)
  obtain ⟨S11, e11, hf⟩ := elet_some hf
  obtain ⟨S12, e12, hf⟩ := elet_some hf
  obtain ⟨S13, e13, hf⟩ := elet_some hf
  obtain ⟨S14, e14, hf⟩ := elet_some hf
  obtain ⟨S15, e15, hf⟩ := elet_some hf
  obtain ⟨S16, f16, hf⟩ := obind_some hf
  obtain ⟨v19, e19, hf⟩ := elet_some hf
  have s15 : S15 = mi (mi (mi (mi (mi (mi S 0 0) 3 a0) 2 0) 4 0) 5 0) 6 (-1) := by rw [e15, e14, e13, e12, e11, e2]
  have k16 := w_fr_readText f16
  have j16 : ∀ k, k = 0 ∨ k = 2 ∨ k = 20 → S16.1 k = S15.1 k := fun k hk => by rcases hk with e | e | e <;> rw [e] <;> exact k16.1 _ (by decide)
  unfold g_X11_load at hg
  rw [if_neg (Int32.not_lt.mpr c0)] at hg
  obtain ⟨-, hg⟩ := oif_some hg
  obtain ⟨n4, en4, hg⟩ := obind_some hg
  rw [c00] at en4
  cases en4
  obtain ⟨-, hg⟩ := oif_some hg
  obtain ⟨v6, e6, hg⟩ := elet_some hg
  rw [if_pos (by rw [e6, hB.1]; exact c1)] at hg
  obtain ⟨-, hg⟩ := oif_some hg
  obtain ⟨n9, en9, hg⟩ := obind_some hg
  rw [c00] at en9
  cases en9
  obtain ⟨-, hg⟩ := oif_some hg
  obtain ⟨T11, e11', hg⟩ := elet_some hg
  have R11 : T11.2.2.2.2 = T.2.2.2.2 := by rw [e11']; rfl
  have hc11 := crf_eq hc R11
  have hV11 : IV aR0 1586 aK1 aK2 T11 := by
    rw [e11']
    exact iv_uI hV d1 (by decide) (by decide) (rfl : iR 9 1 = (0, 1000)) (by decide) (.inl rfl)
  obtain ⟨u, w, hu, hw, huw, e15u, e14w⟩ : ∃ u w, (u = 478 ∨ u = 656) ∧ (w = 478 ∨ w = 656) ∧ u ≠ w ∧ T.2.2.2.2 0 15 = some u ∧ T.2.2.2.2 0 14 = some w := by
    rcases hc.2.2 with ⟨a, b⟩ | ⟨a, b⟩
    · exact ⟨656, 478, .inr rfl, .inl rfl, by decide, b, a⟩
    · exact ⟨478, 656, .inl rfl, .inr rfl, by decide, b, a⟩
  have ew : w0 = w := by
    rw [h14] at e14w
    exact Option.some.inj e14w
  subst ew
  obtain ⟨-, hg⟩ := oif_some hg
  obtain ⟨n13, en13, hg⟩ := obind_some hg
  rw [R11, c01] at en13
  cases en13
  obtain ⟨-, hg⟩ := oif_some hg
  obtain ⟨n15, en15, hg⟩ := obind_some hg
  rw [R11, e15u] at en15
  cases en15
  obtain ⟨-, hg⟩ := oif_some hg
  have lp : ∀ {k : Nat} {r : Int32} {U : AT}, g_X3_parse T11 6 a0 u = some (k, r, U) → TXq u T11 U S16 k := fun {k r U} g => by
    rw [en] at g
    exact l_parse (b := S.2.1 1) hu (hc11.txr hV11) (hc11.srf hu) (fun j hj => by rw [e11', ui_ne (.inl (by decide))]; exact hB.2 j hj) (by omega) (by rw [s15]; rfl) (by rw [s15]; exact en) (by rw [s15]; rfl) (by rw [s15]; rfl) (by rw [s15]; rfl) g f16
  have po := fun {k : Nat} {r : Int32} {U : AT} (g : g_X3_parse T11 6 a0 u = some (k, r, U)) => parse_out hc11 hV11 hu (by omega) (by omega) g
  have seqw : ∀ {k : Nat} {r : Int32} {U : AT}, g_X3_parse T11 6 a0 u = some (k, r, U) → SEQ w0 T U := fun {k r U} g => seq_of (fun m j a b => by
    rw [(po g).1 m j (by omega) (by omega), e11', ui_ne (.inl (by omega))])
  have l11 : T11.2.2.1 1 1 = 0 := by rw [e11', ui_at]
  have b11 : ∀ j, T11.2.2.1 2 j = T.2.2.1 2 j := fun j => by rw [e11', ui_ne (.inl (by decide))]
  have s2 : S15.1 2 = 0 := by rw [s15]; rfl
  have s00 : S15.1 0 = 0 := by rw [s15]; rfl
  have s20 : S15.1 20 = S.1 20 := by rw [s15]; rfl
  have sA : S15.2 = S.2 := by rw [s15]; rfl
  rcases othr_k hg with ⟨r9, g9, z9⟩ | ⟨r19, T17, g9, hg⟩
  · rcases lp g9 with ⟨z, -⟩ | ⟨z1, z2⟩
    · exact absurd z z9
    rw [if_neg (st_le z2.1 e19)] at hf
    obtain ⟨r24, S21, f21, hf⟩ := obind2_some hf
    unfold fr_throwsAt at f21
    obtain ⟨U, eU, f21⟩ := elet_some f21
    have g21 := (osome2 f21).2
    have ff := (osome2 hf).2
    have eS : S1 = mi S16 0 2 := by rw [← ff, ← g21, eU]
    have p := po g9
    have R1' : T1.2.2.2.2 = T.2.2.2.2 := (s_X3_parse g9).2.2.trans R11
    refine ⟨⟨crf_eq hc R1', ⟨?_, fun k hk => ?_⟩, ?_, ?_, rs_eq hw0 (seqw g9) (fun x _ => ?_) ?_ (by rw [R1']; exact h14) hr⟩, .inr (.inr ⟨z1, ?_⟩)⟩
    · rw [p.2.2.1, l11, eS, mi_ne (by decide), j16 2 (by omega), s2]
    · rw [p.2.1, b11, hB.2 k hk, eS]
      show _ = S16.2.1 1 k
      rw [k16.2 1 (by decide), sA]
    · rw [eS, mi_ne (by decide)]; exact z2.2.1
    · rw [eS, mi_ne (by decide)]; exact z2.2.2
    · rw [eS]
      show S16.2.1 10 x = _
      rw [k16.2 10 (by decide), sA]
    · rw [eS, mi_ne (by decide), j16 20 (by omega), s20]
    · rw [eS, mi_at]
  · rcases lp g9 with ⟨-, C17, R17, p2, p3, u5, u6, u4, u8⟩ | ⟨z, -⟩
    rotate_left
    · exact absurd z (by decide)
    have p := po g9
    have R17 := R17.trans R11
    rw [if_pos (by rw [e19, u5]; decide)] at hf
    obtain ⟨U, V, a1, a2, a3, fV, hf⟩ := r_cp 16384 (l := 0) (by omega) (fun x hx => absurd hx (Nat.not_lt_zero x)) hf
    have kV := w_fr_copy_13_12 fV
    have k1' := w3_fr_load_b107 _ _ _ hf
    have zq := z_107 _ hf
    have sc : ∀ k, k = 0 ∨ k = 2 ∨ k = 5 ∨ k = 6 → S1.1 k = S16.1 k := fun k hk => by
      rw [← a1]
      rcases hk with e | e | e | e <;> rw [e] <;> exact (k1'.1 _ (by decide)).trans (kV.1 _ (by decide))
    have sp : ∀ x, x < 131 → S1.2.1 10 x = S16.2.1 11 x := fun x hx => by
      rw [k1'.2 10 (by decide), kV.2 10 (by decide)]
      exact a3 x hx
    have sb : S1.2.1 1 = S.2.1 1 := by
      rw [k1'.2 1 (by decide), kV.2 1 (by decide), a2 1 (by decide), k16.2 1 (by decide), sA]
    obtain ⟨-, hg⟩ := oif_some hg
    obtain ⟨n22, en22, hg⟩ := obind_some hg
    rw [R17, h14] at en22
    cases en22
    obtain ⟨-, hg⟩ := oif_some hg
    obtain ⟨n24, en24, hg⟩ := obind_some hg
    rw [R17, e15u] at en24
    cases en24
    obtain ⟨-, hg⟩ := oif_some hg
    obtain ⟨-, hg⟩ := oif_some hg
    obtain ⟨T27, e27, hg⟩ := elet_some hg
    obtain ⟨-, hg⟩ := oif_some hg
    obtain ⟨-, hg⟩ := oif_some hg
    obtain ⟨T30, e30, hg⟩ := elet_some hg
    obtain ⟨-, hg⟩ := oif_some hg
    obtain ⟨T32, g32, hg⟩ := obind_some hg
    have hV27 : IV aR0 1586 aK1 aK2 T27 := by
      rw [e27]
      exact iv_uR p.2.2.2 d0 (by decide) (by decide) rfl rfl (rsrole hu) ⟨by decide, by decide⟩
    have hV30 : IV aR0 1586 aK1 aK2 T30 := by
      rw [e30]
      exact iv_uR hV27 d0 (by decide) (by decide) rfl rfl (rsrole hw0) ⟨by decide, by decide⟩
    have i30 : T30.2.2.1 = T17.2.2.1 := by rw [e30, e27]; rfl
    have r30 : ∀ n k, n ≠ 0 → T30.2.2.2.2 n k = T.2.2.2.2 n k := fun n k hn => by
      rw [e30]
      show va_up T27.2.2.2.2 0 _ n k = _
      rw [va_up_ne _ _ hn, e27]
      show va_up T17.2.2.2.2 0 _ n k = _
      rw [va_up_ne _ _ hn, R17]
    have r30' : ∀ k, T30.2.2.2.2 0 k = if k = 15 then some w0 else if k = 14 then some u else T.2.2.2.2 0 k := fun k => by
      rw [e30]
      show va_up T27.2.2.2.2 0 (va_up (T27.2.2.2.2 0) 15 (some w0)) 0 k = _
      rw [va_up_self, e27]
      show (if k = 15 then some w0 else va_up T17.2.2.2.2 0 (va_up (T17.2.2.2.2 0) 14 (some u)) 0 k) = _
      rw [va_up_self, R17]
      rfl
    have hc30 : CRF T30 := by
      refine ⟨fun n hn hs hr k => (r30 n k hn).trans (hc.1 n hn hs hr k), fun k b14 b15 => by rw [r30', if_neg b15, if_neg b14]; exact hc.2.1 k b14 b15, ?_⟩
      rw [r30', r30', if_neg (by decide), if_pos rfl, if_pos rfl]
      rcases hu with e | e <;> rcases hw0 with e' | e' <;> subst e <;> subst e'
      · exact absurd rfl huw
      · exact .inl ⟨rfl, rfl⟩
      · exact .inr ⟨rfl, rfl⟩
      · exact absurd rfl huw
    have cb := tgo (cs_X11_begin T30 0 hV30 d0) g32
    have gb := sr_X11_begin g32
    have hc32 : CRF T32 := crf_gr hc30 hV30 gb
    have e14' : T32.2.2.2.2 0 14 = some u := by
      have q : T32.2.2.2.2 0 14 = T30.2.2.2.2 0 14 := by
        refine gb.2 0 14 (Nat.lt_of_lt_of_le (by decide) hV30.1.2.2) ?_
        rw [hV30.2.1 0 (iv_sta hV30 d0 (by decide) (by decide)), d0]
        decide
      rw [q, r30', if_neg (by decide), if_pos rfl]
    have sq : SEQ u T17 T32 := by
      have q := fw_seq (s := u) cb.2 (by decide +kernel) hu
      unfold SEQ at q ⊢
      rw [i30] at q
      exact q
    have sce : SCE u T32 (S1.2.1 10) := sce_eq (sce_of C17) sq sp
    unfold g_X11_load_b65 at hg
    obtain ⟨-, hg⟩ := oif_some hg
    obtain ⟨n3, en3, hg⟩ := obind_some hg
    rw [e14'] at en3
    cases en3
    obtain ⟨-, hg⟩ := oif_some hg
    obtain ⟨n5, en5, hg⟩ := obind_some hg
    rw [(hc32.srf hu).2.1] at en5
    cases en5
    obtain ⟨-, hg⟩ := oif_some hg
    obtain ⟨r9', T7, g7, hg⟩ := obind2_some hg
    unfold g_X1_cells at g7
    obtain ⟨-, g7⟩ := oif_some g7
    obtain ⟨x3, y3, g7⟩ := elet_some g7
    obtain ⟨-, g7⟩ := oif_some g7
    obtain ⟨x5, y5, g7⟩ := elet_some g7
    obtain ⟨x6, y6, g7⟩ := elet_some g7
    have gg := osome2 g7
    have g := osome3 hg
    rw [← g.2.2, ← gg.2]
    refine ⟨⟨hc32, ⟨?_, fun k hk => ?_⟩, ?_, ?_, u, hu, e14', .inl ⟨zq.2, sce, by rw [sp 4 (by decide)]; exact u4, by rw [sp 8 (by decide)]; exact u8⟩⟩, .inl ⟨g.1.symm, ?_, ?_⟩⟩
    · rw [cb.2 1 1 (by rw [d1]; rfl), i30, p.2.2.1, l11, sc 2 (by omega), j16 2 (by omega), s2]
    · rw [cb.2 2 k (by rw [d2]; rfl), i30, p.2.1, b11, hB.2 k hk, sb]
    · rw [cb.2 6 2 (by rw [d6]; rfl), i30, p2, sc 5 (by omega), u5]
    · rw [cb.2 6 3 (by rw [d6]; rfl), i30, p3, sc 6 (by omega), u6]
    · rw [sc 0 (by omega), j16 0 (by omega), s00]
    · rw [← g.2.1, ← gg.1, y6, y3, y5, sce.2.2.1.1, sce.2.2.1.2.1]
      exact zq.1.symm
end
end
section
/-! 21c2.point.lean.txt -/
section
variable {T T1 : AT} {S S1 : MS} {s : Nat}
/-- the cells of the Sources of both scenes -/
def P7 (m : Nat) : Prop := 650 ≤ m ∧ m < 656 ∨ 828 ≤ m ∧ m < 834
def C7 (m : Nat) (T : AT) : Prop := m < T.1 ∧ T.2.1 m = (7, 0)
theorem QF.app (h : QF T T1) {m : Nat} (c : C7 m T) : C7 m T1 ∧ ∀ j, T1.2.2.1 m j = T.2.2.1 m j := ⟨⟨Nat.lt_of_lt_of_le c.1 h.1.1, (h.1.2.1 m c.1).trans c.2⟩, fun j => h.2 m j c.1 c.2⟩
theorem p7_dec : (List.range 1586).all (fun m => !((Nat.ble 650 m && Nat.blt m 656) || (Nat.ble 828 m && Nat.blt m 834)) || Nat.beq (aR0 m) 7) = true := by decide +kernel
theorem c7_of (hV : IV aR0 1586 aK1 aK2 T) {m : Nat} (hm : P7 m) : C7 m T := by
  have h15 : m < 1586 := by unfold P7 at hm; omega
  have r : aR0 m = 7 := by
    have d := a_fin p7_dec h15
    rcases hm with ⟨a, b⟩ | ⟨a, b⟩
    · rw [show Nat.ble 650 m = true from Nat.ble_eq_true_of_le a, show Nat.blt m 656 = true from Nat.ble_eq_true_of_le b] at d
      exact Nat.eq_of_beq_eq_true (by simpa using d)
    · rw [show Nat.ble 828 m = true from Nat.ble_eq_true_of_le a, show Nat.blt m 834 = true from Nat.ble_eq_true_of_le b] at d
      exact Nat.eq_of_beq_eq_true (by simpa using d)
  have st := iv_sta hV r (by decide) (by decide)
  exact ⟨iv_lt hV st, by rw [hV.2.1 m st, r]; rfl⟩
set_option maxRecDepth 100000 in
theorem pt_dec : okc 7 = true ∧ (arf 7).getD 1 none = some 21 ∧ (arf 0).getD 2 none = some 7 := by decide +kernel
theorem q_rp {a b : Nat} {c d : Int32} (h21 : T.2.2.2.2 7 1 = some 21) (hg : g_X5_recordPoint T 7 a b c d = some T1) {m : Nat} (hm : P7 m) (cm : C7 m T) : C7 m T1 ∧ ∀ j, T1.2.2.1 m j = T.2.2.1 m j := by
  have m21 : m ≠ 21 := by unfold P7 at hm; omega
  have up : ∀ {U : AT} {k : Nat} {v : Int32}, C7 m U → C7 m (uI U 21 k v) ∧ ∀ j, (uI U 21 k v).2.2.1 m j = U.2.2.1 m j := fun c => ⟨c, fun j => ui_ne (.inl m21)⟩
  unfold g_X5_recordPoint at hg
  obtain ⟨-, hg⟩ := oif_some hg
  obtain ⟨T3, g3, hg⟩ := obind_some hg
  obtain ⟨c3, e3⟩ := (sq_X5_silence g3).app cm
  have r3 : T3.2.2.2.2 = T.2.2.2.2 := (s_X5_silence g3).2.2
  obtain ⟨-, hg⟩ := oif_some hg
  obtain ⟨n6, en6, hg⟩ := obind_some hg
  rw [r3, h21] at en6
  cases en6
  obtain ⟨-, hg⟩ := oif_some hg
  obtain ⟨T8, e8, hg⟩ := elet_some hg
  obtain ⟨c8, f8⟩ := up (k := 0) (v := 0) c3
  rw [← e8] at c8 f8
  have r8 : T8.2.2.2.2 = T.2.2.2.2 := by rw [e8]; exact r3
  obtain ⟨-, hg⟩ := oif_some hg
  obtain ⟨n10, en10, hg⟩ := obind_some hg
  rw [r8, h21] at en10
  cases en10
  obtain ⟨-, hg⟩ := oif_some hg
  obtain ⟨T12, e12, hg⟩ := elet_some hg
  obtain ⟨c12, f12⟩ := up (k := 5) (v := 100) c8
  rw [← e12] at c12 f12
  have r12 : T12.2.2.2.2 = T.2.2.2.2 := by rw [e12]; exact r8
  obtain ⟨-, hg⟩ := oif_some hg
  obtain ⟨n14, en14, hg⟩ := obind_some hg
  rw [r12, h21] at en14
  cases en14
  obtain ⟨-, hg⟩ := oif_some hg
  obtain ⟨T16, e16, hg⟩ := elet_some hg
  obtain ⟨c16, f16⟩ := up (k := 6) (v := d) c12
  rw [← e16] at c16 f16
  obtain ⟨-, hg⟩ := oif_some hg
  obtain ⟨n18, -, hg⟩ := obind_some hg
  obtain ⟨-, hg⟩ := oif_some hg
  obtain ⟨r22, T20, g20, hg⟩ := obind2_some hg
  obtain ⟨c20, f20⟩ := (sq_X1_centreX g20).app c16
  obtain ⟨-, hg⟩ := oif_some hg
  obtain ⟨n25, -, hg⟩ := obind_some hg
  obtain ⟨-, hg⟩ := oif_some hg
  obtain ⟨r29, T27, g27, hg⟩ := obind2_some hg
  obtain ⟨c27, f27⟩ := (sq_X1_centreY g27).app c20
  obtain ⟨c1, f1⟩ := (sq_X5_recordPoint_b53 _ _ _ _ _ _ _ _ hg).app c27
  exact ⟨c1, fun j => by rw [f1, f27, f20, f16, f12, f8, e3]⟩
theorem q_point {a0 a1 : Int32} (hV : IV aR0 1586 aK1 aK2 T) (hc : CRF T) (hg : g_X11_recordPoint T 0 a0 a1 = some T1) {m : Nat} (hm : P7 m) (cm : C7 m T) : C7 m T1 ∧ ∀ j, T1.2.2.1 m j = T.2.2.1 m j := by
  obtain ⟨o7, a7, a2⟩ := pt_dec
  unfold g_X11_recordPoint at hg
  obtain ⟨-, hg⟩ := oif_some hg
  obtain ⟨n3, en3, hg⟩ := obind_some hg
  obtain ⟨-, hg⟩ := oif_some hg
  obtain ⟨n5, en5, hg⟩ := obind_some hg
  obtain ⟨-, hg⟩ := oif_some hg
  obtain ⟨T7, g7, hg⟩ := obind_some hg
  obtain ⟨c7, f7⟩ := (sq_X8_copyFrom g7).app cm
  have hc7 : CRF T7 := crf_gr hc hV (sr_X8_copyFrom g7)
  unfold g_X11_recordPoint_b11 at hg
  obtain ⟨-, hg⟩ := oif_some hg
  obtain ⟨m3, em3, hg⟩ := obind_some hg
  rw [(hc7.2.1 2 (by decide) (by decide)).trans a2] at em3
  cases em3
  obtain ⟨-, hg⟩ := oif_some hg
  obtain ⟨m5, em5, hg⟩ := obind_some hg
  obtain ⟨-, hg⟩ := oif_some hg
  obtain ⟨m7, em7, hg⟩ := obind_some hg
  obtain ⟨-, hg⟩ := oif_some hg
  obtain ⟨T9, g9, hg⟩ := obind_some hg
  obtain ⟨c9, f9⟩ := q_rp ((hc7.at 7 o7 1).trans a7) g9 hm c7
  rw [← osome1 (show some T9 = some T1 from hg)]
  exact ⟨c9, fun j => (f9 j).trans (f7 j)⟩
theorem need_same {k : Nat} {r : Int32} : (∀ {o : Nat}, g_X11_needCamera T o = some (k, r, T1) → T1 = T) ∧ (∀ {o : Nat} {a : Int32}, g_X11_needCell T o a = some (k, r, T1) → T1 = T) ∧ (∀ {a b c : Int32}, g_X11_needRange T a b c = some (k, r, T1) → T1 = T) := by
  have idx : ∀ {U U1 : AT} {k : Nat} {r a b : Int32}, g_X11_needIndex U a b = some (k, r, U1) → U1 = U := by
    intro U U1 k r a b hg
    unfold g_X11_needIndex at hg
    by_cases c0 : a < 0
    · rw [if_pos c0] at hg
      exact (osome3 (show some ((2 : Nat), (0 : Int32), U) = some (k, r, U1) from hg)).2.2.symm
    · rw [if_neg c0] at hg
      by_cases c1 : a < b
      · rw [if_pos c1] at hg
        exact (osome3 hg).2.2.symm
      · rw [if_neg c1] at hg
        exact (osome3 (show some ((2 : Nat), (0 : Int32), U) = some (k, r, U1) from hg)).2.2.symm
  refine ⟨fun {o} hg => ?_, fun {o a} hg => ?_, fun {a b c} hg => ?_⟩
  · unfold g_X11_needCamera at hg
    obtain ⟨-, hg⟩ := oif_some hg
    obtain ⟨n3, e3, hg⟩ := obind_some hg
    obtain ⟨-, hg⟩ := oif_some hg
    obtain ⟨v5, e5, hg⟩ := elet_some hg
    by_cases c : v5 = 0
    · rw [if_pos c] at hg; exact (osome3 hg).2.2.symm
    · rw [if_neg c] at hg; exact (osome3 hg).2.2.symm
  · unfold g_X11_needCell at hg
    obtain ⟨-, hg⟩ := oif_some hg
    obtain ⟨n3, e3, hg⟩ := obind_some hg
    obtain ⟨-, hg⟩ := oif_some hg
    obtain ⟨n5, e5, hg⟩ := obind_some hg
    obtain ⟨-, hg⟩ := oif_some hg
    obtain ⟨r9, T7, g7, hg⟩ := obind2_some hg
    have e7 : T7 = T := by
      unfold g_X1_cells at g7
      obtain ⟨-, g7⟩ := oif_some g7
      obtain ⟨x3, y3, g7⟩ := elet_some g7
      obtain ⟨-, g7⟩ := oif_some g7
      obtain ⟨x5, y5, g7⟩ := elet_some g7
      obtain ⟨x6, y6, g7⟩ := elet_some g7
      exact (osome2 g7).2.symm
    rcases othr_k hg with ⟨r9', g9, -⟩ | ⟨r9', T9, g9, hg⟩
    · exact (idx g9).trans e7
    · have g := osome3 hg
      exact g.2.2.symm.trans ((idx g9).trans e7)
  · unfold g_X11_needRange at hg
    by_cases c0 : a < b
    · rw [if_pos c0] at hg
      exact (osome3 (show some ((3 : Nat), (0 : Int32), T) = some (k, r, T1) from hg)).2.2.symm
    · rw [if_neg c0] at hg
      by_cases c1 : a ≤ c
      · rw [if_pos c1] at hg
        exact (osome3 hg).2.2.symm
      · rw [if_neg c1] at hg
        exact (osome3 (show some ((3 : Nat), (0 : Int32), T) = some (k, r, T1) from hg)).2.2.symm
theorem q_pointBest {a0 a1 r : Int32} {k : Nat} (hV : IV aR0 1586 aK1 aK2 T) (hc : CRF T) (hg : g_X11_pointBest T 0 a0 a1 = some (k, r, T1)) {m : Nat} (hm : P7 m) : ∀ j, T1.2.2.1 m j = T.2.2.1 m j := by
  have cm := c7_of hV hm
  unfold g_X11_pointBest at hg
  obtain ⟨-, hg⟩ := oif_some hg
  rcases othr_k hg with ⟨r9, g9, -⟩ | ⟨r5, T3, g9, hg⟩
  · rw [need_same.1 g9]; exact fun _ => rfl
  rw [need_same.1 g9] at hg
  obtain ⟨-, hg⟩ := oif_some hg
  rcases othr_k hg with ⟨r9, g9, -⟩ | ⟨r10, T8, g9, hg⟩
  · rw [need_same.2.1 g9]; exact fun _ => rfl
  rw [need_same.2.1 g9] at hg
  rcases othr_k hg with ⟨r9, g9, -⟩ | ⟨r14, T12, g9, hg⟩
  · rw [need_same.2.2 g9]; exact fun _ => rfl
  rw [need_same.2.2 g9] at hg
  obtain ⟨-, hg⟩ := oif_some hg
  obtain ⟨T17, g17, hg⟩ := obind_some hg
  obtain ⟨c17, f17⟩ := q_point hV hc g17 hm cm
  unfold g_X11_pointBest_b22 at hg
  obtain ⟨-, hg⟩ := oif_some hg
  obtain ⟨r4, U, gU, hg⟩ := obind2_some hg
  obtain ⟨-, fU⟩ := (sq_X11_trialBest gU).app c17
  have g := osome3 (show some ((0 : Nat), r4, U) = some (k, r, T1) from hg)
  rw [← g.2.2]
  exact fun j => (fU j).trans (f17 j)
theorem q_pointPower {a0 a1 a2 : Int32} {r : Int64} {k : Nat} (hV : IV aR0 1586 aK1 aK2 T) (hc : CRF T) (hg : g_X11_pointPower T 0 a0 a1 a2 = some (k, r, T1)) {m : Nat} (hm : P7 m) : ∀ j, T1.2.2.1 m j = T.2.2.1 m j := by
  have cm := c7_of hV hm
  unfold g_X11_pointPower at hg
  obtain ⟨-, hg⟩ := oif_some hg
  rcases othr_k hg with ⟨r9, g9, -⟩ | ⟨r5, T3, g9, hg⟩
  · rw [need_same.1 g9]; exact fun _ => rfl
  rw [need_same.1 g9] at hg
  obtain ⟨-, hg⟩ := oif_some hg
  rcases othr_k hg with ⟨r9, g9, -⟩ | ⟨r10, T8, g9, hg⟩
  · rw [need_same.2.1 g9]; exact fun _ => rfl
  rw [need_same.2.1 g9] at hg
  obtain ⟨-, hg⟩ := oif_some hg
  rcases othr_k hg with ⟨r9, g9, -⟩ | ⟨r15, T13, g9, hg⟩
  · rw [need_same.2.1 g9]; exact fun _ => rfl
  rw [need_same.2.1 g9] at hg
  rcases othr_k hg with ⟨r9, g9, -⟩ | ⟨r19, T17, g9, hg⟩
  · rw [need_same.2.2 g9]; exact fun _ => rfl
  rw [need_same.2.2 g9] at hg
  obtain ⟨-, hg⟩ := oif_some hg
  obtain ⟨T22, g22, hg⟩ := obind_some hg
  obtain ⟨c22, f22⟩ := q_point hV hc g22 hm cm
  unfold g_X11_pointPower_b27 at hg
  obtain ⟨-, hg⟩ := oif_some hg
  obtain ⟨n3, -, hg⟩ := obind_some hg
  obtain ⟨-, hg⟩ := oif_some hg
  obtain ⟨n5, -, hg⟩ := obind_some hg
  obtain ⟨-, hg⟩ := oif_some hg
  obtain ⟨n7, -, hg⟩ := obind_some hg
  obtain ⟨-, hg⟩ := oif_some hg
  obtain ⟨-, hg⟩ := oif_some hg
  obtain ⟨n10, -, hg⟩ := obind_some hg
  obtain ⟨-, hg⟩ := oif_some hg
  obtain ⟨n12, -, hg⟩ := obind_some hg
  obtain ⟨-, hg⟩ := oif_some hg
  obtain ⟨T14, g14, hg⟩ := obind_some hg
  obtain ⟨c14, f14⟩ := (sq_X8_powerOf g14).app c22
  obtain ⟨-, fz⟩ := (sq_X11_pointPower_b48 _ _ hg).app c14
  exact fun j => (fz j).trans ((f14 j).trans (f22 j))
/-- as r1_keep, where a Source's fields may change elsewhere -/
def scodes7 : List Nat := (List.range 18).map (192 + ·) ++ (List.range 8).map (32 + ·) ++ (List.range 4).map (64 + ·) ++ [1888, 1760, 1792, 1824, 1856]
def okW7 (W : List Nat) : Bool := scodes7.all (fun x => !(W.contains x)) && !(W.contains 289) && !(W.contains 1312) && !(W.contains 98) && !(W.contains 99)
theorem fw_seq7 {W : List Nat} (h : FW aR0 W T T1) (c : scodes7.all (fun x => !(W.contains x)) = true) (hs : s = 478 ∨ s = 656) (h7 : ∀ m, P7 m → ∀ j, T1.2.2.1 m j = T.2.2.1 m j) : SEQ s T T1 := by
  obtain ⟨r0, r1, r2, r3, r4, r5, r6, r7, r8, r9⟩ := sro hs
  have sc : ∀ {x : Nat}, x ∈ scodes7 → W.contains x = false := fun {x} hx => con_f (List.all_eq_true.mp c x hx)
  have k0 : ∀ j, j < 18 → 192 + j ∈ scodes7 := fun j hj => List.mem_append_left _ (List.mem_append_left _ (List.mem_append_left _ (List.mem_map.mpr ⟨j, List.mem_range.mpr hj, rfl⟩)))
  have k1 : ∀ j, j < 8 → 32 + j ∈ scodes7 := fun j hj => List.mem_append_left _ (List.mem_append_left _ (List.mem_append_right _ (List.mem_map.mpr ⟨j, List.mem_range.mpr hj, rfl⟩)))
  have k2 : ∀ j, j < 4 → 64 + j ∈ scodes7 := fun j hj => List.mem_append_left _ (List.mem_append_right _ (List.mem_map.mpr ⟨j, List.mem_range.mpr hj, rfl⟩))
  have ka : ∀ x, x ∈ [1888, 1760, 1792, 1824, 1856] → x ∈ scodes7 := fun x hx => List.mem_append_right _ hx
  refine ⟨fun j hj => h _ _ ?_, fun j hj => h _ _ ?_, fun j => h _ _ ?_, fun m j a b => h _ _ ?_, fun m j a b => h _ _ ?_, fun m j a b d => h _ _ ?_, fun m j a b d => h7 m (by unfold P7; omega) j⟩
  · rw [r0]; exact sc (k0 j hj)
  · rw [r1]; exact sc (k1 j hj)
  · rw [r2]; exact sc (ka 1888 (by decide))
  · have q := r3 (m - (s + 5)) (by omega)
    rw [show s + 5 + (m - (s + 5)) = m from by omega] at q
    rw [q]; exact sc (ka 1888 (by decide))
  · rcases (show m = s + 11 ∨ m = s + 12 ∨ m = s + 13 ∨ m = s + 14 by omega) with e | e | e | e <;> rw [e]
    · rw [r4]; exact sc (ka 1760 (by decide))
    · rw [r5]; exact sc (ka 1792 (by decide))
    · rw [r6]; exact sc (ka 1824 (by decide))
    · rw [r7]; exact sc (ka 1856 (by decide))
  · have q := r8 (m - (s + 160)) (by omega)
    rw [show s + 160 + (m - (s + 160)) = m from by omega] at q
    rw [q]; exact sc (k2 j d)
theorem r1_keep7 {W : List Nat} (h : R1 T S) (hV : IV aR0 1586 aK1 aK2 T) (hw : FW aR0 W T T1) (c : okW7 W = true) (hc1 : CRF T1) (e14 : T1.2.2.2.2 0 14 = T.2.2.2.2 0 14) (hf : FKq S S1) (h7 : ∀ m, P7 m → ∀ j, T1.2.2.1 m j = T.2.2.1 m j) : R1 T1 S1 := by
  obtain ⟨hc, ⟨hl, hb⟩, h5, h6, s, hs, h14, hr⟩ := h
  unfold okW7 at c
  simp only [Bool.and_eq_true] at c
  obtain ⟨⟨⟨⟨c0, c1⟩, c2⟩, c3⟩, c4⟩ := c
  obtain ⟨r1, r2, r6, r0⟩ := rrole
  refine ⟨hc1, ⟨?_, fun k hk => ?_⟩, ?_, ?_, rs_eq hs (fw_seq7 hw c0 hs h7) (fun x _ => by rw [hf.2.2.2.2.2]) hf.2.2.2.1 (e14.trans h14) hr⟩
  · rw [hw 1 1 (by rw [r1]; exact con_f c1), hf.1]; exact hl
  · rw [hw 2 k (by rw [r2]; exact con_f c2), hf.2.2.2.2.1]; exact hb k hk
  · rw [hw 6 2 (by rw [r6]; exact con_f c3), hf.2.1]; exact h5
  · rw [hw 6 3 (by rw [r6]; exact con_f c4), hf.2.2.1]; exact h6
theorem e14_gr (hV : IV aR0 1586 aK1 aK2 T) (hg : GR T T1) : T1.2.2.2.2 0 14 = T.2.2.2.2 0 14 := by
  refine hg.2 0 14 (Nat.lt_of_lt_of_le (by decide) hV.1.2.2) ?_
  rw [hV.2.1 0 (iv_sta hV rrole.2.2.2 (by decide) (by decide)), rrole.2.2.2]
  decide
end
end
section
/-! 21d.keep.lean.txt -/
set_option maxRecDepth 100000 in
theorem r1_0 : R1 aT0 mS0 := by
  refine ⟨⟨fun n _ _ _ k => rfl, fun k _ _ => rfl, .inl ⟨by decide +kernel, by decide +kernel⟩⟩, ⟨by decide +kernel, fun k _ => ?_⟩, by decide +kernel, by decide +kernel, 478, .inl rfl, by decide +kernel, .inr ⟨by decide +kernel, by decide +kernel, by decide +kernel, by decide +kernel, by decide +kernel, by decide +kernel, by decide +kernel⟩⟩
  show fviR (aR0 2) k = 0
  rw [rrole.2.1]
  rfl
theorem r1_append {T : AT} {S : MS} {a0 a1 a2 a3 a4 r1 r2 : Int32} {T1 : AT} {S1 : MS} (hV : IV aR0 1586 aK1 aK2 T) (hJ : JJ S) (h : R1 T S) (hg : g_X11_append T 0 a0 a1 a2 a3 a4 = some (r1, T1)) (hf : fr_append S a0 a1 a2 a3 a4 = some (r2, S1)) : R1 T1 S1 := by
  obtain ⟨hc, hB, h5, h6, s, hs, h14, hr⟩ := h
  obtain ⟨d1, d2, d6, d0⟩ := rrole
  obtain ⟨a1', -, b1, -, -, -, -, t8, -, -⟩ := txr_dec
  have q := k_append ((hc.2.1 0 (by decide) (by decide)).trans t8) ((hc.at 1 a1' 0).trans b1) hB hg hf
  have c := tgo (cs_X11_append T 0 a0 a1 a2 a3 a4 hV d0) hg
  have f := w_fr_append hf
  refine ⟨crf_eq hc q.2.2, q.2.1, ?_, ?_, rs_eq hs (fw_seq c.1.2 (by decide +kernel) hs) (fun x _ => by rw [f.2 10 (by decide)]) (f.1 20 (by decide)) (by rw [q.2.2]; exact h14) hr⟩
  · rw [c.1.2 6 2 (by rw [d6]; rfl), f.1 5 (by decide)]; exact h5
  · rw [c.1.2 6 3 (by rw [d6]; rfl), f.1 6 (by decide)]; exact h6
theorem r1_parseError {T : AT} {S : MS} {r1 : Int32} {r2 : Int32} {T1 : AT} {S1 : MS} (hV : IV aR0 1586 aK1 aK2 T) (hJ : JJ S) (h : R1 T S) (hg : g_X11_parseError T 0 = some (r1, T1)) (hf : fr_parseError S = some (r2, S1)) : R1 T1 S1 := by
  have c := tgo (cs_X11_parseError T 0  hV rrole.2.2.2) hg
  have f := w_fr_parseError hf
  exact r1_keep (W := []) h hV (by rw [show T1 = T from c.1]; exact FW.rf) (by decide +kernel) (by rw [show T1 = T from c.1]; exact GR.rf T) ⟨f.1 2 (by decide), f.1 5 (by decide), f.1 6 (by decide), f.1 20 (by decide), f.2 1 (by decide), f.2 10 (by decide)⟩
theorem r1_errorPosition {T : AT} {S : MS} {r1 : Int32} {r2 : Int32} {T1 : AT} {S1 : MS} (hV : IV aR0 1586 aK1 aK2 T) (hJ : JJ S) (h : R1 T S) (hg : g_X11_errorPosition T 0 = some (r1, T1)) (hf : fr_errorPosition S = some (r2, S1)) : R1 T1 S1 := by
  have c := tgo (cs_X11_errorPosition T 0  hV rrole.2.2.2) hg
  have f := w_fr_errorPosition hf
  exact r1_keep (W := []) h hV (by rw [show T1 = T from c.1]; exact FW.rf) (by decide +kernel) (by rw [show T1 = T from c.1]; exact GR.rf T) ⟨f.1 2 (by decide), f.1 5 (by decide), f.1 6 (by decide), f.1 20 (by decide), f.2 1 (by decide), f.2 10 (by decide)⟩
theorem r1_buffered {T : AT} {S : MS} {r1 : Int32} {r2 : Int32} {T1 : AT} {S1 : MS} (hV : IV aR0 1586 aK1 aK2 T) (hJ : JJ S) (h : R1 T S) (hg : g_X11_buffered T 0 = some (r1, T1)) (hf : fr_buffered S = some (r2, S1)) : R1 T1 S1 := by
  have c := tgo (cs_X11_buffered T 0  hV rrole.2.2.2) hg
  have f := w_fr_buffered hf
  exact r1_keep (W := []) h hV (by rw [show T1 = T from c.1]; exact FW.rf) (by decide +kernel) (by rw [show T1 = T from c.1]; exact GR.rf T) ⟨f.1 2 (by decide), f.1 5 (by decide), f.1 6 (by decide), f.1 20 (by decide), f.2 1 (by decide), f.2 10 (by decide)⟩
theorem r1_mics {T : AT} {S : MS} {r1 : Int32} {r2 : Int32} {T1 : AT} {S1 : MS} (hV : IV aR0 1586 aK1 aK2 T) (hJ : JJ S) (h : R1 T S) (hg : g_X11_mics T 0 = some (r1, T1)) (hf : fr_mics S = some (r2, S1)) : R1 T1 S1 := by
  have c := tgo (cs_X11_mics T 0  hV rrole.2.2.2) hg
  have f := w_fr_mics hf
  exact r1_keep (W := []) h hV (by rw [show T1 = T from c.1]; exact FW.rf) (by decide +kernel) (by rw [show T1 = T from c.1]; exact GR.rf T) ⟨f.1 2 (by decide), f.1 5 (by decide), f.1 6 (by decide), f.1 20 (by decide), f.2 1 (by decide), f.2 10 (by decide)⟩
theorem r1_micAt {T : AT} {S : MS} {a0 a1 : Int32} {r1 : Int32} {r2 : Int32} {k1 : Nat} {T1 : AT} {S1 : MS} (hV : IV aR0 1586 aK1 aK2 T) (hJ : JJ S) (h : R1 T S) (hg : g_X11_micAt T 0 a0 a1 = some (k1, r1, T1)) (hf : fr_micAt S a0 a1 = some (r2, S1)) : R1 T1 S1 := by
  have c := tgo (cs_X11_micAt T 0 a0 a1 hV rrole.2.2.2) hg
  have f := w_fr_micAt hf
  exact r1_keep (W := []) h hV (by rw [show T1 = T from c.1]; exact FW.rf) (by decide +kernel) (by rw [show T1 = T from c.1]; exact GR.rf T) ⟨f.1 2 (by decide), f.1 5 (by decide), f.1 6 (by decide), f.1 20 (by decide), f.2 1 (by decide), f.2 10 (by decide)⟩
theorem r1_isMuted {T : AT} {S : MS} {a0 : Int32} {r1 : Int32} {r2 : Int32} {k1 : Nat} {T1 : AT} {S1 : MS} (hV : IV aR0 1586 aK1 aK2 T) (hJ : JJ S) (h : R1 T S) (hg : g_X11_isMuted T 0 a0 = some (k1, r1, T1)) (hf : fr_isMuted S a0 = some (r2, S1)) : R1 T1 S1 := by
  have c := tgo (cs_X11_isMuted T 0 a0 hV rrole.2.2.2) hg
  have f := w_fr_isMuted hf
  exact r1_keep (W := []) h hV (by rw [show T1 = T from c.1]; exact FW.rf) (by decide +kernel) (by rw [show T1 = T from c.1]; exact GR.rf T) ⟨f.1 2 (by decide), f.1 5 (by decide), f.1 6 (by decide), f.1 20 (by decide), f.2 1 (by decide), f.2 10 (by decide)⟩
theorem r1_columns {T : AT} {S : MS} {r1 : Int32} {r2 : Int32} {T1 : AT} {S1 : MS} (hV : IV aR0 1586 aK1 aK2 T) (hJ : JJ S) (h : R1 T S) (hg : g_X11_columns T 0 = some (r1, T1)) (hf : fr_columns S = some (r2, S1)) : R1 T1 S1 := by
  have c := tgo (cs_X11_columns T 0  hV rrole.2.2.2) hg
  have f := w_fr_columns hf
  exact r1_keep (W := []) h hV (by rw [show T1 = T from c.1]; exact FW.rf) (by decide +kernel) (by rw [show T1 = T from c.1]; exact GR.rf T) ⟨f.1 2 (by decide), f.1 5 (by decide), f.1 6 (by decide), f.1 20 (by decide), f.2 1 (by decide), f.2 10 (by decide)⟩
theorem r1_rows {T : AT} {S : MS} {r1 : Int32} {r2 : Int32} {T1 : AT} {S1 : MS} (hV : IV aR0 1586 aK1 aK2 T) (hJ : JJ S) (h : R1 T S) (hg : g_X11_rows T 0 = some (r1, T1)) (hf : fr_rows S = some (r2, S1)) : R1 T1 S1 := by
  have c := tgo (cs_X11_rows T 0  hV rrole.2.2.2) hg
  have f := w_fr_rows hf
  exact r1_keep (W := []) h hV (by rw [show T1 = T from c.1]; exact FW.rf) (by decide +kernel) (by rw [show T1 = T from c.1]; exact GR.rf T) ⟨f.1 2 (by decide), f.1 5 (by decide), f.1 6 (by decide), f.1 20 (by decide), f.2 1 (by decide), f.2 10 (by decide)⟩
theorem r1_cellAt {T : AT} {S : MS} {a0 a1 : Int32} {r1 : Int32} {r2 : Int32} {k1 : Nat} {T1 : AT} {S1 : MS} (hV : IV aR0 1586 aK1 aK2 T) (hJ : JJ S) (h : R1 T S) (hg : g_X11_cellAt T 0 a0 a1 = some (k1, r1, T1)) (hf : fr_cellAt S a0 a1 = some (r2, S1)) : R1 T1 S1 := by
  have c := tgo (cs_X11_cellAt T 0 a0 a1 hV rrole.2.2.2) hg
  have f := w_fr_cellAt hf
  exact r1_keep (W := []) h hV (by rw [show T1 = T from c.1]; exact FW.rf) (by decide +kernel) (by rw [show T1 = T from c.1]; exact GR.rf T) ⟨f.1 2 (by decide), f.1 5 (by decide), f.1 6 (by decide), f.1 20 (by decide), f.2 1 (by decide), f.2 10 (by decide)⟩
theorem r1_sources {T : AT} {S : MS} {r1 : Int32} {r2 : Int32} {T1 : AT} {S1 : MS} (hV : IV aR0 1586 aK1 aK2 T) (hJ : JJ S) (h : R1 T S) (hg : g_X11_sources T 0 = some (r1, T1)) (hf : fr_sources S = some (r2, S1)) : R1 T1 S1 := by
  have c := tgo (cs_X11_sources T 0  hV rrole.2.2.2) hg
  have f := w_fr_sources hf
  exact r1_keep (W := []) h hV (by rw [show T1 = T from c.1]; exact FW.rf) (by decide +kernel) (by rw [show T1 = T from c.1]; exact GR.rf T) ⟨f.1 2 (by decide), f.1 5 (by decide), f.1 6 (by decide), f.1 20 (by decide), f.2 1 (by decide), f.2 10 (by decide)⟩
theorem r1_sourceAt {T : AT} {S : MS} {a0 a1 a2 : Int32} {r1 : Int32} {r2 : Int32} {k1 : Nat} {T1 : AT} {S1 : MS} (hV : IV aR0 1586 aK1 aK2 T) (hJ : JJ S) (h : R1 T S) (hg : g_X11_sourceAt T 0 a0 a1 a2 = some (k1, r1, T1)) (hf : fr_sourceAt S a0 a1 a2 = some (r2, S1)) : R1 T1 S1 := by
  have c := tgo (cs_X11_sourceAt T 0 a0 a1 a2 hV rrole.2.2.2) hg
  have f := w_fr_sourceAt hf
  exact r1_keep (W := []) h hV (by rw [show T1 = T from c.1]; exact FW.rf) (by decide +kernel) (by rw [show T1 = T from c.1]; exact GR.rf T) ⟨f.1 2 (by decide), f.1 5 (by decide), f.1 6 (by decide), f.1 20 (by decide), f.2 1 (by decide), f.2 10 (by decide)⟩
theorem r1_isOn {T : AT} {S : MS} {a0 : Int32} {r1 : Int32} {r2 : Int32} {k1 : Nat} {T1 : AT} {S1 : MS} (hV : IV aR0 1586 aK1 aK2 T) (hJ : JJ S) (h : R1 T S) (hg : g_X11_isOn T 0 a0 = some (k1, r1, T1)) (hf : fr_isOn S a0 = some (r2, S1)) : R1 T1 S1 := by
  have c := tgo (cs_X11_isOn T 0 a0 hV rrole.2.2.2) hg
  have f := w_fr_isOn hf
  exact r1_keep (W := []) h hV (by rw [show T1 = T from c.1]; exact FW.rf) (by decide +kernel) (by rw [show T1 = T from c.1]; exact GR.rf T) ⟨f.1 2 (by decide), f.1 5 (by decide), f.1 6 (by decide), f.1 20 (by decide), f.2 1 (by decide), f.2 10 (by decide)⟩
theorem r1_waveAt {T : AT} {S : MS} {a0 a1 : Int32} {r1 : Int32} {r2 : Int32} {k1 : Nat} {T1 : AT} {S1 : MS} (hV : IV aR0 1586 aK1 aK2 T) (hJ : JJ S) (h : R1 T S) (hg : g_X11_waveAt T 0 a0 a1 = some (k1, r1, T1)) (hf : fr_waveAt S a0 a1 = some (r2, S1)) : R1 T1 S1 := by
  have c := tgo (cs_X11_waveAt T 0 a0 a1 hV rrole.2.2.2) hg
  have f := w_fr_waveAt hf
  exact r1_keep (W := []) h hV (by rw [show T1 = T from c.1]; exact FW.rf) (by decide +kernel) (by rw [show T1 = T from c.1]; exact GR.rf T) ⟨f.1 2 (by decide), f.1 5 (by decide), f.1 6 (by decide), f.1 20 (by decide), f.2 1 (by decide), f.2 10 (by decide)⟩
theorem r1_samples {T : AT} {S : MS} {r1 : Int32} {r2 : Int32} {T1 : AT} {S1 : MS} (hV : IV aR0 1586 aK1 aK2 T) (hJ : JJ S) (h : R1 T S) (hg : g_X11_samples T 0 = some (r1, T1)) (hf : fr_samples S = some (r2, S1)) : R1 T1 S1 := by
  have c := tgo (cs_X11_samples T 0  hV rrole.2.2.2) hg
  have f := w_fr_samples hf
  exact r1_keep (W := []) h hV (by rw [show T1 = T from c.1]; exact FW.rf) (by decide +kernel) (by rw [show T1 = T from c.1]; exact GR.rf T) ⟨f.1 2 (by decide), f.1 5 (by decide), f.1 6 (by decide), f.1 20 (by decide), f.2 1 (by decide), f.2 10 (by decide)⟩
theorem r1_delay {T : AT} {S : MS} {a0 a1 : Int32} {r1 : Int32} {r2 : Int32} {k1 : Nat} {T1 : AT} {S1 : MS} (hV : IV aR0 1586 aK1 aK2 T) (hJ : JJ S) (h : R1 T S) (hg : g_X11_delay T 0 a0 a1 = some (k1, r1, T1)) (hf : fr_delay S a0 a1 = some (r2, S1)) : R1 T1 S1 := by
  have c := tgo (cs_X11_delay T 0 a0 a1 hV rrole.2.2.2) hg
  have f := w_fr_delay hf
  exact r1_keep (W := []) h hV (by rw [show T1 = T from c.1]; exact FW.rf) (by decide +kernel) (by rw [show T1 = T from c.1]; exact GR.rf T) ⟨f.1 2 (by decide), f.1 5 (by decide), f.1 6 (by decide), f.1 20 (by decide), f.2 1 (by decide), f.2 10 (by decide)⟩
theorem r1_delayTo {T : AT} {S : MS} {a0 a1 a2 : Int32} {r1 : Int32} {r2 : Int32} {k1 : Nat} {T1 : AT} {S1 : MS} (hV : IV aR0 1586 aK1 aK2 T) (hJ : JJ S) (h : R1 T S) (hg : g_X11_delayTo T 0 a0 a1 a2 = some (k1, r1, T1)) (hf : fr_delayTo S a0 a1 a2 = some (r2, S1)) : R1 T1 S1 := by
  have c := tgo (cs_X11_delayTo T 0 a0 a1 a2 hV rrole.2.2.2) hg
  have f := w_fr_delayTo hf
  exact r1_keep (W := []) h hV (by rw [show T1 = T from c.1]; exact FW.rf) (by decide +kernel) (by rw [show T1 = T from c.1]; exact GR.rf T) ⟨f.1 2 (by decide), f.1 5 (by decide), f.1 6 (by decide), f.1 20 (by decide), f.2 1 (by decide), f.2 10 (by decide)⟩
theorem r1_spread {T : AT} {S : MS} {a0 : Int32} {r1 : Int32} {r2 : Int32} {k1 : Nat} {T1 : AT} {S1 : MS} (hV : IV aR0 1586 aK1 aK2 T) (hJ : JJ S) (h : R1 T S) (hg : g_X11_spread T 0 a0 = some (k1, r1, T1)) (hf : fr_spread S a0 = some (r2, S1)) : R1 T1 S1 := by
  have c := tgo (cs_X11_spread T 0 a0 hV rrole.2.2.2) hg
  have f := w_fr_spread hf
  exact r1_keep (W := []) h hV (by rw [show T1 = T from c.1]; exact FW.rf) (by decide +kernel) (by rw [show T1 = T from c.1]; exact GR.rf T) ⟨f.1 2 (by decide), f.1 5 (by decide), f.1 6 (by decide), f.1 20 (by decide), f.2 1 (by decide), f.2 10 (by decide)⟩
theorem r1_window {T : AT} {S : MS} {a0 : Int32} {r1 : Int32} {r2 : Int32} {k1 : Nat} {T1 : AT} {S1 : MS} (hV : IV aR0 1586 aK1 aK2 T) (hJ : JJ S) (h : R1 T S) (hg : g_X11_window T 0 a0 = some (k1, r1, T1)) (hf : fr_window S a0 = some (r2, S1)) : R1 T1 S1 := by
  have c := tgo (cs_X11_window T 0 a0 hV rrole.2.2.2) hg
  have f := w_fr_window hf
  exact r1_keep (W := []) h hV (by rw [show T1 = T from c.1]; exact FW.rf) (by decide +kernel) (by rw [show T1 = T from c.1]; exact GR.rf T) ⟨f.1 2 (by decide), f.1 5 (by decide), f.1 6 (by decide), f.1 20 (by decide), f.2 1 (by decide), f.2 10 (by decide)⟩
theorem r1_sample {T : AT} {S : MS} {a0 a1 : Int32} {r1 : Int32} {r2 : Int32} {k1 : Nat} {T1 : AT} {S1 : MS} (hV : IV aR0 1586 aK1 aK2 T) (hJ : JJ S) (h : R1 T S) (hg : g_X11_sample T 0 a0 a1 = some (k1, r1, T1)) (hf : fr_sample S a0 a1 = some (r2, S1)) : R1 T1 S1 := by
  have c := tgo (cs_X11_sample T 0 a0 a1 hV rrole.2.2.2) hg
  have f := w_fr_sample hf
  exact r1_keep (W := []) h hV (by rw [show T1 = T from c.1]; exact FW.rf) (by decide +kernel) (by rw [show T1 = T from c.1]; exact GR.rf T) ⟨f.1 2 (by decide), f.1 5 (by decide), f.1 6 (by decide), f.1 20 (by decide), f.2 1 (by decide), f.2 10 (by decide)⟩
theorem r1_beam {T : AT} {S : MS} {a0 a1 : Int32} {r1 : Int32} {r2 : Int32} {k1 : Nat} {T1 : AT} {S1 : MS} (hV : IV aR0 1586 aK1 aK2 T) (hJ : JJ S) (h : R1 T S) (hg : g_X11_beam T 0 a0 a1 = some (k1, r1, T1)) (hf : fr_beam S a0 a1 = some (r2, S1)) : R1 T1 S1 := by
  have c := tgo (cs_X11_beam T 0 a0 a1 hV rrole.2.2.2) hg
  have f := w_fr_beam hf
  exact r1_keep h hV (T1 := T1) c.1.2 (by decide +kernel) (sr_X11_beam hg) ⟨f.1 2 (by decide), f.1 5 (by decide), f.1 6 (by decide), f.1 20 (by decide), f.2 1 (by decide), f.2 10 (by decide)⟩
theorem r1_power {T : AT} {S : MS} {a0 : Int32} {r1 : Int64} {r2 : Int64} {k1 : Nat} {T1 : AT} {S1 : MS} (hV : IV aR0 1586 aK1 aK2 T) (hJ : JJ S) (h : R1 T S) (hg : g_X11_power T 0 a0 = some (k1, r1, T1)) (hf : fr_power S a0 = some (r2, S1)) : R1 T1 S1 := by
  have c := tgo (cs_X11_power T 0 a0 hV rrole.2.2.2) hg
  have f := w_fr_power hf
  exact r1_keep h hV (T1 := T1) c.1.2 (by decide +kernel) (sr_X11_power hg) ⟨f.1 2 (by decide), f.1 5 (by decide), f.1 6 (by decide), f.1 20 (by decide), f.2 1 (by decide), f.2 10 (by decide)⟩
theorem r1_powerAt {T : AT} {S : MS} {a0 a1 : Int32} {r1 : Int64} {r2 : Int64} {k1 : Nat} {T1 : AT} {S1 : MS} (hV : IV aR0 1586 aK1 aK2 T) (hJ : JJ S) (h : R1 T S) (hg : g_X11_powerAt T 0 a0 a1 = some (k1, r1, T1)) (hf : fr_powerAt S a0 a1 = some (r2, S1)) : R1 T1 S1 := by
  have c := tgo (cs_X11_powerAt T 0 a0 a1 hV rrole.2.2.2) hg
  have f := w_fr_powerAt hf
  exact r1_keep h hV (T1 := T1) c.1.2 (by decide +kernel) (sr_X11_powerAt hg) ⟨f.1 2 (by decide), f.1 5 (by decide), f.1 6 (by decide), f.1 20 (by decide), f.2 1 (by decide), f.2 10 (by decide)⟩
theorem r1_best {T : AT} {S : MS} {r1 : Int32} {r2 : Int32} {k1 : Nat} {T1 : AT} {S1 : MS} (hV : IV aR0 1586 aK1 aK2 T) (hJ : JJ S) (h : R1 T S) (hg : g_X11_best T 0 = some (k1, r1, T1)) (hf : fr_best S = some (r2, S1)) : R1 T1 S1 := by
  have c := tgo (cs_X11_best T 0  hV rrole.2.2.2) hg
  have f := w_fr_best hf
  exact r1_keep h hV (T1 := T1) c.1.2 (by decide +kernel) (sr_X11_best hg) ⟨f.1 2 (by decide), f.1 5 (by decide), f.1 6 (by decide), f.1 20 (by decide), f.2 1 (by decide), f.2 10 (by decide)⟩
theorem r1_bestPower {T : AT} {S : MS} {r1 : Int64} {r2 : Int64} {k1 : Nat} {T1 : AT} {S1 : MS} (hV : IV aR0 1586 aK1 aK2 T) (hJ : JJ S) (h : R1 T S) (hg : g_X11_bestPower T 0 = some (k1, r1, T1)) (hf : fr_bestPower S = some (r2, S1)) : R1 T1 S1 := by
  have c := tgo (cs_X11_bestPower T 0  hV rrole.2.2.2) hg
  have f := w_fr_bestPower hf
  exact r1_keep h hV (T1 := T1) c.1.2 (by decide +kernel) (sr_X11_bestPower hg) ⟨f.1 2 (by decide), f.1 5 (by decide), f.1 6 (by decide), f.1 20 (by decide), f.2 1 (by decide), f.2 10 (by decide)⟩
theorem r1_meanPower {T : AT} {S : MS} {r1 : Int64} {r2 : Int64} {k1 : Nat} {T1 : AT} {S1 : MS} (hV : IV aR0 1586 aK1 aK2 T) (hJ : JJ S) (h : R1 T S) (hg : g_X11_meanPower T 0 = some (k1, r1, T1)) (hf : fr_meanPower S = some (r2, S1)) : R1 T1 S1 := by
  have c := tgo (cs_X11_meanPower T 0  hV rrole.2.2.2) hg
  have f := w_fr_meanPower hf
  exact r1_keep h hV (T1 := T1) c.1.2 (by decide +kernel) (sr_X11_meanPower hg) ⟨f.1 2 (by decide), f.1 5 (by decide), f.1 6 (by decide), f.1 20 (by decide), f.2 1 (by decide), f.2 10 (by decide)⟩
theorem r1_peaks {T : AT} {S : MS} {r1 : Int32} {r2 : Int32} {k1 : Nat} {T1 : AT} {S1 : MS} (hV : IV aR0 1586 aK1 aK2 T) (hJ : JJ S) (h : R1 T S) (hg : g_X11_peaks T 0 = some (k1, r1, T1)) (hf : fr_peaks S = some (r2, S1)) : R1 T1 S1 := by
  have c := tgo (cs_X11_peaks T 0  hV rrole.2.2.2) hg
  have f := w_fr_peaks hf
  exact r1_keep h hV (T1 := T1) c.1.2 (by decide +kernel) (sr_X11_peaks hg) ⟨f.1 2 (by decide), f.1 5 (by decide), f.1 6 (by decide), f.1 20 (by decide), f.2 1 (by decide), f.2 10 (by decide)⟩
theorem r1_peakAt {T : AT} {S : MS} {a0 : Int32} {r1 : Int32} {r2 : Int32} {k1 : Nat} {T1 : AT} {S1 : MS} (hV : IV aR0 1586 aK1 aK2 T) (hJ : JJ S) (h : R1 T S) (hg : g_X11_peakAt T 0 a0 = some (k1, r1, T1)) (hf : fr_peakAt S a0 = some (r2, S1)) : R1 T1 S1 := by
  have c := tgo (cs_X11_peakAt T 0 a0 hV rrole.2.2.2) hg
  have f := w_fr_peakAt hf
  exact r1_keep h hV (T1 := T1) c.1.2 (by decide +kernel) (sr_X11_peakAt hg) ⟨f.1 2 (by decide), f.1 5 (by decide), f.1 6 (by decide), f.1 20 (by decide), f.2 1 (by decide), f.2 10 (by decide)⟩
theorem r1_isPeak {T : AT} {S : MS} {a0 : Int32} {r1 : Int32} {r2 : Int32} {k1 : Nat} {T1 : AT} {S1 : MS} (hV : IV aR0 1586 aK1 aK2 T) (hJ : JJ S) (h : R1 T S) (hg : g_X11_isPeak T 0 a0 = some (k1, r1, T1)) (hf : fr_isPeak S a0 = some (r2, S1)) : R1 T1 S1 := by
  have c := tgo (cs_X11_isPeak T 0 a0 hV rrole.2.2.2) hg
  have f := w_fr_isPeak hf
  exact r1_keep h hV (T1 := T1) c.1.2 (by decide +kernel) (sr_X11_isPeak hg) ⟨f.1 2 (by decide), f.1 5 (by decide), f.1 6 (by decide), f.1 20 (by decide), f.2 1 (by decide), f.2 10 (by decide)⟩
theorem r1_zonePower {T : AT} {S : MS} {a0 : Int32} {r1 : Int64} {r2 : Int64} {k1 : Nat} {T1 : AT} {S1 : MS} (hV : IV aR0 1586 aK1 aK2 T) (hJ : JJ S) (h : R1 T S) (hg : g_X11_zonePower T 0 a0 = some (k1, r1, T1)) (hf : fr_zonePower S a0 = some (r2, S1)) : R1 T1 S1 := by
  have c := tgo (cs_X11_zonePower T 0 a0 hV rrole.2.2.2) hg
  have f := w_fr_zonePower hf
  exact r1_keep h hV (T1 := T1) c.1.2 (by decide +kernel) (sr_X11_zonePower hg) ⟨f.1 2 (by decide), f.1 5 (by decide), f.1 6 (by decide), f.1 20 (by decide), f.2 1 (by decide), f.2 10 (by decide)⟩
theorem r1_zoneBest {T : AT} {S : MS} {a0 : Int32} {r1 : Int32} {r2 : Int32} {k1 : Nat} {T1 : AT} {S1 : MS} (hV : IV aR0 1586 aK1 aK2 T) (hJ : JJ S) (h : R1 T S) (hg : g_X11_zoneBest T 0 a0 = some (k1, r1, T1)) (hf : fr_zoneBest S a0 = some (r2, S1)) : R1 T1 S1 := by
  have c := tgo (cs_X11_zoneBest T 0 a0 hV rrole.2.2.2) hg
  have f := w_fr_zoneBest hf
  exact r1_keep h hV (T1 := T1) c.1.2 (by decide +kernel) (sr_X11_zoneBest hg) ⟨f.1 2 (by decide), f.1 5 (by decide), f.1 6 (by decide), f.1 20 (by decide), f.2 1 (by decide), f.2 10 (by decide)⟩
theorem r1_contrast {T : AT} {S : MS} {r1 : UInt32} {r2 : UInt32} {k1 : Nat} {T1 : AT} {S1 : MS} (hV : IV aR0 1586 aK1 aK2 T) (hJ : JJ S) (h : R1 T S) (hg : g_X11_contrast T 0 = some (k1, r1, T1)) (hf : fr_contrast S = some (r2, S1)) : R1 T1 S1 := by
  have c := tgo (cs_X11_contrast T 0  hV rrole.2.2.2) hg
  have f := w_fr_contrast hf
  exact r1_keep h hV (T1 := T1) c.1.2 (by decide +kernel) (sr_X11_contrast hg) ⟨f.1 2 (by decide), f.1 5 (by decide), f.1 6 (by decide), f.1 20 (by decide), f.2 1 (by decide), f.2 10 (by decide)⟩
theorem r1_alias {T : AT} {S : MS} {a0 a1 a2 : Int32} {r1 : Int32} {r2 : Int32} {k1 : Nat} {T1 : AT} {S1 : MS} (hV : IV aR0 1586 aK1 aK2 T) (hJ : JJ S) (h : R1 T S) (hg : g_X11_alias T 0 a0 a1 a2 = some (k1, r1, T1)) (hf : fr_alias S a0 a1 a2 = some (r2, S1)) : R1 T1 S1 := by
  have c := tgo (cs_X11_alias T 0 a0 a1 a2 hV rrole.2.2.2) hg
  have f := w_fr_alias hf
  exact r1_keep (W := []) h hV (by rw [show T1 = T from c.1]; exact FW.rf) (by decide +kernel) (by rw [show T1 = T from c.1]; exact GR.rf T) ⟨f.1 2 (by decide), f.1 5 (by decide), f.1 6 (by decide), f.1 20 (by decide), f.2 1 (by decide), f.2 10 (by decide)⟩
theorem r1_isAlias {T : AT} {S : MS} {a0 a1 a2 : Int32} {r1 : Int32} {r2 : Int32} {k1 : Nat} {T1 : AT} {S1 : MS} (hV : IV aR0 1586 aK1 aK2 T) (hJ : JJ S) (h : R1 T S) (hg : g_X11_isAlias T 0 a0 a1 a2 = some (k1, r1, T1)) (hf : fr_isAlias S a0 a1 a2 = some (r2, S1)) : R1 T1 S1 := by
  have c := tgo (cs_X11_isAlias T 0 a0 a1 a2 hV rrole.2.2.2) hg
  have f := w_fr_isAlias hf
  exact r1_keep h hV (T1 := T1) c.1.2 (by decide +kernel) (sr_X11_isAlias hg) ⟨f.1 2 (by decide), f.1 5 (by decide), f.1 6 (by decide), f.1 20 (by decide), f.2 1 (by decide), f.2 10 (by decide)⟩
theorem r1_aliases {T : AT} {S : MS} {a0 a1 : Int32} {r1 : Int32} {r2 : Int32} {k1 : Nat} {T1 : AT} {S1 : MS} (hV : IV aR0 1586 aK1 aK2 T) (hJ : JJ S) (h : R1 T S) (hg : g_X11_aliases T 0 a0 a1 = some (k1, r1, T1)) (hf : fr_aliases S a0 a1 = some (r2, S1)) : R1 T1 S1 := by
  have c := tgo (cs_X11_aliases T 0 a0 a1 hV rrole.2.2.2) hg
  have f := w_fr_aliases hf
  exact r1_keep h hV (T1 := T1) c.1.2 (by decide +kernel) (sr_X11_aliases hg) ⟨f.1 2 (by decide), f.1 5 (by decide), f.1 6 (by decide), f.1 20 (by decide), f.2 1 (by decide), f.2 10 (by decide)⟩
theorem r1_blockPower {T : AT} {S : MS} {a0 a1 a2 : Int32} {r1 : Int64} {r2 : Int64} {k1 : Nat} {T1 : AT} {S1 : MS} (hV : IV aR0 1586 aK1 aK2 T) (hJ : JJ S) (h : R1 T S) (hg : g_X11_blockPower T 0 a0 a1 a2 = some (k1, r1, T1)) (hf : fr_blockPower S a0 a1 a2 = some (r2, S1)) : R1 T1 S1 := by
  have c := tgo (cs_X11_blockPower T 0 a0 a1 a2 hV rrole.2.2.2) hg
  have f := w_fr_blockPower hf
  exact r1_keep h hV (T1 := T1) c.1.2 (by decide +kernel) (sr_X11_blockPower hg) ⟨f.1 2 (by decide), f.1 5 (by decide), f.1 6 (by decide), f.1 20 (by decide), f.2 1 (by decide), f.2 10 (by decide)⟩
theorem r1_blockBest {T : AT} {S : MS} {a0 a1 : Int32} {r1 : Int32} {r2 : Int32} {k1 : Nat} {T1 : AT} {S1 : MS} (hV : IV aR0 1586 aK1 aK2 T) (hJ : JJ S) (h : R1 T S) (hg : g_X11_blockBest T 0 a0 a1 = some (k1, r1, T1)) (hf : fr_blockBest S a0 a1 = some (r2, S1)) : R1 T1 S1 := by
  have c := tgo (cs_X11_blockBest T 0 a0 a1 hV rrole.2.2.2) hg
  have f := w_fr_blockBest hf
  exact r1_keep h hV (T1 := T1) c.1.2 (by decide +kernel) (sr_X11_blockBest hg) ⟨f.1 2 (by decide), f.1 5 (by decide), f.1 6 (by decide), f.1 20 (by decide), f.2 1 (by decide), f.2 10 (by decide)⟩
theorem r1_path {T : AT} {S : MS} {a0 : Int32} {r1 : Int32} {r2 : Int32} {k1 : Nat} {T1 : AT} {S1 : MS} (hV : IV aR0 1586 aK1 aK2 T) (hJ : JJ S) (h : R1 T S) (hg : g_X11_path T 0 a0 = some (k1, r1, T1)) (hf : fr_path S a0 = some (r2, S1)) : R1 T1 S1 := by
  have c := tgo (cs_X11_path T 0 a0 hV rrole.2.2.2) hg
  have f := w_fr_path hf
  exact r1_keep h hV (T1 := T1) c.1.2 (by decide +kernel) (sr_X11_path hg) ⟨f.1 2 (by decide), f.1 5 (by decide), f.1 6 (by decide), f.1 20 (by decide), f.2 1 (by decide), f.2 10 (by decide)⟩
theorem r1_trackScore {T : AT} {S : MS} {a0 : Int32} {r1 : Int64} {r2 : Int64} {k1 : Nat} {T1 : AT} {S1 : MS} (hV : IV aR0 1586 aK1 aK2 T) (hJ : JJ S) (h : R1 T S) (hg : g_X11_trackScore T 0 a0 = some (k1, r1, T1)) (hf : fr_trackScore S a0 = some (r2, S1)) : R1 T1 S1 := by
  have c := tgo (cs_X11_trackScore T 0 a0 hV rrole.2.2.2) hg
  have f := w_fr_trackScore hf
  exact r1_keep h hV (T1 := T1) c.1.2 (by decide +kernel) (sr_X11_trackScore hg) ⟨f.1 2 (by decide), f.1 5 (by decide), f.1 6 (by decide), f.1 20 (by decide), f.2 1 (by decide), f.2 10 (by decide)⟩
theorem r1_trackCell {T : AT} {S : MS} {a0 a1 : Int32} {r1 : Int32} {r2 : Int32} {k1 : Nat} {T1 : AT} {S1 : MS} (hV : IV aR0 1586 aK1 aK2 T) (hJ : JJ S) (h : R1 T S) (hg : g_X11_trackCell T 0 a0 a1 = some (k1, r1, T1)) (hf : fr_trackCell S a0 a1 = some (r2, S1)) : R1 T1 S1 := by
  have c := tgo (cs_X11_trackCell T 0 a0 a1 hV rrole.2.2.2) hg
  have f := w_fr_trackCell hf
  exact r1_keep h hV (T1 := T1) c.1.2 (by decide +kernel) (sr_X11_trackCell hg) ⟨f.1 2 (by decide), f.1 5 (by decide), f.1 6 (by decide), f.1 20 (by decide), f.2 1 (by decide), f.2 10 (by decide)⟩
theorem r1_movingPower {T : AT} {S : MS} {a0 a1 a2 : Int32} {r1 : Int64} {r2 : Int64} {k1 : Nat} {T1 : AT} {S1 : MS} (hV : IV aR0 1586 aK1 aK2 T) (hJ : JJ S) (h : R1 T S) (hg : g_X11_movingPower T 0 a0 a1 a2 = some (k1, r1, T1)) (hf : fr_movingPower S a0 a1 a2 = some (r2, S1)) : R1 T1 S1 := by
  have c := tgo (cs_X11_movingPower T 0 a0 a1 a2 hV rrole.2.2.2) hg
  have f := w_fr_movingPower hf
  exact r1_keep h hV (T1 := T1) c.1.2 (by decide +kernel) (sr_X11_movingPower hg) ⟨f.1 2 (by decide), f.1 5 (by decide), f.1 6 (by decide), f.1 20 (by decide), f.2 1 (by decide), f.2 10 (by decide)⟩
theorem r1_bestVelocity {T : AT} {S : MS} {a0 a1 a2 : Int32} {r1 : Int32} {r2 : Int32} {k1 : Nat} {T1 : AT} {S1 : MS} (hV : IV aR0 1586 aK1 aK2 T) (hJ : JJ S) (h : R1 T S) (hg : g_X11_bestVelocity T 0 a0 a1 a2 = some (k1, r1, T1)) (hf : fr_bestVelocity S a0 a1 a2 = some (r2, S1)) : R1 T1 S1 := by
  have c := tgo (cs_X11_bestVelocity T 0 a0 a1 a2 hV rrole.2.2.2) hg
  have f := w_fr_bestVelocity hf
  exact r1_keep h hV (T1 := T1) c.1.2 (by decide +kernel) (sr_X11_bestVelocity hg) ⟨f.1 2 (by decide), f.1 5 (by decide), f.1 6 (by decide), f.1 20 (by decide), f.2 1 (by decide), f.2 10 (by decide)⟩
theorem r1_correlation {T : AT} {S : MS} {a0 a1 a2 : Int32} {r1 : Int64} {r2 : Int64} {k1 : Nat} {T1 : AT} {S1 : MS} (hV : IV aR0 1586 aK1 aK2 T) (hJ : JJ S) (h : R1 T S) (hg : g_X11_correlation T 0 a0 a1 a2 = some (k1, r1, T1)) (hf : fr_correlation S a0 a1 a2 = some (r2, S1)) : R1 T1 S1 := by
  have c := tgo (cs_X11_correlation T 0 a0 a1 a2 hV rrole.2.2.2) hg
  have f := w_fr_correlation hf
  exact r1_keep h hV (T1 := T1) c.1.2 (by decide +kernel) (sr_X11_correlation hg) ⟨f.1 2 (by decide), f.1 5 (by decide), f.1 6 (by decide), f.1 20 (by decide), f.2 1 (by decide), f.2 10 (by decide)⟩
theorem r1_bestLag {T : AT} {S : MS} {a0 a1 a2 : Int32} {r1 : Int32} {r2 : Int32} {k1 : Nat} {T1 : AT} {S1 : MS} (hV : IV aR0 1586 aK1 aK2 T) (hJ : JJ S) (h : R1 T S) (hg : g_X11_bestLag T 0 a0 a1 a2 = some (k1, r1, T1)) (hf : fr_bestLag S a0 a1 a2 = some (r2, S1)) : R1 T1 S1 := by
  have c := tgo (cs_X11_bestLag T 0 a0 a1 a2 hV rrole.2.2.2) hg
  have f := w_fr_bestLag hf
  exact r1_keep h hV (T1 := T1) c.1.2 (by decide +kernel) (sr_X11_bestLag hg) ⟨f.1 2 (by decide), f.1 5 (by decide), f.1 6 (by decide), f.1 20 (by decide), f.2 1 (by decide), f.2 10 (by decide)⟩
theorem r1_level {T : AT} {S : MS} {a0 : Int32} {r1 : Int64} {r2 : Int64} {k1 : Nat} {T1 : AT} {S1 : MS} (hV : IV aR0 1586 aK1 aK2 T) (hJ : JJ S) (h : R1 T S) (hg : g_X11_level T 0 a0 = some (k1, r1, T1)) (hf : fr_level S a0 = some (r2, S1)) : R1 T1 S1 := by
  have c := tgo (cs_X11_level T 0 a0 hV rrole.2.2.2) hg
  have f := w_fr_level hf
  exact r1_keep h hV (T1 := T1) c.1.2 (by decide +kernel) (sr_X11_level hg) ⟨f.1 2 (by decide), f.1 5 (by decide), f.1 6 (by decide), f.1 20 (by decide), f.2 1 (by decide), f.2 10 (by decide)⟩
theorem r1_loudest {T : AT} {S : MS} {a0 : Int32} {r1 : Int32} {r2 : Int32} {k1 : Nat} {T1 : AT} {S1 : MS} (hV : IV aR0 1586 aK1 aK2 T) (hJ : JJ S) (h : R1 T S) (hg : g_X11_loudest T 0 a0 = some (k1, r1, T1)) (hf : fr_loudest S a0 = some (r2, S1)) : R1 T1 S1 := by
  have c := tgo (cs_X11_loudest T 0 a0 hV rrole.2.2.2) hg
  have f := w_fr_loudest hf
  exact r1_keep h hV (T1 := T1) c.1.2 (by decide +kernel) (sr_X11_loudest hg) ⟨f.1 2 (by decide), f.1 5 (by decide), f.1 6 (by decide), f.1 20 (by decide), f.2 1 (by decide), f.2 10 (by decide)⟩
theorem r1_writeMap {T : AT} {S : MS} {r1 : Int32} {r2 : Int32} {k1 : Nat} {T1 : AT} {S1 : MS} (hV : IV aR0 1586 aK1 aK2 T) (hJ : JJ S) (h : R1 T S) (hg : g_X11_writeMap T 0 = some (k1, r1, T1)) (hf : fr_writeMap S = some (r2, S1)) : R1 T1 S1 := by
  have c := tgo (cs_X11_writeMap T 0  hV rrole.2.2.2) hg
  have f := w_fr_writeMap hf
  exact r1_keep h hV (T1 := T1) c.1.2 (by decide +kernel) (sr_X11_writeMap hg) ⟨f.1 2 (by decide), f.1 5 (by decide), f.1 6 (by decide), f.1 20 (by decide), f.2 1 (by decide), f.2 10 (by decide)⟩
theorem r1_mapByte {T : AT} {S : MS} {a0 : Int32} {r1 : Int32} {r2 : Int32} {k1 : Nat} {T1 : AT} {S1 : MS} (hV : IV aR0 1586 aK1 aK2 T) (hJ : JJ S) (h : R1 T S) (hg : g_X11_mapByte T 0 a0 = some (k1, r1, T1)) (hf : fr_mapByte S a0 = some (r2, S1)) : R1 T1 S1 := by
  have c := tgo (cs_X11_mapByte T 0 a0 hV rrole.2.2.2) hg
  have f := w_fr_mapByte hf
  exact r1_keep (W := []) h hV (by rw [show T1 = T from c.1]; exact FW.rf) (by decide +kernel) (by rw [show T1 = T from c.1]; exact GR.rf T) ⟨f.1 2 (by decide), f.1 5 (by decide), f.1 6 (by decide), f.1 20 (by decide), f.2 1 (by decide), f.2 10 (by decide)⟩
theorem r1_pointBest {T : AT} {S : MS} {a0 a1 : Int32} {r1 : Int32} {r2 : Int32} {k1 : Nat} {T1 : AT} {S1 : MS} (hV : IV aR0 1586 aK1 aK2 T) (hJ : JJ S) (h : R1 T S) (hg : g_X11_pointBest T 0 a0 a1 = some (k1, r1, T1)) (hf : fr_pointBest S a0 a1 = some (r2, S1)) : R1 T1 S1 := by
  have c := tgo (cs_X11_pointBest T 0 a0 a1 hV rrole.2.2.2) hg
  have f := w_fr_pointBest hf
  exact r1_keep7 h hV (T1 := T1) c.1.2 (by decide +kernel) (crf_gr h.1 hV (sr_X11_pointBest hg)) (e14_gr hV (sr_X11_pointBest hg)) ⟨f.1 2 (by decide), f.1 5 (by decide), f.1 6 (by decide), f.1 20 (by decide), f.2 1 (by decide), f.2 10 (by decide)⟩ (fun m hm => q_pointBest hV h.1 hg hm)
theorem r1_pointPower {T : AT} {S : MS} {a0 a1 a2 : Int32} {r1 : Int64} {r2 : Int64} {k1 : Nat} {T1 : AT} {S1 : MS} (hV : IV aR0 1586 aK1 aK2 T) (hJ : JJ S) (h : R1 T S) (hg : g_X11_pointPower T 0 a0 a1 a2 = some (k1, r1, T1)) (hf : fr_pointPower S a0 a1 a2 = some (r2, S1)) : R1 T1 S1 := by
  have c := tgo (cs_X11_pointPower T 0 a0 a1 a2 hV rrole.2.2.2) hg
  have f := w_fr_pointPower hf
  exact r1_keep7 h hV (T1 := T1) c.1.2 (by decide +kernel) (crf_gr h.1 hV (sr_X11_pointPower hg)) (e14_gr hV (sr_X11_pointPower hg)) ⟨f.1 2 (by decide), f.1 5 (by decide), f.1 6 (by decide), f.1 20 (by decide), f.2 1 (by decide), f.2 10 (by decide)⟩ (fun m hm => q_pointPower hV h.1 hg hm)
theorem r1_bestWithout {T : AT} {S : MS} {a0 : Int32} {r1 : Int32} {r2 : Int32} {k1 : Nat} {T1 : AT} {S1 : MS} (hV : IV aR0 1586 aK1 aK2 T) (hJ : JJ S) (h : R1 T S) (hg : g_X11_bestWithout T 0 a0 = some (k1, r1, T1)) (hf : fr_bestWithout S a0 = some (r2, S1)) : R1 T1 S1 := by
  have c := tgo (cs_X11_bestWithout T 0 a0 hV rrole.2.2.2) hg
  have f := w_fr_bestWithout hf
  exact r1_keep h hV (T1 := T1) c.1.2 (by decide +kernel) (sr_X11_bestWithout hg) ⟨f.1 2 (by decide), f.1 5 (by decide), f.1 6 (by decide), f.1 20 (by decide), f.2 1 (by decide), f.2 10 (by decide)⟩
theorem r1_bestIfOff {T : AT} {S : MS} {a0 : Int32} {r1 : Int32} {r2 : Int32} {k1 : Nat} {T1 : AT} {S1 : MS} (hV : IV aR0 1586 aK1 aK2 T) (hJ : JJ S) (h : R1 T S) (hg : g_X11_bestIfOff T 0 a0 = some (k1, r1, T1)) (hf : fr_bestIfOff S a0 = some (r2, S1)) : R1 T1 S1 := by
  have c := tgo (cs_X11_bestIfOff T 0 a0 hV rrole.2.2.2) hg
  have f := w_fr_bestIfOff hf
  exact r1_keep h hV (T1 := T1) c.1.2 (by decide +kernel) (sr_X11_bestIfOff hg) ⟨f.1 2 (by decide), f.1 5 (by decide), f.1 6 (by decide), f.1 20 (by decide), f.2 1 (by decide), f.2 10 (by decide)⟩
theorem r1_mute {T : AT} {S : MS} {a0 a1 : Int32} {r1 : Int32} {r2 : Int32} {k1 : Nat} {T1 : AT} {S1 : MS} (hV : IV aR0 1586 aK1 aK2 T) (hJ : JJ S) (hb : 0 ≤ a1.toInt ∧ a1.toInt ≤ 1) (h : R1 T S) (hg : g_X11_mute T 0 a0 a1 = some (k1, r1, T1)) (hf : fr_mute S a0 a1 = some (r2, S1)) : R1 T1 S1 := by
  have c := tgo (cs_X11_mute T 0 a0 a1 hV rrole.2.2.2 hb) hg
  have f := w_fr_mute hf
  exact r1_keep h hV (T1 := T1) c.1.2 (by decide +kernel) (sr_X11_mute hg) ⟨f.1 2 (by decide), f.1 5 (by decide), f.1 6 (by decide), f.1 20 (by decide), f.2 1 (by decide), f.2 10 (by decide)⟩
theorem r1_setWeight {T : AT} {S : MS} {a0 a1 : Int32} {r1 : Int32} {r2 : Int32} {k1 : Nat} {T1 : AT} {S1 : MS} (hV : IV aR0 1586 aK1 aK2 T) (hJ : JJ S) (h : R1 T S) (hg : g_X11_setWeight T 0 a0 a1 = some (k1, r1, T1)) (hf : fr_setWeight S a0 a1 = some (r2, S1)) : R1 T1 S1 := by
  have c := tgo (cs_X11_setWeight T 0 a0 a1 hV rrole.2.2.2) hg
  have f := w_fr_setWeight hf
  exact r1_keep h hV (T1 := T1) c.1.2 (by decide +kernel) (sr_X11_setWeight hg) ⟨f.1 2 (by decide), f.1 5 (by decide), f.1 6 (by decide), f.1 20 (by decide), f.2 1 (by decide), f.2 10 (by decide)⟩
theorem r1_setOn {T : AT} {S : MS} {a0 a1 : Int32} {r1 : Int32} {r2 : Int32} {k1 : Nat} {T1 : AT} {S1 : MS} (hV : IV aR0 1586 aK1 aK2 T) (hJ : JJ S) (hb : 0 ≤ a1.toInt ∧ a1.toInt ≤ 1) (h : R1 T S) (hg : g_X11_setOn T 0 a0 a1 = some (k1, r1, T1)) (hf : fr_setOn S a0 a1 = some (r2, S1)) : R1 T1 S1 := by
  have c := tgo (cs_X11_setOn T 0 a0 a1 hV rrole.2.2.2 hb) hg
  have f := w_fr_setOn hf
  exact r1_keep h hV (T1 := T1) c.1.2 (by decide +kernel) (sr_X11_setOn hg) ⟨f.1 2 (by decide), f.1 5 (by decide), f.1 6 (by decide), f.1 20 (by decide), f.2 1 (by decide), f.2 10 (by decide)⟩
theorem r1_moveSource {T : AT} {S : MS} {a0 a1 a2 : Int32} {r1 : Int32} {r2 : Int32} {k1 : Nat} {T1 : AT} {S1 : MS} (hV : IV aR0 1586 aK1 aK2 T) (hJ : JJ S) (h : R1 T S) (hg : g_X11_moveSource T 0 a0 a1 a2 = some (k1, r1, T1)) (hf : fr_moveSource S a0 a1 a2 = some (r2, S1)) : R1 T1 S1 := by
  have c := tgo (cs_X11_moveSource T 0 a0 a1 a2 hV rrole.2.2.2) hg
  have f := w_fr_moveSource hf
  exact r1_keep h hV (T1 := T1) c.1.2 (by decide +kernel) (sr_X11_moveSource hg) ⟨f.1 2 (by decide), f.1 5 (by decide), f.1 6 (by decide), f.1 20 (by decide), f.2 1 (by decide), f.2 10 (by decide)⟩
theorem r1_setVelocity {T : AT} {S : MS} {a0 a1 a2 : Int32} {r1 : Int32} {r2 : Int32} {k1 : Nat} {T1 : AT} {S1 : MS} (hV : IV aR0 1586 aK1 aK2 T) (hJ : JJ S) (h : R1 T S) (hg : g_X11_setVelocity T 0 a0 a1 a2 = some (k1, r1, T1)) (hf : fr_setVelocity S a0 a1 a2 = some (r2, S1)) : R1 T1 S1 := by
  have c := tgo (cs_X11_setVelocity T 0 a0 a1 a2 hV rrole.2.2.2) hg
  have f := w_fr_setVelocity hf
  exact r1_keep h hV (T1 := T1) c.1.2 (by decide +kernel) (sr_X11_setVelocity hg) ⟨f.1 2 (by decide), f.1 5 (by decide), f.1 6 (by decide), f.1 20 (by decide), f.2 1 (by decide), f.2 10 (by decide)⟩
theorem r1_clean {T : AT} {S : MS} {a0 : Int32} {r1 : Int32} {r2 : Int32} {k1 : Nat} {T1 : AT} {S1 : MS} (hV : IV aR0 1586 aK1 aK2 T) (hJ : JJ S) (h : R1 T S) (hg : g_X11_clean T 0 a0 = some (k1, r1, T1)) (hf : fr_clean S a0 = some (r2, S1)) : R1 T1 S1 := by
  have c := tgo (cs_X11_clean T 0 a0 hV rrole.2.2.2) hg
  have f := w_fr_clean hf
  exact r1_keep h hV (T1 := T1) c.1.2 (by decide +kernel) (sr_X11_clean hg) ⟨f.1 2 (by decide), f.1 5 (by decide), f.1 6 (by decide), f.1 20 (by decide), f.2 1 (by decide), f.2 10 (by decide)⟩
theorem r1_cleaned {T : AT} {S : MS} {r1 : Int32} {r2 : Int32} {k1 : Nat} {T1 : AT} {S1 : MS} (hV : IV aR0 1586 aK1 aK2 T) (hJ : JJ S) (h : R1 T S) (hg : g_X11_cleaned T 0 = some (k1, r1, T1)) (hf : fr_cleaned S = some (r2, S1)) : R1 T1 S1 := by
  have c := tgo (cs_X11_cleaned T 0  hV rrole.2.2.2) hg
  have f := w_fr_cleaned hf
  exact r1_keep (W := []) h hV (by rw [show T1 = T from c.1]; exact FW.rf) (by decide +kernel) (by rw [show T1 = T from c.1]; exact GR.rf T) ⟨f.1 2 (by decide), f.1 5 (by decide), f.1 6 (by decide), f.1 20 (by decide), f.2 1 (by decide), f.2 10 (by decide)⟩
theorem r1_undo {T : AT} {S : MS} {r1 : Int32} {r2 : Int32} {k1 : Nat} {T1 : AT} {S1 : MS} (hV : IV aR0 1586 aK1 aK2 T) (hJ : JJ S) (h : R1 T S) (hg : g_X11_undo T 0 = some (k1, r1, T1)) (hf : fr_undo S = some (r2, S1)) : R1 T1 S1 := by
  have c := tgo (cs_X11_undo T 0  hV rrole.2.2.2) hg
  have f := w_fr_undo hf
  exact r1_keep h hV (T1 := T1) c.1.2 (by decide +kernel) (sr_X11_undo hg) ⟨f.1 2 (by decide), f.1 5 (by decide), f.1 6 (by decide), f.1 20 (by decide), f.2 1 (by decide), f.2 10 (by decide)⟩
theorem r1_undoable {T : AT} {S : MS} {r1 : Int32} {r2 : Int32} {T1 : AT} {S1 : MS} (hV : IV aR0 1586 aK1 aK2 T) (hJ : JJ S) (h : R1 T S) (hg : g_X11_undoable T 0 = some (r1, T1)) (hf : fr_undoable S = some (r2, S1)) : R1 T1 S1 := by
  have c := tgo (cs_X11_undoable T 0  hV rrole.2.2.2) hg
  have f := w_fr_undoable hf
  exact r1_keep (W := []) h hV (by rw [show T1 = T from c.1]; exact FW.rf) (by decide +kernel) (by rw [show T1 = T from c.1]; exact GR.rf T) ⟨f.1 2 (by decide), f.1 5 (by decide), f.1 6 (by decide), f.1 20 (by decide), f.2 1 (by decide), f.2 10 (by decide)⟩
theorem r1_save {T : AT} {S : MS} {a0 : Int32} {r1 : Int32} {r2 : Int32} {k1 : Nat} {T1 : AT} {S1 : MS} (hV : IV aR0 1586 aK1 aK2 T) (hJ : JJ S) (h : R1 T S) (hg : g_X11_save T 0 a0 = some (k1, r1, T1)) (hf : fr_save S a0 = some (r2, S1)) : R1 T1 S1 := by
  have c := tgo (cs_X11_save T 0 a0 hV rrole.2.2.2) hg
  have f := w_fr_save hf
  exact r1_keep h hV (T1 := T1) c.1.2 (by decide +kernel) (sr_X11_save hg) ⟨f.1 2 (by decide), f.1 5 (by decide), f.1 6 (by decide), f.1 20 (by decide), f.2 1 (by decide), f.2 10 (by decide)⟩
theorem r1_restore {T : AT} {S : MS} {a0 : Int32} {r1 : Int32} {r2 : Int32} {k1 : Nat} {T1 : AT} {S1 : MS} (hV : IV aR0 1586 aK1 aK2 T) (hJ : JJ S) (h : R1 T S) (hg : g_X11_restore T 0 a0 = some (k1, r1, T1)) (hf : fr_restore S a0 = some (r2, S1)) : R1 T1 S1 := by
  have c := tgo (cs_X11_restore T 0 a0 hV rrole.2.2.2) hg
  have f := w_fr_restore hf
  exact r1_keep h hV (T1 := T1) c.1.2 (by decide +kernel) (sr_X11_restore hg) ⟨f.1 2 (by decide), f.1 5 (by decide), f.1 6 (by decide), f.1 20 (by decide), f.2 1 (by decide), f.2 10 (by decide)⟩
theorem r_told {S S1 : MS} {v r : Int32} (hf : fr_told S v = some (r, S1)) : r = if S.1 20 = 0 then 0 else v := by
  unfold fr_told at hf
  obtain ⟨S2, e2, hf⟩ := elet_some hf
  obtain ⟨v3, e3, hf⟩ := elet_some hf
  have e3 : v3 = S.1 20 := by rw [e3, e2]; rfl
  by_cases c : v3 = 0
  · rw [if_pos c] at hf
    rw [if_pos (e3.symm.trans c)]
    exact (osome2 (show some ((0 : Int32), S2) = some (r, S1) from hf)).1.symm
  · rw [if_neg c] at hf
    rw [if_neg (fun q => c (e3.trans q))]
    exact (osome2 (show some (v, S2) = some (r, S1) from hf)).1.symm
theorem r1h_samples {T : AT} {S : MS} {r1 r2 : Int32} {T1 : AT} {S1 : MS} (hV : IV aR0 1586 aK1 aK2 T) (hJ : JJ S) (h : R1 T S) (hg : g_X11_samples T 0 = some (r1, T1)) (hf : fr_samples S = some (r2, S1)) : r1 = r2 := by
  obtain ⟨s, hs, h14, hr⟩ := h.2.2.2.2
  unfold g_X11_samples at hg
  obtain ⟨-, hg⟩ := oif_some hg
  obtain ⟨n3, e3, hg⟩ := obind_some hg
  rw [h14] at e3
  cases e3
  obtain ⟨-, hg⟩ := oif_some hg
  obtain ⟨v5, e5, hg⟩ := elet_some hg
  unfold fr_samples at hf
  obtain ⟨v2, e2, hf⟩ := elet_some hf
  obtain ⟨r6, S3, f6, hf⟩ := obind2_some hf
  have q := r_told f6
  rw [← (osome2 hg).1, ← (osome2 hf).1, q, e5]
  rcases hr with ⟨a, b, -⟩ | ⟨a, b2, b5, b8, g3, g4, g7⟩
  · rw [if_neg (by rw [a]; decide), e2]
    rw [b.1.2.2.1]
  · rw [if_pos a]
    exact b2
theorem r1k_load {T : AT} {S : MS} {a0 r1 r2 : Int32} {k1 : Nat} {T1 : AT} {S1 : MS} (hV : IV aR0 1586 aK1 aK2 T) (hJ : JJ S) (h : R1 T S) (hg : g_X11_load T 0 a0 = some (k1, r1, T1)) (hf : fr_load S a0 = some (r2, S1)) : R1 T1 S1 := (r1_load hV hJ h hg hf).1
end
