section
variable {b : Nat → Int32} {n c i k s : Nat} {T T1 : AT} {S S1 : MS} {r : Int32}
/-- the outcome of a text -/
def TXq (s : Nat) (T T1 : AT) (S1 : MS) (k : Nat) : Prop := (k = 0 ∧ SCNq s T1 (S1.2.1 11) (S1.2.1 13) ∧ T1.2.2.2.2 = T.2.2.2.2 ∧ T1.2.2.1 6 2 = 0 ∧ T1.2.2.1 6 3 = -1 ∧ S1.1 5 = 0 ∧ S1.1 6 = -1 ∧ S1.2.1 11 4 ≠ 0 ∧ S1.2.1 11 8 ≠ 0) ∨ (k = 3 ∧ ERq T1 S1)
theorem st_b92 (q : 0 < (S.1 5).toInt) (hf : fr_readText_b92 S = some S1) : S1 = S := by
  have fin : fr_readText_b111 S = some S1 → S1 = S := fun hf => by
    unfold fr_readText_b111 at hf
    obtain ⟨S2, f2, hf⟩ := obind_some hf
    rw [st_faults q f2] at hf
    exact (osome1 (show some S = some S1 from hf)).symm
  unfold fr_readText_b92 at hf
  obtain ⟨v2, e2, hf⟩ := elet_some hf
  by_cases c1 : v2 = 0
  · rw [if_pos c1] at hf
    exact fin hf
  · rw [if_neg c1] at hf
    obtain ⟨v4, e4, hf⟩ := elet_some hf
    by_cases c2 : v4 = 0
    · rw [if_pos c2] at hf
      exact fin hf
    · rw [if_neg c2] at hf
      exact (osome1 (show some S = some S1 from hf)).symm
theorem st_b52 : ∀ f : Nat, 0 < (S.1 5).toInt → fr_readText_b52 f S = some S1 → S1 = S := by
  intro f q hf
  cases f with
  | zero => cases hf
  | succ f =>
    unfold fr_readText_b52 at hf
    obtain ⟨r5, S2, f5, hf⟩ := obind2_some hf
    obtain ⟨k1, k2⟩ := st_here q f5
    rw [if_pos k1, k2] at hf
    obtain ⟨v7, e7, hf⟩ := elet_some hf
    rw [if_neg (st_ne q e7)] at hf
    exact st_b92 q hf
/-- the end of a text: a camera must have microphones and a map -/
theorem k_end (h : PRq b n c i T S) (hs : s = 478 ∨ s = 656) (hF : SRF s T) (hC : SCNq s T (S.2.1 11) (S.2.1 13)) (hg : g_X3_parse_b81 T 6 s = some (k, r, T1)) (hf : fr_readText_b92 S = some S1) : TXq s T T1 S1 k := by
  have h11 := h.1.2.2.2.2.2
  have h10 := h.1.2.2.2.2.1
  have hC2 := hC
  obtain ⟨gH, ⟨mc, b1, b2, b3, b4, b5⟩, gG, -⟩ := hC
  have fail : g_X3_parse_b98 T 6 = some (k, r, T1) → fr_readText_b111 S = some S1 → TXq s T T1 S1 k := by
    intro hg hf
    unfold g_X3_parse_b98 at hg
    obtain ⟨-, hg⟩ := oif_some hg
    obtain ⟨v3, e3, hg⟩ := elet_some hg
    rw [h11] at e3
    rw [e3] at hg
    obtain ⟨-, hg⟩ := oif_some hg
    unfold fr_readText_b111 at hf
    obtain ⟨S2, f2, hf⟩ := obind_some hf
    rw [← osome1 (show some S2 = some S1 from hf)]
    right
    rcases othr_k hg with ⟨r9, g9, -⟩ | ⟨r9, T9, g9, -⟩
    · exact k_err h h10 rfl (by decide) g9 f2
    · exact absurd (k_err h h10 rfl (by decide) g9 f2).1 (by decide)
  unfold g_X3_parse_b81 at hg
  obtain ⟨-, hg⟩ := oif_some hg
  obtain ⟨v3, e3, hg⟩ := elet_some hg
  rw [b2, ← b3] at e3
  unfold fr_readText_b92 at hf
  obtain ⟨v2, e2, hf⟩ := elet_some hf
  rw [← e3] at e2
  by_cases c1 : v3 = 0
  · rw [if_pos c1] at hg
    rw [if_pos (e2.trans c1)] at hf
    exact fail hg hf
  rw [if_neg c1] at hg
  rw [if_neg (fun q => c1 (e2.symm.trans q))] at hf
  obtain ⟨-, hg⟩ := oif_some hg
  obtain ⟨n6, e6, hg⟩ := obind_some hg
  rw [hF.2.1] at e6
  cases e6
  obtain ⟨-, hg⟩ := oif_some hg
  obtain ⟨v8, e8, hg⟩ := elet_some hg
  rw [gG.1] at e8
  obtain ⟨v4, e4, hf⟩ := elet_some hf
  by_cases c2 : v8 = 0
  · rw [if_pos c2] at hg
    have c4 : v4 = 0 := by
      rw [e4]
      rcases gG.2.2 with ⟨y, -, -⟩ | ⟨-, y, -⟩
      · exact y
      · rw [← e8, c2] at y; exact absurd y (by decide)
    rw [if_pos c4] at hf
    exact fail hg hf
  · rw [if_neg c2] at hg
    have c4 : ¬ v4 = 0 := by
      rw [e4]
      rcases gG.2.2 with ⟨-, y, -⟩ | ⟨y, -, -⟩
      · rw [y] at e8; exact absurd e8 c2
      · intro q; rw [q] at y; exact absurd y (by decide)
    rw [if_neg c4] at hf
    have ff := osome1 (show some S = some S1 from hf)
    unfold g_X3_parse_b107 at hg
    obtain ⟨-, hg⟩ := oif_some hg
    obtain ⟨T3, e3', hg⟩ := elet_some hg
    obtain ⟨-, hg⟩ := oif_some hg
    obtain ⟨T5, e5, hg⟩ := elet_some hg
    have g := osome3 hg
    have t : TFq T T5 := by rw [e5, e3']; exact tf6.tr tf6
    rw [← g.2.2, ← ff]
    refine .inl ⟨g.1.symm, scn_tf hs t hC2, congrArg (fun x => x.2) t.2.2.1, ?_, ?_, h.2.2.1, h.2.2.2.1, ?_, ?_⟩
    · rw [e5, ui_ne (.inr (by decide)), e3', ui_at]
    · rw [e5, ui_at]
    · rw [← e3]; exact c1
    · rw [← e4]; exact c4
theorem k_textl (hs : s = 478 ∨ s = 656) : ∀ (f f2 : Nat) {i l k : Nat} {r : Int32} {T T1 : AT} {S S1 : MS}, PRq b n c i T S → SRF s T → SCNq s T (S.2.1 11) (S.2.1 13) → l ≤ i → g_X3_parse_b24 f T 6 s (nI l) = some (k, r, T1) → fr_readText_b52 f2 S = some S1 → TXq s T T1 S1 k := by
  intro f
  induction f with
  | zero => intro f2 i l k r T T1 S S1 p hF hC hl hg hf; cases hg
  | succ f ih =>
    intro f2 i l k r T T1 S S1 p hF hC hl hg hf
    cases f2 with
    | zero => cases hf
    | succ f2 =>
      have qt := p.2.2.2.2.2.2.2
      have h10 := p.1.2.2.2.2.1
      have h11 := p.1.2.2.2.2.2
      have hc := p.1.2.2.2.1.2.2.1
      unfold g_X3_parse_b24 at hg
      obtain ⟨-, hg⟩ := oif_some hg
      obtain ⟨n3, e3, hg⟩ := obind_some hg
      rw [p.1.2.1.2.2.2.2.1] at e3
      cases e3
      obtain ⟨-, hg⟩ := oif_some hg
      obtain ⟨v5, e5, hg⟩ := elet_some hg
      rw [p.1.2.2.2.1.1] at e5
      rw [if_neg (by rw [e5]; intro q; have := (nI_leI (by omega) (by omega)).mp q; omega)] at hg
      obtain ⟨-, hg⟩ := oif_some hg
      obtain ⟨r10, T8, e8, hg⟩ := obind2_some hg
      obtain ⟨k1, k2⟩ := k_kind p e8
      rw [k2] at hg
      unfold fr_readText_b52 at hf
      obtain ⟨r5, S2, f5, hf⟩ := obind2_some hf
      obtain ⟨g1, g2⟩ := k_here p (.inr rfl) f5
      rw [if_neg (by decide)] at g2
      rw [g1] at hf
      by_cases k5 : kd b n (pst b n i) = 5
      · rw [if_pos (k1.trans k5)] at hg
        have w1 : r5 = 0 := by
          rcases g2 with ⟨-, q⟩ | ⟨q, -⟩
          · rw [k5] at q; exact absurd q (by decide)
          · exact q
        rw [if_pos w1] at hf
        obtain ⟨v7, e7, hf⟩ := elet_some hf
        rw [if_pos (e7.trans p.2.2.1)] at hf
        obtain ⟨v9, e9, hf⟩ := elet_some hf
        rw [if_pos (e9.trans ((tk_end qt).mpr k5))] at hf
        exact k_end p hs hF hC hg hf
      rw [if_neg (fun q => k5 (k1.symm.trans q))] at hg
      obtain ⟨-, hg⟩ := oif_some hg
      obtain ⟨r16, T14, e14, hg⟩ := obind2_some hg
      obtain ⟨k3, k4⟩ := k_kind p e14
      rw [k4] at hg
      rcases g2 with ⟨w1, km⟩ | ⟨w1, km⟩
      · rw [if_pos (k3.trans km)] at hg
        rw [if_neg (by rw [w1]; decide)] at hf
        obtain ⟨S14, f14, hf⟩ := obind_some hf
        obtain ⟨S17, f17, hf⟩ := obind_some hf
        unfold g_X3_parse_b60 at hg
        obtain ⟨-, hg⟩ := oif_some hg
        obtain ⟨v3, e3, hg⟩ := elet_some hg
        rw [h11] at e3
        obtain ⟨v4, e4, hg⟩ := elet_some hg
        rw [e3, nI_1] at e4
        obtain ⟨-, hg⟩ := oif_some hg
        obtain ⟨T6, e6, hg⟩ := elet_some hg
        obtain ⟨p6, m6⟩ := pr_adv p k5 f14
        rw [← e4, ← e6] at p6
        have t6 : TFq T T6 := by rw [e6]; exact tf6
        have r6 : T6.2.2.2.2 = T.2.2.2.2 := congrArg (fun x => x.2) t6.2.2.1
        have C6 : SCNq s T6 (S14.2.1 11) (S14.2.1 13) := by rw [m6.1]; exact scn_tf hs t6 hC
        obtain ⟨-, hg⟩ := oif_some hg
        rcases othr_k hg with ⟨r9, g9, z9⟩ | ⟨r9, T9, g9, hg⟩
        · rcases l_line p6 hs (hF.sub r6) C6 g9 f17 with ⟨z, -⟩ | ⟨z1, z2⟩
          · exact absurd z z9
          · exact .inr ⟨z1, by rw [st_b52 _ z2.1 hf]; exact z2⟩
        rcases l_line p6 hs (hF.sub r6) C6 g9 f17 with ⟨-, ⟨j, hj, p9⟩, C9, r9'⟩ | ⟨z1, -⟩
        rotate_left
        · exact absurd z1 (by decide)
        obtain ⟨v12, e12, hg⟩ := elet_some hg
        have e12 : v12 = nI (l + 1) := e12.trans (nI_1 l)
        rw [e12] at hg
        rcases ih f2 p9 (hF.sub (r9'.trans r6)) C9 (by omega) hg hf with ⟨y1, y2, y3, y4⟩ | y
        · exact .inl ⟨y1, y2, y3.trans (r9'.trans r6), y4⟩
        · exact .inr y
      · rw [if_neg (fun q => km (k3.symm.trans q))] at hg
        rw [if_pos w1] at hf
        obtain ⟨v7, e7, hf⟩ := elet_some hf
        rw [if_pos (e7.trans p.2.2.1)] at hf
        obtain ⟨v9, e9, hf⟩ := elet_some hf
        rw [if_neg (fun q => k5 ((tk_end qt).mp (e9.symm.trans q)))] at hf
        obtain ⟨S11, f11, hf⟩ := obind_some hf
        obtain ⟨-, hg⟩ := oif_some hg
        obtain ⟨v20, e20, hg⟩ := elet_some hg
        rw [h11] at e20
        rw [e20] at hg
        obtain ⟨-, hg⟩ := oif_some hg
        right
        rcases othr_k hg with ⟨r9, g9, -⟩ | ⟨r9, T9, g9, -⟩
        · obtain ⟨a1, a2⟩ := k_err p h10 rfl (by decide) g9 f11
          rw [st_b92 a2.1 hf]
          exact ⟨a1, a2⟩
        · exact absurd (k_err p h10 rfl (by decide) g9 f11).1 (by decide)
/-- the reference's plan and draft are made zero -/
theorem r_zero2 : ∀ (f : Nat) {l : Nat} {S : MS}, l ≤ 2455 → (∀ x, x < l → S.2.1 13 x = 0) → fr_readText_b24 f S (nI l) = some S1 → ∃ U V W, U.1 = S.1 ∧ (∀ a, a ≠ 13 → U.2.1 a = S.2.1 a) ∧ (∀ x, x < 2455 → U.2.1 13 x = 0) ∧ fr_nextToken U = some V ∧ fr_readFirst V = some W ∧ fr_readText_b52 16384 W = some S1 := by
  intro f
  induction f with
  | zero => intro l S hl hz hf; cases hf
  | succ f ih =>
    intro l S hl hz hf
    unfold fr_readText_b24 at hf
    by_cases c1 : (2455 : Int32) ≤ nI l
    · rw [if_pos c1] at hf
      have := (nI_leI (a := 2455) (b := l) (by omega) (by omega)).mp c1
      obtain ⟨V, f3, hf⟩ := obind_some hf
      obtain ⟨W, f6, hf⟩ := obind_some hf
      exact ⟨S, V, W, rfl, fun _ _ => rfl, fun x hx => hz x (by omega), f3, f6, hf⟩
    · rw [if_neg c1] at hf
      have c1 : l < 2455 := Nat.lt_of_not_le (fun q => c1 ((nI_leI (a := 2455) (b := l) (by omega) (by omega)).mpr q))
      obtain ⟨-, hf⟩ := oif_some hf
      obtain ⟨S10, e10, hf⟩ := elet_some hf
      rw [nI_clamp (by omega)] at e10
      obtain ⟨v11, e11, hf⟩ := elet_some hf
      have e11 : v11 = nI (l + 1) := e11.trans (nI_1 l)
      rw [e11] at hf
      obtain ⟨U, V, W, a1, a2, a3⟩ := ih (S := S10) (by omega) (fun x hx => by
        rw [e10, mf_at]
        show (if x = l then (0 : Int32) else S.2.1 13 x) = 0
        by_cases e : x = l
        · rw [if_pos e]
        · rw [if_neg e]; exact hz x (by omega)) hf
      exact ⟨U, V, W, a1.trans (by rw [e10]; rfl), fun a ha => (a2 a ha).trans (by rw [e10, mf_ne ha]), a3⟩
theorem r_zero1 : ∀ (f : Nat) {l : Nat} {S : MS}, l ≤ 131 → (∀ x, x < l → S.2.1 11 x = 0) → fr_readText_b2 f S (nI l) = some S1 → ∃ U V W, U.1 = S.1 ∧ (∀ a, a ≠ 13 → a ≠ 11 → U.2.1 a = S.2.1 a) ∧ (∀ x, x < 131 → U.2.1 11 x = 0) ∧ (∀ x, x < 2455 → U.2.1 13 x = 0) ∧ fr_nextToken U = some V ∧ fr_readFirst V = some W ∧ fr_readText_b52 16384 W = some S1 := by
  intro f
  induction f with
  | zero => intro l S hl hz hf; cases hf
  | succ f ih =>
    intro l S hl hz hf
    unfold fr_readText_b2 at hf
    by_cases c1 : (131 : Int32) ≤ nI l
    · rw [if_pos c1] at hf
      have := (nI_leI (a := 131) (b := l) (by omega) (by omega)).mp c1
      obtain ⟨U, V, W, a1, a2, a3, a4⟩ := r_zero2 16384 (l := 0) (by omega) (fun x hx => absurd hx (Nat.not_lt_zero x)) hf
      exact ⟨U, V, W, a1, fun a h1 h2 => a2 a h1, fun x hx => by rw [a2 11 (by decide)]; exact hz x (by omega), a3, a4⟩
    · rw [if_neg c1] at hf
      have c1 : l < 131 := Nat.lt_of_not_le (fun q => c1 ((nI_leI (a := 131) (b := l) (by omega) (by omega)).mpr q))
      obtain ⟨-, hf⟩ := oif_some hf
      obtain ⟨S4, e4, hf⟩ := elet_some hf
      rw [nI_clamp (by omega)] at e4
      obtain ⟨v5, e5, hf⟩ := elet_some hf
      have e5 : v5 = nI (l + 1) := e5.trans (nI_1 l)
      rw [e5] at hf
      obtain ⟨U, V, W, a1, a2, a3⟩ := ih (S := S4) (by omega) (fun x hx => by
        rw [e4, mf_at]
        show (if x = l then (0 : Int32) else S.2.1 11 x) = 0
        by_cases e : x = l
        · rw [if_pos e]
        · rw [if_neg e]; exact hz x (by omega)) hf
      exact ⟨U, V, W, a1.trans (by rw [e4]; rfl), fun a h1 h2 => (a2 a h1 h2).trans (by rw [e4, mf_ne h2]), a3⟩
set_option maxHeartbeats 400000 in
theorem l_parse (hs : s = 478 ∨ s = 656) (hR : TXR T) (hF : SRF s T) (hB : BYq b T) (hn : n ≤ 1000) (hb : S.2.1 1 = b) (h3 : S.1 3 = nI n) (h4 : S.1 4 = 0) (h5 : S.1 5 = 0) (h6 : S.1 6 = -1) (hg : g_X3_parse T 6 (nI n) s = some (k, r, T1)) (hf : fr_readText S = some S1) : TXq s T T1 S1 k := by
  unfold fr_readText at hf
  obtain ⟨U, V, W, u1, u2, uP, uD, fV, fW, hf⟩ := r_zero1 16384 (l := 0) (by omega) (fun x hx => absurd hx (Nat.not_lt_zero x)) hf
  unfold g_X3_parse at hg
  obtain ⟨-, hg⟩ := oif_some hg
  obtain ⟨n3, e3, hg⟩ := obind_some hg
  rw [hR.2.2.2.2.1] at e3
  cases e3
  obtain ⟨-, hg⟩ := oif_some hg
  obtain ⟨T5, e5, hg⟩ := obind_some hg
  obtain ⟨kp, c, tk⟩ := q_cut hR hB hn e5
  obtain ⟨-, hg⟩ := oif_some hg
  obtain ⟨T8, e8, hg⟩ := elet_some hg
  obtain ⟨-, hg⟩ := oif_some hg
  obtain ⟨T10, e10, hg⟩ := obind_some hg
  obtain ⟨-, hg⟩ := oif_some hg
  have R5 : T5.2.2.2.2 = T.2.2.2.2 := congrArg (fun x => x.2) kp.2.2.1
  have R8 : T8.2.2.2.2 = T.2.2.2.2 := by rw [e8]; exact R5
  -- clear
  unfold g_X6_clear at e10
  obtain ⟨-, e10⟩ := oif_some e10
  obtain ⟨n3, en3, e10⟩ := obind_some e10
  rw [R8, hF.2.1] at en3
  cases en3
  obtain ⟨-, e10⟩ := oif_some e10
  obtain ⟨A5, a5, e10⟩ := obind_some e10
  unfold g_X1_clear at a5
  obtain ⟨-, a5⟩ := oif_some a5
  obtain ⟨B3, b3, a5⟩ := elet_some a5
  obtain ⟨-, a5⟩ := oif_some a5
  obtain ⟨B5, b5, a5⟩ := elet_some a5
  obtain ⟨-, a5⟩ := oif_some a5
  obtain ⟨B7, b7, a5⟩ := elet_some a5
  have a5 := osome1 a5
  rw [← a5] at e10
  obtain ⟨-, e10⟩ := oif_some e10
  obtain ⟨C8, c8, e10⟩ := elet_some e10
  obtain ⟨-, e10⟩ := oif_some e10
  obtain ⟨C10, c10, e10⟩ := elet_some e10
  obtain ⟨-, e10⟩ := oif_some e10
  obtain ⟨C12, c12, e10⟩ := elet_some e10
  obtain ⟨-, e10⟩ := oif_some e10
  obtain ⟨C14, c14, e10⟩ := elet_some e10
  obtain ⟨-, e10⟩ := oif_some e10
  obtain ⟨C16, c16, e10⟩ := elet_some e10
  obtain ⟨-, e10⟩ := oif_some e10
  obtain ⟨C18, c18, e10⟩ := elet_some e10
  have e10 := osome1 e10
  rw [← e10] at hg
  have hI : ∀ m j : Nat, C18.2.2.1 m j = if m = s ∧ j = 16 then 0 else if m = s ∧ j = 14 then 0 else if m = s ∧ j = 12 then 0 else if m = s ∧ j = 11 then 0 else if m = s ∧ j = 8 then 0 else if m = s ∧ j = 5 then 0 else if m = s + 2 ∧ j = 7 then 0 else if m = s + 2 ∧ j = 4 then 0 else if m = s + 2 ∧ j = 3 then 0 else if m = 6 ∧ j = 1 then 0 else T5.2.2.1 m j := fun m j => by
    rw [c18, ui_get, c16, ui_get, c14, ui_get, c12, ui_get, c10, ui_get, c8, ui_get, b7, ui_get, b5, ui_get, b3, ui_get, e8, ui_get]
  have hlow : ∀ m j : Nat, m < 6 → C18.2.2.1 m j = T5.2.2.1 m j := fun m j hm => by
    rw [hI]
    simp (disch := omega) only [if_neg, if_pos, and_self, and_true, true_and, and_false, false_and, if_true, if_false]
  have R18 : C18.2.2.2.2 = T.2.2.2.2 := by rw [c18, c16, c14, c12, c10, c8, b7, b5, b3]; exact R8
  have S18 : C18.2.1 = T.2.1 := by rw [c18, c16, c14, c12, c10, c8, b7, b5, b3, e8]; exact kp.2.1
  have hR18 : TXR C18 := by
    unfold TXR at hR ⊢
    rw [R18, S18]
    exact hR
  obtain ⟨k1, k2, k3, k4, k5, k6⟩ := tk
  have tk18 : TKS b n C18 c := ⟨(hlow 1 5 (by decide)).trans k1, k2, k3, fun i hi => by rw [hlow 3 i (by decide), hlow 4 i (by decide), hlow 5 i (by decide)]; exact k4 i hi, k5, k6⟩
  obtain ⟨m, a8, a4, at_⟩ := r_next (b := b) (n := n) (p := 0) ((u2 1 (by decide) (by decide)).trans hb) (by rw [u1]; exact h3) (by rw [u1]; exact h4) (Nat.zero_le _) hn (by rw [u1]; exact h5) fV
  have p0 : PRq b n c 0 C18 V := by
    refine ⟨⟨hn, hR18, fun j hj => (hlow 2 j (by decide)).trans ((kp.by hB) j hj), tk18, by omega, ?_⟩, ?_, ?_, ?_, ?_, a8, a4, at_⟩
    · rw [hI]
      simp (disch := omega) only [if_neg, if_pos, and_self, and_true, true_and, and_false, false_and, if_true, if_false]
      rfl
    · rw [m.1]; exact (u2 1 (by decide) (by decide)).trans hb
    · rw [m.2 5 (by decide) (by decide) (by decide) (by decide), u1]; exact h5
    · rw [m.2 6 (by decide) (by decide) (by decide) (by decide), u1]; exact h6
    · rw [m.2 3 (by decide) (by decide) (by decide) (by decide), u1]; exact h3
  have z : ∀ x, x < 131 → V.2.1 11 x = 0 := fun x hx => by rw [m.1]; exact uP x hx
  have zD : ∀ x, x < 2455 → V.2.1 13 x = 0 := fun x hx => by rw [m.1]; exact uD x hx
  have f16 : ∀ j, j = 5 ∨ j = 8 ∨ j = 11 ∨ j = 12 ∨ j = 14 ∨ j = 16 → C18.2.2.1 s j = 0 := fun j hj => by
    rw [hI]
    rcases hj with e | e | e | e | e | e <;> subst e <;> simp (disch := omega) only [if_neg, if_pos, and_self, and_true, true_and, and_false, false_and, if_true, if_false]
  have g3 : C18.2.2.1 (s + 2) 3 = 0 := by rw [hI]; simp (disch := omega) only [if_neg, if_pos, and_self, and_true, true_and, and_false, false_and, if_true, if_false]
  have g4 : C18.2.2.1 (s + 2) 4 = 0 := by rw [hI]; simp (disch := omega) only [if_neg, if_pos, and_self, and_true, true_and, and_false, false_and, if_true, if_false]
  have g7 : C18.2.2.1 (s + 2) 7 = 0 := by rw [hI]; simp (disch := omega) only [if_neg, if_pos, and_self, and_true, true_and, and_false, false_and, if_true, if_false]
  have C0 : SCN0 s C18 (V.2.1 11) (V.2.1 13) := by
    refine ⟨⟨0, by omega, f16 5 (by omega), z 4 (by omega), fun m hm => absurd hm (Nat.not_lt_zero m), fun m _ hm => z _ (by omega)⟩, ⟨g3.trans (z 9 (by omega)).symm, g4.trans (z 10 (by omega)).symm, .inl ⟨z 8 (by omega), z 9 (by omega), z 10 (by omega)⟩⟩, ⟨0, by omega, f16 8 (by omega), z 5 (by omega), fun k hk => absurd hk (Nat.not_lt_zero k)⟩, ⟨0, by omega, f16 11 (by omega), z 71 (by omega), fun k hk => absurd hk (Nat.not_lt_zero k)⟩, (f16 12 (by omega)).trans (z 76 (by omega)).symm, ⟨0, by omega, f16 14 (by omega), z 77 (by omega), fun k hk => absurd hk (Nat.not_lt_zero k)⟩, ⟨0, by omega, g7, z 101 (by omega), fun k hk => absurd hk (Nat.not_lt_zero k)⟩, ⟨0, by omega, f16 16 (by omega), z 118 (by omega), fun k hk => absurd hk (Nat.not_lt_zero k)⟩, fun j hj => zD j (by omega)⟩
  rcases othr_k hg with ⟨r9, g9, z9⟩ | ⟨r15, T13, g9, hg⟩
  · rcases l_head p0 hs C0 g9 fW with ⟨y, -⟩ | ⟨y1, y2⟩
    · exact absurd y z9
    · exact .inr ⟨y1, by rw [st_b52 _ y2.1 hf]; exact y2⟩
  rcases l_head p0 hs C0 g9 fW with ⟨-, ⟨j, hj, p13⟩, C13, R13⟩ | ⟨y, -⟩
  rotate_left
  · exact absurd y (by decide)
  rcases k_textl hs 16384 16384 (l := 0) p13 (hF.sub (R13.trans R18)) C13 (Nat.zero_le _) hg hf with ⟨y1, y2, y3, y4⟩ | y
  · exact .inl ⟨y1, y2, y3.trans (R13.trans R18), y4⟩
  · exact .inr y
end
