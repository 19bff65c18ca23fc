/-! numbers of more parts, those from the third on 0: cleared, settled -/
section
variable {T T1 T0 : AT} {o x y u : Nat}
def UZ (T : AT) (o x y u : Nat) : Prop := T.2.2.2.2 o 1 = some (o + 1) ∧ T.2.2.2.2 (o + 1) 0 = some x ∧ T.2.2.2.2 (o + 1) 1 = some y ∧ T.2.2.1 o 2 = nI u ∧ 2 ≤ u ∧ u ≤ 40
theorem UZ.lq (h : UZ T o x y u) (k : LQ T T1) : UZ T1 o x y u := by
  unfold UZ
  rw [k.2.2.1, k.2.2.2]
  exact h
def ZH (T : AT) (o u i : Nat) : Prop := ∀ p w, 2 ≤ p → p < u → T.2.2.2.2 (o + 1) p = some w → T.2.2.2.1 w i = 0
/-- only numbers i of o's rows may have changed -/
def LR (T T1 : AT) (o i : Nat) : Prop := ∀ m j, ((∀ p, T.2.2.2.2 (o + 1) p ≠ some m) ∨ j ≠ i) → T1.2.2.2.1 m j = T.2.2.2.1 m j
theorem c_clearU {i : Int32} (hz : UZ T0 o x y u) (hg : g_X10_clear T0 o i = some T1) : LQ T0 T1 ∧ (∀ p w, p < u → T0.2.2.2.2 (o + 1) p = some w → T1.2.2.2.1 w i.toNatClampNeg = 0) ∧ LR T0 T1 o i.toNatClampNeg := by
  obtain ⟨h1, -, -, hu, u2, u40⟩ := hz
  have lp : ∀ (n j : Nat) {T : AT}, j ≤ u → LQ T0 T → (∀ p w, p < j → T0.2.2.2.2 (o + 1) p = some w → T.2.2.2.1 w i.toNatClampNeg = 0) → LR T0 T o i.toNatClampNeg → g_X10_clear_b2 n T o i (nI j) = some T1 → LQ T0 T1 ∧ (∀ p w, p < u → T0.2.2.2.2 (o + 1) p = some w → T1.2.2.2.1 w i.toNatClampNeg = 0) ∧ LR T0 T1 o i.toNatClampNeg := by
    intro n
    induction n with
    | zero => intro j T hj hq hz hl h; cases h
    | succ n ih =>
      intro j T hj hq hz hl h
      have kj : (nI j).toNatClampNeg = j := nI_clamp (by omega)
      unfold g_X10_clear_b2 at h
      obtain ⟨-, h⟩ := oif_some h
      obtain ⟨v3, d3, h⟩ := elet_some h
      rw [hq.2.2.1, hu] at d3
      rcases oif_or h with ⟨q, h⟩ | ⟨q, h⟩
      · rw [d3] at q
        have q2 := (nI_leI (a := u) (by omega) (by omega)).mp q
        rw [← osome1 h]
        exact ⟨hq, fun p w hp => hz p w (by omega), hl⟩
      · rw [d3] at q
        have q2 : ¬ u ≤ j := fun z => q ((nI_leI (a := u) (by omega) (by omega)).mpr z)
        obtain ⟨-, h⟩ := oif_some h
        obtain ⟨n6, en, h⟩ := obind_some h
        rw [hq.2.2.2, h1] at en
        cases en
        obtain ⟨-, h⟩ := oif_some h
        obtain ⟨-, h⟩ := oif_some h
        obtain ⟨n9, en, h⟩ := obind_some h
        rw [kj, hq.2.2.2] at en
        obtain ⟨-, h⟩ := oif_some h
        obtain ⟨-, h⟩ := oif_some h
        obtain ⟨T12, e12, h⟩ := elet_some h
        have l12 : LQ T T12 := by rw [e12]; exact lq_uJ
        obtain ⟨v13, d13, h⟩ := elet_some h
        rw [show v13 = nI (j + 1) from d13.trans (nI_p1 j)] at h
        have at12 : ∀ m k, T12.2.2.2.1 m k = if m = n9 ∧ k = i.toNatClampNeg then 0 else T.2.2.2.1 m k := fun m k => by rw [e12, uj_get]
        refine ih (j + 1) (by omega) (hq.tr l12) (fun p w hp hw => ?_) (fun m k hmk => ?_) h
        · rw [at12]
          by_cases e : w = n9
          · rw [if_pos ⟨e, rfl⟩]
          · rw [if_neg (fun c => e c.1)]
            by_cases e2 : p = j
            · rw [e2, en] at hw
              exact absurd (Option.some.inj hw).symm e
            · exact hz p w (by omega) hw
        · rw [at12, if_neg (fun c => by
            rcases hmk with q | q
            · rw [c.1] at q; exact q j en
            · exact q c.2)]
          exact hl m k hmk
  unfold g_X10_clear at hg
  exact lp 16384 0 (Nat.zero_le _) LQ.rf (fun p w hp => absurd hp (Nat.not_lt_zero p)) (fun _ _ _ => rfl) hg
/-- carrying where nothing is to be carried -/
theorem c_stU {i : Int32} (hz : UZ T0 o x y u) (hd : ∀ p w, 1 ≤ p → p < u → T0.2.2.2.2 (o + 1) p = some w → 0 ≤ (T0.2.2.2.1 w i.toNatClampNeg).toInt ∧ (T0.2.2.2.1 w i.toNatClampNeg).toInt < 268435456) : ∀ (n j : Nat) {T : AT}, 1 ≤ j → j < u → LQ T0 T → (∀ m k, T.2.2.2.1 m k = T0.2.2.2.1 m k) → g_X10_settle_b2 n T o i (nI j) = some T1 → LQ T0 T1 ∧ ∀ m k, T1.2.2.2.1 m k = T0.2.2.2.1 m k := by
  obtain ⟨h1, -, -, hu, u2, u40⟩ := hz
  have uI' : (nI u).toInt = (u : Int) := nI_toInt (by omega)
  have z1 : (1 : Int32).toInt = 1 := by decide
  intro n
  induction n with
  | zero => intro j T h0 hj hq hl h; cases h
  | succ n ih =>
    intro j T h0 hj hq hl h
    have kj : (nI j).toNatClampNeg = j := nI_clamp (by omega)
    unfold g_X10_settle_b2 at h
    obtain ⟨v2, d2, h⟩ := elet_some h
    have e2 : v2 = nI (j + 1) := d2.trans (nI_p1 j)
    obtain ⟨-, h⟩ := oif_some h
    obtain ⟨v4, d4, h⟩ := elet_some h
    rw [hq.2.2.1, hu] at d4
    rcases oif_or h with ⟨q, h⟩ | ⟨q, h⟩
    · obtain ⟨-, h⟩ := oif_some h
      obtain ⟨v7, d7, h⟩ := elet_some h
      obtain ⟨v8, d8, h⟩ := elet_some h
      rw [hq.2.2.1, hu] at d7
      have v7I : v7.toInt = (u : Int) := by rw [d7]; exact uI'
      have q8 := i_sub d8 (by omega) (by omega)
      have w8 : (nI (u - 1)).toInt = ((u - 1 : Nat) : Int) := nI_toInt (by omega)
      have e8 : v8 = nI (u - 1) := Int32.toInt_inj.mp (by rw [q8, w8]; omega)
      rw [e8, show (16384 : Nat) = 16383 + 1 from rfl] at h
      unfold g_X10_settle_b64 g_X10_settle_b99 at h
      obtain ⟨w2, f2, h⟩ := elet_some h
      rcases oif_or h with ⟨-, h⟩ | ⟨-, h⟩
      · rw [← osome1 h]
        exact ⟨hq, hl⟩
      · obtain ⟨-, h⟩ := oif_some h
        obtain ⟨n5, en, h⟩ := obind_some h
        rw [hq.2.2.2, h1] at en
        cases en
        obtain ⟨-, h⟩ := oif_some h
        obtain ⟨-, h⟩ := oif_some h
        obtain ⟨n8, en, h⟩ := obind_some h
        rw [nI_clamp (by omega), hq.2.2.2] at en
        obtain ⟨-, h⟩ := oif_some h
        obtain ⟨-, h⟩ := oif_some h
        obtain ⟨v11, d11, h⟩ := elet_some h
        rw [hl] at d11
        have dg := hd (u - 1) n8 (by omega) (by omega) en
        obtain ⟨r12, g12, h⟩ := obind_some h
        rw [d11] at g12
        rw [if_pos (l_beyond ⟨by omega, dg.2⟩ g12)] at h
        rw [← osome1 h]
        exact ⟨hq, hl⟩
    · have ju : j + 1 < u := by
        have c := i_nle q
        have w2 : (nI (j + 1)).toInt = ((j + 1 : Nat) : Int) := nI_toInt (by omega)
        rw [d4, e2] at c
        omega
      obtain ⟨-, h⟩ := oif_some h
      obtain ⟨n10, en, h⟩ := obind_some h
      rw [hq.2.2.2, h1] at en
      cases en
      obtain ⟨-, h⟩ := oif_some h
      obtain ⟨-, h⟩ := oif_some h
      obtain ⟨n13, ew, h⟩ := obind_some h
      rw [kj, hq.2.2.2] at ew
      obtain ⟨-, h⟩ := oif_some h
      obtain ⟨-, h⟩ := oif_some h
      obtain ⟨v16, d16, h⟩ := elet_some h
      rw [hl] at d16
      obtain ⟨-, h⟩ := oif_some h
      obtain ⟨n18, en, h⟩ := obind_some h
      rw [hq.2.2.2, h1] at en
      cases en
      obtain ⟨-, h⟩ := oif_some h
      obtain ⟨-, h⟩ := oif_some h
      obtain ⟨n21, en, h⟩ := obind_some h
      rw [kj, hq.2.2.2, ew] at en
      cases en
      have dg := hd j n13 h0 hj ew
      rw [← d16] at dg
      obtain ⟨v22, d22, h⟩ := elet_some h
      have q22 := l_and d22 dg.1
      have e22 : v22 = v16 := Int64.toInt_inj.mp (by omega)
      obtain ⟨-, h⟩ := oif_some h
      obtain ⟨-, h⟩ := oif_some h
      obtain ⟨T25, e25, h⟩ := elet_some h
      have l25 : LQ T T25 := by rw [e25]; exact lq_uJ
      have a25 : ∀ m k, T25.2.2.2.1 m k = T0.2.2.2.1 m k := fun m k => by
        rw [e25, uj_get]
        by_cases c : m = n13 ∧ k = i.toNatClampNeg
        · rw [if_pos c, e22, d16, c.1, c.2]
        · rw [if_neg c, hl]
      obtain ⟨-, h⟩ := oif_some h
      obtain ⟨n27, en, h⟩ := obind_some h
      rw [l25.2.2.2, hq.2.2.2, h1] at en
      cases en
      obtain ⟨v28, d28, h⟩ := elet_some h
      obtain ⟨-, h⟩ := oif_some h
      obtain ⟨-, h⟩ := oif_some h
      obtain ⟨n31, ew2, h⟩ := obind_some h
      obtain ⟨-, h⟩ := oif_some h
      obtain ⟨-, h⟩ := oif_some h
      obtain ⟨v34, d34, h⟩ := elet_some h
      rw [a25] at d34
      obtain ⟨v35, d35, h⟩ := elet_some h
      have q35 := l_shr d35
      have e35 : v35 = 0 := Int64.toInt_inj.mp (by
        have z0 : (0 : Int64).toInt = 0 := by decide
        omega)
      obtain ⟨v36, d36, h⟩ := elet_some h
      have e36 : v36 = v34 := by rw [d36, e35, Int64.add_zero]
      obtain ⟨-, h⟩ := oif_some h
      obtain ⟨-, h⟩ := oif_some h
      obtain ⟨T39, e39, h⟩ := elet_some h
      have l39 : LQ T25 T39 := by rw [e39]; exact lq_uJ
      have a39 : ∀ m k, T39.2.2.2.1 m k = T0.2.2.2.1 m k := fun m k => by
        rw [e39, uj_get]
        by_cases c : m = n31 ∧ k = i.toNatClampNeg
        · rw [if_pos c, e36, d34, c.1, c.2]
        · rw [if_neg c, a25]
      obtain ⟨v40, d40, h⟩ := elet_some h
      rw [show v40 = nI (j + 1) from d40.trans (nI_p1 j)] at h
      exact ih (j + 1) (by omega) ju ((hq.tr l25).tr l39) a39 h
end
