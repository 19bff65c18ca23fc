/-! load: how the class begins a state -/
section
variable {T T1 : AT} {s : Nat}
def BG1 (s : Nat) (T0 T : AT) (l : Nat) : Prop := T.2.2.2.2 = T0.2.2.2.2 ∧ (T.2.2.1 242 0 = T0.2.2.1 s 5 ∧ T.2.2.1 242 1 = T0.2.2.1 s 2) ∧ (∀ m, m < l → T.2.2.1 243 m = 0 ∧ T.2.2.1 244 m = if (m : Int) < (T0.2.2.1 s 16).toInt then T0.2.2.1 (s + 14) m else 1) ∧ ∀ m k, (m < 242 ∨ 250 ≤ m) → T.2.2.1 m k = T0.2.2.1 m k
def BG2 (s : Nat) (T0 T : AT) (l : Nat) : Prop := BG1 s T0 T 12 ∧ ∀ k, k < l → T.2.2.1 245 k = (if T0.2.2.1 (s + 172 + k) 9 = 0 then 1 else 0) ∧ T.2.2.1 246 k = T0.2.2.1 (s + 172 + k) 1 ∧ T.2.2.1 247 k = T0.2.2.1 (s + 172 + k) 2 ∧ T.2.2.1 248 k = T0.2.2.1 (s + 172 + k) 3 ∧ T.2.2.1 249 k = T0.2.2.1 (s + 172 + k) 4
theorem c_bg63 {T0 : AT} (hs : s = 478 ∨ s = 656) (hF : SRF s T0) (hc : CRF T0) : ∀ (f l : Nat) {T : AT}, l ≤ 6 → BG2 s T0 T l → g_X8_begin_b63 f T 242 s (nI l) = some T1 → BG2 s T0 T1 6 := by
  obtain ⟨-, -, d5, d6, d7, d8, d9, -⟩ := sd_rf hc d242
  intro f
  induction f with
  | zero => intro l T hl hB h; cases h
  | succ f ih =>
    intro l T hl hB h
    unfold g_X8_begin_b63 at h
    by_cases c : l = 6
    · subst c
      rw [if_pos (show (6 : Int32) ≤ nI 6 from by decide)] at h
      rw [← osome1 h]
      exact hB
    · rw [if_neg (fun q => c (by have := (nI_leI (a := 6) (by decide) (by omega)).mp q; omega))] at h
      have kl : (nI l).toNatClampNeg = l := nI_clamp (by omega)
      have hR := hB.1.1
      have out := hB.1.2.2.2
      obtain ⟨-, h⟩ := oif_some h
      obtain ⟨n4, en, h⟩ := obind_some h
      rw [hR, hF.2.2.1] at en
      cases en
      obtain ⟨-, h⟩ := oif_some h
      obtain ⟨-, h⟩ := oif_some h
      obtain ⟨n7, en, h⟩ := obind_some h
      have eS : T0.2.2.2.2 (s + 10) l = some (s + 172 + l) := by unfold SRF at hF; exact hF.2.2.2.2.2.2.2.2.2.1 _ (by omega)
      rw [hR, kl, eS] at en
      cases en
      obtain ⟨-, h⟩ := oif_some h
      obtain ⟨n9, en, h⟩ := obind_some h
      rw [hR, d5] at en
      cases en
      obtain ⟨-, h⟩ := oif_some h
      obtain ⟨v11, e11, h⟩ := elet_some h
      rw [out _ _ (by omega)] at e11
      have step : ∀ {s0 : Int32}, s0 = (if v11 = 0 then 1 else 0) → g_X8_begin_b93 (g_X8_begin_b63 f) T s0 (nI l) 245 242 s (nI l) (s + 172 + l) = some T1 → BG2 s T0 T1 6 := by
        intro s0 es h
        unfold g_X8_begin_b93 at h
        obtain ⟨-, h⟩ := oif_some h
        obtain ⟨-, h⟩ := oif_some h
        obtain ⟨-, h⟩ := oif_some h
        obtain ⟨T4, e4, h⟩ := elet_some h
        rw [kl] at e4
        have R4 : T4.2.2.2.2 = T0.2.2.2.2 := by rw [e4]; exact hR
        obtain ⟨-, h⟩ := oif_some h
        obtain ⟨n6, en, h⟩ := obind_some h
        rw [R4, d6] at en
        cases en
        obtain ⟨-, h⟩ := oif_some h
        obtain ⟨v8, e8, h⟩ := elet_some h
        obtain ⟨-, h⟩ := oif_some h
        obtain ⟨-, h⟩ := oif_some h
        obtain ⟨T11, e11', h⟩ := elet_some h
        rw [kl] at e11'
        have R11 : T11.2.2.2.2 = T0.2.2.2.2 := by rw [e11']; exact R4
        obtain ⟨-, h⟩ := oif_some h
        obtain ⟨n13, en, h⟩ := obind_some h
        rw [R11, d7] at en
        cases en
        obtain ⟨-, h⟩ := oif_some h
        obtain ⟨v15, e15, h⟩ := elet_some h
        obtain ⟨-, h⟩ := oif_some h
        obtain ⟨-, h⟩ := oif_some h
        obtain ⟨T18, e18, h⟩ := elet_some h
        rw [kl] at e18
        have R18 : T18.2.2.2.2 = T0.2.2.2.2 := by rw [e18]; exact R11
        obtain ⟨-, h⟩ := oif_some h
        obtain ⟨n20, en, h⟩ := obind_some h
        rw [R18, d8] at en
        cases en
        obtain ⟨-, h⟩ := oif_some h
        obtain ⟨v22, e22, h⟩ := elet_some h
        obtain ⟨-, h⟩ := oif_some h
        obtain ⟨-, h⟩ := oif_some h
        obtain ⟨T25, e25, h⟩ := elet_some h
        rw [kl] at e25
        have R25 : T25.2.2.2.2 = T0.2.2.2.2 := by rw [e25]; exact R18
        obtain ⟨-, h⟩ := oif_some h
        obtain ⟨n27, en, h⟩ := obind_some h
        rw [R25, d9] at en
        cases en
        obtain ⟨-, h⟩ := oif_some h
        obtain ⟨v29, e29, h⟩ := elet_some h
        obtain ⟨-, h⟩ := oif_some h
        obtain ⟨-, h⟩ := oif_some h
        obtain ⟨T32, e32, h⟩ := elet_some h
        rw [kl] at e32
        obtain ⟨v33, e33, h⟩ := elet_some h
        rw [show v33 = nI (l + 1) from e33.trans (nI_p1 l)] at h
        have x8 : v8 = T0.2.2.1 (s + 172 + l) 1 := by rw [e8, e4, ui_ne (.inl (by omega)), out _ _ (by omega)]
        have x15 : v15 = T0.2.2.1 (s + 172 + l) 2 := by rw [e15, e11', ui_ne (.inl (by omega)), e4, ui_ne (.inl (by omega)), out _ _ (by omega)]
        have x22 : v22 = T0.2.2.1 (s + 172 + l) 3 := by rw [e22, e18, ui_ne (.inl (by omega)), e11', ui_ne (.inl (by omega)), e4, ui_ne (.inl (by omega)), out _ _ (by omega)]
        have x29 : v29 = T0.2.2.1 (s + 172 + l) 4 := by rw [e29, e25, ui_ne (.inl (by omega)), e18, ui_ne (.inl (by omega)), e11', ui_ne (.inl (by omega)), e4, ui_ne (.inl (by omega)), out _ _ (by omega)]
        have o32 : ∀ m k, m < 245 ∨ 250 ≤ m ∨ k ≠ l → T32.2.2.1 m k = T.2.2.1 m k := fun m k hm => by
          rw [e32, ui_ne (by omega), e25, ui_ne (by omega), e18, ui_ne (by omega), e11', ui_ne (by omega), e4, ui_ne (by omega)]
        refine ih (l + 1) (T := T32) (by omega) ⟨⟨by rw [e32]; exact R25, ⟨?_, ?_⟩, fun m hm => ?_, fun m k hm => ?_⟩, fun k hk => ?_⟩ h
        · rw [o32 _ _ (by omega)]; exact hB.1.2.1.1
        · rw [o32 _ _ (by omega)]; exact hB.1.2.1.2
        · rw [o32 _ _ (by omega), o32 _ _ (by omega)]; exact hB.1.2.2.1 m hm
        · rw [o32 _ _ (by omega)]; exact out m k hm
        · by_cases q : k = l
          · rw [q]
            refine ⟨?_, ?_, ?_, ?_, ?_⟩
            · rw [e32, ui_ne (.inl (by decide)), e25, ui_ne (.inl (by decide)), e18, ui_ne (.inl (by decide)), e11', ui_ne (.inl (by decide)), e4, ui_at, es, e11]
            · rw [e32, ui_ne (.inl (by decide)), e25, ui_ne (.inl (by decide)), e18, ui_ne (.inl (by decide)), e11', ui_at, x8]
            · rw [e32, ui_ne (.inl (by decide)), e25, ui_ne (.inl (by decide)), e18, ui_at, x15]
            · rw [e32, ui_ne (.inl (by decide)), e25, ui_at, x22]
            · rw [e32, ui_at, x29]
          · rw [o32 _ _ (by omega), o32 _ _ (by omega), o32 _ _ (by omega), o32 _ _ (by omega), o32 _ _ (by omega)]
            exact hB.2 k (by omega)
      rcases oif_or h with ⟨z, h⟩ | ⟨z, h⟩
      · exact step (by rw [if_pos z]) h
      · exact step (by rw [if_neg z]) h
theorem c_bg18 {T0 : AT} (hs : s = 478 ∨ s = 656) (hF : SRF s T0) (hc : CRF T0) : ∀ (f l : Nat) {T : AT}, l ≤ 12 → BG1 s T0 T l → g_X8_begin_b18 f T 242 s (nI l) = some T1 → BG2 s T0 T1 6 := by
  obtain ⟨d3, d4, -⟩ := sd_rf hc d242
  intro f
  induction f with
  | zero => intro l T hl hB h; cases h
  | succ f ih =>
    intro l T hl hB h
    unfold g_X8_begin_b18 at h
    by_cases c : l = 12
    · subst c
      rw [if_pos (show (12 : Int32) ≤ nI 12 from by decide)] at h
      exact c_bg63 hs hF hc 16384 0 (by decide) ⟨hB, fun k hk => absurd hk (Nat.not_lt_zero k)⟩ h
    · rw [if_neg (fun q => c (by have := (nI_leI (a := 12) (by decide) (by omega)).mp q; omega))] at h
      have kl : (nI l).toNatClampNeg = l := nI_clamp (by omega)
      have lI : (nI l).toInt = (l : Int) := nI_toInt (by omega)
      have hR := hB.1
      have out := hB.2.2.2
      obtain ⟨-, h⟩ := oif_some h
      obtain ⟨n4, en, h⟩ := obind_some h
      rw [hR, d3] at en
      cases en
      obtain ⟨-, h⟩ := oif_some h
      obtain ⟨-, h⟩ := oif_some h
      obtain ⟨T7, e7, h⟩ := elet_some h
      rw [kl] at e7
      have R7 : T7.2.2.2.2 = T0.2.2.2.2 := by rw [e7]; exact hR
      obtain ⟨-, h⟩ := oif_some h
      obtain ⟨n9, en, h⟩ := obind_some h
      rw [R7, d4] at en
      cases en
      obtain ⟨-, h⟩ := oif_some h
      obtain ⟨v11, e11, h⟩ := elet_some h
      rw [e7, ui_ne (.inl (by omega)), out _ _ (by omega)] at e11
      have step : ∀ {s0 : Int32}, s0 = (if (l : Int) < (T0.2.2.1 s 16).toInt then T0.2.2.1 (s + 14) l else 1) → g_X8_begin_b54 (g_X8_begin_b18 f) T7 s0 (nI l) 244 242 s (nI l) = some T1 → BG2 s T0 T1 6 := by
        intro s0 es h
        unfold g_X8_begin_b54 at h
        obtain ⟨-, h⟩ := oif_some h
        obtain ⟨-, h⟩ := oif_some h
        obtain ⟨T4, e4, h⟩ := elet_some h
        rw [kl] at e4
        obtain ⟨v5, e5, h⟩ := elet_some h
        rw [show v5 = nI (l + 1) from e5.trans (nI_p1 l)] at h
        have o4 : ∀ m k, m < 243 ∨ 245 ≤ m ∨ k ≠ l → T4.2.2.1 m k = T.2.2.1 m k := fun m k hm => by
          rw [e4, ui_ne (by omega), e7, ui_ne (by omega)]
        refine ih (l + 1) (T := T4) (by omega) ⟨by rw [e4]; exact R7, ⟨?_, ?_⟩, fun m hm => ?_, fun m k hm => ?_⟩ h
        · rw [o4 _ _ (by omega)]; exact hB.2.1.1
        · rw [o4 _ _ (by omega)]; exact hB.2.1.2
        · by_cases q : m = l
          · rw [q]
            refine ⟨?_, ?_⟩
            · rw [e4, ui_ne (.inl (by decide)), e7, ui_at]
            · rw [e4, ui_at]; exact es
          · rw [o4 _ _ (by omega), o4 _ _ (by omega)]; exact hB.2.2.1 m (by omega)
        · rw [o4 _ _ (by omega)]; exact out m k hm
      rcases oif_or h with ⟨z, h⟩ | ⟨z, h⟩
      · have z := i_le z
        rw [e11] at z
        exact step (by rw [if_neg (by omega)]) h
      · have z := i_nle z
        rw [e11] at z
        obtain ⟨-, h⟩ := oif_some h
        obtain ⟨n14, en, h⟩ := obind_some h
        have e15 : T0.2.2.2.2 s 15 = some (s + 14) := by unfold SRF at hF; exact hF.2.2.2.2.2.2.1
        rw [R7, e15] at en
        cases en
        obtain ⟨-, h⟩ := oif_some h
        obtain ⟨-, h⟩ := oif_some h
        obtain ⟨v17, e17, h⟩ := elet_some h
        rw [kl, e7, ui_ne (.inl (by omega)), out _ _ (by omega)] at e17
        exact step (by rw [if_pos (by omega), e17]) h
theorem c_begin (hs : s = 478 ∨ s = 656) (hF : SRF s T) (hc : CRF T) (h : g_X8_begin T 242 s = some T1) : BG2 s T T1 6 := by
  unfold g_X8_begin at h
  obtain ⟨-, h⟩ := oif_some h
  obtain ⟨v3, e3, h⟩ := elet_some h
  obtain ⟨-, h⟩ := oif_some h
  obtain ⟨T5, e5, h⟩ := elet_some h
  obtain ⟨-, h⟩ := oif_some h
  obtain ⟨v7, e7, h⟩ := elet_some h
  obtain ⟨-, h⟩ := oif_some h
  obtain ⟨T9, e9, h⟩ := elet_some h
  rw [e5, ui_ne (.inl (by omega))] at e7
  refine c_bg18 hs hF hc 16384 0 (by decide) ⟨by rw [e9, e5]; rfl, ⟨?_, ?_⟩, fun m hm => absurd hm (Nat.not_lt_zero m), fun m k hm => ?_⟩ h
  · rw [e9, ui_ne (.inr (by decide)), e5, ui_at, e3]
  · rw [e9, ui_at, e7]
  · rw [e9, ui_ne (.inl (by omega)), e5, ui_ne (.inl (by omega))]
end
