/-! all that is heard, as numbers of plan and state: the class -/
section
variable {T T1 T0 : AT} {S : MS} {P A : Nat → Int32} {s d : Nat} {c4 n2 c5 c71 c77 : Nat}
theorem heard_dec : (List.range 12).all (fun i => Nat.beq (aR0 (9 + i)) 46) = true := by decide +kernel
theorem heard_ro {i : Nat} (hi : i < 12) : aR0 (9 + i) = 46 := Nat.eq_of_beq_eq_true (a_fin (p := fun i => Nat.beq (aR0 (9 + i)) 46) heard_dec hi)
theorem c_fill {n : Nat} (hn : 9 ≤ n ∧ n < 21) (hL : (T0.2.1 n).2 = 200) (h : g_J7_fill_53178 T0 n 0 = some T1) : HQ T0 T1 ∧ (∀ m k, m ≠ n → T1.2.2.1 m k = T0.2.2.1 m k) ∧ ∀ k, k < 200 → T1.2.2.1 n k = 0 := by
  unfold g_J7_fill_53178 at h
  obtain ⟨-, h⟩ := oif_some h
  obtain ⟨v3, d3, h⟩ := elet_some h
  rw [hL] at d3
  have lp : ∀ (f j : Nat) {T : AT}, j ≤ 200 → HQ T0 T → (∀ m k, m ≠ n → T.2.2.1 m k = T0.2.2.1 m k) → (∀ k, k < j → T.2.2.1 n k = 0) → g_J7_fill_53178_b5 f T n 0 (nI j) v3 = some T1 → HQ T0 T1 ∧ (∀ m k, m ≠ n → T1.2.2.1 m k = T0.2.2.1 m k) ∧ ∀ k, k < 200 → T1.2.2.1 n k = 0 := by
    intro f
    induction f with
    | zero => intro j T hj hq hm hz h; cases h
    | succ f ih =>
      intro j T hj hq hm hz h
      have kj : (nI j).toNatClampNeg = j := nI_clamp (by omega)
      unfold g_J7_fill_53178_b5 at h
      rcases oif_or h with ⟨q, h⟩ | ⟨q, h⟩
      · rw [d3] at q
        have q2 := (nI_leI (a := 200) (by omega) (by omega)).mp q
        rw [← osome1 h]
        exact ⟨hq, hm, fun k hk => hz k (by omega)⟩
      · rw [d3] at q
        have q2 : ¬ 200 ≤ j := fun z => q ((nI_leI (a := 200) (by omega) (by omega)).mpr z)
        obtain ⟨-, h⟩ := oif_some h
        obtain ⟨-, h⟩ := oif_some h
        obtain ⟨T5, e5, h⟩ := elet_some h
        obtain ⟨v6, d6, h⟩ := elet_some h
        rw [show v6 = nI (j + 1) from d6.trans (nI_p1 j)] at h
        rw [kj] at e5
        refine ih (j + 1) (by omega) (hq.tr (by rw [e5]; exact hq_uI hn)) (fun m k hne => ?_) (fun k hk => ?_) h
        · rw [e5, ui_ne (.inl hne)]; exact hm m k hne
        · rw [e5, ui_get]
          by_cases e : k = j
          · rw [if_pos ⟨rfl, e⟩]
          · rw [if_neg (fun w => e w.2)]; exact hz k (by omega)
  exact lp 16384 0 (Nat.zero_le _) HQ.rf (fun _ _ _ => rfl) (fun k hk => absurd hk (Nat.not_lt_zero k)) h
theorem c_silence (hc : CRF T0) (hL : ∀ i, i < 12 → (T0.2.1 (9 + i)).2 = 200) (h : g_X5_silence T0 7 = some T1) : HQ T0 T1 ∧ ∀ m k, m < 12 → k < 200 → T1.2.2.1 (9 + m) k = 0 := by
  have lp : ∀ (n i : Nat) {T : AT}, i ≤ 12 → HQ T0 T → (∀ m k, m < i → k < 200 → T.2.2.1 (9 + m) k = 0) → g_X5_silence_b2 n T 7 (nI i) = some T1 → HQ T0 T1 ∧ ∀ m k, m < 12 → k < 200 → T1.2.2.1 (9 + m) k = 0 := by
    intro n
    induction n with
    | zero => intro i T hi hq hz h; cases h
    | succ n ih =>
      intro i T hi hq hz h
      have ki : (nI i).toNatClampNeg = i := nI_clamp (by omega)
      have hcT := crf_eq hc hq.2.1
      unfold g_X5_silence_b2 at h
      rcases oif_or h with ⟨q, h⟩ | ⟨q, h⟩
      · have q2 := (nI_leI (a := 12) (by omega) (by omega)).mp q
        rw [← osome1 h]
        exact ⟨hq, fun m k a b => hz m k (by omega) b⟩
      · have q2 : ¬ 12 ≤ i := fun z => q ((nI_leI (a := 12) (by omega) (by omega)).mpr z)
        obtain ⟨-, h⟩ := oif_some h
        obtain ⟨n4, en, h⟩ := obind_some h
        rw [(rc_rf hcT).1] at en
        cases en
        obtain ⟨-, h⟩ := oif_some h
        obtain ⟨-, h⟩ := oif_some h
        obtain ⟨n7, en, h⟩ := obind_some h
        rw [ki, (rc_rf hcT).2.2 i (by omega)] at en
        cases en
        obtain ⟨T8, g8, h⟩ := obind_some h
        obtain ⟨a1, a2, a3⟩ := c_fill (by omega) (by rw [hq.1]; exact hL i (by omega)) g8
        obtain ⟨v10, d10, h⟩ := elet_some h
        rw [show v10 = nI (i + 1) from d10.trans (nI_p1 i)] at h
        refine ih (i + 1) (by omega) (hq.tr a1) (fun m k hm hk => ?_) h
        by_cases e : m = i
        · rw [e]; exact a3 k hk
        · rw [a2 _ _ (by omega)]; exact hz m k (by omega) hk
  unfold g_X5_silence at h
  exact lp 16384 0 (Nat.zero_le _) HQ.rf (fun m k hm => absurd hm (Nat.not_lt_zero m)) h
/-- on, places and velocities of the class's state d, and their ranges -/
def STs (T : AT) (d : Nat) (A : Nat → Int32) (c5 : Nat) : Prop := ∀ k, k < c5 → (T.2.2.1 (d + 3) k = A (25 + k) ∧ T.2.2.1 (d + 4) k = A (31 + k) ∧ T.2.2.1 (d + 5) k = A (37 + k) ∧ T.2.2.1 (d + 6) k = A (43 + k) ∧ T.2.2.1 (d + 7) k = A (49 + k)) ∧ (-2000 ≤ (A (31 + k)).toInt ∧ (A (31 + k)).toInt ≤ 2000) ∧ (-2000 ≤ (A (37 + k)).toInt ∧ (A (37 + k)).toInt ≤ 2000) ∧ (-999 ≤ (A (43 + k)).toInt ∧ (A (43 + k)).toInt ≤ 999) ∧ (-999 ≤ (A (49 + k)).toInt ∧ (A (49 + k)).toInt ≤ 999)
theorem hq_sts (h : HQ T T1) (hd : 242 ≤ d) (hS : STs T d A c5) : STs T1 d A c5 := by
  intro k hk
  rw [h.2.2 _ k (by omega), h.2.2 _ k (by omega), h.2.2 _ k (by omega), h.2.2 _ k (by omega), h.2.2 _ k (by omega)]
  exact hS k hk
theorem c_moved {a v t r : Int32} (h : g_X11_moved a v t = some r) : r = a + v * t / 100 := by
  unfold g_X11_moved at h
  obtain ⟨v2, d2, h⟩ := elet_some h
  obtain ⟨v3, d3, h⟩ := elet_some h
  obtain ⟨v4, d4, h⟩ := elet_some h
  rw [← osome1 h, d4, d3, d2]
theorem moved_rg {a v t : Int32} (ha : -2000 ≤ a.toInt ∧ a.toInt ≤ 2000) (hv : -999 ≤ v.toInt ∧ v.toInt ≤ 999) (ht : 0 ≤ t.toInt ∧ t.toInt ≤ 199) : -4000 ≤ (a + v * t / 100).toInt ∧ (a + v * t / 100).toInt ≤ 4000 := by
  have z : (100 : Int32).toInt = 100 := by decide
  have q1 := i_muls (v := v * t) (b := 999) (d := 199) rfl hv.1 hv.2 (by omega) (by omega) (by decide)
  have q2 := i_divk (v := v * t / 100) rfl z (by decide)
  have q3 := i_add (v := a + v * t / 100) rfl (by omega) (by omega)
  omega
/-- the sums that are heard before source k -/
def HSq (T : AT) (P A : Nat → Int32) (c4 n2 k : Nat) : Prop := ∀ m u, m < c4 → u < n2 → T.2.2.1 (9 + m) u = smS P A (-1) 0 m (nI u) k
theorem wn_pp {pp t : Int32} {k : Nat} : wnS P (-1) pp k t = wnS P (-1) 0 k t := by
  unfold wnS
  rw [if_pos rfl, if_pos rfl]
theorem snd_of {k : Nat} {pp : Int32} (hs : s = 478 ∨ s = 656) (hP : PL P) (hE : SCE s T P) (hk : (k : Int) < (P 5).toInt) : SND T P (-1) pp (s + 172 + k) k := by
  have p5 := pl_5 hP
  obtain ⟨gH, gM, gG, ⟨c, b1, b2, b3, b4⟩, -⟩ := hE
  have kc : k < c := by
    rw [b3, nI_toInt (by omega)] at hk
    omega
  obtain ⟨v0, v5, v6, v7, v8⟩ := b4 k kc
  have hper := hP.2.2.2.2.2.2.2.2.2.2.2.2.2.2.2.2.2 (59 + k) (by omega) (by omega)
  have hamp := hP.2.2.2.2.2.2.2.1 (53 + k) (by omega) (by omega)
  refine ⟨?_, ?_, fun u hu => ?_⟩
  · rw [v6]
    intro w
    rw [w] at hper
    exact absurd hper (by decide)
  · rw [v5]; exact hamp
  · unfold wvT wnS wvS
    rw [if_pos rfl, v0, v5, v6, v7, v8]
theorem c_rec6 (hs : s = 478 ∨ s = 656) (hd : d ∈ sds) (hP : PL P) (hI : IC P S) (hC : PCs P c4 n2 c5 c71 c77) (hc : CRF T0) (hE : SCE s T0 P) (hA : STs T0 d A c5) : ∀ (n k : Nat) {T : AT}, k ≤ c5 → HQ T0 T → HSq T P A c4 n2 k → g_X5_record_b6 n T 7 s d (nI k) = some T1 → ∃ T2, HQ T0 T2 ∧ HSq T2 P A c4 n2 c5 ∧ g_X5_finish T2 7 s d = some T1 := by
  obtain ⟨e4, l4, e2, l2, e5, l5, e71, l71, -⟩ := hC
  have p4 := pl_4 hP
  have p5 := pl_5 hP
  have sd := sd_in hd
  have i2 : (nI n2).toInt = (n2 : Int) := nI_toInt (by omega)
  have i5 : (P 5).toInt = (c5 : Int) := by rw [e5]; exact nI_toInt (by omega)
  intro n
  induction n with
  | zero => intro k T hk hq hh h; cases h
  | succ n ih =>
    intro k T hk hq hh h
    have kk : (nI k).toNatClampNeg = k := nI_clamp (by omega)
    have hcT := crf_eq hc hq.2.1
    have hET := hq_sce hq hs hE
    have hF := hcT.srf hs
    obtain ⟨r3, r4, r5, r6, r7, r8, r9, r10, r11⟩ := sd_rf hcT hd
    have b92 : ∀ {T : AT}, k < c5 → HQ T0 T → HSq T P A c4 n2 (k + 1) → g_X5_record_b92 (g_X5_record_b6 n) T 7 s d (nI k) = some T1 → ∃ T2, HQ T0 T2 ∧ HSq T2 P A c4 n2 c5 ∧ g_X5_finish T2 7 s d = some T1 := by
      intro T hk hq hh h
      unfold g_X5_record_b92 at h
      obtain ⟨v2, d2, h⟩ := elet_some h
      rw [show v2 = nI (k + 1) from d2.trans (nI_p1 k)] at h
      exact ih (k + 1) (by omega) hq hh h
    have b34 : k < c5 → ¬ A (25 + k) = 0 → ∀ (f t : Nat) {T : AT}, t ≤ n2 → HQ T0 T → (∀ m u, m < c4 → u < n2 → T.2.2.1 (9 + m) u = if u < t then smS P A (-1) 0 m (nI u) (k + 1) else smS P A (-1) 0 m (nI u) k) → g_X5_record_b34 (g_X5_record_b6 n) f T 7 s d (nI k) (s + 172 + k) (nI t) = some T1 → ∃ T2, HQ T0 T2 ∧ HSq T2 P A c4 n2 c5 ∧ g_X5_finish T2 7 s d = some T1 := by
      intro hk on f
      induction f with
      | zero => intro t T ht hq hh h; cases h
      | succ f ih2 =>
        intro t T ht hq hh h
        have tI : (nI t).toInt = (t : Int) := nI_toInt (by omega)
        have kt : (nI t).toNatClampNeg = t := nI_clamp (by omega)
        have hcT := crf_eq hc hq.2.1
        have hET := hq_sce hq hs hE
        have hAT := hq_sts hq (by omega) hA
        obtain ⟨r3, r4, r5, r6, r7, r8, r9, r10, r11⟩ := sd_rf hcT hd
        unfold g_X5_record_b34 at h
        obtain ⟨-, h⟩ := oif_some h
        obtain ⟨v3, d3, h⟩ := elet_some h
        rw [hET.1.2.2.1, e2] at d3
        rcases oif_or h with ⟨q, h⟩ | ⟨q, h⟩
        · rw [d3] at q
          have q2 := (nI_leI (a := n2) (by omega) (by omega)).mp q
          exact b92 hk hq (fun m u hm hu => by rw [hh m u hm hu, if_pos (by omega)]) h
        · rw [d3] at q
          have q2 : ¬ n2 ≤ t := fun z => q ((nI_leI (a := n2) (by omega) (by omega)).mpr z)
          obtain ⟨⟨a3, a4, a5, a6, a7⟩, g4, g5, g6, g7⟩ := hAT k hk
          obtain ⟨-, h⟩ := oif_some h
          obtain ⟨n6, en, h⟩ := obind_some h
          rw [r6] at en
          cases en
          obtain ⟨-, h⟩ := oif_some h
          obtain ⟨-, h⟩ := oif_some h
          obtain ⟨v9, d9, h⟩ := elet_some h
          rw [kk, a4] at d9
          obtain ⟨-, h⟩ := oif_some h
          obtain ⟨n11, en, h⟩ := obind_some h
          rw [r8] at en
          cases en
          obtain ⟨-, h⟩ := oif_some h
          obtain ⟨-, h⟩ := oif_some h
          obtain ⟨v14, d14, h⟩ := elet_some h
          rw [kk, a6] at d14
          obtain ⟨x15, g15, h⟩ := obind_some h
          have e15 := c_moved g15
          obtain ⟨-, h⟩ := oif_some h
          obtain ⟨n18, en, h⟩ := obind_some h
          rw [r7] at en
          cases en
          obtain ⟨-, h⟩ := oif_some h
          obtain ⟨-, h⟩ := oif_some h
          obtain ⟨v21, d21, h⟩ := elet_some h
          rw [kk, a5] at d21
          obtain ⟨-, h⟩ := oif_some h
          obtain ⟨n23, en, h⟩ := obind_some h
          rw [r9] at en
          cases en
          obtain ⟨-, h⟩ := oif_some h
          obtain ⟨-, h⟩ := oif_some h
          obtain ⟨v26, d26, h⟩ := elet_some h
          rw [kk, a7] at d26
          obtain ⟨x27, g27, h⟩ := obind_some h
          have e27 := c_moved g27
          obtain ⟨-, h⟩ := oif_some h
          obtain ⟨T30, g30, h⟩ := obind_some h
          obtain ⟨v32, d32, h⟩ := elet_some h
          rw [show v32 = nI (t + 1) from d32.trans (nI_p1 t)] at h
          rw [d9, d14] at e15
          rw [d21, d26] at e27
          have m15 := moved_rg g4 g6 (t := nI t) ⟨by omega, by omega⟩
          have m27 := moved_rg g5 g7 (t := nI t) ⟨by omega, by omega⟩
          rw [← e15] at m15
          rw [← e27] at m27
          obtain ⟨hq30, hv⟩ := c_hear (pp := 0) hs (by omega) hP hI e4 l4 e71 l71 m15 m27 ⟨by omega, by omega⟩ hcT hET (snd_of hs hP hET (by omega)) g30
          refine ih2 (t + 1) (by omega) (hq.tr hq30) (fun m u hm hu => ?_) h
          rw [hv m (by omega), kt, hh m u hm hu]
          by_cases e : u = t
          · rw [if_pos (by omega), if_neg (by omega), if_pos (by omega), e]
            show _ = smS P A (-1) 0 m (nI t) k + _
            rw [if_neg on, e15, e27]
            rfl
          · rw [if_neg (by omega)]
            by_cases e2 : u < t
            · rw [if_pos e2, if_pos (by omega)]
            · rw [if_neg e2, if_neg (by omega)]
    unfold g_X5_record_b6 at h
    obtain ⟨-, h⟩ := oif_some h
    obtain ⟨v3, d3, h⟩ := elet_some h
    obtain ⟨gH, gM, gG, ⟨c, b1, b2, b3, b4⟩, -⟩ := id hET
    rw [b2, ← b3, e5] at d3
    rcases oif_or h with ⟨q, h⟩ | ⟨q, h⟩
    · rw [d3] at q
      have q2 := (nI_leI (a := c5) (by omega) (by omega)).mp q
      obtain ⟨-, h⟩ := oif_some h
      obtain ⟨T6, g6, h⟩ := obind_some h
      unfold g_X5_record_b104 at h
      rw [osome1 h] at g6
      have e : c5 = k := by omega
      exact ⟨T, hq, by rw [e]; exact hh, g6⟩
    · rw [d3] at q
      have q2 : ¬ c5 ≤ k := fun z => q ((nI_leI (a := c5) (by omega) (by omega)).mpr z)
      have hAT := hq_sts hq (by omega) hA
      obtain ⟨⟨a3, -⟩, -⟩ := hAT k (by omega)
      obtain ⟨-, h⟩ := oif_some h
      obtain ⟨n9, en, h⟩ := obind_some h
      rw [r5] at en
      cases en
      obtain ⟨-, h⟩ := oif_some h
      obtain ⟨-, h⟩ := oif_some h
      obtain ⟨v12, d12, h⟩ := elet_some h
      rw [kk, a3] at d12
      rcases oif_or h with ⟨z, h⟩ | ⟨z, h⟩
      · refine b92 (by omega) hq (fun m u hm hu => ?_) h
        rw [hh m u hm hu]
        show _ = smS P A (-1) 0 m (nI u) k + _
        rw [if_pos (d12.symm.trans z), Int32.add_zero]
      · obtain ⟨-, h⟩ := oif_some h
        obtain ⟨n15, en, h⟩ := obind_some h
        rw [hF.2.2.1] at en
        cases en
        obtain ⟨-, h⟩ := oif_some h
        obtain ⟨-, h⟩ := oif_some h
        obtain ⟨n18, en, h⟩ := obind_some h
        rw [kk, hF.2.2.2.2.2.2.2.2.2.1 k (by omega)] at en
        cases en
        exact b34 (by omega) (fun w => z (d12.trans w)) 16384 0 (Nat.zero_le _) hq (fun m u hm hu => by rw [hh m u hm hu, if_neg (by omega)]) h
/-- all that is heard before gain, clock and filter -/
theorem c_record (hs : s = 478 ∨ s = 656) (hd : d ∈ sds) (hP : PL P) (hI : IC P S) (hC : PCs P c4 n2 c5 c71 c77) (hc : CRF T) (hL : ∀ i, i < 12 → (T.2.1 (9 + i)).2 = 200) (hE : SCE s T P) (hA : STs T d A c5) (h : g_X5_record T 7 s d = some T1) : ∃ T2, HQ T T2 ∧ HSq T2 P A c4 n2 c5 ∧ g_X5_finish T2 7 s d = some T1 := by
  unfold g_X5_record at h
  obtain ⟨-, h⟩ := oif_some h
  obtain ⟨T3, g3, h⟩ := obind_some h
  obtain ⟨hq, hz⟩ := c_silence hc hL g3
  have l4 := hC.2.1
  have l2 := hC.2.2.2.1
  exact c_rec6 hs hd hP hI hC hc hE hA 16384 0 (Nat.zero_le _) hq (fun m u hm hu => hz m u (by omega) (by omega)) h
end
