/-! what is heard, as a number of the plan alone: the reference -/
section
variable {S S1 : MS} {P A : Nat → Int32} {r : Int32}
def rmS (a b : Int32) : Int32 := a - a / b * b
def rtS (x : Int32) : Int32 := (fr_root x).getD 0
def dlS (P : Nat → Int32) (m : Nat) (x y : Int32) : Int32 := rtS ((x - P (11 + m)) * (x - P (11 + m)) + (y - P (23 + m)) * (y - P (23 + m)) + P 0 * P 0) / P 1 - P 0 / P 1
def wvF (sh am pe ph fr t : Int32) : Int32 :=
  if fr ≤ t then
    if sh = 0 then (if pe / 2 ≤ rmS (t + ph) pe then -am else am)
    else if sh = 1 then am * (4 * (if 0 ≤ rmS (t + ph) pe - pe / 2 then rmS (t + ph) pe - pe / 2 else 0 - (rmS (t + ph) pe - pe / 2)) - pe) / pe
    else if sh = 2 then (if rmS (t + ph) pe = 0 then am else 0)
    else rmS (31 * t * t + 7919 * t + 104729 * ph) (2 * am + 1) - am
  else 0
def wvS (P : Nat → Int32) (k : Nat) (t : Int32) : Int32 := wvF (P (47 + k)) (P (53 + k)) (P (59 + k)) (P (65 + k)) (P (95 + k)) t
def wnS (P : Nat → Int32) (pt pp : Int32) (k : Nat) (t : Int32) : Int32 := if pt = -1 then wvS P k t else if pp / 2 ≤ rmS t pp then -100 else 100
def fdS (P : Nat → Int32) (d w : Int32) : Int32 := if P 76 = 0 then w else w * P 76 / (P 76 + d)
def hfS (P : Nat → Int32) (pt pp : Int32) (m : Nat) (x y : Int32) (k : Nat) (t : Int32) : Int32 := fdS P (dlS P m x y) (if dlS P m x y ≤ t then wnS P pt pp k (t - dlS P m x y) else 0)
def hoS (P : Nat → Int32) (pt pp : Int32) (m : Nat) (x y : Int32) (k : Nat) (t : Int32) : Nat → Int32
  | 0 => hfS P pt pp m x y k t
  | j + 1 => hoS P pt pp m x y k t j + hfS P pt pp m (2 * P (72 + j) - x) y k t * P (74 + j) / 100
def hvS (P : Nat → Int32) (pt pp : Int32) (m : Nat) (x y : Int32) (k : Nat) (t : Int32) : Int32 := hoS P pt pp m x y k t (P 71).toNatClampNeg
def plS (A : Nat → Int32) (o v k : Nat) (t : Int32) : Int32 := A (o + k) + A (v + k) * t / 100
def smS (P A : Nat → Int32) (pt pp : Int32) (m : Nat) (t : Int32) : Nat → Int32
  | 0 => 0
  | k + 1 => smS P A pt pp m t k + (if A (25 + k) = 0 then 0 else hvS P pt pp m (plS A 31 43 k t) (plS A 37 49 k t) k t)
def cxS (P : Nat → Int32) (c : Int32) : Int32 := P 6 + P 8 * rmS c (P 9)
def cyS (P : Nat → Int32) (c : Int32) : Int32 := P 7 + P 8 * (c / P 9)
def rwS (P A : Nat → Int32) (pt pp : Int32) (m : Nat) (u : Int32) : Int32 :=
  if 0 ≤ u - P (83 + m) then P (35 + m) * (if pt = -1 then smS P A pt pp m (u - P (83 + m)) (P 5).toNatClampNeg else hvS P pt pp m (cxS P pt) (cyS P pt) 0 (u - P (83 + m))) else 0
def flS (P W : Nat → Int32) (t : Nat) : Nat → Int32
  | 0 => 0
  | i + 1 => flS P W t i + (if i ≤ t then P (78 + i) * W (t - i) else 0)
def bdS (P : Nat → Int32) (v : Int32) : Int32 := if -P 3 < (if v < P 3 then v else P 3) then (if v < P 3 then v else P 3) else -P 3
def fiS (P W : Nat → Int32) (t : Nat) : Int32 := if P 77 = 0 then W t else flS P W t (P 77).toNatClampNeg
def rcS (P A : Nat → Int32) (pt pp : Int32) (m t : Nat) : Int32 := bdS P (fiS P (fun u => rwS P A pt pp m (nI u)) t)
theorem x_delay {a x y : Int32} (ha : 0 ≤ a.toInt) (ha2 : a.toInt < 12) (hf : fr_delayFrom S a x y = some (r, S1)) : S1 = S ∧ r = dlS (S.2.1 10) a.toNatClampNeg x y := by
  unfold fr_delayFrom at hf
  obtain ⟨v2, d2, hf⟩ := elet_some hf
  obtain ⟨-, hf⟩ := oif_some hf
  obtain ⟨v4, d4, hf⟩ := elet_some hf
  rw [d2, cl_off (n := 11) (by decide) (by decide) ha (by omega)] at d4
  obtain ⟨v5, d5, hf⟩ := elet_some hf
  obtain ⟨v6, d6, hf⟩ := elet_some hf
  obtain ⟨-, hf⟩ := oif_some hf
  obtain ⟨v8, d8, hf⟩ := elet_some hf
  rw [d6, cl_off (n := 23) (by decide) (by decide) ha (by omega)] at d8
  obtain ⟨v9, d9, hf⟩ := elet_some hf
  obtain ⟨v10, d10, hf⟩ := elet_some hf
  obtain ⟨v11, d11, hf⟩ := elet_some hf
  obtain ⟨v12, d12, hf⟩ := elet_some hf
  obtain ⟨v13, d13, hf⟩ := elet_some hf
  obtain ⟨v14, d14, hf⟩ := elet_some hf
  obtain ⟨v15, d15, hf⟩ := elet_some hf
  obtain ⟨r16, f16, hf⟩ := obind_some hf
  obtain ⟨v18, d18, hf⟩ := elet_some hf
  obtain ⟨n18, hf⟩ := oif_some hf
  obtain ⟨v20, d20, hf⟩ := elet_some hf
  obtain ⟨v21, d21, hf⟩ := elet_some hf
  obtain ⟨n21, hf⟩ := oif_some hf
  obtain ⟨v23, d23, hf⟩ := elet_some hf
  obtain ⟨v24, d24, hf⟩ := elet_some hf
  have e16 : r16 = rtS v15 := by unfold rtS; rw [f16]; rfl
  have f := osome2 hf
  refine ⟨f.2.symm, ?_⟩
  rw [← f.1, d24, d23, d21, d20, d18, e16, d15, d14, d13, d12, d11, d10, d9, d8, d5, d4]
  rfl
theorem x_wave {a t : Int32} (h0 : 0 ≤ a.toInt) (h1 : a.toInt < 6) (hf : fr_wave S a t = some (r, S1)) : S1 = S ∧ r = wvS (S.2.1 10) a.toNatClampNeg t := by
  unfold fr_wave fr_wave_b103 fr_wave_b135 at hf
  obtain ⟨v2, d2, hf⟩ := elet_some hf
  obtain ⟨-, hf⟩ := oif_some hf
  obtain ⟨v4, d4, hf⟩ := elet_some hf
  rw [d2, cl_off (n := 53) (by decide) (by decide) h0 (by omega)] at d4
  obtain ⟨v5, d5, hf⟩ := elet_some hf
  obtain ⟨-, hf⟩ := oif_some hf
  obtain ⟨v7, d7, hf⟩ := elet_some hf
  rw [d5, cl_off (n := 59) (by decide) (by decide) h0 (by omega)] at d7
  obtain ⟨v8, d8, hf⟩ := elet_some hf
  obtain ⟨-, hf⟩ := oif_some hf
  obtain ⟨v10, d10, hf⟩ := elet_some hf
  rw [d8, cl_off (n := 95) (by decide) (by decide) h0 (by omega)] at d10
  unfold wvS wvF
  rw [← d10, ← d7, ← d4]
  rcases oif_or hf with ⟨c, hf⟩ | ⟨c, hf⟩
  · rw [if_pos c]
    obtain ⟨v12, d12, hf⟩ := elet_some hf
    obtain ⟨-, hf⟩ := oif_some hf
    obtain ⟨v14, d14, hf⟩ := elet_some hf
    rw [d12, cl_off (n := 65) (by decide) (by decide) h0 (by omega)] at d14
    obtain ⟨v15, d15, hf⟩ := elet_some hf
    obtain ⟨n7, hf⟩ := oif_some hf
    obtain ⟨v17, d17, hf⟩ := elet_some hf
    obtain ⟨v18, d18, hf⟩ := elet_some hf
    obtain ⟨-, hf⟩ := oif_some hf
    obtain ⟨v20, d20, hf⟩ := elet_some hf
    rw [d18, cl_off (n := 47) (by decide) (by decide) h0 (by omega)] at d20
    have e17 : rmS (t + v14) v7 = v17 := by rw [d17, d15]; rfl
    rw [← d14, ← d20, e17]
    rcases oif_or hf with ⟨c0, hf⟩ | ⟨c0, hf⟩
    · rw [if_pos c0]
      obtain ⟨v22, d22, hf⟩ := elet_some hf
      rw [← d22]
      rcases oif_or hf with ⟨c1, hf⟩ | ⟨c1, hf⟩
      · obtain ⟨v24, d24, hf⟩ := elet_some hf
        rw [if_pos c1, ← (osome2 hf).1, ← (osome2 hf).2, d24]
        exact ⟨rfl, rfl⟩
      · rw [if_neg c1, ← (osome2 hf).1, ← (osome2 hf).2]
        exact ⟨rfl, rfl⟩
    · rw [if_neg c0]
      rcases oif_or hf with ⟨c1, hf⟩ | ⟨c1, hf⟩
      · rw [if_pos c1]
        obtain ⟨v26, d26, hf⟩ := elet_some hf
        obtain ⟨v27, d27, hf⟩ := elet_some hf
        obtain ⟨v28, d28, hf⟩ := elet_some hf
        obtain ⟨v29, d29, hf⟩ := elet_some hf
        obtain ⟨v30, d30, hf⟩ := elet_some hf
        obtain ⟨v31, d31, hf⟩ := elet_some hf
        obtain ⟨-, hf⟩ := oif_some hf
        obtain ⟨v33, d33, hf⟩ := elet_some hf
        rw [← (osome2 hf).1, ← (osome2 hf).2, d33, d31, d30, d29, d28, d27, d26]
        exact ⟨rfl, rfl⟩
      · rw [if_neg c1]
        rcases oif_or hf with ⟨c2, hf⟩ | ⟨c2, hf⟩
        · rw [if_pos c2]
          rcases oif_or hf with ⟨c3, hf⟩ | ⟨c3, hf⟩
          · rw [if_pos c3, ← (osome2 hf).1, ← (osome2 hf).2]
            exact ⟨rfl, rfl⟩
          · rw [if_neg c3, ← (osome2 hf).1, ← (osome2 hf).2]
            exact ⟨rfl, rfl⟩
        · rw [if_neg c2]
          obtain ⟨v36, d36, hf⟩ := elet_some hf
          obtain ⟨v37, d37, hf⟩ := elet_some hf
          obtain ⟨v38, d38, hf⟩ := elet_some hf
          obtain ⟨v39, d39, hf⟩ := elet_some hf
          obtain ⟨v40, d40, hf⟩ := elet_some hf
          obtain ⟨-, hf⟩ := oif_some hf
          obtain ⟨v42, d42, hf⟩ := elet_some hf
          rw [d40, cl_off (n := 65) (by decide) (by decide) h0 (by omega), ← d14] at d42
          obtain ⟨v43, d43, hf⟩ := elet_some hf
          obtain ⟨v44, d44, hf⟩ := elet_some hf
          obtain ⟨v45, d45, hf⟩ := elet_some hf
          obtain ⟨v46, d46, hf⟩ := elet_some hf
          obtain ⟨-, hf⟩ := oif_some hf
          obtain ⟨v48, d48, hf⟩ := elet_some hf
          obtain ⟨v49, d49, hf⟩ := elet_some hf
          have e44 : 31 * t * t + 7919 * t + 104729 * v14 = v44 := by rw [d44, d43, d42, d39, d38, d37, d36]
          have e46 : 2 * v4 + 1 = v46 := by rw [d46, d45]
          rw [e44, e46, ← (osome2 hf).1, ← (osome2 hf).2, d49, d48]
          exact ⟨rfl, rfl⟩
  · rw [if_neg c, ← (osome2 hf).1, ← (osome2 hf).2]
    exact ⟨rfl, rfl⟩
theorem x_waveNow {a t : Int32} (h0 : 0 ≤ a.toInt) (h1 : a.toInt < 6) (hf : fr_waveNow S a t = some (r, S1)) : S1 = S ∧ r = wnS (S.2.1 10) (S.1 21) (S.1 22) a.toNatClampNeg t := by
  unfold fr_waveNow fr_waveNow_b39 at hf
  obtain ⟨v2, d2, hf⟩ := elet_some hf
  unfold wnS
  rw [← d2]
  rcases oif_or hf with ⟨c, hf⟩ | ⟨c, hf⟩
  · obtain ⟨r7, S4, f4, hf⟩ := obind2_some hf
    obtain ⟨e4, q4⟩ := x_wave h0 h1 f4
    rw [if_pos c, ← (osome2 hf).1, ← (osome2 hf).2, e4, q4]
    exact ⟨rfl, rfl⟩
  · rw [if_neg c]
    obtain ⟨v8, d8, hf⟩ := elet_some hf
    obtain ⟨-, hf⟩ := oif_some hf
    obtain ⟨v10, d10, hf⟩ := elet_some hf
    obtain ⟨v11, d11, hf⟩ := elet_some hf
    obtain ⟨v12, d12, hf⟩ := elet_some hf
    have e10 : rmS t (S.1 22) = v10 := by rw [d10, d8]; rfl
    rw [e10, ← d11, ← d12]
    rcases oif_or hf with ⟨c1, hf⟩ | ⟨c1, hf⟩
    · rw [if_pos c1, ← (osome2 hf).1, ← (osome2 hf).2]
      exact ⟨rfl, rfl⟩
    · rw [if_neg c1, ← (osome2 hf).1, ← (osome2 hf).2]
      exact ⟨rfl, rfl⟩
theorem x_fade {w d : Int32} (hf : fr_heardFrom_b31 S w d = some (r, S1)) : S1 = S ∧ r = fdS (S.2.1 10) d w := by
  unfold fr_heardFrom_b31 fr_heardFrom_b69 at hf
  obtain ⟨v2, d2, hf⟩ := elet_some hf
  unfold fdS
  rw [← d2]
  rcases oif_or hf with ⟨c, hf⟩ | ⟨c, hf⟩
  · rw [if_pos c, ← (osome2 hf).1, ← (osome2 hf).2]
    exact ⟨rfl, rfl⟩
  · rw [if_neg c]
    obtain ⟨v4, d4, hf⟩ := elet_some hf
    obtain ⟨v5, d5, hf⟩ := elet_some hf
    obtain ⟨v6, d6, hf⟩ := elet_some hf
    obtain ⟨v7, d7, hf⟩ := elet_some hf
    obtain ⟨-, hf⟩ := oif_some hf
    obtain ⟨v9, d9, hf⟩ := elet_some hf
    rw [← (osome2 hf).1, ← (osome2 hf).2, d9, d7, d6, d5, d4, d2]
    exact ⟨rfl, rfl⟩
theorem x_from {a x y b t : Int32} (ha : 0 ≤ a.toInt) (ha2 : a.toInt < 12) (hb : 0 ≤ b.toInt) (hb2 : b.toInt < 6) (hf : fr_heardFrom S a x y b t = some (r, S1)) : S1 = S ∧ r = hfS (S.2.1 10) (S.1 21) (S.1 22) a.toNatClampNeg x y b.toNatClampNeg t := by
  unfold fr_heardFrom at hf
  obtain ⟨r5, S2, f5, hf⟩ := obind2_some hf
  obtain ⟨e5, q5⟩ := x_delay ha ha2 f5
  rw [e5] at hf
  unfold hfS
  rw [← q5]
  rcases oif_or hf with ⟨c, hf⟩ | ⟨c, hf⟩
  · obtain ⟨v7, d7, hf⟩ := elet_some hf
    obtain ⟨r11, S8, f8, hf⟩ := obind2_some hf
    obtain ⟨e8, q8⟩ := x_waveNow hb hb2 f8
    rw [e8] at hf
    obtain ⟨e, q⟩ := x_fade hf
    rw [if_pos c, e, q, q8, d7]
    exact ⟨rfl, rfl⟩
  · obtain ⟨e, q⟩ := x_fade hf
    rw [if_neg c, e, q]
    exact ⟨rfl, rfl⟩
theorem x_heardOf {a x y b t : Int32} {c : Nat} (ha : 0 ≤ a.toInt) (ha2 : a.toInt < 12) (hb : 0 ≤ b.toInt) (hb2 : b.toInt < 6) (hc : c ≤ 2) (e71 : S.2.1 10 71 = nI c) (hf : fr_heardOf S a x y b t = some (r, S1)) : S1 = S ∧ r = hvS (S.2.1 10) (S.1 21) (S.1 22) a.toNatClampNeg x y b.toNatClampNeg t := by
  have lp : ∀ (n j : Nat) {u : Int32}, j ≤ c → u = hoS (S.2.1 10) (S.1 21) (S.1 22) a.toNatClampNeg x y b.toNatClampNeg t j → fr_heardOf_b16 n S a x y b t u (nI j) = some (r, S1) → S1 = S ∧ r = hoS (S.2.1 10) (S.1 21) (S.1 22) a.toNatClampNeg x y b.toNatClampNeg t c := by
    intro n
    induction n with
    | zero => intro j u hj hu h; cases h
    | succ n ih =>
      intro j u hj hu h
      have jI : (nI j).toInt = (j : Int) := nI_toInt (by omega)
      have kj : (nI j).toNatClampNeg = j := nI_clamp (by omega)
      unfold fr_heardOf_b16 at h
      obtain ⟨v2, d2, h⟩ := elet_some h
      rw [e71] at d2
      rcases oif_or h with ⟨q, h⟩ | ⟨q, h⟩
      · rw [d2] at q
        have q2 := (nI_leI (a := c) (by omega) (by omega)).mp q
        rw [← (osome2 h).1, ← (osome2 h).2, hu, show j = c by omega]
        exact ⟨rfl, rfl⟩
      · rw [d2] at q
        have q2 : ¬ c ≤ j := fun z => q ((nI_leI (a := c) (by omega) (by omega)).mpr z)
        obtain ⟨v4, d4, h⟩ := elet_some h
        obtain ⟨-, h⟩ := oif_some h
        obtain ⟨v6, d6, h⟩ := elet_some h
        rw [d4, cl_off (n := 72) (by decide) (by decide) (by omega) (by omega), kj] at d6
        obtain ⟨v7, d7, h⟩ := elet_some h
        obtain ⟨v8, d8, h⟩ := elet_some h
        obtain ⟨r12, S9, f9, h⟩ := obind2_some h
        obtain ⟨e9, q9⟩ := x_from ha ha2 hb hb2 f9
        rw [e9] at h
        obtain ⟨v13, d13, h⟩ := elet_some h
        obtain ⟨-, h⟩ := oif_some h
        obtain ⟨v15, d15, h⟩ := elet_some h
        rw [d13, cl_off (n := 74) (by decide) (by decide) (by omega) (by omega), kj] at d15
        obtain ⟨v16, d16, h⟩ := elet_some h
        obtain ⟨v17, d17, h⟩ := elet_some h
        obtain ⟨v18, d18, h⟩ := elet_some h
        obtain ⟨v19, d19, h⟩ := elet_some h
        rw [show v19 = nI (j + 1) from d19.trans (nI_p1 j)] at h
        refine ih (j + 1) (by omega) ?_ h
        rw [d18, d17, d16, d15, q9, d8, d7, d6, hu]
        rfl
  unfold fr_heardOf at hf
  obtain ⟨r5, S2, f5, hf⟩ := obind2_some hf
  obtain ⟨e5, q5⟩ := x_from ha ha2 hb hb2 f5
  rw [e5] at hf
  have k71 : (S.2.1 10 71).toNatClampNeg = c := by rw [e71]; exact nI_clamp (by omega)
  unfold hvS
  rw [k71]
  exact lp 16384 0 (Nat.zero_le c) q5 hf
theorem x_centre {a : Int32} (hf : fr_centre S a 0 = some (r, S1)) : S1 = S ∧ r = cxS (S.2.1 10) a := by
  unfold fr_centre fr_centre_b57 at hf
  rw [if_pos rfl] at hf
  obtain ⟨v3, d3, hf⟩ := elet_some hf
  obtain ⟨v4, d4, hf⟩ := elet_some hf
  obtain ⟨v5, d5, hf⟩ := elet_some hf
  obtain ⟨-, hf⟩ := oif_some hf
  obtain ⟨v7, d7, hf⟩ := elet_some hf
  obtain ⟨v8, d8, hf⟩ := elet_some hf
  obtain ⟨v9, d9, hf⟩ := elet_some hf
  rw [← (osome2 hf).1, ← (osome2 hf).2, d9, d8, d7, d5, d4, d3]
  exact ⟨rfl, rfl⟩
theorem y_centre {a : Int32} (hf : fr_centre S a 1 = some (r, S1)) : S1 = S ∧ r = cyS (S.2.1 10) a := by
  unfold fr_centre fr_centre_b57 at hf
  rw [if_neg (by decide)] at hf
  obtain ⟨v10, d10, hf⟩ := elet_some hf
  obtain ⟨v11, d11, hf⟩ := elet_some hf
  obtain ⟨v12, d12, hf⟩ := elet_some hf
  obtain ⟨-, hf⟩ := oif_some hf
  obtain ⟨v14, d14, hf⟩ := elet_some hf
  obtain ⟨v15, d15, hf⟩ := elet_some hf
  obtain ⟨v16, d16, hf⟩ := elet_some hf
  rw [← (osome2 hf).1, ← (osome2 hf).2, d16, d15, d14, d12, d11, d10]
  exact ⟨rfl, rfl⟩
theorem x_bounded {a : Int32} (hf : fr_bounded S a = some (r, S1)) : S1 = S ∧ r = bdS (S.2.1 10) a := by
  unfold fr_bounded at hf
  obtain ⟨v2, d2, hf⟩ := elet_some hf
  obtain ⟨v3, d3, hf⟩ := elet_some hf
  obtain ⟨v4, d4, hf⟩ := elet_some hf
  obtain ⟨v5, d5, hf⟩ := elet_some hf
  obtain ⟨v6, d6, hf⟩ := elet_some hf
  rw [← (osome2 hf).1, ← (osome2 hf).2, d6, d5, d4, d3, d2]
  exact ⟨rfl, rfl⟩
theorem x_filtered {t c : Nat} (ht : t < 200) (hc : c ≤ 5) (e77 : S.2.1 10 77 = nI c) (hf : fr_filtered S (nI t) = some (r, S1)) : S1 = S ∧ r = fiS (S.2.1 10) (S.2.1 23) t := by
  have tI : (nI t).toInt = (t : Int) := nI_toInt (by omega)
  have kt : (nI t).toNatClampNeg = t := nI_clamp (by omega)
  have stop : ∀ (n j : Nat), t < j → j + n = c → flS (S.2.1 10) (S.2.1 23) t c = flS (S.2.1 10) (S.2.1 23) t j := by
    intro n
    induction n with
    | zero => intro j h1 h2; rw [show c = j by omega]
    | succ n ih =>
      intro j h1 h2
      rw [ih (j + 1) (by omega) (by omega)]
      show flS (S.2.1 10) (S.2.1 23) t j + _ = _
      rw [if_neg (by omega), Int32.add_zero]
  have lp : ∀ (n j : Nat) {u : Int32}, j ≤ c → j ≤ t + 1 → u = flS (S.2.1 10) (S.2.1 23) t j → fr_filtered_b21 n S (nI t) u (nI j) = some (r, S1) → S1 = S ∧ r = flS (S.2.1 10) (S.2.1 23) t c := by
    intro n
    induction n with
    | zero => intro j u hj ht hu h; cases h
    | succ n ih =>
      intro j u hj hjt hu h
      have jI : (nI j).toInt = (j : Int) := nI_toInt (by omega)
      have kj : (nI j).toNatClampNeg = j := nI_clamp (by omega)
      unfold fr_filtered_b21 at h
      obtain ⟨v2, d2, h⟩ := elet_some h
      rw [e77] at d2
      rcases oif_or h with ⟨q, h⟩ | ⟨q, h⟩
      · rw [d2] at q
        have q2 := (nI_leI (a := c) (by omega) (by omega)).mp q
        unfold fr_filtered_b64 at h
        rw [← (osome2 h).1, ← (osome2 h).2, hu, show j = c by omega]
        exact ⟨rfl, rfl⟩
      · rw [d2] at q
        have q2 : ¬ c ≤ j := fun z => q ((nI_leI (a := c) (by omega) (by omega)).mpr z)
        rcases oif_or h with ⟨w, h⟩ | ⟨w, h⟩
        · have w := i_lt w
          unfold fr_filtered_b64 at h
          rw [← (osome2 h).1, ← (osome2 h).2, hu, stop (c - j) j (by omega) (by omega)]
          exact ⟨rfl, rfl⟩
        · have w := i_nlt w
          obtain ⟨v5, d5, h⟩ := elet_some h
          obtain ⟨-, h⟩ := oif_some h
          obtain ⟨v7, d7, h⟩ := elet_some h
          rw [d5, cl_off (n := 78) (by decide) (by decide) (by omega) (by omega), kj] at d7
          obtain ⟨v8, d8, h⟩ := elet_some h
          have q8 := i_sub d8 (by omega) (by omega)
          have c8 := i_cl (i := v8) (by omega)
          obtain ⟨-, h⟩ := oif_some h
          obtain ⟨v10, d10, h⟩ := elet_some h
          rw [show v8.toNatClampNeg = t - j by omega] at d10
          obtain ⟨v11, d11, h⟩ := elet_some h
          obtain ⟨v12, d12, h⟩ := elet_some h
          obtain ⟨v13, d13, h⟩ := elet_some h
          rw [show v13 = nI (j + 1) from d13.trans (nI_p1 j)] at h
          refine ih (j + 1) (by omega) (by omega) ?_ h
          rw [d12, d11, d10, d7, hu]
          show _ = flS (S.2.1 10) (S.2.1 23) t j + _
          rw [if_pos (by omega)]
  unfold fr_filtered at hf
  obtain ⟨v2, d2, hf⟩ := elet_some hf
  unfold fiS
  rw [← d2]
  rcases oif_or hf with ⟨q, hf⟩ | ⟨q, hf⟩
  · obtain ⟨-, hf⟩ := oif_some hf
    obtain ⟨v5, d5, hf⟩ := elet_some hf
    rw [if_pos q, ← (osome2 hf).1, ← (osome2 hf).2, d5, kt]
    exact ⟨rfl, rfl⟩
  · have k77 : v2.toNatClampNeg = c := by rw [d2, e77]; exact nI_clamp (by omega)
    rw [if_neg q, k77]
    exact lp 16384 0 (Nat.zero_le c) (Nat.zero_le _) rfl hf
end
