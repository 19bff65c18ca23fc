/-! what is recorded is alike in both *-/
section
variable {T T1 : AT} {S S1 : MS} {P A : Nat → Int32} {s d xs : Nat} {c4 n2 c5 c71 c77 : Nat}
theorem hf_pp {pp x y t : Int32} {m k : Nat} : hfS P (-1) pp m x y k t = hfS P (-1) 0 m x y k t := by
  unfold hfS
  rw [wn_pp]
theorem ho_pp {pp x y t : Int32} {m k : Nat} : ∀ j, hoS P (-1) pp m x y k t j = hoS P (-1) 0 m x y k t j := by
  intro j
  induction j with
  | zero => exact hf_pp
  | succ j ih =>
    show hoS P (-1) pp m x y k t j + _ = hoS P (-1) 0 m x y k t j + _
    rw [ih, hf_pp]
theorem sm_pp {pp t : Int32} {m : Nat} : ∀ k, smS P A (-1) pp m t k = smS P A (-1) 0 m t k := by
  intro k
  induction k with
  | zero => rfl
  | succ k ih =>
    show smS P A (-1) pp m t k + _ = smS P A (-1) 0 m t k + _
    unfold hvS
    rw [ih, ho_pp]
theorem rw_now {pp u : Int32} {m : Nat} (hC : PCs P c4 n2 c5 c71 c77) : rwS P A (-1) pp m u = rwG P (fun m t => smS P A (-1) 0 m t c5) m u := by
  obtain ⟨-, -, -, -, e5, l5, -⟩ := hC
  have k5 : (P 5).toNatClampNeg = c5 := by rw [e5]; exact nI_clamp (by omega)
  unfold rwS rwG
  rw [if_pos rfl, k5, sm_pp]
theorem rw_pt {pt pp u : Int32} {m : Nat} (h : ¬ pt = -1) : rwS P A pt pp m u = rwG P (fun m t => hvS P pt pp m (cxS P pt) (cyS P pt) 0 t) m u := by
  unfold rwS rwG
  rw [if_neg h]
theorem rc_cg {pt pp : Int32} {G : Nat → Int32 → Int32} {m t : Nat} (h : ∀ u, rwS P A pt pp m u = rwG P G m u) : rcS P A pt pp m t = bdS P (fiS P (fun u => rwG P G m (nI u)) t) := by
  unfold rcS
  rw [fi_cg (W := fun u => rwG P G m (nI u)) (fun u _ => h (nI u))]
/-- the cells of a state, as numbers in their bounds -/
theorem sts_of (hV : IV aR0 1586 aK1 aK2 T) (hd : d ∈ sds) (hP : PL P) (e5 : P 5 = nI c5) (l5 : c5 ≤ 6) (hS : STa T d P A 0) : STs T d A c5 := by
  have rd := sd_ro hd
  have i5 : (P 5).toInt = (c5 : Int) := by rw [e5]; exact nI_toInt (by omega)
  intro k hk
  obtain ⟨a3, a4, a5, a6, a7⟩ := hS.2.2.2.2 k (by omega)
  simp only [Nat.zero_add] at a3 a4 a5 a6 a7
  refine ⟨⟨a3, a4, a5, a6, a7⟩, ?_, ?_, ?_, ?_⟩
  · exact iv_int hV rd.2.2.2.2.1 (by decide) (by decide) a4.symm (rfl : iR 65 k = (-2000, 2000))
  · exact iv_int hV rd.2.2.2.2.2.1 (by decide) (by decide) a5.symm (rfl : iR 65 k = (-2000, 2000))
  · exact iv_int hV rd.2.2.2.2.2.2.1 (by decide) (by decide) a6.symm (rfl : iR 66 k = (-999, 999))
  · exact iv_int hV rd.2.2.2.2.2.2.2.1 (by decide) (by decide) a7.symm (rfl : iR 66 k = (-999, 999))
theorem heard_len (hV : IV aR0 1586 aK1 aK2 T) : ∀ i, i < 12 → (T.2.1 (9 + i)).2 = 200 := fun i hi => iv_len hV (heard_ro hi) (by decide) (by decide) (rfl : shp 46 = (100, 200))
/-- behind finish: the state as the row has it -/
theorem fin_alike {T2 : AT} {B : Nat → Int32} {G : Nat → Int32 → Int32} (hs : s = 478 ∨ s = 656) (hd : d ∈ sds) (hP : PL P) (hC : PCs P c4 n2 c5 c71 c77) (hV : IV aR0 1586 aK1 aK2 T) (hc : CRF T) (hE : SCE s T P) (hS : STa T d P A 0) (hq : HQ T T2) (hq0 : d ≠ 9) (hG : HG T2 G c4 n2) (hx1 : T.2.2.2.2 (d + 8) 1 = some (d + 9)) (hx : T.2.2.2.2 (d + 9) 0 = some xs) (hB : ∀ x, 1 ≤ x → x < 55 → B x = A x) (hR : ∀ m t, m < c4 → t < n2 → B (55 + 200 * m + t) = bdS P (fiS P (fun u => rwG P G m (nI u)) t)) (h : g_X5_finish T2 7 s d = some T1) : W1 T1 (d + 8) xs ∧ SVa T1 d xs P B c4 n2 ∧ SMr B c4 n2 ∧ T1.2.2.2.2 = T.2.2.2.2 ∧ T1.2.1 = T.2.1 ∧ (∀ m k, ¬ (9 ≤ m ∧ m < 21) → m ≠ d → m ≠ d + 8 → T1.2.2.1 m k = T.2.2.1 m k) ∧ ∀ k, k ≠ 2 → T1.2.2.1 d k = T.2.2.1 d k := by
  have si := sd_in hd
  have rd := sd_ro hd
  have e4 := hC.1
  have l4 := hC.2.1
  have i4 : (P 4).toInt = (c4 : Int) := by rw [e4]; exact nI_toInt (by omega)
  obtain ⟨T3, l3, o3, r3, e1⟩ := c_finish hs hd hP hC (crf_eq hc hq.2.1) (hq_sce hq hs hE) hG (by rw [hq.2.1]; exact hx1) (by rw [hq.2.1]; exact hx) h
  have refs : T1.2.2.2.2 = T.2.2.2.2 := by
    rw [e1]
    show T3.2.2.2.2 = _
    rw [l3.2.2.2]
    exact hq.2.1
  have shs : T1.2.1 = T.2.1 := by
    rw [e1]
    show T3.2.1 = _
    rw [l3.2.1]
    exact hq.1
  have i3 : ∀ m k, m ≠ d + 8 → T3.2.2.1 m k = T2.2.2.1 m k := fun m k hm => by
    rw [l3.2.2.1]
    exact ui_ne (.inl hm)
  have i1 : ∀ m k, ¬ (9 ≤ m ∧ m < 21) → m ≠ d + 8 → (m ≠ d ∨ k ≠ 2) → T1.2.2.1 m k = T.2.2.1 m k := fun m k a b c => by
    rw [e1, ui_ne c, i3 m k b, hq.2.2 m k a]
  have u1 : T1.2.2.1 (d + 8) 2 = 1 := by
    rw [e1, ui_ne (.inl (by omega)), l3.2.2.1]
    exact ui_at
  have lng : T1.2.2.2.1 = T3.2.2.2.1 := by rw [e1]; rfl
  refine ⟨⟨by rw [refs]; exact hx1, by rw [refs]; exact hx, u1⟩, ⟨?_, ?_, fun m hm => ?_, fun m u hm hu => ?_⟩, ⟨fun m hm => ?_, fun m u hm hu => ?_⟩, refs, shs, fun m k a b c => i1 m k a c (.inl b), fun k hk => i1 d k (by omega) (by omega) (.inr hk)⟩
  · rw [i1 _ _ (by omega) (by omega) (.inr (by decide))]; exact hS.1
  · rw [i1 _ _ (by omega) (by omega) (.inr (by decide))]; exact hS.2.1
  · have q := hS.2.2.2.1 m (by omega)
    simp only [Nat.zero_add] at q
    rw [i1 _ _ (by omega) (by omega) (.inl (by omega)), i1 _ _ (by omega) (by omega) (.inl (by omega)), hB _ (by omega) (by omega), hB _ (by omega) (by omega)]
    exact q
  · rw [lng]
    have q := r3 m u hm hu
    unfold RCq at q
    rw [q, hR m u hm hu]
  · have q := hS.2.2.2.1 m (by omega)
    simp only [Nat.zero_add] at q
    rw [hB _ (by omega) (by omega)]
    exact iv_int hV rd.2.2.1 (by decide) (by decide) q.2.symm (rfl : iR 63 m = (0, 9))
  · rw [hR m u hm hu]
    exact bd_rg hP
/-- both record all sources anew -/
theorem rec_alike_12 (hs : s = 478 ∨ s = 656) (hd : d ∈ sds) (hP : PL (S.2.1 10)) {S' : MS} (hI : IC (S.2.1 10) S') (hC : PCs (S.2.1 10) c4 n2 c5 c71 c77) (h21 : S.1 21 = -1) (hV : IV aR0 1586 aK1 aK2 T) (hc : CRF T) (hE : SCE s T (S.2.1 10)) (hS : STa T d (S.2.1 10) (S.2.1 12) 0) (g : g_X5_record T 7 s d = some T1) (f : fr_records_12 S = some S1) : ∃ xs, W1 T1 (d + 8) xs ∧ SVa T1 d xs (S.2.1 10) (S1.2.1 12) c4 n2 ∧ SMr (S1.2.1 12) c4 n2 ∧ T1.2.2.2.2 = T.2.2.2.2 ∧ T1.2.1 = T.2.1 ∧ (∀ m k, ¬ (9 ≤ m ∧ m < 21) → m ≠ d → m ≠ d + 8 → T1.2.2.1 m k = T.2.2.1 m k) := by
  have si := sd_in hd
  have rd := sd_ro hd
  obtain ⟨b8, b51⟩ := sdw_rf hc hd
  obtain ⟨xs, hx, -⟩ := w_row0 hV rd.2.2.2.2.2.2.2.2.1 (by decide) b8
  obtain ⟨T2, hq, hh, g2⟩ := c_record hs hd hP hI hC hc (heard_len hV) hE (sts_of hV hd hP hC.2.2.2.2.1 hC.2.2.2.2.2.1 hS) g
  have iv := x_records_12 hC f
  obtain ⟨i1, i2, i3, i4, i5⟩ := iv
  rw [h21] at i5
  obtain ⟨a1, a2, a3, a4, a5, a6, -⟩ := fin_alike (G := fun m t => smS (S.2.1 10) (S.2.1 12) (-1) 0 m t c5) hs hd hP hC hV hc hE hS hq (by omega) hh b8 hx i4 (fun m t hm ht => by
    rw [i5 m t hm ht]
    exact rc_cg (fun u => rw_now hC)) g2
  exact ⟨xs, a1, a2, a3, a4, a5, a6⟩
/-- both answer the same best cell behind that -/
theorem best_alike_12 {po : Nat} {r2 : Int32} {S2 : MS} {T2 : AT} (hs : s = 478 ∨ s = 656) (hd : d ∈ sds) (hd2 : d < 430) (hp : po = 66 ∨ po = 154) (hV : IV aR0 1586 aK1 aK2 T) (hc : CRF T) (hrc : RC T) (hri : RI T) (hP : PL (S.2.1 10)) (hE : SCE s T (S.2.1 10)) (hw0 : T.2.2.1 (s + 3) 0 = 0) (hw1 : T.2.2.1 (s + 3) 1 = 0) (hC : PCs (S.2.1 10) c4 n2 c5 c71 c77) (hw : W1 T (d + 8) xs) (hS : SVa T d xs (S.2.1 10) (S.2.1 12) c4 n2) (hr : SMr (S.2.1 12) c4 n2) (hD : ∀ k m : Nat, (k : Int) < (S.2.1 10 9 * S.2.1 10 10).toInt → (m : Int) < (S.2.1 10 4).toInt → T.2.2.1 (s + 16 + k) m = S.2.1 17 (12 * k + m)) (h17 : ∀ k, 0 ≤ (S.2.1 17 k).toInt ∧ (S.2.1 17 k).toInt ≤ 65535) (g : g_X4_measure T po s d = some T2) (f : fr_bestIn_12 S = some (r2, S2)) : T2.2.2.1 po 2 = r2 := by
  have p9 := pl_9 hP
  have p10 := pl_10 hP
  obtain ⟨q1, q2, q3, -⟩ := pl_cell hP
  obtain ⟨c, hc9, e9⟩ := nI_of01 (x := S.2.1 10 9) (a := 13) (by omega) (by omega) (by omega)
  obtain ⟨r, hr10, e10⟩ := nI_of01 (x := S.2.1 10 10) (a := 13) (by omega) (by omega) (by omega)
  have cI : (S.2.1 10 9).toInt = (c : Int) := by rw [e9]; exact nI_toInt (by omega)
  have rI : (S.2.1 10 10).toInt = (r : Int) := by rw [e10]; exact nI_toInt (by omega)
  have NI : (S.2.1 10 9 * S.2.1 10 10).toInt = ((c * r : Nat) : Int) := by rw [q1, cI, rI, Int.natCast_mul]
  have i4 : (S.2.1 10 4).toInt = (c4 : Int) := by rw [hC.1]; exact nI_toInt (by have := hC.2.1; omega)
  have a := c_meas (D := fun k m => S.2.1 17 (12 * k + m)) hs hd hd2 hp hV hc hrc hri hE hw0 hw1 hC.1 hC.2.1 hC.2.2.1 hC.2.2.2.1 e9 ⟨by omega, by omega⟩ e10 ⟨by omega, by omega⟩ rfl hw hS hr (fun k hk m hm => ⟨hD k m (by omega) (by omega), h17 _⟩) g
  have b := r_best_12 (D := fun k m => S.2.1 17 (12 * k + m)) hC.1 hC.2.1 hC.2.2.1 hC.2.2.2.1 e9 ⟨by omega, by omega⟩ e10 ⟨by omega, by omega⟩ rfl hr (fun k hk m hm => ⟨rfl, h17 _⟩) f
  rw [a, b]
/-- both record all sources anew -/
theorem rec_alike_14 (hs : s = 478 ∨ s = 656) (hd : d ∈ sds) (hP : PL (S.2.1 10)) {S' : MS} (hI : IC (S.2.1 10) S') (hC : PCs (S.2.1 10) c4 n2 c5 c71 c77) (h21 : S.1 21 = -1) (hV : IV aR0 1586 aK1 aK2 T) (hc : CRF T) (hE : SCE s T (S.2.1 10)) (hS : STa T d (S.2.1 10) (S.2.1 14) 0) (g : g_X5_record T 7 s d = some T1) (f : fr_records_14 S = some S1) : ∃ xs, W1 T1 (d + 8) xs ∧ SVa T1 d xs (S.2.1 10) (S1.2.1 14) c4 n2 ∧ SMr (S1.2.1 14) c4 n2 ∧ T1.2.2.2.2 = T.2.2.2.2 ∧ T1.2.1 = T.2.1 ∧ (∀ m k, ¬ (9 ≤ m ∧ m < 21) → m ≠ d → m ≠ d + 8 → T1.2.2.1 m k = T.2.2.1 m k) := by
  have si := sd_in hd
  have rd := sd_ro hd
  obtain ⟨b8, b51⟩ := sdw_rf hc hd
  obtain ⟨xs, hx, -⟩ := w_row0 hV rd.2.2.2.2.2.2.2.2.1 (by decide) b8
  obtain ⟨T2, hq, hh, g2⟩ := c_record hs hd hP hI hC hc (heard_len hV) hE (sts_of hV hd hP hC.2.2.2.2.1 hC.2.2.2.2.2.1 hS) g
  have iv := x_records_14 hC f
  obtain ⟨i1, i2, i3, i4, i5⟩ := iv
  rw [h21] at i5
  obtain ⟨a1, a2, a3, a4, a5, a6, -⟩ := fin_alike (G := fun m t => smS (S.2.1 10) (S.2.1 14) (-1) 0 m t c5) hs hd hP hC hV hc hE hS hq (by omega) hh b8 hx i4 (fun m t hm ht => by
    rw [i5 m t hm ht]
    exact rc_cg (fun u => rw_now hC)) g2
  exact ⟨xs, a1, a2, a3, a4, a5, a6⟩
/-- both answer the same best cell behind that -/
theorem best_alike_14 {po : Nat} {r2 : Int32} {S2 : MS} {T2 : AT} (hs : s = 478 ∨ s = 656) (hd : d ∈ sds) (hd2 : d < 430) (hp : po = 66 ∨ po = 154) (hV : IV aR0 1586 aK1 aK2 T) (hc : CRF T) (hrc : RC T) (hri : RI T) (hP : PL (S.2.1 10)) (hE : SCE s T (S.2.1 10)) (hw0 : T.2.2.1 (s + 3) 0 = 0) (hw1 : T.2.2.1 (s + 3) 1 = 0) (hC : PCs (S.2.1 10) c4 n2 c5 c71 c77) (hw : W1 T (d + 8) xs) (hS : SVa T d xs (S.2.1 10) (S.2.1 14) c4 n2) (hr : SMr (S.2.1 14) c4 n2) (hD : ∀ k m : Nat, (k : Int) < (S.2.1 10 9 * S.2.1 10 10).toInt → (m : Int) < (S.2.1 10 4).toInt → T.2.2.1 (s + 16 + k) m = S.2.1 17 (12 * k + m)) (h17 : ∀ k, 0 ≤ (S.2.1 17 k).toInt ∧ (S.2.1 17 k).toInt ≤ 65535) (g : g_X4_measure T po s d = some T2) (f : fr_bestIn_14 S = some (r2, S2)) : T2.2.2.1 po 2 = r2 := by
  have p9 := pl_9 hP
  have p10 := pl_10 hP
  obtain ⟨q1, q2, q3, -⟩ := pl_cell hP
  obtain ⟨c, hc9, e9⟩ := nI_of01 (x := S.2.1 10 9) (a := 13) (by omega) (by omega) (by omega)
  obtain ⟨r, hr10, e10⟩ := nI_of01 (x := S.2.1 10 10) (a := 13) (by omega) (by omega) (by omega)
  have cI : (S.2.1 10 9).toInt = (c : Int) := by rw [e9]; exact nI_toInt (by omega)
  have rI : (S.2.1 10 10).toInt = (r : Int) := by rw [e10]; exact nI_toInt (by omega)
  have NI : (S.2.1 10 9 * S.2.1 10 10).toInt = ((c * r : Nat) : Int) := by rw [q1, cI, rI, Int.natCast_mul]
  have i4 : (S.2.1 10 4).toInt = (c4 : Int) := by rw [hC.1]; exact nI_toInt (by have := hC.2.1; omega)
  have a := c_meas (D := fun k m => S.2.1 17 (12 * k + m)) hs hd hd2 hp hV hc hrc hri hE hw0 hw1 hC.1 hC.2.1 hC.2.2.1 hC.2.2.2.1 e9 ⟨by omega, by omega⟩ e10 ⟨by omega, by omega⟩ rfl hw hS hr (fun k hk m hm => ⟨hD k m (by omega) (by omega), h17 _⟩) g
  have b := r_best_14 (D := fun k m => S.2.1 17 (12 * k + m)) hC.1 hC.2.1 hC.2.2.1 hC.2.2.2.1 e9 ⟨by omega, by omega⟩ e10 ⟨by omega, by omega⟩ rfl hr (fun k hk m hm => ⟨rfl, h17 _⟩) f
  rw [a, b]
/-- the probe sounds as the point -/
theorem snd_pt {pt pp : Int32} (h : ¬ pt = -1) (hp : 2 ≤ pp.toInt ∧ pp.toInt ≤ 99) (e0 : T.2.2.1 21 0 = 0) (e5 : T.2.2.1 21 5 = 100) (e6 : T.2.2.1 21 6 = pp) (e7 : T.2.2.1 21 7 = 0) (e8 : T.2.2.1 21 8 = 0) : SND T P pt pp 21 0 := by
  have z0 : (0 : Int32).toInt = 0 := by decide
  refine ⟨?_, ?_, fun u hu => ?_⟩
  · rw [e6]
    intro w
    rw [w] at hp
    omega
  · rw [e5]; decide
  · unfold wvT wvF wnS
    rw [e0, e5, e6, e7, e8, if_neg h, if_pos (Int32.le_iff_toInt_le.mpr (by omega)), if_pos rfl, Int32.add_zero]
theorem c_ctrX {a v r : Int32} {g : Nat} (hv : 1 ≤ v.toInt) (e : T.2.2.1 g 3 = v) (h : g_X1_centreX T g a = some (r, T1)) : T1 = T ∧ r = T.2.2.1 g 0 + T.2.2.1 g 2 * (a - a / v * v) := by
  have z0 : (0 : Int32).toInt = 0 := by decide
  unfold g_X1_centreX at h
  obtain ⟨-, h⟩ := oif_some h
  obtain ⟨v3, d3, h⟩ := elet_some h
  obtain ⟨-, h⟩ := oif_some h
  obtain ⟨v5, d5, h⟩ := elet_some h
  obtain ⟨-, h⟩ := oif_some h
  obtain ⟨r9, T7, g7, h⟩ := obind2_some h
  obtain ⟨e7, q7⟩ := a_col (fun w => by rw [w] at hv; omega) e g7
  obtain ⟨v10, d10, h⟩ := elet_some h
  obtain ⟨v11, d11, h⟩ := elet_some h
  rw [← (osome2 h).1, ← (osome2 h).2, e7, d11, d10, q7, d5, d3]
  exact ⟨rfl, rfl⟩
theorem c_ctrY {a v r : Int32} {g : Nat} (ha : 0 ≤ a.toInt) (hv : 1 ≤ v.toInt) (e : T.2.2.1 g 3 = v) (h : g_X1_centreY T g a = some (r, T1)) : T1 = T ∧ r = T.2.2.1 g 1 + T.2.2.1 g 2 * (a / v) := by
  unfold g_X1_centreY at h
  obtain ⟨-, h⟩ := oif_some h
  obtain ⟨v3, d3, h⟩ := elet_some h
  obtain ⟨-, h⟩ := oif_some h
  obtain ⟨v5, d5, h⟩ := elet_some h
  obtain ⟨-, h⟩ := oif_some h
  obtain ⟨r9, T7, g7, h⟩ := obind2_some h
  obtain ⟨e7, q7⟩ := a_row ha hv e g7
  obtain ⟨v10, d10, h⟩ := elet_some h
  obtain ⟨v11, d11, h⟩ := elet_some h
  rw [← (osome2 h).1, ← (osome2 h).2, e7, d11, d10, q7, d5, d3]
  exact ⟨rfl, rfl⟩
end
