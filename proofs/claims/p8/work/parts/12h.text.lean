theorem np_11 {S S1 : MS} {k : Nat} {v : Int32} (y : ∀ j, nP j (S.2.1 11 j)) (e : S1 = mf S 11 (upd (S.2.1 11) k v)) (hn : nP k v) : ∀ j, nP j (S1.2.1 11 j) := by
  intro j
  by_cases hj : j = k
  · rw [hj, (w11 e).2.1]; exact hn
  · rw [(w11 e).1 j hj]; exact y j
theorem f4_11 {S S1 : MS} {k : Nat} {v : Int32} (y : F4 (S.2.1 11)) (e : S1 = mf S 11 (upd (S.2.1 11) k v)) (hk : 4 ≤ k) : F4 (S1.2.1 11) := by
  obtain ⟨w1, w2, w3, w4⟩ := w11 e
  unfold F4
  rw [w1 0 (by omega), w1 1 (by omega), w1 2 (by omega), w1 3 (by omega)]
  exact y
theorem ap_03 {S S1 : MS} {k : Nat} {v : Int32} (y : AP (S.2.1 11) (S.2.1 13)) (e : S1 = mf S 11 (upd (S.2.1 11) k v)) (hn : nP k v) (hk : k < 4) : AP (S1.2.1 11) (S1.2.1 13) := by
  obtain ⟨w1, w2, w3, w4⟩ := w11 e
  refine ⟨np_11 y.1 e hn, by rw [w3]; exact y.2.1, ?_, fun j h1 h2 => ?_⟩
  · rw [w1 8 (by omega), w1 9 (by omega), w1 10 (by omega)]; exact y.2.2.1
  · rw [w1 5 (by omega)] at h2
    rw [w1 j (by omega)]
    exact y.2.2.2 j h1 h2
theorem ry_per {S S1 : MS} {k : Nat} {v : Int32} (y : RY S) (e : S1 = mf S 11 (upd (S.2.1 11) k v)) (hn : nP k v) (h1 : 59 + (S.2.1 11 5).toInt ≤ (k : Int)) (h2 : k < 65) : RY S1 := by
  obtain ⟨w1, w2, w3, w4⟩ := w11 e
  have y5 := nP_5 (y.1.1 5)
  refine ⟨⟨np_11 y.1.1 e hn, by rw [w3]; exact y.1.2.1, ?_, fun j j1 j2 => ?_⟩, f4_11 y.2 e (by omega)⟩
  · rw [w1 8 (by omega), w1 9 (by omega), w1 10 (by omega)]; exact y.1.2.2.1
  · rw [w1 5 (by omega)] at j2
    rw [w1 j (by omega)]
    exact y.1.2.2.2 j j1 j2
theorem ry_cnt {S S1 : MS} {v : Int32} (y : RY S) (e : S1 = mf S 11 (upd (S.2.1 11) 5 v)) (hv : v.toInt = (S.2.1 11 5).toInt + 1 ∧ v.toInt ≤ 6) (hp : ∀ k : Nat, (k : Int) = 59 + (S.2.1 11 5).toInt → 2 ≤ (S.2.1 11 k).toInt) : RY S1 := by
  obtain ⟨w1, w2, w3, w4⟩ := w11 e
  have y5 := nP_5 (y.1.1 5)
  refine ⟨⟨np_11 y.1.1 e (by unfold nP; omega), by rw [w3]; exact y.1.2.1, ?_, fun j j1 j2 => ?_⟩, f4_11 y.2 e (by omega)⟩
  · rw [w1 8 (by omega), w1 9 (by omega), w1 10 (by omega)]; exact y.1.2.2.1
  · rw [w2] at j2
    rw [w1 j (by omega)]
    by_cases hj : (j : Int) = 59 + (S.2.1 11 5).toInt
    · exact hp j hj
    · exact y.1.2.2.2 j j1 (by omega)
theorem rmap_b {S : MS} (h : TK S) (y : RY S) : Tot (fr_readMap_b15 S) (fun S1 => RP S S1) := by
  have z0 : (0 : Int32).toInt = 0 := by decide
  have z1 : (1 : Int32).toInt = 1 := by decide
  have z12 : (12 : Int32).toInt = 12 := by decide
  have z99 : (99 : Int32).toInt = 99 := by decide
  have z999 : (999 : Int32).toInt = 999 := by decide
  have zm999 : ((-999) : Int32).toInt = -999 := by decide
  unfold fr_readMap_b15
  refine tot_bind (tnext h) (fun S2 d2 => ?_)
  have k2 : KP S S2 := d2.1
  refine tot_bind2 (tsigned (-999) 999 (by omega) k2.1.1) (fun r8 S5 d5 => ?_)
  have k5 : KP S S5 := k2.tr d5.1
  have b5 : (-999 : Int32).toInt ≤ r8.toInt ∧ r8.toInt ≤ (999 : Int32).toInt := d5.2
  refine tot_bind2 (tsigned (-999) 999 (by omega) k5.1.1) (fun r12 S9 d9 => ?_)
  have k9 : KP S S9 := k5.tr d9.1
  have b9 : (-999 : Int32).toInt ≤ r12.toInt ∧ r12.toInt ≤ (999 : Int32).toInt := d9.2
  refine tot_bind2 (tnumber 1 99 k9.1.1) (fun r16 S13 d13 => ?_)
  have k13 : KP S S13 := k9.tr d13.1
  have b13 : (1 : Int32).toInt ≤ r16.toInt ∧ r16.toInt ≤ (99 : Int32).toInt := d13.2.1 (by omega)
  refine tot_bind2 (tnumber 1 12 k13.1.1) (fun r20 S17 d17 => ?_)
  have k17 : KP S S17 := k13.tr d17.1
  have b17 : (1 : Int32).toInt ≤ r20.toInt ∧ r20.toInt ≤ (12 : Int32).toInt := d17.2.1 (by omega)
  refine tot_bind2 (tnumber 1 12 k17.1.1) (fun r24 S21 d21 => ?_)
  have k21 : KP S S21 := k17.tr d21.1
  have b21 : (1 : Int32).toInt ≤ r24.toInt ∧ r24.toInt ≤ (12 : Int32).toInt := d21.2.1 (by omega)
  have y21 := ry_kp y k21
  refine tot_let (fun v25 e25 => ?_)
  refine tot_if (fun c => ?_) (fun c => tot_some ⟨k21.1, y21⟩)
  refine tot_let (fun S27 e27 => ?_)
  have n27 := np_11 y21.1.1 e27 (by unfold nP; omega)
  have f27 := f4_11 y21.2 e27 (by decide)
  refine tot_let (fun S28 e28 => ?_)
  have n28 := np_11 n27 e28 (by unfold nP; omega)
  have f28 := f4_11 f27 e28 (by decide)
  refine tot_let (fun S29 e29 => ?_)
  have n29 := np_11 n28 e29 (by unfold nP; omega)
  have f29 := f4_11 f28 e29 (by decide)
  refine tot_let (fun S30 e30 => ?_)
  have n30 := np_11 n29 e30 (by unfold nP; omega)
  have f30 := f4_11 f29 e30 (by decide)
  refine tot_let (fun S31 e31 => ?_)
  have n31 := np_11 n30 e31 (by unfold nP; omega)
  have f31 := f4_11 f30 e31 (by decide)
  have ws : S31.1 = S21.1 := (w11 e31).2.2.2.trans ((w11 e30).2.2.2.trans ((w11 e29).2.2.2.trans ((w11 e28).2.2.2.trans (w11 e27).2.2.2)))
  have wd : S31.2.1 13 = S21.2.1 13 := (w11 e31).2.2.1.trans ((w11 e30).2.2.1.trans ((w11 e29).2.2.1.trans ((w11 e28).2.2.1.trans (w11 e27).2.2.1)))
  have wn : ∀ j, j < 6 ∨ 10 < j → S31.2.1 11 j = S21.2.1 11 j := fun j hj => by
    rw [(w11 e31).1 j (by omega), (w11 e30).1 j (by omega), (w11 e29).1 j (by omega), (w11 e28).1 j (by omega), (w11 e27).1 j (by omega)]
  refine tot_some ⟨k21.1.tr (ks_w ws k21.1.1), ⟨n31, by rw [wd]; exact y21.1.2.1, fun _ => ?_, fun j j1 j2 => ?_⟩, f31⟩
  · rw [(w11 e31).2.1, (w11 e31).1 9 (by decide), (w11 e30).2.1]
    omega
  · rw [wn 5 (by omega)] at j2
    rw [wn j (by omega)]
    exact y21.1.2.2.2 j j1 j2
theorem rmap {S : MS} (h : TK S) (y : RY S) : Tot (fr_readMap S) (fun S1 => RP S S1) := by
  have z3 : (3 : Int32).toInt = 3 := by decide
  unfold fr_readMap
  refine tot_let (fun v2 e2 => ?_)
  refine tot_if (fun c => rmap_b h y) (fun c => ?_)
  refine tot_bind (tfaults 3 h (by omega)) (fun S4 d4 => ?_)
  exact tot_w (rmap_b d4.1.1.1 (ry_kp y d4.1)) (fun S1 k => ⟨d4.1.1.tr k.1, k.2⟩)
set_option maxHeartbeats 8000000 in
theorem rsrc_c {S : MS} (h : TK S) (y : RY S) (s0 l1 l2 l3 l4 l5 l6 l7 l8 l9 : Int32) (e1 : l1 = S.2.1 11 5) (g : (S.1 5).toInt ≤ 0 → l1.toInt ≤ 5 ∧ 0 ≤ l2.toInt ∧ l2.toInt ≤ 3) (g0 : 0 ≤ s0.toInt ∧ s0.toInt ≤ 199) (g3 : -2000 ≤ l3.toInt ∧ l3.toInt ≤ 2000) (g4 : -2000 ≤ l4.toInt ∧ l4.toInt ≤ 2000) (g5 : -999 ≤ l5.toInt ∧ l5.toInt ≤ 999) (g6 : -999 ≤ l6.toInt ∧ l6.toInt ≤ 999) (g7 : 0 ≤ l7.toInt ∧ l7.toInt ≤ 999) (g8 : 2 ≤ l8.toInt ∧ l8.toInt ≤ 99) (g9 : 0 ≤ l9.toInt ∧ l9.toInt ≤ 99) : Tot (fr_readSource_b186 S s0 l1 l2 l3 l4 l5 l6 l7 l8 l9) (fun S1 => RP S S1) := by
  have z0 : (0 : Int32).toInt = 0 := by decide
  have z1 : (1 : Int32).toInt = 1 := by decide
  have z25 : (25 : Int32).toInt = 25 := by decide
  have z31 : (31 : Int32).toInt = 31 := by decide
  have z37 : (37 : Int32).toInt = 37 := by decide
  have z43 : (43 : Int32).toInt = 43 := by decide
  have z47 : (47 : Int32).toInt = 47 := by decide
  have z49 : (49 : Int32).toInt = 49 := by decide
  have z53 : (53 : Int32).toInt = 53 := by decide
  have z59 : (59 : Int32).toInt = 59 := by decide
  have z65 : (65 : Int32).toInt = 65 := by decide
  have z95 : (95 : Int32).toInt = 95 := by decide
  have y5 := nP_5 (y.1.1 5)
  rw [← e1] at y5
  unfold fr_readSource_b186
  refine tot_let (fun v2 e2 => ?_)
  have q2 := i_eq e2
  refine tot_if (fun c => ?_) (fun c => tot_some ⟨KS.rf h, y⟩)
  replace c := i_le c
  have hl := g (by omega)
  have y0 := y
  have s_0 : S.1 = S.1 := rfl
  have n_0 := e1.symm
  clear y0 e2 q2
  refine tot_let (fun v4 ev4 => ?_)
  have qv4 := i_add ev4 (by omega) (by omega)
  have xv4 := i_cl (i := v4) (by omega)
  refine tot_oif (i_inb (by omega) (by omega)) ?_
  refine tot_let (fun S6 e6 => ?_)
  have y6 := ry_11 y e6 (by unfold nP; omega) (by unfold fr_ok; omega)
  have n_6 : S6.2.1 11 5 = l1 := by rw [(w11 e6).1 5 (by omega)]; exact n_0
  have s_6 : S6.1 = S.1 := (w11 e6).2.2.2.trans s_0
  clear y n_0 s_0 e6 xv4 qv4 ev4
  refine tot_let (fun v7 ev7 => ?_)
  have qv7 := i_add ev7 (by omega) (by omega)
  have xv7 := i_cl (i := v7) (by omega)
  refine tot_oif (i_inb (by omega) (by omega)) ?_
  refine tot_let (fun S9 e9 => ?_)
  have y9 := ry_13 y6 e9 (by unfold nR; omega)
  have n_9 : S9.2.1 11 5 = l1 := by rw [(w13 e9).2.2.1]; exact n_6
  have s_9 : S9.1 = S.1 := (w13 e9).2.2.2.trans s_6
  clear y6 n_6 s_6 e9 xv7 qv7 ev7
  refine tot_let (fun v10 ev10 => ?_)
  have qv10 := i_add ev10 (by omega) (by omega)
  have xv10 := i_cl (i := v10) (by omega)
  refine tot_oif (i_inb (by omega) (by omega)) ?_
  refine tot_let (fun S12 e12 => ?_)
  have y12 := ry_13 y9 e12 (by unfold nR; omega)
  have n_12 : S12.2.1 11 5 = l1 := by rw [(w13 e12).2.2.1]; exact n_9
  have s_12 : S12.1 = S.1 := (w13 e12).2.2.2.trans s_9
  clear y9 n_9 s_9 e12 xv10 qv10 ev10
  refine tot_let (fun v13 ev13 => ?_)
  have qv13 := i_add ev13 (by omega) (by omega)
  have xv13 := i_cl (i := v13) (by omega)
  refine tot_oif (i_inb (by omega) (by omega)) ?_
  refine tot_let (fun S15 e15 => ?_)
  have y15 := ry_13 y12 e15 (by unfold nR; omega)
  have n_15 : S15.2.1 11 5 = l1 := by rw [(w13 e15).2.2.1]; exact n_12
  have s_15 : S15.1 = S.1 := (w13 e15).2.2.2.trans s_12
  clear y12 n_12 s_12 e15 xv13 qv13 ev13
  refine tot_let (fun v16 ev16 => ?_)
  have qv16 := i_add ev16 (by omega) (by omega)
  have xv16 := i_cl (i := v16) (by omega)
  refine tot_oif (i_inb (by omega) (by omega)) ?_
  refine tot_let (fun S18 e18 => ?_)
  have y18 := ry_13 y15 e18 (by unfold nR; omega)
  have n_18 : S18.2.1 11 5 = l1 := by rw [(w13 e18).2.2.1]; exact n_15
  have s_18 : S18.1 = S.1 := (w13 e18).2.2.2.trans s_15
  clear y15 n_15 s_15 e18 xv16 qv16 ev16
  refine tot_let (fun v19 ev19 => ?_)
  have qv19 := i_add ev19 (by omega) (by omega)
  have xv19 := i_cl (i := v19) (by omega)
  refine tot_oif (i_inb (by omega) (by omega)) ?_
  refine tot_let (fun S21 e21 => ?_)
  have y21 := ry_13 y18 e21 (by unfold nR; omega)
  have n_21 : S21.2.1 11 5 = l1 := by rw [(w13 e21).2.2.1]; exact n_18
  have s_21 : S21.1 = S.1 := (w13 e21).2.2.2.trans s_18
  clear y18 n_18 s_18 e21 xv19 qv19 ev19
  refine tot_let (fun v22 ev22 => ?_)
  have qv22 := i_add ev22 (by omega) (by omega)
  have xv22 := i_cl (i := v22) (by omega)
  refine tot_oif (i_inb (by omega) (by omega)) ?_
  refine tot_let (fun S24 e24 => ?_)
  have y24 := ry_11 y21 e24 (by unfold nP; omega) (by unfold fr_ok; omega)
  have n_24 : S24.2.1 11 5 = l1 := by rw [(w11 e24).1 5 (by omega)]; exact n_21
  have s_24 : S24.1 = S.1 := (w11 e24).2.2.2.trans s_21
  clear y21 n_21 s_21 e24 xv22 qv22 ev22
  refine tot_let (fun v25 ev25 => ?_)
  have qv25 := i_add ev25 (by omega) (by omega)
  have xv25 := i_cl (i := v25) (by omega)
  refine tot_oif (i_inb (by omega) (by omega)) ?_
  refine tot_let (fun S27 e27 => ?_)
  have y27 := ry_11 y24 e27 (by unfold nP; omega) (by unfold fr_ok; omega)
  have n_27 : S27.2.1 11 5 = l1 := by rw [(w11 e27).1 5 (by omega)]; exact n_24
  have s_27 : S27.1 = S.1 := (w11 e27).2.2.2.trans s_24
  clear y24 n_24 s_24 e27 xv25 qv25 ev25
  refine tot_let (fun v28 ev28 => ?_)
  have qv28 := i_add ev28 (by omega) (by omega)
  have xv28 := i_cl (i := v28) (by omega)
  refine tot_oif (i_inb (by omega) (by omega)) ?_
  refine tot_let (fun S30 e30 => ?_)
  have y30 := ry_per y27 e30 (by unfold nP; omega) (by rw [n_27]; omega) (by omega)
  have n_30 : S30.2.1 11 5 = l1 := by rw [(w11 e30).1 5 (by omega)]; exact n_27
  have s_30 : S30.1 = S.1 := (w11 e30).2.2.2.trans s_27
  have pp : S30.2.1 11 v28.toNatClampNeg = l8 := (w11 e30).2.1
  clear y27 n_27 s_27 e30 ev28
  refine tot_let (fun v31 ev31 => ?_)
  have qv31 := i_add ev31 (by omega) (by omega)
  have xv31 := i_cl (i := v31) (by omega)
  refine tot_oif (i_inb (by omega) (by omega)) ?_
  refine tot_let (fun S33 e33 => ?_)
  have y33 := ry_11 y30 e33 (by unfold nP; omega) (by unfold fr_ok; omega)
  have n_33 : S33.2.1 11 5 = l1 := by rw [(w11 e33).1 5 (by omega)]; exact n_30
  have s_33 : S33.1 = S.1 := (w11 e33).2.2.2.trans s_30
  have pq : S33.2.1 11 v28.toNatClampNeg = l8 := by rw [(w11 e33).1 _ (by omega)]; exact pp
  clear y30 n_30 s_30 e33 xv31 qv31 ev31 pp
  refine tot_let (fun v34 ev34 => ?_)
  rw [n_33] at ev34
  have q34 := i_eq ev34
  refine tot_let (fun v35 ev35 => ?_)
  have q35 := i_add ev35 (by omega) (by omega)
  refine tot_let (fun S36 e36 => ?_)
  have y36 := ry_cnt y33 e36 (by rw [n_33]; omega) (fun k hk => by
    rw [n_33] at hk
    have hk2 : k = v28.toNatClampNeg := by omega
    rw [hk2, pq]
    omega)
  exact tot_some ⟨ks_w ((w11 e36).2.2.2.trans s_33) h, y36⟩
theorem rsrc_b {S : MS} (h : TK S) (y : RY S) (l1 l2 : Int32) (e1 : l1 = S.2.1 11 5) (g : (S.1 5).toInt ≤ 0 → l1.toInt ≤ 5 ∧ 0 ≤ l2.toInt ∧ l2.toInt ≤ 3) : Tot (fr_readSource_b86 S l1 l2) (fun S1 => RP S S1) := by
  have z0 : (0 : Int32).toInt = 0 := by decide
  have z1 : (1 : Int32).toInt = 1 := by decide
  have z2 : (2 : Int32).toInt = 2 := by decide
  have z99 : (99 : Int32).toInt = 99 := by decide
  have z199 : (199 : Int32).toInt = 199 := by decide
  have z999 : (999 : Int32).toInt = 999 := by decide
  have z2000 : (2000 : Int32).toInt = 2000 := by decide
  have zm2000 : ((-2000) : Int32).toInt = -2000 := by decide
  have zm999 : ((-999) : Int32).toInt = -999 := by decide
  unfold fr_readSource_b86
  refine tot_bind (tnext h) (fun S2 d2 => ?_)
  have k2 : KP S S2 := d2.1
  refine tot_bind2 (tsigned (-2000) 2000 (by omega) k2.1.1) (fun r8 S5 d5 => ?_)
  have k5 : KP S S5 := k2.tr d5.1
  have b5 : (-2000 : Int32).toInt ≤ r8.toInt ∧ r8.toInt ≤ (2000 : Int32).toInt := d5.2
  refine tot_bind2 (tsigned (-2000) 2000 (by omega) k5.1.1) (fun r12 S9 d9 => ?_)
  have k9 : KP S S9 := k5.tr d9.1
  have b9 : (-2000 : Int32).toInt ≤ r12.toInt ∧ r12.toInt ≤ (2000 : Int32).toInt := d9.2
  refine tot_bind2 (tsigned (-999) 999 (by omega) k9.1.1) (fun r16 S13 d13 => ?_)
  have k13 : KP S S13 := k9.tr d13.1
  have b13 : (-999 : Int32).toInt ≤ r16.toInt ∧ r16.toInt ≤ (999 : Int32).toInt := d13.2
  refine tot_bind2 (tsigned (-999) 999 (by omega) k13.1.1) (fun r20 S17 d17 => ?_)
  have k17 : KP S S17 := k13.tr d17.1
  have b17 : (-999 : Int32).toInt ≤ r20.toInt ∧ r20.toInt ≤ (999 : Int32).toInt := d17.2
  refine tot_bind2 (tnumber 1 999 k17.1.1) (fun r24 S21 d21 => ?_)
  have k21 : KP S S21 := k17.tr d21.1
  have b21 : (1 : Int32).toInt ≤ r24.toInt ∧ r24.toInt ≤ (999 : Int32).toInt := d21.2.1 (by omega)
  refine tot_bind2 (tnumber 2 99 k21.1.1) (fun r28 S25 d25 => ?_)
  have k25 : KP S S25 := k21.tr d25.1
  have b25 : (2 : Int32).toInt ≤ r28.toInt ∧ r28.toInt ≤ (99 : Int32).toInt := d25.2.1 (by omega)
  refine tot_bind2 (tnumber 0 99 k25.1.1) (fun r32 S29 d29 => ?_)
  have k29 : KP S S29 := k25.tr d29.1
  have b29 : (0 : Int32).toInt ≤ r32.toInt ∧ r32.toInt ≤ (99 : Int32).toInt := d29.2.1 (by omega)
  refine tot_bind2 (ttakes (sTx "from") (by decide) (by decide) k29.1.1) (fun r37 S34 d34 => ?_)
  have k34 : KP S S34 := k29.tr d34.1
  have t34 := k34.1.1
  have m34 := k34.1.2
  have th := h
  unfold TK at th t34
  refine tot_if (fun c => ?_) (fun c => ?_)
  · exact tot_w (rsrc_c k34.1.1 (ry_kp y k34) 0 l1 l2 r8 r12 r16 r20 r24 r28 r32 (by rw [k34.2]; exact e1) (fun q => g (by omega)) (by omega) (by omega) (by omega) (by omega) (by omega) (by omega) (by omega) (by omega)) (fun S1 k => ⟨k34.1.tr k.1, k.2⟩)
  · refine tot_bind2 (tnumber 0 199 k34.1.1) (fun r42 S39 d39 => ?_)
    have k39 : KP S S39 := k34.tr d39.1
    have b39 : (0 : Int32).toInt ≤ r42.toInt ∧ r42.toInt ≤ (199 : Int32).toInt := d39.2.1 (by omega)
    have t39 := k39.1.1
    have m39 := k39.1.2
    unfold TK at t39
    exact tot_w (rsrc_c k39.1.1 (ry_kp y k39) r42 l1 l2 r8 r12 r16 r20 r24 r28 r32 (by rw [k39.2]; exact e1) (fun q => g (by omega)) (by omega) (by omega) (by omega) (by omega) (by omega) (by omega) (by omega) (by omega)) (fun S1 k => ⟨k39.1.tr k.1, k.2⟩)
theorem rsrc_a {S : MS} (h : TK S) (y : RY S) (s0 l1 : Int32) (e1 : l1 = S.2.1 11 5) (g : (S.1 5).toInt ≤ 0 → l1.toInt ≤ 5) (g0 : -1 ≤ s0.toInt ∧ s0.toInt ≤ 3) : Tot (fr_readSource_b75 S s0 l1) (fun S1 => RP S S1) := by
  have z1 : (1 : Int32).toInt = 1 := by decide
  have zm1 : ((-1) : Int32).toInt = -1 := by decide
  unfold fr_readSource_b75
  refine tot_if (fun c => ?_) (fun c => ?_)
  · refine tot_bind (tfaults 1 h (by omega)) (fun S4 d4 => ?_)
    exact tot_w (rsrc_b d4.1.1.1 (ry_kp y d4.1) l1 s0 (by rw [d4.1.2]; exact e1) (fun q => by have := d4.2; omega)) (fun S1 k => ⟨d4.1.1.tr k.1, k.2⟩)
  · replace c := i_ne c
    exact rsrc_b h y l1 s0 e1 (fun q => by have := g q; omega)
theorem rsrc_0 {S : MS} (h : TK S) (y : RY S) (l1 : Int32) (e1 : l1 = S.2.1 11 5) (g : (S.1 5).toInt ≤ 0 → l1.toInt ≤ 5) : Tot (fr_readSource_b18 S l1) (fun S1 => RP S S1) := by
  have z0 : (0 : Int32).toInt = 0 := by decide
  have z1 : (1 : Int32).toInt = 1 := by decide
  have z2 : (2 : Int32).toInt = 2 := by decide
  have z3 : (3 : Int32).toInt = 3 := by decide
  have zm1 : ((-1) : Int32).toInt = -1 := by decide
  unfold fr_readSource_b18
  refine tot_bind (tnext h) (fun S2 d2 => ?_)
  have k2 : KP S S2 := d2.1
  have m2 := d2.2.1
  have go : ∀ s0 : Int32, -1 ≤ s0.toInt ∧ s0.toInt ≤ 3 → Tot (fr_readSource_b75 S2 s0 l1) (fun S1 => RP S S1) := fun s0 g0 =>
    tot_w (rsrc_a k2.1.1 (ry_kp y k2) s0 l1 (by rw [k2.2]; exact e1) (fun q => g (by omega)) g0) (fun S1 k => ⟨k2.1.tr k.1, k.2⟩)
  refine tot_bindp (R := fun r : Int32 => True) (tot_w (tword1 (sTx "square") (by decide) (by decide) k2.1.1) (fun r q => ⟨q.1, trivial⟩)) (fun r9 _ => ?_)
  refine tot_if (fun c => ?_) (fun c => go 0 (by omega))
  refine tot_bindp (R := fun r : Int32 => True) (tot_w (tword1 (sTx "triangle") (by decide) (by decide) k2.1.1) (fun r q => ⟨q.1, trivial⟩)) (fun r9 _ => ?_)
  refine tot_if (fun c => ?_) (fun c => go 1 (by omega))
  refine tot_bindp (R := fun r : Int32 => True) (tot_w (tword1 (sTx "pulse") (by decide) (by decide) k2.1.1) (fun r q => ⟨q.1, trivial⟩)) (fun r9 _ => ?_)
  refine tot_if (fun c => ?_) (fun c => go 2 (by omega))
  refine tot_bindp (R := fun r : Int32 => True) (tot_w (tword1 (sTx "noise") (by decide) (by decide) k2.1.1) (fun r q => ⟨q.1, trivial⟩)) (fun r9 _ => ?_)
  exact tot_if (fun c => go (-1) (by omega)) (fun c => go 3 (by omega))
theorem rsource {S : MS} (h : TK S) (y : RY S) : Tot (fr_readSource S) (fun S1 => RP S S1) := by
  have z4 : (4 : Int32).toInt = 4 := by decide
  have z6 : (6 : Int32).toInt = 6 := by decide
  have y5 := nP_5 (y.1.1 5)
  unfold fr_readSource
  refine tot_let (fun v2 e2 => ?_)
  have q2 := i_eq e2
  refine tot_if (fun c => ?_) (fun c => ?_)
  · refine tot_bind (tfaults 4 h (by omega)) (fun S4 d4 => ?_)
    exact tot_w (rsrc_0 d4.1.1.1 (ry_kp y d4.1) v2 (by rw [d4.1.2]; exact e2) (fun q => by have := d4.2; omega)) (fun S1 k => ⟨d4.1.1.tr k.1, k.2⟩)
  · replace c := i_ne c
    exact rsrc_0 h y v2 e2 (fun q => by omega)
theorem rline {S : MS} (h : TK S) (y : RY S) : Tot (fr_readLine S) (fun S1 => RP S S1 ∧ (¬ (S.1 7).toInt = 2 → 0 < (S1.1 5).toInt)) := by
  have z0 : (0 : Int32).toInt = 0 := by decide
  have z1 : (1 : Int32).toInt = 1 := by decide
  have done : ∀ (f : MS → Option MS) (r : Int32), (∀ T : MS, TK T → RY T → Tot (f T) (fun S1 => RP T S1)) → (r.toInt = 0 ∨ r.toInt = 1 ∧ (S.1 5).toInt = 0 ∧ (S.1 7).toInt = 2) → ¬ r = 0 → Tot (obind (f S) fun T => fr_readLine_b165 T) (fun S1 => RP S S1 ∧ (¬ (S.1 7).toInt = 2 → 0 < (S1.1 5).toInt)) := by
    intro f r hf d c
    replace c := i_ne c
    refine tot_bind (hf S h y) (fun T k => ?_)
    unfold fr_readLine_b165
    exact tot_some ⟨k, fun q => by omega⟩
  unfold fr_readLine
  refine tot_bindp (R := fun r : Int32 => r.toInt = 0 ∨ r.toInt = 1 ∧ (S.1 5).toInt = 0 ∧ (S.1 7).toInt = 2) (tword1 (sTx "wall") (by decide) (by decide) h) (fun r d => ?_)
  refine tot_if (fun c => ?_) (fun c => done fr_readWall r (fun T hT yT => rwall hT yT) d c)
  clear d c r
  refine tot_bindp (R := fun r : Int32 => r.toInt = 0 ∨ r.toInt = 1 ∧ (S.1 5).toInt = 0 ∧ (S.1 7).toInt = 2) (tword1 (sTx "fade") (by decide) (by decide) h) (fun r d => ?_)
  refine tot_if (fun c => ?_) (fun c => done fr_readFade r (fun T hT yT => rfade hT yT) d c)
  clear d c r
  refine tot_bindp (R := fun r : Int32 => r.toInt = 0 ∨ r.toInt = 1 ∧ (S.1 5).toInt = 0 ∧ (S.1 7).toInt = 2) (tword1 (sTx "filter") (by decide) (by decide) h) (fun r d => ?_)
  refine tot_if (fun c => ?_) (fun c => done fr_readFilter r (fun T hT yT => rfilter hT yT) d c)
  clear d c r
  refine tot_bindp (R := fun r : Int32 => r.toInt = 0 ∨ r.toInt = 1 ∧ (S.1 5).toInt = 0 ∧ (S.1 7).toInt = 2) (tword1 (sTx "clock") (by decide) (by decide) h) (fun r d => ?_)
  refine tot_if (fun c => ?_) (fun c => done fr_readClock r (fun T hT yT => rclock hT yT) d c)
  clear d c r
  refine tot_bindp (R := fun r : Int32 => r.toInt = 0 ∨ r.toInt = 1 ∧ (S.1 5).toInt = 0 ∧ (S.1 7).toInt = 2) (tword1 (sTx "zone") (by decide) (by decide) h) (fun r d => ?_)
  refine tot_if (fun c => ?_) (fun c => done fr_readZone r (fun T hT yT => rzone hT yT) d c)
  clear d c r
  refine tot_bindp (R := fun r : Int32 => r.toInt = 0 ∨ r.toInt = 1 ∧ (S.1 5).toInt = 0 ∧ (S.1 7).toInt = 2) (tword1 (sTx "shade") (by decide) (by decide) h) (fun r d => ?_)
  refine tot_if (fun c => ?_) (fun c => done fr_readShade r (fun T hT yT => rshade hT yT) d c)
  clear d c r
  refine tot_bindp (R := fun r : Int32 => r.toInt = 0 ∨ r.toInt = 1 ∧ (S.1 5).toInt = 0 ∧ (S.1 7).toInt = 2) (tword1 (sTx "off") (by decide) (by decide) h) (fun r d => ?_)
  refine tot_if (fun c => ?_) (fun c => done fr_readOff r (fun T hT yT => roff hT yT) d c)
  clear d c r
  refine tot_bindp (R := fun r : Int32 => r.toInt = 0 ∨ r.toInt = 1 ∧ (S.1 5).toInt = 0 ∧ (S.1 7).toInt = 2) (tword1 (sTx "mic") (by decide) (by decide) h) (fun r d => ?_)
  refine tot_if (fun c => ?_) (fun c => done fr_readMic r (fun T hT yT => rmic hT yT) d c)
  clear d c r
  refine tot_bindp (R := fun r : Int32 => r.toInt = 0 ∨ r.toInt = 1 ∧ (S.1 5).toInt = 0 ∧ (S.1 7).toInt = 2) (tword1 (sTx "map") (by decide) (by decide) h) (fun r d => ?_)
  refine tot_if (fun c => ?_) (fun c => done fr_readMap r (fun T hT yT => rmap hT yT) d c)
  clear d c r
  refine tot_bindp (R := fun r : Int32 => r.toInt = 0 ∨ r.toInt = 1 ∧ (S.1 5).toInt = 0 ∧ (S.1 7).toInt = 2) (tword1 (sTx "source") (by decide) (by decide) h) (fun r d => ?_)
  refine tot_if (fun c => ?_) (fun c => done fr_readSource r (fun T hT yT => rsource hT yT) d c)
  clear d c r
  refine tot_bind (tfaults 1 h (by omega)) (fun S4 d4 => ?_)
  unfold fr_readLine_b165
  exact tot_some ⟨⟨d4.1.1, ry_kp y d4.1⟩, fun _ => d4.2⟩
theorem ap_kp {S S1 : MS} (y : AP (S.2.1 11) (S.2.1 13)) (k : KP S S1) : AP (S1.2.1 11) (S1.2.1 13) := by
  rw [k.2]
  exact y
theorem rfirst {S : MS} (h : TK S) (y : AP (S.2.1 11) (S.2.1 13)) : Tot (fr_readFirst S) (fun S1 => RP S S1) := by
  have z1 : (1 : Int32).toInt = 1 := by decide
  have z32 : (32 : Int32).toInt = 32 := by decide
  have z99 : (99 : Int32).toInt = 99 := by decide
  have z100 : (100 : Int32).toInt = 100 := by decide
  have z200 : (200 : Int32).toInt = 200 := by decide
  have z5000 : (5000 : Int32).toInt = 5000 := by decide
  have z9999 : (9999 : Int32).toInt = 9999 := by decide
  unfold fr_readFirst
  refine tot_bind (tkeyword (sTx "camera") (by decide) (by decide) h) (fun S3 k3 => ?_)
  have y3 := ap_kp y k3
  refine tot_bind2 (tgauge (sTx "distance") (by decide) (by decide) 100 5000 k3.1.1) (fun r10 S7 d7 => ?_)
  have k7 : KP S3 S7 := d7.1
  have b7 : (100 : Int32).toInt ≤ r10.toInt ∧ r10.toInt ≤ (5000 : Int32).toInt := d7.2.1 (by omega)
  have y7 := ap_kp y3 k7
  refine tot_let (fun S11 e11 => ?_)
  have y11 := ap_03 y7 e11 (by unfold nP; omega) (by decide)
  have h11 : KS S S11 := k3.1.tr (k7.1.tr (ks_w (w11 e11).2.2.2 k7.1.1))
  refine tot_bind2 (tgauge (sTx "step") (by decide) (by decide) 1 99 h11.1) (fun r16 S13 d13 => ?_)
  have k13 : KP S11 S13 := d13.1
  have b13 : (1 : Int32).toInt ≤ r16.toInt ∧ r16.toInt ≤ (99 : Int32).toInt := d13.2.1 (by omega)
  have y13 := ap_kp y11 k13
  refine tot_let (fun S17 e17 => ?_)
  have y17 := ap_03 y13 e17 (by unfold nP; omega) (by decide)
  have h17 : KS S S17 := h11.tr (k13.1.tr (ks_w (w11 e17).2.2.2 k13.1.1))
  refine tot_bind2 (tgauge (sTx "samples") (by decide) (by decide) 32 200 h17.1) (fun r22 S19 d19 => ?_)
  have k19 : KP S17 S19 := d19.1
  have b19 : (32 : Int32).toInt ≤ r22.toInt ∧ r22.toInt ≤ (200 : Int32).toInt := d19.2.1 (by omega)
  have y19 := ap_kp y17 k19
  refine tot_let (fun S23 e23 => ?_)
  have y23 := ap_03 y19 e23 (by unfold nP; omega) (by decide)
  have h23 : KS S S23 := h17.tr (k19.1.tr (ks_w (w11 e23).2.2.2 k19.1.1))
  refine tot_bind2 (tgauge (sTx "limit") (by decide) (by decide) 1 9999 h23.1) (fun r28 S25 d25 => ?_)
  have k25 : KP S23 S25 := d25.1
  have b25 : (1 : Int32).toInt ≤ r28.toInt ∧ r28.toInt ≤ (9999 : Int32).toInt := d25.2.1 (by omega)
  have y25 := ap_kp y23 k25
  refine tot_let (fun S29 e29 => ?_)
  have y29 := ap_03 y25 e29 (by unfold nP; omega) (by decide)
  have h29 : KS S S29 := h23.tr (k25.1.tr (ks_w (w11 e29).2.2.2 k25.1.1))
  refine tot_some ⟨h29, y29, ?_⟩
  unfold F4
  rw [(w11 e29).2.1, (w11 e29).1 0 (by decide), (w11 e29).1 1 (by decide), (w11 e29).1 2 (by decide), k25.2, (w11 e23).2.1, (w11 e23).1 0 (by decide), (w11 e23).1 1 (by decide), k19.2, (w11 e17).2.1, (w11 e17).1 0 (by decide), k13.2, (w11 e11).2.1]
  omega
theorem rend {S : MS} (h : TK S) (y : RY S) : Tot (fr_readText_b92 S) (fun S1 => (TK S1 ∧ RY S1) ∧ ((S1.1 5).toInt ≤ 0 → 1 ≤ (S1.2.1 11 4).toInt ∧ 1 ≤ (S1.2.1 11 8).toInt)) := by
  have z0 : (0 : Int32).toInt = 0 := by decide
  have z5 : (5 : Int32).toInt = 5 := by decide
  have bad : Tot (fr_readText_b111 S) (fun S1 => (TK S1 ∧ RY S1) ∧ ((S1.1 5).toInt ≤ 0 → 1 ≤ (S1.2.1 11 4).toInt ∧ 1 ≤ (S1.2.1 11 8).toInt)) := by
    unfold fr_readText_b111 fr_readText_b116
    refine tot_bind (tfaults 5 h (by omega)) (fun S4 d4 => ?_)
    exact tot_some ⟨⟨d4.1.1.1, ry_kp y d4.1⟩, fun q => by have := d4.2; omega⟩
  have y4 := nP_4 (y.1.1 4)
  have y8 : 0 ≤ (S.2.1 11 8).toInt := ((y.1.1 8).2.1.2.1 rfl).1
  unfold fr_readText_b92
  refine tot_let (fun v2 e2 => ?_)
  have q2 := i_eq e2
  refine tot_if (fun c => bad) (fun c => ?_)
  replace c := i_ne c
  refine tot_let (fun v4 e4 => ?_)
  have q4 := i_eq e4
  refine tot_if (fun c => bad) (fun c => ?_)
  replace c := i_ne c
  unfold fr_readText_b116
  exact tot_some ⟨⟨h, y⟩, fun _ => by omega⟩
theorem rlines : ∀ (n : Nat) (S : MS), TK S → RY S → (1 ≤ n ∧ ((S.1 5).toInt = 0 → (S.1 7).toInt = 4 → 1001 - (S.1 4).toInt < (n : Int))) → Tot (fr_readText_b52 n S) (fun S1 => (TK S1 ∧ RY S1) ∧ ((S1.1 5).toInt ≤ 0 → 1 ≤ (S1.2.1 11 4).toInt ∧ 1 ≤ (S1.2.1 11 8).toInt)) := by
  have z0 : (0 : Int32).toInt = 0 := by decide
  have z1 : (1 : Int32).toInt = 1 := by decide
  intro n
  induction n with
  | zero =>
    intro S h y hm
    exfalso
    omega
  | succ n ih =>
    intro S h y hm
    unfold fr_readText_b52
    refine tot_bindp (R := fun r : Int32 => r.toInt = 0 ∨ r.toInt = 1 ∧ (S.1 5).toInt = 0 ∧ (S.1 7).toInt = 4) (tsignhere 59) (fun r5 d5 => ?_)
    replace d5 : r5.toInt = 0 ∨ r5.toInt = 1 ∧ (S.1 5).toInt = 0 ∧ (S.1 7).toInt = 4 := d5
    refine tot_if (fun c => ?_) (fun c => ?_)
    · refine tot_let (fun v7 e7 => ?_)
      refine tot_if (fun c => ?_) (fun c => rend h y)
      refine tot_let (fun v9 e9 => ?_)
      refine tot_if (fun c => rend h y) (fun c => ?_)
      refine tot_bind (tfaults 1 h (by omega)) (fun S4 d4 => ?_)
      exact rend d4.1.1.1 (ry_kp y d4.1)
    · replace c := i_ne c
      refine tot_bind (tnext h) (fun S14 d14 => ?_)
      have k14 : KP S S14 := d14.1
      refine tot_bind (rline k14.1.1 (ry_kp y k14)) (fun S17 d17 => ?_)
      have k17 := d17.1.1
      have t17 := k17.1
      have ht := h
      unfold TK at ht t17
      have a1 := d14.2.2 (by omega)
      have a2 := k17.2
      have a3 := k14.1.2
      exact ih S17 k17.1 d17.1.2 ⟨by omega, fun q5 q7 => by omega⟩
theorem rdraft : ∀ (n : Nat) (S : MS) (l1 : Int32), TKa S → (S.1 5).toInt = 0 → (∀ j, j < 131 → S.2.1 11 j = 0) → (0 ≤ l1.toInt ∧ l1.toInt ≤ 2455) → (∀ j : Nat, (j : Int) < l1.toInt → S.2.1 13 j = 0) → 2455 - l1.toInt < (n : Int) → Tot (fr_readText_b24 n S l1) (fun S1 => (TK S1 ∧ RY S1) ∧ ((S1.1 5).toInt ≤ 0 → 1 ≤ (S1.2.1 11 4).toInt ∧ 1 ≤ (S1.2.1 11 8).toInt)) := by
  have z0 : (0 : Int32).toInt = 0 := by decide
  have z2455 : (2455 : Int32).toInt = 2455 := by decide
  have z1 : (Int32.ofInt (1) : Int32).toInt = 1 := by decide
  intro n
  induction n with
  | zero =>
    intro S l1 h h5 hN g hD hm
    exfalso
    omega
  | succ n ih =>
    intro S l1 h h5 hN g hD hm
    unfold fr_readText_b24
    refine tot_if (fun c => ?_) (fun c => ?_)
    · replace c := i_le c
      have y : AP (S.2.1 11) (S.2.1 13) := by
        refine ⟨fun k => ?_, fun k => ?_, ?_, fun k k1 k2 => ?_⟩
        · by_cases hk : k < 131
          · rw [hN k hk]; unfold nP; omega
          · unfold nP; omega
        · by_cases hk : k < 2455
          · rw [hD k (by omega)]; unfold nR; omega
          · unfold nR; omega
        · rw [hN 8 (by decide)]; omega
        · rw [hN 5 (by decide)] at k2; omega
      refine tot_bind (tnext0 h (by omega)) (fun S3 k3 => ?_)
      refine tot_bind (rfirst k3.1.1 (ap_kp y k3)) (fun S6 k6 => ?_)
      have t := k6.1.1
      unfold TK at t
      exact rlines 16384 S6 k6.1.1 k6.2 ⟨by decide, fun _ _ => by omega⟩
    · replace c := i_nle c
      refine tot_oif (i_inb (by omega) (by omega)) ?_
      have x1 := i_cl (i := l1) (by omega)
      refine tot_let (fun S10 e10 => ?_)
      refine tot_let (fun v11 e11 => ?_)
      have q11 := i_add e11 (by omega) (by omega)
      obtain ⟨w1, w2, w3, w4⟩ := w13 e10
      refine ih S10 v11 (by unfold TKa at *; rw [w4]; exact h) (by rw [w4]; exact h5) (by rw [w3]; exact hN) (by omega) (fun j hj => ?_) (by omega)
      by_cases e : j = l1.toNatClampNeg
      · rw [e, w2]
      · rw [w1 j e]; exact hD j (by omega)
theorem rplan : ∀ (n : Nat) (S : MS) (l1 : Int32), TKa S → (S.1 5).toInt = 0 → (0 ≤ l1.toInt ∧ l1.toInt ≤ 131) → (∀ j : Nat, (j : Int) < l1.toInt → S.2.1 11 j = 0) → 131 - l1.toInt < (n : Int) → Tot (fr_readText_b2 n S l1) (fun S1 => (TK S1 ∧ RY S1) ∧ ((S1.1 5).toInt ≤ 0 → 1 ≤ (S1.2.1 11 4).toInt ∧ 1 ≤ (S1.2.1 11 8).toInt)) := by
  have z0 : (0 : Int32).toInt = 0 := by decide
  have z131 : (131 : Int32).toInt = 131 := by decide
  have z1 : (Int32.ofInt (1) : Int32).toInt = 1 := by decide
  intro n
  induction n with
  | zero =>
    intro S l1 h h5 g hN hm
    exfalso
    omega
  | succ n ih =>
    intro S l1 h h5 g hN hm
    unfold fr_readText_b2
    refine tot_if (fun c => ?_) (fun c => ?_)
    · replace c := i_le c
      exact rdraft 16384 S 0 h h5 (fun j hj => hN j (by omega)) (by omega) (fun j hj => by omega) (by omega)
    · replace c := i_nle c
      refine tot_oif (i_inb (by omega) (by omega)) ?_
      have x1 := i_cl (i := l1) (by omega)
      refine tot_let (fun S10 e10 => ?_)
      refine tot_let (fun v11 e11 => ?_)
      have q11 := i_add e11 (by omega) (by omega)
      obtain ⟨w1, w2, w3, w4⟩ := w11 e10
      refine ih S10 v11 (by unfold TKa at *; rw [w4]; exact h) (by rw [w4]; exact h5) (by omega) (fun j hj => ?_) (by omega)
      by_cases e : j = l1.toNatClampNeg
      · rw [e, w2]
      · rw [w1 j e]; exact hN j (by omega)
theorem rtext {S : MS} (h : TKa S) (h5 : (S.1 5).toInt = 0) : Tot (fr_readText S) (fun S1 => (TK S1 ∧ RY S1) ∧ ((S1.1 5).toInt ≤ 0 → 1 ≤ (S1.2.1 11 4).toInt ∧ 1 ≤ (S1.2.1 11 8).toInt)) := by
  have z0 : (0 : Int32).toInt = 0 := by decide
  unfold fr_readText
  exact rplan 16384 S 0 h h5 (by omega) (fun j hj => by omega) (by omega)
