set_option maxHeartbeats 4000000 in
set_option maxRecDepth 10000 in
theorem cs_X11_peakAt {R : Nat → Nat} {B K1 K2 : Nat} (T : AT) (o : Nat) (a0 : Int32) (h_T : IV R B K1 K2 T) (k_o : R o = 11) : Tot (g_X11_peakAt T o a0) (fun r => (IV R B K1 K2 r.2.2 ∧ FW R [128, 130, 131, 1952, 2144, 3202] T r.2.2) ∧ (r.1 = 0 → (-1 ≤ r.2.1.toInt ∧ r.2.1.toInt ≤ 143))) := by
  have cc_101 : cnt 101 = 1 := rfl
  have cc_102 : cnt 102 = 12 := rfl
  have cc_103 : cnt 103 = 144 := rfl
  have cc_104 : cnt 104 = 2400 := rfl
  have cc_105 : cnt 105 = 7200 := rfl
  have x_T : FW R [128, 130, 131, 1952, 2144, 3202] T T := FW.rf
  have j_a0 := i_any a0
  unfold g_X11_peakAt
  refine tot_oif (iv_oO h_T k_o (by decide) (by decide) rfl) ?_
  refine tot_thrp (Q := fun r_1 : Int32 => (0 ≤ r_1.toInt ∧ r_1.toInt ≤ 0)) (cs_X11_needCamera T o h_T k_o ) (fun r_1 d_r_1 => ?_) (fun k_ => ⟨⟨h_T, x_T⟩, fun q_ => absurd q_ (Nat.succ_ne_zero k_)⟩)
  replace d_r_1 : (0 ≤ r_1.toInt ∧ r_1.toInt ≤ 0) := d_r_1
  refine tot_oif (iv_oO h_T k_o (by decide) (by decide) rfl) ?_
  refine tot_bind2 (cs_X11_powersNow T o h_T k_o ) (fun r_3 T_4 d_r_3 => ?_)
  have h_T_4 : IV R B K1 K2 T_4 := d_r_3.1.1
  have y_T_4 : FW R [128, 130, 131, 1952, 2144, 3202] T T_4 := d_r_3.1.2
  have x_T_4 := x_T.tr (y_T_4.w (by decide))
  have k_r_3 : R r_3 = 4 := d_r_3.2
  refine tot_oif (Nat.ble_eq_true_of_le (iv_lt h_T_4 (iv_sta h_T_4 k_r_3 (by decide) (by decide)))) ?_
  unfold g_X11_peakAt_b8
  refine tot_oif (iv_oO h_T_4 k_r_3 (by decide) (by decide) rfl) ?_
  refine tot_let (fun v_5 e_v_5 => ?_)
  have r_v_5 : 0 ≤ v_5.toInt ∧ v_5.toInt ≤ 144 := iv_int h_T_4 k_r_3 (by decide) (by decide) e_v_5 rfl
  refine tot_thrp (Q := fun r_6 : Int32 => (0 ≤ a0.toInt ∧ a0.toInt < v_5.toInt)) (cs_X11_needIndex T_4 a0 v_5 h_T_4 ) (fun r_6 d_r_6 => ?_) (fun k_ => ⟨⟨h_T_4, x_T_4⟩, fun q_ => absurd q_ (Nat.succ_ne_zero k_)⟩)
  replace d_r_6 : (0 ≤ a0.toInt ∧ a0.toInt < v_5.toInt) := d_r_6
  refine tot_oif (iv_oO h_T_4 k_r_3 (by decide) (by decide) rfl) ?_
  refine tot_bindq (R := fun r_8 : Int32 => (-1 ≤ r_8.toInt ∧ r_8.toInt ≤ 143)) (cs_X4_peakRanked T_4 r_3 a0 h_T_4 k_r_3 (by omega)) (fun r_8 d_r_8 => ?_)
  replace d_r_8 : (-1 ≤ r_8.toInt ∧ r_8.toInt ≤ 143) := d_r_8
  exact tot_some ⟨⟨h_T_4, x_T_4⟩, fun _ => (show (-1 ≤ r_8.toInt ∧ r_8.toInt ≤ 143) from by omega)⟩
set_option maxHeartbeats 4000000 in
set_option maxRecDepth 10000 in
theorem cs_X11_isPeak {R : Nat → Nat} {B K1 K2 : Nat} (T : AT) (o : Nat) (a0 : Int32) (h_T : IV R B K1 K2 T) (k_o : R o = 11) : Tot (g_X11_isPeak T o a0) (fun r => (IV R B K1 K2 r.2.2 ∧ FW R [128, 130, 131, 1952, 2144, 3202] T r.2.2) ∧ (r.1 = 0 → (0 ≤ r.2.1.toInt ∧ r.2.1.toInt ≤ 1))) := by
  have cc_101 : cnt 101 = 1 := rfl
  have cc_102 : cnt 102 = 12 := rfl
  have cc_103 : cnt 103 = 144 := rfl
  have cc_104 : cnt 104 = 2400 := rfl
  have cc_105 : cnt 105 = 7200 := rfl
  have x_T : FW R [128, 130, 131, 1952, 2144, 3202] T T := FW.rf
  have j_a0 := i_any a0
  unfold g_X11_isPeak
  refine tot_oif (iv_oO h_T k_o (by decide) (by decide) rfl) ?_
  refine tot_thrp (Q := fun r_1 : Int32 => (0 ≤ r_1.toInt ∧ r_1.toInt ≤ 0)) (cs_X11_needCamera T o h_T k_o ) (fun r_1 d_r_1 => ?_) (fun k_ => ⟨⟨h_T, x_T⟩, fun q_ => absurd q_ (Nat.succ_ne_zero k_)⟩)
  replace d_r_1 : (0 ≤ r_1.toInt ∧ r_1.toInt ≤ 0) := d_r_1
  refine tot_oif (iv_oO h_T k_o (by decide) (by decide) rfl) ?_
  refine tot_thrp (Q := fun r_3 : Int32 => (0 ≤ a0.toInt ∧ a0.toInt ≤ 143)) (cs_X11_needCell T o a0 h_T k_o ) (fun r_3 d_r_3 => ?_) (fun k_ => ⟨⟨h_T, x_T⟩, fun q_ => absurd q_ (Nat.succ_ne_zero k_)⟩)
  replace d_r_3 : (0 ≤ a0.toInt ∧ a0.toInt ≤ 143) := d_r_3
  refine tot_oif (iv_oO h_T k_o (by decide) (by decide) rfl) ?_
  refine tot_bind2 (cs_X11_powersNow T o h_T k_o ) (fun r_5 T_6 d_r_5 => ?_)
  have h_T_6 : IV R B K1 K2 T_6 := d_r_5.1.1
  have y_T_6 : FW R [128, 130, 131, 1952, 2144, 3202] T T_6 := d_r_5.1.2
  have x_T_6 := x_T.tr (y_T_6.w (by decide))
  have k_r_5 : R r_5 = 4 := d_r_5.2
  refine tot_oif (Nat.ble_eq_true_of_le (iv_lt h_T_6 (iv_sta h_T_6 k_r_5 (by decide) (by decide)))) ?_
  unfold g_X11_isPeak_b13
  refine tot_oif (iv_oO h_T_6 k_o (by decide) (by decide) rfl) ?_
  refine tot_ref h_T_6 k_o (by decide) (by decide) (r2 := 6) (rfl : rtg 11 14 = 6) (by decide) (fun n_7 k_n_7 e_n_7 => ?_)
  refine tot_oif (iv_oO h_T_6 k_n_7 (by decide) (by decide) rfl) ?_
  refine tot_ref h_T_6 k_n_7 (by decide) (by decide) (r2 := 1) (rfl : rtg 6 6 = 1) (by decide) (fun n_8 k_n_8 e_n_8 => ?_)
  refine tot_oif (iv_oO h_T_6 k_r_5 (by decide) (by decide) rfl) ?_
  refine tot_bind2 (cs_X4_standsOut T_6 r_5 a0 n_8 h_T_6 k_r_5 k_n_8 (by omega)) (fun r_9 T_10 d_r_9 => ?_)
  have h_T_10 : IV R B K1 K2 T_10 := d_r_9.1.1
  have y_T_10 : FW R [1952] T_6 T_10 := d_r_9.1.2
  have x_T_10 := x_T_6.tr (y_T_10.w (by decide))
  replace d_r_9 : (0 ≤ r_9.toInt ∧ r_9.toInt ≤ 1) := d_r_9.2
  refine tot_oif (i_b01 (by omega)) ?_
  exact tot_some ⟨⟨h_T_10, x_T_10⟩, fun _ => (show (0 ≤ r_9.toInt ∧ r_9.toInt ≤ 1) from by omega)⟩
set_option maxHeartbeats 4000000 in
set_option maxRecDepth 10000 in
theorem cs_X11_zonePower {R : Nat → Nat} {B K1 K2 : Nat} (T : AT) (o : Nat) (a0 : Int32) (h_T : IV R B K1 K2 T) (k_o : R o = 11) : Tot (g_X11_zonePower T o a0) (fun r => (IV R B K1 K2 r.2.2 ∧ FW R [128, 130, 131, 1952, 2144, 3202] T r.2.2) ∧ (r.1 = 0 → True)) := by
  have z0 : ((0 : Int32) : Int32).toInt = 0 := by decide
  have cc_101 : cnt 101 = 1 := rfl
  have cc_102 : cnt 102 = 12 := rfl
  have cc_103 : cnt 103 = 144 := rfl
  have cc_104 : cnt 104 = 2400 := rfl
  have cc_105 : cnt 105 = 7200 := rfl
  have x_T : FW R [128, 130, 131, 1952, 2144, 3202] T T := FW.rf
  have j_a0 := i_any a0
  unfold g_X11_zonePower
  refine tot_oif (iv_oO h_T k_o (by decide) (by decide) rfl) ?_
  refine tot_thrp (Q := fun r_1 : Int32 => (0 ≤ r_1.toInt ∧ r_1.toInt ≤ 0)) (cs_X11_needCamera T o h_T k_o ) (fun r_1 d_r_1 => ?_) (fun k_ => ⟨⟨h_T, x_T⟩, fun q_ => absurd q_ (Nat.succ_ne_zero k_)⟩)
  replace d_r_1 : (0 ≤ r_1.toInt ∧ r_1.toInt ≤ 0) := d_r_1
  refine tot_oif (iv_oO h_T k_o (by decide) (by decide) rfl) ?_
  refine tot_ref h_T k_o (by decide) (by decide) (r2 := 6) (rfl : rtg 11 14 = 6) (by decide) (fun n_3 k_n_3 e_n_3 => ?_)
  refine tot_oif (iv_oO h_T k_n_3 (by decide) (by decide) rfl) ?_
  refine tot_ref h_T k_n_3 (by decide) (by decide) (r2 := 1) (rfl : rtg 6 6 = 1) (by decide) (fun n_4 k_n_4 e_n_4 => ?_)
  refine tot_oif (iv_oO h_T k_n_4 (by decide) (by decide) rfl) ?_
  refine tot_let (fun v_5 e_v_5 => ?_)
  have r_v_5 : 0 ≤ v_5.toInt ∧ v_5.toInt ≤ 4 := iv_int h_T k_n_4 (by decide) (by decide) e_v_5 rfl
  refine tot_thrp (Q := fun r_6 : Int32 => (0 ≤ a0.toInt ∧ a0.toInt < v_5.toInt)) (cs_X11_needIndex T a0 v_5 h_T ) (fun r_6 d_r_6 => ?_) (fun k_ => ⟨⟨h_T, x_T⟩, fun q_ => absurd q_ (Nat.succ_ne_zero k_)⟩)
  replace d_r_6 : (0 ≤ a0.toInt ∧ a0.toInt < v_5.toInt) := d_r_6
  refine tot_oif (iv_oO h_T k_o (by decide) (by decide) rfl) ?_
  refine tot_bind2 (cs_X11_powersNow T o h_T k_o ) (fun r_8 T_9 d_r_8 => ?_)
  have h_T_9 : IV R B K1 K2 T_9 := d_r_8.1.1
  have y_T_9 : FW R [128, 130, 131, 1952, 2144, 3202] T T_9 := d_r_8.1.2
  have x_T_9 := x_T.tr (y_T_9.w (by decide))
  have k_r_8 : R r_8 = 4 := d_r_8.2
  refine tot_oif (Nat.ble_eq_true_of_le (iv_lt h_T_9 (iv_sta h_T_9 k_r_8 (by decide) (by decide)))) ?_
  unfold g_X11_zonePower_b22
  refine tot_oif (iv_oO h_T_9 k_o (by decide) (by decide) rfl) ?_
  refine tot_ref h_T_9 k_o (by decide) (by decide) (r2 := 6) (rfl : rtg 11 14 = 6) (by decide) (fun n_10 k_n_10 e_n_10 => ?_)
  refine tot_oif (iv_oO h_T_9 k_n_10 (by decide) (by decide) rfl) ?_
  refine tot_ref h_T_9 k_n_10 (by decide) (by decide) (r2 := 1) (rfl : rtg 6 6 = 1) (by decide) (fun n_11 k_n_11 e_n_11 => ?_)
  refine tot_oif (iv_oO h_T_9 k_n_11 (by decide) (by decide) rfl) ?_
  refine tot_ref h_T_9 k_n_11 (by decide) (by decide) (r2 := 60) (rfl : rtg 1 6 = 60) (by decide) (fun n_12 k_n_12 e_n_12 => ?_)
  refine tot_oif (iv_aA h_T_9 k_n_12 (by decide) (by decide) rfl rfl) ?_
  refine tot_oif (by rw [iv_len h_T_9 k_n_12 (by decide) (by decide) (rfl : shp 60 = (106, 4))]; exact i_inb (by omega) (by omega)) ?_
  refine tot_ref h_T_9 k_n_12 (by decide) (by decide) (r2 := 59) (rt_60 (by omega) (by omega)) (by decide) (fun n_13 k_n_13 e_n_13 => ?_)
  refine tot_oif (iv_oO h_T_9 k_o (by decide) (by decide) rfl) ?_
  refine tot_ref1 e_n_10 ?_
  refine tot_oif (iv_oO h_T_9 k_n_10 (by decide) (by decide) rfl) ?_
  refine tot_ref1 e_n_11 ?_
  refine tot_oif (iv_oO h_T_9 k_o (by decide) (by decide) rfl) ?_
  refine tot_ref h_T_9 k_o (by decide) (by decide) (r2 := 102) (rfl : rtg 11 12 = 102) (by decide) (fun n_16 k_n_16 e_n_16 => ?_)
  refine tot_oif (iv_oO h_T_9 k_r_8 (by decide) (by decide) rfl) ?_
  refine tot_bind (cs_X4_sumIn T_9 r_8 n_13 n_11 n_16 (0 : Int32) h_T_9 k_r_8 k_n_13 k_n_11 k_n_16 (rfl : isW 102 = true) (by omega)) (fun T_17 d_T_17 => ?_)
  have h_T_17 : IV R B K1 K2 T_17 := d_T_17.1
  have y_T_17 : FW R [3202] T_9 T_17 := d_T_17.2
  have x_T_17 := x_T_9.tr (y_T_17.w (by decide))
  unfold g_X11_zonePower_b49
  refine tot_oif (iv_oO h_T_17 k_o (by decide) (by decide) rfl) ?_
  refine tot_ref h_T_17 k_o (by decide) (by decide) (r2 := 102) (rfl : rtg 11 12 = 102) (by decide) (fun n_18 k_n_18 e_n_18 => ?_)
  refine tot_oif (w_oO h_T_17 k_n_18 (rfl : isW 102 = true)) ?_
  refine tot_bindq (R := fun r_19 : Int64 => True) (c_value (a0 := (0 : Int32)) k_n_18 (rfl : isW 102 = true) h_T_17 (by omega)) (fun r_19 d_r_19 => ?_)
  exact tot_some ⟨⟨h_T_17, x_T_17⟩, fun _ => trivial⟩
set_option maxHeartbeats 4000000 in
set_option maxRecDepth 10000 in
theorem cs_X11_zoneBest {R : Nat → Nat} {B K1 K2 : Nat} (T : AT) (o : Nat) (a0 : Int32) (h_T : IV R B K1 K2 T) (k_o : R o = 11) : Tot (g_X11_zoneBest T o a0) (fun r => (IV R B K1 K2 r.2.2 ∧ FW R [128, 130, 131, 1952, 2144, 3202] T r.2.2) ∧ (r.1 = 0 → (0 ≤ r.2.1.toInt ∧ r.2.1.toInt ≤ 143))) := by
  have z0 : ((0 : Int32) : Int32).toInt = 0 := by decide
  have cc_101 : cnt 101 = 1 := rfl
  have cc_102 : cnt 102 = 12 := rfl
  have cc_103 : cnt 103 = 144 := rfl
  have cc_104 : cnt 104 = 2400 := rfl
  have cc_105 : cnt 105 = 7200 := rfl
  have x_T : FW R [128, 130, 131, 1952, 2144, 3202] T T := FW.rf
  have j_a0 := i_any a0
  unfold g_X11_zoneBest
  refine tot_oif (iv_oO h_T k_o (by decide) (by decide) rfl) ?_
  refine tot_thrp (Q := fun r_1 : Int32 => (0 ≤ r_1.toInt ∧ r_1.toInt ≤ 0)) (cs_X11_needCamera T o h_T k_o ) (fun r_1 d_r_1 => ?_) (fun k_ => ⟨⟨h_T, x_T⟩, fun q_ => absurd q_ (Nat.succ_ne_zero k_)⟩)
  replace d_r_1 : (0 ≤ r_1.toInt ∧ r_1.toInt ≤ 0) := d_r_1
  refine tot_oif (iv_oO h_T k_o (by decide) (by decide) rfl) ?_
  refine tot_ref h_T k_o (by decide) (by decide) (r2 := 6) (rfl : rtg 11 14 = 6) (by decide) (fun n_3 k_n_3 e_n_3 => ?_)
  refine tot_oif (iv_oO h_T k_n_3 (by decide) (by decide) rfl) ?_
  refine tot_ref h_T k_n_3 (by decide) (by decide) (r2 := 1) (rfl : rtg 6 6 = 1) (by decide) (fun n_4 k_n_4 e_n_4 => ?_)
  refine tot_oif (iv_oO h_T k_n_4 (by decide) (by decide) rfl) ?_
  refine tot_let (fun v_5 e_v_5 => ?_)
  have r_v_5 : 0 ≤ v_5.toInt ∧ v_5.toInt ≤ 4 := iv_int h_T k_n_4 (by decide) (by decide) e_v_5 rfl
  refine tot_thrp (Q := fun r_6 : Int32 => (0 ≤ a0.toInt ∧ a0.toInt < v_5.toInt)) (cs_X11_needIndex T a0 v_5 h_T ) (fun r_6 d_r_6 => ?_) (fun k_ => ⟨⟨h_T, x_T⟩, fun q_ => absurd q_ (Nat.succ_ne_zero k_)⟩)
  replace d_r_6 : (0 ≤ a0.toInt ∧ a0.toInt < v_5.toInt) := d_r_6
  refine tot_oif (iv_oO h_T k_o (by decide) (by decide) rfl) ?_
  refine tot_ref1 e_n_3 ?_
  refine tot_oif (iv_oO h_T k_n_3 (by decide) (by decide) rfl) ?_
  refine tot_ref1 e_n_4 ?_
  refine tot_oif (iv_oO h_T k_o (by decide) (by decide) rfl) ?_
  refine tot_ref1 e_n_3 ?_
  refine tot_oif (iv_oO h_T k_n_3 (by decide) (by decide) rfl) ?_
  refine tot_ref1 e_n_4 ?_
  refine tot_oif (iv_oO h_T k_n_4 (by decide) (by decide) rfl) ?_
  refine tot_ref h_T k_n_4 (by decide) (by decide) (r2 := 60) (rfl : rtg 1 6 = 60) (by decide) (fun n_12 k_n_12 e_n_12 => ?_)
  refine tot_oif (iv_aA h_T k_n_12 (by decide) (by decide) rfl rfl) ?_
  refine tot_oif (by rw [iv_len h_T k_n_12 (by decide) (by decide) (rfl : shp 60 = (106, 4))]; exact i_inb (by omega) (by omega)) ?_
  refine tot_ref h_T k_n_12 (by decide) (by decide) (r2 := 59) (rt_60 (by omega) (by omega)) (by decide) (fun n_13 k_n_13 e_n_13 => ?_)
  refine tot_oif (iv_oO h_T k_o (by decide) (by decide) rfl) ?_
  refine tot_bind2 (cs_X11_powersNow T o h_T k_o ) (fun r_14 T_15 d_r_14 => ?_)
  have h_T_15 : IV R B K1 K2 T_15 := d_r_14.1.1
  have y_T_15 : FW R [128, 130, 131, 1952, 2144, 3202] T T_15 := d_r_14.1.2
  have x_T_15 := x_T.tr (y_T_15.w (by decide))
  have k_r_14 : R r_14 = 4 := d_r_14.2
  refine tot_oif (Nat.ble_eq_true_of_le (iv_lt h_T_15 (iv_sta h_T_15 k_r_14 (by decide) (by decide)))) ?_
  unfold g_X11_zoneBest_b41
  refine tot_oif (iv_oO h_T_15 k_r_14 (by decide) (by decide) rfl) ?_
  refine tot_ref h_T_15 k_r_14 (by decide) (by decide) (r2 := 103) (rfl : rtg 4 1 = 103) (by decide) (fun n_16 k_n_16 e_n_16 => ?_)
  refine tot_oif (iv_oO h_T_15 k_n_4 (by decide) (by decide) rfl) ?_
  refine tot_bindq (R := fun r_17 : Int32 => (0 ≤ r_17.toInt ∧ r_17.toInt ≤ 143)) (cs_X1_bestIn59 T_15 n_4 n_13 n_16 (0 : Int32) h_T_15 k_n_4 k_n_13 k_n_16 (rfl : isW 103 = true) (by omega)) (fun r_17 d_r_17 => ?_)
  replace d_r_17 : (0 ≤ r_17.toInt ∧ r_17.toInt ≤ 143) := d_r_17
  exact tot_some ⟨⟨h_T_15, x_T_15⟩, fun _ => (show (0 ≤ r_17.toInt ∧ r_17.toInt ≤ 143) from by omega)⟩
set_option maxHeartbeats 4000000 in
set_option maxRecDepth 10000 in
theorem cs_X11_contrast {R : Nat → Nat} {B K1 K2 : Nat} (T : AT) (o : Nat) (h_T : IV R B K1 K2 T) (k_o : R o = 11) : Tot (g_X11_contrast T o) (fun r => (IV R B K1 K2 r.2.2 ∧ FW R [128, 130, 131, 1952, 2144, 3202] T r.2.2) ∧ (r.1 = 0 → True)) := by
  have z0 : ((-1) : Int32).toInt = -1 := by decide
  have cc_101 : cnt 101 = 1 := rfl
  have cc_102 : cnt 102 = 12 := rfl
  have cc_103 : cnt 103 = 144 := rfl
  have cc_104 : cnt 104 = 2400 := rfl
  have cc_105 : cnt 105 = 7200 := rfl
  have x_T : FW R [128, 130, 131, 1952, 2144, 3202] T T := FW.rf
  unfold g_X11_contrast
  refine tot_oif (iv_oO h_T k_o (by decide) (by decide) rfl) ?_
  refine tot_thrp (Q := fun r_1 : Int32 => (0 ≤ r_1.toInt ∧ r_1.toInt ≤ 0)) (cs_X11_needCamera T o h_T k_o ) (fun r_1 d_r_1 => ?_) (fun k_ => ⟨⟨h_T, x_T⟩, fun q_ => absurd q_ (Nat.succ_ne_zero k_)⟩)
  replace d_r_1 : (0 ≤ r_1.toInt ∧ r_1.toInt ≤ 0) := d_r_1
  refine tot_oif (iv_oO h_T k_o (by decide) (by decide) rfl) ?_
  refine tot_bind2 (cs_X11_powersNow T o h_T k_o ) (fun r_3 T_4 d_r_3 => ?_)
  have h_T_4 : IV R B K1 K2 T_4 := d_r_3.1.1
  have y_T_4 : FW R [128, 130, 131, 1952, 2144, 3202] T T_4 := d_r_3.1.2
  have x_T_4 := x_T.tr (y_T_4.w (by decide))
  have k_r_3 : R r_3 = 4 := d_r_3.2
  refine tot_oif (Nat.ble_eq_true_of_le (iv_lt h_T_4 (iv_sta h_T_4 k_r_3 (by decide) (by decide)))) ?_
  unfold g_X11_contrast_b8
  refine tot_oif (iv_oO h_T_4 k_o (by decide) (by decide) rfl) ?_
  refine tot_ref h_T_4 k_o (by decide) (by decide) (r2 := 6) (rfl : rtg 11 14 = 6) (by decide) (fun n_5 k_n_5 e_n_5 => ?_)
  refine tot_oif (iv_oO h_T_4 k_n_5 (by decide) (by decide) rfl) ?_
  refine tot_ref h_T_4 k_n_5 (by decide) (by decide) (r2 := 1) (rfl : rtg 6 6 = 1) (by decide) (fun n_6 k_n_6 e_n_6 => ?_)
  refine tot_oif (iv_oO h_T_4 k_n_6 (by decide) (by decide) rfl) ?_
  refine tot_bindq (R := fun r_7 : Int32 => (0 ≤ r_7.toInt ∧ r_7.toInt ≤ 144)) (cs_X1_cells T_4 n_6 h_T_4 k_n_6 ) (fun r_7 d_r_7 => ?_)
  replace d_r_7 : (0 ≤ r_7.toInt ∧ r_7.toInt ≤ 144) := d_r_7
  refine tot_oif (iv_oO h_T_4 k_r_3 (by decide) (by decide) rfl) ?_
  refine tot_bindq (R := fun r_9 : Int32 => (-1 ≤ r_9.toInt ∧ r_9.toInt ≤ 143)) (cs_X4_second T_4 r_3 r_7 h_T_4 k_r_3 (by omega)) (fun r_9 d_r_9 => ?_)
  replace d_r_9 : (-1 ≤ r_9.toInt ∧ r_9.toInt ≤ 143) := d_r_9
  refine tot_if (fun c_15 => ?_) (fun c_15 => ?_)
  · replace c_15 := i_eq c_15
    unfold g_X11_contrast_b45
    exact tot_some ⟨⟨h_T_4, x_T_4⟩, fun _ => trivial⟩
  · replace c_15 := i_ne c_15
    refine tot_oif (iv_oO h_T_4 k_r_3 (by decide) (by decide) rfl) ?_
    refine tot_ref h_T_4 k_r_3 (by decide) (by decide) (r2 := 103) (rfl : rtg 4 1 = 103) (by decide) (fun n_11 k_n_11 e_n_11 => ?_)
    refine tot_oif (iv_oO h_T_4 k_r_3 (by decide) (by decide) rfl) ?_
    refine tot_let (fun v_12 e_v_12 => ?_)
    have r_v_12 : 0 ≤ v_12.toInt ∧ v_12.toInt ≤ 143 := iv_int h_T_4 k_r_3 (by decide) (by decide) e_v_12 rfl
    refine tot_oif (w_oO h_T_4 k_n_11 (rfl : isW 103 = true)) ?_
    refine tot_bindq (R := fun r_13 : UInt32 => True) (c_ratio (a0 := v_12) (a1 := r_9) k_n_11 (rfl : isW 103 = true) h_T_4 (by omega) (by omega)) (fun r_13 d_r_13 => ?_)
    unfold g_X11_contrast_b45
    exact tot_some ⟨⟨h_T_4, x_T_4⟩, fun _ => trivial⟩
set_option maxHeartbeats 4000000 in
set_option maxRecDepth 10000 in
theorem cl_X11_confusion_b46 {R : Nat → Nat} {B K1 K2 : Nat} {Q : Int32 × AT → Prop} {k28 : AT → Nat → Int32 → Nat → Nat → Int32 → Int32 → Option (Int32 × AT)} (T : AT) (l0 : Nat) (l3 : Int32) (l4 : Nat) (l5 : Nat) (l6 : Int32) (l7 : Int32) (h_T : IV R B K1 K2 T) (k_l0 : R l0 = 11) (k_l4 : R l4 = 50) (k_l5 : R l5 = 50) (g0 : 2 ≤ l3.toInt ∧ l3.toInt ≤ 99) (g1 : 0 ≤ l6.toInt ∧ l6.toInt ≤ 2147483647) (g2 : 0 ≤ l7.toInt ∧ l7.toInt ≤ 11) (hx0 : ∀ (l8 : Int32), Tot (elet (if l6 < l8 then l8 else l6) fun v_112 => elet (l7 + Int32.ofInt (1)) fun v_113 => k28 T l0 l3 l4 l5 v_112 v_113) Q) : ∀ (n : Nat) (l8 : Int32) (l9 : Int32), (0 ≤ l9.toInt ∧ l9.toInt ≤ 12) → 12 - l9.toInt < (n : Int) → Tot (g_X11_confusion_b46 k28 n T l0 l3 l4 l5 l6 l7 l8 l9) Q := by
  have z0 : (0 : Int32).toInt = 0 := by decide
  have z1 : (Int32.ofInt (1) : Int32).toInt = 1 := by decide
  have cc_101 : cnt 101 = 1 := rfl
  have cc_102 : cnt 102 = 12 := rfl
  have cc_103 : cnt 103 = 144 := rfl
  have cc_104 : cnt 104 = 2400 := rfl
  have cc_105 : cnt 105 = 7200 := rfl
  have j_l3 := i_any l3
  have j_l6 := i_any l6
  have j_l7 := i_any l7
  intro n
  induction n with
  | zero =>
    intro l8 l9 g_l9 hm
    exfalso
    omega
  | succ n ih =>
    intro l8 l9 g_l9 hm
    unfold g_X11_confusion_b46
    refine tot_oif (iv_oO h_T k_l0 (by decide) (by decide) rfl) ?_
    refine tot_ref h_T k_l0 (by decide) (by decide) (r2 := 6) (rfl : rtg 11 14 = 6) (by decide) (fun n_110 k_n_110 e_n_110 => ?_)
    refine tot_oif (iv_oO h_T k_n_110 (by decide) (by decide) rfl) ?_
    refine tot_let (fun v_111 e_v_111 => ?_)
    have r_v_111 : 0 ≤ v_111.toInt ∧ v_111.toInt ≤ 12 := iv_int h_T k_n_110 (by decide) (by decide) e_v_111 rfl
    refine tot_if (fun c_129 => ?_) (fun c_129 => ?_)
    · replace c_129 := i_le c_129
      exact hx0 l8 
    · replace c_129 := i_nle c_129
      refine tot_oif (iv_aA h_T k_l4 (by decide) (by decide) rfl rfl) ?_
      refine tot_oif (by rw [iv_len h_T k_l4 (by decide) (by decide) (rfl : shp 50 = (100, 12))]; exact i_inb (by omega) (by omega)) ?_
      refine tot_let (fun v_114 e_v_114 => ?_)
      have r_v_114 := i_any v_114
      refine tot_oif (iv_aA h_T k_l5 (by decide) (by decide) rfl rfl) ?_
      refine tot_oif (by rw [iv_len h_T k_l5 (by decide) (by decide) (rfl : shp 50 = (100, 12))]; exact i_inb (by omega) (by omega)) ?_
      refine tot_let (fun v_115 e_v_115 => ?_)
      have r_v_115 := i_any v_115
      refine tot_let (fun v_116 e_v_116 => ?_)
      have r_v_116 := i_any v_116
      refine tot_oif (iv_aA h_T k_l4 (by decide) (by decide) rfl rfl) ?_
      refine tot_oif (by rw [iv_len h_T k_l4 (by decide) (by decide) (rfl : shp 50 = (100, 12))]; exact i_inb (by omega) (by omega)) ?_
      refine tot_let (fun v_117 e_v_117 => ?_)
      have r_v_117 := i_any v_117
      refine tot_oif (iv_aA h_T k_l5 (by decide) (by decide) rfl rfl) ?_
      refine tot_oif (by rw [iv_len h_T k_l5 (by decide) (by decide) (rfl : shp 50 = (100, 12))]; exact i_inb (by omega) (by omega)) ?_
      refine tot_let (fun v_118 e_v_118 => ?_)
      have r_v_118 := i_any v_118
      refine tot_let (fun v_119 e_v_119 => ?_)
      have r_v_119 := i_any v_119
      refine tot_let (fun v_120 e_v_120 => ?_)
      have r_v_120 := i_any v_120
      refine tot_oif (iv_oO h_T k_l0 (by decide) (by decide) rfl) ?_
      refine tot_ref h_T k_l0 (by decide) (by decide) (r2 := 8) (rfl : rtg 11 6 = 8) (by decide) (fun n_121 k_n_121 e_n_121 => ?_)
      refine tot_oif (iv_oO h_T k_n_121 (by decide) (by decide) rfl) ?_
      refine tot_ref h_T k_n_121 (by decide) (by decide) (r2 := 62) (rfl : rtg 8 3 = 62) (by decide) (fun n_122 k_n_122 e_n_122 => ?_)
      refine tot_oif (iv_aA h_T k_n_122 (by decide) (by decide) rfl rfl) ?_
      refine tot_oif (by rw [iv_len h_T k_n_122 (by decide) (by decide) (rfl : shp 62 = (102, 12))]; exact i_inb (by omega) (by omega)) ?_
      refine tot_let (fun v_123 e_v_123 => ?_)
      have r_v_123 : 0 ≤ v_123.toInt ∧ v_123.toInt ≤ 1 := iv_int h_T k_n_122 (by decide) (by decide) e_v_123 rfl
      refine tot_if (fun c_130 => ?_) (fun c_130 => ?_)
      · replace c_130 := i_eq c_130
        refine tot_oif (iv_oO h_T k_l0 (by decide) (by decide) rfl) ?_
        refine tot_ref1 e_n_121 ?_
        refine tot_oif (iv_oO h_T k_n_121 (by decide) (by decide) rfl) ?_
        refine tot_ref1 e_n_122 ?_
        refine tot_oif (iv_aA h_T k_n_122 (by decide) (by decide) rfl rfl) ?_
        refine tot_oif (by rw [iv_len h_T k_n_122 (by decide) (by decide) (rfl : shp 62 = (102, 12))]; exact i_inb (by omega) (by omega)) ?_
        refine tot_let (fun v_126 e_v_126 => ?_)
        have r_v_126 : 0 ≤ v_126.toInt ∧ v_126.toInt ≤ 1 := iv_int h_T k_n_122 (by decide) (by decide) e_v_126 rfl
        refine tot_if (fun c_131 => ?_) (fun c_131 => ?_)
        · replace c_131 := i_eq c_131
          refine tot_bind (cs_X11_remainder v_120 l3 ) (fun r_127 d_r_127 => ?_)
          replace d_r_127 : ((0 ≤ v_120.toInt ∧ 0 ≤ l3.toInt → 0 ≤ r_127.toInt ∧ r_127.toInt ≤ v_120.toInt) ∧ (1 ≤ l3.toInt → -l3.toInt < r_127.toInt ∧ r_127.toInt < l3.toInt) ∧ (l3.toInt = 0 → r_127.toInt = 0)) := d_r_127
          refine tot_if (fun c_132 => ?_) (fun c_132 => ?_)
          · replace c_132 := i_eq c_132
            refine tot_let (fun v_128 e_v_128 => ?_)
            have r_v_128 := i_any v_128
            unfold g_X11_confusion_b121
            refine tot_let (fun v_133 e_v_133 => ?_)
            have q_v_133 := i_add e_v_133 (by omega) (by omega)
            exact ih v_128 v_133 (by omega) (by omega)
          · replace c_132 := i_ne c_132
            unfold g_X11_confusion_b121
            refine tot_let (fun v_134 e_v_134 => ?_)
            have q_v_134 := i_add e_v_134 (by omega) (by omega)
            exact ih l8 v_134 (by omega) (by omega)
        · replace c_131 := i_ne c_131
          unfold g_X11_confusion_b121
          refine tot_let (fun v_135 e_v_135 => ?_)
          have q_v_135 := i_add e_v_135 (by omega) (by omega)
          exact ih l8 v_135 (by omega) (by omega)
      · replace c_130 := i_ne c_130
        unfold g_X11_confusion_b121
        refine tot_let (fun v_136 e_v_136 => ?_)
        have q_v_136 := i_add e_v_136 (by omega) (by omega)
        exact ih l8 v_136 (by omega) (by omega)
set_option maxHeartbeats 4000000 in
set_option maxRecDepth 10000 in
theorem cl_X11_confusion_b28 {R : Nat → Nat} {B K1 K2 : Nat} {Q : Int32 × AT → Prop} (T : AT) (l0 : Nat) (l3 : Int32) (l4 : Nat) (l5 : Nat) (h_T : IV R B K1 K2 T) (k_l0 : R l0 = 11) (k_l4 : R l4 = 50) (k_l5 : R l5 = 50) (g0 : 2 ≤ l3.toInt ∧ l3.toInt ≤ 99) (hx0 : ∀ (l6 : Int32), (0 ≤ l6.toInt ∧ l6.toInt ≤ 2147483647) → Tot (some (l6, T)) Q) : ∀ (n : Nat) (l6 : Int32) (l7 : Int32), (0 ≤ l6.toInt ∧ l6.toInt ≤ 2147483647) → (0 ≤ l7.toInt ∧ l7.toInt ≤ 12) → 12 - l7.toInt < (n : Int) → Tot (g_X11_confusion_b28 n T l0 l3 l4 l5 l6 l7) Q := by
  have z0 : (0 : Int32).toInt = 0 := by decide
  have z1 : (Int32.ofInt (1) : Int32).toInt = 1 := by decide
  have cc_101 : cnt 101 = 1 := rfl
  have cc_102 : cnt 102 = 12 := rfl
  have cc_103 : cnt 103 = 144 := rfl
  have cc_104 : cnt 104 = 2400 := rfl
  have cc_105 : cnt 105 = 7200 := rfl
  have j_l3 := i_any l3
  intro n
  induction n with
  | zero =>
    intro l6 l7 g_l6 g_l7 hm
    exfalso
    omega
  | succ n ih =>
    intro l6 l7 g_l6 g_l7 hm
    unfold g_X11_confusion_b28
    refine tot_oif (iv_oO h_T k_l0 (by decide) (by decide) rfl) ?_
    refine tot_ref h_T k_l0 (by decide) (by decide) (r2 := 6) (rfl : rtg 11 14 = 6) (by decide) (fun n_84 k_n_84 e_n_84 => ?_)
    refine tot_oif (iv_oO h_T k_n_84 (by decide) (by decide) rfl) ?_
    refine tot_let (fun v_85 e_v_85 => ?_)
    have r_v_85 : 0 ≤ v_85.toInt ∧ v_85.toInt ≤ 12 := iv_int h_T k_n_84 (by decide) (by decide) e_v_85 rfl
    refine tot_if (fun c_86 => ?_) (fun c_86 => ?_)
    · replace c_86 := i_le c_86
      exact hx0 l6 (by omega)
    · replace c_86 := i_nle c_86
      refine cl_X11_confusion_b46 T l0 l3 l4 l5 l6 l7 h_T k_l0 k_l4 k_l5 (by omega) (by omega) (by omega) ?_ 16384 0 0 (by omega) (by omega)
      · intro l_137
        have j_l_137 := i_any l_137
        refine tot_let (fun v_138 e_v_138 => ?_)
        have q_v_138 := i_ilt e_v_138
        refine tot_let (fun v_139 e_v_139 => ?_)
        have q_v_139 := i_add e_v_139 (by omega) (by omega)
        exact ih v_138 v_139 (by omega) (by omega) (by omega)
set_option maxHeartbeats 4000000 in
set_option maxRecDepth 10000 in
theorem cs_X11_confusion {R : Nat → Nat} {B K1 K2 : Nat} (T : AT) (o : Nat) (a0 : Int32) (a1 : Int32) (a2 : Int32) (h_T : IV R B K1 K2 T) (k_o : R o = 11) (g0 : 0 ≤ a0.toInt ∧ a0.toInt ≤ 143) (g1 : 0 ≤ a1.toInt ∧ a1.toInt ≤ 143) (g2 : 2 ≤ a2.toInt ∧ a2.toInt ≤ 99) : Tot (g_X11_confusion T o a0 a1 a2) (fun r => r.2 = T ∧ (0 ≤ r.1.toInt ∧ r.1.toInt ≤ 2147483647)) := by
  have z0 : (0 : Int32).toInt = 0 := by decide
  have cc_101 : cnt 101 = 1 := rfl
  have cc_102 : cnt 102 = 12 := rfl
  have cc_103 : cnt 103 = 144 := rfl
  have cc_104 : cnt 104 = 2400 := rfl
  have cc_105 : cnt 105 = 7200 := rfl
  have j_a0 := i_any a0
  have j_a1 := i_any a1
  have j_a2 := i_any a2
  unfold g_X11_confusion
  refine tot_oif (iv_oO h_T k_o (by decide) (by decide) rfl) ?_
  refine tot_ref h_T k_o (by decide) (by decide) (r2 := 6) (rfl : rtg 11 14 = 6) (by decide) (fun n_1 k_n_1 e_n_1 => ?_)
  refine tot_oif (iv_oO h_T k_n_1 (by decide) (by decide) rfl) ?_
  refine tot_ref h_T k_n_1 (by decide) (by decide) (r2 := 51) (rfl : rtg 6 17 = 51) (by decide) (fun n_2 k_n_2 e_n_2 => ?_)
  refine tot_oif (iv_aA h_T k_n_2 (by decide) (by decide) rfl rfl) ?_
  refine tot_oif (by rw [iv_len h_T k_n_2 (by decide) (by decide) (rfl : shp 51 = (106, 144))]; exact i_inb (by omega) (by omega)) ?_
  refine tot_ref h_T k_n_2 (by decide) (by decide) (r2 := 50) (rt_51 (by omega) (by omega)) (by decide) (fun n_3 k_n_3 e_n_3 => ?_)
  refine tot_oif (iv_oO h_T k_o (by decide) (by decide) rfl) ?_
  refine tot_ref1 e_n_1 ?_
  refine tot_oif (iv_oO h_T k_n_1 (by decide) (by decide) rfl) ?_
  refine tot_ref1 e_n_2 ?_
  refine tot_oif (iv_aA h_T k_n_2 (by decide) (by decide) rfl rfl) ?_
  refine tot_oif (by rw [iv_len h_T k_n_2 (by decide) (by decide) (rfl : shp 51 = (106, 144))]; exact i_inb (by omega) (by omega)) ?_
  refine tot_ref h_T k_n_2 (by decide) (by decide) (r2 := 50) (rt_51 (by omega) (by omega)) (by decide) (fun n_6 k_n_6 e_n_6 => ?_)
  refine cl_X11_confusion_b28 T o a2 n_3 n_6 h_T k_o k_n_3 k_n_6 (by omega) ?_ 16384 0 0 (by omega) (by omega) (by omega)
  · intro l_140 g_l_140
    exact tot_some ⟨rfl, (show (0 ≤ l_140.toInt ∧ l_140.toInt ≤ 2147483647) from by omega)⟩
set_option maxHeartbeats 4000000 in
set_option maxRecDepth 10000 in
theorem cs_X11_alias {R : Nat → Nat} {B K1 K2 : Nat} (T : AT) (o : Nat) (a0 : Int32) (a1 : Int32) (a2 : Int32) (h_T : IV R B K1 K2 T) (k_o : R o = 11) : Tot (g_X11_alias T o a0 a1 a2) (fun r => r.2.2 = T ∧ (r.1 = 0 → (0 ≤ r.2.1.toInt ∧ r.2.1.toInt ≤ 2147483647))) := by
  have z0 : ((2 : Int32) : Int32).toInt = 2 := by decide
  have z1 : ((99 : Int32) : Int32).toInt = 99 := by decide
  have cc_101 : cnt 101 = 1 := rfl
  have cc_102 : cnt 102 = 12 := rfl
  have cc_103 : cnt 103 = 144 := rfl
  have cc_104 : cnt 104 = 2400 := rfl
  have cc_105 : cnt 105 = 7200 := rfl
  have j_a0 := i_any a0
  have j_a1 := i_any a1
  have j_a2 := i_any a2
  unfold g_X11_alias
  refine tot_oif (iv_oO h_T k_o (by decide) (by decide) rfl) ?_
  refine tot_thrp (Q := fun r_1 : Int32 => (0 ≤ r_1.toInt ∧ r_1.toInt ≤ 0)) (cs_X11_needCamera T o h_T k_o ) (fun r_1 d_r_1 => ?_) (fun k_ => ⟨rfl, fun q_ => absurd q_ (Nat.succ_ne_zero k_)⟩)
  replace d_r_1 : (0 ≤ r_1.toInt ∧ r_1.toInt ≤ 0) := d_r_1
  refine tot_oif (iv_oO h_T k_o (by decide) (by decide) rfl) ?_
  refine tot_thrp (Q := fun r_3 : Int32 => (0 ≤ a0.toInt ∧ a0.toInt ≤ 143)) (cs_X11_needCell T o a0 h_T k_o ) (fun r_3 d_r_3 => ?_) (fun k_ => ⟨rfl, fun q_ => absurd q_ (Nat.succ_ne_zero k_)⟩)
  replace d_r_3 : (0 ≤ a0.toInt ∧ a0.toInt ≤ 143) := d_r_3
  refine tot_oif (iv_oO h_T k_o (by decide) (by decide) rfl) ?_
  refine tot_thrp (Q := fun r_5 : Int32 => (0 ≤ a1.toInt ∧ a1.toInt ≤ 143)) (cs_X11_needCell T o a1 h_T k_o ) (fun r_5 d_r_5 => ?_) (fun k_ => ⟨rfl, fun q_ => absurd q_ (Nat.succ_ne_zero k_)⟩)
  replace d_r_5 : (0 ≤ a1.toInt ∧ a1.toInt ≤ 143) := d_r_5
  refine tot_thrp (Q := fun r_7 : Int32 => (((2 : Int32) : Int32).toInt ≤ a2.toInt ∧ a2.toInt ≤ ((99 : Int32) : Int32).toInt)) (cs_X11_needRange T a2 (2 : Int32) (99 : Int32) h_T ) (fun r_7 d_r_7 => ?_) (fun k_ => ⟨rfl, fun q_ => absurd q_ (Nat.succ_ne_zero k_)⟩)
  replace d_r_7 : (((2 : Int32) : Int32).toInt ≤ a2.toInt ∧ a2.toInt ≤ ((99 : Int32) : Int32).toInt) := d_r_7
  refine tot_oif (iv_oO h_T k_o (by decide) (by decide) rfl) ?_
  refine tot_bindq (R := fun r_9 : Int32 => (0 ≤ r_9.toInt ∧ r_9.toInt ≤ 2147483647)) (cs_X11_confusion T o a0 a1 a2 h_T k_o (by omega) (by omega) (by omega)) (fun r_9 d_r_9 => ?_)
  replace d_r_9 : (0 ≤ r_9.toInt ∧ r_9.toInt ≤ 2147483647) := d_r_9
  exact tot_some ⟨rfl, fun _ => (show (0 ≤ r_9.toInt ∧ r_9.toInt ≤ 2147483647) from by omega)⟩
set_option maxHeartbeats 4000000 in
set_option maxRecDepth 10000 in
theorem cs_X11_marksAlias {R : Nat → Nat} {B K1 K2 : Nat} (T : AT) (o : Nat) (a0 : Nat) (a1 : Int32) (a2 : Int32) (a3 : Int32) (h_T : IV R B K1 K2 T) (k_o : R o = 11) (k_a0 : R a0 = 4) (g0 : 0 ≤ a1.toInt ∧ a1.toInt ≤ 143) (g1 : 2 ≤ a2.toInt ∧ a2.toInt ≤ 99) (g2 : 1 ≤ a3.toInt ∧ a3.toInt ≤ 100) : Tot (g_X11_marksAlias T o a0 a1 a2 a3) (fun r => (IV R B K1 K2 r.2 ∧ FW R [1952] T r.2) ∧ (0 ≤ r.1.toInt ∧ r.1.toInt ≤ 1)) := by
  have z0 : (0 : Int32).toInt = 0 := by decide
  have z1 : (100 : Int32).toInt = 100 := by decide
  have z2 : (1 : Int32).toInt = 1 := by decide
  have cc_101 : cnt 101 = 1 := rfl
  have cc_102 : cnt 102 = 12 := rfl
  have cc_103 : cnt 103 = 144 := rfl
  have cc_104 : cnt 104 = 2400 := rfl
  have cc_105 : cnt 105 = 7200 := rfl
  have x_T : FW R [1952] T T := FW.rf
  have j_a1 := i_any a1
  have j_a2 := i_any a2
  have j_a3 := i_any a3
  unfold g_X11_marksAlias
  refine tot_oif (iv_oO h_T k_o (by decide) (by decide) rfl) ?_
  refine tot_ref h_T k_o (by decide) (by decide) (r2 := 8) (rfl : rtg 11 6 = 8) (by decide) (fun n_1 k_n_1 e_n_1 => ?_)
  refine tot_oif (iv_oO h_T k_n_1 (by decide) (by decide) rfl) ?_
  refine tot_bindq (R := fun r_2 : Int32 => True) (cs_X8_activeMics T n_1 h_T k_n_1 ) (fun r_2 d_r_2 => ?_)
  have r_r_2 := i_any r_2
  refine tot_oif (iv_oO h_T k_a0 (by decide) (by decide) rfl) ?_
  refine tot_let (fun v_4 e_v_4 => ?_)
  have r_v_4 : 0 ≤ v_4.toInt ∧ v_4.toInt ≤ 143 := iv_int h_T k_a0 (by decide) (by decide) e_v_4 rfl
  refine tot_if (fun c_14 => ?_) (fun c_14 => ?_)
  · replace c_14 := i_eq c_14
    unfold g_X11_marksAlias_b62
    unfold g_X11_marksAlias_b63
    refine tot_oif (i_b01 (by omega)) ?_
    exact tot_some ⟨⟨h_T, x_T⟩, (show (0 ≤ (0 : Int32).toInt ∧ (0 : Int32).toInt ≤ 1) from by omega)⟩
  · replace c_14 := i_ne c_14
    refine tot_if (fun c_15 => ?_) (fun c_15 => ?_)
    · replace c_15 := i_le c_15
      unfold g_X11_marksAlias_b62
      unfold g_X11_marksAlias_b63
      refine tot_oif (i_b01 (by omega)) ?_
      exact tot_some ⟨⟨h_T, x_T⟩, (show (0 ≤ (0 : Int32).toInt ∧ (0 : Int32).toInt ≤ 1) from by omega)⟩
    · replace c_15 := i_nle c_15
      refine tot_oif (iv_oO h_T k_o (by decide) (by decide) rfl) ?_
      refine tot_ref h_T k_o (by decide) (by decide) (r2 := 6) (rfl : rtg 11 14 = 6) (by decide) (fun n_5 k_n_5 e_n_5 => ?_)
      refine tot_oif (iv_oO h_T k_n_5 (by decide) (by decide) rfl) ?_
      refine tot_ref h_T k_n_5 (by decide) (by decide) (r2 := 1) (rfl : rtg 6 6 = 1) (by decide) (fun n_6 k_n_6 e_n_6 => ?_)
      refine tot_oif (iv_oO h_T k_a0 (by decide) (by decide) rfl) ?_
      refine tot_bind2 (cs_X4_standsOut T a0 a1 n_6 h_T k_a0 k_n_6 (by omega)) (fun r_7 T_8 d_r_7 => ?_)
      have h_T_8 : IV R B K1 K2 T_8 := d_r_7.1.1
      have y_T_8 : FW R [1952] T T_8 := d_r_7.1.2
      have x_T_8 := x_T.tr (y_T_8.w (by decide))
      replace d_r_7 : (0 ≤ r_7.toInt ∧ r_7.toInt ≤ 1) := d_r_7.2
      refine tot_if (fun c_16 => ?_) (fun c_16 => ?_)
      · replace c_16 := i_eq c_16
        unfold g_X11_marksAlias_b62
        unfold g_X11_marksAlias_b63
        refine tot_oif (i_b01 (by omega)) ?_
        exact tot_some ⟨⟨h_T_8, x_T_8⟩, (show (0 ≤ (0 : Int32).toInt ∧ (0 : Int32).toInt ≤ 1) from by omega)⟩
      · replace c_16 := i_ne c_16
        refine tot_oif (iv_oO h_T_8 k_a0 (by decide) (by decide) rfl) ?_
        refine tot_let (fun v_9 e_v_9 => ?_)
        have r_v_9 : 0 ≤ v_9.toInt ∧ v_9.toInt ≤ 143 := iv_int h_T_8 k_a0 (by decide) (by decide) e_v_9 rfl
        refine tot_oif (iv_oO h_T_8 k_o (by decide) (by decide) rfl) ?_
        refine tot_bindq (R := fun r_10 : Int32 => (0 ≤ r_10.toInt ∧ r_10.toInt ≤ 2147483647)) (cs_X11_confusion T_8 o a1 v_9 a2 h_T_8 k_o (by omega) (by omega) (by omega)) (fun r_10 d_r_10 => ?_)
        replace d_r_10 : (0 ≤ r_10.toInt ∧ r_10.toInt ≤ 2147483647) := d_r_10
        refine tot_let (fun v_12 e_v_12 => ?_)
        have r_v_12 := i_any v_12
        refine tot_let (fun v_13 e_v_13 => ?_)
        have r_v_13 := i_any v_13
        refine tot_if (fun c_17 => ?_) (fun c_17 => ?_)
        · replace c_17 := i_lt c_17
          unfold g_X11_marksAlias_b62
          unfold g_X11_marksAlias_b63
          refine tot_oif (i_b01 (by omega)) ?_
          exact tot_some ⟨⟨h_T_8, x_T_8⟩, (show (0 ≤ (0 : Int32).toInt ∧ (0 : Int32).toInt ≤ 1) from by omega)⟩
        · replace c_17 := i_nlt c_17
          unfold g_X11_marksAlias_b63
          refine tot_oif (i_b01 (by omega)) ?_
          exact tot_some ⟨⟨h_T_8, x_T_8⟩, (show (0 ≤ (1 : Int32).toInt ∧ (1 : Int32).toInt ≤ 1) from by omega)⟩
set_option maxHeartbeats 4000000 in
set_option maxRecDepth 10000 in
theorem cs_X11_isAlias {R : Nat → Nat} {B K1 K2 : Nat} (T : AT) (o : Nat) (a0 : Int32) (a1 : Int32) (a2 : Int32) (h_T : IV R B K1 K2 T) (k_o : R o = 11) : Tot (g_X11_isAlias T o a0 a1 a2) (fun r => (IV R B K1 K2 r.2.2 ∧ FW R [128, 130, 131, 1952, 2144, 3202] T r.2.2) ∧ (r.1 = 0 → (0 ≤ r.2.1.toInt ∧ r.2.1.toInt ≤ 1))) := by
  have z0 : ((2 : Int32) : Int32).toInt = 2 := by decide
  have z1 : ((99 : Int32) : Int32).toInt = 99 := by decide
  have z2 : ((1 : Int32) : Int32).toInt = 1 := by decide
  have z3 : ((100 : Int32) : Int32).toInt = 100 := by decide
  have cc_101 : cnt 101 = 1 := rfl
  have cc_102 : cnt 102 = 12 := rfl
  have cc_103 : cnt 103 = 144 := rfl
  have cc_104 : cnt 104 = 2400 := rfl
  have cc_105 : cnt 105 = 7200 := rfl
  have x_T : FW R [128, 130, 131, 1952, 2144, 3202] T T := FW.rf
  have j_a0 := i_any a0
  have j_a1 := i_any a1
  have j_a2 := i_any a2
  unfold g_X11_isAlias
  refine tot_oif (iv_oO h_T k_o (by decide) (by decide) rfl) ?_
  refine tot_thrp (Q := fun r_1 : Int32 => (0 ≤ r_1.toInt ∧ r_1.toInt ≤ 0)) (cs_X11_needCamera T o h_T k_o ) (fun r_1 d_r_1 => ?_) (fun k_ => ⟨⟨h_T, x_T⟩, fun q_ => absurd q_ (Nat.succ_ne_zero k_)⟩)
  replace d_r_1 : (0 ≤ r_1.toInt ∧ r_1.toInt ≤ 0) := d_r_1
  refine tot_oif (iv_oO h_T k_o (by decide) (by decide) rfl) ?_
  refine tot_thrp (Q := fun r_3 : Int32 => (0 ≤ a0.toInt ∧ a0.toInt ≤ 143)) (cs_X11_needCell T o a0 h_T k_o ) (fun r_3 d_r_3 => ?_) (fun k_ => ⟨⟨h_T, x_T⟩, fun q_ => absurd q_ (Nat.succ_ne_zero k_)⟩)
  replace d_r_3 : (0 ≤ a0.toInt ∧ a0.toInt ≤ 143) := d_r_3
  refine tot_thrp (Q := fun r_5 : Int32 => (((2 : Int32) : Int32).toInt ≤ a1.toInt ∧ a1.toInt ≤ ((99 : Int32) : Int32).toInt)) (cs_X11_needRange T a1 (2 : Int32) (99 : Int32) h_T ) (fun r_5 d_r_5 => ?_) (fun k_ => ⟨⟨h_T, x_T⟩, fun q_ => absurd q_ (Nat.succ_ne_zero k_)⟩)
  replace d_r_5 : (((2 : Int32) : Int32).toInt ≤ a1.toInt ∧ a1.toInt ≤ ((99 : Int32) : Int32).toInt) := d_r_5
  refine tot_thrp (Q := fun r_7 : Int32 => (((1 : Int32) : Int32).toInt ≤ a2.toInt ∧ a2.toInt ≤ ((100 : Int32) : Int32).toInt)) (cs_X11_needRange T a2 (1 : Int32) (100 : Int32) h_T ) (fun r_7 d_r_7 => ?_) (fun k_ => ⟨⟨h_T, x_T⟩, fun q_ => absurd q_ (Nat.succ_ne_zero k_)⟩)
  replace d_r_7 : (((1 : Int32) : Int32).toInt ≤ a2.toInt ∧ a2.toInt ≤ ((100 : Int32) : Int32).toInt) := d_r_7
  refine tot_oif (iv_oO h_T k_o (by decide) (by decide) rfl) ?_
  refine tot_bind2 (cs_X11_powersNow T o h_T k_o ) (fun r_9 T_10 d_r_9 => ?_)
  have h_T_10 : IV R B K1 K2 T_10 := d_r_9.1.1
  have y_T_10 : FW R [128, 130, 131, 1952, 2144, 3202] T T_10 := d_r_9.1.2
  have x_T_10 := x_T.tr (y_T_10.w (by decide))
  have k_r_9 : R r_9 = 4 := d_r_9.2
  refine tot_oif (Nat.ble_eq_true_of_le (iv_lt h_T_10 (iv_sta h_T_10 k_r_9 (by decide) (by decide)))) ?_
  unfold g_X11_isAlias_b28
  refine tot_oif (iv_oO h_T_10 k_o (by decide) (by decide) rfl) ?_
  refine tot_bind2 (cs_X11_marksAlias T_10 o r_9 a0 a1 a2 h_T_10 k_o k_r_9 (by omega) (by omega) (by omega)) (fun r_11 T_12 d_r_11 => ?_)
  have h_T_12 : IV R B K1 K2 T_12 := d_r_11.1.1
  have y_T_12 : FW R [1952] T_10 T_12 := d_r_11.1.2
  have x_T_12 := x_T_10.tr (y_T_12.w (by decide))
  replace d_r_11 : (0 ≤ r_11.toInt ∧ r_11.toInt ≤ 1) := d_r_11.2
  refine tot_oif (i_b01 (by omega)) ?_
  exact tot_some ⟨⟨h_T_12, x_T_12⟩, fun _ => (show (0 ≤ r_11.toInt ∧ r_11.toInt ≤ 1) from by omega)⟩
set_option maxHeartbeats 4000000 in
set_option maxRecDepth 10000 in
theorem cl_X11_aliases_b29 {R : Nat → Nat} {B K1 K2 : Nat} {Q : Nat × Int32 × AT → Prop} (l0 : Nat) (l1 : Int32) (l2 : Int32) (l3 : Nat) (T00 : AT) (k_l0 : R l0 = 11) (k_l3 : R l3 = 4) (hthr : ∀ (k : Nat) (U : AT), IV R B K1 K2 U → FW R [128, 130, 131, 1952, 2144, 3202] T00 U → Q (k + 1, 0, U)) (g0 : 2 ≤ l1.toInt ∧ l1.toInt ≤ 99) (g1 : 1 ≤ l2.toInt ∧ l2.toInt ≤ 100) (hx0 : ∀ (T : AT) (l4 : Int32), (IV R B K1 K2 T) → (FW R [128, 130, 131, 1952, 2144, 3202] T00 T) → Tot (some (0, l4, T)) Q) : ∀ (n : Nat) (T : AT) (l4 : Int32) (l5 : Int32), (IV R B K1 K2 T) → (FW R [128, 130, 131, 1952, 2144, 3202] T00 T) → (0 ≤ l5.toInt ∧ l5.toInt ≤ 144) → 144 - l5.toInt < (n : Int) → Tot (g_X11_aliases_b29 n T l0 l1 l2 l3 l4 l5) Q := by
  have z0 : (0 : Int32).toInt = 0 := by decide
  have z1 : (Int32.ofInt (1) : Int32).toInt = 1 := by decide
  have cc_101 : cnt 101 = 1 := rfl
  have cc_102 : cnt 102 = 12 := rfl
  have cc_103 : cnt 103 = 144 := rfl
  have cc_104 : cnt 104 = 2400 := rfl
  have cc_105 : cnt 105 = 7200 := rfl
  have j_l1 := i_any l1
  have j_l2 := i_any l2
  intro n
  induction n with
  | zero =>
    intro T l4 l5 h_T x_T g_l5 hm
    exfalso
    omega
  | succ n ih =>
    intro T l4 l5 h_T x_T g_l5 hm
    unfold g_X11_aliases_b29
    refine tot_oif (iv_oO h_T k_l0 (by decide) (by decide) rfl) ?_
    refine tot_ref h_T k_l0 (by decide) (by decide) (r2 := 6) (rfl : rtg 11 14 = 6) (by decide) (fun n_27 k_n_27 e_n_27 => ?_)
    refine tot_oif (iv_oO h_T k_n_27 (by decide) (by decide) rfl) ?_
    refine tot_ref h_T k_n_27 (by decide) (by decide) (r2 := 1) (rfl : rtg 6 6 = 1) (by decide) (fun n_28 k_n_28 e_n_28 => ?_)
    refine tot_oif (iv_oO h_T k_n_28 (by decide) (by decide) rfl) ?_
    refine tot_bindq (R := fun r_29 : Int32 => (0 ≤ r_29.toInt ∧ r_29.toInt ≤ 144)) (cs_X1_cells T n_28 h_T k_n_28 ) (fun r_29 d_r_29 => ?_)
    replace d_r_29 : (0 ≤ r_29.toInt ∧ r_29.toInt ≤ 144) := d_r_29
    refine tot_if (fun c_34 => ?_) (fun c_34 => ?_)
    · replace c_34 := i_le c_34
      exact hx0 T l4 h_T x_T
    · replace c_34 := i_nle c_34
      refine tot_oif (iv_oO h_T k_l0 (by decide) (by decide) rfl) ?_
      refine tot_bind2 (cs_X11_marksAlias T l0 l3 l5 l1 l2 h_T k_l0 k_l3 (by omega) (by omega) (by omega)) (fun r_31 T_32 d_r_31 => ?_)
      have h_T_32 : IV R B K1 K2 T_32 := d_r_31.1.1
      have y_T_32 : FW R [1952] T T_32 := d_r_31.1.2
      have x_T_32 := x_T.tr (y_T_32.w (by decide))
      replace d_r_31 : (0 ≤ r_31.toInt ∧ r_31.toInt ≤ 1) := d_r_31.2
      refine tot_if (fun c_35 => ?_) (fun c_35 => ?_)
      · replace c_35 := i_eq c_35
        unfold g_X11_aliases_b59
        refine tot_let (fun v_36 e_v_36 => ?_)
        have q_v_36 := i_add e_v_36 (by omega) (by omega)
        exact ih T_32 l4 v_36 h_T_32 x_T_32 (by omega) (by omega)
      · replace c_35 := i_ne c_35
        refine tot_let (fun v_33 e_v_33 => ?_)
        have r_v_33 := i_any v_33
        unfold g_X11_aliases_b59
        refine tot_let (fun v_37 e_v_37 => ?_)
        have q_v_37 := i_add e_v_37 (by omega) (by omega)
        exact ih T_32 v_33 v_37 h_T_32 x_T_32 (by omega) (by omega)
set_option maxHeartbeats 4000000 in
set_option maxRecDepth 10000 in
theorem cs_X11_aliases {R : Nat → Nat} {B K1 K2 : Nat} (T : AT) (o : Nat) (a0 : Int32) (a1 : Int32) (h_T : IV R B K1 K2 T) (k_o : R o = 11) : Tot (g_X11_aliases T o a0 a1) (fun r => (IV R B K1 K2 r.2.2 ∧ FW R [128, 130, 131, 1952, 2144, 3202] T r.2.2) ∧ (r.1 = 0 → True)) := by
  have z0 : ((2 : Int32) : Int32).toInt = 2 := by decide
  have z1 : ((99 : Int32) : Int32).toInt = 99 := by decide
  have z2 : ((1 : Int32) : Int32).toInt = 1 := by decide
  have z3 : ((100 : Int32) : Int32).toInt = 100 := by decide
  have z4 : (0 : Int32).toInt = 0 := by decide
  have cc_101 : cnt 101 = 1 := rfl
  have cc_102 : cnt 102 = 12 := rfl
  have cc_103 : cnt 103 = 144 := rfl
  have cc_104 : cnt 104 = 2400 := rfl
  have cc_105 : cnt 105 = 7200 := rfl
  have x_T : FW R [128, 130, 131, 1952, 2144, 3202] T T := FW.rf
  have j_a0 := i_any a0
  have j_a1 := i_any a1
  unfold g_X11_aliases
  refine tot_oif (iv_oO h_T k_o (by decide) (by decide) rfl) ?_
  refine tot_thrp (Q := fun r_1 : Int32 => (0 ≤ r_1.toInt ∧ r_1.toInt ≤ 0)) (cs_X11_needCamera T o h_T k_o ) (fun r_1 d_r_1 => ?_) (fun k_ => ⟨⟨h_T, x_T⟩, fun q_ => absurd q_ (Nat.succ_ne_zero k_)⟩)
  replace d_r_1 : (0 ≤ r_1.toInt ∧ r_1.toInt ≤ 0) := d_r_1
  refine tot_thrp (Q := fun r_3 : Int32 => (((2 : Int32) : Int32).toInt ≤ a0.toInt ∧ a0.toInt ≤ ((99 : Int32) : Int32).toInt)) (cs_X11_needRange T a0 (2 : Int32) (99 : Int32) h_T ) (fun r_3 d_r_3 => ?_) (fun k_ => ⟨⟨h_T, x_T⟩, fun q_ => absurd q_ (Nat.succ_ne_zero k_)⟩)
  replace d_r_3 : (((2 : Int32) : Int32).toInt ≤ a0.toInt ∧ a0.toInt ≤ ((99 : Int32) : Int32).toInt) := d_r_3
  refine tot_thrp (Q := fun r_5 : Int32 => (((1 : Int32) : Int32).toInt ≤ a1.toInt ∧ a1.toInt ≤ ((100 : Int32) : Int32).toInt)) (cs_X11_needRange T a1 (1 : Int32) (100 : Int32) h_T ) (fun r_5 d_r_5 => ?_) (fun k_ => ⟨⟨h_T, x_T⟩, fun q_ => absurd q_ (Nat.succ_ne_zero k_)⟩)
  replace d_r_5 : (((1 : Int32) : Int32).toInt ≤ a1.toInt ∧ a1.toInt ≤ ((100 : Int32) : Int32).toInt) := d_r_5
  refine tot_oif (iv_oO h_T k_o (by decide) (by decide) rfl) ?_
  refine tot_bind2 (cs_X11_powersNow T o h_T k_o ) (fun r_7 T_8 d_r_7 => ?_)
  have h_T_8 : IV R B K1 K2 T_8 := d_r_7.1.1
  have y_T_8 : FW R [128, 130, 131, 1952, 2144, 3202] T T_8 := d_r_7.1.2
  have x_T_8 := x_T.tr (y_T_8.w (by decide))
  have k_r_7 : R r_7 = 4 := d_r_7.2
  refine tot_oif (Nat.ble_eq_true_of_le (iv_lt h_T_8 (iv_sta h_T_8 k_r_7 (by decide) (by decide)))) ?_
  unfold g_X11_aliases_b22
  refine cl_X11_aliases_b29 o a0 a1 r_7 T k_o k_r_7 (fun k_ U_ i_ x_ => ⟨⟨i_, x_⟩, fun q_ => absurd q_ (Nat.succ_ne_zero k_)⟩) (by omega) (by omega) ?_ 16384 T_8 0 0 h_T_8 x_T_8 (by omega) (by omega)
  · intro T_38 l_39 h_T_38 x_T_38
    have j_l_39 := i_any l_39
    exact tot_some ⟨⟨h_T_38, x_T_38⟩, fun _ => trivial⟩
set_option maxHeartbeats 4000000 in
set_option maxRecDepth 10000 in
theorem cs_X11_blockPower {R : Nat → Nat} {B K1 K2 : Nat} (T : AT) (o : Nat) (a0 : Int32) (a1 : Int32) (a2 : Int32) (h_T : IV R B K1 K2 T) (k_o : R o = 11) : Tot (g_X11_blockPower T o a0 a1 a2) (fun r => (IV R B K1 K2 r.2.2 ∧ FW R [3202] T r.2.2) ∧ (r.1 = 0 → True)) := by
  have z0 : (1 : Int32).toInt = 1 := by decide
  have z1 : ((0 : Int32) : Int32).toInt = 0 := by decide
  have z2 : ((1 : Int32) : Int32).toInt = 1 := by decide
  have cc_101 : cnt 101 = 1 := rfl
  have cc_102 : cnt 102 = 12 := rfl
  have cc_103 : cnt 103 = 144 := rfl
  have cc_104 : cnt 104 = 2400 := rfl
  have cc_105 : cnt 105 = 7200 := rfl
  have x_T : FW R [3202] T T := FW.rf
  have j_a0 := i_any a0
  have j_a1 := i_any a1
  have j_a2 := i_any a2
  unfold g_X11_blockPower
  refine tot_oif (iv_oO h_T k_o (by decide) (by decide) rfl) ?_
  refine tot_thrp (Q := fun r_1 : Int32 => (0 ≤ r_1.toInt ∧ r_1.toInt ≤ 0)) (cs_X11_needCamera T o h_T k_o ) (fun r_1 d_r_1 => ?_) (fun k_ => ⟨⟨h_T, x_T⟩, fun q_ => absurd q_ (Nat.succ_ne_zero k_)⟩)
  replace d_r_1 : (0 ≤ r_1.toInt ∧ r_1.toInt ≤ 0) := d_r_1
  refine tot_oif (iv_oO h_T k_o (by decide) (by decide) rfl) ?_
  refine tot_thrp (Q := fun r_3 : Int32 => (0 ≤ a0.toInt ∧ a0.toInt ≤ 143)) (cs_X11_needCell T o a0 h_T k_o ) (fun r_3 d_r_3 => ?_) (fun k_ => ⟨⟨h_T, x_T⟩, fun q_ => absurd q_ (Nat.succ_ne_zero k_)⟩)
  replace d_r_3 : (0 ≤ a0.toInt ∧ a0.toInt ≤ 143) := d_r_3
  refine tot_oif (iv_oO h_T k_o (by decide) (by decide) rfl) ?_
  refine tot_ref h_T k_o (by decide) (by decide) (r2 := 6) (rfl : rtg 11 14 = 6) (by decide) (fun n_5 k_n_5 e_n_5 => ?_)
  refine tot_oif (iv_oO h_T k_n_5 (by decide) (by decide) rfl) ?_
  refine tot_let (fun v_6 e_v_6 => ?_)
  have r_v_6 : 0 ≤ v_6.toInt ∧ v_6.toInt ≤ 200 := iv_int h_T k_n_5 (by decide) (by decide) e_v_6 rfl
  refine tot_let (fun v_7 e_v_7 => ?_)
  have q_v_7 := i_sub e_v_7 (by omega) (by omega)
  refine tot_thrp (Q := fun r_8 : Int32 => (((0 : Int32) : Int32).toInt ≤ a1.toInt ∧ a1.toInt ≤ v_7.toInt)) (cs_X11_needRange T a1 (0 : Int32) v_7 h_T ) (fun r_8 d_r_8 => ?_) (fun k_ => ⟨⟨h_T, x_T⟩, fun q_ => absurd q_ (Nat.succ_ne_zero k_)⟩)
  replace d_r_8 : (((0 : Int32) : Int32).toInt ≤ a1.toInt ∧ a1.toInt ≤ v_7.toInt) := d_r_8
  refine tot_oif (iv_oO h_T k_o (by decide) (by decide) rfl) ?_
  refine tot_ref1 e_n_5 ?_
  refine tot_oif (iv_oO h_T k_n_5 (by decide) (by decide) rfl) ?_
  refine tot_let (fun v_11 e_v_11 => ?_)
  have u_v_11 : v_11.toInt = v_6.toInt := by rw [e_v_11, e_v_6]
  have r_v_11 : 0 ≤ v_11.toInt ∧ v_11.toInt ≤ 200 := iv_int h_T k_n_5 (by decide) (by decide) e_v_11 rfl
  refine tot_thrp (Q := fun r_12 : Int32 => (((1 : Int32) : Int32).toInt ≤ a2.toInt ∧ a2.toInt ≤ v_11.toInt)) (cs_X11_needRange T a2 (1 : Int32) v_11 h_T ) (fun r_12 d_r_12 => ?_) (fun k_ => ⟨⟨h_T, x_T⟩, fun q_ => absurd q_ (Nat.succ_ne_zero k_)⟩)
  replace d_r_12 : (((1 : Int32) : Int32).toInt ≤ a2.toInt ∧ a2.toInt ≤ v_11.toInt) := d_r_12
  refine tot_oif (iv_oO h_T k_o (by decide) (by decide) rfl) ?_
  refine tot_ref h_T k_o (by decide) (by decide) (r2 := 8) (rfl : rtg 11 6 = 8) (by decide) (fun n_14 k_n_14 e_n_14 => ?_)
  refine tot_oif (iv_oO h_T k_o (by decide) (by decide) rfl) ?_
  refine tot_ref1 e_n_5 ?_
  refine tot_oif (iv_oO h_T k_n_5 (by decide) (by decide) rfl) ?_
  refine tot_ref h_T k_n_5 (by decide) (by decide) (r2 := 51) (rfl : rtg 6 17 = 51) (by decide) (fun n_16 k_n_16 e_n_16 => ?_)
  refine tot_oif (iv_aA h_T k_n_16 (by decide) (by decide) rfl rfl) ?_
  refine tot_oif (by rw [iv_len h_T k_n_16 (by decide) (by decide) (rfl : shp 51 = (106, 144))]; exact i_inb (by omega) (by omega)) ?_
  refine tot_ref h_T k_n_16 (by decide) (by decide) (r2 := 50) (rt_51 (by omega) (by omega)) (by decide) (fun n_17 k_n_17 e_n_17 => ?_)
  refine tot_oif (iv_oO h_T k_o (by decide) (by decide) rfl) ?_
  refine tot_ref h_T k_o (by decide) (by decide) (r2 := 102) (rfl : rtg 11 12 = 102) (by decide) (fun n_18 k_n_18 e_n_18 => ?_)
  refine tot_oif (iv_oO h_T k_n_14 (by decide) (by decide) rfl) ?_
  refine tot_bind (cs_X8_blockPowerOf T n_14 n_17 a1 a2 n_18 (0 : Int32) h_T k_n_14 k_n_17 k_n_18 (rfl : isW 102 = true) (by omega) (by omega) (by omega) (by omega)) (fun T_19 d_T_19 => ?_)
  have h_T_19 : IV R B K1 K2 T_19 := d_T_19.1
  have y_T_19 : FW R [3202] T T_19 := d_T_19.2
  have x_T_19 := x_T.tr (y_T_19.w (by decide))
  unfold g_X11_blockPower_b58
  refine tot_oif (iv_oO h_T_19 k_o (by decide) (by decide) rfl) ?_
  refine tot_ref h_T_19 k_o (by decide) (by decide) (r2 := 102) (rfl : rtg 11 12 = 102) (by decide) (fun n_20 k_n_20 e_n_20 => ?_)
  refine tot_oif (w_oO h_T_19 k_n_20 (rfl : isW 102 = true)) ?_
  refine tot_bindq (R := fun r_21 : Int64 => True) (c_value (a0 := (0 : Int32)) k_n_20 (rfl : isW 102 = true) h_T_19 (by omega)) (fun r_21 d_r_21 => ?_)
  exact tot_some ⟨⟨h_T_19, x_T_19⟩, fun _ => trivial⟩
set_option maxHeartbeats 4000000 in
set_option maxRecDepth 10000 in
theorem cs_X11_blockBest {R : Nat → Nat} {B K1 K2 : Nat} (T : AT) (o : Nat) (a0 : Int32) (a1 : Int32) (h_T : IV R B K1 K2 T) (k_o : R o = 11) : Tot (g_X11_blockBest T o a0 a1) (fun r => (IV R B K1 K2 r.2.2 ∧ FW R [3202] T r.2.2) ∧ (r.1 = 0 → (0 ≤ r.2.1.toInt ∧ r.2.1.toInt ≤ 143))) := by
  have z0 : (1 : Int32).toInt = 1 := by decide
  have z1 : ((0 : Int32) : Int32).toInt = 0 := by decide
  have z2 : ((1 : Int32) : Int32).toInt = 1 := by decide
  have cc_101 : cnt 101 = 1 := rfl
  have cc_102 : cnt 102 = 12 := rfl
  have cc_103 : cnt 103 = 144 := rfl
  have cc_104 : cnt 104 = 2400 := rfl
  have cc_105 : cnt 105 = 7200 := rfl
  have x_T : FW R [3202] T T := FW.rf
  have j_a0 := i_any a0
  have j_a1 := i_any a1
  unfold g_X11_blockBest
  refine tot_oif (iv_oO h_T k_o (by decide) (by decide) rfl) ?_
  refine tot_thrp (Q := fun r_1 : Int32 => (0 ≤ r_1.toInt ∧ r_1.toInt ≤ 0)) (cs_X11_needCamera T o h_T k_o ) (fun r_1 d_r_1 => ?_) (fun k_ => ⟨⟨h_T, x_T⟩, fun q_ => absurd q_ (Nat.succ_ne_zero k_)⟩)
  replace d_r_1 : (0 ≤ r_1.toInt ∧ r_1.toInt ≤ 0) := d_r_1
  refine tot_oif (iv_oO h_T k_o (by decide) (by decide) rfl) ?_
  refine tot_ref h_T k_o (by decide) (by decide) (r2 := 6) (rfl : rtg 11 14 = 6) (by decide) (fun n_3 k_n_3 e_n_3 => ?_)
  refine tot_oif (iv_oO h_T k_n_3 (by decide) (by decide) rfl) ?_
  refine tot_let (fun v_4 e_v_4 => ?_)
  have r_v_4 : 0 ≤ v_4.toInt ∧ v_4.toInt ≤ 200 := iv_int h_T k_n_3 (by decide) (by decide) e_v_4 rfl
  refine tot_let (fun v_5 e_v_5 => ?_)
  have q_v_5 := i_sub e_v_5 (by omega) (by omega)
  refine tot_thrp (Q := fun r_6 : Int32 => (((0 : Int32) : Int32).toInt ≤ a0.toInt ∧ a0.toInt ≤ v_5.toInt)) (cs_X11_needRange T a0 (0 : Int32) v_5 h_T ) (fun r_6 d_r_6 => ?_) (fun k_ => ⟨⟨h_T, x_T⟩, fun q_ => absurd q_ (Nat.succ_ne_zero k_)⟩)
  replace d_r_6 : (((0 : Int32) : Int32).toInt ≤ a0.toInt ∧ a0.toInt ≤ v_5.toInt) := d_r_6
  refine tot_oif (iv_oO h_T k_o (by decide) (by decide) rfl) ?_
  refine tot_ref1 e_n_3 ?_
  refine tot_oif (iv_oO h_T k_n_3 (by decide) (by decide) rfl) ?_
  refine tot_let (fun v_9 e_v_9 => ?_)
  have u_v_9 : v_9.toInt = v_4.toInt := by rw [e_v_9, e_v_4]
  have r_v_9 : 0 ≤ v_9.toInt ∧ v_9.toInt ≤ 200 := iv_int h_T k_n_3 (by decide) (by decide) e_v_9 rfl
  refine tot_thrp (Q := fun r_10 : Int32 => (((1 : Int32) : Int32).toInt ≤ a1.toInt ∧ a1.toInt ≤ v_9.toInt)) (cs_X11_needRange T a1 (1 : Int32) v_9 h_T ) (fun r_10 d_r_10 => ?_) (fun k_ => ⟨⟨h_T, x_T⟩, fun q_ => absurd q_ (Nat.succ_ne_zero k_)⟩)
  replace d_r_10 : (((1 : Int32) : Int32).toInt ≤ a1.toInt ∧ a1.toInt ≤ v_9.toInt) := d_r_10
  refine tot_oif (iv_oO h_T k_o (by decide) (by decide) rfl) ?_
  refine tot_ref h_T k_o (by decide) (by decide) (r2 := 20) (rfl : rtg 11 3 = 20) (by decide) (fun n_12 k_n_12 e_n_12 => ?_)
  refine tot_oif (iv_oO h_T k_o (by decide) (by decide) rfl) ?_
  refine tot_ref1 e_n_3 ?_
  refine tot_oif (iv_oO h_T k_o (by decide) (by decide) rfl) ?_
  refine tot_ref h_T k_o (by decide) (by decide) (r2 := 8) (rfl : rtg 11 6 = 8) (by decide) (fun n_14 k_n_14 e_n_14 => ?_)
  refine tot_oif (iv_oO h_T k_n_12 (by decide) (by decide) rfl) ?_
  refine tot_bind2 (cs_X0_bestOf T n_12 n_3 n_14 a0 a1 h_T k_n_12 k_n_3 k_n_14 (by omega) (by omega)) (fun r_15 T_16 d_r_15 => ?_)
  have h_T_16 : IV R B K1 K2 T_16 := d_r_15.1.1
  have y_T_16 : FW R [3202] T T_16 := d_r_15.1.2
  have x_T_16 := x_T.tr (y_T_16.w (by decide))
  replace d_r_15 : (0 ≤ r_15.toInt ∧ r_15.toInt ≤ 143) := d_r_15.2
  unfold g_X11_blockBest_b47
  exact tot_some ⟨⟨h_T_16, x_T_16⟩, fun _ => (show (0 ≤ r_15.toInt ∧ r_15.toInt ≤ 143) from by omega)⟩
set_option maxHeartbeats 4000000 in
set_option maxRecDepth 10000 in
theorem cl_X11_path_b39 {R : Nat → Nat} {B K1 K2 : Nat} {Q : Nat × Int32 × AT → Prop} (l0 : Nat) (l1 : Int32) (T00 : AT) (k_l0 : R l0 = 11) (hthr : ∀ (k : Nat) (U : AT), IV R B K1 K2 U → FW R [3202] T00 U → Q (k + 1, 0, U)) (g0 : 4 ≤ l1.toInt ∧ l1.toInt ≤ 200) (hx0 : ∀ (T : AT) (l2 : Int32), (IV R B K1 K2 T) → (FW R [3202] T00 T) → Tot (some (0, l2, T)) Q) : ∀ (n : Nat) (T : AT) (l2 : Int32) (l3 : Int32) (l4 : Int32), (IV R B K1 K2 T) → (FW R [3202] T00 T) → (0 ≤ l3.toInt ∧ l3.toInt ≤ 143) → (4 ≤ l4.toInt ∧ l4.toInt ≤ 392) → 400 - l4.toInt < (n : Int) → Tot (g_X11_path_b39 n T l0 l1 l2 l3 l4) Q := by
  have z0 : (0 : Int32).toInt = 0 := by decide
  have z1 : (1 : Int32).toInt = 1 := by decide
  have cc_101 : cnt 101 = 1 := rfl
  have cc_102 : cnt 102 = 12 := rfl
  have cc_103 : cnt 103 = 144 := rfl
  have cc_104 : cnt 104 = 2400 := rfl
  have cc_105 : cnt 105 = 7200 := rfl
  have j_l1 := i_any l1
  intro n
  induction n with
  | zero =>
    intro T l2 l3 l4 h_T x_T g_l3 g_l4 hm
    exfalso
    omega
  | succ n ih =>
    intro T l2 l3 l4 h_T x_T g_l3 g_l4 hm
    unfold g_X11_path_b39
    refine tot_let (fun v_26 e_v_26 => ?_)
    have q_v_26 := i_add e_v_26 (by omega) (by omega)
    refine tot_oif (iv_oO h_T k_l0 (by decide) (by decide) rfl) ?_
    refine tot_ref h_T k_l0 (by decide) (by decide) (r2 := 6) (rfl : rtg 11 14 = 6) (by decide) (fun n_27 k_n_27 e_n_27 => ?_)
    refine tot_oif (iv_oO h_T k_n_27 (by decide) (by decide) rfl) ?_
    refine tot_let (fun v_28 e_v_28 => ?_)
    have r_v_28 : 0 ≤ v_28.toInt ∧ v_28.toInt ≤ 200 := iv_int h_T k_n_27 (by decide) (by decide) e_v_28 rfl
    refine tot_if (fun c_34 => ?_) (fun c_34 => ?_)
    · replace c_34 := i_lt c_34
      exact hx0 T l2 h_T x_T
    · replace c_34 := i_nlt c_34
      refine tot_oif (iv_oO h_T k_l0 (by decide) (by decide) rfl) ?_
      refine tot_ref h_T k_l0 (by decide) (by decide) (r2 := 20) (rfl : rtg 11 3 = 20) (by decide) (fun n_29 k_n_29 e_n_29 => ?_)
      refine tot_oif (iv_oO h_T k_l0 (by decide) (by decide) rfl) ?_
      refine tot_ref1 e_n_27 ?_
      refine tot_oif (iv_oO h_T k_l0 (by decide) (by decide) rfl) ?_
      refine tot_ref h_T k_l0 (by decide) (by decide) (r2 := 8) (rfl : rtg 11 6 = 8) (by decide) (fun n_31 k_n_31 e_n_31 => ?_)
      refine tot_oif (iv_oO h_T k_n_29 (by decide) (by decide) rfl) ?_
      refine tot_bind2 (cs_X0_bestOf T n_29 n_27 n_31 l4 l1 h_T k_n_29 k_n_27 k_n_31 (by omega) (by omega)) (fun r_32 T_33 d_r_32 => ?_)
      have h_T_33 : IV R B K1 K2 T_33 := d_r_32.1.1
      have y_T_33 : FW R [3202] T T_33 := d_r_32.1.2
      have x_T_33 := x_T.tr (y_T_33.w (by decide))
      replace d_r_32 : (0 ≤ r_32.toInt ∧ r_32.toInt ≤ 143) := d_r_32.2
      unfold g_X11_path_b71
      refine tot_if (fun c_35 => ?_) (fun c_35 => ?_)
      · replace c_35 := i_eq c_35
        unfold g_X11_path_b85
        refine tot_let (fun v_36 e_v_36 => ?_)
        have r_v_36 := i_any v_36
        refine tot_let (fun v_37 e_v_37 => ?_)
        have q_v_37 := i_ilt e_v_37
        refine tot_let (fun v_38 e_v_38 => ?_)
        have q_v_38 := i_add e_v_38 (by omega) (by omega)
        exact ih T_33 v_36 r_32 v_38 h_T_33 x_T_33 (by omega) (by omega) (by omega)
      · replace c_35 := i_ne c_35
        unfold g_X11_path_b85
        refine tot_let (fun v_39 e_v_39 => ?_)
        have r_v_39 := i_any v_39
        refine tot_let (fun v_40 e_v_40 => ?_)
        have q_v_40 := i_ilt e_v_40
        refine tot_let (fun v_41 e_v_41 => ?_)
        have q_v_41 := i_add e_v_41 (by omega) (by omega)
        exact ih T_33 v_39 r_32 v_41 h_T_33 x_T_33 (by omega) (by omega) (by omega)
set_option maxHeartbeats 4000000 in
set_option maxRecDepth 10000 in
theorem cs_X11_path {R : Nat → Nat} {B K1 K2 : Nat} (T : AT) (o : Nat) (a0 : Int32) (h_T : IV R B K1 K2 T) (k_o : R o = 11) : Tot (g_X11_path T o a0) (fun r => (IV R B K1 K2 r.2.2 ∧ FW R [3202] T r.2.2) ∧ (r.1 = 0 → True)) := by
  have z0 : ((4 : Int32) : Int32).toInt = 4 := by decide
  have z1 : ((0 : Int32) : Int32).toInt = 0 := by decide
  have z2 : (0 : Int32).toInt = 0 := by decide
  have cc_101 : cnt 101 = 1 := rfl
  have cc_102 : cnt 102 = 12 := rfl
  have cc_103 : cnt 103 = 144 := rfl
  have cc_104 : cnt 104 = 2400 := rfl
  have cc_105 : cnt 105 = 7200 := rfl
  have x_T : FW R [3202] T T := FW.rf
  have j_a0 := i_any a0
  unfold g_X11_path
  refine tot_oif (iv_oO h_T k_o (by decide) (by decide) rfl) ?_
  refine tot_thrp (Q := fun r_1 : Int32 => (0 ≤ r_1.toInt ∧ r_1.toInt ≤ 0)) (cs_X11_needCamera T o h_T k_o ) (fun r_1 d_r_1 => ?_) (fun k_ => ⟨⟨h_T, x_T⟩, fun q_ => absurd q_ (Nat.succ_ne_zero k_)⟩)
  replace d_r_1 : (0 ≤ r_1.toInt ∧ r_1.toInt ≤ 0) := d_r_1
  refine tot_oif (iv_oO h_T k_o (by decide) (by decide) rfl) ?_
  refine tot_ref h_T k_o (by decide) (by decide) (r2 := 6) (rfl : rtg 11 14 = 6) (by decide) (fun n_3 k_n_3 e_n_3 => ?_)
  refine tot_oif (iv_oO h_T k_n_3 (by decide) (by decide) rfl) ?_
  refine tot_let (fun v_4 e_v_4 => ?_)
  have r_v_4 : 0 ≤ v_4.toInt ∧ v_4.toInt ≤ 200 := iv_int h_T k_n_3 (by decide) (by decide) e_v_4 rfl
  refine tot_thrp (Q := fun r_5 : Int32 => (((4 : Int32) : Int32).toInt ≤ a0.toInt ∧ a0.toInt ≤ v_4.toInt)) (cs_X11_needRange T a0 (4 : Int32) v_4 h_T ) (fun r_5 d_r_5 => ?_) (fun k_ => ⟨⟨h_T, x_T⟩, fun q_ => absurd q_ (Nat.succ_ne_zero k_)⟩)
  replace d_r_5 : (((4 : Int32) : Int32).toInt ≤ a0.toInt ∧ a0.toInt ≤ v_4.toInt) := d_r_5
  refine tot_oif (iv_oO h_T k_o (by decide) (by decide) rfl) ?_
  refine tot_ref h_T k_o (by decide) (by decide) (r2 := 20) (rfl : rtg 11 3 = 20) (by decide) (fun n_7 k_n_7 e_n_7 => ?_)
  refine tot_oif (iv_oO h_T k_o (by decide) (by decide) rfl) ?_
  refine tot_ref1 e_n_3 ?_
  refine tot_oif (iv_oO h_T k_o (by decide) (by decide) rfl) ?_
  refine tot_ref h_T k_o (by decide) (by decide) (r2 := 8) (rfl : rtg 11 6 = 8) (by decide) (fun n_9 k_n_9 e_n_9 => ?_)
  refine tot_oif (iv_oO h_T k_n_7 (by decide) (by decide) rfl) ?_
  refine tot_bind2 (cs_X0_bestOf T n_7 n_3 n_9 (0 : Int32) a0 h_T k_n_7 k_n_3 k_n_9 (by omega) (by omega)) (fun r_10 T_11 d_r_10 => ?_)
  have h_T_11 : IV R B K1 K2 T_11 := d_r_10.1.1
  have y_T_11 : FW R [3202] T T_11 := d_r_10.1.2
  have x_T_11 := x_T.tr (y_T_11.w (by decide))
  replace d_r_10 : (0 ≤ r_10.toInt ∧ r_10.toInt ≤ 143) := d_r_10.2
  unfold g_X11_path_b35
  refine cl_X11_path_b39 o a0 T k_o (fun k_ U_ i_ x_ => ⟨⟨i_, x_⟩, fun q_ => absurd q_ (Nat.succ_ne_zero k_)⟩) (by omega) ?_ 16384 T_11 0 r_10 a0 h_T_11 x_T_11 (by omega) (by omega) (by omega)
  · intro T_42 l_43 h_T_42 x_T_42
    have j_l_43 := i_any l_43
    exact tot_some ⟨⟨h_T_42, x_T_42⟩, fun _ => trivial⟩
set_option maxHeartbeats 4000000 in
set_option maxRecDepth 10000 in
theorem cs_X11_trackScore {R : Nat → Nat} {B K1 K2 : Nat} (T : AT) (o : Nat) (a0 : Int32) (h_T : IV R B K1 K2 T) (k_o : R o = 11) : Tot (g_X11_trackScore T o a0) (fun r => (IV R B K1 K2 r.2.2 ∧ FW R [1952, 3202] T r.2.2) ∧ (r.1 = 0 → True)) := by
  have z0 : ((4 : Int32) : Int32).toInt = 4 := by decide
  have z1 : ((0 : Int32) : Int32).toInt = 0 := by decide
  have cc_101 : cnt 101 = 1 := rfl
  have cc_102 : cnt 102 = 12 := rfl
  have cc_103 : cnt 103 = 144 := rfl
  have cc_104 : cnt 104 = 2400 := rfl
  have cc_105 : cnt 105 = 7200 := rfl
  have x_T : FW R [1952, 3202] T T := FW.rf
  have j_a0 := i_any a0
  unfold g_X11_trackScore
  refine tot_oif (iv_oO h_T k_o (by decide) (by decide) rfl) ?_
  refine tot_thrp (Q := fun r_1 : Int32 => (0 ≤ r_1.toInt ∧ r_1.toInt ≤ 0)) (cs_X11_needCamera T o h_T k_o ) (fun r_1 d_r_1 => ?_) (fun k_ => ⟨⟨h_T, x_T⟩, fun q_ => absurd q_ (Nat.succ_ne_zero k_)⟩)
  replace d_r_1 : (0 ≤ r_1.toInt ∧ r_1.toInt ≤ 0) := d_r_1
  refine tot_oif (iv_oO h_T k_o (by decide) (by decide) rfl) ?_
  refine tot_ref h_T k_o (by decide) (by decide) (r2 := 6) (rfl : rtg 11 14 = 6) (by decide) (fun n_3 k_n_3 e_n_3 => ?_)
  refine tot_oif (iv_oO h_T k_n_3 (by decide) (by decide) rfl) ?_
  refine tot_let (fun v_4 e_v_4 => ?_)
  have r_v_4 : 0 ≤ v_4.toInt ∧ v_4.toInt ≤ 200 := iv_int h_T k_n_3 (by decide) (by decide) e_v_4 rfl
  refine tot_thrp (Q := fun r_5 : Int32 => (((4 : Int32) : Int32).toInt ≤ a0.toInt ∧ a0.toInt ≤ v_4.toInt)) (cs_X11_needRange T a0 (4 : Int32) v_4 h_T ) (fun r_5 d_r_5 => ?_) (fun k_ => ⟨⟨h_T, x_T⟩, fun q_ => absurd q_ (Nat.succ_ne_zero k_)⟩)
  replace d_r_5 : (((4 : Int32) : Int32).toInt ≤ a0.toInt ∧ a0.toInt ≤ v_4.toInt) := d_r_5
  refine tot_oif (iv_oO h_T k_o (by decide) (by decide) rfl) ?_
  refine tot_ref h_T k_o (by decide) (by decide) (r2 := 20) (rfl : rtg 11 3 = 20) (by decide) (fun n_7 k_n_7 e_n_7 => ?_)
  refine tot_oif (iv_oO h_T k_o (by decide) (by decide) rfl) ?_
  refine tot_ref1 e_n_3 ?_
  refine tot_oif (iv_oO h_T k_o (by decide) (by decide) rfl) ?_
  refine tot_ref h_T k_o (by decide) (by decide) (r2 := 8) (rfl : rtg 11 6 = 8) (by decide) (fun n_9 k_n_9 e_n_9 => ?_)
  refine tot_oif (iv_oO h_T k_n_7 (by decide) (by decide) rfl) ?_
  refine tot_bind (cs_X0_score T n_7 n_3 n_9 a0 h_T k_n_7 k_n_3 k_n_9 (by omega)) (fun T_10 d_T_10 => ?_)
  have h_T_10 : IV R B K1 K2 T_10 := d_T_10.1
  have y_T_10 : FW R [1952, 3202] T T_10 := d_T_10.2
  have x_T_10 := x_T.tr (y_T_10.w (by decide))
  unfold g_X11_trackScore_b32
  refine tot_oif (iv_oO h_T_10 k_o (by decide) (by decide) rfl) ?_
  refine tot_ref h_T_10 k_o (by decide) (by decide) (r2 := 20) (rfl : rtg 11 3 = 20) (by decide) (fun n_11 k_n_11 e_n_11 => ?_)
  refine tot_oif (iv_oO h_T_10 k_n_11 (by decide) (by decide) rfl) ?_
  refine tot_ref h_T_10 k_n_11 (by decide) (by decide) (r2 := 105) (rfl : rtg 20 0 = 105) (by decide) (fun n_12 k_n_12 e_n_12 => ?_)
  refine tot_oif (iv_oO h_T_10 k_o (by decide) (by decide) rfl) ?_
  refine tot_ref1 e_n_11 ?_
  refine tot_oif (iv_oO h_T_10 k_o (by decide) (by decide) rfl) ?_
  refine tot_ref h_T_10 k_o (by decide) (by decide) (r2 := 6) (rfl : rtg 11 14 = 6) (by decide) (fun n_14 k_n_14 e_n_14 => ?_)
  refine tot_oif (iv_oO h_T_10 k_n_14 (by decide) (by decide) rfl) ?_
  refine tot_ref h_T_10 k_n_14 (by decide) (by decide) (r2 := 1) (rfl : rtg 6 6 = 1) (by decide) (fun n_15 k_n_15 e_n_15 => ?_)
  refine tot_oif (iv_oO h_T_10 k_n_11 (by decide) (by decide) rfl) ?_
  refine tot_bind2 (cs_X0_trackCellIn T_10 n_11 n_15 (0 : Int32) h_T_10 k_n_11 k_n_15 ) (fun r_16 T_17 d_r_16 => ?_)
  have h_T_17 : IV R B K1 K2 T_17 := d_r_16.1.1
  have y_T_17 : FW R [1952] T_10 T_17 := d_r_16.1.2
  have x_T_17 := x_T_10.tr (y_T_17.w (by decide))
  replace d_r_16 : (0 ≤ r_16.toInt ∧ r_16.toInt ≤ 143) := d_r_16.2
  refine tot_oif (w_oO h_T_17 k_n_12 (rfl : isW 105 = true)) ?_
  refine tot_bindq (R := fun r_18 : Int64 => True) (c_value (a0 := r_16) k_n_12 (rfl : isW 105 = true) h_T_17 (by omega)) (fun r_18 d_r_18 => ?_)
  exact tot_some ⟨⟨h_T_17, x_T_17⟩, fun _ => trivial⟩
