set_option maxHeartbeats 4000000 in
set_option maxRecDepth 10000 in
theorem cs_X11_mapByte {R : Nat → Nat} {B K1 K2 : Nat} (T : AT) (o : Nat) (a0 : Int32) (h_T : IV R B K1 K2 T) (k_o : R o = 11) : Tot (g_X11_mapByte T o a0) (fun r => r.2.2 = T ∧ (r.1 = 0 → True)) := by
  have cc_101 : cnt 101 = 1 := rfl
  have cc_102 : cnt 102 = 12 := rfl
  have cc_103 : cnt 103 = 144 := rfl
  have cc_104 : cnt 104 = 2400 := rfl
  have cc_105 : cnt 105 = 7200 := rfl
  have j_a0 := i_any a0
  unfold g_X11_mapByte
  refine tot_oif (iv_oO h_T k_o (by decide) (by decide) rfl) ?_
  refine tot_let (fun v_1 e_v_1 => ?_)
  have r_v_1 : 0 ≤ v_1.toInt ∧ v_1.toInt ≤ 155 := iv_int h_T k_o (by decide) (by decide) e_v_1 rfl
  refine tot_thrp (Q := fun r_2 : Int32 => (0 ≤ a0.toInt ∧ a0.toInt < v_1.toInt)) (cs_X11_needIndex T a0 v_1 h_T ) (fun r_2 d_r_2 => ?_) (fun k_ => ⟨rfl, fun q_ => absurd q_ (Nat.succ_ne_zero k_)⟩)
  replace d_r_2 : (0 ≤ a0.toInt ∧ a0.toInt < v_1.toInt) := d_r_2
  refine tot_oif (iv_oO h_T k_o (by decide) (by decide) rfl) ?_
  refine tot_ref h_T k_o (by decide) (by decide) (r2 := 52) (rfl : rtg 11 13 = 52) (by decide) (fun n_4 k_n_4 e_n_4 => ?_)
  refine tot_oif (iv_aA h_T k_n_4 (by decide) (by decide) rfl rfl) ?_
  refine tot_oif (by rw [iv_len h_T k_n_4 (by decide) (by decide) (rfl : shp 52 = (100, 155))]; exact i_inb (by omega) (by omega)) ?_
  refine tot_let (fun v_5 e_v_5 => ?_)
  have r_v_5 := i_any v_5
  exact tot_some ⟨rfl, fun _ => trivial⟩
set_option maxHeartbeats 4000000 in
set_option maxRecDepth 10000 in
theorem cs_X11_recordPoint {R : Nat → Nat} {B K1 K2 : Nat} (T : AT) (o : Nat) (a0 : Int32) (a1 : Int32) (h_T : IV R B K1 K2 T) (k_o : R o = 11) (g0 : 0 ≤ a0.toInt ∧ a0.toInt ≤ 143) (g1 : 2 ≤ a1.toInt ∧ a1.toInt ≤ 99) : Tot (g_X11_recordPoint T o a0 a1) (fun T1 => IV R B K1 K2 T1 ∧ FW R [224, 229, 230, 256, 257, 258, 1472, 1984, 2016, 2048, 2080, 2112, 3202] T T1) := by
  have cc_101 : cnt 101 = 1 := rfl
  have cc_102 : cnt 102 = 12 := rfl
  have cc_103 : cnt 103 = 144 := rfl
  have cc_104 : cnt 104 = 2400 := rfl
  have cc_105 : cnt 105 = 7200 := rfl
  have x_T : FW R [224, 229, 230, 256, 257, 258, 1472, 1984, 2016, 2048, 2080, 2112, 3202] T T := FW.rf
  have j_a0 := i_any a0
  have j_a1 := i_any a1
  unfold g_X11_recordPoint
  refine tot_oif (iv_oO h_T k_o (by decide) (by decide) rfl) ?_
  refine tot_ref h_T k_o (by decide) (by decide) (r2 := 8) (rfl : rtg 11 7 = 8) (by decide) (fun n_1 k_n_1 e_n_1 => ?_)
  refine tot_oif (iv_oO h_T k_o (by decide) (by decide) rfl) ?_
  refine tot_ref h_T k_o (by decide) (by decide) (r2 := 8) (rfl : rtg 11 6 = 8) (by decide) (fun n_2 k_n_2 e_n_2 => ?_)
  refine tot_oif (iv_oO h_T k_n_1 (by decide) (by decide) rfl) ?_
  refine tot_bind (cs_X8_copyFrom T n_1 n_2 h_T k_n_1 k_n_2 ) (fun T_3 d_T_3 => ?_)
  have h_T_3 : IV R B K1 K2 T_3 := d_T_3.1
  have y_T_3 : FW R [256, 257, 258, 1984, 2016, 2048, 2080, 2112, 3202] T T_3 := d_T_3.2
  have x_T_3 := x_T.tr (y_T_3.w (by decide))
  unfold g_X11_recordPoint_b11
  refine tot_oif (iv_oO h_T_3 k_o (by decide) (by decide) rfl) ?_
  refine tot_ref h_T_3 k_o (by decide) (by decide) (r2 := 5) (rfl : rtg 11 2 = 5) (by decide) (fun n_4 k_n_4 e_n_4 => ?_)
  refine tot_oif (iv_oO h_T_3 k_o (by decide) (by decide) rfl) ?_
  refine tot_ref h_T_3 k_o (by decide) (by decide) (r2 := 6) (rfl : rtg 11 14 = 6) (by decide) (fun n_5 k_n_5 e_n_5 => ?_)
  refine tot_oif (iv_oO h_T_3 k_o (by decide) (by decide) rfl) ?_
  refine tot_ref h_T_3 k_o (by decide) (by decide) (r2 := 8) (rfl : rtg 11 7 = 8) (by decide) (fun n_6 k_n_6 e_n_6 => ?_)
  refine tot_oif (iv_oO h_T_3 k_n_4 (by decide) (by decide) rfl) ?_
  refine tot_bind (cs_X5_recordPoint T_3 n_4 n_5 n_6 a0 a1 h_T_3 k_n_4 k_n_5 k_n_6 (by omega) (by omega)) (fun T_7 d_T_7 => ?_)
  have h_T_7 : IV R B K1 K2 T_7 := d_T_7.1
  have y_T_7 : FW R [224, 229, 230, 258, 1472, 3202] T_3 T_7 := d_T_7.2
  have x_T_7 := x_T_3.tr (y_T_7.w (by decide))
  unfold g_X11_recordPoint_b28
  exact tot_some ⟨h_T_7, x_T_7⟩
set_option maxHeartbeats 4000000 in
set_option maxRecDepth 10000 in
theorem cs_X11_trialBest {R : Nat → Nat} {B K1 K2 : Nat} (T : AT) (o : Nat) (h_T : IV R B K1 K2 T) (k_o : R o = 11) : Tot (g_X11_trialBest T o) (fun r => (IV R B K1 K2 r.2 ∧ FW R [130, 131, 1952, 2144, 3202] T r.2) ∧ (0 ≤ r.1.toInt ∧ r.1.toInt ≤ 143)) := by
  have cc_101 : cnt 101 = 1 := rfl
  have cc_102 : cnt 102 = 12 := rfl
  have cc_103 : cnt 103 = 144 := rfl
  have cc_104 : cnt 104 = 2400 := rfl
  have cc_105 : cnt 105 = 7200 := rfl
  have x_T : FW R [130, 131, 1952, 2144, 3202] T T := FW.rf
  unfold g_X11_trialBest
  refine tot_oif (iv_oO h_T k_o (by decide) (by decide) rfl) ?_
  refine tot_ref h_T k_o (by decide) (by decide) (r2 := 4) (rfl : rtg 11 5 = 4) (by decide) (fun n_1 k_n_1 e_n_1 => ?_)
  refine tot_oif (iv_oO h_T k_o (by decide) (by decide) rfl) ?_
  refine tot_ref h_T k_o (by decide) (by decide) (r2 := 6) (rfl : rtg 11 14 = 6) (by decide) (fun n_2 k_n_2 e_n_2 => ?_)
  refine tot_oif (iv_oO h_T k_o (by decide) (by decide) rfl) ?_
  refine tot_ref h_T k_o (by decide) (by decide) (r2 := 8) (rfl : rtg 11 7 = 8) (by decide) (fun n_3 k_n_3 e_n_3 => ?_)
  refine tot_oif (iv_oO h_T k_n_1 (by decide) (by decide) rfl) ?_
  refine tot_bind (cs_X4_measure T n_1 n_2 n_3 h_T k_n_1 k_n_2 k_n_3 ) (fun T_4 d_T_4 => ?_)
  have h_T_4 : IV R B K1 K2 T_4 := d_T_4.1
  have y_T_4 : FW R [130, 131, 1952, 2144, 3202] T T_4 := d_T_4.2
  have x_T_4 := x_T.tr (y_T_4.w (by decide))
  unfold g_X11_trialBest_b15
  refine tot_oif (iv_oO h_T_4 k_o (by decide) (by decide) rfl) ?_
  refine tot_ref h_T_4 k_o (by decide) (by decide) (r2 := 4) (rfl : rtg 11 5 = 4) (by decide) (fun n_5 k_n_5 e_n_5 => ?_)
  refine tot_oif (iv_oO h_T_4 k_n_5 (by decide) (by decide) rfl) ?_
  refine tot_let (fun v_6 e_v_6 => ?_)
  have r_v_6 : 0 ≤ v_6.toInt ∧ v_6.toInt ≤ 143 := iv_int h_T_4 k_n_5 (by decide) (by decide) e_v_6 rfl
  exact tot_some ⟨⟨h_T_4, x_T_4⟩, (show (0 ≤ v_6.toInt ∧ v_6.toInt ≤ 143) from by omega)⟩
set_option maxHeartbeats 4000000 in
set_option maxRecDepth 10000 in
theorem cs_X11_pointBest {R : Nat → Nat} {B K1 K2 : Nat} (T : AT) (o : Nat) (a0 : Int32) (a1 : Int32) (h_T : IV R B K1 K2 T) (k_o : R o = 11) : Tot (g_X11_pointBest T o a0 a1) (fun r => (IV R B K1 K2 r.2.2 ∧ FW R [130, 131, 224, 229, 230, 256, 257, 258, 1472, 1952, 1984, 2016, 2048, 2080, 2112, 2144, 3202] T r.2.2) ∧ (r.1 = 0 → (0 ≤ r.2.1.toInt ∧ r.2.1.toInt ≤ 143))) := by
  have z0 : ((2 : Int32) : Int32).toInt = 2 := by decide
  have z1 : ((99 : Int32) : Int32).toInt = 99 := by decide
  have cc_101 : cnt 101 = 1 := rfl
  have cc_102 : cnt 102 = 12 := rfl
  have cc_103 : cnt 103 = 144 := rfl
  have cc_104 : cnt 104 = 2400 := rfl
  have cc_105 : cnt 105 = 7200 := rfl
  have x_T : FW R [130, 131, 224, 229, 230, 256, 257, 258, 1472, 1952, 1984, 2016, 2048, 2080, 2112, 2144, 3202] T T := FW.rf
  have j_a0 := i_any a0
  have j_a1 := i_any a1
  unfold g_X11_pointBest
  refine tot_oif (iv_oO h_T k_o (by decide) (by decide) rfl) ?_
  refine tot_thrp (Q := fun r_1 : Int32 => (0 ≤ r_1.toInt ∧ r_1.toInt ≤ 0)) (cs_X11_needCamera T o h_T k_o ) (fun r_1 d_r_1 => ?_) (fun k_ => ⟨⟨h_T, x_T⟩, fun q_ => absurd q_ (Nat.succ_ne_zero k_)⟩)
  replace d_r_1 : (0 ≤ r_1.toInt ∧ r_1.toInt ≤ 0) := d_r_1
  refine tot_oif (iv_oO h_T k_o (by decide) (by decide) rfl) ?_
  refine tot_thrp (Q := fun r_3 : Int32 => (0 ≤ a0.toInt ∧ a0.toInt ≤ 143)) (cs_X11_needCell T o a0 h_T k_o ) (fun r_3 d_r_3 => ?_) (fun k_ => ⟨⟨h_T, x_T⟩, fun q_ => absurd q_ (Nat.succ_ne_zero k_)⟩)
  replace d_r_3 : (0 ≤ a0.toInt ∧ a0.toInt ≤ 143) := d_r_3
  refine tot_thrp (Q := fun r_5 : Int32 => (((2 : Int32) : Int32).toInt ≤ a1.toInt ∧ a1.toInt ≤ ((99 : Int32) : Int32).toInt)) (cs_X11_needRange T a1 (2 : Int32) (99 : Int32) h_T ) (fun r_5 d_r_5 => ?_) (fun k_ => ⟨⟨h_T, x_T⟩, fun q_ => absurd q_ (Nat.succ_ne_zero k_)⟩)
  replace d_r_5 : (((2 : Int32) : Int32).toInt ≤ a1.toInt ∧ a1.toInt ≤ ((99 : Int32) : Int32).toInt) := d_r_5
  refine tot_oif (iv_oO h_T k_o (by decide) (by decide) rfl) ?_
  refine tot_bind (cs_X11_recordPoint T o a0 a1 h_T k_o (by omega) (by omega)) (fun T_7 d_T_7 => ?_)
  have h_T_7 : IV R B K1 K2 T_7 := d_T_7.1
  have y_T_7 : FW R [224, 229, 230, 256, 257, 258, 1472, 1984, 2016, 2048, 2080, 2112, 3202] T T_7 := d_T_7.2
  have x_T_7 := x_T.tr (y_T_7.w (by decide))
  unfold g_X11_pointBest_b22
  refine tot_oif (iv_oO h_T_7 k_o (by decide) (by decide) rfl) ?_
  refine tot_bind2 (cs_X11_trialBest T_7 o h_T_7 k_o ) (fun r_8 T_9 d_r_8 => ?_)
  have h_T_9 : IV R B K1 K2 T_9 := d_r_8.1.1
  have y_T_9 : FW R [130, 131, 1952, 2144, 3202] T_7 T_9 := d_r_8.1.2
  have x_T_9 := x_T_7.tr (y_T_9.w (by decide))
  replace d_r_8 : (0 ≤ r_8.toInt ∧ r_8.toInt ≤ 143) := d_r_8.2
  unfold g_X11_pointBest_b26
  exact tot_some ⟨⟨h_T_9, x_T_9⟩, fun _ => (show (0 ≤ r_8.toInt ∧ r_8.toInt ≤ 143) from by omega)⟩
set_option maxHeartbeats 4000000 in
set_option maxRecDepth 10000 in
theorem cs_X11_pointPower {R : Nat → Nat} {B K1 K2 : Nat} (T : AT) (o : Nat) (a0 : Int32) (a1 : Int32) (a2 : Int32) (h_T : IV R B K1 K2 T) (k_o : R o = 11) : Tot (g_X11_pointPower T o a0 a1 a2) (fun r => (IV R B K1 K2 r.2.2 ∧ FW R [224, 229, 230, 256, 257, 258, 1472, 1984, 2016, 2048, 2080, 2112, 3202] T r.2.2) ∧ (r.1 = 0 → True)) := by
  have z0 : ((2 : Int32) : Int32).toInt = 2 := by decide
  have z1 : ((99 : Int32) : Int32).toInt = 99 := by decide
  have z2 : ((0 : Int32) : Int32).toInt = 0 := by decide
  have cc_101 : cnt 101 = 1 := rfl
  have cc_102 : cnt 102 = 12 := rfl
  have cc_103 : cnt 103 = 144 := rfl
  have cc_104 : cnt 104 = 2400 := rfl
  have cc_105 : cnt 105 = 7200 := rfl
  have x_T : FW R [224, 229, 230, 256, 257, 258, 1472, 1984, 2016, 2048, 2080, 2112, 3202] T T := FW.rf
  have j_a0 := i_any a0
  have j_a1 := i_any a1
  have j_a2 := i_any a2
  unfold g_X11_pointPower
  refine tot_oif (iv_oO h_T k_o (by decide) (by decide) rfl) ?_
  refine tot_thrp (Q := fun r_1 : Int32 => (0 ≤ r_1.toInt ∧ r_1.toInt ≤ 0)) (cs_X11_needCamera T o h_T k_o ) (fun r_1 d_r_1 => ?_) (fun k_ => ⟨⟨h_T, x_T⟩, fun q_ => absurd q_ (Nat.succ_ne_zero k_)⟩)
  replace d_r_1 : (0 ≤ r_1.toInt ∧ r_1.toInt ≤ 0) := d_r_1
  refine tot_oif (iv_oO h_T k_o (by decide) (by decide) rfl) ?_
  refine tot_thrp (Q := fun r_3 : Int32 => (0 ≤ a0.toInt ∧ a0.toInt ≤ 143)) (cs_X11_needCell T o a0 h_T k_o ) (fun r_3 d_r_3 => ?_) (fun k_ => ⟨⟨h_T, x_T⟩, fun q_ => absurd q_ (Nat.succ_ne_zero k_)⟩)
  replace d_r_3 : (0 ≤ a0.toInt ∧ a0.toInt ≤ 143) := d_r_3
  refine tot_oif (iv_oO h_T k_o (by decide) (by decide) rfl) ?_
  refine tot_thrp (Q := fun r_5 : Int32 => (0 ≤ a1.toInt ∧ a1.toInt ≤ 143)) (cs_X11_needCell T o a1 h_T k_o ) (fun r_5 d_r_5 => ?_) (fun k_ => ⟨⟨h_T, x_T⟩, fun q_ => absurd q_ (Nat.succ_ne_zero k_)⟩)
  replace d_r_5 : (0 ≤ a1.toInt ∧ a1.toInt ≤ 143) := d_r_5
  refine tot_thrp (Q := fun r_7 : Int32 => (((2 : Int32) : Int32).toInt ≤ a2.toInt ∧ a2.toInt ≤ ((99 : Int32) : Int32).toInt)) (cs_X11_needRange T a2 (2 : Int32) (99 : Int32) h_T ) (fun r_7 d_r_7 => ?_) (fun k_ => ⟨⟨h_T, x_T⟩, fun q_ => absurd q_ (Nat.succ_ne_zero k_)⟩)
  replace d_r_7 : (((2 : Int32) : Int32).toInt ≤ a2.toInt ∧ a2.toInt ≤ ((99 : Int32) : Int32).toInt) := d_r_7
  refine tot_oif (iv_oO h_T k_o (by decide) (by decide) rfl) ?_
  refine tot_bind (cs_X11_recordPoint T o a0 a2 h_T k_o (by omega) (by omega)) (fun T_9 d_T_9 => ?_)
  have h_T_9 : IV R B K1 K2 T_9 := d_T_9.1
  have y_T_9 : FW R [224, 229, 230, 256, 257, 258, 1472, 1984, 2016, 2048, 2080, 2112, 3202] T T_9 := d_T_9.2
  have x_T_9 := x_T.tr (y_T_9.w (by decide))
  unfold g_X11_pointPower_b27
  refine tot_oif (iv_oO h_T_9 k_o (by decide) (by decide) rfl) ?_
  refine tot_ref h_T_9 k_o (by decide) (by decide) (r2 := 8) (rfl : rtg 11 7 = 8) (by decide) (fun n_10 k_n_10 e_n_10 => ?_)
  refine tot_oif (iv_oO h_T_9 k_o (by decide) (by decide) rfl) ?_
  refine tot_ref h_T_9 k_o (by decide) (by decide) (r2 := 6) (rfl : rtg 11 14 = 6) (by decide) (fun n_11 k_n_11 e_n_11 => ?_)
  refine tot_oif (iv_oO h_T_9 k_n_11 (by decide) (by decide) rfl) ?_
  refine tot_ref h_T_9 k_n_11 (by decide) (by decide) (r2 := 51) (rfl : rtg 6 17 = 51) (by decide) (fun n_12 k_n_12 e_n_12 => ?_)
  refine tot_oif (iv_aA h_T_9 k_n_12 (by decide) (by decide) rfl rfl) ?_
  refine tot_oif (by rw [iv_len h_T_9 k_n_12 (by decide) (by decide) (rfl : shp 51 = (106, 144))]; exact i_inb (by omega) (by omega)) ?_
  refine tot_ref h_T_9 k_n_12 (by decide) (by decide) (r2 := 50) (rt_51 (by omega) (by omega)) (by decide) (fun n_13 k_n_13 e_n_13 => ?_)
  refine tot_oif (iv_oO h_T_9 k_o (by decide) (by decide) rfl) ?_
  refine tot_ref h_T_9 k_o (by decide) (by decide) (r2 := 102) (rfl : rtg 11 12 = 102) (by decide) (fun n_14 k_n_14 e_n_14 => ?_)
  refine tot_oif (iv_oO h_T_9 k_n_10 (by decide) (by decide) rfl) ?_
  refine tot_bind (cs_X8_powerOf T_9 n_10 n_13 n_14 (0 : Int32) h_T_9 k_n_10 k_n_13 k_n_14 (rfl : isW 102 = true) (by omega) (by omega)) (fun T_15 d_T_15 => ?_)
  have h_T_15 : IV R B K1 K2 T_15 := d_T_15.1
  have y_T_15 : FW R [3202] T_9 T_15 := d_T_15.2
  have x_T_15 := x_T_9.tr (y_T_15.w (by decide))
  unfold g_X11_pointPower_b48
  refine tot_oif (iv_oO h_T_15 k_o (by decide) (by decide) rfl) ?_
  refine tot_ref h_T_15 k_o (by decide) (by decide) (r2 := 102) (rfl : rtg 11 12 = 102) (by decide) (fun n_16 k_n_16 e_n_16 => ?_)
  refine tot_oif (w_oO h_T_15 k_n_16 (rfl : isW 102 = true)) ?_
  refine tot_bindq (R := fun r_17 : Int64 => True) (c_value (a0 := (0 : Int32)) k_n_16 (rfl : isW 102 = true) h_T_15 (by omega)) (fun r_17 d_r_17 => ?_)
  exact tot_some ⟨⟨h_T_15, x_T_15⟩, fun _ => trivial⟩
set_option maxHeartbeats 4000000 in
set_option maxRecDepth 10000 in
theorem cs_X11_bestWithout {R : Nat → Nat} {B K1 K2 : Nat} (T : AT) (o : Nat) (a0 : Int32) (h_T : IV R B K1 K2 T) (k_o : R o = 11) : Tot (g_X11_bestWithout T o a0) (fun r => (IV R B K1 K2 r.2.2 ∧ FW R [130, 131, 256, 257, 258, 1952, 1984, 2016, 2048, 2080, 2112, 2144, 3202] T r.2.2) ∧ (r.1 = 0 → (0 ≤ r.2.1.toInt ∧ r.2.1.toInt ≤ 143))) := by
  have z0 : (1 : Int32).toInt = 1 := by decide
  have cc_101 : cnt 101 = 1 := rfl
  have cc_102 : cnt 102 = 12 := rfl
  have cc_103 : cnt 103 = 144 := rfl
  have cc_104 : cnt 104 = 2400 := rfl
  have cc_105 : cnt 105 = 7200 := rfl
  have x_T : FW R [130, 131, 256, 257, 258, 1952, 1984, 2016, 2048, 2080, 2112, 2144, 3202] T T := FW.rf
  have j_a0 := i_any a0
  unfold g_X11_bestWithout
  refine tot_oif (iv_oO h_T k_o (by decide) (by decide) rfl) ?_
  refine tot_thrp (Q := fun r_1 : Int32 => (0 ≤ r_1.toInt ∧ r_1.toInt ≤ 0)) (cs_X11_needCamera T o h_T k_o ) (fun r_1 d_r_1 => ?_) (fun k_ => ⟨⟨h_T, x_T⟩, fun q_ => absurd q_ (Nat.succ_ne_zero k_)⟩)
  replace d_r_1 : (0 ≤ r_1.toInt ∧ r_1.toInt ≤ 0) := d_r_1
  refine tot_oif (iv_oO h_T k_o (by decide) (by decide) rfl) ?_
  refine tot_thrp (Q := fun r_3 : Int32 => (0 ≤ a0.toInt ∧ a0.toInt ≤ 11)) (cs_X11_needMic T o a0 h_T k_o ) (fun r_3 d_r_3 => ?_) (fun k_ => ⟨⟨h_T, x_T⟩, fun q_ => absurd q_ (Nat.succ_ne_zero k_)⟩)
  replace d_r_3 : (0 ≤ a0.toInt ∧ a0.toInt ≤ 11) := d_r_3
  refine tot_oif (iv_oO h_T k_o (by decide) (by decide) rfl) ?_
  refine tot_ref h_T k_o (by decide) (by decide) (r2 := 8) (rfl : rtg 11 7 = 8) (by decide) (fun n_5 k_n_5 e_n_5 => ?_)
  refine tot_oif (iv_oO h_T k_o (by decide) (by decide) rfl) ?_
  refine tot_ref h_T k_o (by decide) (by decide) (r2 := 8) (rfl : rtg 11 6 = 8) (by decide) (fun n_6 k_n_6 e_n_6 => ?_)
  refine tot_oif (iv_oO h_T k_n_5 (by decide) (by decide) rfl) ?_
  refine tot_bind (cs_X8_copyFrom T n_5 n_6 h_T k_n_5 k_n_6 ) (fun T_7 d_T_7 => ?_)
  have h_T_7 : IV R B K1 K2 T_7 := d_T_7.1
  have y_T_7 : FW R [256, 257, 258, 1984, 2016, 2048, 2080, 2112, 3202] T T_7 := d_T_7.2
  have x_T_7 := x_T.tr (y_T_7.w (by decide))
  unfold g_X11_bestWithout_b20
  refine tot_oif (iv_oO h_T_7 k_o (by decide) (by decide) rfl) ?_
  refine tot_ref h_T_7 k_o (by decide) (by decide) (r2 := 8) (rfl : rtg 11 7 = 8) (by decide) (fun n_8 k_n_8 e_n_8 => ?_)
  refine tot_oif (iv_oO h_T_7 k_n_8 (by decide) (by decide) rfl) ?_
  refine tot_ref h_T_7 k_n_8 (by decide) (by decide) (r2 := 62) (rfl : rtg 8 3 = 62) (by decide) (fun n_9 k_n_9 e_n_9 => ?_)
  refine tot_oif (iv_aA h_T_7 k_n_9 (by decide) (by decide) rfl rfl) ?_
  refine tot_oif (by rw [iv_len h_T_7 k_n_9 (by decide) (by decide) (rfl : shp 62 = (102, 12))]; exact i_inb (by omega) (by omega)) ?_
  refine tot_let (fun T_10 e_T_10 => ?_)
  have h_T_10 : IV R B K1 K2 T_10 := by rw [e_T_10]; exact iv_uI (a := 0) (b := 1) h_T_7 k_n_9 (by decide) (by decide) rfl (by omega) (.inl rfl)
  have x_T_10 := x_T_7.tr (fw_uA e_T_10 k_n_9 rfl rfl (by decide))
  refine tot_oif (iv_oO h_T_10 k_o (by decide) (by decide) rfl) ?_
  refine tot_bind2 (cs_X11_trialBest T_10 o h_T_10 k_o ) (fun r_11 T_12 d_r_11 => ?_)
  have h_T_12 : IV R B K1 K2 T_12 := d_r_11.1.1
  have y_T_12 : FW R [130, 131, 1952, 2144, 3202] T_10 T_12 := d_r_11.1.2
  have x_T_12 := x_T_10.tr (y_T_12.w (by decide))
  replace d_r_11 : (0 ≤ r_11.toInt ∧ r_11.toInt ≤ 143) := d_r_11.2
  unfold g_X11_bestWithout_b34
  exact tot_some ⟨⟨h_T_12, x_T_12⟩, fun _ => (show (0 ≤ r_11.toInt ∧ r_11.toInt ≤ 143) from by omega)⟩
set_option maxHeartbeats 4000000 in
set_option maxRecDepth 10000 in
theorem cs_X11_bestIfOff {R : Nat → Nat} {B K1 K2 : Nat} (T : AT) (o : Nat) (a0 : Int32) (h_T : IV R B K1 K2 T) (k_o : R o = 11) : Tot (g_X11_bestIfOff T o a0) (fun r => (IV R B K1 K2 r.2.2 ∧ FW R [130, 131, 256, 257, 258, 1472, 1952, 1984, 2016, 2048, 2080, 2112, 2144, 3202] T r.2.2) ∧ (r.1 = 0 → (0 ≤ r.2.1.toInt ∧ r.2.1.toInt ≤ 143))) := by
  have z0 : (0 : Int32).toInt = 0 := by decide
  have cc_101 : cnt 101 = 1 := rfl
  have cc_102 : cnt 102 = 12 := rfl
  have cc_103 : cnt 103 = 144 := rfl
  have cc_104 : cnt 104 = 2400 := rfl
  have cc_105 : cnt 105 = 7200 := rfl
  have x_T : FW R [130, 131, 256, 257, 258, 1472, 1952, 1984, 2016, 2048, 2080, 2112, 2144, 3202] T T := FW.rf
  have j_a0 := i_any a0
  unfold g_X11_bestIfOff
  refine tot_oif (iv_oO h_T k_o (by decide) (by decide) rfl) ?_
  refine tot_thrp (Q := fun r_1 : Int32 => (0 ≤ r_1.toInt ∧ r_1.toInt ≤ 0)) (cs_X11_needCamera T o h_T k_o ) (fun r_1 d_r_1 => ?_) (fun k_ => ⟨⟨h_T, x_T⟩, fun q_ => absurd q_ (Nat.succ_ne_zero k_)⟩)
  replace d_r_1 : (0 ≤ r_1.toInt ∧ r_1.toInt ≤ 0) := d_r_1
  refine tot_oif (iv_oO h_T k_o (by decide) (by decide) rfl) ?_
  refine tot_thrp (Q := fun r_3 : Int32 => (0 ≤ a0.toInt ∧ a0.toInt ≤ 5)) (cs_X11_needSource T o a0 h_T k_o ) (fun r_3 d_r_3 => ?_) (fun k_ => ⟨⟨h_T, x_T⟩, fun q_ => absurd q_ (Nat.succ_ne_zero k_)⟩)
  replace d_r_3 : (0 ≤ a0.toInt ∧ a0.toInt ≤ 5) := d_r_3
  refine tot_oif (iv_oO h_T k_o (by decide) (by decide) rfl) ?_
  refine tot_ref h_T k_o (by decide) (by decide) (r2 := 8) (rfl : rtg 11 7 = 8) (by decide) (fun n_5 k_n_5 e_n_5 => ?_)
  refine tot_oif (iv_oO h_T k_o (by decide) (by decide) rfl) ?_
  refine tot_ref h_T k_o (by decide) (by decide) (r2 := 8) (rfl : rtg 11 6 = 8) (by decide) (fun n_6 k_n_6 e_n_6 => ?_)
  refine tot_oif (iv_oO h_T k_n_5 (by decide) (by decide) rfl) ?_
  refine tot_bind (cs_X8_copyFrom T n_5 n_6 h_T k_n_5 k_n_6 ) (fun T_7 d_T_7 => ?_)
  have h_T_7 : IV R B K1 K2 T_7 := d_T_7.1
  have y_T_7 : FW R [256, 257, 258, 1984, 2016, 2048, 2080, 2112, 3202] T T_7 := d_T_7.2
  have x_T_7 := x_T.tr (y_T_7.w (by decide))
  unfold g_X11_bestIfOff_b20
  refine tot_oif (iv_oO h_T_7 k_o (by decide) (by decide) rfl) ?_
  refine tot_ref h_T_7 k_o (by decide) (by decide) (r2 := 8) (rfl : rtg 11 7 = 8) (by decide) (fun n_8 k_n_8 e_n_8 => ?_)
  refine tot_oif (iv_oO h_T_7 k_n_8 (by decide) (by decide) rfl) ?_
  refine tot_ref h_T_7 k_n_8 (by decide) (by decide) (r2 := 64) (rfl : rtg 8 5 = 64) (by decide) (fun n_9 k_n_9 e_n_9 => ?_)
  refine tot_oif (iv_aA h_T_7 k_n_9 (by decide) (by decide) rfl rfl) ?_
  refine tot_oif (by rw [iv_len h_T_7 k_n_9 (by decide) (by decide) (rfl : shp 64 = (102, 6))]; exact i_inb (by omega) (by omega)) ?_
  refine tot_let (fun T_10 e_T_10 => ?_)
  have h_T_10 : IV R B K1 K2 T_10 := by rw [e_T_10]; exact iv_uI (a := 0) (b := 1) h_T_7 k_n_9 (by decide) (by decide) rfl (by omega) (.inl rfl)
  have x_T_10 := x_T_7.tr (fw_uA e_T_10 k_n_9 rfl rfl (by decide))
  refine tot_oif (iv_oO h_T_10 k_o (by decide) (by decide) rfl) ?_
  refine tot_ref h_T_10 k_o (by decide) (by decide) (r2 := 5) (rfl : rtg 11 2 = 5) (by decide) (fun n_11 k_n_11 e_n_11 => ?_)
  refine tot_oif (iv_oO h_T_10 k_o (by decide) (by decide) rfl) ?_
  refine tot_ref h_T_10 k_o (by decide) (by decide) (r2 := 6) (rfl : rtg 11 14 = 6) (by decide) (fun n_12 k_n_12 e_n_12 => ?_)
  refine tot_oif (iv_oO h_T_10 k_o (by decide) (by decide) rfl) ?_
  refine tot_ref h_T_10 k_o (by decide) (by decide) (r2 := 8) (rfl : rtg 11 7 = 8) (by decide) (fun n_13 k_n_13 e_n_13 => ?_)
  refine tot_oif (iv_oO h_T_10 k_n_11 (by decide) (by decide) rfl) ?_
  refine tot_bind (cs_X5_record T_10 n_11 n_12 n_13 h_T_10 k_n_11 k_n_12 k_n_13 ) (fun T_14 d_T_14 => ?_)
  have h_T_14 : IV R B K1 K2 T_14 := d_T_14.1
  have y_T_14 : FW R [258, 1472, 3202] T_10 T_14 := d_T_14.2
  have x_T_14 := x_T_10.tr (y_T_14.w (by decide))
  unfold g_X11_bestIfOff_b45
  refine tot_oif (iv_oO h_T_14 k_o (by decide) (by decide) rfl) ?_
  refine tot_bind2 (cs_X11_trialBest T_14 o h_T_14 k_o ) (fun r_15 T_16 d_r_15 => ?_)
  have h_T_16 : IV R B K1 K2 T_16 := d_r_15.1.1
  have y_T_16 : FW R [130, 131, 1952, 2144, 3202] T_14 T_16 := d_r_15.1.2
  have x_T_16 := x_T_14.tr (y_T_16.w (by decide))
  replace d_r_15 : (0 ≤ r_15.toInt ∧ r_15.toInt ≤ 143) := d_r_15.2
  unfold g_X11_bestIfOff_b49
  exact tot_some ⟨⟨h_T_16, x_T_16⟩, fun _ => (show (0 ≤ r_15.toInt ∧ r_15.toInt ≤ 143) from by omega)⟩
set_option maxHeartbeats 4000000 in
set_option maxRecDepth 10000 in
theorem cs_X11_keepForUndo {R : Nat → Nat} {B K1 K2 : Nat} (T : AT) (o : Nat) (h_T : IV R B K1 K2 T) (k_o : R o = 11) : Tot (g_X11_keepForUndo T o) (fun T1 => IV R B K1 K2 T1 ∧ FW R [128, 256, 257, 258, 368, 369, 1984, 2016, 2048, 2080, 2112, 3202] T T1) := by
  have z0 : (1 : Int32).toInt = 1 := by decide
  have z1 : (6 : Int32).toInt = 6 := by decide
  have z2 : (0 : Int32).toInt = 0 := by decide
  have cc_101 : cnt 101 = 1 := rfl
  have cc_102 : cnt 102 = 12 := rfl
  have cc_103 : cnt 103 = 144 := rfl
  have cc_104 : cnt 104 = 2400 := rfl
  have cc_105 : cnt 105 = 7200 := rfl
  have x_T : FW R [128, 256, 257, 258, 368, 369, 1984, 2016, 2048, 2080, 2112, 3202] T T := FW.rf
  unfold g_X11_keepForUndo
  refine tot_oif (iv_oO h_T k_o (by decide) (by decide) rfl) ?_
  refine tot_let (fun v_1 e_v_1 => ?_)
  have r_v_1 : 0 ≤ v_1.toInt ∧ v_1.toInt ≤ 5 := iv_int h_T k_o (by decide) (by decide) e_v_1 rfl
  refine tot_let (fun v_2 e_v_2 => ?_)
  have q_v_2 := i_add e_v_2 (by omega) (by omega)
  refine tot_let (fun v_3 e_v_3 => ?_)
  have q_v_3 := i_rem e_v_3 (by omega) (by omega)
  refine tot_oif (iv_oO h_T k_o (by decide) (by decide) rfl) ?_
  refine tot_let (fun T_4 e_T_4 => ?_)
  have h_T_4 : IV R B K1 K2 T_4 := by rw [e_T_4]; exact iv_uI (a := 0) (b := 5) h_T k_o (by decide) (by decide) rfl (by omega) (.inl rfl)
  have x_T_4 := x_T.tr (fw_uI e_T_4 k_o (by decide))
  refine tot_oif (iv_oO h_T_4 k_o (by decide) (by decide) rfl) ?_
  refine tot_ref h_T_4 k_o (by decide) (by decide) (r2 := 47) (rfl : rtg 11 8 = 47) (by decide) (fun n_5 k_n_5 e_n_5 => ?_)
  refine tot_oif (iv_oO h_T_4 k_o (by decide) (by decide) rfl) ?_
  refine tot_let (fun v_6 e_v_6 => ?_)
  have r_v_6 : 0 ≤ v_6.toInt ∧ v_6.toInt ≤ 5 := iv_int h_T_4 k_o (by decide) (by decide) e_v_6 rfl
  refine tot_oif (iv_aA h_T_4 k_n_5 (by decide) (by decide) rfl rfl) ?_
  refine tot_oif (by rw [iv_len h_T_4 k_n_5 (by decide) (by decide) (rfl : shp 47 = (105, 6))]; exact i_inb (by omega) (by omega)) ?_
  refine tot_ref h_T_4 k_n_5 (by decide) (by decide) (r2 := 8) (rt_47 (by omega) (by omega)) (by decide) (fun n_7 k_n_7 e_n_7 => ?_)
  refine tot_oif (iv_oO h_T_4 k_o (by decide) (by decide) rfl) ?_
  refine tot_ref h_T_4 k_o (by decide) (by decide) (r2 := 8) (rfl : rtg 11 6 = 8) (by decide) (fun n_8 k_n_8 e_n_8 => ?_)
  refine tot_oif (iv_oO h_T_4 k_n_7 (by decide) (by decide) rfl) ?_
  refine tot_bind (cs_X8_copyFrom T_4 n_7 n_8 h_T_4 k_n_7 k_n_8 ) (fun T_9 d_T_9 => ?_)
  have h_T_9 : IV R B K1 K2 T_9 := d_T_9.1
  have y_T_9 : FW R [256, 257, 258, 1984, 2016, 2048, 2080, 2112, 3202] T_4 T_9 := d_T_9.2
  have x_T_9 := x_T_4.tr (y_T_9.w (by decide))
  unfold g_X11_keepForUndo_b29
  refine tot_oif (iv_oO h_T_9 k_o (by decide) (by decide) rfl) ?_
  refine tot_let (fun v_10 e_v_10 => ?_)
  have r_v_10 : 0 ≤ v_10.toInt ∧ v_10.toInt ≤ 6 := iv_int h_T_9 k_o (by decide) (by decide) e_v_10 rfl
  refine tot_if (fun c_14 => ?_) (fun c_14 => ?_)
  · replace c_14 := i_le c_14
    unfold g_X11_keepForUndo_b48
    refine tot_oif (iv_oO h_T_9 k_o (by decide) (by decide) rfl) ?_
    refine tot_ref h_T_9 k_o (by decide) (by decide) (r2 := 4) (rfl : rtg 11 4 = 4) (by decide) (fun n_15 k_n_15 e_n_15 => ?_)
    refine tot_oif (iv_oO h_T_9 k_n_15 (by decide) (by decide) rfl) ?_
    refine tot_let (fun T_16 e_T_16 => ?_)
    have h_T_16 : IV R B K1 K2 T_16 := by rw [e_T_16]; exact iv_uI (a := 0) (b := 1) h_T_9 k_n_15 (by decide) (by decide) rfl (by omega) (.inl rfl)
    have x_T_16 := x_T_9.tr (fw_uI e_T_16 k_n_15 (by decide))
    exact tot_some ⟨h_T_16, x_T_16⟩
  · replace c_14 := i_nle c_14
    refine tot_oif (iv_oO h_T_9 k_o (by decide) (by decide) rfl) ?_
    refine tot_let (fun v_11 e_v_11 => ?_)
    have u_v_11 : v_11.toInt = v_10.toInt := by rw [e_v_11, e_v_10]
    have r_v_11 : 0 ≤ v_11.toInt ∧ v_11.toInt ≤ 6 := iv_int h_T_9 k_o (by decide) (by decide) e_v_11 rfl
    refine tot_let (fun v_12 e_v_12 => ?_)
    have q_v_12 := i_add e_v_12 (by omega) (by omega)
    refine tot_oif (iv_oO h_T_9 k_o (by decide) (by decide) rfl) ?_
    refine tot_let (fun T_13 e_T_13 => ?_)
    have h_T_13 : IV R B K1 K2 T_13 := by rw [e_T_13]; exact iv_uI (a := 0) (b := 6) h_T_9 k_o (by decide) (by decide) rfl (by omega) (.inl rfl)
    have x_T_13 := x_T_9.tr (fw_uI e_T_13 k_o (by decide))
    unfold g_X11_keepForUndo_b48
    refine tot_oif (iv_oO h_T_13 k_o (by decide) (by decide) rfl) ?_
    refine tot_ref h_T_13 k_o (by decide) (by decide) (r2 := 4) (rfl : rtg 11 4 = 4) (by decide) (fun n_17 k_n_17 e_n_17 => ?_)
    refine tot_oif (iv_oO h_T_13 k_n_17 (by decide) (by decide) rfl) ?_
    refine tot_let (fun T_18 e_T_18 => ?_)
    have h_T_18 : IV R B K1 K2 T_18 := by rw [e_T_18]; exact iv_uI (a := 0) (b := 1) h_T_13 k_n_17 (by decide) (by decide) rfl (by omega) (.inl rfl)
    have x_T_18 := x_T_13.tr (fw_uI e_T_18 k_n_17 (by decide))
    exact tot_some ⟨h_T_18, x_T_18⟩
set_option maxHeartbeats 4000000 in
set_option maxRecDepth 10000 in
theorem cs_X11_mute {R : Nat → Nat} {B K1 K2 : Nat} (T : AT) (o : Nat) (a0 : Int32) (a1 : Int32) (h_T : IV R B K1 K2 T) (k_o : R o = 11) (g0 : 0 ≤ a1.toInt ∧ a1.toInt ≤ 1) : Tot (g_X11_mute T o a0 a1) (fun r => (IV R B K1 K2 r.2.2 ∧ FW R [128, 256, 257, 258, 368, 369, 1984, 2016, 2048, 2080, 2112, 3202] T r.2.2) ∧ (r.1 = 0 → (0 ≤ r.2.1.toInt ∧ r.2.1.toInt ≤ 1))) := by
  have cc_101 : cnt 101 = 1 := rfl
  have cc_102 : cnt 102 = 12 := rfl
  have cc_103 : cnt 103 = 144 := rfl
  have cc_104 : cnt 104 = 2400 := rfl
  have cc_105 : cnt 105 = 7200 := rfl
  have x_T : FW R [128, 256, 257, 258, 368, 369, 1984, 2016, 2048, 2080, 2112, 3202] T T := FW.rf
  have j_a0 := i_any a0
  have j_a1 := i_any a1
  unfold g_X11_mute
  refine tot_oif (iv_oO h_T k_o (by decide) (by decide) rfl) ?_
  refine tot_thrp (Q := fun r_1 : Int32 => (0 ≤ r_1.toInt ∧ r_1.toInt ≤ 0)) (cs_X11_needCamera T o h_T k_o ) (fun r_1 d_r_1 => ?_) (fun k_ => ⟨⟨h_T, x_T⟩, fun q_ => absurd q_ (Nat.succ_ne_zero k_)⟩)
  replace d_r_1 : (0 ≤ r_1.toInt ∧ r_1.toInt ≤ 0) := d_r_1
  refine tot_oif (iv_oO h_T k_o (by decide) (by decide) rfl) ?_
  refine tot_thrp (Q := fun r_3 : Int32 => (0 ≤ a0.toInt ∧ a0.toInt ≤ 11)) (cs_X11_needMic T o a0 h_T k_o ) (fun r_3 d_r_3 => ?_) (fun k_ => ⟨⟨h_T, x_T⟩, fun q_ => absurd q_ (Nat.succ_ne_zero k_)⟩)
  replace d_r_3 : (0 ≤ a0.toInt ∧ a0.toInt ≤ 11) := d_r_3
  refine tot_oif (iv_oO h_T k_o (by decide) (by decide) rfl) ?_
  refine tot_ref h_T k_o (by decide) (by decide) (r2 := 8) (rfl : rtg 11 6 = 8) (by decide) (fun n_5 k_n_5 e_n_5 => ?_)
  refine tot_oif (iv_oO h_T k_n_5 (by decide) (by decide) rfl) ?_
  refine tot_ref h_T k_n_5 (by decide) (by decide) (r2 := 62) (rfl : rtg 8 3 = 62) (by decide) (fun n_6 k_n_6 e_n_6 => ?_)
  refine tot_oif (iv_aA h_T k_n_6 (by decide) (by decide) rfl rfl) ?_
  refine tot_oif (by rw [iv_len h_T k_n_6 (by decide) (by decide) (rfl : shp 62 = (102, 12))]; exact i_inb (by omega) (by omega)) ?_
  refine tot_let (fun v_7 e_v_7 => ?_)
  have r_v_7 : 0 ≤ v_7.toInt ∧ v_7.toInt ≤ 1 := iv_int h_T k_n_6 (by decide) (by decide) e_v_7 rfl
  refine tot_oif (iv_oO h_T k_o (by decide) (by decide) rfl) ?_
  refine tot_bind (cs_X11_keepForUndo T o h_T k_o ) (fun T_8 d_T_8 => ?_)
  have h_T_8 : IV R B K1 K2 T_8 := d_T_8.1
  have y_T_8 : FW R [128, 256, 257, 258, 368, 369, 1984, 2016, 2048, 2080, 2112, 3202] T T_8 := d_T_8.2
  have x_T_8 := x_T.tr (y_T_8.w (by decide))
  unfold g_X11_mute_b23
  refine tot_oif (iv_oO h_T_8 k_o (by decide) (by decide) rfl) ?_
  refine tot_ref h_T_8 k_o (by decide) (by decide) (r2 := 8) (rfl : rtg 11 6 = 8) (by decide) (fun n_9 k_n_9 e_n_9 => ?_)
  refine tot_oif (iv_oO h_T_8 k_n_9 (by decide) (by decide) rfl) ?_
  refine tot_ref h_T_8 k_n_9 (by decide) (by decide) (r2 := 62) (rfl : rtg 8 3 = 62) (by decide) (fun n_10 k_n_10 e_n_10 => ?_)
  refine tot_oif (iv_aA h_T_8 k_n_10 (by decide) (by decide) rfl rfl) ?_
  refine tot_oif (by rw [iv_len h_T_8 k_n_10 (by decide) (by decide) (rfl : shp 62 = (102, 12))]; exact i_inb (by omega) (by omega)) ?_
  refine tot_oif (i_b01 (by omega)) ?_
  refine tot_let (fun T_11 e_T_11 => ?_)
  have h_T_11 : IV R B K1 K2 T_11 := by rw [e_T_11]; exact iv_uI (a := 0) (b := 1) h_T_8 k_n_10 (by decide) (by decide) rfl (by omega) (.inl rfl)
  have x_T_11 := x_T_8.tr (fw_uA e_T_11 k_n_10 rfl rfl (by decide))
  refine tot_oif (i_b01 (by omega)) ?_
  exact tot_some ⟨⟨h_T_11, x_T_11⟩, fun _ => (show (0 ≤ v_7.toInt ∧ v_7.toInt ≤ 1) from by omega)⟩
set_option maxHeartbeats 4000000 in
set_option maxRecDepth 10000 in
theorem cs_X11_setWeight {R : Nat → Nat} {B K1 K2 : Nat} (T : AT) (o : Nat) (a0 : Int32) (a1 : Int32) (h_T : IV R B K1 K2 T) (k_o : R o = 11) : Tot (g_X11_setWeight T o a0 a1) (fun r => (IV R B K1 K2 r.2.2 ∧ FW R [128, 256, 257, 258, 368, 369, 1984, 2016, 2048, 2080, 2112, 3202] T r.2.2) ∧ (r.1 = 0 → (0 ≤ r.2.1.toInt ∧ r.2.1.toInt ≤ 9))) := by
  have z0 : ((0 : Int32) : Int32).toInt = 0 := by decide
  have z1 : ((9 : Int32) : Int32).toInt = 9 := by decide
  have cc_101 : cnt 101 = 1 := rfl
  have cc_102 : cnt 102 = 12 := rfl
  have cc_103 : cnt 103 = 144 := rfl
  have cc_104 : cnt 104 = 2400 := rfl
  have cc_105 : cnt 105 = 7200 := rfl
  have x_T : FW R [128, 256, 257, 258, 368, 369, 1984, 2016, 2048, 2080, 2112, 3202] T T := FW.rf
  have j_a0 := i_any a0
  have j_a1 := i_any a1
  unfold g_X11_setWeight
  refine tot_oif (iv_oO h_T k_o (by decide) (by decide) rfl) ?_
  refine tot_thrp (Q := fun r_1 : Int32 => (0 ≤ r_1.toInt ∧ r_1.toInt ≤ 0)) (cs_X11_needCamera T o h_T k_o ) (fun r_1 d_r_1 => ?_) (fun k_ => ⟨⟨h_T, x_T⟩, fun q_ => absurd q_ (Nat.succ_ne_zero k_)⟩)
  replace d_r_1 : (0 ≤ r_1.toInt ∧ r_1.toInt ≤ 0) := d_r_1
  refine tot_oif (iv_oO h_T k_o (by decide) (by decide) rfl) ?_
  refine tot_thrp (Q := fun r_3 : Int32 => (0 ≤ a0.toInt ∧ a0.toInt ≤ 11)) (cs_X11_needMic T o a0 h_T k_o ) (fun r_3 d_r_3 => ?_) (fun k_ => ⟨⟨h_T, x_T⟩, fun q_ => absurd q_ (Nat.succ_ne_zero k_)⟩)
  replace d_r_3 : (0 ≤ a0.toInt ∧ a0.toInt ≤ 11) := d_r_3
  refine tot_thrp (Q := fun r_5 : Int32 => (((0 : Int32) : Int32).toInt ≤ a1.toInt ∧ a1.toInt ≤ ((9 : Int32) : Int32).toInt)) (cs_X11_needRange T a1 (0 : Int32) (9 : Int32) h_T ) (fun r_5 d_r_5 => ?_) (fun k_ => ⟨⟨h_T, x_T⟩, fun q_ => absurd q_ (Nat.succ_ne_zero k_)⟩)
  replace d_r_5 : (((0 : Int32) : Int32).toInt ≤ a1.toInt ∧ a1.toInt ≤ ((9 : Int32) : Int32).toInt) := d_r_5
  refine tot_oif (iv_oO h_T k_o (by decide) (by decide) rfl) ?_
  refine tot_ref h_T k_o (by decide) (by decide) (r2 := 8) (rfl : rtg 11 6 = 8) (by decide) (fun n_7 k_n_7 e_n_7 => ?_)
  refine tot_oif (iv_oO h_T k_n_7 (by decide) (by decide) rfl) ?_
  refine tot_ref h_T k_n_7 (by decide) (by decide) (r2 := 63) (rfl : rtg 8 4 = 63) (by decide) (fun n_8 k_n_8 e_n_8 => ?_)
  refine tot_oif (iv_aA h_T k_n_8 (by decide) (by decide) rfl rfl) ?_
  refine tot_oif (by rw [iv_len h_T k_n_8 (by decide) (by decide) (rfl : shp 63 = (100, 12))]; exact i_inb (by omega) (by omega)) ?_
  refine tot_let (fun v_9 e_v_9 => ?_)
  have r_v_9 : 0 ≤ v_9.toInt ∧ v_9.toInt ≤ 9 := iv_int h_T k_n_8 (by decide) (by decide) e_v_9 rfl
  refine tot_oif (iv_oO h_T k_o (by decide) (by decide) rfl) ?_
  refine tot_bind (cs_X11_keepForUndo T o h_T k_o ) (fun T_10 d_T_10 => ?_)
  have h_T_10 : IV R B K1 K2 T_10 := d_T_10.1
  have y_T_10 : FW R [128, 256, 257, 258, 368, 369, 1984, 2016, 2048, 2080, 2112, 3202] T T_10 := d_T_10.2
  have x_T_10 := x_T.tr (y_T_10.w (by decide))
  unfold g_X11_setWeight_b30
  refine tot_oif (iv_oO h_T_10 k_o (by decide) (by decide) rfl) ?_
  refine tot_ref h_T_10 k_o (by decide) (by decide) (r2 := 8) (rfl : rtg 11 6 = 8) (by decide) (fun n_11 k_n_11 e_n_11 => ?_)
  refine tot_oif (iv_oO h_T_10 k_n_11 (by decide) (by decide) rfl) ?_
  refine tot_ref h_T_10 k_n_11 (by decide) (by decide) (r2 := 63) (rfl : rtg 8 4 = 63) (by decide) (fun n_12 k_n_12 e_n_12 => ?_)
  refine tot_oif (iv_aA h_T_10 k_n_12 (by decide) (by decide) rfl rfl) ?_
  refine tot_oif (by rw [iv_len h_T_10 k_n_12 (by decide) (by decide) (rfl : shp 63 = (100, 12))]; exact i_inb (by omega) (by omega)) ?_
  refine tot_let (fun T_13 e_T_13 => ?_)
  have h_T_13 : IV R B K1 K2 T_13 := by rw [e_T_13]; exact iv_uI (a := 0) (b := 9) h_T_10 k_n_12 (by decide) (by decide) rfl (by omega) (.inl rfl)
  have x_T_13 := x_T_10.tr (fw_uA e_T_13 k_n_12 rfl rfl (by decide))
  exact tot_some ⟨⟨h_T_13, x_T_13⟩, fun _ => (show (0 ≤ v_9.toInt ∧ v_9.toInt ≤ 9) from by omega)⟩
set_option maxHeartbeats 4000000 in
set_option maxRecDepth 10000 in
theorem cs_X11_setOn {R : Nat → Nat} {B K1 K2 : Nat} (T : AT) (o : Nat) (a0 : Int32) (a1 : Int32) (h_T : IV R B K1 K2 T) (k_o : R o = 11) (g0 : 0 ≤ a1.toInt ∧ a1.toInt ≤ 1) : Tot (g_X11_setOn T o a0 a1) (fun r => (IV R B K1 K2 r.2.2 ∧ FW R [128, 256, 257, 258, 368, 369, 1472, 1984, 2016, 2048, 2080, 2112, 3202] T r.2.2) ∧ (r.1 = 0 → (0 ≤ r.2.1.toInt ∧ r.2.1.toInt ≤ 1))) := by
  have cc_101 : cnt 101 = 1 := rfl
  have cc_102 : cnt 102 = 12 := rfl
  have cc_103 : cnt 103 = 144 := rfl
  have cc_104 : cnt 104 = 2400 := rfl
  have cc_105 : cnt 105 = 7200 := rfl
  have x_T : FW R [128, 256, 257, 258, 368, 369, 1472, 1984, 2016, 2048, 2080, 2112, 3202] T T := FW.rf
  have j_a0 := i_any a0
  have j_a1 := i_any a1
  unfold g_X11_setOn
  refine tot_oif (iv_oO h_T k_o (by decide) (by decide) rfl) ?_
  refine tot_thrp (Q := fun r_1 : Int32 => (0 ≤ r_1.toInt ∧ r_1.toInt ≤ 0)) (cs_X11_needCamera T o h_T k_o ) (fun r_1 d_r_1 => ?_) (fun k_ => ⟨⟨h_T, x_T⟩, fun q_ => absurd q_ (Nat.succ_ne_zero k_)⟩)
  replace d_r_1 : (0 ≤ r_1.toInt ∧ r_1.toInt ≤ 0) := d_r_1
  refine tot_oif (iv_oO h_T k_o (by decide) (by decide) rfl) ?_
  refine tot_thrp (Q := fun r_3 : Int32 => (0 ≤ a0.toInt ∧ a0.toInt ≤ 5)) (cs_X11_needSource T o a0 h_T k_o ) (fun r_3 d_r_3 => ?_) (fun k_ => ⟨⟨h_T, x_T⟩, fun q_ => absurd q_ (Nat.succ_ne_zero k_)⟩)
  replace d_r_3 : (0 ≤ a0.toInt ∧ a0.toInt ≤ 5) := d_r_3
  refine tot_oif (iv_oO h_T k_o (by decide) (by decide) rfl) ?_
  refine tot_ref h_T k_o (by decide) (by decide) (r2 := 8) (rfl : rtg 11 6 = 8) (by decide) (fun n_5 k_n_5 e_n_5 => ?_)
  refine tot_oif (iv_oO h_T k_n_5 (by decide) (by decide) rfl) ?_
  refine tot_ref h_T k_n_5 (by decide) (by decide) (r2 := 64) (rfl : rtg 8 5 = 64) (by decide) (fun n_6 k_n_6 e_n_6 => ?_)
  refine tot_oif (iv_aA h_T k_n_6 (by decide) (by decide) rfl rfl) ?_
  refine tot_oif (by rw [iv_len h_T k_n_6 (by decide) (by decide) (rfl : shp 64 = (102, 6))]; exact i_inb (by omega) (by omega)) ?_
  refine tot_let (fun v_7 e_v_7 => ?_)
  have r_v_7 : 0 ≤ v_7.toInt ∧ v_7.toInt ≤ 1 := iv_int h_T k_n_6 (by decide) (by decide) e_v_7 rfl
  refine tot_oif (iv_oO h_T k_o (by decide) (by decide) rfl) ?_
  refine tot_bind (cs_X11_keepForUndo T o h_T k_o ) (fun T_8 d_T_8 => ?_)
  have h_T_8 : IV R B K1 K2 T_8 := d_T_8.1
  have y_T_8 : FW R [128, 256, 257, 258, 368, 369, 1984, 2016, 2048, 2080, 2112, 3202] T T_8 := d_T_8.2
  have x_T_8 := x_T.tr (y_T_8.w (by decide))
  unfold g_X11_setOn_b23
  refine tot_oif (iv_oO h_T_8 k_o (by decide) (by decide) rfl) ?_
  refine tot_ref h_T_8 k_o (by decide) (by decide) (r2 := 8) (rfl : rtg 11 6 = 8) (by decide) (fun n_9 k_n_9 e_n_9 => ?_)
  refine tot_oif (iv_oO h_T_8 k_n_9 (by decide) (by decide) rfl) ?_
  refine tot_ref h_T_8 k_n_9 (by decide) (by decide) (r2 := 64) (rfl : rtg 8 5 = 64) (by decide) (fun n_10 k_n_10 e_n_10 => ?_)
  refine tot_oif (iv_aA h_T_8 k_n_10 (by decide) (by decide) rfl rfl) ?_
  refine tot_oif (by rw [iv_len h_T_8 k_n_10 (by decide) (by decide) (rfl : shp 64 = (102, 6))]; exact i_inb (by omega) (by omega)) ?_
  refine tot_oif (i_b01 (by omega)) ?_
  refine tot_let (fun T_11 e_T_11 => ?_)
  have h_T_11 : IV R B K1 K2 T_11 := by rw [e_T_11]; exact iv_uI (a := 0) (b := 1) h_T_8 k_n_10 (by decide) (by decide) rfl (by omega) (.inl rfl)
  have x_T_11 := x_T_8.tr (fw_uA e_T_11 k_n_10 rfl rfl (by decide))
  refine tot_oif (iv_oO h_T_11 k_o (by decide) (by decide) rfl) ?_
  refine tot_ref h_T_11 k_o (by decide) (by decide) (r2 := 5) (rfl : rtg 11 2 = 5) (by decide) (fun n_12 k_n_12 e_n_12 => ?_)
  refine tot_oif (iv_oO h_T_11 k_o (by decide) (by decide) rfl) ?_
  refine tot_ref h_T_11 k_o (by decide) (by decide) (r2 := 6) (rfl : rtg 11 14 = 6) (by decide) (fun n_13 k_n_13 e_n_13 => ?_)
  refine tot_oif (iv_oO h_T_11 k_o (by decide) (by decide) rfl) ?_
  refine tot_ref h_T_11 k_o (by decide) (by decide) (r2 := 8) (rfl : rtg 11 6 = 8) (by decide) (fun n_14 k_n_14 e_n_14 => ?_)
  refine tot_oif (iv_oO h_T_11 k_n_12 (by decide) (by decide) rfl) ?_
  refine tot_bind (cs_X5_record T_11 n_12 n_13 n_14 h_T_11 k_n_12 k_n_13 k_n_14 ) (fun T_15 d_T_15 => ?_)
  have h_T_15 : IV R B K1 K2 T_15 := d_T_15.1
  have y_T_15 : FW R [258, 1472, 3202] T_11 T_15 := d_T_15.2
  have x_T_15 := x_T_11.tr (y_T_15.w (by decide))
  unfold g_X11_setOn_b48
  refine tot_oif (i_b01 (by omega)) ?_
  exact tot_some ⟨⟨h_T_15, x_T_15⟩, fun _ => (show (0 ≤ v_7.toInt ∧ v_7.toInt ≤ 1) from by omega)⟩
set_option maxHeartbeats 4000000 in
set_option maxRecDepth 10000 in
theorem cs_X11_moveSource {R : Nat → Nat} {B K1 K2 : Nat} (T : AT) (o : Nat) (a0 : Int32) (a1 : Int32) (a2 : Int32) (h_T : IV R B K1 K2 T) (k_o : R o = 11) : Tot (g_X11_moveSource T o a0 a1 a2) (fun r => (IV R B K1 K2 r.2.2 ∧ FW R [128, 130, 131, 256, 257, 258, 368, 369, 1472, 1952, 1984, 2016, 2048, 2080, 2112, 2144, 3202] T r.2.2) ∧ (r.1 = 0 → (0 ≤ r.2.1.toInt ∧ r.2.1.toInt ≤ 143))) := by
  have z0 : (((-2000) : Int32) : Int32).toInt = -2000 := by decide
  have z1 : ((2000 : Int32) : Int32).toInt = 2000 := by decide
  have cc_101 : cnt 101 = 1 := rfl
  have cc_102 : cnt 102 = 12 := rfl
  have cc_103 : cnt 103 = 144 := rfl
  have cc_104 : cnt 104 = 2400 := rfl
  have cc_105 : cnt 105 = 7200 := rfl
  have x_T : FW R [128, 130, 131, 256, 257, 258, 368, 369, 1472, 1952, 1984, 2016, 2048, 2080, 2112, 2144, 3202] T T := FW.rf
  have j_a0 := i_any a0
  have j_a1 := i_any a1
  have j_a2 := i_any a2
  unfold g_X11_moveSource
  refine tot_oif (iv_oO h_T k_o (by decide) (by decide) rfl) ?_
  refine tot_thrp (Q := fun r_1 : Int32 => (0 ≤ r_1.toInt ∧ r_1.toInt ≤ 0)) (cs_X11_needCamera T o h_T k_o ) (fun r_1 d_r_1 => ?_) (fun k_ => ⟨⟨h_T, x_T⟩, fun q_ => absurd q_ (Nat.succ_ne_zero k_)⟩)
  replace d_r_1 : (0 ≤ r_1.toInt ∧ r_1.toInt ≤ 0) := d_r_1
  refine tot_oif (iv_oO h_T k_o (by decide) (by decide) rfl) ?_
  refine tot_thrp (Q := fun r_3 : Int32 => (0 ≤ a0.toInt ∧ a0.toInt ≤ 5)) (cs_X11_needSource T o a0 h_T k_o ) (fun r_3 d_r_3 => ?_) (fun k_ => ⟨⟨h_T, x_T⟩, fun q_ => absurd q_ (Nat.succ_ne_zero k_)⟩)
  replace d_r_3 : (0 ≤ a0.toInt ∧ a0.toInt ≤ 5) := d_r_3
  refine tot_thrp (Q := fun r_5 : Int32 => ((((-2000) : Int32) : Int32).toInt ≤ a1.toInt ∧ a1.toInt ≤ ((2000 : Int32) : Int32).toInt)) (cs_X11_needRange T a1 ((-2000) : Int32) (2000 : Int32) h_T ) (fun r_5 d_r_5 => ?_) (fun k_ => ⟨⟨h_T, x_T⟩, fun q_ => absurd q_ (Nat.succ_ne_zero k_)⟩)
  replace d_r_5 : ((((-2000) : Int32) : Int32).toInt ≤ a1.toInt ∧ a1.toInt ≤ ((2000 : Int32) : Int32).toInt) := d_r_5
  refine tot_thrp (Q := fun r_7 : Int32 => ((((-2000) : Int32) : Int32).toInt ≤ a2.toInt ∧ a2.toInt ≤ ((2000 : Int32) : Int32).toInt)) (cs_X11_needRange T a2 ((-2000) : Int32) (2000 : Int32) h_T ) (fun r_7 d_r_7 => ?_) (fun k_ => ⟨⟨h_T, x_T⟩, fun q_ => absurd q_ (Nat.succ_ne_zero k_)⟩)
  replace d_r_7 : ((((-2000) : Int32) : Int32).toInt ≤ a2.toInt ∧ a2.toInt ≤ ((2000 : Int32) : Int32).toInt) := d_r_7
  refine tot_oif (iv_oO h_T k_o (by decide) (by decide) rfl) ?_
  refine tot_bind (cs_X11_keepForUndo T o h_T k_o ) (fun T_9 d_T_9 => ?_)
  have h_T_9 : IV R B K1 K2 T_9 := d_T_9.1
  have y_T_9 : FW R [128, 256, 257, 258, 368, 369, 1984, 2016, 2048, 2080, 2112, 3202] T T_9 := d_T_9.2
  have x_T_9 := x_T.tr (y_T_9.w (by decide))
  unfold g_X11_moveSource_b33
  refine tot_oif (iv_oO h_T_9 k_o (by decide) (by decide) rfl) ?_
  refine tot_ref h_T_9 k_o (by decide) (by decide) (r2 := 8) (rfl : rtg 11 6 = 8) (by decide) (fun n_10 k_n_10 e_n_10 => ?_)
  refine tot_oif (iv_oO h_T_9 k_n_10 (by decide) (by decide) rfl) ?_
  refine tot_ref h_T_9 k_n_10 (by decide) (by decide) (r2 := 65) (rfl : rtg 8 6 = 65) (by decide) (fun n_11 k_n_11 e_n_11 => ?_)
  refine tot_oif (iv_aA h_T_9 k_n_11 (by decide) (by decide) rfl rfl) ?_
  refine tot_oif (by rw [iv_len h_T_9 k_n_11 (by decide) (by decide) (rfl : shp 65 = (100, 6))]; exact i_inb (by omega) (by omega)) ?_
  refine tot_let (fun T_12 e_T_12 => ?_)
  have h_T_12 : IV R B K1 K2 T_12 := by rw [e_T_12]; exact iv_uI (a := -2000) (b := 2000) h_T_9 k_n_11 (by decide) (by decide) rfl (by omega) (.inl rfl)
  have x_T_12 := x_T_9.tr (fw_uA e_T_12 k_n_11 rfl rfl (by decide))
  refine tot_oif (iv_oO h_T_12 k_o (by decide) (by decide) rfl) ?_
  refine tot_ref h_T_12 k_o (by decide) (by decide) (r2 := 8) (rfl : rtg 11 6 = 8) (by decide) (fun n_13 k_n_13 e_n_13 => ?_)
  refine tot_oif (iv_oO h_T_12 k_n_13 (by decide) (by decide) rfl) ?_
  refine tot_ref h_T_12 k_n_13 (by decide) (by decide) (r2 := 65) (rfl : rtg 8 7 = 65) (by decide) (fun n_14 k_n_14 e_n_14 => ?_)
  refine tot_oif (iv_aA h_T_12 k_n_14 (by decide) (by decide) rfl rfl) ?_
  refine tot_oif (by rw [iv_len h_T_12 k_n_14 (by decide) (by decide) (rfl : shp 65 = (100, 6))]; exact i_inb (by omega) (by omega)) ?_
  refine tot_let (fun T_15 e_T_15 => ?_)
  have h_T_15 : IV R B K1 K2 T_15 := by rw [e_T_15]; exact iv_uI (a := -2000) (b := 2000) h_T_12 k_n_14 (by decide) (by decide) rfl (by omega) (.inl rfl)
  have x_T_15 := x_T_12.tr (fw_uA e_T_15 k_n_14 rfl rfl (by decide))
  refine tot_oif (iv_oO h_T_15 k_o (by decide) (by decide) rfl) ?_
  refine tot_ref h_T_15 k_o (by decide) (by decide) (r2 := 5) (rfl : rtg 11 2 = 5) (by decide) (fun n_16 k_n_16 e_n_16 => ?_)
  refine tot_oif (iv_oO h_T_15 k_o (by decide) (by decide) rfl) ?_
  refine tot_ref h_T_15 k_o (by decide) (by decide) (r2 := 6) (rfl : rtg 11 14 = 6) (by decide) (fun n_17 k_n_17 e_n_17 => ?_)
  refine tot_oif (iv_oO h_T_15 k_o (by decide) (by decide) rfl) ?_
  refine tot_ref h_T_15 k_o (by decide) (by decide) (r2 := 8) (rfl : rtg 11 6 = 8) (by decide) (fun n_18 k_n_18 e_n_18 => ?_)
  refine tot_oif (iv_oO h_T_15 k_n_16 (by decide) (by decide) rfl) ?_
  refine tot_bind (cs_X5_record T_15 n_16 n_17 n_18 h_T_15 k_n_16 k_n_17 k_n_18 ) (fun T_19 d_T_19 => ?_)
  have h_T_19 : IV R B K1 K2 T_19 := d_T_19.1
  have y_T_19 : FW R [258, 1472, 3202] T_15 T_19 := d_T_19.2
  have x_T_19 := x_T_15.tr (y_T_19.w (by decide))
  unfold g_X11_moveSource_b68
  refine tot_oif (iv_oO h_T_19 k_o (by decide) (by decide) rfl) ?_
  refine tot_bind2 (cs_X11_powersNow T_19 o h_T_19 k_o ) (fun r_20 T_21 d_r_20 => ?_)
  have h_T_21 : IV R B K1 K2 T_21 := d_r_20.1.1
  have y_T_21 : FW R [128, 130, 131, 1952, 2144, 3202] T_19 T_21 := d_r_20.1.2
  have x_T_21 := x_T_19.tr (y_T_21.w (by decide))
  have k_r_20 : R r_20 = 4 := d_r_20.2
  refine tot_oif (Nat.ble_eq_true_of_le (iv_lt h_T_21 (iv_sta h_T_21 k_r_20 (by decide) (by decide)))) ?_
  unfold g_X11_moveSource_b72
  refine tot_oif (iv_oO h_T_21 k_r_20 (by decide) (by decide) rfl) ?_
  refine tot_let (fun v_22 e_v_22 => ?_)
  have r_v_22 : 0 ≤ v_22.toInt ∧ v_22.toInt ≤ 143 := iv_int h_T_21 k_r_20 (by decide) (by decide) e_v_22 rfl
  exact tot_some ⟨⟨h_T_21, x_T_21⟩, fun _ => (show (0 ≤ v_22.toInt ∧ v_22.toInt ≤ 143) from by omega)⟩
set_option maxHeartbeats 4000000 in
set_option maxRecDepth 10000 in
theorem cs_X11_setVelocity {R : Nat → Nat} {B K1 K2 : Nat} (T : AT) (o : Nat) (a0 : Int32) (a1 : Int32) (a2 : Int32) (h_T : IV R B K1 K2 T) (k_o : R o = 11) : Tot (g_X11_setVelocity T o a0 a1 a2) (fun r => (IV R B K1 K2 r.2.2 ∧ FW R [128, 130, 131, 256, 257, 258, 368, 369, 1472, 1952, 1984, 2016, 2048, 2080, 2112, 2144, 3202] T r.2.2) ∧ (r.1 = 0 → (0 ≤ r.2.1.toInt ∧ r.2.1.toInt ≤ 143))) := by
  have z0 : (((-999) : Int32) : Int32).toInt = -999 := by decide
  have z1 : ((999 : Int32) : Int32).toInt = 999 := by decide
  have cc_101 : cnt 101 = 1 := rfl
  have cc_102 : cnt 102 = 12 := rfl
  have cc_103 : cnt 103 = 144 := rfl
  have cc_104 : cnt 104 = 2400 := rfl
  have cc_105 : cnt 105 = 7200 := rfl
  have x_T : FW R [128, 130, 131, 256, 257, 258, 368, 369, 1472, 1952, 1984, 2016, 2048, 2080, 2112, 2144, 3202] T T := FW.rf
  have j_a0 := i_any a0
  have j_a1 := i_any a1
  have j_a2 := i_any a2
  unfold g_X11_setVelocity
  refine tot_oif (iv_oO h_T k_o (by decide) (by decide) rfl) ?_
  refine tot_thrp (Q := fun r_1 : Int32 => (0 ≤ r_1.toInt ∧ r_1.toInt ≤ 0)) (cs_X11_needCamera T o h_T k_o ) (fun r_1 d_r_1 => ?_) (fun k_ => ⟨⟨h_T, x_T⟩, fun q_ => absurd q_ (Nat.succ_ne_zero k_)⟩)
  replace d_r_1 : (0 ≤ r_1.toInt ∧ r_1.toInt ≤ 0) := d_r_1
  refine tot_oif (iv_oO h_T k_o (by decide) (by decide) rfl) ?_
  refine tot_thrp (Q := fun r_3 : Int32 => (0 ≤ a0.toInt ∧ a0.toInt ≤ 5)) (cs_X11_needSource T o a0 h_T k_o ) (fun r_3 d_r_3 => ?_) (fun k_ => ⟨⟨h_T, x_T⟩, fun q_ => absurd q_ (Nat.succ_ne_zero k_)⟩)
  replace d_r_3 : (0 ≤ a0.toInt ∧ a0.toInt ≤ 5) := d_r_3
  refine tot_thrp (Q := fun r_5 : Int32 => ((((-999) : Int32) : Int32).toInt ≤ a1.toInt ∧ a1.toInt ≤ ((999 : Int32) : Int32).toInt)) (cs_X11_needRange T a1 ((-999) : Int32) (999 : Int32) h_T ) (fun r_5 d_r_5 => ?_) (fun k_ => ⟨⟨h_T, x_T⟩, fun q_ => absurd q_ (Nat.succ_ne_zero k_)⟩)
  replace d_r_5 : ((((-999) : Int32) : Int32).toInt ≤ a1.toInt ∧ a1.toInt ≤ ((999 : Int32) : Int32).toInt) := d_r_5
  refine tot_thrp (Q := fun r_7 : Int32 => ((((-999) : Int32) : Int32).toInt ≤ a2.toInt ∧ a2.toInt ≤ ((999 : Int32) : Int32).toInt)) (cs_X11_needRange T a2 ((-999) : Int32) (999 : Int32) h_T ) (fun r_7 d_r_7 => ?_) (fun k_ => ⟨⟨h_T, x_T⟩, fun q_ => absurd q_ (Nat.succ_ne_zero k_)⟩)
  replace d_r_7 : ((((-999) : Int32) : Int32).toInt ≤ a2.toInt ∧ a2.toInt ≤ ((999 : Int32) : Int32).toInt) := d_r_7
  refine tot_oif (iv_oO h_T k_o (by decide) (by decide) rfl) ?_
  refine tot_bind (cs_X11_keepForUndo T o h_T k_o ) (fun T_9 d_T_9 => ?_)
  have h_T_9 : IV R B K1 K2 T_9 := d_T_9.1
  have y_T_9 : FW R [128, 256, 257, 258, 368, 369, 1984, 2016, 2048, 2080, 2112, 3202] T T_9 := d_T_9.2
  have x_T_9 := x_T.tr (y_T_9.w (by decide))
  unfold g_X11_setVelocity_b33
  refine tot_oif (iv_oO h_T_9 k_o (by decide) (by decide) rfl) ?_
  refine tot_ref h_T_9 k_o (by decide) (by decide) (r2 := 8) (rfl : rtg 11 6 = 8) (by decide) (fun n_10 k_n_10 e_n_10 => ?_)
  refine tot_oif (iv_oO h_T_9 k_n_10 (by decide) (by decide) rfl) ?_
  refine tot_ref h_T_9 k_n_10 (by decide) (by decide) (r2 := 66) (rfl : rtg 8 8 = 66) (by decide) (fun n_11 k_n_11 e_n_11 => ?_)
  refine tot_oif (iv_aA h_T_9 k_n_11 (by decide) (by decide) rfl rfl) ?_
  refine tot_oif (by rw [iv_len h_T_9 k_n_11 (by decide) (by decide) (rfl : shp 66 = (100, 6))]; exact i_inb (by omega) (by omega)) ?_
  refine tot_let (fun T_12 e_T_12 => ?_)
  have h_T_12 : IV R B K1 K2 T_12 := by rw [e_T_12]; exact iv_uI (a := -999) (b := 999) h_T_9 k_n_11 (by decide) (by decide) rfl (by omega) (.inl rfl)
  have x_T_12 := x_T_9.tr (fw_uA e_T_12 k_n_11 rfl rfl (by decide))
  refine tot_oif (iv_oO h_T_12 k_o (by decide) (by decide) rfl) ?_
  refine tot_ref h_T_12 k_o (by decide) (by decide) (r2 := 8) (rfl : rtg 11 6 = 8) (by decide) (fun n_13 k_n_13 e_n_13 => ?_)
  refine tot_oif (iv_oO h_T_12 k_n_13 (by decide) (by decide) rfl) ?_
  refine tot_ref h_T_12 k_n_13 (by decide) (by decide) (r2 := 66) (rfl : rtg 8 9 = 66) (by decide) (fun n_14 k_n_14 e_n_14 => ?_)
  refine tot_oif (iv_aA h_T_12 k_n_14 (by decide) (by decide) rfl rfl) ?_
  refine tot_oif (by rw [iv_len h_T_12 k_n_14 (by decide) (by decide) (rfl : shp 66 = (100, 6))]; exact i_inb (by omega) (by omega)) ?_
  refine tot_let (fun T_15 e_T_15 => ?_)
  have h_T_15 : IV R B K1 K2 T_15 := by rw [e_T_15]; exact iv_uI (a := -999) (b := 999) h_T_12 k_n_14 (by decide) (by decide) rfl (by omega) (.inl rfl)
  have x_T_15 := x_T_12.tr (fw_uA e_T_15 k_n_14 rfl rfl (by decide))
  refine tot_oif (iv_oO h_T_15 k_o (by decide) (by decide) rfl) ?_
  refine tot_ref h_T_15 k_o (by decide) (by decide) (r2 := 5) (rfl : rtg 11 2 = 5) (by decide) (fun n_16 k_n_16 e_n_16 => ?_)
  refine tot_oif (iv_oO h_T_15 k_o (by decide) (by decide) rfl) ?_
  refine tot_ref h_T_15 k_o (by decide) (by decide) (r2 := 6) (rfl : rtg 11 14 = 6) (by decide) (fun n_17 k_n_17 e_n_17 => ?_)
  refine tot_oif (iv_oO h_T_15 k_o (by decide) (by decide) rfl) ?_
  refine tot_ref h_T_15 k_o (by decide) (by decide) (r2 := 8) (rfl : rtg 11 6 = 8) (by decide) (fun n_18 k_n_18 e_n_18 => ?_)
  refine tot_oif (iv_oO h_T_15 k_n_16 (by decide) (by decide) rfl) ?_
  refine tot_bind (cs_X5_record T_15 n_16 n_17 n_18 h_T_15 k_n_16 k_n_17 k_n_18 ) (fun T_19 d_T_19 => ?_)
  have h_T_19 : IV R B K1 K2 T_19 := d_T_19.1
  have y_T_19 : FW R [258, 1472, 3202] T_15 T_19 := d_T_19.2
  have x_T_19 := x_T_15.tr (y_T_19.w (by decide))
  unfold g_X11_setVelocity_b68
  refine tot_oif (iv_oO h_T_19 k_o (by decide) (by decide) rfl) ?_
  refine tot_bind2 (cs_X11_powersNow T_19 o h_T_19 k_o ) (fun r_20 T_21 d_r_20 => ?_)
  have h_T_21 : IV R B K1 K2 T_21 := d_r_20.1.1
  have y_T_21 : FW R [128, 130, 131, 1952, 2144, 3202] T_19 T_21 := d_r_20.1.2
  have x_T_21 := x_T_19.tr (y_T_21.w (by decide))
  have k_r_20 : R r_20 = 4 := d_r_20.2
  refine tot_oif (Nat.ble_eq_true_of_le (iv_lt h_T_21 (iv_sta h_T_21 k_r_20 (by decide) (by decide)))) ?_
  unfold g_X11_setVelocity_b72
  refine tot_oif (iv_oO h_T_21 k_r_20 (by decide) (by decide) rfl) ?_
  refine tot_let (fun v_22 e_v_22 => ?_)
  have r_v_22 : 0 ≤ v_22.toInt ∧ v_22.toInt ≤ 143 := iv_int h_T_21 k_r_20 (by decide) (by decide) e_v_22 rfl
  exact tot_some ⟨⟨h_T_21, x_T_21⟩, fun _ => (show (0 ≤ v_22.toInt ∧ v_22.toInt ≤ 143) from by omega)⟩
set_option maxHeartbeats 4000000 in
set_option maxRecDepth 10000 in
theorem cs_X11_clean {R : Nat → Nat} {B K1 K2 : Nat} (T : AT) (o : Nat) (a0 : Int32) (h_T : IV R B K1 K2 T) (k_o : R o = 11) : Tot (g_X11_clean T o a0) (fun r => (IV R B K1 K2 r.2.2 ∧ FW R [128, 130, 131, 256, 257, 258, 368, 369, 1952, 1984, 2016, 2048, 2080, 2112, 2144, 3202] T r.2.2) ∧ (r.1 = 0 → (0 ≤ r.2.1.toInt ∧ r.2.1.toInt ≤ 143))) := by
  have z0 : (0 : Int32).toInt = 0 := by decide
  have z1 : ((1 : Int32) : Int32).toInt = 1 := by decide
  have z2 : ((100 : Int32) : Int32).toInt = 100 := by decide
  have cc_101 : cnt 101 = 1 := rfl
  have cc_102 : cnt 102 = 12 := rfl
  have cc_103 : cnt 103 = 144 := rfl
  have cc_104 : cnt 104 = 2400 := rfl
  have cc_105 : cnt 105 = 7200 := rfl
  have x_T : FW R [128, 130, 131, 256, 257, 258, 368, 369, 1952, 1984, 2016, 2048, 2080, 2112, 2144, 3202] T T := FW.rf
  have j_a0 := i_any a0
  unfold g_X11_clean
  refine tot_oif (iv_oO h_T k_o (by decide) (by decide) rfl) ?_
  refine tot_thrp (Q := fun r_1 : Int32 => (0 ≤ r_1.toInt ∧ r_1.toInt ≤ 0)) (cs_X11_needCamera T o h_T k_o ) (fun r_1 d_r_1 => ?_) (fun k_ => ⟨⟨h_T, x_T⟩, fun q_ => absurd q_ (Nat.succ_ne_zero k_)⟩)
  replace d_r_1 : (0 ≤ r_1.toInt ∧ r_1.toInt ≤ 0) := d_r_1
  refine tot_oif (iv_oO h_T k_o (by decide) (by decide) rfl) ?_
  refine tot_ref h_T k_o (by decide) (by decide) (r2 := 8) (rfl : rtg 11 6 = 8) (by decide) (fun n_3 k_n_3 e_n_3 => ?_)
  refine tot_oif (iv_oO h_T k_n_3 (by decide) (by decide) rfl) ?_
  refine tot_bindq (R := fun r_4 : Int32 => True) (cs_X8_activeWeight T n_3 h_T k_n_3 ) (fun r_4 d_r_4 => ?_)
  have r_r_4 := i_any r_4
  refine tot_if (fun c_10 => ?_) (fun c_10 => ?_)
  · replace c_10 := i_eq c_10
    exact tot_some ⟨⟨h_T, x_T⟩, fun q_ => absurd q_ (Nat.succ_ne_zero _)⟩
  · replace c_10 := i_ne c_10
    refine tot_thrp (Q := fun r_6 : Int32 => (((1 : Int32) : Int32).toInt ≤ a0.toInt ∧ a0.toInt ≤ ((100 : Int32) : Int32).toInt)) (cs_X11_needRange T a0 (1 : Int32) (100 : Int32) h_T ) (fun r_6 d_r_6 => ?_) (fun k_ => ⟨⟨h_T, x_T⟩, fun q_ => absurd q_ (Nat.succ_ne_zero k_)⟩)
    replace d_r_6 : (((1 : Int32) : Int32).toInt ≤ a0.toInt ∧ a0.toInt ≤ ((100 : Int32) : Int32).toInt) := d_r_6
    refine tot_oif (iv_oO h_T k_o (by decide) (by decide) rfl) ?_
    refine tot_bind2 (cs_X11_powersNow T o h_T k_o ) (fun r_8 T_9 d_r_8 => ?_)
    have h_T_9 : IV R B K1 K2 T_9 := d_r_8.1.1
    have y_T_9 : FW R [128, 130, 131, 1952, 2144, 3202] T T_9 := d_r_8.1.2
    have x_T_9 := x_T.tr (y_T_9.w (by decide))
    have k_r_8 : R r_8 = 4 := d_r_8.2
    refine tot_oif (Nat.ble_eq_true_of_le (iv_lt h_T_9 (iv_sta h_T_9 k_r_8 (by decide) (by decide)))) ?_
    unfold g_X11_clean_b33
    refine tot_oif (iv_oO h_T_9 k_r_8 (by decide) (by decide) rfl) ?_
    refine tot_let (fun v_11 e_v_11 => ?_)
    have r_v_11 : 0 ≤ v_11.toInt ∧ v_11.toInt ≤ 143 := iv_int h_T_9 k_r_8 (by decide) (by decide) e_v_11 rfl
    refine tot_oif (iv_oO h_T_9 k_o (by decide) (by decide) rfl) ?_
    refine tot_bind (cs_X11_keepForUndo T_9 o h_T_9 k_o ) (fun T_12 d_T_12 => ?_)
    have h_T_12 : IV R B K1 K2 T_12 := d_T_12.1
    have y_T_12 : FW R [128, 256, 257, 258, 368, 369, 1984, 2016, 2048, 2080, 2112, 3202] T_9 T_12 := d_T_12.2
    have x_T_12 := x_T_9.tr (y_T_12.w (by decide))
    unfold g_X11_clean_b41
    refine tot_oif (iv_oO h_T_12 k_o (by decide) (by decide) rfl) ?_
    refine tot_ref h_T_12 k_o (by decide) (by decide) (r2 := 8) (rfl : rtg 11 6 = 8) (by decide) (fun n_13 k_n_13 e_n_13 => ?_)
    refine tot_oif (iv_oO h_T_12 k_o (by decide) (by decide) rfl) ?_
    refine tot_ref h_T_12 k_o (by decide) (by decide) (r2 := 6) (rfl : rtg 11 14 = 6) (by decide) (fun n_14 k_n_14 e_n_14 => ?_)
    refine tot_oif (iv_oO h_T_12 k_n_14 (by decide) (by decide) rfl) ?_
    refine tot_ref h_T_12 k_n_14 (by decide) (by decide) (r2 := 51) (rfl : rtg 6 17 = 51) (by decide) (fun n_15 k_n_15 e_n_15 => ?_)
    refine tot_oif (iv_aA h_T_12 k_n_15 (by decide) (by decide) rfl rfl) ?_
    refine tot_oif (by rw [iv_len h_T_12 k_n_15 (by decide) (by decide) (rfl : shp 51 = (106, 144))]; exact i_inb (by omega) (by omega)) ?_
    refine tot_ref h_T_12 k_n_15 (by decide) (by decide) (r2 := 50) (rt_51 (by omega) (by omega)) (by decide) (fun n_16 k_n_16 e_n_16 => ?_)
    refine tot_oif (iv_oO h_T_12 k_n_13 (by decide) (by decide) rfl) ?_
    refine tot_bind (cs_X8_subtractBeam T_12 n_13 n_16 a0 h_T_12 k_n_13 k_n_16 (by omega)) (fun T_17 d_T_17 => ?_)
    have h_T_17 : IV R B K1 K2 T_17 := d_T_17.1
    have y_T_17 : FW R [258, 3202] T_12 T_17 := d_T_17.2
    have x_T_17 := x_T_12.tr (y_T_17.w (by decide))
    unfold g_X11_clean_b58
    exact tot_some ⟨⟨h_T_17, x_T_17⟩, fun _ => (show (0 ≤ v_11.toInt ∧ v_11.toInt ≤ 143) from by omega)⟩
set_option maxHeartbeats 4000000 in
set_option maxRecDepth 10000 in
theorem cs_X11_cleaned {R : Nat → Nat} {B K1 K2 : Nat} (T : AT) (o : Nat) (h_T : IV R B K1 K2 T) (k_o : R o = 11) : Tot (g_X11_cleaned T o) (fun r => r.2.2 = T ∧ (r.1 = 0 → True)) := by
  have cc_101 : cnt 101 = 1 := rfl
  have cc_102 : cnt 102 = 12 := rfl
  have cc_103 : cnt 103 = 144 := rfl
  have cc_104 : cnt 104 = 2400 := rfl
  have cc_105 : cnt 105 = 7200 := rfl
  unfold g_X11_cleaned
  refine tot_oif (iv_oO h_T k_o (by decide) (by decide) rfl) ?_
  refine tot_thrp (Q := fun r_1 : Int32 => (0 ≤ r_1.toInt ∧ r_1.toInt ≤ 0)) (cs_X11_needCamera T o h_T k_o ) (fun r_1 d_r_1 => ?_) (fun k_ => ⟨rfl, fun q_ => absurd q_ (Nat.succ_ne_zero k_)⟩)
  replace d_r_1 : (0 ≤ r_1.toInt ∧ r_1.toInt ≤ 0) := d_r_1
  refine tot_oif (iv_oO h_T k_o (by decide) (by decide) rfl) ?_
  refine tot_ref h_T k_o (by decide) (by decide) (r2 := 8) (rfl : rtg 11 6 = 8) (by decide) (fun n_3 k_n_3 e_n_3 => ?_)
  refine tot_oif (iv_oO h_T k_n_3 (by decide) (by decide) rfl) ?_
  refine tot_let (fun v_4 e_v_4 => ?_)
  have r_v_4 := i_any v_4
  exact tot_some ⟨rfl, fun _ => trivial⟩
set_option maxHeartbeats 4000000 in
set_option maxRecDepth 10000 in
theorem cs_X11_undo {R : Nat → Nat} {B K1 K2 : Nat} (T : AT) (o : Nat) (h_T : IV R B K1 K2 T) (k_o : R o = 11) : Tot (g_X11_undo T o) (fun r => (IV R B K1 K2 r.2.2 ∧ FW R [128, 256, 257, 258, 368, 369, 1984, 2016, 2048, 2080, 2112, 3202] T r.2.2) ∧ (r.1 = 0 → (0 ≤ r.2.1.toInt ∧ r.2.1.toInt ≤ 6))) := by
  have z0 : (0 : Int32).toInt = 0 := by decide
  have z1 : (6 : Int32).toInt = 6 := by decide
  have z2 : (1 : Int32).toInt = 1 := by decide
  have cc_101 : cnt 101 = 1 := rfl
  have cc_102 : cnt 102 = 12 := rfl
  have cc_103 : cnt 103 = 144 := rfl
  have cc_104 : cnt 104 = 2400 := rfl
  have cc_105 : cnt 105 = 7200 := rfl
  have x_T : FW R [128, 256, 257, 258, 368, 369, 1984, 2016, 2048, 2080, 2112, 3202] T T := FW.rf
  unfold g_X11_undo
  refine tot_oif (iv_oO h_T k_o (by decide) (by decide) rfl) ?_
  refine tot_let (fun v_1 e_v_1 => ?_)
  have q_v_1 := i_eq e_v_1
  have r_v_1 : 0 ≤ v_1.toInt ∧ v_1.toInt ≤ 6 := iv_int h_T k_o (by decide) (by decide) e_v_1 rfl
  refine tot_if (fun c_7 => ?_) (fun c_7 => ?_)
  · replace c_7 := i_eq c_7
    exact tot_some ⟨⟨h_T, x_T⟩, fun q_ => absurd q_ (Nat.succ_ne_zero _)⟩
  · replace c_7 := i_ne c_7
    refine tot_oif (iv_oO h_T k_o (by decide) (by decide) rfl) ?_
    refine tot_ref h_T k_o (by decide) (by decide) (r2 := 8) (rfl : rtg 11 6 = 8) (by decide) (fun n_2 k_n_2 e_n_2 => ?_)
    refine tot_oif (iv_oO h_T k_o (by decide) (by decide) rfl) ?_
    refine tot_ref h_T k_o (by decide) (by decide) (r2 := 47) (rfl : rtg 11 8 = 47) (by decide) (fun n_3 k_n_3 e_n_3 => ?_)
    refine tot_oif (iv_oO h_T k_o (by decide) (by decide) rfl) ?_
    refine tot_let (fun v_4 e_v_4 => ?_)
    have r_v_4 : 0 ≤ v_4.toInt ∧ v_4.toInt ≤ 5 := iv_int h_T k_o (by decide) (by decide) e_v_4 rfl
    refine tot_oif (iv_aA h_T k_n_3 (by decide) (by decide) rfl rfl) ?_
    refine tot_oif (by rw [iv_len h_T k_n_3 (by decide) (by decide) (rfl : shp 47 = (105, 6))]; exact i_inb (by omega) (by omega)) ?_
    refine tot_ref h_T k_n_3 (by decide) (by decide) (r2 := 8) (rt_47 (by omega) (by omega)) (by decide) (fun n_5 k_n_5 e_n_5 => ?_)
    refine tot_oif (iv_oO h_T k_n_2 (by decide) (by decide) rfl) ?_
    refine tot_bind (cs_X8_copyFrom T n_2 n_5 h_T k_n_2 k_n_5 ) (fun T_6 d_T_6 => ?_)
    have h_T_6 : IV R B K1 K2 T_6 := d_T_6.1
    have y_T_6 : FW R [256, 257, 258, 1984, 2016, 2048, 2080, 2112, 3202] T T_6 := d_T_6.2
    have x_T_6 := x_T.tr (y_T_6.w (by decide))
    have f_T_6_o_16 : (T_6.2.2.1 o 16).toInt = (T.2.2.1 o 16).toInt := congrArg Int32.toInt (y_T_6 o 16 (by rw [k_o]; decide))
    unfold g_X11_undo_b31
    refine tot_oif (iv_oO h_T_6 k_o (by decide) (by decide) rfl) ?_
    refine tot_let (fun v_8 e_v_8 => ?_)
    have r_v_8 : 0 ≤ v_8.toInt ∧ v_8.toInt ≤ 5 := iv_int h_T_6 k_o (by decide) (by decide) e_v_8 rfl
    refine tot_let (fun v_9 e_v_9 => ?_)
    have q_v_9 := i_add e_v_9 (by omega) (by omega)
    refine tot_let (fun v_10 e_v_10 => ?_)
    have q_v_10 := i_sub e_v_10 (by omega) (by omega)
    refine tot_let (fun v_11 e_v_11 => ?_)
    have q_v_11 := i_rem e_v_11 (by omega) (by omega)
    refine tot_oif (iv_oO h_T_6 k_o (by decide) (by decide) rfl) ?_
    refine tot_let (fun T_12 e_T_12 => ?_)
    have h_T_12 : IV R B K1 K2 T_12 := by rw [e_T_12]; exact iv_uI (a := 0) (b := 5) h_T_6 k_o (by decide) (by decide) rfl (by omega) (.inl rfl)
    have x_T_12 := x_T_6.tr (fw_uI e_T_12 k_o (by decide))
    have f_T_12_o_16 : (T_12.2.2.1 o 16).toInt = (T_6.2.2.1 o 16).toInt := congrArg Int32.toInt ((fw_uI (W := [369]) e_T_12 k_o (by decide)) o 16 (by rw [k_o]; decide))
    refine tot_oif (iv_oO h_T_12 k_o (by decide) (by decide) rfl) ?_
    refine tot_let (fun v_13 e_v_13 => ?_)
    have q_v_13 := i_eq e_v_13
    have r_v_13 : 0 ≤ v_13.toInt ∧ v_13.toInt ≤ 6 := iv_int h_T_12 k_o (by decide) (by decide) e_v_13 rfl
    refine tot_let (fun v_14 e_v_14 => ?_)
    have q_v_14 := i_sub e_v_14 (by omega) (by omega)
    refine tot_oif (iv_oO h_T_12 k_o (by decide) (by decide) rfl) ?_
    refine tot_let (fun T_15 e_T_15 => ?_)
    have h_T_15 : IV R B K1 K2 T_15 := by rw [e_T_15]; exact iv_uI (a := 0) (b := 6) h_T_12 k_o (by decide) (by decide) rfl (by omega) (.inl rfl)
    have x_T_15 := x_T_12.tr (fw_uI e_T_15 k_o (by decide))
    have f_T_15_o_16 : (T_15.2.2.1 o 16).toInt = (v_14 : Int32).toInt := by rw [e_T_15]; exact congrArg Int32.toInt (uI_at _ _ _ _)
    refine tot_oif (iv_oO h_T_15 k_o (by decide) (by decide) rfl) ?_
    refine tot_ref h_T_15 k_o (by decide) (by decide) (r2 := 4) (rfl : rtg 11 4 = 4) (by decide) (fun n_16 k_n_16 e_n_16 => ?_)
    refine tot_oif (iv_oO h_T_15 k_n_16 (by decide) (by decide) rfl) ?_
    refine tot_let (fun T_17 e_T_17 => ?_)
    have h_T_17 : IV R B K1 K2 T_17 := by rw [e_T_17]; exact iv_uI (a := 0) (b := 1) h_T_15 k_n_16 (by decide) (by decide) rfl (by omega) (.inl rfl)
    have x_T_17 := x_T_15.tr (fw_uI e_T_17 k_n_16 (by decide))
    have f_T_17_o_16 : (T_17.2.2.1 o 16).toInt = (T_15.2.2.1 o 16).toInt := congrArg Int32.toInt ((fw_uI (W := [128]) e_T_17 k_n_16 (by decide)) o 16 (by rw [k_o]; decide))
    refine tot_oif (iv_oO h_T_17 k_o (by decide) (by decide) rfl) ?_
    refine tot_let (fun v_18 e_v_18 => ?_)
    have q_v_18 := i_eq e_v_18
    have r_v_18 : 0 ≤ v_18.toInt ∧ v_18.toInt ≤ 6 := iv_int h_T_17 k_o (by decide) (by decide) e_v_18 rfl
    exact tot_some ⟨⟨h_T_17, x_T_17⟩, fun _ => (show (0 ≤ v_18.toInt ∧ v_18.toInt ≤ 6) from by omega)⟩
