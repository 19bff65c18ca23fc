set_option maxHeartbeats 4000000 in
set_option maxRecDepth 10000 in
theorem cs_X11_undoable {R : Nat → Nat} {B K1 K2 : Nat} (T : AT) (o : Nat) (h_T : IV R B K1 K2 T) (k_o : R o = 11) : Tot (g_X11_undoable T o) (fun r => r.2 = T ∧ (0 ≤ r.1.toInt ∧ r.1.toInt ≤ 6)) := by
  have cc_101 : cnt 101 = 1 := rfl
  have cc_102 : cnt 102 = 12 := rfl
  have cc_103 : cnt 103 = 144 := rfl
  have cc_104 : cnt 104 = 2400 := rfl
  have cc_105 : cnt 105 = 7200 := rfl
  unfold g_X11_undoable
  refine tot_oif (iv_oO h_T k_o (by decide) (by decide) rfl) ?_
  refine tot_let (fun v_1 e_v_1 => ?_)
  have r_v_1 : 0 ≤ v_1.toInt ∧ v_1.toInt ≤ 6 := iv_int h_T k_o (by decide) (by decide) e_v_1 rfl
  exact tot_some ⟨rfl, (show (0 ≤ v_1.toInt ∧ v_1.toInt ≤ 6) from by omega)⟩
set_option maxHeartbeats 4000000 in
set_option maxRecDepth 10000 in
theorem cs_X11_save {R : Nat → Nat} {B K1 K2 : Nat} (T : AT) (o : Nat) (a0 : Int32) (h_T : IV R B K1 K2 T) (k_o : R o = 11) : Tot (g_X11_save T o a0) (fun r => (IV R B K1 K2 r.2.2 ∧ FW R [128, 130, 131, 256, 257, 258, 1568, 1952, 1984, 2016, 2048, 2080, 2112, 2144, 3202] T r.2.2) ∧ (r.1 = 0 → (0 ≤ r.2.1.toInt ∧ r.2.1.toInt ≤ 143))) := by
  have z0 : ((2 : Int32) : Int32).toInt = 2 := by decide
  have z1 : (1 : Int32).toInt = 1 := by decide
  have cc_101 : cnt 101 = 1 := rfl
  have cc_102 : cnt 102 = 12 := rfl
  have cc_103 : cnt 103 = 144 := rfl
  have cc_104 : cnt 104 = 2400 := rfl
  have cc_105 : cnt 105 = 7200 := rfl
  have x_T : FW R [128, 130, 131, 256, 257, 258, 1568, 1952, 1984, 2016, 2048, 2080, 2112, 2144, 3202] T T := FW.rf
  have j_a0 := i_any a0
  unfold g_X11_save
  refine tot_oif (iv_oO h_T k_o (by decide) (by decide) rfl) ?_
  refine tot_thrp (Q := fun r_1 : Int32 => (0 ≤ r_1.toInt ∧ r_1.toInt ≤ 0)) (cs_X11_needCamera T o h_T k_o ) (fun r_1 d_r_1 => ?_) (fun k_ => ⟨⟨h_T, x_T⟩, fun q_ => absurd q_ (Nat.succ_ne_zero k_)⟩)
  replace d_r_1 : (0 ≤ r_1.toInt ∧ r_1.toInt ≤ 0) := d_r_1
  refine tot_thrp (Q := fun r_3 : Int32 => (0 ≤ a0.toInt ∧ a0.toInt < ((2 : Int32) : Int32).toInt)) (cs_X11_needIndex T a0 (2 : Int32) h_T ) (fun r_3 d_r_3 => ?_) (fun k_ => ⟨⟨h_T, x_T⟩, fun q_ => absurd q_ (Nat.succ_ne_zero k_)⟩)
  replace d_r_3 : (0 ≤ a0.toInt ∧ a0.toInt < ((2 : Int32) : Int32).toInt) := d_r_3
  refine tot_oif (iv_oO h_T k_o (by decide) (by decide) rfl) ?_
  refine tot_ref h_T k_o (by decide) (by decide) (r2 := 48) (rfl : rtg 11 9 = 48) (by decide) (fun n_5 k_n_5 e_n_5 => ?_)
  refine tot_oif (iv_aA h_T k_n_5 (by decide) (by decide) rfl rfl) ?_
  refine tot_oif (by rw [iv_len h_T k_n_5 (by decide) (by decide) (rfl : shp 48 = (105, 2))]; exact i_inb (by omega) (by omega)) ?_
  refine tot_ref h_T k_n_5 (by decide) (by decide) (r2 := 8) (rt_48 (by omega) (by omega)) (by decide) (fun n_6 k_n_6 e_n_6 => ?_)
  refine tot_oif (iv_oO h_T k_o (by decide) (by decide) rfl) ?_
  refine tot_ref h_T k_o (by decide) (by decide) (r2 := 8) (rfl : rtg 11 6 = 8) (by decide) (fun n_7 k_n_7 e_n_7 => ?_)
  refine tot_oif (iv_oO h_T k_n_6 (by decide) (by decide) rfl) ?_
  refine tot_bind (cs_X8_copyFrom T n_6 n_7 h_T k_n_6 k_n_7 ) (fun T_8 d_T_8 => ?_)
  have h_T_8 : IV R B K1 K2 T_8 := d_T_8.1
  have y_T_8 : FW R [256, 257, 258, 1984, 2016, 2048, 2080, 2112, 3202] T T_8 := d_T_8.2
  have x_T_8 := x_T.tr (y_T_8.w (by decide))
  unfold g_X11_save_b22
  refine tot_oif (iv_oO h_T_8 k_o (by decide) (by decide) rfl) ?_
  refine tot_ref h_T_8 k_o (by decide) (by decide) (r2 := 49) (rfl : rtg 11 10 = 49) (by decide) (fun n_9 k_n_9 e_n_9 => ?_)
  refine tot_oif (iv_aA h_T_8 k_n_9 (by decide) (by decide) rfl rfl) ?_
  refine tot_oif (by rw [iv_len h_T_8 k_n_9 (by decide) (by decide) (rfl : shp 49 = (102, 2))]; exact i_inb (by omega) (by omega)) ?_
  refine tot_let (fun T_10 e_T_10 => ?_)
  have h_T_10 : IV R B K1 K2 T_10 := by rw [e_T_10]; exact iv_uI (a := 0) (b := 1) h_T_8 k_n_9 (by decide) (by decide) rfl (by omega) (.inl rfl)
  have x_T_10 := x_T_8.tr (fw_uA e_T_10 k_n_9 rfl rfl (by decide))
  refine tot_oif (iv_oO h_T_10 k_o (by decide) (by decide) rfl) ?_
  refine tot_bind2 (cs_X11_powersNow T_10 o h_T_10 k_o ) (fun r_11 T_12 d_r_11 => ?_)
  have h_T_12 : IV R B K1 K2 T_12 := d_r_11.1.1
  have y_T_12 : FW R [128, 130, 131, 1952, 2144, 3202] T_10 T_12 := d_r_11.1.2
  have x_T_12 := x_T_10.tr (y_T_12.w (by decide))
  have k_r_11 : R r_11 = 4 := d_r_11.2
  refine tot_oif (Nat.ble_eq_true_of_le (iv_lt h_T_12 (iv_sta h_T_12 k_r_11 (by decide) (by decide)))) ?_
  unfold g_X11_save_b33
  refine tot_oif (iv_oO h_T_12 k_r_11 (by decide) (by decide) rfl) ?_
  refine tot_let (fun v_13 e_v_13 => ?_)
  have r_v_13 : 0 ≤ v_13.toInt ∧ v_13.toInt ≤ 143 := iv_int h_T_12 k_r_11 (by decide) (by decide) e_v_13 rfl
  exact tot_some ⟨⟨h_T_12, x_T_12⟩, fun _ => (show (0 ≤ v_13.toInt ∧ v_13.toInt ≤ 143) from by omega)⟩
set_option maxHeartbeats 4000000 in
set_option maxRecDepth 10000 in
theorem cs_X11_restore {R : Nat → Nat} {B K1 K2 : Nat} (T : AT) (o : Nat) (a0 : Int32) (h_T : IV R B K1 K2 T) (k_o : R o = 11) : Tot (g_X11_restore T o a0) (fun r => (IV R B K1 K2 r.2.2 ∧ FW R [128, 130, 131, 256, 257, 258, 368, 1952, 1984, 2016, 2048, 2080, 2112, 2144, 3202] T r.2.2) ∧ (r.1 = 0 → (0 ≤ r.2.1.toInt ∧ r.2.1.toInt ≤ 143))) := by
  have z0 : ((2 : Int32) : Int32).toInt = 2 := by decide
  have z1 : (0 : Int32).toInt = 0 := by decide
  have cc_101 : cnt 101 = 1 := rfl
  have cc_102 : cnt 102 = 12 := rfl
  have cc_103 : cnt 103 = 144 := rfl
  have cc_104 : cnt 104 = 2400 := rfl
  have cc_105 : cnt 105 = 7200 := rfl
  have x_T : FW R [128, 130, 131, 256, 257, 258, 368, 1952, 1984, 2016, 2048, 2080, 2112, 2144, 3202] T T := FW.rf
  have j_a0 := i_any a0
  unfold g_X11_restore
  refine tot_thrp (Q := fun r_1 : Int32 => (0 ≤ a0.toInt ∧ a0.toInt < ((2 : Int32) : Int32).toInt)) (cs_X11_needIndex T a0 (2 : Int32) h_T ) (fun r_1 d_r_1 => ?_) (fun k_ => ⟨⟨h_T, x_T⟩, fun q_ => absurd q_ (Nat.succ_ne_zero k_)⟩)
  replace d_r_1 : (0 ≤ a0.toInt ∧ a0.toInt < ((2 : Int32) : Int32).toInt) := d_r_1
  refine tot_oif (iv_oO h_T k_o (by decide) (by decide) rfl) ?_
  refine tot_ref h_T k_o (by decide) (by decide) (r2 := 49) (rfl : rtg 11 10 = 49) (by decide) (fun n_3 k_n_3 e_n_3 => ?_)
  refine tot_oif (iv_aA h_T k_n_3 (by decide) (by decide) rfl rfl) ?_
  refine tot_oif (by rw [iv_len h_T k_n_3 (by decide) (by decide) (rfl : shp 49 = (102, 2))]; exact i_inb (by omega) (by omega)) ?_
  refine tot_let (fun v_4 e_v_4 => ?_)
  have r_v_4 : 0 ≤ v_4.toInt ∧ v_4.toInt ≤ 1 := iv_int h_T k_n_3 (by decide) (by decide) e_v_4 rfl
  refine tot_if (fun c_9 => ?_) (fun c_9 => ?_)
  · replace c_9 := i_eq c_9
    exact tot_some ⟨⟨h_T, x_T⟩, fun q_ => absurd q_ (Nat.succ_ne_zero _)⟩
  · replace c_9 := i_ne c_9
    refine tot_oif (iv_oO h_T k_o (by decide) (by decide) rfl) ?_
    refine tot_ref h_T k_o (by decide) (by decide) (r2 := 8) (rfl : rtg 11 6 = 8) (by decide) (fun n_5 k_n_5 e_n_5 => ?_)
    refine tot_oif (iv_oO h_T k_o (by decide) (by decide) rfl) ?_
    refine tot_ref h_T k_o (by decide) (by decide) (r2 := 48) (rfl : rtg 11 9 = 48) (by decide) (fun n_6 k_n_6 e_n_6 => ?_)
    refine tot_oif (iv_aA h_T k_n_6 (by decide) (by decide) rfl rfl) ?_
    refine tot_oif (by rw [iv_len h_T k_n_6 (by decide) (by decide) (rfl : shp 48 = (105, 2))]; exact i_inb (by omega) (by omega)) ?_
    refine tot_ref h_T k_n_6 (by decide) (by decide) (r2 := 8) (rt_48 (by omega) (by omega)) (by decide) (fun n_7 k_n_7 e_n_7 => ?_)
    refine tot_oif (iv_oO h_T k_n_5 (by decide) (by decide) rfl) ?_
    refine tot_bind (cs_X8_copyFrom T n_5 n_7 h_T k_n_5 k_n_7 ) (fun T_8 d_T_8 => ?_)
    have h_T_8 : IV R B K1 K2 T_8 := d_T_8.1
    have y_T_8 : FW R [256, 257, 258, 1984, 2016, 2048, 2080, 2112, 3202] T T_8 := d_T_8.2
    have x_T_8 := x_T.tr (y_T_8.w (by decide))
    unfold g_X11_restore_b35
    refine tot_oif (iv_oO h_T_8 k_o (by decide) (by decide) rfl) ?_
    refine tot_let (fun T_10 e_T_10 => ?_)
    have h_T_10 : IV R B K1 K2 T_10 := by rw [e_T_10]; exact iv_uI (a := 0) (b := 6) h_T_8 k_o (by decide) (by decide) rfl (by omega) (.inl rfl)
    have x_T_10 := x_T_8.tr (fw_uI e_T_10 k_o (by decide))
    refine tot_oif (iv_oO h_T_10 k_o (by decide) (by decide) rfl) ?_
    refine tot_ref h_T_10 k_o (by decide) (by decide) (r2 := 4) (rfl : rtg 11 4 = 4) (by decide) (fun n_11 k_n_11 e_n_11 => ?_)
    refine tot_oif (iv_oO h_T_10 k_n_11 (by decide) (by decide) rfl) ?_
    refine tot_let (fun T_12 e_T_12 => ?_)
    have h_T_12 : IV R B K1 K2 T_12 := by rw [e_T_12]; exact iv_uI (a := 0) (b := 1) h_T_10 k_n_11 (by decide) (by decide) rfl (by omega) (.inl rfl)
    have x_T_12 := x_T_10.tr (fw_uI e_T_12 k_n_11 (by decide))
    refine tot_oif (iv_oO h_T_12 k_o (by decide) (by decide) rfl) ?_
    refine tot_bind2 (cs_X11_powersNow T_12 o h_T_12 k_o ) (fun r_13 T_14 d_r_13 => ?_)
    have h_T_14 : IV R B K1 K2 T_14 := d_r_13.1.1
    have y_T_14 : FW R [128, 130, 131, 1952, 2144, 3202] T_12 T_14 := d_r_13.1.2
    have x_T_14 := x_T_12.tr (y_T_14.w (by decide))
    have k_r_13 : R r_13 = 4 := d_r_13.2
    refine tot_oif (Nat.ble_eq_true_of_le (iv_lt h_T_14 (iv_sta h_T_14 k_r_13 (by decide) (by decide)))) ?_
    unfold g_X11_restore_b52
    refine tot_oif (iv_oO h_T_14 k_r_13 (by decide) (by decide) rfl) ?_
    refine tot_let (fun v_15 e_v_15 => ?_)
    have r_v_15 : 0 ≤ v_15.toInt ∧ v_15.toInt ≤ 143 := iv_int h_T_14 k_r_13 (by decide) (by decide) e_v_15 rfl
    exact tot_some ⟨⟨h_T_14, x_T_14⟩, fun _ => (show (0 ≤ v_15.toInt ∧ v_15.toInt ≤ 143) from by omega)⟩
