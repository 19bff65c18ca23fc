set_option maxHeartbeats 4000000 in
set_option maxRecDepth 10000 in
theorem cs_X3_parseMic {R : Nat → Nat} {B K1 K2 : Nat} (T : AT) (o : Nat) (a0 : Nat) (h_T : IV R B K1 K2 T) (k_o : R o = 3) (k_a0 : R a0 = 6) (g0 : (T.2.2.1 o 1).toInt ≤ 1000) : Tot (g_X3_parseMic T o a0) (fun r => (IV R B K1 K2 r.2.2 ∧ FW R [64, 65, 66, 67, 97, 98, 99, 197] T r.2.2) ∧ (r.1 = 0 → (0 ≤ r.2.1.toInt ∧ r.2.1.toInt ≤ 0))) := by
  have z0 : (12 : Int32).toInt = 12 := by decide
  have z1 : (0 : Int32).toInt = 0 := by decide
  have z2 : ((4 : Int32) : Int32).toInt = 4 := by decide
  have z3 : (((-500) : Int32) : Int32).toInt = -500 := by decide
  have z4 : ((500 : Int32) : Int32).toInt = 500 := by decide
  have z5 : ((1 : Int32) : Int32).toInt = 1 := by decide
  have z6 : ((9 : Int32) : Int32).toInt = 9 := by decide
  have z7 : (1 : Int32).toInt = 1 := by decide
  have cc_101 : cnt 101 = 1 := rfl
  have cc_102 : cnt 102 = 12 := rfl
  have cc_103 : cnt 103 = 144 := rfl
  have cc_104 : cnt 104 = 2400 := rfl
  have cc_105 : cnt 105 = 7200 := rfl
  have x_T : FW R [64, 65, 66, 67, 97, 98, 99, 197] T T := FW.rf
  unfold g_X3_parseMic
  refine tot_oif (iv_oO h_T k_a0 (by decide) (by decide) rfl) ?_
  refine tot_let (fun v_1 e_v_1 => ?_)
  have q_v_1 := i_eq e_v_1
  have r_v_1 : 0 ≤ v_1.toInt ∧ v_1.toInt ≤ 12 := iv_int h_T k_a0 (by decide) (by decide) e_v_1 rfl
  refine tot_if (fun c_2 => ?_) (fun c_2 => ?_)
  · replace c_2 := i_lt c_2
    unfold g_X3_parseMic_b15
    refine tot_oif (iv_oO h_T k_o (by decide) (by decide) rfl) ?_
    refine tot_thri (R := R) (W := [97, 98, 99]) (Q := fun r_3 : Int32 => ((0 : Int32).toInt = 0)) (cs_X3_startLine T o 0 (4 : Int32) h_T k_o (by omega) (by omega) (by omega)) (fun r_3 T_4 i_T_4 y_T_4 d_r_3 => ?_) (fun k_ U_ i_ y_ => ⟨⟨i_, x_T.tr (y_.w (by decide))⟩, fun q_ => absurd q_ (Nat.succ_ne_zero k_)⟩)
    have h_T_4 : IV R B K1 K2 T_4 := i_T_4
    have x_T_4 := x_T.tr (y_T_4.w (by decide))
    have f_T_4_a0_5 : (T_4.2.2.1 a0 5).toInt = (T.2.2.1 a0 5).toInt := congrArg Int32.toInt (y_T_4 a0 5 (by rw [k_a0]; decide))
    replace d_r_3 : ((0 : Int32).toInt = 0) := d_r_3
    refine tot_oif (iv_oO h_T_4 k_a0 (by decide) (by decide) rfl) ?_
    refine tot_ref h_T_4 k_a0 (by decide) (by decide) (r2 := 53) (rfl : rtg 6 4 = 53) (by decide) (fun n_5 k_n_5 e_n_5 => ?_)
    refine tot_oif (iv_oO h_T_4 k_a0 (by decide) (by decide) rfl) ?_
    refine tot_let (fun v_6 e_v_6 => ?_)
    have q_v_6 := i_eq e_v_6
    have r_v_6 : 0 ≤ v_6.toInt ∧ v_6.toInt ≤ 12 := iv_int h_T_4 k_a0 (by decide) (by decide) e_v_6 rfl
    refine tot_oif (iv_aA h_T_4 k_n_5 (by decide) (by decide) rfl rfl) ?_
    refine tot_oif (by rw [iv_len h_T_4 k_n_5 (by decide) (by decide) (rfl : shp 53 = (103, 12))]; exact i_inb (by omega) (by omega)) ?_
    refine tot_ref h_T_4 k_n_5 (by decide) (by decide) (r2 := 2) (rt_53 (by omega) (by omega)) (by decide) (fun n_7 k_n_7 e_n_7 => ?_)
    refine tot_oif (iv_oO h_T_4 k_o (by decide) (by decide) rfl) ?_
    refine tot_thri (R := R) (W := [97, 98, 99]) (Q := fun r_8 : Int32 => ((((-500) : Int32) : Int32).toInt ≤ r_8.toInt ∧ r_8.toInt ≤ ((500 : Int32) : Int32).toInt)) (cs_X3_signed T_4 o ((-500) : Int32) (500 : Int32) h_T_4 k_o (by omega) (by omega)) (fun r_8 T_9 i_T_9 y_T_9 d_r_8 => ?_) (fun k_ U_ i_ y_ => ⟨⟨i_, x_T_4.tr (y_.w (by decide))⟩, fun q_ => absurd q_ (Nat.succ_ne_zero k_)⟩)
    have h_T_9 : IV R B K1 K2 T_9 := i_T_9
    have x_T_9 := x_T_4.tr (y_T_9.w (by decide))
    have f_T_9_a0_5 : (T_9.2.2.1 a0 5).toInt = (T_4.2.2.1 a0 5).toInt := congrArg Int32.toInt (y_T_9 a0 5 (by rw [k_a0]; decide))
    replace d_r_8 : ((((-500) : Int32) : Int32).toInt ≤ r_8.toInt ∧ r_8.toInt ≤ ((500 : Int32) : Int32).toInt) := d_r_8
    refine tot_oif (iv_oO h_T_9 k_n_7 (by decide) (by decide) rfl) ?_
    refine tot_let (fun T_10 e_T_10 => ?_)
    have h_T_10 : IV R B K1 K2 T_10 := by rw [e_T_10]; exact iv_uI (a := -500) (b := 500) h_T_9 k_n_7 (by decide) (by decide) rfl (by omega) (.inl rfl)
    have x_T_10 := x_T_9.tr (fw_uI e_T_10 k_n_7 (by decide))
    have f_T_10_o_1 : (T_10.2.2.1 o 1).toInt = (T_9.2.2.1 o 1).toInt := congrArg Int32.toInt ((fw_uI (W := [64]) e_T_10 k_n_7 (by decide)) o 1 (by rw [k_o]; decide))
    have f_T_10_a0_5 : (T_10.2.2.1 a0 5).toInt = (T_9.2.2.1 a0 5).toInt := congrArg Int32.toInt ((fw_uI (W := [64]) e_T_10 k_n_7 (by decide)) a0 5 (by rw [k_a0]; decide))
    refine tot_oif (iv_oO h_T_10 k_o (by decide) (by decide) rfl) ?_
    refine tot_thri (R := R) (W := [97, 98, 99]) (Q := fun r_11 : Int32 => ((((-500) : Int32) : Int32).toInt ≤ r_11.toInt ∧ r_11.toInt ≤ ((500 : Int32) : Int32).toInt)) (cs_X3_signed T_10 o ((-500) : Int32) (500 : Int32) h_T_10 k_o (by omega) (by omega)) (fun r_11 T_12 i_T_12 y_T_12 d_r_11 => ?_) (fun k_ U_ i_ y_ => ⟨⟨i_, x_T_10.tr (y_.w (by decide))⟩, fun q_ => absurd q_ (Nat.succ_ne_zero k_)⟩)
    have h_T_12 : IV R B K1 K2 T_12 := i_T_12
    have x_T_12 := x_T_10.tr (y_T_12.w (by decide))
    have f_T_12_a0_5 : (T_12.2.2.1 a0 5).toInt = (T_10.2.2.1 a0 5).toInt := congrArg Int32.toInt (y_T_12 a0 5 (by rw [k_a0]; decide))
    replace d_r_11 : ((((-500) : Int32) : Int32).toInt ≤ r_11.toInt ∧ r_11.toInt ≤ ((500 : Int32) : Int32).toInt) := d_r_11
    refine tot_oif (iv_oO h_T_12 k_n_7 (by decide) (by decide) rfl) ?_
    refine tot_let (fun T_13 e_T_13 => ?_)
    have h_T_13 : IV R B K1 K2 T_13 := by rw [e_T_13]; exact iv_uI (a := -500) (b := 500) h_T_12 k_n_7 (by decide) (by decide) rfl (by omega) (.inl rfl)
    have x_T_13 := x_T_12.tr (fw_uI e_T_13 k_n_7 (by decide))
    have f_T_13_o_1 : (T_13.2.2.1 o 1).toInt = (T_12.2.2.1 o 1).toInt := congrArg Int32.toInt ((fw_uI (W := [65]) e_T_13 k_n_7 (by decide)) o 1 (by rw [k_o]; decide))
    have f_T_13_a0_5 : (T_13.2.2.1 a0 5).toInt = (T_12.2.2.1 a0 5).toInt := congrArg Int32.toInt ((fw_uI (W := [65]) e_T_13 k_n_7 (by decide)) a0 5 (by rw [k_a0]; decide))
    refine tot_oif (iv_oO h_T_13 k_o (by decide) (by decide) rfl) ?_
    refine tot_thri (R := R) (W := [97, 98, 99]) (Q := fun r_14 : Int32 => (((1 : Int32) : Int32).toInt ≤ r_14.toInt ∧ r_14.toInt ≤ ((9 : Int32) : Int32).toInt)) (cs_X3_number T_13 o (1 : Int32) (9 : Int32) h_T_13 k_o ) (fun r_14 T_15 i_T_15 y_T_15 d_r_14 => ?_) (fun k_ U_ i_ y_ => ⟨⟨i_, x_T_13.tr (y_.w (by decide))⟩, fun q_ => absurd q_ (Nat.succ_ne_zero k_)⟩)
    have h_T_15 : IV R B K1 K2 T_15 := i_T_15
    have x_T_15 := x_T_13.tr (y_T_15.w (by decide))
    have f_T_15_a0_5 : (T_15.2.2.1 a0 5).toInt = (T_13.2.2.1 a0 5).toInt := congrArg Int32.toInt (y_T_15 a0 5 (by rw [k_a0]; decide))
    replace d_r_14 : (((1 : Int32) : Int32).toInt ≤ r_14.toInt ∧ r_14.toInt ≤ ((9 : Int32) : Int32).toInt) := d_r_14
    refine tot_oif (iv_oO h_T_15 k_n_7 (by decide) (by decide) rfl) ?_
    refine tot_let (fun T_16 e_T_16 => ?_)
    have h_T_16 : IV R B K1 K2 T_16 := by rw [e_T_16]; exact iv_uI (a := 0) (b := 9) h_T_15 k_n_7 (by decide) (by decide) rfl (by omega) (.inl rfl)
    have x_T_16 := x_T_15.tr (fw_uI e_T_16 k_n_7 (by decide))
    have f_T_16_o_1 : (T_16.2.2.1 o 1).toInt = (T_15.2.2.1 o 1).toInt := congrArg Int32.toInt ((fw_uI (W := [66]) e_T_16 k_n_7 (by decide)) o 1 (by rw [k_o]; decide))
    have f_T_16_a0_5 : (T_16.2.2.1 a0 5).toInt = (T_15.2.2.1 a0 5).toInt := congrArg Int32.toInt ((fw_uI (W := [66]) e_T_16 k_n_7 (by decide)) a0 5 (by rw [k_a0]; decide))
    refine tot_oif (iv_oO h_T_16 k_n_7 (by decide) (by decide) rfl) ?_
    refine tot_let (fun T_17 e_T_17 => ?_)
    have h_T_17 : IV R B K1 K2 T_17 := by rw [e_T_17]; exact iv_uI (a := 0) (b := 31) h_T_16 k_n_7 (by decide) (by decide) rfl (by omega) (.inl rfl)
    have x_T_17 := x_T_16.tr (fw_uI e_T_17 k_n_7 (by decide))
    have f_T_17_o_1 : (T_17.2.2.1 o 1).toInt = (T_16.2.2.1 o 1).toInt := congrArg Int32.toInt ((fw_uI (W := [67]) e_T_17 k_n_7 (by decide)) o 1 (by rw [k_o]; decide))
    have f_T_17_a0_5 : (T_17.2.2.1 a0 5).toInt = (T_16.2.2.1 a0 5).toInt := congrArg Int32.toInt ((fw_uI (W := [67]) e_T_17 k_n_7 (by decide)) a0 5 (by rw [k_a0]; decide))
    refine tot_oif (iv_oO h_T_17 k_a0 (by decide) (by decide) rfl) ?_
    refine tot_let (fun v_18 e_v_18 => ?_)
    have q_v_18 := i_eq e_v_18
    have r_v_18 : 0 ≤ v_18.toInt ∧ v_18.toInt ≤ 12 := iv_int h_T_17 k_a0 (by decide) (by decide) e_v_18 rfl
    refine tot_let (fun v_19 e_v_19 => ?_)
    have q_v_19 := i_add e_v_19 (by omega) (by omega)
    refine tot_oif (iv_oO h_T_17 k_a0 (by decide) (by decide) rfl) ?_
    refine tot_let (fun T_20 e_T_20 => ?_)
    have h_T_20 : IV R B K1 K2 T_20 := by rw [e_T_20]; exact iv_uI (a := 0) (b := 12) h_T_17 k_a0 (by decide) (by decide) rfl (by omega) (.inl rfl)
    have x_T_20 := x_T_17.tr (fw_uI e_T_20 k_a0 (by decide))
    have f_T_20_o_1 : (T_20.2.2.1 o 1).toInt = (T_17.2.2.1 o 1).toInt := congrArg Int32.toInt ((fw_uI (W := [197]) e_T_20 k_a0 (by decide)) o 1 (by rw [k_o]; decide))
    have f_T_20_a0_5 : (T_20.2.2.1 a0 5).toInt = (v_19 : Int32).toInt := by rw [e_T_20]; exact congrArg Int32.toInt (uI_at _ _ _ _)
    exact tot_some ⟨⟨h_T_20, x_T_20⟩, fun _ => (show (0 ≤ (0 : Int32).toInt ∧ (0 : Int32).toInt ≤ 0) from by omega)⟩
  · replace c_2 := i_nlt c_2
    unfold g_X3_parseMic_b15
    refine tot_oif (iv_oO h_T k_o (by decide) (by decide) rfl) ?_
    refine tot_thri (R := R) (W := [97, 98, 99]) (Q := fun r_21 : Int32 => ((1 : Int32).toInt = 0)) (cs_X3_startLine T o 1 (4 : Int32) h_T k_o (by omega) (by omega) (by omega)) (fun r_21 T_22 i_T_22 y_T_22 d_r_21 => ?_) (fun k_ U_ i_ y_ => ⟨⟨i_, x_T.tr (y_.w (by decide))⟩, fun q_ => absurd q_ (Nat.succ_ne_zero k_)⟩)
    have h_T_22 : IV R B K1 K2 T_22 := i_T_22
    have x_T_22 := x_T.tr (y_T_22.w (by decide))
    have f_T_22_a0_5 : (T_22.2.2.1 a0 5).toInt = (T.2.2.1 a0 5).toInt := congrArg Int32.toInt (y_T_22 a0 5 (by rw [k_a0]; decide))
    replace d_r_21 : ((1 : Int32).toInt = 0) := d_r_21
    refine tot_oif (iv_oO h_T_22 k_a0 (by decide) (by decide) rfl) ?_
    refine tot_ref h_T_22 k_a0 (by decide) (by decide) (r2 := 53) (rfl : rtg 6 4 = 53) (by decide) (fun n_23 k_n_23 e_n_23 => ?_)
    refine tot_oif (iv_oO h_T_22 k_a0 (by decide) (by decide) rfl) ?_
    refine tot_let (fun v_24 e_v_24 => ?_)
    have q_v_24 := i_eq e_v_24
    have r_v_24 : 0 ≤ v_24.toInt ∧ v_24.toInt ≤ 12 := iv_int h_T_22 k_a0 (by decide) (by decide) e_v_24 rfl
    refine tot_oif (iv_aA h_T_22 k_n_23 (by decide) (by decide) rfl rfl) ?_
    refine tot_oif (by rw [iv_len h_T_22 k_n_23 (by decide) (by decide) (rfl : shp 53 = (103, 12))]; exact i_inb (by omega) (by omega)) ?_
    refine tot_ref h_T_22 k_n_23 (by decide) (by decide) (r2 := 2) (rt_53 (by omega) (by omega)) (by decide) (fun n_25 k_n_25 e_n_25 => ?_)
    refine tot_oif (iv_oO h_T_22 k_o (by decide) (by decide) rfl) ?_
    refine tot_thri (R := R) (W := [97, 98, 99]) (Q := fun r_26 : Int32 => ((((-500) : Int32) : Int32).toInt ≤ r_26.toInt ∧ r_26.toInt ≤ ((500 : Int32) : Int32).toInt)) (cs_X3_signed T_22 o ((-500) : Int32) (500 : Int32) h_T_22 k_o (by omega) (by omega)) (fun r_26 T_27 i_T_27 y_T_27 d_r_26 => ?_) (fun k_ U_ i_ y_ => ⟨⟨i_, x_T_22.tr (y_.w (by decide))⟩, fun q_ => absurd q_ (Nat.succ_ne_zero k_)⟩)
    have h_T_27 : IV R B K1 K2 T_27 := i_T_27
    have x_T_27 := x_T_22.tr (y_T_27.w (by decide))
    have f_T_27_a0_5 : (T_27.2.2.1 a0 5).toInt = (T_22.2.2.1 a0 5).toInt := congrArg Int32.toInt (y_T_27 a0 5 (by rw [k_a0]; decide))
    replace d_r_26 : ((((-500) : Int32) : Int32).toInt ≤ r_26.toInt ∧ r_26.toInt ≤ ((500 : Int32) : Int32).toInt) := d_r_26
    refine tot_oif (iv_oO h_T_27 k_n_25 (by decide) (by decide) rfl) ?_
    refine tot_let (fun T_28 e_T_28 => ?_)
    have h_T_28 : IV R B K1 K2 T_28 := by rw [e_T_28]; exact iv_uI (a := -500) (b := 500) h_T_27 k_n_25 (by decide) (by decide) rfl (by omega) (.inl rfl)
    have x_T_28 := x_T_27.tr (fw_uI e_T_28 k_n_25 (by decide))
    have f_T_28_o_1 : (T_28.2.2.1 o 1).toInt = (T_27.2.2.1 o 1).toInt := congrArg Int32.toInt ((fw_uI (W := [64]) e_T_28 k_n_25 (by decide)) o 1 (by rw [k_o]; decide))
    have f_T_28_a0_5 : (T_28.2.2.1 a0 5).toInt = (T_27.2.2.1 a0 5).toInt := congrArg Int32.toInt ((fw_uI (W := [64]) e_T_28 k_n_25 (by decide)) a0 5 (by rw [k_a0]; decide))
    refine tot_oif (iv_oO h_T_28 k_o (by decide) (by decide) rfl) ?_
    refine tot_thri (R := R) (W := [97, 98, 99]) (Q := fun r_29 : Int32 => ((((-500) : Int32) : Int32).toInt ≤ r_29.toInt ∧ r_29.toInt ≤ ((500 : Int32) : Int32).toInt)) (cs_X3_signed T_28 o ((-500) : Int32) (500 : Int32) h_T_28 k_o (by omega) (by omega)) (fun r_29 T_30 i_T_30 y_T_30 d_r_29 => ?_) (fun k_ U_ i_ y_ => ⟨⟨i_, x_T_28.tr (y_.w (by decide))⟩, fun q_ => absurd q_ (Nat.succ_ne_zero k_)⟩)
    have h_T_30 : IV R B K1 K2 T_30 := i_T_30
    have x_T_30 := x_T_28.tr (y_T_30.w (by decide))
    have f_T_30_a0_5 : (T_30.2.2.1 a0 5).toInt = (T_28.2.2.1 a0 5).toInt := congrArg Int32.toInt (y_T_30 a0 5 (by rw [k_a0]; decide))
    replace d_r_29 : ((((-500) : Int32) : Int32).toInt ≤ r_29.toInt ∧ r_29.toInt ≤ ((500 : Int32) : Int32).toInt) := d_r_29
    refine tot_oif (iv_oO h_T_30 k_n_25 (by decide) (by decide) rfl) ?_
    refine tot_let (fun T_31 e_T_31 => ?_)
    have h_T_31 : IV R B K1 K2 T_31 := by rw [e_T_31]; exact iv_uI (a := -500) (b := 500) h_T_30 k_n_25 (by decide) (by decide) rfl (by omega) (.inl rfl)
    have x_T_31 := x_T_30.tr (fw_uI e_T_31 k_n_25 (by decide))
    have f_T_31_o_1 : (T_31.2.2.1 o 1).toInt = (T_30.2.2.1 o 1).toInt := congrArg Int32.toInt ((fw_uI (W := [65]) e_T_31 k_n_25 (by decide)) o 1 (by rw [k_o]; decide))
    have f_T_31_a0_5 : (T_31.2.2.1 a0 5).toInt = (T_30.2.2.1 a0 5).toInt := congrArg Int32.toInt ((fw_uI (W := [65]) e_T_31 k_n_25 (by decide)) a0 5 (by rw [k_a0]; decide))
    refine tot_oif (iv_oO h_T_31 k_o (by decide) (by decide) rfl) ?_
    refine tot_thri (R := R) (W := [97, 98, 99]) (Q := fun r_32 : Int32 => (((1 : Int32) : Int32).toInt ≤ r_32.toInt ∧ r_32.toInt ≤ ((9 : Int32) : Int32).toInt)) (cs_X3_number T_31 o (1 : Int32) (9 : Int32) h_T_31 k_o ) (fun r_32 T_33 i_T_33 y_T_33 d_r_32 => ?_) (fun k_ U_ i_ y_ => ⟨⟨i_, x_T_31.tr (y_.w (by decide))⟩, fun q_ => absurd q_ (Nat.succ_ne_zero k_)⟩)
    have h_T_33 : IV R B K1 K2 T_33 := i_T_33
    have x_T_33 := x_T_31.tr (y_T_33.w (by decide))
    have f_T_33_a0_5 : (T_33.2.2.1 a0 5).toInt = (T_31.2.2.1 a0 5).toInt := congrArg Int32.toInt (y_T_33 a0 5 (by rw [k_a0]; decide))
    replace d_r_32 : (((1 : Int32) : Int32).toInt ≤ r_32.toInt ∧ r_32.toInt ≤ ((9 : Int32) : Int32).toInt) := d_r_32
    refine tot_oif (iv_oO h_T_33 k_n_25 (by decide) (by decide) rfl) ?_
    refine tot_let (fun T_34 e_T_34 => ?_)
    have h_T_34 : IV R B K1 K2 T_34 := by rw [e_T_34]; exact iv_uI (a := 0) (b := 9) h_T_33 k_n_25 (by decide) (by decide) rfl (by omega) (.inl rfl)
    have x_T_34 := x_T_33.tr (fw_uI e_T_34 k_n_25 (by decide))
    have f_T_34_o_1 : (T_34.2.2.1 o 1).toInt = (T_33.2.2.1 o 1).toInt := congrArg Int32.toInt ((fw_uI (W := [66]) e_T_34 k_n_25 (by decide)) o 1 (by rw [k_o]; decide))
    have f_T_34_a0_5 : (T_34.2.2.1 a0 5).toInt = (T_33.2.2.1 a0 5).toInt := congrArg Int32.toInt ((fw_uI (W := [66]) e_T_34 k_n_25 (by decide)) a0 5 (by rw [k_a0]; decide))
    refine tot_oif (iv_oO h_T_34 k_n_25 (by decide) (by decide) rfl) ?_
    refine tot_let (fun T_35 e_T_35 => ?_)
    have h_T_35 : IV R B K1 K2 T_35 := by rw [e_T_35]; exact iv_uI (a := 0) (b := 31) h_T_34 k_n_25 (by decide) (by decide) rfl (by omega) (.inl rfl)
    have x_T_35 := x_T_34.tr (fw_uI e_T_35 k_n_25 (by decide))
    have f_T_35_o_1 : (T_35.2.2.1 o 1).toInt = (T_34.2.2.1 o 1).toInt := congrArg Int32.toInt ((fw_uI (W := [67]) e_T_35 k_n_25 (by decide)) o 1 (by rw [k_o]; decide))
    have f_T_35_a0_5 : (T_35.2.2.1 a0 5).toInt = (T_34.2.2.1 a0 5).toInt := congrArg Int32.toInt ((fw_uI (W := [67]) e_T_35 k_n_25 (by decide)) a0 5 (by rw [k_a0]; decide))
    refine tot_oif (iv_oO h_T_35 k_a0 (by decide) (by decide) rfl) ?_
    refine tot_let (fun v_36 e_v_36 => ?_)
    have q_v_36 := i_eq e_v_36
    have r_v_36 : 0 ≤ v_36.toInt ∧ v_36.toInt ≤ 12 := iv_int h_T_35 k_a0 (by decide) (by decide) e_v_36 rfl
    refine tot_let (fun v_37 e_v_37 => ?_)
    have q_v_37 := i_add e_v_37 (by omega) (by omega)
    refine tot_oif (iv_oO h_T_35 k_a0 (by decide) (by decide) rfl) ?_
    refine tot_let (fun T_38 e_T_38 => ?_)
    have h_T_38 : IV R B K1 K2 T_38 := by rw [e_T_38]; exact iv_uI (a := 0) (b := 12) h_T_35 k_a0 (by decide) (by decide) rfl (by omega) (.inl rfl)
    have x_T_38 := x_T_35.tr (fw_uI e_T_38 k_a0 (by decide))
    have f_T_38_o_1 : (T_38.2.2.1 o 1).toInt = (T_35.2.2.1 o 1).toInt := congrArg Int32.toInt ((fw_uI (W := [197]) e_T_38 k_a0 (by decide)) o 1 (by rw [k_o]; decide))
    have f_T_38_a0_5 : (T_38.2.2.1 a0 5).toInt = (v_37 : Int32).toInt := by rw [e_T_38]; exact congrArg Int32.toInt (uI_at _ _ _ _)
    exact tot_some ⟨⟨h_T_38, x_T_38⟩, fun _ => (show (0 ≤ (0 : Int32).toInt ∧ (0 : Int32).toInt ≤ 0) from by omega)⟩
set_option maxHeartbeats 4000000 in
set_option maxRecDepth 10000 in
theorem cs_X3_parseLine {R : Nat → Nat} {B K1 K2 : Nat} (T : AT) (o : Nat) (a0 : Nat) (h_T : IV R B K1 K2 T) (k_o : R o = 3) (k_a0 : R a0 = 6) : Tot (g_X3_parseLine T o a0) (fun r => (IV R B K1 K2 r.2.2 ∧ FW R [32, 33, 34, 35, 36, 39, 64, 65, 66, 67, 97, 98, 99, 197, 200, 203, 204, 206, 208, 224, 225, 226, 227, 228, 229, 230, 231, 232, 233, 1760, 1792, 1824, 1856, 1888] T r.2.2) ∧ (r.1 = 0 → (0 ≤ r.2.1.toInt ∧ r.2.1.toInt ≤ 0))) := by
  have z0 : (0 : Int32).toInt = 0 := by decide
  have z1 : ((1 : Int32) : Int32).toInt = 1 := by decide
  have z2 : ((3 : Int32) : Int32).toInt = 3 := by decide
  have z3 : ((999 : Int32) : Int32).toInt = 999 := by decide
  have z4 : (1 : Int32).toInt = 1 := by decide
  have cc_101 : cnt 101 = 1 := rfl
  have cc_102 : cnt 102 = 12 := rfl
  have cc_103 : cnt 103 = 144 := rfl
  have cc_104 : cnt 104 = 2400 := rfl
  have cc_105 : cnt 105 = 7200 := rfl
  have x_T : FW R [32, 33, 34, 35, 36, 39, 64, 65, 66, 67, 97, 98, 99, 197, 200, 203, 204, 206, 208, 224, 225, 226, 227, 228, 229, 230, 231, 232, 233, 1760, 1792, 1824, 1856, 1888] T T := FW.rf
  unfold g_X3_parseLine
  refine tot_oif (iv_oO h_T k_o (by decide) (by decide) rfl) ?_
  refine tot_bindq (R := fun r_1 : Int32 => (0 ≤ r_1.toInt ∧ r_1.toInt ≤ 1 ∧ (r_1.toInt = 0 ∨ (T.2.2.1 o 1).toInt ≤ 1000))) (cs_X3_isWord T (sTx "mic") o h_T k_o (by decide)) (fun r_1 d_r_1 => ?_)
  replace d_r_1 : (0 ≤ r_1.toInt ∧ r_1.toInt ≤ 1 ∧ (r_1.toInt = 0 ∨ (T.2.2.1 o 1).toInt ≤ 1000)) := d_r_1
  refine tot_if (fun c_45 => ?_) (fun c_45 => ?_)
  · replace c_45 := i_eq c_45
    refine tot_oif (iv_oO h_T k_o (by decide) (by decide) rfl) ?_
    refine tot_bindq (R := fun r_3 : Int32 => (0 ≤ r_3.toInt ∧ r_3.toInt ≤ 1 ∧ (r_3.toInt = 0 ∨ (T.2.2.1 o 1).toInt ≤ 1000))) (cs_X3_isWord T (sTx "map") o h_T k_o (by decide)) (fun r_3 d_r_3 => ?_)
    replace d_r_3 : (0 ≤ r_3.toInt ∧ r_3.toInt ≤ 1 ∧ (r_3.toInt = 0 ∨ (T.2.2.1 o 1).toInt ≤ 1000)) := d_r_3
    refine tot_if (fun c_46 => ?_) (fun c_46 => ?_)
    · replace c_46 := i_eq c_46
      refine tot_oif (iv_oO h_T k_o (by decide) (by decide) rfl) ?_
      refine tot_bindq (R := fun r_5 : Int32 => (0 ≤ r_5.toInt ∧ r_5.toInt ≤ 1 ∧ (r_5.toInt = 0 ∨ (T.2.2.1 o 1).toInt ≤ 1000))) (cs_X3_isWord T (sTx "source") o h_T k_o (by decide)) (fun r_5 d_r_5 => ?_)
      replace d_r_5 : (0 ≤ r_5.toInt ∧ r_5.toInt ≤ 1 ∧ (r_5.toInt = 0 ∨ (T.2.2.1 o 1).toInt ≤ 1000)) := d_r_5
      refine tot_if (fun c_47 => ?_) (fun c_47 => ?_)
      · replace c_47 := i_eq c_47
        refine tot_oif (iv_oO h_T k_o (by decide) (by decide) rfl) ?_
        refine tot_bindq (R := fun r_7 : Int32 => (0 ≤ r_7.toInt ∧ r_7.toInt ≤ 1 ∧ (r_7.toInt = 0 ∨ (T.2.2.1 o 1).toInt ≤ 1000))) (cs_X3_isWord T (sTx "wall") o h_T k_o (by decide)) (fun r_7 d_r_7 => ?_)
        replace d_r_7 : (0 ≤ r_7.toInt ∧ r_7.toInt ≤ 1 ∧ (r_7.toInt = 0 ∨ (T.2.2.1 o 1).toInt ≤ 1000)) := d_r_7
        refine tot_if (fun c_48 => ?_) (fun c_48 => ?_)
        · replace c_48 := i_eq c_48
          refine tot_oif (iv_oO h_T k_o (by decide) (by decide) rfl) ?_
          refine tot_bindq (R := fun r_9 : Int32 => (0 ≤ r_9.toInt ∧ r_9.toInt ≤ 1 ∧ (r_9.toInt = 0 ∨ (T.2.2.1 o 1).toInt ≤ 1000))) (cs_X3_isWord T (sTx "fade") o h_T k_o (by decide)) (fun r_9 d_r_9 => ?_)
          replace d_r_9 : (0 ≤ r_9.toInt ∧ r_9.toInt ≤ 1 ∧ (r_9.toInt = 0 ∨ (T.2.2.1 o 1).toInt ≤ 1000)) := d_r_9
          refine tot_if (fun c_49 => ?_) (fun c_49 => ?_)
          · replace c_49 := i_eq c_49
            refine tot_oif (iv_oO h_T k_o (by decide) (by decide) rfl) ?_
            refine tot_bindq (R := fun r_11 : Int32 => (0 ≤ r_11.toInt ∧ r_11.toInt ≤ 1 ∧ (r_11.toInt = 0 ∨ (T.2.2.1 o 1).toInt ≤ 1000))) (cs_X3_isWord T (sTx "filter") o h_T k_o (by decide)) (fun r_11 d_r_11 => ?_)
            replace d_r_11 : (0 ≤ r_11.toInt ∧ r_11.toInt ≤ 1 ∧ (r_11.toInt = 0 ∨ (T.2.2.1 o 1).toInt ≤ 1000)) := d_r_11
            refine tot_if (fun c_50 => ?_) (fun c_50 => ?_)
            · replace c_50 := i_eq c_50
              refine tot_oif (iv_oO h_T k_o (by decide) (by decide) rfl) ?_
              refine tot_bindq (R := fun r_13 : Int32 => (0 ≤ r_13.toInt ∧ r_13.toInt ≤ 1 ∧ (r_13.toInt = 0 ∨ (T.2.2.1 o 1).toInt ≤ 1000))) (cs_X3_isWord T (sTx "clock") o h_T k_o (by decide)) (fun r_13 d_r_13 => ?_)
              replace d_r_13 : (0 ≤ r_13.toInt ∧ r_13.toInt ≤ 1 ∧ (r_13.toInt = 0 ∨ (T.2.2.1 o 1).toInt ≤ 1000)) := d_r_13
              refine tot_if (fun c_51 => ?_) (fun c_51 => ?_)
              · replace c_51 := i_eq c_51
                refine tot_oif (iv_oO h_T k_o (by decide) (by decide) rfl) ?_
                refine tot_bindq (R := fun r_15 : Int32 => (0 ≤ r_15.toInt ∧ r_15.toInt ≤ 1 ∧ (r_15.toInt = 0 ∨ (T.2.2.1 o 1).toInt ≤ 1000))) (cs_X3_isWord T (sTx "zone") o h_T k_o (by decide)) (fun r_15 d_r_15 => ?_)
                replace d_r_15 : (0 ≤ r_15.toInt ∧ r_15.toInt ≤ 1 ∧ (r_15.toInt = 0 ∨ (T.2.2.1 o 1).toInt ≤ 1000)) := d_r_15
                refine tot_if (fun c_52 => ?_) (fun c_52 => ?_)
                · replace c_52 := i_eq c_52
                  refine tot_oif (iv_oO h_T k_o (by decide) (by decide) rfl) ?_
                  refine tot_bindq (R := fun r_17 : Int32 => (0 ≤ r_17.toInt ∧ r_17.toInt ≤ 1 ∧ (r_17.toInt = 0 ∨ (T.2.2.1 o 1).toInt ≤ 1000))) (cs_X3_isWord T (sTx "shade") o h_T k_o (by decide)) (fun r_17 d_r_17 => ?_)
                  replace d_r_17 : (0 ≤ r_17.toInt ∧ r_17.toInt ≤ 1 ∧ (r_17.toInt = 0 ∨ (T.2.2.1 o 1).toInt ≤ 1000)) := d_r_17
                  refine tot_if (fun c_53 => ?_) (fun c_53 => ?_)
                  · replace c_53 := i_eq c_53
                    refine tot_oif (iv_oO h_T k_o (by decide) (by decide) rfl) ?_
                    refine tot_bindq (R := fun r_19 : Int32 => (0 ≤ r_19.toInt ∧ r_19.toInt ≤ 1 ∧ (r_19.toInt = 0 ∨ (T.2.2.1 o 1).toInt ≤ 1000))) (cs_X3_isWord T (sTx "off") o h_T k_o (by decide)) (fun r_19 d_r_19 => ?_)
                    replace d_r_19 : (0 ≤ r_19.toInt ∧ r_19.toInt ≤ 1 ∧ (r_19.toInt = 0 ∨ (T.2.2.1 o 1).toInt ≤ 1000)) := d_r_19
                    refine tot_if (fun c_54 => ?_) (fun c_54 => ?_)
                    · replace c_54 := i_eq c_54
                      refine tot_oif (iv_oO h_T k_o (by decide) (by decide) rfl) ?_
                      refine tot_let (fun v_21 e_v_21 => ?_)
                      have q_v_21 := i_eq e_v_21
                      have r_v_21 : 0 ≤ v_21.toInt ∧ v_21.toInt ≤ 1001 := iv_int h_T k_o (by decide) (by decide) e_v_21 rfl
                      refine tot_oif (iv_oO h_T k_o (by decide) (by decide) rfl) ?_
                      refine tot_thri (R := R) (W := [98, 99]) (Q := fun r_22 : Int32 => (False)) (cs_X3_failAt T o v_21 (1 : Int32) h_T k_o (by omega) (by omega)) (fun r_22 T_23 i_T_23 y_T_23 d_r_22 => ?_) (fun k_ U_ i_ y_ => ⟨⟨i_, x_T.tr (y_.w (by decide))⟩, fun q_ => absurd q_ (Nat.succ_ne_zero k_)⟩)
                      have h_T_23 : IV R B K1 K2 T_23 := i_T_23
                      have x_T_23 := x_T.tr (y_T_23.w (by decide))
                      have f_T_23_o_1 : (T_23.2.2.1 o 1).toInt = (T.2.2.1 o 1).toInt := congrArg Int32.toInt (y_T_23 o 1 (by rw [k_o]; decide))
                      replace d_r_22 : (False) := d_r_22
                      exact d_r_22.elim
                    · replace c_54 := i_ne c_54
                      refine tot_oif (iv_oO h_T k_o (by decide) (by decide) rfl) ?_
                      refine tot_thri (R := R) (W := [97, 98, 99, 233]) (Q := fun r_24 : Int32 => (0 ≤ r_24.toInt ∧ r_24.toInt ≤ 0)) (cs_X3_parseOff T o a0 h_T k_o k_a0 (by omega)) (fun r_24 T_25 i_T_25 y_T_25 d_r_24 => ?_) (fun k_ U_ i_ y_ => ⟨⟨i_, x_T.tr (y_.w (by decide))⟩, fun q_ => absurd q_ (Nat.succ_ne_zero k_)⟩)
                      have h_T_25 : IV R B K1 K2 T_25 := i_T_25
                      have x_T_25 := x_T.tr (y_T_25.w (by decide))
                      replace d_r_24 : (0 ≤ r_24.toInt ∧ r_24.toInt ≤ 0) := d_r_24
                      unfold g_X3_parseLine_b209
                      exact tot_some ⟨⟨h_T_25, x_T_25⟩, fun _ => (show (0 ≤ (0 : Int32).toInt ∧ (0 : Int32).toInt ≤ 0) from by omega)⟩
                  · replace c_53 := i_ne c_53
                    refine tot_oif (iv_oO h_T k_o (by decide) (by decide) rfl) ?_
                    refine tot_thri (R := R) (W := [97, 98, 99, 208, 1856]) (Q := fun r_26 : Int32 => (0 ≤ r_26.toInt ∧ r_26.toInt ≤ 0)) (cs_X3_parseShade T o a0 h_T k_o k_a0 (by omega)) (fun r_26 T_27 i_T_27 y_T_27 d_r_26 => ?_) (fun k_ U_ i_ y_ => ⟨⟨i_, x_T.tr (y_.w (by decide))⟩, fun q_ => absurd q_ (Nat.succ_ne_zero k_)⟩)
                    have h_T_27 : IV R B K1 K2 T_27 := i_T_27
                    have x_T_27 := x_T.tr (y_T_27.w (by decide))
                    replace d_r_26 : (0 ≤ r_26.toInt ∧ r_26.toInt ≤ 0) := d_r_26
                    unfold g_X3_parseLine_b209
                    exact tot_some ⟨⟨h_T_27, x_T_27⟩, fun _ => (show (0 ≤ (0 : Int32).toInt ∧ (0 : Int32).toInt ≤ 0) from by omega)⟩
                · replace c_52 := i_ne c_52
                  refine tot_oif (iv_oO h_T k_a0 (by decide) (by decide) rfl) ?_
                  refine tot_ref h_T k_a0 (by decide) (by decide) (r2 := 1) (rfl : rtg 6 6 = 1) (by decide) (fun n_28 k_n_28 e_n_28 => ?_)
                  refine tot_oif (iv_oO h_T k_o (by decide) (by decide) rfl) ?_
                  refine tot_thri (R := R) (W := [39, 97, 98, 99, 1888]) (Q := fun r_29 : Int32 => (0 ≤ r_29.toInt ∧ r_29.toInt ≤ 0)) (cs_X3_parseZone T o n_28 h_T k_o k_n_28 (by omega)) (fun r_29 T_30 i_T_30 y_T_30 d_r_29 => ?_) (fun k_ U_ i_ y_ => ⟨⟨i_, x_T.tr (y_.w (by decide))⟩, fun q_ => absurd q_ (Nat.succ_ne_zero k_)⟩)
                  have h_T_30 : IV R B K1 K2 T_30 := i_T_30
                  have x_T_30 := x_T.tr (y_T_30.w (by decide))
                  replace d_r_29 : (0 ≤ r_29.toInt ∧ r_29.toInt ≤ 0) := d_r_29
                  unfold g_X3_parseLine_b209
                  exact tot_some ⟨⟨h_T_30, x_T_30⟩, fun _ => (show (0 ≤ (0 : Int32).toInt ∧ (0 : Int32).toInt ≤ 0) from by omega)⟩
              · replace c_51 := i_ne c_51
                refine tot_oif (iv_oO h_T k_o (by decide) (by decide) rfl) ?_
                refine tot_thri (R := R) (W := [67, 97, 98, 99]) (Q := fun r_31 : Int32 => (0 ≤ r_31.toInt ∧ r_31.toInt ≤ 0)) (cs_X3_parseClock T o a0 h_T k_o k_a0 (by omega)) (fun r_31 T_32 i_T_32 y_T_32 d_r_31 => ?_) (fun k_ U_ i_ y_ => ⟨⟨i_, x_T.tr (y_.w (by decide))⟩, fun q_ => absurd q_ (Nat.succ_ne_zero k_)⟩)
                have h_T_32 : IV R B K1 K2 T_32 := i_T_32
                have x_T_32 := x_T.tr (y_T_32.w (by decide))
                replace d_r_31 : (0 ≤ r_31.toInt ∧ r_31.toInt ≤ 0) := d_r_31
                unfold g_X3_parseLine_b209
                exact tot_some ⟨⟨h_T_32, x_T_32⟩, fun _ => (show (0 ≤ (0 : Int32).toInt ∧ (0 : Int32).toInt ≤ 0) from by omega)⟩
            · replace c_50 := i_ne c_50
              refine tot_oif (iv_oO h_T k_o (by decide) (by decide) rfl) ?_
              refine tot_thri (R := R) (W := [97, 98, 99, 206, 1824]) (Q := fun r_33 : Int32 => (0 ≤ r_33.toInt ∧ r_33.toInt ≤ 0)) (cs_X3_parseFilter T o a0 h_T k_o k_a0 (by omega)) (fun r_33 T_34 i_T_34 y_T_34 d_r_33 => ?_) (fun k_ U_ i_ y_ => ⟨⟨i_, x_T.tr (y_.w (by decide))⟩, fun q_ => absurd q_ (Nat.succ_ne_zero k_)⟩)
              have h_T_34 : IV R B K1 K2 T_34 := i_T_34
              have x_T_34 := x_T.tr (y_T_34.w (by decide))
              replace d_r_33 : (0 ≤ r_33.toInt ∧ r_33.toInt ≤ 0) := d_r_33
              unfold g_X3_parseLine_b209
              exact tot_some ⟨⟨h_T_34, x_T_34⟩, fun _ => (show (0 ≤ (0 : Int32).toInt ∧ (0 : Int32).toInt ≤ 0) from by omega)⟩
          · replace c_49 := i_ne c_49
            refine tot_oif (iv_oO h_T k_a0 (by decide) (by decide) rfl) ?_
            refine tot_let (fun v_35 e_v_35 => ?_)
            have r_v_35 : 0 ≤ v_35.toInt ∧ v_35.toInt ≤ 999 := iv_int h_T k_a0 (by decide) (by decide) e_v_35 rfl
            refine tot_if (fun c_55 => ?_) (fun c_55 => ?_)
            · replace c_55 := i_le c_55
              unfold g_X3_parseLine_b93
              refine tot_oif (iv_oO h_T k_o (by decide) (by decide) rfl) ?_
              refine tot_thri (R := R) (W := [97, 98, 99]) (Q := fun r_56 : Int32 => ((0 : Int32).toInt = 0)) (cs_X3_startLine T o 0 (3 : Int32) h_T k_o (by omega) (by omega) (by omega)) (fun r_56 T_57 i_T_57 y_T_57 d_r_56 => ?_) (fun k_ U_ i_ y_ => ⟨⟨i_, x_T.tr (y_.w (by decide))⟩, fun q_ => absurd q_ (Nat.succ_ne_zero k_)⟩)
              have h_T_57 : IV R B K1 K2 T_57 := i_T_57
              have x_T_57 := x_T.tr (y_T_57.w (by decide))
              replace d_r_56 : ((0 : Int32).toInt = 0) := d_r_56
              refine tot_oif (iv_oO h_T_57 k_o (by decide) (by decide) rfl) ?_
              refine tot_thri (R := R) (W := [97, 98, 99]) (Q := fun r_58 : Int32 => (((1 : Int32) : Int32).toInt ≤ r_58.toInt ∧ r_58.toInt ≤ ((999 : Int32) : Int32).toInt)) (cs_X3_number T_57 o (1 : Int32) (999 : Int32) h_T_57 k_o ) (fun r_58 T_59 i_T_59 y_T_59 d_r_58 => ?_) (fun k_ U_ i_ y_ => ⟨⟨i_, x_T_57.tr (y_.w (by decide))⟩, fun q_ => absurd q_ (Nat.succ_ne_zero k_)⟩)
              have h_T_59 : IV R B K1 K2 T_59 := i_T_59
              have x_T_59 := x_T_57.tr (y_T_59.w (by decide))
              replace d_r_58 : (((1 : Int32) : Int32).toInt ≤ r_58.toInt ∧ r_58.toInt ≤ ((999 : Int32) : Int32).toInt) := d_r_58
              refine tot_oif (iv_oO h_T_59 k_a0 (by decide) (by decide) rfl) ?_
              refine tot_let (fun T_60 e_T_60 => ?_)
              have h_T_60 : IV R B K1 K2 T_60 := by rw [e_T_60]; exact iv_uI (a := 0) (b := 999) h_T_59 k_a0 (by decide) (by decide) rfl (by omega) (.inl rfl)
              have x_T_60 := x_T_59.tr (fw_uI e_T_60 k_a0 (by decide))
              have f_T_60_o_1 : (T_60.2.2.1 o 1).toInt = (T_59.2.2.1 o 1).toInt := congrArg Int32.toInt ((fw_uI (W := [204]) e_T_60 k_a0 (by decide)) o 1 (by rw [k_o]; decide))
              unfold g_X3_parseLine_b209
              exact tot_some ⟨⟨h_T_60, x_T_60⟩, fun _ => (show (0 ≤ (0 : Int32).toInt ∧ (0 : Int32).toInt ≤ 0) from by omega)⟩
            · replace c_55 := i_nle c_55
              unfold g_X3_parseLine_b93
              refine tot_oif (iv_oO h_T k_o (by decide) (by decide) rfl) ?_
              refine tot_thri (R := R) (W := [97, 98, 99]) (Q := fun r_61 : Int32 => ((1 : Int32).toInt = 0)) (cs_X3_startLine T o 1 (3 : Int32) h_T k_o (by omega) (by omega) (by omega)) (fun r_61 T_62 i_T_62 y_T_62 d_r_61 => ?_) (fun k_ U_ i_ y_ => ⟨⟨i_, x_T.tr (y_.w (by decide))⟩, fun q_ => absurd q_ (Nat.succ_ne_zero k_)⟩)
              have h_T_62 : IV R B K1 K2 T_62 := i_T_62
              have x_T_62 := x_T.tr (y_T_62.w (by decide))
              replace d_r_61 : ((1 : Int32).toInt = 0) := d_r_61
              refine tot_oif (iv_oO h_T_62 k_o (by decide) (by decide) rfl) ?_
              refine tot_thri (R := R) (W := [97, 98, 99]) (Q := fun r_63 : Int32 => (((1 : Int32) : Int32).toInt ≤ r_63.toInt ∧ r_63.toInt ≤ ((999 : Int32) : Int32).toInt)) (cs_X3_number T_62 o (1 : Int32) (999 : Int32) h_T_62 k_o ) (fun r_63 T_64 i_T_64 y_T_64 d_r_63 => ?_) (fun k_ U_ i_ y_ => ⟨⟨i_, x_T_62.tr (y_.w (by decide))⟩, fun q_ => absurd q_ (Nat.succ_ne_zero k_)⟩)
              have h_T_64 : IV R B K1 K2 T_64 := i_T_64
              have x_T_64 := x_T_62.tr (y_T_64.w (by decide))
              replace d_r_63 : (((1 : Int32) : Int32).toInt ≤ r_63.toInt ∧ r_63.toInt ≤ ((999 : Int32) : Int32).toInt) := d_r_63
              refine tot_oif (iv_oO h_T_64 k_a0 (by decide) (by decide) rfl) ?_
              refine tot_let (fun T_65 e_T_65 => ?_)
              have h_T_65 : IV R B K1 K2 T_65 := by rw [e_T_65]; exact iv_uI (a := 0) (b := 999) h_T_64 k_a0 (by decide) (by decide) rfl (by omega) (.inl rfl)
              have x_T_65 := x_T_64.tr (fw_uI e_T_65 k_a0 (by decide))
              have f_T_65_o_1 : (T_65.2.2.1 o 1).toInt = (T_64.2.2.1 o 1).toInt := congrArg Int32.toInt ((fw_uI (W := [204]) e_T_65 k_a0 (by decide)) o 1 (by rw [k_o]; decide))
              unfold g_X3_parseLine_b209
              exact tot_some ⟨⟨h_T_65, x_T_65⟩, fun _ => (show (0 ≤ (0 : Int32).toInt ∧ (0 : Int32).toInt ≤ 0) from by omega)⟩
        · replace c_48 := i_ne c_48
          refine tot_oif (iv_oO h_T k_o (by decide) (by decide) rfl) ?_
          refine tot_thri (R := R) (W := [97, 98, 99, 203, 1760, 1792]) (Q := fun r_36 : Int32 => (0 ≤ r_36.toInt ∧ r_36.toInt ≤ 0)) (cs_X3_parseWall T o a0 h_T k_o k_a0 (by omega)) (fun r_36 T_37 i_T_37 y_T_37 d_r_36 => ?_) (fun k_ U_ i_ y_ => ⟨⟨i_, x_T.tr (y_.w (by decide))⟩, fun q_ => absurd q_ (Nat.succ_ne_zero k_)⟩)
          have h_T_37 : IV R B K1 K2 T_37 := i_T_37
          have x_T_37 := x_T.tr (y_T_37.w (by decide))
          replace d_r_36 : (0 ≤ r_36.toInt ∧ r_36.toInt ≤ 0) := d_r_36
          unfold g_X3_parseLine_b209
          exact tot_some ⟨⟨h_T_37, x_T_37⟩, fun _ => (show (0 ≤ (0 : Int32).toInt ∧ (0 : Int32).toInt ≤ 0) from by omega)⟩
      · replace c_47 := i_ne c_47
        refine tot_oif (iv_oO h_T k_o (by decide) (by decide) rfl) ?_
        refine tot_thri (R := R) (W := [97, 98, 99, 200, 224, 225, 226, 227, 228, 229, 230, 231, 232, 233]) (Q := fun r_38 : Int32 => (0 ≤ r_38.toInt ∧ r_38.toInt ≤ 0)) (cs_X3_parseSource T o a0 h_T k_o k_a0 (by omega)) (fun r_38 T_39 i_T_39 y_T_39 d_r_38 => ?_) (fun k_ U_ i_ y_ => ⟨⟨i_, x_T.tr (y_.w (by decide))⟩, fun q_ => absurd q_ (Nat.succ_ne_zero k_)⟩)
        have h_T_39 : IV R B K1 K2 T_39 := i_T_39
        have x_T_39 := x_T.tr (y_T_39.w (by decide))
        replace d_r_38 : (0 ≤ r_38.toInt ∧ r_38.toInt ≤ 0) := d_r_38
        unfold g_X3_parseLine_b209
        exact tot_some ⟨⟨h_T_39, x_T_39⟩, fun _ => (show (0 ≤ (0 : Int32).toInt ∧ (0 : Int32).toInt ≤ 0) from by omega)⟩
    · replace c_46 := i_ne c_46
      refine tot_oif (iv_oO h_T k_a0 (by decide) (by decide) rfl) ?_
      refine tot_ref h_T k_a0 (by decide) (by decide) (r2 := 1) (rfl : rtg 6 6 = 1) (by decide) (fun n_40 k_n_40 e_n_40 => ?_)
      refine tot_oif (iv_oO h_T k_o (by decide) (by decide) rfl) ?_
      refine tot_thri (R := R) (W := [32, 33, 34, 35, 36, 97, 98, 99, 1888]) (Q := fun r_41 : Int32 => (0 ≤ r_41.toInt ∧ r_41.toInt ≤ 0)) (cs_X3_parseMap T o n_40 h_T k_o k_n_40 (by omega)) (fun r_41 T_42 i_T_42 y_T_42 d_r_41 => ?_) (fun k_ U_ i_ y_ => ⟨⟨i_, x_T.tr (y_.w (by decide))⟩, fun q_ => absurd q_ (Nat.succ_ne_zero k_)⟩)
      have h_T_42 : IV R B K1 K2 T_42 := i_T_42
      have x_T_42 := x_T.tr (y_T_42.w (by decide))
      replace d_r_41 : (0 ≤ r_41.toInt ∧ r_41.toInt ≤ 0) := d_r_41
      unfold g_X3_parseLine_b209
      exact tot_some ⟨⟨h_T_42, x_T_42⟩, fun _ => (show (0 ≤ (0 : Int32).toInt ∧ (0 : Int32).toInt ≤ 0) from by omega)⟩
  · replace c_45 := i_ne c_45
    refine tot_oif (iv_oO h_T k_o (by decide) (by decide) rfl) ?_
    refine tot_thri (R := R) (W := [64, 65, 66, 67, 97, 98, 99, 197]) (Q := fun r_43 : Int32 => (0 ≤ r_43.toInt ∧ r_43.toInt ≤ 0)) (cs_X3_parseMic T o a0 h_T k_o k_a0 (by omega)) (fun r_43 T_44 i_T_44 y_T_44 d_r_43 => ?_) (fun k_ U_ i_ y_ => ⟨⟨i_, x_T.tr (y_.w (by decide))⟩, fun q_ => absurd q_ (Nat.succ_ne_zero k_)⟩)
    have h_T_44 : IV R B K1 K2 T_44 := i_T_44
    have x_T_44 := x_T.tr (y_T_44.w (by decide))
    replace d_r_43 : (0 ≤ r_43.toInt ∧ r_43.toInt ≤ 0) := d_r_43
    unfold g_X3_parseLine_b209
    exact tot_some ⟨⟨h_T_44, x_T_44⟩, fun _ => (show (0 ≤ (0 : Int32).toInt ∧ (0 : Int32).toInt ≤ 0) from by omega)⟩
set_option maxHeartbeats 4000000 in
set_option maxRecDepth 10000 in
theorem cl_X3_parse_b24 {R : Nat → Nat} {B K1 K2 : Nat} {Q : Nat × Int32 × AT → Prop} (l0 : Nat) (l2 : Nat) (T00 : AT) (k_l0 : R l0 = 3) (k_l2 : R l2 = 6) (hthr : ∀ (k : Nat) (U : AT), IV R B K1 K2 U → FW R [32, 33, 34, 35, 36, 39, 64, 65, 66, 67, 97, 98, 99, 192, 193, 194, 195, 197, 200, 203, 204, 206, 208, 224, 225, 226, 227, 228, 229, 230, 231, 232, 233, 293, 1344, 1376, 1408, 1760, 1792, 1824, 1856, 1888] T00 U → Q (k + 1, 0, U)) (hx0 : ∀ (T : AT), (IV R B K1 K2 T) → (FW R [32, 33, 34, 35, 36, 39, 64, 65, 66, 67, 97, 98, 99, 192, 193, 194, 195, 197, 200, 203, 204, 206, 208, 224, 225, 226, 227, 228, 229, 230, 231, 232, 233, 293, 1344, 1376, 1408, 1760, 1792, 1824, 1856, 1888] T00 T) → Tot (g_X3_parse_b81 T l0 l2) Q) : ∀ (n : Nat) (T : AT) (l3 : Int32), (IV R B K1 K2 T) → (FW R [32, 33, 34, 35, 36, 39, 64, 65, 66, 67, 97, 98, 99, 192, 193, 194, 195, 197, 200, 203, 204, 206, 208, 224, 225, 226, 227, 228, 229, 230, 231, 232, 233, 293, 1344, 1376, 1408, 1760, 1792, 1824, 1856, 1888] T00 T) → (0 ≤ l3.toInt ∧ l3.toInt ≤ 2455) → 2455 - l3.toInt < (n : Int) → Tot (g_X3_parse_b24 n T l0 l2 l3) Q := by
  have z0 : (5 : Int32).toInt = 5 := by decide
  have z1 : (4 : Int32).toInt = 4 := by decide
  have z2 : (1 : Int32).toInt = 1 := by decide
  have z3 : (Int32.ofInt (1) : Int32).toInt = 1 := by decide
  have z4 : ((1 : Int32) : Int32).toInt = 1 := by decide
  have cc_101 : cnt 101 = 1 := rfl
  have cc_102 : cnt 102 = 12 := rfl
  have cc_103 : cnt 103 = 144 := rfl
  have cc_104 : cnt 104 = 2400 := rfl
  have cc_105 : cnt 105 = 7200 := rfl
  intro n
  induction n with
  | zero =>
    intro T l3 h_T x_T g_l3 hm
    exfalso
    omega
  | succ n ih =>
    intro T l3 h_T x_T g_l3 hm
    unfold g_X3_parse_b24
    refine tot_oif (iv_oO h_T k_l0 (by decide) (by decide) rfl) ?_
    refine tot_ref h_T k_l0 (by decide) (by decide) (r2 := 9) (rfl : rtg 3 0 = 9) (by decide) (fun n_109 k_n_109 e_n_109 => ?_)
    refine tot_oif (iv_oO h_T k_n_109 (by decide) (by decide) rfl) ?_
    refine tot_let (fun v_110 e_v_110 => ?_)
    have r_v_110 : 0 ≤ v_110.toInt ∧ v_110.toInt ≤ 1001 := iv_int h_T k_n_109 (by decide) (by decide) e_v_110 rfl
    refine tot_if (fun c_118 => ?_) (fun c_118 => ?_)
    · replace c_118 := i_le c_118
      exact hx0 T h_T x_T
    · replace c_118 := i_nle c_118
      refine tot_oif (iv_oO h_T k_l0 (by decide) (by decide) rfl) ?_
      refine tot_bindq (R := fun r_111 : Int32 => (r_111.toInt = 5 ∨ (T.2.2.1 l0 1).toInt ≤ 1000)) (cs_X3_kind T l0 h_T k_l0 ) (fun r_111 d_r_111 => ?_)
      replace d_r_111 : (r_111.toInt = 5 ∨ (T.2.2.1 l0 1).toInt ≤ 1000) := d_r_111
      refine tot_if (fun c_119 => ?_) (fun c_119 => ?_)
      · replace c_119 := i_eq c_119
        exact hx0 T h_T x_T
      · replace c_119 := i_ne c_119
        refine tot_oif (iv_oO h_T k_l0 (by decide) (by decide) rfl) ?_
        refine tot_bindq (R := fun r_113 : Int32 => (r_113.toInt = 5 ∨ (T.2.2.1 l0 1).toInt ≤ 1000)) (cs_X3_kind T l0 h_T k_l0 ) (fun r_113 d_r_113 => ?_)
        replace d_r_113 : (r_113.toInt = 5 ∨ (T.2.2.1 l0 1).toInt ≤ 1000) := d_r_113
        refine tot_if (fun c_120 => ?_) (fun c_120 => ?_)
        · replace c_120 := i_eq c_120
          unfold g_X3_parse_b60
          refine tot_oif (iv_oO h_T k_l0 (by decide) (by decide) rfl) ?_
          refine tot_let (fun v_121 e_v_121 => ?_)
          have q_v_121 := i_eq e_v_121
          have r_v_121 : 0 ≤ v_121.toInt ∧ v_121.toInt ≤ 1001 := iv_int h_T k_l0 (by decide) (by decide) e_v_121 rfl
          refine tot_let (fun v_122 e_v_122 => ?_)
          have q_v_122 := i_add e_v_122 (by omega) (by omega)
          refine tot_oif (iv_oO h_T k_l0 (by decide) (by decide) rfl) ?_
          refine tot_let (fun T_123 e_T_123 => ?_)
          have h_T_123 : IV R B K1 K2 T_123 := by rw [e_T_123]; exact iv_uI (a := 0) (b := 1001) h_T k_l0 (by decide) (by decide) rfl (by omega) (.inl rfl)
          have x_T_123 := x_T.tr (fw_uI e_T_123 k_l0 (by decide))
          have f_T_123_l0_1 : (T_123.2.2.1 l0 1).toInt = (v_122 : Int32).toInt := by rw [e_T_123]; exact congrArg Int32.toInt (uI_at _ _ _ _)
          refine tot_oif (iv_oO h_T_123 k_l0 (by decide) (by decide) rfl) ?_
          refine tot_thri (R := R) (W := [32, 33, 34, 35, 36, 39, 64, 65, 66, 67, 97, 98, 99, 197, 200, 203, 204, 206, 208, 224, 225, 226, 227, 228, 229, 230, 231, 232, 233, 1760, 1792, 1824, 1856, 1888]) (Q := fun r_124 : Int32 => (0 ≤ r_124.toInt ∧ r_124.toInt ≤ 0)) (cs_X3_parseLine T_123 l0 l2 h_T_123 k_l0 k_l2 ) (fun r_124 T_125 i_T_125 y_T_125 d_r_124 => ?_) (fun k_ U_ i_ y_ => hthr _ _ i_ (x_T_123.tr (y_.w (by decide))))
          have h_T_125 : IV R B K1 K2 T_125 := i_T_125
          have x_T_125 := x_T_123.tr (y_T_125.w (by decide))
          replace d_r_124 : (0 ≤ r_124.toInt ∧ r_124.toInt ≤ 0) := d_r_124
          refine tot_let (fun v_126 e_v_126 => ?_)
          have q_v_126 := i_add e_v_126 (by omega) (by omega)
          exact ih T_125 v_126 h_T_125 x_T_125 (by omega) (by omega)
        · replace c_120 := i_ne c_120
          refine tot_oif (iv_oO h_T k_l0 (by decide) (by decide) rfl) ?_
          refine tot_let (fun v_115 e_v_115 => ?_)
          have q_v_115 := i_eq e_v_115
          have r_v_115 : 0 ≤ v_115.toInt ∧ v_115.toInt ≤ 1001 := iv_int h_T k_l0 (by decide) (by decide) e_v_115 rfl
          refine tot_oif (iv_oO h_T k_l0 (by decide) (by decide) rfl) ?_
          refine tot_thri (R := R) (W := [98, 99]) (Q := fun r_116 : Int32 => (False)) (cs_X3_failAt T l0 v_115 (1 : Int32) h_T k_l0 (by omega) (by omega)) (fun r_116 T_117 i_T_117 y_T_117 d_r_116 => ?_) (fun k_ U_ i_ y_ => hthr _ _ i_ (x_T.tr (y_.w (by decide))))
          have h_T_117 : IV R B K1 K2 T_117 := i_T_117
          have x_T_117 := x_T.tr (y_T_117.w (by decide))
          have f_T_117_l0_1 : (T_117.2.2.1 l0 1).toInt = (T.2.2.1 l0 1).toInt := congrArg Int32.toInt (y_T_117 l0 1 (by rw [k_l0]; decide))
          replace d_r_116 : (False) := d_r_116
          exact d_r_116.elim
set_option maxHeartbeats 4000000 in
set_option maxRecDepth 10000 in
theorem cs_X3_parse {R : Nat → Nat} {B K1 K2 : Nat} (T : AT) (o : Nat) (a0 : Int32) (a1 : Nat) (h_T : IV R B K1 K2 T) (k_o : R o = 3) (k_a1 : R a1 = 6) (g0 : 0 ≤ a0.toInt ∧ a0.toInt ≤ 1000) : Tot (g_X3_parse T o a0 a1) (fun r => (IV R B K1 K2 r.2.2 ∧ FW R [32, 33, 34, 35, 36, 39, 64, 65, 66, 67, 97, 98, 99, 192, 193, 194, 195, 197, 200, 203, 204, 206, 208, 224, 225, 226, 227, 228, 229, 230, 231, 232, 233, 293, 1344, 1376, 1408, 1760, 1792, 1824, 1856, 1888] T r.2.2) ∧ (r.1 = 0 → (0 ≤ r.2.1.toInt ∧ r.2.1.toInt ≤ 0))) := by
  have z0 : (0 : Int32).toInt = 0 := by decide
  have z1 : ((5 : Int32) : Int32).toInt = 5 := by decide
  have z2 : ((-1) : Int32).toInt = -1 := by decide
  have cc_101 : cnt 101 = 1 := rfl
  have cc_102 : cnt 102 = 12 := rfl
  have cc_103 : cnt 103 = 144 := rfl
  have cc_104 : cnt 104 = 2400 := rfl
  have cc_105 : cnt 105 = 7200 := rfl
  have x_T : FW R [32, 33, 34, 35, 36, 39, 64, 65, 66, 67, 97, 98, 99, 192, 193, 194, 195, 197, 200, 203, 204, 206, 208, 224, 225, 226, 227, 228, 229, 230, 231, 232, 233, 293, 1344, 1376, 1408, 1760, 1792, 1824, 1856, 1888] T T := FW.rf
  have j_a0 := i_any a0
  unfold g_X3_parse
  refine tot_oif (iv_oO h_T k_o (by decide) (by decide) rfl) ?_
  refine tot_ref h_T k_o (by decide) (by decide) (r2 := 9) (rfl : rtg 3 0 = 9) (by decide) (fun n_1 k_n_1 e_n_1 => ?_)
  refine tot_oif (iv_oO h_T k_n_1 (by decide) (by decide) rfl) ?_
  refine tot_bind (cs_X9_cut T n_1 a0 h_T k_n_1 (by omega)) (fun T_2 d_T_2 => ?_)
  have h_T_2 : IV R B K1 K2 T_2 := d_T_2.1
  have y_T_2 : FW R [293, 1344, 1376, 1408] T T_2 := d_T_2.2
  have x_T_2 := x_T.tr (y_T_2.w (by decide))
  have f_T_2_o_1 : (T_2.2.2.1 o 1).toInt = (T.2.2.1 o 1).toInt := congrArg Int32.toInt (y_T_2 o 1 (by rw [k_o]; decide))
  refine tot_oif (iv_oO h_T_2 k_o (by decide) (by decide) rfl) ?_
  refine tot_let (fun T_3 e_T_3 => ?_)
  have h_T_3 : IV R B K1 K2 T_3 := by rw [e_T_3]; exact iv_uI (a := 0) (b := 1001) h_T_2 k_o (by decide) (by decide) rfl (by omega) (.inl rfl)
  have x_T_3 := x_T_2.tr (fw_uI e_T_3 k_o (by decide))
  have f_T_3_o_1 : (T_3.2.2.1 o 1).toInt = (0 : Int32).toInt := by rw [e_T_3]; exact congrArg Int32.toInt (uI_at _ _ _ _)
  refine tot_oif (iv_oO h_T_3 k_a1 (by decide) (by decide) rfl) ?_
  refine tot_bind (cs_X6_clear T_3 a1 h_T_3 k_a1 ) (fun T_4 d_T_4 => ?_)
  have h_T_4 : IV R B K1 K2 T_4 := d_T_4.1
  have y_T_4 : FW R [35, 36, 39, 197, 200, 203, 204, 206, 208] T_3 T_4 := d_T_4.2
  have x_T_4 := x_T_3.tr (y_T_4.w (by decide))
  have f_T_4_o_1 : (T_4.2.2.1 o 1).toInt = (T_3.2.2.1 o 1).toInt := congrArg Int32.toInt (y_T_4 o 1 (by rw [k_o]; decide))
  refine tot_oif (iv_oO h_T_4 k_o (by decide) (by decide) rfl) ?_
  refine tot_thri (R := R) (W := [97, 98, 99, 192, 193, 194, 195]) (Q := fun r_5 : Int32 => (0 ≤ r_5.toInt ∧ r_5.toInt ≤ 0)) (cs_X3_parseHead T_4 o a1 h_T_4 k_o k_a1 ) (fun r_5 T_6 i_T_6 y_T_6 d_r_5 => ?_) (fun k_ U_ i_ y_ => ⟨⟨i_, x_T_4.tr (y_.w (by decide))⟩, fun q_ => absurd q_ (Nat.succ_ne_zero k_)⟩)
  have h_T_6 : IV R B K1 K2 T_6 := i_T_6
  have x_T_6 := x_T_4.tr (y_T_6.w (by decide))
  replace d_r_5 : (0 ≤ r_5.toInt ∧ r_5.toInt ≤ 0) := d_r_5
  refine cl_X3_parse_b24 o a1 T k_o k_a1 (fun k_ U_ i_ x_ => ⟨⟨i_, x_⟩, fun q_ => absurd q_ (Nat.succ_ne_zero k_)⟩) ?_ 16384 T_6 0 h_T_6 x_T_6 (by omega) (by omega)
  · intro T_127 h_T_127 x_T_127
    unfold g_X3_parse_b81
    refine tot_oif (iv_oO h_T_127 k_a1 (by decide) (by decide) rfl) ?_
    refine tot_let (fun v_128 e_v_128 => ?_)
    have r_v_128 : 0 ≤ v_128.toInt ∧ v_128.toInt ≤ 12 := iv_int h_T_127 k_a1 (by decide) (by decide) e_v_128 rfl
    refine tot_if (fun c_131 => ?_) (fun c_131 => ?_)
    · replace c_131 := i_eq c_131
      unfold g_X3_parse_b98
      refine tot_oif (iv_oO h_T_127 k_o (by decide) (by decide) rfl) ?_
      refine tot_let (fun v_132 e_v_132 => ?_)
      have q_v_132 := i_eq e_v_132
      have r_v_132 : 0 ≤ v_132.toInt ∧ v_132.toInt ≤ 1001 := iv_int h_T_127 k_o (by decide) (by decide) e_v_132 rfl
      refine tot_oif (iv_oO h_T_127 k_o (by decide) (by decide) rfl) ?_
      refine tot_thri (R := R) (W := [98, 99]) (Q := fun r_133 : Int32 => (False)) (cs_X3_failAt T_127 o v_132 (5 : Int32) h_T_127 k_o (by omega) (by omega)) (fun r_133 T_134 i_T_134 y_T_134 d_r_133 => ?_) (fun k_ U_ i_ y_ => ⟨⟨i_, x_T_127.tr (y_.w (by decide))⟩, fun q_ => absurd q_ (Nat.succ_ne_zero k_)⟩)
      have h_T_134 : IV R B K1 K2 T_134 := i_T_134
      have x_T_134 := x_T_127.tr (y_T_134.w (by decide))
      have f_T_134_o_1 : (T_134.2.2.1 o 1).toInt = (T_127.2.2.1 o 1).toInt := congrArg Int32.toInt (y_T_134 o 1 (by rw [k_o]; decide))
      replace d_r_133 : (False) := d_r_133
      exact d_r_133.elim
    · replace c_131 := i_ne c_131
      refine tot_oif (iv_oO h_T_127 k_a1 (by decide) (by decide) rfl) ?_
      refine tot_ref h_T_127 k_a1 (by decide) (by decide) (r2 := 1) (rfl : rtg 6 6 = 1) (by decide) (fun n_129 k_n_129 e_n_129 => ?_)
      refine tot_oif (iv_oO h_T_127 k_n_129 (by decide) (by decide) rfl) ?_
      refine tot_let (fun v_130 e_v_130 => ?_)
      have r_v_130 : 0 ≤ v_130.toInt ∧ v_130.toInt ≤ 12 := iv_int h_T_127 k_n_129 (by decide) (by decide) e_v_130 rfl
      refine tot_if (fun c_135 => ?_) (fun c_135 => ?_)
      · replace c_135 := i_eq c_135
        unfold g_X3_parse_b98
        refine tot_oif (iv_oO h_T_127 k_o (by decide) (by decide) rfl) ?_
        refine tot_let (fun v_136 e_v_136 => ?_)
        have q_v_136 := i_eq e_v_136
        have r_v_136 : 0 ≤ v_136.toInt ∧ v_136.toInt ≤ 1001 := iv_int h_T_127 k_o (by decide) (by decide) e_v_136 rfl
        refine tot_oif (iv_oO h_T_127 k_o (by decide) (by decide) rfl) ?_
        refine tot_thri (R := R) (W := [98, 99]) (Q := fun r_137 : Int32 => (False)) (cs_X3_failAt T_127 o v_136 (5 : Int32) h_T_127 k_o (by omega) (by omega)) (fun r_137 T_138 i_T_138 y_T_138 d_r_137 => ?_) (fun k_ U_ i_ y_ => ⟨⟨i_, x_T_127.tr (y_.w (by decide))⟩, fun q_ => absurd q_ (Nat.succ_ne_zero k_)⟩)
        have h_T_138 : IV R B K1 K2 T_138 := i_T_138
        have x_T_138 := x_T_127.tr (y_T_138.w (by decide))
        have f_T_138_o_1 : (T_138.2.2.1 o 1).toInt = (T_127.2.2.1 o 1).toInt := congrArg Int32.toInt (y_T_138 o 1 (by rw [k_o]; decide))
        replace d_r_137 : (False) := d_r_137
        exact d_r_137.elim
      · replace c_135 := i_ne c_135
        unfold g_X3_parse_b107
        refine tot_oif (iv_oO h_T_127 k_o (by decide) (by decide) rfl) ?_
        refine tot_let (fun T_139 e_T_139 => ?_)
        have h_T_139 : IV R B K1 K2 T_139 := by rw [e_T_139]; exact iv_uI (a := 0) (b := 6) h_T_127 k_o (by decide) (by decide) rfl (by omega) (.inl rfl)
        have x_T_139 := x_T_127.tr (fw_uI e_T_139 k_o (by decide))
        have f_T_139_o_1 : (T_139.2.2.1 o 1).toInt = (T_127.2.2.1 o 1).toInt := congrArg Int32.toInt ((fw_uI (W := [98]) e_T_139 k_o (by decide)) o 1 (by rw [k_o]; decide))
        refine tot_oif (iv_oO h_T_139 k_o (by decide) (by decide) rfl) ?_
        refine tot_let (fun T_140 e_T_140 => ?_)
        have h_T_140 : IV R B K1 K2 T_140 := by rw [e_T_140]; exact iv_uI (a := -2147483648) (b := 2147483647) h_T_139 k_o (by decide) (by decide) rfl (by omega) (.inl rfl)
        have x_T_140 := x_T_139.tr (fw_uI e_T_140 k_o (by decide))
        have f_T_140_o_1 : (T_140.2.2.1 o 1).toInt = (T_139.2.2.1 o 1).toInt := congrArg Int32.toInt ((fw_uI (W := [99]) e_T_140 k_o (by decide)) o 1 (by rw [k_o]; decide))
        exact tot_some ⟨⟨h_T_140, x_T_140⟩, fun _ => (show (0 ≤ (0 : Int32).toInt ∧ (0 : Int32).toInt ≤ 0) from by omega)⟩
set_option maxHeartbeats 4000000 in
set_option maxRecDepth 10000 in
theorem cl_X4_standsOut_b24 {R : Nat → Nat} {B K1 K2 : Nat} {Q : Int32 × AT → Prop} {k11 : AT → Nat → Int32 → Nat → Nat → Int32 → Option (Int32 × AT)} (l0 : Nat) (l1 : Int32) (l2 : Nat) (l3 : Nat) (l4 : Int32) (T00 : AT) (k_l0 : R l0 = 4) (k_l2 : R l2 = 1) (k_l3 : R l3 = 61) (g0 : 0 ≤ l1.toInt ∧ l1.toInt ≤ 143) (g1 : 0 ≤ l4.toInt ∧ l4.toInt ≤ 11) (hx0 : ∀ (T : AT), (IV R B K1 K2 T) → (FW R [1952] T00 T) → Tot (elet (l4 + Int32.ofInt (1)) fun v_56 => k11 T l0 l1 l2 l3 v_56) Q) (hx1 : ∀ (T : AT), (IV R B K1 K2 T) → (FW R [1952] T00 T) → Tot (some (0, T)) Q) : ∀ (n : Nat) (T : AT) (l5 : Int32), (IV R B K1 K2 T) → (FW R [1952] T00 T) → (0 ≤ l5.toInt ∧ l5.toInt ≤ 143) → 143 - l5.toInt < (n : Int) → Tot (g_X4_standsOut_b24 k11 n T l0 l1 l2 l3 l4 l5) Q := by
  have z0 : (2 : Int32).toInt = 2 := by decide
  have z1 : (Int32.ofInt (1) : Int32).toInt = 1 := by decide
  have z2 : (0 : Int32).toInt = 0 := by decide
  have cc_101 : cnt 101 = 1 := rfl
  have cc_102 : cnt 102 = 12 := rfl
  have cc_103 : cnt 103 = 144 := rfl
  have cc_104 : cnt 104 = 2400 := rfl
  have cc_105 : cnt 105 = 7200 := rfl
  have j_l1 := i_any l1
  have j_l4 := i_any l4
  intro n
  induction n with
  | zero =>
    intro T l5 h_T x_T g_l5 hm
    exfalso
    omega
  | succ n ih =>
    intro T l5 h_T x_T g_l5 hm
    unfold g_X4_standsOut_b24
    refine tot_oif (iv_aA h_T k_l3 (by decide) (by decide) rfl rfl) ?_
    refine tot_oif (by rw [iv_len h_T k_l3 (by decide) (by decide) (rfl : shp 61 = (100, 4))]; exact i_inb (by omega) (by omega)) ?_
    refine tot_let (fun v_55 e_v_55 => ?_)
    have r_v_55 : -1 ≤ v_55.toInt ∧ v_55.toInt ≤ 11 := iv_int h_T k_l3 (by decide) (by decide) e_v_55 (by decide)
    refine tot_if (fun c_63 => ?_) (fun c_63 => ?_)
    · replace c_63 := i_lt c_63
      exact hx0 T h_T x_T
    · replace c_63 := i_nlt c_63
      refine tot_oif (iv_oO h_T k_l2 (by decide) (by decide) rfl) ?_
      refine tot_let (fun v_57 e_v_57 => ?_)
      have r_v_57 : 0 ≤ v_57.toInt ∧ v_57.toInt ≤ 12 := iv_int h_T k_l2 (by decide) (by decide) e_v_57 rfl
      refine tot_let (fun v_58 e_v_58 => ?_)
      have q_v_58 := i_mulp (a := 0) (b := 11) (c := 0) (d := 12) e_v_58 (by omega) (by omega) (by omega) (by omega) (by decide)
      refine tot_let (fun v_59 e_v_59 => ?_)
      have q_v_59 := i_add e_v_59 (by omega) (by omega)
      refine tot_if (fun c_64 => ?_) (fun c_64 => ?_)
      · replace c_64 := i_eq c_64
        unfold g_X4_standsOut_b65
        refine tot_let (fun v_65 e_v_65 => ?_)
        have q_v_65 := i_add e_v_65 (by omega) (by omega)
        exact ih T v_65 h_T x_T (by omega) (by omega)
      · replace c_64 := i_ne c_64
        refine tot_oif (iv_oO h_T k_l0 (by decide) (by decide) rfl) ?_
        refine tot_ref h_T k_l0 (by decide) (by decide) (r2 := 103) (rfl : rtg 4 1 = 103) (by decide) (fun n_60 k_n_60 e_n_60 => ?_)
        refine tot_oif (w_oO h_T k_n_60 (rfl : isW 103 = true)) ?_
        refine tot_bindq (R := fun r_61 : Int32 => True) (c_compare (a0 := v_59) (a1 := l1) k_n_60 (rfl : isW 103 = true) h_T (by omega) (by omega)) (fun r_61 d_r_61 => ?_)
        have r_r_61 := i_any r_61
        refine tot_if (fun c_66 => ?_) (fun c_66 => ?_)
        · replace c_66 := i_lt c_66
          unfold g_X4_standsOut_b65
          refine tot_let (fun v_67 e_v_67 => ?_)
          have q_v_67 := i_add e_v_67 (by omega) (by omega)
          exact ih T v_67 h_T x_T (by omega) (by omega)
        · replace c_66 := i_nlt c_66
          exact hx1 T h_T x_T
set_option maxHeartbeats 4000000 in
set_option maxRecDepth 10000 in
theorem cl_X4_standsOut_b11 {R : Nat → Nat} {B K1 K2 : Nat} {Q : Int32 × AT → Prop} (l0 : Nat) (l1 : Int32) (l2 : Nat) (l3 : Nat) (T00 : AT) (k_l0 : R l0 = 4) (k_l2 : R l2 = 1) (k_l3 : R l3 = 61) (g0 : 0 ≤ l1.toInt ∧ l1.toInt ≤ 143) (hx0 : ∀ (T : AT), (IV R B K1 K2 T) → (FW R [1952] T00 T) → Tot (some (1, T)) Q) (hx1 : ∀ (T_70 : AT), (IV R B K1 K2 T_70) → (FW R [1952] T00 T_70) → Tot (some (0, T_70)) Q) : ∀ (n : Nat) (T : AT) (l4 : Int32), (IV R B K1 K2 T) → (FW R [1952] T00 T) → (0 ≤ l4.toInt ∧ l4.toInt ≤ 143) → 143 - l4.toInt < (n : Int) → Tot (g_X4_standsOut_b11 n T l0 l1 l2 l3 l4) Q := by
  have z0 : (3 : Int32).toInt = 3 := by decide
  have z1 : (0 : Int32).toInt = 0 := by decide
  have z2 : (Int32.ofInt (1) : Int32).toInt = 1 := by decide
  have cc_101 : cnt 101 = 1 := rfl
  have cc_102 : cnt 102 = 12 := rfl
  have cc_103 : cnt 103 = 144 := rfl
  have cc_104 : cnt 104 = 2400 := rfl
  have cc_105 : cnt 105 = 7200 := rfl
  have j_l1 := i_any l1
  intro n
  induction n with
  | zero =>
    intro T l4 h_T x_T g_l4 hm
    exfalso
    omega
  | succ n ih =>
    intro T l4 h_T x_T g_l4 hm
    unfold g_X4_standsOut_b11
    refine tot_oif (iv_aA h_T k_l3 (by decide) (by decide) rfl rfl) ?_
    refine tot_oif (by rw [iv_len h_T k_l3 (by decide) (by decide) (rfl : shp 61 = (100, 4))]; exact i_inb (by omega) (by omega)) ?_
    refine tot_let (fun v_42 e_v_42 => ?_)
    have r_v_42 : -1 ≤ v_42.toInt ∧ v_42.toInt ≤ 11 := iv_int h_T k_l3 (by decide) (by decide) e_v_42 (by decide)
    refine tot_if (fun c_44 => ?_) (fun c_44 => ?_)
    · replace c_44 := i_lt c_44
      exact hx0 T h_T x_T
    · replace c_44 := i_nlt c_44
      refine tot_oif (iv_aA h_T k_l3 (by decide) (by decide) rfl rfl) ?_
      refine tot_oif (by rw [iv_len h_T k_l3 (by decide) (by decide) (rfl : shp 61 = (100, 4))]; exact i_inb (by omega) (by omega)) ?_
      refine tot_let (fun v_43 e_v_43 => ?_)
      have r_v_43 : 0 ≤ v_43.toInt ∧ v_43.toInt ≤ 143 := iv_int h_T k_l3 (by decide) (by decide) e_v_43 (by decide)
      refine cl_X4_standsOut_b24 l0 l1 l2 l3 l4 T00 k_l0 k_l2 k_l3 (by omega) (by omega) ?_ ?_ 16384 T v_43 h_T x_T (by omega) (by omega)
      · intro T_68 h_T_68 x_T_68
        refine tot_let (fun v_69 e_v_69 => ?_)
        have q_v_69 := i_add e_v_69 (by omega) (by omega)
        exact ih T_68 v_69 h_T_68 x_T_68 (by omega) (by omega)
      · intro T_70 h_T_70 x_T_70
        exact hx1 T_70 h_T_70 x_T_70
set_option maxHeartbeats 4000000 in
set_option maxRecDepth 10000 in
theorem cs_X4_standsOut {R : Nat → Nat} {B K1 K2 : Nat} (T : AT) (o : Nat) (a0 : Int32) (a1 : Nat) (h_T : IV R B K1 K2 T) (k_o : R o = 4) (k_a1 : R a1 = 1) (g0 : 0 ≤ a0.toInt ∧ a0.toInt ≤ 143) : Tot (g_X4_standsOut T o a0 a1) (fun r => (IV R B K1 K2 r.2 ∧ FW R [1952] T r.2) ∧ (0 ≤ r.1.toInt ∧ r.1.toInt ≤ 1)) := by
  have z0 : (1 : Int32).toInt = 1 := by decide
  have z1 : (0 : Int32).toInt = 0 := by decide
  have cc_101 : cnt 101 = 1 := rfl
  have cc_102 : cnt 102 = 12 := rfl
  have cc_103 : cnt 103 = 144 := rfl
  have cc_104 : cnt 104 = 2400 := rfl
  have cc_105 : cnt 105 = 7200 := rfl
  have x_T : FW R [1952] T T := FW.rf
  have j_a0 := i_any a0
  unfold g_X4_standsOut
  refine tot_oif (iv_oO h_T k_a1 (by decide) (by decide) rfl) ?_
  refine tot_bind2 (cs_X1_areaAround T a1 a0 h_T k_a1 (by omega)) (fun n_1 T_2 d_n_1 => ?_)
  have h_T_2 : IV R B K1 K2 T_2 := d_n_1.1.1
  have y_T_2 : FW R [1952] T T_2 := d_n_1.1.2
  have x_T_2 := x_T.tr (y_T_2.w (by decide))
  have k_n_1 : R n_1 = 61 := d_n_1.2.1
  have ao_n_1 : AO a1 T_2 n_1 := d_n_1.2.2
  refine tot_oif (iv_aA h_T_2 k_n_1 (by decide) (by decide) rfl rfl) ?_
  refine tot_oif (by rw [iv_len h_T_2 k_n_1 (by decide) (by decide) (rfl : shp 61 = (100, 4))]; exact i_inb (by omega) (by omega)) ?_
  refine tot_let (fun v_3 e_v_3 => ?_)
  have r_v_3 : 0 ≤ v_3.toInt ∧ v_3.toInt ≤ 143 := iv_int h_T_2 k_n_1 (by decide) (by decide) e_v_3 (by decide)
  refine cl_X4_standsOut_b11 o a0 a1 n_1 T k_o k_a1 k_n_1 (by omega) ?_ ?_ 16384 T_2 v_3 h_T_2 x_T_2 (by omega) (by omega)
  · intro T_71 h_T_71 x_T_71
    exact tot_some ⟨⟨h_T_71, x_T_71⟩, (show (0 ≤ (1 : Int32).toInt ∧ (1 : Int32).toInt ≤ 1) from by omega)⟩
  · intro T_72 h_T_72 x_T_72
    exact tot_some ⟨⟨h_T_72, x_T_72⟩, (show (0 ≤ (0 : Int32).toInt ∧ (0 : Int32).toInt ≤ 1) from by omega)⟩
set_option maxHeartbeats 4000000 in
set_option maxRecDepth 10000 in
theorem cl_X4_measure_b16 {R : Nat → Nat} {B K1 K2 : Nat} {Q : AT → Prop} (l0 : Nat) (l1 : Nat) (l2 : Nat) (T00 : AT) (k_l0 : R l0 = 4) (k_l1 : R l1 = 6) (k_l2 : R l2 = 8) (hx0 : ∀ (T : AT), (IV R B K1 K2 T) → (FW R [130, 131, 1952, 2144, 3202] T00 T) → Tot (oif (oO T l1 6 = true) <| obind (T.2.2.2.2 l1 6) fun n_102 => oif (oO T l1 6 = true) <| obind (T.2.2.2.2 l1 6) fun n_103 => oif (oO T n_103 1 = true) <| obind (T.2.2.2.2 n_103 5) fun n_104 => oif (oO T l0 4 = true) <| obind (T.2.2.2.2 l0 1) fun n_105 => oif (oO T n_102 1 = true) <| obind2 (g_X1_bestIn T n_102 n_104 n_105 (0 : Int32)) fun r_106 T_107 => oif (oO T_107 l0 4 = true) <| elet (uI T_107 l0 2 r_106) fun T_108 => oif (oO T_108 l0 4 = true) <| elet (uI T_108 l0 3 0) fun T_109 => g_X4_measure_b89 16384 T_109 l0 l1 0) Q) : ∀ (n : Nat) (T : AT) (l3 : Int32), (IV R B K1 K2 T) → (FW R [130, 131, 1952, 2144, 3202] T00 T) → (0 ≤ l3.toInt ∧ l3.toInt ≤ 144) → 144 - l3.toInt < (n : Int) → Tot (g_X4_measure_b16 n T l0 l1 l2 l3) Q := by
  have z0 : ((0 : Int32) : Int32).toInt = 0 := by decide
  have z1 : (Int32.ofInt (1) : Int32).toInt = 1 := by decide
  have cc_101 : cnt 101 = 1 := rfl
  have cc_102 : cnt 102 = 12 := rfl
  have cc_103 : cnt 103 = 144 := rfl
  have cc_104 : cnt 104 = 2400 := rfl
  have cc_105 : cnt 105 = 7200 := rfl
  intro n
  induction n with
  | zero =>
    intro T l3 h_T x_T g_l3 hm
    exfalso
    omega
  | succ n ih =>
    intro T l3 h_T x_T g_l3 hm
    unfold g_X4_measure_b16
    refine tot_oif (iv_oO h_T k_l1 (by decide) (by decide) rfl) ?_
    refine tot_ref h_T k_l1 (by decide) (by decide) (r2 := 1) (rfl : rtg 6 6 = 1) (by decide) (fun n_99 k_n_99 e_n_99 => ?_)
    refine tot_oif (iv_oO h_T k_n_99 (by decide) (by decide) rfl) ?_
    refine tot_bindq (R := fun r_100 : Int32 => (0 ≤ r_100.toInt ∧ r_100.toInt ≤ 144)) (cs_X1_cells T n_99 h_T k_n_99 ) (fun r_100 d_r_100 => ?_)
    replace d_r_100 : (0 ≤ r_100.toInt ∧ r_100.toInt ≤ 144) := d_r_100
    refine tot_if (fun c_116 => ?_) (fun c_116 => ?_)
    · replace c_116 := i_le c_116
      exact hx0 T h_T x_T
    · replace c_116 := i_nle c_116
      refine tot_oif (iv_oO h_T k_l1 (by decide) (by decide) rfl) ?_
      refine tot_ref h_T k_l1 (by decide) (by decide) (r2 := 51) (rfl : rtg 6 17 = 51) (by decide) (fun n_110 k_n_110 e_n_110 => ?_)
      refine tot_oif (iv_aA h_T k_n_110 (by decide) (by decide) rfl rfl) ?_
      refine tot_oif (by rw [iv_len h_T k_n_110 (by decide) (by decide) (rfl : shp 51 = (106, 144))]; exact i_inb (by omega) (by omega)) ?_
      refine tot_ref h_T k_n_110 (by decide) (by decide) (r2 := 50) (rt_51 (by omega) (by omega)) (by decide) (fun n_111 k_n_111 e_n_111 => ?_)
      refine tot_oif (iv_oO h_T k_l2 (by decide) (by decide) rfl) ?_
      refine tot_bindq (R := fun r_112 : Int32 => (0 ≤ r_112.toInt ∧ r_112.toInt ≤ 200)) (cs_X8_windowOf T l2 n_111 h_T k_l2 k_n_111 ) (fun r_112 d_r_112 => ?_)
      replace d_r_112 : (0 ≤ r_112.toInt ∧ r_112.toInt ≤ 200) := d_r_112
      refine tot_oif (iv_oO h_T k_l0 (by decide) (by decide) rfl) ?_
      refine tot_ref h_T k_l0 (by decide) (by decide) (r2 := 103) (rfl : rtg 4 1 = 103) (by decide) (fun n_114 k_n_114 e_n_114 => ?_)
      refine tot_oif (iv_oO h_T k_l2 (by decide) (by decide) rfl) ?_
      refine tot_bind (cs_X8_blockPowerOf T l2 n_111 (0 : Int32) r_112 n_114 l3 h_T k_l2 k_n_111 k_n_114 (rfl : isW 103 = true) (by omega) (by omega) (by omega) (by omega)) (fun T_115 d_T_115 => ?_)
      have h_T_115 : IV R B K1 K2 T_115 := d_T_115.1
      have y_T_115 : FW R [3202] T T_115 := d_T_115.2
      have x_T_115 := x_T.tr (y_T_115.w (by decide))
      have f_T_115_l0_3 : (T_115.2.2.1 l0 3).toInt = (T.2.2.1 l0 3).toInt := congrArg Int32.toInt (y_T_115 l0 3 (by rw [k_l0]; decide))
      unfold g_X4_measure_b53
      refine tot_let (fun v_117 e_v_117 => ?_)
      have q_v_117 := i_add e_v_117 (by omega) (by omega)
      exact ih T_115 v_117 h_T_115 x_T_115 (by omega) (by omega)
set_option maxHeartbeats 4000000 in
set_option maxRecDepth 10000 in
theorem cl_X4_measure_b89 {R : Nat → Nat} {B K1 K2 : Nat} {Q : AT → Prop} (l0 : Nat) (l1 : Nat) (T00 : AT) (k_l0 : R l0 = 4) (k_l1 : R l1 = 6) (hx0 : ∀ (T : AT), (IV R B K1 K2 T) → (FW R [130, 131, 1952, 2144, 3202] T00 T) → Tot (some (T)) Q) : ∀ (n : Nat) (T : AT) (l3 : Int32), (IV R B K1 K2 T) → (FW R [130, 131, 1952, 2144, 3202] T00 T) → (0 ≤ l3.toInt ∧ l3.toInt ≤ 144) → ((T.2.2.1 l0 3).toInt ≤ l3.toInt) → 144 - l3.toInt < (n : Int) → Tot (g_X4_measure_b89 n T l0 l1 l3) Q := by
  have z0 : (0 : Int32).toInt = 0 := by decide
  have z1 : (Int32.ofInt (1) : Int32).toInt = 1 := by decide
  have z2 : (1 : Int32).toInt = 1 := by decide
  have cc_101 : cnt 101 = 1 := rfl
  have cc_102 : cnt 102 = 12 := rfl
  have cc_103 : cnt 103 = 144 := rfl
  have cc_104 : cnt 104 = 2400 := rfl
  have cc_105 : cnt 105 = 7200 := rfl
  intro n
  induction n with
  | zero =>
    intro T l3 h_T x_T g_l3 gi_0 hm
    exfalso
    omega
  | succ n ih =>
    intro T l3 h_T x_T g_l3 gi_0 hm
    unfold g_X4_measure_b89
    refine tot_oif (iv_oO h_T k_l1 (by decide) (by decide) rfl) ?_
    refine tot_ref h_T k_l1 (by decide) (by decide) (r2 := 1) (rfl : rtg 6 6 = 1) (by decide) (fun n_145 k_n_145 e_n_145 => ?_)
    refine tot_oif (iv_oO h_T k_n_145 (by decide) (by decide) rfl) ?_
    refine tot_bindq (R := fun r_146 : Int32 => (0 ≤ r_146.toInt ∧ r_146.toInt ≤ 144)) (cs_X1_cells T n_145 h_T k_n_145 ) (fun r_146 d_r_146 => ?_)
    replace d_r_146 : (0 ≤ r_146.toInt ∧ r_146.toInt ≤ 144) := d_r_146
    refine tot_if (fun c_158 => ?_) (fun c_158 => ?_)
    · replace c_158 := i_le c_158
      exact hx0 T h_T x_T
    · replace c_158 := i_nle c_158
      refine tot_oif (iv_oO h_T k_l1 (by decide) (by decide) rfl) ?_
      refine tot_ref1 e_n_145 ?_
      refine tot_oif (iv_oO h_T k_l0 (by decide) (by decide) rfl) ?_
      refine tot_bind2 (cs_X4_standsOut T l0 l3 n_145 h_T k_l0 k_n_145 (by omega)) (fun r_149 T_150 d_r_149 => ?_)
      have h_T_150 : IV R B K1 K2 T_150 := d_r_149.1.1
      have y_T_150 : FW R [1952] T T_150 := d_r_149.1.2
      have x_T_150 := x_T.tr (y_T_150.w (by decide))
      have f_T_150_l0_3 : (T_150.2.2.1 l0 3).toInt = (T.2.2.1 l0 3).toInt := congrArg Int32.toInt (y_T_150 l0 3 (by rw [k_l0]; decide))
      replace d_r_149 : (0 ≤ r_149.toInt ∧ r_149.toInt ≤ 1) := d_r_149.2
      refine tot_if (fun c_159 => ?_) (fun c_159 => ?_)
      · replace c_159 := i_eq c_159
        unfold g_X4_measure_b148
        refine tot_let (fun v_160 e_v_160 => ?_)
        have q_v_160 := i_add e_v_160 (by omega) (by omega)
        exact ih T_150 v_160 h_T_150 x_T_150 (by omega) (by omega) (by omega)
      · replace c_159 := i_ne c_159
        refine tot_oif (iv_oO h_T_150 k_l0 (by decide) (by decide) rfl) ?_
        refine tot_ref h_T_150 k_l0 (by decide) (by decide) (r2 := 67) (rfl : rtg 4 4 = 67) (by decide) (fun n_151 k_n_151 e_n_151 => ?_)
        refine tot_oif (iv_oO h_T_150 k_l0 (by decide) (by decide) rfl) ?_
        refine tot_let (fun v_152 e_v_152 => ?_)
        have q_v_152 := i_eq e_v_152
        have r_v_152 : 0 ≤ v_152.toInt ∧ v_152.toInt ≤ 144 := iv_int h_T_150 k_l0 (by decide) (by decide) e_v_152 rfl
        refine tot_oif (iv_aA h_T_150 k_n_151 (by decide) (by decide) rfl rfl) ?_
        refine tot_oif (by rw [iv_len h_T_150 k_n_151 (by decide) (by decide) (rfl : shp 67 = (100, 144))]; exact i_inb (by omega) (by omega)) ?_
        refine tot_let (fun T_153 e_T_153 => ?_)
        have h_T_153 : IV R B K1 K2 T_153 := by rw [e_T_153]; exact iv_uI (a := 0) (b := 143) h_T_150 k_n_151 (by decide) (by decide) rfl (by omega) (.inl rfl)
        have x_T_153 := x_T_150.tr (fw_uA e_T_153 k_n_151 rfl rfl (by decide))
        have f_T_153_l0_3 : (T_153.2.2.1 l0 3).toInt = (T_150.2.2.1 l0 3).toInt := congrArg Int32.toInt ((fw_uA (W := [2144]) e_T_153 k_n_151 rfl rfl (by decide)) l0 3 (by rw [k_l0]; decide))
        refine tot_oif (iv_oO h_T_153 k_l0 (by decide) (by decide) rfl) ?_
        refine tot_ref h_T_153 k_l0 (by decide) (by decide) (r2 := 103) (rfl : rtg 4 5 = 103) (by decide) (fun n_154 k_n_154 e_n_154 => ?_)
        refine tot_oif (iv_oO h_T_153 k_l0 (by decide) (by decide) rfl) ?_
        refine tot_let (fun v_155 e_v_155 => ?_)
        have q_v_155 := i_eq e_v_155
        have r_v_155 : 0 ≤ v_155.toInt ∧ v_155.toInt ≤ 144 := iv_int h_T_153 k_l0 (by decide) (by decide) e_v_155 rfl
        refine tot_oif (iv_oO h_T_153 k_l0 (by decide) (by decide) rfl) ?_
        refine tot_ref h_T_153 k_l0 (by decide) (by decide) (r2 := 103) (rfl : rtg 4 1 = 103) (by decide) (fun n_156 k_n_156 e_n_156 => ?_)
        refine tot_oif (w_oO h_T_153 k_n_154 (rfl : isW 103 = true)) ?_
        refine tot_bind (c_set (a0 := v_155) (a2 := l3) k_n_154 (rfl : isW 103 = true) k_n_156 (rfl : isW 103 = true) h_T_153 (by omega) (by omega)) (fun T_157 d_T_157 => ?_)
        have h_T_157 : IV R B K1 K2 T_157 := d_T_157.1
        have y_T_157 : FW R [3202] T_153 T_157 := (fw_wx d_T_157.2 k_n_154 (rfl : isW 103 = true) (by decide))
        have x_T_157 := x_T_153.tr (y_T_157.w (by decide))
        have f_T_157_l0_3 : (T_157.2.2.1 l0 3).toInt = (T_153.2.2.1 l0 3).toInt := congrArg Int32.toInt (y_T_157 l0 3 (by rw [k_l0]; decide))
        unfold g_X4_measure_b138
        refine tot_oif (iv_oO h_T_157 k_l0 (by decide) (by decide) rfl) ?_
        refine tot_let (fun v_161 e_v_161 => ?_)
        have q_v_161 := i_eq e_v_161
        have r_v_161 : 0 ≤ v_161.toInt ∧ v_161.toInt ≤ 144 := iv_int h_T_157 k_l0 (by decide) (by decide) e_v_161 rfl
        refine tot_let (fun v_162 e_v_162 => ?_)
        have q_v_162 := i_add e_v_162 (by omega) (by omega)
        refine tot_oif (iv_oO h_T_157 k_l0 (by decide) (by decide) rfl) ?_
        refine tot_let (fun T_163 e_T_163 => ?_)
        have h_T_163 : IV R B K1 K2 T_163 := by rw [e_T_163]; exact iv_uI (a := 0) (b := 144) h_T_157 k_l0 (by decide) (by decide) rfl (by omega) (.inl rfl)
        have x_T_163 := x_T_157.tr (fw_uI e_T_163 k_l0 (by decide))
        have f_T_163_l0_3 : (T_163.2.2.1 l0 3).toInt = (v_162 : Int32).toInt := by rw [e_T_163]; exact congrArg Int32.toInt (uI_at _ _ _ _)
        unfold g_X4_measure_b148
        refine tot_let (fun v_164 e_v_164 => ?_)
        have q_v_164 := i_add e_v_164 (by omega) (by omega)
        exact ih T_163 v_164 h_T_163 x_T_163 (by omega) (by omega) (by omega)
set_option maxHeartbeats 4000000 in
set_option maxRecDepth 10000 in
theorem cs_X4_measure {R : Nat → Nat} {B K1 K2 : Nat} (T : AT) (o : Nat) (a0 : Nat) (a1 : Nat) (h_T : IV R B K1 K2 T) (k_o : R o = 4) (k_a0 : R a0 = 6) (k_a1 : R a1 = 8) : Tot (g_X4_measure T o a0 a1) (fun T1 => IV R B K1 K2 T1 ∧ FW R [130, 131, 1952, 2144, 3202] T T1) := by
  have z0 : (0 : Int32).toInt = 0 := by decide
  have z1 : ((0 : Int32) : Int32).toInt = 0 := by decide
  have cc_101 : cnt 101 = 1 := rfl
  have cc_102 : cnt 102 = 12 := rfl
  have cc_103 : cnt 103 = 144 := rfl
  have cc_104 : cnt 104 = 2400 := rfl
  have cc_105 : cnt 105 = 7200 := rfl
  have x_T : FW R [130, 131, 1952, 2144, 3202] T T := FW.rf
  unfold g_X4_measure
  refine tot_oif (iv_oO h_T k_o (by decide) (by decide) rfl) ?_
  refine tot_ref h_T k_o (by decide) (by decide) (r2 := 103) (rfl : rtg 4 1 = 103) (by decide) (fun n_1 k_n_1 e_n_1 => ?_)
  refine tot_oif (w_oO h_T k_n_1 (rfl : isW 103 = true)) ?_
  refine tot_bind (c_narrow h_T k_n_1 (rfl : isW 103 = true)) (fun T_2 d_T_2 => ?_)
  have h_T_2 : IV R B K1 K2 T_2 := d_T_2.1
  have y_T_2 : FW R [3202] T T_2 := d_T_2.2.2
  have x_T_2 := x_T.tr (y_T_2.w (by decide))
  have f_T_2_o_3 : (T_2.2.2.1 o 3).toInt = (T.2.2.1 o 3).toInt := congrArg Int32.toInt (y_T_2 o 3 (by rw [k_o]; decide))
  refine tot_oif (iv_oO h_T_2 k_o (by decide) (by decide) rfl) ?_
  refine tot_ref h_T_2 k_o (by decide) (by decide) (r2 := 103) (rfl : rtg 4 5 = 103) (by decide) (fun n_3 k_n_3 e_n_3 => ?_)
  refine tot_oif (w_oO h_T_2 k_n_3 (rfl : isW 103 = true)) ?_
  refine tot_bind (c_narrow h_T_2 k_n_3 (rfl : isW 103 = true)) (fun T_4 d_T_4 => ?_)
  have h_T_4 : IV R B K1 K2 T_4 := d_T_4.1
  have y_T_4 : FW R [3202] T_2 T_4 := d_T_4.2.2
  have x_T_4 := x_T_2.tr (y_T_4.w (by decide))
  have f_T_4_o_3 : (T_4.2.2.1 o 3).toInt = (T_2.2.2.1 o 3).toInt := congrArg Int32.toInt (y_T_4 o 3 (by rw [k_o]; decide))
  refine cl_X4_measure_b16 o a0 a1 T k_o k_a0 k_a1 ?_ 16384 T_4 0 h_T_4 x_T_4 (by omega) (by omega)
  · intro T_118 h_T_118 x_T_118
    refine tot_oif (iv_oO h_T_118 k_a0 (by decide) (by decide) rfl) ?_
    refine tot_ref h_T_118 k_a0 (by decide) (by decide) (r2 := 1) (rfl : rtg 6 6 = 1) (by decide) (fun n_119 k_n_119 e_n_119 => ?_)
    refine tot_oif (iv_oO h_T_118 k_a0 (by decide) (by decide) rfl) ?_
    refine tot_ref1 e_n_119 ?_
    refine tot_oif (iv_oO h_T_118 k_n_119 (by decide) (by decide) rfl) ?_
    refine tot_ref h_T_118 k_n_119 (by decide) (by decide) (r2 := 59) (rfl : rtg 1 5 = 59) (by decide) (fun n_121 k_n_121 e_n_121 => ?_)
    refine tot_oif (iv_oO h_T_118 k_o (by decide) (by decide) rfl) ?_
    refine tot_ref h_T_118 k_o (by decide) (by decide) (r2 := 103) (rfl : rtg 4 1 = 103) (by decide) (fun n_122 k_n_122 e_n_122 => ?_)
    refine tot_oif (iv_oO h_T_118 k_n_119 (by decide) (by decide) rfl) ?_
    refine tot_bindq (R := fun r_123 : Int32 => (0 ≤ r_123.toInt ∧ r_123.toInt ≤ 143)) (cs_X1_bestIn59 T_118 n_119 n_121 n_122 (0 : Int32) h_T_118 k_n_119 k_n_121 k_n_122 (rfl : isW 103 = true) (by omega)) (fun r_123 d_r_123 => ?_)
    replace d_r_123 : (0 ≤ r_123.toInt ∧ r_123.toInt ≤ 143) := d_r_123
    refine tot_oif (iv_oO h_T_118 k_o (by decide) (by decide) rfl) ?_
    refine tot_let (fun T_125 e_T_125 => ?_)
    have h_T_125 : IV R B K1 K2 T_125 := by rw [e_T_125]; exact iv_uI (a := 0) (b := 143) h_T_118 k_o (by decide) (by decide) rfl (by omega) (.inl rfl)
    have x_T_125 := x_T_118.tr (fw_uI e_T_125 k_o (by decide))
    have f_T_125_o_3 : (T_125.2.2.1 o 3).toInt = (T_118.2.2.1 o 3).toInt := congrArg Int32.toInt ((fw_uI (W := [130]) e_T_125 k_o (by decide)) o 3 (by rw [k_o]; decide))
    refine tot_oif (iv_oO h_T_125 k_o (by decide) (by decide) rfl) ?_
    refine tot_let (fun T_126 e_T_126 => ?_)
    have h_T_126 : IV R B K1 K2 T_126 := by rw [e_T_126]; exact iv_uI (a := 0) (b := 144) h_T_125 k_o (by decide) (by decide) rfl (by omega) (.inl rfl)
    have x_T_126 := x_T_125.tr (fw_uI e_T_126 k_o (by decide))
    have f_T_126_o_3 : (T_126.2.2.1 o 3).toInt = (0 : Int32).toInt := by rw [e_T_126]; exact congrArg Int32.toInt (uI_at _ _ _ _)
    refine cl_X4_measure_b89 o a0 T k_o k_a0 ?_ 16384 T_126 0 h_T_126 x_T_126 (by omega) (by omega) (by omega)
    · intro T_165 h_T_165 x_T_165
      exact tot_some ⟨h_T_165, x_T_165⟩
