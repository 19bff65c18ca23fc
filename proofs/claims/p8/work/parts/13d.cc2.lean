set_option maxHeartbeats 4000000 in
set_option maxRecDepth 10000 in
theorem cs_X3_parseZone {R : Nat → Nat} {B K1 K2 : Nat} (T : AT) (o : Nat) (a0 : Nat) (h_T : IV R B K1 K2 T) (k_o : R o = 3) (k_a0 : R a0 = 1) (g0 : (T.2.2.1 o 1).toInt ≤ 1000) : Tot (g_X3_parseZone T o a0) (fun r => (IV R B K1 K2 r.2.2 ∧ FW R [39, 97, 98, 99, 1888] T r.2.2) ∧ (r.1 = 0 → (0 ≤ r.2.1.toInt ∧ r.2.1.toInt ≤ 0))) := by
  have z0 : (4 : Int32).toInt = 4 := by decide
  have z1 : (0 : Int32).toInt = 0 := by decide
  have z2 : ((4 : Int32) : Int32).toInt = 4 := by decide
  have z3 : (1 : Int32).toInt = 1 := by decide
  have z4 : ((0 : Int32) : Int32).toInt = 0 := by decide
  have z5 : (2 : Int32).toInt = 2 := by decide
  have z6 : (3 : Int32).toInt = 3 := by decide
  have cc_101 : cnt 101 = 1 := rfl
  have cc_102 : cnt 102 = 12 := rfl
  have cc_103 : cnt 103 = 144 := rfl
  have cc_104 : cnt 104 = 2400 := rfl
  have cc_105 : cnt 105 = 7200 := rfl
  have x_T : FW R [39, 97, 98, 99, 1888] T T := FW.rf
  unfold g_X3_parseZone
  refine tot_oif (iv_oO h_T k_a0 (by decide) (by decide) rfl) ?_
  refine tot_let (fun v_1 e_v_1 => ?_)
  have q_v_1 := i_eq e_v_1
  have r_v_1 : 0 ≤ v_1.toInt ∧ v_1.toInt ≤ 4 := iv_int h_T k_a0 (by decide) (by decide) e_v_1 rfl
  refine tot_if (fun c_2 => ?_) (fun c_2 => ?_)
  · replace c_2 := i_lt c_2
    unfold g_X3_parseZone_b14
    refine tot_oif (iv_oO h_T k_o (by decide) (by decide) rfl) ?_
    refine tot_thri (R := R) (W := [97, 98, 99]) (Q := fun r_3 : Int32 => ((0 : Int32).toInt = 0)) (cs_X3_startLine T o 0 (4 : Int32) h_T k_o (by omega) (by omega) (by omega)) (fun r_3 T_4 i_T_4 y_T_4 d_r_3 => ?_) (fun k_ U_ i_ y_ => ⟨⟨i_, x_T.tr (y_.w (by decide))⟩, fun q_ => absurd q_ (Nat.succ_ne_zero k_)⟩)
    have h_T_4 : IV R B K1 K2 T_4 := i_T_4
    have x_T_4 := x_T.tr (y_T_4.w (by decide))
    have f_T_4_a0_7 : (T_4.2.2.1 a0 7).toInt = (T.2.2.1 a0 7).toInt := congrArg Int32.toInt (y_T_4 a0 7 (by rw [k_a0]; decide))
    replace d_r_3 : ((0 : Int32).toInt = 0) := d_r_3
    refine tot_oif (iv_oO h_T_4 k_a0 (by decide) (by decide) rfl) ?_
    refine tot_ref h_T_4 k_a0 (by decide) (by decide) (r2 := 60) (rfl : rtg 1 6 = 60) (by decide) (fun n_5 k_n_5 e_n_5 => ?_)
    refine tot_oif (iv_oO h_T_4 k_a0 (by decide) (by decide) rfl) ?_
    refine tot_let (fun v_6 e_v_6 => ?_)
    have q_v_6 := i_eq e_v_6
    have r_v_6 : 0 ≤ v_6.toInt ∧ v_6.toInt ≤ 4 := iv_int h_T_4 k_a0 (by decide) (by decide) e_v_6 rfl
    refine tot_oif (iv_aA h_T_4 k_n_5 (by decide) (by decide) rfl rfl) ?_
    refine tot_oif (by rw [iv_len h_T_4 k_n_5 (by decide) (by decide) (rfl : shp 60 = (106, 4))]; exact i_inb (by omega) (by omega)) ?_
    refine tot_ref h_T_4 k_n_5 (by decide) (by decide) (r2 := 59) (rt_60 (by omega) (by omega)) (by decide) (fun n_7 k_n_7 e_n_7 => ?_)
    refine tot_oif (iv_oO h_T_4 k_a0 (by decide) (by decide) rfl) ?_
    refine tot_let (fun v_8 e_v_8 => ?_)
    have r_v_8 : 0 ≤ v_8.toInt ∧ v_8.toInt ≤ 12 := iv_int h_T_4 k_a0 (by decide) (by decide) e_v_8 rfl
    refine tot_let (fun v_9 e_v_9 => ?_)
    have q_v_9 := i_sub e_v_9 (by omega) (by omega)
    refine tot_oif (iv_oO h_T_4 k_o (by decide) (by decide) rfl) ?_
    refine tot_thri (R := R) (W := [97, 98, 99]) (Q := fun r_10 : Int32 => (((0 : Int32) : Int32).toInt ≤ r_10.toInt ∧ r_10.toInt ≤ v_9.toInt)) (cs_X3_number T_4 o (0 : Int32) v_9 h_T_4 k_o ) (fun r_10 T_11 i_T_11 y_T_11 d_r_10 => ?_) (fun k_ U_ i_ y_ => ⟨⟨i_, x_T_4.tr (y_.w (by decide))⟩, fun q_ => absurd q_ (Nat.succ_ne_zero k_)⟩)
    have h_T_11 : IV R B K1 K2 T_11 := i_T_11
    have x_T_11 := x_T_4.tr (y_T_11.w (by decide))
    have f_T_11_a0_7 : (T_11.2.2.1 a0 7).toInt = (T_4.2.2.1 a0 7).toInt := congrArg Int32.toInt (y_T_11 a0 7 (by rw [k_a0]; decide))
    replace d_r_10 : (((0 : Int32) : Int32).toInt ≤ r_10.toInt ∧ r_10.toInt ≤ v_9.toInt) := d_r_10
    refine tot_oif (iv_aA h_T_11 k_n_7 (by decide) (by decide) rfl rfl) ?_
    refine tot_oif (by rw [iv_len h_T_11 k_n_7 (by decide) (by decide) (rfl : shp 59 = (100, 4))]; exact i_inb (by omega) (by omega)) ?_
    refine tot_let (fun T_12 e_T_12 => ?_)
    have h_T_12 : IV R B K1 K2 T_12 := by rw [e_T_12]; exact iv_uI (a := 0) (b := 11) h_T_11 k_n_7 (by decide) (by decide) rfl (by omega) (.inl rfl)
    have x_T_12 := x_T_11.tr (fw_uA e_T_12 k_n_7 rfl rfl (by decide))
    have f_T_12_o_1 : (T_12.2.2.1 o 1).toInt = (T_11.2.2.1 o 1).toInt := congrArg Int32.toInt ((fw_uA (W := [1888]) e_T_12 k_n_7 rfl rfl (by decide)) o 1 (by rw [k_o]; decide))
    have f_T_12_a0_7 : (T_12.2.2.1 a0 7).toInt = (T_11.2.2.1 a0 7).toInt := congrArg Int32.toInt ((fw_uA (W := [1888]) e_T_12 k_n_7 rfl rfl (by decide)) a0 7 (by rw [k_a0]; decide))
    refine tot_oif (iv_oO h_T_12 k_a0 (by decide) (by decide) rfl) ?_
    refine tot_let (fun v_13 e_v_13 => ?_)
    have r_v_13 : 0 ≤ v_13.toInt ∧ v_13.toInt ≤ 12 := iv_int h_T_12 k_a0 (by decide) (by decide) e_v_13 rfl
    refine tot_let (fun v_14 e_v_14 => ?_)
    have q_v_14 := i_sub e_v_14 (by omega) (by omega)
    refine tot_oif (iv_oO h_T_12 k_o (by decide) (by decide) rfl) ?_
    refine tot_thri (R := R) (W := [97, 98, 99]) (Q := fun r_15 : Int32 => (((0 : Int32) : Int32).toInt ≤ r_15.toInt ∧ r_15.toInt ≤ v_14.toInt)) (cs_X3_number T_12 o (0 : Int32) v_14 h_T_12 k_o ) (fun r_15 T_16 i_T_16 y_T_16 d_r_15 => ?_) (fun k_ U_ i_ y_ => ⟨⟨i_, x_T_12.tr (y_.w (by decide))⟩, fun q_ => absurd q_ (Nat.succ_ne_zero k_)⟩)
    have h_T_16 : IV R B K1 K2 T_16 := i_T_16
    have x_T_16 := x_T_12.tr (y_T_16.w (by decide))
    have f_T_16_a0_7 : (T_16.2.2.1 a0 7).toInt = (T_12.2.2.1 a0 7).toInt := congrArg Int32.toInt (y_T_16 a0 7 (by rw [k_a0]; decide))
    replace d_r_15 : (((0 : Int32) : Int32).toInt ≤ r_15.toInt ∧ r_15.toInt ≤ v_14.toInt) := d_r_15
    refine tot_oif (iv_aA h_T_16 k_n_7 (by decide) (by decide) rfl rfl) ?_
    refine tot_oif (by rw [iv_len h_T_16 k_n_7 (by decide) (by decide) (rfl : shp 59 = (100, 4))]; exact i_inb (by omega) (by omega)) ?_
    refine tot_let (fun T_17 e_T_17 => ?_)
    have h_T_17 : IV R B K1 K2 T_17 := by rw [e_T_17]; exact iv_uI (a := 0) (b := 11) h_T_16 k_n_7 (by decide) (by decide) rfl (by omega) (.inl rfl)
    have x_T_17 := x_T_16.tr (fw_uA e_T_17 k_n_7 rfl rfl (by decide))
    have f_T_17_o_1 : (T_17.2.2.1 o 1).toInt = (T_16.2.2.1 o 1).toInt := congrArg Int32.toInt ((fw_uA (W := [1888]) e_T_17 k_n_7 rfl rfl (by decide)) o 1 (by rw [k_o]; decide))
    have f_T_17_a0_7 : (T_17.2.2.1 a0 7).toInt = (T_16.2.2.1 a0 7).toInt := congrArg Int32.toInt ((fw_uA (W := [1888]) e_T_17 k_n_7 rfl rfl (by decide)) a0 7 (by rw [k_a0]; decide))
    refine tot_oif (iv_aA h_T_17 k_n_7 (by decide) (by decide) rfl rfl) ?_
    refine tot_oif (by rw [iv_len h_T_17 k_n_7 (by decide) (by decide) (rfl : shp 59 = (100, 4))]; exact i_inb (by omega) (by omega)) ?_
    refine tot_let (fun v_18 e_v_18 => ?_)
    have r_v_18 : 0 ≤ v_18.toInt ∧ v_18.toInt ≤ 11 := iv_int h_T_17 k_n_7 (by decide) (by decide) e_v_18 rfl
    refine tot_oif (iv_oO h_T_17 k_a0 (by decide) (by decide) rfl) ?_
    refine tot_let (fun v_19 e_v_19 => ?_)
    have r_v_19 : 0 ≤ v_19.toInt ∧ v_19.toInt ≤ 12 := iv_int h_T_17 k_a0 (by decide) (by decide) e_v_19 rfl
    refine tot_let (fun v_20 e_v_20 => ?_)
    have q_v_20 := i_sub e_v_20 (by omega) (by omega)
    refine tot_oif (iv_oO h_T_17 k_o (by decide) (by decide) rfl) ?_
    refine tot_thri (R := R) (W := [97, 98, 99]) (Q := fun r_21 : Int32 => (v_18.toInt ≤ r_21.toInt ∧ r_21.toInt ≤ v_20.toInt)) (cs_X3_number T_17 o v_18 v_20 h_T_17 k_o ) (fun r_21 T_22 i_T_22 y_T_22 d_r_21 => ?_) (fun k_ U_ i_ y_ => ⟨⟨i_, x_T_17.tr (y_.w (by decide))⟩, fun q_ => absurd q_ (Nat.succ_ne_zero k_)⟩)
    have h_T_22 : IV R B K1 K2 T_22 := i_T_22
    have x_T_22 := x_T_17.tr (y_T_22.w (by decide))
    have f_T_22_a0_7 : (T_22.2.2.1 a0 7).toInt = (T_17.2.2.1 a0 7).toInt := congrArg Int32.toInt (y_T_22 a0 7 (by rw [k_a0]; decide))
    replace d_r_21 : (v_18.toInt ≤ r_21.toInt ∧ r_21.toInt ≤ v_20.toInt) := d_r_21
    refine tot_oif (iv_aA h_T_22 k_n_7 (by decide) (by decide) rfl rfl) ?_
    refine tot_oif (by rw [iv_len h_T_22 k_n_7 (by decide) (by decide) (rfl : shp 59 = (100, 4))]; exact i_inb (by omega) (by omega)) ?_
    refine tot_let (fun T_23 e_T_23 => ?_)
    have h_T_23 : IV R B K1 K2 T_23 := by rw [e_T_23]; exact iv_uI (a := 0) (b := 11) h_T_22 k_n_7 (by decide) (by decide) rfl (by omega) (.inl rfl)
    have x_T_23 := x_T_22.tr (fw_uA e_T_23 k_n_7 rfl rfl (by decide))
    have f_T_23_o_1 : (T_23.2.2.1 o 1).toInt = (T_22.2.2.1 o 1).toInt := congrArg Int32.toInt ((fw_uA (W := [1888]) e_T_23 k_n_7 rfl rfl (by decide)) o 1 (by rw [k_o]; decide))
    have f_T_23_a0_7 : (T_23.2.2.1 a0 7).toInt = (T_22.2.2.1 a0 7).toInt := congrArg Int32.toInt ((fw_uA (W := [1888]) e_T_23 k_n_7 rfl rfl (by decide)) a0 7 (by rw [k_a0]; decide))
    refine tot_oif (iv_aA h_T_23 k_n_7 (by decide) (by decide) rfl rfl) ?_
    refine tot_oif (by rw [iv_len h_T_23 k_n_7 (by decide) (by decide) (rfl : shp 59 = (100, 4))]; exact i_inb (by omega) (by omega)) ?_
    refine tot_let (fun v_24 e_v_24 => ?_)
    have r_v_24 : 0 ≤ v_24.toInt ∧ v_24.toInt ≤ 11 := iv_int h_T_23 k_n_7 (by decide) (by decide) e_v_24 rfl
    refine tot_oif (iv_oO h_T_23 k_a0 (by decide) (by decide) rfl) ?_
    refine tot_let (fun v_25 e_v_25 => ?_)
    have r_v_25 : 0 ≤ v_25.toInt ∧ v_25.toInt ≤ 12 := iv_int h_T_23 k_a0 (by decide) (by decide) e_v_25 rfl
    refine tot_let (fun v_26 e_v_26 => ?_)
    have q_v_26 := i_sub e_v_26 (by omega) (by omega)
    refine tot_oif (iv_oO h_T_23 k_o (by decide) (by decide) rfl) ?_
    refine tot_thri (R := R) (W := [97, 98, 99]) (Q := fun r_27 : Int32 => (v_24.toInt ≤ r_27.toInt ∧ r_27.toInt ≤ v_26.toInt)) (cs_X3_number T_23 o v_24 v_26 h_T_23 k_o ) (fun r_27 T_28 i_T_28 y_T_28 d_r_27 => ?_) (fun k_ U_ i_ y_ => ⟨⟨i_, x_T_23.tr (y_.w (by decide))⟩, fun q_ => absurd q_ (Nat.succ_ne_zero k_)⟩)
    have h_T_28 : IV R B K1 K2 T_28 := i_T_28
    have x_T_28 := x_T_23.tr (y_T_28.w (by decide))
    have f_T_28_a0_7 : (T_28.2.2.1 a0 7).toInt = (T_23.2.2.1 a0 7).toInt := congrArg Int32.toInt (y_T_28 a0 7 (by rw [k_a0]; decide))
    replace d_r_27 : (v_24.toInt ≤ r_27.toInt ∧ r_27.toInt ≤ v_26.toInt) := d_r_27
    refine tot_oif (iv_aA h_T_28 k_n_7 (by decide) (by decide) rfl rfl) ?_
    refine tot_oif (by rw [iv_len h_T_28 k_n_7 (by decide) (by decide) (rfl : shp 59 = (100, 4))]; exact i_inb (by omega) (by omega)) ?_
    refine tot_let (fun T_29 e_T_29 => ?_)
    have h_T_29 : IV R B K1 K2 T_29 := by rw [e_T_29]; exact iv_uI (a := 0) (b := 11) h_T_28 k_n_7 (by decide) (by decide) rfl (by omega) (.inl rfl)
    have x_T_29 := x_T_28.tr (fw_uA e_T_29 k_n_7 rfl rfl (by decide))
    have f_T_29_o_1 : (T_29.2.2.1 o 1).toInt = (T_28.2.2.1 o 1).toInt := congrArg Int32.toInt ((fw_uA (W := [1888]) e_T_29 k_n_7 rfl rfl (by decide)) o 1 (by rw [k_o]; decide))
    have f_T_29_a0_7 : (T_29.2.2.1 a0 7).toInt = (T_28.2.2.1 a0 7).toInt := congrArg Int32.toInt ((fw_uA (W := [1888]) e_T_29 k_n_7 rfl rfl (by decide)) a0 7 (by rw [k_a0]; decide))
    refine tot_oif (iv_oO h_T_29 k_a0 (by decide) (by decide) rfl) ?_
    refine tot_let (fun v_30 e_v_30 => ?_)
    have q_v_30 := i_eq e_v_30
    have r_v_30 : 0 ≤ v_30.toInt ∧ v_30.toInt ≤ 4 := iv_int h_T_29 k_a0 (by decide) (by decide) e_v_30 rfl
    refine tot_let (fun v_31 e_v_31 => ?_)
    have q_v_31 := i_add e_v_31 (by omega) (by omega)
    refine tot_oif (iv_oO h_T_29 k_a0 (by decide) (by decide) rfl) ?_
    refine tot_let (fun T_32 e_T_32 => ?_)
    have h_T_32 : IV R B K1 K2 T_32 := by rw [e_T_32]; exact iv_uI (a := 0) (b := 4) h_T_29 k_a0 (by decide) (by decide) rfl (by omega) (.inl rfl)
    have x_T_32 := x_T_29.tr (fw_uI e_T_32 k_a0 (by decide))
    have f_T_32_o_1 : (T_32.2.2.1 o 1).toInt = (T_29.2.2.1 o 1).toInt := congrArg Int32.toInt ((fw_uI (W := [39]) e_T_32 k_a0 (by decide)) o 1 (by rw [k_o]; decide))
    have f_T_32_a0_7 : (T_32.2.2.1 a0 7).toInt = (v_31 : Int32).toInt := by rw [e_T_32]; exact congrArg Int32.toInt (uI_at _ _ _ _)
    exact tot_some ⟨⟨h_T_32, x_T_32⟩, fun _ => (show (0 ≤ (0 : Int32).toInt ∧ (0 : Int32).toInt ≤ 0) from by omega)⟩
  · replace c_2 := i_nlt c_2
    unfold g_X3_parseZone_b14
    refine tot_oif (iv_oO h_T k_o (by decide) (by decide) rfl) ?_
    refine tot_thri (R := R) (W := [97, 98, 99]) (Q := fun r_33 : Int32 => ((1 : Int32).toInt = 0)) (cs_X3_startLine T o 1 (4 : Int32) h_T k_o (by omega) (by omega) (by omega)) (fun r_33 T_34 i_T_34 y_T_34 d_r_33 => ?_) (fun k_ U_ i_ y_ => ⟨⟨i_, x_T.tr (y_.w (by decide))⟩, fun q_ => absurd q_ (Nat.succ_ne_zero k_)⟩)
    have h_T_34 : IV R B K1 K2 T_34 := i_T_34
    have x_T_34 := x_T.tr (y_T_34.w (by decide))
    have f_T_34_a0_7 : (T_34.2.2.1 a0 7).toInt = (T.2.2.1 a0 7).toInt := congrArg Int32.toInt (y_T_34 a0 7 (by rw [k_a0]; decide))
    replace d_r_33 : ((1 : Int32).toInt = 0) := d_r_33
    refine tot_oif (iv_oO h_T_34 k_a0 (by decide) (by decide) rfl) ?_
    refine tot_ref h_T_34 k_a0 (by decide) (by decide) (r2 := 60) (rfl : rtg 1 6 = 60) (by decide) (fun n_35 k_n_35 e_n_35 => ?_)
    refine tot_oif (iv_oO h_T_34 k_a0 (by decide) (by decide) rfl) ?_
    refine tot_let (fun v_36 e_v_36 => ?_)
    have q_v_36 := i_eq e_v_36
    have r_v_36 : 0 ≤ v_36.toInt ∧ v_36.toInt ≤ 4 := iv_int h_T_34 k_a0 (by decide) (by decide) e_v_36 rfl
    refine tot_oif (iv_aA h_T_34 k_n_35 (by decide) (by decide) rfl rfl) ?_
    refine tot_oif (by rw [iv_len h_T_34 k_n_35 (by decide) (by decide) (rfl : shp 60 = (106, 4))]; exact i_inb (by omega) (by omega)) ?_
    refine tot_ref h_T_34 k_n_35 (by decide) (by decide) (r2 := 59) (rt_60 (by omega) (by omega)) (by decide) (fun n_37 k_n_37 e_n_37 => ?_)
    refine tot_oif (iv_oO h_T_34 k_a0 (by decide) (by decide) rfl) ?_
    refine tot_let (fun v_38 e_v_38 => ?_)
    have r_v_38 : 0 ≤ v_38.toInt ∧ v_38.toInt ≤ 12 := iv_int h_T_34 k_a0 (by decide) (by decide) e_v_38 rfl
    refine tot_let (fun v_39 e_v_39 => ?_)
    have q_v_39 := i_sub e_v_39 (by omega) (by omega)
    refine tot_oif (iv_oO h_T_34 k_o (by decide) (by decide) rfl) ?_
    refine tot_thri (R := R) (W := [97, 98, 99]) (Q := fun r_40 : Int32 => (((0 : Int32) : Int32).toInt ≤ r_40.toInt ∧ r_40.toInt ≤ v_39.toInt)) (cs_X3_number T_34 o (0 : Int32) v_39 h_T_34 k_o ) (fun r_40 T_41 i_T_41 y_T_41 d_r_40 => ?_) (fun k_ U_ i_ y_ => ⟨⟨i_, x_T_34.tr (y_.w (by decide))⟩, fun q_ => absurd q_ (Nat.succ_ne_zero k_)⟩)
    have h_T_41 : IV R B K1 K2 T_41 := i_T_41
    have x_T_41 := x_T_34.tr (y_T_41.w (by decide))
    have f_T_41_a0_7 : (T_41.2.2.1 a0 7).toInt = (T_34.2.2.1 a0 7).toInt := congrArg Int32.toInt (y_T_41 a0 7 (by rw [k_a0]; decide))
    replace d_r_40 : (((0 : Int32) : Int32).toInt ≤ r_40.toInt ∧ r_40.toInt ≤ v_39.toInt) := d_r_40
    refine tot_oif (iv_aA h_T_41 k_n_37 (by decide) (by decide) rfl rfl) ?_
    refine tot_oif (by rw [iv_len h_T_41 k_n_37 (by decide) (by decide) (rfl : shp 59 = (100, 4))]; exact i_inb (by omega) (by omega)) ?_
    refine tot_let (fun T_42 e_T_42 => ?_)
    have h_T_42 : IV R B K1 K2 T_42 := by rw [e_T_42]; exact iv_uI (a := 0) (b := 11) h_T_41 k_n_37 (by decide) (by decide) rfl (by omega) (.inl rfl)
    have x_T_42 := x_T_41.tr (fw_uA e_T_42 k_n_37 rfl rfl (by decide))
    have f_T_42_o_1 : (T_42.2.2.1 o 1).toInt = (T_41.2.2.1 o 1).toInt := congrArg Int32.toInt ((fw_uA (W := [1888]) e_T_42 k_n_37 rfl rfl (by decide)) o 1 (by rw [k_o]; decide))
    have f_T_42_a0_7 : (T_42.2.2.1 a0 7).toInt = (T_41.2.2.1 a0 7).toInt := congrArg Int32.toInt ((fw_uA (W := [1888]) e_T_42 k_n_37 rfl rfl (by decide)) a0 7 (by rw [k_a0]; decide))
    refine tot_oif (iv_oO h_T_42 k_a0 (by decide) (by decide) rfl) ?_
    refine tot_let (fun v_43 e_v_43 => ?_)
    have r_v_43 : 0 ≤ v_43.toInt ∧ v_43.toInt ≤ 12 := iv_int h_T_42 k_a0 (by decide) (by decide) e_v_43 rfl
    refine tot_let (fun v_44 e_v_44 => ?_)
    have q_v_44 := i_sub e_v_44 (by omega) (by omega)
    refine tot_oif (iv_oO h_T_42 k_o (by decide) (by decide) rfl) ?_
    refine tot_thri (R := R) (W := [97, 98, 99]) (Q := fun r_45 : Int32 => (((0 : Int32) : Int32).toInt ≤ r_45.toInt ∧ r_45.toInt ≤ v_44.toInt)) (cs_X3_number T_42 o (0 : Int32) v_44 h_T_42 k_o ) (fun r_45 T_46 i_T_46 y_T_46 d_r_45 => ?_) (fun k_ U_ i_ y_ => ⟨⟨i_, x_T_42.tr (y_.w (by decide))⟩, fun q_ => absurd q_ (Nat.succ_ne_zero k_)⟩)
    have h_T_46 : IV R B K1 K2 T_46 := i_T_46
    have x_T_46 := x_T_42.tr (y_T_46.w (by decide))
    have f_T_46_a0_7 : (T_46.2.2.1 a0 7).toInt = (T_42.2.2.1 a0 7).toInt := congrArg Int32.toInt (y_T_46 a0 7 (by rw [k_a0]; decide))
    replace d_r_45 : (((0 : Int32) : Int32).toInt ≤ r_45.toInt ∧ r_45.toInt ≤ v_44.toInt) := d_r_45
    refine tot_oif (iv_aA h_T_46 k_n_37 (by decide) (by decide) rfl rfl) ?_
    refine tot_oif (by rw [iv_len h_T_46 k_n_37 (by decide) (by decide) (rfl : shp 59 = (100, 4))]; exact i_inb (by omega) (by omega)) ?_
    refine tot_let (fun T_47 e_T_47 => ?_)
    have h_T_47 : IV R B K1 K2 T_47 := by rw [e_T_47]; exact iv_uI (a := 0) (b := 11) h_T_46 k_n_37 (by decide) (by decide) rfl (by omega) (.inl rfl)
    have x_T_47 := x_T_46.tr (fw_uA e_T_47 k_n_37 rfl rfl (by decide))
    have f_T_47_o_1 : (T_47.2.2.1 o 1).toInt = (T_46.2.2.1 o 1).toInt := congrArg Int32.toInt ((fw_uA (W := [1888]) e_T_47 k_n_37 rfl rfl (by decide)) o 1 (by rw [k_o]; decide))
    have f_T_47_a0_7 : (T_47.2.2.1 a0 7).toInt = (T_46.2.2.1 a0 7).toInt := congrArg Int32.toInt ((fw_uA (W := [1888]) e_T_47 k_n_37 rfl rfl (by decide)) a0 7 (by rw [k_a0]; decide))
    refine tot_oif (iv_aA h_T_47 k_n_37 (by decide) (by decide) rfl rfl) ?_
    refine tot_oif (by rw [iv_len h_T_47 k_n_37 (by decide) (by decide) (rfl : shp 59 = (100, 4))]; exact i_inb (by omega) (by omega)) ?_
    refine tot_let (fun v_48 e_v_48 => ?_)
    have r_v_48 : 0 ≤ v_48.toInt ∧ v_48.toInt ≤ 11 := iv_int h_T_47 k_n_37 (by decide) (by decide) e_v_48 rfl
    refine tot_oif (iv_oO h_T_47 k_a0 (by decide) (by decide) rfl) ?_
    refine tot_let (fun v_49 e_v_49 => ?_)
    have r_v_49 : 0 ≤ v_49.toInt ∧ v_49.toInt ≤ 12 := iv_int h_T_47 k_a0 (by decide) (by decide) e_v_49 rfl
    refine tot_let (fun v_50 e_v_50 => ?_)
    have q_v_50 := i_sub e_v_50 (by omega) (by omega)
    refine tot_oif (iv_oO h_T_47 k_o (by decide) (by decide) rfl) ?_
    refine tot_thri (R := R) (W := [97, 98, 99]) (Q := fun r_51 : Int32 => (v_48.toInt ≤ r_51.toInt ∧ r_51.toInt ≤ v_50.toInt)) (cs_X3_number T_47 o v_48 v_50 h_T_47 k_o ) (fun r_51 T_52 i_T_52 y_T_52 d_r_51 => ?_) (fun k_ U_ i_ y_ => ⟨⟨i_, x_T_47.tr (y_.w (by decide))⟩, fun q_ => absurd q_ (Nat.succ_ne_zero k_)⟩)
    have h_T_52 : IV R B K1 K2 T_52 := i_T_52
    have x_T_52 := x_T_47.tr (y_T_52.w (by decide))
    have f_T_52_a0_7 : (T_52.2.2.1 a0 7).toInt = (T_47.2.2.1 a0 7).toInt := congrArg Int32.toInt (y_T_52 a0 7 (by rw [k_a0]; decide))
    replace d_r_51 : (v_48.toInt ≤ r_51.toInt ∧ r_51.toInt ≤ v_50.toInt) := d_r_51
    refine tot_oif (iv_aA h_T_52 k_n_37 (by decide) (by decide) rfl rfl) ?_
    refine tot_oif (by rw [iv_len h_T_52 k_n_37 (by decide) (by decide) (rfl : shp 59 = (100, 4))]; exact i_inb (by omega) (by omega)) ?_
    refine tot_let (fun T_53 e_T_53 => ?_)
    have h_T_53 : IV R B K1 K2 T_53 := by rw [e_T_53]; exact iv_uI (a := 0) (b := 11) h_T_52 k_n_37 (by decide) (by decide) rfl (by omega) (.inl rfl)
    have x_T_53 := x_T_52.tr (fw_uA e_T_53 k_n_37 rfl rfl (by decide))
    have f_T_53_o_1 : (T_53.2.2.1 o 1).toInt = (T_52.2.2.1 o 1).toInt := congrArg Int32.toInt ((fw_uA (W := [1888]) e_T_53 k_n_37 rfl rfl (by decide)) o 1 (by rw [k_o]; decide))
    have f_T_53_a0_7 : (T_53.2.2.1 a0 7).toInt = (T_52.2.2.1 a0 7).toInt := congrArg Int32.toInt ((fw_uA (W := [1888]) e_T_53 k_n_37 rfl rfl (by decide)) a0 7 (by rw [k_a0]; decide))
    refine tot_oif (iv_aA h_T_53 k_n_37 (by decide) (by decide) rfl rfl) ?_
    refine tot_oif (by rw [iv_len h_T_53 k_n_37 (by decide) (by decide) (rfl : shp 59 = (100, 4))]; exact i_inb (by omega) (by omega)) ?_
    refine tot_let (fun v_54 e_v_54 => ?_)
    have r_v_54 : 0 ≤ v_54.toInt ∧ v_54.toInt ≤ 11 := iv_int h_T_53 k_n_37 (by decide) (by decide) e_v_54 rfl
    refine tot_oif (iv_oO h_T_53 k_a0 (by decide) (by decide) rfl) ?_
    refine tot_let (fun v_55 e_v_55 => ?_)
    have r_v_55 : 0 ≤ v_55.toInt ∧ v_55.toInt ≤ 12 := iv_int h_T_53 k_a0 (by decide) (by decide) e_v_55 rfl
    refine tot_let (fun v_56 e_v_56 => ?_)
    have q_v_56 := i_sub e_v_56 (by omega) (by omega)
    refine tot_oif (iv_oO h_T_53 k_o (by decide) (by decide) rfl) ?_
    refine tot_thri (R := R) (W := [97, 98, 99]) (Q := fun r_57 : Int32 => (v_54.toInt ≤ r_57.toInt ∧ r_57.toInt ≤ v_56.toInt)) (cs_X3_number T_53 o v_54 v_56 h_T_53 k_o ) (fun r_57 T_58 i_T_58 y_T_58 d_r_57 => ?_) (fun k_ U_ i_ y_ => ⟨⟨i_, x_T_53.tr (y_.w (by decide))⟩, fun q_ => absurd q_ (Nat.succ_ne_zero k_)⟩)
    have h_T_58 : IV R B K1 K2 T_58 := i_T_58
    have x_T_58 := x_T_53.tr (y_T_58.w (by decide))
    have f_T_58_a0_7 : (T_58.2.2.1 a0 7).toInt = (T_53.2.2.1 a0 7).toInt := congrArg Int32.toInt (y_T_58 a0 7 (by rw [k_a0]; decide))
    replace d_r_57 : (v_54.toInt ≤ r_57.toInt ∧ r_57.toInt ≤ v_56.toInt) := d_r_57
    refine tot_oif (iv_aA h_T_58 k_n_37 (by decide) (by decide) rfl rfl) ?_
    refine tot_oif (by rw [iv_len h_T_58 k_n_37 (by decide) (by decide) (rfl : shp 59 = (100, 4))]; exact i_inb (by omega) (by omega)) ?_
    refine tot_let (fun T_59 e_T_59 => ?_)
    have h_T_59 : IV R B K1 K2 T_59 := by rw [e_T_59]; exact iv_uI (a := 0) (b := 11) h_T_58 k_n_37 (by decide) (by decide) rfl (by omega) (.inl rfl)
    have x_T_59 := x_T_58.tr (fw_uA e_T_59 k_n_37 rfl rfl (by decide))
    have f_T_59_o_1 : (T_59.2.2.1 o 1).toInt = (T_58.2.2.1 o 1).toInt := congrArg Int32.toInt ((fw_uA (W := [1888]) e_T_59 k_n_37 rfl rfl (by decide)) o 1 (by rw [k_o]; decide))
    have f_T_59_a0_7 : (T_59.2.2.1 a0 7).toInt = (T_58.2.2.1 a0 7).toInt := congrArg Int32.toInt ((fw_uA (W := [1888]) e_T_59 k_n_37 rfl rfl (by decide)) a0 7 (by rw [k_a0]; decide))
    refine tot_oif (iv_oO h_T_59 k_a0 (by decide) (by decide) rfl) ?_
    refine tot_let (fun v_60 e_v_60 => ?_)
    have q_v_60 := i_eq e_v_60
    have r_v_60 : 0 ≤ v_60.toInt ∧ v_60.toInt ≤ 4 := iv_int h_T_59 k_a0 (by decide) (by decide) e_v_60 rfl
    refine tot_let (fun v_61 e_v_61 => ?_)
    have q_v_61 := i_add e_v_61 (by omega) (by omega)
    refine tot_oif (iv_oO h_T_59 k_a0 (by decide) (by decide) rfl) ?_
    refine tot_let (fun T_62 e_T_62 => ?_)
    have h_T_62 : IV R B K1 K2 T_62 := by rw [e_T_62]; exact iv_uI (a := 0) (b := 4) h_T_59 k_a0 (by decide) (by decide) rfl (by omega) (.inl rfl)
    have x_T_62 := x_T_59.tr (fw_uI e_T_62 k_a0 (by decide))
    have f_T_62_o_1 : (T_62.2.2.1 o 1).toInt = (T_59.2.2.1 o 1).toInt := congrArg Int32.toInt ((fw_uI (W := [39]) e_T_62 k_a0 (by decide)) o 1 (by rw [k_o]; decide))
    have f_T_62_a0_7 : (T_62.2.2.1 a0 7).toInt = (v_61 : Int32).toInt := by rw [e_T_62]; exact congrArg Int32.toInt (uI_at _ _ _ _)
    exact tot_some ⟨⟨h_T_62, x_T_62⟩, fun _ => (show (0 ≤ (0 : Int32).toInt ∧ (0 : Int32).toInt ≤ 0) from by omega)⟩
set_option maxHeartbeats 4000000 in
set_option maxRecDepth 10000 in
theorem cs_X3_parseClock {R : Nat → Nat} {B K1 K2 : Nat} (T : AT) (o : Nat) (a0 : Nat) (h_T : IV R B K1 K2 T) (k_o : R o = 3) (k_a0 : R a0 = 6) (g0 : (T.2.2.1 o 1).toInt ≤ 1000) : Tot (g_X3_parseClock T o a0) (fun r => (IV R B K1 K2 r.2.2 ∧ FW R [67, 97, 98, 99] T r.2.2) ∧ (r.1 = 0 → (0 ≤ r.2.1.toInt ∧ r.2.1.toInt ≤ 0))) := by
  have z0 : ((0 : Int32) : Int32).toInt = 0 := by decide
  have z1 : ((3 : Int32) : Int32).toInt = 3 := by decide
  have z2 : (1 : Int32).toInt = 1 := by decide
  have z3 : (0 : Int32).toInt = 0 := by decide
  have z4 : ((1 : Int32) : Int32).toInt = 1 := by decide
  have z5 : ((31 : Int32) : Int32).toInt = 31 := by decide
  have cc_101 : cnt 101 = 1 := rfl
  have cc_102 : cnt 102 = 12 := rfl
  have cc_103 : cnt 103 = 144 := rfl
  have cc_104 : cnt 104 = 2400 := rfl
  have cc_105 : cnt 105 = 7200 := rfl
  have x_T : FW R [67, 97, 98, 99] T T := FW.rf
  unfold g_X3_parseClock
  refine tot_oif (iv_oO h_T k_o (by decide) (by decide) rfl) ?_
  refine tot_thri (R := R) (W := [97, 98, 99]) (Q := fun r_1 : Int32 => (((0 : Int32) : Int32).toInt = 0)) (cs_X3_startLine T o (0 : Int32) (3 : Int32) h_T k_o (by omega) (by omega) (by omega)) (fun r_1 T_2 i_T_2 y_T_2 d_r_1 => ?_) (fun k_ U_ i_ y_ => ⟨⟨i_, x_T.tr (y_.w (by decide))⟩, fun q_ => absurd q_ (Nat.succ_ne_zero k_)⟩)
  have h_T_2 : IV R B K1 K2 T_2 := i_T_2
  have x_T_2 := x_T.tr (y_T_2.w (by decide))
  replace d_r_1 : (((0 : Int32) : Int32).toInt = 0) := d_r_1
  refine tot_oif (iv_oO h_T_2 k_a0 (by decide) (by decide) rfl) ?_
  refine tot_let (fun v_3 e_v_3 => ?_)
  have r_v_3 : 0 ≤ v_3.toInt ∧ v_3.toInt ≤ 12 := iv_int h_T_2 k_a0 (by decide) (by decide) e_v_3 rfl
  refine tot_let (fun v_4 e_v_4 => ?_)
  have q_v_4 := i_sub e_v_4 (by omega) (by omega)
  refine tot_oif (iv_oO h_T_2 k_o (by decide) (by decide) rfl) ?_
  refine tot_thri (R := R) (W := [97, 98, 99]) (Q := fun r_5 : Int32 => (((0 : Int32) : Int32).toInt ≤ r_5.toInt ∧ r_5.toInt ≤ v_4.toInt)) (cs_X3_number T_2 o (0 : Int32) v_4 h_T_2 k_o ) (fun r_5 T_6 i_T_6 y_T_6 d_r_5 => ?_) (fun k_ U_ i_ y_ => ⟨⟨i_, x_T_2.tr (y_.w (by decide))⟩, fun q_ => absurd q_ (Nat.succ_ne_zero k_)⟩)
  have h_T_6 : IV R B K1 K2 T_6 := i_T_6
  have x_T_6 := x_T_2.tr (y_T_6.w (by decide))
  replace d_r_5 : (((0 : Int32) : Int32).toInt ≤ r_5.toInt ∧ r_5.toInt ≤ v_4.toInt) := d_r_5
  refine tot_oif (iv_oO h_T_6 k_a0 (by decide) (by decide) rfl) ?_
  refine tot_ref h_T_6 k_a0 (by decide) (by decide) (r2 := 53) (rfl : rtg 6 4 = 53) (by decide) (fun n_7 k_n_7 e_n_7 => ?_)
  refine tot_oif (iv_aA h_T_6 k_n_7 (by decide) (by decide) rfl rfl) ?_
  refine tot_oif (by rw [iv_len h_T_6 k_n_7 (by decide) (by decide) (rfl : shp 53 = (103, 12))]; exact i_inb (by omega) (by omega)) ?_
  refine tot_ref h_T_6 k_n_7 (by decide) (by decide) (r2 := 2) (rt_53 (by omega) (by omega)) (by decide) (fun n_8 k_n_8 e_n_8 => ?_)
  refine tot_oif (iv_oO h_T_6 k_n_8 (by decide) (by decide) rfl) ?_
  refine tot_let (fun v_9 e_v_9 => ?_)
  have r_v_9 : 0 ≤ v_9.toInt ∧ v_9.toInt ≤ 31 := iv_int h_T_6 k_n_8 (by decide) (by decide) e_v_9 rfl
  refine tot_if (fun c_14 => ?_) (fun c_14 => ?_)
  · replace c_14 := i_le c_14
    unfold g_X3_parseClock_b41
    refine tot_oif (iv_oO h_T_6 k_a0 (by decide) (by decide) rfl) ?_
    refine tot_ref1 e_n_7 ?_
    refine tot_oif (iv_aA h_T_6 k_n_7 (by decide) (by decide) rfl rfl) ?_
    refine tot_oif (by rw [iv_len h_T_6 k_n_7 (by decide) (by decide) (rfl : shp 53 = (103, 12))]; exact i_inb (by omega) (by omega)) ?_
    refine tot_ref1 e_n_8 ?_
    refine tot_oif (iv_oO h_T_6 k_o (by decide) (by decide) rfl) ?_
    refine tot_thri (R := R) (W := [97, 98, 99]) (Q := fun r_17 : Int32 => (((1 : Int32) : Int32).toInt ≤ r_17.toInt ∧ r_17.toInt ≤ ((31 : Int32) : Int32).toInt)) (cs_X3_number T_6 o (1 : Int32) (31 : Int32) h_T_6 k_o ) (fun r_17 T_18 i_T_18 y_T_18 d_r_17 => ?_) (fun k_ U_ i_ y_ => ⟨⟨i_, x_T_6.tr (y_.w (by decide))⟩, fun q_ => absurd q_ (Nat.succ_ne_zero k_)⟩)
    have h_T_18 : IV R B K1 K2 T_18 := i_T_18
    have x_T_18 := x_T_6.tr (y_T_18.w (by decide))
    replace d_r_17 : (((1 : Int32) : Int32).toInt ≤ r_17.toInt ∧ r_17.toInt ≤ ((31 : Int32) : Int32).toInt) := d_r_17
    refine tot_oif (iv_oO h_T_18 k_n_8 (by decide) (by decide) rfl) ?_
    refine tot_let (fun T_19 e_T_19 => ?_)
    have h_T_19 : IV R B K1 K2 T_19 := by rw [e_T_19]; exact iv_uI (a := 0) (b := 31) h_T_18 k_n_8 (by decide) (by decide) rfl (by omega) (.inl rfl)
    have x_T_19 := x_T_18.tr (fw_uI e_T_19 k_n_8 (by decide))
    have f_T_19_o_1 : (T_19.2.2.1 o 1).toInt = (T_18.2.2.1 o 1).toInt := congrArg Int32.toInt ((fw_uI (W := [67]) e_T_19 k_n_8 (by decide)) o 1 (by rw [k_o]; decide))
    exact tot_some ⟨⟨h_T_19, x_T_19⟩, fun _ => (show (0 ≤ (0 : Int32).toInt ∧ (0 : Int32).toInt ≤ 0) from by omega)⟩
  · replace c_14 := i_nle c_14
    refine tot_oif (iv_oO h_T_6 k_o (by decide) (by decide) rfl) ?_
    refine tot_let (fun v_10 e_v_10 => ?_)
    have q_v_10 := i_eq e_v_10
    have r_v_10 : 0 ≤ v_10.toInt ∧ v_10.toInt ≤ 1001 := iv_int h_T_6 k_o (by decide) (by decide) e_v_10 rfl
    refine tot_let (fun v_11 e_v_11 => ?_)
    have q_v_11 := i_sub e_v_11 (by omega) (by omega)
    refine tot_oif (iv_oO h_T_6 k_o (by decide) (by decide) rfl) ?_
    refine tot_thri (R := R) (W := [98, 99]) (Q := fun r_12 : Int32 => (False)) (cs_X3_failAt T_6 o v_11 (3 : Int32) h_T_6 k_o (by omega) (by omega)) (fun r_12 T_13 i_T_13 y_T_13 d_r_12 => ?_) (fun k_ U_ i_ y_ => ⟨⟨i_, x_T_6.tr (y_.w (by decide))⟩, fun q_ => absurd q_ (Nat.succ_ne_zero k_)⟩)
    have h_T_13 : IV R B K1 K2 T_13 := i_T_13
    have x_T_13 := x_T_6.tr (y_T_13.w (by decide))
    have f_T_13_o_1 : (T_13.2.2.1 o 1).toInt = (T_6.2.2.1 o 1).toInt := congrArg Int32.toInt (y_T_13 o 1 (by rw [k_o]; decide))
    replace d_r_12 : (False) := d_r_12
    exact d_r_12.elim
set_option maxHeartbeats 4000000 in
set_option maxRecDepth 10000 in
theorem cs_X3_signed {R : Nat → Nat} {B K1 K2 : Nat} (T : AT) (o : Nat) (a0 : Int32) (a1 : Int32) (h_T : IV R B K1 K2 T) (k_o : R o = 3) (g0 : -2000 ≤ a0.toInt ∧ a0.toInt ≤ -9) (g1 : 9 ≤ a1.toInt ∧ a1.toInt ≤ 2000) : Tot (g_X3_signed T o a0 a1) (fun r => (IV R B K1 K2 r.2.2 ∧ FW R [97, 98, 99] T r.2.2) ∧ (r.1 = 0 → (a0.toInt ≤ r.2.1.toInt ∧ r.2.1.toInt ≤ a1.toInt))) := by
  have z0 : (3 : Int32).toInt = 3 := by decide
  have z1 : (1 : Int32).toInt = 1 := by decide
  have cc_101 : cnt 101 = 1 := rfl
  have cc_102 : cnt 102 = 12 := rfl
  have cc_103 : cnt 103 = 144 := rfl
  have cc_104 : cnt 104 = 2400 := rfl
  have cc_105 : cnt 105 = 7200 := rfl
  have x_T : FW R [97, 98, 99] T T := FW.rf
  have j_a0 := i_any a0
  have j_a1 := i_any a1
  unfold g_X3_signed
  refine tot_oif (iv_oO h_T k_o (by decide) (by decide) rfl) ?_
  refine tot_bindq (R := fun r_1 : Int32 => (r_1.toInt = 5 ∨ (T.2.2.1 o 1).toInt ≤ 1000)) (cs_X3_kind T o h_T k_o ) (fun r_1 d_r_1 => ?_)
  replace d_r_1 : (r_1.toInt = 5 ∨ (T.2.2.1 o 1).toInt ≤ 1000) := d_r_1
  refine tot_if (fun c_13 => ?_) (fun c_13 => ?_)
  · replace c_13 := i_eq c_13
    refine tot_oif (iv_oO h_T k_o (by decide) (by decide) rfl) ?_
    refine tot_let (fun v_3 e_v_3 => ?_)
    have q_v_3 := i_eq e_v_3
    have r_v_3 : 0 ≤ v_3.toInt ∧ v_3.toInt ≤ 1001 := iv_int h_T k_o (by decide) (by decide) e_v_3 rfl
    refine tot_let (fun v_4 e_v_4 => ?_)
    have q_v_4 := i_add e_v_4 (by omega) (by omega)
    refine tot_oif (iv_oO h_T k_o (by decide) (by decide) rfl) ?_
    refine tot_let (fun T_5 e_T_5 => ?_)
    have h_T_5 : IV R B K1 K2 T_5 := by rw [e_T_5]; exact iv_uI (a := 0) (b := 1001) h_T k_o (by decide) (by decide) rfl (by omega) (.inl rfl)
    have x_T_5 := x_T.tr (fw_uI e_T_5 k_o (by decide))
    have f_T_5_o_1 : (T_5.2.2.1 o 1).toInt = (v_4 : Int32).toInt := by rw [e_T_5]; exact congrArg Int32.toInt (uI_at _ _ _ _)
    refine tot_let (fun v_6 e_v_6 => ?_)
    have q_v_6 := i_neg e_v_6 (by omega)
    refine tot_let (fun v_7 e_v_7 => ?_)
    have q_v_7 := i_neg e_v_7 (by omega)
    refine tot_oif (iv_oO h_T_5 k_o (by decide) (by decide) rfl) ?_
    refine tot_thri (R := R) (W := [97, 98, 99]) (Q := fun r_8 : Int32 => (v_6.toInt ≤ r_8.toInt ∧ r_8.toInt ≤ v_7.toInt)) (cs_X3_number T_5 o v_6 v_7 h_T_5 k_o ) (fun r_8 T_9 i_T_9 y_T_9 d_r_8 => ?_) (fun k_ U_ i_ y_ => ⟨⟨i_, x_T_5.tr (y_.w (by decide))⟩, fun q_ => absurd q_ (Nat.succ_ne_zero k_)⟩)
    have h_T_9 : IV R B K1 K2 T_9 := i_T_9
    have x_T_9 := x_T_5.tr (y_T_9.w (by decide))
    replace d_r_8 : (v_6.toInt ≤ r_8.toInt ∧ r_8.toInt ≤ v_7.toInt) := d_r_8
    refine tot_let (fun v_10 e_v_10 => ?_)
    have q_v_10 := i_neg e_v_10 (by omega)
    exact tot_some ⟨⟨h_T_9, x_T_9⟩, fun _ => (show (a0.toInt ≤ v_10.toInt ∧ v_10.toInt ≤ a1.toInt) from by omega)⟩
  · replace c_13 := i_ne c_13
    refine tot_oif (iv_oO h_T k_o (by decide) (by decide) rfl) ?_
    refine tot_thri (R := R) (W := [97, 98, 99]) (Q := fun r_11 : Int32 => (a0.toInt ≤ r_11.toInt ∧ r_11.toInt ≤ a1.toInt)) (cs_X3_number T o a0 a1 h_T k_o ) (fun r_11 T_12 i_T_12 y_T_12 d_r_11 => ?_) (fun k_ U_ i_ y_ => ⟨⟨i_, x_T.tr (y_.w (by decide))⟩, fun q_ => absurd q_ (Nat.succ_ne_zero k_)⟩)
    have h_T_12 : IV R B K1 K2 T_12 := i_T_12
    have x_T_12 := x_T.tr (y_T_12.w (by decide))
    replace d_r_11 : (a0.toInt ≤ r_11.toInt ∧ r_11.toInt ≤ a1.toInt) := d_r_11
    exact tot_some ⟨⟨h_T_12, x_T_12⟩, fun _ => (show (a0.toInt ≤ r_11.toInt ∧ r_11.toInt ≤ a1.toInt) from by omega)⟩
set_option maxHeartbeats 4000000 in
set_option maxRecDepth 10000 in
theorem cs_X6_addTap {R : Nat → Nat} {B K1 K2 : Nat} (T : AT) (o : Nat) (a0 : Int32) (h_T : IV R B K1 K2 T) (k_o : R o = 6) (g0 : -9 ≤ a0.toInt ∧ a0.toInt ≤ 9) : Tot (g_X6_addTap T o a0) (fun T1 => IV R B K1 K2 T1 ∧ FW R [206, 1824] T T1) := by
  have z0 : (5 : Int32).toInt = 5 := by decide
  have z1 : (1 : Int32).toInt = 1 := by decide
  have cc_101 : cnt 101 = 1 := rfl
  have cc_102 : cnt 102 = 12 := rfl
  have cc_103 : cnt 103 = 144 := rfl
  have cc_104 : cnt 104 = 2400 := rfl
  have cc_105 : cnt 105 = 7200 := rfl
  have x_T : FW R [206, 1824] T T := FW.rf
  have j_a0 := i_any a0
  unfold g_X6_addTap
  refine tot_oif (iv_oO h_T k_o (by decide) (by decide) rfl) ?_
  refine tot_let (fun v_1 e_v_1 => ?_)
  have q_v_1 := i_eq e_v_1
  have r_v_1 : 0 ≤ v_1.toInt ∧ v_1.toInt ≤ 5 := iv_int h_T k_o (by decide) (by decide) e_v_1 rfl
  refine tot_if (fun c_8 => ?_) (fun c_8 => ?_)
  · replace c_8 := i_le c_8
    unfold g_X6_addTap_b28
    exact tot_some ⟨h_T, x_T⟩
  · replace c_8 := i_nle c_8
    refine tot_oif (iv_oO h_T k_o (by decide) (by decide) rfl) ?_
    refine tot_ref h_T k_o (by decide) (by decide) (r2 := 57) (rfl : rtg 6 13 = 57) (by decide) (fun n_2 k_n_2 e_n_2 => ?_)
    refine tot_oif (iv_oO h_T k_o (by decide) (by decide) rfl) ?_
    refine tot_let (fun v_3 e_v_3 => ?_)
    have u_v_3 : v_3.toInt = v_1.toInt := by rw [e_v_3, e_v_1]
    have q_v_3 := i_eq e_v_3
    have r_v_3 : 0 ≤ v_3.toInt ∧ v_3.toInt ≤ 5 := iv_int h_T k_o (by decide) (by decide) e_v_3 rfl
    refine tot_oif (iv_aA h_T k_n_2 (by decide) (by decide) rfl rfl) ?_
    refine tot_oif (by rw [iv_len h_T k_n_2 (by decide) (by decide) (rfl : shp 57 = (100, 5))]; exact i_inb (by omega) (by omega)) ?_
    refine tot_let (fun T_4 e_T_4 => ?_)
    have h_T_4 : IV R B K1 K2 T_4 := by rw [e_T_4]; exact iv_uI (a := -9) (b := 9) h_T k_n_2 (by decide) (by decide) rfl (by omega) (.inl rfl)
    have x_T_4 := x_T.tr (fw_uA e_T_4 k_n_2 rfl rfl (by decide))
    have f_T_4_o_14 : (T_4.2.2.1 o 14).toInt = (T.2.2.1 o 14).toInt := congrArg Int32.toInt ((fw_uA (W := [1824]) e_T_4 k_n_2 rfl rfl (by decide)) o 14 (by rw [k_o]; decide))
    refine tot_oif (iv_oO h_T_4 k_o (by decide) (by decide) rfl) ?_
    refine tot_let (fun v_5 e_v_5 => ?_)
    have q_v_5 := i_eq e_v_5
    have r_v_5 : 0 ≤ v_5.toInt ∧ v_5.toInt ≤ 5 := iv_int h_T_4 k_o (by decide) (by decide) e_v_5 rfl
    refine tot_let (fun v_6 e_v_6 => ?_)
    have q_v_6 := i_add e_v_6 (by omega) (by omega)
    refine tot_oif (iv_oO h_T_4 k_o (by decide) (by decide) rfl) ?_
    refine tot_let (fun T_7 e_T_7 => ?_)
    have h_T_7 : IV R B K1 K2 T_7 := by rw [e_T_7]; exact iv_uI (a := 0) (b := 5) h_T_4 k_o (by decide) (by decide) rfl (by omega) (.inl rfl)
    have x_T_7 := x_T_4.tr (fw_uI e_T_7 k_o (by decide))
    have f_T_7_o_14 : (T_7.2.2.1 o 14).toInt = (v_6 : Int32).toInt := by rw [e_T_7]; exact congrArg Int32.toInt (uI_at _ _ _ _)
    unfold g_X6_addTap_b28
    exact tot_some ⟨h_T_7, x_T_7⟩
set_option maxHeartbeats 4000000 in
set_option maxRecDepth 10000 in
theorem cl_X3_parseFilter_b31 {R : Nat → Nat} {B K1 K2 : Nat} {Q : Nat × Int32 × AT → Prop} (l0 : Nat) (l1 : Nat) (T00 : AT) (k_l0 : R l0 = 3) (k_l1 : R l1 = 6) (hthr : ∀ (k : Nat) (U : AT), IV R B K1 K2 U → FW R [97, 98, 99, 206, 1824] T00 U → Q (k + 1, 0, U)) (hx0 : ∀ (T : AT), (IV R B K1 K2 T) → (FW R [97, 98, 99, 206, 1824] T00 T) → Tot (g_X3_parseFilter_b81 T) Q) : ∀ (n : Nat) (T : AT) (l2 : Int32), (IV R B K1 K2 T) → (FW R [97, 98, 99, 206, 1824] T00 T) → (1 ≤ l2.toInt ∧ l2.toInt ≤ 5) → 5 - l2.toInt < (n : Int) → Tot (g_X3_parseFilter_b31 n T l0 l1 l2) Q := by
  have z0 : (5 : Int32).toInt = 5 := by decide
  have z1 : (2 : Int32).toInt = 2 := by decide
  have z2 : ((9 : Int32) : Int32).toInt = 9 := by decide
  have z3 : (((-9) : Int32) : Int32).toInt = -9 := by decide
  have z4 : (Int32.ofInt (1) : Int32).toInt = 1 := by decide
  have z5 : (3 : Int32).toInt = 3 := by decide
  have cc_101 : cnt 101 = 1 := rfl
  have cc_102 : cnt 102 = 12 := rfl
  have cc_103 : cnt 103 = 144 := rfl
  have cc_104 : cnt 104 = 2400 := rfl
  have cc_105 : cnt 105 = 7200 := rfl
  intro n
  induction n with
  | zero =>
    intro T l2 h_T x_T g_l2 hm
    exfalso
    omega
  | succ n ih =>
    intro T l2 h_T x_T g_l2 hm
    unfold g_X3_parseFilter_b31
    refine tot_if (fun c_60 => ?_) (fun c_60 => ?_)
    · replace c_60 := i_lt c_60
      exfalso
      omega
    · replace c_60 := i_nlt c_60
      refine tot_oif (iv_oO h_T k_l0 (by decide) (by decide) rfl) ?_
      refine tot_bindq (R := fun r_56 : Int32 => (r_56.toInt = 5 ∨ (T.2.2.1 l0 1).toInt ≤ 1000)) (cs_X3_kind T l0 h_T k_l0 ) (fun r_56 d_r_56 => ?_)
      replace d_r_56 : (r_56.toInt = 5 ∨ (T.2.2.1 l0 1).toInt ≤ 1000) := d_r_56
      refine tot_if (fun c_61 => ?_) (fun c_61 => ?_)
      · replace c_61 := i_eq c_61
        unfold g_X3_parseFilter_b52
        refine tot_if (fun c_64 => ?_) (fun c_64 => ?_)
        · replace c_64 := i_eq c_64
          refine tot_oif (iv_oO h_T k_l0 (by decide) (by decide) rfl) ?_
          refine tot_thri (R := R) (W := [98, 99]) (Q := fun r_62 : Int32 => (False)) (cs_X3_failAsTooMany T l0 (9 : Int32) h_T k_l0 (by omega)) (fun r_62 T_63 i_T_63 y_T_63 d_r_62 => ?_) (fun k_ U_ i_ y_ => hthr _ _ i_ (x_T.tr (y_.w (by decide))))
          have h_T_63 : IV R B K1 K2 T_63 := i_T_63
          have x_T_63 := x_T.tr (y_T_63.w (by decide))
          have f_T_63_l0_1 : (T_63.2.2.1 l0 1).toInt = (T.2.2.1 l0 1).toInt := congrArg Int32.toInt (y_T_63 l0 1 (by rw [k_l0]; decide))
          replace d_r_62 : (False) := d_r_62
          exact d_r_62.elim
        · replace c_64 := i_ne c_64
          unfold g_X3_parseFilter_b63
          refine tot_oif (iv_oO h_T k_l0 (by decide) (by decide) rfl) ?_
          refine tot_thri (R := R) (W := [97, 98, 99]) (Q := fun r_65 : Int32 => ((((-9) : Int32) : Int32).toInt ≤ r_65.toInt ∧ r_65.toInt ≤ ((9 : Int32) : Int32).toInt)) (cs_X3_signed T l0 ((-9) : Int32) (9 : Int32) h_T k_l0 (by omega) (by omega)) (fun r_65 T_66 i_T_66 y_T_66 d_r_65 => ?_) (fun k_ U_ i_ y_ => hthr _ _ i_ (x_T.tr (y_.w (by decide))))
          have h_T_66 : IV R B K1 K2 T_66 := i_T_66
          have x_T_66 := x_T.tr (y_T_66.w (by decide))
          replace d_r_65 : ((((-9) : Int32) : Int32).toInt ≤ r_65.toInt ∧ r_65.toInt ≤ ((9 : Int32) : Int32).toInt) := d_r_65
          refine tot_oif (iv_oO h_T_66 k_l1 (by decide) (by decide) rfl) ?_
          refine tot_bind (cs_X6_addTap T_66 l1 r_65 h_T_66 k_l1 (by omega)) (fun T_67 d_T_67 => ?_)
          have h_T_67 : IV R B K1 K2 T_67 := d_T_67.1
          have y_T_67 : FW R [206, 1824] T_66 T_67 := d_T_67.2
          have x_T_67 := x_T_66.tr (y_T_67.w (by decide))
          have f_T_67_l0_1 : (T_67.2.2.1 l0 1).toInt = (T_66.2.2.1 l0 1).toInt := congrArg Int32.toInt (y_T_67 l0 1 (by rw [k_l0]; decide))
          refine tot_let (fun v_68 e_v_68 => ?_)
          have q_v_68 := i_add e_v_68 (by omega) (by omega)
          exact ih T_67 v_68 h_T_67 x_T_67 (by omega) (by omega)
      · replace c_61 := i_ne c_61
        refine tot_oif (iv_oO h_T k_l0 (by decide) (by decide) rfl) ?_
        refine tot_bindq (R := fun r_58 : Int32 => (r_58.toInt = 5 ∨ (T.2.2.1 l0 1).toInt ≤ 1000)) (cs_X3_kind T l0 h_T k_l0 ) (fun r_58 d_r_58 => ?_)
        replace d_r_58 : (r_58.toInt = 5 ∨ (T.2.2.1 l0 1).toInt ≤ 1000) := d_r_58
        refine tot_if (fun c_69 => ?_) (fun c_69 => ?_)
        · replace c_69 := i_eq c_69
          unfold g_X3_parseFilter_b52
          refine tot_if (fun c_72 => ?_) (fun c_72 => ?_)
          · replace c_72 := i_eq c_72
            refine tot_oif (iv_oO h_T k_l0 (by decide) (by decide) rfl) ?_
            refine tot_thri (R := R) (W := [98, 99]) (Q := fun r_70 : Int32 => (False)) (cs_X3_failAsTooMany T l0 (9 : Int32) h_T k_l0 (by omega)) (fun r_70 T_71 i_T_71 y_T_71 d_r_70 => ?_) (fun k_ U_ i_ y_ => hthr _ _ i_ (x_T.tr (y_.w (by decide))))
            have h_T_71 : IV R B K1 K2 T_71 := i_T_71
            have x_T_71 := x_T.tr (y_T_71.w (by decide))
            have f_T_71_l0_1 : (T_71.2.2.1 l0 1).toInt = (T.2.2.1 l0 1).toInt := congrArg Int32.toInt (y_T_71 l0 1 (by rw [k_l0]; decide))
            replace d_r_70 : (False) := d_r_70
            exact d_r_70.elim
          · replace c_72 := i_ne c_72
            unfold g_X3_parseFilter_b63
            refine tot_oif (iv_oO h_T k_l0 (by decide) (by decide) rfl) ?_
            refine tot_thri (R := R) (W := [97, 98, 99]) (Q := fun r_73 : Int32 => ((((-9) : Int32) : Int32).toInt ≤ r_73.toInt ∧ r_73.toInt ≤ ((9 : Int32) : Int32).toInt)) (cs_X3_signed T l0 ((-9) : Int32) (9 : Int32) h_T k_l0 (by omega) (by omega)) (fun r_73 T_74 i_T_74 y_T_74 d_r_73 => ?_) (fun k_ U_ i_ y_ => hthr _ _ i_ (x_T.tr (y_.w (by decide))))
            have h_T_74 : IV R B K1 K2 T_74 := i_T_74
            have x_T_74 := x_T.tr (y_T_74.w (by decide))
            replace d_r_73 : ((((-9) : Int32) : Int32).toInt ≤ r_73.toInt ∧ r_73.toInt ≤ ((9 : Int32) : Int32).toInt) := d_r_73
            refine tot_oif (iv_oO h_T_74 k_l1 (by decide) (by decide) rfl) ?_
            refine tot_bind (cs_X6_addTap T_74 l1 r_73 h_T_74 k_l1 (by omega)) (fun T_75 d_T_75 => ?_)
            have h_T_75 : IV R B K1 K2 T_75 := d_T_75.1
            have y_T_75 : FW R [206, 1824] T_74 T_75 := d_T_75.2
            have x_T_75 := x_T_74.tr (y_T_75.w (by decide))
            have f_T_75_l0_1 : (T_75.2.2.1 l0 1).toInt = (T_74.2.2.1 l0 1).toInt := congrArg Int32.toInt (y_T_75 l0 1 (by rw [k_l0]; decide))
            refine tot_let (fun v_76 e_v_76 => ?_)
            have q_v_76 := i_add e_v_76 (by omega) (by omega)
            exact ih T_75 v_76 h_T_75 x_T_75 (by omega) (by omega)
        · replace c_69 := i_ne c_69
          exact hx0 T h_T x_T
set_option maxHeartbeats 4000000 in
set_option maxRecDepth 10000 in
theorem cs_X3_parseFilter {R : Nat → Nat} {B K1 K2 : Nat} (T : AT) (o : Nat) (a0 : Nat) (h_T : IV R B K1 K2 T) (k_o : R o = 3) (k_a0 : R a0 = 6) (g0 : (T.2.2.1 o 1).toInt ≤ 1000) : Tot (g_X3_parseFilter T o a0) (fun r => (IV R B K1 K2 r.2.2 ∧ FW R [97, 98, 99, 206, 1824] T r.2.2) ∧ (r.1 = 0 → (0 ≤ r.2.1.toInt ∧ r.2.1.toInt ≤ 0))) := by
  have z0 : (0 : Int32).toInt = 0 := by decide
  have z1 : ((3 : Int32) : Int32).toInt = 3 := by decide
  have z2 : (((-9) : Int32) : Int32).toInt = -9 := by decide
  have z3 : ((9 : Int32) : Int32).toInt = 9 := by decide
  have z4 : (1 : Int32).toInt = 1 := by decide
  have cc_101 : cnt 101 = 1 := rfl
  have cc_102 : cnt 102 = 12 := rfl
  have cc_103 : cnt 103 = 144 := rfl
  have cc_104 : cnt 104 = 2400 := rfl
  have cc_105 : cnt 105 = 7200 := rfl
  have x_T : FW R [97, 98, 99, 206, 1824] T T := FW.rf
  unfold g_X3_parseFilter
  refine tot_oif (iv_oO h_T k_a0 (by decide) (by decide) rfl) ?_
  refine tot_let (fun v_1 e_v_1 => ?_)
  have r_v_1 : 0 ≤ v_1.toInt ∧ v_1.toInt ≤ 5 := iv_int h_T k_a0 (by decide) (by decide) e_v_1 rfl
  refine tot_if (fun c_2 => ?_) (fun c_2 => ?_)
  · replace c_2 := i_le c_2
    unfold g_X3_parseFilter_b13
    refine tot_oif (iv_oO h_T k_o (by decide) (by decide) rfl) ?_
    refine tot_thri (R := R) (W := [97, 98, 99]) (Q := fun r_3 : Int32 => ((0 : Int32).toInt = 0)) (cs_X3_startLine T o 0 (3 : Int32) h_T k_o (by omega) (by omega) (by omega)) (fun r_3 T_4 i_T_4 y_T_4 d_r_3 => ?_) (fun k_ U_ i_ y_ => ⟨⟨i_, x_T.tr (y_.w (by decide))⟩, fun q_ => absurd q_ (Nat.succ_ne_zero k_)⟩)
    have h_T_4 : IV R B K1 K2 T_4 := i_T_4
    have x_T_4 := x_T.tr (y_T_4.w (by decide))
    replace d_r_3 : ((0 : Int32).toInt = 0) := d_r_3
    refine tot_oif (iv_oO h_T_4 k_o (by decide) (by decide) rfl) ?_
    refine tot_thri (R := R) (W := [97, 98, 99]) (Q := fun r_5 : Int32 => ((((-9) : Int32) : Int32).toInt ≤ r_5.toInt ∧ r_5.toInt ≤ ((9 : Int32) : Int32).toInt)) (cs_X3_signed T_4 o ((-9) : Int32) (9 : Int32) h_T_4 k_o (by omega) (by omega)) (fun r_5 T_6 i_T_6 y_T_6 d_r_5 => ?_) (fun k_ U_ i_ y_ => ⟨⟨i_, x_T_4.tr (y_.w (by decide))⟩, fun q_ => absurd q_ (Nat.succ_ne_zero k_)⟩)
    have h_T_6 : IV R B K1 K2 T_6 := i_T_6
    have x_T_6 := x_T_4.tr (y_T_6.w (by decide))
    replace d_r_5 : ((((-9) : Int32) : Int32).toInt ≤ r_5.toInt ∧ r_5.toInt ≤ ((9 : Int32) : Int32).toInt) := d_r_5
    refine tot_oif (iv_oO h_T_6 k_a0 (by decide) (by decide) rfl) ?_
    refine tot_bind (cs_X6_addTap T_6 a0 r_5 h_T_6 k_a0 (by omega)) (fun T_7 d_T_7 => ?_)
    have h_T_7 : IV R B K1 K2 T_7 := d_T_7.1
    have y_T_7 : FW R [206, 1824] T_6 T_7 := d_T_7.2
    have x_T_7 := x_T_6.tr (y_T_7.w (by decide))
    have f_T_7_o_1 : (T_7.2.2.1 o 1).toInt = (T_6.2.2.1 o 1).toInt := congrArg Int32.toInt (y_T_7 o 1 (by rw [k_o]; decide))
    refine cl_X3_parseFilter_b31 o a0 T k_o k_a0 (fun k_ U_ i_ x_ => ⟨⟨i_, x_⟩, fun q_ => absurd q_ (Nat.succ_ne_zero k_)⟩) ?_ 16384 T_7 1 h_T_7 x_T_7 (by omega) (by omega)
    · intro T_77 h_T_77 x_T_77
      unfold g_X3_parseFilter_b81
      exact tot_some ⟨⟨h_T_77, x_T_77⟩, fun _ => (show (0 ≤ (0 : Int32).toInt ∧ (0 : Int32).toInt ≤ 0) from by omega)⟩
  · replace c_2 := i_nle c_2
    unfold g_X3_parseFilter_b13
    refine tot_oif (iv_oO h_T k_o (by decide) (by decide) rfl) ?_
    refine tot_thri (R := R) (W := [97, 98, 99]) (Q := fun r_78 : Int32 => ((1 : Int32).toInt = 0)) (cs_X3_startLine T o 1 (3 : Int32) h_T k_o (by omega) (by omega) (by omega)) (fun r_78 T_79 i_T_79 y_T_79 d_r_78 => ?_) (fun k_ U_ i_ y_ => ⟨⟨i_, x_T.tr (y_.w (by decide))⟩, fun q_ => absurd q_ (Nat.succ_ne_zero k_)⟩)
    have h_T_79 : IV R B K1 K2 T_79 := i_T_79
    have x_T_79 := x_T.tr (y_T_79.w (by decide))
    replace d_r_78 : ((1 : Int32).toInt = 0) := d_r_78
    refine tot_oif (iv_oO h_T_79 k_o (by decide) (by decide) rfl) ?_
    refine tot_thri (R := R) (W := [97, 98, 99]) (Q := fun r_80 : Int32 => ((((-9) : Int32) : Int32).toInt ≤ r_80.toInt ∧ r_80.toInt ≤ ((9 : Int32) : Int32).toInt)) (cs_X3_signed T_79 o ((-9) : Int32) (9 : Int32) h_T_79 k_o (by omega) (by omega)) (fun r_80 T_81 i_T_81 y_T_81 d_r_80 => ?_) (fun k_ U_ i_ y_ => ⟨⟨i_, x_T_79.tr (y_.w (by decide))⟩, fun q_ => absurd q_ (Nat.succ_ne_zero k_)⟩)
    have h_T_81 : IV R B K1 K2 T_81 := i_T_81
    have x_T_81 := x_T_79.tr (y_T_81.w (by decide))
    replace d_r_80 : ((((-9) : Int32) : Int32).toInt ≤ r_80.toInt ∧ r_80.toInt ≤ ((9 : Int32) : Int32).toInt) := d_r_80
    refine tot_oif (iv_oO h_T_81 k_a0 (by decide) (by decide) rfl) ?_
    refine tot_bind (cs_X6_addTap T_81 a0 r_80 h_T_81 k_a0 (by omega)) (fun T_82 d_T_82 => ?_)
    have h_T_82 : IV R B K1 K2 T_82 := d_T_82.1
    have y_T_82 : FW R [206, 1824] T_81 T_82 := d_T_82.2
    have x_T_82 := x_T_81.tr (y_T_82.w (by decide))
    have f_T_82_o_1 : (T_82.2.2.1 o 1).toInt = (T_81.2.2.1 o 1).toInt := congrArg Int32.toInt (y_T_82 o 1 (by rw [k_o]; decide))
    refine cl_X3_parseFilter_b31 o a0 T k_o k_a0 (fun k_ U_ i_ x_ => ⟨⟨i_, x_⟩, fun q_ => absurd q_ (Nat.succ_ne_zero k_)⟩) ?_ 16384 T_82 1 h_T_82 x_T_82 (by omega) (by omega)
    · intro T_83 h_T_83 x_T_83
      unfold g_X3_parseFilter_b81
      exact tot_some ⟨⟨h_T_83, x_T_83⟩, fun _ => (show (0 ≤ (0 : Int32).toInt ∧ (0 : Int32).toInt ≤ 0) from by omega)⟩
set_option maxHeartbeats 4000000 in
set_option maxRecDepth 10000 in
theorem cs_X3_parseWall {R : Nat → Nat} {B K1 K2 : Nat} (T : AT) (o : Nat) (a0 : Nat) (h_T : IV R B K1 K2 T) (k_o : R o = 3) (k_a0 : R a0 = 6) (g0 : (T.2.2.1 o 1).toInt ≤ 1000) : Tot (g_X3_parseWall T o a0) (fun r => (IV R B K1 K2 r.2.2 ∧ FW R [97, 98, 99, 203, 1760, 1792] T r.2.2) ∧ (r.1 = 0 → (0 ≤ r.2.1.toInt ∧ r.2.1.toInt ≤ 0))) := by
  have z0 : (2 : Int32).toInt = 2 := by decide
  have z1 : (0 : Int32).toInt = 0 := by decide
  have z2 : ((4 : Int32) : Int32).toInt = 4 := by decide
  have z3 : (((-2000) : Int32) : Int32).toInt = -2000 := by decide
  have z4 : ((2000 : Int32) : Int32).toInt = 2000 := by decide
  have z5 : ((1 : Int32) : Int32).toInt = 1 := by decide
  have z6 : ((100 : Int32) : Int32).toInt = 100 := by decide
  have z7 : (1 : Int32).toInt = 1 := by decide
  have cc_101 : cnt 101 = 1 := rfl
  have cc_102 : cnt 102 = 12 := rfl
  have cc_103 : cnt 103 = 144 := rfl
  have cc_104 : cnt 104 = 2400 := rfl
  have cc_105 : cnt 105 = 7200 := rfl
  have x_T : FW R [97, 98, 99, 203, 1760, 1792] T T := FW.rf
  unfold g_X3_parseWall
  refine tot_oif (iv_oO h_T k_a0 (by decide) (by decide) rfl) ?_
  refine tot_let (fun v_1 e_v_1 => ?_)
  have q_v_1 := i_eq e_v_1
  have r_v_1 : 0 ≤ v_1.toInt ∧ v_1.toInt ≤ 2 := iv_int h_T k_a0 (by decide) (by decide) e_v_1 rfl
  refine tot_if (fun c_2 => ?_) (fun c_2 => ?_)
  · replace c_2 := i_lt c_2
    unfold g_X3_parseWall_b14
    refine tot_oif (iv_oO h_T k_o (by decide) (by decide) rfl) ?_
    refine tot_thri (R := R) (W := [97, 98, 99]) (Q := fun r_3 : Int32 => ((0 : Int32).toInt = 0)) (cs_X3_startLine T o 0 (4 : Int32) h_T k_o (by omega) (by omega) (by omega)) (fun r_3 T_4 i_T_4 y_T_4 d_r_3 => ?_) (fun k_ U_ i_ y_ => ⟨⟨i_, x_T.tr (y_.w (by decide))⟩, fun q_ => absurd q_ (Nat.succ_ne_zero k_)⟩)
    have h_T_4 : IV R B K1 K2 T_4 := i_T_4
    have x_T_4 := x_T.tr (y_T_4.w (by decide))
    have f_T_4_a0_11 : (T_4.2.2.1 a0 11).toInt = (T.2.2.1 a0 11).toInt := congrArg Int32.toInt (y_T_4 a0 11 (by rw [k_a0]; decide))
    replace d_r_3 : ((0 : Int32).toInt = 0) := d_r_3
    refine tot_oif (iv_oO h_T_4 k_a0 (by decide) (by decide) rfl) ?_
    refine tot_ref h_T_4 k_a0 (by decide) (by decide) (r2 := 55) (rfl : rtg 6 9 = 55) (by decide) (fun n_5 k_n_5 e_n_5 => ?_)
    refine tot_oif (iv_oO h_T_4 k_a0 (by decide) (by decide) rfl) ?_
    refine tot_let (fun v_6 e_v_6 => ?_)
    have q_v_6 := i_eq e_v_6
    have r_v_6 : 0 ≤ v_6.toInt ∧ v_6.toInt ≤ 2 := iv_int h_T_4 k_a0 (by decide) (by decide) e_v_6 rfl
    refine tot_oif (iv_oO h_T_4 k_o (by decide) (by decide) rfl) ?_
    refine tot_thri (R := R) (W := [97, 98, 99]) (Q := fun r_7 : Int32 => ((((-2000) : Int32) : Int32).toInt ≤ r_7.toInt ∧ r_7.toInt ≤ ((2000 : Int32) : Int32).toInt)) (cs_X3_signed T_4 o ((-2000) : Int32) (2000 : Int32) h_T_4 k_o (by omega) (by omega)) (fun r_7 T_8 i_T_8 y_T_8 d_r_7 => ?_) (fun k_ U_ i_ y_ => ⟨⟨i_, x_T_4.tr (y_.w (by decide))⟩, fun q_ => absurd q_ (Nat.succ_ne_zero k_)⟩)
    have h_T_8 : IV R B K1 K2 T_8 := i_T_8
    have x_T_8 := x_T_4.tr (y_T_8.w (by decide))
    have f_T_8_a0_11 : (T_8.2.2.1 a0 11).toInt = (T_4.2.2.1 a0 11).toInt := congrArg Int32.toInt (y_T_8 a0 11 (by rw [k_a0]; decide))
    replace d_r_7 : ((((-2000) : Int32) : Int32).toInt ≤ r_7.toInt ∧ r_7.toInt ≤ ((2000 : Int32) : Int32).toInt) := d_r_7
    refine tot_oif (iv_aA h_T_8 k_n_5 (by decide) (by decide) rfl rfl) ?_
    refine tot_oif (by rw [iv_len h_T_8 k_n_5 (by decide) (by decide) (rfl : shp 55 = (100, 2))]; exact i_inb (by omega) (by omega)) ?_
    refine tot_let (fun T_9 e_T_9 => ?_)
    have h_T_9 : IV R B K1 K2 T_9 := by rw [e_T_9]; exact iv_uI (a := -2000) (b := 2000) h_T_8 k_n_5 (by decide) (by decide) rfl (by omega) (.inl rfl)
    have x_T_9 := x_T_8.tr (fw_uA e_T_9 k_n_5 rfl rfl (by decide))
    have f_T_9_o_1 : (T_9.2.2.1 o 1).toInt = (T_8.2.2.1 o 1).toInt := congrArg Int32.toInt ((fw_uA (W := [1760]) e_T_9 k_n_5 rfl rfl (by decide)) o 1 (by rw [k_o]; decide))
    have f_T_9_a0_11 : (T_9.2.2.1 a0 11).toInt = (T_8.2.2.1 a0 11).toInt := congrArg Int32.toInt ((fw_uA (W := [1760]) e_T_9 k_n_5 rfl rfl (by decide)) a0 11 (by rw [k_a0]; decide))
    refine tot_oif (iv_oO h_T_9 k_a0 (by decide) (by decide) rfl) ?_
    refine tot_ref h_T_9 k_a0 (by decide) (by decide) (r2 := 56) (rfl : rtg 6 10 = 56) (by decide) (fun n_10 k_n_10 e_n_10 => ?_)
    refine tot_oif (iv_oO h_T_9 k_a0 (by decide) (by decide) rfl) ?_
    refine tot_let (fun v_11 e_v_11 => ?_)
    have q_v_11 := i_eq e_v_11
    have r_v_11 : 0 ≤ v_11.toInt ∧ v_11.toInt ≤ 2 := iv_int h_T_9 k_a0 (by decide) (by decide) e_v_11 rfl
    refine tot_oif (iv_oO h_T_9 k_o (by decide) (by decide) rfl) ?_
    refine tot_thri (R := R) (W := [97, 98, 99]) (Q := fun r_12 : Int32 => (((1 : Int32) : Int32).toInt ≤ r_12.toInt ∧ r_12.toInt ≤ ((100 : Int32) : Int32).toInt)) (cs_X3_number T_9 o (1 : Int32) (100 : Int32) h_T_9 k_o ) (fun r_12 T_13 i_T_13 y_T_13 d_r_12 => ?_) (fun k_ U_ i_ y_ => ⟨⟨i_, x_T_9.tr (y_.w (by decide))⟩, fun q_ => absurd q_ (Nat.succ_ne_zero k_)⟩)
    have h_T_13 : IV R B K1 K2 T_13 := i_T_13
    have x_T_13 := x_T_9.tr (y_T_13.w (by decide))
    have f_T_13_a0_11 : (T_13.2.2.1 a0 11).toInt = (T_9.2.2.1 a0 11).toInt := congrArg Int32.toInt (y_T_13 a0 11 (by rw [k_a0]; decide))
    replace d_r_12 : (((1 : Int32) : Int32).toInt ≤ r_12.toInt ∧ r_12.toInt ≤ ((100 : Int32) : Int32).toInt) := d_r_12
    refine tot_oif (iv_aA h_T_13 k_n_10 (by decide) (by decide) rfl rfl) ?_
    refine tot_oif (by rw [iv_len h_T_13 k_n_10 (by decide) (by decide) (rfl : shp 56 = (100, 2))]; exact i_inb (by omega) (by omega)) ?_
    refine tot_let (fun T_14 e_T_14 => ?_)
    have h_T_14 : IV R B K1 K2 T_14 := by rw [e_T_14]; exact iv_uI (a := 0) (b := 100) h_T_13 k_n_10 (by decide) (by decide) rfl (by omega) (.inl rfl)
    have x_T_14 := x_T_13.tr (fw_uA e_T_14 k_n_10 rfl rfl (by decide))
    have f_T_14_o_1 : (T_14.2.2.1 o 1).toInt = (T_13.2.2.1 o 1).toInt := congrArg Int32.toInt ((fw_uA (W := [1792]) e_T_14 k_n_10 rfl rfl (by decide)) o 1 (by rw [k_o]; decide))
    have f_T_14_a0_11 : (T_14.2.2.1 a0 11).toInt = (T_13.2.2.1 a0 11).toInt := congrArg Int32.toInt ((fw_uA (W := [1792]) e_T_14 k_n_10 rfl rfl (by decide)) a0 11 (by rw [k_a0]; decide))
    refine tot_oif (iv_oO h_T_14 k_a0 (by decide) (by decide) rfl) ?_
    refine tot_let (fun v_15 e_v_15 => ?_)
    have q_v_15 := i_eq e_v_15
    have r_v_15 : 0 ≤ v_15.toInt ∧ v_15.toInt ≤ 2 := iv_int h_T_14 k_a0 (by decide) (by decide) e_v_15 rfl
    refine tot_let (fun v_16 e_v_16 => ?_)
    have q_v_16 := i_add e_v_16 (by omega) (by omega)
    refine tot_oif (iv_oO h_T_14 k_a0 (by decide) (by decide) rfl) ?_
    refine tot_let (fun T_17 e_T_17 => ?_)
    have h_T_17 : IV R B K1 K2 T_17 := by rw [e_T_17]; exact iv_uI (a := 0) (b := 2) h_T_14 k_a0 (by decide) (by decide) rfl (by omega) (.inl rfl)
    have x_T_17 := x_T_14.tr (fw_uI e_T_17 k_a0 (by decide))
    have f_T_17_o_1 : (T_17.2.2.1 o 1).toInt = (T_14.2.2.1 o 1).toInt := congrArg Int32.toInt ((fw_uI (W := [203]) e_T_17 k_a0 (by decide)) o 1 (by rw [k_o]; decide))
    have f_T_17_a0_11 : (T_17.2.2.1 a0 11).toInt = (v_16 : Int32).toInt := by rw [e_T_17]; exact congrArg Int32.toInt (uI_at _ _ _ _)
    exact tot_some ⟨⟨h_T_17, x_T_17⟩, fun _ => (show (0 ≤ (0 : Int32).toInt ∧ (0 : Int32).toInt ≤ 0) from by omega)⟩
  · replace c_2 := i_nlt c_2
    unfold g_X3_parseWall_b14
    refine tot_oif (iv_oO h_T k_o (by decide) (by decide) rfl) ?_
    refine tot_thri (R := R) (W := [97, 98, 99]) (Q := fun r_18 : Int32 => ((1 : Int32).toInt = 0)) (cs_X3_startLine T o 1 (4 : Int32) h_T k_o (by omega) (by omega) (by omega)) (fun r_18 T_19 i_T_19 y_T_19 d_r_18 => ?_) (fun k_ U_ i_ y_ => ⟨⟨i_, x_T.tr (y_.w (by decide))⟩, fun q_ => absurd q_ (Nat.succ_ne_zero k_)⟩)
    have h_T_19 : IV R B K1 K2 T_19 := i_T_19
    have x_T_19 := x_T.tr (y_T_19.w (by decide))
    have f_T_19_a0_11 : (T_19.2.2.1 a0 11).toInt = (T.2.2.1 a0 11).toInt := congrArg Int32.toInt (y_T_19 a0 11 (by rw [k_a0]; decide))
    replace d_r_18 : ((1 : Int32).toInt = 0) := d_r_18
    refine tot_oif (iv_oO h_T_19 k_a0 (by decide) (by decide) rfl) ?_
    refine tot_ref h_T_19 k_a0 (by decide) (by decide) (r2 := 55) (rfl : rtg 6 9 = 55) (by decide) (fun n_20 k_n_20 e_n_20 => ?_)
    refine tot_oif (iv_oO h_T_19 k_a0 (by decide) (by decide) rfl) ?_
    refine tot_let (fun v_21 e_v_21 => ?_)
    have q_v_21 := i_eq e_v_21
    have r_v_21 : 0 ≤ v_21.toInt ∧ v_21.toInt ≤ 2 := iv_int h_T_19 k_a0 (by decide) (by decide) e_v_21 rfl
    refine tot_oif (iv_oO h_T_19 k_o (by decide) (by decide) rfl) ?_
    refine tot_thri (R := R) (W := [97, 98, 99]) (Q := fun r_22 : Int32 => ((((-2000) : Int32) : Int32).toInt ≤ r_22.toInt ∧ r_22.toInt ≤ ((2000 : Int32) : Int32).toInt)) (cs_X3_signed T_19 o ((-2000) : Int32) (2000 : Int32) h_T_19 k_o (by omega) (by omega)) (fun r_22 T_23 i_T_23 y_T_23 d_r_22 => ?_) (fun k_ U_ i_ y_ => ⟨⟨i_, x_T_19.tr (y_.w (by decide))⟩, fun q_ => absurd q_ (Nat.succ_ne_zero k_)⟩)
    have h_T_23 : IV R B K1 K2 T_23 := i_T_23
    have x_T_23 := x_T_19.tr (y_T_23.w (by decide))
    have f_T_23_a0_11 : (T_23.2.2.1 a0 11).toInt = (T_19.2.2.1 a0 11).toInt := congrArg Int32.toInt (y_T_23 a0 11 (by rw [k_a0]; decide))
    replace d_r_22 : ((((-2000) : Int32) : Int32).toInt ≤ r_22.toInt ∧ r_22.toInt ≤ ((2000 : Int32) : Int32).toInt) := d_r_22
    refine tot_oif (iv_aA h_T_23 k_n_20 (by decide) (by decide) rfl rfl) ?_
    refine tot_oif (by rw [iv_len h_T_23 k_n_20 (by decide) (by decide) (rfl : shp 55 = (100, 2))]; exact i_inb (by omega) (by omega)) ?_
    refine tot_let (fun T_24 e_T_24 => ?_)
    have h_T_24 : IV R B K1 K2 T_24 := by rw [e_T_24]; exact iv_uI (a := -2000) (b := 2000) h_T_23 k_n_20 (by decide) (by decide) rfl (by omega) (.inl rfl)
    have x_T_24 := x_T_23.tr (fw_uA e_T_24 k_n_20 rfl rfl (by decide))
    have f_T_24_o_1 : (T_24.2.2.1 o 1).toInt = (T_23.2.2.1 o 1).toInt := congrArg Int32.toInt ((fw_uA (W := [1760]) e_T_24 k_n_20 rfl rfl (by decide)) o 1 (by rw [k_o]; decide))
    have f_T_24_a0_11 : (T_24.2.2.1 a0 11).toInt = (T_23.2.2.1 a0 11).toInt := congrArg Int32.toInt ((fw_uA (W := [1760]) e_T_24 k_n_20 rfl rfl (by decide)) a0 11 (by rw [k_a0]; decide))
    refine tot_oif (iv_oO h_T_24 k_a0 (by decide) (by decide) rfl) ?_
    refine tot_ref h_T_24 k_a0 (by decide) (by decide) (r2 := 56) (rfl : rtg 6 10 = 56) (by decide) (fun n_25 k_n_25 e_n_25 => ?_)
    refine tot_oif (iv_oO h_T_24 k_a0 (by decide) (by decide) rfl) ?_
    refine tot_let (fun v_26 e_v_26 => ?_)
    have q_v_26 := i_eq e_v_26
    have r_v_26 : 0 ≤ v_26.toInt ∧ v_26.toInt ≤ 2 := iv_int h_T_24 k_a0 (by decide) (by decide) e_v_26 rfl
    refine tot_oif (iv_oO h_T_24 k_o (by decide) (by decide) rfl) ?_
    refine tot_thri (R := R) (W := [97, 98, 99]) (Q := fun r_27 : Int32 => (((1 : Int32) : Int32).toInt ≤ r_27.toInt ∧ r_27.toInt ≤ ((100 : Int32) : Int32).toInt)) (cs_X3_number T_24 o (1 : Int32) (100 : Int32) h_T_24 k_o ) (fun r_27 T_28 i_T_28 y_T_28 d_r_27 => ?_) (fun k_ U_ i_ y_ => ⟨⟨i_, x_T_24.tr (y_.w (by decide))⟩, fun q_ => absurd q_ (Nat.succ_ne_zero k_)⟩)
    have h_T_28 : IV R B K1 K2 T_28 := i_T_28
    have x_T_28 := x_T_24.tr (y_T_28.w (by decide))
    have f_T_28_a0_11 : (T_28.2.2.1 a0 11).toInt = (T_24.2.2.1 a0 11).toInt := congrArg Int32.toInt (y_T_28 a0 11 (by rw [k_a0]; decide))
    replace d_r_27 : (((1 : Int32) : Int32).toInt ≤ r_27.toInt ∧ r_27.toInt ≤ ((100 : Int32) : Int32).toInt) := d_r_27
    refine tot_oif (iv_aA h_T_28 k_n_25 (by decide) (by decide) rfl rfl) ?_
    refine tot_oif (by rw [iv_len h_T_28 k_n_25 (by decide) (by decide) (rfl : shp 56 = (100, 2))]; exact i_inb (by omega) (by omega)) ?_
    refine tot_let (fun T_29 e_T_29 => ?_)
    have h_T_29 : IV R B K1 K2 T_29 := by rw [e_T_29]; exact iv_uI (a := 0) (b := 100) h_T_28 k_n_25 (by decide) (by decide) rfl (by omega) (.inl rfl)
    have x_T_29 := x_T_28.tr (fw_uA e_T_29 k_n_25 rfl rfl (by decide))
    have f_T_29_o_1 : (T_29.2.2.1 o 1).toInt = (T_28.2.2.1 o 1).toInt := congrArg Int32.toInt ((fw_uA (W := [1792]) e_T_29 k_n_25 rfl rfl (by decide)) o 1 (by rw [k_o]; decide))
    have f_T_29_a0_11 : (T_29.2.2.1 a0 11).toInt = (T_28.2.2.1 a0 11).toInt := congrArg Int32.toInt ((fw_uA (W := [1792]) e_T_29 k_n_25 rfl rfl (by decide)) a0 11 (by rw [k_a0]; decide))
    refine tot_oif (iv_oO h_T_29 k_a0 (by decide) (by decide) rfl) ?_
    refine tot_let (fun v_30 e_v_30 => ?_)
    have q_v_30 := i_eq e_v_30
    have r_v_30 : 0 ≤ v_30.toInt ∧ v_30.toInt ≤ 2 := iv_int h_T_29 k_a0 (by decide) (by decide) e_v_30 rfl
    refine tot_let (fun v_31 e_v_31 => ?_)
    have q_v_31 := i_add e_v_31 (by omega) (by omega)
    refine tot_oif (iv_oO h_T_29 k_a0 (by decide) (by decide) rfl) ?_
    refine tot_let (fun T_32 e_T_32 => ?_)
    have h_T_32 : IV R B K1 K2 T_32 := by rw [e_T_32]; exact iv_uI (a := 0) (b := 2) h_T_29 k_a0 (by decide) (by decide) rfl (by omega) (.inl rfl)
    have x_T_32 := x_T_29.tr (fw_uI e_T_32 k_a0 (by decide))
    have f_T_32_o_1 : (T_32.2.2.1 o 1).toInt = (T_29.2.2.1 o 1).toInt := congrArg Int32.toInt ((fw_uI (W := [203]) e_T_32 k_a0 (by decide)) o 1 (by rw [k_o]; decide))
    have f_T_32_a0_11 : (T_32.2.2.1 a0 11).toInt = (v_31 : Int32).toInt := by rw [e_T_32]; exact congrArg Int32.toInt (uI_at _ _ _ _)
    exact tot_some ⟨⟨h_T_32, x_T_32⟩, fun _ => (show (0 ≤ (0 : Int32).toInt ∧ (0 : Int32).toInt ≤ 0) from by omega)⟩
