set_option maxHeartbeats 4000000 in
set_option maxRecDepth 10000 in
theorem cs_X3_shape {R : Nat → Nat} {B K1 K2 : Nat} (T : AT) (o : Nat) (h_T : IV R B K1 K2 T) (k_o : R o = 3) : Tot (g_X3_shape T o) (fun r => (IV R B K1 K2 r.2.2 ∧ FW R [97, 98, 99] T r.2.2) ∧ (r.1 = 0 → (0 ≤ r.2.1.toInt ∧ r.2.1.toInt ≤ 3))) := by
  have z0 : (0 : Int32).toInt = 0 := by decide
  have z1 : ((1 : Int32) : Int32).toInt = 1 := by decide
  have z2 : (1 : Int32).toInt = 1 := by decide
  have z3 : (3 : Int32).toInt = 3 := by decide
  have z4 : (2 : Int32).toInt = 2 := by decide
  have cc_101 : cnt 101 = 1 := rfl
  have cc_102 : cnt 102 = 12 := rfl
  have cc_103 : cnt 103 = 144 := rfl
  have cc_104 : cnt 104 = 2400 := rfl
  have cc_105 : cnt 105 = 7200 := rfl
  have x_T : FW R [97, 98, 99] T T := FW.rf
  unfold g_X3_shape
  refine tot_oif (iv_oO h_T k_o (by decide) (by decide) rfl) ?_
  refine tot_bindq (R := fun r_1 : Int32 => (0 ≤ r_1.toInt ∧ r_1.toInt ≤ 1 ∧ (r_1.toInt = 0 ∨ (T.2.2.1 o 1).toInt ≤ 1000))) (cs_X3_isWord T (sTx "triangle") o h_T k_o (by decide)) (fun r_1 d_r_1 => ?_)
  replace d_r_1 : (0 ≤ r_1.toInt ∧ r_1.toInt ≤ 1 ∧ (r_1.toInt = 0 ∨ (T.2.2.1 o 1).toInt ≤ 1000)) := d_r_1
  refine tot_if (fun c_12 => ?_) (fun c_12 => ?_)
  · replace c_12 := i_eq c_12
    refine tot_oif (iv_oO h_T k_o (by decide) (by decide) rfl) ?_
    refine tot_bindq (R := fun r_3 : Int32 => (0 ≤ r_3.toInt ∧ r_3.toInt ≤ 1 ∧ (r_3.toInt = 0 ∨ (T.2.2.1 o 1).toInt ≤ 1000))) (cs_X3_isWord T (sTx "pulse") o h_T k_o (by decide)) (fun r_3 d_r_3 => ?_)
    replace d_r_3 : (0 ≤ r_3.toInt ∧ r_3.toInt ≤ 1 ∧ (r_3.toInt = 0 ∨ (T.2.2.1 o 1).toInt ≤ 1000)) := d_r_3
    refine tot_if (fun c_13 => ?_) (fun c_13 => ?_)
    · replace c_13 := i_eq c_13
      refine tot_oif (iv_oO h_T k_o (by decide) (by decide) rfl) ?_
      refine tot_bindq (R := fun r_5 : Int32 => (0 ≤ r_5.toInt ∧ r_5.toInt ≤ 1 ∧ (r_5.toInt = 0 ∨ (T.2.2.1 o 1).toInt ≤ 1000))) (cs_X3_isWord T (sTx "noise") o h_T k_o (by decide)) (fun r_5 d_r_5 => ?_)
      replace d_r_5 : (0 ≤ r_5.toInt ∧ r_5.toInt ≤ 1 ∧ (r_5.toInt = 0 ∨ (T.2.2.1 o 1).toInt ≤ 1000)) := d_r_5
      refine tot_if (fun c_14 => ?_) (fun c_14 => ?_)
      · replace c_14 := i_eq c_14
        refine tot_oif (iv_oO h_T k_o (by decide) (by decide) rfl) ?_
        refine tot_bindq (R := fun r_7 : Int32 => (0 ≤ r_7.toInt ∧ r_7.toInt ≤ 1 ∧ (r_7.toInt = 0 ∨ (T.2.2.1 o 1).toInt ≤ 1000))) (cs_X3_isWord T (sTx "square") o h_T k_o (by decide)) (fun r_7 d_r_7 => ?_)
        replace d_r_7 : (0 ≤ r_7.toInt ∧ r_7.toInt ≤ 1 ∧ (r_7.toInt = 0 ∨ (T.2.2.1 o 1).toInt ≤ 1000)) := d_r_7
        refine tot_if (fun c_15 => ?_) (fun c_15 => ?_)
        · replace c_15 := i_eq c_15
          refine tot_oif (iv_oO h_T k_o (by decide) (by decide) rfl) ?_
          refine tot_let (fun v_9 e_v_9 => ?_)
          have q_v_9 := i_eq e_v_9
          have r_v_9 : 0 ≤ v_9.toInt ∧ v_9.toInt ≤ 1001 := iv_int h_T k_o (by decide) (by decide) e_v_9 rfl
          refine tot_oif (iv_oO h_T k_o (by decide) (by decide) rfl) ?_
          refine tot_thri (R := R) (W := [98, 99]) (Q := fun r_10 : Int32 => (False)) (cs_X3_failAt T o v_9 (1 : Int32) h_T k_o (by omega) (by omega)) (fun r_10 T_11 i_T_11 y_T_11 d_r_10 => ?_) (fun k_ U_ i_ y_ => ⟨⟨i_, x_T.tr (y_.w (by decide))⟩, fun q_ => absurd q_ (Nat.succ_ne_zero k_)⟩)
          have h_T_11 : IV R B K1 K2 T_11 := i_T_11
          have x_T_11 := x_T.tr (y_T_11.w (by decide))
          have f_T_11_o_1 : (T_11.2.2.1 o 1).toInt = (T.2.2.1 o 1).toInt := congrArg Int32.toInt (y_T_11 o 1 (by rw [k_o]; decide))
          replace d_r_10 : (False) := d_r_10
          exact d_r_10.elim
        · replace c_15 := i_ne c_15
          unfold g_X3_shape_b62
          refine tot_oif (iv_oO h_T k_o (by decide) (by decide) rfl) ?_
          refine tot_let (fun v_16 e_v_16 => ?_)
          have q_v_16 := i_eq e_v_16
          have r_v_16 : 0 ≤ v_16.toInt ∧ v_16.toInt ≤ 1001 := iv_int h_T k_o (by decide) (by decide) e_v_16 rfl
          refine tot_let (fun v_17 e_v_17 => ?_)
          have q_v_17 := i_add e_v_17 (by omega) (by omega)
          refine tot_oif (iv_oO h_T k_o (by decide) (by decide) rfl) ?_
          refine tot_let (fun T_18 e_T_18 => ?_)
          have h_T_18 : IV R B K1 K2 T_18 := by rw [e_T_18]; exact iv_uI (a := 0) (b := 1001) h_T k_o (by decide) (by decide) rfl (by omega) (.inl rfl)
          have x_T_18 := x_T.tr (fw_uI e_T_18 k_o (by decide))
          have f_T_18_o_1 : (T_18.2.2.1 o 1).toInt = (v_17 : Int32).toInt := by rw [e_T_18]; exact congrArg Int32.toInt (uI_at _ _ _ _)
          exact tot_some ⟨⟨h_T_18, x_T_18⟩, fun _ => (show (0 ≤ (0 : Int32).toInt ∧ (0 : Int32).toInt ≤ 3) from by omega)⟩
      · replace c_14 := i_ne c_14
        unfold g_X3_shape_b62
        refine tot_oif (iv_oO h_T k_o (by decide) (by decide) rfl) ?_
        refine tot_let (fun v_19 e_v_19 => ?_)
        have q_v_19 := i_eq e_v_19
        have r_v_19 : 0 ≤ v_19.toInt ∧ v_19.toInt ≤ 1001 := iv_int h_T k_o (by decide) (by decide) e_v_19 rfl
        refine tot_let (fun v_20 e_v_20 => ?_)
        have q_v_20 := i_add e_v_20 (by omega) (by omega)
        refine tot_oif (iv_oO h_T k_o (by decide) (by decide) rfl) ?_
        refine tot_let (fun T_21 e_T_21 => ?_)
        have h_T_21 : IV R B K1 K2 T_21 := by rw [e_T_21]; exact iv_uI (a := 0) (b := 1001) h_T k_o (by decide) (by decide) rfl (by omega) (.inl rfl)
        have x_T_21 := x_T.tr (fw_uI e_T_21 k_o (by decide))
        have f_T_21_o_1 : (T_21.2.2.1 o 1).toInt = (v_20 : Int32).toInt := by rw [e_T_21]; exact congrArg Int32.toInt (uI_at _ _ _ _)
        exact tot_some ⟨⟨h_T_21, x_T_21⟩, fun _ => (show (0 ≤ (3 : Int32).toInt ∧ (3 : Int32).toInt ≤ 3) from by omega)⟩
    · replace c_13 := i_ne c_13
      unfold g_X3_shape_b62
      refine tot_oif (iv_oO h_T k_o (by decide) (by decide) rfl) ?_
      refine tot_let (fun v_22 e_v_22 => ?_)
      have q_v_22 := i_eq e_v_22
      have r_v_22 : 0 ≤ v_22.toInt ∧ v_22.toInt ≤ 1001 := iv_int h_T k_o (by decide) (by decide) e_v_22 rfl
      refine tot_let (fun v_23 e_v_23 => ?_)
      have q_v_23 := i_add e_v_23 (by omega) (by omega)
      refine tot_oif (iv_oO h_T k_o (by decide) (by decide) rfl) ?_
      refine tot_let (fun T_24 e_T_24 => ?_)
      have h_T_24 : IV R B K1 K2 T_24 := by rw [e_T_24]; exact iv_uI (a := 0) (b := 1001) h_T k_o (by decide) (by decide) rfl (by omega) (.inl rfl)
      have x_T_24 := x_T.tr (fw_uI e_T_24 k_o (by decide))
      have f_T_24_o_1 : (T_24.2.2.1 o 1).toInt = (v_23 : Int32).toInt := by rw [e_T_24]; exact congrArg Int32.toInt (uI_at _ _ _ _)
      exact tot_some ⟨⟨h_T_24, x_T_24⟩, fun _ => (show (0 ≤ (2 : Int32).toInt ∧ (2 : Int32).toInt ≤ 3) from by omega)⟩
  · replace c_12 := i_ne c_12
    unfold g_X3_shape_b62
    refine tot_oif (iv_oO h_T k_o (by decide) (by decide) rfl) ?_
    refine tot_let (fun v_25 e_v_25 => ?_)
    have q_v_25 := i_eq e_v_25
    have r_v_25 : 0 ≤ v_25.toInt ∧ v_25.toInt ≤ 1001 := iv_int h_T k_o (by decide) (by decide) e_v_25 rfl
    refine tot_let (fun v_26 e_v_26 => ?_)
    have q_v_26 := i_add e_v_26 (by omega) (by omega)
    refine tot_oif (iv_oO h_T k_o (by decide) (by decide) rfl) ?_
    refine tot_let (fun T_27 e_T_27 => ?_)
    have h_T_27 : IV R B K1 K2 T_27 := by rw [e_T_27]; exact iv_uI (a := 0) (b := 1001) h_T k_o (by decide) (by decide) rfl (by omega) (.inl rfl)
    have x_T_27 := x_T.tr (fw_uI e_T_27 k_o (by decide))
    have f_T_27_o_1 : (T_27.2.2.1 o 1).toInt = (v_26 : Int32).toInt := by rw [e_T_27]; exact congrArg Int32.toInt (uI_at _ _ _ _)
    exact tot_some ⟨⟨h_T_27, x_T_27⟩, fun _ => (show (0 ≤ (1 : Int32).toInt ∧ (1 : Int32).toInt ≤ 3) from by omega)⟩
set_option maxHeartbeats 4000000 in
set_option maxRecDepth 10000 in
theorem cs_X3_parseSource {R : Nat → Nat} {B K1 K2 : Nat} (T : AT) (o : Nat) (a0 : Nat) (h_T : IV R B K1 K2 T) (k_o : R o = 3) (k_a0 : R a0 = 6) (g0 : (T.2.2.1 o 1).toInt ≤ 1000) : Tot (g_X3_parseSource T o a0) (fun r => (IV R B K1 K2 r.2.2 ∧ FW R [97, 98, 99, 200, 224, 225, 226, 227, 228, 229, 230, 231, 232, 233] T r.2.2) ∧ (r.1 = 0 → (0 ≤ r.2.1.toInt ∧ r.2.1.toInt ≤ 0))) := by
  have z0 : (6 : Int32).toInt = 6 := by decide
  have z1 : (0 : Int32).toInt = 0 := by decide
  have z2 : ((4 : Int32) : Int32).toInt = 4 := by decide
  have z3 : (((-2000) : Int32) : Int32).toInt = -2000 := by decide
  have z4 : ((2000 : Int32) : Int32).toInt = 2000 := by decide
  have z5 : (((-999) : Int32) : Int32).toInt = -999 := by decide
  have z6 : ((999 : Int32) : Int32).toInt = 999 := by decide
  have z7 : ((1 : Int32) : Int32).toInt = 1 := by decide
  have z8 : ((2 : Int32) : Int32).toInt = 2 := by decide
  have z9 : ((99 : Int32) : Int32).toInt = 99 := by decide
  have z10 : ((0 : Int32) : Int32).toInt = 0 := by decide
  have z11 : (1 : Int32).toInt = 1 := by decide
  have z12 : ((199 : Int32) : Int32).toInt = 199 := by decide
  have cc_101 : cnt 101 = 1 := rfl
  have cc_102 : cnt 102 = 12 := rfl
  have cc_103 : cnt 103 = 144 := rfl
  have cc_104 : cnt 104 = 2400 := rfl
  have cc_105 : cnt 105 = 7200 := rfl
  have x_T : FW R [97, 98, 99, 200, 224, 225, 226, 227, 228, 229, 230, 231, 232, 233] T T := FW.rf
  unfold g_X3_parseSource
  refine tot_oif (iv_oO h_T k_a0 (by decide) (by decide) rfl) ?_
  refine tot_let (fun v_1 e_v_1 => ?_)
  have q_v_1 := i_eq e_v_1
  have r_v_1 : 0 ≤ v_1.toInt ∧ v_1.toInt ≤ 6 := iv_int h_T k_a0 (by decide) (by decide) e_v_1 rfl
  refine tot_if (fun c_2 => ?_) (fun c_2 => ?_)
  · replace c_2 := i_lt c_2
    unfold g_X3_parseSource_b15
    refine tot_oif (iv_oO h_T k_o (by decide) (by decide) rfl) ?_
    refine tot_thri (R := R) (W := [97, 98, 99]) (Q := fun r_3 : Int32 => ((0 : Int32).toInt = 0)) (cs_X3_startLine T o 0 (4 : Int32) h_T k_o (by omega) (by omega) (by omega)) (fun r_3 T_4 i_T_4 y_T_4 d_r_3 => ?_) (fun k_ U_ i_ y_ => ⟨⟨i_, x_T.tr (y_.w (by decide))⟩, fun q_ => absurd q_ (Nat.succ_ne_zero k_)⟩)
    have h_T_4 : IV R B K1 K2 T_4 := i_T_4
    have x_T_4 := x_T.tr (y_T_4.w (by decide))
    have f_T_4_a0_8 : (T_4.2.2.1 a0 8).toInt = (T.2.2.1 a0 8).toInt := congrArg Int32.toInt (y_T_4 a0 8 (by rw [k_a0]; decide))
    replace d_r_3 : ((0 : Int32).toInt = 0) := d_r_3
    refine tot_oif (iv_oO h_T_4 k_a0 (by decide) (by decide) rfl) ?_
    refine tot_ref h_T_4 k_a0 (by decide) (by decide) (r2 := 54) (rfl : rtg 6 7 = 54) (by decide) (fun n_5 k_n_5 e_n_5 => ?_)
    refine tot_oif (iv_oO h_T_4 k_a0 (by decide) (by decide) rfl) ?_
    refine tot_let (fun v_6 e_v_6 => ?_)
    have q_v_6 := i_eq e_v_6
    have r_v_6 : 0 ≤ v_6.toInt ∧ v_6.toInt ≤ 6 := iv_int h_T_4 k_a0 (by decide) (by decide) e_v_6 rfl
    refine tot_oif (iv_aA h_T_4 k_n_5 (by decide) (by decide) rfl rfl) ?_
    refine tot_oif (by rw [iv_len h_T_4 k_n_5 (by decide) (by decide) (rfl : shp 54 = (104, 6))]; exact i_inb (by omega) (by omega)) ?_
    refine tot_ref h_T_4 k_n_5 (by decide) (by decide) (r2 := 7) (rt_54 (by omega) (by omega)) (by decide) (fun n_7 k_n_7 e_n_7 => ?_)
    refine tot_oif (iv_oO h_T_4 k_o (by decide) (by decide) rfl) ?_
    refine tot_thri (R := R) (W := [97, 98, 99]) (Q := fun r_8 : Int32 => (0 ≤ r_8.toInt ∧ r_8.toInt ≤ 3)) (cs_X3_shape T_4 o h_T_4 k_o ) (fun r_8 T_9 i_T_9 y_T_9 d_r_8 => ?_) (fun k_ U_ i_ y_ => ⟨⟨i_, x_T_4.tr (y_.w (by decide))⟩, fun q_ => absurd q_ (Nat.succ_ne_zero k_)⟩)
    have h_T_9 : IV R B K1 K2 T_9 := i_T_9
    have x_T_9 := x_T_4.tr (y_T_9.w (by decide))
    have f_T_9_a0_8 : (T_9.2.2.1 a0 8).toInt = (T_4.2.2.1 a0 8).toInt := congrArg Int32.toInt (y_T_9 a0 8 (by rw [k_a0]; decide))
    replace d_r_8 : (0 ≤ r_8.toInt ∧ r_8.toInt ≤ 3) := d_r_8
    refine tot_oif (iv_oO h_T_9 k_n_7 (by decide) (by decide) rfl) ?_
    refine tot_let (fun T_10 e_T_10 => ?_)
    have h_T_10 : IV R B K1 K2 T_10 := by rw [e_T_10]; exact iv_uI (a := 0) (b := 3) h_T_9 k_n_7 (by decide) (by decide) rfl (by omega) (.inl rfl)
    have x_T_10 := x_T_9.tr (fw_uI e_T_10 k_n_7 (by decide))
    have f_T_10_o_1 : (T_10.2.2.1 o 1).toInt = (T_9.2.2.1 o 1).toInt := congrArg Int32.toInt ((fw_uI (W := [224]) e_T_10 k_n_7 (by decide)) o 1 (by rw [k_o]; decide))
    have f_T_10_a0_8 : (T_10.2.2.1 a0 8).toInt = (T_9.2.2.1 a0 8).toInt := congrArg Int32.toInt ((fw_uI (W := [224]) e_T_10 k_n_7 (by decide)) a0 8 (by rw [k_a0]; decide))
    refine tot_oif (iv_oO h_T_10 k_o (by decide) (by decide) rfl) ?_
    refine tot_thri (R := R) (W := [97, 98, 99]) (Q := fun r_11 : Int32 => ((((-2000) : Int32) : Int32).toInt ≤ r_11.toInt ∧ r_11.toInt ≤ ((2000 : Int32) : Int32).toInt)) (cs_X3_signed T_10 o ((-2000) : Int32) (2000 : Int32) h_T_10 k_o (by omega) (by omega)) (fun r_11 T_12 i_T_12 y_T_12 d_r_11 => ?_) (fun k_ U_ i_ y_ => ⟨⟨i_, x_T_10.tr (y_.w (by decide))⟩, fun q_ => absurd q_ (Nat.succ_ne_zero k_)⟩)
    have h_T_12 : IV R B K1 K2 T_12 := i_T_12
    have x_T_12 := x_T_10.tr (y_T_12.w (by decide))
    have f_T_12_a0_8 : (T_12.2.2.1 a0 8).toInt = (T_10.2.2.1 a0 8).toInt := congrArg Int32.toInt (y_T_12 a0 8 (by rw [k_a0]; decide))
    replace d_r_11 : ((((-2000) : Int32) : Int32).toInt ≤ r_11.toInt ∧ r_11.toInt ≤ ((2000 : Int32) : Int32).toInt) := d_r_11
    refine tot_oif (iv_oO h_T_12 k_n_7 (by decide) (by decide) rfl) ?_
    refine tot_let (fun T_13 e_T_13 => ?_)
    have h_T_13 : IV R B K1 K2 T_13 := by rw [e_T_13]; exact iv_uI (a := -2000) (b := 2000) h_T_12 k_n_7 (by decide) (by decide) rfl (by omega) (.inl rfl)
    have x_T_13 := x_T_12.tr (fw_uI e_T_13 k_n_7 (by decide))
    have f_T_13_o_1 : (T_13.2.2.1 o 1).toInt = (T_12.2.2.1 o 1).toInt := congrArg Int32.toInt ((fw_uI (W := [225]) e_T_13 k_n_7 (by decide)) o 1 (by rw [k_o]; decide))
    have f_T_13_a0_8 : (T_13.2.2.1 a0 8).toInt = (T_12.2.2.1 a0 8).toInt := congrArg Int32.toInt ((fw_uI (W := [225]) e_T_13 k_n_7 (by decide)) a0 8 (by rw [k_a0]; decide))
    refine tot_oif (iv_oO h_T_13 k_o (by decide) (by decide) rfl) ?_
    refine tot_thri (R := R) (W := [97, 98, 99]) (Q := fun r_14 : Int32 => ((((-2000) : Int32) : Int32).toInt ≤ r_14.toInt ∧ r_14.toInt ≤ ((2000 : Int32) : Int32).toInt)) (cs_X3_signed T_13 o ((-2000) : Int32) (2000 : Int32) h_T_13 k_o (by omega) (by omega)) (fun r_14 T_15 i_T_15 y_T_15 d_r_14 => ?_) (fun k_ U_ i_ y_ => ⟨⟨i_, x_T_13.tr (y_.w (by decide))⟩, fun q_ => absurd q_ (Nat.succ_ne_zero k_)⟩)
    have h_T_15 : IV R B K1 K2 T_15 := i_T_15
    have x_T_15 := x_T_13.tr (y_T_15.w (by decide))
    have f_T_15_a0_8 : (T_15.2.2.1 a0 8).toInt = (T_13.2.2.1 a0 8).toInt := congrArg Int32.toInt (y_T_15 a0 8 (by rw [k_a0]; decide))
    replace d_r_14 : ((((-2000) : Int32) : Int32).toInt ≤ r_14.toInt ∧ r_14.toInt ≤ ((2000 : Int32) : Int32).toInt) := d_r_14
    refine tot_oif (iv_oO h_T_15 k_n_7 (by decide) (by decide) rfl) ?_
    refine tot_let (fun T_16 e_T_16 => ?_)
    have h_T_16 : IV R B K1 K2 T_16 := by rw [e_T_16]; exact iv_uI (a := -2000) (b := 2000) h_T_15 k_n_7 (by decide) (by decide) rfl (by omega) (.inl rfl)
    have x_T_16 := x_T_15.tr (fw_uI e_T_16 k_n_7 (by decide))
    have f_T_16_o_1 : (T_16.2.2.1 o 1).toInt = (T_15.2.2.1 o 1).toInt := congrArg Int32.toInt ((fw_uI (W := [226]) e_T_16 k_n_7 (by decide)) o 1 (by rw [k_o]; decide))
    have f_T_16_a0_8 : (T_16.2.2.1 a0 8).toInt = (T_15.2.2.1 a0 8).toInt := congrArg Int32.toInt ((fw_uI (W := [226]) e_T_16 k_n_7 (by decide)) a0 8 (by rw [k_a0]; decide))
    refine tot_oif (iv_oO h_T_16 k_o (by decide) (by decide) rfl) ?_
    refine tot_thri (R := R) (W := [97, 98, 99]) (Q := fun r_17 : Int32 => ((((-999) : Int32) : Int32).toInt ≤ r_17.toInt ∧ r_17.toInt ≤ ((999 : Int32) : Int32).toInt)) (cs_X3_signed T_16 o ((-999) : Int32) (999 : Int32) h_T_16 k_o (by omega) (by omega)) (fun r_17 T_18 i_T_18 y_T_18 d_r_17 => ?_) (fun k_ U_ i_ y_ => ⟨⟨i_, x_T_16.tr (y_.w (by decide))⟩, fun q_ => absurd q_ (Nat.succ_ne_zero k_)⟩)
    have h_T_18 : IV R B K1 K2 T_18 := i_T_18
    have x_T_18 := x_T_16.tr (y_T_18.w (by decide))
    have f_T_18_a0_8 : (T_18.2.2.1 a0 8).toInt = (T_16.2.2.1 a0 8).toInt := congrArg Int32.toInt (y_T_18 a0 8 (by rw [k_a0]; decide))
    replace d_r_17 : ((((-999) : Int32) : Int32).toInt ≤ r_17.toInt ∧ r_17.toInt ≤ ((999 : Int32) : Int32).toInt) := d_r_17
    refine tot_oif (iv_oO h_T_18 k_n_7 (by decide) (by decide) rfl) ?_
    refine tot_let (fun T_19 e_T_19 => ?_)
    have h_T_19 : IV R B K1 K2 T_19 := by rw [e_T_19]; exact iv_uI (a := -999) (b := 999) h_T_18 k_n_7 (by decide) (by decide) rfl (by omega) (.inl rfl)
    have x_T_19 := x_T_18.tr (fw_uI e_T_19 k_n_7 (by decide))
    have f_T_19_o_1 : (T_19.2.2.1 o 1).toInt = (T_18.2.2.1 o 1).toInt := congrArg Int32.toInt ((fw_uI (W := [227]) e_T_19 k_n_7 (by decide)) o 1 (by rw [k_o]; decide))
    have f_T_19_a0_8 : (T_19.2.2.1 a0 8).toInt = (T_18.2.2.1 a0 8).toInt := congrArg Int32.toInt ((fw_uI (W := [227]) e_T_19 k_n_7 (by decide)) a0 8 (by rw [k_a0]; decide))
    refine tot_oif (iv_oO h_T_19 k_o (by decide) (by decide) rfl) ?_
    refine tot_thri (R := R) (W := [97, 98, 99]) (Q := fun r_20 : Int32 => ((((-999) : Int32) : Int32).toInt ≤ r_20.toInt ∧ r_20.toInt ≤ ((999 : Int32) : Int32).toInt)) (cs_X3_signed T_19 o ((-999) : Int32) (999 : Int32) h_T_19 k_o (by omega) (by omega)) (fun r_20 T_21 i_T_21 y_T_21 d_r_20 => ?_) (fun k_ U_ i_ y_ => ⟨⟨i_, x_T_19.tr (y_.w (by decide))⟩, fun q_ => absurd q_ (Nat.succ_ne_zero k_)⟩)
    have h_T_21 : IV R B K1 K2 T_21 := i_T_21
    have x_T_21 := x_T_19.tr (y_T_21.w (by decide))
    have f_T_21_a0_8 : (T_21.2.2.1 a0 8).toInt = (T_19.2.2.1 a0 8).toInt := congrArg Int32.toInt (y_T_21 a0 8 (by rw [k_a0]; decide))
    replace d_r_20 : ((((-999) : Int32) : Int32).toInt ≤ r_20.toInt ∧ r_20.toInt ≤ ((999 : Int32) : Int32).toInt) := d_r_20
    refine tot_oif (iv_oO h_T_21 k_n_7 (by decide) (by decide) rfl) ?_
    refine tot_let (fun T_22 e_T_22 => ?_)
    have h_T_22 : IV R B K1 K2 T_22 := by rw [e_T_22]; exact iv_uI (a := -999) (b := 999) h_T_21 k_n_7 (by decide) (by decide) rfl (by omega) (.inl rfl)
    have x_T_22 := x_T_21.tr (fw_uI e_T_22 k_n_7 (by decide))
    have f_T_22_o_1 : (T_22.2.2.1 o 1).toInt = (T_21.2.2.1 o 1).toInt := congrArg Int32.toInt ((fw_uI (W := [228]) e_T_22 k_n_7 (by decide)) o 1 (by rw [k_o]; decide))
    have f_T_22_a0_8 : (T_22.2.2.1 a0 8).toInt = (T_21.2.2.1 a0 8).toInt := congrArg Int32.toInt ((fw_uI (W := [228]) e_T_22 k_n_7 (by decide)) a0 8 (by rw [k_a0]; decide))
    refine tot_oif (iv_oO h_T_22 k_o (by decide) (by decide) rfl) ?_
    refine tot_thri (R := R) (W := [97, 98, 99]) (Q := fun r_23 : Int32 => (((1 : Int32) : Int32).toInt ≤ r_23.toInt ∧ r_23.toInt ≤ ((999 : Int32) : Int32).toInt)) (cs_X3_number T_22 o (1 : Int32) (999 : Int32) h_T_22 k_o ) (fun r_23 T_24 i_T_24 y_T_24 d_r_23 => ?_) (fun k_ U_ i_ y_ => ⟨⟨i_, x_T_22.tr (y_.w (by decide))⟩, fun q_ => absurd q_ (Nat.succ_ne_zero k_)⟩)
    have h_T_24 : IV R B K1 K2 T_24 := i_T_24
    have x_T_24 := x_T_22.tr (y_T_24.w (by decide))
    have f_T_24_a0_8 : (T_24.2.2.1 a0 8).toInt = (T_22.2.2.1 a0 8).toInt := congrArg Int32.toInt (y_T_24 a0 8 (by rw [k_a0]; decide))
    replace d_r_23 : (((1 : Int32) : Int32).toInt ≤ r_23.toInt ∧ r_23.toInt ≤ ((999 : Int32) : Int32).toInt) := d_r_23
    refine tot_oif (iv_oO h_T_24 k_n_7 (by decide) (by decide) rfl) ?_
    refine tot_let (fun T_25 e_T_25 => ?_)
    have h_T_25 : IV R B K1 K2 T_25 := by rw [e_T_25]; exact iv_uI (a := 0) (b := 999) h_T_24 k_n_7 (by decide) (by decide) rfl (by omega) (.inl rfl)
    have x_T_25 := x_T_24.tr (fw_uI e_T_25 k_n_7 (by decide))
    have f_T_25_o_1 : (T_25.2.2.1 o 1).toInt = (T_24.2.2.1 o 1).toInt := congrArg Int32.toInt ((fw_uI (W := [229]) e_T_25 k_n_7 (by decide)) o 1 (by rw [k_o]; decide))
    have f_T_25_a0_8 : (T_25.2.2.1 a0 8).toInt = (T_24.2.2.1 a0 8).toInt := congrArg Int32.toInt ((fw_uI (W := [229]) e_T_25 k_n_7 (by decide)) a0 8 (by rw [k_a0]; decide))
    refine tot_oif (iv_oO h_T_25 k_o (by decide) (by decide) rfl) ?_
    refine tot_thri (R := R) (W := [97, 98, 99]) (Q := fun r_26 : Int32 => (((2 : Int32) : Int32).toInt ≤ r_26.toInt ∧ r_26.toInt ≤ ((99 : Int32) : Int32).toInt)) (cs_X3_number T_25 o (2 : Int32) (99 : Int32) h_T_25 k_o ) (fun r_26 T_27 i_T_27 y_T_27 d_r_26 => ?_) (fun k_ U_ i_ y_ => ⟨⟨i_, x_T_25.tr (y_.w (by decide))⟩, fun q_ => absurd q_ (Nat.succ_ne_zero k_)⟩)
    have h_T_27 : IV R B K1 K2 T_27 := i_T_27
    have x_T_27 := x_T_25.tr (y_T_27.w (by decide))
    have f_T_27_a0_8 : (T_27.2.2.1 a0 8).toInt = (T_25.2.2.1 a0 8).toInt := congrArg Int32.toInt (y_T_27 a0 8 (by rw [k_a0]; decide))
    replace d_r_26 : (((2 : Int32) : Int32).toInt ≤ r_26.toInt ∧ r_26.toInt ≤ ((99 : Int32) : Int32).toInt) := d_r_26
    refine tot_oif (iv_oO h_T_27 k_n_7 (by decide) (by decide) rfl) ?_
    refine tot_let (fun T_28 e_T_28 => ?_)
    have h_T_28 : IV R B K1 K2 T_28 := by rw [e_T_28]; exact iv_uI (a := 0) (b := 99) h_T_27 k_n_7 (by decide) (by decide) rfl (by omega) (.inl rfl)
    have x_T_28 := x_T_27.tr (fw_uI e_T_28 k_n_7 (by decide))
    have f_T_28_o_1 : (T_28.2.2.1 o 1).toInt = (T_27.2.2.1 o 1).toInt := congrArg Int32.toInt ((fw_uI (W := [230]) e_T_28 k_n_7 (by decide)) o 1 (by rw [k_o]; decide))
    have f_T_28_a0_8 : (T_28.2.2.1 a0 8).toInt = (T_27.2.2.1 a0 8).toInt := congrArg Int32.toInt ((fw_uI (W := [230]) e_T_28 k_n_7 (by decide)) a0 8 (by rw [k_a0]; decide))
    refine tot_oif (iv_oO h_T_28 k_o (by decide) (by decide) rfl) ?_
    refine tot_thri (R := R) (W := [97, 98, 99]) (Q := fun r_29 : Int32 => (((0 : Int32) : Int32).toInt ≤ r_29.toInt ∧ r_29.toInt ≤ ((99 : Int32) : Int32).toInt)) (cs_X3_number T_28 o (0 : Int32) (99 : Int32) h_T_28 k_o ) (fun r_29 T_30 i_T_30 y_T_30 d_r_29 => ?_) (fun k_ U_ i_ y_ => ⟨⟨i_, x_T_28.tr (y_.w (by decide))⟩, fun q_ => absurd q_ (Nat.succ_ne_zero k_)⟩)
    have h_T_30 : IV R B K1 K2 T_30 := i_T_30
    have x_T_30 := x_T_28.tr (y_T_30.w (by decide))
    have f_T_30_a0_8 : (T_30.2.2.1 a0 8).toInt = (T_28.2.2.1 a0 8).toInt := congrArg Int32.toInt (y_T_30 a0 8 (by rw [k_a0]; decide))
    replace d_r_29 : (((0 : Int32) : Int32).toInt ≤ r_29.toInt ∧ r_29.toInt ≤ ((99 : Int32) : Int32).toInt) := d_r_29
    refine tot_oif (iv_oO h_T_30 k_n_7 (by decide) (by decide) rfl) ?_
    refine tot_let (fun T_31 e_T_31 => ?_)
    have h_T_31 : IV R B K1 K2 T_31 := by rw [e_T_31]; exact iv_uI (a := 0) (b := 99) h_T_30 k_n_7 (by decide) (by decide) rfl (by omega) (.inl rfl)
    have x_T_31 := x_T_30.tr (fw_uI e_T_31 k_n_7 (by decide))
    have f_T_31_o_1 : (T_31.2.2.1 o 1).toInt = (T_30.2.2.1 o 1).toInt := congrArg Int32.toInt ((fw_uI (W := [231]) e_T_31 k_n_7 (by decide)) o 1 (by rw [k_o]; decide))
    have f_T_31_a0_8 : (T_31.2.2.1 a0 8).toInt = (T_30.2.2.1 a0 8).toInt := congrArg Int32.toInt ((fw_uI (W := [231]) e_T_31 k_n_7 (by decide)) a0 8 (by rw [k_a0]; decide))
    refine tot_oif (iv_oO h_T_31 k_n_7 (by decide) (by decide) rfl) ?_
    refine tot_let (fun T_32 e_T_32 => ?_)
    have h_T_32 : IV R B K1 K2 T_32 := by rw [e_T_32]; exact iv_uI (a := 0) (b := 199) h_T_31 k_n_7 (by decide) (by decide) rfl (by omega) (.inl rfl)
    have x_T_32 := x_T_31.tr (fw_uI e_T_32 k_n_7 (by decide))
    have f_T_32_o_1 : (T_32.2.2.1 o 1).toInt = (T_31.2.2.1 o 1).toInt := congrArg Int32.toInt ((fw_uI (W := [232]) e_T_32 k_n_7 (by decide)) o 1 (by rw [k_o]; decide))
    have f_T_32_a0_8 : (T_32.2.2.1 a0 8).toInt = (T_31.2.2.1 a0 8).toInt := congrArg Int32.toInt ((fw_uI (W := [232]) e_T_32 k_n_7 (by decide)) a0 8 (by rw [k_a0]; decide))
    refine tot_oif (iv_oO h_T_32 k_n_7 (by decide) (by decide) rfl) ?_
    refine tot_let (fun T_33 e_T_33 => ?_)
    have h_T_33 : IV R B K1 K2 T_33 := by rw [e_T_33]; exact iv_uI (a := 0) (b := 1) h_T_32 k_n_7 (by decide) (by decide) rfl (by omega) (.inl rfl)
    have x_T_33 := x_T_32.tr (fw_uI e_T_33 k_n_7 (by decide))
    have f_T_33_o_1 : (T_33.2.2.1 o 1).toInt = (T_32.2.2.1 o 1).toInt := congrArg Int32.toInt ((fw_uI (W := [233]) e_T_33 k_n_7 (by decide)) o 1 (by rw [k_o]; decide))
    have f_T_33_a0_8 : (T_33.2.2.1 a0 8).toInt = (T_32.2.2.1 a0 8).toInt := congrArg Int32.toInt ((fw_uI (W := [233]) e_T_33 k_n_7 (by decide)) a0 8 (by rw [k_a0]; decide))
    refine tot_oif (iv_oO h_T_33 k_o (by decide) (by decide) rfl) ?_
    refine tot_bindq (R := fun r_34 : Int32 => (0 ≤ r_34.toInt ∧ r_34.toInt ≤ 1 ∧ (r_34.toInt = 0 ∨ (T_33.2.2.1 o 1).toInt ≤ 1000))) (cs_X3_isWord T_33 (sTx "from") o h_T_33 k_o (by decide)) (fun r_34 d_r_34 => ?_)
    replace d_r_34 : (0 ≤ r_34.toInt ∧ r_34.toInt ≤ 1 ∧ (r_34.toInt = 0 ∨ (T_33.2.2.1 o 1).toInt ≤ 1000)) := d_r_34
    refine tot_if (fun c_42 => ?_) (fun c_42 => ?_)
    · replace c_42 := i_eq c_42
      unfold g_X3_parseSource_b168
      refine tot_oif (iv_oO h_T_33 k_a0 (by decide) (by decide) rfl) ?_
      refine tot_let (fun v_43 e_v_43 => ?_)
      have q_v_43 := i_eq e_v_43
      have r_v_43 : 0 ≤ v_43.toInt ∧ v_43.toInt ≤ 6 := iv_int h_T_33 k_a0 (by decide) (by decide) e_v_43 rfl
      refine tot_let (fun v_44 e_v_44 => ?_)
      have q_v_44 := i_add e_v_44 (by omega) (by omega)
      refine tot_oif (iv_oO h_T_33 k_a0 (by decide) (by decide) rfl) ?_
      refine tot_let (fun T_45 e_T_45 => ?_)
      have h_T_45 : IV R B K1 K2 T_45 := by rw [e_T_45]; exact iv_uI (a := 0) (b := 6) h_T_33 k_a0 (by decide) (by decide) rfl (by omega) (.inl rfl)
      have x_T_45 := x_T_33.tr (fw_uI e_T_45 k_a0 (by decide))
      have f_T_45_o_1 : (T_45.2.2.1 o 1).toInt = (T_33.2.2.1 o 1).toInt := congrArg Int32.toInt ((fw_uI (W := [200]) e_T_45 k_a0 (by decide)) o 1 (by rw [k_o]; decide))
      have f_T_45_a0_8 : (T_45.2.2.1 a0 8).toInt = (v_44 : Int32).toInt := by rw [e_T_45]; exact congrArg Int32.toInt (uI_at _ _ _ _)
      exact tot_some ⟨⟨h_T_45, x_T_45⟩, fun _ => (show (0 ≤ (0 : Int32).toInt ∧ (0 : Int32).toInt ≤ 0) from by omega)⟩
    · replace c_42 := i_ne c_42
      refine tot_oif (iv_oO h_T_33 k_o (by decide) (by decide) rfl) ?_
      refine tot_let (fun v_36 e_v_36 => ?_)
      have q_v_36 := i_eq e_v_36
      have r_v_36 : 0 ≤ v_36.toInt ∧ v_36.toInt ≤ 1001 := iv_int h_T_33 k_o (by decide) (by decide) e_v_36 rfl
      refine tot_let (fun v_37 e_v_37 => ?_)
      have q_v_37 := i_add e_v_37 (by omega) (by omega)
      refine tot_oif (iv_oO h_T_33 k_o (by decide) (by decide) rfl) ?_
      refine tot_let (fun T_38 e_T_38 => ?_)
      have h_T_38 : IV R B K1 K2 T_38 := by rw [e_T_38]; exact iv_uI (a := 0) (b := 1001) h_T_33 k_o (by decide) (by decide) rfl (by omega) (.inl rfl)
      have x_T_38 := x_T_33.tr (fw_uI e_T_38 k_o (by decide))
      have f_T_38_o_1 : (T_38.2.2.1 o 1).toInt = (v_37 : Int32).toInt := by rw [e_T_38]; exact congrArg Int32.toInt (uI_at _ _ _ _)
      have f_T_38_a0_8 : (T_38.2.2.1 a0 8).toInt = (T_33.2.2.1 a0 8).toInt := congrArg Int32.toInt ((fw_uI (W := [97]) e_T_38 k_o (by decide)) a0 8 (by rw [k_a0]; decide))
      refine tot_oif (iv_oO h_T_38 k_o (by decide) (by decide) rfl) ?_
      refine tot_thri (R := R) (W := [97, 98, 99]) (Q := fun r_39 : Int32 => (((0 : Int32) : Int32).toInt ≤ r_39.toInt ∧ r_39.toInt ≤ ((199 : Int32) : Int32).toInt)) (cs_X3_number T_38 o (0 : Int32) (199 : Int32) h_T_38 k_o ) (fun r_39 T_40 i_T_40 y_T_40 d_r_39 => ?_) (fun k_ U_ i_ y_ => ⟨⟨i_, x_T_38.tr (y_.w (by decide))⟩, fun q_ => absurd q_ (Nat.succ_ne_zero k_)⟩)
      have h_T_40 : IV R B K1 K2 T_40 := i_T_40
      have x_T_40 := x_T_38.tr (y_T_40.w (by decide))
      have f_T_40_a0_8 : (T_40.2.2.1 a0 8).toInt = (T_38.2.2.1 a0 8).toInt := congrArg Int32.toInt (y_T_40 a0 8 (by rw [k_a0]; decide))
      replace d_r_39 : (((0 : Int32) : Int32).toInt ≤ r_39.toInt ∧ r_39.toInt ≤ ((199 : Int32) : Int32).toInt) := d_r_39
      refine tot_oif (iv_oO h_T_40 k_n_7 (by decide) (by decide) rfl) ?_
      refine tot_let (fun T_41 e_T_41 => ?_)
      have h_T_41 : IV R B K1 K2 T_41 := by rw [e_T_41]; exact iv_uI (a := 0) (b := 199) h_T_40 k_n_7 (by decide) (by decide) rfl (by omega) (.inl rfl)
      have x_T_41 := x_T_40.tr (fw_uI e_T_41 k_n_7 (by decide))
      have f_T_41_o_1 : (T_41.2.2.1 o 1).toInt = (T_40.2.2.1 o 1).toInt := congrArg Int32.toInt ((fw_uI (W := [232]) e_T_41 k_n_7 (by decide)) o 1 (by rw [k_o]; decide))
      have f_T_41_a0_8 : (T_41.2.2.1 a0 8).toInt = (T_40.2.2.1 a0 8).toInt := congrArg Int32.toInt ((fw_uI (W := [232]) e_T_41 k_n_7 (by decide)) a0 8 (by rw [k_a0]; decide))
      unfold g_X3_parseSource_b168
      refine tot_oif (iv_oO h_T_41 k_a0 (by decide) (by decide) rfl) ?_
      refine tot_let (fun v_46 e_v_46 => ?_)
      have q_v_46 := i_eq e_v_46
      have r_v_46 : 0 ≤ v_46.toInt ∧ v_46.toInt ≤ 6 := iv_int h_T_41 k_a0 (by decide) (by decide) e_v_46 rfl
      refine tot_let (fun v_47 e_v_47 => ?_)
      have q_v_47 := i_add e_v_47 (by omega) (by omega)
      refine tot_oif (iv_oO h_T_41 k_a0 (by decide) (by decide) rfl) ?_
      refine tot_let (fun T_48 e_T_48 => ?_)
      have h_T_48 : IV R B K1 K2 T_48 := by rw [e_T_48]; exact iv_uI (a := 0) (b := 6) h_T_41 k_a0 (by decide) (by decide) rfl (by omega) (.inl rfl)
      have x_T_48 := x_T_41.tr (fw_uI e_T_48 k_a0 (by decide))
      have f_T_48_o_1 : (T_48.2.2.1 o 1).toInt = (T_41.2.2.1 o 1).toInt := congrArg Int32.toInt ((fw_uI (W := [200]) e_T_48 k_a0 (by decide)) o 1 (by rw [k_o]; decide))
      have f_T_48_a0_8 : (T_48.2.2.1 a0 8).toInt = (v_47 : Int32).toInt := by rw [e_T_48]; exact congrArg Int32.toInt (uI_at _ _ _ _)
      exact tot_some ⟨⟨h_T_48, x_T_48⟩, fun _ => (show (0 ≤ (0 : Int32).toInt ∧ (0 : Int32).toInt ≤ 0) from by omega)⟩
  · replace c_2 := i_nlt c_2
    unfold g_X3_parseSource_b15
    refine tot_oif (iv_oO h_T k_o (by decide) (by decide) rfl) ?_
    refine tot_thri (R := R) (W := [97, 98, 99]) (Q := fun r_49 : Int32 => ((1 : Int32).toInt = 0)) (cs_X3_startLine T o 1 (4 : Int32) h_T k_o (by omega) (by omega) (by omega)) (fun r_49 T_50 i_T_50 y_T_50 d_r_49 => ?_) (fun k_ U_ i_ y_ => ⟨⟨i_, x_T.tr (y_.w (by decide))⟩, fun q_ => absurd q_ (Nat.succ_ne_zero k_)⟩)
    have h_T_50 : IV R B K1 K2 T_50 := i_T_50
    have x_T_50 := x_T.tr (y_T_50.w (by decide))
    have f_T_50_a0_8 : (T_50.2.2.1 a0 8).toInt = (T.2.2.1 a0 8).toInt := congrArg Int32.toInt (y_T_50 a0 8 (by rw [k_a0]; decide))
    replace d_r_49 : ((1 : Int32).toInt = 0) := d_r_49
    refine tot_oif (iv_oO h_T_50 k_a0 (by decide) (by decide) rfl) ?_
    refine tot_ref h_T_50 k_a0 (by decide) (by decide) (r2 := 54) (rfl : rtg 6 7 = 54) (by decide) (fun n_51 k_n_51 e_n_51 => ?_)
    refine tot_oif (iv_oO h_T_50 k_a0 (by decide) (by decide) rfl) ?_
    refine tot_let (fun v_52 e_v_52 => ?_)
    have q_v_52 := i_eq e_v_52
    have r_v_52 : 0 ≤ v_52.toInt ∧ v_52.toInt ≤ 6 := iv_int h_T_50 k_a0 (by decide) (by decide) e_v_52 rfl
    refine tot_oif (iv_aA h_T_50 k_n_51 (by decide) (by decide) rfl rfl) ?_
    refine tot_oif (by rw [iv_len h_T_50 k_n_51 (by decide) (by decide) (rfl : shp 54 = (104, 6))]; exact i_inb (by omega) (by omega)) ?_
    refine tot_ref h_T_50 k_n_51 (by decide) (by decide) (r2 := 7) (rt_54 (by omega) (by omega)) (by decide) (fun n_53 k_n_53 e_n_53 => ?_)
    refine tot_oif (iv_oO h_T_50 k_o (by decide) (by decide) rfl) ?_
    refine tot_thri (R := R) (W := [97, 98, 99]) (Q := fun r_54 : Int32 => (0 ≤ r_54.toInt ∧ r_54.toInt ≤ 3)) (cs_X3_shape T_50 o h_T_50 k_o ) (fun r_54 T_55 i_T_55 y_T_55 d_r_54 => ?_) (fun k_ U_ i_ y_ => ⟨⟨i_, x_T_50.tr (y_.w (by decide))⟩, fun q_ => absurd q_ (Nat.succ_ne_zero k_)⟩)
    have h_T_55 : IV R B K1 K2 T_55 := i_T_55
    have x_T_55 := x_T_50.tr (y_T_55.w (by decide))
    have f_T_55_a0_8 : (T_55.2.2.1 a0 8).toInt = (T_50.2.2.1 a0 8).toInt := congrArg Int32.toInt (y_T_55 a0 8 (by rw [k_a0]; decide))
    replace d_r_54 : (0 ≤ r_54.toInt ∧ r_54.toInt ≤ 3) := d_r_54
    refine tot_oif (iv_oO h_T_55 k_n_53 (by decide) (by decide) rfl) ?_
    refine tot_let (fun T_56 e_T_56 => ?_)
    have h_T_56 : IV R B K1 K2 T_56 := by rw [e_T_56]; exact iv_uI (a := 0) (b := 3) h_T_55 k_n_53 (by decide) (by decide) rfl (by omega) (.inl rfl)
    have x_T_56 := x_T_55.tr (fw_uI e_T_56 k_n_53 (by decide))
    have f_T_56_o_1 : (T_56.2.2.1 o 1).toInt = (T_55.2.2.1 o 1).toInt := congrArg Int32.toInt ((fw_uI (W := [224]) e_T_56 k_n_53 (by decide)) o 1 (by rw [k_o]; decide))
    have f_T_56_a0_8 : (T_56.2.2.1 a0 8).toInt = (T_55.2.2.1 a0 8).toInt := congrArg Int32.toInt ((fw_uI (W := [224]) e_T_56 k_n_53 (by decide)) a0 8 (by rw [k_a0]; decide))
    refine tot_oif (iv_oO h_T_56 k_o (by decide) (by decide) rfl) ?_
    refine tot_thri (R := R) (W := [97, 98, 99]) (Q := fun r_57 : Int32 => ((((-2000) : Int32) : Int32).toInt ≤ r_57.toInt ∧ r_57.toInt ≤ ((2000 : Int32) : Int32).toInt)) (cs_X3_signed T_56 o ((-2000) : Int32) (2000 : Int32) h_T_56 k_o (by omega) (by omega)) (fun r_57 T_58 i_T_58 y_T_58 d_r_57 => ?_) (fun k_ U_ i_ y_ => ⟨⟨i_, x_T_56.tr (y_.w (by decide))⟩, fun q_ => absurd q_ (Nat.succ_ne_zero k_)⟩)
    have h_T_58 : IV R B K1 K2 T_58 := i_T_58
    have x_T_58 := x_T_56.tr (y_T_58.w (by decide))
    have f_T_58_a0_8 : (T_58.2.2.1 a0 8).toInt = (T_56.2.2.1 a0 8).toInt := congrArg Int32.toInt (y_T_58 a0 8 (by rw [k_a0]; decide))
    replace d_r_57 : ((((-2000) : Int32) : Int32).toInt ≤ r_57.toInt ∧ r_57.toInt ≤ ((2000 : Int32) : Int32).toInt) := d_r_57
    refine tot_oif (iv_oO h_T_58 k_n_53 (by decide) (by decide) rfl) ?_
    refine tot_let (fun T_59 e_T_59 => ?_)
    have h_T_59 : IV R B K1 K2 T_59 := by rw [e_T_59]; exact iv_uI (a := -2000) (b := 2000) h_T_58 k_n_53 (by decide) (by decide) rfl (by omega) (.inl rfl)
    have x_T_59 := x_T_58.tr (fw_uI e_T_59 k_n_53 (by decide))
    have f_T_59_o_1 : (T_59.2.2.1 o 1).toInt = (T_58.2.2.1 o 1).toInt := congrArg Int32.toInt ((fw_uI (W := [225]) e_T_59 k_n_53 (by decide)) o 1 (by rw [k_o]; decide))
    have f_T_59_a0_8 : (T_59.2.2.1 a0 8).toInt = (T_58.2.2.1 a0 8).toInt := congrArg Int32.toInt ((fw_uI (W := [225]) e_T_59 k_n_53 (by decide)) a0 8 (by rw [k_a0]; decide))
    refine tot_oif (iv_oO h_T_59 k_o (by decide) (by decide) rfl) ?_
    refine tot_thri (R := R) (W := [97, 98, 99]) (Q := fun r_60 : Int32 => ((((-2000) : Int32) : Int32).toInt ≤ r_60.toInt ∧ r_60.toInt ≤ ((2000 : Int32) : Int32).toInt)) (cs_X3_signed T_59 o ((-2000) : Int32) (2000 : Int32) h_T_59 k_o (by omega) (by omega)) (fun r_60 T_61 i_T_61 y_T_61 d_r_60 => ?_) (fun k_ U_ i_ y_ => ⟨⟨i_, x_T_59.tr (y_.w (by decide))⟩, fun q_ => absurd q_ (Nat.succ_ne_zero k_)⟩)
    have h_T_61 : IV R B K1 K2 T_61 := i_T_61
    have x_T_61 := x_T_59.tr (y_T_61.w (by decide))
    have f_T_61_a0_8 : (T_61.2.2.1 a0 8).toInt = (T_59.2.2.1 a0 8).toInt := congrArg Int32.toInt (y_T_61 a0 8 (by rw [k_a0]; decide))
    replace d_r_60 : ((((-2000) : Int32) : Int32).toInt ≤ r_60.toInt ∧ r_60.toInt ≤ ((2000 : Int32) : Int32).toInt) := d_r_60
    refine tot_oif (iv_oO h_T_61 k_n_53 (by decide) (by decide) rfl) ?_
    refine tot_let (fun T_62 e_T_62 => ?_)
    have h_T_62 : IV R B K1 K2 T_62 := by rw [e_T_62]; exact iv_uI (a := -2000) (b := 2000) h_T_61 k_n_53 (by decide) (by decide) rfl (by omega) (.inl rfl)
    have x_T_62 := x_T_61.tr (fw_uI e_T_62 k_n_53 (by decide))
    have f_T_62_o_1 : (T_62.2.2.1 o 1).toInt = (T_61.2.2.1 o 1).toInt := congrArg Int32.toInt ((fw_uI (W := [226]) e_T_62 k_n_53 (by decide)) o 1 (by rw [k_o]; decide))
    have f_T_62_a0_8 : (T_62.2.2.1 a0 8).toInt = (T_61.2.2.1 a0 8).toInt := congrArg Int32.toInt ((fw_uI (W := [226]) e_T_62 k_n_53 (by decide)) a0 8 (by rw [k_a0]; decide))
    refine tot_oif (iv_oO h_T_62 k_o (by decide) (by decide) rfl) ?_
    refine tot_thri (R := R) (W := [97, 98, 99]) (Q := fun r_63 : Int32 => ((((-999) : Int32) : Int32).toInt ≤ r_63.toInt ∧ r_63.toInt ≤ ((999 : Int32) : Int32).toInt)) (cs_X3_signed T_62 o ((-999) : Int32) (999 : Int32) h_T_62 k_o (by omega) (by omega)) (fun r_63 T_64 i_T_64 y_T_64 d_r_63 => ?_) (fun k_ U_ i_ y_ => ⟨⟨i_, x_T_62.tr (y_.w (by decide))⟩, fun q_ => absurd q_ (Nat.succ_ne_zero k_)⟩)
    have h_T_64 : IV R B K1 K2 T_64 := i_T_64
    have x_T_64 := x_T_62.tr (y_T_64.w (by decide))
    have f_T_64_a0_8 : (T_64.2.2.1 a0 8).toInt = (T_62.2.2.1 a0 8).toInt := congrArg Int32.toInt (y_T_64 a0 8 (by rw [k_a0]; decide))
    replace d_r_63 : ((((-999) : Int32) : Int32).toInt ≤ r_63.toInt ∧ r_63.toInt ≤ ((999 : Int32) : Int32).toInt) := d_r_63
    refine tot_oif (iv_oO h_T_64 k_n_53 (by decide) (by decide) rfl) ?_
    refine tot_let (fun T_65 e_T_65 => ?_)
    have h_T_65 : IV R B K1 K2 T_65 := by rw [e_T_65]; exact iv_uI (a := -999) (b := 999) h_T_64 k_n_53 (by decide) (by decide) rfl (by omega) (.inl rfl)
    have x_T_65 := x_T_64.tr (fw_uI e_T_65 k_n_53 (by decide))
    have f_T_65_o_1 : (T_65.2.2.1 o 1).toInt = (T_64.2.2.1 o 1).toInt := congrArg Int32.toInt ((fw_uI (W := [227]) e_T_65 k_n_53 (by decide)) o 1 (by rw [k_o]; decide))
    have f_T_65_a0_8 : (T_65.2.2.1 a0 8).toInt = (T_64.2.2.1 a0 8).toInt := congrArg Int32.toInt ((fw_uI (W := [227]) e_T_65 k_n_53 (by decide)) a0 8 (by rw [k_a0]; decide))
    refine tot_oif (iv_oO h_T_65 k_o (by decide) (by decide) rfl) ?_
    refine tot_thri (R := R) (W := [97, 98, 99]) (Q := fun r_66 : Int32 => ((((-999) : Int32) : Int32).toInt ≤ r_66.toInt ∧ r_66.toInt ≤ ((999 : Int32) : Int32).toInt)) (cs_X3_signed T_65 o ((-999) : Int32) (999 : Int32) h_T_65 k_o (by omega) (by omega)) (fun r_66 T_67 i_T_67 y_T_67 d_r_66 => ?_) (fun k_ U_ i_ y_ => ⟨⟨i_, x_T_65.tr (y_.w (by decide))⟩, fun q_ => absurd q_ (Nat.succ_ne_zero k_)⟩)
    have h_T_67 : IV R B K1 K2 T_67 := i_T_67
    have x_T_67 := x_T_65.tr (y_T_67.w (by decide))
    have f_T_67_a0_8 : (T_67.2.2.1 a0 8).toInt = (T_65.2.2.1 a0 8).toInt := congrArg Int32.toInt (y_T_67 a0 8 (by rw [k_a0]; decide))
    replace d_r_66 : ((((-999) : Int32) : Int32).toInt ≤ r_66.toInt ∧ r_66.toInt ≤ ((999 : Int32) : Int32).toInt) := d_r_66
    refine tot_oif (iv_oO h_T_67 k_n_53 (by decide) (by decide) rfl) ?_
    refine tot_let (fun T_68 e_T_68 => ?_)
    have h_T_68 : IV R B K1 K2 T_68 := by rw [e_T_68]; exact iv_uI (a := -999) (b := 999) h_T_67 k_n_53 (by decide) (by decide) rfl (by omega) (.inl rfl)
    have x_T_68 := x_T_67.tr (fw_uI e_T_68 k_n_53 (by decide))
    have f_T_68_o_1 : (T_68.2.2.1 o 1).toInt = (T_67.2.2.1 o 1).toInt := congrArg Int32.toInt ((fw_uI (W := [228]) e_T_68 k_n_53 (by decide)) o 1 (by rw [k_o]; decide))
    have f_T_68_a0_8 : (T_68.2.2.1 a0 8).toInt = (T_67.2.2.1 a0 8).toInt := congrArg Int32.toInt ((fw_uI (W := [228]) e_T_68 k_n_53 (by decide)) a0 8 (by rw [k_a0]; decide))
    refine tot_oif (iv_oO h_T_68 k_o (by decide) (by decide) rfl) ?_
    refine tot_thri (R := R) (W := [97, 98, 99]) (Q := fun r_69 : Int32 => (((1 : Int32) : Int32).toInt ≤ r_69.toInt ∧ r_69.toInt ≤ ((999 : Int32) : Int32).toInt)) (cs_X3_number T_68 o (1 : Int32) (999 : Int32) h_T_68 k_o ) (fun r_69 T_70 i_T_70 y_T_70 d_r_69 => ?_) (fun k_ U_ i_ y_ => ⟨⟨i_, x_T_68.tr (y_.w (by decide))⟩, fun q_ => absurd q_ (Nat.succ_ne_zero k_)⟩)
    have h_T_70 : IV R B K1 K2 T_70 := i_T_70
    have x_T_70 := x_T_68.tr (y_T_70.w (by decide))
    have f_T_70_a0_8 : (T_70.2.2.1 a0 8).toInt = (T_68.2.2.1 a0 8).toInt := congrArg Int32.toInt (y_T_70 a0 8 (by rw [k_a0]; decide))
    replace d_r_69 : (((1 : Int32) : Int32).toInt ≤ r_69.toInt ∧ r_69.toInt ≤ ((999 : Int32) : Int32).toInt) := d_r_69
    refine tot_oif (iv_oO h_T_70 k_n_53 (by decide) (by decide) rfl) ?_
    refine tot_let (fun T_71 e_T_71 => ?_)
    have h_T_71 : IV R B K1 K2 T_71 := by rw [e_T_71]; exact iv_uI (a := 0) (b := 999) h_T_70 k_n_53 (by decide) (by decide) rfl (by omega) (.inl rfl)
    have x_T_71 := x_T_70.tr (fw_uI e_T_71 k_n_53 (by decide))
    have f_T_71_o_1 : (T_71.2.2.1 o 1).toInt = (T_70.2.2.1 o 1).toInt := congrArg Int32.toInt ((fw_uI (W := [229]) e_T_71 k_n_53 (by decide)) o 1 (by rw [k_o]; decide))
    have f_T_71_a0_8 : (T_71.2.2.1 a0 8).toInt = (T_70.2.2.1 a0 8).toInt := congrArg Int32.toInt ((fw_uI (W := [229]) e_T_71 k_n_53 (by decide)) a0 8 (by rw [k_a0]; decide))
    refine tot_oif (iv_oO h_T_71 k_o (by decide) (by decide) rfl) ?_
    refine tot_thri (R := R) (W := [97, 98, 99]) (Q := fun r_72 : Int32 => (((2 : Int32) : Int32).toInt ≤ r_72.toInt ∧ r_72.toInt ≤ ((99 : Int32) : Int32).toInt)) (cs_X3_number T_71 o (2 : Int32) (99 : Int32) h_T_71 k_o ) (fun r_72 T_73 i_T_73 y_T_73 d_r_72 => ?_) (fun k_ U_ i_ y_ => ⟨⟨i_, x_T_71.tr (y_.w (by decide))⟩, fun q_ => absurd q_ (Nat.succ_ne_zero k_)⟩)
    have h_T_73 : IV R B K1 K2 T_73 := i_T_73
    have x_T_73 := x_T_71.tr (y_T_73.w (by decide))
    have f_T_73_a0_8 : (T_73.2.2.1 a0 8).toInt = (T_71.2.2.1 a0 8).toInt := congrArg Int32.toInt (y_T_73 a0 8 (by rw [k_a0]; decide))
    replace d_r_72 : (((2 : Int32) : Int32).toInt ≤ r_72.toInt ∧ r_72.toInt ≤ ((99 : Int32) : Int32).toInt) := d_r_72
    refine tot_oif (iv_oO h_T_73 k_n_53 (by decide) (by decide) rfl) ?_
    refine tot_let (fun T_74 e_T_74 => ?_)
    have h_T_74 : IV R B K1 K2 T_74 := by rw [e_T_74]; exact iv_uI (a := 0) (b := 99) h_T_73 k_n_53 (by decide) (by decide) rfl (by omega) (.inl rfl)
    have x_T_74 := x_T_73.tr (fw_uI e_T_74 k_n_53 (by decide))
    have f_T_74_o_1 : (T_74.2.2.1 o 1).toInt = (T_73.2.2.1 o 1).toInt := congrArg Int32.toInt ((fw_uI (W := [230]) e_T_74 k_n_53 (by decide)) o 1 (by rw [k_o]; decide))
    have f_T_74_a0_8 : (T_74.2.2.1 a0 8).toInt = (T_73.2.2.1 a0 8).toInt := congrArg Int32.toInt ((fw_uI (W := [230]) e_T_74 k_n_53 (by decide)) a0 8 (by rw [k_a0]; decide))
    refine tot_oif (iv_oO h_T_74 k_o (by decide) (by decide) rfl) ?_
    refine tot_thri (R := R) (W := [97, 98, 99]) (Q := fun r_75 : Int32 => (((0 : Int32) : Int32).toInt ≤ r_75.toInt ∧ r_75.toInt ≤ ((99 : Int32) : Int32).toInt)) (cs_X3_number T_74 o (0 : Int32) (99 : Int32) h_T_74 k_o ) (fun r_75 T_76 i_T_76 y_T_76 d_r_75 => ?_) (fun k_ U_ i_ y_ => ⟨⟨i_, x_T_74.tr (y_.w (by decide))⟩, fun q_ => absurd q_ (Nat.succ_ne_zero k_)⟩)
    have h_T_76 : IV R B K1 K2 T_76 := i_T_76
    have x_T_76 := x_T_74.tr (y_T_76.w (by decide))
    have f_T_76_a0_8 : (T_76.2.2.1 a0 8).toInt = (T_74.2.2.1 a0 8).toInt := congrArg Int32.toInt (y_T_76 a0 8 (by rw [k_a0]; decide))
    replace d_r_75 : (((0 : Int32) : Int32).toInt ≤ r_75.toInt ∧ r_75.toInt ≤ ((99 : Int32) : Int32).toInt) := d_r_75
    refine tot_oif (iv_oO h_T_76 k_n_53 (by decide) (by decide) rfl) ?_
    refine tot_let (fun T_77 e_T_77 => ?_)
    have h_T_77 : IV R B K1 K2 T_77 := by rw [e_T_77]; exact iv_uI (a := 0) (b := 99) h_T_76 k_n_53 (by decide) (by decide) rfl (by omega) (.inl rfl)
    have x_T_77 := x_T_76.tr (fw_uI e_T_77 k_n_53 (by decide))
    have f_T_77_o_1 : (T_77.2.2.1 o 1).toInt = (T_76.2.2.1 o 1).toInt := congrArg Int32.toInt ((fw_uI (W := [231]) e_T_77 k_n_53 (by decide)) o 1 (by rw [k_o]; decide))
    have f_T_77_a0_8 : (T_77.2.2.1 a0 8).toInt = (T_76.2.2.1 a0 8).toInt := congrArg Int32.toInt ((fw_uI (W := [231]) e_T_77 k_n_53 (by decide)) a0 8 (by rw [k_a0]; decide))
    refine tot_oif (iv_oO h_T_77 k_n_53 (by decide) (by decide) rfl) ?_
    refine tot_let (fun T_78 e_T_78 => ?_)
    have h_T_78 : IV R B K1 K2 T_78 := by rw [e_T_78]; exact iv_uI (a := 0) (b := 199) h_T_77 k_n_53 (by decide) (by decide) rfl (by omega) (.inl rfl)
    have x_T_78 := x_T_77.tr (fw_uI e_T_78 k_n_53 (by decide))
    have f_T_78_o_1 : (T_78.2.2.1 o 1).toInt = (T_77.2.2.1 o 1).toInt := congrArg Int32.toInt ((fw_uI (W := [232]) e_T_78 k_n_53 (by decide)) o 1 (by rw [k_o]; decide))
    have f_T_78_a0_8 : (T_78.2.2.1 a0 8).toInt = (T_77.2.2.1 a0 8).toInt := congrArg Int32.toInt ((fw_uI (W := [232]) e_T_78 k_n_53 (by decide)) a0 8 (by rw [k_a0]; decide))
    refine tot_oif (iv_oO h_T_78 k_n_53 (by decide) (by decide) rfl) ?_
    refine tot_let (fun T_79 e_T_79 => ?_)
    have h_T_79 : IV R B K1 K2 T_79 := by rw [e_T_79]; exact iv_uI (a := 0) (b := 1) h_T_78 k_n_53 (by decide) (by decide) rfl (by omega) (.inl rfl)
    have x_T_79 := x_T_78.tr (fw_uI e_T_79 k_n_53 (by decide))
    have f_T_79_o_1 : (T_79.2.2.1 o 1).toInt = (T_78.2.2.1 o 1).toInt := congrArg Int32.toInt ((fw_uI (W := [233]) e_T_79 k_n_53 (by decide)) o 1 (by rw [k_o]; decide))
    have f_T_79_a0_8 : (T_79.2.2.1 a0 8).toInt = (T_78.2.2.1 a0 8).toInt := congrArg Int32.toInt ((fw_uI (W := [233]) e_T_79 k_n_53 (by decide)) a0 8 (by rw [k_a0]; decide))
    refine tot_oif (iv_oO h_T_79 k_o (by decide) (by decide) rfl) ?_
    refine tot_bindq (R := fun r_80 : Int32 => (0 ≤ r_80.toInt ∧ r_80.toInt ≤ 1 ∧ (r_80.toInt = 0 ∨ (T_79.2.2.1 o 1).toInt ≤ 1000))) (cs_X3_isWord T_79 (sTx "from") o h_T_79 k_o (by decide)) (fun r_80 d_r_80 => ?_)
    replace d_r_80 : (0 ≤ r_80.toInt ∧ r_80.toInt ≤ 1 ∧ (r_80.toInt = 0 ∨ (T_79.2.2.1 o 1).toInt ≤ 1000)) := d_r_80
    refine tot_if (fun c_88 => ?_) (fun c_88 => ?_)
    · replace c_88 := i_eq c_88
      unfold g_X3_parseSource_b168
      refine tot_oif (iv_oO h_T_79 k_a0 (by decide) (by decide) rfl) ?_
      refine tot_let (fun v_89 e_v_89 => ?_)
      have q_v_89 := i_eq e_v_89
      have r_v_89 : 0 ≤ v_89.toInt ∧ v_89.toInt ≤ 6 := iv_int h_T_79 k_a0 (by decide) (by decide) e_v_89 rfl
      refine tot_let (fun v_90 e_v_90 => ?_)
      have q_v_90 := i_add e_v_90 (by omega) (by omega)
      refine tot_oif (iv_oO h_T_79 k_a0 (by decide) (by decide) rfl) ?_
      refine tot_let (fun T_91 e_T_91 => ?_)
      have h_T_91 : IV R B K1 K2 T_91 := by rw [e_T_91]; exact iv_uI (a := 0) (b := 6) h_T_79 k_a0 (by decide) (by decide) rfl (by omega) (.inl rfl)
      have x_T_91 := x_T_79.tr (fw_uI e_T_91 k_a0 (by decide))
      have f_T_91_o_1 : (T_91.2.2.1 o 1).toInt = (T_79.2.2.1 o 1).toInt := congrArg Int32.toInt ((fw_uI (W := [200]) e_T_91 k_a0 (by decide)) o 1 (by rw [k_o]; decide))
      have f_T_91_a0_8 : (T_91.2.2.1 a0 8).toInt = (v_90 : Int32).toInt := by rw [e_T_91]; exact congrArg Int32.toInt (uI_at _ _ _ _)
      exact tot_some ⟨⟨h_T_91, x_T_91⟩, fun _ => (show (0 ≤ (0 : Int32).toInt ∧ (0 : Int32).toInt ≤ 0) from by omega)⟩
    · replace c_88 := i_ne c_88
      refine tot_oif (iv_oO h_T_79 k_o (by decide) (by decide) rfl) ?_
      refine tot_let (fun v_82 e_v_82 => ?_)
      have q_v_82 := i_eq e_v_82
      have r_v_82 : 0 ≤ v_82.toInt ∧ v_82.toInt ≤ 1001 := iv_int h_T_79 k_o (by decide) (by decide) e_v_82 rfl
      refine tot_let (fun v_83 e_v_83 => ?_)
      have q_v_83 := i_add e_v_83 (by omega) (by omega)
      refine tot_oif (iv_oO h_T_79 k_o (by decide) (by decide) rfl) ?_
      refine tot_let (fun T_84 e_T_84 => ?_)
      have h_T_84 : IV R B K1 K2 T_84 := by rw [e_T_84]; exact iv_uI (a := 0) (b := 1001) h_T_79 k_o (by decide) (by decide) rfl (by omega) (.inl rfl)
      have x_T_84 := x_T_79.tr (fw_uI e_T_84 k_o (by decide))
      have f_T_84_o_1 : (T_84.2.2.1 o 1).toInt = (v_83 : Int32).toInt := by rw [e_T_84]; exact congrArg Int32.toInt (uI_at _ _ _ _)
      have f_T_84_a0_8 : (T_84.2.2.1 a0 8).toInt = (T_79.2.2.1 a0 8).toInt := congrArg Int32.toInt ((fw_uI (W := [97]) e_T_84 k_o (by decide)) a0 8 (by rw [k_a0]; decide))
      refine tot_oif (iv_oO h_T_84 k_o (by decide) (by decide) rfl) ?_
      refine tot_thri (R := R) (W := [97, 98, 99]) (Q := fun r_85 : Int32 => (((0 : Int32) : Int32).toInt ≤ r_85.toInt ∧ r_85.toInt ≤ ((199 : Int32) : Int32).toInt)) (cs_X3_number T_84 o (0 : Int32) (199 : Int32) h_T_84 k_o ) (fun r_85 T_86 i_T_86 y_T_86 d_r_85 => ?_) (fun k_ U_ i_ y_ => ⟨⟨i_, x_T_84.tr (y_.w (by decide))⟩, fun q_ => absurd q_ (Nat.succ_ne_zero k_)⟩)
      have h_T_86 : IV R B K1 K2 T_86 := i_T_86
      have x_T_86 := x_T_84.tr (y_T_86.w (by decide))
      have f_T_86_a0_8 : (T_86.2.2.1 a0 8).toInt = (T_84.2.2.1 a0 8).toInt := congrArg Int32.toInt (y_T_86 a0 8 (by rw [k_a0]; decide))
      replace d_r_85 : (((0 : Int32) : Int32).toInt ≤ r_85.toInt ∧ r_85.toInt ≤ ((199 : Int32) : Int32).toInt) := d_r_85
      refine tot_oif (iv_oO h_T_86 k_n_53 (by decide) (by decide) rfl) ?_
      refine tot_let (fun T_87 e_T_87 => ?_)
      have h_T_87 : IV R B K1 K2 T_87 := by rw [e_T_87]; exact iv_uI (a := 0) (b := 199) h_T_86 k_n_53 (by decide) (by decide) rfl (by omega) (.inl rfl)
      have x_T_87 := x_T_86.tr (fw_uI e_T_87 k_n_53 (by decide))
      have f_T_87_o_1 : (T_87.2.2.1 o 1).toInt = (T_86.2.2.1 o 1).toInt := congrArg Int32.toInt ((fw_uI (W := [232]) e_T_87 k_n_53 (by decide)) o 1 (by rw [k_o]; decide))
      have f_T_87_a0_8 : (T_87.2.2.1 a0 8).toInt = (T_86.2.2.1 a0 8).toInt := congrArg Int32.toInt ((fw_uI (W := [232]) e_T_87 k_n_53 (by decide)) a0 8 (by rw [k_a0]; decide))
      unfold g_X3_parseSource_b168
      refine tot_oif (iv_oO h_T_87 k_a0 (by decide) (by decide) rfl) ?_
      refine tot_let (fun v_92 e_v_92 => ?_)
      have q_v_92 := i_eq e_v_92
      have r_v_92 : 0 ≤ v_92.toInt ∧ v_92.toInt ≤ 6 := iv_int h_T_87 k_a0 (by decide) (by decide) e_v_92 rfl
      refine tot_let (fun v_93 e_v_93 => ?_)
      have q_v_93 := i_add e_v_93 (by omega) (by omega)
      refine tot_oif (iv_oO h_T_87 k_a0 (by decide) (by decide) rfl) ?_
      refine tot_let (fun T_94 e_T_94 => ?_)
      have h_T_94 : IV R B K1 K2 T_94 := by rw [e_T_94]; exact iv_uI (a := 0) (b := 6) h_T_87 k_a0 (by decide) (by decide) rfl (by omega) (.inl rfl)
      have x_T_94 := x_T_87.tr (fw_uI e_T_94 k_a0 (by decide))
      have f_T_94_o_1 : (T_94.2.2.1 o 1).toInt = (T_87.2.2.1 o 1).toInt := congrArg Int32.toInt ((fw_uI (W := [200]) e_T_94 k_a0 (by decide)) o 1 (by rw [k_o]; decide))
      have f_T_94_a0_8 : (T_94.2.2.1 a0 8).toInt = (v_93 : Int32).toInt := by rw [e_T_94]; exact congrArg Int32.toInt (uI_at _ _ _ _)
      exact tot_some ⟨⟨h_T_94, x_T_94⟩, fun _ => (show (0 ≤ (0 : Int32).toInt ∧ (0 : Int32).toInt ≤ 0) from by omega)⟩
set_option maxHeartbeats 4000000 in
set_option maxRecDepth 10000 in
theorem cs_X3_parseMap {R : Nat → Nat} {B K1 K2 : Nat} (T : AT) (o : Nat) (a0 : Nat) (h_T : IV R B K1 K2 T) (k_o : R o = 3) (k_a0 : R a0 = 1) (g0 : (T.2.2.1 o 1).toInt ≤ 1000) : Tot (g_X3_parseMap T o a0) (fun r => (IV R B K1 K2 r.2.2 ∧ FW R [32, 33, 34, 35, 36, 97, 98, 99, 1888] T r.2.2) ∧ (r.1 = 0 → (0 ≤ r.2.1.toInt ∧ r.2.1.toInt ≤ 0))) := by
  have z0 : (0 : Int32).toInt = 0 := by decide
  have z1 : ((3 : Int32) : Int32).toInt = 3 := by decide
  have z2 : (((-999) : Int32) : Int32).toInt = -999 := by decide
  have z3 : ((999 : Int32) : Int32).toInt = 999 := by decide
  have z4 : ((1 : Int32) : Int32).toInt = 1 := by decide
  have z5 : ((99 : Int32) : Int32).toInt = 99 := by decide
  have z6 : ((12 : Int32) : Int32).toInt = 12 := by decide
  have z7 : (1 : Int32).toInt = 1 := by decide
  have cc_101 : cnt 101 = 1 := rfl
  have cc_102 : cnt 102 = 12 := rfl
  have cc_103 : cnt 103 = 144 := rfl
  have cc_104 : cnt 104 = 2400 := rfl
  have cc_105 : cnt 105 = 7200 := rfl
  have x_T : FW R [32, 33, 34, 35, 36, 97, 98, 99, 1888] T T := FW.rf
  unfold g_X3_parseMap
  refine tot_oif (iv_oO h_T k_a0 (by decide) (by decide) rfl) ?_
  refine tot_let (fun v_1 e_v_1 => ?_)
  have r_v_1 : 0 ≤ v_1.toInt ∧ v_1.toInt ≤ 12 := iv_int h_T k_a0 (by decide) (by decide) e_v_1 rfl
  refine tot_if (fun c_2 => ?_) (fun c_2 => ?_)
  · replace c_2 := i_le c_2
    unfold g_X3_parseMap_b13
    refine tot_oif (iv_oO h_T k_o (by decide) (by decide) rfl) ?_
    refine tot_thri (R := R) (W := [97, 98, 99]) (Q := fun r_3 : Int32 => ((0 : Int32).toInt = 0)) (cs_X3_startLine T o 0 (3 : Int32) h_T k_o (by omega) (by omega) (by omega)) (fun r_3 T_4 i_T_4 y_T_4 d_r_3 => ?_) (fun k_ U_ i_ y_ => ⟨⟨i_, x_T.tr (y_.w (by decide))⟩, fun q_ => absurd q_ (Nat.succ_ne_zero k_)⟩)
    have h_T_4 : IV R B K1 K2 T_4 := i_T_4
    have x_T_4 := x_T.tr (y_T_4.w (by decide))
    replace d_r_3 : ((0 : Int32).toInt = 0) := d_r_3
    refine tot_oif (iv_oO h_T_4 k_o (by decide) (by decide) rfl) ?_
    refine tot_thri (R := R) (W := [97, 98, 99]) (Q := fun r_5 : Int32 => ((((-999) : Int32) : Int32).toInt ≤ r_5.toInt ∧ r_5.toInt ≤ ((999 : Int32) : Int32).toInt)) (cs_X3_signed T_4 o ((-999) : Int32) (999 : Int32) h_T_4 k_o (by omega) (by omega)) (fun r_5 T_6 i_T_6 y_T_6 d_r_5 => ?_) (fun k_ U_ i_ y_ => ⟨⟨i_, x_T_4.tr (y_.w (by decide))⟩, fun q_ => absurd q_ (Nat.succ_ne_zero k_)⟩)
    have h_T_6 : IV R B K1 K2 T_6 := i_T_6
    have x_T_6 := x_T_4.tr (y_T_6.w (by decide))
    replace d_r_5 : ((((-999) : Int32) : Int32).toInt ≤ r_5.toInt ∧ r_5.toInt ≤ ((999 : Int32) : Int32).toInt) := d_r_5
    refine tot_oif (iv_oO h_T_6 k_a0 (by decide) (by decide) rfl) ?_
    refine tot_let (fun T_7 e_T_7 => ?_)
    have h_T_7 : IV R B K1 K2 T_7 := by rw [e_T_7]; exact iv_uI (a := -999) (b := 999) h_T_6 k_a0 (by decide) (by decide) rfl (by omega) (.inl rfl)
    have x_T_7 := x_T_6.tr (fw_uI e_T_7 k_a0 (by decide))
    have f_T_7_o_1 : (T_7.2.2.1 o 1).toInt = (T_6.2.2.1 o 1).toInt := congrArg Int32.toInt ((fw_uI (W := [32]) e_T_7 k_a0 (by decide)) o 1 (by rw [k_o]; decide))
    refine tot_oif (iv_oO h_T_7 k_o (by decide) (by decide) rfl) ?_
    refine tot_thri (R := R) (W := [97, 98, 99]) (Q := fun r_8 : Int32 => ((((-999) : Int32) : Int32).toInt ≤ r_8.toInt ∧ r_8.toInt ≤ ((999 : Int32) : Int32).toInt)) (cs_X3_signed T_7 o ((-999) : Int32) (999 : Int32) h_T_7 k_o (by omega) (by omega)) (fun r_8 T_9 i_T_9 y_T_9 d_r_8 => ?_) (fun k_ U_ i_ y_ => ⟨⟨i_, x_T_7.tr (y_.w (by decide))⟩, fun q_ => absurd q_ (Nat.succ_ne_zero k_)⟩)
    have h_T_9 : IV R B K1 K2 T_9 := i_T_9
    have x_T_9 := x_T_7.tr (y_T_9.w (by decide))
    replace d_r_8 : ((((-999) : Int32) : Int32).toInt ≤ r_8.toInt ∧ r_8.toInt ≤ ((999 : Int32) : Int32).toInt) := d_r_8
    refine tot_oif (iv_oO h_T_9 k_a0 (by decide) (by decide) rfl) ?_
    refine tot_let (fun T_10 e_T_10 => ?_)
    have h_T_10 : IV R B K1 K2 T_10 := by rw [e_T_10]; exact iv_uI (a := -999) (b := 999) h_T_9 k_a0 (by decide) (by decide) rfl (by omega) (.inl rfl)
    have x_T_10 := x_T_9.tr (fw_uI e_T_10 k_a0 (by decide))
    have f_T_10_o_1 : (T_10.2.2.1 o 1).toInt = (T_9.2.2.1 o 1).toInt := congrArg Int32.toInt ((fw_uI (W := [33]) e_T_10 k_a0 (by decide)) o 1 (by rw [k_o]; decide))
    refine tot_oif (iv_oO h_T_10 k_o (by decide) (by decide) rfl) ?_
    refine tot_thri (R := R) (W := [97, 98, 99]) (Q := fun r_11 : Int32 => (((1 : Int32) : Int32).toInt ≤ r_11.toInt ∧ r_11.toInt ≤ ((99 : Int32) : Int32).toInt)) (cs_X3_number T_10 o (1 : Int32) (99 : Int32) h_T_10 k_o ) (fun r_11 T_12 i_T_12 y_T_12 d_r_11 => ?_) (fun k_ U_ i_ y_ => ⟨⟨i_, x_T_10.tr (y_.w (by decide))⟩, fun q_ => absurd q_ (Nat.succ_ne_zero k_)⟩)
    have h_T_12 : IV R B K1 K2 T_12 := i_T_12
    have x_T_12 := x_T_10.tr (y_T_12.w (by decide))
    replace d_r_11 : (((1 : Int32) : Int32).toInt ≤ r_11.toInt ∧ r_11.toInt ≤ ((99 : Int32) : Int32).toInt) := d_r_11
    refine tot_oif (iv_oO h_T_12 k_a0 (by decide) (by decide) rfl) ?_
    refine tot_let (fun T_13 e_T_13 => ?_)
    have h_T_13 : IV R B K1 K2 T_13 := by rw [e_T_13]; exact iv_uI (a := 0) (b := 99) h_T_12 k_a0 (by decide) (by decide) rfl (by omega) (.inl rfl)
    have x_T_13 := x_T_12.tr (fw_uI e_T_13 k_a0 (by decide))
    have f_T_13_o_1 : (T_13.2.2.1 o 1).toInt = (T_12.2.2.1 o 1).toInt := congrArg Int32.toInt ((fw_uI (W := [34]) e_T_13 k_a0 (by decide)) o 1 (by rw [k_o]; decide))
    refine tot_oif (iv_oO h_T_13 k_o (by decide) (by decide) rfl) ?_
    refine tot_thri (R := R) (W := [97, 98, 99]) (Q := fun r_14 : Int32 => (((1 : Int32) : Int32).toInt ≤ r_14.toInt ∧ r_14.toInt ≤ ((12 : Int32) : Int32).toInt)) (cs_X3_number T_13 o (1 : Int32) (12 : Int32) h_T_13 k_o ) (fun r_14 T_15 i_T_15 y_T_15 d_r_14 => ?_) (fun k_ U_ i_ y_ => ⟨⟨i_, x_T_13.tr (y_.w (by decide))⟩, fun q_ => absurd q_ (Nat.succ_ne_zero k_)⟩)
    have h_T_15 : IV R B K1 K2 T_15 := i_T_15
    have x_T_15 := x_T_13.tr (y_T_15.w (by decide))
    replace d_r_14 : (((1 : Int32) : Int32).toInt ≤ r_14.toInt ∧ r_14.toInt ≤ ((12 : Int32) : Int32).toInt) := d_r_14
    refine tot_oif (iv_oO h_T_15 k_o (by decide) (by decide) rfl) ?_
    refine tot_thri (R := R) (W := [97, 98, 99]) (Q := fun r_16 : Int32 => (((1 : Int32) : Int32).toInt ≤ r_16.toInt ∧ r_16.toInt ≤ ((12 : Int32) : Int32).toInt)) (cs_X3_number T_15 o (1 : Int32) (12 : Int32) h_T_15 k_o ) (fun r_16 T_17 i_T_17 y_T_17 d_r_16 => ?_) (fun k_ U_ i_ y_ => ⟨⟨i_, x_T_15.tr (y_.w (by decide))⟩, fun q_ => absurd q_ (Nat.succ_ne_zero k_)⟩)
    have h_T_17 : IV R B K1 K2 T_17 := i_T_17
    have x_T_17 := x_T_15.tr (y_T_17.w (by decide))
    replace d_r_16 : (((1 : Int32) : Int32).toInt ≤ r_16.toInt ∧ r_16.toInt ≤ ((12 : Int32) : Int32).toInt) := d_r_16
    refine tot_oif (iv_oO h_T_17 k_a0 (by decide) (by decide) rfl) ?_
    refine tot_bind (cs_X1_open T_17 a0 r_14 r_16 h_T_17 k_a0 (by omega) (by omega)) (fun T_18 d_T_18 => ?_)
    have h_T_18 : IV R B K1 K2 T_18 := d_T_18.1
    have y_T_18 : FW R [35, 36, 1888] T_17 T_18 := d_T_18.2
    have x_T_18 := x_T_17.tr (y_T_18.w (by decide))
    have f_T_18_o_1 : (T_18.2.2.1 o 1).toInt = (T_17.2.2.1 o 1).toInt := congrArg Int32.toInt (y_T_18 o 1 (by rw [k_o]; decide))
    exact tot_some ⟨⟨h_T_18, x_T_18⟩, fun _ => (show (0 ≤ (0 : Int32).toInt ∧ (0 : Int32).toInt ≤ 0) from by omega)⟩
  · replace c_2 := i_nle c_2
    unfold g_X3_parseMap_b13
    refine tot_oif (iv_oO h_T k_o (by decide) (by decide) rfl) ?_
    refine tot_thri (R := R) (W := [97, 98, 99]) (Q := fun r_19 : Int32 => ((1 : Int32).toInt = 0)) (cs_X3_startLine T o 1 (3 : Int32) h_T k_o (by omega) (by omega) (by omega)) (fun r_19 T_20 i_T_20 y_T_20 d_r_19 => ?_) (fun k_ U_ i_ y_ => ⟨⟨i_, x_T.tr (y_.w (by decide))⟩, fun q_ => absurd q_ (Nat.succ_ne_zero k_)⟩)
    have h_T_20 : IV R B K1 K2 T_20 := i_T_20
    have x_T_20 := x_T.tr (y_T_20.w (by decide))
    replace d_r_19 : ((1 : Int32).toInt = 0) := d_r_19
    refine tot_oif (iv_oO h_T_20 k_o (by decide) (by decide) rfl) ?_
    refine tot_thri (R := R) (W := [97, 98, 99]) (Q := fun r_21 : Int32 => ((((-999) : Int32) : Int32).toInt ≤ r_21.toInt ∧ r_21.toInt ≤ ((999 : Int32) : Int32).toInt)) (cs_X3_signed T_20 o ((-999) : Int32) (999 : Int32) h_T_20 k_o (by omega) (by omega)) (fun r_21 T_22 i_T_22 y_T_22 d_r_21 => ?_) (fun k_ U_ i_ y_ => ⟨⟨i_, x_T_20.tr (y_.w (by decide))⟩, fun q_ => absurd q_ (Nat.succ_ne_zero k_)⟩)
    have h_T_22 : IV R B K1 K2 T_22 := i_T_22
    have x_T_22 := x_T_20.tr (y_T_22.w (by decide))
    replace d_r_21 : ((((-999) : Int32) : Int32).toInt ≤ r_21.toInt ∧ r_21.toInt ≤ ((999 : Int32) : Int32).toInt) := d_r_21
    refine tot_oif (iv_oO h_T_22 k_a0 (by decide) (by decide) rfl) ?_
    refine tot_let (fun T_23 e_T_23 => ?_)
    have h_T_23 : IV R B K1 K2 T_23 := by rw [e_T_23]; exact iv_uI (a := -999) (b := 999) h_T_22 k_a0 (by decide) (by decide) rfl (by omega) (.inl rfl)
    have x_T_23 := x_T_22.tr (fw_uI e_T_23 k_a0 (by decide))
    have f_T_23_o_1 : (T_23.2.2.1 o 1).toInt = (T_22.2.2.1 o 1).toInt := congrArg Int32.toInt ((fw_uI (W := [32]) e_T_23 k_a0 (by decide)) o 1 (by rw [k_o]; decide))
    refine tot_oif (iv_oO h_T_23 k_o (by decide) (by decide) rfl) ?_
    refine tot_thri (R := R) (W := [97, 98, 99]) (Q := fun r_24 : Int32 => ((((-999) : Int32) : Int32).toInt ≤ r_24.toInt ∧ r_24.toInt ≤ ((999 : Int32) : Int32).toInt)) (cs_X3_signed T_23 o ((-999) : Int32) (999 : Int32) h_T_23 k_o (by omega) (by omega)) (fun r_24 T_25 i_T_25 y_T_25 d_r_24 => ?_) (fun k_ U_ i_ y_ => ⟨⟨i_, x_T_23.tr (y_.w (by decide))⟩, fun q_ => absurd q_ (Nat.succ_ne_zero k_)⟩)
    have h_T_25 : IV R B K1 K2 T_25 := i_T_25
    have x_T_25 := x_T_23.tr (y_T_25.w (by decide))
    replace d_r_24 : ((((-999) : Int32) : Int32).toInt ≤ r_24.toInt ∧ r_24.toInt ≤ ((999 : Int32) : Int32).toInt) := d_r_24
    refine tot_oif (iv_oO h_T_25 k_a0 (by decide) (by decide) rfl) ?_
    refine tot_let (fun T_26 e_T_26 => ?_)
    have h_T_26 : IV R B K1 K2 T_26 := by rw [e_T_26]; exact iv_uI (a := -999) (b := 999) h_T_25 k_a0 (by decide) (by decide) rfl (by omega) (.inl rfl)
    have x_T_26 := x_T_25.tr (fw_uI e_T_26 k_a0 (by decide))
    have f_T_26_o_1 : (T_26.2.2.1 o 1).toInt = (T_25.2.2.1 o 1).toInt := congrArg Int32.toInt ((fw_uI (W := [33]) e_T_26 k_a0 (by decide)) o 1 (by rw [k_o]; decide))
    refine tot_oif (iv_oO h_T_26 k_o (by decide) (by decide) rfl) ?_
    refine tot_thri (R := R) (W := [97, 98, 99]) (Q := fun r_27 : Int32 => (((1 : Int32) : Int32).toInt ≤ r_27.toInt ∧ r_27.toInt ≤ ((99 : Int32) : Int32).toInt)) (cs_X3_number T_26 o (1 : Int32) (99 : Int32) h_T_26 k_o ) (fun r_27 T_28 i_T_28 y_T_28 d_r_27 => ?_) (fun k_ U_ i_ y_ => ⟨⟨i_, x_T_26.tr (y_.w (by decide))⟩, fun q_ => absurd q_ (Nat.succ_ne_zero k_)⟩)
    have h_T_28 : IV R B K1 K2 T_28 := i_T_28
    have x_T_28 := x_T_26.tr (y_T_28.w (by decide))
    replace d_r_27 : (((1 : Int32) : Int32).toInt ≤ r_27.toInt ∧ r_27.toInt ≤ ((99 : Int32) : Int32).toInt) := d_r_27
    refine tot_oif (iv_oO h_T_28 k_a0 (by decide) (by decide) rfl) ?_
    refine tot_let (fun T_29 e_T_29 => ?_)
    have h_T_29 : IV R B K1 K2 T_29 := by rw [e_T_29]; exact iv_uI (a := 0) (b := 99) h_T_28 k_a0 (by decide) (by decide) rfl (by omega) (.inl rfl)
    have x_T_29 := x_T_28.tr (fw_uI e_T_29 k_a0 (by decide))
    have f_T_29_o_1 : (T_29.2.2.1 o 1).toInt = (T_28.2.2.1 o 1).toInt := congrArg Int32.toInt ((fw_uI (W := [34]) e_T_29 k_a0 (by decide)) o 1 (by rw [k_o]; decide))
    refine tot_oif (iv_oO h_T_29 k_o (by decide) (by decide) rfl) ?_
    refine tot_thri (R := R) (W := [97, 98, 99]) (Q := fun r_30 : Int32 => (((1 : Int32) : Int32).toInt ≤ r_30.toInt ∧ r_30.toInt ≤ ((12 : Int32) : Int32).toInt)) (cs_X3_number T_29 o (1 : Int32) (12 : Int32) h_T_29 k_o ) (fun r_30 T_31 i_T_31 y_T_31 d_r_30 => ?_) (fun k_ U_ i_ y_ => ⟨⟨i_, x_T_29.tr (y_.w (by decide))⟩, fun q_ => absurd q_ (Nat.succ_ne_zero k_)⟩)
    have h_T_31 : IV R B K1 K2 T_31 := i_T_31
    have x_T_31 := x_T_29.tr (y_T_31.w (by decide))
    replace d_r_30 : (((1 : Int32) : Int32).toInt ≤ r_30.toInt ∧ r_30.toInt ≤ ((12 : Int32) : Int32).toInt) := d_r_30
    refine tot_oif (iv_oO h_T_31 k_o (by decide) (by decide) rfl) ?_
    refine tot_thri (R := R) (W := [97, 98, 99]) (Q := fun r_32 : Int32 => (((1 : Int32) : Int32).toInt ≤ r_32.toInt ∧ r_32.toInt ≤ ((12 : Int32) : Int32).toInt)) (cs_X3_number T_31 o (1 : Int32) (12 : Int32) h_T_31 k_o ) (fun r_32 T_33 i_T_33 y_T_33 d_r_32 => ?_) (fun k_ U_ i_ y_ => ⟨⟨i_, x_T_31.tr (y_.w (by decide))⟩, fun q_ => absurd q_ (Nat.succ_ne_zero k_)⟩)
    have h_T_33 : IV R B K1 K2 T_33 := i_T_33
    have x_T_33 := x_T_31.tr (y_T_33.w (by decide))
    replace d_r_32 : (((1 : Int32) : Int32).toInt ≤ r_32.toInt ∧ r_32.toInt ≤ ((12 : Int32) : Int32).toInt) := d_r_32
    refine tot_oif (iv_oO h_T_33 k_a0 (by decide) (by decide) rfl) ?_
    refine tot_bind (cs_X1_open T_33 a0 r_30 r_32 h_T_33 k_a0 (by omega) (by omega)) (fun T_34 d_T_34 => ?_)
    have h_T_34 : IV R B K1 K2 T_34 := d_T_34.1
    have y_T_34 : FW R [35, 36, 1888] T_33 T_34 := d_T_34.2
    have x_T_34 := x_T_33.tr (y_T_34.w (by decide))
    have f_T_34_o_1 : (T_34.2.2.1 o 1).toInt = (T_33.2.2.1 o 1).toInt := congrArg Int32.toInt (y_T_34 o 1 (by rw [k_o]; decide))
    exact tot_some ⟨⟨h_T_34, x_T_34⟩, fun _ => (show (0 ≤ (0 : Int32).toInt ∧ (0 : Int32).toInt ≤ 0) from by omega)⟩
