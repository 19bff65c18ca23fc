section
/-! 13d.cd3.lean.txt -/
set_option maxHeartbeats 4000000 in
set_option maxRecDepth 10000 in
theorem cs_X3_shape {R : Nat → Nat} {B K1 K2 : Nat} (T : AT) (o : Nat) (h_T : IV R B K1 K2 T) (k_o : R o = 3) : Tot (g_X3_shape T o) (fun r => (IV R B K1 K2 r.2.2 ∧ FW R [97, 98, 99] T r.2.2) ∧ (r.1 = 0 → (0 ≤ r.2.1.toInt ∧ r.2.1.toInt ≤ 3))) := by
  have z0 : (0 : Int32).toInt = 0 := by decide
  have z1 : ((1 : Int32) : Int32).toInt = 1 := by decide
  have z2 : (1 : Int32).toInt = 1 := by decide
  have z3 : (3 : Int32).toInt = 3 := by decide
  have z4 : (2 : Int32).toInt = 2 := by decide
  have cc_101 : cnt 101 = 1 := rfl
  have cc_102 : cnt 102 = 12 := rfl
  have cc_103 : cnt 103 = 144 := rfl
  have cc_104 : cnt 104 = 2400 := rfl
  have cc_105 : cnt 105 = 7200 := rfl
  have x_T : FW R [97, 98, 99] T T := FW.rf
  unfold g_X3_shape
  refine tot_oif (iv_oO h_T k_o (by decide) (by decide) rfl) ?_
  refine tot_bindq (R := fun r_1 : Int32 => (0 ≤ r_1.toInt ∧ r_1.toInt ≤ 1 ∧ (r_1.toInt = 0 ∨ (T.2.2.1 o 1).toInt ≤ 1000))) (cs_X3_isWord T (sTx "triangle") o h_T k_o (by decide)) (fun r_1 d_r_1 => ?_)
  replace d_r_1 : (0 ≤ r_1.toInt ∧ r_1.toInt ≤ 1 ∧ (r_1.toInt = 0 ∨ (T.2.2.1 o 1).toInt ≤ 1000)) := d_r_1
  refine tot_if (fun c_12 => ?_) (fun c_12 => ?_)
  · replace c_12 := i_eq c_12
    refine tot_oif (iv_oO h_T k_o (by decide) (by decide) rfl) ?_
    refine tot_bindq (R := fun r_3 : Int32 => (0 ≤ r_3.toInt ∧ r_3.toInt ≤ 1 ∧ (r_3.toInt = 0 ∨ (T.2.2.1 o 1).toInt ≤ 1000))) (cs_X3_isWord T (sTx "pulse") o h_T k_o (by decide)) (fun r_3 d_r_3 => ?_)
    replace d_r_3 : (0 ≤ r_3.toInt ∧ r_3.toInt ≤ 1 ∧ (r_3.toInt = 0 ∨ (T.2.2.1 o 1).toInt ≤ 1000)) := d_r_3
    refine tot_if (fun c_13 => ?_) (fun c_13 => ?_)
    · replace c_13 := i_eq c_13
      refine tot_oif (iv_oO h_T k_o (by decide) (by decide) rfl) ?_
      refine tot_bindq (R := fun r_5 : Int32 => (0 ≤ r_5.toInt ∧ r_5.toInt ≤ 1 ∧ (r_5.toInt = 0 ∨ (T.2.2.1 o 1).toInt ≤ 1000))) (cs_X3_isWord T (sTx "noise") o h_T k_o (by decide)) (fun r_5 d_r_5 => ?_)
      replace d_r_5 : (0 ≤ r_5.toInt ∧ r_5.toInt ≤ 1 ∧ (r_5.toInt = 0 ∨ (T.2.2.1 o 1).toInt ≤ 1000)) := d_r_5
      refine tot_if (fun c_14 => ?_) (fun c_14 => ?_)
      · replace c_14 := i_eq c_14
        refine tot_oif (iv_oO h_T k_o (by decide) (by decide) rfl) ?_
        refine tot_bindq (R := fun r_7 : Int32 => (0 ≤ r_7.toInt ∧ r_7.toInt ≤ 1 ∧ (r_7.toInt = 0 ∨ (T.2.2.1 o 1).toInt ≤ 1000))) (cs_X3_isWord T (sTx "square") o h_T k_o (by decide)) (fun r_7 d_r_7 => ?_)
        replace d_r_7 : (0 ≤ r_7.toInt ∧ r_7.toInt ≤ 1 ∧ (r_7.toInt = 0 ∨ (T.2.2.1 o 1).toInt ≤ 1000)) := d_r_7
        refine tot_if (fun c_15 => ?_) (fun c_15 => ?_)
        · replace c_15 := i_eq c_15
          refine tot_oif (iv_oO h_T k_o (by decide) (by decide) rfl) ?_
          refine tot_let (fun v_9 e_v_9 => ?_)
          have q_v_9 := i_eq e_v_9
          have r_v_9 : 0 ≤ v_9.toInt ∧ v_9.toInt ≤ 1001 := iv_int h_T k_o (by decide) (by decide) e_v_9 rfl
          refine tot_oif (iv_oO h_T k_o (by decide) (by decide) rfl) ?_
          refine tot_thri (R := R) (W := [98, 99]) (Q := fun r_10 : Int32 => (False)) (cs_X3_failAt T o v_9 (1 : Int32) h_T k_o (by omega) (by omega)) (fun r_10 T_11 i_T_11 y_T_11 d_r_10 => ?_) (fun k_ U_ i_ y_ => ⟨⟨i_, x_T.tr (y_.w (by decide))⟩, fun q_ => absurd q_ (Nat.succ_ne_zero k_)⟩)
          have h_T_11 : IV R B K1 K2 T_11 := i_T_11
          have x_T_11 := x_T.tr (y_T_11.w (by decide))
          have f_T_11_o_1 : (T_11.2.2.1 o 1).toInt = (T.2.2.1 o 1).toInt := congrArg Int32.toInt (y_T_11 o 1 (by rw [k_o]; decide))
          replace d_r_10 : (False) := d_r_10
          exact d_r_10.elim
        · replace c_15 := i_ne c_15
          unfold g_X3_shape_b62
          refine tot_oif (iv_oO h_T k_o (by decide) (by decide) rfl) ?_
          refine tot_let (fun v_16 e_v_16 => ?_)
          have q_v_16 := i_eq e_v_16
          have r_v_16 : 0 ≤ v_16.toInt ∧ v_16.toInt ≤ 1001 := iv_int h_T k_o (by decide) (by decide) e_v_16 rfl
          refine tot_let (fun v_17 e_v_17 => ?_)
          have q_v_17 := i_add e_v_17 (by omega) (by omega)
          refine tot_oif (iv_oO h_T k_o (by decide) (by decide) rfl) ?_
          refine tot_let (fun T_18 e_T_18 => ?_)
          have h_T_18 : IV R B K1 K2 T_18 := by rw [e_T_18]; exact iv_uI (a := 0) (b := 1001) h_T k_o (by decide) (by decide) rfl (by omega) (.inl rfl)
          have x_T_18 := x_T.tr (fw_uI e_T_18 k_o (by decide))
          have f_T_18_o_1 : (T_18.2.2.1 o 1).toInt = (v_17 : Int32).toInt := by rw [e_T_18]; exact congrArg Int32.toInt (uI_at _ _ _ _)
          exact tot_some ⟨⟨h_T_18, x_T_18⟩, fun _ => (show (0 ≤ (0 : Int32).toInt ∧ (0 : Int32).toInt ≤ 3) from by omega)⟩
      · replace c_14 := i_ne c_14
        unfold g_X3_shape_b62
        refine tot_oif (iv_oO h_T k_o (by decide) (by decide) rfl) ?_
        refine tot_let (fun v_19 e_v_19 => ?_)
        have q_v_19 := i_eq e_v_19
        have r_v_19 : 0 ≤ v_19.toInt ∧ v_19.toInt ≤ 1001 := iv_int h_T k_o (by decide) (by decide) e_v_19 rfl
        refine tot_let (fun v_20 e_v_20 => ?_)
        have q_v_20 := i_add e_v_20 (by omega) (by omega)
        refine tot_oif (iv_oO h_T k_o (by decide) (by decide) rfl) ?_
        refine tot_let (fun T_21 e_T_21 => ?_)
        have h_T_21 : IV R B K1 K2 T_21 := by rw [e_T_21]; exact iv_uI (a := 0) (b := 1001) h_T k_o (by decide) (by decide) rfl (by omega) (.inl rfl)
        have x_T_21 := x_T.tr (fw_uI e_T_21 k_o (by decide))
        have f_T_21_o_1 : (T_21.2.2.1 o 1).toInt = (v_20 : Int32).toInt := by rw [e_T_21]; exact congrArg Int32.toInt (uI_at _ _ _ _)
        exact tot_some ⟨⟨h_T_21, x_T_21⟩, fun _ => (show (0 ≤ (3 : Int32).toInt ∧ (3 : Int32).toInt ≤ 3) from by omega)⟩
    · replace c_13 := i_ne c_13
      unfold g_X3_shape_b62
      refine tot_oif (iv_oO h_T k_o (by decide) (by decide) rfl) ?_
      refine tot_let (fun v_22 e_v_22 => ?_)
      have q_v_22 := i_eq e_v_22
      have r_v_22 : 0 ≤ v_22.toInt ∧ v_22.toInt ≤ 1001 := iv_int h_T k_o (by decide) (by decide) e_v_22 rfl
      refine tot_let (fun v_23 e_v_23 => ?_)
      have q_v_23 := i_add e_v_23 (by omega) (by omega)
      refine tot_oif (iv_oO h_T k_o (by decide) (by decide) rfl) ?_
      refine tot_let (fun T_24 e_T_24 => ?_)
      have h_T_24 : IV R B K1 K2 T_24 := by rw [e_T_24]; exact iv_uI (a := 0) (b := 1001) h_T k_o (by decide) (by decide) rfl (by omega) (.inl rfl)
      have x_T_24 := x_T.tr (fw_uI e_T_24 k_o (by decide))
      have f_T_24_o_1 : (T_24.2.2.1 o 1).toInt = (v_23 : Int32).toInt := by rw [e_T_24]; exact congrArg Int32.toInt (uI_at _ _ _ _)
      exact tot_some ⟨⟨h_T_24, x_T_24⟩, fun _ => (show (0 ≤ (2 : Int32).toInt ∧ (2 : Int32).toInt ≤ 3) from by omega)⟩
  · replace c_12 := i_ne c_12
    unfold g_X3_shape_b62
    refine tot_oif (iv_oO h_T k_o (by decide) (by decide) rfl) ?_
    refine tot_let (fun v_25 e_v_25 => ?_)
    have q_v_25 := i_eq e_v_25
    have r_v_25 : 0 ≤ v_25.toInt ∧ v_25.toInt ≤ 1001 := iv_int h_T k_o (by decide) (by decide) e_v_25 rfl
    refine tot_let (fun v_26 e_v_26 => ?_)
    have q_v_26 := i_add e_v_26 (by omega) (by omega)
    refine tot_oif (iv_oO h_T k_o (by decide) (by decide) rfl) ?_
    refine tot_let (fun T_27 e_T_27 => ?_)
    have h_T_27 : IV R B K1 K2 T_27 := by rw [e_T_27]; exact iv_uI (a := 0) (b := 1001) h_T k_o (by decide) (by decide) rfl (by omega) (.inl rfl)
    have x_T_27 := x_T.tr (fw_uI e_T_27 k_o (by decide))
    have f_T_27_o_1 : (T_27.2.2.1 o 1).toInt = (v_26 : Int32).toInt := by rw [e_T_27]; exact congrArg Int32.toInt (uI_at _ _ _ _)
    exact tot_some ⟨⟨h_T_27, x_T_27⟩, fun _ => (show (0 ≤ (1 : Int32).toInt ∧ (1 : Int32).toInt ≤ 3) from by omega)⟩
set_option maxHeartbeats 4000000 in
set_option maxRecDepth 10000 in
theorem cs_X3_parseSource {R : Nat → Nat} {B K1 K2 : Nat} (T : AT) (o : Nat) (a0 : Nat) (h_T : IV R B K1 K2 T) (k_o : R o = 3) (k_a0 : R a0 = 6) (g0 : (T.2.2.1 o 1).toInt ≤ 1000) : Tot (g_X3_parseSource T o a0) (fun r => (IV R B K1 K2 r.2.2 ∧ FW R [97, 98, 99, 200, 224, 225, 226, 227, 228, 229, 230, 231, 232, 233] T r.2.2) ∧ (r.1 = 0 → (0 ≤ r.2.1.toInt ∧ r.2.1.toInt ≤ 0))) := by
  have z0 : (6 : Int32).toInt = 6 := by decide
  have z1 : (0 : Int32).toInt = 0 := by decide
  have z2 : ((4 : Int32) : Int32).toInt = 4 := by decide
  have z3 : (((-2000) : Int32) : Int32).toInt = -2000 := by decide
  have z4 : ((2000 : Int32) : Int32).toInt = 2000 := by decide
  have z5 : (((-999) : Int32) : Int32).toInt = -999 := by decide
  have z6 : ((999 : Int32) : Int32).toInt = 999 := by decide
  have z7 : ((1 : Int32) : Int32).toInt = 1 := by decide
  have z8 : ((2 : Int32) : Int32).toInt = 2 := by decide
  have z9 : ((99 : Int32) : Int32).toInt = 99 := by decide
  have z10 : ((0 : Int32) : Int32).toInt = 0 := by decide
  have z11 : (1 : Int32).toInt = 1 := by decide
  have z12 : ((199 : Int32) : Int32).toInt = 199 := by decide
  have cc_101 : cnt 101 = 1 := rfl
  have cc_102 : cnt 102 = 12 := rfl
  have cc_103 : cnt 103 = 144 := rfl
  have cc_104 : cnt 104 = 2400 := rfl
  have cc_105 : cnt 105 = 7200 := rfl
  have x_T : FW R [97, 98, 99, 200, 224, 225, 226, 227, 228, 229, 230, 231, 232, 233] T T := FW.rf
  unfold g_X3_parseSource
  refine tot_oif (iv_oO h_T k_a0 (by decide) (by decide) rfl) ?_
  refine tot_let (fun v_1 e_v_1 => ?_)
  have q_v_1 := i_eq e_v_1
  have r_v_1 : 0 ≤ v_1.toInt ∧ v_1.toInt ≤ 6 := iv_int h_T k_a0 (by decide) (by decide) e_v_1 rfl
  refine tot_if (fun c_2 => ?_) (fun c_2 => ?_)
  · replace c_2 := i_lt c_2
    unfold g_X3_parseSource_b15
    refine tot_oif (iv_oO h_T k_o (by decide) (by decide) rfl) ?_
    refine tot_thri (R := R) (W := [97, 98, 99]) (Q := fun r_3 : Int32 => ((0 : Int32).toInt = 0)) (cs_X3_startLine T o 0 (4 : Int32) h_T k_o (by omega) (by omega) (by omega)) (fun r_3 T_4 i_T_4 y_T_4 d_r_3 => ?_) (fun k_ U_ i_ y_ => ⟨⟨i_, x_T.tr (y_.w (by decide))⟩, fun q_ => absurd q_ (Nat.succ_ne_zero k_)⟩)
    have h_T_4 : IV R B K1 K2 T_4 := i_T_4
    have x_T_4 := x_T.tr (y_T_4.w (by decide))
    have f_T_4_a0_8 : (T_4.2.2.1 a0 8).toInt = (T.2.2.1 a0 8).toInt := congrArg Int32.toInt (y_T_4 a0 8 (by rw [k_a0]; decide))
    replace d_r_3 : ((0 : Int32).toInt = 0) := d_r_3
    refine tot_oif (iv_oO h_T_4 k_a0 (by decide) (by decide) rfl) ?_
    refine tot_ref h_T_4 k_a0 (by decide) (by decide) (r2 := 54) (rfl : rtg 6 7 = 54) (by decide) (fun n_5 k_n_5 e_n_5 => ?_)
    refine tot_oif (iv_oO h_T_4 k_a0 (by decide) (by decide) rfl) ?_
    refine tot_let (fun v_6 e_v_6 => ?_)
    have q_v_6 := i_eq e_v_6
    have r_v_6 : 0 ≤ v_6.toInt ∧ v_6.toInt ≤ 6 := iv_int h_T_4 k_a0 (by decide) (by decide) e_v_6 rfl
    refine tot_oif (iv_aA h_T_4 k_n_5 (by decide) (by decide) rfl rfl) ?_
    refine tot_oif (by rw [iv_len h_T_4 k_n_5 (by decide) (by decide) (rfl : shp 54 = (104, 6))]; exact i_inb (by omega) (by omega)) ?_
    refine tot_ref h_T_4 k_n_5 (by decide) (by decide) (r2 := 7) (rt_54 (by omega) (by omega)) (by decide) (fun n_7 k_n_7 e_n_7 => ?_)
    refine tot_oif (iv_oO h_T_4 k_o (by decide) (by decide) rfl) ?_
    refine tot_thri (R := R) (W := [97, 98, 99]) (Q := fun r_8 : Int32 => (0 ≤ r_8.toInt ∧ r_8.toInt ≤ 3)) (cs_X3_shape T_4 o h_T_4 k_o ) (fun r_8 T_9 i_T_9 y_T_9 d_r_8 => ?_) (fun k_ U_ i_ y_ => ⟨⟨i_, x_T_4.tr (y_.w (by decide))⟩, fun q_ => absurd q_ (Nat.succ_ne_zero k_)⟩)
    have h_T_9 : IV R B K1 K2 T_9 := i_T_9
    have x_T_9 := x_T_4.tr (y_T_9.w (by decide))
    have f_T_9_a0_8 : (T_9.2.2.1 a0 8).toInt = (T_4.2.2.1 a0 8).toInt := congrArg Int32.toInt (y_T_9 a0 8 (by rw [k_a0]; decide))
    replace d_r_8 : (0 ≤ r_8.toInt ∧ r_8.toInt ≤ 3) := d_r_8
    refine tot_oif (iv_oO h_T_9 k_n_7 (by decide) (by decide) rfl) ?_
    refine tot_let (fun T_10 e_T_10 => ?_)
    have h_T_10 : IV R B K1 K2 T_10 := by rw [e_T_10]; exact iv_uI (a := 0) (b := 3) h_T_9 k_n_7 (by decide) (by decide) rfl (by omega) (.inl rfl)
    have x_T_10 := x_T_9.tr (fw_uI e_T_10 k_n_7 (by decide))
    have f_T_10_o_1 : (T_10.2.2.1 o 1).toInt = (T_9.2.2.1 o 1).toInt := congrArg Int32.toInt ((fw_uI (W := [224]) e_T_10 k_n_7 (by decide)) o 1 (by rw [k_o]; decide))
    have f_T_10_a0_8 : (T_10.2.2.1 a0 8).toInt = (T_9.2.2.1 a0 8).toInt := congrArg Int32.toInt ((fw_uI (W := [224]) e_T_10 k_n_7 (by decide)) a0 8 (by rw [k_a0]; decide))
    refine tot_oif (iv_oO h_T_10 k_o (by decide) (by decide) rfl) ?_
    refine tot_thri (R := R) (W := [97, 98, 99]) (Q := fun r_11 : Int32 => ((((-2000) : Int32) : Int32).toInt ≤ r_11.toInt ∧ r_11.toInt ≤ ((2000 : Int32) : Int32).toInt)) (cs_X3_signed T_10 o ((-2000) : Int32) (2000 : Int32) h_T_10 k_o (by omega) (by omega)) (fun r_11 T_12 i_T_12 y_T_12 d_r_11 => ?_) (fun k_ U_ i_ y_ => ⟨⟨i_, x_T_10.tr (y_.w (by decide))⟩, fun q_ => absurd q_ (Nat.succ_ne_zero k_)⟩)
    have h_T_12 : IV R B K1 K2 T_12 := i_T_12
    have x_T_12 := x_T_10.tr (y_T_12.w (by decide))
    have f_T_12_a0_8 : (T_12.2.2.1 a0 8).toInt = (T_10.2.2.1 a0 8).toInt := congrArg Int32.toInt (y_T_12 a0 8 (by rw [k_a0]; decide))
    replace d_r_11 : ((((-2000) : Int32) : Int32).toInt ≤ r_11.toInt ∧ r_11.toInt ≤ ((2000 : Int32) : Int32).toInt) := d_r_11
    refine tot_oif (iv_oO h_T_12 k_n_7 (by decide) (by decide) rfl) ?_
    refine tot_let (fun T_13 e_T_13 => ?_)
    have h_T_13 : IV R B K1 K2 T_13 := by rw [e_T_13]; exact iv_uI (a := -2000) (b := 2000) h_T_12 k_n_7 (by decide) (by decide) rfl (by omega) (.inl rfl)
    have x_T_13 := x_T_12.tr (fw_uI e_T_13 k_n_7 (by decide))
    have f_T_13_o_1 : (T_13.2.2.1 o 1).toInt = (T_12.2.2.1 o 1).toInt := congrArg Int32.toInt ((fw_uI (W := [225]) e_T_13 k_n_7 (by decide)) o 1 (by rw [k_o]; decide))
    have f_T_13_a0_8 : (T_13.2.2.1 a0 8).toInt = (T_12.2.2.1 a0 8).toInt := congrArg Int32.toInt ((fw_uI (W := [225]) e_T_13 k_n_7 (by decide)) a0 8 (by rw [k_a0]; decide))
    refine tot_oif (iv_oO h_T_13 k_o (by decide) (by decide) rfl) ?_
    refine tot_thri (R := R) (W := [97, 98, 99]) (Q := fun r_14 : Int32 => ((((-2000) : Int32) : Int32).toInt ≤ r_14.toInt ∧ r_14.toInt ≤ ((2000 : Int32) : Int32).toInt)) (cs_X3_signed T_13 o ((-2000) : Int32) (2000 : Int32) h_T_13 k_o (by omega) (by omega)) (fun r_14 T_15 i_T_15 y_T_15 d_r_14 => ?_) (fun k_ U_ i_ y_ => ⟨⟨i_, x_T_13.tr (y_.w (by decide))⟩, fun q_ => absurd q_ (Nat.succ_ne_zero k_)⟩)
    have h_T_15 : IV R B K1 K2 T_15 := i_T_15
    have x_T_15 := x_T_13.tr (y_T_15.w (by decide))
    have f_T_15_a0_8 : (T_15.2.2.1 a0 8).toInt = (T_13.2.2.1 a0 8).toInt := congrArg Int32.toInt (y_T_15 a0 8 (by rw [k_a0]; decide))
    replace d_r_14 : ((((-2000) : Int32) : Int32).toInt ≤ r_14.toInt ∧ r_14.toInt ≤ ((2000 : Int32) : Int32).toInt) := d_r_14
    refine tot_oif (iv_oO h_T_15 k_n_7 (by decide) (by decide) rfl) ?_
    refine tot_let (fun T_16 e_T_16 => ?_)
    have h_T_16 : IV R B K1 K2 T_16 := by rw [e_T_16]; exact iv_uI (a := -2000) (b := 2000) h_T_15 k_n_7 (by decide) (by decide) rfl (by omega) (.inl rfl)
    have x_T_16 := x_T_15.tr (fw_uI e_T_16 k_n_7 (by decide))
    have f_T_16_o_1 : (T_16.2.2.1 o 1).toInt = (T_15.2.2.1 o 1).toInt := congrArg Int32.toInt ((fw_uI (W := [226]) e_T_16 k_n_7 (by decide)) o 1 (by rw [k_o]; decide))
    have f_T_16_a0_8 : (T_16.2.2.1 a0 8).toInt = (T_15.2.2.1 a0 8).toInt := congrArg Int32.toInt ((fw_uI (W := [226]) e_T_16 k_n_7 (by decide)) a0 8 (by rw [k_a0]; decide))
    refine tot_oif (iv_oO h_T_16 k_o (by decide) (by decide) rfl) ?_
    refine tot_thri (R := R) (W := [97, 98, 99]) (Q := fun r_17 : Int32 => ((((-999) : Int32) : Int32).toInt ≤ r_17.toInt ∧ r_17.toInt ≤ ((999 : Int32) : Int32).toInt)) (cs_X3_signed T_16 o ((-999) : Int32) (999 : Int32) h_T_16 k_o (by omega) (by omega)) (fun r_17 T_18 i_T_18 y_T_18 d_r_17 => ?_) (fun k_ U_ i_ y_ => ⟨⟨i_, x_T_16.tr (y_.w (by decide))⟩, fun q_ => absurd q_ (Nat.succ_ne_zero k_)⟩)
    have h_T_18 : IV R B K1 K2 T_18 := i_T_18
    have x_T_18 := x_T_16.tr (y_T_18.w (by decide))
    have f_T_18_a0_8 : (T_18.2.2.1 a0 8).toInt = (T_16.2.2.1 a0 8).toInt := congrArg Int32.toInt (y_T_18 a0 8 (by rw [k_a0]; decide))
    replace d_r_17 : ((((-999) : Int32) : Int32).toInt ≤ r_17.toInt ∧ r_17.toInt ≤ ((999 : Int32) : Int32).toInt) := d_r_17
    refine tot_oif (iv_oO h_T_18 k_n_7 (by decide) (by decide) rfl) ?_
    refine tot_let (fun T_19 e_T_19 => ?_)
    have h_T_19 : IV R B K1 K2 T_19 := by rw [e_T_19]; exact iv_uI (a := -999) (b := 999) h_T_18 k_n_7 (by decide) (by decide) rfl (by omega) (.inl rfl)
    have x_T_19 := x_T_18.tr (fw_uI e_T_19 k_n_7 (by decide))
    have f_T_19_o_1 : (T_19.2.2.1 o 1).toInt = (T_18.2.2.1 o 1).toInt := congrArg Int32.toInt ((fw_uI (W := [227]) e_T_19 k_n_7 (by decide)) o 1 (by rw [k_o]; decide))
    have f_T_19_a0_8 : (T_19.2.2.1 a0 8).toInt = (T_18.2.2.1 a0 8).toInt := congrArg Int32.toInt ((fw_uI (W := [227]) e_T_19 k_n_7 (by decide)) a0 8 (by rw [k_a0]; decide))
    refine tot_oif (iv_oO h_T_19 k_o (by decide) (by decide) rfl) ?_
    refine tot_thri (R := R) (W := [97, 98, 99]) (Q := fun r_20 : Int32 => ((((-999) : Int32) : Int32).toInt ≤ r_20.toInt ∧ r_20.toInt ≤ ((999 : Int32) : Int32).toInt)) (cs_X3_signed T_19 o ((-999) : Int32) (999 : Int32) h_T_19 k_o (by omega) (by omega)) (fun r_20 T_21 i_T_21 y_T_21 d_r_20 => ?_) (fun k_ U_ i_ y_ => ⟨⟨i_, x_T_19.tr (y_.w (by decide))⟩, fun q_ => absurd q_ (Nat.succ_ne_zero k_)⟩)
    have h_T_21 : IV R B K1 K2 T_21 := i_T_21
    have x_T_21 := x_T_19.tr (y_T_21.w (by decide))
    have f_T_21_a0_8 : (T_21.2.2.1 a0 8).toInt = (T_19.2.2.1 a0 8).toInt := congrArg Int32.toInt (y_T_21 a0 8 (by rw [k_a0]; decide))
    replace d_r_20 : ((((-999) : Int32) : Int32).toInt ≤ r_20.toInt ∧ r_20.toInt ≤ ((999 : Int32) : Int32).toInt) := d_r_20
    refine tot_oif (iv_oO h_T_21 k_n_7 (by decide) (by decide) rfl) ?_
    refine tot_let (fun T_22 e_T_22 => ?_)
    have h_T_22 : IV R B K1 K2 T_22 := by rw [e_T_22]; exact iv_uI (a := -999) (b := 999) h_T_21 k_n_7 (by decide) (by decide) rfl (by omega) (.inl rfl)
    have x_T_22 := x_T_21.tr (fw_uI e_T_22 k_n_7 (by decide))
    have f_T_22_o_1 : (T_22.2.2.1 o 1).toInt = (T_21.2.2.1 o 1).toInt := congrArg Int32.toInt ((fw_uI (W := [228]) e_T_22 k_n_7 (by decide)) o 1 (by rw [k_o]; decide))
    have f_T_22_a0_8 : (T_22.2.2.1 a0 8).toInt = (T_21.2.2.1 a0 8).toInt := congrArg Int32.toInt ((fw_uI (W := [228]) e_T_22 k_n_7 (by decide)) a0 8 (by rw [k_a0]; decide))
    refine tot_oif (iv_oO h_T_22 k_o (by decide) (by decide) rfl) ?_
    refine tot_thri (R := R) (W := [97, 98, 99]) (Q := fun r_23 : Int32 => (((1 : Int32) : Int32).toInt ≤ r_23.toInt ∧ r_23.toInt ≤ ((999 : Int32) : Int32).toInt)) (cs_X3_number T_22 o (1 : Int32) (999 : Int32) h_T_22 k_o ) (fun r_23 T_24 i_T_24 y_T_24 d_r_23 => ?_) (fun k_ U_ i_ y_ => ⟨⟨i_, x_T_22.tr (y_.w (by decide))⟩, fun q_ => absurd q_ (Nat.succ_ne_zero k_)⟩)
    have h_T_24 : IV R B K1 K2 T_24 := i_T_24
    have x_T_24 := x_T_22.tr (y_T_24.w (by decide))
    have f_T_24_a0_8 : (T_24.2.2.1 a0 8).toInt = (T_22.2.2.1 a0 8).toInt := congrArg Int32.toInt (y_T_24 a0 8 (by rw [k_a0]; decide))
    replace d_r_23 : (((1 : Int32) : Int32).toInt ≤ r_23.toInt ∧ r_23.toInt ≤ ((999 : Int32) : Int32).toInt) := d_r_23
    refine tot_oif (iv_oO h_T_24 k_n_7 (by decide) (by decide) rfl) ?_
    refine tot_let (fun T_25 e_T_25 => ?_)
    have h_T_25 : IV R B K1 K2 T_25 := by rw [e_T_25]; exact iv_uI (a := 0) (b := 999) h_T_24 k_n_7 (by decide) (by decide) rfl (by omega) (.inl rfl)
    have x_T_25 := x_T_24.tr (fw_uI e_T_25 k_n_7 (by decide))
    have f_T_25_o_1 : (T_25.2.2.1 o 1).toInt = (T_24.2.2.1 o 1).toInt := congrArg Int32.toInt ((fw_uI (W := [229]) e_T_25 k_n_7 (by decide)) o 1 (by rw [k_o]; decide))
    have f_T_25_a0_8 : (T_25.2.2.1 a0 8).toInt = (T_24.2.2.1 a0 8).toInt := congrArg Int32.toInt ((fw_uI (W := [229]) e_T_25 k_n_7 (by decide)) a0 8 (by rw [k_a0]; decide))
    refine tot_oif (iv_oO h_T_25 k_o (by decide) (by decide) rfl) ?_
    refine tot_thri (R := R) (W := [97, 98, 99]) (Q := fun r_26 : Int32 => (((2 : Int32) : Int32).toInt ≤ r_26.toInt ∧ r_26.toInt ≤ ((99 : Int32) : Int32).toInt)) (cs_X3_number T_25 o (2 : Int32) (99 : Int32) h_T_25 k_o ) (fun r_26 T_27 i_T_27 y_T_27 d_r_26 => ?_) (fun k_ U_ i_ y_ => ⟨⟨i_, x_T_25.tr (y_.w (by decide))⟩, fun q_ => absurd q_ (Nat.succ_ne_zero k_)⟩)
    have h_T_27 : IV R B K1 K2 T_27 := i_T_27
    have x_T_27 := x_T_25.tr (y_T_27.w (by decide))
    have f_T_27_a0_8 : (T_27.2.2.1 a0 8).toInt = (T_25.2.2.1 a0 8).toInt := congrArg Int32.toInt (y_T_27 a0 8 (by rw [k_a0]; decide))
    replace d_r_26 : (((2 : Int32) : Int32).toInt ≤ r_26.toInt ∧ r_26.toInt ≤ ((99 : Int32) : Int32).toInt) := d_r_26
    refine tot_oif (iv_oO h_T_27 k_n_7 (by decide) (by decide) rfl) ?_
    refine tot_let (fun T_28 e_T_28 => ?_)
    have h_T_28 : IV R B K1 K2 T_28 := by rw [e_T_28]; exact iv_uI (a := 0) (b := 99) h_T_27 k_n_7 (by decide) (by decide) rfl (by omega) (.inl rfl)
    have x_T_28 := x_T_27.tr (fw_uI e_T_28 k_n_7 (by decide))
    have f_T_28_o_1 : (T_28.2.2.1 o 1).toInt = (T_27.2.2.1 o 1).toInt := congrArg Int32.toInt ((fw_uI (W := [230]) e_T_28 k_n_7 (by decide)) o 1 (by rw [k_o]; decide))
    have f_T_28_a0_8 : (T_28.2.2.1 a0 8).toInt = (T_27.2.2.1 a0 8).toInt := congrArg Int32.toInt ((fw_uI (W := [230]) e_T_28 k_n_7 (by decide)) a0 8 (by rw [k_a0]; decide))
    refine tot_oif (iv_oO h_T_28 k_o (by decide) (by decide) rfl) ?_
    refine tot_thri (R := R) (W := [97, 98, 99]) (Q := fun r_29 : Int32 => (((0 : Int32) : Int32).toInt ≤ r_29.toInt ∧ r_29.toInt ≤ ((99 : Int32) : Int32).toInt)) (cs_X3_number T_28 o (0 : Int32) (99 : Int32) h_T_28 k_o ) (fun r_29 T_30 i_T_30 y_T_30 d_r_29 => ?_) (fun k_ U_ i_ y_ => ⟨⟨i_, x_T_28.tr (y_.w (by decide))⟩, fun q_ => absurd q_ (Nat.succ_ne_zero k_)⟩)
    have h_T_30 : IV R B K1 K2 T_30 := i_T_30
    have x_T_30 := x_T_28.tr (y_T_30.w (by decide))
    have f_T_30_a0_8 : (T_30.2.2.1 a0 8).toInt = (T_28.2.2.1 a0 8).toInt := congrArg Int32.toInt (y_T_30 a0 8 (by rw [k_a0]; decide))
    replace d_r_29 : (((0 : Int32) : Int32).toInt ≤ r_29.toInt ∧ r_29.toInt ≤ ((99 : Int32) : Int32).toInt) := d_r_29
    refine tot_oif (iv_oO h_T_30 k_n_7 (by decide) (by decide) rfl) ?_
    refine tot_let (fun T_31 e_T_31 => ?_)
    have h_T_31 : IV R B K1 K2 T_31 := by rw [e_T_31]; exact iv_uI (a := 0) (b := 99) h_T_30 k_n_7 (by decide) (by decide) rfl (by omega) (.inl rfl)
    have x_T_31 := x_T_30.tr (fw_uI e_T_31 k_n_7 (by decide))
    have f_T_31_o_1 : (T_31.2.2.1 o 1).toInt = (T_30.2.2.1 o 1).toInt := congrArg Int32.toInt ((fw_uI (W := [231]) e_T_31 k_n_7 (by decide)) o 1 (by rw [k_o]; decide))
    have f_T_31_a0_8 : (T_31.2.2.1 a0 8).toInt = (T_30.2.2.1 a0 8).toInt := congrArg Int32.toInt ((fw_uI (W := [231]) e_T_31 k_n_7 (by decide)) a0 8 (by rw [k_a0]; decide))
    refine tot_oif (iv_oO h_T_31 k_n_7 (by decide) (by decide) rfl) ?_
    refine tot_let (fun T_32 e_T_32 => ?_)
    have h_T_32 : IV R B K1 K2 T_32 := by rw [e_T_32]; exact iv_uI (a := 0) (b := 199) h_T_31 k_n_7 (by decide) (by decide) rfl (by omega) (.inl rfl)
    have x_T_32 := x_T_31.tr (fw_uI e_T_32 k_n_7 (by decide))
    have f_T_32_o_1 : (T_32.2.2.1 o 1).toInt = (T_31.2.2.1 o 1).toInt := congrArg Int32.toInt ((fw_uI (W := [232]) e_T_32 k_n_7 (by decide)) o 1 (by rw [k_o]; decide))
    have f_T_32_a0_8 : (T_32.2.2.1 a0 8).toInt = (T_31.2.2.1 a0 8).toInt := congrArg Int32.toInt ((fw_uI (W := [232]) e_T_32 k_n_7 (by decide)) a0 8 (by rw [k_a0]; decide))
    refine tot_oif (iv_oO h_T_32 k_n_7 (by decide) (by decide) rfl) ?_
    refine tot_let (fun T_33 e_T_33 => ?_)
    have h_T_33 : IV R B K1 K2 T_33 := by rw [e_T_33]; exact iv_uI (a := 0) (b := 1) h_T_32 k_n_7 (by decide) (by decide) rfl (by omega) (.inl rfl)
    have x_T_33 := x_T_32.tr (fw_uI e_T_33 k_n_7 (by decide))
    have f_T_33_o_1 : (T_33.2.2.1 o 1).toInt = (T_32.2.2.1 o 1).toInt := congrArg Int32.toInt ((fw_uI (W := [233]) e_T_33 k_n_7 (by decide)) o 1 (by rw [k_o]; decide))
    have f_T_33_a0_8 : (T_33.2.2.1 a0 8).toInt = (T_32.2.2.1 a0 8).toInt := congrArg Int32.toInt ((fw_uI (W := [233]) e_T_33 k_n_7 (by decide)) a0 8 (by rw [k_a0]; decide))
    refine tot_oif (iv_oO h_T_33 k_o (by decide) (by decide) rfl) ?_
    refine tot_bindq (R := fun r_34 : Int32 => (0 ≤ r_34.toInt ∧ r_34.toInt ≤ 1 ∧ (r_34.toInt = 0 ∨ (T_33.2.2.1 o 1).toInt ≤ 1000))) (cs_X3_isWord T_33 (sTx "from") o h_T_33 k_o (by decide)) (fun r_34 d_r_34 => ?_)
    replace d_r_34 : (0 ≤ r_34.toInt ∧ r_34.toInt ≤ 1 ∧ (r_34.toInt = 0 ∨ (T_33.2.2.1 o 1).toInt ≤ 1000)) := d_r_34
    refine tot_if (fun c_42 => ?_) (fun c_42 => ?_)
    · replace c_42 := i_eq c_42
      unfold g_X3_parseSource_b168
      refine tot_oif (iv_oO h_T_33 k_a0 (by decide) (by decide) rfl) ?_
      refine tot_let (fun v_43 e_v_43 => ?_)
      have q_v_43 := i_eq e_v_43
      have r_v_43 : 0 ≤ v_43.toInt ∧ v_43.toInt ≤ 6 := iv_int h_T_33 k_a0 (by decide) (by decide) e_v_43 rfl
      refine tot_let (fun v_44 e_v_44 => ?_)
      have q_v_44 := i_add e_v_44 (by omega) (by omega)
      refine tot_oif (iv_oO h_T_33 k_a0 (by decide) (by decide) rfl) ?_
      refine tot_let (fun T_45 e_T_45 => ?_)
      have h_T_45 : IV R B K1 K2 T_45 := by rw [e_T_45]; exact iv_uI (a := 0) (b := 6) h_T_33 k_a0 (by decide) (by decide) rfl (by omega) (.inl rfl)
      have x_T_45 := x_T_33.tr (fw_uI e_T_45 k_a0 (by decide))
      have f_T_45_o_1 : (T_45.2.2.1 o 1).toInt = (T_33.2.2.1 o 1).toInt := congrArg Int32.toInt ((fw_uI (W := [200]) e_T_45 k_a0 (by decide)) o 1 (by rw [k_o]; decide))
      have f_T_45_a0_8 : (T_45.2.2.1 a0 8).toInt = (v_44 : Int32).toInt := by rw [e_T_45]; exact congrArg Int32.toInt (uI_at _ _ _ _)
      exact tot_some ⟨⟨h_T_45, x_T_45⟩, fun _ => (show (0 ≤ (0 : Int32).toInt ∧ (0 : Int32).toInt ≤ 0) from by omega)⟩
    · replace c_42 := i_ne c_42
      refine tot_oif (iv_oO h_T_33 k_o (by decide) (by decide) rfl) ?_
      refine tot_let (fun v_36 e_v_36 => ?_)
      have q_v_36 := i_eq e_v_36
      have r_v_36 : 0 ≤ v_36.toInt ∧ v_36.toInt ≤ 1001 := iv_int h_T_33 k_o (by decide) (by decide) e_v_36 rfl
      refine tot_let (fun v_37 e_v_37 => ?_)
      have q_v_37 := i_add e_v_37 (by omega) (by omega)
      refine tot_oif (iv_oO h_T_33 k_o (by decide) (by decide) rfl) ?_
      refine tot_let (fun T_38 e_T_38 => ?_)
      have h_T_38 : IV R B K1 K2 T_38 := by rw [e_T_38]; exact iv_uI (a := 0) (b := 1001) h_T_33 k_o (by decide) (by decide) rfl (by omega) (.inl rfl)
      have x_T_38 := x_T_33.tr (fw_uI e_T_38 k_o (by decide))
      have f_T_38_o_1 : (T_38.2.2.1 o 1).toInt = (v_37 : Int32).toInt := by rw [e_T_38]; exact congrArg Int32.toInt (uI_at _ _ _ _)
      have f_T_38_a0_8 : (T_38.2.2.1 a0 8).toInt = (T_33.2.2.1 a0 8).toInt := congrArg Int32.toInt ((fw_uI (W := [97]) e_T_38 k_o (by decide)) a0 8 (by rw [k_a0]; decide))
      refine tot_oif (iv_oO h_T_38 k_o (by decide) (by decide) rfl) ?_
      refine tot_thri (R := R) (W := [97, 98, 99]) (Q := fun r_39 : Int32 => (((0 : Int32) : Int32).toInt ≤ r_39.toInt ∧ r_39.toInt ≤ ((199 : Int32) : Int32).toInt)) (cs_X3_number T_38 o (0 : Int32) (199 : Int32) h_T_38 k_o ) (fun r_39 T_40 i_T_40 y_T_40 d_r_39 => ?_) (fun k_ U_ i_ y_ => ⟨⟨i_, x_T_38.tr (y_.w (by decide))⟩, fun q_ => absurd q_ (Nat.succ_ne_zero k_)⟩)
      have h_T_40 : IV R B K1 K2 T_40 := i_T_40
      have x_T_40 := x_T_38.tr (y_T_40.w (by decide))
      have f_T_40_a0_8 : (T_40.2.2.1 a0 8).toInt = (T_38.2.2.1 a0 8).toInt := congrArg Int32.toInt (y_T_40 a0 8 (by rw [k_a0]; decide))
      replace d_r_39 : (((0 : Int32) : Int32).toInt ≤ r_39.toInt ∧ r_39.toInt ≤ ((199 : Int32) : Int32).toInt) := d_r_39
      refine tot_oif (iv_oO h_T_40 k_n_7 (by decide) (by decide) rfl) ?_
      refine tot_let (fun T_41 e_T_41 => ?_)
      have h_T_41 : IV R B K1 K2 T_41 := by rw [e_T_41]; exact iv_uI (a := 0) (b := 199) h_T_40 k_n_7 (by decide) (by decide) rfl (by omega) (.inl rfl)
      have x_T_41 := x_T_40.tr (fw_uI e_T_41 k_n_7 (by decide))
      have f_T_41_o_1 : (T_41.2.2.1 o 1).toInt = (T_40.2.2.1 o 1).toInt := congrArg Int32.toInt ((fw_uI (W := [232]) e_T_41 k_n_7 (by decide)) o 1 (by rw [k_o]; decide))
      have f_T_41_a0_8 : (T_41.2.2.1 a0 8).toInt = (T_40.2.2.1 a0 8).toInt := congrArg Int32.toInt ((fw_uI (W := [232]) e_T_41 k_n_7 (by decide)) a0 8 (by rw [k_a0]; decide))
      unfold g_X3_parseSource_b168
      refine tot_oif (iv_oO h_T_41 k_a0 (by decide) (by decide) rfl) ?_
      refine tot_let (fun v_46 e_v_46 => ?_)
      have q_v_46 := i_eq e_v_46
      have r_v_46 : 0 ≤ v_46.toInt ∧ v_46.toInt ≤ 6 := iv_int h_T_41 k_a0 (by decide) (by decide) e_v_46 rfl
      refine tot_let (fun v_47 e_v_47 => ?_)
      have q_v_47 := i_add e_v_47 (by omega) (by omega)
      refine tot_oif (iv_oO h_T_41 k_a0 (by decide) (by decide) rfl) ?_
      refine tot_let (fun T_48 e_T_48 => ?_)
      have h_T_48 : IV R B K1 K2 T_48 := by rw [e_T_48]; exact iv_uI (a := 0) (b := 6) h_T_41 k_a0 (by decide) (by decide) rfl (by omega) (.inl rfl)
      have x_T_48 := x_T_41.tr (fw_uI e_T_48 k_a0 (by decide))
      have f_T_48_o_1 : (T_48.2.2.1 o 1).toInt = (T_41.2.2.1 o 1).toInt := congrArg Int32.toInt ((fw_uI (W := [200]) e_T_48 k_a0 (by decide)) o 1 (by rw [k_o]; decide))
      have f_T_48_a0_8 : (T_48.2.2.1 a0 8).toInt = (v_47 : Int32).toInt := by rw [e_T_48]; exact congrArg Int32.toInt (uI_at _ _ _ _)
      exact tot_some ⟨⟨h_T_48, x_T_48⟩, fun _ => (show (0 ≤ (0 : Int32).toInt ∧ (0 : Int32).toInt ≤ 0) from by omega)⟩
  · replace c_2 := i_nlt c_2
    unfold g_X3_parseSource_b15
    refine tot_oif (iv_oO h_T k_o (by decide) (by decide) rfl) ?_
    refine tot_thri (R := R) (W := [97, 98, 99]) (Q := fun r_49 : Int32 => ((1 : Int32).toInt = 0)) (cs_X3_startLine T o 1 (4 : Int32) h_T k_o (by omega) (by omega) (by omega)) (fun r_49 T_50 i_T_50 y_T_50 d_r_49 => ?_) (fun k_ U_ i_ y_ => ⟨⟨i_, x_T.tr (y_.w (by decide))⟩, fun q_ => absurd q_ (Nat.succ_ne_zero k_)⟩)
    have h_T_50 : IV R B K1 K2 T_50 := i_T_50
    have x_T_50 := x_T.tr (y_T_50.w (by decide))
    have f_T_50_a0_8 : (T_50.2.2.1 a0 8).toInt = (T.2.2.1 a0 8).toInt := congrArg Int32.toInt (y_T_50 a0 8 (by rw [k_a0]; decide))
    replace d_r_49 : ((1 : Int32).toInt = 0) := d_r_49
    refine tot_oif (iv_oO h_T_50 k_a0 (by decide) (by decide) rfl) ?_
    refine tot_ref h_T_50 k_a0 (by decide) (by decide) (r2 := 54) (rfl : rtg 6 7 = 54) (by decide) (fun n_51 k_n_51 e_n_51 => ?_)
    refine tot_oif (iv_oO h_T_50 k_a0 (by decide) (by decide) rfl) ?_
    refine tot_let (fun v_52 e_v_52 => ?_)
    have q_v_52 := i_eq e_v_52
    have r_v_52 : 0 ≤ v_52.toInt ∧ v_52.toInt ≤ 6 := iv_int h_T_50 k_a0 (by decide) (by decide) e_v_52 rfl
    refine tot_oif (iv_aA h_T_50 k_n_51 (by decide) (by decide) rfl rfl) ?_
    refine tot_oif (by rw [iv_len h_T_50 k_n_51 (by decide) (by decide) (rfl : shp 54 = (104, 6))]; exact i_inb (by omega) (by omega)) ?_
    refine tot_ref h_T_50 k_n_51 (by decide) (by decide) (r2 := 7) (rt_54 (by omega) (by omega)) (by decide) (fun n_53 k_n_53 e_n_53 => ?_)
    refine tot_oif (iv_oO h_T_50 k_o (by decide) (by decide) rfl) ?_
    refine tot_thri (R := R) (W := [97, 98, 99]) (Q := fun r_54 : Int32 => (0 ≤ r_54.toInt ∧ r_54.toInt ≤ 3)) (cs_X3_shape T_50 o h_T_50 k_o ) (fun r_54 T_55 i_T_55 y_T_55 d_r_54 => ?_) (fun k_ U_ i_ y_ => ⟨⟨i_, x_T_50.tr (y_.w (by decide))⟩, fun q_ => absurd q_ (Nat.succ_ne_zero k_)⟩)
    have h_T_55 : IV R B K1 K2 T_55 := i_T_55
    have x_T_55 := x_T_50.tr (y_T_55.w (by decide))
    have f_T_55_a0_8 : (T_55.2.2.1 a0 8).toInt = (T_50.2.2.1 a0 8).toInt := congrArg Int32.toInt (y_T_55 a0 8 (by rw [k_a0]; decide))
    replace d_r_54 : (0 ≤ r_54.toInt ∧ r_54.toInt ≤ 3) := d_r_54
    refine tot_oif (iv_oO h_T_55 k_n_53 (by decide) (by decide) rfl) ?_
    refine tot_let (fun T_56 e_T_56 => ?_)
    have h_T_56 : IV R B K1 K2 T_56 := by rw [e_T_56]; exact iv_uI (a := 0) (b := 3) h_T_55 k_n_53 (by decide) (by decide) rfl (by omega) (.inl rfl)
    have x_T_56 := x_T_55.tr (fw_uI e_T_56 k_n_53 (by decide))
    have f_T_56_o_1 : (T_56.2.2.1 o 1).toInt = (T_55.2.2.1 o 1).toInt := congrArg Int32.toInt ((fw_uI (W := [224]) e_T_56 k_n_53 (by decide)) o 1 (by rw [k_o]; decide))
    have f_T_56_a0_8 : (T_56.2.2.1 a0 8).toInt = (T_55.2.2.1 a0 8).toInt := congrArg Int32.toInt ((fw_uI (W := [224]) e_T_56 k_n_53 (by decide)) a0 8 (by rw [k_a0]; decide))
    refine tot_oif (iv_oO h_T_56 k_o (by decide) (by decide) rfl) ?_
    refine tot_thri (R := R) (W := [97, 98, 99]) (Q := fun r_57 : Int32 => ((((-2000) : Int32) : Int32).toInt ≤ r_57.toInt ∧ r_57.toInt ≤ ((2000 : Int32) : Int32).toInt)) (cs_X3_signed T_56 o ((-2000) : Int32) (2000 : Int32) h_T_56 k_o (by omega) (by omega)) (fun r_57 T_58 i_T_58 y_T_58 d_r_57 => ?_) (fun k_ U_ i_ y_ => ⟨⟨i_, x_T_56.tr (y_.w (by decide))⟩, fun q_ => absurd q_ (Nat.succ_ne_zero k_)⟩)
    have h_T_58 : IV R B K1 K2 T_58 := i_T_58
    have x_T_58 := x_T_56.tr (y_T_58.w (by decide))
    have f_T_58_a0_8 : (T_58.2.2.1 a0 8).toInt = (T_56.2.2.1 a0 8).toInt := congrArg Int32.toInt (y_T_58 a0 8 (by rw [k_a0]; decide))
    replace d_r_57 : ((((-2000) : Int32) : Int32).toInt ≤ r_57.toInt ∧ r_57.toInt ≤ ((2000 : Int32) : Int32).toInt) := d_r_57
    refine tot_oif (iv_oO h_T_58 k_n_53 (by decide) (by decide) rfl) ?_
    refine tot_let (fun T_59 e_T_59 => ?_)
    have h_T_59 : IV R B K1 K2 T_59 := by rw [e_T_59]; exact iv_uI (a := -2000) (b := 2000) h_T_58 k_n_53 (by decide) (by decide) rfl (by omega) (.inl rfl)
    have x_T_59 := x_T_58.tr (fw_uI e_T_59 k_n_53 (by decide))
    have f_T_59_o_1 : (T_59.2.2.1 o 1).toInt = (T_58.2.2.1 o 1).toInt := congrArg Int32.toInt ((fw_uI (W := [225]) e_T_59 k_n_53 (by decide)) o 1 (by rw [k_o]; decide))
    have f_T_59_a0_8 : (T_59.2.2.1 a0 8).toInt = (T_58.2.2.1 a0 8).toInt := congrArg Int32.toInt ((fw_uI (W := [225]) e_T_59 k_n_53 (by decide)) a0 8 (by rw [k_a0]; decide))
    refine tot_oif (iv_oO h_T_59 k_o (by decide) (by decide) rfl) ?_
    refine tot_thri (R := R) (W := [97, 98, 99]) (Q := fun r_60 : Int32 => ((((-2000) : Int32) : Int32).toInt ≤ r_60.toInt ∧ r_60.toInt ≤ ((2000 : Int32) : Int32).toInt)) (cs_X3_signed T_59 o ((-2000) : Int32) (2000 : Int32) h_T_59 k_o (by omega) (by omega)) (fun r_60 T_61 i_T_61 y_T_61 d_r_60 => ?_) (fun k_ U_ i_ y_ => ⟨⟨i_, x_T_59.tr (y_.w (by decide))⟩, fun q_ => absurd q_ (Nat.succ_ne_zero k_)⟩)
    have h_T_61 : IV R B K1 K2 T_61 := i_T_61
    have x_T_61 := x_T_59.tr (y_T_61.w (by decide))
    have f_T_61_a0_8 : (T_61.2.2.1 a0 8).toInt = (T_59.2.2.1 a0 8).toInt := congrArg Int32.toInt (y_T_61 a0 8 (by rw [k_a0]; decide))
    replace d_r_60 : ((((-2000) : Int32) : Int32).toInt ≤ r_60.toInt ∧ r_60.toInt ≤ ((2000 : Int32) : Int32).toInt) := d_r_60
    refine tot_oif (iv_oO h_T_61 k_n_53 (by decide) (by decide) rfl) ?_
    refine tot_let (fun T_62 e_T_62 => ?_)
    have h_T_62 : IV R B K1 K2 T_62 := by rw [e_T_62]; exact iv_uI (a := -2000) (b := 2000) h_T_61 k_n_53 (by decide) (by decide) rfl (by omega) (.inl rfl)
    have x_T_62 := x_T_61.tr (fw_uI e_T_62 k_n_53 (by decide))
    have f_T_62_o_1 : (T_62.2.2.1 o 1).toInt = (T_61.2.2.1 o 1).toInt := congrArg Int32.toInt ((fw_uI (W := [226]) e_T_62 k_n_53 (by decide)) o 1 (by rw [k_o]; decide))
    have f_T_62_a0_8 : (T_62.2.2.1 a0 8).toInt = (T_61.2.2.1 a0 8).toInt := congrArg Int32.toInt ((fw_uI (W := [226]) e_T_62 k_n_53 (by decide)) a0 8 (by rw [k_a0]; decide))
    refine tot_oif (iv_oO h_T_62 k_o (by decide) (by decide) rfl) ?_
    refine tot_thri (R := R) (W := [97, 98, 99]) (Q := fun r_63 : Int32 => ((((-999) : Int32) : Int32).toInt ≤ r_63.toInt ∧ r_63.toInt ≤ ((999 : Int32) : Int32).toInt)) (cs_X3_signed T_62 o ((-999) : Int32) (999 : Int32) h_T_62 k_o (by omega) (by omega)) (fun r_63 T_64 i_T_64 y_T_64 d_r_63 => ?_) (fun k_ U_ i_ y_ => ⟨⟨i_, x_T_62.tr (y_.w (by decide))⟩, fun q_ => absurd q_ (Nat.succ_ne_zero k_)⟩)
    have h_T_64 : IV R B K1 K2 T_64 := i_T_64
    have x_T_64 := x_T_62.tr (y_T_64.w (by decide))
    have f_T_64_a0_8 : (T_64.2.2.1 a0 8).toInt = (T_62.2.2.1 a0 8).toInt := congrArg Int32.toInt (y_T_64 a0 8 (by rw [k_a0]; decide))
    replace d_r_63 : ((((-999) : Int32) : Int32).toInt ≤ r_63.toInt ∧ r_63.toInt ≤ ((999 : Int32) : Int32).toInt) := d_r_63
    refine tot_oif (iv_oO h_T_64 k_n_53 (by decide) (by decide) rfl) ?_
    refine tot_let (fun T_65 e_T_65 => ?_)
    have h_T_65 : IV R B K1 K2 T_65 := by rw [e_T_65]; exact iv_uI (a := -999) (b := 999) h_T_64 k_n_53 (by decide) (by decide) rfl (by omega) (.inl rfl)
    have x_T_65 := x_T_64.tr (fw_uI e_T_65 k_n_53 (by decide))
    have f_T_65_o_1 : (T_65.2.2.1 o 1).toInt = (T_64.2.2.1 o 1).toInt := congrArg Int32.toInt ((fw_uI (W := [227]) e_T_65 k_n_53 (by decide)) o 1 (by rw [k_o]; decide))
    have f_T_65_a0_8 : (T_65.2.2.1 a0 8).toInt = (T_64.2.2.1 a0 8).toInt := congrArg Int32.toInt ((fw_uI (W := [227]) e_T_65 k_n_53 (by decide)) a0 8 (by rw [k_a0]; decide))
    refine tot_oif (iv_oO h_T_65 k_o (by decide) (by decide) rfl) ?_
    refine tot_thri (R := R) (W := [97, 98, 99]) (Q := fun r_66 : Int32 => ((((-999) : Int32) : Int32).toInt ≤ r_66.toInt ∧ r_66.toInt ≤ ((999 : Int32) : Int32).toInt)) (cs_X3_signed T_65 o ((-999) : Int32) (999 : Int32) h_T_65 k_o (by omega) (by omega)) (fun r_66 T_67 i_T_67 y_T_67 d_r_66 => ?_) (fun k_ U_ i_ y_ => ⟨⟨i_, x_T_65.tr (y_.w (by decide))⟩, fun q_ => absurd q_ (Nat.succ_ne_zero k_)⟩)
    have h_T_67 : IV R B K1 K2 T_67 := i_T_67
    have x_T_67 := x_T_65.tr (y_T_67.w (by decide))
    have f_T_67_a0_8 : (T_67.2.2.1 a0 8).toInt = (T_65.2.2.1 a0 8).toInt := congrArg Int32.toInt (y_T_67 a0 8 (by rw [k_a0]; decide))
    replace d_r_66 : ((((-999) : Int32) : Int32).toInt ≤ r_66.toInt ∧ r_66.toInt ≤ ((999 : Int32) : Int32).toInt) := d_r_66
    refine tot_oif (iv_oO h_T_67 k_n_53 (by decide) (by decide) rfl) ?_
    refine tot_let (fun T_68 e_T_68 => ?_)
    have h_T_68 : IV R B K1 K2 T_68 := by rw [e_T_68]; exact iv_uI (a := -999) (b := 999) h_T_67 k_n_53 (by decide) (by decide) rfl (by omega) (.inl rfl)
    have x_T_68 := x_T_67.tr (fw_uI e_T_68 k_n_53 (by decide))
    have f_T_68_o_1 : (T_68.2.2.1 o 1).toInt = (T_67.2.2.1 o 1).toInt := congrArg Int32.toInt ((fw_uI (W := [228]) e_T_68 k_n_53 (by decide)) o 1 (by rw [k_o]; decide))
    have f_T_68_a0_8 : (T_68.2.2.1 a0 8).toInt = (T_67.2.2.1 a0 8).toInt := congrArg Int32.toInt ((fw_uI (W := [228]) e_T_68 k_n_53 (by decide)) a0 8 (by rw [k_a0]; decide))
    refine tot_oif (iv_oO h_T_68 k_o (by decide) (by decide) rfl) ?_
    refine tot_thri (R := R) (W := [97, 98, 99]) (Q := fun r_69 : Int32 => (((1 : Int32) : Int32).toInt ≤ r_69.toInt ∧ r_69.toInt ≤ ((999 : Int32) : Int32).toInt)) (cs_X3_number T_68 o (1 : Int32) (999 : Int32) h_T_68 k_o ) (fun r_69 T_70 i_T_70 y_T_70 d_r_69 => ?_) (fun k_ U_ i_ y_ => ⟨⟨i_, x_T_68.tr (y_.w (by decide))⟩, fun q_ => absurd q_ (Nat.succ_ne_zero k_)⟩)
    have h_T_70 : IV R B K1 K2 T_70 := i_T_70
    have x_T_70 := x_T_68.tr (y_T_70.w (by decide))
    have f_T_70_a0_8 : (T_70.2.2.1 a0 8).toInt = (T_68.2.2.1 a0 8).toInt := congrArg Int32.toInt (y_T_70 a0 8 (by rw [k_a0]; decide))
    replace d_r_69 : (((1 : Int32) : Int32).toInt ≤ r_69.toInt ∧ r_69.toInt ≤ ((999 : Int32) : Int32).toInt) := d_r_69
    refine tot_oif (iv_oO h_T_70 k_n_53 (by decide) (by decide) rfl) ?_
    refine tot_let (fun T_71 e_T_71 => ?_)
    have h_T_71 : IV R B K1 K2 T_71 := by rw [e_T_71]; exact iv_uI (a := 0) (b := 999) h_T_70 k_n_53 (by decide) (by decide) rfl (by omega) (.inl rfl)
    have x_T_71 := x_T_70.tr (fw_uI e_T_71 k_n_53 (by decide))
    have f_T_71_o_1 : (T_71.2.2.1 o 1).toInt = (T_70.2.2.1 o 1).toInt := congrArg Int32.toInt ((fw_uI (W := [229]) e_T_71 k_n_53 (by decide)) o 1 (by rw [k_o]; decide))
    have f_T_71_a0_8 : (T_71.2.2.1 a0 8).toInt = (T_70.2.2.1 a0 8).toInt := congrArg Int32.toInt ((fw_uI (W := [229]) e_T_71 k_n_53 (by decide)) a0 8 (by rw [k_a0]; decide))
    refine tot_oif (iv_oO h_T_71 k_o (by decide) (by decide) rfl) ?_
    refine tot_thri (R := R) (W := [97, 98, 99]) (Q := fun r_72 : Int32 => (((2 : Int32) : Int32).toInt ≤ r_72.toInt ∧ r_72.toInt ≤ ((99 : Int32) : Int32).toInt)) (cs_X3_number T_71 o (2 : Int32) (99 : Int32) h_T_71 k_o ) (fun r_72 T_73 i_T_73 y_T_73 d_r_72 => ?_) (fun k_ U_ i_ y_ => ⟨⟨i_, x_T_71.tr (y_.w (by decide))⟩, fun q_ => absurd q_ (Nat.succ_ne_zero k_)⟩)
    have h_T_73 : IV R B K1 K2 T_73 := i_T_73
    have x_T_73 := x_T_71.tr (y_T_73.w (by decide))
    have f_T_73_a0_8 : (T_73.2.2.1 a0 8).toInt = (T_71.2.2.1 a0 8).toInt := congrArg Int32.toInt (y_T_73 a0 8 (by rw [k_a0]; decide))
    replace d_r_72 : (((2 : Int32) : Int32).toInt ≤ r_72.toInt ∧ r_72.toInt ≤ ((99 : Int32) : Int32).toInt) := d_r_72
    refine tot_oif (iv_oO h_T_73 k_n_53 (by decide) (by decide) rfl) ?_
    refine tot_let (fun T_74 e_T_74 => ?_)
    have h_T_74 : IV R B K1 K2 T_74 := by rw [e_T_74]; exact iv_uI (a := 0) (b := 99) h_T_73 k_n_53 (by decide) (by decide) rfl (by omega) (.inl rfl)
    have x_T_74 := x_T_73.tr (fw_uI e_T_74 k_n_53 (by decide))
    have f_T_74_o_1 : (T_74.2.2.1 o 1).toInt = (T_73.2.2.1 o 1).toInt := congrArg Int32.toInt ((fw_uI (W := [230]) e_T_74 k_n_53 (by decide)) o 1 (by rw [k_o]; decide))
    have f_T_74_a0_8 : (T_74.2.2.1 a0 8).toInt = (T_73.2.2.1 a0 8).toInt := congrArg Int32.toInt ((fw_uI (W := [230]) e_T_74 k_n_53 (by decide)) a0 8 (by rw [k_a0]; decide))
    refine tot_oif (iv_oO h_T_74 k_o (by decide) (by decide) rfl) ?_
    refine tot_thri (R := R) (W := [97, 98, 99]) (Q := fun r_75 : Int32 => (((0 : Int32) : Int32).toInt ≤ r_75.toInt ∧ r_75.toInt ≤ ((99 : Int32) : Int32).toInt)) (cs_X3_number T_74 o (0 : Int32) (99 : Int32) h_T_74 k_o ) (fun r_75 T_76 i_T_76 y_T_76 d_r_75 => ?_) (fun k_ U_ i_ y_ => ⟨⟨i_, x_T_74.tr (y_.w (by decide))⟩, fun q_ => absurd q_ (Nat.succ_ne_zero k_)⟩)
    have h_T_76 : IV R B K1 K2 T_76 := i_T_76
    have x_T_76 := x_T_74.tr (y_T_76.w (by decide))
    have f_T_76_a0_8 : (T_76.2.2.1 a0 8).toInt = (T_74.2.2.1 a0 8).toInt := congrArg Int32.toInt (y_T_76 a0 8 (by rw [k_a0]; decide))
    replace d_r_75 : (((0 : Int32) : Int32).toInt ≤ r_75.toInt ∧ r_75.toInt ≤ ((99 : Int32) : Int32).toInt) := d_r_75
    refine tot_oif (iv_oO h_T_76 k_n_53 (by decide) (by decide) rfl) ?_
    refine tot_let (fun T_77 e_T_77 => ?_)
    have h_T_77 : IV R B K1 K2 T_77 := by rw [e_T_77]; exact iv_uI (a := 0) (b := 99) h_T_76 k_n_53 (by decide) (by decide) rfl (by omega) (.inl rfl)
    have x_T_77 := x_T_76.tr (fw_uI e_T_77 k_n_53 (by decide))
    have f_T_77_o_1 : (T_77.2.2.1 o 1).toInt = (T_76.2.2.1 o 1).toInt := congrArg Int32.toInt ((fw_uI (W := [231]) e_T_77 k_n_53 (by decide)) o 1 (by rw [k_o]; decide))
    have f_T_77_a0_8 : (T_77.2.2.1 a0 8).toInt = (T_76.2.2.1 a0 8).toInt := congrArg Int32.toInt ((fw_uI (W := [231]) e_T_77 k_n_53 (by decide)) a0 8 (by rw [k_a0]; decide))
    refine tot_oif (iv_oO h_T_77 k_n_53 (by decide) (by decide) rfl) ?_
    refine tot_let (fun T_78 e_T_78 => ?_)
    have h_T_78 : IV R B K1 K2 T_78 := by rw [e_T_78]; exact iv_uI (a := 0) (b := 199) h_T_77 k_n_53 (by decide) (by decide) rfl (by omega) (.inl rfl)
    have x_T_78 := x_T_77.tr (fw_uI e_T_78 k_n_53 (by decide))
    have f_T_78_o_1 : (T_78.2.2.1 o 1).toInt = (T_77.2.2.1 o 1).toInt := congrArg Int32.toInt ((fw_uI (W := [232]) e_T_78 k_n_53 (by decide)) o 1 (by rw [k_o]; decide))
    have f_T_78_a0_8 : (T_78.2.2.1 a0 8).toInt = (T_77.2.2.1 a0 8).toInt := congrArg Int32.toInt ((fw_uI (W := [232]) e_T_78 k_n_53 (by decide)) a0 8 (by rw [k_a0]; decide))
    refine tot_oif (iv_oO h_T_78 k_n_53 (by decide) (by decide) rfl) ?_
    refine tot_let (fun T_79 e_T_79 => ?_)
    have h_T_79 : IV R B K1 K2 T_79 := by rw [e_T_79]; exact iv_uI (a := 0) (b := 1) h_T_78 k_n_53 (by decide) (by decide) rfl (by omega) (.inl rfl)
    have x_T_79 := x_T_78.tr (fw_uI e_T_79 k_n_53 (by decide))
    have f_T_79_o_1 : (T_79.2.2.1 o 1).toInt = (T_78.2.2.1 o 1).toInt := congrArg Int32.toInt ((fw_uI (W := [233]) e_T_79 k_n_53 (by decide)) o 1 (by rw [k_o]; decide))
    have f_T_79_a0_8 : (T_79.2.2.1 a0 8).toInt = (T_78.2.2.1 a0 8).toInt := congrArg Int32.toInt ((fw_uI (W := [233]) e_T_79 k_n_53 (by decide)) a0 8 (by rw [k_a0]; decide))
    refine tot_oif (iv_oO h_T_79 k_o (by decide) (by decide) rfl) ?_
    refine tot_bindq (R := fun r_80 : Int32 => (0 ≤ r_80.toInt ∧ r_80.toInt ≤ 1 ∧ (r_80.toInt = 0 ∨ (T_79.2.2.1 o 1).toInt ≤ 1000))) (cs_X3_isWord T_79 (sTx "from") o h_T_79 k_o (by decide)) (fun r_80 d_r_80 => ?_)
    replace d_r_80 : (0 ≤ r_80.toInt ∧ r_80.toInt ≤ 1 ∧ (r_80.toInt = 0 ∨ (T_79.2.2.1 o 1).toInt ≤ 1000)) := d_r_80
    refine tot_if (fun c_88 => ?_) (fun c_88 => ?_)
    · replace c_88 := i_eq c_88
      unfold g_X3_parseSource_b168
      refine tot_oif (iv_oO h_T_79 k_a0 (by decide) (by decide) rfl) ?_
      refine tot_let (fun v_89 e_v_89 => ?_)
      have q_v_89 := i_eq e_v_89
      have r_v_89 : 0 ≤ v_89.toInt ∧ v_89.toInt ≤ 6 := iv_int h_T_79 k_a0 (by decide) (by decide) e_v_89 rfl
      refine tot_let (fun v_90 e_v_90 => ?_)
      have q_v_90 := i_add e_v_90 (by omega) (by omega)
      refine tot_oif (iv_oO h_T_79 k_a0 (by decide) (by decide) rfl) ?_
      refine tot_let (fun T_91 e_T_91 => ?_)
      have h_T_91 : IV R B K1 K2 T_91 := by rw [e_T_91]; exact iv_uI (a := 0) (b := 6) h_T_79 k_a0 (by decide) (by decide) rfl (by omega) (.inl rfl)
      have x_T_91 := x_T_79.tr (fw_uI e_T_91 k_a0 (by decide))
      have f_T_91_o_1 : (T_91.2.2.1 o 1).toInt = (T_79.2.2.1 o 1).toInt := congrArg Int32.toInt ((fw_uI (W := [200]) e_T_91 k_a0 (by decide)) o 1 (by rw [k_o]; decide))
      have f_T_91_a0_8 : (T_91.2.2.1 a0 8).toInt = (v_90 : Int32).toInt := by rw [e_T_91]; exact congrArg Int32.toInt (uI_at _ _ _ _)
      exact tot_some ⟨⟨h_T_91, x_T_91⟩, fun _ => (show (0 ≤ (0 : Int32).toInt ∧ (0 : Int32).toInt ≤ 0) from by omega)⟩
    · replace c_88 := i_ne c_88
      refine tot_oif (iv_oO h_T_79 k_o (by decide) (by decide) rfl) ?_
      refine tot_let (fun v_82 e_v_82 => ?_)
      have q_v_82 := i_eq e_v_82
      have r_v_82 : 0 ≤ v_82.toInt ∧ v_82.toInt ≤ 1001 := iv_int h_T_79 k_o (by decide) (by decide) e_v_82 rfl
      refine tot_let (fun v_83 e_v_83 => ?_)
      have q_v_83 := i_add e_v_83 (by omega) (by omega)
      refine tot_oif (iv_oO h_T_79 k_o (by decide) (by decide) rfl) ?_
      refine tot_let (fun T_84 e_T_84 => ?_)
      have h_T_84 : IV R B K1 K2 T_84 := by rw [e_T_84]; exact iv_uI (a := 0) (b := 1001) h_T_79 k_o (by decide) (by decide) rfl (by omega) (.inl rfl)
      have x_T_84 := x_T_79.tr (fw_uI e_T_84 k_o (by decide))
      have f_T_84_o_1 : (T_84.2.2.1 o 1).toInt = (v_83 : Int32).toInt := by rw [e_T_84]; exact congrArg Int32.toInt (uI_at _ _ _ _)
      have f_T_84_a0_8 : (T_84.2.2.1 a0 8).toInt = (T_79.2.2.1 a0 8).toInt := congrArg Int32.toInt ((fw_uI (W := [97]) e_T_84 k_o (by decide)) a0 8 (by rw [k_a0]; decide))
      refine tot_oif (iv_oO h_T_84 k_o (by decide) (by decide) rfl) ?_
      refine tot_thri (R := R) (W := [97, 98, 99]) (Q := fun r_85 : Int32 => (((0 : Int32) : Int32).toInt ≤ r_85.toInt ∧ r_85.toInt ≤ ((199 : Int32) : Int32).toInt)) (cs_X3_number T_84 o (0 : Int32) (199 : Int32) h_T_84 k_o ) (fun r_85 T_86 i_T_86 y_T_86 d_r_85 => ?_) (fun k_ U_ i_ y_ => ⟨⟨i_, x_T_84.tr (y_.w (by decide))⟩, fun q_ => absurd q_ (Nat.succ_ne_zero k_)⟩)
      have h_T_86 : IV R B K1 K2 T_86 := i_T_86
      have x_T_86 := x_T_84.tr (y_T_86.w (by decide))
      have f_T_86_a0_8 : (T_86.2.2.1 a0 8).toInt = (T_84.2.2.1 a0 8).toInt := congrArg Int32.toInt (y_T_86 a0 8 (by rw [k_a0]; decide))
      replace d_r_85 : (((0 : Int32) : Int32).toInt ≤ r_85.toInt ∧ r_85.toInt ≤ ((199 : Int32) : Int32).toInt) := d_r_85
      refine tot_oif (iv_oO h_T_86 k_n_53 (by decide) (by decide) rfl) ?_
      refine tot_let (fun T_87 e_T_87 => ?_)
      have h_T_87 : IV R B K1 K2 T_87 := by rw [e_T_87]; exact iv_uI (a := 0) (b := 199) h_T_86 k_n_53 (by decide) (by decide) rfl (by omega) (.inl rfl)
      have x_T_87 := x_T_86.tr (fw_uI e_T_87 k_n_53 (by decide))
      have f_T_87_o_1 : (T_87.2.2.1 o 1).toInt = (T_86.2.2.1 o 1).toInt := congrArg Int32.toInt ((fw_uI (W := [232]) e_T_87 k_n_53 (by decide)) o 1 (by rw [k_o]; decide))
      have f_T_87_a0_8 : (T_87.2.2.1 a0 8).toInt = (T_86.2.2.1 a0 8).toInt := congrArg Int32.toInt ((fw_uI (W := [232]) e_T_87 k_n_53 (by decide)) a0 8 (by rw [k_a0]; decide))
      unfold g_X3_parseSource_b168
      refine tot_oif (iv_oO h_T_87 k_a0 (by decide) (by decide) rfl) ?_
      refine tot_let (fun v_92 e_v_92 => ?_)
      have q_v_92 := i_eq e_v_92
      have r_v_92 : 0 ≤ v_92.toInt ∧ v_92.toInt ≤ 6 := iv_int h_T_87 k_a0 (by decide) (by decide) e_v_92 rfl
      refine tot_let (fun v_93 e_v_93 => ?_)
      have q_v_93 := i_add e_v_93 (by omega) (by omega)
      refine tot_oif (iv_oO h_T_87 k_a0 (by decide) (by decide) rfl) ?_
      refine tot_let (fun T_94 e_T_94 => ?_)
      have h_T_94 : IV R B K1 K2 T_94 := by rw [e_T_94]; exact iv_uI (a := 0) (b := 6) h_T_87 k_a0 (by decide) (by decide) rfl (by omega) (.inl rfl)
      have x_T_94 := x_T_87.tr (fw_uI e_T_94 k_a0 (by decide))
      have f_T_94_o_1 : (T_94.2.2.1 o 1).toInt = (T_87.2.2.1 o 1).toInt := congrArg Int32.toInt ((fw_uI (W := [200]) e_T_94 k_a0 (by decide)) o 1 (by rw [k_o]; decide))
      have f_T_94_a0_8 : (T_94.2.2.1 a0 8).toInt = (v_93 : Int32).toInt := by rw [e_T_94]; exact congrArg Int32.toInt (uI_at _ _ _ _)
      exact tot_some ⟨⟨h_T_94, x_T_94⟩, fun _ => (show (0 ≤ (0 : Int32).toInt ∧ (0 : Int32).toInt ≤ 0) from by omega)⟩
set_option maxHeartbeats 4000000 in
set_option maxRecDepth 10000 in
theorem cs_X3_parseMap {R : Nat → Nat} {B K1 K2 : Nat} (T : AT) (o : Nat) (a0 : Nat) (h_T : IV R B K1 K2 T) (k_o : R o = 3) (k_a0 : R a0 = 1) (g0 : (T.2.2.1 o 1).toInt ≤ 1000) : Tot (g_X3_parseMap T o a0) (fun r => (IV R B K1 K2 r.2.2 ∧ FW R [32, 33, 34, 35, 36, 97, 98, 99, 1888] T r.2.2) ∧ (r.1 = 0 → (0 ≤ r.2.1.toInt ∧ r.2.1.toInt ≤ 0))) := by
  have z0 : (0 : Int32).toInt = 0 := by decide
  have z1 : ((3 : Int32) : Int32).toInt = 3 := by decide
  have z2 : (((-999) : Int32) : Int32).toInt = -999 := by decide
  have z3 : ((999 : Int32) : Int32).toInt = 999 := by decide
  have z4 : ((1 : Int32) : Int32).toInt = 1 := by decide
  have z5 : ((99 : Int32) : Int32).toInt = 99 := by decide
  have z6 : ((12 : Int32) : Int32).toInt = 12 := by decide
  have z7 : (1 : Int32).toInt = 1 := by decide
  have cc_101 : cnt 101 = 1 := rfl
  have cc_102 : cnt 102 = 12 := rfl
  have cc_103 : cnt 103 = 144 := rfl
  have cc_104 : cnt 104 = 2400 := rfl
  have cc_105 : cnt 105 = 7200 := rfl
  have x_T : FW R [32, 33, 34, 35, 36, 97, 98, 99, 1888] T T := FW.rf
  unfold g_X3_parseMap
  refine tot_oif (iv_oO h_T k_a0 (by decide) (by decide) rfl) ?_
  refine tot_let (fun v_1 e_v_1 => ?_)
  have r_v_1 : 0 ≤ v_1.toInt ∧ v_1.toInt ≤ 12 := iv_int h_T k_a0 (by decide) (by decide) e_v_1 rfl
  refine tot_if (fun c_2 => ?_) (fun c_2 => ?_)
  · replace c_2 := i_le c_2
    unfold g_X3_parseMap_b13
    refine tot_oif (iv_oO h_T k_o (by decide) (by decide) rfl) ?_
    refine tot_thri (R := R) (W := [97, 98, 99]) (Q := fun r_3 : Int32 => ((0 : Int32).toInt = 0)) (cs_X3_startLine T o 0 (3 : Int32) h_T k_o (by omega) (by omega) (by omega)) (fun r_3 T_4 i_T_4 y_T_4 d_r_3 => ?_) (fun k_ U_ i_ y_ => ⟨⟨i_, x_T.tr (y_.w (by decide))⟩, fun q_ => absurd q_ (Nat.succ_ne_zero k_)⟩)
    have h_T_4 : IV R B K1 K2 T_4 := i_T_4
    have x_T_4 := x_T.tr (y_T_4.w (by decide))
    replace d_r_3 : ((0 : Int32).toInt = 0) := d_r_3
    refine tot_oif (iv_oO h_T_4 k_o (by decide) (by decide) rfl) ?_
    refine tot_thri (R := R) (W := [97, 98, 99]) (Q := fun r_5 : Int32 => ((((-999) : Int32) : Int32).toInt ≤ r_5.toInt ∧ r_5.toInt ≤ ((999 : Int32) : Int32).toInt)) (cs_X3_signed T_4 o ((-999) : Int32) (999 : Int32) h_T_4 k_o (by omega) (by omega)) (fun r_5 T_6 i_T_6 y_T_6 d_r_5 => ?_) (fun k_ U_ i_ y_ => ⟨⟨i_, x_T_4.tr (y_.w (by decide))⟩, fun q_ => absurd q_ (Nat.succ_ne_zero k_)⟩)
    have h_T_6 : IV R B K1 K2 T_6 := i_T_6
    have x_T_6 := x_T_4.tr (y_T_6.w (by decide))
    replace d_r_5 : ((((-999) : Int32) : Int32).toInt ≤ r_5.toInt ∧ r_5.toInt ≤ ((999 : Int32) : Int32).toInt) := d_r_5
    refine tot_oif (iv_oO h_T_6 k_a0 (by decide) (by decide) rfl) ?_
    refine tot_let (fun T_7 e_T_7 => ?_)
    have h_T_7 : IV R B K1 K2 T_7 := by rw [e_T_7]; exact iv_uI (a := -999) (b := 999) h_T_6 k_a0 (by decide) (by decide) rfl (by omega) (.inl rfl)
    have x_T_7 := x_T_6.tr (fw_uI e_T_7 k_a0 (by decide))
    have f_T_7_o_1 : (T_7.2.2.1 o 1).toInt = (T_6.2.2.1 o 1).toInt := congrArg Int32.toInt ((fw_uI (W := [32]) e_T_7 k_a0 (by decide)) o 1 (by rw [k_o]; decide))
    refine tot_oif (iv_oO h_T_7 k_o (by decide) (by decide) rfl) ?_
    refine tot_thri (R := R) (W := [97, 98, 99]) (Q := fun r_8 : Int32 => ((((-999) : Int32) : Int32).toInt ≤ r_8.toInt ∧ r_8.toInt ≤ ((999 : Int32) : Int32).toInt)) (cs_X3_signed T_7 o ((-999) : Int32) (999 : Int32) h_T_7 k_o (by omega) (by omega)) (fun r_8 T_9 i_T_9 y_T_9 d_r_8 => ?_) (fun k_ U_ i_ y_ => ⟨⟨i_, x_T_7.tr (y_.w (by decide))⟩, fun q_ => absurd q_ (Nat.succ_ne_zero k_)⟩)
    have h_T_9 : IV R B K1 K2 T_9 := i_T_9
    have x_T_9 := x_T_7.tr (y_T_9.w (by decide))
    replace d_r_8 : ((((-999) : Int32) : Int32).toInt ≤ r_8.toInt ∧ r_8.toInt ≤ ((999 : Int32) : Int32).toInt) := d_r_8
    refine tot_oif (iv_oO h_T_9 k_a0 (by decide) (by decide) rfl) ?_
    refine tot_let (fun T_10 e_T_10 => ?_)
    have h_T_10 : IV R B K1 K2 T_10 := by rw [e_T_10]; exact iv_uI (a := -999) (b := 999) h_T_9 k_a0 (by decide) (by decide) rfl (by omega) (.inl rfl)
    have x_T_10 := x_T_9.tr (fw_uI e_T_10 k_a0 (by decide))
    have f_T_10_o_1 : (T_10.2.2.1 o 1).toInt = (T_9.2.2.1 o 1).toInt := congrArg Int32.toInt ((fw_uI (W := [33]) e_T_10 k_a0 (by decide)) o 1 (by rw [k_o]; decide))
    refine tot_oif (iv_oO h_T_10 k_o (by decide) (by decide) rfl) ?_
    refine tot_thri (R := R) (W := [97, 98, 99]) (Q := fun r_11 : Int32 => (((1 : Int32) : Int32).toInt ≤ r_11.toInt ∧ r_11.toInt ≤ ((99 : Int32) : Int32).toInt)) (cs_X3_number T_10 o (1 : Int32) (99 : Int32) h_T_10 k_o ) (fun r_11 T_12 i_T_12 y_T_12 d_r_11 => ?_) (fun k_ U_ i_ y_ => ⟨⟨i_, x_T_10.tr (y_.w (by decide))⟩, fun q_ => absurd q_ (Nat.succ_ne_zero k_)⟩)
    have h_T_12 : IV R B K1 K2 T_12 := i_T_12
    have x_T_12 := x_T_10.tr (y_T_12.w (by decide))
    replace d_r_11 : (((1 : Int32) : Int32).toInt ≤ r_11.toInt ∧ r_11.toInt ≤ ((99 : Int32) : Int32).toInt) := d_r_11
    refine tot_oif (iv_oO h_T_12 k_a0 (by decide) (by decide) rfl) ?_
    refine tot_let (fun T_13 e_T_13 => ?_)
    have h_T_13 : IV R B K1 K2 T_13 := by rw [e_T_13]; exact iv_uI (a := 0) (b := 99) h_T_12 k_a0 (by decide) (by decide) rfl (by omega) (.inl rfl)
    have x_T_13 := x_T_12.tr (fw_uI e_T_13 k_a0 (by decide))
    have f_T_13_o_1 : (T_13.2.2.1 o 1).toInt = (T_12.2.2.1 o 1).toInt := congrArg Int32.toInt ((fw_uI (W := [34]) e_T_13 k_a0 (by decide)) o 1 (by rw [k_o]; decide))
    refine tot_oif (iv_oO h_T_13 k_o (by decide) (by decide) rfl) ?_
    refine tot_thri (R := R) (W := [97, 98, 99]) (Q := fun r_14 : Int32 => (((1 : Int32) : Int32).toInt ≤ r_14.toInt ∧ r_14.toInt ≤ ((12 : Int32) : Int32).toInt)) (cs_X3_number T_13 o (1 : Int32) (12 : Int32) h_T_13 k_o ) (fun r_14 T_15 i_T_15 y_T_15 d_r_14 => ?_) (fun k_ U_ i_ y_ => ⟨⟨i_, x_T_13.tr (y_.w (by decide))⟩, fun q_ => absurd q_ (Nat.succ_ne_zero k_)⟩)
    have h_T_15 : IV R B K1 K2 T_15 := i_T_15
    have x_T_15 := x_T_13.tr (y_T_15.w (by decide))
    replace d_r_14 : (((1 : Int32) : Int32).toInt ≤ r_14.toInt ∧ r_14.toInt ≤ ((12 : Int32) : Int32).toInt) := d_r_14
    refine tot_oif (iv_oO h_T_15 k_o (by decide) (by decide) rfl) ?_
    refine tot_thri (R := R) (W := [97, 98, 99]) (Q := fun r_16 : Int32 => (((1 : Int32) : Int32).toInt ≤ r_16.toInt ∧ r_16.toInt ≤ ((12 : Int32) : Int32).toInt)) (cs_X3_number T_15 o (1 : Int32) (12 : Int32) h_T_15 k_o ) (fun r_16 T_17 i_T_17 y_T_17 d_r_16 => ?_) (fun k_ U_ i_ y_ => ⟨⟨i_, x_T_15.tr (y_.w (by decide))⟩, fun q_ => absurd q_ (Nat.succ_ne_zero k_)⟩)
    have h_T_17 : IV R B K1 K2 T_17 := i_T_17
    have x_T_17 := x_T_15.tr (y_T_17.w (by decide))
    replace d_r_16 : (((1 : Int32) : Int32).toInt ≤ r_16.toInt ∧ r_16.toInt ≤ ((12 : Int32) : Int32).toInt) := d_r_16
    refine tot_oif (iv_oO h_T_17 k_a0 (by decide) (by decide) rfl) ?_
    refine tot_bind (cs_X1_open T_17 a0 r_14 r_16 h_T_17 k_a0 (by omega) (by omega)) (fun T_18 d_T_18 => ?_)
    have h_T_18 : IV R B K1 K2 T_18 := d_T_18.1
    have y_T_18 : FW R [35, 36, 1888] T_17 T_18 := d_T_18.2
    have x_T_18 := x_T_17.tr (y_T_18.w (by decide))
    have f_T_18_o_1 : (T_18.2.2.1 o 1).toInt = (T_17.2.2.1 o 1).toInt := congrArg Int32.toInt (y_T_18 o 1 (by rw [k_o]; decide))
    exact tot_some ⟨⟨h_T_18, x_T_18⟩, fun _ => (show (0 ≤ (0 : Int32).toInt ∧ (0 : Int32).toInt ≤ 0) from by omega)⟩
  · replace c_2 := i_nle c_2
    unfold g_X3_parseMap_b13
    refine tot_oif (iv_oO h_T k_o (by decide) (by decide) rfl) ?_
    refine tot_thri (R := R) (W := [97, 98, 99]) (Q := fun r_19 : Int32 => ((1 : Int32).toInt = 0)) (cs_X3_startLine T o 1 (3 : Int32) h_T k_o (by omega) (by omega) (by omega)) (fun r_19 T_20 i_T_20 y_T_20 d_r_19 => ?_) (fun k_ U_ i_ y_ => ⟨⟨i_, x_T.tr (y_.w (by decide))⟩, fun q_ => absurd q_ (Nat.succ_ne_zero k_)⟩)
    have h_T_20 : IV R B K1 K2 T_20 := i_T_20
    have x_T_20 := x_T.tr (y_T_20.w (by decide))
    replace d_r_19 : ((1 : Int32).toInt = 0) := d_r_19
    refine tot_oif (iv_oO h_T_20 k_o (by decide) (by decide) rfl) ?_
    refine tot_thri (R := R) (W := [97, 98, 99]) (Q := fun r_21 : Int32 => ((((-999) : Int32) : Int32).toInt ≤ r_21.toInt ∧ r_21.toInt ≤ ((999 : Int32) : Int32).toInt)) (cs_X3_signed T_20 o ((-999) : Int32) (999 : Int32) h_T_20 k_o (by omega) (by omega)) (fun r_21 T_22 i_T_22 y_T_22 d_r_21 => ?_) (fun k_ U_ i_ y_ => ⟨⟨i_, x_T_20.tr (y_.w (by decide))⟩, fun q_ => absurd q_ (Nat.succ_ne_zero k_)⟩)
    have h_T_22 : IV R B K1 K2 T_22 := i_T_22
    have x_T_22 := x_T_20.tr (y_T_22.w (by decide))
    replace d_r_21 : ((((-999) : Int32) : Int32).toInt ≤ r_21.toInt ∧ r_21.toInt ≤ ((999 : Int32) : Int32).toInt) := d_r_21
    refine tot_oif (iv_oO h_T_22 k_a0 (by decide) (by decide) rfl) ?_
    refine tot_let (fun T_23 e_T_23 => ?_)
    have h_T_23 : IV R B K1 K2 T_23 := by rw [e_T_23]; exact iv_uI (a := -999) (b := 999) h_T_22 k_a0 (by decide) (by decide) rfl (by omega) (.inl rfl)
    have x_T_23 := x_T_22.tr (fw_uI e_T_23 k_a0 (by decide))
    have f_T_23_o_1 : (T_23.2.2.1 o 1).toInt = (T_22.2.2.1 o 1).toInt := congrArg Int32.toInt ((fw_uI (W := [32]) e_T_23 k_a0 (by decide)) o 1 (by rw [k_o]; decide))
    refine tot_oif (iv_oO h_T_23 k_o (by decide) (by decide) rfl) ?_
    refine tot_thri (R := R) (W := [97, 98, 99]) (Q := fun r_24 : Int32 => ((((-999) : Int32) : Int32).toInt ≤ r_24.toInt ∧ r_24.toInt ≤ ((999 : Int32) : Int32).toInt)) (cs_X3_signed T_23 o ((-999) : Int32) (999 : Int32) h_T_23 k_o (by omega) (by omega)) (fun r_24 T_25 i_T_25 y_T_25 d_r_24 => ?_) (fun k_ U_ i_ y_ => ⟨⟨i_, x_T_23.tr (y_.w (by decide))⟩, fun q_ => absurd q_ (Nat.succ_ne_zero k_)⟩)
    have h_T_25 : IV R B K1 K2 T_25 := i_T_25
    have x_T_25 := x_T_23.tr (y_T_25.w (by decide))
    replace d_r_24 : ((((-999) : Int32) : Int32).toInt ≤ r_24.toInt ∧ r_24.toInt ≤ ((999 : Int32) : Int32).toInt) := d_r_24
    refine tot_oif (iv_oO h_T_25 k_a0 (by decide) (by decide) rfl) ?_
    refine tot_let (fun T_26 e_T_26 => ?_)
    have h_T_26 : IV R B K1 K2 T_26 := by rw [e_T_26]; exact iv_uI (a := -999) (b := 999) h_T_25 k_a0 (by decide) (by decide) rfl (by omega) (.inl rfl)
    have x_T_26 := x_T_25.tr (fw_uI e_T_26 k_a0 (by decide))
    have f_T_26_o_1 : (T_26.2.2.1 o 1).toInt = (T_25.2.2.1 o 1).toInt := congrArg Int32.toInt ((fw_uI (W := [33]) e_T_26 k_a0 (by decide)) o 1 (by rw [k_o]; decide))
    refine tot_oif (iv_oO h_T_26 k_o (by decide) (by decide) rfl) ?_
    refine tot_thri (R := R) (W := [97, 98, 99]) (Q := fun r_27 : Int32 => (((1 : Int32) : Int32).toInt ≤ r_27.toInt ∧ r_27.toInt ≤ ((99 : Int32) : Int32).toInt)) (cs_X3_number T_26 o (1 : Int32) (99 : Int32) h_T_26 k_o ) (fun r_27 T_28 i_T_28 y_T_28 d_r_27 => ?_) (fun k_ U_ i_ y_ => ⟨⟨i_, x_T_26.tr (y_.w (by decide))⟩, fun q_ => absurd q_ (Nat.succ_ne_zero k_)⟩)
    have h_T_28 : IV R B K1 K2 T_28 := i_T_28
    have x_T_28 := x_T_26.tr (y_T_28.w (by decide))
    replace d_r_27 : (((1 : Int32) : Int32).toInt ≤ r_27.toInt ∧ r_27.toInt ≤ ((99 : Int32) : Int32).toInt) := d_r_27
    refine tot_oif (iv_oO h_T_28 k_a0 (by decide) (by decide) rfl) ?_
    refine tot_let (fun T_29 e_T_29 => ?_)
    have h_T_29 : IV R B K1 K2 T_29 := by rw [e_T_29]; exact iv_uI (a := 0) (b := 99) h_T_28 k_a0 (by decide) (by decide) rfl (by omega) (.inl rfl)
    have x_T_29 := x_T_28.tr (fw_uI e_T_29 k_a0 (by decide))
    have f_T_29_o_1 : (T_29.2.2.1 o 1).toInt = (T_28.2.2.1 o 1).toInt := congrArg Int32.toInt ((fw_uI (W := [34]) e_T_29 k_a0 (by decide)) o 1 (by rw [k_o]; decide))
    refine tot_oif (iv_oO h_T_29 k_o (by decide) (by decide) rfl) ?_
    refine tot_thri (R := R) (W := [97, 98, 99]) (Q := fun r_30 : Int32 => (((1 : Int32) : Int32).toInt ≤ r_30.toInt ∧ r_30.toInt ≤ ((12 : Int32) : Int32).toInt)) (cs_X3_number T_29 o (1 : Int32) (12 : Int32) h_T_29 k_o ) (fun r_30 T_31 i_T_31 y_T_31 d_r_30 => ?_) (fun k_ U_ i_ y_ => ⟨⟨i_, x_T_29.tr (y_.w (by decide))⟩, fun q_ => absurd q_ (Nat.succ_ne_zero k_)⟩)
    have h_T_31 : IV R B K1 K2 T_31 := i_T_31
    have x_T_31 := x_T_29.tr (y_T_31.w (by decide))
    replace d_r_30 : (((1 : Int32) : Int32).toInt ≤ r_30.toInt ∧ r_30.toInt ≤ ((12 : Int32) : Int32).toInt) := d_r_30
    refine tot_oif (iv_oO h_T_31 k_o (by decide) (by decide) rfl) ?_
    refine tot_thri (R := R) (W := [97, 98, 99]) (Q := fun r_32 : Int32 => (((1 : Int32) : Int32).toInt ≤ r_32.toInt ∧ r_32.toInt ≤ ((12 : Int32) : Int32).toInt)) (cs_X3_number T_31 o (1 : Int32) (12 : Int32) h_T_31 k_o ) (fun r_32 T_33 i_T_33 y_T_33 d_r_32 => ?_) (fun k_ U_ i_ y_ => ⟨⟨i_, x_T_31.tr (y_.w (by decide))⟩, fun q_ => absurd q_ (Nat.succ_ne_zero k_)⟩)
    have h_T_33 : IV R B K1 K2 T_33 := i_T_33
    have x_T_33 := x_T_31.tr (y_T_33.w (by decide))
    replace d_r_32 : (((1 : Int32) : Int32).toInt ≤ r_32.toInt ∧ r_32.toInt ≤ ((12 : Int32) : Int32).toInt) := d_r_32
    refine tot_oif (iv_oO h_T_33 k_a0 (by decide) (by decide) rfl) ?_
    refine tot_bind (cs_X1_open T_33 a0 r_30 r_32 h_T_33 k_a0 (by omega) (by omega)) (fun T_34 d_T_34 => ?_)
    have h_T_34 : IV R B K1 K2 T_34 := d_T_34.1
    have y_T_34 : FW R [35, 36, 1888] T_33 T_34 := d_T_34.2
    have x_T_34 := x_T_33.tr (y_T_34.w (by decide))
    have f_T_34_o_1 : (T_34.2.2.1 o 1).toInt = (T_33.2.2.1 o 1).toInt := congrArg Int32.toInt (y_T_34 o 1 (by rw [k_o]; decide))
    exact tot_some ⟨⟨h_T_34, x_T_34⟩, fun _ => (show (0 ≤ (0 : Int32).toInt ∧ (0 : Int32).toInt ≤ 0) from by omega)⟩
end
section
/-! 13d.ce4.lean.txt -/
set_option maxHeartbeats 4000000 in
set_option maxRecDepth 10000 in
theorem cs_X3_parseMic {R : Nat → Nat} {B K1 K2 : Nat} (T : AT) (o : Nat) (a0 : Nat) (h_T : IV R B K1 K2 T) (k_o : R o = 3) (k_a0 : R a0 = 6) (g0 : (T.2.2.1 o 1).toInt ≤ 1000) : Tot (g_X3_parseMic T o a0) (fun r => (IV R B K1 K2 r.2.2 ∧ FW R [64, 65, 66, 67, 97, 98, 99, 197] T r.2.2) ∧ (r.1 = 0 → (0 ≤ r.2.1.toInt ∧ r.2.1.toInt ≤ 0))) := by
  have z0 : (12 : Int32).toInt = 12 := by decide
  have z1 : (0 : Int32).toInt = 0 := by decide
  have z2 : ((4 : Int32) : Int32).toInt = 4 := by decide
  have z3 : (((-500) : Int32) : Int32).toInt = -500 := by decide
  have z4 : ((500 : Int32) : Int32).toInt = 500 := by decide
  have z5 : ((1 : Int32) : Int32).toInt = 1 := by decide
  have z6 : ((9 : Int32) : Int32).toInt = 9 := by decide
  have z7 : (1 : Int32).toInt = 1 := by decide
  have cc_101 : cnt 101 = 1 := rfl
  have cc_102 : cnt 102 = 12 := rfl
  have cc_103 : cnt 103 = 144 := rfl
  have cc_104 : cnt 104 = 2400 := rfl
  have cc_105 : cnt 105 = 7200 := rfl
  have x_T : FW R [64, 65, 66, 67, 97, 98, 99, 197] T T := FW.rf
  unfold g_X3_parseMic
  refine tot_oif (iv_oO h_T k_a0 (by decide) (by decide) rfl) ?_
  refine tot_let (fun v_1 e_v_1 => ?_)
  have q_v_1 := i_eq e_v_1
  have r_v_1 : 0 ≤ v_1.toInt ∧ v_1.toInt ≤ 12 := iv_int h_T k_a0 (by decide) (by decide) e_v_1 rfl
  refine tot_if (fun c_2 => ?_) (fun c_2 => ?_)
  · replace c_2 := i_lt c_2
    unfold g_X3_parseMic_b15
    refine tot_oif (iv_oO h_T k_o (by decide) (by decide) rfl) ?_
    refine tot_thri (R := R) (W := [97, 98, 99]) (Q := fun r_3 : Int32 => ((0 : Int32).toInt = 0)) (cs_X3_startLine T o 0 (4 : Int32) h_T k_o (by omega) (by omega) (by omega)) (fun r_3 T_4 i_T_4 y_T_4 d_r_3 => ?_) (fun k_ U_ i_ y_ => ⟨⟨i_, x_T.tr (y_.w (by decide))⟩, fun q_ => absurd q_ (Nat.succ_ne_zero k_)⟩)
    have h_T_4 : IV R B K1 K2 T_4 := i_T_4
    have x_T_4 := x_T.tr (y_T_4.w (by decide))
    have f_T_4_a0_5 : (T_4.2.2.1 a0 5).toInt = (T.2.2.1 a0 5).toInt := congrArg Int32.toInt (y_T_4 a0 5 (by rw [k_a0]; decide))
    replace d_r_3 : ((0 : Int32).toInt = 0) := d_r_3
    refine tot_oif (iv_oO h_T_4 k_a0 (by decide) (by decide) rfl) ?_
    refine tot_ref h_T_4 k_a0 (by decide) (by decide) (r2 := 53) (rfl : rtg 6 4 = 53) (by decide) (fun n_5 k_n_5 e_n_5 => ?_)
    refine tot_oif (iv_oO h_T_4 k_a0 (by decide) (by decide) rfl) ?_
    refine tot_let (fun v_6 e_v_6 => ?_)
    have q_v_6 := i_eq e_v_6
    have r_v_6 : 0 ≤ v_6.toInt ∧ v_6.toInt ≤ 12 := iv_int h_T_4 k_a0 (by decide) (by decide) e_v_6 rfl
    refine tot_oif (iv_aA h_T_4 k_n_5 (by decide) (by decide) rfl rfl) ?_
    refine tot_oif (by rw [iv_len h_T_4 k_n_5 (by decide) (by decide) (rfl : shp 53 = (103, 12))]; exact i_inb (by omega) (by omega)) ?_
    refine tot_ref h_T_4 k_n_5 (by decide) (by decide) (r2 := 2) (rt_53 (by omega) (by omega)) (by decide) (fun n_7 k_n_7 e_n_7 => ?_)
    refine tot_oif (iv_oO h_T_4 k_o (by decide) (by decide) rfl) ?_
    refine tot_thri (R := R) (W := [97, 98, 99]) (Q := fun r_8 : Int32 => ((((-500) : Int32) : Int32).toInt ≤ r_8.toInt ∧ r_8.toInt ≤ ((500 : Int32) : Int32).toInt)) (cs_X3_signed T_4 o ((-500) : Int32) (500 : Int32) h_T_4 k_o (by omega) (by omega)) (fun r_8 T_9 i_T_9 y_T_9 d_r_8 => ?_) (fun k_ U_ i_ y_ => ⟨⟨i_, x_T_4.tr (y_.w (by decide))⟩, fun q_ => absurd q_ (Nat.succ_ne_zero k_)⟩)
    have h_T_9 : IV R B K1 K2 T_9 := i_T_9
    have x_T_9 := x_T_4.tr (y_T_9.w (by decide))
    have f_T_9_a0_5 : (T_9.2.2.1 a0 5).toInt = (T_4.2.2.1 a0 5).toInt := congrArg Int32.toInt (y_T_9 a0 5 (by rw [k_a0]; decide))
    replace d_r_8 : ((((-500) : Int32) : Int32).toInt ≤ r_8.toInt ∧ r_8.toInt ≤ ((500 : Int32) : Int32).toInt) := d_r_8
    refine tot_oif (iv_oO h_T_9 k_n_7 (by decide) (by decide) rfl) ?_
    refine tot_let (fun T_10 e_T_10 => ?_)
    have h_T_10 : IV R B K1 K2 T_10 := by rw [e_T_10]; exact iv_uI (a := -500) (b := 500) h_T_9 k_n_7 (by decide) (by decide) rfl (by omega) (.inl rfl)
    have x_T_10 := x_T_9.tr (fw_uI e_T_10 k_n_7 (by decide))
    have f_T_10_o_1 : (T_10.2.2.1 o 1).toInt = (T_9.2.2.1 o 1).toInt := congrArg Int32.toInt ((fw_uI (W := [64]) e_T_10 k_n_7 (by decide)) o 1 (by rw [k_o]; decide))
    have f_T_10_a0_5 : (T_10.2.2.1 a0 5).toInt = (T_9.2.2.1 a0 5).toInt := congrArg Int32.toInt ((fw_uI (W := [64]) e_T_10 k_n_7 (by decide)) a0 5 (by rw [k_a0]; decide))
    refine tot_oif (iv_oO h_T_10 k_o (by decide) (by decide) rfl) ?_
    refine tot_thri (R := R) (W := [97, 98, 99]) (Q := fun r_11 : Int32 => ((((-500) : Int32) : Int32).toInt ≤ r_11.toInt ∧ r_11.toInt ≤ ((500 : Int32) : Int32).toInt)) (cs_X3_signed T_10 o ((-500) : Int32) (500 : Int32) h_T_10 k_o (by omega) (by omega)) (fun r_11 T_12 i_T_12 y_T_12 d_r_11 => ?_) (fun k_ U_ i_ y_ => ⟨⟨i_, x_T_10.tr (y_.w (by decide))⟩, fun q_ => absurd q_ (Nat.succ_ne_zero k_)⟩)
    have h_T_12 : IV R B K1 K2 T_12 := i_T_12
    have x_T_12 := x_T_10.tr (y_T_12.w (by decide))
    have f_T_12_a0_5 : (T_12.2.2.1 a0 5).toInt = (T_10.2.2.1 a0 5).toInt := congrArg Int32.toInt (y_T_12 a0 5 (by rw [k_a0]; decide))
    replace d_r_11 : ((((-500) : Int32) : Int32).toInt ≤ r_11.toInt ∧ r_11.toInt ≤ ((500 : Int32) : Int32).toInt) := d_r_11
    refine tot_oif (iv_oO h_T_12 k_n_7 (by decide) (by decide) rfl) ?_
    refine tot_let (fun T_13 e_T_13 => ?_)
    have h_T_13 : IV R B K1 K2 T_13 := by rw [e_T_13]; exact iv_uI (a := -500) (b := 500) h_T_12 k_n_7 (by decide) (by decide) rfl (by omega) (.inl rfl)
    have x_T_13 := x_T_12.tr (fw_uI e_T_13 k_n_7 (by decide))
    have f_T_13_o_1 : (T_13.2.2.1 o 1).toInt = (T_12.2.2.1 o 1).toInt := congrArg Int32.toInt ((fw_uI (W := [65]) e_T_13 k_n_7 (by decide)) o 1 (by rw [k_o]; decide))
    have f_T_13_a0_5 : (T_13.2.2.1 a0 5).toInt = (T_12.2.2.1 a0 5).toInt := congrArg Int32.toInt ((fw_uI (W := [65]) e_T_13 k_n_7 (by decide)) a0 5 (by rw [k_a0]; decide))
    refine tot_oif (iv_oO h_T_13 k_o (by decide) (by decide) rfl) ?_
    refine tot_thri (R := R) (W := [97, 98, 99]) (Q := fun r_14 : Int32 => (((1 : Int32) : Int32).toInt ≤ r_14.toInt ∧ r_14.toInt ≤ ((9 : Int32) : Int32).toInt)) (cs_X3_number T_13 o (1 : Int32) (9 : Int32) h_T_13 k_o ) (fun r_14 T_15 i_T_15 y_T_15 d_r_14 => ?_) (fun k_ U_ i_ y_ => ⟨⟨i_, x_T_13.tr (y_.w (by decide))⟩, fun q_ => absurd q_ (Nat.succ_ne_zero k_)⟩)
    have h_T_15 : IV R B K1 K2 T_15 := i_T_15
    have x_T_15 := x_T_13.tr (y_T_15.w (by decide))
    have f_T_15_a0_5 : (T_15.2.2.1 a0 5).toInt = (T_13.2.2.1 a0 5).toInt := congrArg Int32.toInt (y_T_15 a0 5 (by rw [k_a0]; decide))
    replace d_r_14 : (((1 : Int32) : Int32).toInt ≤ r_14.toInt ∧ r_14.toInt ≤ ((9 : Int32) : Int32).toInt) := d_r_14
    refine tot_oif (iv_oO h_T_15 k_n_7 (by decide) (by decide) rfl) ?_
    refine tot_let (fun T_16 e_T_16 => ?_)
    have h_T_16 : IV R B K1 K2 T_16 := by rw [e_T_16]; exact iv_uI (a := 0) (b := 9) h_T_15 k_n_7 (by decide) (by decide) rfl (by omega) (.inl rfl)
    have x_T_16 := x_T_15.tr (fw_uI e_T_16 k_n_7 (by decide))
    have f_T_16_o_1 : (T_16.2.2.1 o 1).toInt = (T_15.2.2.1 o 1).toInt := congrArg Int32.toInt ((fw_uI (W := [66]) e_T_16 k_n_7 (by decide)) o 1 (by rw [k_o]; decide))
    have f_T_16_a0_5 : (T_16.2.2.1 a0 5).toInt = (T_15.2.2.1 a0 5).toInt := congrArg Int32.toInt ((fw_uI (W := [66]) e_T_16 k_n_7 (by decide)) a0 5 (by rw [k_a0]; decide))
    refine tot_oif (iv_oO h_T_16 k_n_7 (by decide) (by decide) rfl) ?_
    refine tot_let (fun T_17 e_T_17 => ?_)
    have h_T_17 : IV R B K1 K2 T_17 := by rw [e_T_17]; exact iv_uI (a := 0) (b := 31) h_T_16 k_n_7 (by decide) (by decide) rfl (by omega) (.inl rfl)
    have x_T_17 := x_T_16.tr (fw_uI e_T_17 k_n_7 (by decide))
    have f_T_17_o_1 : (T_17.2.2.1 o 1).toInt = (T_16.2.2.1 o 1).toInt := congrArg Int32.toInt ((fw_uI (W := [67]) e_T_17 k_n_7 (by decide)) o 1 (by rw [k_o]; decide))
    have f_T_17_a0_5 : (T_17.2.2.1 a0 5).toInt = (T_16.2.2.1 a0 5).toInt := congrArg Int32.toInt ((fw_uI (W := [67]) e_T_17 k_n_7 (by decide)) a0 5 (by rw [k_a0]; decide))
    refine tot_oif (iv_oO h_T_17 k_a0 (by decide) (by decide) rfl) ?_
    refine tot_let (fun v_18 e_v_18 => ?_)
    have q_v_18 := i_eq e_v_18
    have r_v_18 : 0 ≤ v_18.toInt ∧ v_18.toInt ≤ 12 := iv_int h_T_17 k_a0 (by decide) (by decide) e_v_18 rfl
    refine tot_let (fun v_19 e_v_19 => ?_)
    have q_v_19 := i_add e_v_19 (by omega) (by omega)
    refine tot_oif (iv_oO h_T_17 k_a0 (by decide) (by decide) rfl) ?_
    refine tot_let (fun T_20 e_T_20 => ?_)
    have h_T_20 : IV R B K1 K2 T_20 := by rw [e_T_20]; exact iv_uI (a := 0) (b := 12) h_T_17 k_a0 (by decide) (by decide) rfl (by omega) (.inl rfl)
    have x_T_20 := x_T_17.tr (fw_uI e_T_20 k_a0 (by decide))
    have f_T_20_o_1 : (T_20.2.2.1 o 1).toInt = (T_17.2.2.1 o 1).toInt := congrArg Int32.toInt ((fw_uI (W := [197]) e_T_20 k_a0 (by decide)) o 1 (by rw [k_o]; decide))
    have f_T_20_a0_5 : (T_20.2.2.1 a0 5).toInt = (v_19 : Int32).toInt := by rw [e_T_20]; exact congrArg Int32.toInt (uI_at _ _ _ _)
    exact tot_some ⟨⟨h_T_20, x_T_20⟩, fun _ => (show (0 ≤ (0 : Int32).toInt ∧ (0 : Int32).toInt ≤ 0) from by omega)⟩
  · replace c_2 := i_nlt c_2
    unfold g_X3_parseMic_b15
    refine tot_oif (iv_oO h_T k_o (by decide) (by decide) rfl) ?_
    refine tot_thri (R := R) (W := [97, 98, 99]) (Q := fun r_21 : Int32 => ((1 : Int32).toInt = 0)) (cs_X3_startLine T o 1 (4 : Int32) h_T k_o (by omega) (by omega) (by omega)) (fun r_21 T_22 i_T_22 y_T_22 d_r_21 => ?_) (fun k_ U_ i_ y_ => ⟨⟨i_, x_T.tr (y_.w (by decide))⟩, fun q_ => absurd q_ (Nat.succ_ne_zero k_)⟩)
    have h_T_22 : IV R B K1 K2 T_22 := i_T_22
    have x_T_22 := x_T.tr (y_T_22.w (by decide))
    have f_T_22_a0_5 : (T_22.2.2.1 a0 5).toInt = (T.2.2.1 a0 5).toInt := congrArg Int32.toInt (y_T_22 a0 5 (by rw [k_a0]; decide))
    replace d_r_21 : ((1 : Int32).toInt = 0) := d_r_21
    refine tot_oif (iv_oO h_T_22 k_a0 (by decide) (by decide) rfl) ?_
    refine tot_ref h_T_22 k_a0 (by decide) (by decide) (r2 := 53) (rfl : rtg 6 4 = 53) (by decide) (fun n_23 k_n_23 e_n_23 => ?_)
    refine tot_oif (iv_oO h_T_22 k_a0 (by decide) (by decide) rfl) ?_
    refine tot_let (fun v_24 e_v_24 => ?_)
    have q_v_24 := i_eq e_v_24
    have r_v_24 : 0 ≤ v_24.toInt ∧ v_24.toInt ≤ 12 := iv_int h_T_22 k_a0 (by decide) (by decide) e_v_24 rfl
    refine tot_oif (iv_aA h_T_22 k_n_23 (by decide) (by decide) rfl rfl) ?_
    refine tot_oif (by rw [iv_len h_T_22 k_n_23 (by decide) (by decide) (rfl : shp 53 = (103, 12))]; exact i_inb (by omega) (by omega)) ?_
    refine tot_ref h_T_22 k_n_23 (by decide) (by decide) (r2 := 2) (rt_53 (by omega) (by omega)) (by decide) (fun n_25 k_n_25 e_n_25 => ?_)
    refine tot_oif (iv_oO h_T_22 k_o (by decide) (by decide) rfl) ?_
    refine tot_thri (R := R) (W := [97, 98, 99]) (Q := fun r_26 : Int32 => ((((-500) : Int32) : Int32).toInt ≤ r_26.toInt ∧ r_26.toInt ≤ ((500 : Int32) : Int32).toInt)) (cs_X3_signed T_22 o ((-500) : Int32) (500 : Int32) h_T_22 k_o (by omega) (by omega)) (fun r_26 T_27 i_T_27 y_T_27 d_r_26 => ?_) (fun k_ U_ i_ y_ => ⟨⟨i_, x_T_22.tr (y_.w (by decide))⟩, fun q_ => absurd q_ (Nat.succ_ne_zero k_)⟩)
    have h_T_27 : IV R B K1 K2 T_27 := i_T_27
    have x_T_27 := x_T_22.tr (y_T_27.w (by decide))
    have f_T_27_a0_5 : (T_27.2.2.1 a0 5).toInt = (T_22.2.2.1 a0 5).toInt := congrArg Int32.toInt (y_T_27 a0 5 (by rw [k_a0]; decide))
    replace d_r_26 : ((((-500) : Int32) : Int32).toInt ≤ r_26.toInt ∧ r_26.toInt ≤ ((500 : Int32) : Int32).toInt) := d_r_26
    refine tot_oif (iv_oO h_T_27 k_n_25 (by decide) (by decide) rfl) ?_
    refine tot_let (fun T_28 e_T_28 => ?_)
    have h_T_28 : IV R B K1 K2 T_28 := by rw [e_T_28]; exact iv_uI (a := -500) (b := 500) h_T_27 k_n_25 (by decide) (by decide) rfl (by omega) (.inl rfl)
    have x_T_28 := x_T_27.tr (fw_uI e_T_28 k_n_25 (by decide))
    have f_T_28_o_1 : (T_28.2.2.1 o 1).toInt = (T_27.2.2.1 o 1).toInt := congrArg Int32.toInt ((fw_uI (W := [64]) e_T_28 k_n_25 (by decide)) o 1 (by rw [k_o]; decide))
    have f_T_28_a0_5 : (T_28.2.2.1 a0 5).toInt = (T_27.2.2.1 a0 5).toInt := congrArg Int32.toInt ((fw_uI (W := [64]) e_T_28 k_n_25 (by decide)) a0 5 (by rw [k_a0]; decide))
    refine tot_oif (iv_oO h_T_28 k_o (by decide) (by decide) rfl) ?_
    refine tot_thri (R := R) (W := [97, 98, 99]) (Q := fun r_29 : Int32 => ((((-500) : Int32) : Int32).toInt ≤ r_29.toInt ∧ r_29.toInt ≤ ((500 : Int32) : Int32).toInt)) (cs_X3_signed T_28 o ((-500) : Int32) (500 : Int32) h_T_28 k_o (by omega) (by omega)) (fun r_29 T_30 i_T_30 y_T_30 d_r_29 => ?_) (fun k_ U_ i_ y_ => ⟨⟨i_, x_T_28.tr (y_.w (by decide))⟩, fun q_ => absurd q_ (Nat.succ_ne_zero k_)⟩)
    have h_T_30 : IV R B K1 K2 T_30 := i_T_30
    have x_T_30 := x_T_28.tr (y_T_30.w (by decide))
    have f_T_30_a0_5 : (T_30.2.2.1 a0 5).toInt = (T_28.2.2.1 a0 5).toInt := congrArg Int32.toInt (y_T_30 a0 5 (by rw [k_a0]; decide))
    replace d_r_29 : ((((-500) : Int32) : Int32).toInt ≤ r_29.toInt ∧ r_29.toInt ≤ ((500 : Int32) : Int32).toInt) := d_r_29
    refine tot_oif (iv_oO h_T_30 k_n_25 (by decide) (by decide) rfl) ?_
    refine tot_let (fun T_31 e_T_31 => ?_)
    have h_T_31 : IV R B K1 K2 T_31 := by rw [e_T_31]; exact iv_uI (a := -500) (b := 500) h_T_30 k_n_25 (by decide) (by decide) rfl (by omega) (.inl rfl)
    have x_T_31 := x_T_30.tr (fw_uI e_T_31 k_n_25 (by decide))
    have f_T_31_o_1 : (T_31.2.2.1 o 1).toInt = (T_30.2.2.1 o 1).toInt := congrArg Int32.toInt ((fw_uI (W := [65]) e_T_31 k_n_25 (by decide)) o 1 (by rw [k_o]; decide))
    have f_T_31_a0_5 : (T_31.2.2.1 a0 5).toInt = (T_30.2.2.1 a0 5).toInt := congrArg Int32.toInt ((fw_uI (W := [65]) e_T_31 k_n_25 (by decide)) a0 5 (by rw [k_a0]; decide))
    refine tot_oif (iv_oO h_T_31 k_o (by decide) (by decide) rfl) ?_
    refine tot_thri (R := R) (W := [97, 98, 99]) (Q := fun r_32 : Int32 => (((1 : Int32) : Int32).toInt ≤ r_32.toInt ∧ r_32.toInt ≤ ((9 : Int32) : Int32).toInt)) (cs_X3_number T_31 o (1 : Int32) (9 : Int32) h_T_31 k_o ) (fun r_32 T_33 i_T_33 y_T_33 d_r_32 => ?_) (fun k_ U_ i_ y_ => ⟨⟨i_, x_T_31.tr (y_.w (by decide))⟩, fun q_ => absurd q_ (Nat.succ_ne_zero k_)⟩)
    have h_T_33 : IV R B K1 K2 T_33 := i_T_33
    have x_T_33 := x_T_31.tr (y_T_33.w (by decide))
    have f_T_33_a0_5 : (T_33.2.2.1 a0 5).toInt = (T_31.2.2.1 a0 5).toInt := congrArg Int32.toInt (y_T_33 a0 5 (by rw [k_a0]; decide))
    replace d_r_32 : (((1 : Int32) : Int32).toInt ≤ r_32.toInt ∧ r_32.toInt ≤ ((9 : Int32) : Int32).toInt) := d_r_32
    refine tot_oif (iv_oO h_T_33 k_n_25 (by decide) (by decide) rfl) ?_
    refine tot_let (fun T_34 e_T_34 => ?_)
    have h_T_34 : IV R B K1 K2 T_34 := by rw [e_T_34]; exact iv_uI (a := 0) (b := 9) h_T_33 k_n_25 (by decide) (by decide) rfl (by omega) (.inl rfl)
    have x_T_34 := x_T_33.tr (fw_uI e_T_34 k_n_25 (by decide))
    have f_T_34_o_1 : (T_34.2.2.1 o 1).toInt = (T_33.2.2.1 o 1).toInt := congrArg Int32.toInt ((fw_uI (W := [66]) e_T_34 k_n_25 (by decide)) o 1 (by rw [k_o]; decide))
    have f_T_34_a0_5 : (T_34.2.2.1 a0 5).toInt = (T_33.2.2.1 a0 5).toInt := congrArg Int32.toInt ((fw_uI (W := [66]) e_T_34 k_n_25 (by decide)) a0 5 (by rw [k_a0]; decide))
    refine tot_oif (iv_oO h_T_34 k_n_25 (by decide) (by decide) rfl) ?_
    refine tot_let (fun T_35 e_T_35 => ?_)
    have h_T_35 : IV R B K1 K2 T_35 := by rw [e_T_35]; exact iv_uI (a := 0) (b := 31) h_T_34 k_n_25 (by decide) (by decide) rfl (by omega) (.inl rfl)
    have x_T_35 := x_T_34.tr (fw_uI e_T_35 k_n_25 (by decide))
    have f_T_35_o_1 : (T_35.2.2.1 o 1).toInt = (T_34.2.2.1 o 1).toInt := congrArg Int32.toInt ((fw_uI (W := [67]) e_T_35 k_n_25 (by decide)) o 1 (by rw [k_o]; decide))
    have f_T_35_a0_5 : (T_35.2.2.1 a0 5).toInt = (T_34.2.2.1 a0 5).toInt := congrArg Int32.toInt ((fw_uI (W := [67]) e_T_35 k_n_25 (by decide)) a0 5 (by rw [k_a0]; decide))
    refine tot_oif (iv_oO h_T_35 k_a0 (by decide) (by decide) rfl) ?_
    refine tot_let (fun v_36 e_v_36 => ?_)
    have q_v_36 := i_eq e_v_36
    have r_v_36 : 0 ≤ v_36.toInt ∧ v_36.toInt ≤ 12 := iv_int h_T_35 k_a0 (by decide) (by decide) e_v_36 rfl
    refine tot_let (fun v_37 e_v_37 => ?_)
    have q_v_37 := i_add e_v_37 (by omega) (by omega)
    refine tot_oif (iv_oO h_T_35 k_a0 (by decide) (by decide) rfl) ?_
    refine tot_let (fun T_38 e_T_38 => ?_)
    have h_T_38 : IV R B K1 K2 T_38 := by rw [e_T_38]; exact iv_uI (a := 0) (b := 12) h_T_35 k_a0 (by decide) (by decide) rfl (by omega) (.inl rfl)
    have x_T_38 := x_T_35.tr (fw_uI e_T_38 k_a0 (by decide))
    have f_T_38_o_1 : (T_38.2.2.1 o 1).toInt = (T_35.2.2.1 o 1).toInt := congrArg Int32.toInt ((fw_uI (W := [197]) e_T_38 k_a0 (by decide)) o 1 (by rw [k_o]; decide))
    have f_T_38_a0_5 : (T_38.2.2.1 a0 5).toInt = (v_37 : Int32).toInt := by rw [e_T_38]; exact congrArg Int32.toInt (uI_at _ _ _ _)
    exact tot_some ⟨⟨h_T_38, x_T_38⟩, fun _ => (show (0 ≤ (0 : Int32).toInt ∧ (0 : Int32).toInt ≤ 0) from by omega)⟩
set_option maxHeartbeats 4000000 in
set_option maxRecDepth 10000 in
theorem cs_X3_parseLine {R : Nat → Nat} {B K1 K2 : Nat} (T : AT) (o : Nat) (a0 : Nat) (h_T : IV R B K1 K2 T) (k_o : R o = 3) (k_a0 : R a0 = 6) : Tot (g_X3_parseLine T o a0) (fun r => (IV R B K1 K2 r.2.2 ∧ FW R [32, 33, 34, 35, 36, 39, 64, 65, 66, 67, 97, 98, 99, 197, 200, 203, 204, 206, 208, 224, 225, 226, 227, 228, 229, 230, 231, 232, 233, 1760, 1792, 1824, 1856, 1888] T r.2.2) ∧ (r.1 = 0 → (0 ≤ r.2.1.toInt ∧ r.2.1.toInt ≤ 0))) := by
  have z0 : (0 : Int32).toInt = 0 := by decide
  have z1 : ((1 : Int32) : Int32).toInt = 1 := by decide
  have z2 : ((3 : Int32) : Int32).toInt = 3 := by decide
  have z3 : ((999 : Int32) : Int32).toInt = 999 := by decide
  have z4 : (1 : Int32).toInt = 1 := by decide
  have cc_101 : cnt 101 = 1 := rfl
  have cc_102 : cnt 102 = 12 := rfl
  have cc_103 : cnt 103 = 144 := rfl
  have cc_104 : cnt 104 = 2400 := rfl
  have cc_105 : cnt 105 = 7200 := rfl
  have x_T : FW R [32, 33, 34, 35, 36, 39, 64, 65, 66, 67, 97, 98, 99, 197, 200, 203, 204, 206, 208, 224, 225, 226, 227, 228, 229, 230, 231, 232, 233, 1760, 1792, 1824, 1856, 1888] T T := FW.rf
  unfold g_X3_parseLine
  refine tot_oif (iv_oO h_T k_o (by decide) (by decide) rfl) ?_
  refine tot_bindq (R := fun r_1 : Int32 => (0 ≤ r_1.toInt ∧ r_1.toInt ≤ 1 ∧ (r_1.toInt = 0 ∨ (T.2.2.1 o 1).toInt ≤ 1000))) (cs_X3_isWord T (sTx "mic") o h_T k_o (by decide)) (fun r_1 d_r_1 => ?_)
  replace d_r_1 : (0 ≤ r_1.toInt ∧ r_1.toInt ≤ 1 ∧ (r_1.toInt = 0 ∨ (T.2.2.1 o 1).toInt ≤ 1000)) := d_r_1
  refine tot_if (fun c_45 => ?_) (fun c_45 => ?_)
  · replace c_45 := i_eq c_45
    refine tot_oif (iv_oO h_T k_o (by decide) (by decide) rfl) ?_
    refine tot_bindq (R := fun r_3 : Int32 => (0 ≤ r_3.toInt ∧ r_3.toInt ≤ 1 ∧ (r_3.toInt = 0 ∨ (T.2.2.1 o 1).toInt ≤ 1000))) (cs_X3_isWord T (sTx "map") o h_T k_o (by decide)) (fun r_3 d_r_3 => ?_)
    replace d_r_3 : (0 ≤ r_3.toInt ∧ r_3.toInt ≤ 1 ∧ (r_3.toInt = 0 ∨ (T.2.2.1 o 1).toInt ≤ 1000)) := d_r_3
    refine tot_if (fun c_46 => ?_) (fun c_46 => ?_)
    · replace c_46 := i_eq c_46
      refine tot_oif (iv_oO h_T k_o (by decide) (by decide) rfl) ?_
      refine tot_bindq (R := fun r_5 : Int32 => (0 ≤ r_5.toInt ∧ r_5.toInt ≤ 1 ∧ (r_5.toInt = 0 ∨ (T.2.2.1 o 1).toInt ≤ 1000))) (cs_X3_isWord T (sTx "source") o h_T k_o (by decide)) (fun r_5 d_r_5 => ?_)
      replace d_r_5 : (0 ≤ r_5.toInt ∧ r_5.toInt ≤ 1 ∧ (r_5.toInt = 0 ∨ (T.2.2.1 o 1).toInt ≤ 1000)) := d_r_5
      refine tot_if (fun c_47 => ?_) (fun c_47 => ?_)
      · replace c_47 := i_eq c_47
        refine tot_oif (iv_oO h_T k_o (by decide) (by decide) rfl) ?_
        refine tot_bindq (R := fun r_7 : Int32 => (0 ≤ r_7.toInt ∧ r_7.toInt ≤ 1 ∧ (r_7.toInt = 0 ∨ (T.2.2.1 o 1).toInt ≤ 1000))) (cs_X3_isWord T (sTx "wall") o h_T k_o (by decide)) (fun r_7 d_r_7 => ?_)
        replace d_r_7 : (0 ≤ r_7.toInt ∧ r_7.toInt ≤ 1 ∧ (r_7.toInt = 0 ∨ (T.2.2.1 o 1).toInt ≤ 1000)) := d_r_7
        refine tot_if (fun c_48 => ?_) (fun c_48 => ?_)
        · replace c_48 := i_eq c_48
          refine tot_oif (iv_oO h_T k_o (by decide) (by decide) rfl) ?_
          refine tot_bindq (R := fun r_9 : Int32 => (0 ≤ r_9.toInt ∧ r_9.toInt ≤ 1 ∧ (r_9.toInt = 0 ∨ (T.2.2.1 o 1).toInt ≤ 1000))) (cs_X3_isWord T (sTx "fade") o h_T k_o (by decide)) (fun r_9 d_r_9 => ?_)
          replace d_r_9 : (0 ≤ r_9.toInt ∧ r_9.toInt ≤ 1 ∧ (r_9.toInt = 0 ∨ (T.2.2.1 o 1).toInt ≤ 1000)) := d_r_9
          refine tot_if (fun c_49 => ?_) (fun c_49 => ?_)
          · replace c_49 := i_eq c_49
            refine tot_oif (iv_oO h_T k_o (by decide) (by decide) rfl) ?_
            refine tot_bindq (R := fun r_11 : Int32 => (0 ≤ r_11.toInt ∧ r_11.toInt ≤ 1 ∧ (r_11.toInt = 0 ∨ (T.2.2.1 o 1).toInt ≤ 1000))) (cs_X3_isWord T (sTx "filter") o h_T k_o (by decide)) (fun r_11 d_r_11 => ?_)
            replace d_r_11 : (0 ≤ r_11.toInt ∧ r_11.toInt ≤ 1 ∧ (r_11.toInt = 0 ∨ (T.2.2.1 o 1).toInt ≤ 1000)) := d_r_11
            refine tot_if (fun c_50 => ?_) (fun c_50 => ?_)
            · replace c_50 := i_eq c_50
              refine tot_oif (iv_oO h_T k_o (by decide) (by decide) rfl) ?_
              refine tot_bindq (R := fun r_13 : Int32 => (0 ≤ r_13.toInt ∧ r_13.toInt ≤ 1 ∧ (r_13.toInt = 0 ∨ (T.2.2.1 o 1).toInt ≤ 1000))) (cs_X3_isWord T (sTx "clock") o h_T k_o (by decide)) (fun r_13 d_r_13 => ?_)
              replace d_r_13 : (0 ≤ r_13.toInt ∧ r_13.toInt ≤ 1 ∧ (r_13.toInt = 0 ∨ (T.2.2.1 o 1).toInt ≤ 1000)) := d_r_13
              refine tot_if (fun c_51 => ?_) (fun c_51 => ?_)
              · replace c_51 := i_eq c_51
                refine tot_oif (iv_oO h_T k_o (by decide) (by decide) rfl) ?_
                refine tot_bindq (R := fun r_15 : Int32 => (0 ≤ r_15.toInt ∧ r_15.toInt ≤ 1 ∧ (r_15.toInt = 0 ∨ (T.2.2.1 o 1).toInt ≤ 1000))) (cs_X3_isWord T (sTx "zone") o h_T k_o (by decide)) (fun r_15 d_r_15 => ?_)
                replace d_r_15 : (0 ≤ r_15.toInt ∧ r_15.toInt ≤ 1 ∧ (r_15.toInt = 0 ∨ (T.2.2.1 o 1).toInt ≤ 1000)) := d_r_15
                refine tot_if (fun c_52 => ?_) (fun c_52 => ?_)
                · replace c_52 := i_eq c_52
                  refine tot_oif (iv_oO h_T k_o (by decide) (by decide) rfl) ?_
                  refine tot_bindq (R := fun r_17 : Int32 => (0 ≤ r_17.toInt ∧ r_17.toInt ≤ 1 ∧ (r_17.toInt = 0 ∨ (T.2.2.1 o 1).toInt ≤ 1000))) (cs_X3_isWord T (sTx "shade") o h_T k_o (by decide)) (fun r_17 d_r_17 => ?_)
                  replace d_r_17 : (0 ≤ r_17.toInt ∧ r_17.toInt ≤ 1 ∧ (r_17.toInt = 0 ∨ (T.2.2.1 o 1).toInt ≤ 1000)) := d_r_17
                  refine tot_if (fun c_53 => ?_) (fun c_53 => ?_)
                  · replace c_53 := i_eq c_53
                    refine tot_oif (iv_oO h_T k_o (by decide) (by decide) rfl) ?_
                    refine tot_bindq (R := fun r_19 : Int32 => (0 ≤ r_19.toInt ∧ r_19.toInt ≤ 1 ∧ (r_19.toInt = 0 ∨ (T.2.2.1 o 1).toInt ≤ 1000))) (cs_X3_isWord T (sTx "off") o h_T k_o (by decide)) (fun r_19 d_r_19 => ?_)
                    replace d_r_19 : (0 ≤ r_19.toInt ∧ r_19.toInt ≤ 1 ∧ (r_19.toInt = 0 ∨ (T.2.2.1 o 1).toInt ≤ 1000)) := d_r_19
                    refine tot_if (fun c_54 => ?_) (fun c_54 => ?_)
                    · replace c_54 := i_eq c_54
                      refine tot_oif (iv_oO h_T k_o (by decide) (by decide) rfl) ?_
                      refine tot_let (fun v_21 e_v_21 => ?_)
                      have q_v_21 := i_eq e_v_21
                      have r_v_21 : 0 ≤ v_21.toInt ∧ v_21.toInt ≤ 1001 := iv_int h_T k_o (by decide) (by decide) e_v_21 rfl
                      refine tot_oif (iv_oO h_T k_o (by decide) (by decide) rfl) ?_
                      refine tot_thri (R := R) (W := [98, 99]) (Q := fun r_22 : Int32 => (False)) (cs_X3_failAt T o v_21 (1 : Int32) h_T k_o (by omega) (by omega)) (fun r_22 T_23 i_T_23 y_T_23 d_r_22 => ?_) (fun k_ U_ i_ y_ => ⟨⟨i_, x_T.tr (y_.w (by decide))⟩, fun q_ => absurd q_ (Nat.succ_ne_zero k_)⟩)
                      have h_T_23 : IV R B K1 K2 T_23 := i_T_23
                      have x_T_23 := x_T.tr (y_T_23.w (by decide))
                      have f_T_23_o_1 : (T_23.2.2.1 o 1).toInt = (T.2.2.1 o 1).toInt := congrArg Int32.toInt (y_T_23 o 1 (by rw [k_o]; decide))
                      replace d_r_22 : (False) := d_r_22
                      exact d_r_22.elim
                    · replace c_54 := i_ne c_54
                      refine tot_oif (iv_oO h_T k_o (by decide) (by decide) rfl) ?_
                      refine tot_thri (R := R) (W := [97, 98, 99, 233]) (Q := fun r_24 : Int32 => (0 ≤ r_24.toInt ∧ r_24.toInt ≤ 0)) (cs_X3_parseOff T o a0 h_T k_o k_a0 (by omega)) (fun r_24 T_25 i_T_25 y_T_25 d_r_24 => ?_) (fun k_ U_ i_ y_ => ⟨⟨i_, x_T.tr (y_.w (by decide))⟩, fun q_ => absurd q_ (Nat.succ_ne_zero k_)⟩)
                      have h_T_25 : IV R B K1 K2 T_25 := i_T_25
                      have x_T_25 := x_T.tr (y_T_25.w (by decide))
                      replace d_r_24 : (0 ≤ r_24.toInt ∧ r_24.toInt ≤ 0) := d_r_24
                      unfold g_X3_parseLine_b209
                      exact tot_some ⟨⟨h_T_25, x_T_25⟩, fun _ => (show (0 ≤ (0 : Int32).toInt ∧ (0 : Int32).toInt ≤ 0) from by omega)⟩
                  · replace c_53 := i_ne c_53
                    refine tot_oif (iv_oO h_T k_o (by decide) (by decide) rfl) ?_
                    refine tot_thri (R := R) (W := [97, 98, 99, 208, 1856]) (Q := fun r_26 : Int32 => (0 ≤ r_26.toInt ∧ r_26.toInt ≤ 0)) (cs_X3_parseShade T o a0 h_T k_o k_a0 (by omega)) (fun r_26 T_27 i_T_27 y_T_27 d_r_26 => ?_) (fun k_ U_ i_ y_ => ⟨⟨i_, x_T.tr (y_.w (by decide))⟩, fun q_ => absurd q_ (Nat.succ_ne_zero k_)⟩)
                    have h_T_27 : IV R B K1 K2 T_27 := i_T_27
                    have x_T_27 := x_T.tr (y_T_27.w (by decide))
                    replace d_r_26 : (0 ≤ r_26.toInt ∧ r_26.toInt ≤ 0) := d_r_26
                    unfold g_X3_parseLine_b209
                    exact tot_some ⟨⟨h_T_27, x_T_27⟩, fun _ => (show (0 ≤ (0 : Int32).toInt ∧ (0 : Int32).toInt ≤ 0) from by omega)⟩
                · replace c_52 := i_ne c_52
                  refine tot_oif (iv_oO h_T k_a0 (by decide) (by decide) rfl) ?_
                  refine tot_ref h_T k_a0 (by decide) (by decide) (r2 := 1) (rfl : rtg 6 6 = 1) (by decide) (fun n_28 k_n_28 e_n_28 => ?_)
                  refine tot_oif (iv_oO h_T k_o (by decide) (by decide) rfl) ?_
                  refine tot_thri (R := R) (W := [39, 97, 98, 99, 1888]) (Q := fun r_29 : Int32 => (0 ≤ r_29.toInt ∧ r_29.toInt ≤ 0)) (cs_X3_parseZone T o n_28 h_T k_o k_n_28 (by omega)) (fun r_29 T_30 i_T_30 y_T_30 d_r_29 => ?_) (fun k_ U_ i_ y_ => ⟨⟨i_, x_T.tr (y_.w (by decide))⟩, fun q_ => absurd q_ (Nat.succ_ne_zero k_)⟩)
                  have h_T_30 : IV R B K1 K2 T_30 := i_T_30
                  have x_T_30 := x_T.tr (y_T_30.w (by decide))
                  replace d_r_29 : (0 ≤ r_29.toInt ∧ r_29.toInt ≤ 0) := d_r_29
                  unfold g_X3_parseLine_b209
                  exact tot_some ⟨⟨h_T_30, x_T_30⟩, fun _ => (show (0 ≤ (0 : Int32).toInt ∧ (0 : Int32).toInt ≤ 0) from by omega)⟩
              · replace c_51 := i_ne c_51
                refine tot_oif (iv_oO h_T k_o (by decide) (by decide) rfl) ?_
                refine tot_thri (R := R) (W := [67, 97, 98, 99]) (Q := fun r_31 : Int32 => (0 ≤ r_31.toInt ∧ r_31.toInt ≤ 0)) (cs_X3_parseClock T o a0 h_T k_o k_a0 (by omega)) (fun r_31 T_32 i_T_32 y_T_32 d_r_31 => ?_) (fun k_ U_ i_ y_ => ⟨⟨i_, x_T.tr (y_.w (by decide))⟩, fun q_ => absurd q_ (Nat.succ_ne_zero k_)⟩)
                have h_T_32 : IV R B K1 K2 T_32 := i_T_32
                have x_T_32 := x_T.tr (y_T_32.w (by decide))
                replace d_r_31 : (0 ≤ r_31.toInt ∧ r_31.toInt ≤ 0) := d_r_31
                unfold g_X3_parseLine_b209
                exact tot_some ⟨⟨h_T_32, x_T_32⟩, fun _ => (show (0 ≤ (0 : Int32).toInt ∧ (0 : Int32).toInt ≤ 0) from by omega)⟩
            · replace c_50 := i_ne c_50
              refine tot_oif (iv_oO h_T k_o (by decide) (by decide) rfl) ?_
              refine tot_thri (R := R) (W := [97, 98, 99, 206, 1824]) (Q := fun r_33 : Int32 => (0 ≤ r_33.toInt ∧ r_33.toInt ≤ 0)) (cs_X3_parseFilter T o a0 h_T k_o k_a0 (by omega)) (fun r_33 T_34 i_T_34 y_T_34 d_r_33 => ?_) (fun k_ U_ i_ y_ => ⟨⟨i_, x_T.tr (y_.w (by decide))⟩, fun q_ => absurd q_ (Nat.succ_ne_zero k_)⟩)
              have h_T_34 : IV R B K1 K2 T_34 := i_T_34
              have x_T_34 := x_T.tr (y_T_34.w (by decide))
              replace d_r_33 : (0 ≤ r_33.toInt ∧ r_33.toInt ≤ 0) := d_r_33
              unfold g_X3_parseLine_b209
              exact tot_some ⟨⟨h_T_34, x_T_34⟩, fun _ => (show (0 ≤ (0 : Int32).toInt ∧ (0 : Int32).toInt ≤ 0) from by omega)⟩
          · replace c_49 := i_ne c_49
            refine tot_oif (iv_oO h_T k_a0 (by decide) (by decide) rfl) ?_
            refine tot_let (fun v_35 e_v_35 => ?_)
            have r_v_35 : 0 ≤ v_35.toInt ∧ v_35.toInt ≤ 999 := iv_int h_T k_a0 (by decide) (by decide) e_v_35 rfl
            refine tot_if (fun c_55 => ?_) (fun c_55 => ?_)
            · replace c_55 := i_le c_55
              unfold g_X3_parseLine_b93
              refine tot_oif (iv_oO h_T k_o (by decide) (by decide) rfl) ?_
              refine tot_thri (R := R) (W := [97, 98, 99]) (Q := fun r_56 : Int32 => ((0 : Int32).toInt = 0)) (cs_X3_startLine T o 0 (3 : Int32) h_T k_o (by omega) (by omega) (by omega)) (fun r_56 T_57 i_T_57 y_T_57 d_r_56 => ?_) (fun k_ U_ i_ y_ => ⟨⟨i_, x_T.tr (y_.w (by decide))⟩, fun q_ => absurd q_ (Nat.succ_ne_zero k_)⟩)
              have h_T_57 : IV R B K1 K2 T_57 := i_T_57
              have x_T_57 := x_T.tr (y_T_57.w (by decide))
              replace d_r_56 : ((0 : Int32).toInt = 0) := d_r_56
              refine tot_oif (iv_oO h_T_57 k_o (by decide) (by decide) rfl) ?_
              refine tot_thri (R := R) (W := [97, 98, 99]) (Q := fun r_58 : Int32 => (((1 : Int32) : Int32).toInt ≤ r_58.toInt ∧ r_58.toInt ≤ ((999 : Int32) : Int32).toInt)) (cs_X3_number T_57 o (1 : Int32) (999 : Int32) h_T_57 k_o ) (fun r_58 T_59 i_T_59 y_T_59 d_r_58 => ?_) (fun k_ U_ i_ y_ => ⟨⟨i_, x_T_57.tr (y_.w (by decide))⟩, fun q_ => absurd q_ (Nat.succ_ne_zero k_)⟩)
              have h_T_59 : IV R B K1 K2 T_59 := i_T_59
              have x_T_59 := x_T_57.tr (y_T_59.w (by decide))
              replace d_r_58 : (((1 : Int32) : Int32).toInt ≤ r_58.toInt ∧ r_58.toInt ≤ ((999 : Int32) : Int32).toInt) := d_r_58
              refine tot_oif (iv_oO h_T_59 k_a0 (by decide) (by decide) rfl) ?_
              refine tot_let (fun T_60 e_T_60 => ?_)
              have h_T_60 : IV R B K1 K2 T_60 := by rw [e_T_60]; exact iv_uI (a := 0) (b := 999) h_T_59 k_a0 (by decide) (by decide) rfl (by omega) (.inl rfl)
              have x_T_60 := x_T_59.tr (fw_uI e_T_60 k_a0 (by decide))
              have f_T_60_o_1 : (T_60.2.2.1 o 1).toInt = (T_59.2.2.1 o 1).toInt := congrArg Int32.toInt ((fw_uI (W := [204]) e_T_60 k_a0 (by decide)) o 1 (by rw [k_o]; decide))
              unfold g_X3_parseLine_b209
              exact tot_some ⟨⟨h_T_60, x_T_60⟩, fun _ => (show (0 ≤ (0 : Int32).toInt ∧ (0 : Int32).toInt ≤ 0) from by omega)⟩
            · replace c_55 := i_nle c_55
              unfold g_X3_parseLine_b93
              refine tot_oif (iv_oO h_T k_o (by decide) (by decide) rfl) ?_
              refine tot_thri (R := R) (W := [97, 98, 99]) (Q := fun r_61 : Int32 => ((1 : Int32).toInt = 0)) (cs_X3_startLine T o 1 (3 : Int32) h_T k_o (by omega) (by omega) (by omega)) (fun r_61 T_62 i_T_62 y_T_62 d_r_61 => ?_) (fun k_ U_ i_ y_ => ⟨⟨i_, x_T.tr (y_.w (by decide))⟩, fun q_ => absurd q_ (Nat.succ_ne_zero k_)⟩)
              have h_T_62 : IV R B K1 K2 T_62 := i_T_62
              have x_T_62 := x_T.tr (y_T_62.w (by decide))
              replace d_r_61 : ((1 : Int32).toInt = 0) := d_r_61
              refine tot_oif (iv_oO h_T_62 k_o (by decide) (by decide) rfl) ?_
              refine tot_thri (R := R) (W := [97, 98, 99]) (Q := fun r_63 : Int32 => (((1 : Int32) : Int32).toInt ≤ r_63.toInt ∧ r_63.toInt ≤ ((999 : Int32) : Int32).toInt)) (cs_X3_number T_62 o (1 : Int32) (999 : Int32) h_T_62 k_o ) (fun r_63 T_64 i_T_64 y_T_64 d_r_63 => ?_) (fun k_ U_ i_ y_ => ⟨⟨i_, x_T_62.tr (y_.w (by decide))⟩, fun q_ => absurd q_ (Nat.succ_ne_zero k_)⟩)
              have h_T_64 : IV R B K1 K2 T_64 := i_T_64
              have x_T_64 := x_T_62.tr (y_T_64.w (by decide))
              replace d_r_63 : (((1 : Int32) : Int32).toInt ≤ r_63.toInt ∧ r_63.toInt ≤ ((999 : Int32) : Int32).toInt) := d_r_63
              refine tot_oif (iv_oO h_T_64 k_a0 (by decide) (by decide) rfl) ?_
              refine tot_let (fun T_65 e_T_65 => ?_)
              have h_T_65 : IV R B K1 K2 T_65 := by rw [e_T_65]; exact iv_uI (a := 0) (b := 999) h_T_64 k_a0 (by decide) (by decide) rfl (by omega) (.inl rfl)
              have x_T_65 := x_T_64.tr (fw_uI e_T_65 k_a0 (by decide))
              have f_T_65_o_1 : (T_65.2.2.1 o 1).toInt = (T_64.2.2.1 o 1).toInt := congrArg Int32.toInt ((fw_uI (W := [204]) e_T_65 k_a0 (by decide)) o 1 (by rw [k_o]; decide))
              unfold g_X3_parseLine_b209
              exact tot_some ⟨⟨h_T_65, x_T_65⟩, fun _ => (show (0 ≤ (0 : Int32).toInt ∧ (0 : Int32).toInt ≤ 0) from by omega)⟩
        · replace c_48 := i_ne c_48
          refine tot_oif (iv_oO h_T k_o (by decide) (by decide) rfl) ?_
          refine tot_thri (R := R) (W := [97, 98, 99, 203, 1760, 1792]) (Q := fun r_36 : Int32 => (0 ≤ r_36.toInt ∧ r_36.toInt ≤ 0)) (cs_X3_parseWall T o a0 h_T k_o k_a0 (by omega)) (fun r_36 T_37 i_T_37 y_T_37 d_r_36 => ?_) (fun k_ U_ i_ y_ => ⟨⟨i_, x_T.tr (y_.w (by decide))⟩, fun q_ => absurd q_ (Nat.succ_ne_zero k_)⟩)
          have h_T_37 : IV R B K1 K2 T_37 := i_T_37
          have x_T_37 := x_T.tr (y_T_37.w (by decide))
          replace d_r_36 : (0 ≤ r_36.toInt ∧ r_36.toInt ≤ 0) := d_r_36
          unfold g_X3_parseLine_b209
          exact tot_some ⟨⟨h_T_37, x_T_37⟩, fun _ => (show (0 ≤ (0 : Int32).toInt ∧ (0 : Int32).toInt ≤ 0) from by omega)⟩
      · replace c_47 := i_ne c_47
        refine tot_oif (iv_oO h_T k_o (by decide) (by decide) rfl) ?_
        refine tot_thri (R := R) (W := [97, 98, 99, 200, 224, 225, 226, 227, 228, 229, 230, 231, 232, 233]) (Q := fun r_38 : Int32 => (0 ≤ r_38.toInt ∧ r_38.toInt ≤ 0)) (cs_X3_parseSource T o a0 h_T k_o k_a0 (by omega)) (fun r_38 T_39 i_T_39 y_T_39 d_r_38 => ?_) (fun k_ U_ i_ y_ => ⟨⟨i_, x_T.tr (y_.w (by decide))⟩, fun q_ => absurd q_ (Nat.succ_ne_zero k_)⟩)
        have h_T_39 : IV R B K1 K2 T_39 := i_T_39
        have x_T_39 := x_T.tr (y_T_39.w (by decide))
        replace d_r_38 : (0 ≤ r_38.toInt ∧ r_38.toInt ≤ 0) := d_r_38
        unfold g_X3_parseLine_b209
        exact tot_some ⟨⟨h_T_39, x_T_39⟩, fun _ => (show (0 ≤ (0 : Int32).toInt ∧ (0 : Int32).toInt ≤ 0) from by omega)⟩
    · replace c_46 := i_ne c_46
      refine tot_oif (iv_oO h_T k_a0 (by decide) (by decide) rfl) ?_
      refine tot_ref h_T k_a0 (by decide) (by decide) (r2 := 1) (rfl : rtg 6 6 = 1) (by decide) (fun n_40 k_n_40 e_n_40 => ?_)
      refine tot_oif (iv_oO h_T k_o (by decide) (by decide) rfl) ?_
      refine tot_thri (R := R) (W := [32, 33, 34, 35, 36, 97, 98, 99, 1888]) (Q := fun r_41 : Int32 => (0 ≤ r_41.toInt ∧ r_41.toInt ≤ 0)) (cs_X3_parseMap T o n_40 h_T k_o k_n_40 (by omega)) (fun r_41 T_42 i_T_42 y_T_42 d_r_41 => ?_) (fun k_ U_ i_ y_ => ⟨⟨i_, x_T.tr (y_.w (by decide))⟩, fun q_ => absurd q_ (Nat.succ_ne_zero k_)⟩)
      have h_T_42 : IV R B K1 K2 T_42 := i_T_42
      have x_T_42 := x_T.tr (y_T_42.w (by decide))
      replace d_r_41 : (0 ≤ r_41.toInt ∧ r_41.toInt ≤ 0) := d_r_41
      unfold g_X3_parseLine_b209
      exact tot_some ⟨⟨h_T_42, x_T_42⟩, fun _ => (show (0 ≤ (0 : Int32).toInt ∧ (0 : Int32).toInt ≤ 0) from by omega)⟩
  · replace c_45 := i_ne c_45
    refine tot_oif (iv_oO h_T k_o (by decide) (by decide) rfl) ?_
    refine tot_thri (R := R) (W := [64, 65, 66, 67, 97, 98, 99, 197]) (Q := fun r_43 : Int32 => (0 ≤ r_43.toInt ∧ r_43.toInt ≤ 0)) (cs_X3_parseMic T o a0 h_T k_o k_a0 (by omega)) (fun r_43 T_44 i_T_44 y_T_44 d_r_43 => ?_) (fun k_ U_ i_ y_ => ⟨⟨i_, x_T.tr (y_.w (by decide))⟩, fun q_ => absurd q_ (Nat.succ_ne_zero k_)⟩)
    have h_T_44 : IV R B K1 K2 T_44 := i_T_44
    have x_T_44 := x_T.tr (y_T_44.w (by decide))
    replace d_r_43 : (0 ≤ r_43.toInt ∧ r_43.toInt ≤ 0) := d_r_43
    unfold g_X3_parseLine_b209
    exact tot_some ⟨⟨h_T_44, x_T_44⟩, fun _ => (show (0 ≤ (0 : Int32).toInt ∧ (0 : Int32).toInt ≤ 0) from by omega)⟩
set_option maxHeartbeats 4000000 in
set_option maxRecDepth 10000 in
theorem cl_X3_parse_b24 {R : Nat → Nat} {B K1 K2 : Nat} {Q : Nat × Int32 × AT → Prop} (l0 : Nat) (l2 : Nat) (T00 : AT) (k_l0 : R l0 = 3) (k_l2 : R l2 = 6) (hthr : ∀ (k : Nat) (U : AT), IV R B K1 K2 U → FW R [32, 33, 34, 35, 36, 39, 64, 65, 66, 67, 97, 98, 99, 192, 193, 194, 195, 197, 200, 203, 204, 206, 208, 224, 225, 226, 227, 228, 229, 230, 231, 232, 233, 293, 1344, 1376, 1408, 1760, 1792, 1824, 1856, 1888] T00 U → Q (k + 1, 0, U)) (hx0 : ∀ (T : AT), (IV R B K1 K2 T) → (FW R [32, 33, 34, 35, 36, 39, 64, 65, 66, 67, 97, 98, 99, 192, 193, 194, 195, 197, 200, 203, 204, 206, 208, 224, 225, 226, 227, 228, 229, 230, 231, 232, 233, 293, 1344, 1376, 1408, 1760, 1792, 1824, 1856, 1888] T00 T) → Tot (g_X3_parse_b81 T l0 l2) Q) : ∀ (n : Nat) (T : AT) (l3 : Int32), (IV R B K1 K2 T) → (FW R [32, 33, 34, 35, 36, 39, 64, 65, 66, 67, 97, 98, 99, 192, 193, 194, 195, 197, 200, 203, 204, 206, 208, 224, 225, 226, 227, 228, 229, 230, 231, 232, 233, 293, 1344, 1376, 1408, 1760, 1792, 1824, 1856, 1888] T00 T) → (0 ≤ l3.toInt ∧ l3.toInt ≤ 2455) → 2455 - l3.toInt < (n : Int) → Tot (g_X3_parse_b24 n T l0 l2 l3) Q := by
  have z0 : (5 : Int32).toInt = 5 := by decide
  have z1 : (4 : Int32).toInt = 4 := by decide
  have z2 : (1 : Int32).toInt = 1 := by decide
  have z3 : (Int32.ofInt (1) : Int32).toInt = 1 := by decide
  have z4 : ((1 : Int32) : Int32).toInt = 1 := by decide
  have cc_101 : cnt 101 = 1 := rfl
  have cc_102 : cnt 102 = 12 := rfl
  have cc_103 : cnt 103 = 144 := rfl
  have cc_104 : cnt 104 = 2400 := rfl
  have cc_105 : cnt 105 = 7200 := rfl
  intro n
  induction n with
  | zero =>
    intro T l3 h_T x_T g_l3 hm
    exfalso
    omega
  | succ n ih =>
    intro T l3 h_T x_T g_l3 hm
    unfold g_X3_parse_b24
    refine tot_oif (iv_oO h_T k_l0 (by decide) (by decide) rfl) ?_
    refine tot_ref h_T k_l0 (by decide) (by decide) (r2 := 9) (rfl : rtg 3 0 = 9) (by decide) (fun n_109 k_n_109 e_n_109 => ?_)
    refine tot_oif (iv_oO h_T k_n_109 (by decide) (by decide) rfl) ?_
    refine tot_let (fun v_110 e_v_110 => ?_)
    have r_v_110 : 0 ≤ v_110.toInt ∧ v_110.toInt ≤ 1001 := iv_int h_T k_n_109 (by decide) (by decide) e_v_110 rfl
    refine tot_if (fun c_118 => ?_) (fun c_118 => ?_)
    · replace c_118 := i_le c_118
      exact hx0 T h_T x_T
    · replace c_118 := i_nle c_118
      refine tot_oif (iv_oO h_T k_l0 (by decide) (by decide) rfl) ?_
      refine tot_bindq (R := fun r_111 : Int32 => (r_111.toInt = 5 ∨ (T.2.2.1 l0 1).toInt ≤ 1000)) (cs_X3_kind T l0 h_T k_l0 ) (fun r_111 d_r_111 => ?_)
      replace d_r_111 : (r_111.toInt = 5 ∨ (T.2.2.1 l0 1).toInt ≤ 1000) := d_r_111
      refine tot_if (fun c_119 => ?_) (fun c_119 => ?_)
      · replace c_119 := i_eq c_119
        exact hx0 T h_T x_T
      · replace c_119 := i_ne c_119
        refine tot_oif (iv_oO h_T k_l0 (by decide) (by decide) rfl) ?_
        refine tot_bindq (R := fun r_113 : Int32 => (r_113.toInt = 5 ∨ (T.2.2.1 l0 1).toInt ≤ 1000)) (cs_X3_kind T l0 h_T k_l0 ) (fun r_113 d_r_113 => ?_)
        replace d_r_113 : (r_113.toInt = 5 ∨ (T.2.2.1 l0 1).toInt ≤ 1000) := d_r_113
        refine tot_if (fun c_120 => ?_) (fun c_120 => ?_)
        · replace c_120 := i_eq c_120
          unfold g_X3_parse_b60
          refine tot_oif (iv_oO h_T k_l0 (by decide) (by decide) rfl) ?_
          refine tot_let (fun v_121 e_v_121 => ?_)
          have q_v_121 := i_eq e_v_121
          have r_v_121 : 0 ≤ v_121.toInt ∧ v_121.toInt ≤ 1001 := iv_int h_T k_l0 (by decide) (by decide) e_v_121 rfl
          refine tot_let (fun v_122 e_v_122 => ?_)
          have q_v_122 := i_add e_v_122 (by omega) (by omega)
          refine tot_oif (iv_oO h_T k_l0 (by decide) (by decide) rfl) ?_
          refine tot_let (fun T_123 e_T_123 => ?_)
          have h_T_123 : IV R B K1 K2 T_123 := by rw [e_T_123]; exact iv_uI (a := 0) (b := 1001) h_T k_l0 (by decide) (by decide) rfl (by omega) (.inl rfl)
          have x_T_123 := x_T.tr (fw_uI e_T_123 k_l0 (by decide))
          have f_T_123_l0_1 : (T_123.2.2.1 l0 1).toInt = (v_122 : Int32).toInt := by rw [e_T_123]; exact congrArg Int32.toInt (uI_at _ _ _ _)
          refine tot_oif (iv_oO h_T_123 k_l0 (by decide) (by decide) rfl) ?_
          refine tot_thri (R := R) (W := [32, 33, 34, 35, 36, 39, 64, 65, 66, 67, 97, 98, 99, 197, 200, 203, 204, 206, 208, 224, 225, 226, 227, 228, 229, 230, 231, 232, 233, 1760, 1792, 1824, 1856, 1888]) (Q := fun r_124 : Int32 => (0 ≤ r_124.toInt ∧ r_124.toInt ≤ 0)) (cs_X3_parseLine T_123 l0 l2 h_T_123 k_l0 k_l2 ) (fun r_124 T_125 i_T_125 y_T_125 d_r_124 => ?_) (fun k_ U_ i_ y_ => hthr _ _ i_ (x_T_123.tr (y_.w (by decide))))
          have h_T_125 : IV R B K1 K2 T_125 := i_T_125
          have x_T_125 := x_T_123.tr (y_T_125.w (by decide))
          replace d_r_124 : (0 ≤ r_124.toInt ∧ r_124.toInt ≤ 0) := d_r_124
          refine tot_let (fun v_126 e_v_126 => ?_)
          have q_v_126 := i_add e_v_126 (by omega) (by omega)
          exact ih T_125 v_126 h_T_125 x_T_125 (by omega) (by omega)
        · replace c_120 := i_ne c_120
          refine tot_oif (iv_oO h_T k_l0 (by decide) (by decide) rfl) ?_
          refine tot_let (fun v_115 e_v_115 => ?_)
          have q_v_115 := i_eq e_v_115
          have r_v_115 : 0 ≤ v_115.toInt ∧ v_115.toInt ≤ 1001 := iv_int h_T k_l0 (by decide) (by decide) e_v_115 rfl
          refine tot_oif (iv_oO h_T k_l0 (by decide) (by decide) rfl) ?_
          refine tot_thri (R := R) (W := [98, 99]) (Q := fun r_116 : Int32 => (False)) (cs_X3_failAt T l0 v_115 (1 : Int32) h_T k_l0 (by omega) (by omega)) (fun r_116 T_117 i_T_117 y_T_117 d_r_116 => ?_) (fun k_ U_ i_ y_ => hthr _ _ i_ (x_T.tr (y_.w (by decide))))
          have h_T_117 : IV R B K1 K2 T_117 := i_T_117
          have x_T_117 := x_T.tr (y_T_117.w (by decide))
          have f_T_117_l0_1 : (T_117.2.2.1 l0 1).toInt = (T.2.2.1 l0 1).toInt := congrArg Int32.toInt (y_T_117 l0 1 (by rw [k_l0]; decide))
          replace d_r_116 : (False) := d_r_116
          exact d_r_116.elim
set_option maxHeartbeats 4000000 in
set_option maxRecDepth 10000 in
theorem cs_X3_parse {R : Nat → Nat} {B K1 K2 : Nat} (T : AT) (o : Nat) (a0 : Int32) (a1 : Nat) (h_T : IV R B K1 K2 T) (k_o : R o = 3) (k_a1 : R a1 = 6) (g0 : 0 ≤ a0.toInt ∧ a0.toInt ≤ 1000) : Tot (g_X3_parse T o a0 a1) (fun r => (IV R B K1 K2 r.2.2 ∧ FW R [32, 33, 34, 35, 36, 39, 64, 65, 66, 67, 97, 98, 99, 192, 193, 194, 195, 197, 200, 203, 204, 206, 208, 224, 225, 226, 227, 228, 229, 230, 231, 232, 233, 293, 1344, 1376, 1408, 1760, 1792, 1824, 1856, 1888] T r.2.2) ∧ (r.1 = 0 → (0 ≤ r.2.1.toInt ∧ r.2.1.toInt ≤ 0))) := by
  have z0 : (0 : Int32).toInt = 0 := by decide
  have z1 : ((5 : Int32) : Int32).toInt = 5 := by decide
  have z2 : ((-1) : Int32).toInt = -1 := by decide
  have cc_101 : cnt 101 = 1 := rfl
  have cc_102 : cnt 102 = 12 := rfl
  have cc_103 : cnt 103 = 144 := rfl
  have cc_104 : cnt 104 = 2400 := rfl
  have cc_105 : cnt 105 = 7200 := rfl
  have x_T : FW R [32, 33, 34, 35, 36, 39, 64, 65, 66, 67, 97, 98, 99, 192, 193, 194, 195, 197, 200, 203, 204, 206, 208, 224, 225, 226, 227, 228, 229, 230, 231, 232, 233, 293, 1344, 1376, 1408, 1760, 1792, 1824, 1856, 1888] T T := FW.rf
  have j_a0 := i_any a0
  unfold g_X3_parse
  refine tot_oif (iv_oO h_T k_o (by decide) (by decide) rfl) ?_
  refine tot_ref h_T k_o (by decide) (by decide) (r2 := 9) (rfl : rtg 3 0 = 9) (by decide) (fun n_1 k_n_1 e_n_1 => ?_)
  refine tot_oif (iv_oO h_T k_n_1 (by decide) (by decide) rfl) ?_
  refine tot_bind (cs_X9_cut T n_1 a0 h_T k_n_1 (by omega)) (fun T_2 d_T_2 => ?_)
  have h_T_2 : IV R B K1 K2 T_2 := d_T_2.1
  have y_T_2 : FW R [293, 1344, 1376, 1408] T T_2 := d_T_2.2
  have x_T_2 := x_T.tr (y_T_2.w (by decide))
  have f_T_2_o_1 : (T_2.2.2.1 o 1).toInt = (T.2.2.1 o 1).toInt := congrArg Int32.toInt (y_T_2 o 1 (by rw [k_o]; decide))
  refine tot_oif (iv_oO h_T_2 k_o (by decide) (by decide) rfl) ?_
  refine tot_let (fun T_3 e_T_3 => ?_)
  have h_T_3 : IV R B K1 K2 T_3 := by rw [e_T_3]; exact iv_uI (a := 0) (b := 1001) h_T_2 k_o (by decide) (by decide) rfl (by omega) (.inl rfl)
  have x_T_3 := x_T_2.tr (fw_uI e_T_3 k_o (by decide))
  have f_T_3_o_1 : (T_3.2.2.1 o 1).toInt = (0 : Int32).toInt := by rw [e_T_3]; exact congrArg Int32.toInt (uI_at _ _ _ _)
  refine tot_oif (iv_oO h_T_3 k_a1 (by decide) (by decide) rfl) ?_
  refine tot_bind (cs_X6_clear T_3 a1 h_T_3 k_a1 ) (fun T_4 d_T_4 => ?_)
  have h_T_4 : IV R B K1 K2 T_4 := d_T_4.1
  have y_T_4 : FW R [35, 36, 39, 197, 200, 203, 204, 206, 208] T_3 T_4 := d_T_4.2
  have x_T_4 := x_T_3.tr (y_T_4.w (by decide))
  have f_T_4_o_1 : (T_4.2.2.1 o 1).toInt = (T_3.2.2.1 o 1).toInt := congrArg Int32.toInt (y_T_4 o 1 (by rw [k_o]; decide))
  refine tot_oif (iv_oO h_T_4 k_o (by decide) (by decide) rfl) ?_
  refine tot_thri (R := R) (W := [97, 98, 99, 192, 193, 194, 195]) (Q := fun r_5 : Int32 => (0 ≤ r_5.toInt ∧ r_5.toInt ≤ 0)) (cs_X3_parseHead T_4 o a1 h_T_4 k_o k_a1 ) (fun r_5 T_6 i_T_6 y_T_6 d_r_5 => ?_) (fun k_ U_ i_ y_ => ⟨⟨i_, x_T_4.tr (y_.w (by decide))⟩, fun q_ => absurd q_ (Nat.succ_ne_zero k_)⟩)
  have h_T_6 : IV R B K1 K2 T_6 := i_T_6
  have x_T_6 := x_T_4.tr (y_T_6.w (by decide))
  replace d_r_5 : (0 ≤ r_5.toInt ∧ r_5.toInt ≤ 0) := d_r_5
  refine cl_X3_parse_b24 o a1 T k_o k_a1 (fun k_ U_ i_ x_ => ⟨⟨i_, x_⟩, fun q_ => absurd q_ (Nat.succ_ne_zero k_)⟩) ?_ 16384 T_6 0 h_T_6 x_T_6 (by omega) (by omega)
  · intro T_127 h_T_127 x_T_127
    unfold g_X3_parse_b81
    refine tot_oif (iv_oO h_T_127 k_a1 (by decide) (by decide) rfl) ?_
    refine tot_let (fun v_128 e_v_128 => ?_)
    have r_v_128 : 0 ≤ v_128.toInt ∧ v_128.toInt ≤ 12 := iv_int h_T_127 k_a1 (by decide) (by decide) e_v_128 rfl
    refine tot_if (fun c_131 => ?_) (fun c_131 => ?_)
    · replace c_131 := i_eq c_131
      unfold g_X3_parse_b98
      refine tot_oif (iv_oO h_T_127 k_o (by decide) (by decide) rfl) ?_
      refine tot_let (fun v_132 e_v_132 => ?_)
      have q_v_132 := i_eq e_v_132
      have r_v_132 : 0 ≤ v_132.toInt ∧ v_132.toInt ≤ 1001 := iv_int h_T_127 k_o (by decide) (by decide) e_v_132 rfl
      refine tot_oif (iv_oO h_T_127 k_o (by decide) (by decide) rfl) ?_
      refine tot_thri (R := R) (W := [98, 99]) (Q := fun r_133 : Int32 => (False)) (cs_X3_failAt T_127 o v_132 (5 : Int32) h_T_127 k_o (by omega) (by omega)) (fun r_133 T_134 i_T_134 y_T_134 d_r_133 => ?_) (fun k_ U_ i_ y_ => ⟨⟨i_, x_T_127.tr (y_.w (by decide))⟩, fun q_ => absurd q_ (Nat.succ_ne_zero k_)⟩)
      have h_T_134 : IV R B K1 K2 T_134 := i_T_134
      have x_T_134 := x_T_127.tr (y_T_134.w (by decide))
      have f_T_134_o_1 : (T_134.2.2.1 o 1).toInt = (T_127.2.2.1 o 1).toInt := congrArg Int32.toInt (y_T_134 o 1 (by rw [k_o]; decide))
      replace d_r_133 : (False) := d_r_133
      exact d_r_133.elim
    · replace c_131 := i_ne c_131
      refine tot_oif (iv_oO h_T_127 k_a1 (by decide) (by decide) rfl) ?_
      refine tot_ref h_T_127 k_a1 (by decide) (by decide) (r2 := 1) (rfl : rtg 6 6 = 1) (by decide) (fun n_129 k_n_129 e_n_129 => ?_)
      refine tot_oif (iv_oO h_T_127 k_n_129 (by decide) (by decide) rfl) ?_
      refine tot_let (fun v_130 e_v_130 => ?_)
      have r_v_130 : 0 ≤ v_130.toInt ∧ v_130.toInt ≤ 12 := iv_int h_T_127 k_n_129 (by decide) (by decide) e_v_130 rfl
      refine tot_if (fun c_135 => ?_) (fun c_135 => ?_)
      · replace c_135 := i_eq c_135
        unfold g_X3_parse_b98
        refine tot_oif (iv_oO h_T_127 k_o (by decide) (by decide) rfl) ?_
        refine tot_let (fun v_136 e_v_136 => ?_)
        have q_v_136 := i_eq e_v_136
        have r_v_136 : 0 ≤ v_136.toInt ∧ v_136.toInt ≤ 1001 := iv_int h_T_127 k_o (by decide) (by decide) e_v_136 rfl
        refine tot_oif (iv_oO h_T_127 k_o (by decide) (by decide) rfl) ?_
        refine tot_thri (R := R) (W := [98, 99]) (Q := fun r_137 : Int32 => (False)) (cs_X3_failAt T_127 o v_136 (5 : Int32) h_T_127 k_o (by omega) (by omega)) (fun r_137 T_138 i_T_138 y_T_138 d_r_137 => ?_) (fun k_ U_ i_ y_ => ⟨⟨i_, x_T_127.tr (y_.w (by decide))⟩, fun q_ => absurd q_ (Nat.succ_ne_zero k_)⟩)
        have h_T_138 : IV R B K1 K2 T_138 := i_T_138
        have x_T_138 := x_T_127.tr (y_T_138.w (by decide))
        have f_T_138_o_1 : (T_138.2.2.1 o 1).toInt = (T_127.2.2.1 o 1).toInt := congrArg Int32.toInt (y_T_138 o 1 (by rw [k_o]; decide))
        replace d_r_137 : (False) := d_r_137
        exact d_r_137.elim
      · replace c_135 := i_ne c_135
        unfold g_X3_parse_b107
        refine tot_oif (iv_oO h_T_127 k_o (by decide) (by decide) rfl) ?_
        refine tot_let (fun T_139 e_T_139 => ?_)
        have h_T_139 : IV R B K1 K2 T_139 := by rw [e_T_139]; exact iv_uI (a := 0) (b := 6) h_T_127 k_o (by decide) (by decide) rfl (by omega) (.inl rfl)
        have x_T_139 := x_T_127.tr (fw_uI e_T_139 k_o (by decide))
        have f_T_139_o_1 : (T_139.2.2.1 o 1).toInt = (T_127.2.2.1 o 1).toInt := congrArg Int32.toInt ((fw_uI (W := [98]) e_T_139 k_o (by decide)) o 1 (by rw [k_o]; decide))
        refine tot_oif (iv_oO h_T_139 k_o (by decide) (by decide) rfl) ?_
        refine tot_let (fun T_140 e_T_140 => ?_)
        have h_T_140 : IV R B K1 K2 T_140 := by rw [e_T_140]; exact iv_uI (a := -2147483648) (b := 2147483647) h_T_139 k_o (by decide) (by decide) rfl (by omega) (.inl rfl)
        have x_T_140 := x_T_139.tr (fw_uI e_T_140 k_o (by decide))
        have f_T_140_o_1 : (T_140.2.2.1 o 1).toInt = (T_139.2.2.1 o 1).toInt := congrArg Int32.toInt ((fw_uI (W := [99]) e_T_140 k_o (by decide)) o 1 (by rw [k_o]; decide))
        exact tot_some ⟨⟨h_T_140, x_T_140⟩, fun _ => (show (0 ≤ (0 : Int32).toInt ∧ (0 : Int32).toInt ≤ 0) from by omega)⟩
set_option maxHeartbeats 4000000 in
set_option maxRecDepth 10000 in
theorem cl_X4_standsOut_b24 {R : Nat → Nat} {B K1 K2 : Nat} {Q : Int32 × AT → Prop} {k11 : AT → Nat → Int32 → Nat → Nat → Int32 → Option (Int32 × AT)} (l0 : Nat) (l1 : Int32) (l2 : Nat) (l3 : Nat) (l4 : Int32) (T00 : AT) (k_l0 : R l0 = 4) (k_l2 : R l2 = 1) (k_l3 : R l3 = 61) (g0 : 0 ≤ l1.toInt ∧ l1.toInt ≤ 143) (g1 : 0 ≤ l4.toInt ∧ l4.toInt ≤ 11) (hx0 : ∀ (T : AT), (IV R B K1 K2 T) → (FW R [1952] T00 T) → Tot (elet (l4 + Int32.ofInt (1)) fun v_56 => k11 T l0 l1 l2 l3 v_56) Q) (hx1 : ∀ (T : AT), (IV R B K1 K2 T) → (FW R [1952] T00 T) → Tot (some (0, T)) Q) : ∀ (n : Nat) (T : AT) (l5 : Int32), (IV R B K1 K2 T) → (FW R [1952] T00 T) → (0 ≤ l5.toInt ∧ l5.toInt ≤ 143) → 143 - l5.toInt < (n : Int) → Tot (g_X4_standsOut_b24 k11 n T l0 l1 l2 l3 l4 l5) Q := by
  have z0 : (2 : Int32).toInt = 2 := by decide
  have z1 : (Int32.ofInt (1) : Int32).toInt = 1 := by decide
  have z2 : (0 : Int32).toInt = 0 := by decide
  have cc_101 : cnt 101 = 1 := rfl
  have cc_102 : cnt 102 = 12 := rfl
  have cc_103 : cnt 103 = 144 := rfl
  have cc_104 : cnt 104 = 2400 := rfl
  have cc_105 : cnt 105 = 7200 := rfl
  have j_l1 := i_any l1
  have j_l4 := i_any l4
  intro n
  induction n with
  | zero =>
    intro T l5 h_T x_T g_l5 hm
    exfalso
    omega
  | succ n ih =>
    intro T l5 h_T x_T g_l5 hm
    unfold g_X4_standsOut_b24
    refine tot_oif (iv_aA h_T k_l3 (by decide) (by decide) rfl rfl) ?_
    refine tot_oif (by rw [iv_len h_T k_l3 (by decide) (by decide) (rfl : shp 61 = (100, 4))]; exact i_inb (by omega) (by omega)) ?_
    refine tot_let (fun v_55 e_v_55 => ?_)
    have r_v_55 : -1 ≤ v_55.toInt ∧ v_55.toInt ≤ 11 := iv_int h_T k_l3 (by decide) (by decide) e_v_55 (by decide)
    refine tot_if (fun c_63 => ?_) (fun c_63 => ?_)
    · replace c_63 := i_lt c_63
      exact hx0 T h_T x_T
    · replace c_63 := i_nlt c_63
      refine tot_oif (iv_oO h_T k_l2 (by decide) (by decide) rfl) ?_
      refine tot_let (fun v_57 e_v_57 => ?_)
      have r_v_57 : 0 ≤ v_57.toInt ∧ v_57.toInt ≤ 12 := iv_int h_T k_l2 (by decide) (by decide) e_v_57 rfl
      refine tot_let (fun v_58 e_v_58 => ?_)
      have q_v_58 := i_mulp (a := 0) (b := 11) (c := 0) (d := 12) e_v_58 (by omega) (by omega) (by omega) (by omega) (by decide)
      refine tot_let (fun v_59 e_v_59 => ?_)
      have q_v_59 := i_add e_v_59 (by omega) (by omega)
      refine tot_if (fun c_64 => ?_) (fun c_64 => ?_)
      · replace c_64 := i_eq c_64
        unfold g_X4_standsOut_b65
        refine tot_let (fun v_65 e_v_65 => ?_)
        have q_v_65 := i_add e_v_65 (by omega) (by omega)
        exact ih T v_65 h_T x_T (by omega) (by omega)
      · replace c_64 := i_ne c_64
        refine tot_oif (iv_oO h_T k_l0 (by decide) (by decide) rfl) ?_
        refine tot_ref h_T k_l0 (by decide) (by decide) (r2 := 103) (rfl : rtg 4 1 = 103) (by decide) (fun n_60 k_n_60 e_n_60 => ?_)
        refine tot_oif (w_oO h_T k_n_60 (rfl : isW 103 = true)) ?_
        refine tot_bindq (R := fun r_61 : Int32 => True) (c_compare (a0 := v_59) (a1 := l1) k_n_60 (rfl : isW 103 = true) h_T (by omega) (by omega)) (fun r_61 d_r_61 => ?_)
        have r_r_61 := i_any r_61
        refine tot_if (fun c_66 => ?_) (fun c_66 => ?_)
        · replace c_66 := i_lt c_66
          unfold g_X4_standsOut_b65
          refine tot_let (fun v_67 e_v_67 => ?_)
          have q_v_67 := i_add e_v_67 (by omega) (by omega)
          exact ih T v_67 h_T x_T (by omega) (by omega)
        · replace c_66 := i_nlt c_66
          exact hx1 T h_T x_T
set_option maxHeartbeats 4000000 in
set_option maxRecDepth 10000 in
theorem cl_X4_standsOut_b11 {R : Nat → Nat} {B K1 K2 : Nat} {Q : Int32 × AT → Prop} (l0 : Nat) (l1 : Int32) (l2 : Nat) (l3 : Nat) (T00 : AT) (k_l0 : R l0 = 4) (k_l2 : R l2 = 1) (k_l3 : R l3 = 61) (g0 : 0 ≤ l1.toInt ∧ l1.toInt ≤ 143) (hx0 : ∀ (T : AT), (IV R B K1 K2 T) → (FW R [1952] T00 T) → Tot (some (1, T)) Q) (hx1 : ∀ (T_70 : AT), (IV R B K1 K2 T_70) → (FW R [1952] T00 T_70) → Tot (some (0, T_70)) Q) : ∀ (n : Nat) (T : AT) (l4 : Int32), (IV R B K1 K2 T) → (FW R [1952] T00 T) → (0 ≤ l4.toInt ∧ l4.toInt ≤ 143) → 143 - l4.toInt < (n : Int) → Tot (g_X4_standsOut_b11 n T l0 l1 l2 l3 l4) Q := by
  have z0 : (3 : Int32).toInt = 3 := by decide
  have z1 : (0 : Int32).toInt = 0 := by decide
  have z2 : (Int32.ofInt (1) : Int32).toInt = 1 := by decide
  have cc_101 : cnt 101 = 1 := rfl
  have cc_102 : cnt 102 = 12 := rfl
  have cc_103 : cnt 103 = 144 := rfl
  have cc_104 : cnt 104 = 2400 := rfl
  have cc_105 : cnt 105 = 7200 := rfl
  have j_l1 := i_any l1
  intro n
  induction n with
  | zero =>
    intro T l4 h_T x_T g_l4 hm
    exfalso
    omega
  | succ n ih =>
    intro T l4 h_T x_T g_l4 hm
    unfold g_X4_standsOut_b11
    refine tot_oif (iv_aA h_T k_l3 (by decide) (by decide) rfl rfl) ?_
    refine tot_oif (by rw [iv_len h_T k_l3 (by decide) (by decide) (rfl : shp 61 = (100, 4))]; exact i_inb (by omega) (by omega)) ?_
    refine tot_let (fun v_42 e_v_42 => ?_)
    have r_v_42 : -1 ≤ v_42.toInt ∧ v_42.toInt ≤ 11 := iv_int h_T k_l3 (by decide) (by decide) e_v_42 (by decide)
    refine tot_if (fun c_44 => ?_) (fun c_44 => ?_)
    · replace c_44 := i_lt c_44
      exact hx0 T h_T x_T
    · replace c_44 := i_nlt c_44
      refine tot_oif (iv_aA h_T k_l3 (by decide) (by decide) rfl rfl) ?_
      refine tot_oif (by rw [iv_len h_T k_l3 (by decide) (by decide) (rfl : shp 61 = (100, 4))]; exact i_inb (by omega) (by omega)) ?_
      refine tot_let (fun v_43 e_v_43 => ?_)
      have r_v_43 : 0 ≤ v_43.toInt ∧ v_43.toInt ≤ 143 := iv_int h_T k_l3 (by decide) (by decide) e_v_43 (by decide)
      refine cl_X4_standsOut_b24 l0 l1 l2 l3 l4 T00 k_l0 k_l2 k_l3 (by omega) (by omega) ?_ ?_ 16384 T v_43 h_T x_T (by omega) (by omega)
      · intro T_68 h_T_68 x_T_68
        refine tot_let (fun v_69 e_v_69 => ?_)
        have q_v_69 := i_add e_v_69 (by omega) (by omega)
        exact ih T_68 v_69 h_T_68 x_T_68 (by omega) (by omega)
      · intro T_70 h_T_70 x_T_70
        exact hx1 T_70 h_T_70 x_T_70
set_option maxHeartbeats 4000000 in
set_option maxRecDepth 10000 in
theorem cs_X4_standsOut {R : Nat → Nat} {B K1 K2 : Nat} (T : AT) (o : Nat) (a0 : Int32) (a1 : Nat) (h_T : IV R B K1 K2 T) (k_o : R o = 4) (k_a1 : R a1 = 1) (g0 : 0 ≤ a0.toInt ∧ a0.toInt ≤ 143) : Tot (g_X4_standsOut T o a0 a1) (fun r => (IV R B K1 K2 r.2 ∧ FW R [1952] T r.2) ∧ (0 ≤ r.1.toInt ∧ r.1.toInt ≤ 1)) := by
  have z0 : (1 : Int32).toInt = 1 := by decide
  have z1 : (0 : Int32).toInt = 0 := by decide
  have cc_101 : cnt 101 = 1 := rfl
  have cc_102 : cnt 102 = 12 := rfl
  have cc_103 : cnt 103 = 144 := rfl
  have cc_104 : cnt 104 = 2400 := rfl
  have cc_105 : cnt 105 = 7200 := rfl
  have x_T : FW R [1952] T T := FW.rf
  have j_a0 := i_any a0
  unfold g_X4_standsOut
  refine tot_oif (iv_oO h_T k_a1 (by decide) (by decide) rfl) ?_
  refine tot_bind2 (cs_X1_areaAround T a1 a0 h_T k_a1 (by omega)) (fun n_1 T_2 d_n_1 => ?_)
  have h_T_2 : IV R B K1 K2 T_2 := d_n_1.1.1
  have y_T_2 : FW R [1952] T T_2 := d_n_1.1.2
  have x_T_2 := x_T.tr (y_T_2.w (by decide))
  have k_n_1 : R n_1 = 61 := d_n_1.2.1
  have ao_n_1 : AO a1 T_2 n_1 := d_n_1.2.2
  refine tot_oif (iv_aA h_T_2 k_n_1 (by decide) (by decide) rfl rfl) ?_
  refine tot_oif (by rw [iv_len h_T_2 k_n_1 (by decide) (by decide) (rfl : shp 61 = (100, 4))]; exact i_inb (by omega) (by omega)) ?_
  refine tot_let (fun v_3 e_v_3 => ?_)
  have r_v_3 : 0 ≤ v_3.toInt ∧ v_3.toInt ≤ 143 := iv_int h_T_2 k_n_1 (by decide) (by decide) e_v_3 (by decide)
  refine cl_X4_standsOut_b11 o a0 a1 n_1 T k_o k_a1 k_n_1 (by omega) ?_ ?_ 16384 T_2 v_3 h_T_2 x_T_2 (by omega) (by omega)
  · intro T_71 h_T_71 x_T_71
    exact tot_some ⟨⟨h_T_71, x_T_71⟩, (show (0 ≤ (1 : Int32).toInt ∧ (1 : Int32).toInt ≤ 1) from by omega)⟩
  · intro T_72 h_T_72 x_T_72
    exact tot_some ⟨⟨h_T_72, x_T_72⟩, (show (0 ≤ (0 : Int32).toInt ∧ (0 : Int32).toInt ≤ 1) from by omega)⟩
set_option maxHeartbeats 4000000 in
set_option maxRecDepth 10000 in
theorem cl_X4_measure_b16 {R : Nat → Nat} {B K1 K2 : Nat} {Q : AT → Prop} (l0 : Nat) (l1 : Nat) (l2 : Nat) (T00 : AT) (k_l0 : R l0 = 4) (k_l1 : R l1 = 6) (k_l2 : R l2 = 8) (hx0 : ∀ (T : AT), (IV R B K1 K2 T) → (FW R [130, 131, 1952, 2144, 3202] T00 T) → Tot (oif (oO T l1 6 = true) <| obind (T.2.2.2.2 l1 6) fun n_102 => oif (oO T l1 6 = true) <| obind (T.2.2.2.2 l1 6) fun n_103 => oif (oO T n_103 1 = true) <| obind (T.2.2.2.2 n_103 5) fun n_104 => oif (oO T l0 4 = true) <| obind (T.2.2.2.2 l0 1) fun n_105 => oif (oO T n_102 1 = true) <| obind2 (g_X1_bestIn T n_102 n_104 n_105 (0 : Int32)) fun r_106 T_107 => oif (oO T_107 l0 4 = true) <| elet (uI T_107 l0 2 r_106) fun T_108 => oif (oO T_108 l0 4 = true) <| elet (uI T_108 l0 3 0) fun T_109 => g_X4_measure_b89 16384 T_109 l0 l1 0) Q) : ∀ (n : Nat) (T : AT) (l3 : Int32), (IV R B K1 K2 T) → (FW R [130, 131, 1952, 2144, 3202] T00 T) → (0 ≤ l3.toInt ∧ l3.toInt ≤ 144) → 144 - l3.toInt < (n : Int) → Tot (g_X4_measure_b16 n T l0 l1 l2 l3) Q := by
  have z0 : ((0 : Int32) : Int32).toInt = 0 := by decide
  have z1 : (Int32.ofInt (1) : Int32).toInt = 1 := by decide
  have cc_101 : cnt 101 = 1 := rfl
  have cc_102 : cnt 102 = 12 := rfl
  have cc_103 : cnt 103 = 144 := rfl
  have cc_104 : cnt 104 = 2400 := rfl
  have cc_105 : cnt 105 = 7200 := rfl
  intro n
  induction n with
  | zero =>
    intro T l3 h_T x_T g_l3 hm
    exfalso
    omega
  | succ n ih =>
    intro T l3 h_T x_T g_l3 hm
    unfold g_X4_measure_b16
    refine tot_oif (iv_oO h_T k_l1 (by decide) (by decide) rfl) ?_
    refine tot_ref h_T k_l1 (by decide) (by decide) (r2 := 1) (rfl : rtg 6 6 = 1) (by decide) (fun n_99 k_n_99 e_n_99 => ?_)
    refine tot_oif (iv_oO h_T k_n_99 (by decide) (by decide) rfl) ?_
    refine tot_bindq (R := fun r_100 : Int32 => (0 ≤ r_100.toInt ∧ r_100.toInt ≤ 144)) (cs_X1_cells T n_99 h_T k_n_99 ) (fun r_100 d_r_100 => ?_)
    replace d_r_100 : (0 ≤ r_100.toInt ∧ r_100.toInt ≤ 144) := d_r_100
    refine tot_if (fun c_116 => ?_) (fun c_116 => ?_)
    · replace c_116 := i_le c_116
      exact hx0 T h_T x_T
    · replace c_116 := i_nle c_116
      refine tot_oif (iv_oO h_T k_l1 (by decide) (by decide) rfl) ?_
      refine tot_ref h_T k_l1 (by decide) (by decide) (r2 := 51) (rfl : rtg 6 17 = 51) (by decide) (fun n_110 k_n_110 e_n_110 => ?_)
      refine tot_oif (iv_aA h_T k_n_110 (by decide) (by decide) rfl rfl) ?_
      refine tot_oif (by rw [iv_len h_T k_n_110 (by decide) (by decide) (rfl : shp 51 = (106, 144))]; exact i_inb (by omega) (by omega)) ?_
      refine tot_ref h_T k_n_110 (by decide) (by decide) (r2 := 50) (rt_51 (by omega) (by omega)) (by decide) (fun n_111 k_n_111 e_n_111 => ?_)
      refine tot_oif (iv_oO h_T k_l2 (by decide) (by decide) rfl) ?_
      refine tot_bindq (R := fun r_112 : Int32 => (0 ≤ r_112.toInt ∧ r_112.toInt ≤ 200)) (cs_X8_windowOf T l2 n_111 h_T k_l2 k_n_111 ) (fun r_112 d_r_112 => ?_)
      replace d_r_112 : (0 ≤ r_112.toInt ∧ r_112.toInt ≤ 200) := d_r_112
      refine tot_oif (iv_oO h_T k_l0 (by decide) (by decide) rfl) ?_
      refine tot_ref h_T k_l0 (by decide) (by decide) (r2 := 103) (rfl : rtg 4 1 = 103) (by decide) (fun n_114 k_n_114 e_n_114 => ?_)
      refine tot_oif (iv_oO h_T k_l2 (by decide) (by decide) rfl) ?_
      refine tot_bind (cs_X8_blockPowerOf T l2 n_111 (0 : Int32) r_112 n_114 l3 h_T k_l2 k_n_111 k_n_114 (rfl : isW 103 = true) (by omega) (by omega) (by omega) (by omega)) (fun T_115 d_T_115 => ?_)
      have h_T_115 : IV R B K1 K2 T_115 := d_T_115.1
      have y_T_115 : FW R [3202] T T_115 := d_T_115.2
      have x_T_115 := x_T.tr (y_T_115.w (by decide))
      have f_T_115_l0_3 : (T_115.2.2.1 l0 3).toInt = (T.2.2.1 l0 3).toInt := congrArg Int32.toInt (y_T_115 l0 3 (by rw [k_l0]; decide))
      unfold g_X4_measure_b53
      refine tot_let (fun v_117 e_v_117 => ?_)
      have q_v_117 := i_add e_v_117 (by omega) (by omega)
      exact ih T_115 v_117 h_T_115 x_T_115 (by omega) (by omega)
set_option maxHeartbeats 4000000 in
set_option maxRecDepth 10000 in
theorem cl_X4_measure_b89 {R : Nat → Nat} {B K1 K2 : Nat} {Q : AT → Prop} (l0 : Nat) (l1 : Nat) (T00 : AT) (k_l0 : R l0 = 4) (k_l1 : R l1 = 6) (hx0 : ∀ (T : AT), (IV R B K1 K2 T) → (FW R [130, 131, 1952, 2144, 3202] T00 T) → Tot (some (T)) Q) : ∀ (n : Nat) (T : AT) (l3 : Int32), (IV R B K1 K2 T) → (FW R [130, 131, 1952, 2144, 3202] T00 T) → (0 ≤ l3.toInt ∧ l3.toInt ≤ 144) → ((T.2.2.1 l0 3).toInt ≤ l3.toInt) → 144 - l3.toInt < (n : Int) → Tot (g_X4_measure_b89 n T l0 l1 l3) Q := by
  have z0 : (0 : Int32).toInt = 0 := by decide
  have z1 : (Int32.ofInt (1) : Int32).toInt = 1 := by decide
  have z2 : (1 : Int32).toInt = 1 := by decide
  have cc_101 : cnt 101 = 1 := rfl
  have cc_102 : cnt 102 = 12 := rfl
  have cc_103 : cnt 103 = 144 := rfl
  have cc_104 : cnt 104 = 2400 := rfl
  have cc_105 : cnt 105 = 7200 := rfl
  intro n
  induction n with
  | zero =>
    intro T l3 h_T x_T g_l3 gi_0 hm
    exfalso
    omega
  | succ n ih =>
    intro T l3 h_T x_T g_l3 gi_0 hm
    unfold g_X4_measure_b89
    refine tot_oif (iv_oO h_T k_l1 (by decide) (by decide) rfl) ?_
    refine tot_ref h_T k_l1 (by decide) (by decide) (r2 := 1) (rfl : rtg 6 6 = 1) (by decide) (fun n_145 k_n_145 e_n_145 => ?_)
    refine tot_oif (iv_oO h_T k_n_145 (by decide) (by decide) rfl) ?_
    refine tot_bindq (R := fun r_146 : Int32 => (0 ≤ r_146.toInt ∧ r_146.toInt ≤ 144)) (cs_X1_cells T n_145 h_T k_n_145 ) (fun r_146 d_r_146 => ?_)
    replace d_r_146 : (0 ≤ r_146.toInt ∧ r_146.toInt ≤ 144) := d_r_146
    refine tot_if (fun c_158 => ?_) (fun c_158 => ?_)
    · replace c_158 := i_le c_158
      exact hx0 T h_T x_T
    · replace c_158 := i_nle c_158
      refine tot_oif (iv_oO h_T k_l1 (by decide) (by decide) rfl) ?_
      refine tot_ref1 e_n_145 ?_
      refine tot_oif (iv_oO h_T k_l0 (by decide) (by decide) rfl) ?_
      refine tot_bind2 (cs_X4_standsOut T l0 l3 n_145 h_T k_l0 k_n_145 (by omega)) (fun r_149 T_150 d_r_149 => ?_)
      have h_T_150 : IV R B K1 K2 T_150 := d_r_149.1.1
      have y_T_150 : FW R [1952] T T_150 := d_r_149.1.2
      have x_T_150 := x_T.tr (y_T_150.w (by decide))
      have f_T_150_l0_3 : (T_150.2.2.1 l0 3).toInt = (T.2.2.1 l0 3).toInt := congrArg Int32.toInt (y_T_150 l0 3 (by rw [k_l0]; decide))
      replace d_r_149 : (0 ≤ r_149.toInt ∧ r_149.toInt ≤ 1) := d_r_149.2
      refine tot_if (fun c_159 => ?_) (fun c_159 => ?_)
      · replace c_159 := i_eq c_159
        unfold g_X4_measure_b148
        refine tot_let (fun v_160 e_v_160 => ?_)
        have q_v_160 := i_add e_v_160 (by omega) (by omega)
        exact ih T_150 v_160 h_T_150 x_T_150 (by omega) (by omega) (by omega)
      · replace c_159 := i_ne c_159
        refine tot_oif (iv_oO h_T_150 k_l0 (by decide) (by decide) rfl) ?_
        refine tot_ref h_T_150 k_l0 (by decide) (by decide) (r2 := 67) (rfl : rtg 4 4 = 67) (by decide) (fun n_151 k_n_151 e_n_151 => ?_)
        refine tot_oif (iv_oO h_T_150 k_l0 (by decide) (by decide) rfl) ?_
        refine tot_let (fun v_152 e_v_152 => ?_)
        have q_v_152 := i_eq e_v_152
        have r_v_152 : 0 ≤ v_152.toInt ∧ v_152.toInt ≤ 144 := iv_int h_T_150 k_l0 (by decide) (by decide) e_v_152 rfl
        refine tot_oif (iv_aA h_T_150 k_n_151 (by decide) (by decide) rfl rfl) ?_
        refine tot_oif (by rw [iv_len h_T_150 k_n_151 (by decide) (by decide) (rfl : shp 67 = (100, 144))]; exact i_inb (by omega) (by omega)) ?_
        refine tot_let (fun T_153 e_T_153 => ?_)
        have h_T_153 : IV R B K1 K2 T_153 := by rw [e_T_153]; exact iv_uI (a := 0) (b := 143) h_T_150 k_n_151 (by decide) (by decide) rfl (by omega) (.inl rfl)
        have x_T_153 := x_T_150.tr (fw_uA e_T_153 k_n_151 rfl rfl (by decide))
        have f_T_153_l0_3 : (T_153.2.2.1 l0 3).toInt = (T_150.2.2.1 l0 3).toInt := congrArg Int32.toInt ((fw_uA (W := [2144]) e_T_153 k_n_151 rfl rfl (by decide)) l0 3 (by rw [k_l0]; decide))
        refine tot_oif (iv_oO h_T_153 k_l0 (by decide) (by decide) rfl) ?_
        refine tot_ref h_T_153 k_l0 (by decide) (by decide) (r2 := 103) (rfl : rtg 4 5 = 103) (by decide) (fun n_154 k_n_154 e_n_154 => ?_)
        refine tot_oif (iv_oO h_T_153 k_l0 (by decide) (by decide) rfl) ?_
        refine tot_let (fun v_155 e_v_155 => ?_)
        have q_v_155 := i_eq e_v_155
        have r_v_155 : 0 ≤ v_155.toInt ∧ v_155.toInt ≤ 144 := iv_int h_T_153 k_l0 (by decide) (by decide) e_v_155 rfl
        refine tot_oif (iv_oO h_T_153 k_l0 (by decide) (by decide) rfl) ?_
        refine tot_ref h_T_153 k_l0 (by decide) (by decide) (r2 := 103) (rfl : rtg 4 1 = 103) (by decide) (fun n_156 k_n_156 e_n_156 => ?_)
        refine tot_oif (w_oO h_T_153 k_n_154 (rfl : isW 103 = true)) ?_
        refine tot_bind (c_set (a0 := v_155) (a2 := l3) k_n_154 (rfl : isW 103 = true) k_n_156 (rfl : isW 103 = true) h_T_153 (by omega) (by omega)) (fun T_157 d_T_157 => ?_)
        have h_T_157 : IV R B K1 K2 T_157 := d_T_157.1
        have y_T_157 : FW R [3202] T_153 T_157 := (fw_wx d_T_157.2 k_n_154 (rfl : isW 103 = true) (by decide))
        have x_T_157 := x_T_153.tr (y_T_157.w (by decide))
        have f_T_157_l0_3 : (T_157.2.2.1 l0 3).toInt = (T_153.2.2.1 l0 3).toInt := congrArg Int32.toInt (y_T_157 l0 3 (by rw [k_l0]; decide))
        unfold g_X4_measure_b138
        refine tot_oif (iv_oO h_T_157 k_l0 (by decide) (by decide) rfl) ?_
        refine tot_let (fun v_161 e_v_161 => ?_)
        have q_v_161 := i_eq e_v_161
        have r_v_161 : 0 ≤ v_161.toInt ∧ v_161.toInt ≤ 144 := iv_int h_T_157 k_l0 (by decide) (by decide) e_v_161 rfl
        refine tot_let (fun v_162 e_v_162 => ?_)
        have q_v_162 := i_add e_v_162 (by omega) (by omega)
        refine tot_oif (iv_oO h_T_157 k_l0 (by decide) (by decide) rfl) ?_
        refine tot_let (fun T_163 e_T_163 => ?_)
        have h_T_163 : IV R B K1 K2 T_163 := by rw [e_T_163]; exact iv_uI (a := 0) (b := 144) h_T_157 k_l0 (by decide) (by decide) rfl (by omega) (.inl rfl)
        have x_T_163 := x_T_157.tr (fw_uI e_T_163 k_l0 (by decide))
        have f_T_163_l0_3 : (T_163.2.2.1 l0 3).toInt = (v_162 : Int32).toInt := by rw [e_T_163]; exact congrArg Int32.toInt (uI_at _ _ _ _)
        unfold g_X4_measure_b148
        refine tot_let (fun v_164 e_v_164 => ?_)
        have q_v_164 := i_add e_v_164 (by omega) (by omega)
        exact ih T_163 v_164 h_T_163 x_T_163 (by omega) (by omega) (by omega)
set_option maxHeartbeats 4000000 in
set_option maxRecDepth 10000 in
theorem cs_X4_measure {R : Nat → Nat} {B K1 K2 : Nat} (T : AT) (o : Nat) (a0 : Nat) (a1 : Nat) (h_T : IV R B K1 K2 T) (k_o : R o = 4) (k_a0 : R a0 = 6) (k_a1 : R a1 = 8) : Tot (g_X4_measure T o a0 a1) (fun T1 => IV R B K1 K2 T1 ∧ FW R [130, 131, 1952, 2144, 3202] T T1) := by
  have z0 : (0 : Int32).toInt = 0 := by decide
  have z1 : ((0 : Int32) : Int32).toInt = 0 := by decide
  have cc_101 : cnt 101 = 1 := rfl
  have cc_102 : cnt 102 = 12 := rfl
  have cc_103 : cnt 103 = 144 := rfl
  have cc_104 : cnt 104 = 2400 := rfl
  have cc_105 : cnt 105 = 7200 := rfl
  have x_T : FW R [130, 131, 1952, 2144, 3202] T T := FW.rf
  unfold g_X4_measure
  refine tot_oif (iv_oO h_T k_o (by decide) (by decide) rfl) ?_
  refine tot_ref h_T k_o (by decide) (by decide) (r2 := 103) (rfl : rtg 4 1 = 103) (by decide) (fun n_1 k_n_1 e_n_1 => ?_)
  refine tot_oif (w_oO h_T k_n_1 (rfl : isW 103 = true)) ?_
  refine tot_bind (c_narrow h_T k_n_1 (rfl : isW 103 = true)) (fun T_2 d_T_2 => ?_)
  have h_T_2 : IV R B K1 K2 T_2 := d_T_2.1
  have y_T_2 : FW R [3202] T T_2 := d_T_2.2.2
  have x_T_2 := x_T.tr (y_T_2.w (by decide))
  have f_T_2_o_3 : (T_2.2.2.1 o 3).toInt = (T.2.2.1 o 3).toInt := congrArg Int32.toInt (y_T_2 o 3 (by rw [k_o]; decide))
  refine tot_oif (iv_oO h_T_2 k_o (by decide) (by decide) rfl) ?_
  refine tot_ref h_T_2 k_o (by decide) (by decide) (r2 := 103) (rfl : rtg 4 5 = 103) (by decide) (fun n_3 k_n_3 e_n_3 => ?_)
  refine tot_oif (w_oO h_T_2 k_n_3 (rfl : isW 103 = true)) ?_
  refine tot_bind (c_narrow h_T_2 k_n_3 (rfl : isW 103 = true)) (fun T_4 d_T_4 => ?_)
  have h_T_4 : IV R B K1 K2 T_4 := d_T_4.1
  have y_T_4 : FW R [3202] T_2 T_4 := d_T_4.2.2
  have x_T_4 := x_T_2.tr (y_T_4.w (by decide))
  have f_T_4_o_3 : (T_4.2.2.1 o 3).toInt = (T_2.2.2.1 o 3).toInt := congrArg Int32.toInt (y_T_4 o 3 (by rw [k_o]; decide))
  refine cl_X4_measure_b16 o a0 a1 T k_o k_a0 k_a1 ?_ 16384 T_4 0 h_T_4 x_T_4 (by omega) (by omega)
  · intro T_118 h_T_118 x_T_118
    refine tot_oif (iv_oO h_T_118 k_a0 (by decide) (by decide) rfl) ?_
    refine tot_ref h_T_118 k_a0 (by decide) (by decide) (r2 := 1) (rfl : rtg 6 6 = 1) (by decide) (fun n_119 k_n_119 e_n_119 => ?_)
    refine tot_oif (iv_oO h_T_118 k_a0 (by decide) (by decide) rfl) ?_
    refine tot_ref1 e_n_119 ?_
    refine tot_oif (iv_oO h_T_118 k_n_119 (by decide) (by decide) rfl) ?_
    refine tot_ref h_T_118 k_n_119 (by decide) (by decide) (r2 := 59) (rfl : rtg 1 5 = 59) (by decide) (fun n_121 k_n_121 e_n_121 => ?_)
    refine tot_oif (iv_oO h_T_118 k_o (by decide) (by decide) rfl) ?_
    refine tot_ref h_T_118 k_o (by decide) (by decide) (r2 := 103) (rfl : rtg 4 1 = 103) (by decide) (fun n_122 k_n_122 e_n_122 => ?_)
    refine tot_oif (iv_oO h_T_118 k_n_119 (by decide) (by decide) rfl) ?_
    refine tot_bindq (R := fun r_123 : Int32 => (0 ≤ r_123.toInt ∧ r_123.toInt ≤ 143)) (cs_X1_bestIn59 T_118 n_119 n_121 n_122 (0 : Int32) h_T_118 k_n_119 k_n_121 k_n_122 (rfl : isW 103 = true) (by omega)) (fun r_123 d_r_123 => ?_)
    replace d_r_123 : (0 ≤ r_123.toInt ∧ r_123.toInt ≤ 143) := d_r_123
    refine tot_oif (iv_oO h_T_118 k_o (by decide) (by decide) rfl) ?_
    refine tot_let (fun T_125 e_T_125 => ?_)
    have h_T_125 : IV R B K1 K2 T_125 := by rw [e_T_125]; exact iv_uI (a := 0) (b := 143) h_T_118 k_o (by decide) (by decide) rfl (by omega) (.inl rfl)
    have x_T_125 := x_T_118.tr (fw_uI e_T_125 k_o (by decide))
    have f_T_125_o_3 : (T_125.2.2.1 o 3).toInt = (T_118.2.2.1 o 3).toInt := congrArg Int32.toInt ((fw_uI (W := [130]) e_T_125 k_o (by decide)) o 3 (by rw [k_o]; decide))
    refine tot_oif (iv_oO h_T_125 k_o (by decide) (by decide) rfl) ?_
    refine tot_let (fun T_126 e_T_126 => ?_)
    have h_T_126 : IV R B K1 K2 T_126 := by rw [e_T_126]; exact iv_uI (a := 0) (b := 144) h_T_125 k_o (by decide) (by decide) rfl (by omega) (.inl rfl)
    have x_T_126 := x_T_125.tr (fw_uI e_T_126 k_o (by decide))
    have f_T_126_o_3 : (T_126.2.2.1 o 3).toInt = (0 : Int32).toInt := by rw [e_T_126]; exact congrArg Int32.toInt (uI_at _ _ _ _)
    refine cl_X4_measure_b89 o a0 T k_o k_a0 ?_ 16384 T_126 0 h_T_126 x_T_126 (by omega) (by omega) (by omega)
    · intro T_165 h_T_165 x_T_165
      exact tot_some ⟨h_T_165, x_T_165⟩
end
section
/-! 13d.cf5.lean.txt -/
set_option maxHeartbeats 4000000 in
set_option maxRecDepth 10000 in
theorem cl_X4_second_b4 {R : Nat → Nat} {B K1 K2 : Nat} {Q : Int32 × AT → Prop} (T : AT) (l0 : Nat) (l1 : Int32) (h_T : IV R B K1 K2 T) (k_l0 : R l0 = 4) (g0 : 0 ≤ l1.toInt ∧ l1.toInt ≤ 144) (hx0 : ∀ (l2 : Int32), (-1 ≤ l2.toInt ∧ l2.toInt ≤ 143) → Tot (some (l2, T)) Q) : ∀ (n : Nat) (l2 : Int32) (l3 : Int32), (-1 ≤ l2.toInt ∧ l2.toInt ≤ 143) → (0 ≤ l3.toInt ∧ l3.toInt ≤ 144) → 144 - l3.toInt < (n : Int) → Tot (g_X4_second_b4 n T l0 l1 l2 l3) Q := by
  have z0 : (Int32.ofInt (1) : Int32).toInt = 1 := by decide
  have z1 : ((-1) : Int32).toInt = -1 := by decide
  have z2 : (0 : Int32).toInt = 0 := by decide
  have cc_101 : cnt 101 = 1 := rfl
  have cc_102 : cnt 102 = 12 := rfl
  have cc_103 : cnt 103 = 144 := rfl
  have cc_104 : cnt 104 = 2400 := rfl
  have cc_105 : cnt 105 = 7200 := rfl
  have j_l1 := i_any l1
  intro n
  induction n with
  | zero =>
    intro l2 l3 g_l2 g_l3 hm
    exfalso
    omega
  | succ n ih =>
    intro l2 l3 g_l2 g_l3 hm
    unfold g_X4_second_b4
    refine tot_if (fun c_21 => ?_) (fun c_21 => ?_)
    · replace c_21 := i_le c_21
      exact hx0 l2 (by omega)
    · replace c_21 := i_nle c_21
      refine tot_oif (iv_oO h_T k_l0 (by decide) (by decide) rfl) ?_
      refine tot_let (fun v_17 e_v_17 => ?_)
      have r_v_17 : 0 ≤ v_17.toInt ∧ v_17.toInt ≤ 143 := iv_int h_T k_l0 (by decide) (by decide) e_v_17 rfl
      refine tot_if (fun c_22 => ?_) (fun c_22 => ?_)
      · replace c_22 := i_eq c_22
        unfold g_X4_second_b36
        refine tot_let (fun v_23 e_v_23 => ?_)
        have q_v_23 := i_add e_v_23 (by omega) (by omega)
        exact ih l2 v_23 (by omega) (by omega) (by omega)
      · replace c_22 := i_ne c_22
        refine tot_if (fun c_24 => ?_) (fun c_24 => ?_)
        · replace c_24 := i_eq c_24
          unfold g_X4_second_b34
          unfold g_X4_second_b36
          refine tot_let (fun v_25 e_v_25 => ?_)
          have q_v_25 := i_add e_v_25 (by omega) (by omega)
          exact ih l3 v_25 (by omega) (by omega) (by omega)
        · replace c_24 := i_ne c_24
          refine tot_oif (iv_oO h_T k_l0 (by decide) (by decide) rfl) ?_
          refine tot_ref h_T k_l0 (by decide) (by decide) (r2 := 103) (rfl : rtg 4 1 = 103) (by decide) (fun n_18 k_n_18 e_n_18 => ?_)
          refine tot_oif (w_oO h_T k_n_18 (rfl : isW 103 = true)) ?_
          refine tot_bindq (R := fun r_19 : Int32 => True) (c_compare (a0 := l3) (a1 := l2) k_n_18 (rfl : isW 103 = true) h_T (by omega) (by omega)) (fun r_19 d_r_19 => ?_)
          have r_r_19 := i_any r_19
          refine tot_if (fun c_26 => ?_) (fun c_26 => ?_)
          · replace c_26 := i_le c_26
            unfold g_X4_second_b36
            refine tot_let (fun v_27 e_v_27 => ?_)
            have q_v_27 := i_add e_v_27 (by omega) (by omega)
            exact ih l2 v_27 (by omega) (by omega) (by omega)
          · replace c_26 := i_nle c_26
            unfold g_X4_second_b34
            unfold g_X4_second_b36
            refine tot_let (fun v_28 e_v_28 => ?_)
            have q_v_28 := i_add e_v_28 (by omega) (by omega)
            exact ih l3 v_28 (by omega) (by omega) (by omega)
set_option maxHeartbeats 4000000 in
set_option maxRecDepth 10000 in
theorem cs_X4_second {R : Nat → Nat} {B K1 K2 : Nat} (T : AT) (o : Nat) (a0 : Int32) (h_T : IV R B K1 K2 T) (k_o : R o = 4) (g0 : 0 ≤ a0.toInt ∧ a0.toInt ≤ 144) : Tot (g_X4_second T o a0) (fun r => r.2 = T ∧ (-1 ≤ r.1.toInt ∧ r.1.toInt ≤ 143)) := by
  have z0 : ((-1) : Int32).toInt = -1 := by decide
  have z1 : (0 : Int32).toInt = 0 := by decide
  have cc_101 : cnt 101 = 1 := rfl
  have cc_102 : cnt 102 = 12 := rfl
  have cc_103 : cnt 103 = 144 := rfl
  have cc_104 : cnt 104 = 2400 := rfl
  have cc_105 : cnt 105 = 7200 := rfl
  have j_a0 := i_any a0
  unfold g_X4_second
  refine cl_X4_second_b4 T o a0 h_T k_o (by omega) ?_ 16384 (-1) 0 (by omega) (by omega) (by omega)
  · intro l_29 g_l_29
    exact tot_some ⟨rfl, (show (-1 ≤ l_29.toInt ∧ l_29.toInt ≤ 143) from by omega)⟩
set_option maxHeartbeats 4000000 in
set_option maxRecDepth 10000 in
theorem cl_X4_sumIn_b24 {R : Nat → Nat} {B K1 K2 : Nat} {Q : AT → Prop} {k11 : AT → Nat → Nat → Nat → Nat → Int32 → Int32 → Option (AT)} (l0 : Nat) (l1 : Nat) (l2 : Nat) (l3 : Nat) (l4 : Int32) (l5 : Int32) (T00 : AT) (k_l0 : R l0 = 4) (k_l1 : R l1 = 59) (k_l2 : R l2 = 1) {r_l3 : Nat} (k_l3 : R l3 = r_l3) (w_l3 : isW r_l3 = true) (g0 : 0 ≤ l4.toInt ∧ l4.toInt ≤ 0) (g1 : 0 ≤ l5.toInt ∧ l5.toInt ≤ 11) (hx0 : ∀ (T : AT), (IV R B K1 K2 T) → (FW R [3202] T00 T) → Tot (elet (l5 + Int32.ofInt (1)) fun v_47 => k11 T l0 l1 l2 l3 l4 v_47) Q) : ∀ (n : Nat) (T : AT) (l6 : Int32), (IV R B K1 K2 T) → (FW R [3202] T00 T) → (0 ≤ l6.toInt ∧ l6.toInt ≤ 12) → 12 - l6.toInt < (n : Int) → Tot (g_X4_sumIn_b24 k11 n T l0 l1 l2 l3 l4 l5 l6) Q := by
  have z0 : (2 : Int32).toInt = 2 := by decide
  have z1 : ((1 : Int32) : Int32).toInt = 1 := by decide
  have z2 : (Int32.ofInt (1) : Int32).toInt = 1 := by decide
  have cc_101 : cnt 101 = 1 := rfl
  have cc_102 : cnt 102 = 12 := rfl
  have cc_103 : cnt 103 = 144 := rfl
  have cc_104 : cnt 104 = 2400 := rfl
  have cc_105 : cnt 105 = 7200 := rfl
  have c7_l3 := (isW_f w_l3).2.2.2.1
  have j_l4 := i_any l4
  have j_l5 := i_any l5
  intro n
  induction n with
  | zero =>
    intro T l6 h_T x_T g_l6 hm
    exfalso
    omega
  | succ n ih =>
    intro T l6 h_T x_T g_l6 hm
    unfold g_X4_sumIn_b24
    refine tot_oif (iv_aA h_T k_l1 (by decide) (by decide) rfl rfl) ?_
    refine tot_oif (by rw [iv_len h_T k_l1 (by decide) (by decide) (rfl : shp 59 = (100, 4))]; exact i_inb (by omega) (by omega)) ?_
    refine tot_let (fun v_46 e_v_46 => ?_)
    have r_v_46 : 0 ≤ v_46.toInt ∧ v_46.toInt ≤ 11 := iv_int h_T k_l1 (by decide) (by decide) e_v_46 rfl
    refine tot_if (fun c_53 => ?_) (fun c_53 => ?_)
    · replace c_53 := i_lt c_53
      exact hx0 T h_T x_T
    · replace c_53 := i_nlt c_53
      refine tot_oif (iv_oO h_T k_l0 (by decide) (by decide) rfl) ?_
      refine tot_ref h_T k_l0 (by decide) (by decide) (r2 := 103) (rfl : rtg 4 1 = 103) (by decide) (fun n_48 k_n_48 e_n_48 => ?_)
      refine tot_oif (iv_oO h_T k_l2 (by decide) (by decide) rfl) ?_
      refine tot_let (fun v_49 e_v_49 => ?_)
      have r_v_49 : 0 ≤ v_49.toInt ∧ v_49.toInt ≤ 12 := iv_int h_T k_l2 (by decide) (by decide) e_v_49 rfl
      refine tot_let (fun v_50 e_v_50 => ?_)
      have q_v_50 := i_mulp (a := 0) (b := 11) (c := 0) (d := 12) e_v_50 (by omega) (by omega) (by omega) (by omega) (by decide)
      refine tot_let (fun v_51 e_v_51 => ?_)
      have q_v_51 := i_add e_v_51 (by omega) (by omega)
      refine tot_oif (w_oO h_T k_l3 w_l3) ?_
      refine tot_bind (c_add (a0 := l4) (a2 := v_51) (a3 := (1 : Int32)) k_l3 w_l3 k_n_48 (rfl : isW 103 = true) h_T (by omega) (by omega)) (fun T_52 d_T_52 => ?_)
      have h_T_52 : IV R B K1 K2 T_52 := d_T_52.1
      have y_T_52 : FW R [3202] T T_52 := (fw_wx d_T_52.2 k_l3 w_l3 (by decide))
      have x_T_52 := x_T.tr (y_T_52.w (by decide))
      unfold g_X4_sumIn_b53
      refine tot_let (fun v_54 e_v_54 => ?_)
      have q_v_54 := i_add e_v_54 (by omega) (by omega)
      exact ih T_52 v_54 h_T_52 x_T_52 (by omega) (by omega)
set_option maxHeartbeats 4000000 in
set_option maxRecDepth 10000 in
theorem cl_X4_sumIn_b11 {R : Nat → Nat} {B K1 K2 : Nat} {Q : AT → Prop} (l0 : Nat) (l1 : Nat) (l2 : Nat) (l3 : Nat) (l4 : Int32) (T00 : AT) (k_l0 : R l0 = 4) (k_l1 : R l1 = 59) (k_l2 : R l2 = 1) {r_l3 : Nat} (k_l3 : R l3 = r_l3) (w_l3 : isW r_l3 = true) (g0 : 0 ≤ l4.toInt ∧ l4.toInt ≤ 0) (hx0 : ∀ (T : AT), (IV R B K1 K2 T) → (FW R [3202] T00 T) → Tot (some (T)) Q) : ∀ (n : Nat) (T : AT) (l5 : Int32), (IV R B K1 K2 T) → (FW R [3202] T00 T) → (0 ≤ l5.toInt ∧ l5.toInt ≤ 12) → 12 - l5.toInt < (n : Int) → Tot (g_X4_sumIn_b11 n T l0 l1 l2 l3 l4 l5) Q := by
  have z0 : (3 : Int32).toInt = 3 := by decide
  have z1 : (0 : Int32).toInt = 0 := by decide
  have z2 : (Int32.ofInt (1) : Int32).toInt = 1 := by decide
  have cc_101 : cnt 101 = 1 := rfl
  have cc_102 : cnt 102 = 12 := rfl
  have cc_103 : cnt 103 = 144 := rfl
  have cc_104 : cnt 104 = 2400 := rfl
  have cc_105 : cnt 105 = 7200 := rfl
  have c7_l3 := (isW_f w_l3).2.2.2.1
  have j_l4 := i_any l4
  intro n
  induction n with
  | zero =>
    intro T l5 h_T x_T g_l5 hm
    exfalso
    omega
  | succ n ih =>
    intro T l5 h_T x_T g_l5 hm
    unfold g_X4_sumIn_b11
    refine tot_oif (iv_aA h_T k_l1 (by decide) (by decide) rfl rfl) ?_
    refine tot_oif (by rw [iv_len h_T k_l1 (by decide) (by decide) (rfl : shp 59 = (100, 4))]; exact i_inb (by omega) (by omega)) ?_
    refine tot_let (fun v_35 e_v_35 => ?_)
    have r_v_35 : 0 ≤ v_35.toInt ∧ v_35.toInt ≤ 11 := iv_int h_T k_l1 (by decide) (by decide) e_v_35 rfl
    refine tot_if (fun c_37 => ?_) (fun c_37 => ?_)
    · replace c_37 := i_lt c_37
      exact hx0 T h_T x_T
    · replace c_37 := i_nlt c_37
      refine tot_oif (iv_aA h_T k_l1 (by decide) (by decide) rfl rfl) ?_
      refine tot_oif (by rw [iv_len h_T k_l1 (by decide) (by decide) (rfl : shp 59 = (100, 4))]; exact i_inb (by omega) (by omega)) ?_
      refine tot_let (fun v_36 e_v_36 => ?_)
      have r_v_36 : 0 ≤ v_36.toInt ∧ v_36.toInt ≤ 11 := iv_int h_T k_l1 (by decide) (by decide) e_v_36 rfl
      refine cl_X4_sumIn_b24 l0 l1 l2 l3 l4 l5 T00 k_l0 k_l1 k_l2 k_l3 w_l3 (by omega) (by omega) ?_ 16384 T v_36 h_T x_T (by omega) (by omega)
      · intro T_55 h_T_55 x_T_55
        refine tot_let (fun v_56 e_v_56 => ?_)
        have q_v_56 := i_add e_v_56 (by omega) (by omega)
        exact ih T_55 v_56 h_T_55 x_T_55 (by omega) (by omega)
set_option maxHeartbeats 4000000 in
set_option maxRecDepth 10000 in
theorem cs_X4_sumIn {R : Nat → Nat} {B K1 K2 : Nat} (T : AT) (o : Nat) (a0 : Nat) (a1 : Nat) (a2 : Nat) (a3 : Int32) (h_T : IV R B K1 K2 T) (k_o : R o = 4) (k_a0 : R a0 = 59) (k_a1 : R a1 = 1) {r_a2 : Nat} (k_a2 : R a2 = r_a2) (w_a2 : isW r_a2 = true) (g0 : 0 ≤ a3.toInt ∧ a3.toInt ≤ 0) : Tot (g_X4_sumIn T o a0 a1 a2 a3) (fun T1 => IV R B K1 K2 T1 ∧ FW R [3202] T T1) := by
  have z0 : (1 : Int32).toInt = 1 := by decide
  have cc_101 : cnt 101 = 1 := rfl
  have cc_102 : cnt 102 = 12 := rfl
  have cc_103 : cnt 103 = 144 := rfl
  have cc_104 : cnt 104 = 2400 := rfl
  have cc_105 : cnt 105 = 7200 := rfl
  have x_T : FW R [3202] T T := FW.rf
  have j_a3 := i_any a3
  have c7_a2 := (isW_f w_a2).2.2.2.1
  unfold g_X4_sumIn
  refine tot_oif (w_oO h_T k_a2 w_a2) ?_
  refine tot_bind (c_clear (a0 := a3) h_T k_a2 w_a2 (by omega)) (fun T_1 d_T_1 => ?_)
  have h_T_1 : IV R B K1 K2 T_1 := d_T_1.1
  have y_T_1 : FW R [3202] T T_1 := (fw_of d_T_1.2)
  have x_T_1 := x_T.tr (y_T_1.w (by decide))
  refine tot_oif (iv_aA h_T_1 k_a0 (by decide) (by decide) rfl rfl) ?_
  refine tot_oif (by rw [iv_len h_T_1 k_a0 (by decide) (by decide) (rfl : shp 59 = (100, 4))]; exact i_inb (by omega) (by omega)) ?_
  refine tot_let (fun v_2 e_v_2 => ?_)
  have r_v_2 : 0 ≤ v_2.toInt ∧ v_2.toInt ≤ 11 := iv_int h_T_1 k_a0 (by decide) (by decide) e_v_2 rfl
  refine cl_X4_sumIn_b11 o a0 a1 a2 a3 T k_o k_a0 k_a1 k_a2 w_a2 (by omega) ?_ 16384 T_1 v_2 h_T_1 x_T_1 (by omega) (by omega)
  · intro T_57 h_T_57 x_T_57
    exact tot_some ⟨h_T_57, x_T_57⟩
set_option maxHeartbeats 4000000 in
set_option maxRecDepth 10000 in
theorem cs_X4_peakRanked {R : Nat → Nat} {B K1 K2 : Nat} (T : AT) (o : Nat) (a0 : Int32) (h_T : IV R B K1 K2 T) (k_o : R o = 4) (g0 : 0 ≤ a0.toInt ∧ a0.toInt ≤ 143) : Tot (g_X4_peakRanked T o a0) (fun r => r.2 = T ∧ (-1 ≤ r.1.toInt ∧ r.1.toInt ≤ 143)) := by
  have z0 : ((-1) : Int32).toInt = -1 := by decide
  have cc_101 : cnt 101 = 1 := rfl
  have cc_102 : cnt 102 = 12 := rfl
  have cc_103 : cnt 103 = 144 := rfl
  have cc_104 : cnt 104 = 2400 := rfl
  have cc_105 : cnt 105 = 7200 := rfl
  have j_a0 := i_any a0
  unfold g_X4_peakRanked
  refine tot_oif (iv_oO h_T k_o (by decide) (by decide) rfl) ?_
  refine tot_ref h_T k_o (by decide) (by decide) (r2 := 103) (rfl : rtg 4 5 = 103) (by decide) (fun n_1 k_n_1 e_n_1 => ?_)
  refine tot_oif (iv_oO h_T k_o (by decide) (by decide) rfl) ?_
  refine tot_let (fun v_2 e_v_2 => ?_)
  have r_v_2 : 0 ≤ v_2.toInt ∧ v_2.toInt ≤ 144 := iv_int h_T k_o (by decide) (by decide) e_v_2 rfl
  refine tot_oif (w_oO h_T k_n_1 (rfl : isW 103 = true)) ?_
  refine tot_bindq (R := fun r_3 : Int32 => r_3.toInt = -1 ∨ 0 ≤ r_3.toInt ∧ r_3.toInt < v_2.toInt) (c_ranked (a0 := v_2) (a1 := a0) k_n_1 (rfl : isW 103 = true) h_T (by omega)) (fun r_3 d_r_3 => ?_)
  replace d_r_3 : r_3.toInt = -1 ∨ 0 ≤ r_3.toInt ∧ r_3.toInt < v_2.toInt := d_r_3
  refine tot_if (fun c_7 => ?_) (fun c_7 => ?_)
  · replace c_7 := i_eq c_7
    unfold g_X4_peakRanked_b28
    exact tot_some ⟨rfl, (show (-1 ≤ ((-1) : Int32).toInt ∧ ((-1) : Int32).toInt ≤ 143) from by omega)⟩
  · replace c_7 := i_ne c_7
    refine tot_oif (iv_oO h_T k_o (by decide) (by decide) rfl) ?_
    refine tot_ref h_T k_o (by decide) (by decide) (r2 := 67) (rfl : rtg 4 4 = 67) (by decide) (fun n_5 k_n_5 e_n_5 => ?_)
    refine tot_oif (iv_aA h_T k_n_5 (by decide) (by decide) rfl rfl) ?_
    refine tot_oif (by rw [iv_len h_T k_n_5 (by decide) (by decide) (rfl : shp 67 = (100, 144))]; exact i_inb (by omega) (by omega)) ?_
    refine tot_let (fun v_6 e_v_6 => ?_)
    have r_v_6 : 0 ≤ v_6.toInt ∧ v_6.toInt ≤ 143 := iv_int h_T k_n_5 (by decide) (by decide) e_v_6 rfl
    unfold g_X4_peakRanked_b28
    exact tot_some ⟨rfl, (show (-1 ≤ v_6.toInt ∧ v_6.toInt ≤ 143) from by omega)⟩
set_option maxHeartbeats 4000000 in
set_option maxRecDepth 10000 in
theorem cl_X4_digit_b27 {R : Nat → Nat} {B K1 K2 : Nat} {Q : Int32 × AT → Prop} (l0 : Nat) (l2 : Nat) (T00 : AT) (k_l0 : R l0 = 4) {r_l2 : Nat} (k_l2 : R l2 = r_l2) (w_l2 : isW r_l2 = true) (g0 : 2 ≤ cnt r_l2) (hx0 : ∀ (T : AT) (l3 : Int32), (IV R B K1 K2 T) → (FW R [3202] T00 T) → (0 ≤ l3.toInt ∧ l3.toInt ≤ 9) → Tot (g_X4_digit_b84 T l3) Q) : ∀ (n : Nat) (T : AT) (l3 : Int32) (l4 : Int32), (IV R B K1 K2 T) → (FW R [3202] T00 T) → (0 ≤ l3.toInt ∧ l3.toInt ≤ 9) → (1 ≤ l4.toInt ∧ l4.toInt ≤ 11) → 11 - l4.toInt < (n : Int) → Tot (g_X4_digit_b27 n T l0 l2 l3 l4) Q := by
  have z0 : (9 : Int32).toInt = 9 := by decide
  have z1 : (0 : Int32).toInt = 0 := by decide
  have z2 : ((1 : Int32) : Int32).toInt = 1 := by decide
  have z3 : ((0 : Int32) : Int32).toInt = 0 := by decide
  have z4 : (Int32.ofInt (1) : Int32).toInt = 1 := by decide
  have cc_101 : cnt 101 = 1 := rfl
  have cc_102 : cnt 102 = 12 := rfl
  have cc_103 : cnt 103 = 144 := rfl
  have cc_104 : cnt 104 = 2400 := rfl
  have cc_105 : cnt 105 = 7200 := rfl
  have c7_l2 := (isW_f w_l2).2.2.2.1
  intro n
  induction n with
  | zero =>
    intro T l3 l4 h_T x_T g_l3 g_l4 hm
    exfalso
    omega
  | succ n ih =>
    intro T l3 l4 h_T x_T g_l3 g_l4 hm
    unfold g_X4_digit_b27
    refine tot_if (fun c_34 => ?_) (fun c_34 => ?_)
    · replace c_34 := i_lt c_34
      exact hx0 T l3 h_T x_T (by omega)
    · replace c_34 := i_nlt c_34
      refine tot_oif (iv_oO h_T k_l0 (by decide) (by decide) rfl) ?_
      refine tot_ref h_T k_l0 (by decide) (by decide) (r2 := 103) (rfl : rtg 4 1 = 103) (by decide) (fun n_27 k_n_27 e_n_27 => ?_)
      refine tot_oif (iv_oO h_T k_l0 (by decide) (by decide) rfl) ?_
      refine tot_let (fun v_28 e_v_28 => ?_)
      have r_v_28 : 0 ≤ v_28.toInt ∧ v_28.toInt ≤ 143 := iv_int h_T k_l0 (by decide) (by decide) e_v_28 rfl
      refine tot_oif (w_oO h_T k_n_27 (rfl : isW 103 = true)) ?_
      refine tot_bindq (R := fun r_29 : Int32 => r_29.toInt = 0 ∨ r_29.toInt = 1) (c_isZero (a0 := v_28) k_n_27 (rfl : isW 103 = true) h_T (by omega)) (fun r_29 d_r_29 => ?_)
      replace d_r_29 : r_29.toInt = 0 ∨ r_29.toInt = 1 := d_r_29
      refine tot_if (fun c_35 => ?_) (fun c_35 => ?_)
      · replace c_35 := i_eq c_35
        refine tot_oif (iv_oO h_T k_l0 (by decide) (by decide) rfl) ?_
        refine tot_ref1 e_n_27 ?_
        refine tot_oif (iv_oO h_T k_l0 (by decide) (by decide) rfl) ?_
        refine tot_let (fun v_32 e_v_32 => ?_)
        have u_v_32 : v_32.toInt = v_28.toInt := by rw [e_v_32, e_v_28]
        have r_v_32 : 0 ≤ v_32.toInt ∧ v_32.toInt ≤ 143 := iv_int h_T k_l0 (by decide) (by decide) e_v_32 rfl
        refine tot_oif (w_oO h_T k_l2 w_l2) ?_
        refine tot_bind (c_add (a0 := (1 : Int32)) (a2 := v_32) (a3 := (1 : Int32)) k_l2 w_l2 k_n_27 (rfl : isW 103 = true) h_T (by omega) (by omega)) (fun T_33 d_T_33 => ?_)
        have h_T_33 : IV R B K1 K2 T_33 := d_T_33.1
        have y_T_33 : FW R [3202] T T_33 := (fw_wx d_T_33.2 k_l2 w_l2 (by decide))
        have x_T_33 := x_T.tr (y_T_33.w (by decide))
        unfold g_X4_digit_b62
        refine tot_oif (w_oO h_T_33 k_l2 w_l2) ?_
        refine tot_bindq (R := fun r_36 : Int32 => True) (c_compare (a0 := (0 : Int32)) (a1 := (1 : Int32)) k_l2 w_l2 h_T_33 (by omega) (by omega)) (fun r_36 d_r_36 => ?_)
        have r_r_36 := i_any r_36
        refine tot_if (fun c_38 => ?_) (fun c_38 => ?_)
        · replace c_38 := i_lt c_38
          unfold g_X4_digit_b77
          refine tot_let (fun v_39 e_v_39 => ?_)
          have q_v_39 := i_add e_v_39 (by omega) (by omega)
          exact ih T_33 l3 v_39 h_T_33 x_T_33 (by omega) (by omega) (by omega)
        · replace c_38 := i_nlt c_38
          unfold g_X4_digit_b77
          refine tot_let (fun v_40 e_v_40 => ?_)
          have q_v_40 := i_add e_v_40 (by omega) (by omega)
          exact ih T_33 l4 v_40 h_T_33 x_T_33 (by omega) (by omega) (by omega)
      · replace c_35 := i_ne c_35
        exact hx0 T l3 h_T x_T (by omega)
set_option maxHeartbeats 4000000 in
set_option maxRecDepth 10000 in
theorem cs_X4_digit {R : Nat → Nat} {B K1 K2 : Nat} (T : AT) (o : Nat) (a0 : Int32) (a1 : Nat) (h_T : IV R B K1 K2 T) (k_o : R o = 4) {r_a1 : Nat} (k_a1 : R a1 = r_a1) (w_a1 : isW r_a1 = true) (g0 : 0 ≤ a0.toInt ∧ a0.toInt ≤ 143) (g1 : 2 ≤ cnt r_a1) : Tot (g_X4_digit T o a0 a1) (fun r => (IV R B K1 K2 r.2 ∧ FW R [3202] T r.2) ∧ (0 ≤ r.1.toInt ∧ r.1.toInt ≤ 9)) := by
  have z0 : ((0 : Int32) : Int32).toInt = 0 := by decide
  have z1 : ((1 : Int32) : Int32).toInt = 1 := by decide
  have z2 : ((9 : Int32) : Int32).toInt = 9 := by decide
  have z3 : (0 : Int32).toInt = 0 := by decide
  have z4 : (1 : Int32).toInt = 1 := by decide
  have cc_101 : cnt 101 = 1 := rfl
  have cc_102 : cnt 102 = 12 := rfl
  have cc_103 : cnt 103 = 144 := rfl
  have cc_104 : cnt 104 = 2400 := rfl
  have cc_105 : cnt 105 = 7200 := rfl
  have x_T : FW R [3202] T T := FW.rf
  have j_a0 := i_any a0
  have c7_a1 := (isW_f w_a1).2.2.2.1
  unfold g_X4_digit
  refine tot_oif (w_oO h_T k_a1 w_a1) ?_
  refine tot_bind (c_clear (a0 := (0 : Int32)) h_T k_a1 w_a1 (by omega)) (fun T_1 d_T_1 => ?_)
  have h_T_1 : IV R B K1 K2 T_1 := d_T_1.1
  have y_T_1 : FW R [3202] T T_1 := (fw_of d_T_1.2)
  have x_T_1 := x_T.tr (y_T_1.w (by decide))
  refine tot_oif (w_oO h_T_1 k_a1 w_a1) ?_
  refine tot_bind (c_clear (a0 := (1 : Int32)) h_T_1 k_a1 w_a1 (by omega)) (fun T_2 d_T_2 => ?_)
  have h_T_2 : IV R B K1 K2 T_2 := d_T_2.1
  have y_T_2 : FW R [3202] T_1 T_2 := (fw_of d_T_2.2)
  have x_T_2 := x_T_1.tr (y_T_2.w (by decide))
  refine tot_oif (iv_oO h_T_2 k_o (by decide) (by decide) rfl) ?_
  refine tot_ref h_T_2 k_o (by decide) (by decide) (r2 := 103) (rfl : rtg 4 1 = 103) (by decide) (fun n_3 k_n_3 e_n_3 => ?_)
  refine tot_oif (w_oO h_T_2 k_a1 w_a1) ?_
  refine tot_bind (c_add (a0 := (0 : Int32)) (a2 := a0) (a3 := (9 : Int32)) k_a1 w_a1 k_n_3 (rfl : isW 103 = true) h_T_2 (by omega) (by omega)) (fun T_4 d_T_4 => ?_)
  have h_T_4 : IV R B K1 K2 T_4 := d_T_4.1
  have y_T_4 : FW R [3202] T_2 T_4 := (fw_wx d_T_4.2 k_a1 w_a1 (by decide))
  have x_T_4 := x_T_2.tr (y_T_4.w (by decide))
  unfold g_X4_digit_b22
  refine cl_X4_digit_b27 o a1 T k_o k_a1 w_a1 (by omega) ?_ 16384 T_4 0 1 h_T_4 x_T_4 (by omega) (by omega) (by omega)
  · intro T_41 l_42 h_T_41 x_T_41 g_l_42
    unfold g_X4_digit_b84
    exact tot_some ⟨⟨h_T_41, x_T_41⟩, (show (0 ≤ l_42.toInt ∧ l_42.toInt ≤ 9) from by omega)⟩
set_option maxHeartbeats 4000000 in
set_option maxRecDepth 10000 in
theorem cl_J7_fill_53178_b5 {R : Nat → Nat} {B K1 K2 : Nat} {Q : AT → Prop} (l0 : Nat) (l1 : Int32) (l3 : Int32) (T00 : AT) (k_l0 : R l0 = 46) (g0 : 0 ≤ l1.toInt ∧ l1.toInt ≤ 0) (g1 : 200 ≤ l3.toInt ∧ l3.toInt ≤ 200) (hx0 : ∀ (T : AT), (IV R B K1 K2 T) → (FW R [1472] T00 T) → Tot (some (T)) Q) : ∀ (n : Nat) (T : AT) (l2 : Int32), (IV R B K1 K2 T) → (FW R [1472] T00 T) → (0 ≤ l2.toInt ∧ l2.toInt ≤ 200) → 200 - l2.toInt < (n : Int) → Tot (g_J7_fill_53178_b5 n T l0 l1 l2 l3) Q := by
  have z0 : (Int32.ofInt (1) : Int32).toInt = 1 := by decide
  have cc_101 : cnt 101 = 1 := rfl
  have cc_102 : cnt 102 = 12 := rfl
  have cc_103 : cnt 103 = 144 := rfl
  have cc_104 : cnt 104 = 2400 := rfl
  have cc_105 : cnt 105 = 7200 := rfl
  have j_l1 := i_any l1
  have j_l3 := i_any l3
  intro n
  induction n with
  | zero =>
    intro T l2 h_T x_T g_l2 hm
    exfalso
    omega
  | succ n ih =>
    intro T l2 h_T x_T g_l2 hm
    unfold g_J7_fill_53178_b5
    refine tot_if (fun c_8 => ?_) (fun c_8 => ?_)
    · replace c_8 := i_le c_8
      exact hx0 T h_T x_T
    · replace c_8 := i_nle c_8
      refine tot_oif (iv_aA h_T k_l0 (by decide) (by decide) rfl rfl) ?_
      refine tot_oif (by rw [iv_len h_T k_l0 (by decide) (by decide) (rfl : shp 46 = (100, 200))]; exact i_inb (by omega) (by omega)) ?_
      refine tot_let (fun T_6 e_T_6 => ?_)
      have ja_T_6 := i_any l1
      have h_T_6 : IV R B K1 K2 T_6 := by rw [e_T_6]; exact iv_uI (a := -2147483648) (b := 2147483647) h_T k_l0 (by decide) (by decide) rfl (by omega) (.inl rfl)
      have x_T_6 := x_T.tr (fw_uA e_T_6 k_l0 rfl rfl (by decide))
      refine tot_let (fun v_7 e_v_7 => ?_)
      have q_v_7 := i_add e_v_7 (by omega) (by omega)
      exact ih T_6 v_7 h_T_6 x_T_6 (by omega) (by omega)
set_option maxHeartbeats 4000000 in
set_option maxRecDepth 10000 in
theorem cs_J7_fill_53178 {R : Nat → Nat} {B K1 K2 : Nat} (T : AT) (a0 : Nat) (a1 : Int32) (h_T : IV R B K1 K2 T) (k_a0 : R a0 = 46) (g0 : 0 ≤ a1.toInt ∧ a1.toInt ≤ 0) : Tot (g_J7_fill_53178 T a0 a1) (fun T1 => IV R B K1 K2 T1 ∧ FW R [1472] T T1) := by
  have z0 : (0 : Int32).toInt = 0 := by decide
  have cc_101 : cnt 101 = 1 := rfl
  have cc_102 : cnt 102 = 12 := rfl
  have cc_103 : cnt 103 = 144 := rfl
  have cc_104 : cnt 104 = 2400 := rfl
  have cc_105 : cnt 105 = 7200 := rfl
  have x_T : FW R [1472] T T := FW.rf
  have j_a1 := i_any a1
  unfold g_J7_fill_53178
  refine tot_oif (iv_aA h_T k_a0 (by decide) (by decide) rfl rfl) ?_
  refine tot_let (fun v_1 e_v_1 => ?_)
  have q_v_1 : v_1.toInt = 200 := by rw [e_v_1, iv_len h_T k_a0 (by decide) (by decide) (rfl : shp 46 = (100, 200))]; decide
  refine cl_J7_fill_53178_b5 a0 a1 v_1 T k_a0 (by omega) (by omega) ?_ 16384 T 0 h_T x_T (by omega) (by omega)
  · intro T_9 h_T_9 x_T_9
    exact tot_some ⟨h_T_9, x_T_9⟩
set_option maxHeartbeats 4000000 in
set_option maxRecDepth 10000 in
theorem cl_X5_silence_b2 {R : Nat → Nat} {B K1 K2 : Nat} {Q : AT → Prop} (l0 : Nat) (T00 : AT) (k_l0 : R l0 = 5) (hx0 : ∀ (T : AT), (IV R B K1 K2 T) → (FW R [1472] T00 T) → Tot (some (T)) Q) : ∀ (n : Nat) (T : AT) (l1 : Int32), (IV R B K1 K2 T) → (FW R [1472] T00 T) → (0 ≤ l1.toInt ∧ l1.toInt ≤ 12) → 12 - l1.toInt < (n : Int) → Tot (g_X5_silence_b2 n T l0 l1) Q := by
  have z0 : (12 : Int32).toInt = 12 := by decide
  have z1 : ((0 : Int32) : Int32).toInt = 0 := by decide
  have z2 : (Int32.ofInt (1) : Int32).toInt = 1 := by decide
  have cc_101 : cnt 101 = 1 := rfl
  have cc_102 : cnt 102 = 12 := rfl
  have cc_103 : cnt 103 = 144 := rfl
  have cc_104 : cnt 104 = 2400 := rfl
  have cc_105 : cnt 105 = 7200 := rfl
  intro n
  induction n with
  | zero =>
    intro T l1 h_T x_T g_l1 hm
    exfalso
    omega
  | succ n ih =>
    intro T l1 h_T x_T g_l1 hm
    unfold g_X5_silence_b2
    refine tot_if (fun c_13 => ?_) (fun c_13 => ?_)
    · replace c_13 := i_le c_13
      exact hx0 T h_T x_T
    · replace c_13 := i_nle c_13
      refine tot_oif (iv_oO h_T k_l0 (by decide) (by decide) rfl) ?_
      refine tot_ref h_T k_l0 (by decide) (by decide) (r2 := 45) (rfl : rtg 5 0 = 45) (by decide) (fun n_9 k_n_9 e_n_9 => ?_)
      refine tot_oif (iv_aA h_T k_n_9 (by decide) (by decide) rfl rfl) ?_
      refine tot_oif (by rw [iv_len h_T k_n_9 (by decide) (by decide) (rfl : shp 45 = (106, 12))]; exact i_inb (by omega) (by omega)) ?_
      refine tot_ref h_T k_n_9 (by decide) (by decide) (r2 := 46) (rt_45 (by omega) (by omega)) (by decide) (fun n_10 k_n_10 e_n_10 => ?_)
      refine tot_bind (cs_J7_fill_53178 T n_10 (0 : Int32) h_T k_n_10 (by omega)) (fun T_11 d_T_11 => ?_)
      have h_T_11 : IV R B K1 K2 T_11 := d_T_11.1
      have y_T_11 : FW R [1472] T T_11 := d_T_11.2
      have x_T_11 := x_T.tr (y_T_11.w (by decide))
      refine tot_let (fun v_12 e_v_12 => ?_)
      have q_v_12 := i_add e_v_12 (by omega) (by omega)
      exact ih T_11 v_12 h_T_11 x_T_11 (by omega) (by omega)
set_option maxHeartbeats 4000000 in
set_option maxRecDepth 10000 in
theorem cs_X5_silence {R : Nat → Nat} {B K1 K2 : Nat} (T : AT) (o : Nat) (h_T : IV R B K1 K2 T) (k_o : R o = 5) : Tot (g_X5_silence T o) (fun T1 => IV R B K1 K2 T1 ∧ FW R [1472] T T1) := by
  have z0 : (0 : Int32).toInt = 0 := by decide
  have cc_101 : cnt 101 = 1 := rfl
  have cc_102 : cnt 102 = 12 := rfl
  have cc_103 : cnt 103 = 144 := rfl
  have cc_104 : cnt 104 = 2400 := rfl
  have cc_105 : cnt 105 = 7200 := rfl
  have x_T : FW R [1472] T T := FW.rf
  unfold g_X5_silence
  refine cl_X5_silence_b2 o T k_o ?_ 16384 T 0 h_T x_T (by omega) (by omega)
  · intro T_14 h_T_14 x_T_14
    exact tot_some ⟨h_T_14, x_T_14⟩
set_option maxHeartbeats 4000000 in
set_option maxRecDepth 10000 in
theorem cs_X5_raw {R : Nat → Nat} {B K1 K2 : Nat} (T : AT) (o : Nat) (a0 : Nat) (a1 : Int32) (a2 : Int32) (h_T : IV R B K1 K2 T) (k_o : R o = 5) (k_a0 : R a0 = 6) (g0 : 0 ≤ a1.toInt ∧ a1.toInt ≤ 11) (g1 : -4 ≤ a2.toInt ∧ a2.toInt ≤ 199) : Tot (g_X5_raw T o a0 a1 a2) (fun r => r.2 = T ∧ True) := by
  have z0 : (0 : Int32).toInt = 0 := by decide
  have z1 : (200 : Int32).toInt = 200 := by decide
  have cc_101 : cnt 101 = 1 := rfl
  have cc_102 : cnt 102 = 12 := rfl
  have cc_103 : cnt 103 = 144 := rfl
  have cc_104 : cnt 104 = 2400 := rfl
  have cc_105 : cnt 105 = 7200 := rfl
  have j_a1 := i_any a1
  have j_a2 := i_any a2
  unfold g_X5_raw
  refine tot_oif (iv_oO h_T k_a0 (by decide) (by decide) rfl) ?_
  refine tot_ref h_T k_a0 (by decide) (by decide) (r2 := 53) (rfl : rtg 6 4 = 53) (by decide) (fun n_1 k_n_1 e_n_1 => ?_)
  refine tot_oif (iv_aA h_T k_n_1 (by decide) (by decide) rfl rfl) ?_
  refine tot_oif (by rw [iv_len h_T k_n_1 (by decide) (by decide) (rfl : shp 53 = (103, 12))]; exact i_inb (by omega) (by omega)) ?_
  refine tot_ref h_T k_n_1 (by decide) (by decide) (r2 := 2) (rt_53 (by omega) (by omega)) (by decide) (fun n_2 k_n_2 e_n_2 => ?_)
  refine tot_oif (iv_oO h_T k_n_2 (by decide) (by decide) rfl) ?_
  refine tot_let (fun v_3 e_v_3 => ?_)
  have r_v_3 : 0 ≤ v_3.toInt ∧ v_3.toInt ≤ 31 := iv_int h_T k_n_2 (by decide) (by decide) e_v_3 rfl
  refine tot_let (fun v_4 e_v_4 => ?_)
  have q_v_4 := i_sub e_v_4 (by omega) (by omega)
  refine tot_if (fun c_12 => ?_) (fun c_12 => ?_)
  · replace c_12 := i_lt c_12
    unfold g_X5_raw_b48
    unfold g_X5_raw_b49
    exact tot_some ⟨rfl, trivial⟩
  · replace c_12 := i_nlt c_12
    refine tot_if (fun c_13 => ?_) (fun c_13 => ?_)
    · replace c_13 := i_le c_13
      exfalso
      omega
    · replace c_13 := i_nle c_13
      refine tot_oif (iv_oO h_T k_a0 (by decide) (by decide) rfl) ?_
      refine tot_ref1 e_n_1 ?_
      refine tot_oif (iv_aA h_T k_n_1 (by decide) (by decide) rfl rfl) ?_
      refine tot_oif (by rw [iv_len h_T k_n_1 (by decide) (by decide) (rfl : shp 53 = (103, 12))]; exact i_inb (by omega) (by omega)) ?_
      refine tot_ref1 e_n_2 ?_
      refine tot_oif (iv_oO h_T k_n_2 (by decide) (by decide) rfl) ?_
      refine tot_let (fun v_7 e_v_7 => ?_)
      have r_v_7 : 0 ≤ v_7.toInt ∧ v_7.toInt ≤ 9 := iv_int h_T k_n_2 (by decide) (by decide) e_v_7 rfl
      refine tot_oif (iv_oO h_T k_o (by decide) (by decide) rfl) ?_
      refine tot_ref h_T k_o (by decide) (by decide) (r2 := 45) (rfl : rtg 5 0 = 45) (by decide) (fun n_8 k_n_8 e_n_8 => ?_)
      refine tot_oif (iv_aA h_T k_n_8 (by decide) (by decide) rfl rfl) ?_
      refine tot_oif (by rw [iv_len h_T k_n_8 (by decide) (by decide) (rfl : shp 45 = (106, 12))]; exact i_inb (by omega) (by omega)) ?_
      refine tot_ref h_T k_n_8 (by decide) (by decide) (r2 := 46) (rt_45 (by omega) (by omega)) (by decide) (fun n_9 k_n_9 e_n_9 => ?_)
      refine tot_oif (iv_aA h_T k_n_9 (by decide) (by decide) rfl rfl) ?_
      refine tot_oif (by rw [iv_len h_T k_n_9 (by decide) (by decide) (rfl : shp 46 = (100, 200))]; exact i_inb (by omega) (by omega)) ?_
      refine tot_let (fun v_10 e_v_10 => ?_)
      have r_v_10 := i_any v_10
      refine tot_let (fun v_11 e_v_11 => ?_)
      have r_v_11 := i_any v_11
      unfold g_X5_raw_b49
      exact tot_some ⟨rfl, trivial⟩
set_option maxHeartbeats 4000000 in
set_option maxRecDepth 10000 in
theorem cl_X5_filtered_b6 {R : Nat → Nat} {B K1 K2 : Nat} {Q : Int32 × AT → Prop} (T : AT) (l0 : Nat) (l1 : Nat) (l2 : Int32) (l3 : Int32) (h_T : IV R B K1 K2 T) (k_l0 : R l0 = 5) (k_l1 : R l1 = 6) (g0 : 0 ≤ l2.toInt ∧ l2.toInt ≤ 11) (g1 : 0 ≤ l3.toInt ∧ l3.toInt ≤ 199) (hx0 : ∀ (l4 : Int32), Tot (some (l4, T)) Q) : ∀ (n : Nat) (l4 : Int32) (l5 : Int32), (0 ≤ l5.toInt ∧ l5.toInt ≤ 5) → 5 - l5.toInt < (n : Int) → Tot (g_X5_filtered_b6 n T l0 l1 l2 l3 l4 l5) Q := by
  have z0 : (Int32.ofInt (1) : Int32).toInt = 1 := by decide
  have cc_101 : cnt 101 = 1 := rfl
  have cc_102 : cnt 102 = 12 := rfl
  have cc_103 : cnt 103 = 144 := rfl
  have cc_104 : cnt 104 = 2400 := rfl
  have cc_105 : cnt 105 = 7200 := rfl
  have j_l2 := i_any l2
  have j_l3 := i_any l3
  intro n
  induction n with
  | zero =>
    intro l4 l5 g_l5 hm
    exfalso
    omega
  | succ n ih =>
    intro l4 l5 g_l5 hm
    unfold g_X5_filtered_b6
    refine tot_oif (iv_oO h_T k_l1 (by decide) (by decide) rfl) ?_
    refine tot_let (fun v_19 e_v_19 => ?_)
    have r_v_19 : 0 ≤ v_19.toInt ∧ v_19.toInt ≤ 5 := iv_int h_T k_l1 (by decide) (by decide) e_v_19 rfl
    refine tot_if (fun c_28 => ?_) (fun c_28 => ?_)
    · replace c_28 := i_le c_28
      exact hx0 l4 
    · replace c_28 := i_nle c_28
      refine tot_oif (iv_oO h_T k_l1 (by decide) (by decide) rfl) ?_
      refine tot_ref h_T k_l1 (by decide) (by decide) (r2 := 57) (rfl : rtg 6 13 = 57) (by decide) (fun n_20 k_n_20 e_n_20 => ?_)
      refine tot_oif (iv_aA h_T k_n_20 (by decide) (by decide) rfl rfl) ?_
      refine tot_oif (by rw [iv_len h_T k_n_20 (by decide) (by decide) (rfl : shp 57 = (100, 5))]; exact i_inb (by omega) (by omega)) ?_
      refine tot_let (fun v_21 e_v_21 => ?_)
      have r_v_21 : -9 ≤ v_21.toInt ∧ v_21.toInt ≤ 9 := iv_int h_T k_n_20 (by decide) (by decide) e_v_21 rfl
      refine tot_let (fun v_22 e_v_22 => ?_)
      have q_v_22 := i_sub e_v_22 (by omega) (by omega)
      refine tot_oif (iv_oO h_T k_l0 (by decide) (by decide) rfl) ?_
      refine tot_bindq (R := fun r_23 : Int32 => True) (cs_X5_raw T l0 l1 l2 v_22 h_T k_l0 k_l1 (by omega) (by omega)) (fun r_23 d_r_23 => ?_)
      have r_r_23 := i_any r_23
      refine tot_let (fun v_25 e_v_25 => ?_)
      have r_v_25 := i_any v_25
      refine tot_let (fun v_26 e_v_26 => ?_)
      have r_v_26 := i_any v_26
      refine tot_let (fun v_27 e_v_27 => ?_)
      have q_v_27 := i_add e_v_27 (by omega) (by omega)
      exact ih v_26 v_27 (by omega) (by omega)
set_option maxHeartbeats 4000000 in
set_option maxRecDepth 10000 in
theorem cs_X5_filtered {R : Nat → Nat} {B K1 K2 : Nat} (T : AT) (o : Nat) (a0 : Nat) (a1 : Int32) (a2 : Int32) (h_T : IV R B K1 K2 T) (k_o : R o = 5) (k_a0 : R a0 = 6) (g0 : 0 ≤ a1.toInt ∧ a1.toInt ≤ 11) (g1 : 0 ≤ a2.toInt ∧ a2.toInt ≤ 199) : Tot (g_X5_filtered T o a0 a1 a2) (fun r => r.2 = T ∧ True) := by
  have z0 : (0 : Int32).toInt = 0 := by decide
  have cc_101 : cnt 101 = 1 := rfl
  have cc_102 : cnt 102 = 12 := rfl
  have cc_103 : cnt 103 = 144 := rfl
  have cc_104 : cnt 104 = 2400 := rfl
  have cc_105 : cnt 105 = 7200 := rfl
  have j_a1 := i_any a1
  have j_a2 := i_any a2
  unfold g_X5_filtered
  refine cl_X5_filtered_b6 T o a0 a1 a2 h_T k_o k_a0 (by omega) (by omega) ?_ 16384 0 0 (by omega) (by omega)
  · intro l_29
    have j_l_29 := i_any l_29
    exact tot_some ⟨rfl, trivial⟩
set_option maxHeartbeats 4000000 in
set_option maxRecDepth 10000 in
theorem cl_X5_finish_b20 {R : Nat → Nat} {B K1 K2 : Nat} {Q : AT → Prop} {k9 : AT → Nat → Nat → Nat → Int32 → Option (AT)} (l0 : Nat) (l1 : Nat) (l2 : Nat) (l3 : Int32) (T00 : AT) (k_l0 : R l0 = 5) (k_l1 : R l1 = 6) (k_l2 : R l2 = 8) (g0 : 0 ≤ l3.toInt ∧ l3.toInt ≤ 11) (hx0 : ∀ (T : AT), (IV R B K1 K2 T) → (FW R [258, 3202] T00 T) → Tot (elet (l3 + Int32.ofInt (1)) fun v_115 => k9 T l0 l1 l2 v_115) Q) : ∀ (n : Nat) (T : AT) (l4 : Int32), (IV R B K1 K2 T) → (FW R [258, 3202] T00 T) → (0 ≤ l4.toInt ∧ l4.toInt ≤ 200) → 200 - l4.toInt < (n : Int) → Tot (g_X5_finish_b20 k9 n T l0 l1 l2 l3 l4) Q := by
  have z0 : (0 : Int32).toInt = 0 := by decide
  have z1 : (Int32.ofInt (1) : Int32).toInt = 1 := by decide
  have cc_101 : cnt 101 = 1 := rfl
  have cc_102 : cnt 102 = 12 := rfl
  have cc_103 : cnt 103 = 144 := rfl
  have cc_104 : cnt 104 = 2400 := rfl
  have cc_105 : cnt 105 = 7200 := rfl
  have j_l3 := i_any l3
  intro n
  induction n with
  | zero =>
    intro T l4 h_T x_T g_l4 hm
    exfalso
    omega
  | succ n ih =>
    intro T l4 h_T x_T g_l4 hm
    unfold g_X5_finish_b20
    refine tot_oif (iv_oO h_T k_l1 (by decide) (by decide) rfl) ?_
    refine tot_let (fun v_114 e_v_114 => ?_)
    have r_v_114 : 0 ≤ v_114.toInt ∧ v_114.toInt ≤ 200 := iv_int h_T k_l1 (by decide) (by decide) e_v_114 rfl
    refine tot_if (fun c_121 => ?_) (fun c_121 => ?_)
    · replace c_121 := i_le c_121
      exact hx0 T h_T x_T
    · replace c_121 := i_nle c_121
      refine tot_oif (iv_oO h_T k_l1 (by decide) (by decide) rfl) ?_
      refine tot_let (fun v_116 e_v_116 => ?_)
      have r_v_116 : 0 ≤ v_116.toInt ∧ v_116.toInt ≤ 5 := iv_int h_T k_l1 (by decide) (by decide) e_v_116 rfl
      refine tot_if (fun c_122 => ?_) (fun c_122 => ?_)
      · replace c_122 := i_le c_122
        refine tot_oif (iv_oO h_T k_l0 (by decide) (by decide) rfl) ?_
        refine tot_bindq (R := fun r_117 : Int32 => True) (cs_X5_raw T l0 l1 l3 l4 h_T k_l0 k_l1 (by omega) (by omega)) (fun r_117 d_r_117 => ?_)
        have r_r_117 := i_any r_117
        unfold g_X5_finish_b55
        refine tot_oif (iv_oO h_T k_l2 (by decide) (by decide) rfl) ?_
        refine tot_ref h_T k_l2 (by decide) (by decide) (r2 := 104) (rfl : rtg 8 10 = 104) (by decide) (fun n_123 k_n_123 e_n_123 => ?_)
        refine tot_bind (cs_X8_placeOf l3 l4 (by omega) (by omega)) (fun r_124 d_r_124 => ?_)
        replace d_r_124 : (0 ≤ r_124.toInt ∧ r_124.toInt ≤ 2399) := d_r_124
        refine tot_oif (iv_oO h_T k_l1 (by decide) (by decide) rfl) ?_
        refine tot_let (fun v_125 e_v_125 => ?_)
        have r_v_125 : 0 ≤ v_125.toInt ∧ v_125.toInt ≤ 9999 := iv_int h_T k_l1 (by decide) (by decide) e_v_125 rfl
        refine tot_let (fun v_126 e_v_126 => ?_)
        have q_v_126 := i_neg e_v_126 (by omega)
        refine tot_oif (iv_oO h_T k_l1 (by decide) (by decide) rfl) ?_
        refine tot_let (fun v_127 e_v_127 => ?_)
        have u_v_127 : v_127.toInt = v_125.toInt := by rw [e_v_127, e_v_125]
        have r_v_127 : 0 ≤ v_127.toInt ∧ v_127.toInt ≤ 9999 := iv_int h_T k_l1 (by decide) (by decide) e_v_127 rfl
        refine tot_let (fun v_128 e_v_128 => ?_)
        have q_v_128 := i_ilt e_v_128
        refine tot_let (fun v_129 e_v_129 => ?_)
        have q_v_129 := i_ilt e_v_129
        refine tot_oif (w_oO h_T k_n_123 (rfl : isW 104 = true)) ?_
        refine tot_bind (c_putN (a0 := r_124) (a1 := v_129) k_n_123 (rfl : isW 104 = true) h_T (by omega)) (fun T_130 d_T_130 => ?_)
        have h_T_130 : IV R B K1 K2 T_130 := d_T_130.1
        have y_T_130 : FW R [3202] T T_130 := (fw_wx d_T_130.2 k_n_123 (rfl : isW 104 = true) (by decide))
        have x_T_130 := x_T.tr (y_T_130.w (by decide))
        unfold g_X5_finish_b87
        refine tot_let (fun v_131 e_v_131 => ?_)
        have q_v_131 := i_add e_v_131 (by omega) (by omega)
        exact ih T_130 v_131 h_T_130 x_T_130 (by omega) (by omega)
      · replace c_122 := i_nle c_122
        refine tot_oif (iv_oO h_T k_l0 (by decide) (by decide) rfl) ?_
        refine tot_bindq (R := fun r_119 : Int32 => True) (cs_X5_filtered T l0 l1 l3 l4 h_T k_l0 k_l1 (by omega) (by omega)) (fun r_119 d_r_119 => ?_)
        have r_r_119 := i_any r_119
        unfold g_X5_finish_b55
        refine tot_oif (iv_oO h_T k_l2 (by decide) (by decide) rfl) ?_
        refine tot_ref h_T k_l2 (by decide) (by decide) (r2 := 104) (rfl : rtg 8 10 = 104) (by decide) (fun n_132 k_n_132 e_n_132 => ?_)
        refine tot_bind (cs_X8_placeOf l3 l4 (by omega) (by omega)) (fun r_133 d_r_133 => ?_)
        replace d_r_133 : (0 ≤ r_133.toInt ∧ r_133.toInt ≤ 2399) := d_r_133
        refine tot_oif (iv_oO h_T k_l1 (by decide) (by decide) rfl) ?_
        refine tot_let (fun v_134 e_v_134 => ?_)
        have r_v_134 : 0 ≤ v_134.toInt ∧ v_134.toInt ≤ 9999 := iv_int h_T k_l1 (by decide) (by decide) e_v_134 rfl
        refine tot_let (fun v_135 e_v_135 => ?_)
        have q_v_135 := i_neg e_v_135 (by omega)
        refine tot_oif (iv_oO h_T k_l1 (by decide) (by decide) rfl) ?_
        refine tot_let (fun v_136 e_v_136 => ?_)
        have u_v_136 : v_136.toInt = v_134.toInt := by rw [e_v_136, e_v_134]
        have r_v_136 : 0 ≤ v_136.toInt ∧ v_136.toInt ≤ 9999 := iv_int h_T k_l1 (by decide) (by decide) e_v_136 rfl
        refine tot_let (fun v_137 e_v_137 => ?_)
        have q_v_137 := i_ilt e_v_137
        refine tot_let (fun v_138 e_v_138 => ?_)
        have q_v_138 := i_ilt e_v_138
        refine tot_oif (w_oO h_T k_n_132 (rfl : isW 104 = true)) ?_
        refine tot_bind (c_putN (a0 := r_133) (a1 := v_138) k_n_132 (rfl : isW 104 = true) h_T (by omega)) (fun T_139 d_T_139 => ?_)
        have h_T_139 : IV R B K1 K2 T_139 := d_T_139.1
        have y_T_139 : FW R [3202] T T_139 := (fw_wx d_T_139.2 k_n_132 (rfl : isW 104 = true) (by decide))
        have x_T_139 := x_T.tr (y_T_139.w (by decide))
        unfold g_X5_finish_b87
        refine tot_let (fun v_140 e_v_140 => ?_)
        have q_v_140 := i_add e_v_140 (by omega) (by omega)
        exact ih T_139 v_140 h_T_139 x_T_139 (by omega) (by omega)
set_option maxHeartbeats 4000000 in
set_option maxRecDepth 10000 in
theorem cl_X5_finish_b9 {R : Nat → Nat} {B K1 K2 : Nat} {Q : AT → Prop} (l0 : Nat) (l1 : Nat) (l2 : Nat) (T00 : AT) (k_l0 : R l0 = 5) (k_l1 : R l1 = 6) (k_l2 : R l2 = 8) (hx0 : ∀ (T : AT), (IV R B K1 K2 T) → (FW R [258, 3202] T00 T) → Tot (oif (oO T l2 8 = true) <| elet (uI T l2 2 0) fun T_87 => some (T_87)) Q) : ∀ (n : Nat) (T : AT) (l3 : Int32), (IV R B K1 K2 T) → (FW R [258, 3202] T00 T) → (0 ≤ l3.toInt ∧ l3.toInt ≤ 12) → 12 - l3.toInt < (n : Int) → Tot (g_X5_finish_b9 n T l0 l1 l2 l3) Q := by
  have z0 : (0 : Int32).toInt = 0 := by decide
  have z1 : (Int32.ofInt (1) : Int32).toInt = 1 := by decide
  have cc_101 : cnt 101 = 1 := rfl
  have cc_102 : cnt 102 = 12 := rfl
  have cc_103 : cnt 103 = 144 := rfl
  have cc_104 : cnt 104 = 2400 := rfl
  have cc_105 : cnt 105 = 7200 := rfl
  intro n
  induction n with
  | zero =>
    intro T l3 h_T x_T g_l3 hm
    exfalso
    omega
  | succ n ih =>
    intro T l3 h_T x_T g_l3 hm
    unfold g_X5_finish_b9
    refine tot_oif (iv_oO h_T k_l1 (by decide) (by decide) rfl) ?_
    refine tot_let (fun v_86 e_v_86 => ?_)
    have r_v_86 : 0 ≤ v_86.toInt ∧ v_86.toInt ≤ 12 := iv_int h_T k_l1 (by decide) (by decide) e_v_86 rfl
    refine tot_if (fun c_88 => ?_) (fun c_88 => ?_)
    · replace c_88 := i_le c_88
      exact hx0 T h_T x_T
    · replace c_88 := i_nle c_88
      refine cl_X5_finish_b20 l0 l1 l2 l3 T00 k_l0 k_l1 k_l2 (by omega) ?_ 16384 T 0 h_T x_T (by omega) (by omega)
      · intro T_141 h_T_141 x_T_141
        refine tot_let (fun v_142 e_v_142 => ?_)
        have q_v_142 := i_add e_v_142 (by omega) (by omega)
        exact ih T_141 v_142 h_T_141 x_T_141 (by omega) (by omega)
set_option maxHeartbeats 4000000 in
set_option maxRecDepth 10000 in
theorem cs_X5_finish {R : Nat → Nat} {B K1 K2 : Nat} (T : AT) (o : Nat) (a0 : Nat) (a1 : Nat) (h_T : IV R B K1 K2 T) (k_o : R o = 5) (k_a0 : R a0 = 6) (k_a1 : R a1 = 8) : Tot (g_X5_finish T o a0 a1) (fun T1 => IV R B K1 K2 T1 ∧ FW R [258, 3202] T T1) := by
  have z0 : (0 : Int32).toInt = 0 := by decide
  have cc_101 : cnt 101 = 1 := rfl
  have cc_102 : cnt 102 = 12 := rfl
  have cc_103 : cnt 103 = 144 := rfl
  have cc_104 : cnt 104 = 2400 := rfl
  have cc_105 : cnt 105 = 7200 := rfl
  have x_T : FW R [258, 3202] T T := FW.rf
  unfold g_X5_finish
  refine tot_oif (iv_oO h_T k_a1 (by decide) (by decide) rfl) ?_
  refine tot_ref h_T k_a1 (by decide) (by decide) (r2 := 104) (rfl : rtg 8 10 = 104) (by decide) (fun n_1 k_n_1 e_n_1 => ?_)
  refine tot_oif (w_oO h_T k_n_1 (rfl : isW 104 = true)) ?_
  refine tot_bind (c_narrow h_T k_n_1 (rfl : isW 104 = true)) (fun T_2 d_T_2 => ?_)
  have h_T_2 : IV R B K1 K2 T_2 := d_T_2.1
  have y_T_2 : FW R [3202] T T_2 := d_T_2.2.2
  have x_T_2 := x_T.tr (y_T_2.w (by decide))
  refine cl_X5_finish_b9 o a0 a1 T k_o k_a0 k_a1 ?_ 16384 T_2 0 h_T_2 x_T_2 (by omega) (by omega)
  · intro T_143 h_T_143 x_T_143
    refine tot_oif (iv_oO h_T_143 k_a1 (by decide) (by decide) rfl) ?_
    refine tot_let (fun T_144 e_T_144 => ?_)
    have h_T_144 : IV R B K1 K2 T_144 := by rw [e_T_144]; exact iv_uI (a := -2147483648) (b := 2147483647) h_T_143 k_a1 (by decide) (by decide) rfl (by omega) (.inl rfl)
    have x_T_144 := x_T_143.tr (fw_uI e_T_144 k_a1 (by decide))
    exact tot_some ⟨h_T_144, x_T_144⟩
set_option maxHeartbeats 4000000 in
set_option maxRecDepth 10000 in
theorem cs_X11_moved (a0 : Int32) (a1 : Int32) (a2 : Int32) (g0 : -2000 ≤ a0.toInt ∧ a0.toInt ≤ 15156) (g1 : -999 ≤ a1.toInt ∧ a1.toInt ≤ 999) (g2 : 0 ≤ a2.toInt ∧ a2.toInt ≤ 199) : Tot (g_X11_moved a0 a1 a2) (fun r => (-3988 ≤ r.toInt ∧ r.toInt ≤ 17144)) := by
  have z0 : (100 : Int32).toInt = 100 := by decide
  have cc_101 : cnt 101 = 1 := rfl
  have cc_102 : cnt 102 = 12 := rfl
  have cc_103 : cnt 103 = 144 := rfl
  have cc_104 : cnt 104 = 2400 := rfl
  have cc_105 : cnt 105 = 7200 := rfl
  have j_a0 := i_any a0
  have j_a1 := i_any a1
  have j_a2 := i_any a2
  unfold g_X11_moved
  refine tot_let (fun v_1 e_v_1 => ?_)
  have q_v_1 := i_mulm (a := -999) (b := 999) (d := 199) e_v_1 (by omega) (by omega) (by omega) (by omega) (by decide)
  refine tot_let (fun v_2 e_v_2 => ?_)
  have q_v_2 := i_divk e_v_2 z0 (by decide)
  refine tot_let (fun v_3 e_v_3 => ?_)
  have q_v_3 := i_add e_v_3 (by omega) (by omega)
  exact tot_some (show (-3988 ≤ v_3.toInt ∧ v_3.toInt ≤ 17144) from by omega)
set_option maxHeartbeats 4000000 in
set_option maxRecDepth 10000 in
theorem cs_X6_delayFrom {R : Nat → Nat} {B K1 K2 : Nat} (T : AT) (o : Nat) (a0 : Nat) (a1 : Int32) (a2 : Int32) (h_T : IV R B K1 K2 T) (k_o : R o = 6) (k_a0 : R a0 = 2) (g0 : -21144 ≤ a1.toInt ∧ a1.toInt ≤ 17144) (g1 : -9999 ≤ a2.toInt ∧ a2.toInt ≤ 17144) : Tot (g_X6_delayFrom T o a0 a1 a2) (fun r => r.2 = T ∧ True) := by
  have cc_101 : cnt 101 = 1 := rfl
  have cc_102 : cnt 102 = 12 := rfl
  have cc_103 : cnt 103 = 144 := rfl
  have cc_104 : cnt 104 = 2400 := rfl
  have cc_105 : cnt 105 = 7200 := rfl
  have j_a1 := i_any a1
  have j_a2 := i_any a2
  unfold g_X6_delayFrom
  refine tot_oif (iv_oO h_T k_a0 (by decide) (by decide) rfl) ?_
  refine tot_let (fun v_1 e_v_1 => ?_)
  have r_v_1 : -500 ≤ v_1.toInt ∧ v_1.toInt ≤ 500 := iv_int h_T k_a0 (by decide) (by decide) e_v_1 rfl
  refine tot_let (fun v_2 e_v_2 => ?_)
  have q_v_2 := i_sub e_v_2 (by omega) (by omega)
  refine tot_oif (iv_oO h_T k_a0 (by decide) (by decide) rfl) ?_
  refine tot_let (fun v_3 e_v_3 => ?_)
  have r_v_3 : -500 ≤ v_3.toInt ∧ v_3.toInt ≤ 500 := iv_int h_T k_a0 (by decide) (by decide) e_v_3 rfl
  refine tot_let (fun v_4 e_v_4 => ?_)
  have q_v_4 := i_sub e_v_4 (by omega) (by omega)
  refine tot_let (fun v_5 e_v_5 => ?_)
  have q_v_5 := i_sq (b := 21644) e_v_5 (by omega) (by omega) (by decide)
  refine tot_let (fun v_6 e_v_6 => ?_)
  have q_v_6 := i_sq (b := 17644) e_v_6 (by omega) (by omega) (by decide)
  refine tot_let (fun v_7 e_v_7 => ?_)
  have q_v_7 := i_add e_v_7 (by omega) (by omega)
  refine tot_oif (iv_oO h_T k_o (by decide) (by decide) rfl) ?_
  refine tot_let (fun v_8 e_v_8 => ?_)
  have r_v_8 : 0 ≤ v_8.toInt ∧ v_8.toInt ≤ 5000 := iv_int h_T k_o (by decide) (by decide) e_v_8 rfl
  refine tot_oif (iv_oO h_T k_o (by decide) (by decide) rfl) ?_
  refine tot_let (fun v_9 e_v_9 => ?_)
  have u_v_9 : v_9.toInt = v_8.toInt := by rw [e_v_9, e_v_8]
  have r_v_9 : 0 ≤ v_9.toInt ∧ v_9.toInt ≤ 5000 := iv_int h_T k_o (by decide) (by decide) e_v_9 rfl
  refine tot_let (fun v_10 e_v_10 => ?_)
  have q_v_10 := i_mulp (a := 0) (b := 5000) (c := 0) (d := 5000) e_v_10 (by omega) (by omega) (by omega) (by omega) (by decide)
  refine tot_let (fun v_11 e_v_11 => ?_)
  have q_v_11 := i_add e_v_11 (by omega) (by omega)
  refine tot_bind (cs_X11_root v_11 ) (fun r_12 d_r_12 => ?_)
  have r_r_12 := i_any r_12
  refine tot_let (fun v_13 e_v_13 => ?_)
  refine tot_oif (iv_oO h_T k_o (by decide) (by decide) rfl) ?_
  refine tot_let (fun v_14 e_v_14 => ?_)
  have r_v_14 : 0 ≤ v_14.toInt ∧ v_14.toInt ≤ 99 := iv_int h_T k_o (by decide) (by decide) e_v_14 rfl
  refine tot_let (fun v_15 e_v_15 => ?_)
  refine tot_bind (cs_X11_quotient v_13 v_15) (fun r_16 d_r_16 => ?_)
  refine tot_oif (iv_oO h_T k_o (by decide) (by decide) rfl) ?_
  refine tot_let (fun v_17 e_v_17 => ?_)
  have u_v_17 : v_17.toInt = v_8.toInt := by rw [e_v_17, e_v_8]
  have r_v_17 : 0 ≤ v_17.toInt ∧ v_17.toInt ≤ 5000 := iv_int h_T k_o (by decide) (by decide) e_v_17 rfl
  refine tot_let (fun v_18 e_v_18 => ?_)
  refine tot_oif (iv_oO h_T k_o (by decide) (by decide) rfl) ?_
  refine tot_let (fun v_19 e_v_19 => ?_)
  have u_v_19 : v_19.toInt = v_14.toInt := by rw [e_v_19, e_v_14]
  have r_v_19 : 0 ≤ v_19.toInt ∧ v_19.toInt ≤ 99 := iv_int h_T k_o (by decide) (by decide) e_v_19 rfl
  refine tot_let (fun v_20 e_v_20 => ?_)
  refine tot_bind (cs_X11_quotient v_18 v_20) (fun r_21 d_r_21 => ?_)
  refine tot_let (fun v_22 e_v_22 => ?_)
  refine tot_let (fun v_23 e_v_23 => ?_)
  have r_v_23 := i_any v_23
  exact tot_some ⟨rfl, trivial⟩
set_option maxHeartbeats 4000000 in
set_option maxRecDepth 10000 in
theorem cs_X7_valueAt {R : Nat → Nat} {B K1 K2 : Nat} (T : AT) (o : Nat) (a0 : Int32) (h_T : IV R B K1 K2 T) (k_o : R o = 7) : Tot (g_X7_valueAt T o a0) (fun r => r.2 = T ∧ True) := by
  have z0 : (0 : Int32).toInt = 0 := by decide
  have z1 : (2 : Int32).toInt = 2 := by decide
  have z2 : (1 : Int32).toInt = 1 := by decide
  have z3 : (4 : Int32).toInt = 4 := by decide
  have z4 : (31 : Int32).toInt = 31 := by decide
  have z5 : (7919 : Int32).toInt = 7919 := by decide
  have z6 : (104729 : Int32).toInt = 104729 := by decide
  have cc_101 : cnt 101 = 1 := rfl
  have cc_102 : cnt 102 = 12 := rfl
  have cc_103 : cnt 103 = 144 := rfl
  have cc_104 : cnt 104 = 2400 := rfl
  have cc_105 : cnt 105 = 7200 := rfl
  have j_a0 := i_any a0
  unfold g_X7_valueAt
  refine tot_oif (iv_oO h_T k_o (by decide) (by decide) rfl) ?_
  refine tot_let (fun v_1 e_v_1 => ?_)
  have r_v_1 : 0 ≤ v_1.toInt ∧ v_1.toInt ≤ 199 := iv_int h_T k_o (by decide) (by decide) e_v_1 rfl
  refine tot_if (fun c_40 => ?_) (fun c_40 => ?_)
  · replace c_40 := i_le c_40
    refine tot_oif (iv_oO h_T k_o (by decide) (by decide) rfl) ?_
    refine tot_let (fun v_2 e_v_2 => ?_)
    have r_v_2 : 0 ≤ v_2.toInt ∧ v_2.toInt ≤ 99 := iv_int h_T k_o (by decide) (by decide) e_v_2 rfl
    refine tot_let (fun v_3 e_v_3 => ?_)
    have r_v_3 := i_any v_3
    refine tot_oif (iv_oO h_T k_o (by decide) (by decide) rfl) ?_
    refine tot_let (fun v_4 e_v_4 => ?_)
    have r_v_4 : 0 ≤ v_4.toInt ∧ v_4.toInt ≤ 99 := iv_int h_T k_o (by decide) (by decide) e_v_4 rfl
    refine tot_bind (cs_X11_remainder v_3 v_4 ) (fun r_5 d_r_5 => ?_)
    replace d_r_5 : ((0 ≤ v_3.toInt ∧ 0 ≤ v_4.toInt → 0 ≤ r_5.toInt ∧ r_5.toInt ≤ v_3.toInt) ∧ (1 ≤ v_4.toInt → -v_4.toInt < r_5.toInt ∧ r_5.toInt < v_4.toInt) ∧ (v_4.toInt = 0 → r_5.toInt = 0)) := d_r_5
    refine tot_oif (iv_oO h_T k_o (by decide) (by decide) rfl) ?_
    refine tot_let (fun v_6 e_v_6 => ?_)
    have r_v_6 : 0 ≤ v_6.toInt ∧ v_6.toInt ≤ 3 := iv_int h_T k_o (by decide) (by decide) e_v_6 rfl
    refine tot_if (fun c_41 => ?_) (fun c_41 => ?_)
    · replace c_41 := i_eq c_41
      refine tot_oif (iv_oO h_T k_o (by decide) (by decide) rfl) ?_
      refine tot_let (fun v_7 e_v_7 => ?_)
      have u_v_7 : v_7.toInt = v_4.toInt := by rw [e_v_7, e_v_4]
      have r_v_7 : 0 ≤ v_7.toInt ∧ v_7.toInt ≤ 99 := iv_int h_T k_o (by decide) (by decide) e_v_7 rfl
      refine tot_let (fun v_8 e_v_8 => ?_)
      have q_v_8 := i_divk e_v_8 z1 (by decide)
      refine tot_if (fun c_42 => ?_) (fun c_42 => ?_)
      · replace c_42 := i_le c_42
        refine tot_oif (iv_oO h_T k_o (by decide) (by decide) rfl) ?_
        refine tot_let (fun v_9 e_v_9 => ?_)
        have r_v_9 : 0 ≤ v_9.toInt ∧ v_9.toInt ≤ 999 := iv_int h_T k_o (by decide) (by decide) e_v_9 rfl
        refine tot_let (fun v_10 e_v_10 => ?_)
        have q_v_10 := i_neg e_v_10 (by omega)
        unfold g_X7_valueAt_b78
        exact tot_some ⟨rfl, trivial⟩
      · replace c_42 := i_nle c_42
        refine tot_oif (iv_oO h_T k_o (by decide) (by decide) rfl) ?_
        refine tot_let (fun v_11 e_v_11 => ?_)
        have r_v_11 : 0 ≤ v_11.toInt ∧ v_11.toInt ≤ 999 := iv_int h_T k_o (by decide) (by decide) e_v_11 rfl
        unfold g_X7_valueAt_b78
        exact tot_some ⟨rfl, trivial⟩
    · replace c_41 := i_ne c_41
      refine tot_if (fun c_43 => ?_) (fun c_43 => ?_)
      · replace c_43 := i_eq c_43
        refine tot_oif (iv_oO h_T k_o (by decide) (by decide) rfl) ?_
        refine tot_let (fun v_12 e_v_12 => ?_)
        have r_v_12 : 0 ≤ v_12.toInt ∧ v_12.toInt ≤ 999 := iv_int h_T k_o (by decide) (by decide) e_v_12 rfl
        refine tot_oif (iv_oO h_T k_o (by decide) (by decide) rfl) ?_
        refine tot_let (fun v_13 e_v_13 => ?_)
        have u_v_13 : v_13.toInt = v_4.toInt := by rw [e_v_13, e_v_4]
        have r_v_13 : 0 ≤ v_13.toInt ∧ v_13.toInt ≤ 99 := iv_int h_T k_o (by decide) (by decide) e_v_13 rfl
        refine tot_let (fun v_14 e_v_14 => ?_)
        have q_v_14 := i_divk e_v_14 z1 (by decide)
        refine tot_let (fun v_15 e_v_15 => ?_)
        have q_v_15 := i_sub e_v_15 (by omega) (by omega)
        refine tot_let (fun v_16 e_v_16 => ?_)
        have q_v_16 := i_abs e_v_16 (by omega)
        refine tot_let (fun v_17 e_v_17 => ?_)
        have q_v_17 := i_mulk e_v_17 z3 (by omega) (by omega)
        refine tot_oif (iv_oO h_T k_o (by decide) (by decide) rfl) ?_
        refine tot_let (fun v_18 e_v_18 => ?_)
        have u_v_18 : v_18.toInt = v_4.toInt := by rw [e_v_18, e_v_4]
        have r_v_18 : 0 ≤ v_18.toInt ∧ v_18.toInt ≤ 99 := iv_int h_T k_o (by decide) (by decide) e_v_18 rfl
        refine tot_let (fun v_19 e_v_19 => ?_)
        have q_v_19 := i_sub e_v_19 (by omega) (by omega)
        refine tot_let (fun v_20 e_v_20 => ?_)
        have q_v_20 := i_mulm2 (a := -99) (b := 588) (d := 999) e_v_20 (by omega) (by omega) (by omega) (by omega) (by decide)
        refine tot_let (fun v_21 e_v_21 => ?_)
        refine tot_oif (iv_oO h_T k_o (by decide) (by decide) rfl) ?_
        refine tot_let (fun v_22 e_v_22 => ?_)
        have u_v_22 : v_22.toInt = v_4.toInt := by rw [e_v_22, e_v_4]
        have r_v_22 : 0 ≤ v_22.toInt ∧ v_22.toInt ≤ 99 := iv_int h_T k_o (by decide) (by decide) e_v_22 rfl
        refine tot_let (fun v_23 e_v_23 => ?_)
        refine tot_bind (cs_X11_quotient v_21 v_23) (fun r_24 d_r_24 => ?_)
        refine tot_let (fun v_25 e_v_25 => ?_)
        have r_v_25 := i_any v_25
        exact tot_some ⟨rfl, trivial⟩
      · replace c_43 := i_ne c_43
        refine tot_if (fun c_44 => ?_) (fun c_44 => ?_)
        · replace c_44 := i_eq c_44
          refine tot_if (fun c_45 => ?_) (fun c_45 => ?_)
          · replace c_45 := i_eq c_45
            refine tot_oif (iv_oO h_T k_o (by decide) (by decide) rfl) ?_
            refine tot_let (fun v_26 e_v_26 => ?_)
            have r_v_26 : 0 ≤ v_26.toInt ∧ v_26.toInt ≤ 999 := iv_int h_T k_o (by decide) (by decide) e_v_26 rfl
            unfold g_X7_valueAt_b125
            exact tot_some ⟨rfl, trivial⟩
          · replace c_45 := i_ne c_45
            unfold g_X7_valueAt_b125
            exact tot_some ⟨rfl, trivial⟩
        · replace c_44 := i_ne c_44
          refine tot_let (fun v_27 e_v_27 => ?_)
          have r_v_27 := i_any v_27
          refine tot_let (fun v_28 e_v_28 => ?_)
          have r_v_28 := i_any v_28
          refine tot_let (fun v_29 e_v_29 => ?_)
          have r_v_29 := i_any v_29
          refine tot_let (fun v_30 e_v_30 => ?_)
          have r_v_30 := i_any v_30
          refine tot_oif (iv_oO h_T k_o (by decide) (by decide) rfl) ?_
          refine tot_let (fun v_31 e_v_31 => ?_)
          have u_v_31 : v_31.toInt = v_2.toInt := by rw [e_v_31, e_v_2]
          have r_v_31 : 0 ≤ v_31.toInt ∧ v_31.toInt ≤ 99 := iv_int h_T k_o (by decide) (by decide) e_v_31 rfl
          refine tot_let (fun v_32 e_v_32 => ?_)
          have q_v_32 := i_mulk e_v_32 z6 (by omega) (by omega)
          refine tot_let (fun v_33 e_v_33 => ?_)
          have r_v_33 := i_any v_33
          refine tot_oif (iv_oO h_T k_o (by decide) (by decide) rfl) ?_
          refine tot_let (fun v_34 e_v_34 => ?_)
          have r_v_34 : 0 ≤ v_34.toInt ∧ v_34.toInt ≤ 999 := iv_int h_T k_o (by decide) (by decide) e_v_34 rfl
          refine tot_let (fun v_35 e_v_35 => ?_)
          have q_v_35 := i_mulk e_v_35 z1 (by omega) (by omega)
          refine tot_let (fun v_36 e_v_36 => ?_)
          have q_v_36 := i_add e_v_36 (by omega) (by omega)
          refine tot_bind (cs_X11_remainder v_33 v_36 ) (fun r_37 d_r_37 => ?_)
          replace d_r_37 : ((0 ≤ v_33.toInt ∧ 0 ≤ v_36.toInt → 0 ≤ r_37.toInt ∧ r_37.toInt ≤ v_33.toInt) ∧ (1 ≤ v_36.toInt → -v_36.toInt < r_37.toInt ∧ r_37.toInt < v_36.toInt) ∧ (v_36.toInt = 0 → r_37.toInt = 0)) := d_r_37
          refine tot_oif (iv_oO h_T k_o (by decide) (by decide) rfl) ?_
          refine tot_let (fun v_38 e_v_38 => ?_)
          have u_v_38 : v_38.toInt = v_34.toInt := by rw [e_v_38, e_v_34]
          have r_v_38 : 0 ≤ v_38.toInt ∧ v_38.toInt ≤ 999 := iv_int h_T k_o (by decide) (by decide) e_v_38 rfl
          refine tot_let (fun v_39 e_v_39 => ?_)
          have q_v_39 := i_sub e_v_39 (by omega) (by omega)
          exact tot_some ⟨rfl, trivial⟩
  · replace c_40 := i_nle c_40
    exact tot_some ⟨rfl, trivial⟩
set_option maxHeartbeats 4000000 in
set_option maxRecDepth 10000 in
theorem cs_X5_arriving {R : Nat → Nat} {B K1 K2 : Nat} (T : AT) (a0 : Nat) (a1 : Nat) (a2 : Int32) (a3 : Int32) (h_T : IV R B K1 K2 T) (k_a0 : R a0 = 6) (k_a1 : R a1 = 7) (g0 : 0 ≤ a3.toInt ∧ a3.toInt ≤ 199) : Tot (g_X5_arriving T a0 a1 a2 a3) (fun r => r.2 = T ∧ True) := by
  have z0 : (0 : Int32).toInt = 0 := by decide
  have cc_101 : cnt 101 = 1 := rfl
  have cc_102 : cnt 102 = 12 := rfl
  have cc_103 : cnt 103 = 144 := rfl
  have cc_104 : cnt 104 = 2400 := rfl
  have cc_105 : cnt 105 = 7200 := rfl
  have j_a2 := i_any a2
  have j_a3 := i_any a3
  unfold g_X5_arriving
  refine tot_if (fun c_13 => ?_) (fun c_13 => ?_)
  · replace c_13 := i_le c_13
    refine tot_let (fun v_1 e_v_1 => ?_)
    have r_v_1 := i_any v_1
    refine tot_oif (iv_oO h_T k_a1 (by decide) (by decide) rfl) ?_
    refine tot_bindq (R := fun r_2 : Int32 => True) (cs_X7_valueAt T a1 v_1 h_T k_a1 ) (fun r_2 d_r_2 => ?_)
    have r_r_2 := i_any r_2
    refine tot_oif (iv_oO h_T k_a0 (by decide) (by decide) rfl) ?_
    refine tot_let (fun v_4 e_v_4 => ?_)
    have r_v_4 : 0 ≤ v_4.toInt ∧ v_4.toInt ≤ 999 := iv_int h_T k_a0 (by decide) (by decide) e_v_4 rfl
    refine tot_if (fun c_14 => ?_) (fun c_14 => ?_)
    · replace c_14 := i_le c_14
      unfold g_X5_arriving_b47
      exact tot_some ⟨rfl, trivial⟩
    · replace c_14 := i_nle c_14
      refine tot_oif (iv_oO h_T k_a0 (by decide) (by decide) rfl) ?_
      refine tot_let (fun v_5 e_v_5 => ?_)
      have u_v_5 : v_5.toInt = v_4.toInt := by rw [e_v_5, e_v_4]
      have r_v_5 : 0 ≤ v_5.toInt ∧ v_5.toInt ≤ 999 := iv_int h_T k_a0 (by decide) (by decide) e_v_5 rfl
      refine tot_let (fun v_6 e_v_6 => ?_)
      have r_v_6 := i_any v_6
      refine tot_let (fun v_7 e_v_7 => ?_)
      refine tot_oif (iv_oO h_T k_a0 (by decide) (by decide) rfl) ?_
      refine tot_let (fun v_8 e_v_8 => ?_)
      have u_v_8 : v_8.toInt = v_4.toInt := by rw [e_v_8, e_v_4]
      have r_v_8 : 0 ≤ v_8.toInt ∧ v_8.toInt ≤ 999 := iv_int h_T k_a0 (by decide) (by decide) e_v_8 rfl
      refine tot_let (fun v_9 e_v_9 => ?_)
      have q_v_9 := i_add e_v_9 (by omega) (by omega)
      refine tot_let (fun v_10 e_v_10 => ?_)
      refine tot_bind (cs_X11_quotient v_7 v_10) (fun r_11 d_r_11 => ?_)
      refine tot_let (fun v_12 e_v_12 => ?_)
      have r_v_12 := i_any v_12
      unfold g_X5_arriving_b47
      exact tot_some ⟨rfl, trivial⟩
  · replace c_13 := i_nle c_13
    exact tot_some ⟨rfl, trivial⟩
set_option maxHeartbeats 4000000 in
set_option maxRecDepth 10000 in
theorem cl_X5_hear_b42 {R : Nat → Nat} {B K1 K2 : Nat} {Q : AT → Prop} {k3 : AT → Nat → Nat → Nat → Int32 → Int32 → Int32 → Int32 → Option (AT)} (l0 : Nat) (l1 : Nat) (l2 : Nat) (l3 : Int32) (l4 : Int32) (l5 : Int32) (l6 : Int32) (l7 : Nat) (T00 : AT) (k_l0 : R l0 = 5) (k_l1 : R l1 = 6) (k_l2 : R l2 = 7) (k_l7 : R l7 = 2) (g0 : -3988 ≤ l3.toInt ∧ l3.toInt ≤ 17144) (g1 : -3988 ≤ l4.toInt ∧ l4.toInt ≤ 17144) (g2 : 0 ≤ l5.toInt ∧ l5.toInt ≤ 199) (g3 : 0 ≤ l6.toInt ∧ l6.toInt ≤ 11) (hx0 : ∀ (T : AT) (l8 : Int32), (IV R B K1 K2 T) → (FW R [1472] T00 T) → Tot (oif (oO T l0 5 = true) <| obind (T.2.2.2.2 l0 0) fun n_114 => oif (aA T n_114 106 = true) <| oif (inb l6 (T.2.1 n_114).2 = true) <| obind (T.2.2.2.2 n_114 l6.toNatClampNeg) fun n_115 => oif (aA T n_115 100 = true) <| oif (inb l5 (T.2.1 n_115).2 = true) <| elet (T.2.2.1 n_115 l5.toNatClampNeg) fun v_116 => elet (v_116 + l8) fun v_117 => oif (aA T n_115 100 = true) <| oif (inb l5 (T.2.1 n_115).2 = true) <| elet (uI T n_115 l5.toNatClampNeg v_117) fun T_118 => elet (l6 + Int32.ofInt (1)) fun v_119 => k3 T_118 l0 l1 l2 l3 l4 l5 v_119) Q) : ∀ (n : Nat) (T : AT) (l8 : Int32) (l9 : Int32), (IV R B K1 K2 T) → (FW R [1472] T00 T) → (0 ≤ l9.toInt ∧ l9.toInt ≤ 2) → 2 - l9.toInt < (n : Int) → Tot (g_X5_hear_b42 k3 n T l0 l1 l2 l3 l4 l5 l6 l7 l8 l9) Q := by
  have z0 : (2 : Int32).toInt = 2 := by decide
  have z1 : (100 : Int32).toInt = 100 := by decide
  have z2 : (Int32.ofInt (1) : Int32).toInt = 1 := by decide
  have cc_101 : cnt 101 = 1 := rfl
  have cc_102 : cnt 102 = 12 := rfl
  have cc_103 : cnt 103 = 144 := rfl
  have cc_104 : cnt 104 = 2400 := rfl
  have cc_105 : cnt 105 = 7200 := rfl
  have j_l3 := i_any l3
  have j_l4 := i_any l4
  have j_l5 := i_any l5
  have j_l6 := i_any l6
  intro n
  induction n with
  | zero =>
    intro T l8 l9 h_T x_T g_l9 hm
    exfalso
    omega
  | succ n ih =>
    intro T l8 l9 h_T x_T g_l9 hm
    unfold g_X5_hear_b42
    refine tot_oif (iv_oO h_T k_l1 (by decide) (by decide) rfl) ?_
    refine tot_let (fun v_113 e_v_113 => ?_)
    have r_v_113 : 0 ≤ v_113.toInt ∧ v_113.toInt ≤ 2 := iv_int h_T k_l1 (by decide) (by decide) e_v_113 rfl
    refine tot_if (fun c_134 => ?_) (fun c_134 => ?_)
    · replace c_134 := i_le c_134
      exact hx0 T l8 h_T x_T
    · replace c_134 := i_nle c_134
      refine tot_oif (iv_oO h_T k_l1 (by decide) (by decide) rfl) ?_
      refine tot_ref h_T k_l1 (by decide) (by decide) (r2 := 55) (rfl : rtg 6 9 = 55) (by decide) (fun n_120 k_n_120 e_n_120 => ?_)
      refine tot_oif (iv_aA h_T k_n_120 (by decide) (by decide) rfl rfl) ?_
      refine tot_oif (by rw [iv_len h_T k_n_120 (by decide) (by decide) (rfl : shp 55 = (100, 2))]; exact i_inb (by omega) (by omega)) ?_
      refine tot_let (fun v_121 e_v_121 => ?_)
      have r_v_121 : -2000 ≤ v_121.toInt ∧ v_121.toInt ≤ 2000 := iv_int h_T k_n_120 (by decide) (by decide) e_v_121 rfl
      refine tot_let (fun v_122 e_v_122 => ?_)
      have q_v_122 := i_mulk e_v_122 z0 (by omega) (by omega)
      refine tot_let (fun v_123 e_v_123 => ?_)
      have q_v_123 := i_sub e_v_123 (by omega) (by omega)
      refine tot_oif (iv_oO h_T k_l1 (by decide) (by decide) rfl) ?_
      refine tot_bindq (R := fun r_124 : Int32 => True) (cs_X6_delayFrom T l1 l7 v_123 l4 h_T k_l1 k_l7 (by omega) (by omega)) (fun r_124 d_r_124 => ?_)
      have r_r_124 := i_any r_124
      refine tot_bindq (R := fun r_126 : Int32 => True) (cs_X5_arriving T l1 l2 r_124 l5 h_T k_l1 k_l2 (by omega)) (fun r_126 d_r_126 => ?_)
      have r_r_126 := i_any r_126
      refine tot_oif (iv_oO h_T k_l1 (by decide) (by decide) rfl) ?_
      refine tot_ref h_T k_l1 (by decide) (by decide) (r2 := 56) (rfl : rtg 6 10 = 56) (by decide) (fun n_128 k_n_128 e_n_128 => ?_)
      refine tot_oif (iv_aA h_T k_n_128 (by decide) (by decide) rfl rfl) ?_
      refine tot_oif (by rw [iv_len h_T k_n_128 (by decide) (by decide) (rfl : shp 56 = (100, 2))]; exact i_inb (by omega) (by omega)) ?_
      refine tot_let (fun v_129 e_v_129 => ?_)
      have r_v_129 : 0 ≤ v_129.toInt ∧ v_129.toInt ≤ 100 := iv_int h_T k_n_128 (by decide) (by decide) e_v_129 rfl
      refine tot_let (fun v_130 e_v_130 => ?_)
      have r_v_130 := i_any v_130
      refine tot_let (fun v_131 e_v_131 => ?_)
      have q_v_131 := i_divk e_v_131 z1 (by decide)
      refine tot_let (fun v_132 e_v_132 => ?_)
      have r_v_132 := i_any v_132
      refine tot_let (fun v_133 e_v_133 => ?_)
      have q_v_133 := i_add e_v_133 (by omega) (by omega)
      exact ih T v_132 v_133 h_T x_T (by omega) (by omega)
set_option maxHeartbeats 4000000 in
set_option maxRecDepth 10000 in
theorem cl_X5_hear_b3 {R : Nat → Nat} {B K1 K2 : Nat} {Q : AT → Prop} (l0 : Nat) (l1 : Nat) (l2 : Nat) (l3 : Int32) (l4 : Int32) (l5 : Int32) (T00 : AT) (k_l0 : R l0 = 5) (k_l1 : R l1 = 6) (k_l2 : R l2 = 7) (g0 : -3988 ≤ l3.toInt ∧ l3.toInt ≤ 17144) (g1 : -3988 ≤ l4.toInt ∧ l4.toInt ≤ 17144) (g2 : 0 ≤ l5.toInt ∧ l5.toInt ≤ 199) (hx0 : ∀ (T : AT), (IV R B K1 K2 T) → (FW R [1472] T00 T) → Tot (some (T)) Q) : ∀ (n : Nat) (T : AT) (l6 : Int32), (IV R B K1 K2 T) → (FW R [1472] T00 T) → (0 ≤ l6.toInt ∧ l6.toInt ≤ 12) → 12 - l6.toInt < (n : Int) → Tot (g_X5_hear_b3 n T l0 l1 l2 l3 l4 l5 l6) Q := by
  have z0 : (0 : Int32).toInt = 0 := by decide
  have z1 : (Int32.ofInt (1) : Int32).toInt = 1 := by decide
  have cc_101 : cnt 101 = 1 := rfl
  have cc_102 : cnt 102 = 12 := rfl
  have cc_103 : cnt 103 = 144 := rfl
  have cc_104 : cnt 104 = 2400 := rfl
  have cc_105 : cnt 105 = 7200 := rfl
  have j_l3 := i_any l3
  have j_l4 := i_any l4
  have j_l5 := i_any l5
  intro n
  induction n with
  | zero =>
    intro T l6 h_T x_T g_l6 hm
    exfalso
    omega
  | succ n ih =>
    intro T l6 h_T x_T g_l6 hm
    unfold g_X5_hear_b3
    refine tot_oif (iv_oO h_T k_l1 (by decide) (by decide) rfl) ?_
    refine tot_let (fun v_84 e_v_84 => ?_)
    have r_v_84 : 0 ≤ v_84.toInt ∧ v_84.toInt ≤ 12 := iv_int h_T k_l1 (by decide) (by decide) e_v_84 rfl
    refine tot_if (fun c_91 => ?_) (fun c_91 => ?_)
    · replace c_91 := i_le c_91
      exact hx0 T h_T x_T
    · replace c_91 := i_nle c_91
      refine tot_oif (iv_oO h_T k_l1 (by decide) (by decide) rfl) ?_
      refine tot_ref h_T k_l1 (by decide) (by decide) (r2 := 53) (rfl : rtg 6 4 = 53) (by decide) (fun n_85 k_n_85 e_n_85 => ?_)
      refine tot_oif (iv_aA h_T k_n_85 (by decide) (by decide) rfl rfl) ?_
      refine tot_oif (by rw [iv_len h_T k_n_85 (by decide) (by decide) (rfl : shp 53 = (103, 12))]; exact i_inb (by omega) (by omega)) ?_
      refine tot_ref h_T k_n_85 (by decide) (by decide) (r2 := 2) (rt_53 (by omega) (by omega)) (by decide) (fun n_86 k_n_86 e_n_86 => ?_)
      refine tot_oif (iv_oO h_T k_l1 (by decide) (by decide) rfl) ?_
      refine tot_bindq (R := fun r_87 : Int32 => True) (cs_X6_delayFrom T l1 n_86 l3 l4 h_T k_l1 k_n_86 (by omega) (by omega)) (fun r_87 d_r_87 => ?_)
      have r_r_87 := i_any r_87
      refine tot_bindq (R := fun r_89 : Int32 => True) (cs_X5_arriving T l1 l2 r_87 l5 h_T k_l1 k_l2 (by omega)) (fun r_89 d_r_89 => ?_)
      have r_r_89 := i_any r_89
      refine cl_X5_hear_b42 l0 l1 l2 l3 l4 l5 l6 n_86 T00 k_l0 k_l1 k_l2 k_n_86 (by omega) (by omega) (by omega) (by omega) ?_ 16384 T r_89 0 h_T x_T (by omega) (by omega)
      · intro T_135 l_136 h_T_135 x_T_135
        have j_l_136 := i_any l_136
        refine tot_oif (iv_oO h_T_135 k_l0 (by decide) (by decide) rfl) ?_
        refine tot_ref h_T_135 k_l0 (by decide) (by decide) (r2 := 45) (rfl : rtg 5 0 = 45) (by decide) (fun n_137 k_n_137 e_n_137 => ?_)
        refine tot_oif (iv_aA h_T_135 k_n_137 (by decide) (by decide) rfl rfl) ?_
        refine tot_oif (by rw [iv_len h_T_135 k_n_137 (by decide) (by decide) (rfl : shp 45 = (106, 12))]; exact i_inb (by omega) (by omega)) ?_
        refine tot_ref h_T_135 k_n_137 (by decide) (by decide) (r2 := 46) (rt_45 (by omega) (by omega)) (by decide) (fun n_138 k_n_138 e_n_138 => ?_)
        refine tot_oif (iv_aA h_T_135 k_n_138 (by decide) (by decide) rfl rfl) ?_
        refine tot_oif (by rw [iv_len h_T_135 k_n_138 (by decide) (by decide) (rfl : shp 46 = (100, 200))]; exact i_inb (by omega) (by omega)) ?_
        refine tot_let (fun v_139 e_v_139 => ?_)
        have r_v_139 := i_any v_139
        refine tot_let (fun v_140 e_v_140 => ?_)
        have r_v_140 := i_any v_140
        refine tot_oif (iv_aA h_T_135 k_n_138 (by decide) (by decide) rfl rfl) ?_
        refine tot_oif (by rw [iv_len h_T_135 k_n_138 (by decide) (by decide) (rfl : shp 46 = (100, 200))]; exact i_inb (by omega) (by omega)) ?_
        refine tot_let (fun T_141 e_T_141 => ?_)
        have ja_T_141 := i_any v_140
        have h_T_141 : IV R B K1 K2 T_141 := by rw [e_T_141]; exact iv_uI (a := -2147483648) (b := 2147483647) h_T_135 k_n_138 (by decide) (by decide) rfl (by omega) (.inl rfl)
        have x_T_141 := x_T_135.tr (fw_uA e_T_141 k_n_138 rfl rfl (by decide))
        refine tot_let (fun v_142 e_v_142 => ?_)
        have q_v_142 := i_add e_v_142 (by omega) (by omega)
        exact ih T_141 v_142 h_T_141 x_T_141 (by omega) (by omega)
set_option maxHeartbeats 4000000 in
set_option maxRecDepth 10000 in
theorem cs_X5_hear {R : Nat → Nat} {B K1 K2 : Nat} (T : AT) (o : Nat) (a0 : Nat) (a1 : Nat) (a2 : Int32) (a3 : Int32) (a4 : Int32) (h_T : IV R B K1 K2 T) (k_o : R o = 5) (k_a0 : R a0 = 6) (k_a1 : R a1 = 7) (g0 : -3988 ≤ a2.toInt ∧ a2.toInt ≤ 17144) (g1 : -3988 ≤ a3.toInt ∧ a3.toInt ≤ 17144) (g2 : 0 ≤ a4.toInt ∧ a4.toInt ≤ 199) : Tot (g_X5_hear T o a0 a1 a2 a3 a4) (fun T1 => IV R B K1 K2 T1 ∧ FW R [1472] T T1) := by
  have z0 : (0 : Int32).toInt = 0 := by decide
  have cc_101 : cnt 101 = 1 := rfl
  have cc_102 : cnt 102 = 12 := rfl
  have cc_103 : cnt 103 = 144 := rfl
  have cc_104 : cnt 104 = 2400 := rfl
  have cc_105 : cnt 105 = 7200 := rfl
  have x_T : FW R [1472] T T := FW.rf
  have j_a2 := i_any a2
  have j_a3 := i_any a3
  have j_a4 := i_any a4
  unfold g_X5_hear
  refine cl_X5_hear_b3 o a0 a1 a2 a3 a4 T k_o k_a0 k_a1 (by omega) (by omega) (by omega) ?_ 16384 T 0 h_T x_T (by omega) (by omega)
  · intro T_143 h_T_143 x_T_143
    exact tot_some ⟨h_T_143, x_T_143⟩
end
section
/-! 13d.cg6.lean.txt -/
set_option maxHeartbeats 4000000 in
set_option maxRecDepth 10000 in
theorem cl_X5_record_b34 {R : Nat → Nat} {B K1 K2 : Nat} {Q : AT → Prop} {k6 : AT → Nat → Nat → Nat → Int32 → Option (AT)} (l0 : Nat) (l1 : Nat) (l2 : Nat) (l3 : Int32) (l4 : Nat) (T00 : AT) (k_l0 : R l0 = 5) (k_l1 : R l1 = 6) (k_l2 : R l2 = 8) (k_l4 : R l4 = 7) (g0 : 0 ≤ l3.toInt ∧ l3.toInt ≤ 5) (hx0 : ∀ (T : AT), (IV R B K1 K2 T) → (FW R [258, 1472, 3202] T00 T) → Tot (g_X5_record_b92 k6 T l0 l1 l2 l3) Q) : ∀ (n : Nat) (T : AT) (l5 : Int32), (IV R B K1 K2 T) → (FW R [258, 1472, 3202] T00 T) → (0 ≤ l5.toInt ∧ l5.toInt ≤ 200) → 200 - l5.toInt < (n : Int) → Tot (g_X5_record_b34 k6 n T l0 l1 l2 l3 l4 l5) Q := by
  have z0 : (Int32.ofInt (1) : Int32).toInt = 1 := by decide
  have cc_101 : cnt 101 = 1 := rfl
  have cc_102 : cnt 102 = 12 := rfl
  have cc_103 : cnt 103 = 144 := rfl
  have cc_104 : cnt 104 = 2400 := rfl
  have cc_105 : cnt 105 = 7200 := rfl
  have j_l3 := i_any l3
  intro n
  induction n with
  | zero =>
    intro T l5 h_T x_T g_l5 hm
    exfalso
    omega
  | succ n ih =>
    intro T l5 h_T x_T g_l5 hm
    unfold g_X5_record_b34
    refine tot_oif (iv_oO h_T k_l1 (by decide) (by decide) rfl) ?_
    refine tot_let (fun v_85 e_v_85 => ?_)
    have r_v_85 : 0 ≤ v_85.toInt ∧ v_85.toInt ≤ 200 := iv_int h_T k_l1 (by decide) (by decide) e_v_85 rfl
    refine tot_if (fun c_98 => ?_) (fun c_98 => ?_)
    · replace c_98 := i_le c_98
      exact hx0 T h_T x_T
    · replace c_98 := i_nle c_98
      refine tot_oif (iv_oO h_T k_l2 (by decide) (by decide) rfl) ?_
      refine tot_ref h_T k_l2 (by decide) (by decide) (r2 := 65) (rfl : rtg 8 6 = 65) (by decide) (fun n_86 k_n_86 e_n_86 => ?_)
      refine tot_oif (iv_aA h_T k_n_86 (by decide) (by decide) rfl rfl) ?_
      refine tot_oif (by rw [iv_len h_T k_n_86 (by decide) (by decide) (rfl : shp 65 = (100, 6))]; exact i_inb (by omega) (by omega)) ?_
      refine tot_let (fun v_87 e_v_87 => ?_)
      have r_v_87 : -2000 ≤ v_87.toInt ∧ v_87.toInt ≤ 2000 := iv_int h_T k_n_86 (by decide) (by decide) e_v_87 rfl
      refine tot_oif (iv_oO h_T k_l2 (by decide) (by decide) rfl) ?_
      refine tot_ref h_T k_l2 (by decide) (by decide) (r2 := 66) (rfl : rtg 8 8 = 66) (by decide) (fun n_88 k_n_88 e_n_88 => ?_)
      refine tot_oif (iv_aA h_T k_n_88 (by decide) (by decide) rfl rfl) ?_
      refine tot_oif (by rw [iv_len h_T k_n_88 (by decide) (by decide) (rfl : shp 66 = (100, 6))]; exact i_inb (by omega) (by omega)) ?_
      refine tot_let (fun v_89 e_v_89 => ?_)
      have r_v_89 : -999 ≤ v_89.toInt ∧ v_89.toInt ≤ 999 := iv_int h_T k_n_88 (by decide) (by decide) e_v_89 rfl
      refine tot_bind (cs_X11_moved v_87 v_89 l5 (by omega) (by omega) (by omega)) (fun r_90 d_r_90 => ?_)
      replace d_r_90 : (-3988 ≤ r_90.toInt ∧ r_90.toInt ≤ 17144) := d_r_90
      refine tot_oif (iv_oO h_T k_l2 (by decide) (by decide) rfl) ?_
      refine tot_ref h_T k_l2 (by decide) (by decide) (r2 := 65) (rfl : rtg 8 7 = 65) (by decide) (fun n_91 k_n_91 e_n_91 => ?_)
      refine tot_oif (iv_aA h_T k_n_91 (by decide) (by decide) rfl rfl) ?_
      refine tot_oif (by rw [iv_len h_T k_n_91 (by decide) (by decide) (rfl : shp 65 = (100, 6))]; exact i_inb (by omega) (by omega)) ?_
      refine tot_let (fun v_92 e_v_92 => ?_)
      have r_v_92 : -2000 ≤ v_92.toInt ∧ v_92.toInt ≤ 2000 := iv_int h_T k_n_91 (by decide) (by decide) e_v_92 rfl
      refine tot_oif (iv_oO h_T k_l2 (by decide) (by decide) rfl) ?_
      refine tot_ref h_T k_l2 (by decide) (by decide) (r2 := 66) (rfl : rtg 8 9 = 66) (by decide) (fun n_93 k_n_93 e_n_93 => ?_)
      refine tot_oif (iv_aA h_T k_n_93 (by decide) (by decide) rfl rfl) ?_
      refine tot_oif (by rw [iv_len h_T k_n_93 (by decide) (by decide) (rfl : shp 66 = (100, 6))]; exact i_inb (by omega) (by omega)) ?_
      refine tot_let (fun v_94 e_v_94 => ?_)
      have r_v_94 : -999 ≤ v_94.toInt ∧ v_94.toInt ≤ 999 := iv_int h_T k_n_93 (by decide) (by decide) e_v_94 rfl
      refine tot_bind (cs_X11_moved v_92 v_94 l5 (by omega) (by omega) (by omega)) (fun r_95 d_r_95 => ?_)
      replace d_r_95 : (-3988 ≤ r_95.toInt ∧ r_95.toInt ≤ 17144) := d_r_95
      refine tot_oif (iv_oO h_T k_l0 (by decide) (by decide) rfl) ?_
      refine tot_bind (cs_X5_hear T l0 l1 l4 r_90 r_95 l5 h_T k_l0 k_l1 k_l4 (by omega) (by omega) (by omega)) (fun T_96 d_T_96 => ?_)
      have h_T_96 : IV R B K1 K2 T_96 := d_T_96.1
      have y_T_96 : FW R [1472] T T_96 := d_T_96.2
      have x_T_96 := x_T.tr (y_T_96.w (by decide))
      refine tot_let (fun v_97 e_v_97 => ?_)
      have q_v_97 := i_add e_v_97 (by omega) (by omega)
      exact ih T_96 v_97 h_T_96 x_T_96 (by omega) (by omega)
set_option maxHeartbeats 4000000 in
set_option maxRecDepth 10000 in
theorem cl_X5_record_b6 {R : Nat → Nat} {B K1 K2 : Nat} {Q : AT → Prop} (l0 : Nat) (l1 : Nat) (l2 : Nat) (T00 : AT) (k_l0 : R l0 = 5) (k_l1 : R l1 = 6) (k_l2 : R l2 = 8) (hx0 : ∀ (T : AT), (IV R B K1 K2 T) → (FW R [258, 1472, 3202] T00 T) → Tot (oif (oO T l0 5 = true) <| obind (g_X5_finish T l0 l1 l2) fun T_63 => g_X5_record_b104 T_63) Q) : ∀ (n : Nat) (T : AT) (l3 : Int32), (IV R B K1 K2 T) → (FW R [258, 1472, 3202] T00 T) → (0 ≤ l3.toInt ∧ l3.toInt ≤ 6) → 6 - l3.toInt < (n : Int) → Tot (g_X5_record_b6 n T l0 l1 l2 l3) Q := by
  have z0 : (0 : Int32).toInt = 0 := by decide
  have z1 : (Int32.ofInt (1) : Int32).toInt = 1 := by decide
  have cc_101 : cnt 101 = 1 := rfl
  have cc_102 : cnt 102 = 12 := rfl
  have cc_103 : cnt 103 = 144 := rfl
  have cc_104 : cnt 104 = 2400 := rfl
  have cc_105 : cnt 105 = 7200 := rfl
  intro n
  induction n with
  | zero =>
    intro T l3 h_T x_T g_l3 hm
    exfalso
    omega
  | succ n ih =>
    intro T l3 h_T x_T g_l3 hm
    unfold g_X5_record_b6
    refine tot_oif (iv_oO h_T k_l1 (by decide) (by decide) rfl) ?_
    refine tot_let (fun v_62 e_v_62 => ?_)
    have r_v_62 : 0 ≤ v_62.toInt ∧ v_62.toInt ≤ 6 := iv_int h_T k_l1 (by decide) (by decide) e_v_62 rfl
    refine tot_if (fun c_68 => ?_) (fun c_68 => ?_)
    · replace c_68 := i_le c_68
      exact hx0 T h_T x_T
    · replace c_68 := i_nle c_68
      refine tot_oif (iv_oO h_T k_l2 (by decide) (by decide) rfl) ?_
      refine tot_ref h_T k_l2 (by decide) (by decide) (r2 := 64) (rfl : rtg 8 5 = 64) (by decide) (fun n_64 k_n_64 e_n_64 => ?_)
      refine tot_oif (iv_aA h_T k_n_64 (by decide) (by decide) rfl rfl) ?_
      refine tot_oif (by rw [iv_len h_T k_n_64 (by decide) (by decide) (rfl : shp 64 = (102, 6))]; exact i_inb (by omega) (by omega)) ?_
      refine tot_let (fun v_65 e_v_65 => ?_)
      have r_v_65 : 0 ≤ v_65.toInt ∧ v_65.toInt ≤ 1 := iv_int h_T k_n_64 (by decide) (by decide) e_v_65 rfl
      refine tot_if (fun c_69 => ?_) (fun c_69 => ?_)
      · replace c_69 := i_eq c_69
        unfold g_X5_record_b92
        refine tot_let (fun v_70 e_v_70 => ?_)
        have q_v_70 := i_add e_v_70 (by omega) (by omega)
        exact ih T v_70 h_T x_T (by omega) (by omega)
      · replace c_69 := i_ne c_69
        refine tot_oif (iv_oO h_T k_l1 (by decide) (by decide) rfl) ?_
        refine tot_ref h_T k_l1 (by decide) (by decide) (r2 := 54) (rfl : rtg 6 7 = 54) (by decide) (fun n_66 k_n_66 e_n_66 => ?_)
        refine tot_oif (iv_aA h_T k_n_66 (by decide) (by decide) rfl rfl) ?_
        refine tot_oif (by rw [iv_len h_T k_n_66 (by decide) (by decide) (rfl : shp 54 = (104, 6))]; exact i_inb (by omega) (by omega)) ?_
        refine tot_ref h_T k_n_66 (by decide) (by decide) (r2 := 7) (rt_54 (by omega) (by omega)) (by decide) (fun n_67 k_n_67 e_n_67 => ?_)
        refine cl_X5_record_b34 l0 l1 l2 l3 n_67 T00 k_l0 k_l1 k_l2 k_n_67 (by omega) ?_ 16384 T 0 h_T x_T (by omega) (by omega)
        · intro T_99 h_T_99 x_T_99
          unfold g_X5_record_b92
          refine tot_let (fun v_100 e_v_100 => ?_)
          have q_v_100 := i_add e_v_100 (by omega) (by omega)
          exact ih T_99 v_100 h_T_99 x_T_99 (by omega) (by omega)
set_option maxHeartbeats 4000000 in
set_option maxRecDepth 10000 in
theorem cs_X5_record {R : Nat → Nat} {B K1 K2 : Nat} (T : AT) (o : Nat) (a0 : Nat) (a1 : Nat) (h_T : IV R B K1 K2 T) (k_o : R o = 5) (k_a0 : R a0 = 6) (k_a1 : R a1 = 8) : Tot (g_X5_record T o a0 a1) (fun T1 => IV R B K1 K2 T1 ∧ FW R [258, 1472, 3202] T T1) := by
  have z0 : (0 : Int32).toInt = 0 := by decide
  have cc_101 : cnt 101 = 1 := rfl
  have cc_102 : cnt 102 = 12 := rfl
  have cc_103 : cnt 103 = 144 := rfl
  have cc_104 : cnt 104 = 2400 := rfl
  have cc_105 : cnt 105 = 7200 := rfl
  have x_T : FW R [258, 1472, 3202] T T := FW.rf
  unfold g_X5_record
  refine tot_oif (iv_oO h_T k_o (by decide) (by decide) rfl) ?_
  refine tot_bind (cs_X5_silence T o h_T k_o ) (fun T_1 d_T_1 => ?_)
  have h_T_1 : IV R B K1 K2 T_1 := d_T_1.1
  have y_T_1 : FW R [1472] T T_1 := d_T_1.2
  have x_T_1 := x_T.tr (y_T_1.w (by decide))
  refine cl_X5_record_b6 o a0 a1 T k_o k_a0 k_a1 ?_ 16384 T_1 0 h_T_1 x_T_1 (by omega) (by omega)
  · intro T_101 h_T_101 x_T_101
    refine tot_oif (iv_oO h_T_101 k_o (by decide) (by decide) rfl) ?_
    refine tot_bind (cs_X5_finish T_101 o a0 a1 h_T_101 k_o k_a0 k_a1 ) (fun T_102 d_T_102 => ?_)
    have h_T_102 : IV R B K1 K2 T_102 := d_T_102.1
    have y_T_102 : FW R [258, 3202] T_101 T_102 := d_T_102.2
    have x_T_102 := x_T_101.tr (y_T_102.w (by decide))
    unfold g_X5_record_b104
    exact tot_some ⟨h_T_102, x_T_102⟩
set_option maxHeartbeats 4000000 in
set_option maxRecDepth 10000 in
theorem cl_X5_recordPoint_b53 {R : Nat → Nat} {B K1 K2 : Nat} {Q : AT → Prop} (l0 : Nat) (l1 : Nat) (l2 : Nat) (l5 : Int32) (l6 : Int32) (T00 : AT) (k_l0 : R l0 = 5) (k_l1 : R l1 = 6) (k_l2 : R l2 = 8) (g0 : -999 ≤ l5.toInt ∧ l5.toInt ≤ 2088) (g1 : -999 ≤ l6.toInt ∧ l6.toInt ≤ 15156) (hx0 : ∀ (T : AT), (IV R B K1 K2 T) → (FW R [224, 229, 230, 258, 1472, 3202] T00 T) → Tot (oif (oO T l0 5 = true) <| obind (g_X5_finish T l0 l1 l2) fun T_25 => g_X5_recordPoint_b89 T_25) Q) : ∀ (n : Nat) (T : AT) (l7 : Int32), (IV R B K1 K2 T) → (FW R [224, 229, 230, 258, 1472, 3202] T00 T) → (0 ≤ l7.toInt ∧ l7.toInt ≤ 200) → 200 - l7.toInt < (n : Int) → Tot (g_X5_recordPoint_b53 n T l0 l1 l2 l5 l6 l7) Q := by
  have z0 : (Int32.ofInt (1) : Int32).toInt = 1 := by decide
  have cc_101 : cnt 101 = 1 := rfl
  have cc_102 : cnt 102 = 12 := rfl
  have cc_103 : cnt 103 = 144 := rfl
  have cc_104 : cnt 104 = 2400 := rfl
  have cc_105 : cnt 105 = 7200 := rfl
  have j_l5 := i_any l5
  have j_l6 := i_any l6
  intro n
  induction n with
  | zero =>
    intro T l7 h_T x_T g_l7 hm
    exfalso
    omega
  | succ n ih =>
    intro T l7 h_T x_T g_l7 hm
    unfold g_X5_recordPoint_b53
    refine tot_oif (iv_oO h_T k_l1 (by decide) (by decide) rfl) ?_
    refine tot_let (fun v_24 e_v_24 => ?_)
    have r_v_24 : 0 ≤ v_24.toInt ∧ v_24.toInt ≤ 200 := iv_int h_T k_l1 (by decide) (by decide) e_v_24 rfl
    refine tot_if (fun c_29 => ?_) (fun c_29 => ?_)
    · replace c_29 := i_le c_29
      exact hx0 T h_T x_T
    · replace c_29 := i_nle c_29
      refine tot_oif (iv_oO h_T k_l0 (by decide) (by decide) rfl) ?_
      refine tot_ref h_T k_l0 (by decide) (by decide) (r2 := 7) (rfl : rtg 5 1 = 7) (by decide) (fun n_26 k_n_26 e_n_26 => ?_)
      refine tot_oif (iv_oO h_T k_l0 (by decide) (by decide) rfl) ?_
      refine tot_bind (cs_X5_hear T l0 l1 n_26 l5 l6 l7 h_T k_l0 k_l1 k_n_26 (by omega) (by omega) (by omega)) (fun T_27 d_T_27 => ?_)
      have h_T_27 : IV R B K1 K2 T_27 := d_T_27.1
      have y_T_27 : FW R [1472] T T_27 := d_T_27.2
      have x_T_27 := x_T.tr (y_T_27.w (by decide))
      refine tot_let (fun v_28 e_v_28 => ?_)
      have q_v_28 := i_add e_v_28 (by omega) (by omega)
      exact ih T_27 v_28 h_T_27 x_T_27 (by omega) (by omega)
set_option maxHeartbeats 4000000 in
set_option maxRecDepth 10000 in
theorem cs_X5_recordPoint {R : Nat → Nat} {B K1 K2 : Nat} (T : AT) (o : Nat) (a0 : Nat) (a1 : Nat) (a2 : Int32) (a3 : Int32) (h_T : IV R B K1 K2 T) (k_o : R o = 5) (k_a0 : R a0 = 6) (k_a1 : R a1 = 8) (g0 : 0 ≤ a2.toInt ∧ a2.toInt ≤ 143) (g1 : 2 ≤ a3.toInt ∧ a3.toInt ≤ 99) : Tot (g_X5_recordPoint T o a0 a1 a2 a3) (fun T1 => IV R B K1 K2 T1 ∧ FW R [224, 229, 230, 258, 1472, 3202] T T1) := by
  have z0 : (0 : Int32).toInt = 0 := by decide
  have z1 : (100 : Int32).toInt = 100 := by decide
  have cc_101 : cnt 101 = 1 := rfl
  have cc_102 : cnt 102 = 12 := rfl
  have cc_103 : cnt 103 = 144 := rfl
  have cc_104 : cnt 104 = 2400 := rfl
  have cc_105 : cnt 105 = 7200 := rfl
  have x_T : FW R [224, 229, 230, 258, 1472, 3202] T T := FW.rf
  have j_a2 := i_any a2
  have j_a3 := i_any a3
  unfold g_X5_recordPoint
  refine tot_oif (iv_oO h_T k_o (by decide) (by decide) rfl) ?_
  refine tot_bind (cs_X5_silence T o h_T k_o ) (fun T_1 d_T_1 => ?_)
  have h_T_1 : IV R B K1 K2 T_1 := d_T_1.1
  have y_T_1 : FW R [1472] T T_1 := d_T_1.2
  have x_T_1 := x_T.tr (y_T_1.w (by decide))
  refine tot_oif (iv_oO h_T_1 k_o (by decide) (by decide) rfl) ?_
  refine tot_ref h_T_1 k_o (by decide) (by decide) (r2 := 7) (rfl : rtg 5 1 = 7) (by decide) (fun n_2 k_n_2 e_n_2 => ?_)
  refine tot_oif (iv_oO h_T_1 k_n_2 (by decide) (by decide) rfl) ?_
  refine tot_let (fun T_3 e_T_3 => ?_)
  have h_T_3 : IV R B K1 K2 T_3 := by rw [e_T_3]; exact iv_uI (a := 0) (b := 3) h_T_1 k_n_2 (by decide) (by decide) rfl (by omega) (.inl rfl)
  have x_T_3 := x_T_1.tr (fw_uI e_T_3 k_n_2 (by decide))
  refine tot_oif (iv_oO h_T_3 k_o (by decide) (by decide) rfl) ?_
  refine tot_ref h_T_3 k_o (by decide) (by decide) (r2 := 7) (rfl : rtg 5 1 = 7) (by decide) (fun n_4 k_n_4 e_n_4 => ?_)
  refine tot_oif (iv_oO h_T_3 k_n_4 (by decide) (by decide) rfl) ?_
  refine tot_let (fun T_5 e_T_5 => ?_)
  have h_T_5 : IV R B K1 K2 T_5 := by rw [e_T_5]; exact iv_uI (a := 0) (b := 999) h_T_3 k_n_4 (by decide) (by decide) rfl (by omega) (.inl rfl)
  have x_T_5 := x_T_3.tr (fw_uI e_T_5 k_n_4 (by decide))
  refine tot_oif (iv_oO h_T_5 k_o (by decide) (by decide) rfl) ?_
  refine tot_ref h_T_5 k_o (by decide) (by decide) (r2 := 7) (rfl : rtg 5 1 = 7) (by decide) (fun n_6 k_n_6 e_n_6 => ?_)
  refine tot_oif (iv_oO h_T_5 k_n_6 (by decide) (by decide) rfl) ?_
  refine tot_let (fun T_7 e_T_7 => ?_)
  have h_T_7 : IV R B K1 K2 T_7 := by rw [e_T_7]; exact iv_uI (a := 0) (b := 99) h_T_5 k_n_6 (by decide) (by decide) rfl (by omega) (.inl rfl)
  have x_T_7 := x_T_5.tr (fw_uI e_T_7 k_n_6 (by decide))
  refine tot_oif (iv_oO h_T_7 k_a0 (by decide) (by decide) rfl) ?_
  refine tot_ref h_T_7 k_a0 (by decide) (by decide) (r2 := 1) (rfl : rtg 6 6 = 1) (by decide) (fun n_8 k_n_8 e_n_8 => ?_)
  refine tot_oif (iv_oO h_T_7 k_n_8 (by decide) (by decide) rfl) ?_
  refine tot_bindq (R := fun r_9 : Int32 => (-999 ≤ r_9.toInt ∧ r_9.toInt ≤ 2088)) (cs_X1_centreX T_7 n_8 a2 h_T_7 k_n_8 (by omega)) (fun r_9 d_r_9 => ?_)
  replace d_r_9 : (-999 ≤ r_9.toInt ∧ r_9.toInt ≤ 2088) := d_r_9
  refine tot_oif (iv_oO h_T_7 k_a0 (by decide) (by decide) rfl) ?_
  refine tot_ref1 e_n_8 ?_
  refine tot_oif (iv_oO h_T_7 k_n_8 (by decide) (by decide) rfl) ?_
  refine tot_bindq (R := fun r_12 : Int32 => (-999 ≤ r_12.toInt ∧ r_12.toInt ≤ 15156)) (cs_X1_centreY T_7 n_8 a2 h_T_7 k_n_8 (by omega)) (fun r_12 d_r_12 => ?_)
  replace d_r_12 : (-999 ≤ r_12.toInt ∧ r_12.toInt ≤ 15156) := d_r_12
  refine cl_X5_recordPoint_b53 o a0 a1 r_9 r_12 T k_o k_a0 k_a1 (by omega) (by omega) ?_ 16384 T_7 0 h_T_7 x_T_7 (by omega) (by omega)
  · intro T_30 h_T_30 x_T_30
    refine tot_oif (iv_oO h_T_30 k_o (by decide) (by decide) rfl) ?_
    refine tot_bind (cs_X5_finish T_30 o a0 a1 h_T_30 k_o k_a0 k_a1 ) (fun T_31 d_T_31 => ?_)
    have h_T_31 : IV R B K1 K2 T_31 := d_T_31.1
    have y_T_31 : FW R [258, 3202] T_30 T_31 := d_T_31.2
    have x_T_31 := x_T_30.tr (y_T_31.w (by decide))
    unfold g_X5_recordPoint_b89
    exact tot_some ⟨h_T_31, x_T_31⟩
set_option maxHeartbeats 4000000 in
set_option maxRecDepth 10000 in
theorem cl_X6_delaysFrom_b3 {R : Nat → Nat} {B K1 K2 : Nat} {Q : AT → Prop} (l0 : Nat) (l1 : Int32) (l2 : Int32) (l3 : Nat) (T00 : AT) (k_l0 : R l0 = 6) (k_l3 : R l3 = 50) (g0 : -9999 ≤ l1.toInt ∧ l1.toInt ≤ 17144) (g1 : -9999 ≤ l2.toInt ∧ l2.toInt ≤ 17144) (hx0 : ∀ (T : AT), (IV R B K1 K2 T) → (FW R [1600] T00 T) → Tot (some (T)) Q) : ∀ (n : Nat) (T : AT) (l4 : Int32), (IV R B K1 K2 T) → (FW R [1600] T00 T) → (0 ≤ l4.toInt ∧ l4.toInt ≤ 12) → 12 - l4.toInt < (n : Int) → Tot (g_X6_delaysFrom_b3 n T l0 l1 l2 l3 l4) Q := by
  have z0 : (Int32.ofInt (1) : Int32).toInt = 1 := by decide
  have cc_101 : cnt 101 = 1 := rfl
  have cc_102 : cnt 102 = 12 := rfl
  have cc_103 : cnt 103 = 144 := rfl
  have cc_104 : cnt 104 = 2400 := rfl
  have cc_105 : cnt 105 = 7200 := rfl
  have j_l1 := i_any l1
  have j_l2 := i_any l2
  intro n
  induction n with
  | zero =>
    intro T l4 h_T x_T g_l4 hm
    exfalso
    omega
  | succ n ih =>
    intro T l4 h_T x_T g_l4 hm
    unfold g_X6_delaysFrom_b3
    refine tot_oif (iv_oO h_T k_l0 (by decide) (by decide) rfl) ?_
    refine tot_let (fun v_15 e_v_15 => ?_)
    have r_v_15 : 0 ≤ v_15.toInt ∧ v_15.toInt ≤ 12 := iv_int h_T k_l0 (by decide) (by decide) e_v_15 rfl
    refine tot_if (fun c_22 => ?_) (fun c_22 => ?_)
    · replace c_22 := i_le c_22
      exact hx0 T h_T x_T
    · replace c_22 := i_nle c_22
      refine tot_oif (iv_oO h_T k_l0 (by decide) (by decide) rfl) ?_
      refine tot_ref h_T k_l0 (by decide) (by decide) (r2 := 53) (rfl : rtg 6 4 = 53) (by decide) (fun n_16 k_n_16 e_n_16 => ?_)
      refine tot_oif (iv_aA h_T k_n_16 (by decide) (by decide) rfl rfl) ?_
      refine tot_oif (by rw [iv_len h_T k_n_16 (by decide) (by decide) (rfl : shp 53 = (103, 12))]; exact i_inb (by omega) (by omega)) ?_
      refine tot_ref h_T k_n_16 (by decide) (by decide) (r2 := 2) (rt_53 (by omega) (by omega)) (by decide) (fun n_17 k_n_17 e_n_17 => ?_)
      refine tot_oif (iv_oO h_T k_l0 (by decide) (by decide) rfl) ?_
      refine tot_bindq (R := fun r_18 : Int32 => True) (cs_X6_delayFrom T l0 n_17 l1 l2 h_T k_l0 k_n_17 (by omega) (by omega)) (fun r_18 d_r_18 => ?_)
      have r_r_18 := i_any r_18
      refine tot_oif (iv_aA h_T k_l3 (by decide) (by decide) rfl rfl) ?_
      refine tot_oif (by rw [iv_len h_T k_l3 (by decide) (by decide) (rfl : shp 50 = (100, 12))]; exact i_inb (by omega) (by omega)) ?_
      refine tot_let (fun T_20 e_T_20 => ?_)
      have ja_T_20 := i_any r_18
      have h_T_20 : IV R B K1 K2 T_20 := by rw [e_T_20]; exact iv_uI (a := -2147483648) (b := 2147483647) h_T k_l3 (by decide) (by decide) rfl (by omega) (.inl rfl)
      have x_T_20 := x_T.tr (fw_uA e_T_20 k_l3 rfl rfl (by decide))
      refine tot_let (fun v_21 e_v_21 => ?_)
      have q_v_21 := i_add e_v_21 (by omega) (by omega)
      exact ih T_20 v_21 h_T_20 x_T_20 (by omega) (by omega)
set_option maxHeartbeats 4000000 in
set_option maxRecDepth 10000 in
theorem cs_X6_delaysFrom {R : Nat → Nat} {B K1 K2 : Nat} (T : AT) (o : Nat) (a0 : Int32) (a1 : Int32) (a2 : Nat) (h_T : IV R B K1 K2 T) (k_o : R o = 6) (k_a2 : R a2 = 50) (g0 : -9999 ≤ a0.toInt ∧ a0.toInt ≤ 17144) (g1 : -9999 ≤ a1.toInt ∧ a1.toInt ≤ 17144) : Tot (g_X6_delaysFrom T o a0 a1 a2) (fun T1 => IV R B K1 K2 T1 ∧ FW R [1600] T T1) := by
  have z0 : (0 : Int32).toInt = 0 := by decide
  have cc_101 : cnt 101 = 1 := rfl
  have cc_102 : cnt 102 = 12 := rfl
  have cc_103 : cnt 103 = 144 := rfl
  have cc_104 : cnt 104 = 2400 := rfl
  have cc_105 : cnt 105 = 7200 := rfl
  have x_T : FW R [1600] T T := FW.rf
  have j_a0 := i_any a0
  have j_a1 := i_any a1
  unfold g_X6_delaysFrom
  refine cl_X6_delaysFrom_b3 o a0 a1 a2 T k_o k_a2 (by omega) (by omega) ?_ 16384 T 0 h_T x_T (by omega) (by omega)
  · intro T_23 h_T_23 x_T_23
    exact tot_some ⟨h_T_23, x_T_23⟩
set_option maxHeartbeats 4000000 in
set_option maxRecDepth 10000 in
theorem cl_X6_measureDelays_b2 {R : Nat → Nat} {B K1 K2 : Nat} {Q : AT → Prop} (l0 : Nat) (T00 : AT) (k_l0 : R l0 = 6) (hx0 : ∀ (T : AT), (IV R B K1 K2 T) → (FW R [1600] T00 T) → Tot (some (T)) Q) : ∀ (n : Nat) (T : AT) (l1 : Int32), (IV R B K1 K2 T) → (FW R [1600] T00 T) → (0 ≤ l1.toInt ∧ l1.toInt ≤ 144) → 144 - l1.toInt < (n : Int) → Tot (g_X6_measureDelays_b2 n T l0 l1) Q := by
  have z0 : (Int32.ofInt (1) : Int32).toInt = 1 := by decide
  have cc_101 : cnt 101 = 1 := rfl
  have cc_102 : cnt 102 = 12 := rfl
  have cc_103 : cnt 103 = 144 := rfl
  have cc_104 : cnt 104 = 2400 := rfl
  have cc_105 : cnt 105 = 7200 := rfl
  intro n
  induction n with
  | zero =>
    intro T l1 h_T x_T g_l1 hm
    exfalso
    omega
  | succ n ih =>
    intro T l1 h_T x_T g_l1 hm
    unfold g_X6_measureDelays_b2
    refine tot_oif (iv_oO h_T k_l0 (by decide) (by decide) rfl) ?_
    refine tot_ref h_T k_l0 (by decide) (by decide) (r2 := 1) (rfl : rtg 6 6 = 1) (by decide) (fun n_27 k_n_27 e_n_27 => ?_)
    refine tot_oif (iv_oO h_T k_n_27 (by decide) (by decide) rfl) ?_
    refine tot_bindq (R := fun r_28 : Int32 => (0 ≤ r_28.toInt ∧ r_28.toInt ≤ 144)) (cs_X1_cells T n_27 h_T k_n_27 ) (fun r_28 d_r_28 => ?_)
    replace d_r_28 : (0 ≤ r_28.toInt ∧ r_28.toInt ≤ 144) := d_r_28
    refine tot_if (fun c_40 => ?_) (fun c_40 => ?_)
    · replace c_40 := i_le c_40
      exact hx0 T h_T x_T
    · replace c_40 := i_nle c_40
      refine tot_oif (iv_oO h_T k_l0 (by decide) (by decide) rfl) ?_
      refine tot_ref1 e_n_27 ?_
      refine tot_oif (iv_oO h_T k_n_27 (by decide) (by decide) rfl) ?_
      refine tot_bindq (R := fun r_31 : Int32 => (-999 ≤ r_31.toInt ∧ r_31.toInt ≤ 2088)) (cs_X1_centreX T n_27 l1 h_T k_n_27 (by omega)) (fun r_31 d_r_31 => ?_)
      replace d_r_31 : (-999 ≤ r_31.toInt ∧ r_31.toInt ≤ 2088) := d_r_31
      refine tot_oif (iv_oO h_T k_l0 (by decide) (by decide) rfl) ?_
      refine tot_ref1 e_n_27 ?_
      refine tot_oif (iv_oO h_T k_n_27 (by decide) (by decide) rfl) ?_
      refine tot_bindq (R := fun r_34 : Int32 => (-999 ≤ r_34.toInt ∧ r_34.toInt ≤ 15156)) (cs_X1_centreY T n_27 l1 h_T k_n_27 (by omega)) (fun r_34 d_r_34 => ?_)
      replace d_r_34 : (-999 ≤ r_34.toInt ∧ r_34.toInt ≤ 15156) := d_r_34
      refine tot_oif (iv_oO h_T k_l0 (by decide) (by decide) rfl) ?_
      refine tot_ref h_T k_l0 (by decide) (by decide) (r2 := 51) (rfl : rtg 6 17 = 51) (by decide) (fun n_36 k_n_36 e_n_36 => ?_)
      refine tot_oif (iv_aA h_T k_n_36 (by decide) (by decide) rfl rfl) ?_
      refine tot_oif (by rw [iv_len h_T k_n_36 (by decide) (by decide) (rfl : shp 51 = (106, 144))]; exact i_inb (by omega) (by omega)) ?_
      refine tot_ref h_T k_n_36 (by decide) (by decide) (r2 := 50) (rt_51 (by omega) (by omega)) (by decide) (fun n_37 k_n_37 e_n_37 => ?_)
      refine tot_oif (iv_oO h_T k_l0 (by decide) (by decide) rfl) ?_
      refine tot_bind (cs_X6_delaysFrom T l0 r_31 r_34 n_37 h_T k_l0 k_n_37 (by omega) (by omega)) (fun T_38 d_T_38 => ?_)
      have h_T_38 : IV R B K1 K2 T_38 := d_T_38.1
      have y_T_38 : FW R [1600] T T_38 := d_T_38.2
      have x_T_38 := x_T.tr (y_T_38.w (by decide))
      refine tot_let (fun v_39 e_v_39 => ?_)
      have q_v_39 := i_add e_v_39 (by omega) (by omega)
      exact ih T_38 v_39 h_T_38 x_T_38 (by omega) (by omega)
set_option maxHeartbeats 4000000 in
set_option maxRecDepth 10000 in
theorem cs_X6_measureDelays {R : Nat → Nat} {B K1 K2 : Nat} (T : AT) (o : Nat) (h_T : IV R B K1 K2 T) (k_o : R o = 6) : Tot (g_X6_measureDelays T o) (fun T1 => IV R B K1 K2 T1 ∧ FW R [1600] T T1) := by
  have z0 : (0 : Int32).toInt = 0 := by decide
  have cc_101 : cnt 101 = 1 := rfl
  have cc_102 : cnt 102 = 12 := rfl
  have cc_103 : cnt 103 = 144 := rfl
  have cc_104 : cnt 104 = 2400 := rfl
  have cc_105 : cnt 105 = 7200 := rfl
  have x_T : FW R [1600] T T := FW.rf
  unfold g_X6_measureDelays
  refine cl_X6_measureDelays_b2 o T k_o ?_ 16384 T 0 h_T x_T (by omega) (by omega)
  · intro T_41 h_T_41 x_T_41
    exact tot_some ⟨h_T_41, x_T_41⟩
set_option maxHeartbeats 4000000 in
set_option maxRecDepth 10000 in
theorem cl_X8_begin_b18 {R : Nat → Nat} {B K1 K2 : Nat} {Q : AT → Prop} (l0 : Nat) (l1 : Nat) (T00 : AT) (k_l0 : R l0 = 8) (k_l1 : R l1 = 6) (hx0 : ∀ (T : AT), (IV R B K1 K2 T) → (FW R [256, 257, 1984, 2016, 2048, 2080, 2112] T00 T) → Tot (g_X8_begin_b63 16384 T l0 l1 0) Q) : ∀ (n : Nat) (T : AT) (l2 : Int32), (IV R B K1 K2 T) → (FW R [256, 257, 1984, 2016, 2048, 2080, 2112] T00 T) → (0 ≤ l2.toInt ∧ l2.toInt ≤ 12) → 12 - l2.toInt < (n : Int) → Tot (g_X8_begin_b18 n T l0 l1 l2) Q := by
  have z0 : (12 : Int32).toInt = 12 := by decide
  have z1 : (0 : Int32).toInt = 0 := by decide
  have z2 : (1 : Int32).toInt = 1 := by decide
  have z3 : (Int32.ofInt (1) : Int32).toInt = 1 := by decide
  have cc_101 : cnt 101 = 1 := rfl
  have cc_102 : cnt 102 = 12 := rfl
  have cc_103 : cnt 103 = 144 := rfl
  have cc_104 : cnt 104 = 2400 := rfl
  have cc_105 : cnt 105 = 7200 := rfl
  intro n
  induction n with
  | zero =>
    intro T l2 h_T x_T g_l2 hm
    exfalso
    omega
  | succ n ih =>
    intro T l2 h_T x_T g_l2 hm
    unfold g_X8_begin_b18
    refine tot_if (fun c_131 => ?_) (fun c_131 => ?_)
    · replace c_131 := i_le c_131
      exact hx0 T h_T x_T
    · replace c_131 := i_nle c_131
      refine tot_oif (iv_oO h_T k_l0 (by decide) (by decide) rfl) ?_
      refine tot_ref h_T k_l0 (by decide) (by decide) (r2 := 62) (rfl : rtg 8 3 = 62) (by decide) (fun n_125 k_n_125 e_n_125 => ?_)
      refine tot_oif (iv_aA h_T k_n_125 (by decide) (by decide) rfl rfl) ?_
      refine tot_oif (by rw [iv_len h_T k_n_125 (by decide) (by decide) (rfl : shp 62 = (102, 12))]; exact i_inb (by omega) (by omega)) ?_
      refine tot_let (fun T_126 e_T_126 => ?_)
      have h_T_126 : IV R B K1 K2 T_126 := by rw [e_T_126]; exact iv_uI (a := 0) (b := 1) h_T k_n_125 (by decide) (by decide) rfl (by omega) (.inl rfl)
      have x_T_126 := x_T.tr (fw_uA e_T_126 k_n_125 rfl rfl (by decide))
      refine tot_oif (iv_oO h_T_126 k_l0 (by decide) (by decide) rfl) ?_
      refine tot_ref h_T_126 k_l0 (by decide) (by decide) (r2 := 63) (rfl : rtg 8 4 = 63) (by decide) (fun n_127 k_n_127 e_n_127 => ?_)
      refine tot_oif (iv_oO h_T_126 k_l1 (by decide) (by decide) rfl) ?_
      refine tot_let (fun v_128 e_v_128 => ?_)
      have r_v_128 : 0 ≤ v_128.toInt ∧ v_128.toInt ≤ 12 := iv_int h_T_126 k_l1 (by decide) (by decide) e_v_128 rfl
      refine tot_if (fun c_132 => ?_) (fun c_132 => ?_)
      · replace c_132 := i_le c_132
        unfold g_X8_begin_b54
        refine tot_oif (iv_aA h_T_126 k_n_127 (by decide) (by decide) rfl rfl) ?_
        refine tot_oif (by rw [iv_len h_T_126 k_n_127 (by decide) (by decide) (rfl : shp 63 = (100, 12))]; exact i_inb (by omega) (by omega)) ?_
        refine tot_let (fun T_133 e_T_133 => ?_)
        have h_T_133 : IV R B K1 K2 T_133 := by rw [e_T_133]; exact iv_uI (a := 0) (b := 9) h_T_126 k_n_127 (by decide) (by decide) rfl (by omega) (.inl rfl)
        have x_T_133 := x_T_126.tr (fw_uA e_T_133 k_n_127 rfl rfl (by decide))
        refine tot_let (fun v_134 e_v_134 => ?_)
        have q_v_134 := i_add e_v_134 (by omega) (by omega)
        exact ih T_133 v_134 h_T_133 x_T_133 (by omega) (by omega)
      · replace c_132 := i_nle c_132
        refine tot_oif (iv_oO h_T_126 k_l1 (by decide) (by decide) rfl) ?_
        refine tot_ref h_T_126 k_l1 (by decide) (by decide) (r2 := 58) (rfl : rtg 6 15 = 58) (by decide) (fun n_129 k_n_129 e_n_129 => ?_)
        refine tot_oif (iv_aA h_T_126 k_n_129 (by decide) (by decide) rfl rfl) ?_
        refine tot_oif (by rw [iv_len h_T_126 k_n_129 (by decide) (by decide) (rfl : shp 58 = (100, 12))]; exact i_inb (by omega) (by omega)) ?_
        refine tot_let (fun v_130 e_v_130 => ?_)
        have r_v_130 : 0 ≤ v_130.toInt ∧ v_130.toInt ≤ 9 := iv_int h_T_126 k_n_129 (by decide) (by decide) e_v_130 rfl
        unfold g_X8_begin_b54
        refine tot_oif (iv_aA h_T_126 k_n_127 (by decide) (by decide) rfl rfl) ?_
        refine tot_oif (by rw [iv_len h_T_126 k_n_127 (by decide) (by decide) (rfl : shp 63 = (100, 12))]; exact i_inb (by omega) (by omega)) ?_
        refine tot_let (fun T_135 e_T_135 => ?_)
        have h_T_135 : IV R B K1 K2 T_135 := by rw [e_T_135]; exact iv_uI (a := 0) (b := 9) h_T_126 k_n_127 (by decide) (by decide) rfl (by omega) (.inl rfl)
        have x_T_135 := x_T_126.tr (fw_uA e_T_135 k_n_127 rfl rfl (by decide))
        refine tot_let (fun v_136 e_v_136 => ?_)
        have q_v_136 := i_add e_v_136 (by omega) (by omega)
        exact ih T_135 v_136 h_T_135 x_T_135 (by omega) (by omega)
set_option maxHeartbeats 4000000 in
set_option maxRecDepth 10000 in
theorem cl_X8_begin_b63 {R : Nat → Nat} {B K1 K2 : Nat} {Q : AT → Prop} (l0 : Nat) (l1 : Nat) (T00 : AT) (k_l0 : R l0 = 8) (k_l1 : R l1 = 6) (hx0 : ∀ (T : AT), (IV R B K1 K2 T) → (FW R [256, 257, 1984, 2016, 2048, 2080, 2112] T00 T) → Tot (some (T)) Q) : ∀ (n : Nat) (T : AT) (l2 : Int32), (IV R B K1 K2 T) → (FW R [256, 257, 1984, 2016, 2048, 2080, 2112] T00 T) → (0 ≤ l2.toInt ∧ l2.toInt ≤ 6) → 6 - l2.toInt < (n : Int) → Tot (g_X8_begin_b63 n T l0 l1 l2) Q := by
  have z0 : (6 : Int32).toInt = 6 := by decide
  have z1 : (0 : Int32).toInt = 0 := by decide
  have z2 : (1 : Int32).toInt = 1 := by decide
  have z3 : (Int32.ofInt (1) : Int32).toInt = 1 := by decide
  have cc_101 : cnt 101 = 1 := rfl
  have cc_102 : cnt 102 = 12 := rfl
  have cc_103 : cnt 103 = 144 := rfl
  have cc_104 : cnt 104 = 2400 := rfl
  have cc_105 : cnt 105 = 7200 := rfl
  intro n
  induction n with
  | zero =>
    intro T l2 h_T x_T g_l2 hm
    exfalso
    omega
  | succ n ih =>
    intro T l2 h_T x_T g_l2 hm
    unfold g_X8_begin_b63
    refine tot_if (fun c_174 => ?_) (fun c_174 => ?_)
    · replace c_174 := i_le c_174
      exact hx0 T h_T x_T
    · replace c_174 := i_nle c_174
      refine tot_oif (iv_oO h_T k_l1 (by decide) (by decide) rfl) ?_
      refine tot_ref h_T k_l1 (by decide) (by decide) (r2 := 54) (rfl : rtg 6 7 = 54) (by decide) (fun n_170 k_n_170 e_n_170 => ?_)
      refine tot_oif (iv_aA h_T k_n_170 (by decide) (by decide) rfl rfl) ?_
      refine tot_oif (by rw [iv_len h_T k_n_170 (by decide) (by decide) (rfl : shp 54 = (104, 6))]; exact i_inb (by omega) (by omega)) ?_
      refine tot_ref h_T k_n_170 (by decide) (by decide) (r2 := 7) (rt_54 (by omega) (by omega)) (by decide) (fun n_171 k_n_171 e_n_171 => ?_)
      refine tot_oif (iv_oO h_T k_l0 (by decide) (by decide) rfl) ?_
      refine tot_ref h_T k_l0 (by decide) (by decide) (r2 := 64) (rfl : rtg 8 5 = 64) (by decide) (fun n_172 k_n_172 e_n_172 => ?_)
      refine tot_oif (iv_oO h_T k_n_171 (by decide) (by decide) rfl) ?_
      refine tot_let (fun v_173 e_v_173 => ?_)
      have r_v_173 : 0 ≤ v_173.toInt ∧ v_173.toInt ≤ 1 := iv_int h_T k_n_171 (by decide) (by decide) e_v_173 rfl
      refine tot_if (fun c_175 => ?_) (fun c_175 => ?_)
      · replace c_175 := i_eq c_175
        unfold g_X8_begin_b93
        refine tot_oif (iv_aA h_T k_n_172 (by decide) (by decide) rfl rfl) ?_
        refine tot_oif (by rw [iv_len h_T k_n_172 (by decide) (by decide) (rfl : shp 64 = (102, 6))]; exact i_inb (by omega) (by omega)) ?_
        refine tot_oif (i_b01 (by omega)) ?_
        refine tot_let (fun T_176 e_T_176 => ?_)
        have h_T_176 : IV R B K1 K2 T_176 := by rw [e_T_176]; exact iv_uI (a := 0) (b := 1) h_T k_n_172 (by decide) (by decide) rfl (by omega) (.inl rfl)
        have x_T_176 := x_T.tr (fw_uA e_T_176 k_n_172 rfl rfl (by decide))
        refine tot_oif (iv_oO h_T_176 k_l0 (by decide) (by decide) rfl) ?_
        refine tot_ref h_T_176 k_l0 (by decide) (by decide) (r2 := 65) (rfl : rtg 8 6 = 65) (by decide) (fun n_177 k_n_177 e_n_177 => ?_)
        refine tot_oif (iv_oO h_T_176 k_n_171 (by decide) (by decide) rfl) ?_
        refine tot_let (fun v_178 e_v_178 => ?_)
        have r_v_178 : -2000 ≤ v_178.toInt ∧ v_178.toInt ≤ 2000 := iv_int h_T_176 k_n_171 (by decide) (by decide) e_v_178 rfl
        refine tot_oif (iv_aA h_T_176 k_n_177 (by decide) (by decide) rfl rfl) ?_
        refine tot_oif (by rw [iv_len h_T_176 k_n_177 (by decide) (by decide) (rfl : shp 65 = (100, 6))]; exact i_inb (by omega) (by omega)) ?_
        refine tot_let (fun T_179 e_T_179 => ?_)
        have h_T_179 : IV R B K1 K2 T_179 := by rw [e_T_179]; exact iv_uI (a := -2000) (b := 2000) h_T_176 k_n_177 (by decide) (by decide) rfl (by omega) (.inl rfl)
        have x_T_179 := x_T_176.tr (fw_uA e_T_179 k_n_177 rfl rfl (by decide))
        refine tot_oif (iv_oO h_T_179 k_l0 (by decide) (by decide) rfl) ?_
        refine tot_ref h_T_179 k_l0 (by decide) (by decide) (r2 := 65) (rfl : rtg 8 7 = 65) (by decide) (fun n_180 k_n_180 e_n_180 => ?_)
        refine tot_oif (iv_oO h_T_179 k_n_171 (by decide) (by decide) rfl) ?_
        refine tot_let (fun v_181 e_v_181 => ?_)
        have r_v_181 : -2000 ≤ v_181.toInt ∧ v_181.toInt ≤ 2000 := iv_int h_T_179 k_n_171 (by decide) (by decide) e_v_181 rfl
        refine tot_oif (iv_aA h_T_179 k_n_180 (by decide) (by decide) rfl rfl) ?_
        refine tot_oif (by rw [iv_len h_T_179 k_n_180 (by decide) (by decide) (rfl : shp 65 = (100, 6))]; exact i_inb (by omega) (by omega)) ?_
        refine tot_let (fun T_182 e_T_182 => ?_)
        have h_T_182 : IV R B K1 K2 T_182 := by rw [e_T_182]; exact iv_uI (a := -2000) (b := 2000) h_T_179 k_n_180 (by decide) (by decide) rfl (by omega) (.inl rfl)
        have x_T_182 := x_T_179.tr (fw_uA e_T_182 k_n_180 rfl rfl (by decide))
        refine tot_oif (iv_oO h_T_182 k_l0 (by decide) (by decide) rfl) ?_
        refine tot_ref h_T_182 k_l0 (by decide) (by decide) (r2 := 66) (rfl : rtg 8 8 = 66) (by decide) (fun n_183 k_n_183 e_n_183 => ?_)
        refine tot_oif (iv_oO h_T_182 k_n_171 (by decide) (by decide) rfl) ?_
        refine tot_let (fun v_184 e_v_184 => ?_)
        have r_v_184 : -999 ≤ v_184.toInt ∧ v_184.toInt ≤ 999 := iv_int h_T_182 k_n_171 (by decide) (by decide) e_v_184 rfl
        refine tot_oif (iv_aA h_T_182 k_n_183 (by decide) (by decide) rfl rfl) ?_
        refine tot_oif (by rw [iv_len h_T_182 k_n_183 (by decide) (by decide) (rfl : shp 66 = (100, 6))]; exact i_inb (by omega) (by omega)) ?_
        refine tot_let (fun T_185 e_T_185 => ?_)
        have h_T_185 : IV R B K1 K2 T_185 := by rw [e_T_185]; exact iv_uI (a := -999) (b := 999) h_T_182 k_n_183 (by decide) (by decide) rfl (by omega) (.inl rfl)
        have x_T_185 := x_T_182.tr (fw_uA e_T_185 k_n_183 rfl rfl (by decide))
        refine tot_oif (iv_oO h_T_185 k_l0 (by decide) (by decide) rfl) ?_
        refine tot_ref h_T_185 k_l0 (by decide) (by decide) (r2 := 66) (rfl : rtg 8 9 = 66) (by decide) (fun n_186 k_n_186 e_n_186 => ?_)
        refine tot_oif (iv_oO h_T_185 k_n_171 (by decide) (by decide) rfl) ?_
        refine tot_let (fun v_187 e_v_187 => ?_)
        have r_v_187 : -999 ≤ v_187.toInt ∧ v_187.toInt ≤ 999 := iv_int h_T_185 k_n_171 (by decide) (by decide) e_v_187 rfl
        refine tot_oif (iv_aA h_T_185 k_n_186 (by decide) (by decide) rfl rfl) ?_
        refine tot_oif (by rw [iv_len h_T_185 k_n_186 (by decide) (by decide) (rfl : shp 66 = (100, 6))]; exact i_inb (by omega) (by omega)) ?_
        refine tot_let (fun T_188 e_T_188 => ?_)
        have h_T_188 : IV R B K1 K2 T_188 := by rw [e_T_188]; exact iv_uI (a := -999) (b := 999) h_T_185 k_n_186 (by decide) (by decide) rfl (by omega) (.inl rfl)
        have x_T_188 := x_T_185.tr (fw_uA e_T_188 k_n_186 rfl rfl (by decide))
        refine tot_let (fun v_189 e_v_189 => ?_)
        have q_v_189 := i_add e_v_189 (by omega) (by omega)
        exact ih T_188 v_189 h_T_188 x_T_188 (by omega) (by omega)
      · replace c_175 := i_ne c_175
        unfold g_X8_begin_b93
        refine tot_oif (iv_aA h_T k_n_172 (by decide) (by decide) rfl rfl) ?_
        refine tot_oif (by rw [iv_len h_T k_n_172 (by decide) (by decide) (rfl : shp 64 = (102, 6))]; exact i_inb (by omega) (by omega)) ?_
        refine tot_oif (i_b01 (by omega)) ?_
        refine tot_let (fun T_190 e_T_190 => ?_)
        have h_T_190 : IV R B K1 K2 T_190 := by rw [e_T_190]; exact iv_uI (a := 0) (b := 1) h_T k_n_172 (by decide) (by decide) rfl (by omega) (.inl rfl)
        have x_T_190 := x_T.tr (fw_uA e_T_190 k_n_172 rfl rfl (by decide))
        refine tot_oif (iv_oO h_T_190 k_l0 (by decide) (by decide) rfl) ?_
        refine tot_ref h_T_190 k_l0 (by decide) (by decide) (r2 := 65) (rfl : rtg 8 6 = 65) (by decide) (fun n_191 k_n_191 e_n_191 => ?_)
        refine tot_oif (iv_oO h_T_190 k_n_171 (by decide) (by decide) rfl) ?_
        refine tot_let (fun v_192 e_v_192 => ?_)
        have r_v_192 : -2000 ≤ v_192.toInt ∧ v_192.toInt ≤ 2000 := iv_int h_T_190 k_n_171 (by decide) (by decide) e_v_192 rfl
        refine tot_oif (iv_aA h_T_190 k_n_191 (by decide) (by decide) rfl rfl) ?_
        refine tot_oif (by rw [iv_len h_T_190 k_n_191 (by decide) (by decide) (rfl : shp 65 = (100, 6))]; exact i_inb (by omega) (by omega)) ?_
        refine tot_let (fun T_193 e_T_193 => ?_)
        have h_T_193 : IV R B K1 K2 T_193 := by rw [e_T_193]; exact iv_uI (a := -2000) (b := 2000) h_T_190 k_n_191 (by decide) (by decide) rfl (by omega) (.inl rfl)
        have x_T_193 := x_T_190.tr (fw_uA e_T_193 k_n_191 rfl rfl (by decide))
        refine tot_oif (iv_oO h_T_193 k_l0 (by decide) (by decide) rfl) ?_
        refine tot_ref h_T_193 k_l0 (by decide) (by decide) (r2 := 65) (rfl : rtg 8 7 = 65) (by decide) (fun n_194 k_n_194 e_n_194 => ?_)
        refine tot_oif (iv_oO h_T_193 k_n_171 (by decide) (by decide) rfl) ?_
        refine tot_let (fun v_195 e_v_195 => ?_)
        have r_v_195 : -2000 ≤ v_195.toInt ∧ v_195.toInt ≤ 2000 := iv_int h_T_193 k_n_171 (by decide) (by decide) e_v_195 rfl
        refine tot_oif (iv_aA h_T_193 k_n_194 (by decide) (by decide) rfl rfl) ?_
        refine tot_oif (by rw [iv_len h_T_193 k_n_194 (by decide) (by decide) (rfl : shp 65 = (100, 6))]; exact i_inb (by omega) (by omega)) ?_
        refine tot_let (fun T_196 e_T_196 => ?_)
        have h_T_196 : IV R B K1 K2 T_196 := by rw [e_T_196]; exact iv_uI (a := -2000) (b := 2000) h_T_193 k_n_194 (by decide) (by decide) rfl (by omega) (.inl rfl)
        have x_T_196 := x_T_193.tr (fw_uA e_T_196 k_n_194 rfl rfl (by decide))
        refine tot_oif (iv_oO h_T_196 k_l0 (by decide) (by decide) rfl) ?_
        refine tot_ref h_T_196 k_l0 (by decide) (by decide) (r2 := 66) (rfl : rtg 8 8 = 66) (by decide) (fun n_197 k_n_197 e_n_197 => ?_)
        refine tot_oif (iv_oO h_T_196 k_n_171 (by decide) (by decide) rfl) ?_
        refine tot_let (fun v_198 e_v_198 => ?_)
        have r_v_198 : -999 ≤ v_198.toInt ∧ v_198.toInt ≤ 999 := iv_int h_T_196 k_n_171 (by decide) (by decide) e_v_198 rfl
        refine tot_oif (iv_aA h_T_196 k_n_197 (by decide) (by decide) rfl rfl) ?_
        refine tot_oif (by rw [iv_len h_T_196 k_n_197 (by decide) (by decide) (rfl : shp 66 = (100, 6))]; exact i_inb (by omega) (by omega)) ?_
        refine tot_let (fun T_199 e_T_199 => ?_)
        have h_T_199 : IV R B K1 K2 T_199 := by rw [e_T_199]; exact iv_uI (a := -999) (b := 999) h_T_196 k_n_197 (by decide) (by decide) rfl (by omega) (.inl rfl)
        have x_T_199 := x_T_196.tr (fw_uA e_T_199 k_n_197 rfl rfl (by decide))
        refine tot_oif (iv_oO h_T_199 k_l0 (by decide) (by decide) rfl) ?_
        refine tot_ref h_T_199 k_l0 (by decide) (by decide) (r2 := 66) (rfl : rtg 8 9 = 66) (by decide) (fun n_200 k_n_200 e_n_200 => ?_)
        refine tot_oif (iv_oO h_T_199 k_n_171 (by decide) (by decide) rfl) ?_
        refine tot_let (fun v_201 e_v_201 => ?_)
        have r_v_201 : -999 ≤ v_201.toInt ∧ v_201.toInt ≤ 999 := iv_int h_T_199 k_n_171 (by decide) (by decide) e_v_201 rfl
        refine tot_oif (iv_aA h_T_199 k_n_200 (by decide) (by decide) rfl rfl) ?_
        refine tot_oif (by rw [iv_len h_T_199 k_n_200 (by decide) (by decide) (rfl : shp 66 = (100, 6))]; exact i_inb (by omega) (by omega)) ?_
        refine tot_let (fun T_202 e_T_202 => ?_)
        have h_T_202 : IV R B K1 K2 T_202 := by rw [e_T_202]; exact iv_uI (a := -999) (b := 999) h_T_199 k_n_200 (by decide) (by decide) rfl (by omega) (.inl rfl)
        have x_T_202 := x_T_199.tr (fw_uA e_T_202 k_n_200 rfl rfl (by decide))
        refine tot_let (fun v_203 e_v_203 => ?_)
        have q_v_203 := i_add e_v_203 (by omega) (by omega)
        exact ih T_202 v_203 h_T_202 x_T_202 (by omega) (by omega)
set_option maxHeartbeats 4000000 in
set_option maxRecDepth 10000 in
theorem cs_X8_begin {R : Nat → Nat} {B K1 K2 : Nat} (T : AT) (o : Nat) (a0 : Nat) (h_T : IV R B K1 K2 T) (k_o : R o = 8) (k_a0 : R a0 = 6) : Tot (g_X8_begin T o a0) (fun T1 => IV R B K1 K2 T1 ∧ FW R [256, 257, 1984, 2016, 2048, 2080, 2112] T T1) := by
  have z0 : (0 : Int32).toInt = 0 := by decide
  have cc_101 : cnt 101 = 1 := rfl
  have cc_102 : cnt 102 = 12 := rfl
  have cc_103 : cnt 103 = 144 := rfl
  have cc_104 : cnt 104 = 2400 := rfl
  have cc_105 : cnt 105 = 7200 := rfl
  have x_T : FW R [256, 257, 1984, 2016, 2048, 2080, 2112] T T := FW.rf
  unfold g_X8_begin
  refine tot_oif (iv_oO h_T k_a0 (by decide) (by decide) rfl) ?_
  refine tot_let (fun v_1 e_v_1 => ?_)
  have r_v_1 : 0 ≤ v_1.toInt ∧ v_1.toInt ≤ 12 := iv_int h_T k_a0 (by decide) (by decide) e_v_1 rfl
  refine tot_oif (iv_oO h_T k_o (by decide) (by decide) rfl) ?_
  refine tot_let (fun T_2 e_T_2 => ?_)
  have h_T_2 : IV R B K1 K2 T_2 := by rw [e_T_2]; exact iv_uI (a := 0) (b := 12) h_T k_o (by decide) (by decide) rfl (by omega) (.inl rfl)
  have x_T_2 := x_T.tr (fw_uI e_T_2 k_o (by decide))
  refine tot_oif (iv_oO h_T_2 k_a0 (by decide) (by decide) rfl) ?_
  refine tot_let (fun v_3 e_v_3 => ?_)
  have r_v_3 : 0 ≤ v_3.toInt ∧ v_3.toInt ≤ 200 := iv_int h_T_2 k_a0 (by decide) (by decide) e_v_3 rfl
  refine tot_oif (iv_oO h_T_2 k_o (by decide) (by decide) rfl) ?_
  refine tot_let (fun T_4 e_T_4 => ?_)
  have h_T_4 : IV R B K1 K2 T_4 := by rw [e_T_4]; exact iv_uI (a := 0) (b := 200) h_T_2 k_o (by decide) (by decide) rfl (by omega) (.inl rfl)
  have x_T_4 := x_T_2.tr (fw_uI e_T_4 k_o (by decide))
  refine cl_X8_begin_b18 o a0 T k_o k_a0 ?_ 16384 T_4 0 h_T_4 x_T_4 (by omega) (by omega)
  · intro T_137 h_T_137 x_T_137
    refine cl_X8_begin_b63 o a0 T k_o k_a0 ?_ 16384 T_137 0 h_T_137 x_T_137 (by omega) (by omega)
    · intro T_204 h_T_204 x_T_204
      exact tot_some ⟨h_T_204, x_T_204⟩
set_option maxHeartbeats 4000000 in
set_option maxRecDepth 10000 in
theorem cl_X8_copyFrom_b26 {R : Nat → Nat} {B K1 K2 : Nat} {Q : AT → Prop} (l0 : Nat) (l1 : Nat) (T00 : AT) (k_l0 : R l0 = 8) (k_l1 : R l1 = 8) (hx0 : ∀ (T : AT), (IV R B K1 K2 T) → (FW R [256, 257, 258, 1984, 2016, 2048, 2080, 2112, 3202] T00 T) → Tot (g_X8_copyFrom_b64 16384 T l0 l1 0) Q) : ∀ (n : Nat) (T : AT) (l2 : Int32), (IV R B K1 K2 T) → (FW R [256, 257, 258, 1984, 2016, 2048, 2080, 2112, 3202] T00 T) → (0 ≤ l2.toInt ∧ l2.toInt ≤ 12) → 12 - l2.toInt < (n : Int) → Tot (g_X8_copyFrom_b26 n T l0 l1 l2) Q := by
  have z0 : (12 : Int32).toInt = 12 := by decide
  have z1 : (Int32.ofInt (1) : Int32).toInt = 1 := by decide
  have cc_101 : cnt 101 = 1 := rfl
  have cc_102 : cnt 102 = 12 := rfl
  have cc_103 : cnt 103 = 144 := rfl
  have cc_104 : cnt 104 = 2400 := rfl
  have cc_105 : cnt 105 = 7200 := rfl
  intro n
  induction n with
  | zero =>
    intro T l2 h_T x_T g_l2 hm
    exfalso
    omega
  | succ n ih =>
    intro T l2 h_T x_T g_l2 hm
    unfold g_X8_copyFrom_b26
    refine tot_if (fun c_110 => ?_) (fun c_110 => ?_)
    · replace c_110 := i_le c_110
      exact hx0 T h_T x_T
    · replace c_110 := i_nle c_110
      refine tot_oif (iv_oO h_T k_l0 (by decide) (by decide) rfl) ?_
      refine tot_ref h_T k_l0 (by decide) (by decide) (r2 := 62) (rfl : rtg 8 3 = 62) (by decide) (fun n_101 k_n_101 e_n_101 => ?_)
      refine tot_oif (iv_oO h_T k_l1 (by decide) (by decide) rfl) ?_
      refine tot_ref h_T k_l1 (by decide) (by decide) (r2 := 62) (rfl : rtg 8 3 = 62) (by decide) (fun n_102 k_n_102 e_n_102 => ?_)
      refine tot_oif (iv_aA h_T k_n_102 (by decide) (by decide) rfl rfl) ?_
      refine tot_oif (by rw [iv_len h_T k_n_102 (by decide) (by decide) (rfl : shp 62 = (102, 12))]; exact i_inb (by omega) (by omega)) ?_
      refine tot_let (fun v_103 e_v_103 => ?_)
      have r_v_103 : 0 ≤ v_103.toInt ∧ v_103.toInt ≤ 1 := iv_int h_T k_n_102 (by decide) (by decide) e_v_103 rfl
      refine tot_oif (iv_aA h_T k_n_101 (by decide) (by decide) rfl rfl) ?_
      refine tot_oif (by rw [iv_len h_T k_n_101 (by decide) (by decide) (rfl : shp 62 = (102, 12))]; exact i_inb (by omega) (by omega)) ?_
      refine tot_oif (i_b01 (by omega)) ?_
      refine tot_let (fun T_104 e_T_104 => ?_)
      have h_T_104 : IV R B K1 K2 T_104 := by rw [e_T_104]; exact iv_uI (a := 0) (b := 1) h_T k_n_101 (by decide) (by decide) rfl (by omega) (.inl rfl)
      have x_T_104 := x_T.tr (fw_uA e_T_104 k_n_101 rfl rfl (by decide))
      refine tot_oif (iv_oO h_T_104 k_l0 (by decide) (by decide) rfl) ?_
      refine tot_ref h_T_104 k_l0 (by decide) (by decide) (r2 := 63) (rfl : rtg 8 4 = 63) (by decide) (fun n_105 k_n_105 e_n_105 => ?_)
      refine tot_oif (iv_oO h_T_104 k_l1 (by decide) (by decide) rfl) ?_
      refine tot_ref h_T_104 k_l1 (by decide) (by decide) (r2 := 63) (rfl : rtg 8 4 = 63) (by decide) (fun n_106 k_n_106 e_n_106 => ?_)
      refine tot_oif (iv_aA h_T_104 k_n_106 (by decide) (by decide) rfl rfl) ?_
      refine tot_oif (by rw [iv_len h_T_104 k_n_106 (by decide) (by decide) (rfl : shp 63 = (100, 12))]; exact i_inb (by omega) (by omega)) ?_
      refine tot_let (fun v_107 e_v_107 => ?_)
      have r_v_107 : 0 ≤ v_107.toInt ∧ v_107.toInt ≤ 9 := iv_int h_T_104 k_n_106 (by decide) (by decide) e_v_107 rfl
      refine tot_oif (iv_aA h_T_104 k_n_105 (by decide) (by decide) rfl rfl) ?_
      refine tot_oif (by rw [iv_len h_T_104 k_n_105 (by decide) (by decide) (rfl : shp 63 = (100, 12))]; exact i_inb (by omega) (by omega)) ?_
      refine tot_let (fun T_108 e_T_108 => ?_)
      have h_T_108 : IV R B K1 K2 T_108 := by rw [e_T_108]; exact iv_uI (a := 0) (b := 9) h_T_104 k_n_105 (by decide) (by decide) rfl (by omega) (.inl rfl)
      have x_T_108 := x_T_104.tr (fw_uA e_T_108 k_n_105 rfl rfl (by decide))
      refine tot_let (fun v_109 e_v_109 => ?_)
      have q_v_109 := i_add e_v_109 (by omega) (by omega)
      exact ih T_108 v_109 h_T_108 x_T_108 (by omega) (by omega)
set_option maxHeartbeats 4000000 in
set_option maxRecDepth 10000 in
theorem cl_X8_copyFrom_b64 {R : Nat → Nat} {B K1 K2 : Nat} {Q : AT → Prop} (l0 : Nat) (l1 : Nat) (T00 : AT) (k_l0 : R l0 = 8) (k_l1 : R l1 = 8) (hx0 : ∀ (T : AT), (IV R B K1 K2 T) → (FW R [256, 257, 258, 1984, 2016, 2048, 2080, 2112, 3202] T00 T) → Tot (oif (oO T l0 8 = true) <| obind (T.2.2.2.2 l0 10) fun n_136 => oif (oO T l1 8 = true) <| obind (T.2.2.2.2 l1 10) fun n_137 => oif (oO T n_136 10 = true) <| obind (g_X10_copyFrom T n_136 n_137) fun T_138 => g_X8_copyFrom_b147 T_138) Q) : ∀ (n : Nat) (T : AT) (l2 : Int32), (IV R B K1 K2 T) → (FW R [256, 257, 258, 1984, 2016, 2048, 2080, 2112, 3202] T00 T) → (0 ≤ l2.toInt ∧ l2.toInt ≤ 6) → 6 - l2.toInt < (n : Int) → Tot (g_X8_copyFrom_b64 n T l0 l1 l2) Q := by
  have z0 : (6 : Int32).toInt = 6 := by decide
  have z1 : (Int32.ofInt (1) : Int32).toInt = 1 := by decide
  have cc_101 : cnt 101 = 1 := rfl
  have cc_102 : cnt 102 = 12 := rfl
  have cc_103 : cnt 103 = 144 := rfl
  have cc_104 : cnt 104 = 2400 := rfl
  have cc_105 : cnt 105 = 7200 := rfl
  intro n
  induction n with
  | zero =>
    intro T l2 h_T x_T g_l2 hm
    exfalso
    omega
  | succ n ih =>
    intro T l2 h_T x_T g_l2 hm
    unfold g_X8_copyFrom_b64
    refine tot_if (fun c_160 => ?_) (fun c_160 => ?_)
    · replace c_160 := i_le c_160
      exact hx0 T h_T x_T
    · replace c_160 := i_nle c_160
      refine tot_oif (iv_oO h_T k_l0 (by decide) (by decide) rfl) ?_
      refine tot_ref h_T k_l0 (by decide) (by decide) (r2 := 64) (rfl : rtg 8 5 = 64) (by decide) (fun n_139 k_n_139 e_n_139 => ?_)
      refine tot_oif (iv_oO h_T k_l1 (by decide) (by decide) rfl) ?_
      refine tot_ref h_T k_l1 (by decide) (by decide) (r2 := 64) (rfl : rtg 8 5 = 64) (by decide) (fun n_140 k_n_140 e_n_140 => ?_)
      refine tot_oif (iv_aA h_T k_n_140 (by decide) (by decide) rfl rfl) ?_
      refine tot_oif (by rw [iv_len h_T k_n_140 (by decide) (by decide) (rfl : shp 64 = (102, 6))]; exact i_inb (by omega) (by omega)) ?_
      refine tot_let (fun v_141 e_v_141 => ?_)
      have r_v_141 : 0 ≤ v_141.toInt ∧ v_141.toInt ≤ 1 := iv_int h_T k_n_140 (by decide) (by decide) e_v_141 rfl
      refine tot_oif (iv_aA h_T k_n_139 (by decide) (by decide) rfl rfl) ?_
      refine tot_oif (by rw [iv_len h_T k_n_139 (by decide) (by decide) (rfl : shp 64 = (102, 6))]; exact i_inb (by omega) (by omega)) ?_
      refine tot_oif (i_b01 (by omega)) ?_
      refine tot_let (fun T_142 e_T_142 => ?_)
      have h_T_142 : IV R B K1 K2 T_142 := by rw [e_T_142]; exact iv_uI (a := 0) (b := 1) h_T k_n_139 (by decide) (by decide) rfl (by omega) (.inl rfl)
      have x_T_142 := x_T.tr (fw_uA e_T_142 k_n_139 rfl rfl (by decide))
      refine tot_oif (iv_oO h_T_142 k_l0 (by decide) (by decide) rfl) ?_
      refine tot_ref h_T_142 k_l0 (by decide) (by decide) (r2 := 65) (rfl : rtg 8 6 = 65) (by decide) (fun n_143 k_n_143 e_n_143 => ?_)
      refine tot_oif (iv_oO h_T_142 k_l1 (by decide) (by decide) rfl) ?_
      refine tot_ref h_T_142 k_l1 (by decide) (by decide) (r2 := 65) (rfl : rtg 8 6 = 65) (by decide) (fun n_144 k_n_144 e_n_144 => ?_)
      refine tot_oif (iv_aA h_T_142 k_n_144 (by decide) (by decide) rfl rfl) ?_
      refine tot_oif (by rw [iv_len h_T_142 k_n_144 (by decide) (by decide) (rfl : shp 65 = (100, 6))]; exact i_inb (by omega) (by omega)) ?_
      refine tot_let (fun v_145 e_v_145 => ?_)
      have r_v_145 : -2000 ≤ v_145.toInt ∧ v_145.toInt ≤ 2000 := iv_int h_T_142 k_n_144 (by decide) (by decide) e_v_145 rfl
      refine tot_oif (iv_aA h_T_142 k_n_143 (by decide) (by decide) rfl rfl) ?_
      refine tot_oif (by rw [iv_len h_T_142 k_n_143 (by decide) (by decide) (rfl : shp 65 = (100, 6))]; exact i_inb (by omega) (by omega)) ?_
      refine tot_let (fun T_146 e_T_146 => ?_)
      have h_T_146 : IV R B K1 K2 T_146 := by rw [e_T_146]; exact iv_uI (a := -2000) (b := 2000) h_T_142 k_n_143 (by decide) (by decide) rfl (by omega) (.inl rfl)
      have x_T_146 := x_T_142.tr (fw_uA e_T_146 k_n_143 rfl rfl (by decide))
      refine tot_oif (iv_oO h_T_146 k_l0 (by decide) (by decide) rfl) ?_
      refine tot_ref h_T_146 k_l0 (by decide) (by decide) (r2 := 65) (rfl : rtg 8 7 = 65) (by decide) (fun n_147 k_n_147 e_n_147 => ?_)
      refine tot_oif (iv_oO h_T_146 k_l1 (by decide) (by decide) rfl) ?_
      refine tot_ref h_T_146 k_l1 (by decide) (by decide) (r2 := 65) (rfl : rtg 8 7 = 65) (by decide) (fun n_148 k_n_148 e_n_148 => ?_)
      refine tot_oif (iv_aA h_T_146 k_n_148 (by decide) (by decide) rfl rfl) ?_
      refine tot_oif (by rw [iv_len h_T_146 k_n_148 (by decide) (by decide) (rfl : shp 65 = (100, 6))]; exact i_inb (by omega) (by omega)) ?_
      refine tot_let (fun v_149 e_v_149 => ?_)
      have r_v_149 : -2000 ≤ v_149.toInt ∧ v_149.toInt ≤ 2000 := iv_int h_T_146 k_n_148 (by decide) (by decide) e_v_149 rfl
      refine tot_oif (iv_aA h_T_146 k_n_147 (by decide) (by decide) rfl rfl) ?_
      refine tot_oif (by rw [iv_len h_T_146 k_n_147 (by decide) (by decide) (rfl : shp 65 = (100, 6))]; exact i_inb (by omega) (by omega)) ?_
      refine tot_let (fun T_150 e_T_150 => ?_)
      have h_T_150 : IV R B K1 K2 T_150 := by rw [e_T_150]; exact iv_uI (a := -2000) (b := 2000) h_T_146 k_n_147 (by decide) (by decide) rfl (by omega) (.inl rfl)
      have x_T_150 := x_T_146.tr (fw_uA e_T_150 k_n_147 rfl rfl (by decide))
      refine tot_oif (iv_oO h_T_150 k_l0 (by decide) (by decide) rfl) ?_
      refine tot_ref h_T_150 k_l0 (by decide) (by decide) (r2 := 66) (rfl : rtg 8 8 = 66) (by decide) (fun n_151 k_n_151 e_n_151 => ?_)
      refine tot_oif (iv_oO h_T_150 k_l1 (by decide) (by decide) rfl) ?_
      refine tot_ref h_T_150 k_l1 (by decide) (by decide) (r2 := 66) (rfl : rtg 8 8 = 66) (by decide) (fun n_152 k_n_152 e_n_152 => ?_)
      refine tot_oif (iv_aA h_T_150 k_n_152 (by decide) (by decide) rfl rfl) ?_
      refine tot_oif (by rw [iv_len h_T_150 k_n_152 (by decide) (by decide) (rfl : shp 66 = (100, 6))]; exact i_inb (by omega) (by omega)) ?_
      refine tot_let (fun v_153 e_v_153 => ?_)
      have r_v_153 : -999 ≤ v_153.toInt ∧ v_153.toInt ≤ 999 := iv_int h_T_150 k_n_152 (by decide) (by decide) e_v_153 rfl
      refine tot_oif (iv_aA h_T_150 k_n_151 (by decide) (by decide) rfl rfl) ?_
      refine tot_oif (by rw [iv_len h_T_150 k_n_151 (by decide) (by decide) (rfl : shp 66 = (100, 6))]; exact i_inb (by omega) (by omega)) ?_
      refine tot_let (fun T_154 e_T_154 => ?_)
      have h_T_154 : IV R B K1 K2 T_154 := by rw [e_T_154]; exact iv_uI (a := -999) (b := 999) h_T_150 k_n_151 (by decide) (by decide) rfl (by omega) (.inl rfl)
      have x_T_154 := x_T_150.tr (fw_uA e_T_154 k_n_151 rfl rfl (by decide))
      refine tot_oif (iv_oO h_T_154 k_l0 (by decide) (by decide) rfl) ?_
      refine tot_ref h_T_154 k_l0 (by decide) (by decide) (r2 := 66) (rfl : rtg 8 9 = 66) (by decide) (fun n_155 k_n_155 e_n_155 => ?_)
      refine tot_oif (iv_oO h_T_154 k_l1 (by decide) (by decide) rfl) ?_
      refine tot_ref h_T_154 k_l1 (by decide) (by decide) (r2 := 66) (rfl : rtg 8 9 = 66) (by decide) (fun n_156 k_n_156 e_n_156 => ?_)
      refine tot_oif (iv_aA h_T_154 k_n_156 (by decide) (by decide) rfl rfl) ?_
      refine tot_oif (by rw [iv_len h_T_154 k_n_156 (by decide) (by decide) (rfl : shp 66 = (100, 6))]; exact i_inb (by omega) (by omega)) ?_
      refine tot_let (fun v_157 e_v_157 => ?_)
      have r_v_157 : -999 ≤ v_157.toInt ∧ v_157.toInt ≤ 999 := iv_int h_T_154 k_n_156 (by decide) (by decide) e_v_157 rfl
      refine tot_oif (iv_aA h_T_154 k_n_155 (by decide) (by decide) rfl rfl) ?_
      refine tot_oif (by rw [iv_len h_T_154 k_n_155 (by decide) (by decide) (rfl : shp 66 = (100, 6))]; exact i_inb (by omega) (by omega)) ?_
      refine tot_let (fun T_158 e_T_158 => ?_)
      have h_T_158 : IV R B K1 K2 T_158 := by rw [e_T_158]; exact iv_uI (a := -999) (b := 999) h_T_154 k_n_155 (by decide) (by decide) rfl (by omega) (.inl rfl)
      have x_T_158 := x_T_154.tr (fw_uA e_T_158 k_n_155 rfl rfl (by decide))
      refine tot_let (fun v_159 e_v_159 => ?_)
      have q_v_159 := i_add e_v_159 (by omega) (by omega)
      exact ih T_158 v_159 h_T_158 x_T_158 (by omega) (by omega)
set_option maxHeartbeats 4000000 in
set_option maxRecDepth 10000 in
theorem cs_X8_copyFrom {R : Nat → Nat} {B K1 K2 : Nat} (T : AT) (o : Nat) (a0 : Nat) (h_T : IV R B K1 K2 T) (k_o : R o = 8) (k_a0 : R a0 = 8) : Tot (g_X8_copyFrom T o a0) (fun T1 => IV R B K1 K2 T1 ∧ FW R [256, 257, 258, 1984, 2016, 2048, 2080, 2112, 3202] T T1) := by
  have z0 : (0 : Int32).toInt = 0 := by decide
  have cc_101 : cnt 101 = 1 := rfl
  have cc_102 : cnt 102 = 12 := rfl
  have cc_103 : cnt 103 = 144 := rfl
  have cc_104 : cnt 104 = 2400 := rfl
  have cc_105 : cnt 105 = 7200 := rfl
  have x_T : FW R [256, 257, 258, 1984, 2016, 2048, 2080, 2112, 3202] T T := FW.rf
  unfold g_X8_copyFrom
  refine tot_oif (iv_oO h_T k_a0 (by decide) (by decide) rfl) ?_
  refine tot_let (fun v_1 e_v_1 => ?_)
  have r_v_1 : 0 ≤ v_1.toInt ∧ v_1.toInt ≤ 12 := iv_int h_T k_a0 (by decide) (by decide) e_v_1 rfl
  refine tot_oif (iv_oO h_T k_o (by decide) (by decide) rfl) ?_
  refine tot_let (fun T_2 e_T_2 => ?_)
  have h_T_2 : IV R B K1 K2 T_2 := by rw [e_T_2]; exact iv_uI (a := 0) (b := 12) h_T k_o (by decide) (by decide) rfl (by omega) (.inl rfl)
  have x_T_2 := x_T.tr (fw_uI e_T_2 k_o (by decide))
  refine tot_oif (iv_oO h_T_2 k_a0 (by decide) (by decide) rfl) ?_
  refine tot_let (fun v_3 e_v_3 => ?_)
  have r_v_3 : 0 ≤ v_3.toInt ∧ v_3.toInt ≤ 200 := iv_int h_T_2 k_a0 (by decide) (by decide) e_v_3 rfl
  refine tot_oif (iv_oO h_T_2 k_o (by decide) (by decide) rfl) ?_
  refine tot_let (fun T_4 e_T_4 => ?_)
  have h_T_4 : IV R B K1 K2 T_4 := by rw [e_T_4]; exact iv_uI (a := 0) (b := 200) h_T_2 k_o (by decide) (by decide) rfl (by omega) (.inl rfl)
  have x_T_4 := x_T_2.tr (fw_uI e_T_4 k_o (by decide))
  refine tot_oif (iv_oO h_T_4 k_a0 (by decide) (by decide) rfl) ?_
  refine tot_let (fun v_5 e_v_5 => ?_)
  have r_v_5 := i_any v_5
  refine tot_oif (iv_oO h_T_4 k_o (by decide) (by decide) rfl) ?_
  refine tot_let (fun T_6 e_T_6 => ?_)
  have ja_T_6 := i_any v_5
  have h_T_6 : IV R B K1 K2 T_6 := by rw [e_T_6]; exact iv_uI (a := -2147483648) (b := 2147483647) h_T_4 k_o (by decide) (by decide) rfl (by omega) (.inl rfl)
  have x_T_6 := x_T_4.tr (fw_uI e_T_6 k_o (by decide))
  refine cl_X8_copyFrom_b26 o a0 T k_o k_a0 ?_ 16384 T_6 0 h_T_6 x_T_6 (by omega) (by omega)
  · intro T_111 h_T_111 x_T_111
    refine cl_X8_copyFrom_b64 o a0 T k_o k_a0 ?_ 16384 T_111 0 h_T_111 x_T_111 (by omega) (by omega)
    · intro T_161 h_T_161 x_T_161
      refine tot_oif (iv_oO h_T_161 k_o (by decide) (by decide) rfl) ?_
      refine tot_ref h_T_161 k_o (by decide) (by decide) (r2 := 104) (rfl : rtg 8 10 = 104) (by decide) (fun n_162 k_n_162 e_n_162 => ?_)
      refine tot_oif (iv_oO h_T_161 k_a0 (by decide) (by decide) rfl) ?_
      refine tot_ref h_T_161 k_a0 (by decide) (by decide) (r2 := 104) (rfl : rtg 8 10 = 104) (by decide) (fun n_163 k_n_163 e_n_163 => ?_)
      refine tot_oif (w_oO h_T_161 k_n_162 (rfl : isW 104 = true)) ?_
      refine tot_bind (c_copyFrom k_n_162 (rfl : isW 104 = true) k_n_163 (rfl : isW 104 = true) h_T_161) (fun T_164 d_T_164 => ?_)
      have h_T_164 : IV R B K1 K2 T_164 := d_T_164.1
      have y_T_164 : FW R [3202] T_161 T_164 := (fw_wy d_T_164.2 k_n_162 (rfl : isW 104 = true) (by decide))
      have x_T_164 := x_T_161.tr (y_T_164.w (by decide))
      unfold g_X8_copyFrom_b147
      exact tot_some ⟨h_T_164, x_T_164⟩
set_option maxHeartbeats 4000000 in
set_option maxRecDepth 10000 in
theorem cl_X8_activeMics_b4 {R : Nat → Nat} {B K1 K2 : Nat} {Q : Int32 × AT → Prop} (T : AT) (l0 : Nat) (h_T : IV R B K1 K2 T) (k_l0 : R l0 = 8) (hx0 : ∀ (l1 : Int32), Tot (some (l1, T)) Q) : ∀ (n : Nat) (l1 : Int32) (l2 : Int32), (0 ≤ l2.toInt ∧ l2.toInt ≤ 12) → 12 - l2.toInt < (n : Int) → Tot (g_X8_activeMics_b4 n T l0 l1 l2) Q := by
  have z0 : (0 : Int32).toInt = 0 := by decide
  have z1 : (1 : Int32).toInt = 1 := by decide
  have z2 : (Int32.ofInt (1) : Int32).toInt = 1 := by decide
  have cc_101 : cnt 101 = 1 := rfl
  have cc_102 : cnt 102 = 12 := rfl
  have cc_103 : cnt 103 = 144 := rfl
  have cc_104 : cnt 104 = 2400 := rfl
  have cc_105 : cnt 105 = 7200 := rfl
  intro n
  induction n with
  | zero =>
    intro l1 l2 g_l2 hm
    exfalso
    omega
  | succ n ih =>
    intro l1 l2 g_l2 hm
    unfold g_X8_activeMics_b4
    refine tot_oif (iv_oO h_T k_l0 (by decide) (by decide) rfl) ?_
    refine tot_let (fun v_15 e_v_15 => ?_)
    have r_v_15 : 0 ≤ v_15.toInt ∧ v_15.toInt ≤ 12 := iv_int h_T k_l0 (by decide) (by decide) e_v_15 rfl
    refine tot_if (fun c_18 => ?_) (fun c_18 => ?_)
    · replace c_18 := i_le c_18
      exact hx0 l1 
    · replace c_18 := i_nle c_18
      refine tot_oif (iv_oO h_T k_l0 (by decide) (by decide) rfl) ?_
      refine tot_ref h_T k_l0 (by decide) (by decide) (r2 := 62) (rfl : rtg 8 3 = 62) (by decide) (fun n_16 k_n_16 e_n_16 => ?_)
      refine tot_oif (iv_aA h_T k_n_16 (by decide) (by decide) rfl rfl) ?_
      refine tot_oif (by rw [iv_len h_T k_n_16 (by decide) (by decide) (rfl : shp 62 = (102, 12))]; exact i_inb (by omega) (by omega)) ?_
      refine tot_let (fun v_17 e_v_17 => ?_)
      have r_v_17 : 0 ≤ v_17.toInt ∧ v_17.toInt ≤ 1 := iv_int h_T k_n_16 (by decide) (by decide) e_v_17 rfl
      refine tot_if (fun c_19 => ?_) (fun c_19 => ?_)
      · replace c_19 := i_eq c_19
        unfold g_X8_activeMics_b27
        refine tot_let (fun v_20 e_v_20 => ?_)
        have r_v_20 := i_any v_20
        refine tot_let (fun v_21 e_v_21 => ?_)
        have q_v_21 := i_add e_v_21 (by omega) (by omega)
        exact ih v_20 v_21 (by omega) (by omega)
      · replace c_19 := i_ne c_19
        unfold g_X8_activeMics_b27
        refine tot_let (fun v_22 e_v_22 => ?_)
        have r_v_22 := i_any v_22
        refine tot_let (fun v_23 e_v_23 => ?_)
        have q_v_23 := i_add e_v_23 (by omega) (by omega)
        exact ih v_22 v_23 (by omega) (by omega)
set_option maxHeartbeats 4000000 in
set_option maxRecDepth 10000 in
theorem cs_X8_activeMics {R : Nat → Nat} {B K1 K2 : Nat} (T : AT) (o : Nat) (h_T : IV R B K1 K2 T) (k_o : R o = 8) : Tot (g_X8_activeMics T o) (fun r => r.2 = T ∧ True) := by
  have z0 : (0 : Int32).toInt = 0 := by decide
  have cc_101 : cnt 101 = 1 := rfl
  have cc_102 : cnt 102 = 12 := rfl
  have cc_103 : cnt 103 = 144 := rfl
  have cc_104 : cnt 104 = 2400 := rfl
  have cc_105 : cnt 105 = 7200 := rfl
  unfold g_X8_activeMics
  refine cl_X8_activeMics_b4 T o h_T k_o ?_ 16384 0 0 (by omega) (by omega)
  · intro l_24
    have j_l_24 := i_any l_24
    exact tot_some ⟨rfl, trivial⟩
end
section
/-! 13d.ch7.lean.txt -/
set_option maxHeartbeats 4000000 in
set_option maxRecDepth 10000 in
theorem cl_X8_activeWeight_b4 {R : Nat → Nat} {B K1 K2 : Nat} {Q : Int32 × AT → Prop} (T : AT) (l0 : Nat) (h_T : IV R B K1 K2 T) (k_l0 : R l0 = 8) (hx0 : ∀ (l1 : Int32), Tot (some (l1, T)) Q) : ∀ (n : Nat) (l1 : Int32) (l2 : Int32), (0 ≤ l2.toInt ∧ l2.toInt ≤ 12) → 12 - l2.toInt < (n : Int) → Tot (g_X8_activeWeight_b4 n T l0 l1 l2) Q := by
  have z0 : (0 : Int32).toInt = 0 := by decide
  have z1 : (Int32.ofInt (1) : Int32).toInt = 1 := by decide
  have cc_101 : cnt 101 = 1 := rfl
  have cc_102 : cnt 102 = 12 := rfl
  have cc_103 : cnt 103 = 144 := rfl
  have cc_104 : cnt 104 = 2400 := rfl
  have cc_105 : cnt 105 = 7200 := rfl
  intro n
  induction n with
  | zero =>
    intro l1 l2 g_l2 hm
    exfalso
    omega
  | succ n ih =>
    intro l1 l2 g_l2 hm
    unfold g_X8_activeWeight_b4
    refine tot_oif (iv_oO h_T k_l0 (by decide) (by decide) rfl) ?_
    refine tot_let (fun v_19 e_v_19 => ?_)
    have r_v_19 : 0 ≤ v_19.toInt ∧ v_19.toInt ≤ 12 := iv_int h_T k_l0 (by decide) (by decide) e_v_19 rfl
    refine tot_if (fun c_24 => ?_) (fun c_24 => ?_)
    · replace c_24 := i_le c_24
      exact hx0 l1 
    · replace c_24 := i_nle c_24
      refine tot_oif (iv_oO h_T k_l0 (by decide) (by decide) rfl) ?_
      refine tot_ref h_T k_l0 (by decide) (by decide) (r2 := 62) (rfl : rtg 8 3 = 62) (by decide) (fun n_20 k_n_20 e_n_20 => ?_)
      refine tot_oif (iv_aA h_T k_n_20 (by decide) (by decide) rfl rfl) ?_
      refine tot_oif (by rw [iv_len h_T k_n_20 (by decide) (by decide) (rfl : shp 62 = (102, 12))]; exact i_inb (by omega) (by omega)) ?_
      refine tot_let (fun v_21 e_v_21 => ?_)
      have r_v_21 : 0 ≤ v_21.toInt ∧ v_21.toInt ≤ 1 := iv_int h_T k_n_20 (by decide) (by decide) e_v_21 rfl
      refine tot_if (fun c_25 => ?_) (fun c_25 => ?_)
      · replace c_25 := i_eq c_25
        refine tot_oif (iv_oO h_T k_l0 (by decide) (by decide) rfl) ?_
        refine tot_ref h_T k_l0 (by decide) (by decide) (r2 := 63) (rfl : rtg 8 4 = 63) (by decide) (fun n_22 k_n_22 e_n_22 => ?_)
        refine tot_oif (iv_aA h_T k_n_22 (by decide) (by decide) rfl rfl) ?_
        refine tot_oif (by rw [iv_len h_T k_n_22 (by decide) (by decide) (rfl : shp 63 = (100, 12))]; exact i_inb (by omega) (by omega)) ?_
        refine tot_let (fun v_23 e_v_23 => ?_)
        have r_v_23 : 0 ≤ v_23.toInt ∧ v_23.toInt ≤ 9 := iv_int h_T k_n_22 (by decide) (by decide) e_v_23 rfl
        unfold g_X8_activeWeight_b32
        refine tot_let (fun v_26 e_v_26 => ?_)
        have r_v_26 := i_any v_26
        refine tot_let (fun v_27 e_v_27 => ?_)
        have q_v_27 := i_add e_v_27 (by omega) (by omega)
        exact ih v_26 v_27 (by omega) (by omega)
      · replace c_25 := i_ne c_25
        unfold g_X8_activeWeight_b32
        refine tot_let (fun v_28 e_v_28 => ?_)
        have r_v_28 := i_any v_28
        refine tot_let (fun v_29 e_v_29 => ?_)
        have q_v_29 := i_add e_v_29 (by omega) (by omega)
        exact ih v_28 v_29 (by omega) (by omega)
set_option maxHeartbeats 4000000 in
set_option maxRecDepth 10000 in
theorem cs_X8_activeWeight {R : Nat → Nat} {B K1 K2 : Nat} (T : AT) (o : Nat) (h_T : IV R B K1 K2 T) (k_o : R o = 8) : Tot (g_X8_activeWeight T o) (fun r => r.2 = T ∧ True) := by
  have z0 : (0 : Int32).toInt = 0 := by decide
  have cc_101 : cnt 101 = 1 := rfl
  have cc_102 : cnt 102 = 12 := rfl
  have cc_103 : cnt 103 = 144 := rfl
  have cc_104 : cnt 104 = 2400 := rfl
  have cc_105 : cnt 105 = 7200 := rfl
  unfold g_X8_activeWeight
  refine cl_X8_activeWeight_b4 T o h_T k_o ?_ 16384 0 0 (by omega) (by omega)
  · intro l_30
    have j_l_30 := i_any l_30
    exact tot_some ⟨rfl, trivial⟩
set_option maxHeartbeats 4000000 in
set_option maxRecDepth 10000 in
theorem cl_X8_smallestDelay_b8 {R : Nat → Nat} {B K1 K2 : Nat} {Q : Int32 × AT → Prop} (T : AT) (l0 : Nat) (l1 : Nat) (h_T : IV R B K1 K2 T) (k_l0 : R l0 = 8) (k_l1 : R l1 = 50) (hx0 : ∀ (l2 : Int32), Tot (some (l2, T)) Q) : ∀ (n : Nat) (l2 : Int32) (l3 : Int32), (0 ≤ l3.toInt ∧ l3.toInt ≤ 12) → 12 - l3.toInt < (n : Int) → Tot (g_X8_smallestDelay_b8 n T l0 l1 l2 l3) Q := by
  have z0 : (0 : Int32).toInt = 0 := by decide
  have z1 : (Int32.ofInt (1) : Int32).toInt = 1 := by decide
  have cc_101 : cnt 101 = 1 := rfl
  have cc_102 : cnt 102 = 12 := rfl
  have cc_103 : cnt 103 = 144 := rfl
  have cc_104 : cnt 104 = 2400 := rfl
  have cc_105 : cnt 105 = 7200 := rfl
  intro n
  induction n with
  | zero =>
    intro l2 l3 g_l3 hm
    exfalso
    omega
  | succ n ih =>
    intro l2 l3 g_l3 hm
    unfold g_X8_smallestDelay_b8
    refine tot_oif (iv_oO h_T k_l0 (by decide) (by decide) rfl) ?_
    refine tot_let (fun v_17 e_v_17 => ?_)
    have r_v_17 : 0 ≤ v_17.toInt ∧ v_17.toInt ≤ 12 := iv_int h_T k_l0 (by decide) (by decide) e_v_17 rfl
    refine tot_if (fun c_22 => ?_) (fun c_22 => ?_)
    · replace c_22 := i_le c_22
      exact hx0 l2 
    · replace c_22 := i_nle c_22
      refine tot_oif (iv_oO h_T k_l0 (by decide) (by decide) rfl) ?_
      refine tot_ref h_T k_l0 (by decide) (by decide) (r2 := 62) (rfl : rtg 8 3 = 62) (by decide) (fun n_18 k_n_18 e_n_18 => ?_)
      refine tot_oif (iv_aA h_T k_n_18 (by decide) (by decide) rfl rfl) ?_
      refine tot_oif (by rw [iv_len h_T k_n_18 (by decide) (by decide) (rfl : shp 62 = (102, 12))]; exact i_inb (by omega) (by omega)) ?_
      refine tot_let (fun v_19 e_v_19 => ?_)
      have r_v_19 : 0 ≤ v_19.toInt ∧ v_19.toInt ≤ 1 := iv_int h_T k_n_18 (by decide) (by decide) e_v_19 rfl
      refine tot_if (fun c_23 => ?_) (fun c_23 => ?_)
      · replace c_23 := i_eq c_23
        refine tot_oif (iv_aA h_T k_l1 (by decide) (by decide) rfl rfl) ?_
        refine tot_oif (by rw [iv_len h_T k_l1 (by decide) (by decide) (rfl : shp 50 = (100, 12))]; exact i_inb (by omega) (by omega)) ?_
        refine tot_let (fun v_20 e_v_20 => ?_)
        have r_v_20 := i_any v_20
        refine tot_let (fun v_21 e_v_21 => ?_)
        have q_v_21 := i_ilt e_v_21
        unfold g_X8_smallestDelay_b33
        refine tot_let (fun v_24 e_v_24 => ?_)
        have q_v_24 := i_add e_v_24 (by omega) (by omega)
        exact ih v_21 v_24 (by omega) (by omega)
      · replace c_23 := i_ne c_23
        unfold g_X8_smallestDelay_b33
        refine tot_let (fun v_25 e_v_25 => ?_)
        have q_v_25 := i_add e_v_25 (by omega) (by omega)
        exact ih l2 v_25 (by omega) (by omega)
set_option maxHeartbeats 4000000 in
set_option maxRecDepth 10000 in
theorem cs_X8_smallestDelay {R : Nat → Nat} {B K1 K2 : Nat} (T : AT) (o : Nat) (a0 : Nat) (h_T : IV R B K1 K2 T) (k_o : R o = 8) (k_a0 : R a0 = 50) : Tot (g_X8_smallestDelay T o a0) (fun r => r.2 = T ∧ True) := by
  have z0 : (0 : Int32).toInt = 0 := by decide
  have cc_101 : cnt 101 = 1 := rfl
  have cc_102 : cnt 102 = 12 := rfl
  have cc_103 : cnt 103 = 144 := rfl
  have cc_104 : cnt 104 = 2400 := rfl
  have cc_105 : cnt 105 = 7200 := rfl
  unfold g_X8_smallestDelay
  refine tot_oif (iv_oO h_T k_o (by decide) (by decide) rfl) ?_
  refine tot_bindq (R := fun r_1 : Int32 => (0 ≤ r_1.toInt ∧ r_1.toInt ≤ 2147483647)) (cs_X8_greatestDelay T o a0 h_T k_o k_a0 ) (fun r_1 d_r_1 => ?_)
  replace d_r_1 : (0 ≤ r_1.toInt ∧ r_1.toInt ≤ 2147483647) := d_r_1
  refine cl_X8_smallestDelay_b8 T o a0 h_T k_o k_a0 ?_ 16384 r_1 0 (by omega) (by omega)
  · intro l_26
    have j_l_26 := i_any l_26
    exact tot_some ⟨rfl, trivial⟩
set_option maxHeartbeats 4000000 in
set_option maxRecDepth 10000 in
theorem cs_X8_powerOf {R : Nat → Nat} {B K1 K2 : Nat} (T : AT) (o : Nat) (a0 : Nat) (a1 : Nat) (a2 : Int32) (h_T : IV R B K1 K2 T) (k_o : R o = 8) (k_a0 : R a0 = 50) {r_a1 : Nat} (k_a1 : R a1 = r_a1) (w_a1 : isW r_a1 = true) (g0 : 0 ≤ a2.toInt ∧ a2.toInt ≤ 0) (g1 : 0 ≤ a2.toInt ∧ a2.toInt < cnt r_a1) : Tot (g_X8_powerOf T o a0 a1 a2) (fun T1 => IV R B K1 K2 T1 ∧ FW R [3202] T T1) := by
  have z0 : ((0 : Int32) : Int32).toInt = 0 := by decide
  have cc_101 : cnt 101 = 1 := rfl
  have cc_102 : cnt 102 = 12 := rfl
  have cc_103 : cnt 103 = 144 := rfl
  have cc_104 : cnt 104 = 2400 := rfl
  have cc_105 : cnt 105 = 7200 := rfl
  have x_T : FW R [3202] T T := FW.rf
  have j_a2 := i_any a2
  have c7_a1 := (isW_f w_a1).2.2.2.1
  unfold g_X8_powerOf
  refine tot_oif (iv_oO h_T k_o (by decide) (by decide) rfl) ?_
  refine tot_bindq (R := fun r_1 : Int32 => (0 ≤ r_1.toInt ∧ r_1.toInt ≤ 200)) (cs_X8_windowOf T o a0 h_T k_o k_a0 ) (fun r_1 d_r_1 => ?_)
  replace d_r_1 : (0 ≤ r_1.toInt ∧ r_1.toInt ≤ 200) := d_r_1
  refine tot_oif (iv_oO h_T k_o (by decide) (by decide) rfl) ?_
  refine tot_bind (cs_X8_blockPowerOf T o a0 (0 : Int32) r_1 a1 a2 h_T k_o k_a0 k_a1 w_a1 (by omega) (by omega) (by omega) (by omega)) (fun T_3 d_T_3 => ?_)
  have h_T_3 : IV R B K1 K2 T_3 := d_T_3.1
  have y_T_3 : FW R [3202] T T_3 := d_T_3.2
  have x_T_3 := x_T.tr (y_T_3.w (by decide))
  unfold g_X8_powerOf_b13
  exact tot_some ⟨h_T_3, x_T_3⟩
set_option maxHeartbeats 4000000 in
set_option maxRecDepth 10000 in
theorem cl_X8_productSum_b10 {R : Nat → Nat} {B K1 K2 : Nat} {Q : AT → Prop} (l0 : Nat) (l1 : Int32) (l2 : Int32) (l3 : Int32) (l4 : Nat) (l5 : Int32) (T00 : AT) (k_l0 : R l0 = 8) {r_l4 : Nat} (k_l4 : R l4 = r_l4) (w_l4 : isW r_l4 = true) (g0 : 0 ≤ l1.toInt ∧ l1.toInt ≤ 11) (g1 : 0 ≤ l2.toInt ∧ l2.toInt ≤ 11) (g2 : 0 ≤ l3.toInt ∧ l3.toInt ≤ 199) (g3 : 0 ≤ l5.toInt ∧ l5.toInt ≤ 11) (g4 : 0 ≤ l5.toInt ∧ l5.toInt < cnt r_l4) (hx0 : ∀ (T : AT), (IV R B K1 K2 T) → (FW R [3202] T00 T) → Tot (some (T)) Q) : ∀ (n : Nat) (T : AT) (l6 : Int32), (IV R B K1 K2 T) → (FW R [3202] T00 T) → (0 ≤ l6.toInt ∧ l6.toInt ≤ 200) → 200 - l6.toInt < (n : Int) → Tot (g_X8_productSum_b10 n T l0 l1 l2 l3 l4 l5 l6) Q := by
  have z0 : (Int32.ofInt (1) : Int32).toInt = 1 := by decide
  have cc_101 : cnt 101 = 1 := rfl
  have cc_102 : cnt 102 = 12 := rfl
  have cc_103 : cnt 103 = 144 := rfl
  have cc_104 : cnt 104 = 2400 := rfl
  have cc_105 : cnt 105 = 7200 := rfl
  have j_l1 := i_any l1
  have j_l2 := i_any l2
  have j_l3 := i_any l3
  have c7_l4 := (isW_f w_l4).2.2.2.1
  have j_l5 := i_any l5
  intro n
  induction n with
  | zero =>
    intro T l6 h_T x_T g_l6 hm
    exfalso
    omega
  | succ n ih =>
    intro T l6 h_T x_T g_l6 hm
    unfold g_X8_productSum_b10
    refine tot_let (fun v_20 e_v_20 => ?_)
    have q_v_20 := i_add e_v_20 (by omega) (by omega)
    refine tot_oif (iv_oO h_T k_l0 (by decide) (by decide) rfl) ?_
    refine tot_let (fun v_21 e_v_21 => ?_)
    have r_v_21 : 0 ≤ v_21.toInt ∧ v_21.toInt ≤ 200 := iv_int h_T k_l0 (by decide) (by decide) e_v_21 rfl
    refine tot_if (fun c_28 => ?_) (fun c_28 => ?_)
    · replace c_28 := i_le c_28
      exact hx0 T h_T x_T
    · replace c_28 := i_nle c_28
      refine tot_oif (iv_oO h_T k_l0 (by decide) (by decide) rfl) ?_
      refine tot_ref h_T k_l0 (by decide) (by decide) (r2 := 104) (rfl : rtg 8 10 = 104) (by decide) (fun n_22 k_n_22 e_n_22 => ?_)
      refine tot_bind (cs_X8_placeOf l1 l6 (by omega) (by omega)) (fun r_23 d_r_23 => ?_)
      replace d_r_23 : (0 ≤ r_23.toInt ∧ r_23.toInt ≤ 2399) := d_r_23
      refine tot_oif (iv_oO h_T k_l0 (by decide) (by decide) rfl) ?_
      refine tot_ref1 e_n_22 ?_
      refine tot_let (fun v_25 e_v_25 => ?_)
      have q_v_25 := i_add e_v_25 (by omega) (by omega)
      refine tot_bind (cs_X8_placeOf l2 v_25 (by omega) (by omega)) (fun r_26 d_r_26 => ?_)
      replace d_r_26 : (0 ≤ r_26.toInt ∧ r_26.toInt ≤ 2399) := d_r_26
      refine tot_oif (w_oO h_T k_l4 w_l4) ?_
      refine tot_bind (c_addProduct (a0 := l5) (a2 := r_23) (a4 := r_26) k_l4 w_l4 k_n_22 (rfl : isW 104 = true) k_n_22 (rfl : isW 104 = true) h_T (by omega) (by omega) (by omega)) (fun T_27 d_T_27 => ?_)
      have h_T_27 : IV R B K1 K2 T_27 := d_T_27.1
      have y_T_27 : FW R [3202] T T_27 := (fw_wx d_T_27.2 k_l4 w_l4 (by decide))
      have x_T_27 := x_T.tr (y_T_27.w (by decide))
      unfold g_X8_productSum_b50
      refine tot_let (fun v_29 e_v_29 => ?_)
      have q_v_29 := i_add e_v_29 (by omega) (by omega)
      exact ih T_27 v_29 h_T_27 x_T_27 (by omega) (by omega)
set_option maxHeartbeats 4000000 in
set_option maxRecDepth 10000 in
theorem cs_X8_productSum {R : Nat → Nat} {B K1 K2 : Nat} (T : AT) (o : Nat) (a0 : Int32) (a1 : Int32) (a2 : Int32) (a3 : Nat) (a4 : Int32) (h_T : IV R B K1 K2 T) (k_o : R o = 8) {r_a3 : Nat} (k_a3 : R a3 = r_a3) (w_a3 : isW r_a3 = true) (g0 : 0 ≤ a0.toInt ∧ a0.toInt ≤ 11) (g1 : 0 ≤ a1.toInt ∧ a1.toInt ≤ 11) (g2 : 0 ≤ a2.toInt ∧ a2.toInt ≤ 199) (g3 : 0 ≤ a4.toInt ∧ a4.toInt ≤ 11) (g4 : 0 ≤ a4.toInt ∧ a4.toInt < cnt r_a3) : Tot (g_X8_productSum T o a0 a1 a2 a3 a4) (fun T1 => IV R B K1 K2 T1 ∧ FW R [3202] T T1) := by
  have z0 : (0 : Int32).toInt = 0 := by decide
  have cc_101 : cnt 101 = 1 := rfl
  have cc_102 : cnt 102 = 12 := rfl
  have cc_103 : cnt 103 = 144 := rfl
  have cc_104 : cnt 104 = 2400 := rfl
  have cc_105 : cnt 105 = 7200 := rfl
  have x_T : FW R [3202] T T := FW.rf
  have j_a0 := i_any a0
  have j_a1 := i_any a1
  have j_a2 := i_any a2
  have j_a4 := i_any a4
  have c7_a3 := (isW_f w_a3).2.2.2.1
  unfold g_X8_productSum
  refine tot_oif (w_oO h_T k_a3 w_a3) ?_
  refine tot_bind (c_clear (a0 := a4) h_T k_a3 w_a3 (by omega)) (fun T_1 d_T_1 => ?_)
  have h_T_1 : IV R B K1 K2 T_1 := d_T_1.1
  have y_T_1 : FW R [3202] T T_1 := (fw_of d_T_1.2)
  have x_T_1 := x_T.tr (y_T_1.w (by decide))
  refine cl_X8_productSum_b10 o a0 a1 a2 a3 a4 T k_o k_a3 w_a3 (by omega) (by omega) (by omega) (by omega) (by omega) ?_ 16384 T_1 0 h_T_1 x_T_1 (by omega) (by omega)
  · intro T_30 h_T_30 x_T_30
    exact tot_some ⟨h_T_30, x_T_30⟩
set_option maxHeartbeats 4000000 in
set_option maxRecDepth 10000 in
theorem cl_X8_subtractBeam_b53 {R : Nat → Nat} {B K1 K2 : Nat} {Q : AT → Prop} {k18 : AT → Nat → Nat → Int32 → Int32 → Int32 → Int32 → Option (AT)} (l0 : Nat) (l1 : Nat) (l2 : Int32) (l3 : Int32) (l4 : Int32) (l5 : Int32) (T00 : AT) (k_l0 : R l0 = 8) (k_l1 : R l1 = 50) (g0 : 1 ≤ l2.toInt ∧ l2.toInt ≤ 100) (g1 : 1 ≤ l4.toInt ∧ l4.toInt ≤ 200) (g2 : 0 ≤ l5.toInt ∧ l5.toInt ≤ 199) (hx0 : ∀ (T : AT), (IV R B K1 K2 T) → (FW R [258, 3202] T00 T) → Tot (elet (l5 + Int32.ofInt (1)) fun v_96 => k18 T l0 l1 l2 l3 l4 v_96) Q) : ∀ (n : Nat) (T : AT) (l6 : Int32), (IV R B K1 K2 T) → (FW R [258, 3202] T00 T) → (0 ≤ l6.toInt ∧ l6.toInt ≤ 12) → 12 - l6.toInt < (n : Int) → Tot (g_X8_subtractBeam_b53 k18 n T l0 l1 l2 l3 l4 l5 l6) Q := by
  have z0 : (0 : Int32).toInt = 0 := by decide
  have z1 : (Int32.ofInt (1) : Int32).toInt = 1 := by decide
  have z2 : ((0 : Int32) : Int32).toInt = 0 := by decide
  have z3 : (((-1) : Int32) : Int32).toInt = -1 := by decide
  have cc_101 : cnt 101 = 1 := rfl
  have cc_102 : cnt 102 = 12 := rfl
  have cc_103 : cnt 103 = 144 := rfl
  have cc_104 : cnt 104 = 2400 := rfl
  have cc_105 : cnt 105 = 7200 := rfl
  have j_l2 := i_any l2
  have j_l3 := i_any l3
  have j_l4 := i_any l4
  have j_l5 := i_any l5
  intro n
  induction n with
  | zero =>
    intro T l6 h_T x_T g_l6 hm
    exfalso
    omega
  | succ n ih =>
    intro T l6 h_T x_T g_l6 hm
    unfold g_X8_subtractBeam_b53
    refine tot_oif (iv_oO h_T k_l0 (by decide) (by decide) rfl) ?_
    refine tot_let (fun v_95 e_v_95 => ?_)
    have r_v_95 : 0 ≤ v_95.toInt ∧ v_95.toInt ≤ 12 := iv_int h_T k_l0 (by decide) (by decide) e_v_95 rfl
    refine tot_if (fun c_106 => ?_) (fun c_106 => ?_)
    · replace c_106 := i_le c_106
      exact hx0 T h_T x_T
    · replace c_106 := i_nle c_106
      refine tot_oif (iv_aA h_T k_l1 (by decide) (by decide) rfl rfl) ?_
      refine tot_oif (by rw [iv_len h_T k_l1 (by decide) (by decide) (rfl : shp 50 = (100, 12))]; exact i_inb (by omega) (by omega)) ?_
      refine tot_let (fun v_97 e_v_97 => ?_)
      have r_v_97 := i_any v_97
      refine tot_let (fun v_98 e_v_98 => ?_)
      have r_v_98 := i_any v_98
      refine tot_oif (iv_oO h_T k_l0 (by decide) (by decide) rfl) ?_
      refine tot_ref h_T k_l0 (by decide) (by decide) (r2 := 62) (rfl : rtg 8 3 = 62) (by decide) (fun n_99 k_n_99 e_n_99 => ?_)
      refine tot_oif (iv_aA h_T k_n_99 (by decide) (by decide) rfl rfl) ?_
      refine tot_oif (by rw [iv_len h_T k_n_99 (by decide) (by decide) (rfl : shp 62 = (102, 12))]; exact i_inb (by omega) (by omega)) ?_
      refine tot_let (fun v_100 e_v_100 => ?_)
      have r_v_100 : 0 ≤ v_100.toInt ∧ v_100.toInt ≤ 1 := iv_int h_T k_n_99 (by decide) (by decide) e_v_100 rfl
      refine tot_if (fun c_107 => ?_) (fun c_107 => ?_)
      · replace c_107 := i_eq c_107
        refine tot_if (fun c_108 => ?_) (fun c_108 => ?_)
        · replace c_108 := i_lt c_108
          unfold g_X8_subtractBeam_b115
          refine tot_let (fun v_109 e_v_109 => ?_)
          have q_v_109 := i_add e_v_109 (by omega) (by omega)
          exact ih T v_109 h_T x_T (by omega) (by omega)
        · replace c_108 := i_nlt c_108
          refine tot_oif (iv_oO h_T k_l0 (by decide) (by decide) rfl) ?_
          refine tot_let (fun v_101 e_v_101 => ?_)
          have r_v_101 : 0 ≤ v_101.toInt ∧ v_101.toInt ≤ 200 := iv_int h_T k_l0 (by decide) (by decide) e_v_101 rfl
          refine tot_if (fun c_110 => ?_) (fun c_110 => ?_)
          · replace c_110 := i_le c_110
            unfold g_X8_subtractBeam_b115
            refine tot_let (fun v_111 e_v_111 => ?_)
            have q_v_111 := i_add e_v_111 (by omega) (by omega)
            exact ih T v_111 h_T x_T (by omega) (by omega)
          · replace c_110 := i_nle c_110
            refine tot_oif (iv_oO h_T k_l0 (by decide) (by decide) rfl) ?_
            refine tot_ref h_T k_l0 (by decide) (by decide) (r2 := 104) (rfl : rtg 8 10 = 104) (by decide) (fun n_102 k_n_102 e_n_102 => ?_)
            refine tot_bind (cs_X8_placeOf l6 v_98 (by omega) (by omega)) (fun r_103 d_r_103 => ?_)
            replace d_r_103 : (0 ≤ r_103.toInt ∧ r_103.toInt ≤ 2399) := d_r_103
            refine tot_oif (iv_oO h_T k_l0 (by decide) (by decide) rfl) ?_
            refine tot_ref h_T k_l0 (by decide) (by decide) (r2 := 101) (rfl : rtg 8 11 = 101) (by decide) (fun n_104 k_n_104 e_n_104 => ?_)
            refine tot_oif (w_oO h_T k_n_102 (rfl : isW 104 = true)) ?_
            refine tot_bind (c_add (a0 := r_103) (a2 := (0 : Int32)) (a3 := ((-1) : Int32)) k_n_102 (rfl : isW 104 = true) k_n_104 (rfl : isW 101 = true) h_T (by omega) (by omega)) (fun T_105 d_T_105 => ?_)
            have h_T_105 : IV R B K1 K2 T_105 := d_T_105.1
            have y_T_105 : FW R [3202] T T_105 := (fw_wx d_T_105.2 k_n_102 (rfl : isW 104 = true) (by decide))
            have x_T_105 := x_T.tr (y_T_105.w (by decide))
            unfold g_X8_subtractBeam_b115
            refine tot_let (fun v_112 e_v_112 => ?_)
            have q_v_112 := i_add e_v_112 (by omega) (by omega)
            exact ih T_105 v_112 h_T_105 x_T_105 (by omega) (by omega)
      · replace c_107 := i_ne c_107
        unfold g_X8_subtractBeam_b115
        refine tot_let (fun v_113 e_v_113 => ?_)
        have q_v_113 := i_add e_v_113 (by omega) (by omega)
        exact ih T v_113 h_T x_T (by omega) (by omega)
set_option maxHeartbeats 4000000 in
set_option maxRecDepth 10000 in
theorem cl_X8_subtractBeam_b18 {R : Nat → Nat} {B K1 K2 : Nat} {Q : AT → Prop} (l0 : Nat) (l1 : Nat) (l2 : Int32) (l3 : Int32) (l4 : Int32) (T00 : AT) (k_l0 : R l0 = 8) (k_l1 : R l1 = 50) (g0 : 1 ≤ l2.toInt ∧ l2.toInt ≤ 100) (g1 : 0 ≤ l4.toInt ∧ l4.toInt ≤ 200) (hx0 : ∀ (T : AT), (IV R B K1 K2 T) → (FW R [258, 3202] T00 T) → Tot (oif (oO T l0 8 = true) <| elet (T.2.2.1 l0 2) fun v_71 => elet (v_71 + 1) fun v_72 => oif (oO T l0 8 = true) <| elet (uI T l0 2 v_72) fun T_73 => some (T_73)) Q) : ∀ (n : Nat) (T : AT) (l5 : Int32), (IV R B K1 K2 T) → (FW R [258, 3202] T00 T) → (0 ≤ l5.toInt ∧ l5.toInt ≤ 200) → 200 - l5.toInt < (n : Int) → Tot (g_X8_subtractBeam_b18 n T l0 l1 l2 l3 l4 l5) Q := by
  have z0 : ((0 : Int32) : Int32).toInt = 0 := by decide
  have z1 : (0 : Int32).toInt = 0 := by decide
  have z2 : (Int32.ofInt (1) : Int32).toInt = 1 := by decide
  have cc_101 : cnt 101 = 1 := rfl
  have cc_102 : cnt 102 = 12 := rfl
  have cc_103 : cnt 103 = 144 := rfl
  have cc_104 : cnt 104 = 2400 := rfl
  have cc_105 : cnt 105 = 7200 := rfl
  have j_l2 := i_any l2
  have j_l3 := i_any l3
  have j_l4 := i_any l4
  intro n
  induction n with
  | zero =>
    intro T l5 h_T x_T g_l5 hm
    exfalso
    omega
  | succ n ih =>
    intro T l5 h_T x_T g_l5 hm
    unfold g_X8_subtractBeam_b18
    refine tot_if (fun c_75 => ?_) (fun c_75 => ?_)
    · replace c_75 := i_le c_75
      exact hx0 T h_T x_T
    · replace c_75 := i_nle c_75
      refine tot_oif (iv_oO h_T k_l0 (by decide) (by decide) rfl) ?_
      refine tot_bind (cs_X8_focus T l0 l1 l5 h_T k_l0 k_l1 ) (fun T_74 d_T_74 => ?_)
      have h_T_74 : IV R B K1 K2 T_74 := d_T_74.1
      have y_T_74 : FW R [3202] T T_74 := d_T_74.2
      have x_T_74 := x_T.tr (y_T_74.w (by decide))
      unfold g_X8_subtractBeam_b32
      refine tot_oif (iv_oO h_T_74 k_l0 (by decide) (by decide) rfl) ?_
      refine tot_ref h_T_74 k_l0 (by decide) (by decide) (r2 := 101) (rfl : rtg 8 11 = 101) (by decide) (fun n_76 k_n_76 e_n_76 => ?_)
      refine tot_oif (w_oO h_T_74 k_n_76 (rfl : isW 101 = true)) ?_
      refine tot_bind (c_multiply (a0 := (0 : Int32)) (a1 := l2) k_n_76 (rfl : isW 101 = true) h_T_74 (by omega)) (fun T_77 d_T_77 => ?_)
      have h_T_77 : IV R B K1 K2 T_77 := d_T_77.1
      have y_T_77 : FW R [3202] T_74 T_77 := (fw_wx d_T_77.2 k_n_76 (rfl : isW 101 = true) (by decide))
      have x_T_77 := x_T_74.tr (y_T_77.w (by decide))
      unfold g_X8_subtractBeam_b41
      refine tot_oif (iv_oO h_T_77 k_l0 (by decide) (by decide) rfl) ?_
      refine tot_ref h_T_77 k_l0 (by decide) (by decide) (r2 := 101) (rfl : rtg 8 11 = 101) (by decide) (fun n_78 k_n_78 e_n_78 => ?_)
      refine tot_oif (w_oO h_T_77 k_n_78 (rfl : isW 101 = true)) ?_
      refine tot_bind (c_divide (a0 := (0 : Int32)) (a1 := l3) k_n_78 (rfl : isW 101 = true) h_T_77 (by omega)) (fun T_79 d_T_79 => ?_)
      have h_T_79 : IV R B K1 K2 T_79 := d_T_79.1
      have y_T_79 : FW R [3202] T_77 T_79 := (fw_wx d_T_79.2 k_n_78 (rfl : isW 101 = true) (by decide))
      have x_T_79 := x_T_77.tr (y_T_79.w (by decide))
      unfold g_X8_subtractBeam_b50
      refine cl_X8_subtractBeam_b53 l0 l1 l2 l3 l4 l5 T00 k_l0 k_l1 (by omega) (by omega) (by omega) ?_ 16384 T_79 0 h_T_79 x_T_79 (by omega) (by omega)
      · intro T_114 h_T_114 x_T_114
        refine tot_let (fun v_115 e_v_115 => ?_)
        have q_v_115 := i_add e_v_115 (by omega) (by omega)
        exact ih T_114 v_115 h_T_114 x_T_114 (by omega) (by omega)
set_option maxHeartbeats 4000000 in
set_option maxRecDepth 10000 in
theorem cs_X8_subtractBeam {R : Nat → Nat} {B K1 K2 : Nat} (T : AT) (o : Nat) (a0 : Nat) (a1 : Int32) (h_T : IV R B K1 K2 T) (k_o : R o = 8) (k_a0 : R a0 = 50) (g0 : 1 ≤ a1.toInt ∧ a1.toInt ≤ 100) : Tot (g_X8_subtractBeam T o a0 a1) (fun T1 => IV R B K1 K2 T1 ∧ FW R [258, 3202] T T1) := by
  have z0 : (100 : Int32).toInt = 100 := by decide
  have z1 : (0 : Int32).toInt = 0 := by decide
  have z2 : (1 : Int32).toInt = 1 := by decide
  have cc_101 : cnt 101 = 1 := rfl
  have cc_102 : cnt 102 = 12 := rfl
  have cc_103 : cnt 103 = 144 := rfl
  have cc_104 : cnt 104 = 2400 := rfl
  have cc_105 : cnt 105 = 7200 := rfl
  have x_T : FW R [258, 3202] T T := FW.rf
  have j_a1 := i_any a1
  unfold g_X8_subtractBeam
  refine tot_oif (iv_oO h_T k_o (by decide) (by decide) rfl) ?_
  refine tot_bindq (R := fun r_1 : Int32 => True) (cs_X8_activeWeight T o h_T k_o ) (fun r_1 d_r_1 => ?_)
  have r_r_1 := i_any r_1
  refine tot_let (fun v_3 e_v_3 => ?_)
  have r_v_3 := i_any v_3
  refine tot_oif (iv_oO h_T k_o (by decide) (by decide) rfl) ?_
  refine tot_bindq (R := fun r_4 : Int32 => (0 ≤ r_4.toInt ∧ r_4.toInt ≤ 200)) (cs_X8_windowOf T o a0 h_T k_o k_a0 ) (fun r_4 d_r_4 => ?_)
  replace d_r_4 : (0 ≤ r_4.toInt ∧ r_4.toInt ≤ 200) := d_r_4
  refine cl_X8_subtractBeam_b18 o a0 a1 v_3 r_4 T k_o k_a0 (by omega) (by omega) ?_ 16384 T 0 h_T x_T (by omega) (by omega)
  · intro T_116 h_T_116 x_T_116
    refine tot_oif (iv_oO h_T_116 k_o (by decide) (by decide) rfl) ?_
    refine tot_let (fun v_117 e_v_117 => ?_)
    have r_v_117 := i_any v_117
    refine tot_let (fun v_118 e_v_118 => ?_)
    have r_v_118 := i_any v_118
    refine tot_oif (iv_oO h_T_116 k_o (by decide) (by decide) rfl) ?_
    refine tot_let (fun T_119 e_T_119 => ?_)
    have ja_T_119 := i_any v_118
    have h_T_119 : IV R B K1 K2 T_119 := by rw [e_T_119]; exact iv_uI (a := -2147483648) (b := 2147483647) h_T_116 k_o (by decide) (by decide) rfl (by omega) (.inl rfl)
    have x_T_119 := x_T_116.tr (fw_uI e_T_119 k_o (by decide))
    exact tot_some ⟨h_T_119, x_T_119⟩
set_option maxHeartbeats 4000000 in
set_option maxRecDepth 10000 in
theorem cl_X9_addWord_b3 {R : Nat → Nat} {B K1 K2 : Nat} {Q : AT → Prop} (l0 : Nat) (l1 : Int32) (T00 : AT) (k_l0 : R l0 = 9) (hx0 : ∀ (T : AT), (IV R B K1 K2 T) → (FW R [289, 1312] T00 T) → Tot (some (T)) Q) : ∀ (n : Nat) (T : AT) (l2 : Int32), (IV R B K1 K2 T) → (FW R [289, 1312] T00 T) → (-8 ≤ l2.toInt ∧ l2.toInt ≤ 24) → l2.toInt - (-8) < (n : Int) → Tot (g_X9_addWord_b3 n T l0 l1 l2) Q := by
  have z0 : (0 : Int32).toInt = 0 := by decide
  have z1 : (1000 : Int32).toInt = 1000 := by decide
  have z2 : (Int32.ofInt (-8) : Int32).toInt = -8 := by decide
  have z3 : (255 : Int32).toInt = 255 := by decide
  have z4 : (1 : Int32).toInt = 1 := by decide
  have cc_101 : cnt 101 = 1 := rfl
  have cc_102 : cnt 102 = 12 := rfl
  have cc_103 : cnt 103 = 144 := rfl
  have cc_104 : cnt 104 = 2400 := rfl
  have cc_105 : cnt 105 = 7200 := rfl
  have j_l1 := i_any l1
  intro n
  induction n with
  | zero =>
    intro T l2 h_T x_T g_l2 hm
    exfalso
    omega
  | succ n ih =>
    intro T l2 h_T x_T g_l2 hm
    unfold g_X9_addWord_b3
    refine tot_if (fun c_32 => ?_) (fun c_32 => ?_)
    · replace c_32 := i_lt c_32
      exact hx0 T h_T x_T
    · replace c_32 := i_nlt c_32
      refine tot_oif (iv_oO h_T k_l0 (by decide) (by decide) rfl) ?_
      refine tot_let (fun v_23 e_v_23 => ?_)
      have q_v_23 := i_eq e_v_23
      have r_v_23 : 0 ≤ v_23.toInt ∧ v_23.toInt ≤ 1000 := iv_int h_T k_l0 (by decide) (by decide) e_v_23 rfl
      refine tot_if (fun c_33 => ?_) (fun c_33 => ?_)
      · replace c_33 := i_le c_33
        unfold g_X9_addWord_b43
        refine tot_let (fun v_34 e_v_34 => ?_)
        have q_v_34 := i_add e_v_34 (by omega) (by omega)
        exact ih T v_34 h_T x_T (by omega) (by omega)
      · replace c_33 := i_nle c_33
        refine tot_oif (iv_oO h_T k_l0 (by decide) (by decide) rfl) ?_
        refine tot_ref h_T k_l0 (by decide) (by decide) (r2 := 41) (rfl : rtg 9 0 = 41) (by decide) (fun n_24 k_n_24 e_n_24 => ?_)
        refine tot_oif (iv_oO h_T k_l0 (by decide) (by decide) rfl) ?_
        refine tot_let (fun v_25 e_v_25 => ?_)
        have u_v_25 : v_25.toInt = v_23.toInt := by rw [e_v_25, e_v_23]
        have q_v_25 := i_eq e_v_25
        have r_v_25 : 0 ≤ v_25.toInt ∧ v_25.toInt ≤ 1000 := iv_int h_T k_l0 (by decide) (by decide) e_v_25 rfl
        refine tot_let (fun v_26 e_v_26 => ?_)
        have r_v_26 := i_any v_26
        refine tot_let (fun v_27 e_v_27 => ?_)
        have r_v_27 := i_any v_27
        refine tot_oif (iv_aA h_T k_n_24 (by decide) (by decide) rfl rfl) ?_
        refine tot_oif (by rw [iv_len h_T k_n_24 (by decide) (by decide) (rfl : shp 41 = (100, 1000))]; exact i_inb (by omega) (by omega)) ?_
        refine tot_let (fun T_28 e_T_28 => ?_)
        have ja_T_28 := i_any v_27
        have h_T_28 : IV R B K1 K2 T_28 := by rw [e_T_28]; exact iv_uI (a := -2147483648) (b := 2147483647) h_T k_n_24 (by decide) (by decide) rfl (by omega) (.inl rfl)
        have x_T_28 := x_T.tr (fw_uA e_T_28 k_n_24 rfl rfl (by decide))
        have f_T_28_l0_1 : (T_28.2.2.1 l0 1).toInt = (T.2.2.1 l0 1).toInt := congrArg Int32.toInt ((fw_uA (W := [1312]) e_T_28 k_n_24 rfl rfl (by decide)) l0 1 (by rw [k_l0]; decide))
        refine tot_oif (iv_oO h_T_28 k_l0 (by decide) (by decide) rfl) ?_
        refine tot_let (fun v_29 e_v_29 => ?_)
        have q_v_29 := i_eq e_v_29
        have r_v_29 : 0 ≤ v_29.toInt ∧ v_29.toInt ≤ 1000 := iv_int h_T_28 k_l0 (by decide) (by decide) e_v_29 rfl
        refine tot_let (fun v_30 e_v_30 => ?_)
        have q_v_30 := i_add e_v_30 (by omega) (by omega)
        refine tot_oif (iv_oO h_T_28 k_l0 (by decide) (by decide) rfl) ?_
        refine tot_let (fun T_31 e_T_31 => ?_)
        have h_T_31 : IV R B K1 K2 T_31 := by rw [e_T_31]; exact iv_uI (a := 0) (b := 1000) h_T_28 k_l0 (by decide) (by decide) rfl (by omega) (.inl rfl)
        have x_T_31 := x_T_28.tr (fw_uI e_T_31 k_l0 (by decide))
        have f_T_31_l0_1 : (T_31.2.2.1 l0 1).toInt = (v_30 : Int32).toInt := by rw [e_T_31]; exact congrArg Int32.toInt (uI_at _ _ _ _)
        unfold g_X9_addWord_b43
        refine tot_let (fun v_35 e_v_35 => ?_)
        have q_v_35 := i_add e_v_35 (by omega) (by omega)
        exact ih T_31 v_35 h_T_31 x_T_31 (by omega) (by omega)
set_option maxHeartbeats 4000000 in
set_option maxRecDepth 10000 in
theorem cs_X9_addWord {R : Nat → Nat} {B K1 K2 : Nat} (T : AT) (o : Nat) (a0 : Int32) (h_T : IV R B K1 K2 T) (k_o : R o = 9) : Tot (g_X9_addWord T o a0) (fun T1 => IV R B K1 K2 T1 ∧ FW R [289, 1312] T T1) := by
  have z0 : (24 : Int32).toInt = 24 := by decide
  have cc_101 : cnt 101 = 1 := rfl
  have cc_102 : cnt 102 = 12 := rfl
  have cc_103 : cnt 103 = 144 := rfl
  have cc_104 : cnt 104 = 2400 := rfl
  have cc_105 : cnt 105 = 7200 := rfl
  have x_T : FW R [289, 1312] T T := FW.rf
  have j_a0 := i_any a0
  unfold g_X9_addWord
  refine cl_X9_addWord_b3 o a0 T k_o ?_ 16384 T 24 h_T x_T (by omega) (by omega)
  · intro T_36 h_T_36 x_T_36
    exact tot_some ⟨h_T_36, x_T_36⟩
set_option maxHeartbeats 4000000 in
set_option maxRecDepth 10000 in
theorem cs_X11_append {R : Nat → Nat} {B K1 K2 : Nat} (T : AT) (o : Nat) (a0 : Int32) (a1 : Int32) (a2 : Int32) (a3 : Int32) (a4 : Int32) (h_T : IV R B K1 K2 T) (k_o : R o = 11) : Tot (g_X11_append T o a0 a1 a2 a3 a4) (fun r => (IV R B K1 K2 r.2 ∧ FW R [289, 1312] T r.2) ∧ (-1 ≤ r.1.toInt ∧ r.1.toInt ≤ 1000)) := by
  have z0 : (20 : Int32).toInt = 20 := by decide
  have z1 : (1000 : Int32).toInt = 1000 := by decide
  have z2 : ((-1) : Int32).toInt = -1 := by decide
  have cc_101 : cnt 101 = 1 := rfl
  have cc_102 : cnt 102 = 12 := rfl
  have cc_103 : cnt 103 = 144 := rfl
  have cc_104 : cnt 104 = 2400 := rfl
  have cc_105 : cnt 105 = 7200 := rfl
  have x_T : FW R [289, 1312] T T := FW.rf
  have j_a0 := i_any a0
  have j_a1 := i_any a1
  have j_a2 := i_any a2
  have j_a3 := i_any a3
  have j_a4 := i_any a4
  unfold g_X11_append
  refine tot_oif (iv_oO h_T k_o (by decide) (by decide) rfl) ?_
  refine tot_ref h_T k_o (by decide) (by decide) (r2 := 9) (rfl : rtg 11 0 = 9) (by decide) (fun n_1 k_n_1 e_n_1 => ?_)
  refine tot_oif (iv_oO h_T k_n_1 (by decide) (by decide) rfl) ?_
  refine tot_let (fun v_2 e_v_2 => ?_)
  have r_v_2 : 0 ≤ v_2.toInt ∧ v_2.toInt ≤ 1000 := iv_int h_T k_n_1 (by decide) (by decide) e_v_2 rfl
  refine tot_let (fun v_3 e_v_3 => ?_)
  have q_v_3 := i_add e_v_3 (by omega) (by omega)
  refine tot_if (fun c_16 => ?_) (fun c_16 => ?_)
  · replace c_16 := i_le c_16
    refine tot_oif (iv_oO h_T k_o (by decide) (by decide) rfl) ?_
    refine tot_ref1 e_n_1 ?_
    refine tot_oif (iv_oO h_T k_n_1 (by decide) (by decide) rfl) ?_
    refine tot_bind (cs_X9_addWord T n_1 a0 h_T k_n_1 ) (fun T_5 d_T_5 => ?_)
    have h_T_5 : IV R B K1 K2 T_5 := d_T_5.1
    have y_T_5 : FW R [289, 1312] T T_5 := d_T_5.2
    have x_T_5 := x_T.tr (y_T_5.w (by decide))
    refine tot_oif (iv_oO h_T_5 k_o (by decide) (by decide) rfl) ?_
    refine tot_ref h_T_5 k_o (by decide) (by decide) (r2 := 9) (rfl : rtg 11 0 = 9) (by decide) (fun n_6 k_n_6 e_n_6 => ?_)
    refine tot_oif (iv_oO h_T_5 k_n_6 (by decide) (by decide) rfl) ?_
    refine tot_bind (cs_X9_addWord T_5 n_6 a1 h_T_5 k_n_6 ) (fun T_7 d_T_7 => ?_)
    have h_T_7 : IV R B K1 K2 T_7 := d_T_7.1
    have y_T_7 : FW R [289, 1312] T_5 T_7 := d_T_7.2
    have x_T_7 := x_T_5.tr (y_T_7.w (by decide))
    refine tot_oif (iv_oO h_T_7 k_o (by decide) (by decide) rfl) ?_
    refine tot_ref h_T_7 k_o (by decide) (by decide) (r2 := 9) (rfl : rtg 11 0 = 9) (by decide) (fun n_8 k_n_8 e_n_8 => ?_)
    refine tot_oif (iv_oO h_T_7 k_n_8 (by decide) (by decide) rfl) ?_
    refine tot_bind (cs_X9_addWord T_7 n_8 a2 h_T_7 k_n_8 ) (fun T_9 d_T_9 => ?_)
    have h_T_9 : IV R B K1 K2 T_9 := d_T_9.1
    have y_T_9 : FW R [289, 1312] T_7 T_9 := d_T_9.2
    have x_T_9 := x_T_7.tr (y_T_9.w (by decide))
    refine tot_oif (iv_oO h_T_9 k_o (by decide) (by decide) rfl) ?_
    refine tot_ref h_T_9 k_o (by decide) (by decide) (r2 := 9) (rfl : rtg 11 0 = 9) (by decide) (fun n_10 k_n_10 e_n_10 => ?_)
    refine tot_oif (iv_oO h_T_9 k_n_10 (by decide) (by decide) rfl) ?_
    refine tot_bind (cs_X9_addWord T_9 n_10 a3 h_T_9 k_n_10 ) (fun T_11 d_T_11 => ?_)
    have h_T_11 : IV R B K1 K2 T_11 := d_T_11.1
    have y_T_11 : FW R [289, 1312] T_9 T_11 := d_T_11.2
    have x_T_11 := x_T_9.tr (y_T_11.w (by decide))
    refine tot_oif (iv_oO h_T_11 k_o (by decide) (by decide) rfl) ?_
    refine tot_ref h_T_11 k_o (by decide) (by decide) (r2 := 9) (rfl : rtg 11 0 = 9) (by decide) (fun n_12 k_n_12 e_n_12 => ?_)
    refine tot_oif (iv_oO h_T_11 k_n_12 (by decide) (by decide) rfl) ?_
    refine tot_bind (cs_X9_addWord T_11 n_12 a4 h_T_11 k_n_12 ) (fun T_13 d_T_13 => ?_)
    have h_T_13 : IV R B K1 K2 T_13 := d_T_13.1
    have y_T_13 : FW R [289, 1312] T_11 T_13 := d_T_13.2
    have x_T_13 := x_T_11.tr (y_T_13.w (by decide))
    refine tot_oif (iv_oO h_T_13 k_o (by decide) (by decide) rfl) ?_
    refine tot_ref h_T_13 k_o (by decide) (by decide) (r2 := 9) (rfl : rtg 11 0 = 9) (by decide) (fun n_14 k_n_14 e_n_14 => ?_)
    refine tot_oif (iv_oO h_T_13 k_n_14 (by decide) (by decide) rfl) ?_
    refine tot_let (fun v_15 e_v_15 => ?_)
    have r_v_15 : 0 ≤ v_15.toInt ∧ v_15.toInt ≤ 1000 := iv_int h_T_13 k_n_14 (by decide) (by decide) e_v_15 rfl
    exact tot_some ⟨⟨h_T_13, x_T_13⟩, (show (-1 ≤ v_15.toInt ∧ v_15.toInt ≤ 1000) from by omega)⟩
  · replace c_16 := i_nle c_16
    exact tot_some ⟨⟨h_T, x_T⟩, (show (-1 ≤ ((-1) : Int32).toInt ∧ ((-1) : Int32).toInt ≤ 1000) from by omega)⟩
set_option maxHeartbeats 4000000 in
set_option maxRecDepth 10000 in
theorem cl_X11_begin_b48 {R : Nat → Nat} {B K1 K2 : Nat} {Q : AT → Prop} (l0 : Nat) (T00 : AT) (k_l0 : R l0 = 11) (hx0 : ∀ (T : AT), (IV R B K1 K2 T) → (FW R [128, 256, 257, 258, 368, 1472, 1568, 1600, 1984, 2016, 2048, 2080, 2112, 3202] T00 T) → Tot (some (T)) Q) : ∀ (n : Nat) (T : AT) (l1 : Int32), (IV R B K1 K2 T) → (FW R [128, 256, 257, 258, 368, 1472, 1568, 1600, 1984, 2016, 2048, 2080, 2112, 3202] T00 T) → (0 ≤ l1.toInt ∧ l1.toInt ≤ 2) → 2 - l1.toInt < (n : Int) → Tot (g_X11_begin_b48 n T l0 l1) Q := by
  have z0 : (2 : Int32).toInt = 2 := by decide
  have z1 : (0 : Int32).toInt = 0 := by decide
  have z2 : (Int32.ofInt (1) : Int32).toInt = 1 := by decide
  have cc_101 : cnt 101 = 1 := rfl
  have cc_102 : cnt 102 = 12 := rfl
  have cc_103 : cnt 103 = 144 := rfl
  have cc_104 : cnt 104 = 2400 := rfl
  have cc_105 : cnt 105 = 7200 := rfl
  intro n
  induction n with
  | zero =>
    intro T l1 h_T x_T g_l1 hm
    exfalso
    omega
  | succ n ih =>
    intro T l1 h_T x_T g_l1 hm
    unfold g_X11_begin_b48
    refine tot_if (fun c_22 => ?_) (fun c_22 => ?_)
    · replace c_22 := i_le c_22
      exact hx0 T h_T x_T
    · replace c_22 := i_nle c_22
      refine tot_oif (iv_oO h_T k_l0 (by decide) (by decide) rfl) ?_
      refine tot_ref h_T k_l0 (by decide) (by decide) (r2 := 49) (rfl : rtg 11 10 = 49) (by decide) (fun n_19 k_n_19 e_n_19 => ?_)
      refine tot_oif (iv_aA h_T k_n_19 (by decide) (by decide) rfl rfl) ?_
      refine tot_oif (by rw [iv_len h_T k_n_19 (by decide) (by decide) (rfl : shp 49 = (102, 2))]; exact i_inb (by omega) (by omega)) ?_
      refine tot_let (fun T_20 e_T_20 => ?_)
      have h_T_20 : IV R B K1 K2 T_20 := by rw [e_T_20]; exact iv_uI (a := 0) (b := 1) h_T k_n_19 (by decide) (by decide) rfl (by omega) (.inl rfl)
      have x_T_20 := x_T.tr (fw_uA e_T_20 k_n_19 rfl rfl (by decide))
      refine tot_let (fun v_21 e_v_21 => ?_)
      have q_v_21 := i_add e_v_21 (by omega) (by omega)
      exact ih T_20 v_21 h_T_20 x_T_20 (by omega) (by omega)
set_option maxHeartbeats 4000000 in
set_option maxRecDepth 10000 in
theorem cs_X11_begin {R : Nat → Nat} {B K1 K2 : Nat} (T : AT) (o : Nat) (h_T : IV R B K1 K2 T) (k_o : R o = 11) : Tot (g_X11_begin T o) (fun T1 => IV R B K1 K2 T1 ∧ FW R [128, 256, 257, 258, 368, 1472, 1568, 1600, 1984, 2016, 2048, 2080, 2112, 3202] T T1) := by
  have z0 : (0 : Int32).toInt = 0 := by decide
  have cc_101 : cnt 101 = 1 := rfl
  have cc_102 : cnt 102 = 12 := rfl
  have cc_103 : cnt 103 = 144 := rfl
  have cc_104 : cnt 104 = 2400 := rfl
  have cc_105 : cnt 105 = 7200 := rfl
  have x_T : FW R [128, 256, 257, 258, 368, 1472, 1568, 1600, 1984, 2016, 2048, 2080, 2112, 3202] T T := FW.rf
  unfold g_X11_begin
  refine tot_oif (iv_oO h_T k_o (by decide) (by decide) rfl) ?_
  refine tot_ref h_T k_o (by decide) (by decide) (r2 := 6) (rfl : rtg 11 14 = 6) (by decide) (fun n_1 k_n_1 e_n_1 => ?_)
  refine tot_oif (iv_oO h_T k_n_1 (by decide) (by decide) rfl) ?_
  refine tot_bind (cs_X6_measureDelays T n_1 h_T k_n_1 ) (fun T_2 d_T_2 => ?_)
  have h_T_2 : IV R B K1 K2 T_2 := d_T_2.1
  have y_T_2 : FW R [1600] T T_2 := d_T_2.2
  have x_T_2 := x_T.tr (y_T_2.w (by decide))
  refine tot_oif (iv_oO h_T_2 k_o (by decide) (by decide) rfl) ?_
  refine tot_ref h_T_2 k_o (by decide) (by decide) (r2 := 8) (rfl : rtg 11 6 = 8) (by decide) (fun n_3 k_n_3 e_n_3 => ?_)
  refine tot_oif (iv_oO h_T_2 k_o (by decide) (by decide) rfl) ?_
  refine tot_ref h_T_2 k_o (by decide) (by decide) (r2 := 6) (rfl : rtg 11 14 = 6) (by decide) (fun n_4 k_n_4 e_n_4 => ?_)
  refine tot_oif (iv_oO h_T_2 k_n_3 (by decide) (by decide) rfl) ?_
  refine tot_bind (cs_X8_begin T_2 n_3 n_4 h_T_2 k_n_3 k_n_4 ) (fun T_5 d_T_5 => ?_)
  have h_T_5 : IV R B K1 K2 T_5 := d_T_5.1
  have y_T_5 : FW R [256, 257, 1984, 2016, 2048, 2080, 2112] T_2 T_5 := d_T_5.2
  have x_T_5 := x_T_2.tr (y_T_5.w (by decide))
  refine tot_oif (iv_oO h_T_5 k_o (by decide) (by decide) rfl) ?_
  refine tot_ref h_T_5 k_o (by decide) (by decide) (r2 := 5) (rfl : rtg 11 2 = 5) (by decide) (fun n_6 k_n_6 e_n_6 => ?_)
  refine tot_oif (iv_oO h_T_5 k_o (by decide) (by decide) rfl) ?_
  refine tot_ref h_T_5 k_o (by decide) (by decide) (r2 := 6) (rfl : rtg 11 14 = 6) (by decide) (fun n_7 k_n_7 e_n_7 => ?_)
  refine tot_oif (iv_oO h_T_5 k_o (by decide) (by decide) rfl) ?_
  refine tot_ref h_T_5 k_o (by decide) (by decide) (r2 := 8) (rfl : rtg 11 6 = 8) (by decide) (fun n_8 k_n_8 e_n_8 => ?_)
  refine tot_oif (iv_oO h_T_5 k_n_6 (by decide) (by decide) rfl) ?_
  refine tot_bind (cs_X5_record T_5 n_6 n_7 n_8 h_T_5 k_n_6 k_n_7 k_n_8 ) (fun T_9 d_T_9 => ?_)
  have h_T_9 : IV R B K1 K2 T_9 := d_T_9.1
  have y_T_9 : FW R [258, 1472, 3202] T_5 T_9 := d_T_9.2
  have x_T_9 := x_T_5.tr (y_T_9.w (by decide))
  unfold g_X11_begin_b33
  refine tot_oif (iv_oO h_T_9 k_o (by decide) (by decide) rfl) ?_
  refine tot_let (fun T_10 e_T_10 => ?_)
  have h_T_10 : IV R B K1 K2 T_10 := by rw [e_T_10]; exact iv_uI (a := 0) (b := 6) h_T_9 k_o (by decide) (by decide) rfl (by omega) (.inl rfl)
  have x_T_10 := x_T_9.tr (fw_uI e_T_10 k_o (by decide))
  refine tot_oif (iv_oO h_T_10 k_o (by decide) (by decide) rfl) ?_
  refine tot_ref h_T_10 k_o (by decide) (by decide) (r2 := 4) (rfl : rtg 11 4 = 4) (by decide) (fun n_11 k_n_11 e_n_11 => ?_)
  refine tot_oif (iv_oO h_T_10 k_n_11 (by decide) (by decide) rfl) ?_
  refine tot_let (fun T_12 e_T_12 => ?_)
  have h_T_12 : IV R B K1 K2 T_12 := by rw [e_T_12]; exact iv_uI (a := 0) (b := 1) h_T_10 k_n_11 (by decide) (by decide) rfl (by omega) (.inl rfl)
  have x_T_12 := x_T_10.tr (fw_uI e_T_12 k_n_11 (by decide))
  refine cl_X11_begin_b48 o T k_o ?_ 16384 T_12 0 h_T_12 x_T_12 (by omega) (by omega)
  · intro T_23 h_T_23 x_T_23
    exact tot_some ⟨h_T_23, x_T_23⟩
set_option maxHeartbeats 4000000 in
set_option maxRecDepth 10000 in
theorem cs_X11_load {R : Nat → Nat} {B K1 K2 : Nat} (T : AT) (o : Nat) (a0 : Int32) (h_T : IV R B K1 K2 T) (k_o : R o = 11) : Tot (g_X11_load T o a0) (fun r => (IV R B K1 K2 r.2.2 ∧ FW R [32, 33, 34, 35, 36, 39, 64, 65, 66, 67, 97, 98, 99, 128, 192, 193, 194, 195, 197, 200, 203, 204, 206, 208, 224, 225, 226, 227, 228, 229, 230, 231, 232, 233, 256, 257, 258, 289, 293, 368, 1344, 1376, 1408, 1472, 1568, 1600, 1760, 1792, 1824, 1856, 1888, 1984, 2016, 2048, 2080, 2112, 3202] T r.2.2) ∧ (r.1 = 0 → (0 ≤ r.2.1.toInt ∧ r.2.1.toInt ≤ 144))) := by
  have z0 : (0 : Int32).toInt = 0 := by decide
  have cc_101 : cnt 101 = 1 := rfl
  have cc_102 : cnt 102 = 12 := rfl
  have cc_103 : cnt 103 = 144 := rfl
  have cc_104 : cnt 104 = 2400 := rfl
  have cc_105 : cnt 105 = 7200 := rfl
  have x_T : FW R [32, 33, 34, 35, 36, 39, 64, 65, 66, 67, 97, 98, 99, 128, 192, 193, 194, 195, 197, 200, 203, 204, 206, 208, 224, 225, 226, 227, 228, 229, 230, 231, 232, 233, 256, 257, 258, 289, 293, 368, 1344, 1376, 1408, 1472, 1568, 1600, 1760, 1792, 1824, 1856, 1888, 1984, 2016, 2048, 2080, 2112, 3202] T T := FW.rf
  have j_a0 := i_any a0
  unfold g_X11_load
  refine tot_if (fun c_14 => ?_) (fun c_14 => ?_)
  · replace c_14 := i_lt c_14
    unfold g_X11_load_b15
    exact tot_some ⟨⟨h_T, x_T⟩, fun q_ => absurd q_ (Nat.succ_ne_zero _)⟩
  · replace c_14 := i_nlt c_14
    refine tot_oif (iv_oO h_T k_o (by decide) (by decide) rfl) ?_
    refine tot_ref h_T k_o (by decide) (by decide) (r2 := 9) (rfl : rtg 11 0 = 9) (by decide) (fun n_1 k_n_1 e_n_1 => ?_)
    refine tot_oif (iv_oO h_T k_n_1 (by decide) (by decide) rfl) ?_
    refine tot_let (fun v_2 e_v_2 => ?_)
    have r_v_2 : 0 ≤ v_2.toInt ∧ v_2.toInt ≤ 1000 := iv_int h_T k_n_1 (by decide) (by decide) e_v_2 rfl
    refine tot_if (fun c_15 => ?_) (fun c_15 => ?_)
    · replace c_15 := i_le c_15
      refine tot_oif (iv_oO h_T k_o (by decide) (by decide) rfl) ?_
      refine tot_ref1 e_n_1 ?_
      refine tot_oif (iv_oO h_T k_n_1 (by decide) (by decide) rfl) ?_
      refine tot_let (fun T_4 e_T_4 => ?_)
      have h_T_4 : IV R B K1 K2 T_4 := by rw [e_T_4]; exact iv_uI (a := 0) (b := 1000) h_T k_n_1 (by decide) (by decide) rfl (by omega) (.inl rfl)
      have x_T_4 := x_T.tr (fw_uI e_T_4 k_n_1 (by decide))
      refine tot_oif (iv_oO h_T_4 k_o (by decide) (by decide) rfl) ?_
      refine tot_ref h_T_4 k_o (by decide) (by decide) (r2 := 3) (rfl : rtg 11 1 = 3) (by decide) (fun n_5 k_n_5 e_n_5 => ?_)
      refine tot_oif (iv_oO h_T_4 k_o (by decide) (by decide) rfl) ?_
      refine tot_ref h_T_4 k_o (by decide) (by decide) (r2 := 6) (rfl : rtg 11 15 = 6) (by decide) (fun n_6 k_n_6 e_n_6 => ?_)
      refine tot_oif (iv_oO h_T_4 k_n_5 (by decide) (by decide) rfl) ?_
      refine tot_thri (R := R) (W := [32, 33, 34, 35, 36, 39, 64, 65, 66, 67, 97, 98, 99, 192, 193, 194, 195, 197, 200, 203, 204, 206, 208, 224, 225, 226, 227, 228, 229, 230, 231, 232, 233, 293, 1344, 1376, 1408, 1760, 1792, 1824, 1856, 1888]) (Q := fun r_7 : Int32 => (0 ≤ r_7.toInt ∧ r_7.toInt ≤ 0)) (cs_X3_parse T_4 n_5 a0 n_6 h_T_4 k_n_5 k_n_6 (by omega)) (fun r_7 T_8 i_T_8 y_T_8 d_r_7 => ?_) (fun k_ U_ i_ y_ => ⟨⟨i_, x_T_4.tr (y_.w (by decide))⟩, fun q_ => absurd q_ (Nat.succ_ne_zero k_)⟩)
      have h_T_8 : IV R B K1 K2 T_8 := i_T_8
      have x_T_8 := x_T_4.tr (y_T_8.w (by decide))
      replace d_r_7 : (0 ≤ r_7.toInt ∧ r_7.toInt ≤ 0) := d_r_7
      refine tot_oif (iv_oO h_T_8 k_o (by decide) (by decide) rfl) ?_
      refine tot_ref h_T_8 k_o (by decide) (by decide) (r2 := 6) (rfl : rtg 11 14 = 6) (by decide) (fun n_9 k_n_9 e_n_9 => ?_)
      refine tot_oif (iv_oO h_T_8 k_o (by decide) (by decide) rfl) ?_
      refine tot_ref h_T_8 k_o (by decide) (by decide) (r2 := 6) (rfl : rtg 11 15 = 6) (by decide) (fun n_10 k_n_10 e_n_10 => ?_)
      refine tot_oif (iv_oO h_T_8 k_o (by decide) (by decide) rfl) ?_
      refine tot_oif (Nat.ble_eq_true_of_le (iv_lt h_T_8 (iv_sta h_T_8 k_n_10 (by decide) (by decide)))) ?_
      refine tot_let (fun T_11 e_T_11 => ?_)
      have h_T_11 : IV R B K1 K2 T_11 := by rw [e_T_11]; exact iv_uR h_T_8 k_o (by decide) (by decide) rfl rfl (by rw [k_n_10]; rfl) (by decide)
      have x_T_11 := x_T_8.tr (fw_of (T := T_8) (T1 := T_11) (by rw [e_T_11]; rfl))
      refine tot_oif (iv_oO h_T_11 k_o (by decide) (by decide) rfl) ?_
      refine tot_oif (Nat.ble_eq_true_of_le (iv_lt h_T_11 (iv_sta h_T_11 k_n_9 (by decide) (by decide)))) ?_
      refine tot_let (fun T_12 e_T_12 => ?_)
      have h_T_12 : IV R B K1 K2 T_12 := by rw [e_T_12]; exact iv_uR h_T_11 k_o (by decide) (by decide) rfl rfl (by rw [k_n_9]; rfl) (by decide)
      have x_T_12 := x_T_11.tr (fw_of (T := T_11) (T1 := T_12) (by rw [e_T_12]; rfl))
      refine tot_oif (iv_oO h_T_12 k_o (by decide) (by decide) rfl) ?_
      refine tot_bind (cs_X11_begin T_12 o h_T_12 k_o ) (fun T_13 d_T_13 => ?_)
      have h_T_13 : IV R B K1 K2 T_13 := d_T_13.1
      have y_T_13 : FW R [128, 256, 257, 258, 368, 1472, 1568, 1600, 1984, 2016, 2048, 2080, 2112, 3202] T_12 T_13 := d_T_13.2
      have x_T_13 := x_T_12.tr (y_T_13.w (by decide))
      unfold g_X11_load_b65
      refine tot_oif (iv_oO h_T_13 k_o (by decide) (by decide) rfl) ?_
      refine tot_ref h_T_13 k_o (by decide) (by decide) (r2 := 6) (rfl : rtg 11 14 = 6) (by decide) (fun n_16 k_n_16 e_n_16 => ?_)
      refine tot_oif (iv_oO h_T_13 k_n_16 (by decide) (by decide) rfl) ?_
      refine tot_ref h_T_13 k_n_16 (by decide) (by decide) (r2 := 1) (rfl : rtg 6 6 = 1) (by decide) (fun n_17 k_n_17 e_n_17 => ?_)
      refine tot_oif (iv_oO h_T_13 k_n_17 (by decide) (by decide) rfl) ?_
      refine tot_bindq (R := fun r_18 : Int32 => (0 ≤ r_18.toInt ∧ r_18.toInt ≤ 144)) (cs_X1_cells T_13 n_17 h_T_13 k_n_17 ) (fun r_18 d_r_18 => ?_)
      replace d_r_18 : (0 ≤ r_18.toInt ∧ r_18.toInt ≤ 144) := d_r_18
      exact tot_some ⟨⟨h_T_13, x_T_13⟩, fun _ => (show (0 ≤ r_18.toInt ∧ r_18.toInt ≤ 144) from by omega)⟩
    · replace c_15 := i_nle c_15
      unfold g_X11_load_b15
      exact tot_some ⟨⟨h_T, x_T⟩, fun q_ => absurd q_ (Nat.succ_ne_zero _)⟩
set_option maxHeartbeats 4000000 in
set_option maxRecDepth 10000 in
theorem cs_X11_parseError {R : Nat → Nat} {B K1 K2 : Nat} (T : AT) (o : Nat) (h_T : IV R B K1 K2 T) (k_o : R o = 11) : Tot (g_X11_parseError T o) (fun r => r.2 = T ∧ (0 ≤ r.1.toInt ∧ r.1.toInt ≤ 6)) := by
  have cc_101 : cnt 101 = 1 := rfl
  have cc_102 : cnt 102 = 12 := rfl
  have cc_103 : cnt 103 = 144 := rfl
  have cc_104 : cnt 104 = 2400 := rfl
  have cc_105 : cnt 105 = 7200 := rfl
  unfold g_X11_parseError
  refine tot_oif (iv_oO h_T k_o (by decide) (by decide) rfl) ?_
  refine tot_ref h_T k_o (by decide) (by decide) (r2 := 3) (rfl : rtg 11 1 = 3) (by decide) (fun n_1 k_n_1 e_n_1 => ?_)
  refine tot_oif (iv_oO h_T k_n_1 (by decide) (by decide) rfl) ?_
  refine tot_let (fun v_2 e_v_2 => ?_)
  have r_v_2 : 0 ≤ v_2.toInt ∧ v_2.toInt ≤ 6 := iv_int h_T k_n_1 (by decide) (by decide) e_v_2 rfl
  exact tot_some ⟨rfl, (show (0 ≤ v_2.toInt ∧ v_2.toInt ≤ 6) from by omega)⟩
set_option maxHeartbeats 4000000 in
set_option maxRecDepth 10000 in
theorem cs_X11_errorPosition {R : Nat → Nat} {B K1 K2 : Nat} (T : AT) (o : Nat) (h_T : IV R B K1 K2 T) (k_o : R o = 11) : Tot (g_X11_errorPosition T o) (fun r => r.2 = T ∧ True) := by
  have cc_101 : cnt 101 = 1 := rfl
  have cc_102 : cnt 102 = 12 := rfl
  have cc_103 : cnt 103 = 144 := rfl
  have cc_104 : cnt 104 = 2400 := rfl
  have cc_105 : cnt 105 = 7200 := rfl
  unfold g_X11_errorPosition
  refine tot_oif (iv_oO h_T k_o (by decide) (by decide) rfl) ?_
  refine tot_ref h_T k_o (by decide) (by decide) (r2 := 3) (rfl : rtg 11 1 = 3) (by decide) (fun n_1 k_n_1 e_n_1 => ?_)
  refine tot_oif (iv_oO h_T k_n_1 (by decide) (by decide) rfl) ?_
  refine tot_let (fun v_2 e_v_2 => ?_)
  have r_v_2 := i_any v_2
  exact tot_some ⟨rfl, trivial⟩
set_option maxHeartbeats 4000000 in
set_option maxRecDepth 10000 in
theorem cs_X11_buffered {R : Nat → Nat} {B K1 K2 : Nat} (T : AT) (o : Nat) (h_T : IV R B K1 K2 T) (k_o : R o = 11) : Tot (g_X11_buffered T o) (fun r => r.2 = T ∧ (0 ≤ r.1.toInt ∧ r.1.toInt ≤ 1000)) := by
  have cc_101 : cnt 101 = 1 := rfl
  have cc_102 : cnt 102 = 12 := rfl
  have cc_103 : cnt 103 = 144 := rfl
  have cc_104 : cnt 104 = 2400 := rfl
  have cc_105 : cnt 105 = 7200 := rfl
  unfold g_X11_buffered
  refine tot_oif (iv_oO h_T k_o (by decide) (by decide) rfl) ?_
  refine tot_ref h_T k_o (by decide) (by decide) (r2 := 9) (rfl : rtg 11 0 = 9) (by decide) (fun n_1 k_n_1 e_n_1 => ?_)
  refine tot_oif (iv_oO h_T k_n_1 (by decide) (by decide) rfl) ?_
  refine tot_let (fun v_2 e_v_2 => ?_)
  have r_v_2 : 0 ≤ v_2.toInt ∧ v_2.toInt ≤ 1000 := iv_int h_T k_n_1 (by decide) (by decide) e_v_2 rfl
  exact tot_some ⟨rfl, (show (0 ≤ v_2.toInt ∧ v_2.toInt ≤ 1000) from by omega)⟩
set_option maxHeartbeats 4000000 in
set_option maxRecDepth 10000 in
theorem cs_X11_mics {R : Nat → Nat} {B K1 K2 : Nat} (T : AT) (o : Nat) (h_T : IV R B K1 K2 T) (k_o : R o = 11) : Tot (g_X11_mics T o) (fun r => r.2 = T ∧ (0 ≤ r.1.toInt ∧ r.1.toInt ≤ 12)) := by
  have cc_101 : cnt 101 = 1 := rfl
  have cc_102 : cnt 102 = 12 := rfl
  have cc_103 : cnt 103 = 144 := rfl
  have cc_104 : cnt 104 = 2400 := rfl
  have cc_105 : cnt 105 = 7200 := rfl
  unfold g_X11_mics
  refine tot_oif (iv_oO h_T k_o (by decide) (by decide) rfl) ?_
  refine tot_ref h_T k_o (by decide) (by decide) (r2 := 6) (rfl : rtg 11 14 = 6) (by decide) (fun n_1 k_n_1 e_n_1 => ?_)
  refine tot_oif (iv_oO h_T k_n_1 (by decide) (by decide) rfl) ?_
  refine tot_let (fun v_2 e_v_2 => ?_)
  have r_v_2 : 0 ≤ v_2.toInt ∧ v_2.toInt ≤ 12 := iv_int h_T k_n_1 (by decide) (by decide) e_v_2 rfl
  exact tot_some ⟨rfl, (show (0 ≤ v_2.toInt ∧ v_2.toInt ≤ 12) from by omega)⟩
set_option maxHeartbeats 4000000 in
set_option maxRecDepth 10000 in
theorem cs_X11_needCamera {R : Nat → Nat} {B K1 K2 : Nat} (T : AT) (o : Nat) (h_T : IV R B K1 K2 T) (k_o : R o = 11) : Tot (g_X11_needCamera T o) (fun r => r.2.2 = T ∧ (r.1 = 0 → (0 ≤ r.2.1.toInt ∧ r.2.1.toInt ≤ 0))) := by
  have z0 : (0 : Int32).toInt = 0 := by decide
  have cc_101 : cnt 101 = 1 := rfl
  have cc_102 : cnt 102 = 12 := rfl
  have cc_103 : cnt 103 = 144 := rfl
  have cc_104 : cnt 104 = 2400 := rfl
  have cc_105 : cnt 105 = 7200 := rfl
  unfold g_X11_needCamera
  refine tot_oif (iv_oO h_T k_o (by decide) (by decide) rfl) ?_
  refine tot_ref h_T k_o (by decide) (by decide) (r2 := 6) (rfl : rtg 11 14 = 6) (by decide) (fun n_1 k_n_1 e_n_1 => ?_)
  refine tot_oif (iv_oO h_T k_n_1 (by decide) (by decide) rfl) ?_
  refine tot_let (fun v_2 e_v_2 => ?_)
  have r_v_2 : 0 ≤ v_2.toInt ∧ v_2.toInt ≤ 12 := iv_int h_T k_n_1 (by decide) (by decide) e_v_2 rfl
  refine tot_if (fun c_3 => ?_) (fun c_3 => ?_)
  · replace c_3 := i_eq c_3
    exact tot_some ⟨rfl, fun q_ => absurd q_ (Nat.succ_ne_zero _)⟩
  · replace c_3 := i_ne c_3
    exact tot_some ⟨rfl, fun _ => (show (0 ≤ (0 : Int32).toInt ∧ (0 : Int32).toInt ≤ 0) from by omega)⟩
set_option maxHeartbeats 4000000 in
set_option maxRecDepth 10000 in
theorem cs_X11_needIndex {R : Nat → Nat} {B K1 K2 : Nat} (T : AT) (a0 : Int32) (a1 : Int32) (h_T : IV R B K1 K2 T) : Tot (g_X11_needIndex T a0 a1) (fun r => r.2.2 = T ∧ (r.1 = 0 → (0 ≤ a0.toInt ∧ a0.toInt < a1.toInt))) := by
  have z0 : (0 : Int32).toInt = 0 := by decide
  have cc_101 : cnt 101 = 1 := rfl
  have cc_102 : cnt 102 = 12 := rfl
  have cc_103 : cnt 103 = 144 := rfl
  have cc_104 : cnt 104 = 2400 := rfl
  have cc_105 : cnt 105 = 7200 := rfl
  have j_a0 := i_any a0
  have j_a1 := i_any a1
  unfold g_X11_needIndex
  refine tot_if (fun c_1 => ?_) (fun c_1 => ?_)
  · replace c_1 := i_lt c_1
    unfold g_X11_needIndex_b9
    exact tot_some ⟨rfl, fun q_ => absurd q_ (Nat.succ_ne_zero _)⟩
  · replace c_1 := i_nlt c_1
    refine tot_if (fun c_2 => ?_) (fun c_2 => ?_)
    · replace c_2 := i_lt c_2
      exact tot_some ⟨rfl, fun _ => (show (0 ≤ a0.toInt ∧ a0.toInt < a1.toInt) from by omega)⟩
    · replace c_2 := i_nlt c_2
      unfold g_X11_needIndex_b9
      exact tot_some ⟨rfl, fun q_ => absurd q_ (Nat.succ_ne_zero _)⟩
set_option maxHeartbeats 4000000 in
set_option maxRecDepth 10000 in
theorem cs_X11_needMic {R : Nat → Nat} {B K1 K2 : Nat} (T : AT) (o : Nat) (a0 : Int32) (h_T : IV R B K1 K2 T) (k_o : R o = 11) : Tot (g_X11_needMic T o a0) (fun r => r.2.2 = T ∧ (r.1 = 0 → (0 ≤ a0.toInt ∧ a0.toInt ≤ 11))) := by
  have z0 : (0 : Int32).toInt = 0 := by decide
  have cc_101 : cnt 101 = 1 := rfl
  have cc_102 : cnt 102 = 12 := rfl
  have cc_103 : cnt 103 = 144 := rfl
  have cc_104 : cnt 104 = 2400 := rfl
  have cc_105 : cnt 105 = 7200 := rfl
  have j_a0 := i_any a0
  unfold g_X11_needMic
  refine tot_oif (iv_oO h_T k_o (by decide) (by decide) rfl) ?_
  refine tot_ref h_T k_o (by decide) (by decide) (r2 := 6) (rfl : rtg 11 14 = 6) (by decide) (fun n_1 k_n_1 e_n_1 => ?_)
  refine tot_oif (iv_oO h_T k_n_1 (by decide) (by decide) rfl) ?_
  refine tot_let (fun v_2 e_v_2 => ?_)
  have r_v_2 : 0 ≤ v_2.toInt ∧ v_2.toInt ≤ 12 := iv_int h_T k_n_1 (by decide) (by decide) e_v_2 rfl
  refine tot_thrp (Q := fun r_3 : Int32 => (0 ≤ a0.toInt ∧ a0.toInt < v_2.toInt)) (cs_X11_needIndex T a0 v_2 h_T ) (fun r_3 d_r_3 => ?_) (fun k_ => ⟨rfl, fun q_ => absurd q_ (Nat.succ_ne_zero k_)⟩)
  replace d_r_3 : (0 ≤ a0.toInt ∧ a0.toInt < v_2.toInt) := d_r_3
  exact tot_some ⟨rfl, fun _ => (show (0 ≤ a0.toInt ∧ a0.toInt ≤ 11) from by omega)⟩
set_option maxHeartbeats 4000000 in
set_option maxRecDepth 10000 in
theorem cs_X11_needRange {R : Nat → Nat} {B K1 K2 : Nat} (T : AT) (a0 : Int32) (a1 : Int32) (a2 : Int32) (h_T : IV R B K1 K2 T) : Tot (g_X11_needRange T a0 a1 a2) (fun r => r.2.2 = T ∧ (r.1 = 0 → (a1.toInt ≤ a0.toInt ∧ a0.toInt ≤ a2.toInt))) := by
  have z0 : (0 : Int32).toInt = 0 := by decide
  have cc_101 : cnt 101 = 1 := rfl
  have cc_102 : cnt 102 = 12 := rfl
  have cc_103 : cnt 103 = 144 := rfl
  have cc_104 : cnt 104 = 2400 := rfl
  have cc_105 : cnt 105 = 7200 := rfl
  have j_a0 := i_any a0
  have j_a1 := i_any a1
  have j_a2 := i_any a2
  unfold g_X11_needRange
  refine tot_if (fun c_1 => ?_) (fun c_1 => ?_)
  · replace c_1 := i_lt c_1
    unfold g_X11_needRange_b10
    exact tot_some ⟨rfl, fun q_ => absurd q_ (Nat.succ_ne_zero _)⟩
  · replace c_1 := i_nlt c_1
    refine tot_if (fun c_2 => ?_) (fun c_2 => ?_)
    · replace c_2 := i_le c_2
      exact tot_some ⟨rfl, fun _ => (show (a1.toInt ≤ a0.toInt ∧ a0.toInt ≤ a2.toInt) from by omega)⟩
    · replace c_2 := i_nle c_2
      unfold g_X11_needRange_b10
      exact tot_some ⟨rfl, fun q_ => absurd q_ (Nat.succ_ne_zero _)⟩
set_option maxHeartbeats 4000000 in
set_option maxRecDepth 10000 in
theorem cs_X11_micAt {R : Nat → Nat} {B K1 K2 : Nat} (T : AT) (o : Nat) (a0 : Int32) (a1 : Int32) (h_T : IV R B K1 K2 T) (k_o : R o = 11) : Tot (g_X11_micAt T o a0 a1) (fun r => r.2.2 = T ∧ (r.1 = 0 → (-500 ≤ r.2.1.toInt ∧ r.2.1.toInt ≤ 500))) := by
  have z0 : ((0 : Int32) : Int32).toInt = 0 := by decide
  have z1 : ((3 : Int32) : Int32).toInt = 3 := by decide
  have z2 : (0 : Int32).toInt = 0 := by decide
  have z3 : (1 : Int32).toInt = 1 := by decide
  have z4 : (2 : Int32).toInt = 2 := by decide
  have cc_101 : cnt 101 = 1 := rfl
  have cc_102 : cnt 102 = 12 := rfl
  have cc_103 : cnt 103 = 144 := rfl
  have cc_104 : cnt 104 = 2400 := rfl
  have cc_105 : cnt 105 = 7200 := rfl
  have j_a0 := i_any a0
  have j_a1 := i_any a1
  unfold g_X11_micAt
  refine tot_oif (iv_oO h_T k_o (by decide) (by decide) rfl) ?_
  refine tot_thrp (Q := fun r_1 : Int32 => (0 ≤ r_1.toInt ∧ r_1.toInt ≤ 0)) (cs_X11_needCamera T o h_T k_o ) (fun r_1 d_r_1 => ?_) (fun k_ => ⟨rfl, fun q_ => absurd q_ (Nat.succ_ne_zero k_)⟩)
  replace d_r_1 : (0 ≤ r_1.toInt ∧ r_1.toInt ≤ 0) := d_r_1
  refine tot_oif (iv_oO h_T k_o (by decide) (by decide) rfl) ?_
  refine tot_thrp (Q := fun r_3 : Int32 => (0 ≤ a0.toInt ∧ a0.toInt ≤ 11)) (cs_X11_needMic T o a0 h_T k_o ) (fun r_3 d_r_3 => ?_) (fun k_ => ⟨rfl, fun q_ => absurd q_ (Nat.succ_ne_zero k_)⟩)
  replace d_r_3 : (0 ≤ a0.toInt ∧ a0.toInt ≤ 11) := d_r_3
  refine tot_thrp (Q := fun r_5 : Int32 => (((0 : Int32) : Int32).toInt ≤ a1.toInt ∧ a1.toInt ≤ ((3 : Int32) : Int32).toInt)) (cs_X11_needRange T a1 (0 : Int32) (3 : Int32) h_T ) (fun r_5 d_r_5 => ?_) (fun k_ => ⟨rfl, fun q_ => absurd q_ (Nat.succ_ne_zero k_)⟩)
  replace d_r_5 : (((0 : Int32) : Int32).toInt ≤ a1.toInt ∧ a1.toInt ≤ ((3 : Int32) : Int32).toInt) := d_r_5
  refine tot_if (fun c_22 => ?_) (fun c_22 => ?_)
  · replace c_22 := i_eq c_22
    refine tot_oif (iv_oO h_T k_o (by decide) (by decide) rfl) ?_
    refine tot_ref h_T k_o (by decide) (by decide) (r2 := 6) (rfl : rtg 11 14 = 6) (by decide) (fun n_7 k_n_7 e_n_7 => ?_)
    refine tot_oif (iv_oO h_T k_n_7 (by decide) (by decide) rfl) ?_
    refine tot_ref h_T k_n_7 (by decide) (by decide) (r2 := 53) (rfl : rtg 6 4 = 53) (by decide) (fun n_8 k_n_8 e_n_8 => ?_)
    refine tot_oif (iv_aA h_T k_n_8 (by decide) (by decide) rfl rfl) ?_
    refine tot_oif (by rw [iv_len h_T k_n_8 (by decide) (by decide) (rfl : shp 53 = (103, 12))]; exact i_inb (by omega) (by omega)) ?_
    refine tot_ref h_T k_n_8 (by decide) (by decide) (r2 := 2) (rt_53 (by omega) (by omega)) (by decide) (fun n_9 k_n_9 e_n_9 => ?_)
    refine tot_oif (iv_oO h_T k_n_9 (by decide) (by decide) rfl) ?_
    refine tot_let (fun v_10 e_v_10 => ?_)
    have r_v_10 : -500 ≤ v_10.toInt ∧ v_10.toInt ≤ 500 := iv_int h_T k_n_9 (by decide) (by decide) e_v_10 rfl
    exact tot_some ⟨rfl, fun _ => (show (-500 ≤ v_10.toInt ∧ v_10.toInt ≤ 500) from by omega)⟩
  · replace c_22 := i_ne c_22
    refine tot_if (fun c_23 => ?_) (fun c_23 => ?_)
    · replace c_23 := i_eq c_23
      refine tot_oif (iv_oO h_T k_o (by decide) (by decide) rfl) ?_
      refine tot_ref h_T k_o (by decide) (by decide) (r2 := 6) (rfl : rtg 11 14 = 6) (by decide) (fun n_11 k_n_11 e_n_11 => ?_)
      refine tot_oif (iv_oO h_T k_n_11 (by decide) (by decide) rfl) ?_
      refine tot_ref h_T k_n_11 (by decide) (by decide) (r2 := 53) (rfl : rtg 6 4 = 53) (by decide) (fun n_12 k_n_12 e_n_12 => ?_)
      refine tot_oif (iv_aA h_T k_n_12 (by decide) (by decide) rfl rfl) ?_
      refine tot_oif (by rw [iv_len h_T k_n_12 (by decide) (by decide) (rfl : shp 53 = (103, 12))]; exact i_inb (by omega) (by omega)) ?_
      refine tot_ref h_T k_n_12 (by decide) (by decide) (r2 := 2) (rt_53 (by omega) (by omega)) (by decide) (fun n_13 k_n_13 e_n_13 => ?_)
      refine tot_oif (iv_oO h_T k_n_13 (by decide) (by decide) rfl) ?_
      refine tot_let (fun v_14 e_v_14 => ?_)
      have r_v_14 : -500 ≤ v_14.toInt ∧ v_14.toInt ≤ 500 := iv_int h_T k_n_13 (by decide) (by decide) e_v_14 rfl
      exact tot_some ⟨rfl, fun _ => (show (-500 ≤ v_14.toInt ∧ v_14.toInt ≤ 500) from by omega)⟩
    · replace c_23 := i_ne c_23
      refine tot_if (fun c_24 => ?_) (fun c_24 => ?_)
      · replace c_24 := i_eq c_24
        refine tot_oif (iv_oO h_T k_o (by decide) (by decide) rfl) ?_
        refine tot_ref h_T k_o (by decide) (by decide) (r2 := 6) (rfl : rtg 11 14 = 6) (by decide) (fun n_15 k_n_15 e_n_15 => ?_)
        refine tot_oif (iv_oO h_T k_n_15 (by decide) (by decide) rfl) ?_
        refine tot_ref h_T k_n_15 (by decide) (by decide) (r2 := 53) (rfl : rtg 6 4 = 53) (by decide) (fun n_16 k_n_16 e_n_16 => ?_)
        refine tot_oif (iv_aA h_T k_n_16 (by decide) (by decide) rfl rfl) ?_
        refine tot_oif (by rw [iv_len h_T k_n_16 (by decide) (by decide) (rfl : shp 53 = (103, 12))]; exact i_inb (by omega) (by omega)) ?_
        refine tot_ref h_T k_n_16 (by decide) (by decide) (r2 := 2) (rt_53 (by omega) (by omega)) (by decide) (fun n_17 k_n_17 e_n_17 => ?_)
        refine tot_oif (iv_oO h_T k_n_17 (by decide) (by decide) rfl) ?_
        refine tot_let (fun v_18 e_v_18 => ?_)
        have r_v_18 : 0 ≤ v_18.toInt ∧ v_18.toInt ≤ 9 := iv_int h_T k_n_17 (by decide) (by decide) e_v_18 rfl
        exact tot_some ⟨rfl, fun _ => (show (-500 ≤ v_18.toInt ∧ v_18.toInt ≤ 500) from by omega)⟩
      · replace c_24 := i_ne c_24
        refine tot_oif (iv_oO h_T k_o (by decide) (by decide) rfl) ?_
        refine tot_ref h_T k_o (by decide) (by decide) (r2 := 8) (rfl : rtg 11 6 = 8) (by decide) (fun n_19 k_n_19 e_n_19 => ?_)
        refine tot_oif (iv_oO h_T k_n_19 (by decide) (by decide) rfl) ?_
        refine tot_ref h_T k_n_19 (by decide) (by decide) (r2 := 63) (rfl : rtg 8 4 = 63) (by decide) (fun n_20 k_n_20 e_n_20 => ?_)
        refine tot_oif (iv_aA h_T k_n_20 (by decide) (by decide) rfl rfl) ?_
        refine tot_oif (by rw [iv_len h_T k_n_20 (by decide) (by decide) (rfl : shp 63 = (100, 12))]; exact i_inb (by omega) (by omega)) ?_
        refine tot_let (fun v_21 e_v_21 => ?_)
        have r_v_21 : 0 ≤ v_21.toInt ∧ v_21.toInt ≤ 9 := iv_int h_T k_n_20 (by decide) (by decide) e_v_21 rfl
        exact tot_some ⟨rfl, fun _ => (show (-500 ≤ v_21.toInt ∧ v_21.toInt ≤ 500) from by omega)⟩
end
section
/-! 13d.ci8.lean.txt -/
set_option maxHeartbeats 4000000 in
set_option maxRecDepth 10000 in
theorem cs_X11_isMuted {R : Nat → Nat} {B K1 K2 : Nat} (T : AT) (o : Nat) (a0 : Int32) (h_T : IV R B K1 K2 T) (k_o : R o = 11) : Tot (g_X11_isMuted T o a0) (fun r => r.2.2 = T ∧ (r.1 = 0 → (0 ≤ r.2.1.toInt ∧ r.2.1.toInt ≤ 1))) := by
  have cc_101 : cnt 101 = 1 := rfl
  have cc_102 : cnt 102 = 12 := rfl
  have cc_103 : cnt 103 = 144 := rfl
  have cc_104 : cnt 104 = 2400 := rfl
  have cc_105 : cnt 105 = 7200 := rfl
  have j_a0 := i_any a0
  unfold g_X11_isMuted
  refine tot_oif (iv_oO h_T k_o (by decide) (by decide) rfl) ?_
  refine tot_thrp (Q := fun r_1 : Int32 => (0 ≤ r_1.toInt ∧ r_1.toInt ≤ 0)) (cs_X11_needCamera T o h_T k_o ) (fun r_1 d_r_1 => ?_) (fun k_ => ⟨rfl, fun q_ => absurd q_ (Nat.succ_ne_zero k_)⟩)
  replace d_r_1 : (0 ≤ r_1.toInt ∧ r_1.toInt ≤ 0) := d_r_1
  refine tot_oif (iv_oO h_T k_o (by decide) (by decide) rfl) ?_
  refine tot_thrp (Q := fun r_3 : Int32 => (0 ≤ a0.toInt ∧ a0.toInt ≤ 11)) (cs_X11_needMic T o a0 h_T k_o ) (fun r_3 d_r_3 => ?_) (fun k_ => ⟨rfl, fun q_ => absurd q_ (Nat.succ_ne_zero k_)⟩)
  replace d_r_3 : (0 ≤ a0.toInt ∧ a0.toInt ≤ 11) := d_r_3
  refine tot_oif (iv_oO h_T k_o (by decide) (by decide) rfl) ?_
  refine tot_ref h_T k_o (by decide) (by decide) (r2 := 8) (rfl : rtg 11 6 = 8) (by decide) (fun n_5 k_n_5 e_n_5 => ?_)
  refine tot_oif (iv_oO h_T k_n_5 (by decide) (by decide) rfl) ?_
  refine tot_ref h_T k_n_5 (by decide) (by decide) (r2 := 62) (rfl : rtg 8 3 = 62) (by decide) (fun n_6 k_n_6 e_n_6 => ?_)
  refine tot_oif (iv_aA h_T k_n_6 (by decide) (by decide) rfl rfl) ?_
  refine tot_oif (by rw [iv_len h_T k_n_6 (by decide) (by decide) (rfl : shp 62 = (102, 12))]; exact i_inb (by omega) (by omega)) ?_
  refine tot_let (fun v_7 e_v_7 => ?_)
  have r_v_7 : 0 ≤ v_7.toInt ∧ v_7.toInt ≤ 1 := iv_int h_T k_n_6 (by decide) (by decide) e_v_7 rfl
  refine tot_oif (i_b01 (by omega)) ?_
  exact tot_some ⟨rfl, fun _ => (show (0 ≤ v_7.toInt ∧ v_7.toInt ≤ 1) from by omega)⟩
set_option maxHeartbeats 4000000 in
set_option maxRecDepth 10000 in
theorem cs_X11_columns {R : Nat → Nat} {B K1 K2 : Nat} (T : AT) (o : Nat) (h_T : IV R B K1 K2 T) (k_o : R o = 11) : Tot (g_X11_columns T o) (fun r => r.2 = T ∧ (0 ≤ r.1.toInt ∧ r.1.toInt ≤ 12)) := by
  have cc_101 : cnt 101 = 1 := rfl
  have cc_102 : cnt 102 = 12 := rfl
  have cc_103 : cnt 103 = 144 := rfl
  have cc_104 : cnt 104 = 2400 := rfl
  have cc_105 : cnt 105 = 7200 := rfl
  unfold g_X11_columns
  refine tot_oif (iv_oO h_T k_o (by decide) (by decide) rfl) ?_
  refine tot_ref h_T k_o (by decide) (by decide) (r2 := 6) (rfl : rtg 11 14 = 6) (by decide) (fun n_1 k_n_1 e_n_1 => ?_)
  refine tot_oif (iv_oO h_T k_n_1 (by decide) (by decide) rfl) ?_
  refine tot_ref h_T k_n_1 (by decide) (by decide) (r2 := 1) (rfl : rtg 6 6 = 1) (by decide) (fun n_2 k_n_2 e_n_2 => ?_)
  refine tot_oif (iv_oO h_T k_n_2 (by decide) (by decide) rfl) ?_
  refine tot_let (fun v_3 e_v_3 => ?_)
  have r_v_3 : 0 ≤ v_3.toInt ∧ v_3.toInt ≤ 12 := iv_int h_T k_n_2 (by decide) (by decide) e_v_3 rfl
  exact tot_some ⟨rfl, (show (0 ≤ v_3.toInt ∧ v_3.toInt ≤ 12) from by omega)⟩
set_option maxHeartbeats 4000000 in
set_option maxRecDepth 10000 in
theorem cs_X11_rows {R : Nat → Nat} {B K1 K2 : Nat} (T : AT) (o : Nat) (h_T : IV R B K1 K2 T) (k_o : R o = 11) : Tot (g_X11_rows T o) (fun r => r.2 = T ∧ (0 ≤ r.1.toInt ∧ r.1.toInt ≤ 12)) := by
  have cc_101 : cnt 101 = 1 := rfl
  have cc_102 : cnt 102 = 12 := rfl
  have cc_103 : cnt 103 = 144 := rfl
  have cc_104 : cnt 104 = 2400 := rfl
  have cc_105 : cnt 105 = 7200 := rfl
  unfold g_X11_rows
  refine tot_oif (iv_oO h_T k_o (by decide) (by decide) rfl) ?_
  refine tot_ref h_T k_o (by decide) (by decide) (r2 := 6) (rfl : rtg 11 14 = 6) (by decide) (fun n_1 k_n_1 e_n_1 => ?_)
  refine tot_oif (iv_oO h_T k_n_1 (by decide) (by decide) rfl) ?_
  refine tot_ref h_T k_n_1 (by decide) (by decide) (r2 := 1) (rfl : rtg 6 6 = 1) (by decide) (fun n_2 k_n_2 e_n_2 => ?_)
  refine tot_oif (iv_oO h_T k_n_2 (by decide) (by decide) rfl) ?_
  refine tot_let (fun v_3 e_v_3 => ?_)
  have r_v_3 : 0 ≤ v_3.toInt ∧ v_3.toInt ≤ 12 := iv_int h_T k_n_2 (by decide) (by decide) e_v_3 rfl
  exact tot_some ⟨rfl, (show (0 ≤ v_3.toInt ∧ v_3.toInt ≤ 12) from by omega)⟩
set_option maxHeartbeats 4000000 in
set_option maxRecDepth 10000 in
theorem cs_X11_needCell {R : Nat → Nat} {B K1 K2 : Nat} (T : AT) (o : Nat) (a0 : Int32) (h_T : IV R B K1 K2 T) (k_o : R o = 11) : Tot (g_X11_needCell T o a0) (fun r => r.2.2 = T ∧ (r.1 = 0 → (0 ≤ a0.toInt ∧ a0.toInt ≤ 143))) := by
  have z0 : (0 : Int32).toInt = 0 := by decide
  have cc_101 : cnt 101 = 1 := rfl
  have cc_102 : cnt 102 = 12 := rfl
  have cc_103 : cnt 103 = 144 := rfl
  have cc_104 : cnt 104 = 2400 := rfl
  have cc_105 : cnt 105 = 7200 := rfl
  have j_a0 := i_any a0
  unfold g_X11_needCell
  refine tot_oif (iv_oO h_T k_o (by decide) (by decide) rfl) ?_
  refine tot_ref h_T k_o (by decide) (by decide) (r2 := 6) (rfl : rtg 11 14 = 6) (by decide) (fun n_1 k_n_1 e_n_1 => ?_)
  refine tot_oif (iv_oO h_T k_n_1 (by decide) (by decide) rfl) ?_
  refine tot_ref h_T k_n_1 (by decide) (by decide) (r2 := 1) (rfl : rtg 6 6 = 1) (by decide) (fun n_2 k_n_2 e_n_2 => ?_)
  refine tot_oif (iv_oO h_T k_n_2 (by decide) (by decide) rfl) ?_
  refine tot_bindq (R := fun r_3 : Int32 => (0 ≤ r_3.toInt ∧ r_3.toInt ≤ 144)) (cs_X1_cells T n_2 h_T k_n_2 ) (fun r_3 d_r_3 => ?_)
  replace d_r_3 : (0 ≤ r_3.toInt ∧ r_3.toInt ≤ 144) := d_r_3
  refine tot_thrp (Q := fun r_5 : Int32 => (0 ≤ a0.toInt ∧ a0.toInt < r_3.toInt)) (cs_X11_needIndex T a0 r_3 h_T ) (fun r_5 d_r_5 => ?_) (fun k_ => ⟨rfl, fun q_ => absurd q_ (Nat.succ_ne_zero k_)⟩)
  replace d_r_5 : (0 ≤ a0.toInt ∧ a0.toInt < r_3.toInt) := d_r_5
  exact tot_some ⟨rfl, fun _ => (show (0 ≤ a0.toInt ∧ a0.toInt ≤ 143) from by omega)⟩
set_option maxHeartbeats 4000000 in
set_option maxRecDepth 10000 in
theorem cs_X11_cellAt {R : Nat → Nat} {B K1 K2 : Nat} (T : AT) (o : Nat) (a0 : Int32) (a1 : Int32) (h_T : IV R B K1 K2 T) (k_o : R o = 11) : Tot (g_X11_cellAt T o a0 a1) (fun r => r.2.2 = T ∧ (r.1 = 0 → (-999 ≤ r.2.1.toInt ∧ r.2.1.toInt ≤ 15156))) := by
  have z0 : ((0 : Int32) : Int32).toInt = 0 := by decide
  have z1 : ((1 : Int32) : Int32).toInt = 1 := by decide
  have z2 : (0 : Int32).toInt = 0 := by decide
  have cc_101 : cnt 101 = 1 := rfl
  have cc_102 : cnt 102 = 12 := rfl
  have cc_103 : cnt 103 = 144 := rfl
  have cc_104 : cnt 104 = 2400 := rfl
  have cc_105 : cnt 105 = 7200 := rfl
  have j_a0 := i_any a0
  have j_a1 := i_any a1
  unfold g_X11_cellAt
  refine tot_oif (iv_oO h_T k_o (by decide) (by decide) rfl) ?_
  refine tot_thrp (Q := fun r_1 : Int32 => (0 ≤ r_1.toInt ∧ r_1.toInt ≤ 0)) (cs_X11_needCamera T o h_T k_o ) (fun r_1 d_r_1 => ?_) (fun k_ => ⟨rfl, fun q_ => absurd q_ (Nat.succ_ne_zero k_)⟩)
  replace d_r_1 : (0 ≤ r_1.toInt ∧ r_1.toInt ≤ 0) := d_r_1
  refine tot_oif (iv_oO h_T k_o (by decide) (by decide) rfl) ?_
  refine tot_thrp (Q := fun r_3 : Int32 => (0 ≤ a0.toInt ∧ a0.toInt ≤ 143)) (cs_X11_needCell T o a0 h_T k_o ) (fun r_3 d_r_3 => ?_) (fun k_ => ⟨rfl, fun q_ => absurd q_ (Nat.succ_ne_zero k_)⟩)
  replace d_r_3 : (0 ≤ a0.toInt ∧ a0.toInt ≤ 143) := d_r_3
  refine tot_thrp (Q := fun r_5 : Int32 => (((0 : Int32) : Int32).toInt ≤ a1.toInt ∧ a1.toInt ≤ ((1 : Int32) : Int32).toInt)) (cs_X11_needRange T a1 (0 : Int32) (1 : Int32) h_T ) (fun r_5 d_r_5 => ?_) (fun k_ => ⟨rfl, fun q_ => absurd q_ (Nat.succ_ne_zero k_)⟩)
  replace d_r_5 : (((0 : Int32) : Int32).toInt ≤ a1.toInt ∧ a1.toInt ≤ ((1 : Int32) : Int32).toInt) := d_r_5
  refine tot_if (fun c_15 => ?_) (fun c_15 => ?_)
  · replace c_15 := i_eq c_15
    refine tot_oif (iv_oO h_T k_o (by decide) (by decide) rfl) ?_
    refine tot_ref h_T k_o (by decide) (by decide) (r2 := 6) (rfl : rtg 11 14 = 6) (by decide) (fun n_7 k_n_7 e_n_7 => ?_)
    refine tot_oif (iv_oO h_T k_n_7 (by decide) (by decide) rfl) ?_
    refine tot_ref h_T k_n_7 (by decide) (by decide) (r2 := 1) (rfl : rtg 6 6 = 1) (by decide) (fun n_8 k_n_8 e_n_8 => ?_)
    refine tot_oif (iv_oO h_T k_n_8 (by decide) (by decide) rfl) ?_
    refine tot_bindq (R := fun r_9 : Int32 => (-999 ≤ r_9.toInt ∧ r_9.toInt ≤ 2088)) (cs_X1_centreX T n_8 a0 h_T k_n_8 (by omega)) (fun r_9 d_r_9 => ?_)
    replace d_r_9 : (-999 ≤ r_9.toInt ∧ r_9.toInt ≤ 2088) := d_r_9
    unfold g_X11_cellAt_b44
    exact tot_some ⟨rfl, fun _ => (show (-999 ≤ r_9.toInt ∧ r_9.toInt ≤ 15156) from by omega)⟩
  · replace c_15 := i_ne c_15
    refine tot_oif (iv_oO h_T k_o (by decide) (by decide) rfl) ?_
    refine tot_ref h_T k_o (by decide) (by decide) (r2 := 6) (rfl : rtg 11 14 = 6) (by decide) (fun n_11 k_n_11 e_n_11 => ?_)
    refine tot_oif (iv_oO h_T k_n_11 (by decide) (by decide) rfl) ?_
    refine tot_ref h_T k_n_11 (by decide) (by decide) (r2 := 1) (rfl : rtg 6 6 = 1) (by decide) (fun n_12 k_n_12 e_n_12 => ?_)
    refine tot_oif (iv_oO h_T k_n_12 (by decide) (by decide) rfl) ?_
    refine tot_bindq (R := fun r_13 : Int32 => (-999 ≤ r_13.toInt ∧ r_13.toInt ≤ 15156)) (cs_X1_centreY T n_12 a0 h_T k_n_12 (by omega)) (fun r_13 d_r_13 => ?_)
    replace d_r_13 : (-999 ≤ r_13.toInt ∧ r_13.toInt ≤ 15156) := d_r_13
    unfold g_X11_cellAt_b44
    exact tot_some ⟨rfl, fun _ => (show (-999 ≤ r_13.toInt ∧ r_13.toInt ≤ 15156) from by omega)⟩
set_option maxHeartbeats 4000000 in
set_option maxRecDepth 10000 in
theorem cs_X11_sources {R : Nat → Nat} {B K1 K2 : Nat} (T : AT) (o : Nat) (h_T : IV R B K1 K2 T) (k_o : R o = 11) : Tot (g_X11_sources T o) (fun r => r.2 = T ∧ (0 ≤ r.1.toInt ∧ r.1.toInt ≤ 6)) := by
  have cc_101 : cnt 101 = 1 := rfl
  have cc_102 : cnt 102 = 12 := rfl
  have cc_103 : cnt 103 = 144 := rfl
  have cc_104 : cnt 104 = 2400 := rfl
  have cc_105 : cnt 105 = 7200 := rfl
  unfold g_X11_sources
  refine tot_oif (iv_oO h_T k_o (by decide) (by decide) rfl) ?_
  refine tot_ref h_T k_o (by decide) (by decide) (r2 := 6) (rfl : rtg 11 14 = 6) (by decide) (fun n_1 k_n_1 e_n_1 => ?_)
  refine tot_oif (iv_oO h_T k_n_1 (by decide) (by decide) rfl) ?_
  refine tot_let (fun v_2 e_v_2 => ?_)
  have r_v_2 : 0 ≤ v_2.toInt ∧ v_2.toInt ≤ 6 := iv_int h_T k_n_1 (by decide) (by decide) e_v_2 rfl
  exact tot_some ⟨rfl, (show (0 ≤ v_2.toInt ∧ v_2.toInt ≤ 6) from by omega)⟩
set_option maxHeartbeats 4000000 in
set_option maxRecDepth 10000 in
theorem cs_X11_needSource {R : Nat → Nat} {B K1 K2 : Nat} (T : AT) (o : Nat) (a0 : Int32) (h_T : IV R B K1 K2 T) (k_o : R o = 11) : Tot (g_X11_needSource T o a0) (fun r => r.2.2 = T ∧ (r.1 = 0 → (0 ≤ a0.toInt ∧ a0.toInt ≤ 5))) := by
  have z0 : (0 : Int32).toInt = 0 := by decide
  have cc_101 : cnt 101 = 1 := rfl
  have cc_102 : cnt 102 = 12 := rfl
  have cc_103 : cnt 103 = 144 := rfl
  have cc_104 : cnt 104 = 2400 := rfl
  have cc_105 : cnt 105 = 7200 := rfl
  have j_a0 := i_any a0
  unfold g_X11_needSource
  refine tot_oif (iv_oO h_T k_o (by decide) (by decide) rfl) ?_
  refine tot_ref h_T k_o (by decide) (by decide) (r2 := 6) (rfl : rtg 11 14 = 6) (by decide) (fun n_1 k_n_1 e_n_1 => ?_)
  refine tot_oif (iv_oO h_T k_n_1 (by decide) (by decide) rfl) ?_
  refine tot_let (fun v_2 e_v_2 => ?_)
  have r_v_2 : 0 ≤ v_2.toInt ∧ v_2.toInt ≤ 6 := iv_int h_T k_n_1 (by decide) (by decide) e_v_2 rfl
  refine tot_thrp (Q := fun r_3 : Int32 => (0 ≤ a0.toInt ∧ a0.toInt < v_2.toInt)) (cs_X11_needIndex T a0 v_2 h_T ) (fun r_3 d_r_3 => ?_) (fun k_ => ⟨rfl, fun q_ => absurd q_ (Nat.succ_ne_zero k_)⟩)
  replace d_r_3 : (0 ≤ a0.toInt ∧ a0.toInt < v_2.toInt) := d_r_3
  exact tot_some ⟨rfl, fun _ => (show (0 ≤ a0.toInt ∧ a0.toInt ≤ 5) from by omega)⟩
set_option maxHeartbeats 4000000 in
set_option maxRecDepth 10000 in
theorem cs_X11_sourceAt {R : Nat → Nat} {B K1 K2 : Nat} (T : AT) (o : Nat) (a0 : Int32) (a1 : Int32) (a2 : Int32) (h_T : IV R B K1 K2 T) (k_o : R o = 11) : Tot (g_X11_sourceAt T o a0 a1 a2) (fun r => r.2.2 = T ∧ (r.1 = 0 → (-3988 ≤ r.2.1.toInt ∧ r.2.1.toInt ≤ 17144))) := by
  have z0 : ((0 : Int32) : Int32).toInt = 0 := by decide
  have z1 : ((1 : Int32) : Int32).toInt = 1 := by decide
  have z2 : (1 : Int32).toInt = 1 := by decide
  have z3 : (0 : Int32).toInt = 0 := by decide
  have cc_101 : cnt 101 = 1 := rfl
  have cc_102 : cnt 102 = 12 := rfl
  have cc_103 : cnt 103 = 144 := rfl
  have cc_104 : cnt 104 = 2400 := rfl
  have cc_105 : cnt 105 = 7200 := rfl
  have j_a0 := i_any a0
  have j_a1 := i_any a1
  have j_a2 := i_any a2
  unfold g_X11_sourceAt
  refine tot_oif (iv_oO h_T k_o (by decide) (by decide) rfl) ?_
  refine tot_thrp (Q := fun r_1 : Int32 => (0 ≤ r_1.toInt ∧ r_1.toInt ≤ 0)) (cs_X11_needCamera T o h_T k_o ) (fun r_1 d_r_1 => ?_) (fun k_ => ⟨rfl, fun q_ => absurd q_ (Nat.succ_ne_zero k_)⟩)
  replace d_r_1 : (0 ≤ r_1.toInt ∧ r_1.toInt ≤ 0) := d_r_1
  refine tot_oif (iv_oO h_T k_o (by decide) (by decide) rfl) ?_
  refine tot_thrp (Q := fun r_3 : Int32 => (0 ≤ a0.toInt ∧ a0.toInt ≤ 5)) (cs_X11_needSource T o a0 h_T k_o ) (fun r_3 d_r_3 => ?_) (fun k_ => ⟨rfl, fun q_ => absurd q_ (Nat.succ_ne_zero k_)⟩)
  replace d_r_3 : (0 ≤ a0.toInt ∧ a0.toInt ≤ 5) := d_r_3
  refine tot_thrp (Q := fun r_5 : Int32 => (((0 : Int32) : Int32).toInt ≤ a1.toInt ∧ a1.toInt ≤ ((1 : Int32) : Int32).toInt)) (cs_X11_needRange T a1 (0 : Int32) (1 : Int32) h_T ) (fun r_5 d_r_5 => ?_) (fun k_ => ⟨rfl, fun q_ => absurd q_ (Nat.succ_ne_zero k_)⟩)
  replace d_r_5 : (((0 : Int32) : Int32).toInt ≤ a1.toInt ∧ a1.toInt ≤ ((1 : Int32) : Int32).toInt) := d_r_5
  refine tot_oif (iv_oO h_T k_o (by decide) (by decide) rfl) ?_
  refine tot_ref h_T k_o (by decide) (by decide) (r2 := 6) (rfl : rtg 11 14 = 6) (by decide) (fun n_7 k_n_7 e_n_7 => ?_)
  refine tot_oif (iv_oO h_T k_n_7 (by decide) (by decide) rfl) ?_
  refine tot_let (fun v_8 e_v_8 => ?_)
  have r_v_8 : 0 ≤ v_8.toInt ∧ v_8.toInt ≤ 200 := iv_int h_T k_n_7 (by decide) (by decide) e_v_8 rfl
  refine tot_let (fun v_9 e_v_9 => ?_)
  have q_v_9 := i_sub e_v_9 (by omega) (by omega)
  refine tot_thrp (Q := fun r_10 : Int32 => (((0 : Int32) : Int32).toInt ≤ a2.toInt ∧ a2.toInt ≤ v_9.toInt)) (cs_X11_needRange T a2 (0 : Int32) v_9 h_T ) (fun r_10 d_r_10 => ?_) (fun k_ => ⟨rfl, fun q_ => absurd q_ (Nat.succ_ne_zero k_)⟩)
  replace d_r_10 : (((0 : Int32) : Int32).toInt ≤ a2.toInt ∧ a2.toInt ≤ v_9.toInt) := d_r_10
  refine tot_if (fun c_26 => ?_) (fun c_26 => ?_)
  · replace c_26 := i_eq c_26
    refine tot_oif (iv_oO h_T k_o (by decide) (by decide) rfl) ?_
    refine tot_ref h_T k_o (by decide) (by decide) (r2 := 8) (rfl : rtg 11 6 = 8) (by decide) (fun n_12 k_n_12 e_n_12 => ?_)
    refine tot_oif (iv_oO h_T k_n_12 (by decide) (by decide) rfl) ?_
    refine tot_ref h_T k_n_12 (by decide) (by decide) (r2 := 65) (rfl : rtg 8 6 = 65) (by decide) (fun n_13 k_n_13 e_n_13 => ?_)
    refine tot_oif (iv_aA h_T k_n_13 (by decide) (by decide) rfl rfl) ?_
    refine tot_oif (by rw [iv_len h_T k_n_13 (by decide) (by decide) (rfl : shp 65 = (100, 6))]; exact i_inb (by omega) (by omega)) ?_
    refine tot_let (fun v_14 e_v_14 => ?_)
    have r_v_14 : -2000 ≤ v_14.toInt ∧ v_14.toInt ≤ 2000 := iv_int h_T k_n_13 (by decide) (by decide) e_v_14 rfl
    refine tot_oif (iv_oO h_T k_o (by decide) (by decide) rfl) ?_
    refine tot_ref1 e_n_12 ?_
    refine tot_oif (iv_oO h_T k_n_12 (by decide) (by decide) rfl) ?_
    refine tot_ref h_T k_n_12 (by decide) (by decide) (r2 := 66) (rfl : rtg 8 8 = 66) (by decide) (fun n_16 k_n_16 e_n_16 => ?_)
    refine tot_oif (iv_aA h_T k_n_16 (by decide) (by decide) rfl rfl) ?_
    refine tot_oif (by rw [iv_len h_T k_n_16 (by decide) (by decide) (rfl : shp 66 = (100, 6))]; exact i_inb (by omega) (by omega)) ?_
    refine tot_let (fun v_17 e_v_17 => ?_)
    have r_v_17 : -999 ≤ v_17.toInt ∧ v_17.toInt ≤ 999 := iv_int h_T k_n_16 (by decide) (by decide) e_v_17 rfl
    refine tot_bind (cs_X11_moved v_14 v_17 a2 (by omega) (by omega) (by omega)) (fun r_18 d_r_18 => ?_)
    replace d_r_18 : (-3988 ≤ r_18.toInt ∧ r_18.toInt ≤ 17144) := d_r_18
    unfold g_X11_sourceAt_b80
    exact tot_some ⟨rfl, fun _ => (show (-3988 ≤ r_18.toInt ∧ r_18.toInt ≤ 17144) from by omega)⟩
  · replace c_26 := i_ne c_26
    refine tot_oif (iv_oO h_T k_o (by decide) (by decide) rfl) ?_
    refine tot_ref h_T k_o (by decide) (by decide) (r2 := 8) (rfl : rtg 11 6 = 8) (by decide) (fun n_19 k_n_19 e_n_19 => ?_)
    refine tot_oif (iv_oO h_T k_n_19 (by decide) (by decide) rfl) ?_
    refine tot_ref h_T k_n_19 (by decide) (by decide) (r2 := 65) (rfl : rtg 8 7 = 65) (by decide) (fun n_20 k_n_20 e_n_20 => ?_)
    refine tot_oif (iv_aA h_T k_n_20 (by decide) (by decide) rfl rfl) ?_
    refine tot_oif (by rw [iv_len h_T k_n_20 (by decide) (by decide) (rfl : shp 65 = (100, 6))]; exact i_inb (by omega) (by omega)) ?_
    refine tot_let (fun v_21 e_v_21 => ?_)
    have r_v_21 : -2000 ≤ v_21.toInt ∧ v_21.toInt ≤ 2000 := iv_int h_T k_n_20 (by decide) (by decide) e_v_21 rfl
    refine tot_oif (iv_oO h_T k_o (by decide) (by decide) rfl) ?_
    refine tot_ref1 e_n_19 ?_
    refine tot_oif (iv_oO h_T k_n_19 (by decide) (by decide) rfl) ?_
    refine tot_ref h_T k_n_19 (by decide) (by decide) (r2 := 66) (rfl : rtg 8 9 = 66) (by decide) (fun n_23 k_n_23 e_n_23 => ?_)
    refine tot_oif (iv_aA h_T k_n_23 (by decide) (by decide) rfl rfl) ?_
    refine tot_oif (by rw [iv_len h_T k_n_23 (by decide) (by decide) (rfl : shp 66 = (100, 6))]; exact i_inb (by omega) (by omega)) ?_
    refine tot_let (fun v_24 e_v_24 => ?_)
    have r_v_24 : -999 ≤ v_24.toInt ∧ v_24.toInt ≤ 999 := iv_int h_T k_n_23 (by decide) (by decide) e_v_24 rfl
    refine tot_bind (cs_X11_moved v_21 v_24 a2 (by omega) (by omega) (by omega)) (fun r_25 d_r_25 => ?_)
    replace d_r_25 : (-3988 ≤ r_25.toInt ∧ r_25.toInt ≤ 17144) := d_r_25
    unfold g_X11_sourceAt_b80
    exact tot_some ⟨rfl, fun _ => (show (-3988 ≤ r_25.toInt ∧ r_25.toInt ≤ 17144) from by omega)⟩
set_option maxHeartbeats 4000000 in
set_option maxRecDepth 10000 in
theorem cs_X11_isOn {R : Nat → Nat} {B K1 K2 : Nat} (T : AT) (o : Nat) (a0 : Int32) (h_T : IV R B K1 K2 T) (k_o : R o = 11) : Tot (g_X11_isOn T o a0) (fun r => r.2.2 = T ∧ (r.1 = 0 → (0 ≤ r.2.1.toInt ∧ r.2.1.toInt ≤ 1))) := by
  have cc_101 : cnt 101 = 1 := rfl
  have cc_102 : cnt 102 = 12 := rfl
  have cc_103 : cnt 103 = 144 := rfl
  have cc_104 : cnt 104 = 2400 := rfl
  have cc_105 : cnt 105 = 7200 := rfl
  have j_a0 := i_any a0
  unfold g_X11_isOn
  refine tot_oif (iv_oO h_T k_o (by decide) (by decide) rfl) ?_
  refine tot_thrp (Q := fun r_1 : Int32 => (0 ≤ r_1.toInt ∧ r_1.toInt ≤ 0)) (cs_X11_needCamera T o h_T k_o ) (fun r_1 d_r_1 => ?_) (fun k_ => ⟨rfl, fun q_ => absurd q_ (Nat.succ_ne_zero k_)⟩)
  replace d_r_1 : (0 ≤ r_1.toInt ∧ r_1.toInt ≤ 0) := d_r_1
  refine tot_oif (iv_oO h_T k_o (by decide) (by decide) rfl) ?_
  refine tot_thrp (Q := fun r_3 : Int32 => (0 ≤ a0.toInt ∧ a0.toInt ≤ 5)) (cs_X11_needSource T o a0 h_T k_o ) (fun r_3 d_r_3 => ?_) (fun k_ => ⟨rfl, fun q_ => absurd q_ (Nat.succ_ne_zero k_)⟩)
  replace d_r_3 : (0 ≤ a0.toInt ∧ a0.toInt ≤ 5) := d_r_3
  refine tot_oif (iv_oO h_T k_o (by decide) (by decide) rfl) ?_
  refine tot_ref h_T k_o (by decide) (by decide) (r2 := 8) (rfl : rtg 11 6 = 8) (by decide) (fun n_5 k_n_5 e_n_5 => ?_)
  refine tot_oif (iv_oO h_T k_n_5 (by decide) (by decide) rfl) ?_
  refine tot_ref h_T k_n_5 (by decide) (by decide) (r2 := 64) (rfl : rtg 8 5 = 64) (by decide) (fun n_6 k_n_6 e_n_6 => ?_)
  refine tot_oif (iv_aA h_T k_n_6 (by decide) (by decide) rfl rfl) ?_
  refine tot_oif (by rw [iv_len h_T k_n_6 (by decide) (by decide) (rfl : shp 64 = (102, 6))]; exact i_inb (by omega) (by omega)) ?_
  refine tot_let (fun v_7 e_v_7 => ?_)
  have r_v_7 : 0 ≤ v_7.toInt ∧ v_7.toInt ≤ 1 := iv_int h_T k_n_6 (by decide) (by decide) e_v_7 rfl
  refine tot_oif (i_b01 (by omega)) ?_
  exact tot_some ⟨rfl, fun _ => (show (0 ≤ v_7.toInt ∧ v_7.toInt ≤ 1) from by omega)⟩
set_option maxHeartbeats 4000000 in
set_option maxRecDepth 10000 in
theorem cs_X11_waveAt {R : Nat → Nat} {B K1 K2 : Nat} (T : AT) (o : Nat) (a0 : Int32) (a1 : Int32) (h_T : IV R B K1 K2 T) (k_o : R o = 11) : Tot (g_X11_waveAt T o a0 a1) (fun r => r.2.2 = T ∧ (r.1 = 0 → True)) := by
  have z0 : (1 : Int32).toInt = 1 := by decide
  have z1 : ((0 : Int32) : Int32).toInt = 0 := by decide
  have cc_101 : cnt 101 = 1 := rfl
  have cc_102 : cnt 102 = 12 := rfl
  have cc_103 : cnt 103 = 144 := rfl
  have cc_104 : cnt 104 = 2400 := rfl
  have cc_105 : cnt 105 = 7200 := rfl
  have j_a0 := i_any a0
  have j_a1 := i_any a1
  unfold g_X11_waveAt
  refine tot_oif (iv_oO h_T k_o (by decide) (by decide) rfl) ?_
  refine tot_thrp (Q := fun r_1 : Int32 => (0 ≤ r_1.toInt ∧ r_1.toInt ≤ 0)) (cs_X11_needCamera T o h_T k_o ) (fun r_1 d_r_1 => ?_) (fun k_ => ⟨rfl, fun q_ => absurd q_ (Nat.succ_ne_zero k_)⟩)
  replace d_r_1 : (0 ≤ r_1.toInt ∧ r_1.toInt ≤ 0) := d_r_1
  refine tot_oif (iv_oO h_T k_o (by decide) (by decide) rfl) ?_
  refine tot_thrp (Q := fun r_3 : Int32 => (0 ≤ a0.toInt ∧ a0.toInt ≤ 5)) (cs_X11_needSource T o a0 h_T k_o ) (fun r_3 d_r_3 => ?_) (fun k_ => ⟨rfl, fun q_ => absurd q_ (Nat.succ_ne_zero k_)⟩)
  replace d_r_3 : (0 ≤ a0.toInt ∧ a0.toInt ≤ 5) := d_r_3
  refine tot_oif (iv_oO h_T k_o (by decide) (by decide) rfl) ?_
  refine tot_ref h_T k_o (by decide) (by decide) (r2 := 6) (rfl : rtg 11 14 = 6) (by decide) (fun n_5 k_n_5 e_n_5 => ?_)
  refine tot_oif (iv_oO h_T k_n_5 (by decide) (by decide) rfl) ?_
  refine tot_let (fun v_6 e_v_6 => ?_)
  have r_v_6 : 0 ≤ v_6.toInt ∧ v_6.toInt ≤ 200 := iv_int h_T k_n_5 (by decide) (by decide) e_v_6 rfl
  refine tot_let (fun v_7 e_v_7 => ?_)
  have q_v_7 := i_sub e_v_7 (by omega) (by omega)
  refine tot_thrp (Q := fun r_8 : Int32 => (((0 : Int32) : Int32).toInt ≤ a1.toInt ∧ a1.toInt ≤ v_7.toInt)) (cs_X11_needRange T a1 (0 : Int32) v_7 h_T ) (fun r_8 d_r_8 => ?_) (fun k_ => ⟨rfl, fun q_ => absurd q_ (Nat.succ_ne_zero k_)⟩)
  replace d_r_8 : (((0 : Int32) : Int32).toInt ≤ a1.toInt ∧ a1.toInt ≤ v_7.toInt) := d_r_8
  refine tot_oif (iv_oO h_T k_o (by decide) (by decide) rfl) ?_
  refine tot_ref1 e_n_5 ?_
  refine tot_oif (iv_oO h_T k_n_5 (by decide) (by decide) rfl) ?_
  refine tot_ref h_T k_n_5 (by decide) (by decide) (r2 := 54) (rfl : rtg 6 7 = 54) (by decide) (fun n_11 k_n_11 e_n_11 => ?_)
  refine tot_oif (iv_aA h_T k_n_11 (by decide) (by decide) rfl rfl) ?_
  refine tot_oif (by rw [iv_len h_T k_n_11 (by decide) (by decide) (rfl : shp 54 = (104, 6))]; exact i_inb (by omega) (by omega)) ?_
  refine tot_ref h_T k_n_11 (by decide) (by decide) (r2 := 7) (rt_54 (by omega) (by omega)) (by decide) (fun n_12 k_n_12 e_n_12 => ?_)
  refine tot_oif (iv_oO h_T k_n_12 (by decide) (by decide) rfl) ?_
  refine tot_bindq (R := fun r_13 : Int32 => True) (cs_X7_valueAt T n_12 a1 h_T k_n_12 ) (fun r_13 d_r_13 => ?_)
  have r_r_13 := i_any r_13
  exact tot_some ⟨rfl, fun _ => trivial⟩
set_option maxHeartbeats 4000000 in
set_option maxRecDepth 10000 in
theorem cs_X11_samples {R : Nat → Nat} {B K1 K2 : Nat} (T : AT) (o : Nat) (h_T : IV R B K1 K2 T) (k_o : R o = 11) : Tot (g_X11_samples T o) (fun r => r.2 = T ∧ (0 ≤ r.1.toInt ∧ r.1.toInt ≤ 200)) := by
  have cc_101 : cnt 101 = 1 := rfl
  have cc_102 : cnt 102 = 12 := rfl
  have cc_103 : cnt 103 = 144 := rfl
  have cc_104 : cnt 104 = 2400 := rfl
  have cc_105 : cnt 105 = 7200 := rfl
  unfold g_X11_samples
  refine tot_oif (iv_oO h_T k_o (by decide) (by decide) rfl) ?_
  refine tot_ref h_T k_o (by decide) (by decide) (r2 := 6) (rfl : rtg 11 14 = 6) (by decide) (fun n_1 k_n_1 e_n_1 => ?_)
  refine tot_oif (iv_oO h_T k_n_1 (by decide) (by decide) rfl) ?_
  refine tot_let (fun v_2 e_v_2 => ?_)
  have r_v_2 : 0 ≤ v_2.toInt ∧ v_2.toInt ≤ 200 := iv_int h_T k_n_1 (by decide) (by decide) e_v_2 rfl
  exact tot_some ⟨rfl, (show (0 ≤ v_2.toInt ∧ v_2.toInt ≤ 200) from by omega)⟩
set_option maxHeartbeats 4000000 in
set_option maxRecDepth 10000 in
theorem cs_X11_delay {R : Nat → Nat} {B K1 K2 : Nat} (T : AT) (o : Nat) (a0 : Int32) (a1 : Int32) (h_T : IV R B K1 K2 T) (k_o : R o = 11) : Tot (g_X11_delay T o a0 a1) (fun r => r.2.2 = T ∧ (r.1 = 0 → True)) := by
  have cc_101 : cnt 101 = 1 := rfl
  have cc_102 : cnt 102 = 12 := rfl
  have cc_103 : cnt 103 = 144 := rfl
  have cc_104 : cnt 104 = 2400 := rfl
  have cc_105 : cnt 105 = 7200 := rfl
  have j_a0 := i_any a0
  have j_a1 := i_any a1
  unfold g_X11_delay
  refine tot_oif (iv_oO h_T k_o (by decide) (by decide) rfl) ?_
  refine tot_thrp (Q := fun r_1 : Int32 => (0 ≤ r_1.toInt ∧ r_1.toInt ≤ 0)) (cs_X11_needCamera T o h_T k_o ) (fun r_1 d_r_1 => ?_) (fun k_ => ⟨rfl, fun q_ => absurd q_ (Nat.succ_ne_zero k_)⟩)
  replace d_r_1 : (0 ≤ r_1.toInt ∧ r_1.toInt ≤ 0) := d_r_1
  refine tot_oif (iv_oO h_T k_o (by decide) (by decide) rfl) ?_
  refine tot_thrp (Q := fun r_3 : Int32 => (0 ≤ a0.toInt ∧ a0.toInt ≤ 11)) (cs_X11_needMic T o a0 h_T k_o ) (fun r_3 d_r_3 => ?_) (fun k_ => ⟨rfl, fun q_ => absurd q_ (Nat.succ_ne_zero k_)⟩)
  replace d_r_3 : (0 ≤ a0.toInt ∧ a0.toInt ≤ 11) := d_r_3
  refine tot_oif (iv_oO h_T k_o (by decide) (by decide) rfl) ?_
  refine tot_thrp (Q := fun r_5 : Int32 => (0 ≤ a1.toInt ∧ a1.toInt ≤ 143)) (cs_X11_needCell T o a1 h_T k_o ) (fun r_5 d_r_5 => ?_) (fun k_ => ⟨rfl, fun q_ => absurd q_ (Nat.succ_ne_zero k_)⟩)
  replace d_r_5 : (0 ≤ a1.toInt ∧ a1.toInt ≤ 143) := d_r_5
  refine tot_oif (iv_oO h_T k_o (by decide) (by decide) rfl) ?_
  refine tot_ref h_T k_o (by decide) (by decide) (r2 := 6) (rfl : rtg 11 14 = 6) (by decide) (fun n_7 k_n_7 e_n_7 => ?_)
  refine tot_oif (iv_oO h_T k_n_7 (by decide) (by decide) rfl) ?_
  refine tot_ref h_T k_n_7 (by decide) (by decide) (r2 := 51) (rfl : rtg 6 17 = 51) (by decide) (fun n_8 k_n_8 e_n_8 => ?_)
  refine tot_oif (iv_aA h_T k_n_8 (by decide) (by decide) rfl rfl) ?_
  refine tot_oif (by rw [iv_len h_T k_n_8 (by decide) (by decide) (rfl : shp 51 = (106, 144))]; exact i_inb (by omega) (by omega)) ?_
  refine tot_ref h_T k_n_8 (by decide) (by decide) (r2 := 50) (rt_51 (by omega) (by omega)) (by decide) (fun n_9 k_n_9 e_n_9 => ?_)
  refine tot_oif (iv_aA h_T k_n_9 (by decide) (by decide) rfl rfl) ?_
  refine tot_oif (by rw [iv_len h_T k_n_9 (by decide) (by decide) (rfl : shp 50 = (100, 12))]; exact i_inb (by omega) (by omega)) ?_
  refine tot_let (fun v_10 e_v_10 => ?_)
  have r_v_10 := i_any v_10
  exact tot_some ⟨rfl, fun _ => trivial⟩
set_option maxHeartbeats 4000000 in
set_option maxRecDepth 10000 in
theorem cs_X11_delayTo {R : Nat → Nat} {B K1 K2 : Nat} (T : AT) (o : Nat) (a0 : Int32) (a1 : Int32) (a2 : Int32) (h_T : IV R B K1 K2 T) (k_o : R o = 11) : Tot (g_X11_delayTo T o a0 a1 a2) (fun r => r.2.2 = T ∧ (r.1 = 0 → True)) := by
  have z0 : (((-9999) : Int32) : Int32).toInt = -9999 := by decide
  have z1 : ((9999 : Int32) : Int32).toInt = 9999 := by decide
  have cc_101 : cnt 101 = 1 := rfl
  have cc_102 : cnt 102 = 12 := rfl
  have cc_103 : cnt 103 = 144 := rfl
  have cc_104 : cnt 104 = 2400 := rfl
  have cc_105 : cnt 105 = 7200 := rfl
  have j_a0 := i_any a0
  have j_a1 := i_any a1
  have j_a2 := i_any a2
  unfold g_X11_delayTo
  refine tot_oif (iv_oO h_T k_o (by decide) (by decide) rfl) ?_
  refine tot_thrp (Q := fun r_1 : Int32 => (0 ≤ r_1.toInt ∧ r_1.toInt ≤ 0)) (cs_X11_needCamera T o h_T k_o ) (fun r_1 d_r_1 => ?_) (fun k_ => ⟨rfl, fun q_ => absurd q_ (Nat.succ_ne_zero k_)⟩)
  replace d_r_1 : (0 ≤ r_1.toInt ∧ r_1.toInt ≤ 0) := d_r_1
  refine tot_oif (iv_oO h_T k_o (by decide) (by decide) rfl) ?_
  refine tot_thrp (Q := fun r_3 : Int32 => (0 ≤ a0.toInt ∧ a0.toInt ≤ 11)) (cs_X11_needMic T o a0 h_T k_o ) (fun r_3 d_r_3 => ?_) (fun k_ => ⟨rfl, fun q_ => absurd q_ (Nat.succ_ne_zero k_)⟩)
  replace d_r_3 : (0 ≤ a0.toInt ∧ a0.toInt ≤ 11) := d_r_3
  refine tot_thrp (Q := fun r_5 : Int32 => ((((-9999) : Int32) : Int32).toInt ≤ a1.toInt ∧ a1.toInt ≤ ((9999 : Int32) : Int32).toInt)) (cs_X11_needRange T a1 ((-9999) : Int32) (9999 : Int32) h_T ) (fun r_5 d_r_5 => ?_) (fun k_ => ⟨rfl, fun q_ => absurd q_ (Nat.succ_ne_zero k_)⟩)
  replace d_r_5 : ((((-9999) : Int32) : Int32).toInt ≤ a1.toInt ∧ a1.toInt ≤ ((9999 : Int32) : Int32).toInt) := d_r_5
  refine tot_thrp (Q := fun r_7 : Int32 => ((((-9999) : Int32) : Int32).toInt ≤ a2.toInt ∧ a2.toInt ≤ ((9999 : Int32) : Int32).toInt)) (cs_X11_needRange T a2 ((-9999) : Int32) (9999 : Int32) h_T ) (fun r_7 d_r_7 => ?_) (fun k_ => ⟨rfl, fun q_ => absurd q_ (Nat.succ_ne_zero k_)⟩)
  replace d_r_7 : ((((-9999) : Int32) : Int32).toInt ≤ a2.toInt ∧ a2.toInt ≤ ((9999 : Int32) : Int32).toInt) := d_r_7
  refine tot_oif (iv_oO h_T k_o (by decide) (by decide) rfl) ?_
  refine tot_ref h_T k_o (by decide) (by decide) (r2 := 6) (rfl : rtg 11 14 = 6) (by decide) (fun n_9 k_n_9 e_n_9 => ?_)
  refine tot_oif (iv_oO h_T k_o (by decide) (by decide) rfl) ?_
  refine tot_ref1 e_n_9 ?_
  refine tot_oif (iv_oO h_T k_n_9 (by decide) (by decide) rfl) ?_
  refine tot_ref h_T k_n_9 (by decide) (by decide) (r2 := 53) (rfl : rtg 6 4 = 53) (by decide) (fun n_11 k_n_11 e_n_11 => ?_)
  refine tot_oif (iv_aA h_T k_n_11 (by decide) (by decide) rfl rfl) ?_
  refine tot_oif (by rw [iv_len h_T k_n_11 (by decide) (by decide) (rfl : shp 53 = (103, 12))]; exact i_inb (by omega) (by omega)) ?_
  refine tot_ref h_T k_n_11 (by decide) (by decide) (r2 := 2) (rt_53 (by omega) (by omega)) (by decide) (fun n_12 k_n_12 e_n_12 => ?_)
  refine tot_oif (iv_oO h_T k_n_9 (by decide) (by decide) rfl) ?_
  refine tot_bindq (R := fun r_13 : Int32 => True) (cs_X6_delayFrom T n_9 n_12 a1 a2 h_T k_n_9 k_n_12 (by omega) (by omega)) (fun r_13 d_r_13 => ?_)
  have r_r_13 := i_any r_13
  exact tot_some ⟨rfl, fun _ => trivial⟩
set_option maxHeartbeats 4000000 in
set_option maxRecDepth 10000 in
theorem cs_X11_spread {R : Nat → Nat} {B K1 K2 : Nat} (T : AT) (o : Nat) (a0 : Int32) (h_T : IV R B K1 K2 T) (k_o : R o = 11) : Tot (g_X11_spread T o a0) (fun r => r.2.2 = T ∧ (r.1 = 0 → True)) := by
  have cc_101 : cnt 101 = 1 := rfl
  have cc_102 : cnt 102 = 12 := rfl
  have cc_103 : cnt 103 = 144 := rfl
  have cc_104 : cnt 104 = 2400 := rfl
  have cc_105 : cnt 105 = 7200 := rfl
  have j_a0 := i_any a0
  unfold g_X11_spread
  refine tot_oif (iv_oO h_T k_o (by decide) (by decide) rfl) ?_
  refine tot_thrp (Q := fun r_1 : Int32 => (0 ≤ r_1.toInt ∧ r_1.toInt ≤ 0)) (cs_X11_needCamera T o h_T k_o ) (fun r_1 d_r_1 => ?_) (fun k_ => ⟨rfl, fun q_ => absurd q_ (Nat.succ_ne_zero k_)⟩)
  replace d_r_1 : (0 ≤ r_1.toInt ∧ r_1.toInt ≤ 0) := d_r_1
  refine tot_oif (iv_oO h_T k_o (by decide) (by decide) rfl) ?_
  refine tot_thrp (Q := fun r_3 : Int32 => (0 ≤ a0.toInt ∧ a0.toInt ≤ 143)) (cs_X11_needCell T o a0 h_T k_o ) (fun r_3 d_r_3 => ?_) (fun k_ => ⟨rfl, fun q_ => absurd q_ (Nat.succ_ne_zero k_)⟩)
  replace d_r_3 : (0 ≤ a0.toInt ∧ a0.toInt ≤ 143) := d_r_3
  refine tot_oif (iv_oO h_T k_o (by decide) (by decide) rfl) ?_
  refine tot_ref h_T k_o (by decide) (by decide) (r2 := 6) (rfl : rtg 11 14 = 6) (by decide) (fun n_5 k_n_5 e_n_5 => ?_)
  refine tot_oif (iv_oO h_T k_n_5 (by decide) (by decide) rfl) ?_
  refine tot_ref h_T k_n_5 (by decide) (by decide) (r2 := 51) (rfl : rtg 6 17 = 51) (by decide) (fun n_6 k_n_6 e_n_6 => ?_)
  refine tot_oif (iv_aA h_T k_n_6 (by decide) (by decide) rfl rfl) ?_
  refine tot_oif (by rw [iv_len h_T k_n_6 (by decide) (by decide) (rfl : shp 51 = (106, 144))]; exact i_inb (by omega) (by omega)) ?_
  refine tot_ref h_T k_n_6 (by decide) (by decide) (r2 := 50) (rt_51 (by omega) (by omega)) (by decide) (fun n_7 k_n_7 e_n_7 => ?_)
  refine tot_oif (iv_oO h_T k_o (by decide) (by decide) rfl) ?_
  refine tot_ref h_T k_o (by decide) (by decide) (r2 := 8) (rfl : rtg 11 6 = 8) (by decide) (fun n_8 k_n_8 e_n_8 => ?_)
  refine tot_oif (iv_oO h_T k_n_8 (by decide) (by decide) rfl) ?_
  refine tot_bindq (R := fun r_9 : Int32 => (0 ≤ r_9.toInt ∧ r_9.toInt ≤ 2147483647)) (cs_X8_greatestDelay T n_8 n_7 h_T k_n_8 k_n_7 ) (fun r_9 d_r_9 => ?_)
  replace d_r_9 : (0 ≤ r_9.toInt ∧ r_9.toInt ≤ 2147483647) := d_r_9
  refine tot_oif (iv_oO h_T k_o (by decide) (by decide) rfl) ?_
  refine tot_ref1 e_n_8 ?_
  refine tot_oif (iv_oO h_T k_n_8 (by decide) (by decide) rfl) ?_
  refine tot_bindq (R := fun r_12 : Int32 => True) (cs_X8_smallestDelay T n_8 n_7 h_T k_n_8 k_n_7 ) (fun r_12 d_r_12 => ?_)
  have r_r_12 := i_any r_12
  refine tot_let (fun v_14 e_v_14 => ?_)
  have r_v_14 := i_any v_14
  exact tot_some ⟨rfl, fun _ => trivial⟩
set_option maxHeartbeats 4000000 in
set_option maxRecDepth 10000 in
theorem cs_X11_window {R : Nat → Nat} {B K1 K2 : Nat} (T : AT) (o : Nat) (a0 : Int32) (h_T : IV R B K1 K2 T) (k_o : R o = 11) : Tot (g_X11_window T o a0) (fun r => r.2.2 = T ∧ (r.1 = 0 → (0 ≤ r.2.1.toInt ∧ r.2.1.toInt ≤ 200))) := by
  have cc_101 : cnt 101 = 1 := rfl
  have cc_102 : cnt 102 = 12 := rfl
  have cc_103 : cnt 103 = 144 := rfl
  have cc_104 : cnt 104 = 2400 := rfl
  have cc_105 : cnt 105 = 7200 := rfl
  have j_a0 := i_any a0
  unfold g_X11_window
  refine tot_oif (iv_oO h_T k_o (by decide) (by decide) rfl) ?_
  refine tot_thrp (Q := fun r_1 : Int32 => (0 ≤ r_1.toInt ∧ r_1.toInt ≤ 0)) (cs_X11_needCamera T o h_T k_o ) (fun r_1 d_r_1 => ?_) (fun k_ => ⟨rfl, fun q_ => absurd q_ (Nat.succ_ne_zero k_)⟩)
  replace d_r_1 : (0 ≤ r_1.toInt ∧ r_1.toInt ≤ 0) := d_r_1
  refine tot_oif (iv_oO h_T k_o (by decide) (by decide) rfl) ?_
  refine tot_thrp (Q := fun r_3 : Int32 => (0 ≤ a0.toInt ∧ a0.toInt ≤ 143)) (cs_X11_needCell T o a0 h_T k_o ) (fun r_3 d_r_3 => ?_) (fun k_ => ⟨rfl, fun q_ => absurd q_ (Nat.succ_ne_zero k_)⟩)
  replace d_r_3 : (0 ≤ a0.toInt ∧ a0.toInt ≤ 143) := d_r_3
  refine tot_oif (iv_oO h_T k_o (by decide) (by decide) rfl) ?_
  refine tot_ref h_T k_o (by decide) (by decide) (r2 := 8) (rfl : rtg 11 6 = 8) (by decide) (fun n_5 k_n_5 e_n_5 => ?_)
  refine tot_oif (iv_oO h_T k_o (by decide) (by decide) rfl) ?_
  refine tot_ref h_T k_o (by decide) (by decide) (r2 := 6) (rfl : rtg 11 14 = 6) (by decide) (fun n_6 k_n_6 e_n_6 => ?_)
  refine tot_oif (iv_oO h_T k_n_6 (by decide) (by decide) rfl) ?_
  refine tot_ref h_T k_n_6 (by decide) (by decide) (r2 := 51) (rfl : rtg 6 17 = 51) (by decide) (fun n_7 k_n_7 e_n_7 => ?_)
  refine tot_oif (iv_aA h_T k_n_7 (by decide) (by decide) rfl rfl) ?_
  refine tot_oif (by rw [iv_len h_T k_n_7 (by decide) (by decide) (rfl : shp 51 = (106, 144))]; exact i_inb (by omega) (by omega)) ?_
  refine tot_ref h_T k_n_7 (by decide) (by decide) (r2 := 50) (rt_51 (by omega) (by omega)) (by decide) (fun n_8 k_n_8 e_n_8 => ?_)
  refine tot_oif (iv_oO h_T k_n_5 (by decide) (by decide) rfl) ?_
  refine tot_bindq (R := fun r_9 : Int32 => (0 ≤ r_9.toInt ∧ r_9.toInt ≤ 200)) (cs_X8_windowOf T n_5 n_8 h_T k_n_5 k_n_8 ) (fun r_9 d_r_9 => ?_)
  replace d_r_9 : (0 ≤ r_9.toInt ∧ r_9.toInt ≤ 200) := d_r_9
  exact tot_some ⟨rfl, fun _ => (show (0 ≤ r_9.toInt ∧ r_9.toInt ≤ 200) from by omega)⟩
set_option maxHeartbeats 4000000 in
set_option maxRecDepth 10000 in
theorem cs_X11_sample {R : Nat → Nat} {B K1 K2 : Nat} (T : AT) (o : Nat) (a0 : Int32) (a1 : Int32) (h_T : IV R B K1 K2 T) (k_o : R o = 11) : Tot (g_X11_sample T o a0 a1) (fun r => r.2.2 = T ∧ (r.1 = 0 → True)) := by
  have z0 : (1 : Int32).toInt = 1 := by decide
  have z1 : ((0 : Int32) : Int32).toInt = 0 := by decide
  have cc_101 : cnt 101 = 1 := rfl
  have cc_102 : cnt 102 = 12 := rfl
  have cc_103 : cnt 103 = 144 := rfl
  have cc_104 : cnt 104 = 2400 := rfl
  have cc_105 : cnt 105 = 7200 := rfl
  have j_a0 := i_any a0
  have j_a1 := i_any a1
  unfold g_X11_sample
  refine tot_oif (iv_oO h_T k_o (by decide) (by decide) rfl) ?_
  refine tot_thrp (Q := fun r_1 : Int32 => (0 ≤ r_1.toInt ∧ r_1.toInt ≤ 0)) (cs_X11_needCamera T o h_T k_o ) (fun r_1 d_r_1 => ?_) (fun k_ => ⟨rfl, fun q_ => absurd q_ (Nat.succ_ne_zero k_)⟩)
  replace d_r_1 : (0 ≤ r_1.toInt ∧ r_1.toInt ≤ 0) := d_r_1
  refine tot_oif (iv_oO h_T k_o (by decide) (by decide) rfl) ?_
  refine tot_thrp (Q := fun r_3 : Int32 => (0 ≤ a0.toInt ∧ a0.toInt ≤ 11)) (cs_X11_needMic T o a0 h_T k_o ) (fun r_3 d_r_3 => ?_) (fun k_ => ⟨rfl, fun q_ => absurd q_ (Nat.succ_ne_zero k_)⟩)
  replace d_r_3 : (0 ≤ a0.toInt ∧ a0.toInt ≤ 11) := d_r_3
  refine tot_oif (iv_oO h_T k_o (by decide) (by decide) rfl) ?_
  refine tot_ref h_T k_o (by decide) (by decide) (r2 := 6) (rfl : rtg 11 14 = 6) (by decide) (fun n_5 k_n_5 e_n_5 => ?_)
  refine tot_oif (iv_oO h_T k_n_5 (by decide) (by decide) rfl) ?_
  refine tot_let (fun v_6 e_v_6 => ?_)
  have r_v_6 : 0 ≤ v_6.toInt ∧ v_6.toInt ≤ 200 := iv_int h_T k_n_5 (by decide) (by decide) e_v_6 rfl
  refine tot_let (fun v_7 e_v_7 => ?_)
  have q_v_7 := i_sub e_v_7 (by omega) (by omega)
  refine tot_thrp (Q := fun r_8 : Int32 => (((0 : Int32) : Int32).toInt ≤ a1.toInt ∧ a1.toInt ≤ v_7.toInt)) (cs_X11_needRange T a1 (0 : Int32) v_7 h_T ) (fun r_8 d_r_8 => ?_) (fun k_ => ⟨rfl, fun q_ => absurd q_ (Nat.succ_ne_zero k_)⟩)
  replace d_r_8 : (((0 : Int32) : Int32).toInt ≤ a1.toInt ∧ a1.toInt ≤ v_7.toInt) := d_r_8
  refine tot_oif (iv_oO h_T k_o (by decide) (by decide) rfl) ?_
  refine tot_ref h_T k_o (by decide) (by decide) (r2 := 8) (rfl : rtg 11 6 = 8) (by decide) (fun n_10 k_n_10 e_n_10 => ?_)
  refine tot_oif (iv_oO h_T k_n_10 (by decide) (by decide) rfl) ?_
  refine tot_ref h_T k_n_10 (by decide) (by decide) (r2 := 104) (rfl : rtg 8 10 = 104) (by decide) (fun n_11 k_n_11 e_n_11 => ?_)
  refine tot_bind (cs_X8_placeOf a0 a1 (by omega) (by omega)) (fun r_12 d_r_12 => ?_)
  replace d_r_12 : (0 ≤ r_12.toInt ∧ r_12.toInt ≤ 2399) := d_r_12
  refine tot_oif (w_oO h_T k_n_11 (rfl : isW 104 = true)) ?_
  refine tot_bindq (R := fun r_13 : Int64 => True) (c_value (a0 := r_12) k_n_11 (rfl : isW 104 = true) h_T (by omega)) (fun r_13 d_r_13 => ?_)
  refine tot_let (fun v_15 e_v_15 => ?_)
  have r_v_15 := i_any v_15
  exact tot_some ⟨rfl, fun _ => trivial⟩
set_option maxHeartbeats 4000000 in
set_option maxRecDepth 10000 in
theorem cs_X11_beam {R : Nat → Nat} {B K1 K2 : Nat} (T : AT) (o : Nat) (a0 : Int32) (a1 : Int32) (h_T : IV R B K1 K2 T) (k_o : R o = 11) : Tot (g_X11_beam T o a0 a1) (fun r => (IV R B K1 K2 r.2.2 ∧ FW R [3202] T r.2.2) ∧ (r.1 = 0 → True)) := by
  have z0 : (1 : Int32).toInt = 1 := by decide
  have z1 : ((0 : Int32) : Int32).toInt = 0 := by decide
  have cc_101 : cnt 101 = 1 := rfl
  have cc_102 : cnt 102 = 12 := rfl
  have cc_103 : cnt 103 = 144 := rfl
  have cc_104 : cnt 104 = 2400 := rfl
  have cc_105 : cnt 105 = 7200 := rfl
  have x_T : FW R [3202] T T := FW.rf
  have j_a0 := i_any a0
  have j_a1 := i_any a1
  unfold g_X11_beam
  refine tot_oif (iv_oO h_T k_o (by decide) (by decide) rfl) ?_
  refine tot_thrp (Q := fun r_1 : Int32 => (0 ≤ r_1.toInt ∧ r_1.toInt ≤ 0)) (cs_X11_needCamera T o h_T k_o ) (fun r_1 d_r_1 => ?_) (fun k_ => ⟨⟨h_T, x_T⟩, fun q_ => absurd q_ (Nat.succ_ne_zero k_)⟩)
  replace d_r_1 : (0 ≤ r_1.toInt ∧ r_1.toInt ≤ 0) := d_r_1
  refine tot_oif (iv_oO h_T k_o (by decide) (by decide) rfl) ?_
  refine tot_thrp (Q := fun r_3 : Int32 => (0 ≤ a0.toInt ∧ a0.toInt ≤ 143)) (cs_X11_needCell T o a0 h_T k_o ) (fun r_3 d_r_3 => ?_) (fun k_ => ⟨⟨h_T, x_T⟩, fun q_ => absurd q_ (Nat.succ_ne_zero k_)⟩)
  replace d_r_3 : (0 ≤ a0.toInt ∧ a0.toInt ≤ 143) := d_r_3
  refine tot_oif (iv_oO h_T k_o (by decide) (by decide) rfl) ?_
  refine tot_ref h_T k_o (by decide) (by decide) (r2 := 8) (rfl : rtg 11 6 = 8) (by decide) (fun n_5 k_n_5 e_n_5 => ?_)
  refine tot_oif (iv_oO h_T k_o (by decide) (by decide) rfl) ?_
  refine tot_ref h_T k_o (by decide) (by decide) (r2 := 6) (rfl : rtg 11 14 = 6) (by decide) (fun n_6 k_n_6 e_n_6 => ?_)
  refine tot_oif (iv_oO h_T k_n_6 (by decide) (by decide) rfl) ?_
  refine tot_ref h_T k_n_6 (by decide) (by decide) (r2 := 51) (rfl : rtg 6 17 = 51) (by decide) (fun n_7 k_n_7 e_n_7 => ?_)
  refine tot_oif (iv_aA h_T k_n_7 (by decide) (by decide) rfl rfl) ?_
  refine tot_oif (by rw [iv_len h_T k_n_7 (by decide) (by decide) (rfl : shp 51 = (106, 144))]; exact i_inb (by omega) (by omega)) ?_
  refine tot_ref h_T k_n_7 (by decide) (by decide) (r2 := 50) (rt_51 (by omega) (by omega)) (by decide) (fun n_8 k_n_8 e_n_8 => ?_)
  refine tot_oif (iv_oO h_T k_n_5 (by decide) (by decide) rfl) ?_
  refine tot_bindq (R := fun r_9 : Int32 => (0 ≤ r_9.toInt ∧ r_9.toInt ≤ 200)) (cs_X8_windowOf T n_5 n_8 h_T k_n_5 k_n_8 ) (fun r_9 d_r_9 => ?_)
  replace d_r_9 : (0 ≤ r_9.toInt ∧ r_9.toInt ≤ 200) := d_r_9
  refine tot_let (fun v_11 e_v_11 => ?_)
  have q_v_11 := i_sub e_v_11 (by omega) (by omega)
  refine tot_thrp (Q := fun r_12 : Int32 => (((0 : Int32) : Int32).toInt ≤ a1.toInt ∧ a1.toInt ≤ v_11.toInt)) (cs_X11_needRange T a1 (0 : Int32) v_11 h_T ) (fun r_12 d_r_12 => ?_) (fun k_ => ⟨⟨h_T, x_T⟩, fun q_ => absurd q_ (Nat.succ_ne_zero k_)⟩)
  replace d_r_12 : (((0 : Int32) : Int32).toInt ≤ a1.toInt ∧ a1.toInt ≤ v_11.toInt) := d_r_12
  refine tot_oif (iv_oO h_T k_o (by decide) (by decide) rfl) ?_
  refine tot_ref1 e_n_5 ?_
  refine tot_oif (iv_oO h_T k_o (by decide) (by decide) rfl) ?_
  refine tot_ref1 e_n_6 ?_
  refine tot_oif (iv_oO h_T k_n_6 (by decide) (by decide) rfl) ?_
  refine tot_ref1 e_n_7 ?_
  refine tot_oif (iv_aA h_T k_n_7 (by decide) (by decide) rfl rfl) ?_
  refine tot_oif (by rw [iv_len h_T k_n_7 (by decide) (by decide) (rfl : shp 51 = (106, 144))]; exact i_inb (by omega) (by omega)) ?_
  refine tot_ref1 e_n_8 ?_
  refine tot_oif (iv_oO h_T k_n_5 (by decide) (by decide) rfl) ?_
  refine tot_bind (cs_X8_focus T n_5 n_8 a1 h_T k_n_5 k_n_8 ) (fun T_18 d_T_18 => ?_)
  have h_T_18 : IV R B K1 K2 T_18 := d_T_18.1
  have y_T_18 : FW R [3202] T T_18 := d_T_18.2
  have x_T_18 := x_T.tr (y_T_18.w (by decide))
  unfold g_X11_beam_b49
  refine tot_oif (iv_oO h_T_18 k_o (by decide) (by decide) rfl) ?_
  refine tot_ref h_T_18 k_o (by decide) (by decide) (r2 := 8) (rfl : rtg 11 6 = 8) (by decide) (fun n_19 k_n_19 e_n_19 => ?_)
  refine tot_oif (iv_oO h_T_18 k_n_19 (by decide) (by decide) rfl) ?_
  refine tot_ref h_T_18 k_n_19 (by decide) (by decide) (r2 := 101) (rfl : rtg 8 11 = 101) (by decide) (fun n_20 k_n_20 e_n_20 => ?_)
  refine tot_oif (w_oO h_T_18 k_n_20 (rfl : isW 101 = true)) ?_
  refine tot_bindq (R := fun r_21 : Int64 => True) (c_value (a0 := (0 : Int32)) k_n_20 (rfl : isW 101 = true) h_T_18 (by omega)) (fun r_21 d_r_21 => ?_)
  refine tot_let (fun v_23 e_v_23 => ?_)
  have r_v_23 := i_any v_23
  exact tot_some ⟨⟨h_T_18, x_T_18⟩, fun _ => trivial⟩
set_option maxHeartbeats 4000000 in
set_option maxRecDepth 10000 in
theorem cs_X11_powersNow {R : Nat → Nat} {B K1 K2 : Nat} (T : AT) (o : Nat) (h_T : IV R B K1 K2 T) (k_o : R o = 11) : Tot (g_X11_powersNow T o) (fun r => (IV R B K1 K2 r.2 ∧ FW R [128, 130, 131, 1952, 2144, 3202] T r.2) ∧ R r.1 = 4) := by
  have z0 : (0 : Int32).toInt = 0 := by decide
  have z1 : (1 : Int32).toInt = 1 := by decide
  have cc_101 : cnt 101 = 1 := rfl
  have cc_102 : cnt 102 = 12 := rfl
  have cc_103 : cnt 103 = 144 := rfl
  have cc_104 : cnt 104 = 2400 := rfl
  have cc_105 : cnt 105 = 7200 := rfl
  have x_T : FW R [128, 130, 131, 1952, 2144, 3202] T T := FW.rf
  unfold g_X11_powersNow
  refine tot_oif (iv_oO h_T k_o (by decide) (by decide) rfl) ?_
  refine tot_ref h_T k_o (by decide) (by decide) (r2 := 4) (rfl : rtg 11 4 = 4) (by decide) (fun n_1 k_n_1 e_n_1 => ?_)
  refine tot_oif (iv_oO h_T k_n_1 (by decide) (by decide) rfl) ?_
  refine tot_let (fun v_2 e_v_2 => ?_)
  have r_v_2 : 0 ≤ v_2.toInt ∧ v_2.toInt ≤ 1 := iv_int h_T k_n_1 (by decide) (by decide) e_v_2 rfl
  refine tot_if (fun c_7 => ?_) (fun c_7 => ?_)
  · replace c_7 := i_eq c_7
    refine tot_oif (iv_oO h_T k_o (by decide) (by decide) rfl) ?_
    refine tot_ref1 e_n_1 ?_
    refine tot_oif (iv_oO h_T k_o (by decide) (by decide) rfl) ?_
    refine tot_ref h_T k_o (by decide) (by decide) (r2 := 6) (rfl : rtg 11 14 = 6) (by decide) (fun n_4 k_n_4 e_n_4 => ?_)
    refine tot_oif (iv_oO h_T k_o (by decide) (by decide) rfl) ?_
    refine tot_ref h_T k_o (by decide) (by decide) (r2 := 8) (rfl : rtg 11 6 = 8) (by decide) (fun n_5 k_n_5 e_n_5 => ?_)
    refine tot_oif (iv_oO h_T k_n_1 (by decide) (by decide) rfl) ?_
    refine tot_bind (cs_X4_measure T n_1 n_4 n_5 h_T k_n_1 k_n_4 k_n_5 ) (fun T_6 d_T_6 => ?_)
    have h_T_6 : IV R B K1 K2 T_6 := d_T_6.1
    have y_T_6 : FW R [130, 131, 1952, 2144, 3202] T T_6 := d_T_6.2
    have x_T_6 := x_T.tr (y_T_6.w (by decide))
    unfold g_X11_powersNow_b25
    refine tot_oif (iv_oO h_T_6 k_o (by decide) (by decide) rfl) ?_
    refine tot_ref h_T_6 k_o (by decide) (by decide) (r2 := 4) (rfl : rtg 11 4 = 4) (by decide) (fun n_8 k_n_8 e_n_8 => ?_)
    refine tot_oif (iv_oO h_T_6 k_n_8 (by decide) (by decide) rfl) ?_
    refine tot_let (fun T_9 e_T_9 => ?_)
    have h_T_9 : IV R B K1 K2 T_9 := by rw [e_T_9]; exact iv_uI (a := 0) (b := 1) h_T_6 k_n_8 (by decide) (by decide) rfl (by omega) (.inl rfl)
    have x_T_9 := x_T_6.tr (fw_uI e_T_9 k_n_8 (by decide))
    unfold g_X11_powersNow_b33
    refine tot_oif (iv_oO h_T_9 k_o (by decide) (by decide) rfl) ?_
    refine tot_ref h_T_9 k_o (by decide) (by decide) (r2 := 4) (rfl : rtg 11 4 = 4) (by decide) (fun n_10 k_n_10 e_n_10 => ?_)
    exact tot_some ⟨⟨h_T_9, x_T_9⟩, k_n_10⟩
  · replace c_7 := i_ne c_7
    unfold g_X11_powersNow_b33
    refine tot_oif (iv_oO h_T k_o (by decide) (by decide) rfl) ?_
    refine tot_ref1 e_n_1 ?_
    exact tot_some ⟨⟨h_T, x_T⟩, k_n_1⟩
set_option maxHeartbeats 4000000 in
set_option maxRecDepth 10000 in
theorem cs_X11_power {R : Nat → Nat} {B K1 K2 : Nat} (T : AT) (o : Nat) (a0 : Int32) (h_T : IV R B K1 K2 T) (k_o : R o = 11) : Tot (g_X11_power T o a0) (fun r => (IV R B K1 K2 r.2.2 ∧ FW R [128, 130, 131, 1952, 2144, 3202] T r.2.2) ∧ (r.1 = 0 → True)) := by
  have cc_101 : cnt 101 = 1 := rfl
  have cc_102 : cnt 102 = 12 := rfl
  have cc_103 : cnt 103 = 144 := rfl
  have cc_104 : cnt 104 = 2400 := rfl
  have cc_105 : cnt 105 = 7200 := rfl
  have x_T : FW R [128, 130, 131, 1952, 2144, 3202] T T := FW.rf
  have j_a0 := i_any a0
  unfold g_X11_power
  refine tot_oif (iv_oO h_T k_o (by decide) (by decide) rfl) ?_
  refine tot_thrp (Q := fun r_1 : Int32 => (0 ≤ r_1.toInt ∧ r_1.toInt ≤ 0)) (cs_X11_needCamera T o h_T k_o ) (fun r_1 d_r_1 => ?_) (fun k_ => ⟨⟨h_T, x_T⟩, fun q_ => absurd q_ (Nat.succ_ne_zero k_)⟩)
  replace d_r_1 : (0 ≤ r_1.toInt ∧ r_1.toInt ≤ 0) := d_r_1
  refine tot_oif (iv_oO h_T k_o (by decide) (by decide) rfl) ?_
  refine tot_thrp (Q := fun r_3 : Int32 => (0 ≤ a0.toInt ∧ a0.toInt ≤ 143)) (cs_X11_needCell T o a0 h_T k_o ) (fun r_3 d_r_3 => ?_) (fun k_ => ⟨⟨h_T, x_T⟩, fun q_ => absurd q_ (Nat.succ_ne_zero k_)⟩)
  replace d_r_3 : (0 ≤ a0.toInt ∧ a0.toInt ≤ 143) := d_r_3
  refine tot_oif (iv_oO h_T k_o (by decide) (by decide) rfl) ?_
  refine tot_bind2 (cs_X11_powersNow T o h_T k_o ) (fun r_5 T_6 d_r_5 => ?_)
  have h_T_6 : IV R B K1 K2 T_6 := d_r_5.1.1
  have y_T_6 : FW R [128, 130, 131, 1952, 2144, 3202] T T_6 := d_r_5.1.2
  have x_T_6 := x_T.tr (y_T_6.w (by decide))
  have k_r_5 : R r_5 = 4 := d_r_5.2
  refine tot_oif (Nat.ble_eq_true_of_le (iv_lt h_T_6 (iv_sta h_T_6 k_r_5 (by decide) (by decide)))) ?_
  unfold g_X11_power_b13
  refine tot_oif (iv_oO h_T_6 k_r_5 (by decide) (by decide) rfl) ?_
  refine tot_ref h_T_6 k_r_5 (by decide) (by decide) (r2 := 103) (rfl : rtg 4 1 = 103) (by decide) (fun n_7 k_n_7 e_n_7 => ?_)
  refine tot_oif (w_oO h_T_6 k_n_7 (rfl : isW 103 = true)) ?_
  refine tot_bindq (R := fun r_8 : Int64 => True) (c_value (a0 := a0) k_n_7 (rfl : isW 103 = true) h_T_6 (by omega)) (fun r_8 d_r_8 => ?_)
  exact tot_some ⟨⟨h_T_6, x_T_6⟩, fun _ => trivial⟩
set_option maxHeartbeats 4000000 in
set_option maxRecDepth 10000 in
theorem cs_X11_powerAt {R : Nat → Nat} {B K1 K2 : Nat} (T : AT) (o : Nat) (a0 : Int32) (a1 : Int32) (h_T : IV R B K1 K2 T) (k_o : R o = 11) : Tot (g_X11_powerAt T o a0 a1) (fun r => (IV R B K1 K2 r.2.2 ∧ FW R [1600, 3202] T r.2.2) ∧ (r.1 = 0 → True)) := by
  have z0 : (((-9999) : Int32) : Int32).toInt = -9999 := by decide
  have z1 : ((9999 : Int32) : Int32).toInt = 9999 := by decide
  have z2 : ((0 : Int32) : Int32).toInt = 0 := by decide
  have cc_101 : cnt 101 = 1 := rfl
  have cc_102 : cnt 102 = 12 := rfl
  have cc_103 : cnt 103 = 144 := rfl
  have cc_104 : cnt 104 = 2400 := rfl
  have cc_105 : cnt 105 = 7200 := rfl
  have x_T : FW R [1600, 3202] T T := FW.rf
  have j_a0 := i_any a0
  have j_a1 := i_any a1
  unfold g_X11_powerAt
  refine tot_oif (iv_oO h_T k_o (by decide) (by decide) rfl) ?_
  refine tot_thrp (Q := fun r_1 : Int32 => (0 ≤ r_1.toInt ∧ r_1.toInt ≤ 0)) (cs_X11_needCamera T o h_T k_o ) (fun r_1 d_r_1 => ?_) (fun k_ => ⟨⟨h_T, x_T⟩, fun q_ => absurd q_ (Nat.succ_ne_zero k_)⟩)
  replace d_r_1 : (0 ≤ r_1.toInt ∧ r_1.toInt ≤ 0) := d_r_1
  refine tot_thrp (Q := fun r_3 : Int32 => ((((-9999) : Int32) : Int32).toInt ≤ a0.toInt ∧ a0.toInt ≤ ((9999 : Int32) : Int32).toInt)) (cs_X11_needRange T a0 ((-9999) : Int32) (9999 : Int32) h_T ) (fun r_3 d_r_3 => ?_) (fun k_ => ⟨⟨h_T, x_T⟩, fun q_ => absurd q_ (Nat.succ_ne_zero k_)⟩)
  replace d_r_3 : ((((-9999) : Int32) : Int32).toInt ≤ a0.toInt ∧ a0.toInt ≤ ((9999 : Int32) : Int32).toInt) := d_r_3
  refine tot_thrp (Q := fun r_5 : Int32 => ((((-9999) : Int32) : Int32).toInt ≤ a1.toInt ∧ a1.toInt ≤ ((9999 : Int32) : Int32).toInt)) (cs_X11_needRange T a1 ((-9999) : Int32) (9999 : Int32) h_T ) (fun r_5 d_r_5 => ?_) (fun k_ => ⟨⟨h_T, x_T⟩, fun q_ => absurd q_ (Nat.succ_ne_zero k_)⟩)
  replace d_r_5 : ((((-9999) : Int32) : Int32).toInt ≤ a1.toInt ∧ a1.toInt ≤ ((9999 : Int32) : Int32).toInt) := d_r_5
  refine tot_oif (iv_oO h_T k_o (by decide) (by decide) rfl) ?_
  refine tot_ref h_T k_o (by decide) (by decide) (r2 := 6) (rfl : rtg 11 14 = 6) (by decide) (fun n_7 k_n_7 e_n_7 => ?_)
  refine tot_oif (iv_oO h_T k_o (by decide) (by decide) rfl) ?_
  refine tot_ref h_T k_o (by decide) (by decide) (r2 := 50) (rfl : rtg 11 11 = 50) (by decide) (fun n_8 k_n_8 e_n_8 => ?_)
  refine tot_oif (iv_oO h_T k_n_7 (by decide) (by decide) rfl) ?_
  refine tot_bind (cs_X6_delaysFrom T n_7 a0 a1 n_8 h_T k_n_7 k_n_8 (by omega) (by omega)) (fun T_9 d_T_9 => ?_)
  have h_T_9 : IV R B K1 K2 T_9 := d_T_9.1
  have y_T_9 : FW R [1600] T T_9 := d_T_9.2
  have x_T_9 := x_T.tr (y_T_9.w (by decide))
  refine tot_oif (iv_oO h_T_9 k_o (by decide) (by decide) rfl) ?_
  refine tot_ref h_T_9 k_o (by decide) (by decide) (r2 := 8) (rfl : rtg 11 6 = 8) (by decide) (fun n_10 k_n_10 e_n_10 => ?_)
  refine tot_oif (iv_oO h_T_9 k_o (by decide) (by decide) rfl) ?_
  refine tot_ref h_T_9 k_o (by decide) (by decide) (r2 := 50) (rfl : rtg 11 11 = 50) (by decide) (fun n_11 k_n_11 e_n_11 => ?_)
  refine tot_oif (iv_oO h_T_9 k_o (by decide) (by decide) rfl) ?_
  refine tot_ref h_T_9 k_o (by decide) (by decide) (r2 := 102) (rfl : rtg 11 12 = 102) (by decide) (fun n_12 k_n_12 e_n_12 => ?_)
  refine tot_oif (iv_oO h_T_9 k_n_10 (by decide) (by decide) rfl) ?_
  refine tot_bind (cs_X8_powerOf T_9 n_10 n_11 n_12 (0 : Int32) h_T_9 k_n_10 k_n_11 k_n_12 (rfl : isW 102 = true) (by omega) (by omega)) (fun T_13 d_T_13 => ?_)
  have h_T_13 : IV R B K1 K2 T_13 := d_T_13.1
  have y_T_13 : FW R [3202] T_9 T_13 := d_T_13.2
  have x_T_13 := x_T_9.tr (y_T_13.w (by decide))
  unfold g_X11_powerAt_b53
  refine tot_oif (iv_oO h_T_13 k_o (by decide) (by decide) rfl) ?_
  refine tot_ref h_T_13 k_o (by decide) (by decide) (r2 := 102) (rfl : rtg 11 12 = 102) (by decide) (fun n_14 k_n_14 e_n_14 => ?_)
  refine tot_oif (w_oO h_T_13 k_n_14 (rfl : isW 102 = true)) ?_
  refine tot_bindq (R := fun r_15 : Int64 => True) (c_value (a0 := (0 : Int32)) k_n_14 (rfl : isW 102 = true) h_T_13 (by omega)) (fun r_15 d_r_15 => ?_)
  exact tot_some ⟨⟨h_T_13, x_T_13⟩, fun _ => trivial⟩
set_option maxHeartbeats 4000000 in
set_option maxRecDepth 10000 in
theorem cs_X11_best {R : Nat → Nat} {B K1 K2 : Nat} (T : AT) (o : Nat) (h_T : IV R B K1 K2 T) (k_o : R o = 11) : Tot (g_X11_best T o) (fun r => (IV R B K1 K2 r.2.2 ∧ FW R [128, 130, 131, 1952, 2144, 3202] T r.2.2) ∧ (r.1 = 0 → (0 ≤ r.2.1.toInt ∧ r.2.1.toInt ≤ 143))) := by
  have cc_101 : cnt 101 = 1 := rfl
  have cc_102 : cnt 102 = 12 := rfl
  have cc_103 : cnt 103 = 144 := rfl
  have cc_104 : cnt 104 = 2400 := rfl
  have cc_105 : cnt 105 = 7200 := rfl
  have x_T : FW R [128, 130, 131, 1952, 2144, 3202] T T := FW.rf
  unfold g_X11_best
  refine tot_oif (iv_oO h_T k_o (by decide) (by decide) rfl) ?_
  refine tot_thrp (Q := fun r_1 : Int32 => (0 ≤ r_1.toInt ∧ r_1.toInt ≤ 0)) (cs_X11_needCamera T o h_T k_o ) (fun r_1 d_r_1 => ?_) (fun k_ => ⟨⟨h_T, x_T⟩, fun q_ => absurd q_ (Nat.succ_ne_zero k_)⟩)
  replace d_r_1 : (0 ≤ r_1.toInt ∧ r_1.toInt ≤ 0) := d_r_1
  refine tot_oif (iv_oO h_T k_o (by decide) (by decide) rfl) ?_
  refine tot_bind2 (cs_X11_powersNow T o h_T k_o ) (fun r_3 T_4 d_r_3 => ?_)
  have h_T_4 : IV R B K1 K2 T_4 := d_r_3.1.1
  have y_T_4 : FW R [128, 130, 131, 1952, 2144, 3202] T T_4 := d_r_3.1.2
  have x_T_4 := x_T.tr (y_T_4.w (by decide))
  have k_r_3 : R r_3 = 4 := d_r_3.2
  refine tot_oif (Nat.ble_eq_true_of_le (iv_lt h_T_4 (iv_sta h_T_4 k_r_3 (by decide) (by decide)))) ?_
  unfold g_X11_best_b8
  refine tot_oif (iv_oO h_T_4 k_r_3 (by decide) (by decide) rfl) ?_
  refine tot_let (fun v_5 e_v_5 => ?_)
  have r_v_5 : 0 ≤ v_5.toInt ∧ v_5.toInt ≤ 143 := iv_int h_T_4 k_r_3 (by decide) (by decide) e_v_5 rfl
  exact tot_some ⟨⟨h_T_4, x_T_4⟩, fun _ => (show (0 ≤ v_5.toInt ∧ v_5.toInt ≤ 143) from by omega)⟩
set_option maxHeartbeats 4000000 in
set_option maxRecDepth 10000 in
theorem cs_X11_bestPower {R : Nat → Nat} {B K1 K2 : Nat} (T : AT) (o : Nat) (h_T : IV R B K1 K2 T) (k_o : R o = 11) : Tot (g_X11_bestPower T o) (fun r => (IV R B K1 K2 r.2.2 ∧ FW R [128, 130, 131, 1952, 2144, 3202] T r.2.2) ∧ (r.1 = 0 → True)) := by
  have cc_101 : cnt 101 = 1 := rfl
  have cc_102 : cnt 102 = 12 := rfl
  have cc_103 : cnt 103 = 144 := rfl
  have cc_104 : cnt 104 = 2400 := rfl
  have cc_105 : cnt 105 = 7200 := rfl
  have x_T : FW R [128, 130, 131, 1952, 2144, 3202] T T := FW.rf
  unfold g_X11_bestPower
  refine tot_oif (iv_oO h_T k_o (by decide) (by decide) rfl) ?_
  refine tot_thrp (Q := fun r_1 : Int32 => (0 ≤ r_1.toInt ∧ r_1.toInt ≤ 0)) (cs_X11_needCamera T o h_T k_o ) (fun r_1 d_r_1 => ?_) (fun k_ => ⟨⟨h_T, x_T⟩, fun q_ => absurd q_ (Nat.succ_ne_zero k_)⟩)
  replace d_r_1 : (0 ≤ r_1.toInt ∧ r_1.toInt ≤ 0) := d_r_1
  refine tot_oif (iv_oO h_T k_o (by decide) (by decide) rfl) ?_
  refine tot_bind2 (cs_X11_powersNow T o h_T k_o ) (fun r_3 T_4 d_r_3 => ?_)
  have h_T_4 : IV R B K1 K2 T_4 := d_r_3.1.1
  have y_T_4 : FW R [128, 130, 131, 1952, 2144, 3202] T T_4 := d_r_3.1.2
  have x_T_4 := x_T.tr (y_T_4.w (by decide))
  have k_r_3 : R r_3 = 4 := d_r_3.2
  refine tot_oif (Nat.ble_eq_true_of_le (iv_lt h_T_4 (iv_sta h_T_4 k_r_3 (by decide) (by decide)))) ?_
  unfold g_X11_bestPower_b8
  refine tot_oif (iv_oO h_T_4 k_r_3 (by decide) (by decide) rfl) ?_
  refine tot_ref h_T_4 k_r_3 (by decide) (by decide) (r2 := 103) (rfl : rtg 4 1 = 103) (by decide) (fun n_5 k_n_5 e_n_5 => ?_)
  refine tot_oif (iv_oO h_T_4 k_r_3 (by decide) (by decide) rfl) ?_
  refine tot_let (fun v_6 e_v_6 => ?_)
  have r_v_6 : 0 ≤ v_6.toInt ∧ v_6.toInt ≤ 143 := iv_int h_T_4 k_r_3 (by decide) (by decide) e_v_6 rfl
  refine tot_oif (w_oO h_T_4 k_n_5 (rfl : isW 103 = true)) ?_
  refine tot_bindq (R := fun r_7 : Int64 => True) (c_value (a0 := v_6) k_n_5 (rfl : isW 103 = true) h_T_4 (by omega)) (fun r_7 d_r_7 => ?_)
  exact tot_some ⟨⟨h_T_4, x_T_4⟩, fun _ => trivial⟩
set_option maxHeartbeats 4000000 in
set_option maxRecDepth 10000 in
theorem cs_X11_meanPower {R : Nat → Nat} {B K1 K2 : Nat} (T : AT) (o : Nat) (h_T : IV R B K1 K2 T) (k_o : R o = 11) : Tot (g_X11_meanPower T o) (fun r => (IV R B K1 K2 r.2.2 ∧ FW R [128, 130, 131, 1952, 2144, 3202] T r.2.2) ∧ (r.1 = 0 → True)) := by
  have z0 : ((0 : Int32) : Int32).toInt = 0 := by decide
  have cc_101 : cnt 101 = 1 := rfl
  have cc_102 : cnt 102 = 12 := rfl
  have cc_103 : cnt 103 = 144 := rfl
  have cc_104 : cnt 104 = 2400 := rfl
  have cc_105 : cnt 105 = 7200 := rfl
  have x_T : FW R [128, 130, 131, 1952, 2144, 3202] T T := FW.rf
  unfold g_X11_meanPower
  refine tot_oif (iv_oO h_T k_o (by decide) (by decide) rfl) ?_
  refine tot_thrp (Q := fun r_1 : Int32 => (0 ≤ r_1.toInt ∧ r_1.toInt ≤ 0)) (cs_X11_needCamera T o h_T k_o ) (fun r_1 d_r_1 => ?_) (fun k_ => ⟨⟨h_T, x_T⟩, fun q_ => absurd q_ (Nat.succ_ne_zero k_)⟩)
  replace d_r_1 : (0 ≤ r_1.toInt ∧ r_1.toInt ≤ 0) := d_r_1
  refine tot_oif (iv_oO h_T k_o (by decide) (by decide) rfl) ?_
  refine tot_bind2 (cs_X11_powersNow T o h_T k_o ) (fun r_3 T_4 d_r_3 => ?_)
  have h_T_4 : IV R B K1 K2 T_4 := d_r_3.1.1
  have y_T_4 : FW R [128, 130, 131, 1952, 2144, 3202] T T_4 := d_r_3.1.2
  have x_T_4 := x_T.tr (y_T_4.w (by decide))
  have k_r_3 : R r_3 = 4 := d_r_3.2
  refine tot_oif (Nat.ble_eq_true_of_le (iv_lt h_T_4 (iv_sta h_T_4 k_r_3 (by decide) (by decide)))) ?_
  unfold g_X11_meanPower_b8
  refine tot_oif (iv_oO h_T_4 k_o (by decide) (by decide) rfl) ?_
  refine tot_ref h_T_4 k_o (by decide) (by decide) (r2 := 6) (rfl : rtg 11 14 = 6) (by decide) (fun n_5 k_n_5 e_n_5 => ?_)
  refine tot_oif (iv_oO h_T_4 k_n_5 (by decide) (by decide) rfl) ?_
  refine tot_ref h_T_4 k_n_5 (by decide) (by decide) (r2 := 1) (rfl : rtg 6 6 = 1) (by decide) (fun n_6 k_n_6 e_n_6 => ?_)
  refine tot_oif (iv_oO h_T_4 k_n_6 (by decide) (by decide) rfl) ?_
  refine tot_ref h_T_4 k_n_6 (by decide) (by decide) (r2 := 59) (rfl : rtg 1 5 = 59) (by decide) (fun n_7 k_n_7 e_n_7 => ?_)
  refine tot_oif (iv_oO h_T_4 k_o (by decide) (by decide) rfl) ?_
  refine tot_ref1 e_n_5 ?_
  refine tot_oif (iv_oO h_T_4 k_n_5 (by decide) (by decide) rfl) ?_
  refine tot_ref1 e_n_6 ?_
  refine tot_oif (iv_oO h_T_4 k_o (by decide) (by decide) rfl) ?_
  refine tot_ref h_T_4 k_o (by decide) (by decide) (r2 := 102) (rfl : rtg 11 12 = 102) (by decide) (fun n_10 k_n_10 e_n_10 => ?_)
  refine tot_oif (iv_oO h_T_4 k_r_3 (by decide) (by decide) rfl) ?_
  refine tot_bind (cs_X4_sumIn T_4 r_3 n_7 n_6 n_10 (0 : Int32) h_T_4 k_r_3 k_n_7 k_n_6 k_n_10 (rfl : isW 102 = true) (by omega)) (fun T_11 d_T_11 => ?_)
  have h_T_11 : IV R B K1 K2 T_11 := d_T_11.1
  have y_T_11 : FW R [3202] T_4 T_11 := d_T_11.2
  have x_T_11 := x_T_4.tr (y_T_11.w (by decide))
  unfold g_X11_meanPower_b33
  refine tot_oif (iv_oO h_T_11 k_o (by decide) (by decide) rfl) ?_
  refine tot_ref h_T_11 k_o (by decide) (by decide) (r2 := 102) (rfl : rtg 11 12 = 102) (by decide) (fun n_12 k_n_12 e_n_12 => ?_)
  refine tot_oif (iv_oO h_T_11 k_o (by decide) (by decide) rfl) ?_
  refine tot_ref h_T_11 k_o (by decide) (by decide) (r2 := 6) (rfl : rtg 11 14 = 6) (by decide) (fun n_13 k_n_13 e_n_13 => ?_)
  refine tot_oif (iv_oO h_T_11 k_n_13 (by decide) (by decide) rfl) ?_
  refine tot_ref h_T_11 k_n_13 (by decide) (by decide) (r2 := 1) (rfl : rtg 6 6 = 1) (by decide) (fun n_14 k_n_14 e_n_14 => ?_)
  refine tot_oif (iv_oO h_T_11 k_n_14 (by decide) (by decide) rfl) ?_
  refine tot_bindq (R := fun r_15 : Int32 => (0 ≤ r_15.toInt ∧ r_15.toInt ≤ 144)) (cs_X1_cells T_11 n_14 h_T_11 k_n_14 ) (fun r_15 d_r_15 => ?_)
  replace d_r_15 : (0 ≤ r_15.toInt ∧ r_15.toInt ≤ 144) := d_r_15
  refine tot_oif (w_oO h_T_11 k_n_12 (rfl : isW 102 = true)) ?_
  refine tot_bind (c_divide (a0 := (0 : Int32)) (a1 := r_15) k_n_12 (rfl : isW 102 = true) h_T_11 (by omega)) (fun T_17 d_T_17 => ?_)
  have h_T_17 : IV R B K1 K2 T_17 := d_T_17.1
  have y_T_17 : FW R [3202] T_11 T_17 := (fw_wx d_T_17.2 k_n_12 (rfl : isW 102 = true) (by decide))
  have x_T_17 := x_T_11.tr (y_T_17.w (by decide))
  unfold g_X11_meanPower_b51
  refine tot_oif (iv_oO h_T_17 k_o (by decide) (by decide) rfl) ?_
  refine tot_ref h_T_17 k_o (by decide) (by decide) (r2 := 102) (rfl : rtg 11 12 = 102) (by decide) (fun n_18 k_n_18 e_n_18 => ?_)
  refine tot_oif (w_oO h_T_17 k_n_18 (rfl : isW 102 = true)) ?_
  refine tot_bindq (R := fun r_19 : Int64 => True) (c_value (a0 := (0 : Int32)) k_n_18 (rfl : isW 102 = true) h_T_17 (by omega)) (fun r_19 d_r_19 => ?_)
  exact tot_some ⟨⟨h_T_17, x_T_17⟩, fun _ => trivial⟩
set_option maxHeartbeats 4000000 in
set_option maxRecDepth 10000 in
theorem cs_X11_peaks {R : Nat → Nat} {B K1 K2 : Nat} (T : AT) (o : Nat) (h_T : IV R B K1 K2 T) (k_o : R o = 11) : Tot (g_X11_peaks T o) (fun r => (IV R B K1 K2 r.2.2 ∧ FW R [128, 130, 131, 1952, 2144, 3202] T r.2.2) ∧ (r.1 = 0 → (0 ≤ r.2.1.toInt ∧ r.2.1.toInt ≤ 144))) := by
  have cc_101 : cnt 101 = 1 := rfl
  have cc_102 : cnt 102 = 12 := rfl
  have cc_103 : cnt 103 = 144 := rfl
  have cc_104 : cnt 104 = 2400 := rfl
  have cc_105 : cnt 105 = 7200 := rfl
  have x_T : FW R [128, 130, 131, 1952, 2144, 3202] T T := FW.rf
  unfold g_X11_peaks
  refine tot_oif (iv_oO h_T k_o (by decide) (by decide) rfl) ?_
  refine tot_thrp (Q := fun r_1 : Int32 => (0 ≤ r_1.toInt ∧ r_1.toInt ≤ 0)) (cs_X11_needCamera T o h_T k_o ) (fun r_1 d_r_1 => ?_) (fun k_ => ⟨⟨h_T, x_T⟩, fun q_ => absurd q_ (Nat.succ_ne_zero k_)⟩)
  replace d_r_1 : (0 ≤ r_1.toInt ∧ r_1.toInt ≤ 0) := d_r_1
  refine tot_oif (iv_oO h_T k_o (by decide) (by decide) rfl) ?_
  refine tot_bind2 (cs_X11_powersNow T o h_T k_o ) (fun r_3 T_4 d_r_3 => ?_)
  have h_T_4 : IV R B K1 K2 T_4 := d_r_3.1.1
  have y_T_4 : FW R [128, 130, 131, 1952, 2144, 3202] T T_4 := d_r_3.1.2
  have x_T_4 := x_T.tr (y_T_4.w (by decide))
  have k_r_3 : R r_3 = 4 := d_r_3.2
  refine tot_oif (Nat.ble_eq_true_of_le (iv_lt h_T_4 (iv_sta h_T_4 k_r_3 (by decide) (by decide)))) ?_
  unfold g_X11_peaks_b8
  refine tot_oif (iv_oO h_T_4 k_r_3 (by decide) (by decide) rfl) ?_
  refine tot_let (fun v_5 e_v_5 => ?_)
  have r_v_5 : 0 ≤ v_5.toInt ∧ v_5.toInt ≤ 144 := iv_int h_T_4 k_r_3 (by decide) (by decide) e_v_5 rfl
  exact tot_some ⟨⟨h_T_4, x_T_4⟩, fun _ => (show (0 ≤ v_5.toInt ∧ v_5.toInt ≤ 144) from by omega)⟩
end
section
/-! 13d.cj9.lean.txt -/
set_option maxHeartbeats 4000000 in
set_option maxRecDepth 10000 in
theorem cs_X11_peakAt {R : Nat → Nat} {B K1 K2 : Nat} (T : AT) (o : Nat) (a0 : Int32) (h_T : IV R B K1 K2 T) (k_o : R o = 11) : Tot (g_X11_peakAt T o a0) (fun r => (IV R B K1 K2 r.2.2 ∧ FW R [128, 130, 131, 1952, 2144, 3202] T r.2.2) ∧ (r.1 = 0 → (-1 ≤ r.2.1.toInt ∧ r.2.1.toInt ≤ 143))) := by
  have cc_101 : cnt 101 = 1 := rfl
  have cc_102 : cnt 102 = 12 := rfl
  have cc_103 : cnt 103 = 144 := rfl
  have cc_104 : cnt 104 = 2400 := rfl
  have cc_105 : cnt 105 = 7200 := rfl
  have x_T : FW R [128, 130, 131, 1952, 2144, 3202] T T := FW.rf
  have j_a0 := i_any a0
  unfold g_X11_peakAt
  refine tot_oif (iv_oO h_T k_o (by decide) (by decide) rfl) ?_
  refine tot_thrp (Q := fun r_1 : Int32 => (0 ≤ r_1.toInt ∧ r_1.toInt ≤ 0)) (cs_X11_needCamera T o h_T k_o ) (fun r_1 d_r_1 => ?_) (fun k_ => ⟨⟨h_T, x_T⟩, fun q_ => absurd q_ (Nat.succ_ne_zero k_)⟩)
  replace d_r_1 : (0 ≤ r_1.toInt ∧ r_1.toInt ≤ 0) := d_r_1
  refine tot_oif (iv_oO h_T k_o (by decide) (by decide) rfl) ?_
  refine tot_bind2 (cs_X11_powersNow T o h_T k_o ) (fun r_3 T_4 d_r_3 => ?_)
  have h_T_4 : IV R B K1 K2 T_4 := d_r_3.1.1
  have y_T_4 : FW R [128, 130, 131, 1952, 2144, 3202] T T_4 := d_r_3.1.2
  have x_T_4 := x_T.tr (y_T_4.w (by decide))
  have k_r_3 : R r_3 = 4 := d_r_3.2
  refine tot_oif (Nat.ble_eq_true_of_le (iv_lt h_T_4 (iv_sta h_T_4 k_r_3 (by decide) (by decide)))) ?_
  unfold g_X11_peakAt_b8
  refine tot_oif (iv_oO h_T_4 k_r_3 (by decide) (by decide) rfl) ?_
  refine tot_let (fun v_5 e_v_5 => ?_)
  have r_v_5 : 0 ≤ v_5.toInt ∧ v_5.toInt ≤ 144 := iv_int h_T_4 k_r_3 (by decide) (by decide) e_v_5 rfl
  refine tot_thrp (Q := fun r_6 : Int32 => (0 ≤ a0.toInt ∧ a0.toInt < v_5.toInt)) (cs_X11_needIndex T_4 a0 v_5 h_T_4 ) (fun r_6 d_r_6 => ?_) (fun k_ => ⟨⟨h_T_4, x_T_4⟩, fun q_ => absurd q_ (Nat.succ_ne_zero k_)⟩)
  replace d_r_6 : (0 ≤ a0.toInt ∧ a0.toInt < v_5.toInt) := d_r_6
  refine tot_oif (iv_oO h_T_4 k_r_3 (by decide) (by decide) rfl) ?_
  refine tot_bindq (R := fun r_8 : Int32 => (-1 ≤ r_8.toInt ∧ r_8.toInt ≤ 143)) (cs_X4_peakRanked T_4 r_3 a0 h_T_4 k_r_3 (by omega)) (fun r_8 d_r_8 => ?_)
  replace d_r_8 : (-1 ≤ r_8.toInt ∧ r_8.toInt ≤ 143) := d_r_8
  exact tot_some ⟨⟨h_T_4, x_T_4⟩, fun _ => (show (-1 ≤ r_8.toInt ∧ r_8.toInt ≤ 143) from by omega)⟩
set_option maxHeartbeats 4000000 in
set_option maxRecDepth 10000 in
theorem cs_X11_isPeak {R : Nat → Nat} {B K1 K2 : Nat} (T : AT) (o : Nat) (a0 : Int32) (h_T : IV R B K1 K2 T) (k_o : R o = 11) : Tot (g_X11_isPeak T o a0) (fun r => (IV R B K1 K2 r.2.2 ∧ FW R [128, 130, 131, 1952, 2144, 3202] T r.2.2) ∧ (r.1 = 0 → (0 ≤ r.2.1.toInt ∧ r.2.1.toInt ≤ 1))) := by
  have cc_101 : cnt 101 = 1 := rfl
  have cc_102 : cnt 102 = 12 := rfl
  have cc_103 : cnt 103 = 144 := rfl
  have cc_104 : cnt 104 = 2400 := rfl
  have cc_105 : cnt 105 = 7200 := rfl
  have x_T : FW R [128, 130, 131, 1952, 2144, 3202] T T := FW.rf
  have j_a0 := i_any a0
  unfold g_X11_isPeak
  refine tot_oif (iv_oO h_T k_o (by decide) (by decide) rfl) ?_
  refine tot_thrp (Q := fun r_1 : Int32 => (0 ≤ r_1.toInt ∧ r_1.toInt ≤ 0)) (cs_X11_needCamera T o h_T k_o ) (fun r_1 d_r_1 => ?_) (fun k_ => ⟨⟨h_T, x_T⟩, fun q_ => absurd q_ (Nat.succ_ne_zero k_)⟩)
  replace d_r_1 : (0 ≤ r_1.toInt ∧ r_1.toInt ≤ 0) := d_r_1
  refine tot_oif (iv_oO h_T k_o (by decide) (by decide) rfl) ?_
  refine tot_thrp (Q := fun r_3 : Int32 => (0 ≤ a0.toInt ∧ a0.toInt ≤ 143)) (cs_X11_needCell T o a0 h_T k_o ) (fun r_3 d_r_3 => ?_) (fun k_ => ⟨⟨h_T, x_T⟩, fun q_ => absurd q_ (Nat.succ_ne_zero k_)⟩)
  replace d_r_3 : (0 ≤ a0.toInt ∧ a0.toInt ≤ 143) := d_r_3
  refine tot_oif (iv_oO h_T k_o (by decide) (by decide) rfl) ?_
  refine tot_bind2 (cs_X11_powersNow T o h_T k_o ) (fun r_5 T_6 d_r_5 => ?_)
  have h_T_6 : IV R B K1 K2 T_6 := d_r_5.1.1
  have y_T_6 : FW R [128, 130, 131, 1952, 2144, 3202] T T_6 := d_r_5.1.2
  have x_T_6 := x_T.tr (y_T_6.w (by decide))
  have k_r_5 : R r_5 = 4 := d_r_5.2
  refine tot_oif (Nat.ble_eq_true_of_le (iv_lt h_T_6 (iv_sta h_T_6 k_r_5 (by decide) (by decide)))) ?_
  unfold g_X11_isPeak_b13
  refine tot_oif (iv_oO h_T_6 k_o (by decide) (by decide) rfl) ?_
  refine tot_ref h_T_6 k_o (by decide) (by decide) (r2 := 6) (rfl : rtg 11 14 = 6) (by decide) (fun n_7 k_n_7 e_n_7 => ?_)
  refine tot_oif (iv_oO h_T_6 k_n_7 (by decide) (by decide) rfl) ?_
  refine tot_ref h_T_6 k_n_7 (by decide) (by decide) (r2 := 1) (rfl : rtg 6 6 = 1) (by decide) (fun n_8 k_n_8 e_n_8 => ?_)
  refine tot_oif (iv_oO h_T_6 k_r_5 (by decide) (by decide) rfl) ?_
  refine tot_bind2 (cs_X4_standsOut T_6 r_5 a0 n_8 h_T_6 k_r_5 k_n_8 (by omega)) (fun r_9 T_10 d_r_9 => ?_)
  have h_T_10 : IV R B K1 K2 T_10 := d_r_9.1.1
  have y_T_10 : FW R [1952] T_6 T_10 := d_r_9.1.2
  have x_T_10 := x_T_6.tr (y_T_10.w (by decide))
  replace d_r_9 : (0 ≤ r_9.toInt ∧ r_9.toInt ≤ 1) := d_r_9.2
  refine tot_oif (i_b01 (by omega)) ?_
  exact tot_some ⟨⟨h_T_10, x_T_10⟩, fun _ => (show (0 ≤ r_9.toInt ∧ r_9.toInt ≤ 1) from by omega)⟩
set_option maxHeartbeats 4000000 in
set_option maxRecDepth 10000 in
theorem cs_X11_zonePower {R : Nat → Nat} {B K1 K2 : Nat} (T : AT) (o : Nat) (a0 : Int32) (h_T : IV R B K1 K2 T) (k_o : R o = 11) : Tot (g_X11_zonePower T o a0) (fun r => (IV R B K1 K2 r.2.2 ∧ FW R [128, 130, 131, 1952, 2144, 3202] T r.2.2) ∧ (r.1 = 0 → True)) := by
  have z0 : ((0 : Int32) : Int32).toInt = 0 := by decide
  have cc_101 : cnt 101 = 1 := rfl
  have cc_102 : cnt 102 = 12 := rfl
  have cc_103 : cnt 103 = 144 := rfl
  have cc_104 : cnt 104 = 2400 := rfl
  have cc_105 : cnt 105 = 7200 := rfl
  have x_T : FW R [128, 130, 131, 1952, 2144, 3202] T T := FW.rf
  have j_a0 := i_any a0
  unfold g_X11_zonePower
  refine tot_oif (iv_oO h_T k_o (by decide) (by decide) rfl) ?_
  refine tot_thrp (Q := fun r_1 : Int32 => (0 ≤ r_1.toInt ∧ r_1.toInt ≤ 0)) (cs_X11_needCamera T o h_T k_o ) (fun r_1 d_r_1 => ?_) (fun k_ => ⟨⟨h_T, x_T⟩, fun q_ => absurd q_ (Nat.succ_ne_zero k_)⟩)
  replace d_r_1 : (0 ≤ r_1.toInt ∧ r_1.toInt ≤ 0) := d_r_1
  refine tot_oif (iv_oO h_T k_o (by decide) (by decide) rfl) ?_
  refine tot_ref h_T k_o (by decide) (by decide) (r2 := 6) (rfl : rtg 11 14 = 6) (by decide) (fun n_3 k_n_3 e_n_3 => ?_)
  refine tot_oif (iv_oO h_T k_n_3 (by decide) (by decide) rfl) ?_
  refine tot_ref h_T k_n_3 (by decide) (by decide) (r2 := 1) (rfl : rtg 6 6 = 1) (by decide) (fun n_4 k_n_4 e_n_4 => ?_)
  refine tot_oif (iv_oO h_T k_n_4 (by decide) (by decide) rfl) ?_
  refine tot_let (fun v_5 e_v_5 => ?_)
  have r_v_5 : 0 ≤ v_5.toInt ∧ v_5.toInt ≤ 4 := iv_int h_T k_n_4 (by decide) (by decide) e_v_5 rfl
  refine tot_thrp (Q := fun r_6 : Int32 => (0 ≤ a0.toInt ∧ a0.toInt < v_5.toInt)) (cs_X11_needIndex T a0 v_5 h_T ) (fun r_6 d_r_6 => ?_) (fun k_ => ⟨⟨h_T, x_T⟩, fun q_ => absurd q_ (Nat.succ_ne_zero k_)⟩)
  replace d_r_6 : (0 ≤ a0.toInt ∧ a0.toInt < v_5.toInt) := d_r_6
  refine tot_oif (iv_oO h_T k_o (by decide) (by decide) rfl) ?_
  refine tot_bind2 (cs_X11_powersNow T o h_T k_o ) (fun r_8 T_9 d_r_8 => ?_)
  have h_T_9 : IV R B K1 K2 T_9 := d_r_8.1.1
  have y_T_9 : FW R [128, 130, 131, 1952, 2144, 3202] T T_9 := d_r_8.1.2
  have x_T_9 := x_T.tr (y_T_9.w (by decide))
  have k_r_8 : R r_8 = 4 := d_r_8.2
  refine tot_oif (Nat.ble_eq_true_of_le (iv_lt h_T_9 (iv_sta h_T_9 k_r_8 (by decide) (by decide)))) ?_
  unfold g_X11_zonePower_b22
  refine tot_oif (iv_oO h_T_9 k_o (by decide) (by decide) rfl) ?_
  refine tot_ref h_T_9 k_o (by decide) (by decide) (r2 := 6) (rfl : rtg 11 14 = 6) (by decide) (fun n_10 k_n_10 e_n_10 => ?_)
  refine tot_oif (iv_oO h_T_9 k_n_10 (by decide) (by decide) rfl) ?_
  refine tot_ref h_T_9 k_n_10 (by decide) (by decide) (r2 := 1) (rfl : rtg 6 6 = 1) (by decide) (fun n_11 k_n_11 e_n_11 => ?_)
  refine tot_oif (iv_oO h_T_9 k_n_11 (by decide) (by decide) rfl) ?_
  refine tot_ref h_T_9 k_n_11 (by decide) (by decide) (r2 := 60) (rfl : rtg 1 6 = 60) (by decide) (fun n_12 k_n_12 e_n_12 => ?_)
  refine tot_oif (iv_aA h_T_9 k_n_12 (by decide) (by decide) rfl rfl) ?_
  refine tot_oif (by rw [iv_len h_T_9 k_n_12 (by decide) (by decide) (rfl : shp 60 = (106, 4))]; exact i_inb (by omega) (by omega)) ?_
  refine tot_ref h_T_9 k_n_12 (by decide) (by decide) (r2 := 59) (rt_60 (by omega) (by omega)) (by decide) (fun n_13 k_n_13 e_n_13 => ?_)
  refine tot_oif (iv_oO h_T_9 k_o (by decide) (by decide) rfl) ?_
  refine tot_ref1 e_n_10 ?_
  refine tot_oif (iv_oO h_T_9 k_n_10 (by decide) (by decide) rfl) ?_
  refine tot_ref1 e_n_11 ?_
  refine tot_oif (iv_oO h_T_9 k_o (by decide) (by decide) rfl) ?_
  refine tot_ref h_T_9 k_o (by decide) (by decide) (r2 := 102) (rfl : rtg 11 12 = 102) (by decide) (fun n_16 k_n_16 e_n_16 => ?_)
  refine tot_oif (iv_oO h_T_9 k_r_8 (by decide) (by decide) rfl) ?_
  refine tot_bind (cs_X4_sumIn T_9 r_8 n_13 n_11 n_16 (0 : Int32) h_T_9 k_r_8 k_n_13 k_n_11 k_n_16 (rfl : isW 102 = true) (by omega)) (fun T_17 d_T_17 => ?_)
  have h_T_17 : IV R B K1 K2 T_17 := d_T_17.1
  have y_T_17 : FW R [3202] T_9 T_17 := d_T_17.2
  have x_T_17 := x_T_9.tr (y_T_17.w (by decide))
  unfold g_X11_zonePower_b49
  refine tot_oif (iv_oO h_T_17 k_o (by decide) (by decide) rfl) ?_
  refine tot_ref h_T_17 k_o (by decide) (by decide) (r2 := 102) (rfl : rtg 11 12 = 102) (by decide) (fun n_18 k_n_18 e_n_18 => ?_)
  refine tot_oif (w_oO h_T_17 k_n_18 (rfl : isW 102 = true)) ?_
  refine tot_bindq (R := fun r_19 : Int64 => True) (c_value (a0 := (0 : Int32)) k_n_18 (rfl : isW 102 = true) h_T_17 (by omega)) (fun r_19 d_r_19 => ?_)
  exact tot_some ⟨⟨h_T_17, x_T_17⟩, fun _ => trivial⟩
set_option maxHeartbeats 4000000 in
set_option maxRecDepth 10000 in
theorem cs_X11_zoneBest {R : Nat → Nat} {B K1 K2 : Nat} (T : AT) (o : Nat) (a0 : Int32) (h_T : IV R B K1 K2 T) (k_o : R o = 11) : Tot (g_X11_zoneBest T o a0) (fun r => (IV R B K1 K2 r.2.2 ∧ FW R [128, 130, 131, 1952, 2144, 3202] T r.2.2) ∧ (r.1 = 0 → (0 ≤ r.2.1.toInt ∧ r.2.1.toInt ≤ 143))) := by
  have z0 : ((0 : Int32) : Int32).toInt = 0 := by decide
  have cc_101 : cnt 101 = 1 := rfl
  have cc_102 : cnt 102 = 12 := rfl
  have cc_103 : cnt 103 = 144 := rfl
  have cc_104 : cnt 104 = 2400 := rfl
  have cc_105 : cnt 105 = 7200 := rfl
  have x_T : FW R [128, 130, 131, 1952, 2144, 3202] T T := FW.rf
  have j_a0 := i_any a0
  unfold g_X11_zoneBest
  refine tot_oif (iv_oO h_T k_o (by decide) (by decide) rfl) ?_
  refine tot_thrp (Q := fun r_1 : Int32 => (0 ≤ r_1.toInt ∧ r_1.toInt ≤ 0)) (cs_X11_needCamera T o h_T k_o ) (fun r_1 d_r_1 => ?_) (fun k_ => ⟨⟨h_T, x_T⟩, fun q_ => absurd q_ (Nat.succ_ne_zero k_)⟩)
  replace d_r_1 : (0 ≤ r_1.toInt ∧ r_1.toInt ≤ 0) := d_r_1
  refine tot_oif (iv_oO h_T k_o (by decide) (by decide) rfl) ?_
  refine tot_ref h_T k_o (by decide) (by decide) (r2 := 6) (rfl : rtg 11 14 = 6) (by decide) (fun n_3 k_n_3 e_n_3 => ?_)
  refine tot_oif (iv_oO h_T k_n_3 (by decide) (by decide) rfl) ?_
  refine tot_ref h_T k_n_3 (by decide) (by decide) (r2 := 1) (rfl : rtg 6 6 = 1) (by decide) (fun n_4 k_n_4 e_n_4 => ?_)
  refine tot_oif (iv_oO h_T k_n_4 (by decide) (by decide) rfl) ?_
  refine tot_let (fun v_5 e_v_5 => ?_)
  have r_v_5 : 0 ≤ v_5.toInt ∧ v_5.toInt ≤ 4 := iv_int h_T k_n_4 (by decide) (by decide) e_v_5 rfl
  refine tot_thrp (Q := fun r_6 : Int32 => (0 ≤ a0.toInt ∧ a0.toInt < v_5.toInt)) (cs_X11_needIndex T a0 v_5 h_T ) (fun r_6 d_r_6 => ?_) (fun k_ => ⟨⟨h_T, x_T⟩, fun q_ => absurd q_ (Nat.succ_ne_zero k_)⟩)
  replace d_r_6 : (0 ≤ a0.toInt ∧ a0.toInt < v_5.toInt) := d_r_6
  refine tot_oif (iv_oO h_T k_o (by decide) (by decide) rfl) ?_
  refine tot_ref1 e_n_3 ?_
  refine tot_oif (iv_oO h_T k_n_3 (by decide) (by decide) rfl) ?_
  refine tot_ref1 e_n_4 ?_
  refine tot_oif (iv_oO h_T k_o (by decide) (by decide) rfl) ?_
  refine tot_ref1 e_n_3 ?_
  refine tot_oif (iv_oO h_T k_n_3 (by decide) (by decide) rfl) ?_
  refine tot_ref1 e_n_4 ?_
  refine tot_oif (iv_oO h_T k_n_4 (by decide) (by decide) rfl) ?_
  refine tot_ref h_T k_n_4 (by decide) (by decide) (r2 := 60) (rfl : rtg 1 6 = 60) (by decide) (fun n_12 k_n_12 e_n_12 => ?_)
  refine tot_oif (iv_aA h_T k_n_12 (by decide) (by decide) rfl rfl) ?_
  refine tot_oif (by rw [iv_len h_T k_n_12 (by decide) (by decide) (rfl : shp 60 = (106, 4))]; exact i_inb (by omega) (by omega)) ?_
  refine tot_ref h_T k_n_12 (by decide) (by decide) (r2 := 59) (rt_60 (by omega) (by omega)) (by decide) (fun n_13 k_n_13 e_n_13 => ?_)
  refine tot_oif (iv_oO h_T k_o (by decide) (by decide) rfl) ?_
  refine tot_bind2 (cs_X11_powersNow T o h_T k_o ) (fun r_14 T_15 d_r_14 => ?_)
  have h_T_15 : IV R B K1 K2 T_15 := d_r_14.1.1
  have y_T_15 : FW R [128, 130, 131, 1952, 2144, 3202] T T_15 := d_r_14.1.2
  have x_T_15 := x_T.tr (y_T_15.w (by decide))
  have k_r_14 : R r_14 = 4 := d_r_14.2
  refine tot_oif (Nat.ble_eq_true_of_le (iv_lt h_T_15 (iv_sta h_T_15 k_r_14 (by decide) (by decide)))) ?_
  unfold g_X11_zoneBest_b41
  refine tot_oif (iv_oO h_T_15 k_r_14 (by decide) (by decide) rfl) ?_
  refine tot_ref h_T_15 k_r_14 (by decide) (by decide) (r2 := 103) (rfl : rtg 4 1 = 103) (by decide) (fun n_16 k_n_16 e_n_16 => ?_)
  refine tot_oif (iv_oO h_T_15 k_n_4 (by decide) (by decide) rfl) ?_
  refine tot_bindq (R := fun r_17 : Int32 => (0 ≤ r_17.toInt ∧ r_17.toInt ≤ 143)) (cs_X1_bestIn59 T_15 n_4 n_13 n_16 (0 : Int32) h_T_15 k_n_4 k_n_13 k_n_16 (rfl : isW 103 = true) (by omega)) (fun r_17 d_r_17 => ?_)
  replace d_r_17 : (0 ≤ r_17.toInt ∧ r_17.toInt ≤ 143) := d_r_17
  exact tot_some ⟨⟨h_T_15, x_T_15⟩, fun _ => (show (0 ≤ r_17.toInt ∧ r_17.toInt ≤ 143) from by omega)⟩
set_option maxHeartbeats 4000000 in
set_option maxRecDepth 10000 in
theorem cs_X11_contrast {R : Nat → Nat} {B K1 K2 : Nat} (T : AT) (o : Nat) (h_T : IV R B K1 K2 T) (k_o : R o = 11) : Tot (g_X11_contrast T o) (fun r => (IV R B K1 K2 r.2.2 ∧ FW R [128, 130, 131, 1952, 2144, 3202] T r.2.2) ∧ (r.1 = 0 → True)) := by
  have z0 : ((-1) : Int32).toInt = -1 := by decide
  have cc_101 : cnt 101 = 1 := rfl
  have cc_102 : cnt 102 = 12 := rfl
  have cc_103 : cnt 103 = 144 := rfl
  have cc_104 : cnt 104 = 2400 := rfl
  have cc_105 : cnt 105 = 7200 := rfl
  have x_T : FW R [128, 130, 131, 1952, 2144, 3202] T T := FW.rf
  unfold g_X11_contrast
  refine tot_oif (iv_oO h_T k_o (by decide) (by decide) rfl) ?_
  refine tot_thrp (Q := fun r_1 : Int32 => (0 ≤ r_1.toInt ∧ r_1.toInt ≤ 0)) (cs_X11_needCamera T o h_T k_o ) (fun r_1 d_r_1 => ?_) (fun k_ => ⟨⟨h_T, x_T⟩, fun q_ => absurd q_ (Nat.succ_ne_zero k_)⟩)
  replace d_r_1 : (0 ≤ r_1.toInt ∧ r_1.toInt ≤ 0) := d_r_1
  refine tot_oif (iv_oO h_T k_o (by decide) (by decide) rfl) ?_
  refine tot_bind2 (cs_X11_powersNow T o h_T k_o ) (fun r_3 T_4 d_r_3 => ?_)
  have h_T_4 : IV R B K1 K2 T_4 := d_r_3.1.1
  have y_T_4 : FW R [128, 130, 131, 1952, 2144, 3202] T T_4 := d_r_3.1.2
  have x_T_4 := x_T.tr (y_T_4.w (by decide))
  have k_r_3 : R r_3 = 4 := d_r_3.2
  refine tot_oif (Nat.ble_eq_true_of_le (iv_lt h_T_4 (iv_sta h_T_4 k_r_3 (by decide) (by decide)))) ?_
  unfold g_X11_contrast_b8
  refine tot_oif (iv_oO h_T_4 k_o (by decide) (by decide) rfl) ?_
  refine tot_ref h_T_4 k_o (by decide) (by decide) (r2 := 6) (rfl : rtg 11 14 = 6) (by decide) (fun n_5 k_n_5 e_n_5 => ?_)
  refine tot_oif (iv_oO h_T_4 k_n_5 (by decide) (by decide) rfl) ?_
  refine tot_ref h_T_4 k_n_5 (by decide) (by decide) (r2 := 1) (rfl : rtg 6 6 = 1) (by decide) (fun n_6 k_n_6 e_n_6 => ?_)
  refine tot_oif (iv_oO h_T_4 k_n_6 (by decide) (by decide) rfl) ?_
  refine tot_bindq (R := fun r_7 : Int32 => (0 ≤ r_7.toInt ∧ r_7.toInt ≤ 144)) (cs_X1_cells T_4 n_6 h_T_4 k_n_6 ) (fun r_7 d_r_7 => ?_)
  replace d_r_7 : (0 ≤ r_7.toInt ∧ r_7.toInt ≤ 144) := d_r_7
  refine tot_oif (iv_oO h_T_4 k_r_3 (by decide) (by decide) rfl) ?_
  refine tot_bindq (R := fun r_9 : Int32 => (-1 ≤ r_9.toInt ∧ r_9.toInt ≤ 143)) (cs_X4_second T_4 r_3 r_7 h_T_4 k_r_3 (by omega)) (fun r_9 d_r_9 => ?_)
  replace d_r_9 : (-1 ≤ r_9.toInt ∧ r_9.toInt ≤ 143) := d_r_9
  refine tot_if (fun c_15 => ?_) (fun c_15 => ?_)
  · replace c_15 := i_eq c_15
    unfold g_X11_contrast_b45
    exact tot_some ⟨⟨h_T_4, x_T_4⟩, fun _ => trivial⟩
  · replace c_15 := i_ne c_15
    refine tot_oif (iv_oO h_T_4 k_r_3 (by decide) (by decide) rfl) ?_
    refine tot_ref h_T_4 k_r_3 (by decide) (by decide) (r2 := 103) (rfl : rtg 4 1 = 103) (by decide) (fun n_11 k_n_11 e_n_11 => ?_)
    refine tot_oif (iv_oO h_T_4 k_r_3 (by decide) (by decide) rfl) ?_
    refine tot_let (fun v_12 e_v_12 => ?_)
    have r_v_12 : 0 ≤ v_12.toInt ∧ v_12.toInt ≤ 143 := iv_int h_T_4 k_r_3 (by decide) (by decide) e_v_12 rfl
    refine tot_oif (w_oO h_T_4 k_n_11 (rfl : isW 103 = true)) ?_
    refine tot_bindq (R := fun r_13 : UInt32 => True) (c_ratio (a0 := v_12) (a1 := r_9) k_n_11 (rfl : isW 103 = true) h_T_4 (by omega) (by omega)) (fun r_13 d_r_13 => ?_)
    unfold g_X11_contrast_b45
    exact tot_some ⟨⟨h_T_4, x_T_4⟩, fun _ => trivial⟩
set_option maxHeartbeats 4000000 in
set_option maxRecDepth 10000 in
theorem cl_X11_confusion_b46 {R : Nat → Nat} {B K1 K2 : Nat} {Q : Int32 × AT → Prop} {k28 : AT → Nat → Int32 → Nat → Nat → Int32 → Int32 → Option (Int32 × AT)} (T : AT) (l0 : Nat) (l3 : Int32) (l4 : Nat) (l5 : Nat) (l6 : Int32) (l7 : Int32) (h_T : IV R B K1 K2 T) (k_l0 : R l0 = 11) (k_l4 : R l4 = 50) (k_l5 : R l5 = 50) (g0 : 2 ≤ l3.toInt ∧ l3.toInt ≤ 99) (g1 : 0 ≤ l6.toInt ∧ l6.toInt ≤ 2147483647) (g2 : 0 ≤ l7.toInt ∧ l7.toInt ≤ 11) (hx0 : ∀ (l8 : Int32), Tot (elet (if l6 < l8 then l8 else l6) fun v_112 => elet (l7 + Int32.ofInt (1)) fun v_113 => k28 T l0 l3 l4 l5 v_112 v_113) Q) : ∀ (n : Nat) (l8 : Int32) (l9 : Int32), (0 ≤ l9.toInt ∧ l9.toInt ≤ 12) → 12 - l9.toInt < (n : Int) → Tot (g_X11_confusion_b46 k28 n T l0 l3 l4 l5 l6 l7 l8 l9) Q := by
  have z0 : (0 : Int32).toInt = 0 := by decide
  have z1 : (Int32.ofInt (1) : Int32).toInt = 1 := by decide
  have cc_101 : cnt 101 = 1 := rfl
  have cc_102 : cnt 102 = 12 := rfl
  have cc_103 : cnt 103 = 144 := rfl
  have cc_104 : cnt 104 = 2400 := rfl
  have cc_105 : cnt 105 = 7200 := rfl
  have j_l3 := i_any l3
  have j_l6 := i_any l6
  have j_l7 := i_any l7
  intro n
  induction n with
  | zero =>
    intro l8 l9 g_l9 hm
    exfalso
    omega
  | succ n ih =>
    intro l8 l9 g_l9 hm
    unfold g_X11_confusion_b46
    refine tot_oif (iv_oO h_T k_l0 (by decide) (by decide) rfl) ?_
    refine tot_ref h_T k_l0 (by decide) (by decide) (r2 := 6) (rfl : rtg 11 14 = 6) (by decide) (fun n_110 k_n_110 e_n_110 => ?_)
    refine tot_oif (iv_oO h_T k_n_110 (by decide) (by decide) rfl) ?_
    refine tot_let (fun v_111 e_v_111 => ?_)
    have r_v_111 : 0 ≤ v_111.toInt ∧ v_111.toInt ≤ 12 := iv_int h_T k_n_110 (by decide) (by decide) e_v_111 rfl
    refine tot_if (fun c_129 => ?_) (fun c_129 => ?_)
    · replace c_129 := i_le c_129
      exact hx0 l8 
    · replace c_129 := i_nle c_129
      refine tot_oif (iv_aA h_T k_l4 (by decide) (by decide) rfl rfl) ?_
      refine tot_oif (by rw [iv_len h_T k_l4 (by decide) (by decide) (rfl : shp 50 = (100, 12))]; exact i_inb (by omega) (by omega)) ?_
      refine tot_let (fun v_114 e_v_114 => ?_)
      have r_v_114 := i_any v_114
      refine tot_oif (iv_aA h_T k_l5 (by decide) (by decide) rfl rfl) ?_
      refine tot_oif (by rw [iv_len h_T k_l5 (by decide) (by decide) (rfl : shp 50 = (100, 12))]; exact i_inb (by omega) (by omega)) ?_
      refine tot_let (fun v_115 e_v_115 => ?_)
      have r_v_115 := i_any v_115
      refine tot_let (fun v_116 e_v_116 => ?_)
      have r_v_116 := i_any v_116
      refine tot_oif (iv_aA h_T k_l4 (by decide) (by decide) rfl rfl) ?_
      refine tot_oif (by rw [iv_len h_T k_l4 (by decide) (by decide) (rfl : shp 50 = (100, 12))]; exact i_inb (by omega) (by omega)) ?_
      refine tot_let (fun v_117 e_v_117 => ?_)
      have r_v_117 := i_any v_117
      refine tot_oif (iv_aA h_T k_l5 (by decide) (by decide) rfl rfl) ?_
      refine tot_oif (by rw [iv_len h_T k_l5 (by decide) (by decide) (rfl : shp 50 = (100, 12))]; exact i_inb (by omega) (by omega)) ?_
      refine tot_let (fun v_118 e_v_118 => ?_)
      have r_v_118 := i_any v_118
      refine tot_let (fun v_119 e_v_119 => ?_)
      have r_v_119 := i_any v_119
      refine tot_let (fun v_120 e_v_120 => ?_)
      have r_v_120 := i_any v_120
      refine tot_oif (iv_oO h_T k_l0 (by decide) (by decide) rfl) ?_
      refine tot_ref h_T k_l0 (by decide) (by decide) (r2 := 8) (rfl : rtg 11 6 = 8) (by decide) (fun n_121 k_n_121 e_n_121 => ?_)
      refine tot_oif (iv_oO h_T k_n_121 (by decide) (by decide) rfl) ?_
      refine tot_ref h_T k_n_121 (by decide) (by decide) (r2 := 62) (rfl : rtg 8 3 = 62) (by decide) (fun n_122 k_n_122 e_n_122 => ?_)
      refine tot_oif (iv_aA h_T k_n_122 (by decide) (by decide) rfl rfl) ?_
      refine tot_oif (by rw [iv_len h_T k_n_122 (by decide) (by decide) (rfl : shp 62 = (102, 12))]; exact i_inb (by omega) (by omega)) ?_
      refine tot_let (fun v_123 e_v_123 => ?_)
      have r_v_123 : 0 ≤ v_123.toInt ∧ v_123.toInt ≤ 1 := iv_int h_T k_n_122 (by decide) (by decide) e_v_123 rfl
      refine tot_if (fun c_130 => ?_) (fun c_130 => ?_)
      · replace c_130 := i_eq c_130
        refine tot_oif (iv_oO h_T k_l0 (by decide) (by decide) rfl) ?_
        refine tot_ref1 e_n_121 ?_
        refine tot_oif (iv_oO h_T k_n_121 (by decide) (by decide) rfl) ?_
        refine tot_ref1 e_n_122 ?_
        refine tot_oif (iv_aA h_T k_n_122 (by decide) (by decide) rfl rfl) ?_
        refine tot_oif (by rw [iv_len h_T k_n_122 (by decide) (by decide) (rfl : shp 62 = (102, 12))]; exact i_inb (by omega) (by omega)) ?_
        refine tot_let (fun v_126 e_v_126 => ?_)
        have r_v_126 : 0 ≤ v_126.toInt ∧ v_126.toInt ≤ 1 := iv_int h_T k_n_122 (by decide) (by decide) e_v_126 rfl
        refine tot_if (fun c_131 => ?_) (fun c_131 => ?_)
        · replace c_131 := i_eq c_131
          refine tot_bind (cs_X11_remainder v_120 l3 ) (fun r_127 d_r_127 => ?_)
          replace d_r_127 : ((0 ≤ v_120.toInt ∧ 0 ≤ l3.toInt → 0 ≤ r_127.toInt ∧ r_127.toInt ≤ v_120.toInt) ∧ (1 ≤ l3.toInt → -l3.toInt < r_127.toInt ∧ r_127.toInt < l3.toInt) ∧ (l3.toInt = 0 → r_127.toInt = 0)) := d_r_127
          refine tot_if (fun c_132 => ?_) (fun c_132 => ?_)
          · replace c_132 := i_eq c_132
            refine tot_let (fun v_128 e_v_128 => ?_)
            have r_v_128 := i_any v_128
            unfold g_X11_confusion_b121
            refine tot_let (fun v_133 e_v_133 => ?_)
            have q_v_133 := i_add e_v_133 (by omega) (by omega)
            exact ih v_128 v_133 (by omega) (by omega)
          · replace c_132 := i_ne c_132
            unfold g_X11_confusion_b121
            refine tot_let (fun v_134 e_v_134 => ?_)
            have q_v_134 := i_add e_v_134 (by omega) (by omega)
            exact ih l8 v_134 (by omega) (by omega)
        · replace c_131 := i_ne c_131
          unfold g_X11_confusion_b121
          refine tot_let (fun v_135 e_v_135 => ?_)
          have q_v_135 := i_add e_v_135 (by omega) (by omega)
          exact ih l8 v_135 (by omega) (by omega)
      · replace c_130 := i_ne c_130
        unfold g_X11_confusion_b121
        refine tot_let (fun v_136 e_v_136 => ?_)
        have q_v_136 := i_add e_v_136 (by omega) (by omega)
        exact ih l8 v_136 (by omega) (by omega)
set_option maxHeartbeats 4000000 in
set_option maxRecDepth 10000 in
theorem cl_X11_confusion_b28 {R : Nat → Nat} {B K1 K2 : Nat} {Q : Int32 × AT → Prop} (T : AT) (l0 : Nat) (l3 : Int32) (l4 : Nat) (l5 : Nat) (h_T : IV R B K1 K2 T) (k_l0 : R l0 = 11) (k_l4 : R l4 = 50) (k_l5 : R l5 = 50) (g0 : 2 ≤ l3.toInt ∧ l3.toInt ≤ 99) (hx0 : ∀ (l6 : Int32), (0 ≤ l6.toInt ∧ l6.toInt ≤ 2147483647) → Tot (some (l6, T)) Q) : ∀ (n : Nat) (l6 : Int32) (l7 : Int32), (0 ≤ l6.toInt ∧ l6.toInt ≤ 2147483647) → (0 ≤ l7.toInt ∧ l7.toInt ≤ 12) → 12 - l7.toInt < (n : Int) → Tot (g_X11_confusion_b28 n T l0 l3 l4 l5 l6 l7) Q := by
  have z0 : (0 : Int32).toInt = 0 := by decide
  have z1 : (Int32.ofInt (1) : Int32).toInt = 1 := by decide
  have cc_101 : cnt 101 = 1 := rfl
  have cc_102 : cnt 102 = 12 := rfl
  have cc_103 : cnt 103 = 144 := rfl
  have cc_104 : cnt 104 = 2400 := rfl
  have cc_105 : cnt 105 = 7200 := rfl
  have j_l3 := i_any l3
  intro n
  induction n with
  | zero =>
    intro l6 l7 g_l6 g_l7 hm
    exfalso
    omega
  | succ n ih =>
    intro l6 l7 g_l6 g_l7 hm
    unfold g_X11_confusion_b28
    refine tot_oif (iv_oO h_T k_l0 (by decide) (by decide) rfl) ?_
    refine tot_ref h_T k_l0 (by decide) (by decide) (r2 := 6) (rfl : rtg 11 14 = 6) (by decide) (fun n_84 k_n_84 e_n_84 => ?_)
    refine tot_oif (iv_oO h_T k_n_84 (by decide) (by decide) rfl) ?_
    refine tot_let (fun v_85 e_v_85 => ?_)
    have r_v_85 : 0 ≤ v_85.toInt ∧ v_85.toInt ≤ 12 := iv_int h_T k_n_84 (by decide) (by decide) e_v_85 rfl
    refine tot_if (fun c_86 => ?_) (fun c_86 => ?_)
    · replace c_86 := i_le c_86
      exact hx0 l6 (by omega)
    · replace c_86 := i_nle c_86
      refine cl_X11_confusion_b46 T l0 l3 l4 l5 l6 l7 h_T k_l0 k_l4 k_l5 (by omega) (by omega) (by omega) ?_ 16384 0 0 (by omega) (by omega)
      · intro l_137
        have j_l_137 := i_any l_137
        refine tot_let (fun v_138 e_v_138 => ?_)
        have q_v_138 := i_ilt e_v_138
        refine tot_let (fun v_139 e_v_139 => ?_)
        have q_v_139 := i_add e_v_139 (by omega) (by omega)
        exact ih v_138 v_139 (by omega) (by omega) (by omega)
set_option maxHeartbeats 4000000 in
set_option maxRecDepth 10000 in
theorem cs_X11_confusion {R : Nat → Nat} {B K1 K2 : Nat} (T : AT) (o : Nat) (a0 : Int32) (a1 : Int32) (a2 : Int32) (h_T : IV R B K1 K2 T) (k_o : R o = 11) (g0 : 0 ≤ a0.toInt ∧ a0.toInt ≤ 143) (g1 : 0 ≤ a1.toInt ∧ a1.toInt ≤ 143) (g2 : 2 ≤ a2.toInt ∧ a2.toInt ≤ 99) : Tot (g_X11_confusion T o a0 a1 a2) (fun r => r.2 = T ∧ (0 ≤ r.1.toInt ∧ r.1.toInt ≤ 2147483647)) := by
  have z0 : (0 : Int32).toInt = 0 := by decide
  have cc_101 : cnt 101 = 1 := rfl
  have cc_102 : cnt 102 = 12 := rfl
  have cc_103 : cnt 103 = 144 := rfl
  have cc_104 : cnt 104 = 2400 := rfl
  have cc_105 : cnt 105 = 7200 := rfl
  have j_a0 := i_any a0
  have j_a1 := i_any a1
  have j_a2 := i_any a2
  unfold g_X11_confusion
  refine tot_oif (iv_oO h_T k_o (by decide) (by decide) rfl) ?_
  refine tot_ref h_T k_o (by decide) (by decide) (r2 := 6) (rfl : rtg 11 14 = 6) (by decide) (fun n_1 k_n_1 e_n_1 => ?_)
  refine tot_oif (iv_oO h_T k_n_1 (by decide) (by decide) rfl) ?_
  refine tot_ref h_T k_n_1 (by decide) (by decide) (r2 := 51) (rfl : rtg 6 17 = 51) (by decide) (fun n_2 k_n_2 e_n_2 => ?_)
  refine tot_oif (iv_aA h_T k_n_2 (by decide) (by decide) rfl rfl) ?_
  refine tot_oif (by rw [iv_len h_T k_n_2 (by decide) (by decide) (rfl : shp 51 = (106, 144))]; exact i_inb (by omega) (by omega)) ?_
  refine tot_ref h_T k_n_2 (by decide) (by decide) (r2 := 50) (rt_51 (by omega) (by omega)) (by decide) (fun n_3 k_n_3 e_n_3 => ?_)
  refine tot_oif (iv_oO h_T k_o (by decide) (by decide) rfl) ?_
  refine tot_ref1 e_n_1 ?_
  refine tot_oif (iv_oO h_T k_n_1 (by decide) (by decide) rfl) ?_
  refine tot_ref1 e_n_2 ?_
  refine tot_oif (iv_aA h_T k_n_2 (by decide) (by decide) rfl rfl) ?_
  refine tot_oif (by rw [iv_len h_T k_n_2 (by decide) (by decide) (rfl : shp 51 = (106, 144))]; exact i_inb (by omega) (by omega)) ?_
  refine tot_ref h_T k_n_2 (by decide) (by decide) (r2 := 50) (rt_51 (by omega) (by omega)) (by decide) (fun n_6 k_n_6 e_n_6 => ?_)
  refine cl_X11_confusion_b28 T o a2 n_3 n_6 h_T k_o k_n_3 k_n_6 (by omega) ?_ 16384 0 0 (by omega) (by omega) (by omega)
  · intro l_140 g_l_140
    exact tot_some ⟨rfl, (show (0 ≤ l_140.toInt ∧ l_140.toInt ≤ 2147483647) from by omega)⟩
set_option maxHeartbeats 4000000 in
set_option maxRecDepth 10000 in
theorem cs_X11_alias {R : Nat → Nat} {B K1 K2 : Nat} (T : AT) (o : Nat) (a0 : Int32) (a1 : Int32) (a2 : Int32) (h_T : IV R B K1 K2 T) (k_o : R o = 11) : Tot (g_X11_alias T o a0 a1 a2) (fun r => r.2.2 = T ∧ (r.1 = 0 → (0 ≤ r.2.1.toInt ∧ r.2.1.toInt ≤ 2147483647))) := by
  have z0 : ((2 : Int32) : Int32).toInt = 2 := by decide
  have z1 : ((99 : Int32) : Int32).toInt = 99 := by decide
  have cc_101 : cnt 101 = 1 := rfl
  have cc_102 : cnt 102 = 12 := rfl
  have cc_103 : cnt 103 = 144 := rfl
  have cc_104 : cnt 104 = 2400 := rfl
  have cc_105 : cnt 105 = 7200 := rfl
  have j_a0 := i_any a0
  have j_a1 := i_any a1
  have j_a2 := i_any a2
  unfold g_X11_alias
  refine tot_oif (iv_oO h_T k_o (by decide) (by decide) rfl) ?_
  refine tot_thrp (Q := fun r_1 : Int32 => (0 ≤ r_1.toInt ∧ r_1.toInt ≤ 0)) (cs_X11_needCamera T o h_T k_o ) (fun r_1 d_r_1 => ?_) (fun k_ => ⟨rfl, fun q_ => absurd q_ (Nat.succ_ne_zero k_)⟩)
  replace d_r_1 : (0 ≤ r_1.toInt ∧ r_1.toInt ≤ 0) := d_r_1
  refine tot_oif (iv_oO h_T k_o (by decide) (by decide) rfl) ?_
  refine tot_thrp (Q := fun r_3 : Int32 => (0 ≤ a0.toInt ∧ a0.toInt ≤ 143)) (cs_X11_needCell T o a0 h_T k_o ) (fun r_3 d_r_3 => ?_) (fun k_ => ⟨rfl, fun q_ => absurd q_ (Nat.succ_ne_zero k_)⟩)
  replace d_r_3 : (0 ≤ a0.toInt ∧ a0.toInt ≤ 143) := d_r_3
  refine tot_oif (iv_oO h_T k_o (by decide) (by decide) rfl) ?_
  refine tot_thrp (Q := fun r_5 : Int32 => (0 ≤ a1.toInt ∧ a1.toInt ≤ 143)) (cs_X11_needCell T o a1 h_T k_o ) (fun r_5 d_r_5 => ?_) (fun k_ => ⟨rfl, fun q_ => absurd q_ (Nat.succ_ne_zero k_)⟩)
  replace d_r_5 : (0 ≤ a1.toInt ∧ a1.toInt ≤ 143) := d_r_5
  refine tot_thrp (Q := fun r_7 : Int32 => (((2 : Int32) : Int32).toInt ≤ a2.toInt ∧ a2.toInt ≤ ((99 : Int32) : Int32).toInt)) (cs_X11_needRange T a2 (2 : Int32) (99 : Int32) h_T ) (fun r_7 d_r_7 => ?_) (fun k_ => ⟨rfl, fun q_ => absurd q_ (Nat.succ_ne_zero k_)⟩)
  replace d_r_7 : (((2 : Int32) : Int32).toInt ≤ a2.toInt ∧ a2.toInt ≤ ((99 : Int32) : Int32).toInt) := d_r_7
  refine tot_oif (iv_oO h_T k_o (by decide) (by decide) rfl) ?_
  refine tot_bindq (R := fun r_9 : Int32 => (0 ≤ r_9.toInt ∧ r_9.toInt ≤ 2147483647)) (cs_X11_confusion T o a0 a1 a2 h_T k_o (by omega) (by omega) (by omega)) (fun r_9 d_r_9 => ?_)
  replace d_r_9 : (0 ≤ r_9.toInt ∧ r_9.toInt ≤ 2147483647) := d_r_9
  exact tot_some ⟨rfl, fun _ => (show (0 ≤ r_9.toInt ∧ r_9.toInt ≤ 2147483647) from by omega)⟩
set_option maxHeartbeats 4000000 in
set_option maxRecDepth 10000 in
theorem cs_X11_marksAlias {R : Nat → Nat} {B K1 K2 : Nat} (T : AT) (o : Nat) (a0 : Nat) (a1 : Int32) (a2 : Int32) (a3 : Int32) (h_T : IV R B K1 K2 T) (k_o : R o = 11) (k_a0 : R a0 = 4) (g0 : 0 ≤ a1.toInt ∧ a1.toInt ≤ 143) (g1 : 2 ≤ a2.toInt ∧ a2.toInt ≤ 99) (g2 : 1 ≤ a3.toInt ∧ a3.toInt ≤ 100) : Tot (g_X11_marksAlias T o a0 a1 a2 a3) (fun r => (IV R B K1 K2 r.2 ∧ FW R [1952] T r.2) ∧ (0 ≤ r.1.toInt ∧ r.1.toInt ≤ 1)) := by
  have z0 : (0 : Int32).toInt = 0 := by decide
  have z1 : (100 : Int32).toInt = 100 := by decide
  have z2 : (1 : Int32).toInt = 1 := by decide
  have cc_101 : cnt 101 = 1 := rfl
  have cc_102 : cnt 102 = 12 := rfl
  have cc_103 : cnt 103 = 144 := rfl
  have cc_104 : cnt 104 = 2400 := rfl
  have cc_105 : cnt 105 = 7200 := rfl
  have x_T : FW R [1952] T T := FW.rf
  have j_a1 := i_any a1
  have j_a2 := i_any a2
  have j_a3 := i_any a3
  unfold g_X11_marksAlias
  refine tot_oif (iv_oO h_T k_o (by decide) (by decide) rfl) ?_
  refine tot_ref h_T k_o (by decide) (by decide) (r2 := 8) (rfl : rtg 11 6 = 8) (by decide) (fun n_1 k_n_1 e_n_1 => ?_)
  refine tot_oif (iv_oO h_T k_n_1 (by decide) (by decide) rfl) ?_
  refine tot_bindq (R := fun r_2 : Int32 => True) (cs_X8_activeMics T n_1 h_T k_n_1 ) (fun r_2 d_r_2 => ?_)
  have r_r_2 := i_any r_2
  refine tot_oif (iv_oO h_T k_a0 (by decide) (by decide) rfl) ?_
  refine tot_let (fun v_4 e_v_4 => ?_)
  have r_v_4 : 0 ≤ v_4.toInt ∧ v_4.toInt ≤ 143 := iv_int h_T k_a0 (by decide) (by decide) e_v_4 rfl
  refine tot_if (fun c_14 => ?_) (fun c_14 => ?_)
  · replace c_14 := i_eq c_14
    unfold g_X11_marksAlias_b62
    unfold g_X11_marksAlias_b63
    refine tot_oif (i_b01 (by omega)) ?_
    exact tot_some ⟨⟨h_T, x_T⟩, (show (0 ≤ (0 : Int32).toInt ∧ (0 : Int32).toInt ≤ 1) from by omega)⟩
  · replace c_14 := i_ne c_14
    refine tot_if (fun c_15 => ?_) (fun c_15 => ?_)
    · replace c_15 := i_le c_15
      unfold g_X11_marksAlias_b62
      unfold g_X11_marksAlias_b63
      refine tot_oif (i_b01 (by omega)) ?_
      exact tot_some ⟨⟨h_T, x_T⟩, (show (0 ≤ (0 : Int32).toInt ∧ (0 : Int32).toInt ≤ 1) from by omega)⟩
    · replace c_15 := i_nle c_15
      refine tot_oif (iv_oO h_T k_o (by decide) (by decide) rfl) ?_
      refine tot_ref h_T k_o (by decide) (by decide) (r2 := 6) (rfl : rtg 11 14 = 6) (by decide) (fun n_5 k_n_5 e_n_5 => ?_)
      refine tot_oif (iv_oO h_T k_n_5 (by decide) (by decide) rfl) ?_
      refine tot_ref h_T k_n_5 (by decide) (by decide) (r2 := 1) (rfl : rtg 6 6 = 1) (by decide) (fun n_6 k_n_6 e_n_6 => ?_)
      refine tot_oif (iv_oO h_T k_a0 (by decide) (by decide) rfl) ?_
      refine tot_bind2 (cs_X4_standsOut T a0 a1 n_6 h_T k_a0 k_n_6 (by omega)) (fun r_7 T_8 d_r_7 => ?_)
      have h_T_8 : IV R B K1 K2 T_8 := d_r_7.1.1
      have y_T_8 : FW R [1952] T T_8 := d_r_7.1.2
      have x_T_8 := x_T.tr (y_T_8.w (by decide))
      replace d_r_7 : (0 ≤ r_7.toInt ∧ r_7.toInt ≤ 1) := d_r_7.2
      refine tot_if (fun c_16 => ?_) (fun c_16 => ?_)
      · replace c_16 := i_eq c_16
        unfold g_X11_marksAlias_b62
        unfold g_X11_marksAlias_b63
        refine tot_oif (i_b01 (by omega)) ?_
        exact tot_some ⟨⟨h_T_8, x_T_8⟩, (show (0 ≤ (0 : Int32).toInt ∧ (0 : Int32).toInt ≤ 1) from by omega)⟩
      · replace c_16 := i_ne c_16
        refine tot_oif (iv_oO h_T_8 k_a0 (by decide) (by decide) rfl) ?_
        refine tot_let (fun v_9 e_v_9 => ?_)
        have r_v_9 : 0 ≤ v_9.toInt ∧ v_9.toInt ≤ 143 := iv_int h_T_8 k_a0 (by decide) (by decide) e_v_9 rfl
        refine tot_oif (iv_oO h_T_8 k_o (by decide) (by decide) rfl) ?_
        refine tot_bindq (R := fun r_10 : Int32 => (0 ≤ r_10.toInt ∧ r_10.toInt ≤ 2147483647)) (cs_X11_confusion T_8 o a1 v_9 a2 h_T_8 k_o (by omega) (by omega) (by omega)) (fun r_10 d_r_10 => ?_)
        replace d_r_10 : (0 ≤ r_10.toInt ∧ r_10.toInt ≤ 2147483647) := d_r_10
        refine tot_let (fun v_12 e_v_12 => ?_)
        have r_v_12 := i_any v_12
        refine tot_let (fun v_13 e_v_13 => ?_)
        have r_v_13 := i_any v_13
        refine tot_if (fun c_17 => ?_) (fun c_17 => ?_)
        · replace c_17 := i_lt c_17
          unfold g_X11_marksAlias_b62
          unfold g_X11_marksAlias_b63
          refine tot_oif (i_b01 (by omega)) ?_
          exact tot_some ⟨⟨h_T_8, x_T_8⟩, (show (0 ≤ (0 : Int32).toInt ∧ (0 : Int32).toInt ≤ 1) from by omega)⟩
        · replace c_17 := i_nlt c_17
          unfold g_X11_marksAlias_b63
          refine tot_oif (i_b01 (by omega)) ?_
          exact tot_some ⟨⟨h_T_8, x_T_8⟩, (show (0 ≤ (1 : Int32).toInt ∧ (1 : Int32).toInt ≤ 1) from by omega)⟩
set_option maxHeartbeats 4000000 in
set_option maxRecDepth 10000 in
theorem cs_X11_isAlias {R : Nat → Nat} {B K1 K2 : Nat} (T : AT) (o : Nat) (a0 : Int32) (a1 : Int32) (a2 : Int32) (h_T : IV R B K1 K2 T) (k_o : R o = 11) : Tot (g_X11_isAlias T o a0 a1 a2) (fun r => (IV R B K1 K2 r.2.2 ∧ FW R [128, 130, 131, 1952, 2144, 3202] T r.2.2) ∧ (r.1 = 0 → (0 ≤ r.2.1.toInt ∧ r.2.1.toInt ≤ 1))) := by
  have z0 : ((2 : Int32) : Int32).toInt = 2 := by decide
  have z1 : ((99 : Int32) : Int32).toInt = 99 := by decide
  have z2 : ((1 : Int32) : Int32).toInt = 1 := by decide
  have z3 : ((100 : Int32) : Int32).toInt = 100 := by decide
  have cc_101 : cnt 101 = 1 := rfl
  have cc_102 : cnt 102 = 12 := rfl
  have cc_103 : cnt 103 = 144 := rfl
  have cc_104 : cnt 104 = 2400 := rfl
  have cc_105 : cnt 105 = 7200 := rfl
  have x_T : FW R [128, 130, 131, 1952, 2144, 3202] T T := FW.rf
  have j_a0 := i_any a0
  have j_a1 := i_any a1
  have j_a2 := i_any a2
  unfold g_X11_isAlias
  refine tot_oif (iv_oO h_T k_o (by decide) (by decide) rfl) ?_
  refine tot_thrp (Q := fun r_1 : Int32 => (0 ≤ r_1.toInt ∧ r_1.toInt ≤ 0)) (cs_X11_needCamera T o h_T k_o ) (fun r_1 d_r_1 => ?_) (fun k_ => ⟨⟨h_T, x_T⟩, fun q_ => absurd q_ (Nat.succ_ne_zero k_)⟩)
  replace d_r_1 : (0 ≤ r_1.toInt ∧ r_1.toInt ≤ 0) := d_r_1
  refine tot_oif (iv_oO h_T k_o (by decide) (by decide) rfl) ?_
  refine tot_thrp (Q := fun r_3 : Int32 => (0 ≤ a0.toInt ∧ a0.toInt ≤ 143)) (cs_X11_needCell T o a0 h_T k_o ) (fun r_3 d_r_3 => ?_) (fun k_ => ⟨⟨h_T, x_T⟩, fun q_ => absurd q_ (Nat.succ_ne_zero k_)⟩)
  replace d_r_3 : (0 ≤ a0.toInt ∧ a0.toInt ≤ 143) := d_r_3
  refine tot_thrp (Q := fun r_5 : Int32 => (((2 : Int32) : Int32).toInt ≤ a1.toInt ∧ a1.toInt ≤ ((99 : Int32) : Int32).toInt)) (cs_X11_needRange T a1 (2 : Int32) (99 : Int32) h_T ) (fun r_5 d_r_5 => ?_) (fun k_ => ⟨⟨h_T, x_T⟩, fun q_ => absurd q_ (Nat.succ_ne_zero k_)⟩)
  replace d_r_5 : (((2 : Int32) : Int32).toInt ≤ a1.toInt ∧ a1.toInt ≤ ((99 : Int32) : Int32).toInt) := d_r_5
  refine tot_thrp (Q := fun r_7 : Int32 => (((1 : Int32) : Int32).toInt ≤ a2.toInt ∧ a2.toInt ≤ ((100 : Int32) : Int32).toInt)) (cs_X11_needRange T a2 (1 : Int32) (100 : Int32) h_T ) (fun r_7 d_r_7 => ?_) (fun k_ => ⟨⟨h_T, x_T⟩, fun q_ => absurd q_ (Nat.succ_ne_zero k_)⟩)
  replace d_r_7 : (((1 : Int32) : Int32).toInt ≤ a2.toInt ∧ a2.toInt ≤ ((100 : Int32) : Int32).toInt) := d_r_7
  refine tot_oif (iv_oO h_T k_o (by decide) (by decide) rfl) ?_
  refine tot_bind2 (cs_X11_powersNow T o h_T k_o ) (fun r_9 T_10 d_r_9 => ?_)
  have h_T_10 : IV R B K1 K2 T_10 := d_r_9.1.1
  have y_T_10 : FW R [128, 130, 131, 1952, 2144, 3202] T T_10 := d_r_9.1.2
  have x_T_10 := x_T.tr (y_T_10.w (by decide))
  have k_r_9 : R r_9 = 4 := d_r_9.2
  refine tot_oif (Nat.ble_eq_true_of_le (iv_lt h_T_10 (iv_sta h_T_10 k_r_9 (by decide) (by decide)))) ?_
  unfold g_X11_isAlias_b28
  refine tot_oif (iv_oO h_T_10 k_o (by decide) (by decide) rfl) ?_
  refine tot_bind2 (cs_X11_marksAlias T_10 o r_9 a0 a1 a2 h_T_10 k_o k_r_9 (by omega) (by omega) (by omega)) (fun r_11 T_12 d_r_11 => ?_)
  have h_T_12 : IV R B K1 K2 T_12 := d_r_11.1.1
  have y_T_12 : FW R [1952] T_10 T_12 := d_r_11.1.2
  have x_T_12 := x_T_10.tr (y_T_12.w (by decide))
  replace d_r_11 : (0 ≤ r_11.toInt ∧ r_11.toInt ≤ 1) := d_r_11.2
  refine tot_oif (i_b01 (by omega)) ?_
  exact tot_some ⟨⟨h_T_12, x_T_12⟩, fun _ => (show (0 ≤ r_11.toInt ∧ r_11.toInt ≤ 1) from by omega)⟩
set_option maxHeartbeats 4000000 in
set_option maxRecDepth 10000 in
theorem cl_X11_aliases_b29 {R : Nat → Nat} {B K1 K2 : Nat} {Q : Nat × Int32 × AT → Prop} (l0 : Nat) (l1 : Int32) (l2 : Int32) (l3 : Nat) (T00 : AT) (k_l0 : R l0 = 11) (k_l3 : R l3 = 4) (hthr : ∀ (k : Nat) (U : AT), IV R B K1 K2 U → FW R [128, 130, 131, 1952, 2144, 3202] T00 U → Q (k + 1, 0, U)) (g0 : 2 ≤ l1.toInt ∧ l1.toInt ≤ 99) (g1 : 1 ≤ l2.toInt ∧ l2.toInt ≤ 100) (hx0 : ∀ (T : AT) (l4 : Int32), (IV R B K1 K2 T) → (FW R [128, 130, 131, 1952, 2144, 3202] T00 T) → Tot (some (0, l4, T)) Q) : ∀ (n : Nat) (T : AT) (l4 : Int32) (l5 : Int32), (IV R B K1 K2 T) → (FW R [128, 130, 131, 1952, 2144, 3202] T00 T) → (0 ≤ l5.toInt ∧ l5.toInt ≤ 144) → 144 - l5.toInt < (n : Int) → Tot (g_X11_aliases_b29 n T l0 l1 l2 l3 l4 l5) Q := by
  have z0 : (0 : Int32).toInt = 0 := by decide
  have z1 : (Int32.ofInt (1) : Int32).toInt = 1 := by decide
  have cc_101 : cnt 101 = 1 := rfl
  have cc_102 : cnt 102 = 12 := rfl
  have cc_103 : cnt 103 = 144 := rfl
  have cc_104 : cnt 104 = 2400 := rfl
  have cc_105 : cnt 105 = 7200 := rfl
  have j_l1 := i_any l1
  have j_l2 := i_any l2
  intro n
  induction n with
  | zero =>
    intro T l4 l5 h_T x_T g_l5 hm
    exfalso
    omega
  | succ n ih =>
    intro T l4 l5 h_T x_T g_l5 hm
    unfold g_X11_aliases_b29
    refine tot_oif (iv_oO h_T k_l0 (by decide) (by decide) rfl) ?_
    refine tot_ref h_T k_l0 (by decide) (by decide) (r2 := 6) (rfl : rtg 11 14 = 6) (by decide) (fun n_27 k_n_27 e_n_27 => ?_)
    refine tot_oif (iv_oO h_T k_n_27 (by decide) (by decide) rfl) ?_
    refine tot_ref h_T k_n_27 (by decide) (by decide) (r2 := 1) (rfl : rtg 6 6 = 1) (by decide) (fun n_28 k_n_28 e_n_28 => ?_)
    refine tot_oif (iv_oO h_T k_n_28 (by decide) (by decide) rfl) ?_
    refine tot_bindq (R := fun r_29 : Int32 => (0 ≤ r_29.toInt ∧ r_29.toInt ≤ 144)) (cs_X1_cells T n_28 h_T k_n_28 ) (fun r_29 d_r_29 => ?_)
    replace d_r_29 : (0 ≤ r_29.toInt ∧ r_29.toInt ≤ 144) := d_r_29
    refine tot_if (fun c_34 => ?_) (fun c_34 => ?_)
    · replace c_34 := i_le c_34
      exact hx0 T l4 h_T x_T
    · replace c_34 := i_nle c_34
      refine tot_oif (iv_oO h_T k_l0 (by decide) (by decide) rfl) ?_
      refine tot_bind2 (cs_X11_marksAlias T l0 l3 l5 l1 l2 h_T k_l0 k_l3 (by omega) (by omega) (by omega)) (fun r_31 T_32 d_r_31 => ?_)
      have h_T_32 : IV R B K1 K2 T_32 := d_r_31.1.1
      have y_T_32 : FW R [1952] T T_32 := d_r_31.1.2
      have x_T_32 := x_T.tr (y_T_32.w (by decide))
      replace d_r_31 : (0 ≤ r_31.toInt ∧ r_31.toInt ≤ 1) := d_r_31.2
      refine tot_if (fun c_35 => ?_) (fun c_35 => ?_)
      · replace c_35 := i_eq c_35
        unfold g_X11_aliases_b59
        refine tot_let (fun v_36 e_v_36 => ?_)
        have q_v_36 := i_add e_v_36 (by omega) (by omega)
        exact ih T_32 l4 v_36 h_T_32 x_T_32 (by omega) (by omega)
      · replace c_35 := i_ne c_35
        refine tot_let (fun v_33 e_v_33 => ?_)
        have r_v_33 := i_any v_33
        unfold g_X11_aliases_b59
        refine tot_let (fun v_37 e_v_37 => ?_)
        have q_v_37 := i_add e_v_37 (by omega) (by omega)
        exact ih T_32 v_33 v_37 h_T_32 x_T_32 (by omega) (by omega)
set_option maxHeartbeats 4000000 in
set_option maxRecDepth 10000 in
theorem cs_X11_aliases {R : Nat → Nat} {B K1 K2 : Nat} (T : AT) (o : Nat) (a0 : Int32) (a1 : Int32) (h_T : IV R B K1 K2 T) (k_o : R o = 11) : Tot (g_X11_aliases T o a0 a1) (fun r => (IV R B K1 K2 r.2.2 ∧ FW R [128, 130, 131, 1952, 2144, 3202] T r.2.2) ∧ (r.1 = 0 → True)) := by
  have z0 : ((2 : Int32) : Int32).toInt = 2 := by decide
  have z1 : ((99 : Int32) : Int32).toInt = 99 := by decide
  have z2 : ((1 : Int32) : Int32).toInt = 1 := by decide
  have z3 : ((100 : Int32) : Int32).toInt = 100 := by decide
  have z4 : (0 : Int32).toInt = 0 := by decide
  have cc_101 : cnt 101 = 1 := rfl
  have cc_102 : cnt 102 = 12 := rfl
  have cc_103 : cnt 103 = 144 := rfl
  have cc_104 : cnt 104 = 2400 := rfl
  have cc_105 : cnt 105 = 7200 := rfl
  have x_T : FW R [128, 130, 131, 1952, 2144, 3202] T T := FW.rf
  have j_a0 := i_any a0
  have j_a1 := i_any a1
  unfold g_X11_aliases
  refine tot_oif (iv_oO h_T k_o (by decide) (by decide) rfl) ?_
  refine tot_thrp (Q := fun r_1 : Int32 => (0 ≤ r_1.toInt ∧ r_1.toInt ≤ 0)) (cs_X11_needCamera T o h_T k_o ) (fun r_1 d_r_1 => ?_) (fun k_ => ⟨⟨h_T, x_T⟩, fun q_ => absurd q_ (Nat.succ_ne_zero k_)⟩)
  replace d_r_1 : (0 ≤ r_1.toInt ∧ r_1.toInt ≤ 0) := d_r_1
  refine tot_thrp (Q := fun r_3 : Int32 => (((2 : Int32) : Int32).toInt ≤ a0.toInt ∧ a0.toInt ≤ ((99 : Int32) : Int32).toInt)) (cs_X11_needRange T a0 (2 : Int32) (99 : Int32) h_T ) (fun r_3 d_r_3 => ?_) (fun k_ => ⟨⟨h_T, x_T⟩, fun q_ => absurd q_ (Nat.succ_ne_zero k_)⟩)
  replace d_r_3 : (((2 : Int32) : Int32).toInt ≤ a0.toInt ∧ a0.toInt ≤ ((99 : Int32) : Int32).toInt) := d_r_3
  refine tot_thrp (Q := fun r_5 : Int32 => (((1 : Int32) : Int32).toInt ≤ a1.toInt ∧ a1.toInt ≤ ((100 : Int32) : Int32).toInt)) (cs_X11_needRange T a1 (1 : Int32) (100 : Int32) h_T ) (fun r_5 d_r_5 => ?_) (fun k_ => ⟨⟨h_T, x_T⟩, fun q_ => absurd q_ (Nat.succ_ne_zero k_)⟩)
  replace d_r_5 : (((1 : Int32) : Int32).toInt ≤ a1.toInt ∧ a1.toInt ≤ ((100 : Int32) : Int32).toInt) := d_r_5
  refine tot_oif (iv_oO h_T k_o (by decide) (by decide) rfl) ?_
  refine tot_bind2 (cs_X11_powersNow T o h_T k_o ) (fun r_7 T_8 d_r_7 => ?_)
  have h_T_8 : IV R B K1 K2 T_8 := d_r_7.1.1
  have y_T_8 : FW R [128, 130, 131, 1952, 2144, 3202] T T_8 := d_r_7.1.2
  have x_T_8 := x_T.tr (y_T_8.w (by decide))
  have k_r_7 : R r_7 = 4 := d_r_7.2
  refine tot_oif (Nat.ble_eq_true_of_le (iv_lt h_T_8 (iv_sta h_T_8 k_r_7 (by decide) (by decide)))) ?_
  unfold g_X11_aliases_b22
  refine cl_X11_aliases_b29 o a0 a1 r_7 T k_o k_r_7 (fun k_ U_ i_ x_ => ⟨⟨i_, x_⟩, fun q_ => absurd q_ (Nat.succ_ne_zero k_)⟩) (by omega) (by omega) ?_ 16384 T_8 0 0 h_T_8 x_T_8 (by omega) (by omega)
  · intro T_38 l_39 h_T_38 x_T_38
    have j_l_39 := i_any l_39
    exact tot_some ⟨⟨h_T_38, x_T_38⟩, fun _ => trivial⟩
set_option maxHeartbeats 4000000 in
set_option maxRecDepth 10000 in
theorem cs_X11_blockPower {R : Nat → Nat} {B K1 K2 : Nat} (T : AT) (o : Nat) (a0 : Int32) (a1 : Int32) (a2 : Int32) (h_T : IV R B K1 K2 T) (k_o : R o = 11) : Tot (g_X11_blockPower T o a0 a1 a2) (fun r => (IV R B K1 K2 r.2.2 ∧ FW R [3202] T r.2.2) ∧ (r.1 = 0 → True)) := by
  have z0 : (1 : Int32).toInt = 1 := by decide
  have z1 : ((0 : Int32) : Int32).toInt = 0 := by decide
  have z2 : ((1 : Int32) : Int32).toInt = 1 := by decide
  have cc_101 : cnt 101 = 1 := rfl
  have cc_102 : cnt 102 = 12 := rfl
  have cc_103 : cnt 103 = 144 := rfl
  have cc_104 : cnt 104 = 2400 := rfl
  have cc_105 : cnt 105 = 7200 := rfl
  have x_T : FW R [3202] T T := FW.rf
  have j_a0 := i_any a0
  have j_a1 := i_any a1
  have j_a2 := i_any a2
  unfold g_X11_blockPower
  refine tot_oif (iv_oO h_T k_o (by decide) (by decide) rfl) ?_
  refine tot_thrp (Q := fun r_1 : Int32 => (0 ≤ r_1.toInt ∧ r_1.toInt ≤ 0)) (cs_X11_needCamera T o h_T k_o ) (fun r_1 d_r_1 => ?_) (fun k_ => ⟨⟨h_T, x_T⟩, fun q_ => absurd q_ (Nat.succ_ne_zero k_)⟩)
  replace d_r_1 : (0 ≤ r_1.toInt ∧ r_1.toInt ≤ 0) := d_r_1
  refine tot_oif (iv_oO h_T k_o (by decide) (by decide) rfl) ?_
  refine tot_thrp (Q := fun r_3 : Int32 => (0 ≤ a0.toInt ∧ a0.toInt ≤ 143)) (cs_X11_needCell T o a0 h_T k_o ) (fun r_3 d_r_3 => ?_) (fun k_ => ⟨⟨h_T, x_T⟩, fun q_ => absurd q_ (Nat.succ_ne_zero k_)⟩)
  replace d_r_3 : (0 ≤ a0.toInt ∧ a0.toInt ≤ 143) := d_r_3
  refine tot_oif (iv_oO h_T k_o (by decide) (by decide) rfl) ?_
  refine tot_ref h_T k_o (by decide) (by decide) (r2 := 6) (rfl : rtg 11 14 = 6) (by decide) (fun n_5 k_n_5 e_n_5 => ?_)
  refine tot_oif (iv_oO h_T k_n_5 (by decide) (by decide) rfl) ?_
  refine tot_let (fun v_6 e_v_6 => ?_)
  have r_v_6 : 0 ≤ v_6.toInt ∧ v_6.toInt ≤ 200 := iv_int h_T k_n_5 (by decide) (by decide) e_v_6 rfl
  refine tot_let (fun v_7 e_v_7 => ?_)
  have q_v_7 := i_sub e_v_7 (by omega) (by omega)
  refine tot_thrp (Q := fun r_8 : Int32 => (((0 : Int32) : Int32).toInt ≤ a1.toInt ∧ a1.toInt ≤ v_7.toInt)) (cs_X11_needRange T a1 (0 : Int32) v_7 h_T ) (fun r_8 d_r_8 => ?_) (fun k_ => ⟨⟨h_T, x_T⟩, fun q_ => absurd q_ (Nat.succ_ne_zero k_)⟩)
  replace d_r_8 : (((0 : Int32) : Int32).toInt ≤ a1.toInt ∧ a1.toInt ≤ v_7.toInt) := d_r_8
  refine tot_oif (iv_oO h_T k_o (by decide) (by decide) rfl) ?_
  refine tot_ref1 e_n_5 ?_
  refine tot_oif (iv_oO h_T k_n_5 (by decide) (by decide) rfl) ?_
  refine tot_let (fun v_11 e_v_11 => ?_)
  have u_v_11 : v_11.toInt = v_6.toInt := by rw [e_v_11, e_v_6]
  have r_v_11 : 0 ≤ v_11.toInt ∧ v_11.toInt ≤ 200 := iv_int h_T k_n_5 (by decide) (by decide) e_v_11 rfl
  refine tot_thrp (Q := fun r_12 : Int32 => (((1 : Int32) : Int32).toInt ≤ a2.toInt ∧ a2.toInt ≤ v_11.toInt)) (cs_X11_needRange T a2 (1 : Int32) v_11 h_T ) (fun r_12 d_r_12 => ?_) (fun k_ => ⟨⟨h_T, x_T⟩, fun q_ => absurd q_ (Nat.succ_ne_zero k_)⟩)
  replace d_r_12 : (((1 : Int32) : Int32).toInt ≤ a2.toInt ∧ a2.toInt ≤ v_11.toInt) := d_r_12
  refine tot_oif (iv_oO h_T k_o (by decide) (by decide) rfl) ?_
  refine tot_ref h_T k_o (by decide) (by decide) (r2 := 8) (rfl : rtg 11 6 = 8) (by decide) (fun n_14 k_n_14 e_n_14 => ?_)
  refine tot_oif (iv_oO h_T k_o (by decide) (by decide) rfl) ?_
  refine tot_ref1 e_n_5 ?_
  refine tot_oif (iv_oO h_T k_n_5 (by decide) (by decide) rfl) ?_
  refine tot_ref h_T k_n_5 (by decide) (by decide) (r2 := 51) (rfl : rtg 6 17 = 51) (by decide) (fun n_16 k_n_16 e_n_16 => ?_)
  refine tot_oif (iv_aA h_T k_n_16 (by decide) (by decide) rfl rfl) ?_
  refine tot_oif (by rw [iv_len h_T k_n_16 (by decide) (by decide) (rfl : shp 51 = (106, 144))]; exact i_inb (by omega) (by omega)) ?_
  refine tot_ref h_T k_n_16 (by decide) (by decide) (r2 := 50) (rt_51 (by omega) (by omega)) (by decide) (fun n_17 k_n_17 e_n_17 => ?_)
  refine tot_oif (iv_oO h_T k_o (by decide) (by decide) rfl) ?_
  refine tot_ref h_T k_o (by decide) (by decide) (r2 := 102) (rfl : rtg 11 12 = 102) (by decide) (fun n_18 k_n_18 e_n_18 => ?_)
  refine tot_oif (iv_oO h_T k_n_14 (by decide) (by decide) rfl) ?_
  refine tot_bind (cs_X8_blockPowerOf T n_14 n_17 a1 a2 n_18 (0 : Int32) h_T k_n_14 k_n_17 k_n_18 (rfl : isW 102 = true) (by omega) (by omega) (by omega) (by omega)) (fun T_19 d_T_19 => ?_)
  have h_T_19 : IV R B K1 K2 T_19 := d_T_19.1
  have y_T_19 : FW R [3202] T T_19 := d_T_19.2
  have x_T_19 := x_T.tr (y_T_19.w (by decide))
  unfold g_X11_blockPower_b58
  refine tot_oif (iv_oO h_T_19 k_o (by decide) (by decide) rfl) ?_
  refine tot_ref h_T_19 k_o (by decide) (by decide) (r2 := 102) (rfl : rtg 11 12 = 102) (by decide) (fun n_20 k_n_20 e_n_20 => ?_)
  refine tot_oif (w_oO h_T_19 k_n_20 (rfl : isW 102 = true)) ?_
  refine tot_bindq (R := fun r_21 : Int64 => True) (c_value (a0 := (0 : Int32)) k_n_20 (rfl : isW 102 = true) h_T_19 (by omega)) (fun r_21 d_r_21 => ?_)
  exact tot_some ⟨⟨h_T_19, x_T_19⟩, fun _ => trivial⟩
set_option maxHeartbeats 4000000 in
set_option maxRecDepth 10000 in
theorem cs_X11_blockBest {R : Nat → Nat} {B K1 K2 : Nat} (T : AT) (o : Nat) (a0 : Int32) (a1 : Int32) (h_T : IV R B K1 K2 T) (k_o : R o = 11) : Tot (g_X11_blockBest T o a0 a1) (fun r => (IV R B K1 K2 r.2.2 ∧ FW R [3202] T r.2.2) ∧ (r.1 = 0 → (0 ≤ r.2.1.toInt ∧ r.2.1.toInt ≤ 143))) := by
  have z0 : (1 : Int32).toInt = 1 := by decide
  have z1 : ((0 : Int32) : Int32).toInt = 0 := by decide
  have z2 : ((1 : Int32) : Int32).toInt = 1 := by decide
  have cc_101 : cnt 101 = 1 := rfl
  have cc_102 : cnt 102 = 12 := rfl
  have cc_103 : cnt 103 = 144 := rfl
  have cc_104 : cnt 104 = 2400 := rfl
  have cc_105 : cnt 105 = 7200 := rfl
  have x_T : FW R [3202] T T := FW.rf
  have j_a0 := i_any a0
  have j_a1 := i_any a1
  unfold g_X11_blockBest
  refine tot_oif (iv_oO h_T k_o (by decide) (by decide) rfl) ?_
  refine tot_thrp (Q := fun r_1 : Int32 => (0 ≤ r_1.toInt ∧ r_1.toInt ≤ 0)) (cs_X11_needCamera T o h_T k_o ) (fun r_1 d_r_1 => ?_) (fun k_ => ⟨⟨h_T, x_T⟩, fun q_ => absurd q_ (Nat.succ_ne_zero k_)⟩)
  replace d_r_1 : (0 ≤ r_1.toInt ∧ r_1.toInt ≤ 0) := d_r_1
  refine tot_oif (iv_oO h_T k_o (by decide) (by decide) rfl) ?_
  refine tot_ref h_T k_o (by decide) (by decide) (r2 := 6) (rfl : rtg 11 14 = 6) (by decide) (fun n_3 k_n_3 e_n_3 => ?_)
  refine tot_oif (iv_oO h_T k_n_3 (by decide) (by decide) rfl) ?_
  refine tot_let (fun v_4 e_v_4 => ?_)
  have r_v_4 : 0 ≤ v_4.toInt ∧ v_4.toInt ≤ 200 := iv_int h_T k_n_3 (by decide) (by decide) e_v_4 rfl
  refine tot_let (fun v_5 e_v_5 => ?_)
  have q_v_5 := i_sub e_v_5 (by omega) (by omega)
  refine tot_thrp (Q := fun r_6 : Int32 => (((0 : Int32) : Int32).toInt ≤ a0.toInt ∧ a0.toInt ≤ v_5.toInt)) (cs_X11_needRange T a0 (0 : Int32) v_5 h_T ) (fun r_6 d_r_6 => ?_) (fun k_ => ⟨⟨h_T, x_T⟩, fun q_ => absurd q_ (Nat.succ_ne_zero k_)⟩)
  replace d_r_6 : (((0 : Int32) : Int32).toInt ≤ a0.toInt ∧ a0.toInt ≤ v_5.toInt) := d_r_6
  refine tot_oif (iv_oO h_T k_o (by decide) (by decide) rfl) ?_
  refine tot_ref1 e_n_3 ?_
  refine tot_oif (iv_oO h_T k_n_3 (by decide) (by decide) rfl) ?_
  refine tot_let (fun v_9 e_v_9 => ?_)
  have u_v_9 : v_9.toInt = v_4.toInt := by rw [e_v_9, e_v_4]
  have r_v_9 : 0 ≤ v_9.toInt ∧ v_9.toInt ≤ 200 := iv_int h_T k_n_3 (by decide) (by decide) e_v_9 rfl
  refine tot_thrp (Q := fun r_10 : Int32 => (((1 : Int32) : Int32).toInt ≤ a1.toInt ∧ a1.toInt ≤ v_9.toInt)) (cs_X11_needRange T a1 (1 : Int32) v_9 h_T ) (fun r_10 d_r_10 => ?_) (fun k_ => ⟨⟨h_T, x_T⟩, fun q_ => absurd q_ (Nat.succ_ne_zero k_)⟩)
  replace d_r_10 : (((1 : Int32) : Int32).toInt ≤ a1.toInt ∧ a1.toInt ≤ v_9.toInt) := d_r_10
  refine tot_oif (iv_oO h_T k_o (by decide) (by decide) rfl) ?_
  refine tot_ref h_T k_o (by decide) (by decide) (r2 := 20) (rfl : rtg 11 3 = 20) (by decide) (fun n_12 k_n_12 e_n_12 => ?_)
  refine tot_oif (iv_oO h_T k_o (by decide) (by decide) rfl) ?_
  refine tot_ref1 e_n_3 ?_
  refine tot_oif (iv_oO h_T k_o (by decide) (by decide) rfl) ?_
  refine tot_ref h_T k_o (by decide) (by decide) (r2 := 8) (rfl : rtg 11 6 = 8) (by decide) (fun n_14 k_n_14 e_n_14 => ?_)
  refine tot_oif (iv_oO h_T k_n_12 (by decide) (by decide) rfl) ?_
  refine tot_bind2 (cs_X0_bestOf T n_12 n_3 n_14 a0 a1 h_T k_n_12 k_n_3 k_n_14 (by omega) (by omega)) (fun r_15 T_16 d_r_15 => ?_)
  have h_T_16 : IV R B K1 K2 T_16 := d_r_15.1.1
  have y_T_16 : FW R [3202] T T_16 := d_r_15.1.2
  have x_T_16 := x_T.tr (y_T_16.w (by decide))
  replace d_r_15 : (0 ≤ r_15.toInt ∧ r_15.toInt ≤ 143) := d_r_15.2
  unfold g_X11_blockBest_b47
  exact tot_some ⟨⟨h_T_16, x_T_16⟩, fun _ => (show (0 ≤ r_15.toInt ∧ r_15.toInt ≤ 143) from by omega)⟩
set_option maxHeartbeats 4000000 in
set_option maxRecDepth 10000 in
theorem cl_X11_path_b39 {R : Nat → Nat} {B K1 K2 : Nat} {Q : Nat × Int32 × AT → Prop} (l0 : Nat) (l1 : Int32) (T00 : AT) (k_l0 : R l0 = 11) (hthr : ∀ (k : Nat) (U : AT), IV R B K1 K2 U → FW R [3202] T00 U → Q (k + 1, 0, U)) (g0 : 4 ≤ l1.toInt ∧ l1.toInt ≤ 200) (hx0 : ∀ (T : AT) (l2 : Int32), (IV R B K1 K2 T) → (FW R [3202] T00 T) → Tot (some (0, l2, T)) Q) : ∀ (n : Nat) (T : AT) (l2 : Int32) (l3 : Int32) (l4 : Int32), (IV R B K1 K2 T) → (FW R [3202] T00 T) → (0 ≤ l3.toInt ∧ l3.toInt ≤ 143) → (4 ≤ l4.toInt ∧ l4.toInt ≤ 392) → 400 - l4.toInt < (n : Int) → Tot (g_X11_path_b39 n T l0 l1 l2 l3 l4) Q := by
  have z0 : (0 : Int32).toInt = 0 := by decide
  have z1 : (1 : Int32).toInt = 1 := by decide
  have cc_101 : cnt 101 = 1 := rfl
  have cc_102 : cnt 102 = 12 := rfl
  have cc_103 : cnt 103 = 144 := rfl
  have cc_104 : cnt 104 = 2400 := rfl
  have cc_105 : cnt 105 = 7200 := rfl
  have j_l1 := i_any l1
  intro n
  induction n with
  | zero =>
    intro T l2 l3 l4 h_T x_T g_l3 g_l4 hm
    exfalso
    omega
  | succ n ih =>
    intro T l2 l3 l4 h_T x_T g_l3 g_l4 hm
    unfold g_X11_path_b39
    refine tot_let (fun v_26 e_v_26 => ?_)
    have q_v_26 := i_add e_v_26 (by omega) (by omega)
    refine tot_oif (iv_oO h_T k_l0 (by decide) (by decide) rfl) ?_
    refine tot_ref h_T k_l0 (by decide) (by decide) (r2 := 6) (rfl : rtg 11 14 = 6) (by decide) (fun n_27 k_n_27 e_n_27 => ?_)
    refine tot_oif (iv_oO h_T k_n_27 (by decide) (by decide) rfl) ?_
    refine tot_let (fun v_28 e_v_28 => ?_)
    have r_v_28 : 0 ≤ v_28.toInt ∧ v_28.toInt ≤ 200 := iv_int h_T k_n_27 (by decide) (by decide) e_v_28 rfl
    refine tot_if (fun c_34 => ?_) (fun c_34 => ?_)
    · replace c_34 := i_lt c_34
      exact hx0 T l2 h_T x_T
    · replace c_34 := i_nlt c_34
      refine tot_oif (iv_oO h_T k_l0 (by decide) (by decide) rfl) ?_
      refine tot_ref h_T k_l0 (by decide) (by decide) (r2 := 20) (rfl : rtg 11 3 = 20) (by decide) (fun n_29 k_n_29 e_n_29 => ?_)
      refine tot_oif (iv_oO h_T k_l0 (by decide) (by decide) rfl) ?_
      refine tot_ref1 e_n_27 ?_
      refine tot_oif (iv_oO h_T k_l0 (by decide) (by decide) rfl) ?_
      refine tot_ref h_T k_l0 (by decide) (by decide) (r2 := 8) (rfl : rtg 11 6 = 8) (by decide) (fun n_31 k_n_31 e_n_31 => ?_)
      refine tot_oif (iv_oO h_T k_n_29 (by decide) (by decide) rfl) ?_
      refine tot_bind2 (cs_X0_bestOf T n_29 n_27 n_31 l4 l1 h_T k_n_29 k_n_27 k_n_31 (by omega) (by omega)) (fun r_32 T_33 d_r_32 => ?_)
      have h_T_33 : IV R B K1 K2 T_33 := d_r_32.1.1
      have y_T_33 : FW R [3202] T T_33 := d_r_32.1.2
      have x_T_33 := x_T.tr (y_T_33.w (by decide))
      replace d_r_32 : (0 ≤ r_32.toInt ∧ r_32.toInt ≤ 143) := d_r_32.2
      unfold g_X11_path_b71
      refine tot_if (fun c_35 => ?_) (fun c_35 => ?_)
      · replace c_35 := i_eq c_35
        unfold g_X11_path_b85
        refine tot_let (fun v_36 e_v_36 => ?_)
        have r_v_36 := i_any v_36
        refine tot_let (fun v_37 e_v_37 => ?_)
        have q_v_37 := i_ilt e_v_37
        refine tot_let (fun v_38 e_v_38 => ?_)
        have q_v_38 := i_add e_v_38 (by omega) (by omega)
        exact ih T_33 v_36 r_32 v_38 h_T_33 x_T_33 (by omega) (by omega) (by omega)
      · replace c_35 := i_ne c_35
        unfold g_X11_path_b85
        refine tot_let (fun v_39 e_v_39 => ?_)
        have r_v_39 := i_any v_39
        refine tot_let (fun v_40 e_v_40 => ?_)
        have q_v_40 := i_ilt e_v_40
        refine tot_let (fun v_41 e_v_41 => ?_)
        have q_v_41 := i_add e_v_41 (by omega) (by omega)
        exact ih T_33 v_39 r_32 v_41 h_T_33 x_T_33 (by omega) (by omega) (by omega)
set_option maxHeartbeats 4000000 in
set_option maxRecDepth 10000 in
theorem cs_X11_path {R : Nat → Nat} {B K1 K2 : Nat} (T : AT) (o : Nat) (a0 : Int32) (h_T : IV R B K1 K2 T) (k_o : R o = 11) : Tot (g_X11_path T o a0) (fun r => (IV R B K1 K2 r.2.2 ∧ FW R [3202] T r.2.2) ∧ (r.1 = 0 → True)) := by
  have z0 : ((4 : Int32) : Int32).toInt = 4 := by decide
  have z1 : ((0 : Int32) : Int32).toInt = 0 := by decide
  have z2 : (0 : Int32).toInt = 0 := by decide
  have cc_101 : cnt 101 = 1 := rfl
  have cc_102 : cnt 102 = 12 := rfl
  have cc_103 : cnt 103 = 144 := rfl
  have cc_104 : cnt 104 = 2400 := rfl
  have cc_105 : cnt 105 = 7200 := rfl
  have x_T : FW R [3202] T T := FW.rf
  have j_a0 := i_any a0
  unfold g_X11_path
  refine tot_oif (iv_oO h_T k_o (by decide) (by decide) rfl) ?_
  refine tot_thrp (Q := fun r_1 : Int32 => (0 ≤ r_1.toInt ∧ r_1.toInt ≤ 0)) (cs_X11_needCamera T o h_T k_o ) (fun r_1 d_r_1 => ?_) (fun k_ => ⟨⟨h_T, x_T⟩, fun q_ => absurd q_ (Nat.succ_ne_zero k_)⟩)
  replace d_r_1 : (0 ≤ r_1.toInt ∧ r_1.toInt ≤ 0) := d_r_1
  refine tot_oif (iv_oO h_T k_o (by decide) (by decide) rfl) ?_
  refine tot_ref h_T k_o (by decide) (by decide) (r2 := 6) (rfl : rtg 11 14 = 6) (by decide) (fun n_3 k_n_3 e_n_3 => ?_)
  refine tot_oif (iv_oO h_T k_n_3 (by decide) (by decide) rfl) ?_
  refine tot_let (fun v_4 e_v_4 => ?_)
  have r_v_4 : 0 ≤ v_4.toInt ∧ v_4.toInt ≤ 200 := iv_int h_T k_n_3 (by decide) (by decide) e_v_4 rfl
  refine tot_thrp (Q := fun r_5 : Int32 => (((4 : Int32) : Int32).toInt ≤ a0.toInt ∧ a0.toInt ≤ v_4.toInt)) (cs_X11_needRange T a0 (4 : Int32) v_4 h_T ) (fun r_5 d_r_5 => ?_) (fun k_ => ⟨⟨h_T, x_T⟩, fun q_ => absurd q_ (Nat.succ_ne_zero k_)⟩)
  replace d_r_5 : (((4 : Int32) : Int32).toInt ≤ a0.toInt ∧ a0.toInt ≤ v_4.toInt) := d_r_5
  refine tot_oif (iv_oO h_T k_o (by decide) (by decide) rfl) ?_
  refine tot_ref h_T k_o (by decide) (by decide) (r2 := 20) (rfl : rtg 11 3 = 20) (by decide) (fun n_7 k_n_7 e_n_7 => ?_)
  refine tot_oif (iv_oO h_T k_o (by decide) (by decide) rfl) ?_
  refine tot_ref1 e_n_3 ?_
  refine tot_oif (iv_oO h_T k_o (by decide) (by decide) rfl) ?_
  refine tot_ref h_T k_o (by decide) (by decide) (r2 := 8) (rfl : rtg 11 6 = 8) (by decide) (fun n_9 k_n_9 e_n_9 => ?_)
  refine tot_oif (iv_oO h_T k_n_7 (by decide) (by decide) rfl) ?_
  refine tot_bind2 (cs_X0_bestOf T n_7 n_3 n_9 (0 : Int32) a0 h_T k_n_7 k_n_3 k_n_9 (by omega) (by omega)) (fun r_10 T_11 d_r_10 => ?_)
  have h_T_11 : IV R B K1 K2 T_11 := d_r_10.1.1
  have y_T_11 : FW R [3202] T T_11 := d_r_10.1.2
  have x_T_11 := x_T.tr (y_T_11.w (by decide))
  replace d_r_10 : (0 ≤ r_10.toInt ∧ r_10.toInt ≤ 143) := d_r_10.2
  unfold g_X11_path_b35
  refine cl_X11_path_b39 o a0 T k_o (fun k_ U_ i_ x_ => ⟨⟨i_, x_⟩, fun q_ => absurd q_ (Nat.succ_ne_zero k_)⟩) (by omega) ?_ 16384 T_11 0 r_10 a0 h_T_11 x_T_11 (by omega) (by omega) (by omega)
  · intro T_42 l_43 h_T_42 x_T_42
    have j_l_43 := i_any l_43
    exact tot_some ⟨⟨h_T_42, x_T_42⟩, fun _ => trivial⟩
set_option maxHeartbeats 4000000 in
set_option maxRecDepth 10000 in
theorem cs_X11_trackScore {R : Nat → Nat} {B K1 K2 : Nat} (T : AT) (o : Nat) (a0 : Int32) (h_T : IV R B K1 K2 T) (k_o : R o = 11) : Tot (g_X11_trackScore T o a0) (fun r => (IV R B K1 K2 r.2.2 ∧ FW R [1952, 3202] T r.2.2) ∧ (r.1 = 0 → True)) := by
  have z0 : ((4 : Int32) : Int32).toInt = 4 := by decide
  have z1 : ((0 : Int32) : Int32).toInt = 0 := by decide
  have cc_101 : cnt 101 = 1 := rfl
  have cc_102 : cnt 102 = 12 := rfl
  have cc_103 : cnt 103 = 144 := rfl
  have cc_104 : cnt 104 = 2400 := rfl
  have cc_105 : cnt 105 = 7200 := rfl
  have x_T : FW R [1952, 3202] T T := FW.rf
  have j_a0 := i_any a0
  unfold g_X11_trackScore
  refine tot_oif (iv_oO h_T k_o (by decide) (by decide) rfl) ?_
  refine tot_thrp (Q := fun r_1 : Int32 => (0 ≤ r_1.toInt ∧ r_1.toInt ≤ 0)) (cs_X11_needCamera T o h_T k_o ) (fun r_1 d_r_1 => ?_) (fun k_ => ⟨⟨h_T, x_T⟩, fun q_ => absurd q_ (Nat.succ_ne_zero k_)⟩)
  replace d_r_1 : (0 ≤ r_1.toInt ∧ r_1.toInt ≤ 0) := d_r_1
  refine tot_oif (iv_oO h_T k_o (by decide) (by decide) rfl) ?_
  refine tot_ref h_T k_o (by decide) (by decide) (r2 := 6) (rfl : rtg 11 14 = 6) (by decide) (fun n_3 k_n_3 e_n_3 => ?_)
  refine tot_oif (iv_oO h_T k_n_3 (by decide) (by decide) rfl) ?_
  refine tot_let (fun v_4 e_v_4 => ?_)
  have r_v_4 : 0 ≤ v_4.toInt ∧ v_4.toInt ≤ 200 := iv_int h_T k_n_3 (by decide) (by decide) e_v_4 rfl
  refine tot_thrp (Q := fun r_5 : Int32 => (((4 : Int32) : Int32).toInt ≤ a0.toInt ∧ a0.toInt ≤ v_4.toInt)) (cs_X11_needRange T a0 (4 : Int32) v_4 h_T ) (fun r_5 d_r_5 => ?_) (fun k_ => ⟨⟨h_T, x_T⟩, fun q_ => absurd q_ (Nat.succ_ne_zero k_)⟩)
  replace d_r_5 : (((4 : Int32) : Int32).toInt ≤ a0.toInt ∧ a0.toInt ≤ v_4.toInt) := d_r_5
  refine tot_oif (iv_oO h_T k_o (by decide) (by decide) rfl) ?_
  refine tot_ref h_T k_o (by decide) (by decide) (r2 := 20) (rfl : rtg 11 3 = 20) (by decide) (fun n_7 k_n_7 e_n_7 => ?_)
  refine tot_oif (iv_oO h_T k_o (by decide) (by decide) rfl) ?_
  refine tot_ref1 e_n_3 ?_
  refine tot_oif (iv_oO h_T k_o (by decide) (by decide) rfl) ?_
  refine tot_ref h_T k_o (by decide) (by decide) (r2 := 8) (rfl : rtg 11 6 = 8) (by decide) (fun n_9 k_n_9 e_n_9 => ?_)
  refine tot_oif (iv_oO h_T k_n_7 (by decide) (by decide) rfl) ?_
  refine tot_bind (cs_X0_score T n_7 n_3 n_9 a0 h_T k_n_7 k_n_3 k_n_9 (by omega)) (fun T_10 d_T_10 => ?_)
  have h_T_10 : IV R B K1 K2 T_10 := d_T_10.1
  have y_T_10 : FW R [1952, 3202] T T_10 := d_T_10.2
  have x_T_10 := x_T.tr (y_T_10.w (by decide))
  unfold g_X11_trackScore_b32
  refine tot_oif (iv_oO h_T_10 k_o (by decide) (by decide) rfl) ?_
  refine tot_ref h_T_10 k_o (by decide) (by decide) (r2 := 20) (rfl : rtg 11 3 = 20) (by decide) (fun n_11 k_n_11 e_n_11 => ?_)
  refine tot_oif (iv_oO h_T_10 k_n_11 (by decide) (by decide) rfl) ?_
  refine tot_ref h_T_10 k_n_11 (by decide) (by decide) (r2 := 105) (rfl : rtg 20 0 = 105) (by decide) (fun n_12 k_n_12 e_n_12 => ?_)
  refine tot_oif (iv_oO h_T_10 k_o (by decide) (by decide) rfl) ?_
  refine tot_ref1 e_n_11 ?_
  refine tot_oif (iv_oO h_T_10 k_o (by decide) (by decide) rfl) ?_
  refine tot_ref h_T_10 k_o (by decide) (by decide) (r2 := 6) (rfl : rtg 11 14 = 6) (by decide) (fun n_14 k_n_14 e_n_14 => ?_)
  refine tot_oif (iv_oO h_T_10 k_n_14 (by decide) (by decide) rfl) ?_
  refine tot_ref h_T_10 k_n_14 (by decide) (by decide) (r2 := 1) (rfl : rtg 6 6 = 1) (by decide) (fun n_15 k_n_15 e_n_15 => ?_)
  refine tot_oif (iv_oO h_T_10 k_n_11 (by decide) (by decide) rfl) ?_
  refine tot_bind2 (cs_X0_trackCellIn T_10 n_11 n_15 (0 : Int32) h_T_10 k_n_11 k_n_15 ) (fun r_16 T_17 d_r_16 => ?_)
  have h_T_17 : IV R B K1 K2 T_17 := d_r_16.1.1
  have y_T_17 : FW R [1952] T_10 T_17 := d_r_16.1.2
  have x_T_17 := x_T_10.tr (y_T_17.w (by decide))
  replace d_r_16 : (0 ≤ r_16.toInt ∧ r_16.toInt ≤ 143) := d_r_16.2
  refine tot_oif (w_oO h_T_17 k_n_12 (rfl : isW 105 = true)) ?_
  refine tot_bindq (R := fun r_18 : Int64 => True) (c_value (a0 := r_16) k_n_12 (rfl : isW 105 = true) h_T_17 (by omega)) (fun r_18 d_r_18 => ?_)
  exact tot_some ⟨⟨h_T_17, x_T_17⟩, fun _ => trivial⟩
end
