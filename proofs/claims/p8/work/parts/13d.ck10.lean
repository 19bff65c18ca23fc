set_option maxHeartbeats 4000000 in
set_option maxRecDepth 10000 in
theorem cs_X11_trackCell {R : Nat → Nat} {B K1 K2 : Nat} (T : AT) (o : Nat) (a0 : Int32) (a1 : Int32) (h_T : IV R B K1 K2 T) (k_o : R o = 11) : Tot (g_X11_trackCell T o a0 a1) (fun r => (IV R B K1 K2 r.2.2 ∧ FW R [1952, 3202] T r.2.2) ∧ (r.1 = 0 → (0 ≤ r.2.1.toInt ∧ r.2.1.toInt ≤ 143))) := by
  have z0 : (4 : Int32).toInt = 4 := by decide
  have z1 : (0 : Int32).toInt = 0 := by decide
  have z2 : ((4 : Int32) : Int32).toInt = 4 := by decide
  have z3 : (1 : Int32).toInt = 1 := by decide
  have cc_101 : cnt 101 = 1 := rfl
  have cc_102 : cnt 102 = 12 := rfl
  have cc_103 : cnt 103 = 144 := rfl
  have cc_104 : cnt 104 = 2400 := rfl
  have cc_105 : cnt 105 = 7200 := rfl
  have x_T : FW R [1952, 3202] T T := FW.rf
  have j_a0 := i_any a0
  have j_a1 := i_any a1
  unfold g_X11_trackCell
  refine tot_oif (iv_oO h_T k_o (by decide) (by decide) rfl) ?_
  refine tot_thrp (Q := fun r_1 : Int32 => (0 ≤ r_1.toInt ∧ r_1.toInt ≤ 0)) (cs_X11_needCamera T o h_T k_o ) (fun r_1 d_r_1 => ?_) (fun k_ => ⟨⟨h_T, x_T⟩, fun q_ => absurd q_ (Nat.succ_ne_zero k_)⟩)
  replace d_r_1 : (0 ≤ r_1.toInt ∧ r_1.toInt ≤ 0) := d_r_1
  refine tot_if (fun c_5 => ?_) (fun c_5 => ?_)
  · replace c_5 := i_lt c_5
    unfold g_X11_trackCell_b24
    unfold g_X11_trackCell_b25
    refine tot_if (fun c_14 => ?_) (fun c_14 => ?_)
    · replace c_14 := i_eq c_14
      unfold g_X11_trackCell_b48
      refine tot_oif (iv_oO h_T k_o (by decide) (by decide) rfl) ?_
      refine tot_ref h_T k_o (by decide) (by decide) (r2 := 6) (rfl : rtg 11 14 = 6) (by decide) (fun n_15 k_n_15 e_n_15 => ?_)
      refine tot_oif (iv_oO h_T k_n_15 (by decide) (by decide) rfl) ?_
      refine tot_let (fun v_16 e_v_16 => ?_)
      have r_v_16 : 0 ≤ v_16.toInt ∧ v_16.toInt ≤ 200 := iv_int h_T k_n_15 (by decide) (by decide) e_v_16 rfl
      refine tot_thrp (Q := fun r_17 : Int32 => (((4 : Int32) : Int32).toInt ≤ a0.toInt ∧ a0.toInt ≤ v_16.toInt)) (cs_X11_needRange T a0 (4 : Int32) v_16 h_T ) (fun r_17 d_r_17 => ?_) (fun k_ => ⟨⟨h_T, x_T⟩, fun q_ => absurd q_ (Nat.succ_ne_zero k_)⟩)
      replace d_r_17 : (((4 : Int32) : Int32).toInt ≤ a0.toInt ∧ a0.toInt ≤ v_16.toInt) := d_r_17
      exfalso
      omega
    · replace c_14 := i_ne c_14
      exfalso
      omega
  · replace c_5 := i_nlt c_5
    refine tot_oif (iv_oO h_T k_o (by decide) (by decide) rfl) ?_
    refine tot_ref h_T k_o (by decide) (by decide) (r2 := 6) (rfl : rtg 11 14 = 6) (by decide) (fun n_3 k_n_3 e_n_3 => ?_)
    refine tot_oif (iv_oO h_T k_n_3 (by decide) (by decide) rfl) ?_
    refine tot_let (fun v_4 e_v_4 => ?_)
    have r_v_4 : 0 ≤ v_4.toInt ∧ v_4.toInt ≤ 200 := iv_int h_T k_n_3 (by decide) (by decide) e_v_4 rfl
    refine tot_if (fun c_23 => ?_) (fun c_23 => ?_)
    · replace c_23 := i_lt c_23
      unfold g_X11_trackCell_b24
      unfold g_X11_trackCell_b25
      refine tot_if (fun c_32 => ?_) (fun c_32 => ?_)
      · replace c_32 := i_eq c_32
        unfold g_X11_trackCell_b48
        refine tot_oif (iv_oO h_T k_o (by decide) (by decide) rfl) ?_
        refine tot_ref1 e_n_3 ?_
        refine tot_oif (iv_oO h_T k_n_3 (by decide) (by decide) rfl) ?_
        refine tot_let (fun v_34 e_v_34 => ?_)
        have u_v_34 : v_34.toInt = v_4.toInt := by rw [e_v_34, e_v_4]
        have r_v_34 : 0 ≤ v_34.toInt ∧ v_34.toInt ≤ 200 := iv_int h_T k_n_3 (by decide) (by decide) e_v_34 rfl
        refine tot_thrp (Q := fun r_35 : Int32 => (((4 : Int32) : Int32).toInt ≤ a0.toInt ∧ a0.toInt ≤ v_34.toInt)) (cs_X11_needRange T a0 (4 : Int32) v_34 h_T ) (fun r_35 d_r_35 => ?_) (fun k_ => ⟨⟨h_T, x_T⟩, fun q_ => absurd q_ (Nat.succ_ne_zero k_)⟩)
        replace d_r_35 : (((4 : Int32) : Int32).toInt ≤ a0.toInt ∧ a0.toInt ≤ v_34.toInt) := d_r_35
        refine tot_oif (iv_oO h_T k_o (by decide) (by decide) rfl) ?_
        refine tot_ref h_T k_o (by decide) (by decide) (r2 := 20) (rfl : rtg 11 3 = 20) (by decide) (fun n_37 k_n_37 e_n_37 => ?_)
        refine tot_oif (iv_oO h_T k_o (by decide) (by decide) rfl) ?_
        refine tot_ref1 e_n_3 ?_
        refine tot_oif (iv_oO h_T k_o (by decide) (by decide) rfl) ?_
        refine tot_ref h_T k_o (by decide) (by decide) (r2 := 8) (rfl : rtg 11 6 = 8) (by decide) (fun n_39 k_n_39 e_n_39 => ?_)
        refine tot_oif (iv_oO h_T k_n_37 (by decide) (by decide) rfl) ?_
        refine tot_bind (cs_X0_score T n_37 n_3 n_39 a0 h_T k_n_37 k_n_3 k_n_39 (by omega)) (fun T_40 d_T_40 => ?_)
        have h_T_40 : IV R B K1 K2 T_40 := d_T_40.1
        have y_T_40 : FW R [1952, 3202] T T_40 := d_T_40.2
        have x_T_40 := x_T.tr (y_T_40.w (by decide))
        unfold g_X11_trackCell_b76
        refine tot_oif (iv_oO h_T_40 k_o (by decide) (by decide) rfl) ?_
        refine tot_ref h_T_40 k_o (by decide) (by decide) (r2 := 20) (rfl : rtg 11 3 = 20) (by decide) (fun n_41 k_n_41 e_n_41 => ?_)
        refine tot_oif (iv_oO h_T_40 k_o (by decide) (by decide) rfl) ?_
        refine tot_ref h_T_40 k_o (by decide) (by decide) (r2 := 6) (rfl : rtg 11 14 = 6) (by decide) (fun n_42 k_n_42 e_n_42 => ?_)
        refine tot_oif (iv_oO h_T_40 k_n_42 (by decide) (by decide) rfl) ?_
        refine tot_ref h_T_40 k_n_42 (by decide) (by decide) (r2 := 1) (rfl : rtg 6 6 = 1) (by decide) (fun n_43 k_n_43 e_n_43 => ?_)
        refine tot_oif (iv_oO h_T_40 k_n_41 (by decide) (by decide) rfl) ?_
        refine tot_bind2 (cs_X0_trackCellIn T_40 n_41 n_43 a1 h_T_40 k_n_41 k_n_43 ) (fun r_44 T_45 d_r_44 => ?_)
        have h_T_45 : IV R B K1 K2 T_45 := d_r_44.1.1
        have y_T_45 : FW R [1952] T_40 T_45 := d_r_44.1.2
        have x_T_45 := x_T_40.tr (y_T_45.w (by decide))
        replace d_r_44 : (0 ≤ r_44.toInt ∧ r_44.toInt ≤ 143) := d_r_44.2
        exact tot_some ⟨⟨h_T_45, x_T_45⟩, fun _ => (show (0 ≤ r_44.toInt ∧ r_44.toInt ≤ 143) from by omega)⟩
      · replace c_32 := i_ne c_32
        exfalso
        omega
    · replace c_23 := i_nlt c_23
      unfold g_X11_trackCell_b25
      refine tot_if (fun c_54 => ?_) (fun c_54 => ?_)
      · replace c_54 := i_eq c_54
        exfalso
        omega
      · replace c_54 := i_ne c_54
        refine tot_oif (iv_oO h_T k_o (by decide) (by decide) rfl) ?_
        refine tot_ref1 e_n_3 ?_
        refine tot_oif (iv_oO h_T k_n_3 (by decide) (by decide) rfl) ?_
        refine tot_let (fun v_47 e_v_47 => ?_)
        have u_v_47 : v_47.toInt = v_4.toInt := by rw [e_v_47, e_v_4]
        have r_v_47 : 0 ≤ v_47.toInt ∧ v_47.toInt ≤ 200 := iv_int h_T k_n_3 (by decide) (by decide) e_v_47 rfl
        refine tot_let (fun v_48 e_v_48 => ?_)
        refine tot_let (fun v_49 e_v_49 => ?_)
        refine tot_bind (cs_X11_quotient v_48 v_49) (fun r_50 d_r_50 => ?_)
        refine tot_let (fun v_51 e_v_51 => ?_)
        have q_v_51 : 0 ≤ v_51.toInt ∧ v_51.toInt ≤ v_47.toInt := by rw [e_v_51]; exact d_r_50 _ _ e_v_48 e_v_49 (by omega) (by omega)
        refine tot_thrp (Q := fun r_52 : Int32 => (0 ≤ a1.toInt ∧ a1.toInt < v_51.toInt)) (cs_X11_needIndex T a1 v_51 h_T ) (fun r_52 d_r_52 => ?_) (fun k_ => ⟨⟨h_T, x_T⟩, fun q_ => absurd q_ (Nat.succ_ne_zero k_)⟩)
        replace d_r_52 : (0 ≤ a1.toInt ∧ a1.toInt < v_51.toInt) := d_r_52
        unfold g_X11_trackCell_b48
        refine tot_oif (iv_oO h_T k_o (by decide) (by decide) rfl) ?_
        refine tot_ref1 e_n_3 ?_
        refine tot_oif (iv_oO h_T k_n_3 (by decide) (by decide) rfl) ?_
        refine tot_let (fun v_56 e_v_56 => ?_)
        have u_v_56 : v_56.toInt = v_4.toInt := by rw [e_v_56, e_v_4]
        have r_v_56 : 0 ≤ v_56.toInt ∧ v_56.toInt ≤ 200 := iv_int h_T k_n_3 (by decide) (by decide) e_v_56 rfl
        refine tot_thrp (Q := fun r_57 : Int32 => (((4 : Int32) : Int32).toInt ≤ a0.toInt ∧ a0.toInt ≤ v_56.toInt)) (cs_X11_needRange T a0 (4 : Int32) v_56 h_T ) (fun r_57 d_r_57 => ?_) (fun k_ => ⟨⟨h_T, x_T⟩, fun q_ => absurd q_ (Nat.succ_ne_zero k_)⟩)
        replace d_r_57 : (((4 : Int32) : Int32).toInt ≤ a0.toInt ∧ a0.toInt ≤ v_56.toInt) := d_r_57
        refine tot_oif (iv_oO h_T k_o (by decide) (by decide) rfl) ?_
        refine tot_ref h_T k_o (by decide) (by decide) (r2 := 20) (rfl : rtg 11 3 = 20) (by decide) (fun n_59 k_n_59 e_n_59 => ?_)
        refine tot_oif (iv_oO h_T k_o (by decide) (by decide) rfl) ?_
        refine tot_ref1 e_n_3 ?_
        refine tot_oif (iv_oO h_T k_o (by decide) (by decide) rfl) ?_
        refine tot_ref h_T k_o (by decide) (by decide) (r2 := 8) (rfl : rtg 11 6 = 8) (by decide) (fun n_61 k_n_61 e_n_61 => ?_)
        refine tot_oif (iv_oO h_T k_n_59 (by decide) (by decide) rfl) ?_
        refine tot_bind (cs_X0_score T n_59 n_3 n_61 a0 h_T k_n_59 k_n_3 k_n_61 (by omega)) (fun T_62 d_T_62 => ?_)
        have h_T_62 : IV R B K1 K2 T_62 := d_T_62.1
        have y_T_62 : FW R [1952, 3202] T T_62 := d_T_62.2
        have x_T_62 := x_T.tr (y_T_62.w (by decide))
        unfold g_X11_trackCell_b76
        refine tot_oif (iv_oO h_T_62 k_o (by decide) (by decide) rfl) ?_
        refine tot_ref h_T_62 k_o (by decide) (by decide) (r2 := 20) (rfl : rtg 11 3 = 20) (by decide) (fun n_63 k_n_63 e_n_63 => ?_)
        refine tot_oif (iv_oO h_T_62 k_o (by decide) (by decide) rfl) ?_
        refine tot_ref h_T_62 k_o (by decide) (by decide) (r2 := 6) (rfl : rtg 11 14 = 6) (by decide) (fun n_64 k_n_64 e_n_64 => ?_)
        refine tot_oif (iv_oO h_T_62 k_n_64 (by decide) (by decide) rfl) ?_
        refine tot_ref h_T_62 k_n_64 (by decide) (by decide) (r2 := 1) (rfl : rtg 6 6 = 1) (by decide) (fun n_65 k_n_65 e_n_65 => ?_)
        refine tot_oif (iv_oO h_T_62 k_n_63 (by decide) (by decide) rfl) ?_
        refine tot_bind2 (cs_X0_trackCellIn T_62 n_63 n_65 a1 h_T_62 k_n_63 k_n_65 ) (fun r_66 T_67 d_r_66 => ?_)
        have h_T_67 : IV R B K1 K2 T_67 := d_r_66.1.1
        have y_T_67 : FW R [1952] T_62 T_67 := d_r_66.1.2
        have x_T_67 := x_T_62.tr (y_T_67.w (by decide))
        replace d_r_66 : (0 ≤ r_66.toInt ∧ r_66.toInt ≤ 143) := d_r_66.2
        exact tot_some ⟨⟨h_T_67, x_T_67⟩, fun _ => (show (0 ≤ r_66.toInt ∧ r_66.toInt ≤ 143) from by omega)⟩
set_option maxHeartbeats 4000000 in
set_option maxRecDepth 10000 in
theorem cl_X11_powerOnTheMove_b38 {R : Nat → Nat} {B K1 K2 : Nat} {Q : AT → Prop} (l0 : Nat) (l2 : Int32) (l3 : Int32) (l4 : Int32) (l5 : Int32) (l6 : Int32) (T00 : AT) (k_l0 : R l0 = 11) (g0 : -999 ≤ l2.toInt ∧ l2.toInt ≤ 999) (g1 : -999 ≤ l3.toInt ∧ l3.toInt ≤ 999) (g2 : 0 ≤ l4.toInt ∧ l4.toInt ≤ 1) (g3 : -999 ≤ l5.toInt ∧ l5.toInt ≤ 2088) (g4 : -999 ≤ l6.toInt ∧ l6.toInt ≤ 15156) (hx0 : ∀ (T : AT), (IV R B K1 K2 T) → (FW R [1600, 3202] T00 T) → Tot (oif (oO T l0 11 = true) <| obind (T.2.2.2.2 l0 12) fun n_55 => oif (oO T l0 11 = true) <| obind (T.2.2.2.2 l0 14) fun n_56 => oif (oO T n_56 6 = true) <| elet (T.2.2.1 n_56 2) fun v_57 => oif (oO T n_55 10 = true) <| obind (g_X10_divide T n_55 l4 v_57) fun T_58 => g_X11_powerOnTheMove_b137 T_58) Q) : ∀ (n : Nat) (T : AT) (l7 : Int32), (IV R B K1 K2 T) → (FW R [1600, 3202] T00 T) → (0 ≤ l7.toInt ∧ l7.toInt ≤ 200) → 200 - l7.toInt < (n : Int) → Tot (g_X11_powerOnTheMove_b38 n T l0 l2 l3 l4 l5 l6 l7) Q := by
  have z0 : ((0 : Int32) : Int32).toInt = 0 := by decide
  have z1 : (Int32.ofInt (1) : Int32).toInt = 1 := by decide
  have cc_101 : cnt 101 = 1 := rfl
  have cc_102 : cnt 102 = 12 := rfl
  have cc_103 : cnt 103 = 144 := rfl
  have cc_104 : cnt 104 = 2400 := rfl
  have cc_105 : cnt 105 = 7200 := rfl
  have j_l2 := i_any l2
  have j_l3 := i_any l3
  have j_l4 := i_any l4
  have j_l5 := i_any l5
  have j_l6 := i_any l6
  intro n
  induction n with
  | zero =>
    intro T l7 h_T x_T g_l7 hm
    exfalso
    omega
  | succ n ih =>
    intro T l7 h_T x_T g_l7 hm
    unfold g_X11_powerOnTheMove_b38
    refine tot_oif (iv_oO h_T k_l0 (by decide) (by decide) rfl) ?_
    refine tot_ref h_T k_l0 (by decide) (by decide) (r2 := 6) (rfl : rtg 11 14 = 6) (by decide) (fun n_53 k_n_53 e_n_53 => ?_)
    refine tot_oif (iv_oO h_T k_n_53 (by decide) (by decide) rfl) ?_
    refine tot_let (fun v_54 e_v_54 => ?_)
    have r_v_54 : 0 ≤ v_54.toInt ∧ v_54.toInt ≤ 200 := iv_int h_T k_n_53 (by decide) (by decide) e_v_54 rfl
    refine tot_if (fun c_67 => ?_) (fun c_67 => ?_)
    · replace c_67 := i_le c_67
      exact hx0 T h_T x_T
    · replace c_67 := i_nle c_67
      refine tot_oif (iv_oO h_T k_l0 (by decide) (by decide) rfl) ?_
      refine tot_ref1 e_n_53 ?_
      refine tot_bind (cs_X11_moved l5 l2 l7 (by omega) (by omega) (by omega)) (fun r_60 d_r_60 => ?_)
      replace d_r_60 : (-3988 ≤ r_60.toInt ∧ r_60.toInt ≤ 17144) := d_r_60
      refine tot_bind (cs_X11_moved l6 l3 l7 (by omega) (by omega) (by omega)) (fun r_61 d_r_61 => ?_)
      replace d_r_61 : (-3988 ≤ r_61.toInt ∧ r_61.toInt ≤ 17144) := d_r_61
      refine tot_oif (iv_oO h_T k_l0 (by decide) (by decide) rfl) ?_
      refine tot_ref h_T k_l0 (by decide) (by decide) (r2 := 50) (rfl : rtg 11 11 = 50) (by decide) (fun n_62 k_n_62 e_n_62 => ?_)
      refine tot_oif (iv_oO h_T k_n_53 (by decide) (by decide) rfl) ?_
      refine tot_bind (cs_X6_delaysFrom T n_53 r_60 r_61 n_62 h_T k_n_53 k_n_62 (by omega) (by omega)) (fun T_63 d_T_63 => ?_)
      have h_T_63 : IV R B K1 K2 T_63 := d_T_63.1
      have y_T_63 : FW R [1600] T T_63 := d_T_63.2
      have x_T_63 := x_T.tr (y_T_63.w (by decide))
      refine tot_oif (iv_oO h_T_63 k_l0 (by decide) (by decide) rfl) ?_
      refine tot_ref h_T_63 k_l0 (by decide) (by decide) (r2 := 8) (rfl : rtg 11 6 = 8) (by decide) (fun n_64 k_n_64 e_n_64 => ?_)
      refine tot_oif (iv_oO h_T_63 k_l0 (by decide) (by decide) rfl) ?_
      refine tot_ref h_T_63 k_l0 (by decide) (by decide) (r2 := 50) (rfl : rtg 11 11 = 50) (by decide) (fun n_65 k_n_65 e_n_65 => ?_)
      refine tot_oif (iv_oO h_T_63 k_n_64 (by decide) (by decide) rfl) ?_
      refine tot_bind (cs_X8_focus T_63 n_64 n_65 l7 h_T_63 k_n_64 k_n_65 ) (fun T_66 d_T_66 => ?_)
      have h_T_66 : IV R B K1 K2 T_66 := d_T_66.1
      have y_T_66 : FW R [3202] T_63 T_66 := d_T_66.2
      have x_T_66 := x_T_63.tr (y_T_66.w (by decide))
      unfold g_X11_powerOnTheMove_b90
      refine tot_oif (iv_oO h_T_66 k_l0 (by decide) (by decide) rfl) ?_
      refine tot_ref h_T_66 k_l0 (by decide) (by decide) (r2 := 102) (rfl : rtg 11 12 = 102) (by decide) (fun n_68 k_n_68 e_n_68 => ?_)
      refine tot_oif (iv_oO h_T_66 k_l0 (by decide) (by decide) rfl) ?_
      refine tot_ref h_T_66 k_l0 (by decide) (by decide) (r2 := 8) (rfl : rtg 11 6 = 8) (by decide) (fun n_69 k_n_69 e_n_69 => ?_)
      refine tot_oif (iv_oO h_T_66 k_n_69 (by decide) (by decide) rfl) ?_
      refine tot_ref h_T_66 k_n_69 (by decide) (by decide) (r2 := 101) (rfl : rtg 8 11 = 101) (by decide) (fun n_70 k_n_70 e_n_70 => ?_)
      refine tot_oif (iv_oO h_T_66 k_l0 (by decide) (by decide) rfl) ?_
      refine tot_ref1 e_n_69 ?_
      refine tot_oif (iv_oO h_T_66 k_n_69 (by decide) (by decide) rfl) ?_
      refine tot_ref1 e_n_70 ?_
      refine tot_oif (w_oO h_T_66 k_n_68 (rfl : isW 102 = true)) ?_
      refine tot_bind (c_addProduct (a0 := l4) (a2 := (0 : Int32)) (a4 := (0 : Int32)) k_n_68 (rfl : isW 102 = true) k_n_70 (rfl : isW 101 = true) k_n_70 (rfl : isW 101 = true) h_T_66 (by omega) (by omega) (by omega)) (fun T_73 d_T_73 => ?_)
      have h_T_73 : IV R B K1 K2 T_73 := d_T_73.1
      have y_T_73 : FW R [3202] T_66 T_73 := (fw_wx d_T_73.2 k_n_68 (rfl : isW 102 = true) (by decide))
      have x_T_73 := x_T_66.tr (y_T_73.w (by decide))
      unfold g_X11_powerOnTheMove_b115
      refine tot_let (fun v_74 e_v_74 => ?_)
      have q_v_74 := i_add e_v_74 (by omega) (by omega)
      exact ih T_73 v_74 h_T_73 x_T_73 (by omega) (by omega)
set_option maxHeartbeats 4000000 in
set_option maxRecDepth 10000 in
theorem cs_X11_powerOnTheMove {R : Nat → Nat} {B K1 K2 : Nat} (T : AT) (o : Nat) (a0 : Int32) (a1 : Int32) (a2 : Int32) (a3 : Int32) (h_T : IV R B K1 K2 T) (k_o : R o = 11) (g0 : 0 ≤ a0.toInt ∧ a0.toInt ≤ 143) (g1 : -999 ≤ a1.toInt ∧ a1.toInt ≤ 999) (g2 : -999 ≤ a2.toInt ∧ a2.toInt ≤ 999) (g3 : 0 ≤ a3.toInt ∧ a3.toInt ≤ 1) : Tot (g_X11_powerOnTheMove T o a0 a1 a2 a3) (fun T1 => IV R B K1 K2 T1 ∧ FW R [1600, 3202] T T1) := by
  have z0 : (0 : Int32).toInt = 0 := by decide
  have cc_101 : cnt 101 = 1 := rfl
  have cc_102 : cnt 102 = 12 := rfl
  have cc_103 : cnt 103 = 144 := rfl
  have cc_104 : cnt 104 = 2400 := rfl
  have cc_105 : cnt 105 = 7200 := rfl
  have x_T : FW R [1600, 3202] T T := FW.rf
  have j_a0 := i_any a0
  have j_a1 := i_any a1
  have j_a2 := i_any a2
  have j_a3 := i_any a3
  unfold g_X11_powerOnTheMove
  refine tot_oif (iv_oO h_T k_o (by decide) (by decide) rfl) ?_
  refine tot_ref h_T k_o (by decide) (by decide) (r2 := 6) (rfl : rtg 11 14 = 6) (by decide) (fun n_1 k_n_1 e_n_1 => ?_)
  refine tot_oif (iv_oO h_T k_n_1 (by decide) (by decide) rfl) ?_
  refine tot_ref h_T k_n_1 (by decide) (by decide) (r2 := 1) (rfl : rtg 6 6 = 1) (by decide) (fun n_2 k_n_2 e_n_2 => ?_)
  refine tot_oif (iv_oO h_T k_n_2 (by decide) (by decide) rfl) ?_
  refine tot_bindq (R := fun r_3 : Int32 => (-999 ≤ r_3.toInt ∧ r_3.toInt ≤ 2088)) (cs_X1_centreX T n_2 a0 h_T k_n_2 (by omega)) (fun r_3 d_r_3 => ?_)
  replace d_r_3 : (-999 ≤ r_3.toInt ∧ r_3.toInt ≤ 2088) := d_r_3
  refine tot_oif (iv_oO h_T k_o (by decide) (by decide) rfl) ?_
  refine tot_ref1 e_n_1 ?_
  refine tot_oif (iv_oO h_T k_n_1 (by decide) (by decide) rfl) ?_
  refine tot_ref1 e_n_2 ?_
  refine tot_oif (iv_oO h_T k_n_2 (by decide) (by decide) rfl) ?_
  refine tot_bindq (R := fun r_7 : Int32 => (-999 ≤ r_7.toInt ∧ r_7.toInt ≤ 15156)) (cs_X1_centreY T n_2 a0 h_T k_n_2 (by omega)) (fun r_7 d_r_7 => ?_)
  replace d_r_7 : (-999 ≤ r_7.toInt ∧ r_7.toInt ≤ 15156) := d_r_7
  refine tot_oif (iv_oO h_T k_o (by decide) (by decide) rfl) ?_
  refine tot_ref h_T k_o (by decide) (by decide) (r2 := 102) (rfl : rtg 11 12 = 102) (by decide) (fun n_9 k_n_9 e_n_9 => ?_)
  refine tot_oif (w_oO h_T k_n_9 (rfl : isW 102 = true)) ?_
  refine tot_bind (c_clear (a0 := a3) h_T k_n_9 (rfl : isW 102 = true) (by omega)) (fun T_10 d_T_10 => ?_)
  have h_T_10 : IV R B K1 K2 T_10 := d_T_10.1
  have y_T_10 : FW R [3202] T T_10 := (fw_of d_T_10.2)
  have x_T_10 := x_T.tr (y_T_10.w (by decide))
  refine cl_X11_powerOnTheMove_b38 o a1 a2 a3 r_3 r_7 T k_o (by omega) (by omega) (by omega) (by omega) (by omega) ?_ 16384 T_10 0 h_T_10 x_T_10 (by omega) (by omega)
  · intro T_75 h_T_75 x_T_75
    refine tot_oif (iv_oO h_T_75 k_o (by decide) (by decide) rfl) ?_
    refine tot_ref h_T_75 k_o (by decide) (by decide) (r2 := 102) (rfl : rtg 11 12 = 102) (by decide) (fun n_76 k_n_76 e_n_76 => ?_)
    refine tot_oif (iv_oO h_T_75 k_o (by decide) (by decide) rfl) ?_
    refine tot_ref h_T_75 k_o (by decide) (by decide) (r2 := 6) (rfl : rtg 11 14 = 6) (by decide) (fun n_77 k_n_77 e_n_77 => ?_)
    refine tot_oif (iv_oO h_T_75 k_n_77 (by decide) (by decide) rfl) ?_
    refine tot_let (fun v_78 e_v_78 => ?_)
    have r_v_78 : 0 ≤ v_78.toInt ∧ v_78.toInt ≤ 200 := iv_int h_T_75 k_n_77 (by decide) (by decide) e_v_78 rfl
    refine tot_oif (w_oO h_T_75 k_n_76 (rfl : isW 102 = true)) ?_
    refine tot_bind (c_divide (a0 := a3) (a1 := v_78) k_n_76 (rfl : isW 102 = true) h_T_75 (by omega)) (fun T_79 d_T_79 => ?_)
    have h_T_79 : IV R B K1 K2 T_79 := d_T_79.1
    have y_T_79 : FW R [3202] T_75 T_79 := (fw_wx d_T_79.2 k_n_76 (rfl : isW 102 = true) (by decide))
    have x_T_79 := x_T_75.tr (y_T_79.w (by decide))
    unfold g_X11_powerOnTheMove_b137
    exact tot_some ⟨h_T_79, x_T_79⟩
set_option maxHeartbeats 4000000 in
set_option maxRecDepth 10000 in
theorem cs_X11_movingPower {R : Nat → Nat} {B K1 K2 : Nat} (T : AT) (o : Nat) (a0 : Int32) (a1 : Int32) (a2 : Int32) (h_T : IV R B K1 K2 T) (k_o : R o = 11) : Tot (g_X11_movingPower T o a0 a1 a2) (fun r => (IV R B K1 K2 r.2.2 ∧ FW R [1600, 3202] T r.2.2) ∧ (r.1 = 0 → True)) := by
  have z0 : (((-999) : Int32) : Int32).toInt = -999 := by decide
  have z1 : ((999 : Int32) : Int32).toInt = 999 := by decide
  have z2 : ((0 : Int32) : Int32).toInt = 0 := by decide
  have cc_101 : cnt 101 = 1 := rfl
  have cc_102 : cnt 102 = 12 := rfl
  have cc_103 : cnt 103 = 144 := rfl
  have cc_104 : cnt 104 = 2400 := rfl
  have cc_105 : cnt 105 = 7200 := rfl
  have x_T : FW R [1600, 3202] T T := FW.rf
  have j_a0 := i_any a0
  have j_a1 := i_any a1
  have j_a2 := i_any a2
  unfold g_X11_movingPower
  refine tot_oif (iv_oO h_T k_o (by decide) (by decide) rfl) ?_
  refine tot_thrp (Q := fun r_1 : Int32 => (0 ≤ r_1.toInt ∧ r_1.toInt ≤ 0)) (cs_X11_needCamera T o h_T k_o ) (fun r_1 d_r_1 => ?_) (fun k_ => ⟨⟨h_T, x_T⟩, fun q_ => absurd q_ (Nat.succ_ne_zero k_)⟩)
  replace d_r_1 : (0 ≤ r_1.toInt ∧ r_1.toInt ≤ 0) := d_r_1
  refine tot_oif (iv_oO h_T k_o (by decide) (by decide) rfl) ?_
  refine tot_thrp (Q := fun r_3 : Int32 => (0 ≤ a0.toInt ∧ a0.toInt ≤ 143)) (cs_X11_needCell T o a0 h_T k_o ) (fun r_3 d_r_3 => ?_) (fun k_ => ⟨⟨h_T, x_T⟩, fun q_ => absurd q_ (Nat.succ_ne_zero k_)⟩)
  replace d_r_3 : (0 ≤ a0.toInt ∧ a0.toInt ≤ 143) := d_r_3
  refine tot_thrp (Q := fun r_5 : Int32 => ((((-999) : Int32) : Int32).toInt ≤ a1.toInt ∧ a1.toInt ≤ ((999 : Int32) : Int32).toInt)) (cs_X11_needRange T a1 ((-999) : Int32) (999 : Int32) h_T ) (fun r_5 d_r_5 => ?_) (fun k_ => ⟨⟨h_T, x_T⟩, fun q_ => absurd q_ (Nat.succ_ne_zero k_)⟩)
  replace d_r_5 : ((((-999) : Int32) : Int32).toInt ≤ a1.toInt ∧ a1.toInt ≤ ((999 : Int32) : Int32).toInt) := d_r_5
  refine tot_thrp (Q := fun r_7 : Int32 => ((((-999) : Int32) : Int32).toInt ≤ a2.toInt ∧ a2.toInt ≤ ((999 : Int32) : Int32).toInt)) (cs_X11_needRange T a2 ((-999) : Int32) (999 : Int32) h_T ) (fun r_7 d_r_7 => ?_) (fun k_ => ⟨⟨h_T, x_T⟩, fun q_ => absurd q_ (Nat.succ_ne_zero k_)⟩)
  replace d_r_7 : ((((-999) : Int32) : Int32).toInt ≤ a2.toInt ∧ a2.toInt ≤ ((999 : Int32) : Int32).toInt) := d_r_7
  refine tot_oif (iv_oO h_T k_o (by decide) (by decide) rfl) ?_
  refine tot_bind (cs_X11_powerOnTheMove T o a0 a1 a2 (0 : Int32) h_T k_o (by omega) (by omega) (by omega) (by omega)) (fun T_9 d_T_9 => ?_)
  have h_T_9 : IV R B K1 K2 T_9 := d_T_9.1
  have y_T_9 : FW R [1600, 3202] T T_9 := d_T_9.2
  have x_T_9 := x_T.tr (y_T_9.w (by decide))
  unfold g_X11_movingPower_b37
  refine tot_oif (iv_oO h_T_9 k_o (by decide) (by decide) rfl) ?_
  refine tot_ref h_T_9 k_o (by decide) (by decide) (r2 := 102) (rfl : rtg 11 12 = 102) (by decide) (fun n_10 k_n_10 e_n_10 => ?_)
  refine tot_oif (w_oO h_T_9 k_n_10 (rfl : isW 102 = true)) ?_
  refine tot_bindq (R := fun r_11 : Int64 => True) (c_value (a0 := (0 : Int32)) k_n_10 (rfl : isW 102 = true) h_T_9 (by omega)) (fun r_11 d_r_11 => ?_)
  exact tot_some ⟨⟨h_T_9, x_T_9⟩, fun _ => trivial⟩
set_option maxHeartbeats 4000000 in
set_option maxRecDepth 10000 in
theorem cl_X11_bestVelocity_b39 {R : Nat → Nat} {B K1 K2 : Nat} {Q : Nat × Int32 × AT → Prop} {k29 : AT → Nat → Int32 → Int32 → Int32 → Int32 → Int32 → Option (Nat × Int32 × AT)} (l0 : Nat) (l1 : Int32) (l2 : Int32) (l3 : Int32) (l5 : Int32) (T00 : AT) (k_l0 : R l0 = 11) (hthr : ∀ (k : Nat) (U : AT), IV R B K1 K2 U → FW R [1600, 3202] T00 U → Q (k + 1, 0, U)) (g0 : 0 ≤ l1.toInt ∧ l1.toInt ≤ 143) (g1 : 1 ≤ l2.toInt ∧ l2.toInt ≤ 99) (g2 : 0 ≤ l3.toInt ∧ l3.toInt ≤ 4) (g3 : -4 ≤ l5.toInt ∧ l5.toInt ≤ 4) (hx0 : ∀ (T : AT) (l4 : Int32), (IV R B K1 K2 T) → (FW R [1600, 3202] T00 T) → (-404 ≤ l4.toInt ∧ l4.toInt ≤ 999) → Tot (elet (l5 + Int32.ofInt (1)) fun v_116 => k29 T l0 l1 l2 l3 l4 v_116) Q) : ∀ (n : Nat) (T : AT) (l4 : Int32) (l6 : Int32), (IV R B K1 K2 T) → (FW R [1600, 3202] T00 T) → (-404 ≤ l4.toInt ∧ l4.toInt ≤ 999) → (-4 ≤ l6.toInt ∧ l6.toInt ≤ 5) → 5 - l6.toInt < (n : Int) → Tot (g_X11_bestVelocity_b39 k29 n T l0 l1 l2 l3 l4 l5 l6) Q := by
  have z0 : ((1 : Int32) : Int32).toInt = 1 := by decide
  have z1 : ((-1) : Int32).toInt = -1 := by decide
  have z2 : ((0 : Int32) : Int32).toInt = 0 := by decide
  have z3 : (100 : Int32).toInt = 100 := by decide
  have z4 : (Int32.ofInt (1) : Int32).toInt = 1 := by decide
  have z5 : (0 : Int32).toInt = 0 := by decide
  have cc_101 : cnt 101 = 1 := rfl
  have cc_102 : cnt 102 = 12 := rfl
  have cc_103 : cnt 103 = 144 := rfl
  have cc_104 : cnt 104 = 2400 := rfl
  have cc_105 : cnt 105 = 7200 := rfl
  have j_l1 := i_any l1
  have j_l2 := i_any l2
  have j_l3 := i_any l3
  have j_l5 := i_any l5
  intro n
  induction n with
  | zero =>
    intro T l4 l6 h_T x_T g_l4 g_l6 hm
    exfalso
    omega
  | succ n ih =>
    intro T l4 l6 h_T x_T g_l4 g_l6 hm
    unfold g_X11_bestVelocity_b39
    refine tot_if (fun c_120 => ?_) (fun c_120 => ?_)
    · replace c_120 := i_lt c_120
      exact hx0 T l4 h_T x_T (by omega)
    · replace c_120 := i_nlt c_120
      refine tot_let (fun v_117 e_v_117 => ?_)
      have q_v_117 := i_mulm2 (a := -4) (b := 4) (d := 99) e_v_117 (by omega) (by omega) (by omega) (by omega) (by decide)
      refine tot_let (fun v_118 e_v_118 => ?_)
      have q_v_118 := i_mulm2 (a := -4) (b := 4) (d := 99) e_v_118 (by omega) (by omega) (by omega) (by omega) (by decide)
      refine tot_oif (iv_oO h_T k_l0 (by decide) (by decide) rfl) ?_
      refine tot_bind (cs_X11_powerOnTheMove T l0 l1 v_117 v_118 (1 : Int32) h_T k_l0 (by omega) (by omega) (by omega) (by omega)) (fun T_119 d_T_119 => ?_)
      have h_T_119 : IV R B K1 K2 T_119 := d_T_119.1
      have y_T_119 : FW R [1600, 3202] T T_119 := d_T_119.2
      have x_T_119 := x_T.tr (y_T_119.w (by decide))
      unfold g_X11_bestVelocity_b59
      refine tot_if (fun c_124 => ?_) (fun c_124 => ?_)
      · replace c_124 := i_eq c_124
        unfold g_X11_bestVelocity_b77
        refine tot_oif (iv_oO h_T_119 k_l0 (by decide) (by decide) rfl) ?_
        refine tot_ref h_T_119 k_l0 (by decide) (by decide) (r2 := 102) (rfl : rtg 11 12 = 102) (by decide) (fun n_125 k_n_125 e_n_125 => ?_)
        refine tot_oif (iv_oO h_T_119 k_l0 (by decide) (by decide) rfl) ?_
        refine tot_ref1 e_n_125 ?_
        refine tot_oif (w_oO h_T_119 k_n_125 (rfl : isW 102 = true)) ?_
        refine tot_bind (c_set (a0 := (0 : Int32)) (a2 := (1 : Int32)) k_n_125 (rfl : isW 102 = true) k_n_125 (rfl : isW 102 = true) h_T_119 (by omega) (by omega)) (fun T_127 d_T_127 => ?_)
        have h_T_127 : IV R B K1 K2 T_127 := d_T_127.1
        have y_T_127 : FW R [3202] T_119 T_127 := (fw_wx d_T_127.2 k_n_125 (rfl : isW 102 = true) (by decide))
        have x_T_127 := x_T_119.tr (y_T_127.w (by decide))
        unfold g_X11_bestVelocity_b90
        refine tot_let (fun v_128 e_v_128 => ?_)
        have q_v_128 := i_add e_v_128 (by omega) (by omega)
        refine tot_let (fun v_129 e_v_129 => ?_)
        have q_v_129 := i_mulk e_v_129 z3 (by omega) (by omega)
        refine tot_let (fun v_130 e_v_130 => ?_)
        have q_v_130 := i_add e_v_130 (by omega) (by omega)
        refine tot_let (fun v_131 e_v_131 => ?_)
        have q_v_131 := i_add e_v_131 (by omega) (by omega)
        unfold g_X11_bestVelocity_b104
        refine tot_let (fun v_132 e_v_132 => ?_)
        have q_v_132 := i_add e_v_132 (by omega) (by omega)
        exact ih T_127 v_131 v_132 h_T_127 x_T_127 (by omega) (by omega) (by omega)
      · replace c_124 := i_ne c_124
        refine tot_oif (iv_oO h_T_119 k_l0 (by decide) (by decide) rfl) ?_
        refine tot_ref h_T_119 k_l0 (by decide) (by decide) (r2 := 102) (rfl : rtg 11 12 = 102) (by decide) (fun n_121 k_n_121 e_n_121 => ?_)
        refine tot_oif (w_oO h_T_119 k_n_121 (rfl : isW 102 = true)) ?_
        refine tot_bindq (R := fun r_122 : Int32 => True) (c_compare (a0 := (1 : Int32)) (a1 := (0 : Int32)) k_n_121 (rfl : isW 102 = true) h_T_119 (by omega) (by omega)) (fun r_122 d_r_122 => ?_)
        have r_r_122 := i_any r_122
        refine tot_if (fun c_133 => ?_) (fun c_133 => ?_)
        · replace c_133 := i_le c_133
          unfold g_X11_bestVelocity_b104
          refine tot_let (fun v_134 e_v_134 => ?_)
          have q_v_134 := i_add e_v_134 (by omega) (by omega)
          exact ih T_119 l4 v_134 h_T_119 x_T_119 (by omega) (by omega) (by omega)
        · replace c_133 := i_nle c_133
          unfold g_X11_bestVelocity_b77
          refine tot_oif (iv_oO h_T_119 k_l0 (by decide) (by decide) rfl) ?_
          refine tot_ref1 e_n_121 ?_
          refine tot_oif (iv_oO h_T_119 k_l0 (by decide) (by decide) rfl) ?_
          refine tot_ref1 e_n_121 ?_
          refine tot_oif (w_oO h_T_119 k_n_121 (rfl : isW 102 = true)) ?_
          refine tot_bind (c_set (a0 := (0 : Int32)) (a2 := (1 : Int32)) k_n_121 (rfl : isW 102 = true) k_n_121 (rfl : isW 102 = true) h_T_119 (by omega) (by omega)) (fun T_137 d_T_137 => ?_)
          have h_T_137 : IV R B K1 K2 T_137 := d_T_137.1
          have y_T_137 : FW R [3202] T_119 T_137 := (fw_wx d_T_137.2 k_n_121 (rfl : isW 102 = true) (by decide))
          have x_T_137 := x_T_119.tr (y_T_137.w (by decide))
          unfold g_X11_bestVelocity_b90
          refine tot_let (fun v_138 e_v_138 => ?_)
          have q_v_138 := i_add e_v_138 (by omega) (by omega)
          refine tot_let (fun v_139 e_v_139 => ?_)
          have q_v_139 := i_mulk e_v_139 z3 (by omega) (by omega)
          refine tot_let (fun v_140 e_v_140 => ?_)
          have q_v_140 := i_add e_v_140 (by omega) (by omega)
          refine tot_let (fun v_141 e_v_141 => ?_)
          have q_v_141 := i_add e_v_141 (by omega) (by omega)
          unfold g_X11_bestVelocity_b104
          refine tot_let (fun v_142 e_v_142 => ?_)
          have q_v_142 := i_add e_v_142 (by omega) (by omega)
          exact ih T_137 v_141 v_142 h_T_137 x_T_137 (by omega) (by omega) (by omega)
set_option maxHeartbeats 4000000 in
set_option maxRecDepth 10000 in
theorem cl_X11_bestVelocity_b29 {R : Nat → Nat} {B K1 K2 : Nat} {Q : Nat × Int32 × AT → Prop} (l0 : Nat) (l1 : Int32) (l2 : Int32) (l3 : Int32) (T00 : AT) (k_l0 : R l0 = 11) (hthr : ∀ (k : Nat) (U : AT), IV R B K1 K2 U → FW R [1600, 3202] T00 U → Q (k + 1, 0, U)) (g0 : 0 ≤ l1.toInt ∧ l1.toInt ≤ 143) (g1 : 1 ≤ l2.toInt ∧ l2.toInt ≤ 99) (g2 : 0 ≤ l3.toInt ∧ l3.toInt ≤ 4) (hx0 : ∀ (T : AT) (l4 : Int32), (IV R B K1 K2 T) → (FW R [1600, 3202] T00 T) → (-404 ≤ l4.toInt ∧ l4.toInt ≤ 999) → Tot (some (0, l4, T)) Q) : ∀ (n : Nat) (T : AT) (l4 : Int32) (l5 : Int32), (IV R B K1 K2 T) → (FW R [1600, 3202] T00 T) → (-404 ≤ l4.toInt ∧ l4.toInt ≤ 999) → (-4 ≤ l5.toInt ∧ l5.toInt ≤ 5) → 5 - l5.toInt < (n : Int) → Tot (g_X11_bestVelocity_b29 n T l0 l1 l2 l3 l4 l5) Q := by
  have z0 : (Int32.ofInt (1) : Int32).toInt = 1 := by decide
  have cc_101 : cnt 101 = 1 := rfl
  have cc_102 : cnt 102 = 12 := rfl
  have cc_103 : cnt 103 = 144 := rfl
  have cc_104 : cnt 104 = 2400 := rfl
  have cc_105 : cnt 105 = 7200 := rfl
  have j_l1 := i_any l1
  have j_l2 := i_any l2
  have j_l3 := i_any l3
  intro n
  induction n with
  | zero =>
    intro T l4 l5 h_T x_T g_l4 g_l5 hm
    exfalso
    omega
  | succ n ih =>
    intro T l4 l5 h_T x_T g_l4 g_l5 hm
    unfold g_X11_bestVelocity_b29
    refine tot_if (fun c_91 => ?_) (fun c_91 => ?_)
    · replace c_91 := i_lt c_91
      exact hx0 T l4 h_T x_T (by omega)
    · replace c_91 := i_nlt c_91
      refine tot_let (fun v_90 e_v_90 => ?_)
      have q_v_90 := i_neg e_v_90 (by omega)
      refine cl_X11_bestVelocity_b39 l0 l1 l2 l3 l5 T00 k_l0 hthr (by omega) (by omega) (by omega) (by omega) ?_ 16384 T l4 v_90 h_T x_T (by omega) (by omega) (by omega)
      · intro T_143 l_144 h_T_143 x_T_143 g_l_144
        refine tot_let (fun v_145 e_v_145 => ?_)
        have q_v_145 := i_add e_v_145 (by omega) (by omega)
        exact ih T_143 l_144 v_145 h_T_143 x_T_143 (by omega) (by omega) (by omega)
set_option maxHeartbeats 4000000 in
set_option maxRecDepth 10000 in
theorem cs_X11_bestVelocity {R : Nat → Nat} {B K1 K2 : Nat} (T : AT) (o : Nat) (a0 : Int32) (a1 : Int32) (a2 : Int32) (h_T : IV R B K1 K2 T) (k_o : R o = 11) : Tot (g_X11_bestVelocity T o a0 a1 a2) (fun r => (IV R B K1 K2 r.2.2 ∧ FW R [1600, 3202] T r.2.2) ∧ (r.1 = 0 → (-404 ≤ r.2.1.toInt ∧ r.2.1.toInt ≤ 999))) := by
  have z0 : ((1 : Int32) : Int32).toInt = 1 := by decide
  have z1 : ((99 : Int32) : Int32).toInt = 99 := by decide
  have z2 : ((0 : Int32) : Int32).toInt = 0 := by decide
  have z3 : ((4 : Int32) : Int32).toInt = 4 := by decide
  have z4 : ((-1) : Int32).toInt = -1 := by decide
  have cc_101 : cnt 101 = 1 := rfl
  have cc_102 : cnt 102 = 12 := rfl
  have cc_103 : cnt 103 = 144 := rfl
  have cc_104 : cnt 104 = 2400 := rfl
  have cc_105 : cnt 105 = 7200 := rfl
  have x_T : FW R [1600, 3202] T T := FW.rf
  have j_a0 := i_any a0
  have j_a1 := i_any a1
  have j_a2 := i_any a2
  unfold g_X11_bestVelocity
  refine tot_oif (iv_oO h_T k_o (by decide) (by decide) rfl) ?_
  refine tot_thrp (Q := fun r_1 : Int32 => (0 ≤ r_1.toInt ∧ r_1.toInt ≤ 0)) (cs_X11_needCamera T o h_T k_o ) (fun r_1 d_r_1 => ?_) (fun k_ => ⟨⟨h_T, x_T⟩, fun q_ => absurd q_ (Nat.succ_ne_zero k_)⟩)
  replace d_r_1 : (0 ≤ r_1.toInt ∧ r_1.toInt ≤ 0) := d_r_1
  refine tot_oif (iv_oO h_T k_o (by decide) (by decide) rfl) ?_
  refine tot_thrp (Q := fun r_3 : Int32 => (0 ≤ a0.toInt ∧ a0.toInt ≤ 143)) (cs_X11_needCell T o a0 h_T k_o ) (fun r_3 d_r_3 => ?_) (fun k_ => ⟨⟨h_T, x_T⟩, fun q_ => absurd q_ (Nat.succ_ne_zero k_)⟩)
  replace d_r_3 : (0 ≤ a0.toInt ∧ a0.toInt ≤ 143) := d_r_3
  refine tot_thrp (Q := fun r_5 : Int32 => (((1 : Int32) : Int32).toInt ≤ a1.toInt ∧ a1.toInt ≤ ((99 : Int32) : Int32).toInt)) (cs_X11_needRange T a1 (1 : Int32) (99 : Int32) h_T ) (fun r_5 d_r_5 => ?_) (fun k_ => ⟨⟨h_T, x_T⟩, fun q_ => absurd q_ (Nat.succ_ne_zero k_)⟩)
  replace d_r_5 : (((1 : Int32) : Int32).toInt ≤ a1.toInt ∧ a1.toInt ≤ ((99 : Int32) : Int32).toInt) := d_r_5
  refine tot_thrp (Q := fun r_7 : Int32 => (((0 : Int32) : Int32).toInt ≤ a2.toInt ∧ a2.toInt ≤ ((4 : Int32) : Int32).toInt)) (cs_X11_needRange T a2 (0 : Int32) (4 : Int32) h_T ) (fun r_7 d_r_7 => ?_) (fun k_ => ⟨⟨h_T, x_T⟩, fun q_ => absurd q_ (Nat.succ_ne_zero k_)⟩)
  replace d_r_7 : (((0 : Int32) : Int32).toInt ≤ a2.toInt ∧ a2.toInt ≤ ((4 : Int32) : Int32).toInt) := d_r_7
  refine tot_let (fun v_9 e_v_9 => ?_)
  have q_v_9 := i_neg e_v_9 (by omega)
  refine cl_X11_bestVelocity_b29 o a0 a1 a2 T k_o (fun k_ U_ i_ x_ => ⟨⟨i_, x_⟩, fun q_ => absurd q_ (Nat.succ_ne_zero k_)⟩) (by omega) (by omega) (by omega) ?_ 16384 T (-1) v_9 h_T x_T (by omega) (by omega) (by omega)
  · intro T_146 l_147 h_T_146 x_T_146 g_l_147
    exact tot_some ⟨⟨h_T_146, x_T_146⟩, fun _ => (show (-404 ≤ l_147.toInt ∧ l_147.toInt ≤ 999) from by omega)⟩
set_option maxHeartbeats 4000000 in
set_option maxRecDepth 10000 in
theorem cs_X11_correlation {R : Nat → Nat} {B K1 K2 : Nat} (T : AT) (o : Nat) (a0 : Int32) (a1 : Int32) (a2 : Int32) (h_T : IV R B K1 K2 T) (k_o : R o = 11) : Tot (g_X11_correlation T o a0 a1 a2) (fun r => (IV R B K1 K2 r.2.2 ∧ FW R [3202] T r.2.2) ∧ (r.1 = 0 → True)) := by
  have z0 : (1 : Int32).toInt = 1 := by decide
  have z1 : ((0 : Int32) : Int32).toInt = 0 := by decide
  have cc_101 : cnt 101 = 1 := rfl
  have cc_102 : cnt 102 = 12 := rfl
  have cc_103 : cnt 103 = 144 := rfl
  have cc_104 : cnt 104 = 2400 := rfl
  have cc_105 : cnt 105 = 7200 := rfl
  have x_T : FW R [3202] T T := FW.rf
  have j_a0 := i_any a0
  have j_a1 := i_any a1
  have j_a2 := i_any a2
  unfold g_X11_correlation
  refine tot_oif (iv_oO h_T k_o (by decide) (by decide) rfl) ?_
  refine tot_thrp (Q := fun r_1 : Int32 => (0 ≤ r_1.toInt ∧ r_1.toInt ≤ 0)) (cs_X11_needCamera T o h_T k_o ) (fun r_1 d_r_1 => ?_) (fun k_ => ⟨⟨h_T, x_T⟩, fun q_ => absurd q_ (Nat.succ_ne_zero k_)⟩)
  replace d_r_1 : (0 ≤ r_1.toInt ∧ r_1.toInt ≤ 0) := d_r_1
  refine tot_oif (iv_oO h_T k_o (by decide) (by decide) rfl) ?_
  refine tot_thrp (Q := fun r_3 : Int32 => (0 ≤ a0.toInt ∧ a0.toInt ≤ 11)) (cs_X11_needMic T o a0 h_T k_o ) (fun r_3 d_r_3 => ?_) (fun k_ => ⟨⟨h_T, x_T⟩, fun q_ => absurd q_ (Nat.succ_ne_zero k_)⟩)
  replace d_r_3 : (0 ≤ a0.toInt ∧ a0.toInt ≤ 11) := d_r_3
  refine tot_oif (iv_oO h_T k_o (by decide) (by decide) rfl) ?_
  refine tot_thrp (Q := fun r_5 : Int32 => (0 ≤ a1.toInt ∧ a1.toInt ≤ 11)) (cs_X11_needMic T o a1 h_T k_o ) (fun r_5 d_r_5 => ?_) (fun k_ => ⟨⟨h_T, x_T⟩, fun q_ => absurd q_ (Nat.succ_ne_zero k_)⟩)
  replace d_r_5 : (0 ≤ a1.toInt ∧ a1.toInt ≤ 11) := d_r_5
  refine tot_oif (iv_oO h_T k_o (by decide) (by decide) rfl) ?_
  refine tot_ref h_T k_o (by decide) (by decide) (r2 := 6) (rfl : rtg 11 14 = 6) (by decide) (fun n_7 k_n_7 e_n_7 => ?_)
  refine tot_oif (iv_oO h_T k_n_7 (by decide) (by decide) rfl) ?_
  refine tot_let (fun v_8 e_v_8 => ?_)
  have r_v_8 : 0 ≤ v_8.toInt ∧ v_8.toInt ≤ 200 := iv_int h_T k_n_7 (by decide) (by decide) e_v_8 rfl
  refine tot_let (fun v_9 e_v_9 => ?_)
  have q_v_9 := i_sub e_v_9 (by omega) (by omega)
  refine tot_thrp (Q := fun r_10 : Int32 => (((0 : Int32) : Int32).toInt ≤ a2.toInt ∧ a2.toInt ≤ v_9.toInt)) (cs_X11_needRange T a2 (0 : Int32) v_9 h_T ) (fun r_10 d_r_10 => ?_) (fun k_ => ⟨⟨h_T, x_T⟩, fun q_ => absurd q_ (Nat.succ_ne_zero k_)⟩)
  replace d_r_10 : (((0 : Int32) : Int32).toInt ≤ a2.toInt ∧ a2.toInt ≤ v_9.toInt) := d_r_10
  refine tot_oif (iv_oO h_T k_o (by decide) (by decide) rfl) ?_
  refine tot_ref h_T k_o (by decide) (by decide) (r2 := 8) (rfl : rtg 11 6 = 8) (by decide) (fun n_12 k_n_12 e_n_12 => ?_)
  refine tot_oif (iv_oO h_T k_o (by decide) (by decide) rfl) ?_
  refine tot_ref h_T k_o (by decide) (by decide) (r2 := 102) (rfl : rtg 11 12 = 102) (by decide) (fun n_13 k_n_13 e_n_13 => ?_)
  refine tot_oif (iv_oO h_T k_n_12 (by decide) (by decide) rfl) ?_
  refine tot_bind (cs_X8_productSum T n_12 a0 a1 a2 n_13 (0 : Int32) h_T k_n_12 k_n_13 (rfl : isW 102 = true) (by omega) (by omega) (by omega) (by omega) (by omega)) (fun T_14 d_T_14 => ?_)
  have h_T_14 : IV R B K1 K2 T_14 := d_T_14.1
  have y_T_14 : FW R [3202] T T_14 := d_T_14.2
  have x_T_14 := x_T.tr (y_T_14.w (by decide))
  unfold g_X11_correlation_b43
  refine tot_oif (iv_oO h_T_14 k_o (by decide) (by decide) rfl) ?_
  refine tot_ref h_T_14 k_o (by decide) (by decide) (r2 := 102) (rfl : rtg 11 12 = 102) (by decide) (fun n_15 k_n_15 e_n_15 => ?_)
  refine tot_oif (w_oO h_T_14 k_n_15 (rfl : isW 102 = true)) ?_
  refine tot_bindq (R := fun r_16 : Int64 => True) (c_value (a0 := (0 : Int32)) k_n_15 (rfl : isW 102 = true) h_T_14 (by omega)) (fun r_16 d_r_16 => ?_)
  exact tot_some ⟨⟨h_T_14, x_T_14⟩, fun _ => trivial⟩
set_option maxHeartbeats 4000000 in
set_option maxRecDepth 10000 in
theorem cl_X11_bestLag_b49 {R : Nat → Nat} {B K1 K2 : Nat} {Q : Nat × Int32 × AT → Prop} (l0 : Nat) (l1 : Int32) (l2 : Int32) (l3 : Int32) (T00 : AT) (k_l0 : R l0 = 11) (hthr : ∀ (k : Nat) (U : AT), IV R B K1 K2 U → FW R [3202] T00 U → Q (k + 1, 0, U)) (g0 : 0 ≤ l1.toInt ∧ l1.toInt ≤ 11) (g1 : 0 ≤ l2.toInt ∧ l2.toInt ≤ 11) (g2 : 0 ≤ l3.toInt ∧ l3.toInt ≤ 199) (hx0 : ∀ (T : AT) (l4 : Int32), (IV R B K1 K2 T) → (FW R [3202] T00 T) → (0 ≤ l4.toInt ∧ l4.toInt ≤ 199) → Tot (some (0, l4, T)) Q) : ∀ (n : Nat) (T : AT) (l4 : Int32) (l5 : Int32), (IV R B K1 K2 T) → (FW R [3202] T00 T) → (0 ≤ l4.toInt ∧ l4.toInt ≤ 199) → (1 ≤ l5.toInt ∧ l5.toInt ≤ 200) → 200 - l5.toInt < (n : Int) → Tot (g_X11_bestLag_b49 n T l0 l1 l2 l3 l4 l5) Q := by
  have z0 : ((1 : Int32) : Int32).toInt = 1 := by decide
  have z1 : ((0 : Int32) : Int32).toInt = 0 := by decide
  have z2 : (0 : Int32).toInt = 0 := by decide
  have z3 : (Int32.ofInt (1) : Int32).toInt = 1 := by decide
  have cc_101 : cnt 101 = 1 := rfl
  have cc_102 : cnt 102 = 12 := rfl
  have cc_103 : cnt 103 = 144 := rfl
  have cc_104 : cnt 104 = 2400 := rfl
  have cc_105 : cnt 105 = 7200 := rfl
  have j_l1 := i_any l1
  have j_l2 := i_any l2
  have j_l3 := i_any l3
  intro n
  induction n with
  | zero =>
    intro T l4 l5 h_T x_T g_l4 g_l5 hm
    exfalso
    omega
  | succ n ih =>
    intro T l4 l5 h_T x_T g_l4 g_l5 hm
    unfold g_X11_bestLag_b49
    refine tot_if (fun c_40 => ?_) (fun c_40 => ?_)
    · replace c_40 := i_lt c_40
      exact hx0 T l4 h_T x_T (by omega)
    · replace c_40 := i_nlt c_40
      refine tot_oif (iv_oO h_T k_l0 (by decide) (by decide) rfl) ?_
      refine tot_ref h_T k_l0 (by decide) (by decide) (r2 := 8) (rfl : rtg 11 6 = 8) (by decide) (fun n_37 k_n_37 e_n_37 => ?_)
      refine tot_oif (iv_oO h_T k_l0 (by decide) (by decide) rfl) ?_
      refine tot_ref h_T k_l0 (by decide) (by decide) (r2 := 102) (rfl : rtg 11 12 = 102) (by decide) (fun n_38 k_n_38 e_n_38 => ?_)
      refine tot_oif (iv_oO h_T k_n_37 (by decide) (by decide) rfl) ?_
      refine tot_bind (cs_X8_productSum T n_37 l1 l2 l5 n_38 (1 : Int32) h_T k_n_37 k_n_38 (rfl : isW 102 = true) (by omega) (by omega) (by omega) (by omega) (by omega)) (fun T_39 d_T_39 => ?_)
      have h_T_39 : IV R B K1 K2 T_39 := d_T_39.1
      have y_T_39 : FW R [3202] T T_39 := d_T_39.2
      have x_T_39 := x_T.tr (y_T_39.w (by decide))
      unfold g_X11_bestLag_b71
      refine tot_oif (iv_oO h_T_39 k_l0 (by decide) (by decide) rfl) ?_
      refine tot_ref h_T_39 k_l0 (by decide) (by decide) (r2 := 102) (rfl : rtg 11 12 = 102) (by decide) (fun n_41 k_n_41 e_n_41 => ?_)
      refine tot_oif (w_oO h_T_39 k_n_41 (rfl : isW 102 = true)) ?_
      refine tot_bindq (R := fun r_42 : Int32 => True) (c_compare (a0 := (1 : Int32)) (a1 := (0 : Int32)) k_n_41 (rfl : isW 102 = true) h_T_39 (by omega) (by omega)) (fun r_42 d_r_42 => ?_)
      have r_r_42 := i_any r_42
      refine tot_if (fun c_47 => ?_) (fun c_47 => ?_)
      · replace c_47 := i_le c_47
        unfold g_X11_bestLag_b100
        refine tot_let (fun v_48 e_v_48 => ?_)
        have q_v_48 := i_add e_v_48 (by omega) (by omega)
        exact ih T_39 l4 v_48 h_T_39 x_T_39 (by omega) (by omega) (by omega)
      · replace c_47 := i_nle c_47
        refine tot_oif (iv_oO h_T_39 k_l0 (by decide) (by decide) rfl) ?_
        refine tot_ref1 e_n_41 ?_
        refine tot_oif (iv_oO h_T_39 k_l0 (by decide) (by decide) rfl) ?_
        refine tot_ref1 e_n_41 ?_
        refine tot_oif (w_oO h_T_39 k_n_41 (rfl : isW 102 = true)) ?_
        refine tot_bind (c_set (a0 := (0 : Int32)) (a2 := (1 : Int32)) k_n_41 (rfl : isW 102 = true) k_n_41 (rfl : isW 102 = true) h_T_39 (by omega) (by omega)) (fun T_46 d_T_46 => ?_)
        have h_T_46 : IV R B K1 K2 T_46 := d_T_46.1
        have y_T_46 : FW R [3202] T_39 T_46 := (fw_wx d_T_46.2 k_n_41 (rfl : isW 102 = true) (by decide))
        have x_T_46 := x_T_39.tr (y_T_46.w (by decide))
        unfold g_X11_bestLag_b96
        unfold g_X11_bestLag_b100
        refine tot_let (fun v_49 e_v_49 => ?_)
        have q_v_49 := i_add e_v_49 (by omega) (by omega)
        exact ih T_46 l5 v_49 h_T_46 x_T_46 (by omega) (by omega) (by omega)
set_option maxHeartbeats 4000000 in
set_option maxRecDepth 10000 in
theorem cs_X11_bestLag {R : Nat → Nat} {B K1 K2 : Nat} (T : AT) (o : Nat) (a0 : Int32) (a1 : Int32) (a2 : Int32) (h_T : IV R B K1 K2 T) (k_o : R o = 11) : Tot (g_X11_bestLag T o a0 a1 a2) (fun r => (IV R B K1 K2 r.2.2 ∧ FW R [3202] T r.2.2) ∧ (r.1 = 0 → (0 ≤ r.2.1.toInt ∧ r.2.1.toInt ≤ 199))) := by
  have z0 : (1 : Int32).toInt = 1 := by decide
  have z1 : ((0 : Int32) : Int32).toInt = 0 := by decide
  have z2 : (0 : Int32).toInt = 0 := by decide
  have cc_101 : cnt 101 = 1 := rfl
  have cc_102 : cnt 102 = 12 := rfl
  have cc_103 : cnt 103 = 144 := rfl
  have cc_104 : cnt 104 = 2400 := rfl
  have cc_105 : cnt 105 = 7200 := rfl
  have x_T : FW R [3202] T T := FW.rf
  have j_a0 := i_any a0
  have j_a1 := i_any a1
  have j_a2 := i_any a2
  unfold g_X11_bestLag
  refine tot_oif (iv_oO h_T k_o (by decide) (by decide) rfl) ?_
  refine tot_thrp (Q := fun r_1 : Int32 => (0 ≤ r_1.toInt ∧ r_1.toInt ≤ 0)) (cs_X11_needCamera T o h_T k_o ) (fun r_1 d_r_1 => ?_) (fun k_ => ⟨⟨h_T, x_T⟩, fun q_ => absurd q_ (Nat.succ_ne_zero k_)⟩)
  replace d_r_1 : (0 ≤ r_1.toInt ∧ r_1.toInt ≤ 0) := d_r_1
  refine tot_oif (iv_oO h_T k_o (by decide) (by decide) rfl) ?_
  refine tot_thrp (Q := fun r_3 : Int32 => (0 ≤ a0.toInt ∧ a0.toInt ≤ 11)) (cs_X11_needMic T o a0 h_T k_o ) (fun r_3 d_r_3 => ?_) (fun k_ => ⟨⟨h_T, x_T⟩, fun q_ => absurd q_ (Nat.succ_ne_zero k_)⟩)
  replace d_r_3 : (0 ≤ a0.toInt ∧ a0.toInt ≤ 11) := d_r_3
  refine tot_oif (iv_oO h_T k_o (by decide) (by decide) rfl) ?_
  refine tot_thrp (Q := fun r_5 : Int32 => (0 ≤ a1.toInt ∧ a1.toInt ≤ 11)) (cs_X11_needMic T o a1 h_T k_o ) (fun r_5 d_r_5 => ?_) (fun k_ => ⟨⟨h_T, x_T⟩, fun q_ => absurd q_ (Nat.succ_ne_zero k_)⟩)
  replace d_r_5 : (0 ≤ a1.toInt ∧ a1.toInt ≤ 11) := d_r_5
  refine tot_oif (iv_oO h_T k_o (by decide) (by decide) rfl) ?_
  refine tot_ref h_T k_o (by decide) (by decide) (r2 := 6) (rfl : rtg 11 14 = 6) (by decide) (fun n_7 k_n_7 e_n_7 => ?_)
  refine tot_oif (iv_oO h_T k_n_7 (by decide) (by decide) rfl) ?_
  refine tot_let (fun v_8 e_v_8 => ?_)
  have r_v_8 : 0 ≤ v_8.toInt ∧ v_8.toInt ≤ 200 := iv_int h_T k_n_7 (by decide) (by decide) e_v_8 rfl
  refine tot_let (fun v_9 e_v_9 => ?_)
  have q_v_9 := i_sub e_v_9 (by omega) (by omega)
  refine tot_thrp (Q := fun r_10 : Int32 => (((0 : Int32) : Int32).toInt ≤ a2.toInt ∧ a2.toInt ≤ v_9.toInt)) (cs_X11_needRange T a2 (0 : Int32) v_9 h_T ) (fun r_10 d_r_10 => ?_) (fun k_ => ⟨⟨h_T, x_T⟩, fun q_ => absurd q_ (Nat.succ_ne_zero k_)⟩)
  replace d_r_10 : (((0 : Int32) : Int32).toInt ≤ a2.toInt ∧ a2.toInt ≤ v_9.toInt) := d_r_10
  refine tot_oif (iv_oO h_T k_o (by decide) (by decide) rfl) ?_
  refine tot_ref h_T k_o (by decide) (by decide) (r2 := 8) (rfl : rtg 11 6 = 8) (by decide) (fun n_12 k_n_12 e_n_12 => ?_)
  refine tot_oif (iv_oO h_T k_o (by decide) (by decide) rfl) ?_
  refine tot_ref h_T k_o (by decide) (by decide) (r2 := 102) (rfl : rtg 11 12 = 102) (by decide) (fun n_13 k_n_13 e_n_13 => ?_)
  refine tot_oif (iv_oO h_T k_n_12 (by decide) (by decide) rfl) ?_
  refine tot_bind (cs_X8_productSum T n_12 a0 a1 (0 : Int32) n_13 (0 : Int32) h_T k_n_12 k_n_13 (rfl : isW 102 = true) (by omega) (by omega) (by omega) (by omega) (by omega)) (fun T_14 d_T_14 => ?_)
  have h_T_14 : IV R B K1 K2 T_14 := d_T_14.1
  have y_T_14 : FW R [3202] T T_14 := d_T_14.2
  have x_T_14 := x_T.tr (y_T_14.w (by decide))
  unfold g_X11_bestLag_b46
  refine cl_X11_bestLag_b49 o a0 a1 a2 T k_o (fun k_ U_ i_ x_ => ⟨⟨i_, x_⟩, fun q_ => absurd q_ (Nat.succ_ne_zero k_)⟩) (by omega) (by omega) (by omega) ?_ 16384 T_14 0 1 h_T_14 x_T_14 (by omega) (by omega) (by omega)
  · intro T_50 l_51 h_T_50 x_T_50 g_l_51
    exact tot_some ⟨⟨h_T_50, x_T_50⟩, fun _ => (show (0 ≤ l_51.toInt ∧ l_51.toInt ≤ 199) from by omega)⟩
set_option maxHeartbeats 4000000 in
set_option maxRecDepth 10000 in
theorem cs_X11_measureLevel {R : Nat → Nat} {B K1 K2 : Nat} (T : AT) (o : Nat) (a0 : Int32) (h_T : IV R B K1 K2 T) (k_o : R o = 11) (g0 : 0 ≤ a0.toInt ∧ a0.toInt ≤ 11) : Tot (g_X11_measureLevel T o a0) (fun T1 => IV R B K1 K2 T1 ∧ FW R [3202] T T1) := by
  have z0 : ((0 : Int32) : Int32).toInt = 0 := by decide
  have cc_101 : cnt 101 = 1 := rfl
  have cc_102 : cnt 102 = 12 := rfl
  have cc_103 : cnt 103 = 144 := rfl
  have cc_104 : cnt 104 = 2400 := rfl
  have cc_105 : cnt 105 = 7200 := rfl
  have x_T : FW R [3202] T T := FW.rf
  have j_a0 := i_any a0
  unfold g_X11_measureLevel
  refine tot_oif (iv_oO h_T k_o (by decide) (by decide) rfl) ?_
  refine tot_ref h_T k_o (by decide) (by decide) (r2 := 8) (rfl : rtg 11 6 = 8) (by decide) (fun n_1 k_n_1 e_n_1 => ?_)
  refine tot_oif (iv_oO h_T k_o (by decide) (by decide) rfl) ?_
  refine tot_ref h_T k_o (by decide) (by decide) (r2 := 102) (rfl : rtg 11 12 = 102) (by decide) (fun n_2 k_n_2 e_n_2 => ?_)
  refine tot_oif (iv_oO h_T k_n_1 (by decide) (by decide) rfl) ?_
  refine tot_bind (cs_X8_productSum T n_1 a0 a0 (0 : Int32) n_2 a0 h_T k_n_1 k_n_2 (rfl : isW 102 = true) (by omega) (by omega) (by omega) (by omega) (by omega)) (fun T_3 d_T_3 => ?_)
  have h_T_3 : IV R B K1 K2 T_3 := d_T_3.1
  have y_T_3 : FW R [3202] T T_3 := d_T_3.2
  have x_T_3 := x_T.tr (y_T_3.w (by decide))
  unfold g_X11_measureLevel_b15
  refine tot_oif (iv_oO h_T_3 k_o (by decide) (by decide) rfl) ?_
  refine tot_ref h_T_3 k_o (by decide) (by decide) (r2 := 102) (rfl : rtg 11 12 = 102) (by decide) (fun n_4 k_n_4 e_n_4 => ?_)
  refine tot_oif (iv_oO h_T_3 k_o (by decide) (by decide) rfl) ?_
  refine tot_ref h_T_3 k_o (by decide) (by decide) (r2 := 6) (rfl : rtg 11 14 = 6) (by decide) (fun n_5 k_n_5 e_n_5 => ?_)
  refine tot_oif (iv_oO h_T_3 k_n_5 (by decide) (by decide) rfl) ?_
  refine tot_let (fun v_6 e_v_6 => ?_)
  have r_v_6 : 0 ≤ v_6.toInt ∧ v_6.toInt ≤ 200 := iv_int h_T_3 k_n_5 (by decide) (by decide) e_v_6 rfl
  refine tot_oif (w_oO h_T_3 k_n_4 (rfl : isW 102 = true)) ?_
  refine tot_bind (c_divide (a0 := a0) (a1 := v_6) k_n_4 (rfl : isW 102 = true) h_T_3 (by omega)) (fun T_7 d_T_7 => ?_)
  have h_T_7 : IV R B K1 K2 T_7 := d_T_7.1
  have y_T_7 : FW R [3202] T_3 T_7 := (fw_wx d_T_7.2 k_n_4 (rfl : isW 102 = true) (by decide))
  have x_T_7 := x_T_3.tr (y_T_7.w (by decide))
  unfold g_X11_measureLevel_b30
  exact tot_some ⟨h_T_7, x_T_7⟩
set_option maxHeartbeats 4000000 in
set_option maxRecDepth 10000 in
theorem cs_X11_level {R : Nat → Nat} {B K1 K2 : Nat} (T : AT) (o : Nat) (a0 : Int32) (h_T : IV R B K1 K2 T) (k_o : R o = 11) : Tot (g_X11_level T o a0) (fun r => (IV R B K1 K2 r.2.2 ∧ FW R [3202] T r.2.2) ∧ (r.1 = 0 → True)) := by
  have cc_101 : cnt 101 = 1 := rfl
  have cc_102 : cnt 102 = 12 := rfl
  have cc_103 : cnt 103 = 144 := rfl
  have cc_104 : cnt 104 = 2400 := rfl
  have cc_105 : cnt 105 = 7200 := rfl
  have x_T : FW R [3202] T T := FW.rf
  have j_a0 := i_any a0
  unfold g_X11_level
  refine tot_oif (iv_oO h_T k_o (by decide) (by decide) rfl) ?_
  refine tot_thrp (Q := fun r_1 : Int32 => (0 ≤ r_1.toInt ∧ r_1.toInt ≤ 0)) (cs_X11_needCamera T o h_T k_o ) (fun r_1 d_r_1 => ?_) (fun k_ => ⟨⟨h_T, x_T⟩, fun q_ => absurd q_ (Nat.succ_ne_zero k_)⟩)
  replace d_r_1 : (0 ≤ r_1.toInt ∧ r_1.toInt ≤ 0) := d_r_1
  refine tot_oif (iv_oO h_T k_o (by decide) (by decide) rfl) ?_
  refine tot_thrp (Q := fun r_3 : Int32 => (0 ≤ a0.toInt ∧ a0.toInt ≤ 11)) (cs_X11_needMic T o a0 h_T k_o ) (fun r_3 d_r_3 => ?_) (fun k_ => ⟨⟨h_T, x_T⟩, fun q_ => absurd q_ (Nat.succ_ne_zero k_)⟩)
  replace d_r_3 : (0 ≤ a0.toInt ∧ a0.toInt ≤ 11) := d_r_3
  refine tot_oif (iv_oO h_T k_o (by decide) (by decide) rfl) ?_
  refine tot_bind (cs_X11_measureLevel T o a0 h_T k_o (by omega)) (fun T_5 d_T_5 => ?_)
  have h_T_5 : IV R B K1 K2 T_5 := d_T_5.1
  have y_T_5 : FW R [3202] T T_5 := d_T_5.2
  have x_T_5 := x_T.tr (y_T_5.w (by decide))
  unfold g_X11_level_b14
  refine tot_oif (iv_oO h_T_5 k_o (by decide) (by decide) rfl) ?_
  refine tot_ref h_T_5 k_o (by decide) (by decide) (r2 := 102) (rfl : rtg 11 12 = 102) (by decide) (fun n_6 k_n_6 e_n_6 => ?_)
  refine tot_oif (w_oO h_T_5 k_n_6 (rfl : isW 102 = true)) ?_
  refine tot_bindq (R := fun r_7 : Int64 => True) (c_value (a0 := a0) k_n_6 (rfl : isW 102 = true) h_T_5 (by omega)) (fun r_7 d_r_7 => ?_)
  exact tot_some ⟨⟨h_T_5, x_T_5⟩, fun _ => trivial⟩
set_option maxHeartbeats 4000000 in
set_option maxRecDepth 10000 in
theorem cl_X11_loudest_b17 {R : Nat → Nat} {B K1 K2 : Nat} {Q : Nat × Int32 × AT → Prop} (l0 : Nat) (l1 : Int32) (T00 : AT) (k_l0 : R l0 = 11) (hthr : ∀ (k : Nat) (U : AT), IV R B K1 K2 U → FW R [3202] T00 U → Q (k + 1, 0, U)) (g0 : 0 ≤ l1.toInt ∧ l1.toInt ≤ 11) (hx0 : ∀ (T : AT), (IV R B K1 K2 T) → (FW R [3202] T00 T) → Tot (oif (oO T l0 11 = true) <| obind (T.2.2.2.2 l0 12) fun n_27 => oif (oO T l0 11 = true) <| obind (T.2.2.2.2 l0 14) fun n_28 => oif (oO T n_28 6 = true) <| elet (T.2.2.1 n_28 5) fun v_29 => oif (oO T n_27 10 = true) <| obind2 (g_X10_ranked T n_27 v_29 l1) fun r_30 T_31 => some (0, r_30, T_31)) Q) : ∀ (n : Nat) (T : AT) (l2 : Int32), (IV R B K1 K2 T) → (FW R [3202] T00 T) → (0 ≤ l2.toInt ∧ l2.toInt ≤ 12) → 12 - l2.toInt < (n : Int) → Tot (g_X11_loudest_b17 n T l0 l1 l2) Q := by
  have z0 : (Int32.ofInt (1) : Int32).toInt = 1 := by decide
  have cc_101 : cnt 101 = 1 := rfl
  have cc_102 : cnt 102 = 12 := rfl
  have cc_103 : cnt 103 = 144 := rfl
  have cc_104 : cnt 104 = 2400 := rfl
  have cc_105 : cnt 105 = 7200 := rfl
  have j_l1 := i_any l1
  intro n
  induction n with
  | zero =>
    intro T l2 h_T x_T g_l2 hm
    exfalso
    omega
  | succ n ih =>
    intro T l2 h_T x_T g_l2 hm
    unfold g_X11_loudest_b17
    refine tot_oif (iv_oO h_T k_l0 (by decide) (by decide) rfl) ?_
    refine tot_ref h_T k_l0 (by decide) (by decide) (r2 := 6) (rfl : rtg 11 14 = 6) (by decide) (fun n_25 k_n_25 e_n_25 => ?_)
    refine tot_oif (iv_oO h_T k_n_25 (by decide) (by decide) rfl) ?_
    refine tot_let (fun v_26 e_v_26 => ?_)
    have r_v_26 : 0 ≤ v_26.toInt ∧ v_26.toInt ≤ 12 := iv_int h_T k_n_25 (by decide) (by decide) e_v_26 rfl
    refine tot_if (fun c_33 => ?_) (fun c_33 => ?_)
    · replace c_33 := i_le c_33
      exact hx0 T h_T x_T
    · replace c_33 := i_nle c_33
      refine tot_oif (iv_oO h_T k_l0 (by decide) (by decide) rfl) ?_
      refine tot_bind (cs_X11_measureLevel T l0 l2 h_T k_l0 (by omega)) (fun T_32 d_T_32 => ?_)
      have h_T_32 : IV R B K1 K2 T_32 := d_T_32.1
      have y_T_32 : FW R [3202] T T_32 := d_T_32.2
      have x_T_32 := x_T.tr (y_T_32.w (by decide))
      unfold g_X11_loudest_b33
      refine tot_let (fun v_34 e_v_34 => ?_)
      have q_v_34 := i_add e_v_34 (by omega) (by omega)
      exact ih T_32 v_34 h_T_32 x_T_32 (by omega) (by omega)
set_option maxHeartbeats 4000000 in
set_option maxRecDepth 10000 in
theorem cs_X11_loudest {R : Nat → Nat} {B K1 K2 : Nat} (T : AT) (o : Nat) (a0 : Int32) (h_T : IV R B K1 K2 T) (k_o : R o = 11) : Tot (g_X11_loudest T o a0) (fun r => (IV R B K1 K2 r.2.2 ∧ FW R [3202] T r.2.2) ∧ (r.1 = 0 → (-1 ≤ r.2.1.toInt ∧ r.2.1.toInt ≤ 11))) := by
  have z0 : (0 : Int32).toInt = 0 := by decide
  have cc_101 : cnt 101 = 1 := rfl
  have cc_102 : cnt 102 = 12 := rfl
  have cc_103 : cnt 103 = 144 := rfl
  have cc_104 : cnt 104 = 2400 := rfl
  have cc_105 : cnt 105 = 7200 := rfl
  have x_T : FW R [3202] T T := FW.rf
  have j_a0 := i_any a0
  unfold g_X11_loudest
  refine tot_oif (iv_oO h_T k_o (by decide) (by decide) rfl) ?_
  refine tot_thrp (Q := fun r_1 : Int32 => (0 ≤ r_1.toInt ∧ r_1.toInt ≤ 0)) (cs_X11_needCamera T o h_T k_o ) (fun r_1 d_r_1 => ?_) (fun k_ => ⟨⟨h_T, x_T⟩, fun q_ => absurd q_ (Nat.succ_ne_zero k_)⟩)
  replace d_r_1 : (0 ≤ r_1.toInt ∧ r_1.toInt ≤ 0) := d_r_1
  refine tot_oif (iv_oO h_T k_o (by decide) (by decide) rfl) ?_
  refine tot_ref h_T k_o (by decide) (by decide) (r2 := 6) (rfl : rtg 11 14 = 6) (by decide) (fun n_3 k_n_3 e_n_3 => ?_)
  refine tot_oif (iv_oO h_T k_n_3 (by decide) (by decide) rfl) ?_
  refine tot_let (fun v_4 e_v_4 => ?_)
  have r_v_4 : 0 ≤ v_4.toInt ∧ v_4.toInt ≤ 12 := iv_int h_T k_n_3 (by decide) (by decide) e_v_4 rfl
  refine tot_thrp (Q := fun r_5 : Int32 => (0 ≤ a0.toInt ∧ a0.toInt < v_4.toInt)) (cs_X11_needIndex T a0 v_4 h_T ) (fun r_5 d_r_5 => ?_) (fun k_ => ⟨⟨h_T, x_T⟩, fun q_ => absurd q_ (Nat.succ_ne_zero k_)⟩)
  replace d_r_5 : (0 ≤ a0.toInt ∧ a0.toInt < v_4.toInt) := d_r_5
  refine cl_X11_loudest_b17 o a0 T k_o (fun k_ U_ i_ x_ => ⟨⟨i_, x_⟩, fun q_ => absurd q_ (Nat.succ_ne_zero k_)⟩) (by omega) ?_ 16384 T 0 h_T x_T (by omega) (by omega)
  · intro T_35 h_T_35 x_T_35
    refine tot_oif (iv_oO h_T_35 k_o (by decide) (by decide) rfl) ?_
    refine tot_ref h_T_35 k_o (by decide) (by decide) (r2 := 102) (rfl : rtg 11 12 = 102) (by decide) (fun n_36 k_n_36 e_n_36 => ?_)
    refine tot_oif (iv_oO h_T_35 k_o (by decide) (by decide) rfl) ?_
    refine tot_ref h_T_35 k_o (by decide) (by decide) (r2 := 6) (rfl : rtg 11 14 = 6) (by decide) (fun n_37 k_n_37 e_n_37 => ?_)
    refine tot_oif (iv_oO h_T_35 k_n_37 (by decide) (by decide) rfl) ?_
    refine tot_let (fun v_38 e_v_38 => ?_)
    have r_v_38 : 0 ≤ v_38.toInt ∧ v_38.toInt ≤ 12 := iv_int h_T_35 k_n_37 (by decide) (by decide) e_v_38 rfl
    refine tot_oif (w_oO h_T_35 k_n_36 (rfl : isW 102 = true)) ?_
    refine tot_bindq (R := fun r_39 : Int32 => r_39.toInt = -1 ∨ 0 ≤ r_39.toInt ∧ r_39.toInt < v_38.toInt) (c_ranked (a0 := v_38) (a1 := a0) k_n_36 (rfl : isW 102 = true) h_T_35 (by omega)) (fun r_39 d_r_39 => ?_)
    replace d_r_39 : r_39.toInt = -1 ∨ 0 ≤ r_39.toInt ∧ r_39.toInt < v_38.toInt := d_r_39
    exact tot_some ⟨⟨h_T_35, x_T_35⟩, fun _ => (show (-1 ≤ r_39.toInt ∧ r_39.toInt ≤ 11) from by omega)⟩
set_option maxHeartbeats 4000000 in
set_option maxRecDepth 10000 in
theorem cs_X11_addMapByte {R : Nat → Nat} {B K1 K2 : Nat} (T : AT) (o : Nat) (a0 : Int32) (h_T : IV R B K1 K2 T) (k_o : R o = 11) (g0 : 48 ≤ a0.toInt ∧ a0.toInt ≤ 59) : Tot (g_X11_addMapByte T o a0) (fun T1 => IV R B K1 K2 T1 ∧ FW R [370, 1664] T T1) := by
  have z0 : (1 : Int32).toInt = 1 := by decide
  have cc_101 : cnt 101 = 1 := rfl
  have cc_102 : cnt 102 = 12 := rfl
  have cc_103 : cnt 103 = 144 := rfl
  have cc_104 : cnt 104 = 2400 := rfl
  have cc_105 : cnt 105 = 7200 := rfl
  have x_T : FW R [370, 1664] T T := FW.rf
  have j_a0 := i_any a0
  unfold g_X11_addMapByte
  refine tot_oif (iv_oO h_T k_o (by decide) (by decide) rfl) ?_
  refine tot_let (fun v_1 e_v_1 => ?_)
  have q_v_1 := i_eq e_v_1
  have r_v_1 : 0 ≤ v_1.toInt ∧ v_1.toInt ≤ 155 := iv_int h_T k_o (by decide) (by decide) e_v_1 rfl
  refine tot_oif (iv_oO h_T k_o (by decide) (by decide) rfl) ?_
  refine tot_ref h_T k_o (by decide) (by decide) (r2 := 52) (rfl : rtg 11 13 = 52) (by decide) (fun n_2 k_n_2 e_n_2 => ?_)
  refine tot_oif (iv_aA h_T k_n_2 (by decide) (by decide) rfl rfl) ?_
  refine tot_let (fun v_3 e_v_3 => ?_)
  have q_v_3 : v_3.toInt = 155 := by rw [e_v_3, iv_len h_T k_n_2 (by decide) (by decide) (rfl : shp 52 = (100, 155))]; decide
  refine tot_if (fun c_10 => ?_) (fun c_10 => ?_)
  · replace c_10 := i_le c_10
    unfold g_X11_addMapByte_b32
    exact tot_some ⟨h_T, x_T⟩
  · replace c_10 := i_nle c_10
    refine tot_oif (iv_oO h_T k_o (by decide) (by decide) rfl) ?_
    refine tot_ref1 e_n_2 ?_
    refine tot_oif (iv_oO h_T k_o (by decide) (by decide) rfl) ?_
    refine tot_let (fun v_5 e_v_5 => ?_)
    have u_v_5 : v_5.toInt = v_1.toInt := by rw [e_v_5, e_v_1]
    have q_v_5 := i_eq e_v_5
    have r_v_5 : 0 ≤ v_5.toInt ∧ v_5.toInt ≤ 155 := iv_int h_T k_o (by decide) (by decide) e_v_5 rfl
    refine tot_oif (iv_aA h_T k_n_2 (by decide) (by decide) rfl rfl) ?_
    refine tot_oif (by rw [iv_len h_T k_n_2 (by decide) (by decide) (rfl : shp 52 = (100, 155))]; exact i_inb (by omega) (by omega)) ?_
    refine tot_let (fun T_6 e_T_6 => ?_)
    have ja_T_6 := i_any a0
    have h_T_6 : IV R B K1 K2 T_6 := by rw [e_T_6]; exact iv_uI (a := -2147483648) (b := 2147483647) h_T k_n_2 (by decide) (by decide) rfl (by omega) (.inl rfl)
    have x_T_6 := x_T.tr (fw_uA e_T_6 k_n_2 rfl rfl (by decide))
    have f_T_6_o_18 : (T_6.2.2.1 o 18).toInt = (T.2.2.1 o 18).toInt := congrArg Int32.toInt ((fw_uA (W := [1664]) e_T_6 k_n_2 rfl rfl (by decide)) o 18 (by rw [k_o]; decide))
    refine tot_oif (iv_oO h_T_6 k_o (by decide) (by decide) rfl) ?_
    refine tot_let (fun v_7 e_v_7 => ?_)
    have q_v_7 := i_eq e_v_7
    have r_v_7 : 0 ≤ v_7.toInt ∧ v_7.toInt ≤ 155 := iv_int h_T_6 k_o (by decide) (by decide) e_v_7 rfl
    refine tot_let (fun v_8 e_v_8 => ?_)
    have q_v_8 := i_add e_v_8 (by omega) (by omega)
    refine tot_oif (iv_oO h_T_6 k_o (by decide) (by decide) rfl) ?_
    refine tot_let (fun T_9 e_T_9 => ?_)
    have h_T_9 : IV R B K1 K2 T_9 := by rw [e_T_9]; exact iv_uI (a := 0) (b := 155) h_T_6 k_o (by decide) (by decide) rfl (by omega) (.inl rfl)
    have x_T_9 := x_T_6.tr (fw_uI e_T_9 k_o (by decide))
    have f_T_9_o_18 : (T_9.2.2.1 o 18).toInt = (v_8 : Int32).toInt := by rw [e_T_9]; exact congrArg Int32.toInt (uI_at _ _ _ _)
    unfold g_X11_addMapByte_b32
    exact tot_some ⟨h_T_9, x_T_9⟩
set_option maxHeartbeats 4000000 in
set_option maxRecDepth 10000 in
theorem cl_X11_writeMap_b16 {R : Nat → Nat} {B K1 K2 : Nat} {Q : Nat × Int32 × AT → Prop} (l0 : Nat) (l1 : Nat) (T00 : AT) (k_l0 : R l0 = 11) (k_l1 : R l1 = 4) (hthr : ∀ (k : Nat) (U : AT), IV R B K1 K2 U → FW R [128, 130, 131, 370, 1664, 1952, 2144, 3202] T00 U → Q (k + 1, 0, U)) (hx0 : ∀ (T : AT), (IV R B K1 K2 T) → (FW R [128, 130, 131, 370, 1664, 1952, 2144, 3202] T00 T) → Tot (oif (oO T l0 11 = true) <| elet (T.2.2.1 l0 18) fun v_66 => some (0, v_66, T)) Q) : ∀ (n : Nat) (T : AT) (l2 : Int32), (IV R B K1 K2 T) → (FW R [128, 130, 131, 370, 1664, 1952, 2144, 3202] T00 T) → (0 ≤ l2.toInt ∧ l2.toInt ≤ 144) → 144 - l2.toInt < (n : Int) → Tot (g_X11_writeMap_b16 n T l0 l1 l2) Q := by
  have z0 : (0 : Int32).toInt = 0 := by decide
  have z1 : (48 : Int32).toInt = 48 := by decide
  have z2 : (Int32.ofInt (1) : Int32).toInt = 1 := by decide
  have z3 : ((59 : Int32) : Int32).toInt = 59 := by decide
  have cc_101 : cnt 101 = 1 := rfl
  have cc_102 : cnt 102 = 12 := rfl
  have cc_103 : cnt 103 = 144 := rfl
  have cc_104 : cnt 104 = 2400 := rfl
  have cc_105 : cnt 105 = 7200 := rfl
  intro n
  induction n with
  | zero =>
    intro T l2 h_T x_T g_l2 hm
    exfalso
    omega
  | succ n ih =>
    intro T l2 h_T x_T g_l2 hm
    unfold g_X11_writeMap_b16
    refine tot_oif (iv_oO h_T k_l0 (by decide) (by decide) rfl) ?_
    refine tot_ref h_T k_l0 (by decide) (by decide) (r2 := 6) (rfl : rtg 11 14 = 6) (by decide) (fun n_62 k_n_62 e_n_62 => ?_)
    refine tot_oif (iv_oO h_T k_n_62 (by decide) (by decide) rfl) ?_
    refine tot_ref h_T k_n_62 (by decide) (by decide) (r2 := 1) (rfl : rtg 6 6 = 1) (by decide) (fun n_63 k_n_63 e_n_63 => ?_)
    refine tot_oif (iv_oO h_T k_n_63 (by decide) (by decide) rfl) ?_
    refine tot_bindq (R := fun r_64 : Int32 => (0 ≤ r_64.toInt ∧ r_64.toInt ≤ 144)) (cs_X1_cells T n_63 h_T k_n_63 ) (fun r_64 d_r_64 => ?_)
    replace d_r_64 : (0 ≤ r_64.toInt ∧ r_64.toInt ≤ 144) := d_r_64
    refine tot_if (fun c_72 => ?_) (fun c_72 => ?_)
    · replace c_72 := i_le c_72
      exact hx0 T h_T x_T
    · replace c_72 := i_nle c_72
      refine tot_if (fun c_73 => ?_) (fun c_73 => ?_)
      · replace c_73 := i_le c_73
        unfold g_X11_writeMap_b54
        refine tot_oif (iv_oO h_T k_l0 (by decide) (by decide) rfl) ?_
        refine tot_ref h_T k_l0 (by decide) (by decide) (r2 := 102) (rfl : rtg 11 12 = 102) (by decide) (fun n_74 k_n_74 e_n_74 => ?_)
        refine tot_oif (iv_oO h_T k_l1 (by decide) (by decide) rfl) ?_
        refine tot_bind2 (cs_X4_digit T l1 l2 n_74 h_T k_l1 k_n_74 (rfl : isW 102 = true) (by omega) (by omega)) (fun r_75 T_76 d_r_75 => ?_)
        have h_T_76 : IV R B K1 K2 T_76 := d_r_75.1.1
        have y_T_76 : FW R [3202] T T_76 := d_r_75.1.2
        have x_T_76 := x_T.tr (y_T_76.w (by decide))
        replace d_r_75 : (0 ≤ r_75.toInt ∧ r_75.toInt ≤ 9) := d_r_75.2
        unfold g_X11_writeMap_b66
        refine tot_let (fun v_77 e_v_77 => ?_)
        have q_v_77 := i_add e_v_77 (by omega) (by omega)
        refine tot_oif (iv_oO h_T_76 k_l0 (by decide) (by decide) rfl) ?_
        refine tot_bind (cs_X11_addMapByte T_76 l0 v_77 h_T_76 k_l0 (by omega)) (fun T_78 d_T_78 => ?_)
        have h_T_78 : IV R B K1 K2 T_78 := d_T_78.1
        have y_T_78 : FW R [370, 1664] T_76 T_78 := d_T_78.2
        have x_T_78 := x_T_76.tr (y_T_78.w (by decide))
        refine tot_let (fun v_79 e_v_79 => ?_)
        have q_v_79 := i_add e_v_79 (by omega) (by omega)
        exact ih T_78 v_79 h_T_78 x_T_78 (by omega) (by omega)
      · replace c_73 := i_nle c_73
        refine tot_oif (iv_oO h_T k_l0 (by decide) (by decide) rfl) ?_
        refine tot_ref1 e_n_62 ?_
        refine tot_oif (iv_oO h_T k_n_62 (by decide) (by decide) rfl) ?_
        refine tot_ref1 e_n_63 ?_
        refine tot_oif (iv_oO h_T k_n_63 (by decide) (by decide) rfl) ?_
        refine tot_bindq (R := fun r_69 : Int32 => (0 ≤ r_69.toInt ∧ r_69.toInt ≤ 11)) (cs_X1_columnOf T n_63 l2 h_T k_n_63 (by omega)) (fun r_69 d_r_69 => ?_)
        replace d_r_69 : (0 ≤ r_69.toInt ∧ r_69.toInt ≤ 11) := d_r_69
        refine tot_if (fun c_80 => ?_) (fun c_80 => ?_)
        · replace c_80 := i_eq c_80
          refine tot_oif (iv_oO h_T k_l0 (by decide) (by decide) rfl) ?_
          refine tot_bind (cs_X11_addMapByte T l0 (59 : Int32) h_T k_l0 (by omega)) (fun T_71 d_T_71 => ?_)
          have h_T_71 : IV R B K1 K2 T_71 := d_T_71.1
          have y_T_71 : FW R [370, 1664] T T_71 := d_T_71.2
          have x_T_71 := x_T.tr (y_T_71.w (by decide))
          unfold g_X11_writeMap_b54
          refine tot_oif (iv_oO h_T_71 k_l0 (by decide) (by decide) rfl) ?_
          refine tot_ref h_T_71 k_l0 (by decide) (by decide) (r2 := 102) (rfl : rtg 11 12 = 102) (by decide) (fun n_81 k_n_81 e_n_81 => ?_)
          refine tot_oif (iv_oO h_T_71 k_l1 (by decide) (by decide) rfl) ?_
          refine tot_bind2 (cs_X4_digit T_71 l1 l2 n_81 h_T_71 k_l1 k_n_81 (rfl : isW 102 = true) (by omega) (by omega)) (fun r_82 T_83 d_r_82 => ?_)
          have h_T_83 : IV R B K1 K2 T_83 := d_r_82.1.1
          have y_T_83 : FW R [3202] T_71 T_83 := d_r_82.1.2
          have x_T_83 := x_T_71.tr (y_T_83.w (by decide))
          replace d_r_82 : (0 ≤ r_82.toInt ∧ r_82.toInt ≤ 9) := d_r_82.2
          unfold g_X11_writeMap_b66
          refine tot_let (fun v_84 e_v_84 => ?_)
          have q_v_84 := i_add e_v_84 (by omega) (by omega)
          refine tot_oif (iv_oO h_T_83 k_l0 (by decide) (by decide) rfl) ?_
          refine tot_bind (cs_X11_addMapByte T_83 l0 v_84 h_T_83 k_l0 (by omega)) (fun T_85 d_T_85 => ?_)
          have h_T_85 : IV R B K1 K2 T_85 := d_T_85.1
          have y_T_85 : FW R [370, 1664] T_83 T_85 := d_T_85.2
          have x_T_85 := x_T_83.tr (y_T_85.w (by decide))
          refine tot_let (fun v_86 e_v_86 => ?_)
          have q_v_86 := i_add e_v_86 (by omega) (by omega)
          exact ih T_85 v_86 h_T_85 x_T_85 (by omega) (by omega)
        · replace c_80 := i_ne c_80
          unfold g_X11_writeMap_b54
          refine tot_oif (iv_oO h_T k_l0 (by decide) (by decide) rfl) ?_
          refine tot_ref h_T k_l0 (by decide) (by decide) (r2 := 102) (rfl : rtg 11 12 = 102) (by decide) (fun n_87 k_n_87 e_n_87 => ?_)
          refine tot_oif (iv_oO h_T k_l1 (by decide) (by decide) rfl) ?_
          refine tot_bind2 (cs_X4_digit T l1 l2 n_87 h_T k_l1 k_n_87 (rfl : isW 102 = true) (by omega) (by omega)) (fun r_88 T_89 d_r_88 => ?_)
          have h_T_89 : IV R B K1 K2 T_89 := d_r_88.1.1
          have y_T_89 : FW R [3202] T T_89 := d_r_88.1.2
          have x_T_89 := x_T.tr (y_T_89.w (by decide))
          replace d_r_88 : (0 ≤ r_88.toInt ∧ r_88.toInt ≤ 9) := d_r_88.2
          unfold g_X11_writeMap_b66
          refine tot_let (fun v_90 e_v_90 => ?_)
          have q_v_90 := i_add e_v_90 (by omega) (by omega)
          refine tot_oif (iv_oO h_T_89 k_l0 (by decide) (by decide) rfl) ?_
          refine tot_bind (cs_X11_addMapByte T_89 l0 v_90 h_T_89 k_l0 (by omega)) (fun T_91 d_T_91 => ?_)
          have h_T_91 : IV R B K1 K2 T_91 := d_T_91.1
          have y_T_91 : FW R [370, 1664] T_89 T_91 := d_T_91.2
          have x_T_91 := x_T_89.tr (y_T_91.w (by decide))
          refine tot_let (fun v_92 e_v_92 => ?_)
          have q_v_92 := i_add e_v_92 (by omega) (by omega)
          exact ih T_91 v_92 h_T_91 x_T_91 (by omega) (by omega)
set_option maxHeartbeats 4000000 in
set_option maxRecDepth 10000 in
theorem cs_X11_writeMap {R : Nat → Nat} {B K1 K2 : Nat} (T : AT) (o : Nat) (h_T : IV R B K1 K2 T) (k_o : R o = 11) : Tot (g_X11_writeMap T o) (fun r => (IV R B K1 K2 r.2.2 ∧ FW R [128, 130, 131, 370, 1664, 1952, 2144, 3202] T r.2.2) ∧ (r.1 = 0 → (0 ≤ r.2.1.toInt ∧ r.2.1.toInt ≤ 155))) := by
  have z0 : (0 : Int32).toInt = 0 := by decide
  have cc_101 : cnt 101 = 1 := rfl
  have cc_102 : cnt 102 = 12 := rfl
  have cc_103 : cnt 103 = 144 := rfl
  have cc_104 : cnt 104 = 2400 := rfl
  have cc_105 : cnt 105 = 7200 := rfl
  have x_T : FW R [128, 130, 131, 370, 1664, 1952, 2144, 3202] T T := FW.rf
  unfold g_X11_writeMap
  refine tot_oif (iv_oO h_T k_o (by decide) (by decide) rfl) ?_
  refine tot_thrp (Q := fun r_1 : Int32 => (0 ≤ r_1.toInt ∧ r_1.toInt ≤ 0)) (cs_X11_needCamera T o h_T k_o ) (fun r_1 d_r_1 => ?_) (fun k_ => ⟨⟨h_T, x_T⟩, fun q_ => absurd q_ (Nat.succ_ne_zero k_)⟩)
  replace d_r_1 : (0 ≤ r_1.toInt ∧ r_1.toInt ≤ 0) := d_r_1
  refine tot_oif (iv_oO h_T k_o (by decide) (by decide) rfl) ?_
  refine tot_bind2 (cs_X11_powersNow T o h_T k_o ) (fun r_3 T_4 d_r_3 => ?_)
  have h_T_4 : IV R B K1 K2 T_4 := d_r_3.1.1
  have y_T_4 : FW R [128, 130, 131, 1952, 2144, 3202] T T_4 := d_r_3.1.2
  have x_T_4 := x_T.tr (y_T_4.w (by decide))
  have k_r_3 : R r_3 = 4 := d_r_3.2
  refine tot_oif (Nat.ble_eq_true_of_le (iv_lt h_T_4 (iv_sta h_T_4 k_r_3 (by decide) (by decide)))) ?_
  unfold g_X11_writeMap_b8
  refine tot_oif (iv_oO h_T_4 k_o (by decide) (by decide) rfl) ?_
  refine tot_let (fun T_5 e_T_5 => ?_)
  have h_T_5 : IV R B K1 K2 T_5 := by rw [e_T_5]; exact iv_uI (a := 0) (b := 155) h_T_4 k_o (by decide) (by decide) rfl (by omega) (.inl rfl)
  have x_T_5 := x_T_4.tr (fw_uI e_T_5 k_o (by decide))
  refine cl_X11_writeMap_b16 o r_3 T k_o k_r_3 (fun k_ U_ i_ x_ => ⟨⟨i_, x_⟩, fun q_ => absurd q_ (Nat.succ_ne_zero k_)⟩) ?_ 16384 T_5 0 h_T_5 x_T_5 (by omega) (by omega)
  · intro T_93 h_T_93 x_T_93
    refine tot_oif (iv_oO h_T_93 k_o (by decide) (by decide) rfl) ?_
    refine tot_let (fun v_94 e_v_94 => ?_)
    have r_v_94 : 0 ≤ v_94.toInt ∧ v_94.toInt ≤ 155 := iv_int h_T_93 k_o (by decide) (by decide) e_v_94 rfl
    exact tot_some ⟨⟨h_T_93, x_T_93⟩, fun _ => (show (0 ≤ v_94.toInt ∧ v_94.toInt ≤ 155) from by omega)⟩
