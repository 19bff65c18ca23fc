section
/-! 13d.ck10.lean.txt -/
set_option maxHeartbeats 4000000 in
set_option maxRecDepth 10000 in
theorem cs_X11_trackCell {R : Nat → Nat} {B K1 K2 : Nat} (T : AT) (o : Nat) (a0 : Int32) (a1 : Int32) (h_T : IV R B K1 K2 T) (k_o : R o = 11) : Tot (g_X11_trackCell T o a0 a1) (fun r => (IV R B K1 K2 r.2.2 ∧ FW R [1952, 3202] T r.2.2) ∧ (r.1 = 0 → (0 ≤ r.2.1.toInt ∧ r.2.1.toInt ≤ 143))) := by
  have z0 : (4 : Int32).toInt = 4 := by decide
  have z1 : (0 : Int32).toInt = 0 := by decide
  have z2 : ((4 : Int32) : Int32).toInt = 4 := by decide
  have z3 : (1 : Int32).toInt = 1 := by decide
  have cc_101 : cnt 101 = 1 := rfl
  have cc_102 : cnt 102 = 12 := rfl
  have cc_103 : cnt 103 = 144 := rfl
  have cc_104 : cnt 104 = 2400 := rfl
  have cc_105 : cnt 105 = 7200 := rfl
  have x_T : FW R [1952, 3202] T T := FW.rf
  have j_a0 := i_any a0
  have j_a1 := i_any a1
  unfold g_X11_trackCell
  refine tot_oif (iv_oO h_T k_o (by decide) (by decide) rfl) ?_
  refine tot_thrp (Q := fun r_1 : Int32 => (0 ≤ r_1.toInt ∧ r_1.toInt ≤ 0)) (cs_X11_needCamera T o h_T k_o ) (fun r_1 d_r_1 => ?_) (fun k_ => ⟨⟨h_T, x_T⟩, fun q_ => absurd q_ (Nat.succ_ne_zero k_)⟩)
  replace d_r_1 : (0 ≤ r_1.toInt ∧ r_1.toInt ≤ 0) := d_r_1
  refine tot_if (fun c_5 => ?_) (fun c_5 => ?_)
  · replace c_5 := i_lt c_5
    unfold g_X11_trackCell_b24
    unfold g_X11_trackCell_b25
    refine tot_if (fun c_14 => ?_) (fun c_14 => ?_)
    · replace c_14 := i_eq c_14
      unfold g_X11_trackCell_b48
      refine tot_oif (iv_oO h_T k_o (by decide) (by decide) rfl) ?_
      refine tot_ref h_T k_o (by decide) (by decide) (r2 := 6) (rfl : rtg 11 14 = 6) (by decide) (fun n_15 k_n_15 e_n_15 => ?_)
      refine tot_oif (iv_oO h_T k_n_15 (by decide) (by decide) rfl) ?_
      refine tot_let (fun v_16 e_v_16 => ?_)
      have r_v_16 : 0 ≤ v_16.toInt ∧ v_16.toInt ≤ 200 := iv_int h_T k_n_15 (by decide) (by decide) e_v_16 rfl
      refine tot_thrp (Q := fun r_17 : Int32 => (((4 : Int32) : Int32).toInt ≤ a0.toInt ∧ a0.toInt ≤ v_16.toInt)) (cs_X11_needRange T a0 (4 : Int32) v_16 h_T ) (fun r_17 d_r_17 => ?_) (fun k_ => ⟨⟨h_T, x_T⟩, fun q_ => absurd q_ (Nat.succ_ne_zero k_)⟩)
      replace d_r_17 : (((4 : Int32) : Int32).toInt ≤ a0.toInt ∧ a0.toInt ≤ v_16.toInt) := d_r_17
      exfalso
      omega
    · replace c_14 := i_ne c_14
      exfalso
      omega
  · replace c_5 := i_nlt c_5
    refine tot_oif (iv_oO h_T k_o (by decide) (by decide) rfl) ?_
    refine tot_ref h_T k_o (by decide) (by decide) (r2 := 6) (rfl : rtg 11 14 = 6) (by decide) (fun n_3 k_n_3 e_n_3 => ?_)
    refine tot_oif (iv_oO h_T k_n_3 (by decide) (by decide) rfl) ?_
    refine tot_let (fun v_4 e_v_4 => ?_)
    have r_v_4 : 0 ≤ v_4.toInt ∧ v_4.toInt ≤ 200 := iv_int h_T k_n_3 (by decide) (by decide) e_v_4 rfl
    refine tot_if (fun c_23 => ?_) (fun c_23 => ?_)
    · replace c_23 := i_lt c_23
      unfold g_X11_trackCell_b24
      unfold g_X11_trackCell_b25
      refine tot_if (fun c_32 => ?_) (fun c_32 => ?_)
      · replace c_32 := i_eq c_32
        unfold g_X11_trackCell_b48
        refine tot_oif (iv_oO h_T k_o (by decide) (by decide) rfl) ?_
        refine tot_ref1 e_n_3 ?_
        refine tot_oif (iv_oO h_T k_n_3 (by decide) (by decide) rfl) ?_
        refine tot_let (fun v_34 e_v_34 => ?_)
        have u_v_34 : v_34.toInt = v_4.toInt := by rw [e_v_34, e_v_4]
        have r_v_34 : 0 ≤ v_34.toInt ∧ v_34.toInt ≤ 200 := iv_int h_T k_n_3 (by decide) (by decide) e_v_34 rfl
        refine tot_thrp (Q := fun r_35 : Int32 => (((4 : Int32) : Int32).toInt ≤ a0.toInt ∧ a0.toInt ≤ v_34.toInt)) (cs_X11_needRange T a0 (4 : Int32) v_34 h_T ) (fun r_35 d_r_35 => ?_) (fun k_ => ⟨⟨h_T, x_T⟩, fun q_ => absurd q_ (Nat.succ_ne_zero k_)⟩)
        replace d_r_35 : (((4 : Int32) : Int32).toInt ≤ a0.toInt ∧ a0.toInt ≤ v_34.toInt) := d_r_35
        refine tot_oif (iv_oO h_T k_o (by decide) (by decide) rfl) ?_
        refine tot_ref h_T k_o (by decide) (by decide) (r2 := 20) (rfl : rtg 11 3 = 20) (by decide) (fun n_37 k_n_37 e_n_37 => ?_)
        refine tot_oif (iv_oO h_T k_o (by decide) (by decide) rfl) ?_
        refine tot_ref1 e_n_3 ?_
        refine tot_oif (iv_oO h_T k_o (by decide) (by decide) rfl) ?_
        refine tot_ref h_T k_o (by decide) (by decide) (r2 := 8) (rfl : rtg 11 6 = 8) (by decide) (fun n_39 k_n_39 e_n_39 => ?_)
        refine tot_oif (iv_oO h_T k_n_37 (by decide) (by decide) rfl) ?_
        refine tot_bind (cs_X0_score T n_37 n_3 n_39 a0 h_T k_n_37 k_n_3 k_n_39 (by omega)) (fun T_40 d_T_40 => ?_)
        have h_T_40 : IV R B K1 K2 T_40 := d_T_40.1
        have y_T_40 : FW R [1952, 3202] T T_40 := d_T_40.2
        have x_T_40 := x_T.tr (y_T_40.w (by decide))
        unfold g_X11_trackCell_b76
        refine tot_oif (iv_oO h_T_40 k_o (by decide) (by decide) rfl) ?_
        refine tot_ref h_T_40 k_o (by decide) (by decide) (r2 := 20) (rfl : rtg 11 3 = 20) (by decide) (fun n_41 k_n_41 e_n_41 => ?_)
        refine tot_oif (iv_oO h_T_40 k_o (by decide) (by decide) rfl) ?_
        refine tot_ref h_T_40 k_o (by decide) (by decide) (r2 := 6) (rfl : rtg 11 14 = 6) (by decide) (fun n_42 k_n_42 e_n_42 => ?_)
        refine tot_oif (iv_oO h_T_40 k_n_42 (by decide) (by decide) rfl) ?_
        refine tot_ref h_T_40 k_n_42 (by decide) (by decide) (r2 := 1) (rfl : rtg 6 6 = 1) (by decide) (fun n_43 k_n_43 e_n_43 => ?_)
        refine tot_oif (iv_oO h_T_40 k_n_41 (by decide) (by decide) rfl) ?_
        refine tot_bind2 (cs_X0_trackCellIn T_40 n_41 n_43 a1 h_T_40 k_n_41 k_n_43 ) (fun r_44 T_45 d_r_44 => ?_)
        have h_T_45 : IV R B K1 K2 T_45 := d_r_44.1.1
        have y_T_45 : FW R [1952] T_40 T_45 := d_r_44.1.2
        have x_T_45 := x_T_40.tr (y_T_45.w (by decide))
        replace d_r_44 : (0 ≤ r_44.toInt ∧ r_44.toInt ≤ 143) := d_r_44.2
        exact tot_some ⟨⟨h_T_45, x_T_45⟩, fun _ => (show (0 ≤ r_44.toInt ∧ r_44.toInt ≤ 143) from by omega)⟩
      · replace c_32 := i_ne c_32
        exfalso
        omega
    · replace c_23 := i_nlt c_23
      unfold g_X11_trackCell_b25
      refine tot_if (fun c_54 => ?_) (fun c_54 => ?_)
      · replace c_54 := i_eq c_54
        exfalso
        omega
      · replace c_54 := i_ne c_54
        refine tot_oif (iv_oO h_T k_o (by decide) (by decide) rfl) ?_
        refine tot_ref1 e_n_3 ?_
        refine tot_oif (iv_oO h_T k_n_3 (by decide) (by decide) rfl) ?_
        refine tot_let (fun v_47 e_v_47 => ?_)
        have u_v_47 : v_47.toInt = v_4.toInt := by rw [e_v_47, e_v_4]
        have r_v_47 : 0 ≤ v_47.toInt ∧ v_47.toInt ≤ 200 := iv_int h_T k_n_3 (by decide) (by decide) e_v_47 rfl
        refine tot_let (fun v_48 e_v_48 => ?_)
        refine tot_let (fun v_49 e_v_49 => ?_)
        refine tot_bind (cs_X11_quotient v_48 v_49) (fun r_50 d_r_50 => ?_)
        refine tot_let (fun v_51 e_v_51 => ?_)
        have q_v_51 : 0 ≤ v_51.toInt ∧ v_51.toInt ≤ v_47.toInt := by rw [e_v_51]; exact d_r_50 _ _ e_v_48 e_v_49 (by omega) (by omega)
        refine tot_thrp (Q := fun r_52 : Int32 => (0 ≤ a1.toInt ∧ a1.toInt < v_51.toInt)) (cs_X11_needIndex T a1 v_51 h_T ) (fun r_52 d_r_52 => ?_) (fun k_ => ⟨⟨h_T, x_T⟩, fun q_ => absurd q_ (Nat.succ_ne_zero k_)⟩)
        replace d_r_52 : (0 ≤ a1.toInt ∧ a1.toInt < v_51.toInt) := d_r_52
        unfold g_X11_trackCell_b48
        refine tot_oif (iv_oO h_T k_o (by decide) (by decide) rfl) ?_
        refine tot_ref1 e_n_3 ?_
        refine tot_oif (iv_oO h_T k_n_3 (by decide) (by decide) rfl) ?_
        refine tot_let (fun v_56 e_v_56 => ?_)
        have u_v_56 : v_56.toInt = v_4.toInt := by rw [e_v_56, e_v_4]
        have r_v_56 : 0 ≤ v_56.toInt ∧ v_56.toInt ≤ 200 := iv_int h_T k_n_3 (by decide) (by decide) e_v_56 rfl
        refine tot_thrp (Q := fun r_57 : Int32 => (((4 : Int32) : Int32).toInt ≤ a0.toInt ∧ a0.toInt ≤ v_56.toInt)) (cs_X11_needRange T a0 (4 : Int32) v_56 h_T ) (fun r_57 d_r_57 => ?_) (fun k_ => ⟨⟨h_T, x_T⟩, fun q_ => absurd q_ (Nat.succ_ne_zero k_)⟩)
        replace d_r_57 : (((4 : Int32) : Int32).toInt ≤ a0.toInt ∧ a0.toInt ≤ v_56.toInt) := d_r_57
        refine tot_oif (iv_oO h_T k_o (by decide) (by decide) rfl) ?_
        refine tot_ref h_T k_o (by decide) (by decide) (r2 := 20) (rfl : rtg 11 3 = 20) (by decide) (fun n_59 k_n_59 e_n_59 => ?_)
        refine tot_oif (iv_oO h_T k_o (by decide) (by decide) rfl) ?_
        refine tot_ref1 e_n_3 ?_
        refine tot_oif (iv_oO h_T k_o (by decide) (by decide) rfl) ?_
        refine tot_ref h_T k_o (by decide) (by decide) (r2 := 8) (rfl : rtg 11 6 = 8) (by decide) (fun n_61 k_n_61 e_n_61 => ?_)
        refine tot_oif (iv_oO h_T k_n_59 (by decide) (by decide) rfl) ?_
        refine tot_bind (cs_X0_score T n_59 n_3 n_61 a0 h_T k_n_59 k_n_3 k_n_61 (by omega)) (fun T_62 d_T_62 => ?_)
        have h_T_62 : IV R B K1 K2 T_62 := d_T_62.1
        have y_T_62 : FW R [1952, 3202] T T_62 := d_T_62.2
        have x_T_62 := x_T.tr (y_T_62.w (by decide))
        unfold g_X11_trackCell_b76
        refine tot_oif (iv_oO h_T_62 k_o (by decide) (by decide) rfl) ?_
        refine tot_ref h_T_62 k_o (by decide) (by decide) (r2 := 20) (rfl : rtg 11 3 = 20) (by decide) (fun n_63 k_n_63 e_n_63 => ?_)
        refine tot_oif (iv_oO h_T_62 k_o (by decide) (by decide) rfl) ?_
        refine tot_ref h_T_62 k_o (by decide) (by decide) (r2 := 6) (rfl : rtg 11 14 = 6) (by decide) (fun n_64 k_n_64 e_n_64 => ?_)
        refine tot_oif (iv_oO h_T_62 k_n_64 (by decide) (by decide) rfl) ?_
        refine tot_ref h_T_62 k_n_64 (by decide) (by decide) (r2 := 1) (rfl : rtg 6 6 = 1) (by decide) (fun n_65 k_n_65 e_n_65 => ?_)
        refine tot_oif (iv_oO h_T_62 k_n_63 (by decide) (by decide) rfl) ?_
        refine tot_bind2 (cs_X0_trackCellIn T_62 n_63 n_65 a1 h_T_62 k_n_63 k_n_65 ) (fun r_66 T_67 d_r_66 => ?_)
        have h_T_67 : IV R B K1 K2 T_67 := d_r_66.1.1
        have y_T_67 : FW R [1952] T_62 T_67 := d_r_66.1.2
        have x_T_67 := x_T_62.tr (y_T_67.w (by decide))
        replace d_r_66 : (0 ≤ r_66.toInt ∧ r_66.toInt ≤ 143) := d_r_66.2
        exact tot_some ⟨⟨h_T_67, x_T_67⟩, fun _ => (show (0 ≤ r_66.toInt ∧ r_66.toInt ≤ 143) from by omega)⟩
set_option maxHeartbeats 4000000 in
set_option maxRecDepth 10000 in
theorem cl_X11_powerOnTheMove_b38 {R : Nat → Nat} {B K1 K2 : Nat} {Q : AT → Prop} (l0 : Nat) (l2 : Int32) (l3 : Int32) (l4 : Int32) (l5 : Int32) (l6 : Int32) (T00 : AT) (k_l0 : R l0 = 11) (g0 : -999 ≤ l2.toInt ∧ l2.toInt ≤ 999) (g1 : -999 ≤ l3.toInt ∧ l3.toInt ≤ 999) (g2 : 0 ≤ l4.toInt ∧ l4.toInt ≤ 1) (g3 : -999 ≤ l5.toInt ∧ l5.toInt ≤ 2088) (g4 : -999 ≤ l6.toInt ∧ l6.toInt ≤ 15156) (hx0 : ∀ (T : AT), (IV R B K1 K2 T) → (FW R [1600, 3202] T00 T) → Tot (oif (oO T l0 11 = true) <| obind (T.2.2.2.2 l0 12) fun n_55 => oif (oO T l0 11 = true) <| obind (T.2.2.2.2 l0 14) fun n_56 => oif (oO T n_56 6 = true) <| elet (T.2.2.1 n_56 2) fun v_57 => oif (oO T n_55 10 = true) <| obind (g_X10_divide T n_55 l4 v_57) fun T_58 => g_X11_powerOnTheMove_b137 T_58) Q) : ∀ (n : Nat) (T : AT) (l7 : Int32), (IV R B K1 K2 T) → (FW R [1600, 3202] T00 T) → (0 ≤ l7.toInt ∧ l7.toInt ≤ 200) → 200 - l7.toInt < (n : Int) → Tot (g_X11_powerOnTheMove_b38 n T l0 l2 l3 l4 l5 l6 l7) Q := by
  have z0 : ((0 : Int32) : Int32).toInt = 0 := by decide
  have z1 : (Int32.ofInt (1) : Int32).toInt = 1 := by decide
  have cc_101 : cnt 101 = 1 := rfl
  have cc_102 : cnt 102 = 12 := rfl
  have cc_103 : cnt 103 = 144 := rfl
  have cc_104 : cnt 104 = 2400 := rfl
  have cc_105 : cnt 105 = 7200 := rfl
  have j_l2 := i_any l2
  have j_l3 := i_any l3
  have j_l4 := i_any l4
  have j_l5 := i_any l5
  have j_l6 := i_any l6
  intro n
  induction n with
  | zero =>
    intro T l7 h_T x_T g_l7 hm
    exfalso
    omega
  | succ n ih =>
    intro T l7 h_T x_T g_l7 hm
    unfold g_X11_powerOnTheMove_b38
    refine tot_oif (iv_oO h_T k_l0 (by decide) (by decide) rfl) ?_
    refine tot_ref h_T k_l0 (by decide) (by decide) (r2 := 6) (rfl : rtg 11 14 = 6) (by decide) (fun n_53 k_n_53 e_n_53 => ?_)
    refine tot_oif (iv_oO h_T k_n_53 (by decide) (by decide) rfl) ?_
    refine tot_let (fun v_54 e_v_54 => ?_)
    have r_v_54 : 0 ≤ v_54.toInt ∧ v_54.toInt ≤ 200 := iv_int h_T k_n_53 (by decide) (by decide) e_v_54 rfl
    refine tot_if (fun c_67 => ?_) (fun c_67 => ?_)
    · replace c_67 := i_le c_67
      exact hx0 T h_T x_T
    · replace c_67 := i_nle c_67
      refine tot_oif (iv_oO h_T k_l0 (by decide) (by decide) rfl) ?_
      refine tot_ref1 e_n_53 ?_
      refine tot_bind (cs_X11_moved l5 l2 l7 (by omega) (by omega) (by omega)) (fun r_60 d_r_60 => ?_)
      replace d_r_60 : (-3988 ≤ r_60.toInt ∧ r_60.toInt ≤ 17144) := d_r_60
      refine tot_bind (cs_X11_moved l6 l3 l7 (by omega) (by omega) (by omega)) (fun r_61 d_r_61 => ?_)
      replace d_r_61 : (-3988 ≤ r_61.toInt ∧ r_61.toInt ≤ 17144) := d_r_61
      refine tot_oif (iv_oO h_T k_l0 (by decide) (by decide) rfl) ?_
      refine tot_ref h_T k_l0 (by decide) (by decide) (r2 := 50) (rfl : rtg 11 11 = 50) (by decide) (fun n_62 k_n_62 e_n_62 => ?_)
      refine tot_oif (iv_oO h_T k_n_53 (by decide) (by decide) rfl) ?_
      refine tot_bind (cs_X6_delaysFrom T n_53 r_60 r_61 n_62 h_T k_n_53 k_n_62 (by omega) (by omega)) (fun T_63 d_T_63 => ?_)
      have h_T_63 : IV R B K1 K2 T_63 := d_T_63.1
      have y_T_63 : FW R [1600] T T_63 := d_T_63.2
      have x_T_63 := x_T.tr (y_T_63.w (by decide))
      refine tot_oif (iv_oO h_T_63 k_l0 (by decide) (by decide) rfl) ?_
      refine tot_ref h_T_63 k_l0 (by decide) (by decide) (r2 := 8) (rfl : rtg 11 6 = 8) (by decide) (fun n_64 k_n_64 e_n_64 => ?_)
      refine tot_oif (iv_oO h_T_63 k_l0 (by decide) (by decide) rfl) ?_
      refine tot_ref h_T_63 k_l0 (by decide) (by decide) (r2 := 50) (rfl : rtg 11 11 = 50) (by decide) (fun n_65 k_n_65 e_n_65 => ?_)
      refine tot_oif (iv_oO h_T_63 k_n_64 (by decide) (by decide) rfl) ?_
      refine tot_bind (cs_X8_focus T_63 n_64 n_65 l7 h_T_63 k_n_64 k_n_65 ) (fun T_66 d_T_66 => ?_)
      have h_T_66 : IV R B K1 K2 T_66 := d_T_66.1
      have y_T_66 : FW R [3202] T_63 T_66 := d_T_66.2
      have x_T_66 := x_T_63.tr (y_T_66.w (by decide))
      unfold g_X11_powerOnTheMove_b90
      refine tot_oif (iv_oO h_T_66 k_l0 (by decide) (by decide) rfl) ?_
      refine tot_ref h_T_66 k_l0 (by decide) (by decide) (r2 := 102) (rfl : rtg 11 12 = 102) (by decide) (fun n_68 k_n_68 e_n_68 => ?_)
      refine tot_oif (iv_oO h_T_66 k_l0 (by decide) (by decide) rfl) ?_
      refine tot_ref h_T_66 k_l0 (by decide) (by decide) (r2 := 8) (rfl : rtg 11 6 = 8) (by decide) (fun n_69 k_n_69 e_n_69 => ?_)
      refine tot_oif (iv_oO h_T_66 k_n_69 (by decide) (by decide) rfl) ?_
      refine tot_ref h_T_66 k_n_69 (by decide) (by decide) (r2 := 101) (rfl : rtg 8 11 = 101) (by decide) (fun n_70 k_n_70 e_n_70 => ?_)
      refine tot_oif (iv_oO h_T_66 k_l0 (by decide) (by decide) rfl) ?_
      refine tot_ref1 e_n_69 ?_
      refine tot_oif (iv_oO h_T_66 k_n_69 (by decide) (by decide) rfl) ?_
      refine tot_ref1 e_n_70 ?_
      refine tot_oif (w_oO h_T_66 k_n_68 (rfl : isW 102 = true)) ?_
      refine tot_bind (c_addProduct (a0 := l4) (a2 := (0 : Int32)) (a4 := (0 : Int32)) k_n_68 (rfl : isW 102 = true) k_n_70 (rfl : isW 101 = true) k_n_70 (rfl : isW 101 = true) h_T_66 (by omega) (by omega) (by omega)) (fun T_73 d_T_73 => ?_)
      have h_T_73 : IV R B K1 K2 T_73 := d_T_73.1
      have y_T_73 : FW R [3202] T_66 T_73 := (fw_wx d_T_73.2 k_n_68 (rfl : isW 102 = true) (by decide))
      have x_T_73 := x_T_66.tr (y_T_73.w (by decide))
      unfold g_X11_powerOnTheMove_b115
      refine tot_let (fun v_74 e_v_74 => ?_)
      have q_v_74 := i_add e_v_74 (by omega) (by omega)
      exact ih T_73 v_74 h_T_73 x_T_73 (by omega) (by omega)
set_option maxHeartbeats 4000000 in
set_option maxRecDepth 10000 in
theorem cs_X11_powerOnTheMove {R : Nat → Nat} {B K1 K2 : Nat} (T : AT) (o : Nat) (a0 : Int32) (a1 : Int32) (a2 : Int32) (a3 : Int32) (h_T : IV R B K1 K2 T) (k_o : R o = 11) (g0 : 0 ≤ a0.toInt ∧ a0.toInt ≤ 143) (g1 : -999 ≤ a1.toInt ∧ a1.toInt ≤ 999) (g2 : -999 ≤ a2.toInt ∧ a2.toInt ≤ 999) (g3 : 0 ≤ a3.toInt ∧ a3.toInt ≤ 1) : Tot (g_X11_powerOnTheMove T o a0 a1 a2 a3) (fun T1 => IV R B K1 K2 T1 ∧ FW R [1600, 3202] T T1) := by
  have z0 : (0 : Int32).toInt = 0 := by decide
  have cc_101 : cnt 101 = 1 := rfl
  have cc_102 : cnt 102 = 12 := rfl
  have cc_103 : cnt 103 = 144 := rfl
  have cc_104 : cnt 104 = 2400 := rfl
  have cc_105 : cnt 105 = 7200 := rfl
  have x_T : FW R [1600, 3202] T T := FW.rf
  have j_a0 := i_any a0
  have j_a1 := i_any a1
  have j_a2 := i_any a2
  have j_a3 := i_any a3
  unfold g_X11_powerOnTheMove
  refine tot_oif (iv_oO h_T k_o (by decide) (by decide) rfl) ?_
  refine tot_ref h_T k_o (by decide) (by decide) (r2 := 6) (rfl : rtg 11 14 = 6) (by decide) (fun n_1 k_n_1 e_n_1 => ?_)
  refine tot_oif (iv_oO h_T k_n_1 (by decide) (by decide) rfl) ?_
  refine tot_ref h_T k_n_1 (by decide) (by decide) (r2 := 1) (rfl : rtg 6 6 = 1) (by decide) (fun n_2 k_n_2 e_n_2 => ?_)
  refine tot_oif (iv_oO h_T k_n_2 (by decide) (by decide) rfl) ?_
  refine tot_bindq (R := fun r_3 : Int32 => (-999 ≤ r_3.toInt ∧ r_3.toInt ≤ 2088)) (cs_X1_centreX T n_2 a0 h_T k_n_2 (by omega)) (fun r_3 d_r_3 => ?_)
  replace d_r_3 : (-999 ≤ r_3.toInt ∧ r_3.toInt ≤ 2088) := d_r_3
  refine tot_oif (iv_oO h_T k_o (by decide) (by decide) rfl) ?_
  refine tot_ref1 e_n_1 ?_
  refine tot_oif (iv_oO h_T k_n_1 (by decide) (by decide) rfl) ?_
  refine tot_ref1 e_n_2 ?_
  refine tot_oif (iv_oO h_T k_n_2 (by decide) (by decide) rfl) ?_
  refine tot_bindq (R := fun r_7 : Int32 => (-999 ≤ r_7.toInt ∧ r_7.toInt ≤ 15156)) (cs_X1_centreY T n_2 a0 h_T k_n_2 (by omega)) (fun r_7 d_r_7 => ?_)
  replace d_r_7 : (-999 ≤ r_7.toInt ∧ r_7.toInt ≤ 15156) := d_r_7
  refine tot_oif (iv_oO h_T k_o (by decide) (by decide) rfl) ?_
  refine tot_ref h_T k_o (by decide) (by decide) (r2 := 102) (rfl : rtg 11 12 = 102) (by decide) (fun n_9 k_n_9 e_n_9 => ?_)
  refine tot_oif (w_oO h_T k_n_9 (rfl : isW 102 = true)) ?_
  refine tot_bind (c_clear (a0 := a3) h_T k_n_9 (rfl : isW 102 = true) (by omega)) (fun T_10 d_T_10 => ?_)
  have h_T_10 : IV R B K1 K2 T_10 := d_T_10.1
  have y_T_10 : FW R [3202] T T_10 := (fw_of d_T_10.2)
  have x_T_10 := x_T.tr (y_T_10.w (by decide))
  refine cl_X11_powerOnTheMove_b38 o a1 a2 a3 r_3 r_7 T k_o (by omega) (by omega) (by omega) (by omega) (by omega) ?_ 16384 T_10 0 h_T_10 x_T_10 (by omega) (by omega)
  · intro T_75 h_T_75 x_T_75
    refine tot_oif (iv_oO h_T_75 k_o (by decide) (by decide) rfl) ?_
    refine tot_ref h_T_75 k_o (by decide) (by decide) (r2 := 102) (rfl : rtg 11 12 = 102) (by decide) (fun n_76 k_n_76 e_n_76 => ?_)
    refine tot_oif (iv_oO h_T_75 k_o (by decide) (by decide) rfl) ?_
    refine tot_ref h_T_75 k_o (by decide) (by decide) (r2 := 6) (rfl : rtg 11 14 = 6) (by decide) (fun n_77 k_n_77 e_n_77 => ?_)
    refine tot_oif (iv_oO h_T_75 k_n_77 (by decide) (by decide) rfl) ?_
    refine tot_let (fun v_78 e_v_78 => ?_)
    have r_v_78 : 0 ≤ v_78.toInt ∧ v_78.toInt ≤ 200 := iv_int h_T_75 k_n_77 (by decide) (by decide) e_v_78 rfl
    refine tot_oif (w_oO h_T_75 k_n_76 (rfl : isW 102 = true)) ?_
    refine tot_bind (c_divide (a0 := a3) (a1 := v_78) k_n_76 (rfl : isW 102 = true) h_T_75 (by omega)) (fun T_79 d_T_79 => ?_)
    have h_T_79 : IV R B K1 K2 T_79 := d_T_79.1
    have y_T_79 : FW R [3202] T_75 T_79 := (fw_wx d_T_79.2 k_n_76 (rfl : isW 102 = true) (by decide))
    have x_T_79 := x_T_75.tr (y_T_79.w (by decide))
    unfold g_X11_powerOnTheMove_b137
    exact tot_some ⟨h_T_79, x_T_79⟩
set_option maxHeartbeats 4000000 in
set_option maxRecDepth 10000 in
theorem cs_X11_movingPower {R : Nat → Nat} {B K1 K2 : Nat} (T : AT) (o : Nat) (a0 : Int32) (a1 : Int32) (a2 : Int32) (h_T : IV R B K1 K2 T) (k_o : R o = 11) : Tot (g_X11_movingPower T o a0 a1 a2) (fun r => (IV R B K1 K2 r.2.2 ∧ FW R [1600, 3202] T r.2.2) ∧ (r.1 = 0 → True)) := by
  have z0 : (((-999) : Int32) : Int32).toInt = -999 := by decide
  have z1 : ((999 : Int32) : Int32).toInt = 999 := by decide
  have z2 : ((0 : Int32) : Int32).toInt = 0 := by decide
  have cc_101 : cnt 101 = 1 := rfl
  have cc_102 : cnt 102 = 12 := rfl
  have cc_103 : cnt 103 = 144 := rfl
  have cc_104 : cnt 104 = 2400 := rfl
  have cc_105 : cnt 105 = 7200 := rfl
  have x_T : FW R [1600, 3202] T T := FW.rf
  have j_a0 := i_any a0
  have j_a1 := i_any a1
  have j_a2 := i_any a2
  unfold g_X11_movingPower
  refine tot_oif (iv_oO h_T k_o (by decide) (by decide) rfl) ?_
  refine tot_thrp (Q := fun r_1 : Int32 => (0 ≤ r_1.toInt ∧ r_1.toInt ≤ 0)) (cs_X11_needCamera T o h_T k_o ) (fun r_1 d_r_1 => ?_) (fun k_ => ⟨⟨h_T, x_T⟩, fun q_ => absurd q_ (Nat.succ_ne_zero k_)⟩)
  replace d_r_1 : (0 ≤ r_1.toInt ∧ r_1.toInt ≤ 0) := d_r_1
  refine tot_oif (iv_oO h_T k_o (by decide) (by decide) rfl) ?_
  refine tot_thrp (Q := fun r_3 : Int32 => (0 ≤ a0.toInt ∧ a0.toInt ≤ 143)) (cs_X11_needCell T o a0 h_T k_o ) (fun r_3 d_r_3 => ?_) (fun k_ => ⟨⟨h_T, x_T⟩, fun q_ => absurd q_ (Nat.succ_ne_zero k_)⟩)
  replace d_r_3 : (0 ≤ a0.toInt ∧ a0.toInt ≤ 143) := d_r_3
  refine tot_thrp (Q := fun r_5 : Int32 => ((((-999) : Int32) : Int32).toInt ≤ a1.toInt ∧ a1.toInt ≤ ((999 : Int32) : Int32).toInt)) (cs_X11_needRange T a1 ((-999) : Int32) (999 : Int32) h_T ) (fun r_5 d_r_5 => ?_) (fun k_ => ⟨⟨h_T, x_T⟩, fun q_ => absurd q_ (Nat.succ_ne_zero k_)⟩)
  replace d_r_5 : ((((-999) : Int32) : Int32).toInt ≤ a1.toInt ∧ a1.toInt ≤ ((999 : Int32) : Int32).toInt) := d_r_5
  refine tot_thrp (Q := fun r_7 : Int32 => ((((-999) : Int32) : Int32).toInt ≤ a2.toInt ∧ a2.toInt ≤ ((999 : Int32) : Int32).toInt)) (cs_X11_needRange T a2 ((-999) : Int32) (999 : Int32) h_T ) (fun r_7 d_r_7 => ?_) (fun k_ => ⟨⟨h_T, x_T⟩, fun q_ => absurd q_ (Nat.succ_ne_zero k_)⟩)
  replace d_r_7 : ((((-999) : Int32) : Int32).toInt ≤ a2.toInt ∧ a2.toInt ≤ ((999 : Int32) : Int32).toInt) := d_r_7
  refine tot_oif (iv_oO h_T k_o (by decide) (by decide) rfl) ?_
  refine tot_bind (cs_X11_powerOnTheMove T o a0 a1 a2 (0 : Int32) h_T k_o (by omega) (by omega) (by omega) (by omega)) (fun T_9 d_T_9 => ?_)
  have h_T_9 : IV R B K1 K2 T_9 := d_T_9.1
  have y_T_9 : FW R [1600, 3202] T T_9 := d_T_9.2
  have x_T_9 := x_T.tr (y_T_9.w (by decide))
  unfold g_X11_movingPower_b37
  refine tot_oif (iv_oO h_T_9 k_o (by decide) (by decide) rfl) ?_
  refine tot_ref h_T_9 k_o (by decide) (by decide) (r2 := 102) (rfl : rtg 11 12 = 102) (by decide) (fun n_10 k_n_10 e_n_10 => ?_)
  refine tot_oif (w_oO h_T_9 k_n_10 (rfl : isW 102 = true)) ?_
  refine tot_bindq (R := fun r_11 : Int64 => True) (c_value (a0 := (0 : Int32)) k_n_10 (rfl : isW 102 = true) h_T_9 (by omega)) (fun r_11 d_r_11 => ?_)
  exact tot_some ⟨⟨h_T_9, x_T_9⟩, fun _ => trivial⟩
set_option maxHeartbeats 4000000 in
set_option maxRecDepth 10000 in
theorem cl_X11_bestVelocity_b39 {R : Nat → Nat} {B K1 K2 : Nat} {Q : Nat × Int32 × AT → Prop} {k29 : AT → Nat → Int32 → Int32 → Int32 → Int32 → Int32 → Option (Nat × Int32 × AT)} (l0 : Nat) (l1 : Int32) (l2 : Int32) (l3 : Int32) (l5 : Int32) (T00 : AT) (k_l0 : R l0 = 11) (hthr : ∀ (k : Nat) (U : AT), IV R B K1 K2 U → FW R [1600, 3202] T00 U → Q (k + 1, 0, U)) (g0 : 0 ≤ l1.toInt ∧ l1.toInt ≤ 143) (g1 : 1 ≤ l2.toInt ∧ l2.toInt ≤ 99) (g2 : 0 ≤ l3.toInt ∧ l3.toInt ≤ 4) (g3 : -4 ≤ l5.toInt ∧ l5.toInt ≤ 4) (hx0 : ∀ (T : AT) (l4 : Int32), (IV R B K1 K2 T) → (FW R [1600, 3202] T00 T) → (-404 ≤ l4.toInt ∧ l4.toInt ≤ 999) → Tot (elet (l5 + Int32.ofInt (1)) fun v_116 => k29 T l0 l1 l2 l3 l4 v_116) Q) : ∀ (n : Nat) (T : AT) (l4 : Int32) (l6 : Int32), (IV R B K1 K2 T) → (FW R [1600, 3202] T00 T) → (-404 ≤ l4.toInt ∧ l4.toInt ≤ 999) → (-4 ≤ l6.toInt ∧ l6.toInt ≤ 5) → 5 - l6.toInt < (n : Int) → Tot (g_X11_bestVelocity_b39 k29 n T l0 l1 l2 l3 l4 l5 l6) Q := by
  have z0 : ((1 : Int32) : Int32).toInt = 1 := by decide
  have z1 : ((-1) : Int32).toInt = -1 := by decide
  have z2 : ((0 : Int32) : Int32).toInt = 0 := by decide
  have z3 : (100 : Int32).toInt = 100 := by decide
  have z4 : (Int32.ofInt (1) : Int32).toInt = 1 := by decide
  have z5 : (0 : Int32).toInt = 0 := by decide
  have cc_101 : cnt 101 = 1 := rfl
  have cc_102 : cnt 102 = 12 := rfl
  have cc_103 : cnt 103 = 144 := rfl
  have cc_104 : cnt 104 = 2400 := rfl
  have cc_105 : cnt 105 = 7200 := rfl
  have j_l1 := i_any l1
  have j_l2 := i_any l2
  have j_l3 := i_any l3
  have j_l5 := i_any l5
  intro n
  induction n with
  | zero =>
    intro T l4 l6 h_T x_T g_l4 g_l6 hm
    exfalso
    omega
  | succ n ih =>
    intro T l4 l6 h_T x_T g_l4 g_l6 hm
    unfold g_X11_bestVelocity_b39
    refine tot_if (fun c_120 => ?_) (fun c_120 => ?_)
    · replace c_120 := i_lt c_120
      exact hx0 T l4 h_T x_T (by omega)
    · replace c_120 := i_nlt c_120
      refine tot_let (fun v_117 e_v_117 => ?_)
      have q_v_117 := i_mulm2 (a := -4) (b := 4) (d := 99) e_v_117 (by omega) (by omega) (by omega) (by omega) (by decide)
      refine tot_let (fun v_118 e_v_118 => ?_)
      have q_v_118 := i_mulm2 (a := -4) (b := 4) (d := 99) e_v_118 (by omega) (by omega) (by omega) (by omega) (by decide)
      refine tot_oif (iv_oO h_T k_l0 (by decide) (by decide) rfl) ?_
      refine tot_bind (cs_X11_powerOnTheMove T l0 l1 v_117 v_118 (1 : Int32) h_T k_l0 (by omega) (by omega) (by omega) (by omega)) (fun T_119 d_T_119 => ?_)
      have h_T_119 : IV R B K1 K2 T_119 := d_T_119.1
      have y_T_119 : FW R [1600, 3202] T T_119 := d_T_119.2
      have x_T_119 := x_T.tr (y_T_119.w (by decide))
      unfold g_X11_bestVelocity_b59
      refine tot_if (fun c_124 => ?_) (fun c_124 => ?_)
      · replace c_124 := i_eq c_124
        unfold g_X11_bestVelocity_b77
        refine tot_oif (iv_oO h_T_119 k_l0 (by decide) (by decide) rfl) ?_
        refine tot_ref h_T_119 k_l0 (by decide) (by decide) (r2 := 102) (rfl : rtg 11 12 = 102) (by decide) (fun n_125 k_n_125 e_n_125 => ?_)
        refine tot_oif (iv_oO h_T_119 k_l0 (by decide) (by decide) rfl) ?_
        refine tot_ref1 e_n_125 ?_
        refine tot_oif (w_oO h_T_119 k_n_125 (rfl : isW 102 = true)) ?_
        refine tot_bind (c_set (a0 := (0 : Int32)) (a2 := (1 : Int32)) k_n_125 (rfl : isW 102 = true) k_n_125 (rfl : isW 102 = true) h_T_119 (by omega) (by omega)) (fun T_127 d_T_127 => ?_)
        have h_T_127 : IV R B K1 K2 T_127 := d_T_127.1
        have y_T_127 : FW R [3202] T_119 T_127 := (fw_wx d_T_127.2 k_n_125 (rfl : isW 102 = true) (by decide))
        have x_T_127 := x_T_119.tr (y_T_127.w (by decide))
        unfold g_X11_bestVelocity_b90
        refine tot_let (fun v_128 e_v_128 => ?_)
        have q_v_128 := i_add e_v_128 (by omega) (by omega)
        refine tot_let (fun v_129 e_v_129 => ?_)
        have q_v_129 := i_mulk e_v_129 z3 (by omega) (by omega)
        refine tot_let (fun v_130 e_v_130 => ?_)
        have q_v_130 := i_add e_v_130 (by omega) (by omega)
        refine tot_let (fun v_131 e_v_131 => ?_)
        have q_v_131 := i_add e_v_131 (by omega) (by omega)
        unfold g_X11_bestVelocity_b104
        refine tot_let (fun v_132 e_v_132 => ?_)
        have q_v_132 := i_add e_v_132 (by omega) (by omega)
        exact ih T_127 v_131 v_132 h_T_127 x_T_127 (by omega) (by omega) (by omega)
      · replace c_124 := i_ne c_124
        refine tot_oif (iv_oO h_T_119 k_l0 (by decide) (by decide) rfl) ?_
        refine tot_ref h_T_119 k_l0 (by decide) (by decide) (r2 := 102) (rfl : rtg 11 12 = 102) (by decide) (fun n_121 k_n_121 e_n_121 => ?_)
        refine tot_oif (w_oO h_T_119 k_n_121 (rfl : isW 102 = true)) ?_
        refine tot_bindq (R := fun r_122 : Int32 => True) (c_compare (a0 := (1 : Int32)) (a1 := (0 : Int32)) k_n_121 (rfl : isW 102 = true) h_T_119 (by omega) (by omega)) (fun r_122 d_r_122 => ?_)
        have r_r_122 := i_any r_122
        refine tot_if (fun c_133 => ?_) (fun c_133 => ?_)
        · replace c_133 := i_le c_133
          unfold g_X11_bestVelocity_b104
          refine tot_let (fun v_134 e_v_134 => ?_)
          have q_v_134 := i_add e_v_134 (by omega) (by omega)
          exact ih T_119 l4 v_134 h_T_119 x_T_119 (by omega) (by omega) (by omega)
        · replace c_133 := i_nle c_133
          unfold g_X11_bestVelocity_b77
          refine tot_oif (iv_oO h_T_119 k_l0 (by decide) (by decide) rfl) ?_
          refine tot_ref1 e_n_121 ?_
          refine tot_oif (iv_oO h_T_119 k_l0 (by decide) (by decide) rfl) ?_
          refine tot_ref1 e_n_121 ?_
          refine tot_oif (w_oO h_T_119 k_n_121 (rfl : isW 102 = true)) ?_
          refine tot_bind (c_set (a0 := (0 : Int32)) (a2 := (1 : Int32)) k_n_121 (rfl : isW 102 = true) k_n_121 (rfl : isW 102 = true) h_T_119 (by omega) (by omega)) (fun T_137 d_T_137 => ?_)
          have h_T_137 : IV R B K1 K2 T_137 := d_T_137.1
          have y_T_137 : FW R [3202] T_119 T_137 := (fw_wx d_T_137.2 k_n_121 (rfl : isW 102 = true) (by decide))
          have x_T_137 := x_T_119.tr (y_T_137.w (by decide))
          unfold g_X11_bestVelocity_b90
          refine tot_let (fun v_138 e_v_138 => ?_)
          have q_v_138 := i_add e_v_138 (by omega) (by omega)
          refine tot_let (fun v_139 e_v_139 => ?_)
          have q_v_139 := i_mulk e_v_139 z3 (by omega) (by omega)
          refine tot_let (fun v_140 e_v_140 => ?_)
          have q_v_140 := i_add e_v_140 (by omega) (by omega)
          refine tot_let (fun v_141 e_v_141 => ?_)
          have q_v_141 := i_add e_v_141 (by omega) (by omega)
          unfold g_X11_bestVelocity_b104
          refine tot_let (fun v_142 e_v_142 => ?_)
          have q_v_142 := i_add e_v_142 (by omega) (by omega)
          exact ih T_137 v_141 v_142 h_T_137 x_T_137 (by omega) (by omega) (by omega)
set_option maxHeartbeats 4000000 in
set_option maxRecDepth 10000 in
theorem cl_X11_bestVelocity_b29 {R : Nat → Nat} {B K1 K2 : Nat} {Q : Nat × Int32 × AT → Prop} (l0 : Nat) (l1 : Int32) (l2 : Int32) (l3 : Int32) (T00 : AT) (k_l0 : R l0 = 11) (hthr : ∀ (k : Nat) (U : AT), IV R B K1 K2 U → FW R [1600, 3202] T00 U → Q (k + 1, 0, U)) (g0 : 0 ≤ l1.toInt ∧ l1.toInt ≤ 143) (g1 : 1 ≤ l2.toInt ∧ l2.toInt ≤ 99) (g2 : 0 ≤ l3.toInt ∧ l3.toInt ≤ 4) (hx0 : ∀ (T : AT) (l4 : Int32), (IV R B K1 K2 T) → (FW R [1600, 3202] T00 T) → (-404 ≤ l4.toInt ∧ l4.toInt ≤ 999) → Tot (some (0, l4, T)) Q) : ∀ (n : Nat) (T : AT) (l4 : Int32) (l5 : Int32), (IV R B K1 K2 T) → (FW R [1600, 3202] T00 T) → (-404 ≤ l4.toInt ∧ l4.toInt ≤ 999) → (-4 ≤ l5.toInt ∧ l5.toInt ≤ 5) → 5 - l5.toInt < (n : Int) → Tot (g_X11_bestVelocity_b29 n T l0 l1 l2 l3 l4 l5) Q := by
  have z0 : (Int32.ofInt (1) : Int32).toInt = 1 := by decide
  have cc_101 : cnt 101 = 1 := rfl
  have cc_102 : cnt 102 = 12 := rfl
  have cc_103 : cnt 103 = 144 := rfl
  have cc_104 : cnt 104 = 2400 := rfl
  have cc_105 : cnt 105 = 7200 := rfl
  have j_l1 := i_any l1
  have j_l2 := i_any l2
  have j_l3 := i_any l3
  intro n
  induction n with
  | zero =>
    intro T l4 l5 h_T x_T g_l4 g_l5 hm
    exfalso
    omega
  | succ n ih =>
    intro T l4 l5 h_T x_T g_l4 g_l5 hm
    unfold g_X11_bestVelocity_b29
    refine tot_if (fun c_91 => ?_) (fun c_91 => ?_)
    · replace c_91 := i_lt c_91
      exact hx0 T l4 h_T x_T (by omega)
    · replace c_91 := i_nlt c_91
      refine tot_let (fun v_90 e_v_90 => ?_)
      have q_v_90 := i_neg e_v_90 (by omega)
      refine cl_X11_bestVelocity_b39 l0 l1 l2 l3 l5 T00 k_l0 hthr (by omega) (by omega) (by omega) (by omega) ?_ 16384 T l4 v_90 h_T x_T (by omega) (by omega) (by omega)
      · intro T_143 l_144 h_T_143 x_T_143 g_l_144
        refine tot_let (fun v_145 e_v_145 => ?_)
        have q_v_145 := i_add e_v_145 (by omega) (by omega)
        exact ih T_143 l_144 v_145 h_T_143 x_T_143 (by omega) (by omega) (by omega)
set_option maxHeartbeats 4000000 in
set_option maxRecDepth 10000 in
theorem cs_X11_bestVelocity {R : Nat → Nat} {B K1 K2 : Nat} (T : AT) (o : Nat) (a0 : Int32) (a1 : Int32) (a2 : Int32) (h_T : IV R B K1 K2 T) (k_o : R o = 11) : Tot (g_X11_bestVelocity T o a0 a1 a2) (fun r => (IV R B K1 K2 r.2.2 ∧ FW R [1600, 3202] T r.2.2) ∧ (r.1 = 0 → (-404 ≤ r.2.1.toInt ∧ r.2.1.toInt ≤ 999))) := by
  have z0 : ((1 : Int32) : Int32).toInt = 1 := by decide
  have z1 : ((99 : Int32) : Int32).toInt = 99 := by decide
  have z2 : ((0 : Int32) : Int32).toInt = 0 := by decide
  have z3 : ((4 : Int32) : Int32).toInt = 4 := by decide
  have z4 : ((-1) : Int32).toInt = -1 := by decide
  have cc_101 : cnt 101 = 1 := rfl
  have cc_102 : cnt 102 = 12 := rfl
  have cc_103 : cnt 103 = 144 := rfl
  have cc_104 : cnt 104 = 2400 := rfl
  have cc_105 : cnt 105 = 7200 := rfl
  have x_T : FW R [1600, 3202] T T := FW.rf
  have j_a0 := i_any a0
  have j_a1 := i_any a1
  have j_a2 := i_any a2
  unfold g_X11_bestVelocity
  refine tot_oif (iv_oO h_T k_o (by decide) (by decide) rfl) ?_
  refine tot_thrp (Q := fun r_1 : Int32 => (0 ≤ r_1.toInt ∧ r_1.toInt ≤ 0)) (cs_X11_needCamera T o h_T k_o ) (fun r_1 d_r_1 => ?_) (fun k_ => ⟨⟨h_T, x_T⟩, fun q_ => absurd q_ (Nat.succ_ne_zero k_)⟩)
  replace d_r_1 : (0 ≤ r_1.toInt ∧ r_1.toInt ≤ 0) := d_r_1
  refine tot_oif (iv_oO h_T k_o (by decide) (by decide) rfl) ?_
  refine tot_thrp (Q := fun r_3 : Int32 => (0 ≤ a0.toInt ∧ a0.toInt ≤ 143)) (cs_X11_needCell T o a0 h_T k_o ) (fun r_3 d_r_3 => ?_) (fun k_ => ⟨⟨h_T, x_T⟩, fun q_ => absurd q_ (Nat.succ_ne_zero k_)⟩)
  replace d_r_3 : (0 ≤ a0.toInt ∧ a0.toInt ≤ 143) := d_r_3
  refine tot_thrp (Q := fun r_5 : Int32 => (((1 : Int32) : Int32).toInt ≤ a1.toInt ∧ a1.toInt ≤ ((99 : Int32) : Int32).toInt)) (cs_X11_needRange T a1 (1 : Int32) (99 : Int32) h_T ) (fun r_5 d_r_5 => ?_) (fun k_ => ⟨⟨h_T, x_T⟩, fun q_ => absurd q_ (Nat.succ_ne_zero k_)⟩)
  replace d_r_5 : (((1 : Int32) : Int32).toInt ≤ a1.toInt ∧ a1.toInt ≤ ((99 : Int32) : Int32).toInt) := d_r_5
  refine tot_thrp (Q := fun r_7 : Int32 => (((0 : Int32) : Int32).toInt ≤ a2.toInt ∧ a2.toInt ≤ ((4 : Int32) : Int32).toInt)) (cs_X11_needRange T a2 (0 : Int32) (4 : Int32) h_T ) (fun r_7 d_r_7 => ?_) (fun k_ => ⟨⟨h_T, x_T⟩, fun q_ => absurd q_ (Nat.succ_ne_zero k_)⟩)
  replace d_r_7 : (((0 : Int32) : Int32).toInt ≤ a2.toInt ∧ a2.toInt ≤ ((4 : Int32) : Int32).toInt) := d_r_7
  refine tot_let (fun v_9 e_v_9 => ?_)
  have q_v_9 := i_neg e_v_9 (by omega)
  refine cl_X11_bestVelocity_b29 o a0 a1 a2 T k_o (fun k_ U_ i_ x_ => ⟨⟨i_, x_⟩, fun q_ => absurd q_ (Nat.succ_ne_zero k_)⟩) (by omega) (by omega) (by omega) ?_ 16384 T (-1) v_9 h_T x_T (by omega) (by omega) (by omega)
  · intro T_146 l_147 h_T_146 x_T_146 g_l_147
    exact tot_some ⟨⟨h_T_146, x_T_146⟩, fun _ => (show (-404 ≤ l_147.toInt ∧ l_147.toInt ≤ 999) from by omega)⟩
set_option maxHeartbeats 4000000 in
set_option maxRecDepth 10000 in
theorem cs_X11_correlation {R : Nat → Nat} {B K1 K2 : Nat} (T : AT) (o : Nat) (a0 : Int32) (a1 : Int32) (a2 : Int32) (h_T : IV R B K1 K2 T) (k_o : R o = 11) : Tot (g_X11_correlation T o a0 a1 a2) (fun r => (IV R B K1 K2 r.2.2 ∧ FW R [3202] T r.2.2) ∧ (r.1 = 0 → True)) := by
  have z0 : (1 : Int32).toInt = 1 := by decide
  have z1 : ((0 : Int32) : Int32).toInt = 0 := by decide
  have cc_101 : cnt 101 = 1 := rfl
  have cc_102 : cnt 102 = 12 := rfl
  have cc_103 : cnt 103 = 144 := rfl
  have cc_104 : cnt 104 = 2400 := rfl
  have cc_105 : cnt 105 = 7200 := rfl
  have x_T : FW R [3202] T T := FW.rf
  have j_a0 := i_any a0
  have j_a1 := i_any a1
  have j_a2 := i_any a2
  unfold g_X11_correlation
  refine tot_oif (iv_oO h_T k_o (by decide) (by decide) rfl) ?_
  refine tot_thrp (Q := fun r_1 : Int32 => (0 ≤ r_1.toInt ∧ r_1.toInt ≤ 0)) (cs_X11_needCamera T o h_T k_o ) (fun r_1 d_r_1 => ?_) (fun k_ => ⟨⟨h_T, x_T⟩, fun q_ => absurd q_ (Nat.succ_ne_zero k_)⟩)
  replace d_r_1 : (0 ≤ r_1.toInt ∧ r_1.toInt ≤ 0) := d_r_1
  refine tot_oif (iv_oO h_T k_o (by decide) (by decide) rfl) ?_
  refine tot_thrp (Q := fun r_3 : Int32 => (0 ≤ a0.toInt ∧ a0.toInt ≤ 11)) (cs_X11_needMic T o a0 h_T k_o ) (fun r_3 d_r_3 => ?_) (fun k_ => ⟨⟨h_T, x_T⟩, fun q_ => absurd q_ (Nat.succ_ne_zero k_)⟩)
  replace d_r_3 : (0 ≤ a0.toInt ∧ a0.toInt ≤ 11) := d_r_3
  refine tot_oif (iv_oO h_T k_o (by decide) (by decide) rfl) ?_
  refine tot_thrp (Q := fun r_5 : Int32 => (0 ≤ a1.toInt ∧ a1.toInt ≤ 11)) (cs_X11_needMic T o a1 h_T k_o ) (fun r_5 d_r_5 => ?_) (fun k_ => ⟨⟨h_T, x_T⟩, fun q_ => absurd q_ (Nat.succ_ne_zero k_)⟩)
  replace d_r_5 : (0 ≤ a1.toInt ∧ a1.toInt ≤ 11) := d_r_5
  refine tot_oif (iv_oO h_T k_o (by decide) (by decide) rfl) ?_
  refine tot_ref h_T k_o (by decide) (by decide) (r2 := 6) (rfl : rtg 11 14 = 6) (by decide) (fun n_7 k_n_7 e_n_7 => ?_)
  refine tot_oif (iv_oO h_T k_n_7 (by decide) (by decide) rfl) ?_
  refine tot_let (fun v_8 e_v_8 => ?_)
  have r_v_8 : 0 ≤ v_8.toInt ∧ v_8.toInt ≤ 200 := iv_int h_T k_n_7 (by decide) (by decide) e_v_8 rfl
  refine tot_let (fun v_9 e_v_9 => ?_)
  have q_v_9 := i_sub e_v_9 (by omega) (by omega)
  refine tot_thrp (Q := fun r_10 : Int32 => (((0 : Int32) : Int32).toInt ≤ a2.toInt ∧ a2.toInt ≤ v_9.toInt)) (cs_X11_needRange T a2 (0 : Int32) v_9 h_T ) (fun r_10 d_r_10 => ?_) (fun k_ => ⟨⟨h_T, x_T⟩, fun q_ => absurd q_ (Nat.succ_ne_zero k_)⟩)
  replace d_r_10 : (((0 : Int32) : Int32).toInt ≤ a2.toInt ∧ a2.toInt ≤ v_9.toInt) := d_r_10
  refine tot_oif (iv_oO h_T k_o (by decide) (by decide) rfl) ?_
  refine tot_ref h_T k_o (by decide) (by decide) (r2 := 8) (rfl : rtg 11 6 = 8) (by decide) (fun n_12 k_n_12 e_n_12 => ?_)
  refine tot_oif (iv_oO h_T k_o (by decide) (by decide) rfl) ?_
  refine tot_ref h_T k_o (by decide) (by decide) (r2 := 102) (rfl : rtg 11 12 = 102) (by decide) (fun n_13 k_n_13 e_n_13 => ?_)
  refine tot_oif (iv_oO h_T k_n_12 (by decide) (by decide) rfl) ?_
  refine tot_bind (cs_X8_productSum T n_12 a0 a1 a2 n_13 (0 : Int32) h_T k_n_12 k_n_13 (rfl : isW 102 = true) (by omega) (by omega) (by omega) (by omega) (by omega)) (fun T_14 d_T_14 => ?_)
  have h_T_14 : IV R B K1 K2 T_14 := d_T_14.1
  have y_T_14 : FW R [3202] T T_14 := d_T_14.2
  have x_T_14 := x_T.tr (y_T_14.w (by decide))
  unfold g_X11_correlation_b43
  refine tot_oif (iv_oO h_T_14 k_o (by decide) (by decide) rfl) ?_
  refine tot_ref h_T_14 k_o (by decide) (by decide) (r2 := 102) (rfl : rtg 11 12 = 102) (by decide) (fun n_15 k_n_15 e_n_15 => ?_)
  refine tot_oif (w_oO h_T_14 k_n_15 (rfl : isW 102 = true)) ?_
  refine tot_bindq (R := fun r_16 : Int64 => True) (c_value (a0 := (0 : Int32)) k_n_15 (rfl : isW 102 = true) h_T_14 (by omega)) (fun r_16 d_r_16 => ?_)
  exact tot_some ⟨⟨h_T_14, x_T_14⟩, fun _ => trivial⟩
set_option maxHeartbeats 4000000 in
set_option maxRecDepth 10000 in
theorem cl_X11_bestLag_b49 {R : Nat → Nat} {B K1 K2 : Nat} {Q : Nat × Int32 × AT → Prop} (l0 : Nat) (l1 : Int32) (l2 : Int32) (l3 : Int32) (T00 : AT) (k_l0 : R l0 = 11) (hthr : ∀ (k : Nat) (U : AT), IV R B K1 K2 U → FW R [3202] T00 U → Q (k + 1, 0, U)) (g0 : 0 ≤ l1.toInt ∧ l1.toInt ≤ 11) (g1 : 0 ≤ l2.toInt ∧ l2.toInt ≤ 11) (g2 : 0 ≤ l3.toInt ∧ l3.toInt ≤ 199) (hx0 : ∀ (T : AT) (l4 : Int32), (IV R B K1 K2 T) → (FW R [3202] T00 T) → (0 ≤ l4.toInt ∧ l4.toInt ≤ 199) → Tot (some (0, l4, T)) Q) : ∀ (n : Nat) (T : AT) (l4 : Int32) (l5 : Int32), (IV R B K1 K2 T) → (FW R [3202] T00 T) → (0 ≤ l4.toInt ∧ l4.toInt ≤ 199) → (1 ≤ l5.toInt ∧ l5.toInt ≤ 200) → 200 - l5.toInt < (n : Int) → Tot (g_X11_bestLag_b49 n T l0 l1 l2 l3 l4 l5) Q := by
  have z0 : ((1 : Int32) : Int32).toInt = 1 := by decide
  have z1 : ((0 : Int32) : Int32).toInt = 0 := by decide
  have z2 : (0 : Int32).toInt = 0 := by decide
  have z3 : (Int32.ofInt (1) : Int32).toInt = 1 := by decide
  have cc_101 : cnt 101 = 1 := rfl
  have cc_102 : cnt 102 = 12 := rfl
  have cc_103 : cnt 103 = 144 := rfl
  have cc_104 : cnt 104 = 2400 := rfl
  have cc_105 : cnt 105 = 7200 := rfl
  have j_l1 := i_any l1
  have j_l2 := i_any l2
  have j_l3 := i_any l3
  intro n
  induction n with
  | zero =>
    intro T l4 l5 h_T x_T g_l4 g_l5 hm
    exfalso
    omega
  | succ n ih =>
    intro T l4 l5 h_T x_T g_l4 g_l5 hm
    unfold g_X11_bestLag_b49
    refine tot_if (fun c_40 => ?_) (fun c_40 => ?_)
    · replace c_40 := i_lt c_40
      exact hx0 T l4 h_T x_T (by omega)
    · replace c_40 := i_nlt c_40
      refine tot_oif (iv_oO h_T k_l0 (by decide) (by decide) rfl) ?_
      refine tot_ref h_T k_l0 (by decide) (by decide) (r2 := 8) (rfl : rtg 11 6 = 8) (by decide) (fun n_37 k_n_37 e_n_37 => ?_)
      refine tot_oif (iv_oO h_T k_l0 (by decide) (by decide) rfl) ?_
      refine tot_ref h_T k_l0 (by decide) (by decide) (r2 := 102) (rfl : rtg 11 12 = 102) (by decide) (fun n_38 k_n_38 e_n_38 => ?_)
      refine tot_oif (iv_oO h_T k_n_37 (by decide) (by decide) rfl) ?_
      refine tot_bind (cs_X8_productSum T n_37 l1 l2 l5 n_38 (1 : Int32) h_T k_n_37 k_n_38 (rfl : isW 102 = true) (by omega) (by omega) (by omega) (by omega) (by omega)) (fun T_39 d_T_39 => ?_)
      have h_T_39 : IV R B K1 K2 T_39 := d_T_39.1
      have y_T_39 : FW R [3202] T T_39 := d_T_39.2
      have x_T_39 := x_T.tr (y_T_39.w (by decide))
      unfold g_X11_bestLag_b71
      refine tot_oif (iv_oO h_T_39 k_l0 (by decide) (by decide) rfl) ?_
      refine tot_ref h_T_39 k_l0 (by decide) (by decide) (r2 := 102) (rfl : rtg 11 12 = 102) (by decide) (fun n_41 k_n_41 e_n_41 => ?_)
      refine tot_oif (w_oO h_T_39 k_n_41 (rfl : isW 102 = true)) ?_
      refine tot_bindq (R := fun r_42 : Int32 => True) (c_compare (a0 := (1 : Int32)) (a1 := (0 : Int32)) k_n_41 (rfl : isW 102 = true) h_T_39 (by omega) (by omega)) (fun r_42 d_r_42 => ?_)
      have r_r_42 := i_any r_42
      refine tot_if (fun c_47 => ?_) (fun c_47 => ?_)
      · replace c_47 := i_le c_47
        unfold g_X11_bestLag_b100
        refine tot_let (fun v_48 e_v_48 => ?_)
        have q_v_48 := i_add e_v_48 (by omega) (by omega)
        exact ih T_39 l4 v_48 h_T_39 x_T_39 (by omega) (by omega) (by omega)
      · replace c_47 := i_nle c_47
        refine tot_oif (iv_oO h_T_39 k_l0 (by decide) (by decide) rfl) ?_
        refine tot_ref1 e_n_41 ?_
        refine tot_oif (iv_oO h_T_39 k_l0 (by decide) (by decide) rfl) ?_
        refine tot_ref1 e_n_41 ?_
        refine tot_oif (w_oO h_T_39 k_n_41 (rfl : isW 102 = true)) ?_
        refine tot_bind (c_set (a0 := (0 : Int32)) (a2 := (1 : Int32)) k_n_41 (rfl : isW 102 = true) k_n_41 (rfl : isW 102 = true) h_T_39 (by omega) (by omega)) (fun T_46 d_T_46 => ?_)
        have h_T_46 : IV R B K1 K2 T_46 := d_T_46.1
        have y_T_46 : FW R [3202] T_39 T_46 := (fw_wx d_T_46.2 k_n_41 (rfl : isW 102 = true) (by decide))
        have x_T_46 := x_T_39.tr (y_T_46.w (by decide))
        unfold g_X11_bestLag_b96
        unfold g_X11_bestLag_b100
        refine tot_let (fun v_49 e_v_49 => ?_)
        have q_v_49 := i_add e_v_49 (by omega) (by omega)
        exact ih T_46 l5 v_49 h_T_46 x_T_46 (by omega) (by omega) (by omega)
set_option maxHeartbeats 4000000 in
set_option maxRecDepth 10000 in
theorem cs_X11_bestLag {R : Nat → Nat} {B K1 K2 : Nat} (T : AT) (o : Nat) (a0 : Int32) (a1 : Int32) (a2 : Int32) (h_T : IV R B K1 K2 T) (k_o : R o = 11) : Tot (g_X11_bestLag T o a0 a1 a2) (fun r => (IV R B K1 K2 r.2.2 ∧ FW R [3202] T r.2.2) ∧ (r.1 = 0 → (0 ≤ r.2.1.toInt ∧ r.2.1.toInt ≤ 199))) := by
  have z0 : (1 : Int32).toInt = 1 := by decide
  have z1 : ((0 : Int32) : Int32).toInt = 0 := by decide
  have z2 : (0 : Int32).toInt = 0 := by decide
  have cc_101 : cnt 101 = 1 := rfl
  have cc_102 : cnt 102 = 12 := rfl
  have cc_103 : cnt 103 = 144 := rfl
  have cc_104 : cnt 104 = 2400 := rfl
  have cc_105 : cnt 105 = 7200 := rfl
  have x_T : FW R [3202] T T := FW.rf
  have j_a0 := i_any a0
  have j_a1 := i_any a1
  have j_a2 := i_any a2
  unfold g_X11_bestLag
  refine tot_oif (iv_oO h_T k_o (by decide) (by decide) rfl) ?_
  refine tot_thrp (Q := fun r_1 : Int32 => (0 ≤ r_1.toInt ∧ r_1.toInt ≤ 0)) (cs_X11_needCamera T o h_T k_o ) (fun r_1 d_r_1 => ?_) (fun k_ => ⟨⟨h_T, x_T⟩, fun q_ => absurd q_ (Nat.succ_ne_zero k_)⟩)
  replace d_r_1 : (0 ≤ r_1.toInt ∧ r_1.toInt ≤ 0) := d_r_1
  refine tot_oif (iv_oO h_T k_o (by decide) (by decide) rfl) ?_
  refine tot_thrp (Q := fun r_3 : Int32 => (0 ≤ a0.toInt ∧ a0.toInt ≤ 11)) (cs_X11_needMic T o a0 h_T k_o ) (fun r_3 d_r_3 => ?_) (fun k_ => ⟨⟨h_T, x_T⟩, fun q_ => absurd q_ (Nat.succ_ne_zero k_)⟩)
  replace d_r_3 : (0 ≤ a0.toInt ∧ a0.toInt ≤ 11) := d_r_3
  refine tot_oif (iv_oO h_T k_o (by decide) (by decide) rfl) ?_
  refine tot_thrp (Q := fun r_5 : Int32 => (0 ≤ a1.toInt ∧ a1.toInt ≤ 11)) (cs_X11_needMic T o a1 h_T k_o ) (fun r_5 d_r_5 => ?_) (fun k_ => ⟨⟨h_T, x_T⟩, fun q_ => absurd q_ (Nat.succ_ne_zero k_)⟩)
  replace d_r_5 : (0 ≤ a1.toInt ∧ a1.toInt ≤ 11) := d_r_5
  refine tot_oif (iv_oO h_T k_o (by decide) (by decide) rfl) ?_
  refine tot_ref h_T k_o (by decide) (by decide) (r2 := 6) (rfl : rtg 11 14 = 6) (by decide) (fun n_7 k_n_7 e_n_7 => ?_)
  refine tot_oif (iv_oO h_T k_n_7 (by decide) (by decide) rfl) ?_
  refine tot_let (fun v_8 e_v_8 => ?_)
  have r_v_8 : 0 ≤ v_8.toInt ∧ v_8.toInt ≤ 200 := iv_int h_T k_n_7 (by decide) (by decide) e_v_8 rfl
  refine tot_let (fun v_9 e_v_9 => ?_)
  have q_v_9 := i_sub e_v_9 (by omega) (by omega)
  refine tot_thrp (Q := fun r_10 : Int32 => (((0 : Int32) : Int32).toInt ≤ a2.toInt ∧ a2.toInt ≤ v_9.toInt)) (cs_X11_needRange T a2 (0 : Int32) v_9 h_T ) (fun r_10 d_r_10 => ?_) (fun k_ => ⟨⟨h_T, x_T⟩, fun q_ => absurd q_ (Nat.succ_ne_zero k_)⟩)
  replace d_r_10 : (((0 : Int32) : Int32).toInt ≤ a2.toInt ∧ a2.toInt ≤ v_9.toInt) := d_r_10
  refine tot_oif (iv_oO h_T k_o (by decide) (by decide) rfl) ?_
  refine tot_ref h_T k_o (by decide) (by decide) (r2 := 8) (rfl : rtg 11 6 = 8) (by decide) (fun n_12 k_n_12 e_n_12 => ?_)
  refine tot_oif (iv_oO h_T k_o (by decide) (by decide) rfl) ?_
  refine tot_ref h_T k_o (by decide) (by decide) (r2 := 102) (rfl : rtg 11 12 = 102) (by decide) (fun n_13 k_n_13 e_n_13 => ?_)
  refine tot_oif (iv_oO h_T k_n_12 (by decide) (by decide) rfl) ?_
  refine tot_bind (cs_X8_productSum T n_12 a0 a1 (0 : Int32) n_13 (0 : Int32) h_T k_n_12 k_n_13 (rfl : isW 102 = true) (by omega) (by omega) (by omega) (by omega) (by omega)) (fun T_14 d_T_14 => ?_)
  have h_T_14 : IV R B K1 K2 T_14 := d_T_14.1
  have y_T_14 : FW R [3202] T T_14 := d_T_14.2
  have x_T_14 := x_T.tr (y_T_14.w (by decide))
  unfold g_X11_bestLag_b46
  refine cl_X11_bestLag_b49 o a0 a1 a2 T k_o (fun k_ U_ i_ x_ => ⟨⟨i_, x_⟩, fun q_ => absurd q_ (Nat.succ_ne_zero k_)⟩) (by omega) (by omega) (by omega) ?_ 16384 T_14 0 1 h_T_14 x_T_14 (by omega) (by omega) (by omega)
  · intro T_50 l_51 h_T_50 x_T_50 g_l_51
    exact tot_some ⟨⟨h_T_50, x_T_50⟩, fun _ => (show (0 ≤ l_51.toInt ∧ l_51.toInt ≤ 199) from by omega)⟩
set_option maxHeartbeats 4000000 in
set_option maxRecDepth 10000 in
theorem cs_X11_measureLevel {R : Nat → Nat} {B K1 K2 : Nat} (T : AT) (o : Nat) (a0 : Int32) (h_T : IV R B K1 K2 T) (k_o : R o = 11) (g0 : 0 ≤ a0.toInt ∧ a0.toInt ≤ 11) : Tot (g_X11_measureLevel T o a0) (fun T1 => IV R B K1 K2 T1 ∧ FW R [3202] T T1) := by
  have z0 : ((0 : Int32) : Int32).toInt = 0 := by decide
  have cc_101 : cnt 101 = 1 := rfl
  have cc_102 : cnt 102 = 12 := rfl
  have cc_103 : cnt 103 = 144 := rfl
  have cc_104 : cnt 104 = 2400 := rfl
  have cc_105 : cnt 105 = 7200 := rfl
  have x_T : FW R [3202] T T := FW.rf
  have j_a0 := i_any a0
  unfold g_X11_measureLevel
  refine tot_oif (iv_oO h_T k_o (by decide) (by decide) rfl) ?_
  refine tot_ref h_T k_o (by decide) (by decide) (r2 := 8) (rfl : rtg 11 6 = 8) (by decide) (fun n_1 k_n_1 e_n_1 => ?_)
  refine tot_oif (iv_oO h_T k_o (by decide) (by decide) rfl) ?_
  refine tot_ref h_T k_o (by decide) (by decide) (r2 := 102) (rfl : rtg 11 12 = 102) (by decide) (fun n_2 k_n_2 e_n_2 => ?_)
  refine tot_oif (iv_oO h_T k_n_1 (by decide) (by decide) rfl) ?_
  refine tot_bind (cs_X8_productSum T n_1 a0 a0 (0 : Int32) n_2 a0 h_T k_n_1 k_n_2 (rfl : isW 102 = true) (by omega) (by omega) (by omega) (by omega) (by omega)) (fun T_3 d_T_3 => ?_)
  have h_T_3 : IV R B K1 K2 T_3 := d_T_3.1
  have y_T_3 : FW R [3202] T T_3 := d_T_3.2
  have x_T_3 := x_T.tr (y_T_3.w (by decide))
  unfold g_X11_measureLevel_b15
  refine tot_oif (iv_oO h_T_3 k_o (by decide) (by decide) rfl) ?_
  refine tot_ref h_T_3 k_o (by decide) (by decide) (r2 := 102) (rfl : rtg 11 12 = 102) (by decide) (fun n_4 k_n_4 e_n_4 => ?_)
  refine tot_oif (iv_oO h_T_3 k_o (by decide) (by decide) rfl) ?_
  refine tot_ref h_T_3 k_o (by decide) (by decide) (r2 := 6) (rfl : rtg 11 14 = 6) (by decide) (fun n_5 k_n_5 e_n_5 => ?_)
  refine tot_oif (iv_oO h_T_3 k_n_5 (by decide) (by decide) rfl) ?_
  refine tot_let (fun v_6 e_v_6 => ?_)
  have r_v_6 : 0 ≤ v_6.toInt ∧ v_6.toInt ≤ 200 := iv_int h_T_3 k_n_5 (by decide) (by decide) e_v_6 rfl
  refine tot_oif (w_oO h_T_3 k_n_4 (rfl : isW 102 = true)) ?_
  refine tot_bind (c_divide (a0 := a0) (a1 := v_6) k_n_4 (rfl : isW 102 = true) h_T_3 (by omega)) (fun T_7 d_T_7 => ?_)
  have h_T_7 : IV R B K1 K2 T_7 := d_T_7.1
  have y_T_7 : FW R [3202] T_3 T_7 := (fw_wx d_T_7.2 k_n_4 (rfl : isW 102 = true) (by decide))
  have x_T_7 := x_T_3.tr (y_T_7.w (by decide))
  unfold g_X11_measureLevel_b30
  exact tot_some ⟨h_T_7, x_T_7⟩
set_option maxHeartbeats 4000000 in
set_option maxRecDepth 10000 in
theorem cs_X11_level {R : Nat → Nat} {B K1 K2 : Nat} (T : AT) (o : Nat) (a0 : Int32) (h_T : IV R B K1 K2 T) (k_o : R o = 11) : Tot (g_X11_level T o a0) (fun r => (IV R B K1 K2 r.2.2 ∧ FW R [3202] T r.2.2) ∧ (r.1 = 0 → True)) := by
  have cc_101 : cnt 101 = 1 := rfl
  have cc_102 : cnt 102 = 12 := rfl
  have cc_103 : cnt 103 = 144 := rfl
  have cc_104 : cnt 104 = 2400 := rfl
  have cc_105 : cnt 105 = 7200 := rfl
  have x_T : FW R [3202] T T := FW.rf
  have j_a0 := i_any a0
  unfold g_X11_level
  refine tot_oif (iv_oO h_T k_o (by decide) (by decide) rfl) ?_
  refine tot_thrp (Q := fun r_1 : Int32 => (0 ≤ r_1.toInt ∧ r_1.toInt ≤ 0)) (cs_X11_needCamera T o h_T k_o ) (fun r_1 d_r_1 => ?_) (fun k_ => ⟨⟨h_T, x_T⟩, fun q_ => absurd q_ (Nat.succ_ne_zero k_)⟩)
  replace d_r_1 : (0 ≤ r_1.toInt ∧ r_1.toInt ≤ 0) := d_r_1
  refine tot_oif (iv_oO h_T k_o (by decide) (by decide) rfl) ?_
  refine tot_thrp (Q := fun r_3 : Int32 => (0 ≤ a0.toInt ∧ a0.toInt ≤ 11)) (cs_X11_needMic T o a0 h_T k_o ) (fun r_3 d_r_3 => ?_) (fun k_ => ⟨⟨h_T, x_T⟩, fun q_ => absurd q_ (Nat.succ_ne_zero k_)⟩)
  replace d_r_3 : (0 ≤ a0.toInt ∧ a0.toInt ≤ 11) := d_r_3
  refine tot_oif (iv_oO h_T k_o (by decide) (by decide) rfl) ?_
  refine tot_bind (cs_X11_measureLevel T o a0 h_T k_o (by omega)) (fun T_5 d_T_5 => ?_)
  have h_T_5 : IV R B K1 K2 T_5 := d_T_5.1
  have y_T_5 : FW R [3202] T T_5 := d_T_5.2
  have x_T_5 := x_T.tr (y_T_5.w (by decide))
  unfold g_X11_level_b14
  refine tot_oif (iv_oO h_T_5 k_o (by decide) (by decide) rfl) ?_
  refine tot_ref h_T_5 k_o (by decide) (by decide) (r2 := 102) (rfl : rtg 11 12 = 102) (by decide) (fun n_6 k_n_6 e_n_6 => ?_)
  refine tot_oif (w_oO h_T_5 k_n_6 (rfl : isW 102 = true)) ?_
  refine tot_bindq (R := fun r_7 : Int64 => True) (c_value (a0 := a0) k_n_6 (rfl : isW 102 = true) h_T_5 (by omega)) (fun r_7 d_r_7 => ?_)
  exact tot_some ⟨⟨h_T_5, x_T_5⟩, fun _ => trivial⟩
set_option maxHeartbeats 4000000 in
set_option maxRecDepth 10000 in
theorem cl_X11_loudest_b17 {R : Nat → Nat} {B K1 K2 : Nat} {Q : Nat × Int32 × AT → Prop} (l0 : Nat) (l1 : Int32) (T00 : AT) (k_l0 : R l0 = 11) (hthr : ∀ (k : Nat) (U : AT), IV R B K1 K2 U → FW R [3202] T00 U → Q (k + 1, 0, U)) (g0 : 0 ≤ l1.toInt ∧ l1.toInt ≤ 11) (hx0 : ∀ (T : AT), (IV R B K1 K2 T) → (FW R [3202] T00 T) → Tot (oif (oO T l0 11 = true) <| obind (T.2.2.2.2 l0 12) fun n_27 => oif (oO T l0 11 = true) <| obind (T.2.2.2.2 l0 14) fun n_28 => oif (oO T n_28 6 = true) <| elet (T.2.2.1 n_28 5) fun v_29 => oif (oO T n_27 10 = true) <| obind2 (g_X10_ranked T n_27 v_29 l1) fun r_30 T_31 => some (0, r_30, T_31)) Q) : ∀ (n : Nat) (T : AT) (l2 : Int32), (IV R B K1 K2 T) → (FW R [3202] T00 T) → (0 ≤ l2.toInt ∧ l2.toInt ≤ 12) → 12 - l2.toInt < (n : Int) → Tot (g_X11_loudest_b17 n T l0 l1 l2) Q := by
  have z0 : (Int32.ofInt (1) : Int32).toInt = 1 := by decide
  have cc_101 : cnt 101 = 1 := rfl
  have cc_102 : cnt 102 = 12 := rfl
  have cc_103 : cnt 103 = 144 := rfl
  have cc_104 : cnt 104 = 2400 := rfl
  have cc_105 : cnt 105 = 7200 := rfl
  have j_l1 := i_any l1
  intro n
  induction n with
  | zero =>
    intro T l2 h_T x_T g_l2 hm
    exfalso
    omega
  | succ n ih =>
    intro T l2 h_T x_T g_l2 hm
    unfold g_X11_loudest_b17
    refine tot_oif (iv_oO h_T k_l0 (by decide) (by decide) rfl) ?_
    refine tot_ref h_T k_l0 (by decide) (by decide) (r2 := 6) (rfl : rtg 11 14 = 6) (by decide) (fun n_25 k_n_25 e_n_25 => ?_)
    refine tot_oif (iv_oO h_T k_n_25 (by decide) (by decide) rfl) ?_
    refine tot_let (fun v_26 e_v_26 => ?_)
    have r_v_26 : 0 ≤ v_26.toInt ∧ v_26.toInt ≤ 12 := iv_int h_T k_n_25 (by decide) (by decide) e_v_26 rfl
    refine tot_if (fun c_33 => ?_) (fun c_33 => ?_)
    · replace c_33 := i_le c_33
      exact hx0 T h_T x_T
    · replace c_33 := i_nle c_33
      refine tot_oif (iv_oO h_T k_l0 (by decide) (by decide) rfl) ?_
      refine tot_bind (cs_X11_measureLevel T l0 l2 h_T k_l0 (by omega)) (fun T_32 d_T_32 => ?_)
      have h_T_32 : IV R B K1 K2 T_32 := d_T_32.1
      have y_T_32 : FW R [3202] T T_32 := d_T_32.2
      have x_T_32 := x_T.tr (y_T_32.w (by decide))
      unfold g_X11_loudest_b33
      refine tot_let (fun v_34 e_v_34 => ?_)
      have q_v_34 := i_add e_v_34 (by omega) (by omega)
      exact ih T_32 v_34 h_T_32 x_T_32 (by omega) (by omega)
set_option maxHeartbeats 4000000 in
set_option maxRecDepth 10000 in
theorem cs_X11_loudest {R : Nat → Nat} {B K1 K2 : Nat} (T : AT) (o : Nat) (a0 : Int32) (h_T : IV R B K1 K2 T) (k_o : R o = 11) : Tot (g_X11_loudest T o a0) (fun r => (IV R B K1 K2 r.2.2 ∧ FW R [3202] T r.2.2) ∧ (r.1 = 0 → (-1 ≤ r.2.1.toInt ∧ r.2.1.toInt ≤ 11))) := by
  have z0 : (0 : Int32).toInt = 0 := by decide
  have cc_101 : cnt 101 = 1 := rfl
  have cc_102 : cnt 102 = 12 := rfl
  have cc_103 : cnt 103 = 144 := rfl
  have cc_104 : cnt 104 = 2400 := rfl
  have cc_105 : cnt 105 = 7200 := rfl
  have x_T : FW R [3202] T T := FW.rf
  have j_a0 := i_any a0
  unfold g_X11_loudest
  refine tot_oif (iv_oO h_T k_o (by decide) (by decide) rfl) ?_
  refine tot_thrp (Q := fun r_1 : Int32 => (0 ≤ r_1.toInt ∧ r_1.toInt ≤ 0)) (cs_X11_needCamera T o h_T k_o ) (fun r_1 d_r_1 => ?_) (fun k_ => ⟨⟨h_T, x_T⟩, fun q_ => absurd q_ (Nat.succ_ne_zero k_)⟩)
  replace d_r_1 : (0 ≤ r_1.toInt ∧ r_1.toInt ≤ 0) := d_r_1
  refine tot_oif (iv_oO h_T k_o (by decide) (by decide) rfl) ?_
  refine tot_ref h_T k_o (by decide) (by decide) (r2 := 6) (rfl : rtg 11 14 = 6) (by decide) (fun n_3 k_n_3 e_n_3 => ?_)
  refine tot_oif (iv_oO h_T k_n_3 (by decide) (by decide) rfl) ?_
  refine tot_let (fun v_4 e_v_4 => ?_)
  have r_v_4 : 0 ≤ v_4.toInt ∧ v_4.toInt ≤ 12 := iv_int h_T k_n_3 (by decide) (by decide) e_v_4 rfl
  refine tot_thrp (Q := fun r_5 : Int32 => (0 ≤ a0.toInt ∧ a0.toInt < v_4.toInt)) (cs_X11_needIndex T a0 v_4 h_T ) (fun r_5 d_r_5 => ?_) (fun k_ => ⟨⟨h_T, x_T⟩, fun q_ => absurd q_ (Nat.succ_ne_zero k_)⟩)
  replace d_r_5 : (0 ≤ a0.toInt ∧ a0.toInt < v_4.toInt) := d_r_5
  refine cl_X11_loudest_b17 o a0 T k_o (fun k_ U_ i_ x_ => ⟨⟨i_, x_⟩, fun q_ => absurd q_ (Nat.succ_ne_zero k_)⟩) (by omega) ?_ 16384 T 0 h_T x_T (by omega) (by omega)
  · intro T_35 h_T_35 x_T_35
    refine tot_oif (iv_oO h_T_35 k_o (by decide) (by decide) rfl) ?_
    refine tot_ref h_T_35 k_o (by decide) (by decide) (r2 := 102) (rfl : rtg 11 12 = 102) (by decide) (fun n_36 k_n_36 e_n_36 => ?_)
    refine tot_oif (iv_oO h_T_35 k_o (by decide) (by decide) rfl) ?_
    refine tot_ref h_T_35 k_o (by decide) (by decide) (r2 := 6) (rfl : rtg 11 14 = 6) (by decide) (fun n_37 k_n_37 e_n_37 => ?_)
    refine tot_oif (iv_oO h_T_35 k_n_37 (by decide) (by decide) rfl) ?_
    refine tot_let (fun v_38 e_v_38 => ?_)
    have r_v_38 : 0 ≤ v_38.toInt ∧ v_38.toInt ≤ 12 := iv_int h_T_35 k_n_37 (by decide) (by decide) e_v_38 rfl
    refine tot_oif (w_oO h_T_35 k_n_36 (rfl : isW 102 = true)) ?_
    refine tot_bindq (R := fun r_39 : Int32 => r_39.toInt = -1 ∨ 0 ≤ r_39.toInt ∧ r_39.toInt < v_38.toInt) (c_ranked (a0 := v_38) (a1 := a0) k_n_36 (rfl : isW 102 = true) h_T_35 (by omega)) (fun r_39 d_r_39 => ?_)
    replace d_r_39 : r_39.toInt = -1 ∨ 0 ≤ r_39.toInt ∧ r_39.toInt < v_38.toInt := d_r_39
    exact tot_some ⟨⟨h_T_35, x_T_35⟩, fun _ => (show (-1 ≤ r_39.toInt ∧ r_39.toInt ≤ 11) from by omega)⟩
set_option maxHeartbeats 4000000 in
set_option maxRecDepth 10000 in
theorem cs_X11_addMapByte {R : Nat → Nat} {B K1 K2 : Nat} (T : AT) (o : Nat) (a0 : Int32) (h_T : IV R B K1 K2 T) (k_o : R o = 11) (g0 : 48 ≤ a0.toInt ∧ a0.toInt ≤ 59) : Tot (g_X11_addMapByte T o a0) (fun T1 => IV R B K1 K2 T1 ∧ FW R [370, 1664] T T1) := by
  have z0 : (1 : Int32).toInt = 1 := by decide
  have cc_101 : cnt 101 = 1 := rfl
  have cc_102 : cnt 102 = 12 := rfl
  have cc_103 : cnt 103 = 144 := rfl
  have cc_104 : cnt 104 = 2400 := rfl
  have cc_105 : cnt 105 = 7200 := rfl
  have x_T : FW R [370, 1664] T T := FW.rf
  have j_a0 := i_any a0
  unfold g_X11_addMapByte
  refine tot_oif (iv_oO h_T k_o (by decide) (by decide) rfl) ?_
  refine tot_let (fun v_1 e_v_1 => ?_)
  have q_v_1 := i_eq e_v_1
  have r_v_1 : 0 ≤ v_1.toInt ∧ v_1.toInt ≤ 155 := iv_int h_T k_o (by decide) (by decide) e_v_1 rfl
  refine tot_oif (iv_oO h_T k_o (by decide) (by decide) rfl) ?_
  refine tot_ref h_T k_o (by decide) (by decide) (r2 := 52) (rfl : rtg 11 13 = 52) (by decide) (fun n_2 k_n_2 e_n_2 => ?_)
  refine tot_oif (iv_aA h_T k_n_2 (by decide) (by decide) rfl rfl) ?_
  refine tot_let (fun v_3 e_v_3 => ?_)
  have q_v_3 : v_3.toInt = 155 := by rw [e_v_3, iv_len h_T k_n_2 (by decide) (by decide) (rfl : shp 52 = (100, 155))]; decide
  refine tot_if (fun c_10 => ?_) (fun c_10 => ?_)
  · replace c_10 := i_le c_10
    unfold g_X11_addMapByte_b32
    exact tot_some ⟨h_T, x_T⟩
  · replace c_10 := i_nle c_10
    refine tot_oif (iv_oO h_T k_o (by decide) (by decide) rfl) ?_
    refine tot_ref1 e_n_2 ?_
    refine tot_oif (iv_oO h_T k_o (by decide) (by decide) rfl) ?_
    refine tot_let (fun v_5 e_v_5 => ?_)
    have u_v_5 : v_5.toInt = v_1.toInt := by rw [e_v_5, e_v_1]
    have q_v_5 := i_eq e_v_5
    have r_v_5 : 0 ≤ v_5.toInt ∧ v_5.toInt ≤ 155 := iv_int h_T k_o (by decide) (by decide) e_v_5 rfl
    refine tot_oif (iv_aA h_T k_n_2 (by decide) (by decide) rfl rfl) ?_
    refine tot_oif (by rw [iv_len h_T k_n_2 (by decide) (by decide) (rfl : shp 52 = (100, 155))]; exact i_inb (by omega) (by omega)) ?_
    refine tot_let (fun T_6 e_T_6 => ?_)
    have ja_T_6 := i_any a0
    have h_T_6 : IV R B K1 K2 T_6 := by rw [e_T_6]; exact iv_uI (a := -2147483648) (b := 2147483647) h_T k_n_2 (by decide) (by decide) rfl (by omega) (.inl rfl)
    have x_T_6 := x_T.tr (fw_uA e_T_6 k_n_2 rfl rfl (by decide))
    have f_T_6_o_18 : (T_6.2.2.1 o 18).toInt = (T.2.2.1 o 18).toInt := congrArg Int32.toInt ((fw_uA (W := [1664]) e_T_6 k_n_2 rfl rfl (by decide)) o 18 (by rw [k_o]; decide))
    refine tot_oif (iv_oO h_T_6 k_o (by decide) (by decide) rfl) ?_
    refine tot_let (fun v_7 e_v_7 => ?_)
    have q_v_7 := i_eq e_v_7
    have r_v_7 : 0 ≤ v_7.toInt ∧ v_7.toInt ≤ 155 := iv_int h_T_6 k_o (by decide) (by decide) e_v_7 rfl
    refine tot_let (fun v_8 e_v_8 => ?_)
    have q_v_8 := i_add e_v_8 (by omega) (by omega)
    refine tot_oif (iv_oO h_T_6 k_o (by decide) (by decide) rfl) ?_
    refine tot_let (fun T_9 e_T_9 => ?_)
    have h_T_9 : IV R B K1 K2 T_9 := by rw [e_T_9]; exact iv_uI (a := 0) (b := 155) h_T_6 k_o (by decide) (by decide) rfl (by omega) (.inl rfl)
    have x_T_9 := x_T_6.tr (fw_uI e_T_9 k_o (by decide))
    have f_T_9_o_18 : (T_9.2.2.1 o 18).toInt = (v_8 : Int32).toInt := by rw [e_T_9]; exact congrArg Int32.toInt (uI_at _ _ _ _)
    unfold g_X11_addMapByte_b32
    exact tot_some ⟨h_T_9, x_T_9⟩
set_option maxHeartbeats 4000000 in
set_option maxRecDepth 10000 in
theorem cl_X11_writeMap_b16 {R : Nat → Nat} {B K1 K2 : Nat} {Q : Nat × Int32 × AT → Prop} (l0 : Nat) (l1 : Nat) (T00 : AT) (k_l0 : R l0 = 11) (k_l1 : R l1 = 4) (hthr : ∀ (k : Nat) (U : AT), IV R B K1 K2 U → FW R [128, 130, 131, 370, 1664, 1952, 2144, 3202] T00 U → Q (k + 1, 0, U)) (hx0 : ∀ (T : AT), (IV R B K1 K2 T) → (FW R [128, 130, 131, 370, 1664, 1952, 2144, 3202] T00 T) → Tot (oif (oO T l0 11 = true) <| elet (T.2.2.1 l0 18) fun v_66 => some (0, v_66, T)) Q) : ∀ (n : Nat) (T : AT) (l2 : Int32), (IV R B K1 K2 T) → (FW R [128, 130, 131, 370, 1664, 1952, 2144, 3202] T00 T) → (0 ≤ l2.toInt ∧ l2.toInt ≤ 144) → 144 - l2.toInt < (n : Int) → Tot (g_X11_writeMap_b16 n T l0 l1 l2) Q := by
  have z0 : (0 : Int32).toInt = 0 := by decide
  have z1 : (48 : Int32).toInt = 48 := by decide
  have z2 : (Int32.ofInt (1) : Int32).toInt = 1 := by decide
  have z3 : ((59 : Int32) : Int32).toInt = 59 := by decide
  have cc_101 : cnt 101 = 1 := rfl
  have cc_102 : cnt 102 = 12 := rfl
  have cc_103 : cnt 103 = 144 := rfl
  have cc_104 : cnt 104 = 2400 := rfl
  have cc_105 : cnt 105 = 7200 := rfl
  intro n
  induction n with
  | zero =>
    intro T l2 h_T x_T g_l2 hm
    exfalso
    omega
  | succ n ih =>
    intro T l2 h_T x_T g_l2 hm
    unfold g_X11_writeMap_b16
    refine tot_oif (iv_oO h_T k_l0 (by decide) (by decide) rfl) ?_
    refine tot_ref h_T k_l0 (by decide) (by decide) (r2 := 6) (rfl : rtg 11 14 = 6) (by decide) (fun n_62 k_n_62 e_n_62 => ?_)
    refine tot_oif (iv_oO h_T k_n_62 (by decide) (by decide) rfl) ?_
    refine tot_ref h_T k_n_62 (by decide) (by decide) (r2 := 1) (rfl : rtg 6 6 = 1) (by decide) (fun n_63 k_n_63 e_n_63 => ?_)
    refine tot_oif (iv_oO h_T k_n_63 (by decide) (by decide) rfl) ?_
    refine tot_bindq (R := fun r_64 : Int32 => (0 ≤ r_64.toInt ∧ r_64.toInt ≤ 144)) (cs_X1_cells T n_63 h_T k_n_63 ) (fun r_64 d_r_64 => ?_)
    replace d_r_64 : (0 ≤ r_64.toInt ∧ r_64.toInt ≤ 144) := d_r_64
    refine tot_if (fun c_72 => ?_) (fun c_72 => ?_)
    · replace c_72 := i_le c_72
      exact hx0 T h_T x_T
    · replace c_72 := i_nle c_72
      refine tot_if (fun c_73 => ?_) (fun c_73 => ?_)
      · replace c_73 := i_le c_73
        unfold g_X11_writeMap_b54
        refine tot_oif (iv_oO h_T k_l0 (by decide) (by decide) rfl) ?_
        refine tot_ref h_T k_l0 (by decide) (by decide) (r2 := 102) (rfl : rtg 11 12 = 102) (by decide) (fun n_74 k_n_74 e_n_74 => ?_)
        refine tot_oif (iv_oO h_T k_l1 (by decide) (by decide) rfl) ?_
        refine tot_bind2 (cs_X4_digit T l1 l2 n_74 h_T k_l1 k_n_74 (rfl : isW 102 = true) (by omega) (by omega)) (fun r_75 T_76 d_r_75 => ?_)
        have h_T_76 : IV R B K1 K2 T_76 := d_r_75.1.1
        have y_T_76 : FW R [3202] T T_76 := d_r_75.1.2
        have x_T_76 := x_T.tr (y_T_76.w (by decide))
        replace d_r_75 : (0 ≤ r_75.toInt ∧ r_75.toInt ≤ 9) := d_r_75.2
        unfold g_X11_writeMap_b66
        refine tot_let (fun v_77 e_v_77 => ?_)
        have q_v_77 := i_add e_v_77 (by omega) (by omega)
        refine tot_oif (iv_oO h_T_76 k_l0 (by decide) (by decide) rfl) ?_
        refine tot_bind (cs_X11_addMapByte T_76 l0 v_77 h_T_76 k_l0 (by omega)) (fun T_78 d_T_78 => ?_)
        have h_T_78 : IV R B K1 K2 T_78 := d_T_78.1
        have y_T_78 : FW R [370, 1664] T_76 T_78 := d_T_78.2
        have x_T_78 := x_T_76.tr (y_T_78.w (by decide))
        refine tot_let (fun v_79 e_v_79 => ?_)
        have q_v_79 := i_add e_v_79 (by omega) (by omega)
        exact ih T_78 v_79 h_T_78 x_T_78 (by omega) (by omega)
      · replace c_73 := i_nle c_73
        refine tot_oif (iv_oO h_T k_l0 (by decide) (by decide) rfl) ?_
        refine tot_ref1 e_n_62 ?_
        refine tot_oif (iv_oO h_T k_n_62 (by decide) (by decide) rfl) ?_
        refine tot_ref1 e_n_63 ?_
        refine tot_oif (iv_oO h_T k_n_63 (by decide) (by decide) rfl) ?_
        refine tot_bindq (R := fun r_69 : Int32 => (0 ≤ r_69.toInt ∧ r_69.toInt ≤ 11)) (cs_X1_columnOf T n_63 l2 h_T k_n_63 (by omega)) (fun r_69 d_r_69 => ?_)
        replace d_r_69 : (0 ≤ r_69.toInt ∧ r_69.toInt ≤ 11) := d_r_69
        refine tot_if (fun c_80 => ?_) (fun c_80 => ?_)
        · replace c_80 := i_eq c_80
          refine tot_oif (iv_oO h_T k_l0 (by decide) (by decide) rfl) ?_
          refine tot_bind (cs_X11_addMapByte T l0 (59 : Int32) h_T k_l0 (by omega)) (fun T_71 d_T_71 => ?_)
          have h_T_71 : IV R B K1 K2 T_71 := d_T_71.1
          have y_T_71 : FW R [370, 1664] T T_71 := d_T_71.2
          have x_T_71 := x_T.tr (y_T_71.w (by decide))
          unfold g_X11_writeMap_b54
          refine tot_oif (iv_oO h_T_71 k_l0 (by decide) (by decide) rfl) ?_
          refine tot_ref h_T_71 k_l0 (by decide) (by decide) (r2 := 102) (rfl : rtg 11 12 = 102) (by decide) (fun n_81 k_n_81 e_n_81 => ?_)
          refine tot_oif (iv_oO h_T_71 k_l1 (by decide) (by decide) rfl) ?_
          refine tot_bind2 (cs_X4_digit T_71 l1 l2 n_81 h_T_71 k_l1 k_n_81 (rfl : isW 102 = true) (by omega) (by omega)) (fun r_82 T_83 d_r_82 => ?_)
          have h_T_83 : IV R B K1 K2 T_83 := d_r_82.1.1
          have y_T_83 : FW R [3202] T_71 T_83 := d_r_82.1.2
          have x_T_83 := x_T_71.tr (y_T_83.w (by decide))
          replace d_r_82 : (0 ≤ r_82.toInt ∧ r_82.toInt ≤ 9) := d_r_82.2
          unfold g_X11_writeMap_b66
          refine tot_let (fun v_84 e_v_84 => ?_)
          have q_v_84 := i_add e_v_84 (by omega) (by omega)
          refine tot_oif (iv_oO h_T_83 k_l0 (by decide) (by decide) rfl) ?_
          refine tot_bind (cs_X11_addMapByte T_83 l0 v_84 h_T_83 k_l0 (by omega)) (fun T_85 d_T_85 => ?_)
          have h_T_85 : IV R B K1 K2 T_85 := d_T_85.1
          have y_T_85 : FW R [370, 1664] T_83 T_85 := d_T_85.2
          have x_T_85 := x_T_83.tr (y_T_85.w (by decide))
          refine tot_let (fun v_86 e_v_86 => ?_)
          have q_v_86 := i_add e_v_86 (by omega) (by omega)
          exact ih T_85 v_86 h_T_85 x_T_85 (by omega) (by omega)
        · replace c_80 := i_ne c_80
          unfold g_X11_writeMap_b54
          refine tot_oif (iv_oO h_T k_l0 (by decide) (by decide) rfl) ?_
          refine tot_ref h_T k_l0 (by decide) (by decide) (r2 := 102) (rfl : rtg 11 12 = 102) (by decide) (fun n_87 k_n_87 e_n_87 => ?_)
          refine tot_oif (iv_oO h_T k_l1 (by decide) (by decide) rfl) ?_
          refine tot_bind2 (cs_X4_digit T l1 l2 n_87 h_T k_l1 k_n_87 (rfl : isW 102 = true) (by omega) (by omega)) (fun r_88 T_89 d_r_88 => ?_)
          have h_T_89 : IV R B K1 K2 T_89 := d_r_88.1.1
          have y_T_89 : FW R [3202] T T_89 := d_r_88.1.2
          have x_T_89 := x_T.tr (y_T_89.w (by decide))
          replace d_r_88 : (0 ≤ r_88.toInt ∧ r_88.toInt ≤ 9) := d_r_88.2
          unfold g_X11_writeMap_b66
          refine tot_let (fun v_90 e_v_90 => ?_)
          have q_v_90 := i_add e_v_90 (by omega) (by omega)
          refine tot_oif (iv_oO h_T_89 k_l0 (by decide) (by decide) rfl) ?_
          refine tot_bind (cs_X11_addMapByte T_89 l0 v_90 h_T_89 k_l0 (by omega)) (fun T_91 d_T_91 => ?_)
          have h_T_91 : IV R B K1 K2 T_91 := d_T_91.1
          have y_T_91 : FW R [370, 1664] T_89 T_91 := d_T_91.2
          have x_T_91 := x_T_89.tr (y_T_91.w (by decide))
          refine tot_let (fun v_92 e_v_92 => ?_)
          have q_v_92 := i_add e_v_92 (by omega) (by omega)
          exact ih T_91 v_92 h_T_91 x_T_91 (by omega) (by omega)
set_option maxHeartbeats 4000000 in
set_option maxRecDepth 10000 in
theorem cs_X11_writeMap {R : Nat → Nat} {B K1 K2 : Nat} (T : AT) (o : Nat) (h_T : IV R B K1 K2 T) (k_o : R o = 11) : Tot (g_X11_writeMap T o) (fun r => (IV R B K1 K2 r.2.2 ∧ FW R [128, 130, 131, 370, 1664, 1952, 2144, 3202] T r.2.2) ∧ (r.1 = 0 → (0 ≤ r.2.1.toInt ∧ r.2.1.toInt ≤ 155))) := by
  have z0 : (0 : Int32).toInt = 0 := by decide
  have cc_101 : cnt 101 = 1 := rfl
  have cc_102 : cnt 102 = 12 := rfl
  have cc_103 : cnt 103 = 144 := rfl
  have cc_104 : cnt 104 = 2400 := rfl
  have cc_105 : cnt 105 = 7200 := rfl
  have x_T : FW R [128, 130, 131, 370, 1664, 1952, 2144, 3202] T T := FW.rf
  unfold g_X11_writeMap
  refine tot_oif (iv_oO h_T k_o (by decide) (by decide) rfl) ?_
  refine tot_thrp (Q := fun r_1 : Int32 => (0 ≤ r_1.toInt ∧ r_1.toInt ≤ 0)) (cs_X11_needCamera T o h_T k_o ) (fun r_1 d_r_1 => ?_) (fun k_ => ⟨⟨h_T, x_T⟩, fun q_ => absurd q_ (Nat.succ_ne_zero k_)⟩)
  replace d_r_1 : (0 ≤ r_1.toInt ∧ r_1.toInt ≤ 0) := d_r_1
  refine tot_oif (iv_oO h_T k_o (by decide) (by decide) rfl) ?_
  refine tot_bind2 (cs_X11_powersNow T o h_T k_o ) (fun r_3 T_4 d_r_3 => ?_)
  have h_T_4 : IV R B K1 K2 T_4 := d_r_3.1.1
  have y_T_4 : FW R [128, 130, 131, 1952, 2144, 3202] T T_4 := d_r_3.1.2
  have x_T_4 := x_T.tr (y_T_4.w (by decide))
  have k_r_3 : R r_3 = 4 := d_r_3.2
  refine tot_oif (Nat.ble_eq_true_of_le (iv_lt h_T_4 (iv_sta h_T_4 k_r_3 (by decide) (by decide)))) ?_
  unfold g_X11_writeMap_b8
  refine tot_oif (iv_oO h_T_4 k_o (by decide) (by decide) rfl) ?_
  refine tot_let (fun T_5 e_T_5 => ?_)
  have h_T_5 : IV R B K1 K2 T_5 := by rw [e_T_5]; exact iv_uI (a := 0) (b := 155) h_T_4 k_o (by decide) (by decide) rfl (by omega) (.inl rfl)
  have x_T_5 := x_T_4.tr (fw_uI e_T_5 k_o (by decide))
  refine cl_X11_writeMap_b16 o r_3 T k_o k_r_3 (fun k_ U_ i_ x_ => ⟨⟨i_, x_⟩, fun q_ => absurd q_ (Nat.succ_ne_zero k_)⟩) ?_ 16384 T_5 0 h_T_5 x_T_5 (by omega) (by omega)
  · intro T_93 h_T_93 x_T_93
    refine tot_oif (iv_oO h_T_93 k_o (by decide) (by decide) rfl) ?_
    refine tot_let (fun v_94 e_v_94 => ?_)
    have r_v_94 : 0 ≤ v_94.toInt ∧ v_94.toInt ≤ 155 := iv_int h_T_93 k_o (by decide) (by decide) e_v_94 rfl
    exact tot_some ⟨⟨h_T_93, x_T_93⟩, fun _ => (show (0 ≤ v_94.toInt ∧ v_94.toInt ≤ 155) from by omega)⟩
end
section
/-! 13d.cl11.lean.txt -/
set_option maxHeartbeats 4000000 in
set_option maxRecDepth 10000 in
theorem cs_X11_mapByte {R : Nat → Nat} {B K1 K2 : Nat} (T : AT) (o : Nat) (a0 : Int32) (h_T : IV R B K1 K2 T) (k_o : R o = 11) : Tot (g_X11_mapByte T o a0) (fun r => r.2.2 = T ∧ (r.1 = 0 → True)) := by
  have cc_101 : cnt 101 = 1 := rfl
  have cc_102 : cnt 102 = 12 := rfl
  have cc_103 : cnt 103 = 144 := rfl
  have cc_104 : cnt 104 = 2400 := rfl
  have cc_105 : cnt 105 = 7200 := rfl
  have j_a0 := i_any a0
  unfold g_X11_mapByte
  refine tot_oif (iv_oO h_T k_o (by decide) (by decide) rfl) ?_
  refine tot_let (fun v_1 e_v_1 => ?_)
  have r_v_1 : 0 ≤ v_1.toInt ∧ v_1.toInt ≤ 155 := iv_int h_T k_o (by decide) (by decide) e_v_1 rfl
  refine tot_thrp (Q := fun r_2 : Int32 => (0 ≤ a0.toInt ∧ a0.toInt < v_1.toInt)) (cs_X11_needIndex T a0 v_1 h_T ) (fun r_2 d_r_2 => ?_) (fun k_ => ⟨rfl, fun q_ => absurd q_ (Nat.succ_ne_zero k_)⟩)
  replace d_r_2 : (0 ≤ a0.toInt ∧ a0.toInt < v_1.toInt) := d_r_2
  refine tot_oif (iv_oO h_T k_o (by decide) (by decide) rfl) ?_
  refine tot_ref h_T k_o (by decide) (by decide) (r2 := 52) (rfl : rtg 11 13 = 52) (by decide) (fun n_4 k_n_4 e_n_4 => ?_)
  refine tot_oif (iv_aA h_T k_n_4 (by decide) (by decide) rfl rfl) ?_
  refine tot_oif (by rw [iv_len h_T k_n_4 (by decide) (by decide) (rfl : shp 52 = (100, 155))]; exact i_inb (by omega) (by omega)) ?_
  refine tot_let (fun v_5 e_v_5 => ?_)
  have r_v_5 := i_any v_5
  exact tot_some ⟨rfl, fun _ => trivial⟩
set_option maxHeartbeats 4000000 in
set_option maxRecDepth 10000 in
theorem cs_X11_recordPoint {R : Nat → Nat} {B K1 K2 : Nat} (T : AT) (o : Nat) (a0 : Int32) (a1 : Int32) (h_T : IV R B K1 K2 T) (k_o : R o = 11) (g0 : 0 ≤ a0.toInt ∧ a0.toInt ≤ 143) (g1 : 2 ≤ a1.toInt ∧ a1.toInt ≤ 99) : Tot (g_X11_recordPoint T o a0 a1) (fun T1 => IV R B K1 K2 T1 ∧ FW R [224, 229, 230, 256, 257, 258, 1472, 1984, 2016, 2048, 2080, 2112, 3202] T T1) := by
  have cc_101 : cnt 101 = 1 := rfl
  have cc_102 : cnt 102 = 12 := rfl
  have cc_103 : cnt 103 = 144 := rfl
  have cc_104 : cnt 104 = 2400 := rfl
  have cc_105 : cnt 105 = 7200 := rfl
  have x_T : FW R [224, 229, 230, 256, 257, 258, 1472, 1984, 2016, 2048, 2080, 2112, 3202] T T := FW.rf
  have j_a0 := i_any a0
  have j_a1 := i_any a1
  unfold g_X11_recordPoint
  refine tot_oif (iv_oO h_T k_o (by decide) (by decide) rfl) ?_
  refine tot_ref h_T k_o (by decide) (by decide) (r2 := 8) (rfl : rtg 11 7 = 8) (by decide) (fun n_1 k_n_1 e_n_1 => ?_)
  refine tot_oif (iv_oO h_T k_o (by decide) (by decide) rfl) ?_
  refine tot_ref h_T k_o (by decide) (by decide) (r2 := 8) (rfl : rtg 11 6 = 8) (by decide) (fun n_2 k_n_2 e_n_2 => ?_)
  refine tot_oif (iv_oO h_T k_n_1 (by decide) (by decide) rfl) ?_
  refine tot_bind (cs_X8_copyFrom T n_1 n_2 h_T k_n_1 k_n_2 ) (fun T_3 d_T_3 => ?_)
  have h_T_3 : IV R B K1 K2 T_3 := d_T_3.1
  have y_T_3 : FW R [256, 257, 258, 1984, 2016, 2048, 2080, 2112, 3202] T T_3 := d_T_3.2
  have x_T_3 := x_T.tr (y_T_3.w (by decide))
  unfold g_X11_recordPoint_b11
  refine tot_oif (iv_oO h_T_3 k_o (by decide) (by decide) rfl) ?_
  refine tot_ref h_T_3 k_o (by decide) (by decide) (r2 := 5) (rfl : rtg 11 2 = 5) (by decide) (fun n_4 k_n_4 e_n_4 => ?_)
  refine tot_oif (iv_oO h_T_3 k_o (by decide) (by decide) rfl) ?_
  refine tot_ref h_T_3 k_o (by decide) (by decide) (r2 := 6) (rfl : rtg 11 14 = 6) (by decide) (fun n_5 k_n_5 e_n_5 => ?_)
  refine tot_oif (iv_oO h_T_3 k_o (by decide) (by decide) rfl) ?_
  refine tot_ref h_T_3 k_o (by decide) (by decide) (r2 := 8) (rfl : rtg 11 7 = 8) (by decide) (fun n_6 k_n_6 e_n_6 => ?_)
  refine tot_oif (iv_oO h_T_3 k_n_4 (by decide) (by decide) rfl) ?_
  refine tot_bind (cs_X5_recordPoint T_3 n_4 n_5 n_6 a0 a1 h_T_3 k_n_4 k_n_5 k_n_6 (by omega) (by omega)) (fun T_7 d_T_7 => ?_)
  have h_T_7 : IV R B K1 K2 T_7 := d_T_7.1
  have y_T_7 : FW R [224, 229, 230, 258, 1472, 3202] T_3 T_7 := d_T_7.2
  have x_T_7 := x_T_3.tr (y_T_7.w (by decide))
  unfold g_X11_recordPoint_b28
  exact tot_some ⟨h_T_7, x_T_7⟩
set_option maxHeartbeats 4000000 in
set_option maxRecDepth 10000 in
theorem cs_X11_trialBest {R : Nat → Nat} {B K1 K2 : Nat} (T : AT) (o : Nat) (h_T : IV R B K1 K2 T) (k_o : R o = 11) : Tot (g_X11_trialBest T o) (fun r => (IV R B K1 K2 r.2 ∧ FW R [130, 131, 1952, 2144, 3202] T r.2) ∧ (0 ≤ r.1.toInt ∧ r.1.toInt ≤ 143)) := by
  have cc_101 : cnt 101 = 1 := rfl
  have cc_102 : cnt 102 = 12 := rfl
  have cc_103 : cnt 103 = 144 := rfl
  have cc_104 : cnt 104 = 2400 := rfl
  have cc_105 : cnt 105 = 7200 := rfl
  have x_T : FW R [130, 131, 1952, 2144, 3202] T T := FW.rf
  unfold g_X11_trialBest
  refine tot_oif (iv_oO h_T k_o (by decide) (by decide) rfl) ?_
  refine tot_ref h_T k_o (by decide) (by decide) (r2 := 4) (rfl : rtg 11 5 = 4) (by decide) (fun n_1 k_n_1 e_n_1 => ?_)
  refine tot_oif (iv_oO h_T k_o (by decide) (by decide) rfl) ?_
  refine tot_ref h_T k_o (by decide) (by decide) (r2 := 6) (rfl : rtg 11 14 = 6) (by decide) (fun n_2 k_n_2 e_n_2 => ?_)
  refine tot_oif (iv_oO h_T k_o (by decide) (by decide) rfl) ?_
  refine tot_ref h_T k_o (by decide) (by decide) (r2 := 8) (rfl : rtg 11 7 = 8) (by decide) (fun n_3 k_n_3 e_n_3 => ?_)
  refine tot_oif (iv_oO h_T k_n_1 (by decide) (by decide) rfl) ?_
  refine tot_bind (cs_X4_measure T n_1 n_2 n_3 h_T k_n_1 k_n_2 k_n_3 ) (fun T_4 d_T_4 => ?_)
  have h_T_4 : IV R B K1 K2 T_4 := d_T_4.1
  have y_T_4 : FW R [130, 131, 1952, 2144, 3202] T T_4 := d_T_4.2
  have x_T_4 := x_T.tr (y_T_4.w (by decide))
  unfold g_X11_trialBest_b15
  refine tot_oif (iv_oO h_T_4 k_o (by decide) (by decide) rfl) ?_
  refine tot_ref h_T_4 k_o (by decide) (by decide) (r2 := 4) (rfl : rtg 11 5 = 4) (by decide) (fun n_5 k_n_5 e_n_5 => ?_)
  refine tot_oif (iv_oO h_T_4 k_n_5 (by decide) (by decide) rfl) ?_
  refine tot_let (fun v_6 e_v_6 => ?_)
  have r_v_6 : 0 ≤ v_6.toInt ∧ v_6.toInt ≤ 143 := iv_int h_T_4 k_n_5 (by decide) (by decide) e_v_6 rfl
  exact tot_some ⟨⟨h_T_4, x_T_4⟩, (show (0 ≤ v_6.toInt ∧ v_6.toInt ≤ 143) from by omega)⟩
set_option maxHeartbeats 4000000 in
set_option maxRecDepth 10000 in
theorem cs_X11_pointBest {R : Nat → Nat} {B K1 K2 : Nat} (T : AT) (o : Nat) (a0 : Int32) (a1 : Int32) (h_T : IV R B K1 K2 T) (k_o : R o = 11) : Tot (g_X11_pointBest T o a0 a1) (fun r => (IV R B K1 K2 r.2.2 ∧ FW R [130, 131, 224, 229, 230, 256, 257, 258, 1472, 1952, 1984, 2016, 2048, 2080, 2112, 2144, 3202] T r.2.2) ∧ (r.1 = 0 → (0 ≤ r.2.1.toInt ∧ r.2.1.toInt ≤ 143))) := by
  have z0 : ((2 : Int32) : Int32).toInt = 2 := by decide
  have z1 : ((99 : Int32) : Int32).toInt = 99 := by decide
  have cc_101 : cnt 101 = 1 := rfl
  have cc_102 : cnt 102 = 12 := rfl
  have cc_103 : cnt 103 = 144 := rfl
  have cc_104 : cnt 104 = 2400 := rfl
  have cc_105 : cnt 105 = 7200 := rfl
  have x_T : FW R [130, 131, 224, 229, 230, 256, 257, 258, 1472, 1952, 1984, 2016, 2048, 2080, 2112, 2144, 3202] T T := FW.rf
  have j_a0 := i_any a0
  have j_a1 := i_any a1
  unfold g_X11_pointBest
  refine tot_oif (iv_oO h_T k_o (by decide) (by decide) rfl) ?_
  refine tot_thrp (Q := fun r_1 : Int32 => (0 ≤ r_1.toInt ∧ r_1.toInt ≤ 0)) (cs_X11_needCamera T o h_T k_o ) (fun r_1 d_r_1 => ?_) (fun k_ => ⟨⟨h_T, x_T⟩, fun q_ => absurd q_ (Nat.succ_ne_zero k_)⟩)
  replace d_r_1 : (0 ≤ r_1.toInt ∧ r_1.toInt ≤ 0) := d_r_1
  refine tot_oif (iv_oO h_T k_o (by decide) (by decide) rfl) ?_
  refine tot_thrp (Q := fun r_3 : Int32 => (0 ≤ a0.toInt ∧ a0.toInt ≤ 143)) (cs_X11_needCell T o a0 h_T k_o ) (fun r_3 d_r_3 => ?_) (fun k_ => ⟨⟨h_T, x_T⟩, fun q_ => absurd q_ (Nat.succ_ne_zero k_)⟩)
  replace d_r_3 : (0 ≤ a0.toInt ∧ a0.toInt ≤ 143) := d_r_3
  refine tot_thrp (Q := fun r_5 : Int32 => (((2 : Int32) : Int32).toInt ≤ a1.toInt ∧ a1.toInt ≤ ((99 : Int32) : Int32).toInt)) (cs_X11_needRange T a1 (2 : Int32) (99 : Int32) h_T ) (fun r_5 d_r_5 => ?_) (fun k_ => ⟨⟨h_T, x_T⟩, fun q_ => absurd q_ (Nat.succ_ne_zero k_)⟩)
  replace d_r_5 : (((2 : Int32) : Int32).toInt ≤ a1.toInt ∧ a1.toInt ≤ ((99 : Int32) : Int32).toInt) := d_r_5
  refine tot_oif (iv_oO h_T k_o (by decide) (by decide) rfl) ?_
  refine tot_bind (cs_X11_recordPoint T o a0 a1 h_T k_o (by omega) (by omega)) (fun T_7 d_T_7 => ?_)
  have h_T_7 : IV R B K1 K2 T_7 := d_T_7.1
  have y_T_7 : FW R [224, 229, 230, 256, 257, 258, 1472, 1984, 2016, 2048, 2080, 2112, 3202] T T_7 := d_T_7.2
  have x_T_7 := x_T.tr (y_T_7.w (by decide))
  unfold g_X11_pointBest_b22
  refine tot_oif (iv_oO h_T_7 k_o (by decide) (by decide) rfl) ?_
  refine tot_bind2 (cs_X11_trialBest T_7 o h_T_7 k_o ) (fun r_8 T_9 d_r_8 => ?_)
  have h_T_9 : IV R B K1 K2 T_9 := d_r_8.1.1
  have y_T_9 : FW R [130, 131, 1952, 2144, 3202] T_7 T_9 := d_r_8.1.2
  have x_T_9 := x_T_7.tr (y_T_9.w (by decide))
  replace d_r_8 : (0 ≤ r_8.toInt ∧ r_8.toInt ≤ 143) := d_r_8.2
  unfold g_X11_pointBest_b26
  exact tot_some ⟨⟨h_T_9, x_T_9⟩, fun _ => (show (0 ≤ r_8.toInt ∧ r_8.toInt ≤ 143) from by omega)⟩
set_option maxHeartbeats 4000000 in
set_option maxRecDepth 10000 in
theorem cs_X11_pointPower {R : Nat → Nat} {B K1 K2 : Nat} (T : AT) (o : Nat) (a0 : Int32) (a1 : Int32) (a2 : Int32) (h_T : IV R B K1 K2 T) (k_o : R o = 11) : Tot (g_X11_pointPower T o a0 a1 a2) (fun r => (IV R B K1 K2 r.2.2 ∧ FW R [224, 229, 230, 256, 257, 258, 1472, 1984, 2016, 2048, 2080, 2112, 3202] T r.2.2) ∧ (r.1 = 0 → True)) := by
  have z0 : ((2 : Int32) : Int32).toInt = 2 := by decide
  have z1 : ((99 : Int32) : Int32).toInt = 99 := by decide
  have z2 : ((0 : Int32) : Int32).toInt = 0 := by decide
  have cc_101 : cnt 101 = 1 := rfl
  have cc_102 : cnt 102 = 12 := rfl
  have cc_103 : cnt 103 = 144 := rfl
  have cc_104 : cnt 104 = 2400 := rfl
  have cc_105 : cnt 105 = 7200 := rfl
  have x_T : FW R [224, 229, 230, 256, 257, 258, 1472, 1984, 2016, 2048, 2080, 2112, 3202] T T := FW.rf
  have j_a0 := i_any a0
  have j_a1 := i_any a1
  have j_a2 := i_any a2
  unfold g_X11_pointPower
  refine tot_oif (iv_oO h_T k_o (by decide) (by decide) rfl) ?_
  refine tot_thrp (Q := fun r_1 : Int32 => (0 ≤ r_1.toInt ∧ r_1.toInt ≤ 0)) (cs_X11_needCamera T o h_T k_o ) (fun r_1 d_r_1 => ?_) (fun k_ => ⟨⟨h_T, x_T⟩, fun q_ => absurd q_ (Nat.succ_ne_zero k_)⟩)
  replace d_r_1 : (0 ≤ r_1.toInt ∧ r_1.toInt ≤ 0) := d_r_1
  refine tot_oif (iv_oO h_T k_o (by decide) (by decide) rfl) ?_
  refine tot_thrp (Q := fun r_3 : Int32 => (0 ≤ a0.toInt ∧ a0.toInt ≤ 143)) (cs_X11_needCell T o a0 h_T k_o ) (fun r_3 d_r_3 => ?_) (fun k_ => ⟨⟨h_T, x_T⟩, fun q_ => absurd q_ (Nat.succ_ne_zero k_)⟩)
  replace d_r_3 : (0 ≤ a0.toInt ∧ a0.toInt ≤ 143) := d_r_3
  refine tot_oif (iv_oO h_T k_o (by decide) (by decide) rfl) ?_
  refine tot_thrp (Q := fun r_5 : Int32 => (0 ≤ a1.toInt ∧ a1.toInt ≤ 143)) (cs_X11_needCell T o a1 h_T k_o ) (fun r_5 d_r_5 => ?_) (fun k_ => ⟨⟨h_T, x_T⟩, fun q_ => absurd q_ (Nat.succ_ne_zero k_)⟩)
  replace d_r_5 : (0 ≤ a1.toInt ∧ a1.toInt ≤ 143) := d_r_5
  refine tot_thrp (Q := fun r_7 : Int32 => (((2 : Int32) : Int32).toInt ≤ a2.toInt ∧ a2.toInt ≤ ((99 : Int32) : Int32).toInt)) (cs_X11_needRange T a2 (2 : Int32) (99 : Int32) h_T ) (fun r_7 d_r_7 => ?_) (fun k_ => ⟨⟨h_T, x_T⟩, fun q_ => absurd q_ (Nat.succ_ne_zero k_)⟩)
  replace d_r_7 : (((2 : Int32) : Int32).toInt ≤ a2.toInt ∧ a2.toInt ≤ ((99 : Int32) : Int32).toInt) := d_r_7
  refine tot_oif (iv_oO h_T k_o (by decide) (by decide) rfl) ?_
  refine tot_bind (cs_X11_recordPoint T o a0 a2 h_T k_o (by omega) (by omega)) (fun T_9 d_T_9 => ?_)
  have h_T_9 : IV R B K1 K2 T_9 := d_T_9.1
  have y_T_9 : FW R [224, 229, 230, 256, 257, 258, 1472, 1984, 2016, 2048, 2080, 2112, 3202] T T_9 := d_T_9.2
  have x_T_9 := x_T.tr (y_T_9.w (by decide))
  unfold g_X11_pointPower_b27
  refine tot_oif (iv_oO h_T_9 k_o (by decide) (by decide) rfl) ?_
  refine tot_ref h_T_9 k_o (by decide) (by decide) (r2 := 8) (rfl : rtg 11 7 = 8) (by decide) (fun n_10 k_n_10 e_n_10 => ?_)
  refine tot_oif (iv_oO h_T_9 k_o (by decide) (by decide) rfl) ?_
  refine tot_ref h_T_9 k_o (by decide) (by decide) (r2 := 6) (rfl : rtg 11 14 = 6) (by decide) (fun n_11 k_n_11 e_n_11 => ?_)
  refine tot_oif (iv_oO h_T_9 k_n_11 (by decide) (by decide) rfl) ?_
  refine tot_ref h_T_9 k_n_11 (by decide) (by decide) (r2 := 51) (rfl : rtg 6 17 = 51) (by decide) (fun n_12 k_n_12 e_n_12 => ?_)
  refine tot_oif (iv_aA h_T_9 k_n_12 (by decide) (by decide) rfl rfl) ?_
  refine tot_oif (by rw [iv_len h_T_9 k_n_12 (by decide) (by decide) (rfl : shp 51 = (106, 144))]; exact i_inb (by omega) (by omega)) ?_
  refine tot_ref h_T_9 k_n_12 (by decide) (by decide) (r2 := 50) (rt_51 (by omega) (by omega)) (by decide) (fun n_13 k_n_13 e_n_13 => ?_)
  refine tot_oif (iv_oO h_T_9 k_o (by decide) (by decide) rfl) ?_
  refine tot_ref h_T_9 k_o (by decide) (by decide) (r2 := 102) (rfl : rtg 11 12 = 102) (by decide) (fun n_14 k_n_14 e_n_14 => ?_)
  refine tot_oif (iv_oO h_T_9 k_n_10 (by decide) (by decide) rfl) ?_
  refine tot_bind (cs_X8_powerOf T_9 n_10 n_13 n_14 (0 : Int32) h_T_9 k_n_10 k_n_13 k_n_14 (rfl : isW 102 = true) (by omega) (by omega)) (fun T_15 d_T_15 => ?_)
  have h_T_15 : IV R B K1 K2 T_15 := d_T_15.1
  have y_T_15 : FW R [3202] T_9 T_15 := d_T_15.2
  have x_T_15 := x_T_9.tr (y_T_15.w (by decide))
  unfold g_X11_pointPower_b48
  refine tot_oif (iv_oO h_T_15 k_o (by decide) (by decide) rfl) ?_
  refine tot_ref h_T_15 k_o (by decide) (by decide) (r2 := 102) (rfl : rtg 11 12 = 102) (by decide) (fun n_16 k_n_16 e_n_16 => ?_)
  refine tot_oif (w_oO h_T_15 k_n_16 (rfl : isW 102 = true)) ?_
  refine tot_bindq (R := fun r_17 : Int64 => True) (c_value (a0 := (0 : Int32)) k_n_16 (rfl : isW 102 = true) h_T_15 (by omega)) (fun r_17 d_r_17 => ?_)
  exact tot_some ⟨⟨h_T_15, x_T_15⟩, fun _ => trivial⟩
set_option maxHeartbeats 4000000 in
set_option maxRecDepth 10000 in
theorem cs_X11_bestWithout {R : Nat → Nat} {B K1 K2 : Nat} (T : AT) (o : Nat) (a0 : Int32) (h_T : IV R B K1 K2 T) (k_o : R o = 11) : Tot (g_X11_bestWithout T o a0) (fun r => (IV R B K1 K2 r.2.2 ∧ FW R [130, 131, 256, 257, 258, 1952, 1984, 2016, 2048, 2080, 2112, 2144, 3202] T r.2.2) ∧ (r.1 = 0 → (0 ≤ r.2.1.toInt ∧ r.2.1.toInt ≤ 143))) := by
  have z0 : (1 : Int32).toInt = 1 := by decide
  have cc_101 : cnt 101 = 1 := rfl
  have cc_102 : cnt 102 = 12 := rfl
  have cc_103 : cnt 103 = 144 := rfl
  have cc_104 : cnt 104 = 2400 := rfl
  have cc_105 : cnt 105 = 7200 := rfl
  have x_T : FW R [130, 131, 256, 257, 258, 1952, 1984, 2016, 2048, 2080, 2112, 2144, 3202] T T := FW.rf
  have j_a0 := i_any a0
  unfold g_X11_bestWithout
  refine tot_oif (iv_oO h_T k_o (by decide) (by decide) rfl) ?_
  refine tot_thrp (Q := fun r_1 : Int32 => (0 ≤ r_1.toInt ∧ r_1.toInt ≤ 0)) (cs_X11_needCamera T o h_T k_o ) (fun r_1 d_r_1 => ?_) (fun k_ => ⟨⟨h_T, x_T⟩, fun q_ => absurd q_ (Nat.succ_ne_zero k_)⟩)
  replace d_r_1 : (0 ≤ r_1.toInt ∧ r_1.toInt ≤ 0) := d_r_1
  refine tot_oif (iv_oO h_T k_o (by decide) (by decide) rfl) ?_
  refine tot_thrp (Q := fun r_3 : Int32 => (0 ≤ a0.toInt ∧ a0.toInt ≤ 11)) (cs_X11_needMic T o a0 h_T k_o ) (fun r_3 d_r_3 => ?_) (fun k_ => ⟨⟨h_T, x_T⟩, fun q_ => absurd q_ (Nat.succ_ne_zero k_)⟩)
  replace d_r_3 : (0 ≤ a0.toInt ∧ a0.toInt ≤ 11) := d_r_3
  refine tot_oif (iv_oO h_T k_o (by decide) (by decide) rfl) ?_
  refine tot_ref h_T k_o (by decide) (by decide) (r2 := 8) (rfl : rtg 11 7 = 8) (by decide) (fun n_5 k_n_5 e_n_5 => ?_)
  refine tot_oif (iv_oO h_T k_o (by decide) (by decide) rfl) ?_
  refine tot_ref h_T k_o (by decide) (by decide) (r2 := 8) (rfl : rtg 11 6 = 8) (by decide) (fun n_6 k_n_6 e_n_6 => ?_)
  refine tot_oif (iv_oO h_T k_n_5 (by decide) (by decide) rfl) ?_
  refine tot_bind (cs_X8_copyFrom T n_5 n_6 h_T k_n_5 k_n_6 ) (fun T_7 d_T_7 => ?_)
  have h_T_7 : IV R B K1 K2 T_7 := d_T_7.1
  have y_T_7 : FW R [256, 257, 258, 1984, 2016, 2048, 2080, 2112, 3202] T T_7 := d_T_7.2
  have x_T_7 := x_T.tr (y_T_7.w (by decide))
  unfold g_X11_bestWithout_b20
  refine tot_oif (iv_oO h_T_7 k_o (by decide) (by decide) rfl) ?_
  refine tot_ref h_T_7 k_o (by decide) (by decide) (r2 := 8) (rfl : rtg 11 7 = 8) (by decide) (fun n_8 k_n_8 e_n_8 => ?_)
  refine tot_oif (iv_oO h_T_7 k_n_8 (by decide) (by decide) rfl) ?_
  refine tot_ref h_T_7 k_n_8 (by decide) (by decide) (r2 := 62) (rfl : rtg 8 3 = 62) (by decide) (fun n_9 k_n_9 e_n_9 => ?_)
  refine tot_oif (iv_aA h_T_7 k_n_9 (by decide) (by decide) rfl rfl) ?_
  refine tot_oif (by rw [iv_len h_T_7 k_n_9 (by decide) (by decide) (rfl : shp 62 = (102, 12))]; exact i_inb (by omega) (by omega)) ?_
  refine tot_let (fun T_10 e_T_10 => ?_)
  have h_T_10 : IV R B K1 K2 T_10 := by rw [e_T_10]; exact iv_uI (a := 0) (b := 1) h_T_7 k_n_9 (by decide) (by decide) rfl (by omega) (.inl rfl)
  have x_T_10 := x_T_7.tr (fw_uA e_T_10 k_n_9 rfl rfl (by decide))
  refine tot_oif (iv_oO h_T_10 k_o (by decide) (by decide) rfl) ?_
  refine tot_bind2 (cs_X11_trialBest T_10 o h_T_10 k_o ) (fun r_11 T_12 d_r_11 => ?_)
  have h_T_12 : IV R B K1 K2 T_12 := d_r_11.1.1
  have y_T_12 : FW R [130, 131, 1952, 2144, 3202] T_10 T_12 := d_r_11.1.2
  have x_T_12 := x_T_10.tr (y_T_12.w (by decide))
  replace d_r_11 : (0 ≤ r_11.toInt ∧ r_11.toInt ≤ 143) := d_r_11.2
  unfold g_X11_bestWithout_b34
  exact tot_some ⟨⟨h_T_12, x_T_12⟩, fun _ => (show (0 ≤ r_11.toInt ∧ r_11.toInt ≤ 143) from by omega)⟩
set_option maxHeartbeats 4000000 in
set_option maxRecDepth 10000 in
theorem cs_X11_bestIfOff {R : Nat → Nat} {B K1 K2 : Nat} (T : AT) (o : Nat) (a0 : Int32) (h_T : IV R B K1 K2 T) (k_o : R o = 11) : Tot (g_X11_bestIfOff T o a0) (fun r => (IV R B K1 K2 r.2.2 ∧ FW R [130, 131, 256, 257, 258, 1472, 1952, 1984, 2016, 2048, 2080, 2112, 2144, 3202] T r.2.2) ∧ (r.1 = 0 → (0 ≤ r.2.1.toInt ∧ r.2.1.toInt ≤ 143))) := by
  have z0 : (0 : Int32).toInt = 0 := by decide
  have cc_101 : cnt 101 = 1 := rfl
  have cc_102 : cnt 102 = 12 := rfl
  have cc_103 : cnt 103 = 144 := rfl
  have cc_104 : cnt 104 = 2400 := rfl
  have cc_105 : cnt 105 = 7200 := rfl
  have x_T : FW R [130, 131, 256, 257, 258, 1472, 1952, 1984, 2016, 2048, 2080, 2112, 2144, 3202] T T := FW.rf
  have j_a0 := i_any a0
  unfold g_X11_bestIfOff
  refine tot_oif (iv_oO h_T k_o (by decide) (by decide) rfl) ?_
  refine tot_thrp (Q := fun r_1 : Int32 => (0 ≤ r_1.toInt ∧ r_1.toInt ≤ 0)) (cs_X11_needCamera T o h_T k_o ) (fun r_1 d_r_1 => ?_) (fun k_ => ⟨⟨h_T, x_T⟩, fun q_ => absurd q_ (Nat.succ_ne_zero k_)⟩)
  replace d_r_1 : (0 ≤ r_1.toInt ∧ r_1.toInt ≤ 0) := d_r_1
  refine tot_oif (iv_oO h_T k_o (by decide) (by decide) rfl) ?_
  refine tot_thrp (Q := fun r_3 : Int32 => (0 ≤ a0.toInt ∧ a0.toInt ≤ 5)) (cs_X11_needSource T o a0 h_T k_o ) (fun r_3 d_r_3 => ?_) (fun k_ => ⟨⟨h_T, x_T⟩, fun q_ => absurd q_ (Nat.succ_ne_zero k_)⟩)
  replace d_r_3 : (0 ≤ a0.toInt ∧ a0.toInt ≤ 5) := d_r_3
  refine tot_oif (iv_oO h_T k_o (by decide) (by decide) rfl) ?_
  refine tot_ref h_T k_o (by decide) (by decide) (r2 := 8) (rfl : rtg 11 7 = 8) (by decide) (fun n_5 k_n_5 e_n_5 => ?_)
  refine tot_oif (iv_oO h_T k_o (by decide) (by decide) rfl) ?_
  refine tot_ref h_T k_o (by decide) (by decide) (r2 := 8) (rfl : rtg 11 6 = 8) (by decide) (fun n_6 k_n_6 e_n_6 => ?_)
  refine tot_oif (iv_oO h_T k_n_5 (by decide) (by decide) rfl) ?_
  refine tot_bind (cs_X8_copyFrom T n_5 n_6 h_T k_n_5 k_n_6 ) (fun T_7 d_T_7 => ?_)
  have h_T_7 : IV R B K1 K2 T_7 := d_T_7.1
  have y_T_7 : FW R [256, 257, 258, 1984, 2016, 2048, 2080, 2112, 3202] T T_7 := d_T_7.2
  have x_T_7 := x_T.tr (y_T_7.w (by decide))
  unfold g_X11_bestIfOff_b20
  refine tot_oif (iv_oO h_T_7 k_o (by decide) (by decide) rfl) ?_
  refine tot_ref h_T_7 k_o (by decide) (by decide) (r2 := 8) (rfl : rtg 11 7 = 8) (by decide) (fun n_8 k_n_8 e_n_8 => ?_)
  refine tot_oif (iv_oO h_T_7 k_n_8 (by decide) (by decide) rfl) ?_
  refine tot_ref h_T_7 k_n_8 (by decide) (by decide) (r2 := 64) (rfl : rtg 8 5 = 64) (by decide) (fun n_9 k_n_9 e_n_9 => ?_)
  refine tot_oif (iv_aA h_T_7 k_n_9 (by decide) (by decide) rfl rfl) ?_
  refine tot_oif (by rw [iv_len h_T_7 k_n_9 (by decide) (by decide) (rfl : shp 64 = (102, 6))]; exact i_inb (by omega) (by omega)) ?_
  refine tot_let (fun T_10 e_T_10 => ?_)
  have h_T_10 : IV R B K1 K2 T_10 := by rw [e_T_10]; exact iv_uI (a := 0) (b := 1) h_T_7 k_n_9 (by decide) (by decide) rfl (by omega) (.inl rfl)
  have x_T_10 := x_T_7.tr (fw_uA e_T_10 k_n_9 rfl rfl (by decide))
  refine tot_oif (iv_oO h_T_10 k_o (by decide) (by decide) rfl) ?_
  refine tot_ref h_T_10 k_o (by decide) (by decide) (r2 := 5) (rfl : rtg 11 2 = 5) (by decide) (fun n_11 k_n_11 e_n_11 => ?_)
  refine tot_oif (iv_oO h_T_10 k_o (by decide) (by decide) rfl) ?_
  refine tot_ref h_T_10 k_o (by decide) (by decide) (r2 := 6) (rfl : rtg 11 14 = 6) (by decide) (fun n_12 k_n_12 e_n_12 => ?_)
  refine tot_oif (iv_oO h_T_10 k_o (by decide) (by decide) rfl) ?_
  refine tot_ref h_T_10 k_o (by decide) (by decide) (r2 := 8) (rfl : rtg 11 7 = 8) (by decide) (fun n_13 k_n_13 e_n_13 => ?_)
  refine tot_oif (iv_oO h_T_10 k_n_11 (by decide) (by decide) rfl) ?_
  refine tot_bind (cs_X5_record T_10 n_11 n_12 n_13 h_T_10 k_n_11 k_n_12 k_n_13 ) (fun T_14 d_T_14 => ?_)
  have h_T_14 : IV R B K1 K2 T_14 := d_T_14.1
  have y_T_14 : FW R [258, 1472, 3202] T_10 T_14 := d_T_14.2
  have x_T_14 := x_T_10.tr (y_T_14.w (by decide))
  unfold g_X11_bestIfOff_b45
  refine tot_oif (iv_oO h_T_14 k_o (by decide) (by decide) rfl) ?_
  refine tot_bind2 (cs_X11_trialBest T_14 o h_T_14 k_o ) (fun r_15 T_16 d_r_15 => ?_)
  have h_T_16 : IV R B K1 K2 T_16 := d_r_15.1.1
  have y_T_16 : FW R [130, 131, 1952, 2144, 3202] T_14 T_16 := d_r_15.1.2
  have x_T_16 := x_T_14.tr (y_T_16.w (by decide))
  replace d_r_15 : (0 ≤ r_15.toInt ∧ r_15.toInt ≤ 143) := d_r_15.2
  unfold g_X11_bestIfOff_b49
  exact tot_some ⟨⟨h_T_16, x_T_16⟩, fun _ => (show (0 ≤ r_15.toInt ∧ r_15.toInt ≤ 143) from by omega)⟩
set_option maxHeartbeats 4000000 in
set_option maxRecDepth 10000 in
theorem cs_X11_keepForUndo {R : Nat → Nat} {B K1 K2 : Nat} (T : AT) (o : Nat) (h_T : IV R B K1 K2 T) (k_o : R o = 11) : Tot (g_X11_keepForUndo T o) (fun T1 => IV R B K1 K2 T1 ∧ FW R [128, 256, 257, 258, 368, 369, 1984, 2016, 2048, 2080, 2112, 3202] T T1) := by
  have z0 : (1 : Int32).toInt = 1 := by decide
  have z1 : (6 : Int32).toInt = 6 := by decide
  have z2 : (0 : Int32).toInt = 0 := by decide
  have cc_101 : cnt 101 = 1 := rfl
  have cc_102 : cnt 102 = 12 := rfl
  have cc_103 : cnt 103 = 144 := rfl
  have cc_104 : cnt 104 = 2400 := rfl
  have cc_105 : cnt 105 = 7200 := rfl
  have x_T : FW R [128, 256, 257, 258, 368, 369, 1984, 2016, 2048, 2080, 2112, 3202] T T := FW.rf
  unfold g_X11_keepForUndo
  refine tot_oif (iv_oO h_T k_o (by decide) (by decide) rfl) ?_
  refine tot_let (fun v_1 e_v_1 => ?_)
  have r_v_1 : 0 ≤ v_1.toInt ∧ v_1.toInt ≤ 5 := iv_int h_T k_o (by decide) (by decide) e_v_1 rfl
  refine tot_let (fun v_2 e_v_2 => ?_)
  have q_v_2 := i_add e_v_2 (by omega) (by omega)
  refine tot_let (fun v_3 e_v_3 => ?_)
  have q_v_3 := i_rem e_v_3 (by omega) (by omega)
  refine tot_oif (iv_oO h_T k_o (by decide) (by decide) rfl) ?_
  refine tot_let (fun T_4 e_T_4 => ?_)
  have h_T_4 : IV R B K1 K2 T_4 := by rw [e_T_4]; exact iv_uI (a := 0) (b := 5) h_T k_o (by decide) (by decide) rfl (by omega) (.inl rfl)
  have x_T_4 := x_T.tr (fw_uI e_T_4 k_o (by decide))
  refine tot_oif (iv_oO h_T_4 k_o (by decide) (by decide) rfl) ?_
  refine tot_ref h_T_4 k_o (by decide) (by decide) (r2 := 47) (rfl : rtg 11 8 = 47) (by decide) (fun n_5 k_n_5 e_n_5 => ?_)
  refine tot_oif (iv_oO h_T_4 k_o (by decide) (by decide) rfl) ?_
  refine tot_let (fun v_6 e_v_6 => ?_)
  have r_v_6 : 0 ≤ v_6.toInt ∧ v_6.toInt ≤ 5 := iv_int h_T_4 k_o (by decide) (by decide) e_v_6 rfl
  refine tot_oif (iv_aA h_T_4 k_n_5 (by decide) (by decide) rfl rfl) ?_
  refine tot_oif (by rw [iv_len h_T_4 k_n_5 (by decide) (by decide) (rfl : shp 47 = (105, 6))]; exact i_inb (by omega) (by omega)) ?_
  refine tot_ref h_T_4 k_n_5 (by decide) (by decide) (r2 := 8) (rt_47 (by omega) (by omega)) (by decide) (fun n_7 k_n_7 e_n_7 => ?_)
  refine tot_oif (iv_oO h_T_4 k_o (by decide) (by decide) rfl) ?_
  refine tot_ref h_T_4 k_o (by decide) (by decide) (r2 := 8) (rfl : rtg 11 6 = 8) (by decide) (fun n_8 k_n_8 e_n_8 => ?_)
  refine tot_oif (iv_oO h_T_4 k_n_7 (by decide) (by decide) rfl) ?_
  refine tot_bind (cs_X8_copyFrom T_4 n_7 n_8 h_T_4 k_n_7 k_n_8 ) (fun T_9 d_T_9 => ?_)
  have h_T_9 : IV R B K1 K2 T_9 := d_T_9.1
  have y_T_9 : FW R [256, 257, 258, 1984, 2016, 2048, 2080, 2112, 3202] T_4 T_9 := d_T_9.2
  have x_T_9 := x_T_4.tr (y_T_9.w (by decide))
  unfold g_X11_keepForUndo_b29
  refine tot_oif (iv_oO h_T_9 k_o (by decide) (by decide) rfl) ?_
  refine tot_let (fun v_10 e_v_10 => ?_)
  have r_v_10 : 0 ≤ v_10.toInt ∧ v_10.toInt ≤ 6 := iv_int h_T_9 k_o (by decide) (by decide) e_v_10 rfl
  refine tot_if (fun c_14 => ?_) (fun c_14 => ?_)
  · replace c_14 := i_le c_14
    unfold g_X11_keepForUndo_b48
    refine tot_oif (iv_oO h_T_9 k_o (by decide) (by decide) rfl) ?_
    refine tot_ref h_T_9 k_o (by decide) (by decide) (r2 := 4) (rfl : rtg 11 4 = 4) (by decide) (fun n_15 k_n_15 e_n_15 => ?_)
    refine tot_oif (iv_oO h_T_9 k_n_15 (by decide) (by decide) rfl) ?_
    refine tot_let (fun T_16 e_T_16 => ?_)
    have h_T_16 : IV R B K1 K2 T_16 := by rw [e_T_16]; exact iv_uI (a := 0) (b := 1) h_T_9 k_n_15 (by decide) (by decide) rfl (by omega) (.inl rfl)
    have x_T_16 := x_T_9.tr (fw_uI e_T_16 k_n_15 (by decide))
    exact tot_some ⟨h_T_16, x_T_16⟩
  · replace c_14 := i_nle c_14
    refine tot_oif (iv_oO h_T_9 k_o (by decide) (by decide) rfl) ?_
    refine tot_let (fun v_11 e_v_11 => ?_)
    have u_v_11 : v_11.toInt = v_10.toInt := by rw [e_v_11, e_v_10]
    have r_v_11 : 0 ≤ v_11.toInt ∧ v_11.toInt ≤ 6 := iv_int h_T_9 k_o (by decide) (by decide) e_v_11 rfl
    refine tot_let (fun v_12 e_v_12 => ?_)
    have q_v_12 := i_add e_v_12 (by omega) (by omega)
    refine tot_oif (iv_oO h_T_9 k_o (by decide) (by decide) rfl) ?_
    refine tot_let (fun T_13 e_T_13 => ?_)
    have h_T_13 : IV R B K1 K2 T_13 := by rw [e_T_13]; exact iv_uI (a := 0) (b := 6) h_T_9 k_o (by decide) (by decide) rfl (by omega) (.inl rfl)
    have x_T_13 := x_T_9.tr (fw_uI e_T_13 k_o (by decide))
    unfold g_X11_keepForUndo_b48
    refine tot_oif (iv_oO h_T_13 k_o (by decide) (by decide) rfl) ?_
    refine tot_ref h_T_13 k_o (by decide) (by decide) (r2 := 4) (rfl : rtg 11 4 = 4) (by decide) (fun n_17 k_n_17 e_n_17 => ?_)
    refine tot_oif (iv_oO h_T_13 k_n_17 (by decide) (by decide) rfl) ?_
    refine tot_let (fun T_18 e_T_18 => ?_)
    have h_T_18 : IV R B K1 K2 T_18 := by rw [e_T_18]; exact iv_uI (a := 0) (b := 1) h_T_13 k_n_17 (by decide) (by decide) rfl (by omega) (.inl rfl)
    have x_T_18 := x_T_13.tr (fw_uI e_T_18 k_n_17 (by decide))
    exact tot_some ⟨h_T_18, x_T_18⟩
set_option maxHeartbeats 4000000 in
set_option maxRecDepth 10000 in
theorem cs_X11_mute {R : Nat → Nat} {B K1 K2 : Nat} (T : AT) (o : Nat) (a0 : Int32) (a1 : Int32) (h_T : IV R B K1 K2 T) (k_o : R o = 11) (g0 : 0 ≤ a1.toInt ∧ a1.toInt ≤ 1) : Tot (g_X11_mute T o a0 a1) (fun r => (IV R B K1 K2 r.2.2 ∧ FW R [128, 256, 257, 258, 368, 369, 1984, 2016, 2048, 2080, 2112, 3202] T r.2.2) ∧ (r.1 = 0 → (0 ≤ r.2.1.toInt ∧ r.2.1.toInt ≤ 1))) := by
  have cc_101 : cnt 101 = 1 := rfl
  have cc_102 : cnt 102 = 12 := rfl
  have cc_103 : cnt 103 = 144 := rfl
  have cc_104 : cnt 104 = 2400 := rfl
  have cc_105 : cnt 105 = 7200 := rfl
  have x_T : FW R [128, 256, 257, 258, 368, 369, 1984, 2016, 2048, 2080, 2112, 3202] T T := FW.rf
  have j_a0 := i_any a0
  have j_a1 := i_any a1
  unfold g_X11_mute
  refine tot_oif (iv_oO h_T k_o (by decide) (by decide) rfl) ?_
  refine tot_thrp (Q := fun r_1 : Int32 => (0 ≤ r_1.toInt ∧ r_1.toInt ≤ 0)) (cs_X11_needCamera T o h_T k_o ) (fun r_1 d_r_1 => ?_) (fun k_ => ⟨⟨h_T, x_T⟩, fun q_ => absurd q_ (Nat.succ_ne_zero k_)⟩)
  replace d_r_1 : (0 ≤ r_1.toInt ∧ r_1.toInt ≤ 0) := d_r_1
  refine tot_oif (iv_oO h_T k_o (by decide) (by decide) rfl) ?_
  refine tot_thrp (Q := fun r_3 : Int32 => (0 ≤ a0.toInt ∧ a0.toInt ≤ 11)) (cs_X11_needMic T o a0 h_T k_o ) (fun r_3 d_r_3 => ?_) (fun k_ => ⟨⟨h_T, x_T⟩, fun q_ => absurd q_ (Nat.succ_ne_zero k_)⟩)
  replace d_r_3 : (0 ≤ a0.toInt ∧ a0.toInt ≤ 11) := d_r_3
  refine tot_oif (iv_oO h_T k_o (by decide) (by decide) rfl) ?_
  refine tot_ref h_T k_o (by decide) (by decide) (r2 := 8) (rfl : rtg 11 6 = 8) (by decide) (fun n_5 k_n_5 e_n_5 => ?_)
  refine tot_oif (iv_oO h_T k_n_5 (by decide) (by decide) rfl) ?_
  refine tot_ref h_T k_n_5 (by decide) (by decide) (r2 := 62) (rfl : rtg 8 3 = 62) (by decide) (fun n_6 k_n_6 e_n_6 => ?_)
  refine tot_oif (iv_aA h_T k_n_6 (by decide) (by decide) rfl rfl) ?_
  refine tot_oif (by rw [iv_len h_T k_n_6 (by decide) (by decide) (rfl : shp 62 = (102, 12))]; exact i_inb (by omega) (by omega)) ?_
  refine tot_let (fun v_7 e_v_7 => ?_)
  have r_v_7 : 0 ≤ v_7.toInt ∧ v_7.toInt ≤ 1 := iv_int h_T k_n_6 (by decide) (by decide) e_v_7 rfl
  refine tot_oif (iv_oO h_T k_o (by decide) (by decide) rfl) ?_
  refine tot_bind (cs_X11_keepForUndo T o h_T k_o ) (fun T_8 d_T_8 => ?_)
  have h_T_8 : IV R B K1 K2 T_8 := d_T_8.1
  have y_T_8 : FW R [128, 256, 257, 258, 368, 369, 1984, 2016, 2048, 2080, 2112, 3202] T T_8 := d_T_8.2
  have x_T_8 := x_T.tr (y_T_8.w (by decide))
  unfold g_X11_mute_b23
  refine tot_oif (iv_oO h_T_8 k_o (by decide) (by decide) rfl) ?_
  refine tot_ref h_T_8 k_o (by decide) (by decide) (r2 := 8) (rfl : rtg 11 6 = 8) (by decide) (fun n_9 k_n_9 e_n_9 => ?_)
  refine tot_oif (iv_oO h_T_8 k_n_9 (by decide) (by decide) rfl) ?_
  refine tot_ref h_T_8 k_n_9 (by decide) (by decide) (r2 := 62) (rfl : rtg 8 3 = 62) (by decide) (fun n_10 k_n_10 e_n_10 => ?_)
  refine tot_oif (iv_aA h_T_8 k_n_10 (by decide) (by decide) rfl rfl) ?_
  refine tot_oif (by rw [iv_len h_T_8 k_n_10 (by decide) (by decide) (rfl : shp 62 = (102, 12))]; exact i_inb (by omega) (by omega)) ?_
  refine tot_oif (i_b01 (by omega)) ?_
  refine tot_let (fun T_11 e_T_11 => ?_)
  have h_T_11 : IV R B K1 K2 T_11 := by rw [e_T_11]; exact iv_uI (a := 0) (b := 1) h_T_8 k_n_10 (by decide) (by decide) rfl (by omega) (.inl rfl)
  have x_T_11 := x_T_8.tr (fw_uA e_T_11 k_n_10 rfl rfl (by decide))
  refine tot_oif (i_b01 (by omega)) ?_
  exact tot_some ⟨⟨h_T_11, x_T_11⟩, fun _ => (show (0 ≤ v_7.toInt ∧ v_7.toInt ≤ 1) from by omega)⟩
set_option maxHeartbeats 4000000 in
set_option maxRecDepth 10000 in
theorem cs_X11_setWeight {R : Nat → Nat} {B K1 K2 : Nat} (T : AT) (o : Nat) (a0 : Int32) (a1 : Int32) (h_T : IV R B K1 K2 T) (k_o : R o = 11) : Tot (g_X11_setWeight T o a0 a1) (fun r => (IV R B K1 K2 r.2.2 ∧ FW R [128, 256, 257, 258, 368, 369, 1984, 2016, 2048, 2080, 2112, 3202] T r.2.2) ∧ (r.1 = 0 → (0 ≤ r.2.1.toInt ∧ r.2.1.toInt ≤ 9))) := by
  have z0 : ((0 : Int32) : Int32).toInt = 0 := by decide
  have z1 : ((9 : Int32) : Int32).toInt = 9 := by decide
  have cc_101 : cnt 101 = 1 := rfl
  have cc_102 : cnt 102 = 12 := rfl
  have cc_103 : cnt 103 = 144 := rfl
  have cc_104 : cnt 104 = 2400 := rfl
  have cc_105 : cnt 105 = 7200 := rfl
  have x_T : FW R [128, 256, 257, 258, 368, 369, 1984, 2016, 2048, 2080, 2112, 3202] T T := FW.rf
  have j_a0 := i_any a0
  have j_a1 := i_any a1
  unfold g_X11_setWeight
  refine tot_oif (iv_oO h_T k_o (by decide) (by decide) rfl) ?_
  refine tot_thrp (Q := fun r_1 : Int32 => (0 ≤ r_1.toInt ∧ r_1.toInt ≤ 0)) (cs_X11_needCamera T o h_T k_o ) (fun r_1 d_r_1 => ?_) (fun k_ => ⟨⟨h_T, x_T⟩, fun q_ => absurd q_ (Nat.succ_ne_zero k_)⟩)
  replace d_r_1 : (0 ≤ r_1.toInt ∧ r_1.toInt ≤ 0) := d_r_1
  refine tot_oif (iv_oO h_T k_o (by decide) (by decide) rfl) ?_
  refine tot_thrp (Q := fun r_3 : Int32 => (0 ≤ a0.toInt ∧ a0.toInt ≤ 11)) (cs_X11_needMic T o a0 h_T k_o ) (fun r_3 d_r_3 => ?_) (fun k_ => ⟨⟨h_T, x_T⟩, fun q_ => absurd q_ (Nat.succ_ne_zero k_)⟩)
  replace d_r_3 : (0 ≤ a0.toInt ∧ a0.toInt ≤ 11) := d_r_3
  refine tot_thrp (Q := fun r_5 : Int32 => (((0 : Int32) : Int32).toInt ≤ a1.toInt ∧ a1.toInt ≤ ((9 : Int32) : Int32).toInt)) (cs_X11_needRange T a1 (0 : Int32) (9 : Int32) h_T ) (fun r_5 d_r_5 => ?_) (fun k_ => ⟨⟨h_T, x_T⟩, fun q_ => absurd q_ (Nat.succ_ne_zero k_)⟩)
  replace d_r_5 : (((0 : Int32) : Int32).toInt ≤ a1.toInt ∧ a1.toInt ≤ ((9 : Int32) : Int32).toInt) := d_r_5
  refine tot_oif (iv_oO h_T k_o (by decide) (by decide) rfl) ?_
  refine tot_ref h_T k_o (by decide) (by decide) (r2 := 8) (rfl : rtg 11 6 = 8) (by decide) (fun n_7 k_n_7 e_n_7 => ?_)
  refine tot_oif (iv_oO h_T k_n_7 (by decide) (by decide) rfl) ?_
  refine tot_ref h_T k_n_7 (by decide) (by decide) (r2 := 63) (rfl : rtg 8 4 = 63) (by decide) (fun n_8 k_n_8 e_n_8 => ?_)
  refine tot_oif (iv_aA h_T k_n_8 (by decide) (by decide) rfl rfl) ?_
  refine tot_oif (by rw [iv_len h_T k_n_8 (by decide) (by decide) (rfl : shp 63 = (100, 12))]; exact i_inb (by omega) (by omega)) ?_
  refine tot_let (fun v_9 e_v_9 => ?_)
  have r_v_9 : 0 ≤ v_9.toInt ∧ v_9.toInt ≤ 9 := iv_int h_T k_n_8 (by decide) (by decide) e_v_9 rfl
  refine tot_oif (iv_oO h_T k_o (by decide) (by decide) rfl) ?_
  refine tot_bind (cs_X11_keepForUndo T o h_T k_o ) (fun T_10 d_T_10 => ?_)
  have h_T_10 : IV R B K1 K2 T_10 := d_T_10.1
  have y_T_10 : FW R [128, 256, 257, 258, 368, 369, 1984, 2016, 2048, 2080, 2112, 3202] T T_10 := d_T_10.2
  have x_T_10 := x_T.tr (y_T_10.w (by decide))
  unfold g_X11_setWeight_b30
  refine tot_oif (iv_oO h_T_10 k_o (by decide) (by decide) rfl) ?_
  refine tot_ref h_T_10 k_o (by decide) (by decide) (r2 := 8) (rfl : rtg 11 6 = 8) (by decide) (fun n_11 k_n_11 e_n_11 => ?_)
  refine tot_oif (iv_oO h_T_10 k_n_11 (by decide) (by decide) rfl) ?_
  refine tot_ref h_T_10 k_n_11 (by decide) (by decide) (r2 := 63) (rfl : rtg 8 4 = 63) (by decide) (fun n_12 k_n_12 e_n_12 => ?_)
  refine tot_oif (iv_aA h_T_10 k_n_12 (by decide) (by decide) rfl rfl) ?_
  refine tot_oif (by rw [iv_len h_T_10 k_n_12 (by decide) (by decide) (rfl : shp 63 = (100, 12))]; exact i_inb (by omega) (by omega)) ?_
  refine tot_let (fun T_13 e_T_13 => ?_)
  have h_T_13 : IV R B K1 K2 T_13 := by rw [e_T_13]; exact iv_uI (a := 0) (b := 9) h_T_10 k_n_12 (by decide) (by decide) rfl (by omega) (.inl rfl)
  have x_T_13 := x_T_10.tr (fw_uA e_T_13 k_n_12 rfl rfl (by decide))
  exact tot_some ⟨⟨h_T_13, x_T_13⟩, fun _ => (show (0 ≤ v_9.toInt ∧ v_9.toInt ≤ 9) from by omega)⟩
set_option maxHeartbeats 4000000 in
set_option maxRecDepth 10000 in
theorem cs_X11_setOn {R : Nat → Nat} {B K1 K2 : Nat} (T : AT) (o : Nat) (a0 : Int32) (a1 : Int32) (h_T : IV R B K1 K2 T) (k_o : R o = 11) (g0 : 0 ≤ a1.toInt ∧ a1.toInt ≤ 1) : Tot (g_X11_setOn T o a0 a1) (fun r => (IV R B K1 K2 r.2.2 ∧ FW R [128, 256, 257, 258, 368, 369, 1472, 1984, 2016, 2048, 2080, 2112, 3202] T r.2.2) ∧ (r.1 = 0 → (0 ≤ r.2.1.toInt ∧ r.2.1.toInt ≤ 1))) := by
  have cc_101 : cnt 101 = 1 := rfl
  have cc_102 : cnt 102 = 12 := rfl
  have cc_103 : cnt 103 = 144 := rfl
  have cc_104 : cnt 104 = 2400 := rfl
  have cc_105 : cnt 105 = 7200 := rfl
  have x_T : FW R [128, 256, 257, 258, 368, 369, 1472, 1984, 2016, 2048, 2080, 2112, 3202] T T := FW.rf
  have j_a0 := i_any a0
  have j_a1 := i_any a1
  unfold g_X11_setOn
  refine tot_oif (iv_oO h_T k_o (by decide) (by decide) rfl) ?_
  refine tot_thrp (Q := fun r_1 : Int32 => (0 ≤ r_1.toInt ∧ r_1.toInt ≤ 0)) (cs_X11_needCamera T o h_T k_o ) (fun r_1 d_r_1 => ?_) (fun k_ => ⟨⟨h_T, x_T⟩, fun q_ => absurd q_ (Nat.succ_ne_zero k_)⟩)
  replace d_r_1 : (0 ≤ r_1.toInt ∧ r_1.toInt ≤ 0) := d_r_1
  refine tot_oif (iv_oO h_T k_o (by decide) (by decide) rfl) ?_
  refine tot_thrp (Q := fun r_3 : Int32 => (0 ≤ a0.toInt ∧ a0.toInt ≤ 5)) (cs_X11_needSource T o a0 h_T k_o ) (fun r_3 d_r_3 => ?_) (fun k_ => ⟨⟨h_T, x_T⟩, fun q_ => absurd q_ (Nat.succ_ne_zero k_)⟩)
  replace d_r_3 : (0 ≤ a0.toInt ∧ a0.toInt ≤ 5) := d_r_3
  refine tot_oif (iv_oO h_T k_o (by decide) (by decide) rfl) ?_
  refine tot_ref h_T k_o (by decide) (by decide) (r2 := 8) (rfl : rtg 11 6 = 8) (by decide) (fun n_5 k_n_5 e_n_5 => ?_)
  refine tot_oif (iv_oO h_T k_n_5 (by decide) (by decide) rfl) ?_
  refine tot_ref h_T k_n_5 (by decide) (by decide) (r2 := 64) (rfl : rtg 8 5 = 64) (by decide) (fun n_6 k_n_6 e_n_6 => ?_)
  refine tot_oif (iv_aA h_T k_n_6 (by decide) (by decide) rfl rfl) ?_
  refine tot_oif (by rw [iv_len h_T k_n_6 (by decide) (by decide) (rfl : shp 64 = (102, 6))]; exact i_inb (by omega) (by omega)) ?_
  refine tot_let (fun v_7 e_v_7 => ?_)
  have r_v_7 : 0 ≤ v_7.toInt ∧ v_7.toInt ≤ 1 := iv_int h_T k_n_6 (by decide) (by decide) e_v_7 rfl
  refine tot_oif (iv_oO h_T k_o (by decide) (by decide) rfl) ?_
  refine tot_bind (cs_X11_keepForUndo T o h_T k_o ) (fun T_8 d_T_8 => ?_)
  have h_T_8 : IV R B K1 K2 T_8 := d_T_8.1
  have y_T_8 : FW R [128, 256, 257, 258, 368, 369, 1984, 2016, 2048, 2080, 2112, 3202] T T_8 := d_T_8.2
  have x_T_8 := x_T.tr (y_T_8.w (by decide))
  unfold g_X11_setOn_b23
  refine tot_oif (iv_oO h_T_8 k_o (by decide) (by decide) rfl) ?_
  refine tot_ref h_T_8 k_o (by decide) (by decide) (r2 := 8) (rfl : rtg 11 6 = 8) (by decide) (fun n_9 k_n_9 e_n_9 => ?_)
  refine tot_oif (iv_oO h_T_8 k_n_9 (by decide) (by decide) rfl) ?_
  refine tot_ref h_T_8 k_n_9 (by decide) (by decide) (r2 := 64) (rfl : rtg 8 5 = 64) (by decide) (fun n_10 k_n_10 e_n_10 => ?_)
  refine tot_oif (iv_aA h_T_8 k_n_10 (by decide) (by decide) rfl rfl) ?_
  refine tot_oif (by rw [iv_len h_T_8 k_n_10 (by decide) (by decide) (rfl : shp 64 = (102, 6))]; exact i_inb (by omega) (by omega)) ?_
  refine tot_oif (i_b01 (by omega)) ?_
  refine tot_let (fun T_11 e_T_11 => ?_)
  have h_T_11 : IV R B K1 K2 T_11 := by rw [e_T_11]; exact iv_uI (a := 0) (b := 1) h_T_8 k_n_10 (by decide) (by decide) rfl (by omega) (.inl rfl)
  have x_T_11 := x_T_8.tr (fw_uA e_T_11 k_n_10 rfl rfl (by decide))
  refine tot_oif (iv_oO h_T_11 k_o (by decide) (by decide) rfl) ?_
  refine tot_ref h_T_11 k_o (by decide) (by decide) (r2 := 5) (rfl : rtg 11 2 = 5) (by decide) (fun n_12 k_n_12 e_n_12 => ?_)
  refine tot_oif (iv_oO h_T_11 k_o (by decide) (by decide) rfl) ?_
  refine tot_ref h_T_11 k_o (by decide) (by decide) (r2 := 6) (rfl : rtg 11 14 = 6) (by decide) (fun n_13 k_n_13 e_n_13 => ?_)
  refine tot_oif (iv_oO h_T_11 k_o (by decide) (by decide) rfl) ?_
  refine tot_ref h_T_11 k_o (by decide) (by decide) (r2 := 8) (rfl : rtg 11 6 = 8) (by decide) (fun n_14 k_n_14 e_n_14 => ?_)
  refine tot_oif (iv_oO h_T_11 k_n_12 (by decide) (by decide) rfl) ?_
  refine tot_bind (cs_X5_record T_11 n_12 n_13 n_14 h_T_11 k_n_12 k_n_13 k_n_14 ) (fun T_15 d_T_15 => ?_)
  have h_T_15 : IV R B K1 K2 T_15 := d_T_15.1
  have y_T_15 : FW R [258, 1472, 3202] T_11 T_15 := d_T_15.2
  have x_T_15 := x_T_11.tr (y_T_15.w (by decide))
  unfold g_X11_setOn_b48
  refine tot_oif (i_b01 (by omega)) ?_
  exact tot_some ⟨⟨h_T_15, x_T_15⟩, fun _ => (show (0 ≤ v_7.toInt ∧ v_7.toInt ≤ 1) from by omega)⟩
set_option maxHeartbeats 4000000 in
set_option maxRecDepth 10000 in
theorem cs_X11_moveSource {R : Nat → Nat} {B K1 K2 : Nat} (T : AT) (o : Nat) (a0 : Int32) (a1 : Int32) (a2 : Int32) (h_T : IV R B K1 K2 T) (k_o : R o = 11) : Tot (g_X11_moveSource T o a0 a1 a2) (fun r => (IV R B K1 K2 r.2.2 ∧ FW R [128, 130, 131, 256, 257, 258, 368, 369, 1472, 1952, 1984, 2016, 2048, 2080, 2112, 2144, 3202] T r.2.2) ∧ (r.1 = 0 → (0 ≤ r.2.1.toInt ∧ r.2.1.toInt ≤ 143))) := by
  have z0 : (((-2000) : Int32) : Int32).toInt = -2000 := by decide
  have z1 : ((2000 : Int32) : Int32).toInt = 2000 := by decide
  have cc_101 : cnt 101 = 1 := rfl
  have cc_102 : cnt 102 = 12 := rfl
  have cc_103 : cnt 103 = 144 := rfl
  have cc_104 : cnt 104 = 2400 := rfl
  have cc_105 : cnt 105 = 7200 := rfl
  have x_T : FW R [128, 130, 131, 256, 257, 258, 368, 369, 1472, 1952, 1984, 2016, 2048, 2080, 2112, 2144, 3202] T T := FW.rf
  have j_a0 := i_any a0
  have j_a1 := i_any a1
  have j_a2 := i_any a2
  unfold g_X11_moveSource
  refine tot_oif (iv_oO h_T k_o (by decide) (by decide) rfl) ?_
  refine tot_thrp (Q := fun r_1 : Int32 => (0 ≤ r_1.toInt ∧ r_1.toInt ≤ 0)) (cs_X11_needCamera T o h_T k_o ) (fun r_1 d_r_1 => ?_) (fun k_ => ⟨⟨h_T, x_T⟩, fun q_ => absurd q_ (Nat.succ_ne_zero k_)⟩)
  replace d_r_1 : (0 ≤ r_1.toInt ∧ r_1.toInt ≤ 0) := d_r_1
  refine tot_oif (iv_oO h_T k_o (by decide) (by decide) rfl) ?_
  refine tot_thrp (Q := fun r_3 : Int32 => (0 ≤ a0.toInt ∧ a0.toInt ≤ 5)) (cs_X11_needSource T o a0 h_T k_o ) (fun r_3 d_r_3 => ?_) (fun k_ => ⟨⟨h_T, x_T⟩, fun q_ => absurd q_ (Nat.succ_ne_zero k_)⟩)
  replace d_r_3 : (0 ≤ a0.toInt ∧ a0.toInt ≤ 5) := d_r_3
  refine tot_thrp (Q := fun r_5 : Int32 => ((((-2000) : Int32) : Int32).toInt ≤ a1.toInt ∧ a1.toInt ≤ ((2000 : Int32) : Int32).toInt)) (cs_X11_needRange T a1 ((-2000) : Int32) (2000 : Int32) h_T ) (fun r_5 d_r_5 => ?_) (fun k_ => ⟨⟨h_T, x_T⟩, fun q_ => absurd q_ (Nat.succ_ne_zero k_)⟩)
  replace d_r_5 : ((((-2000) : Int32) : Int32).toInt ≤ a1.toInt ∧ a1.toInt ≤ ((2000 : Int32) : Int32).toInt) := d_r_5
  refine tot_thrp (Q := fun r_7 : Int32 => ((((-2000) : Int32) : Int32).toInt ≤ a2.toInt ∧ a2.toInt ≤ ((2000 : Int32) : Int32).toInt)) (cs_X11_needRange T a2 ((-2000) : Int32) (2000 : Int32) h_T ) (fun r_7 d_r_7 => ?_) (fun k_ => ⟨⟨h_T, x_T⟩, fun q_ => absurd q_ (Nat.succ_ne_zero k_)⟩)
  replace d_r_7 : ((((-2000) : Int32) : Int32).toInt ≤ a2.toInt ∧ a2.toInt ≤ ((2000 : Int32) : Int32).toInt) := d_r_7
  refine tot_oif (iv_oO h_T k_o (by decide) (by decide) rfl) ?_
  refine tot_bind (cs_X11_keepForUndo T o h_T k_o ) (fun T_9 d_T_9 => ?_)
  have h_T_9 : IV R B K1 K2 T_9 := d_T_9.1
  have y_T_9 : FW R [128, 256, 257, 258, 368, 369, 1984, 2016, 2048, 2080, 2112, 3202] T T_9 := d_T_9.2
  have x_T_9 := x_T.tr (y_T_9.w (by decide))
  unfold g_X11_moveSource_b33
  refine tot_oif (iv_oO h_T_9 k_o (by decide) (by decide) rfl) ?_
  refine tot_ref h_T_9 k_o (by decide) (by decide) (r2 := 8) (rfl : rtg 11 6 = 8) (by decide) (fun n_10 k_n_10 e_n_10 => ?_)
  refine tot_oif (iv_oO h_T_9 k_n_10 (by decide) (by decide) rfl) ?_
  refine tot_ref h_T_9 k_n_10 (by decide) (by decide) (r2 := 65) (rfl : rtg 8 6 = 65) (by decide) (fun n_11 k_n_11 e_n_11 => ?_)
  refine tot_oif (iv_aA h_T_9 k_n_11 (by decide) (by decide) rfl rfl) ?_
  refine tot_oif (by rw [iv_len h_T_9 k_n_11 (by decide) (by decide) (rfl : shp 65 = (100, 6))]; exact i_inb (by omega) (by omega)) ?_
  refine tot_let (fun T_12 e_T_12 => ?_)
  have h_T_12 : IV R B K1 K2 T_12 := by rw [e_T_12]; exact iv_uI (a := -2000) (b := 2000) h_T_9 k_n_11 (by decide) (by decide) rfl (by omega) (.inl rfl)
  have x_T_12 := x_T_9.tr (fw_uA e_T_12 k_n_11 rfl rfl (by decide))
  refine tot_oif (iv_oO h_T_12 k_o (by decide) (by decide) rfl) ?_
  refine tot_ref h_T_12 k_o (by decide) (by decide) (r2 := 8) (rfl : rtg 11 6 = 8) (by decide) (fun n_13 k_n_13 e_n_13 => ?_)
  refine tot_oif (iv_oO h_T_12 k_n_13 (by decide) (by decide) rfl) ?_
  refine tot_ref h_T_12 k_n_13 (by decide) (by decide) (r2 := 65) (rfl : rtg 8 7 = 65) (by decide) (fun n_14 k_n_14 e_n_14 => ?_)
  refine tot_oif (iv_aA h_T_12 k_n_14 (by decide) (by decide) rfl rfl) ?_
  refine tot_oif (by rw [iv_len h_T_12 k_n_14 (by decide) (by decide) (rfl : shp 65 = (100, 6))]; exact i_inb (by omega) (by omega)) ?_
  refine tot_let (fun T_15 e_T_15 => ?_)
  have h_T_15 : IV R B K1 K2 T_15 := by rw [e_T_15]; exact iv_uI (a := -2000) (b := 2000) h_T_12 k_n_14 (by decide) (by decide) rfl (by omega) (.inl rfl)
  have x_T_15 := x_T_12.tr (fw_uA e_T_15 k_n_14 rfl rfl (by decide))
  refine tot_oif (iv_oO h_T_15 k_o (by decide) (by decide) rfl) ?_
  refine tot_ref h_T_15 k_o (by decide) (by decide) (r2 := 5) (rfl : rtg 11 2 = 5) (by decide) (fun n_16 k_n_16 e_n_16 => ?_)
  refine tot_oif (iv_oO h_T_15 k_o (by decide) (by decide) rfl) ?_
  refine tot_ref h_T_15 k_o (by decide) (by decide) (r2 := 6) (rfl : rtg 11 14 = 6) (by decide) (fun n_17 k_n_17 e_n_17 => ?_)
  refine tot_oif (iv_oO h_T_15 k_o (by decide) (by decide) rfl) ?_
  refine tot_ref h_T_15 k_o (by decide) (by decide) (r2 := 8) (rfl : rtg 11 6 = 8) (by decide) (fun n_18 k_n_18 e_n_18 => ?_)
  refine tot_oif (iv_oO h_T_15 k_n_16 (by decide) (by decide) rfl) ?_
  refine tot_bind (cs_X5_record T_15 n_16 n_17 n_18 h_T_15 k_n_16 k_n_17 k_n_18 ) (fun T_19 d_T_19 => ?_)
  have h_T_19 : IV R B K1 K2 T_19 := d_T_19.1
  have y_T_19 : FW R [258, 1472, 3202] T_15 T_19 := d_T_19.2
  have x_T_19 := x_T_15.tr (y_T_19.w (by decide))
  unfold g_X11_moveSource_b68
  refine tot_oif (iv_oO h_T_19 k_o (by decide) (by decide) rfl) ?_
  refine tot_bind2 (cs_X11_powersNow T_19 o h_T_19 k_o ) (fun r_20 T_21 d_r_20 => ?_)
  have h_T_21 : IV R B K1 K2 T_21 := d_r_20.1.1
  have y_T_21 : FW R [128, 130, 131, 1952, 2144, 3202] T_19 T_21 := d_r_20.1.2
  have x_T_21 := x_T_19.tr (y_T_21.w (by decide))
  have k_r_20 : R r_20 = 4 := d_r_20.2
  refine tot_oif (Nat.ble_eq_true_of_le (iv_lt h_T_21 (iv_sta h_T_21 k_r_20 (by decide) (by decide)))) ?_
  unfold g_X11_moveSource_b72
  refine tot_oif (iv_oO h_T_21 k_r_20 (by decide) (by decide) rfl) ?_
  refine tot_let (fun v_22 e_v_22 => ?_)
  have r_v_22 : 0 ≤ v_22.toInt ∧ v_22.toInt ≤ 143 := iv_int h_T_21 k_r_20 (by decide) (by decide) e_v_22 rfl
  exact tot_some ⟨⟨h_T_21, x_T_21⟩, fun _ => (show (0 ≤ v_22.toInt ∧ v_22.toInt ≤ 143) from by omega)⟩
set_option maxHeartbeats 4000000 in
set_option maxRecDepth 10000 in
theorem cs_X11_setVelocity {R : Nat → Nat} {B K1 K2 : Nat} (T : AT) (o : Nat) (a0 : Int32) (a1 : Int32) (a2 : Int32) (h_T : IV R B K1 K2 T) (k_o : R o = 11) : Tot (g_X11_setVelocity T o a0 a1 a2) (fun r => (IV R B K1 K2 r.2.2 ∧ FW R [128, 130, 131, 256, 257, 258, 368, 369, 1472, 1952, 1984, 2016, 2048, 2080, 2112, 2144, 3202] T r.2.2) ∧ (r.1 = 0 → (0 ≤ r.2.1.toInt ∧ r.2.1.toInt ≤ 143))) := by
  have z0 : (((-999) : Int32) : Int32).toInt = -999 := by decide
  have z1 : ((999 : Int32) : Int32).toInt = 999 := by decide
  have cc_101 : cnt 101 = 1 := rfl
  have cc_102 : cnt 102 = 12 := rfl
  have cc_103 : cnt 103 = 144 := rfl
  have cc_104 : cnt 104 = 2400 := rfl
  have cc_105 : cnt 105 = 7200 := rfl
  have x_T : FW R [128, 130, 131, 256, 257, 258, 368, 369, 1472, 1952, 1984, 2016, 2048, 2080, 2112, 2144, 3202] T T := FW.rf
  have j_a0 := i_any a0
  have j_a1 := i_any a1
  have j_a2 := i_any a2
  unfold g_X11_setVelocity
  refine tot_oif (iv_oO h_T k_o (by decide) (by decide) rfl) ?_
  refine tot_thrp (Q := fun r_1 : Int32 => (0 ≤ r_1.toInt ∧ r_1.toInt ≤ 0)) (cs_X11_needCamera T o h_T k_o ) (fun r_1 d_r_1 => ?_) (fun k_ => ⟨⟨h_T, x_T⟩, fun q_ => absurd q_ (Nat.succ_ne_zero k_)⟩)
  replace d_r_1 : (0 ≤ r_1.toInt ∧ r_1.toInt ≤ 0) := d_r_1
  refine tot_oif (iv_oO h_T k_o (by decide) (by decide) rfl) ?_
  refine tot_thrp (Q := fun r_3 : Int32 => (0 ≤ a0.toInt ∧ a0.toInt ≤ 5)) (cs_X11_needSource T o a0 h_T k_o ) (fun r_3 d_r_3 => ?_) (fun k_ => ⟨⟨h_T, x_T⟩, fun q_ => absurd q_ (Nat.succ_ne_zero k_)⟩)
  replace d_r_3 : (0 ≤ a0.toInt ∧ a0.toInt ≤ 5) := d_r_3
  refine tot_thrp (Q := fun r_5 : Int32 => ((((-999) : Int32) : Int32).toInt ≤ a1.toInt ∧ a1.toInt ≤ ((999 : Int32) : Int32).toInt)) (cs_X11_needRange T a1 ((-999) : Int32) (999 : Int32) h_T ) (fun r_5 d_r_5 => ?_) (fun k_ => ⟨⟨h_T, x_T⟩, fun q_ => absurd q_ (Nat.succ_ne_zero k_)⟩)
  replace d_r_5 : ((((-999) : Int32) : Int32).toInt ≤ a1.toInt ∧ a1.toInt ≤ ((999 : Int32) : Int32).toInt) := d_r_5
  refine tot_thrp (Q := fun r_7 : Int32 => ((((-999) : Int32) : Int32).toInt ≤ a2.toInt ∧ a2.toInt ≤ ((999 : Int32) : Int32).toInt)) (cs_X11_needRange T a2 ((-999) : Int32) (999 : Int32) h_T ) (fun r_7 d_r_7 => ?_) (fun k_ => ⟨⟨h_T, x_T⟩, fun q_ => absurd q_ (Nat.succ_ne_zero k_)⟩)
  replace d_r_7 : ((((-999) : Int32) : Int32).toInt ≤ a2.toInt ∧ a2.toInt ≤ ((999 : Int32) : Int32).toInt) := d_r_7
  refine tot_oif (iv_oO h_T k_o (by decide) (by decide) rfl) ?_
  refine tot_bind (cs_X11_keepForUndo T o h_T k_o ) (fun T_9 d_T_9 => ?_)
  have h_T_9 : IV R B K1 K2 T_9 := d_T_9.1
  have y_T_9 : FW R [128, 256, 257, 258, 368, 369, 1984, 2016, 2048, 2080, 2112, 3202] T T_9 := d_T_9.2
  have x_T_9 := x_T.tr (y_T_9.w (by decide))
  unfold g_X11_setVelocity_b33
  refine tot_oif (iv_oO h_T_9 k_o (by decide) (by decide) rfl) ?_
  refine tot_ref h_T_9 k_o (by decide) (by decide) (r2 := 8) (rfl : rtg 11 6 = 8) (by decide) (fun n_10 k_n_10 e_n_10 => ?_)
  refine tot_oif (iv_oO h_T_9 k_n_10 (by decide) (by decide) rfl) ?_
  refine tot_ref h_T_9 k_n_10 (by decide) (by decide) (r2 := 66) (rfl : rtg 8 8 = 66) (by decide) (fun n_11 k_n_11 e_n_11 => ?_)
  refine tot_oif (iv_aA h_T_9 k_n_11 (by decide) (by decide) rfl rfl) ?_
  refine tot_oif (by rw [iv_len h_T_9 k_n_11 (by decide) (by decide) (rfl : shp 66 = (100, 6))]; exact i_inb (by omega) (by omega)) ?_
  refine tot_let (fun T_12 e_T_12 => ?_)
  have h_T_12 : IV R B K1 K2 T_12 := by rw [e_T_12]; exact iv_uI (a := -999) (b := 999) h_T_9 k_n_11 (by decide) (by decide) rfl (by omega) (.inl rfl)
  have x_T_12 := x_T_9.tr (fw_uA e_T_12 k_n_11 rfl rfl (by decide))
  refine tot_oif (iv_oO h_T_12 k_o (by decide) (by decide) rfl) ?_
  refine tot_ref h_T_12 k_o (by decide) (by decide) (r2 := 8) (rfl : rtg 11 6 = 8) (by decide) (fun n_13 k_n_13 e_n_13 => ?_)
  refine tot_oif (iv_oO h_T_12 k_n_13 (by decide) (by decide) rfl) ?_
  refine tot_ref h_T_12 k_n_13 (by decide) (by decide) (r2 := 66) (rfl : rtg 8 9 = 66) (by decide) (fun n_14 k_n_14 e_n_14 => ?_)
  refine tot_oif (iv_aA h_T_12 k_n_14 (by decide) (by decide) rfl rfl) ?_
  refine tot_oif (by rw [iv_len h_T_12 k_n_14 (by decide) (by decide) (rfl : shp 66 = (100, 6))]; exact i_inb (by omega) (by omega)) ?_
  refine tot_let (fun T_15 e_T_15 => ?_)
  have h_T_15 : IV R B K1 K2 T_15 := by rw [e_T_15]; exact iv_uI (a := -999) (b := 999) h_T_12 k_n_14 (by decide) (by decide) rfl (by omega) (.inl rfl)
  have x_T_15 := x_T_12.tr (fw_uA e_T_15 k_n_14 rfl rfl (by decide))
  refine tot_oif (iv_oO h_T_15 k_o (by decide) (by decide) rfl) ?_
  refine tot_ref h_T_15 k_o (by decide) (by decide) (r2 := 5) (rfl : rtg 11 2 = 5) (by decide) (fun n_16 k_n_16 e_n_16 => ?_)
  refine tot_oif (iv_oO h_T_15 k_o (by decide) (by decide) rfl) ?_
  refine tot_ref h_T_15 k_o (by decide) (by decide) (r2 := 6) (rfl : rtg 11 14 = 6) (by decide) (fun n_17 k_n_17 e_n_17 => ?_)
  refine tot_oif (iv_oO h_T_15 k_o (by decide) (by decide) rfl) ?_
  refine tot_ref h_T_15 k_o (by decide) (by decide) (r2 := 8) (rfl : rtg 11 6 = 8) (by decide) (fun n_18 k_n_18 e_n_18 => ?_)
  refine tot_oif (iv_oO h_T_15 k_n_16 (by decide) (by decide) rfl) ?_
  refine tot_bind (cs_X5_record T_15 n_16 n_17 n_18 h_T_15 k_n_16 k_n_17 k_n_18 ) (fun T_19 d_T_19 => ?_)
  have h_T_19 : IV R B K1 K2 T_19 := d_T_19.1
  have y_T_19 : FW R [258, 1472, 3202] T_15 T_19 := d_T_19.2
  have x_T_19 := x_T_15.tr (y_T_19.w (by decide))
  unfold g_X11_setVelocity_b68
  refine tot_oif (iv_oO h_T_19 k_o (by decide) (by decide) rfl) ?_
  refine tot_bind2 (cs_X11_powersNow T_19 o h_T_19 k_o ) (fun r_20 T_21 d_r_20 => ?_)
  have h_T_21 : IV R B K1 K2 T_21 := d_r_20.1.1
  have y_T_21 : FW R [128, 130, 131, 1952, 2144, 3202] T_19 T_21 := d_r_20.1.2
  have x_T_21 := x_T_19.tr (y_T_21.w (by decide))
  have k_r_20 : R r_20 = 4 := d_r_20.2
  refine tot_oif (Nat.ble_eq_true_of_le (iv_lt h_T_21 (iv_sta h_T_21 k_r_20 (by decide) (by decide)))) ?_
  unfold g_X11_setVelocity_b72
  refine tot_oif (iv_oO h_T_21 k_r_20 (by decide) (by decide) rfl) ?_
  refine tot_let (fun v_22 e_v_22 => ?_)
  have r_v_22 : 0 ≤ v_22.toInt ∧ v_22.toInt ≤ 143 := iv_int h_T_21 k_r_20 (by decide) (by decide) e_v_22 rfl
  exact tot_some ⟨⟨h_T_21, x_T_21⟩, fun _ => (show (0 ≤ v_22.toInt ∧ v_22.toInt ≤ 143) from by omega)⟩
set_option maxHeartbeats 4000000 in
set_option maxRecDepth 10000 in
theorem cs_X11_clean {R : Nat → Nat} {B K1 K2 : Nat} (T : AT) (o : Nat) (a0 : Int32) (h_T : IV R B K1 K2 T) (k_o : R o = 11) : Tot (g_X11_clean T o a0) (fun r => (IV R B K1 K2 r.2.2 ∧ FW R [128, 130, 131, 256, 257, 258, 368, 369, 1952, 1984, 2016, 2048, 2080, 2112, 2144, 3202] T r.2.2) ∧ (r.1 = 0 → (0 ≤ r.2.1.toInt ∧ r.2.1.toInt ≤ 143))) := by
  have z0 : (0 : Int32).toInt = 0 := by decide
  have z1 : ((1 : Int32) : Int32).toInt = 1 := by decide
  have z2 : ((100 : Int32) : Int32).toInt = 100 := by decide
  have cc_101 : cnt 101 = 1 := rfl
  have cc_102 : cnt 102 = 12 := rfl
  have cc_103 : cnt 103 = 144 := rfl
  have cc_104 : cnt 104 = 2400 := rfl
  have cc_105 : cnt 105 = 7200 := rfl
  have x_T : FW R [128, 130, 131, 256, 257, 258, 368, 369, 1952, 1984, 2016, 2048, 2080, 2112, 2144, 3202] T T := FW.rf
  have j_a0 := i_any a0
  unfold g_X11_clean
  refine tot_oif (iv_oO h_T k_o (by decide) (by decide) rfl) ?_
  refine tot_thrp (Q := fun r_1 : Int32 => (0 ≤ r_1.toInt ∧ r_1.toInt ≤ 0)) (cs_X11_needCamera T o h_T k_o ) (fun r_1 d_r_1 => ?_) (fun k_ => ⟨⟨h_T, x_T⟩, fun q_ => absurd q_ (Nat.succ_ne_zero k_)⟩)
  replace d_r_1 : (0 ≤ r_1.toInt ∧ r_1.toInt ≤ 0) := d_r_1
  refine tot_oif (iv_oO h_T k_o (by decide) (by decide) rfl) ?_
  refine tot_ref h_T k_o (by decide) (by decide) (r2 := 8) (rfl : rtg 11 6 = 8) (by decide) (fun n_3 k_n_3 e_n_3 => ?_)
  refine tot_oif (iv_oO h_T k_n_3 (by decide) (by decide) rfl) ?_
  refine tot_bindq (R := fun r_4 : Int32 => True) (cs_X8_activeWeight T n_3 h_T k_n_3 ) (fun r_4 d_r_4 => ?_)
  have r_r_4 := i_any r_4
  refine tot_if (fun c_10 => ?_) (fun c_10 => ?_)
  · replace c_10 := i_eq c_10
    exact tot_some ⟨⟨h_T, x_T⟩, fun q_ => absurd q_ (Nat.succ_ne_zero _)⟩
  · replace c_10 := i_ne c_10
    refine tot_thrp (Q := fun r_6 : Int32 => (((1 : Int32) : Int32).toInt ≤ a0.toInt ∧ a0.toInt ≤ ((100 : Int32) : Int32).toInt)) (cs_X11_needRange T a0 (1 : Int32) (100 : Int32) h_T ) (fun r_6 d_r_6 => ?_) (fun k_ => ⟨⟨h_T, x_T⟩, fun q_ => absurd q_ (Nat.succ_ne_zero k_)⟩)
    replace d_r_6 : (((1 : Int32) : Int32).toInt ≤ a0.toInt ∧ a0.toInt ≤ ((100 : Int32) : Int32).toInt) := d_r_6
    refine tot_oif (iv_oO h_T k_o (by decide) (by decide) rfl) ?_
    refine tot_bind2 (cs_X11_powersNow T o h_T k_o ) (fun r_8 T_9 d_r_8 => ?_)
    have h_T_9 : IV R B K1 K2 T_9 := d_r_8.1.1
    have y_T_9 : FW R [128, 130, 131, 1952, 2144, 3202] T T_9 := d_r_8.1.2
    have x_T_9 := x_T.tr (y_T_9.w (by decide))
    have k_r_8 : R r_8 = 4 := d_r_8.2
    refine tot_oif (Nat.ble_eq_true_of_le (iv_lt h_T_9 (iv_sta h_T_9 k_r_8 (by decide) (by decide)))) ?_
    unfold g_X11_clean_b33
    refine tot_oif (iv_oO h_T_9 k_r_8 (by decide) (by decide) rfl) ?_
    refine tot_let (fun v_11 e_v_11 => ?_)
    have r_v_11 : 0 ≤ v_11.toInt ∧ v_11.toInt ≤ 143 := iv_int h_T_9 k_r_8 (by decide) (by decide) e_v_11 rfl
    refine tot_oif (iv_oO h_T_9 k_o (by decide) (by decide) rfl) ?_
    refine tot_bind (cs_X11_keepForUndo T_9 o h_T_9 k_o ) (fun T_12 d_T_12 => ?_)
    have h_T_12 : IV R B K1 K2 T_12 := d_T_12.1
    have y_T_12 : FW R [128, 256, 257, 258, 368, 369, 1984, 2016, 2048, 2080, 2112, 3202] T_9 T_12 := d_T_12.2
    have x_T_12 := x_T_9.tr (y_T_12.w (by decide))
    unfold g_X11_clean_b41
    refine tot_oif (iv_oO h_T_12 k_o (by decide) (by decide) rfl) ?_
    refine tot_ref h_T_12 k_o (by decide) (by decide) (r2 := 8) (rfl : rtg 11 6 = 8) (by decide) (fun n_13 k_n_13 e_n_13 => ?_)
    refine tot_oif (iv_oO h_T_12 k_o (by decide) (by decide) rfl) ?_
    refine tot_ref h_T_12 k_o (by decide) (by decide) (r2 := 6) (rfl : rtg 11 14 = 6) (by decide) (fun n_14 k_n_14 e_n_14 => ?_)
    refine tot_oif (iv_oO h_T_12 k_n_14 (by decide) (by decide) rfl) ?_
    refine tot_ref h_T_12 k_n_14 (by decide) (by decide) (r2 := 51) (rfl : rtg 6 17 = 51) (by decide) (fun n_15 k_n_15 e_n_15 => ?_)
    refine tot_oif (iv_aA h_T_12 k_n_15 (by decide) (by decide) rfl rfl) ?_
    refine tot_oif (by rw [iv_len h_T_12 k_n_15 (by decide) (by decide) (rfl : shp 51 = (106, 144))]; exact i_inb (by omega) (by omega)) ?_
    refine tot_ref h_T_12 k_n_15 (by decide) (by decide) (r2 := 50) (rt_51 (by omega) (by omega)) (by decide) (fun n_16 k_n_16 e_n_16 => ?_)
    refine tot_oif (iv_oO h_T_12 k_n_13 (by decide) (by decide) rfl) ?_
    refine tot_bind (cs_X8_subtractBeam T_12 n_13 n_16 a0 h_T_12 k_n_13 k_n_16 (by omega)) (fun T_17 d_T_17 => ?_)
    have h_T_17 : IV R B K1 K2 T_17 := d_T_17.1
    have y_T_17 : FW R [258, 3202] T_12 T_17 := d_T_17.2
    have x_T_17 := x_T_12.tr (y_T_17.w (by decide))
    unfold g_X11_clean_b58
    exact tot_some ⟨⟨h_T_17, x_T_17⟩, fun _ => (show (0 ≤ v_11.toInt ∧ v_11.toInt ≤ 143) from by omega)⟩
set_option maxHeartbeats 4000000 in
set_option maxRecDepth 10000 in
theorem cs_X11_cleaned {R : Nat → Nat} {B K1 K2 : Nat} (T : AT) (o : Nat) (h_T : IV R B K1 K2 T) (k_o : R o = 11) : Tot (g_X11_cleaned T o) (fun r => r.2.2 = T ∧ (r.1 = 0 → True)) := by
  have cc_101 : cnt 101 = 1 := rfl
  have cc_102 : cnt 102 = 12 := rfl
  have cc_103 : cnt 103 = 144 := rfl
  have cc_104 : cnt 104 = 2400 := rfl
  have cc_105 : cnt 105 = 7200 := rfl
  unfold g_X11_cleaned
  refine tot_oif (iv_oO h_T k_o (by decide) (by decide) rfl) ?_
  refine tot_thrp (Q := fun r_1 : Int32 => (0 ≤ r_1.toInt ∧ r_1.toInt ≤ 0)) (cs_X11_needCamera T o h_T k_o ) (fun r_1 d_r_1 => ?_) (fun k_ => ⟨rfl, fun q_ => absurd q_ (Nat.succ_ne_zero k_)⟩)
  replace d_r_1 : (0 ≤ r_1.toInt ∧ r_1.toInt ≤ 0) := d_r_1
  refine tot_oif (iv_oO h_T k_o (by decide) (by decide) rfl) ?_
  refine tot_ref h_T k_o (by decide) (by decide) (r2 := 8) (rfl : rtg 11 6 = 8) (by decide) (fun n_3 k_n_3 e_n_3 => ?_)
  refine tot_oif (iv_oO h_T k_n_3 (by decide) (by decide) rfl) ?_
  refine tot_let (fun v_4 e_v_4 => ?_)
  have r_v_4 := i_any v_4
  exact tot_some ⟨rfl, fun _ => trivial⟩
set_option maxHeartbeats 4000000 in
set_option maxRecDepth 10000 in
theorem cs_X11_undo {R : Nat → Nat} {B K1 K2 : Nat} (T : AT) (o : Nat) (h_T : IV R B K1 K2 T) (k_o : R o = 11) : Tot (g_X11_undo T o) (fun r => (IV R B K1 K2 r.2.2 ∧ FW R [128, 256, 257, 258, 368, 369, 1984, 2016, 2048, 2080, 2112, 3202] T r.2.2) ∧ (r.1 = 0 → (0 ≤ r.2.1.toInt ∧ r.2.1.toInt ≤ 6))) := by
  have z0 : (0 : Int32).toInt = 0 := by decide
  have z1 : (6 : Int32).toInt = 6 := by decide
  have z2 : (1 : Int32).toInt = 1 := by decide
  have cc_101 : cnt 101 = 1 := rfl
  have cc_102 : cnt 102 = 12 := rfl
  have cc_103 : cnt 103 = 144 := rfl
  have cc_104 : cnt 104 = 2400 := rfl
  have cc_105 : cnt 105 = 7200 := rfl
  have x_T : FW R [128, 256, 257, 258, 368, 369, 1984, 2016, 2048, 2080, 2112, 3202] T T := FW.rf
  unfold g_X11_undo
  refine tot_oif (iv_oO h_T k_o (by decide) (by decide) rfl) ?_
  refine tot_let (fun v_1 e_v_1 => ?_)
  have q_v_1 := i_eq e_v_1
  have r_v_1 : 0 ≤ v_1.toInt ∧ v_1.toInt ≤ 6 := iv_int h_T k_o (by decide) (by decide) e_v_1 rfl
  refine tot_if (fun c_7 => ?_) (fun c_7 => ?_)
  · replace c_7 := i_eq c_7
    exact tot_some ⟨⟨h_T, x_T⟩, fun q_ => absurd q_ (Nat.succ_ne_zero _)⟩
  · replace c_7 := i_ne c_7
    refine tot_oif (iv_oO h_T k_o (by decide) (by decide) rfl) ?_
    refine tot_ref h_T k_o (by decide) (by decide) (r2 := 8) (rfl : rtg 11 6 = 8) (by decide) (fun n_2 k_n_2 e_n_2 => ?_)
    refine tot_oif (iv_oO h_T k_o (by decide) (by decide) rfl) ?_
    refine tot_ref h_T k_o (by decide) (by decide) (r2 := 47) (rfl : rtg 11 8 = 47) (by decide) (fun n_3 k_n_3 e_n_3 => ?_)
    refine tot_oif (iv_oO h_T k_o (by decide) (by decide) rfl) ?_
    refine tot_let (fun v_4 e_v_4 => ?_)
    have r_v_4 : 0 ≤ v_4.toInt ∧ v_4.toInt ≤ 5 := iv_int h_T k_o (by decide) (by decide) e_v_4 rfl
    refine tot_oif (iv_aA h_T k_n_3 (by decide) (by decide) rfl rfl) ?_
    refine tot_oif (by rw [iv_len h_T k_n_3 (by decide) (by decide) (rfl : shp 47 = (105, 6))]; exact i_inb (by omega) (by omega)) ?_
    refine tot_ref h_T k_n_3 (by decide) (by decide) (r2 := 8) (rt_47 (by omega) (by omega)) (by decide) (fun n_5 k_n_5 e_n_5 => ?_)
    refine tot_oif (iv_oO h_T k_n_2 (by decide) (by decide) rfl) ?_
    refine tot_bind (cs_X8_copyFrom T n_2 n_5 h_T k_n_2 k_n_5 ) (fun T_6 d_T_6 => ?_)
    have h_T_6 : IV R B K1 K2 T_6 := d_T_6.1
    have y_T_6 : FW R [256, 257, 258, 1984, 2016, 2048, 2080, 2112, 3202] T T_6 := d_T_6.2
    have x_T_6 := x_T.tr (y_T_6.w (by decide))
    have f_T_6_o_16 : (T_6.2.2.1 o 16).toInt = (T.2.2.1 o 16).toInt := congrArg Int32.toInt (y_T_6 o 16 (by rw [k_o]; decide))
    unfold g_X11_undo_b31
    refine tot_oif (iv_oO h_T_6 k_o (by decide) (by decide) rfl) ?_
    refine tot_let (fun v_8 e_v_8 => ?_)
    have r_v_8 : 0 ≤ v_8.toInt ∧ v_8.toInt ≤ 5 := iv_int h_T_6 k_o (by decide) (by decide) e_v_8 rfl
    refine tot_let (fun v_9 e_v_9 => ?_)
    have q_v_9 := i_add e_v_9 (by omega) (by omega)
    refine tot_let (fun v_10 e_v_10 => ?_)
    have q_v_10 := i_sub e_v_10 (by omega) (by omega)
    refine tot_let (fun v_11 e_v_11 => ?_)
    have q_v_11 := i_rem e_v_11 (by omega) (by omega)
    refine tot_oif (iv_oO h_T_6 k_o (by decide) (by decide) rfl) ?_
    refine tot_let (fun T_12 e_T_12 => ?_)
    have h_T_12 : IV R B K1 K2 T_12 := by rw [e_T_12]; exact iv_uI (a := 0) (b := 5) h_T_6 k_o (by decide) (by decide) rfl (by omega) (.inl rfl)
    have x_T_12 := x_T_6.tr (fw_uI e_T_12 k_o (by decide))
    have f_T_12_o_16 : (T_12.2.2.1 o 16).toInt = (T_6.2.2.1 o 16).toInt := congrArg Int32.toInt ((fw_uI (W := [369]) e_T_12 k_o (by decide)) o 16 (by rw [k_o]; decide))
    refine tot_oif (iv_oO h_T_12 k_o (by decide) (by decide) rfl) ?_
    refine tot_let (fun v_13 e_v_13 => ?_)
    have q_v_13 := i_eq e_v_13
    have r_v_13 : 0 ≤ v_13.toInt ∧ v_13.toInt ≤ 6 := iv_int h_T_12 k_o (by decide) (by decide) e_v_13 rfl
    refine tot_let (fun v_14 e_v_14 => ?_)
    have q_v_14 := i_sub e_v_14 (by omega) (by omega)
    refine tot_oif (iv_oO h_T_12 k_o (by decide) (by decide) rfl) ?_
    refine tot_let (fun T_15 e_T_15 => ?_)
    have h_T_15 : IV R B K1 K2 T_15 := by rw [e_T_15]; exact iv_uI (a := 0) (b := 6) h_T_12 k_o (by decide) (by decide) rfl (by omega) (.inl rfl)
    have x_T_15 := x_T_12.tr (fw_uI e_T_15 k_o (by decide))
    have f_T_15_o_16 : (T_15.2.2.1 o 16).toInt = (v_14 : Int32).toInt := by rw [e_T_15]; exact congrArg Int32.toInt (uI_at _ _ _ _)
    refine tot_oif (iv_oO h_T_15 k_o (by decide) (by decide) rfl) ?_
    refine tot_ref h_T_15 k_o (by decide) (by decide) (r2 := 4) (rfl : rtg 11 4 = 4) (by decide) (fun n_16 k_n_16 e_n_16 => ?_)
    refine tot_oif (iv_oO h_T_15 k_n_16 (by decide) (by decide) rfl) ?_
    refine tot_let (fun T_17 e_T_17 => ?_)
    have h_T_17 : IV R B K1 K2 T_17 := by rw [e_T_17]; exact iv_uI (a := 0) (b := 1) h_T_15 k_n_16 (by decide) (by decide) rfl (by omega) (.inl rfl)
    have x_T_17 := x_T_15.tr (fw_uI e_T_17 k_n_16 (by decide))
    have f_T_17_o_16 : (T_17.2.2.1 o 16).toInt = (T_15.2.2.1 o 16).toInt := congrArg Int32.toInt ((fw_uI (W := [128]) e_T_17 k_n_16 (by decide)) o 16 (by rw [k_o]; decide))
    refine tot_oif (iv_oO h_T_17 k_o (by decide) (by decide) rfl) ?_
    refine tot_let (fun v_18 e_v_18 => ?_)
    have q_v_18 := i_eq e_v_18
    have r_v_18 : 0 ≤ v_18.toInt ∧ v_18.toInt ≤ 6 := iv_int h_T_17 k_o (by decide) (by decide) e_v_18 rfl
    exact tot_some ⟨⟨h_T_17, x_T_17⟩, fun _ => (show (0 ≤ v_18.toInt ∧ v_18.toInt ≤ 6) from by omega)⟩
end
section
/-! 13d.cm12.lean.txt -/
set_option maxHeartbeats 4000000 in
set_option maxRecDepth 10000 in
theorem cs_X11_undoable {R : Nat → Nat} {B K1 K2 : Nat} (T : AT) (o : Nat) (h_T : IV R B K1 K2 T) (k_o : R o = 11) : Tot (g_X11_undoable T o) (fun r => r.2 = T ∧ (0 ≤ r.1.toInt ∧ r.1.toInt ≤ 6)) := by
  have cc_101 : cnt 101 = 1 := rfl
  have cc_102 : cnt 102 = 12 := rfl
  have cc_103 : cnt 103 = 144 := rfl
  have cc_104 : cnt 104 = 2400 := rfl
  have cc_105 : cnt 105 = 7200 := rfl
  unfold g_X11_undoable
  refine tot_oif (iv_oO h_T k_o (by decide) (by decide) rfl) ?_
  refine tot_let (fun v_1 e_v_1 => ?_)
  have r_v_1 : 0 ≤ v_1.toInt ∧ v_1.toInt ≤ 6 := iv_int h_T k_o (by decide) (by decide) e_v_1 rfl
  exact tot_some ⟨rfl, (show (0 ≤ v_1.toInt ∧ v_1.toInt ≤ 6) from by omega)⟩
set_option maxHeartbeats 4000000 in
set_option maxRecDepth 10000 in
theorem cs_X11_save {R : Nat → Nat} {B K1 K2 : Nat} (T : AT) (o : Nat) (a0 : Int32) (h_T : IV R B K1 K2 T) (k_o : R o = 11) : Tot (g_X11_save T o a0) (fun r => (IV R B K1 K2 r.2.2 ∧ FW R [128, 130, 131, 256, 257, 258, 1568, 1952, 1984, 2016, 2048, 2080, 2112, 2144, 3202] T r.2.2) ∧ (r.1 = 0 → (0 ≤ r.2.1.toInt ∧ r.2.1.toInt ≤ 143))) := by
  have z0 : ((2 : Int32) : Int32).toInt = 2 := by decide
  have z1 : (1 : Int32).toInt = 1 := by decide
  have cc_101 : cnt 101 = 1 := rfl
  have cc_102 : cnt 102 = 12 := rfl
  have cc_103 : cnt 103 = 144 := rfl
  have cc_104 : cnt 104 = 2400 := rfl
  have cc_105 : cnt 105 = 7200 := rfl
  have x_T : FW R [128, 130, 131, 256, 257, 258, 1568, 1952, 1984, 2016, 2048, 2080, 2112, 2144, 3202] T T := FW.rf
  have j_a0 := i_any a0
  unfold g_X11_save
  refine tot_oif (iv_oO h_T k_o (by decide) (by decide) rfl) ?_
  refine tot_thrp (Q := fun r_1 : Int32 => (0 ≤ r_1.toInt ∧ r_1.toInt ≤ 0)) (cs_X11_needCamera T o h_T k_o ) (fun r_1 d_r_1 => ?_) (fun k_ => ⟨⟨h_T, x_T⟩, fun q_ => absurd q_ (Nat.succ_ne_zero k_)⟩)
  replace d_r_1 : (0 ≤ r_1.toInt ∧ r_1.toInt ≤ 0) := d_r_1
  refine tot_thrp (Q := fun r_3 : Int32 => (0 ≤ a0.toInt ∧ a0.toInt < ((2 : Int32) : Int32).toInt)) (cs_X11_needIndex T a0 (2 : Int32) h_T ) (fun r_3 d_r_3 => ?_) (fun k_ => ⟨⟨h_T, x_T⟩, fun q_ => absurd q_ (Nat.succ_ne_zero k_)⟩)
  replace d_r_3 : (0 ≤ a0.toInt ∧ a0.toInt < ((2 : Int32) : Int32).toInt) := d_r_3
  refine tot_oif (iv_oO h_T k_o (by decide) (by decide) rfl) ?_
  refine tot_ref h_T k_o (by decide) (by decide) (r2 := 48) (rfl : rtg 11 9 = 48) (by decide) (fun n_5 k_n_5 e_n_5 => ?_)
  refine tot_oif (iv_aA h_T k_n_5 (by decide) (by decide) rfl rfl) ?_
  refine tot_oif (by rw [iv_len h_T k_n_5 (by decide) (by decide) (rfl : shp 48 = (105, 2))]; exact i_inb (by omega) (by omega)) ?_
  refine tot_ref h_T k_n_5 (by decide) (by decide) (r2 := 8) (rt_48 (by omega) (by omega)) (by decide) (fun n_6 k_n_6 e_n_6 => ?_)
  refine tot_oif (iv_oO h_T k_o (by decide) (by decide) rfl) ?_
  refine tot_ref h_T k_o (by decide) (by decide) (r2 := 8) (rfl : rtg 11 6 = 8) (by decide) (fun n_7 k_n_7 e_n_7 => ?_)
  refine tot_oif (iv_oO h_T k_n_6 (by decide) (by decide) rfl) ?_
  refine tot_bind (cs_X8_copyFrom T n_6 n_7 h_T k_n_6 k_n_7 ) (fun T_8 d_T_8 => ?_)
  have h_T_8 : IV R B K1 K2 T_8 := d_T_8.1
  have y_T_8 : FW R [256, 257, 258, 1984, 2016, 2048, 2080, 2112, 3202] T T_8 := d_T_8.2
  have x_T_8 := x_T.tr (y_T_8.w (by decide))
  unfold g_X11_save_b22
  refine tot_oif (iv_oO h_T_8 k_o (by decide) (by decide) rfl) ?_
  refine tot_ref h_T_8 k_o (by decide) (by decide) (r2 := 49) (rfl : rtg 11 10 = 49) (by decide) (fun n_9 k_n_9 e_n_9 => ?_)
  refine tot_oif (iv_aA h_T_8 k_n_9 (by decide) (by decide) rfl rfl) ?_
  refine tot_oif (by rw [iv_len h_T_8 k_n_9 (by decide) (by decide) (rfl : shp 49 = (102, 2))]; exact i_inb (by omega) (by omega)) ?_
  refine tot_let (fun T_10 e_T_10 => ?_)
  have h_T_10 : IV R B K1 K2 T_10 := by rw [e_T_10]; exact iv_uI (a := 0) (b := 1) h_T_8 k_n_9 (by decide) (by decide) rfl (by omega) (.inl rfl)
  have x_T_10 := x_T_8.tr (fw_uA e_T_10 k_n_9 rfl rfl (by decide))
  refine tot_oif (iv_oO h_T_10 k_o (by decide) (by decide) rfl) ?_
  refine tot_bind2 (cs_X11_powersNow T_10 o h_T_10 k_o ) (fun r_11 T_12 d_r_11 => ?_)
  have h_T_12 : IV R B K1 K2 T_12 := d_r_11.1.1
  have y_T_12 : FW R [128, 130, 131, 1952, 2144, 3202] T_10 T_12 := d_r_11.1.2
  have x_T_12 := x_T_10.tr (y_T_12.w (by decide))
  have k_r_11 : R r_11 = 4 := d_r_11.2
  refine tot_oif (Nat.ble_eq_true_of_le (iv_lt h_T_12 (iv_sta h_T_12 k_r_11 (by decide) (by decide)))) ?_
  unfold g_X11_save_b33
  refine tot_oif (iv_oO h_T_12 k_r_11 (by decide) (by decide) rfl) ?_
  refine tot_let (fun v_13 e_v_13 => ?_)
  have r_v_13 : 0 ≤ v_13.toInt ∧ v_13.toInt ≤ 143 := iv_int h_T_12 k_r_11 (by decide) (by decide) e_v_13 rfl
  exact tot_some ⟨⟨h_T_12, x_T_12⟩, fun _ => (show (0 ≤ v_13.toInt ∧ v_13.toInt ≤ 143) from by omega)⟩
set_option maxHeartbeats 4000000 in
set_option maxRecDepth 10000 in
theorem cs_X11_restore {R : Nat → Nat} {B K1 K2 : Nat} (T : AT) (o : Nat) (a0 : Int32) (h_T : IV R B K1 K2 T) (k_o : R o = 11) : Tot (g_X11_restore T o a0) (fun r => (IV R B K1 K2 r.2.2 ∧ FW R [128, 130, 131, 256, 257, 258, 368, 1952, 1984, 2016, 2048, 2080, 2112, 2144, 3202] T r.2.2) ∧ (r.1 = 0 → (0 ≤ r.2.1.toInt ∧ r.2.1.toInt ≤ 143))) := by
  have z0 : ((2 : Int32) : Int32).toInt = 2 := by decide
  have z1 : (0 : Int32).toInt = 0 := by decide
  have cc_101 : cnt 101 = 1 := rfl
  have cc_102 : cnt 102 = 12 := rfl
  have cc_103 : cnt 103 = 144 := rfl
  have cc_104 : cnt 104 = 2400 := rfl
  have cc_105 : cnt 105 = 7200 := rfl
  have x_T : FW R [128, 130, 131, 256, 257, 258, 368, 1952, 1984, 2016, 2048, 2080, 2112, 2144, 3202] T T := FW.rf
  have j_a0 := i_any a0
  unfold g_X11_restore
  refine tot_thrp (Q := fun r_1 : Int32 => (0 ≤ a0.toInt ∧ a0.toInt < ((2 : Int32) : Int32).toInt)) (cs_X11_needIndex T a0 (2 : Int32) h_T ) (fun r_1 d_r_1 => ?_) (fun k_ => ⟨⟨h_T, x_T⟩, fun q_ => absurd q_ (Nat.succ_ne_zero k_)⟩)
  replace d_r_1 : (0 ≤ a0.toInt ∧ a0.toInt < ((2 : Int32) : Int32).toInt) := d_r_1
  refine tot_oif (iv_oO h_T k_o (by decide) (by decide) rfl) ?_
  refine tot_ref h_T k_o (by decide) (by decide) (r2 := 49) (rfl : rtg 11 10 = 49) (by decide) (fun n_3 k_n_3 e_n_3 => ?_)
  refine tot_oif (iv_aA h_T k_n_3 (by decide) (by decide) rfl rfl) ?_
  refine tot_oif (by rw [iv_len h_T k_n_3 (by decide) (by decide) (rfl : shp 49 = (102, 2))]; exact i_inb (by omega) (by omega)) ?_
  refine tot_let (fun v_4 e_v_4 => ?_)
  have r_v_4 : 0 ≤ v_4.toInt ∧ v_4.toInt ≤ 1 := iv_int h_T k_n_3 (by decide) (by decide) e_v_4 rfl
  refine tot_if (fun c_9 => ?_) (fun c_9 => ?_)
  · replace c_9 := i_eq c_9
    exact tot_some ⟨⟨h_T, x_T⟩, fun q_ => absurd q_ (Nat.succ_ne_zero _)⟩
  · replace c_9 := i_ne c_9
    refine tot_oif (iv_oO h_T k_o (by decide) (by decide) rfl) ?_
    refine tot_ref h_T k_o (by decide) (by decide) (r2 := 8) (rfl : rtg 11 6 = 8) (by decide) (fun n_5 k_n_5 e_n_5 => ?_)
    refine tot_oif (iv_oO h_T k_o (by decide) (by decide) rfl) ?_
    refine tot_ref h_T k_o (by decide) (by decide) (r2 := 48) (rfl : rtg 11 9 = 48) (by decide) (fun n_6 k_n_6 e_n_6 => ?_)
    refine tot_oif (iv_aA h_T k_n_6 (by decide) (by decide) rfl rfl) ?_
    refine tot_oif (by rw [iv_len h_T k_n_6 (by decide) (by decide) (rfl : shp 48 = (105, 2))]; exact i_inb (by omega) (by omega)) ?_
    refine tot_ref h_T k_n_6 (by decide) (by decide) (r2 := 8) (rt_48 (by omega) (by omega)) (by decide) (fun n_7 k_n_7 e_n_7 => ?_)
    refine tot_oif (iv_oO h_T k_n_5 (by decide) (by decide) rfl) ?_
    refine tot_bind (cs_X8_copyFrom T n_5 n_7 h_T k_n_5 k_n_7 ) (fun T_8 d_T_8 => ?_)
    have h_T_8 : IV R B K1 K2 T_8 := d_T_8.1
    have y_T_8 : FW R [256, 257, 258, 1984, 2016, 2048, 2080, 2112, 3202] T T_8 := d_T_8.2
    have x_T_8 := x_T.tr (y_T_8.w (by decide))
    unfold g_X11_restore_b35
    refine tot_oif (iv_oO h_T_8 k_o (by decide) (by decide) rfl) ?_
    refine tot_let (fun T_10 e_T_10 => ?_)
    have h_T_10 : IV R B K1 K2 T_10 := by rw [e_T_10]; exact iv_uI (a := 0) (b := 6) h_T_8 k_o (by decide) (by decide) rfl (by omega) (.inl rfl)
    have x_T_10 := x_T_8.tr (fw_uI e_T_10 k_o (by decide))
    refine tot_oif (iv_oO h_T_10 k_o (by decide) (by decide) rfl) ?_
    refine tot_ref h_T_10 k_o (by decide) (by decide) (r2 := 4) (rfl : rtg 11 4 = 4) (by decide) (fun n_11 k_n_11 e_n_11 => ?_)
    refine tot_oif (iv_oO h_T_10 k_n_11 (by decide) (by decide) rfl) ?_
    refine tot_let (fun T_12 e_T_12 => ?_)
    have h_T_12 : IV R B K1 K2 T_12 := by rw [e_T_12]; exact iv_uI (a := 0) (b := 1) h_T_10 k_n_11 (by decide) (by decide) rfl (by omega) (.inl rfl)
    have x_T_12 := x_T_10.tr (fw_uI e_T_12 k_n_11 (by decide))
    refine tot_oif (iv_oO h_T_12 k_o (by decide) (by decide) rfl) ?_
    refine tot_bind2 (cs_X11_powersNow T_12 o h_T_12 k_o ) (fun r_13 T_14 d_r_13 => ?_)
    have h_T_14 : IV R B K1 K2 T_14 := d_r_13.1.1
    have y_T_14 : FW R [128, 130, 131, 1952, 2144, 3202] T_12 T_14 := d_r_13.1.2
    have x_T_14 := x_T_12.tr (y_T_14.w (by decide))
    have k_r_13 : R r_13 = 4 := d_r_13.2
    refine tot_oif (Nat.ble_eq_true_of_le (iv_lt h_T_14 (iv_sta h_T_14 k_r_13 (by decide) (by decide)))) ?_
    unfold g_X11_restore_b52
    refine tot_oif (iv_oO h_T_14 k_r_13 (by decide) (by decide) rfl) ?_
    refine tot_let (fun v_15 e_v_15 => ?_)
    have r_v_15 : 0 ≤ v_15.toInt ∧ v_15.toInt ≤ 143 := iv_int h_T_14 k_r_13 (by decide) (by decide) e_v_15 rfl
    exact tot_some ⟨⟨h_T_14, x_T_14⟩, fun _ => (show (0 ≤ v_15.toInt ∧ v_15.toInt ≤ 143) from by omega)⟩
end
section
/-! 14a.world.lean.txt -/
/-! the law's world: the class's cells, then others -/
def gL (cI cJ cZ cMic cSrc cSt cAI cAJ : ClassId) (D : va_G) (ad : Nat → Nat) (A : Nat → Prop) (H0 H : Heap) (locs : List Loc) (T : AT) (W2 : va_W) : Prop := va_P D vwCl (cW ad T.1 (cc cI cJ cZ cMic cSrc cSt cAI cAJ ad T) ++ W2) H ∧ va_D A (cW ad T.1 (cc cI cJ cZ cMic cSrc cSt cAI cAJ ad T) ++ W2) ∧ va_S A H0 H locs
theorem x_allC (w1 w2 : va_W) : (List.range w1.length).map (fun i => (w1 ++ w2)[i]?) = w1.map some := by
  refine List.ext_getElem? (fun i => ?_)
  rw [List.getElem?_map, List.getElem?_map]
  by_cases h : i < w1.length
  · rw [List.getElem?_range h]
    show some ((w1 ++ w2)[i]?) = (w1[i]?).map some
    rw [List.getElem?_append_left h, List.getElem?_eq_getElem h]
    rfl
  · rw [List.getElem?_eq_none (by rw [List.length_range]; exact Nat.not_lt.mp h), List.getElem?_eq_none (Nat.not_lt.mp h)]
    rfl
theorem x_allM (w1 w2 : va_W) : ((List.range w2.length).map (fun j => w1.length + j)).map (fun i => (w1 ++ w2)[i]?) = w2.map some := by
  refine List.ext_getElem? (fun i => ?_)
  rw [List.map_map, List.getElem?_map, List.getElem?_map]
  by_cases h : i < w2.length
  · rw [List.getElem?_range h]
    show some ((w1 ++ w2)[w1.length + i]?) = (w2[i]?).map some
    rw [List.getElem?_append_right (Nat.le_add_right _ _), Nat.add_sub_cancel_left, List.getElem?_eq_getElem h]
    rfl
  · rw [List.getElem?_eq_none (by rw [List.length_range]; exact Nat.not_lt.mp h), List.getElem?_eq_none (Nat.not_lt.mp h)]
    rfl
theorem tW_at (ad : Nat → Nat) (N : Nat) (S : Nat → va_E) (o : Nat × va_E) (w : va_W) : (cW ad N S ++ o :: w)[N]? = some o := by
  rw [List.getElem?_append_right (by rw [cW_len]; exact Nat.le_refl _), cW_len, Nat.sub_self]
  rfl
theorem tW_set (ad : Nat → Nat) (N : Nat) (S : Nat → va_E) (o o1 : Nat × va_E) (w : va_W) : (cW ad N S ++ o :: w).set N o1 = cW ad N S ++ o1 :: w := by
  rw [List.set_append_right _ _ (by rw [cW_len]; exact Nat.le_refl _), cW_len, Nat.sub_self]
  rfl
theorem t_cvi {p : Program} {l : Launch} {e : Env} {R : Room} {s : State} {m : MethodId} {args : Array Value} {below : List Frame} {meth : Method} {c : Code} {H : Heap} {locs : List Loc} {cells slots : Nat} {Q : State → Prop} {cc0 : ByteArray} {pc : Nat} {ls : Array Slot} {rest : List Value} {D : va_G} {A : Nat → Prop} {Ts : List Cond} {own : String} {cI cJ cZ cMic cSrc cSt cAI cAJ : ClassId} {cD : ClassId} {ad : Nat → Nat} {T : AT} {W2 : va_W} {y : MethodName} {bytes : ByteArray} {maxL nL n index fr lo : Nat} {ret : Option FieldType} {ws : List Cond} {As : List Value} {C : String} {TT : u_T} {nf ci q : Nat} {fs : List Value} {post : Int32 → AT → Prop} (E : cE p c cc0 s m args Ts D own (CT cI cJ cZ cMic cSrc cSt cAI cAJ ++ [(cD, .double)])) (G : gL cI cJ cZ cMic cSrc cSt cAI cAJ D ad A s.heap H locs T W2) (hA : ∀ q, s.heap.size ≤ q → A q) (hX : xT A s) (hN : nX s) (hml : c.maxLocals = nL) (hM : kCi l y ws fr lo cI cJ cZ cMic cSrc cSt cAI cAJ D ad T (.ref (ad q) :: As) post) (cw : CallW R s args own C index y bytes maxL ret ws { frames := fr, cells := 0, slots := 0, locals := lo } 0 0 n) (hq : q < T.1) (hSq : cc cI cJ cZ cMic cSrc cSt cAI cAJ ad T q = .inr (ci, fs)) (hc : vwCl[ci]? = some (C, TT, nf)) (hn : As.length = n) (hsz : ls.size = nL) {st : List Value} (hst : st = As.reverse ++ .ref (ad q) :: rest) (hW : 2 * (F0 m pc ls st).monitorRoom + (rest.map fun v => v.category).sum ≤ 8) (hdg : decode cc0 pc = .ok (.invokevirtual index, 3)) (hf : cells + 0 ≤ R.cells ∧ slots + 0 ≤ R.slots) (kk : ∀ (r : Int32) (T1 : AT) (H1 : Heap) (locs1 : List Loc), post r T1 → gL cI cJ cZ cMic cSrc cSt cAI cAJ D ad A s.heap H1 locs1 T1 W2 → W p l e R s m args below meth c H1 locs1 (cells + 0) (slots + 0) Q (F0 m (pc + 3) ls (.int r :: rest))) : W p l e R s m args below meth c H locs cells slots Q (F0 m pc ls st) := by
  obtain ⟨hx, hb, hts, hown, hK⟩ := E
  obtain ⟨hP, hD, hS⟩ := G
  have hC := l_allC ad T.1 (cc cI cJ cZ cMic cSrc cSt cAI cAJ ad T) W2
  have hR := l_allM ad T.1 (cc cI cJ cZ cMic cSrc cSt cAI cAJ ad T) W2
  have hFc := va_free (wc := cW ad T.1 (cc cI cJ cZ cMic cSrc cSt cAI cAJ ad T)) hD hS hA (List.range T.1) hC
  have hPc := hP.sub (List.range T.1) (l_fm hC)
  have hDc := hD.sub (List.range T.1) (va_nd_range T.1) hC
  have hKc : va_K D vwCl (CT cI cJ cZ cMic cSrc cSt cAI cAJ) s := hK.sub [0, 1, 2, 3, 4, 5, 6, 7] rfl
  refine va_calli (va_runV (As := As) (rest := rest) ⟨hx, hb, hml, hown, hts⟩ (hM H.size) cw ⟨fun a U g mk q => by obtain ⟨q0, q1, qP, qK, qD, qX, qN⟩ := q; exact ⟨q0, q1, qP, va_K.moved (u := U) (U := U.calling g mk a) (Vm.Alike.refl U.vm) qK, qD, qX.blind, nX.moved U (U.calling g mk a) (State.WarmedH.refl U) qN⟩, va_recv hKc hPc (ci := ci) (q0 := q) hc (cW_e hq hSq), fun U hU hW => ⟨rfl, by rw [hU], by rw [hU]; exact hPc, va_K.moved hW.alike hKc, hDc.weaken (fun _ _ _ _ => trivial), hX.go hW hU hS hFc, nX.moved s U hW hN⟩⟩ rfl hn hsz hst hW hdg hf) hS (fun q _ h => hFc q h) hFc (fun r u t H1 locs1 ht hvm hw hB hz1 hk1 hS => ?_)
  obtain ⟨hP1, hK1, hD1⟩ := hB
  rw [ht] at hP1
  obtain ⟨hP2, hD2⟩ := va_join (wr := W2) (w1 := cW ad u.1 (cc cI cJ cZ cMic cSrc cSt cAI cAJ ad u)) hP hD (List.range T.1) _ hC hR (l_ndM T.1 _) l_disM hk1 hFc hP1 hD1
  exact kk r u H1 locs1 hw ⟨va_P.swap (a := []) hP2, va_D.swap (a := []) hD2, hS⟩
theorem t_xvi {p : Program} {l : Launch} {e : Env} {R : Room} {s : State} {m : MethodId} {args : Array Value} {below : List Frame} {meth : Method} {c : Code} {H : Heap} {locs : List Loc} {cells slots : Nat} {Q : State → Prop} {cc0 : ByteArray} {pc : Nat} {ls : Array Slot} {rest : List Value} {D : va_G} {A : Nat → Prop} {Ts : List Cond} {own : String} {cI cJ cZ cMic cSrc cSt cAI cAJ : ClassId} {cD : ClassId} {ad : Nat → Nat} {T : AT} {W2 : va_W} {y : MethodName} {bytes : ByteArray} {maxL nL n index fr lo : Nat} {ret : Option FieldType} {ws : List Cond} {As : List Value} {C : String} {TT : u_T} {nf ci q : Nat} {fs : List Value} {e1 : Nat} {T1 : AT} (E : cE p c cc0 s m args Ts D own (CT cI cJ cZ cMic cSrc cSt cAI cAJ ++ [(cD, .double)])) (G : gL cI cJ cZ cMic cSrc cSt cAI cAJ D ad A s.heap H locs T W2) (hA : ∀ q, s.heap.size ≤ q → A q) (hX : xT A s) (hN : nX s) (hml : c.maxLocals = nL) (hM : kXi l y ws fr lo cI cJ cZ cMic cSrc cSt cAI cAJ D ad T (.ref (ad q) :: As) e1 T1) (cw : CallW R s args own C index y bytes maxL ret ws { frames := fr, cells := 1, slots := 6, locals := lo } 1 6 n) (hq : q < T.1) (hSq : cc cI cJ cZ cMic cSrc cSt cAI cAJ ad T q = .inr (ci, fs)) (hc : vwCl[ci]? = some (C, TT, nf)) (hn : As.length = n) (hsz : ls.size = nL) {st : List Value} (hst : st = As.reverse ++ .ref (ad q) :: rest) (hW : 2 * (F0 m pc ls st).monitorRoom + (rest.map fun v => v.category).sum ≤ 8) (hdg : decode cc0 pc = .ok (.invokevirtual index, 3)) (hf : cells + 1 ≤ R.cells ∧ slots + 6 ≤ R.slots) (kx : ∀ (E9 : String) (ce : Cell) (q9 : Addr) (T9 : AT) (H1 : Heap) (locs1 : List Loc), E9 = exn e1 ∧ T9 = T1 → gL cI cJ cZ cMic cSrc cSt cAI cAJ D ad A s.heap H1 locs1 T9 W2 → H1[q9]? = some ce → ce.vm = .none → s.vm.findClass E9 = some ce.cls → vx_W p l e R s m args below meth c H1 locs1 (cells + 1) (slots + 6) Q (F0 m pc ls rest) q9) : W p l e R s m args below meth c H locs cells slots Q (F0 m pc ls st) := by
  obtain ⟨hx, hb, hts, hown, hK⟩ := E
  obtain ⟨hP, hD, hS⟩ := G
  have hC := l_allC ad T.1 (cc cI cJ cZ cMic cSrc cSt cAI cAJ ad T) W2
  have hR := l_allM ad T.1 (cc cI cJ cZ cMic cSrc cSt cAI cAJ ad T) W2
  have hFc := va_free (wc := cW ad T.1 (cc cI cJ cZ cMic cSrc cSt cAI cAJ ad T)) hD hS hA (List.range T.1) hC
  have hPc := hP.sub (List.range T.1) (l_fm hC)
  have hDc := hD.sub (List.range T.1) (va_nd_range T.1) hC
  have hKc : va_K D vwCl (CT cI cJ cZ cMic cSrc cSt cAI cAJ) s := hK.sub [0, 1, 2, 3, 4, 5, 6, 7] rfl
  refine vx_calli (vx_runV (As := As) (rest := rest) ⟨hx, hb, hml, hown, hts⟩ (hM H.size) cw ⟨fun a U g mk q => by obtain ⟨q0, q1, qP, qK, qD, qX, qN⟩ := q; exact ⟨q0, q1, qP, va_K.moved (u := U) (U := U.calling g mk a) (Vm.Alike.refl U.vm) qK, qD, qX.blind, nX.moved U (U.calling g mk a) (State.WarmedH.refl U) qN⟩, va_recv hKc hPc (ci := ci) (q0 := q) hc (cW_e hq hSq), fun U hU hW => ⟨rfl, by rw [hU], by rw [hU]; exact hPc, va_K.moved hW.alike hKc, hDc.weaken (fun _ _ _ _ => trivial), hX.go hW hU hS hFc, nX.moved s U hW hN⟩⟩ rfl hn hsz hst hW hdg hf) hS (fun q _ h => hFc q h) hFc (fun q _ h => hFc q h) (fun E9 ce q9 u t H1 locs1 ht hvm _ hB hz1 hk1 hS hce hcv hcl => ?_) (fun r u t H1 locs1 ht hvm hw hB hz1 hk1 hS => hw.elim)
  obtain ⟨hpx, hP1, hK1, hD1⟩ := hB
  rw [ht] at hP1
  obtain ⟨hP2, hD2⟩ := va_join (wr := W2) (w1 := cW ad u.1 (cc cI cJ cZ cMic cSrc cSt cAI cAJ ad u)) hP hD (List.range T.1) _ hC hR (l_ndM T.1 _) l_disM hk1 hFc hP1 hD1
  exact kx E9 ce q9 u H1 locs1 hpx ⟨va_P.swap (a := []) hP2, va_D.swap (a := []) hD2, hS⟩ hce hcv hcl
theorem t_avi {p : Program} {l : Launch} {e : Env} {R : Room} {s : State} {m : MethodId} {args : Array Value} {below : List Frame} {meth : Method} {c : Code} {H : Heap} {locs : List Loc} {cells slots : Nat} {Q : State → Prop} {cc0 : ByteArray} {pc : Nat} {ls : Array Slot} {rest : List Value} {D : va_G} {A : Nat → Prop} {Ts : List Cond} {own : String} {cI cJ cZ cMic cSrc cSt cAI cAJ : ClassId} {cD : ClassId} {ad : Nat → Nat} {T : AT} {W2 : va_W} {y : MethodName} {bytes : ByteArray} {maxL nL n index fr lo : Nat} {ret : Option FieldType} {ws : List Cond} {As : List Value} {C : String} {TT : u_T} {nf ci q : Nat} {fs : List Value} {r1 : Int32} {T1 : AT} (E : cE p c cc0 s m args Ts D own (CT cI cJ cZ cMic cSrc cSt cAI cAJ ++ [(cD, .double)])) (G : gL cI cJ cZ cMic cSrc cSt cAI cAJ D ad A s.heap H locs T W2) (hA : ∀ q, s.heap.size ≤ q → A q) (hX : xT A s) (hN : nX s) (hml : c.maxLocals = nL) (hM : kAi l y ws fr lo cI cJ cZ cMic cSrc cSt cAI cAJ D ad T (.ref (ad q) :: As) r1 T1) (cw : CallW R s args own C index y bytes maxL ret ws { frames := fr, cells := T1.1 - T.1, slots := sg T1 - sg T, locals := lo } (T1.1 - T.1) (sg T1 - sg T) n) (hq : q < T.1) (hSq : cc cI cJ cZ cMic cSrc cSt cAI cAJ ad T q = .inr (ci, fs)) (hc : vwCl[ci]? = some (C, TT, nf)) (hn : As.length = n) (hsz : ls.size = nL) {st : List Value} (hst : st = As.reverse ++ .ref (ad q) :: rest) (hW : 2 * (F0 m pc ls st).monitorRoom + (rest.map fun v => v.category).sum ≤ 8) (hdg : decode cc0 pc = .ok (.invokevirtual index, 3)) (hf : cells + (T1.1 - T.1) ≤ R.cells ∧ slots + (sg T1 - sg T) ≤ R.slots) (kk : ∀ (ad2 : Nat → Nat) (H1 : Heap) (locs1 : List Loc), (∀ n, n < T.1 → ad2 n = ad n) → gL cI cJ cZ cMic cSrc cSt cAI cAJ D ad2 A s.heap H1 locs1 T1 W2 → W p l e R s m args below meth c H1 locs1 (cells + (T1.1 - T.1)) (slots + (sg T1 - sg T)) Q (F0 m (pc + 3) ls (.int r1 :: rest))) : W p l e R s m args below meth c H locs cells slots Q (F0 m pc ls st) := by
  obtain ⟨hx, hb, hts, hown, hK⟩ := E
  obtain ⟨hP, hD, hS⟩ := G
  have hC := l_allC ad T.1 (cc cI cJ cZ cMic cSrc cSt cAI cAJ ad T) W2
  have hR := l_allM ad T.1 (cc cI cJ cZ cMic cSrc cSt cAI cAJ ad T) W2
  have hFc := va_free (wc := cW ad T.1 (cc cI cJ cZ cMic cSrc cSt cAI cAJ ad T)) hD hS hA (List.range T.1) hC
  have hPc := hP.sub (List.range T.1) (l_fm hC)
  have hDc := hD.sub (List.range T.1) (va_nd_range T.1) hC
  have hKc : va_K D vwCl (CT cI cJ cZ cMic cSrc cSt cAI cAJ) s := hK.sub [0, 1, 2, 3, 4, 5, 6, 7] rfl
  refine va_calli (va_runV (As := As) (rest := rest) ⟨hx, hb, hml, hown, hts⟩ (hM H.size) cw ⟨fun a U g mk q => by obtain ⟨q0, q1, qP, qK, qD, qX, qN⟩ := q; exact ⟨q0, q1, qP, va_K.moved (u := U) (U := U.calling g mk a) (Vm.Alike.refl U.vm) qK, qD, qX.blind, nX.moved U (U.calling g mk a) (State.WarmedH.refl U) qN⟩, va_recv hKc hPc (ci := ci) (q0 := q) hc (cW_e hq hSq), fun U hU hW => ⟨rfl, by rw [hU], by rw [hU]; exact hPc, va_K.moved hW.alike hKc, hDc.weaken (fun _ _ _ _ => trivial), hX.go hW hU hS hFc, nX.moved s U hW hN⟩⟩ rfl hn hsz hst hW hdg hf) hS (fun q _ h => hFc q h) hFc (fun r u t H1 locs1 ht hvm hw hB hz1 hk1 hS => ?_)
  obtain ⟨u1, u2⟩ := u
  obtain ⟨hw1, hw2, hw3⟩ := hw
  have hw2 : u1 = T1 := hw2
  obtain ⟨hP1, hK1, hD1⟩ := hB
  rw [ht] at hP1
  obtain ⟨hP2, hD2⟩ := va_join (wr := W2) (w1 := cW u2 u1.1 (cc cI cJ cZ cMic cSrc cSt cAI cAJ u2 u1)) hP hD (List.range T.1) _ hC hR (l_ndM T.1 _) l_disM hk1 hFc hP1 hD1
  rw [hw1]
  rw [hw2] at hP2 hD2
  exact kk u2 H1 locs1 hw3 ⟨va_P.swap (a := []) hP2, va_D.swap (a := []) hD2, hS⟩
theorem t_bvi {p : Program} {l : Launch} {e : Env} {R : Room} {s : State} {m : MethodId} {args : Array Value} {below : List Frame} {meth : Method} {c : Code} {H : Heap} {locs : List Loc} {cells slots : Nat} {Q : State → Prop} {cc0 : ByteArray} {pc : Nat} {ls : Array Slot} {rest : List Value} {D : va_G} {A : Nat → Prop} {Ts : List Cond} {own : String} {cI cJ cZ cMic cSrc cSt cAI cAJ : ClassId} {cD : ClassId} {ad : Nat → Nat} {T : AT} {W2 : va_W} {y : MethodName} {bytes : ByteArray} {maxL nL n index fr lo : Nat} {ret : Option FieldType} {ws : List Cond} {As : List Value} {C : String} {TT : u_T} {nf ci q : Nat} {fs : List Value} {e1 : Nat} {T1 : AT} (E : cE p c cc0 s m args Ts D own (CT cI cJ cZ cMic cSrc cSt cAI cAJ ++ [(cD, .double)])) (G : gL cI cJ cZ cMic cSrc cSt cAI cAJ D ad A s.heap H locs T W2) (hA : ∀ q, s.heap.size ≤ q → A q) (hX : xT A s) (hN : nX s) (hml : c.maxLocals = nL) (hM : kAXi l y ws fr lo cI cJ cZ cMic cSrc cSt cAI cAJ D ad T (.ref (ad q) :: As) e1 T1) (cw : CallW R s args own C index y bytes maxL ret ws { frames := fr, cells := T1.1 - T.1 + 1, slots := sg T1 - sg T + 6, locals := lo } (T1.1 - T.1 + 1) (sg T1 - sg T + 6) n) (hq : q < T.1) (hSq : cc cI cJ cZ cMic cSrc cSt cAI cAJ ad T q = .inr (ci, fs)) (hc : vwCl[ci]? = some (C, TT, nf)) (hn : As.length = n) (hsz : ls.size = nL) {st : List Value} (hst : st = As.reverse ++ .ref (ad q) :: rest) (hW : 2 * (F0 m pc ls st).monitorRoom + (rest.map fun v => v.category).sum ≤ 8) (hdg : decode cc0 pc = .ok (.invokevirtual index, 3)) (hf : cells + (T1.1 - T.1 + 1) ≤ R.cells ∧ slots + (sg T1 - sg T + 6) ≤ R.slots) (kx : ∀ (E9 : String) (ce : Cell) (q9 : Addr) (ad2 : Nat → Nat) (H1 : Heap) (locs1 : List Loc), E9 = exn e1 → (∀ n, n < T.1 → ad2 n = ad n) → gL cI cJ cZ cMic cSrc cSt cAI cAJ D ad2 A s.heap H1 locs1 T1 W2 → H1[q9]? = some ce → ce.vm = .none → s.vm.findClass E9 = some ce.cls → vx_W p l e R s m args below meth c H1 locs1 (cells + (T1.1 - T.1 + 1)) (slots + (sg T1 - sg T + 6)) Q (F0 m pc ls rest) q9) : W p l e R s m args below meth c H locs cells slots Q (F0 m pc ls st) := by
  obtain ⟨hx, hb, hts, hown, hK⟩ := E
  obtain ⟨hP, hD, hS⟩ := G
  have hC := l_allC ad T.1 (cc cI cJ cZ cMic cSrc cSt cAI cAJ ad T) W2
  have hR := l_allM ad T.1 (cc cI cJ cZ cMic cSrc cSt cAI cAJ ad T) W2
  have hFc := va_free (wc := cW ad T.1 (cc cI cJ cZ cMic cSrc cSt cAI cAJ ad T)) hD hS hA (List.range T.1) hC
  have hPc := hP.sub (List.range T.1) (l_fm hC)
  have hDc := hD.sub (List.range T.1) (va_nd_range T.1) hC
  have hKc : va_K D vwCl (CT cI cJ cZ cMic cSrc cSt cAI cAJ) s := hK.sub [0, 1, 2, 3, 4, 5, 6, 7] rfl
  refine vx_calli (vx_runV (As := As) (rest := rest) ⟨hx, hb, hml, hown, hts⟩ (hM H.size) cw ⟨fun a U g mk q => by obtain ⟨q0, q1, qP, qK, qD, qX, qN⟩ := q; exact ⟨q0, q1, qP, va_K.moved (u := U) (U := U.calling g mk a) (Vm.Alike.refl U.vm) qK, qD, qX.blind, nX.moved U (U.calling g mk a) (State.WarmedH.refl U) qN⟩, va_recv hKc hPc (ci := ci) (q0 := q) hc (cW_e hq hSq), fun U hU hW => ⟨rfl, by rw [hU], by rw [hU]; exact hPc, va_K.moved hW.alike hKc, hDc.weaken (fun _ _ _ _ => trivial), hX.go hW hU hS hFc, nX.moved s U hW hN⟩⟩ rfl hn hsz hst hW hdg hf) hS (fun q _ h => hFc q h) hFc (fun q _ h => hFc q h) (fun E9 ce q9 u t H1 locs1 ht hvm _ hB hz1 hk1 hS hce hcv hcl => ?_) (fun r u t H1 locs1 ht hvm hw hB hz1 hk1 hS => hw.elim)
  obtain ⟨u1, u2⟩ := u
  obtain ⟨⟨hpx, hw2, hw3⟩, hP1, hK1, hD1⟩ := hB
  have hw2 : u1 = T1 := hw2
  rw [ht] at hP1
  obtain ⟨hP2, hD2⟩ := va_join (wr := W2) (w1 := cW u2 u1.1 (cc cI cJ cZ cMic cSrc cSt cAI cAJ u2 u1)) hP hD (List.range T.1) _ hC hR (l_ndM T.1 _) l_disM hk1 hFc hP1 hD1
  rw [hw2] at hP2 hD2
  exact kx E9 ce q9 u2 H1 locs1 hpx hw3 ⟨va_P.swap (a := []) hP2, va_D.swap (a := []) hD2, hS⟩ hce hcv hcl
theorem t_avl {p : Program} {l : Launch} {e : Env} {R : Room} {s : State} {m : MethodId} {args : Array Value} {below : List Frame} {meth : Method} {c : Code} {H : Heap} {locs : List Loc} {cells slots : Nat} {Q : State → Prop} {cc0 : ByteArray} {pc : Nat} {ls : Array Slot} {rest : List Value} {D : va_G} {A : Nat → Prop} {Ts : List Cond} {own : String} {cI cJ cZ cMic cSrc cSt cAI cAJ : ClassId} {cD : ClassId} {ad : Nat → Nat} {T : AT} {W2 : va_W} {y : MethodName} {bytes : ByteArray} {maxL nL n index fr lo : Nat} {ret : Option FieldType} {ws : List Cond} {As : List Value} {C : String} {TT : u_T} {nf ci q : Nat} {fs : List Value} {r1 : Int64} {T1 : AT} (E : cE p c cc0 s m args Ts D own (CT cI cJ cZ cMic cSrc cSt cAI cAJ ++ [(cD, .double)])) (G : gL cI cJ cZ cMic cSrc cSt cAI cAJ D ad A s.heap H locs T W2) (hA : ∀ q, s.heap.size ≤ q → A q) (hX : xT A s) (hN : nX s) (hml : c.maxLocals = nL) (hM : kAl l y ws fr lo cI cJ cZ cMic cSrc cSt cAI cAJ D ad T (.ref (ad q) :: As) r1 T1) (cw : CallW R s args own C index y bytes maxL ret ws { frames := fr, cells := T1.1 - T.1, slots := sg T1 - sg T, locals := lo } (T1.1 - T.1) (sg T1 - sg T) n) (hq : q < T.1) (hSq : cc cI cJ cZ cMic cSrc cSt cAI cAJ ad T q = .inr (ci, fs)) (hc : vwCl[ci]? = some (C, TT, nf)) (hn : As.length = n) (hsz : ls.size = nL) {st : List Value} (hst : st = As.reverse ++ .ref (ad q) :: rest) (hW : 2 * (F0 m pc ls st).monitorRoom + (rest.map fun v => v.category).sum ≤ 8) (hdg : decode cc0 pc = .ok (.invokevirtual index, 3)) (hf : cells + (T1.1 - T.1) ≤ R.cells ∧ slots + (sg T1 - sg T) ≤ R.slots) (kk : ∀ (ad2 : Nat → Nat) (H1 : Heap) (locs1 : List Loc), (∀ n, n < T.1 → ad2 n = ad n) → gL cI cJ cZ cMic cSrc cSt cAI cAJ D ad2 A s.heap H1 locs1 T1 W2 → W p l e R s m args below meth c H1 locs1 (cells + (T1.1 - T.1)) (slots + (sg T1 - sg T)) Q (F0 m (pc + 3) ls (.long r1 :: rest))) : W p l e R s m args below meth c H locs cells slots Q (F0 m pc ls st) := by
  obtain ⟨hx, hb, hts, hown, hK⟩ := E
  obtain ⟨hP, hD, hS⟩ := G
  have hC := l_allC ad T.1 (cc cI cJ cZ cMic cSrc cSt cAI cAJ ad T) W2
  have hR := l_allM ad T.1 (cc cI cJ cZ cMic cSrc cSt cAI cAJ ad T) W2
  have hFc := va_free (wc := cW ad T.1 (cc cI cJ cZ cMic cSrc cSt cAI cAJ ad T)) hD hS hA (List.range T.1) hC
  have hPc := hP.sub (List.range T.1) (l_fm hC)
  have hDc := hD.sub (List.range T.1) (va_nd_range T.1) hC
  have hKc : va_K D vwCl (CT cI cJ cZ cMic cSrc cSt cAI cAJ) s := hK.sub [0, 1, 2, 3, 4, 5, 6, 7] rfl
  refine va_calll (va_runV (As := As) (rest := rest) ⟨hx, hb, hml, hown, hts⟩ (hM H.size) cw ⟨fun a U g mk q => by obtain ⟨q0, q1, qP, qK, qD, qX, qN⟩ := q; exact ⟨q0, q1, qP, va_K.moved (u := U) (U := U.calling g mk a) (Vm.Alike.refl U.vm) qK, qD, qX.blind, nX.moved U (U.calling g mk a) (State.WarmedH.refl U) qN⟩, va_recv hKc hPc (ci := ci) (q0 := q) hc (cW_e hq hSq), fun U hU hW => ⟨rfl, by rw [hU], by rw [hU]; exact hPc, va_K.moved hW.alike hKc, hDc.weaken (fun _ _ _ _ => trivial), hX.go hW hU hS hFc, nX.moved s U hW hN⟩⟩ rfl hn hsz hst hW hdg hf) hS (fun q _ h => hFc q h) hFc (fun r u t H1 locs1 ht hvm hw hB hz1 hk1 hS => ?_)
  obtain ⟨u1, u2⟩ := u
  obtain ⟨hw1, hw2, hw3⟩ := hw
  have hw2 : u1 = T1 := hw2
  obtain ⟨hP1, hK1, hD1⟩ := hB
  rw [ht] at hP1
  obtain ⟨hP2, hD2⟩ := va_join (wr := W2) (w1 := cW u2 u1.1 (cc cI cJ cZ cMic cSrc cSt cAI cAJ u2 u1)) hP hD (List.range T.1) _ hC hR (l_ndM T.1 _) l_disM hk1 hFc hP1 hD1
  rw [hw1]
  rw [hw2] at hP2 hD2
  exact kk u2 H1 locs1 hw3 ⟨va_P.swap (a := []) hP2, va_D.swap (a := []) hD2, hS⟩
theorem t_bvl {p : Program} {l : Launch} {e : Env} {R : Room} {s : State} {m : MethodId} {args : Array Value} {below : List Frame} {meth : Method} {c : Code} {H : Heap} {locs : List Loc} {cells slots : Nat} {Q : State → Prop} {cc0 : ByteArray} {pc : Nat} {ls : Array Slot} {rest : List Value} {D : va_G} {A : Nat → Prop} {Ts : List Cond} {own : String} {cI cJ cZ cMic cSrc cSt cAI cAJ : ClassId} {cD : ClassId} {ad : Nat → Nat} {T : AT} {W2 : va_W} {y : MethodName} {bytes : ByteArray} {maxL nL n index fr lo : Nat} {ret : Option FieldType} {ws : List Cond} {As : List Value} {C : String} {TT : u_T} {nf ci q : Nat} {fs : List Value} {e1 : Nat} {T1 : AT} (E : cE p c cc0 s m args Ts D own (CT cI cJ cZ cMic cSrc cSt cAI cAJ ++ [(cD, .double)])) (G : gL cI cJ cZ cMic cSrc cSt cAI cAJ D ad A s.heap H locs T W2) (hA : ∀ q, s.heap.size ≤ q → A q) (hX : xT A s) (hN : nX s) (hml : c.maxLocals = nL) (hM : kAXl l y ws fr lo cI cJ cZ cMic cSrc cSt cAI cAJ D ad T (.ref (ad q) :: As) e1 T1) (cw : CallW R s args own C index y bytes maxL ret ws { frames := fr, cells := T1.1 - T.1 + 1, slots := sg T1 - sg T + 6, locals := lo } (T1.1 - T.1 + 1) (sg T1 - sg T + 6) n) (hq : q < T.1) (hSq : cc cI cJ cZ cMic cSrc cSt cAI cAJ ad T q = .inr (ci, fs)) (hc : vwCl[ci]? = some (C, TT, nf)) (hn : As.length = n) (hsz : ls.size = nL) {st : List Value} (hst : st = As.reverse ++ .ref (ad q) :: rest) (hW : 2 * (F0 m pc ls st).monitorRoom + (rest.map fun v => v.category).sum ≤ 8) (hdg : decode cc0 pc = .ok (.invokevirtual index, 3)) (hf : cells + (T1.1 - T.1 + 1) ≤ R.cells ∧ slots + (sg T1 - sg T + 6) ≤ R.slots) (kx : ∀ (E9 : String) (ce : Cell) (q9 : Addr) (ad2 : Nat → Nat) (H1 : Heap) (locs1 : List Loc), E9 = exn e1 → (∀ n, n < T.1 → ad2 n = ad n) → gL cI cJ cZ cMic cSrc cSt cAI cAJ D ad2 A s.heap H1 locs1 T1 W2 → H1[q9]? = some ce → ce.vm = .none → s.vm.findClass E9 = some ce.cls → vx_W p l e R s m args below meth c H1 locs1 (cells + (T1.1 - T.1 + 1)) (slots + (sg T1 - sg T + 6)) Q (F0 m pc ls rest) q9) : W p l e R s m args below meth c H locs cells slots Q (F0 m pc ls st) := by
  obtain ⟨hx, hb, hts, hown, hK⟩ := E
  obtain ⟨hP, hD, hS⟩ := G
  have hC := l_allC ad T.1 (cc cI cJ cZ cMic cSrc cSt cAI cAJ ad T) W2
  have hR := l_allM ad T.1 (cc cI cJ cZ cMic cSrc cSt cAI cAJ ad T) W2
  have hFc := va_free (wc := cW ad T.1 (cc cI cJ cZ cMic cSrc cSt cAI cAJ ad T)) hD hS hA (List.range T.1) hC
  have hPc := hP.sub (List.range T.1) (l_fm hC)
  have hDc := hD.sub (List.range T.1) (va_nd_range T.1) hC
  have hKc : va_K D vwCl (CT cI cJ cZ cMic cSrc cSt cAI cAJ) s := hK.sub [0, 1, 2, 3, 4, 5, 6, 7] rfl
  refine vx_calll (vx_runV (As := As) (rest := rest) ⟨hx, hb, hml, hown, hts⟩ (hM H.size) cw ⟨fun a U g mk q => by obtain ⟨q0, q1, qP, qK, qD, qX, qN⟩ := q; exact ⟨q0, q1, qP, va_K.moved (u := U) (U := U.calling g mk a) (Vm.Alike.refl U.vm) qK, qD, qX.blind, nX.moved U (U.calling g mk a) (State.WarmedH.refl U) qN⟩, va_recv hKc hPc (ci := ci) (q0 := q) hc (cW_e hq hSq), fun U hU hW => ⟨rfl, by rw [hU], by rw [hU]; exact hPc, va_K.moved hW.alike hKc, hDc.weaken (fun _ _ _ _ => trivial), hX.go hW hU hS hFc, nX.moved s U hW hN⟩⟩ rfl hn hsz hst hW hdg hf) hS (fun q _ h => hFc q h) hFc (fun q _ h => hFc q h) (fun E9 ce q9 u t H1 locs1 ht hvm _ hB hz1 hk1 hS hce hcv hcl => ?_) (fun r u t H1 locs1 ht hvm hw hB hz1 hk1 hS => hw.elim)
  obtain ⟨u1, u2⟩ := u
  obtain ⟨⟨hpx, hw2, hw3⟩, hP1, hK1, hD1⟩ := hB
  have hw2 : u1 = T1 := hw2
  rw [ht] at hP1
  obtain ⟨hP2, hD2⟩ := va_join (wr := W2) (w1 := cW u2 u1.1 (cc cI cJ cZ cMic cSrc cSt cAI cAJ u2 u1)) hP hD (List.range T.1) _ hC hR (l_ndM T.1 _) l_disM hk1 hFc hP1 hD1
  rw [hw2] at hP2 hD2
  exact kx E9 ce q9 u2 H1 locs1 hpx hw3 ⟨va_P.swap (a := []) hP2, va_D.swap (a := []) hD2, hS⟩ hce hcv hcl
theorem t_avf {p : Program} {l : Launch} {e : Env} {R : Room} {s : State} {m : MethodId} {args : Array Value} {below : List Frame} {meth : Method} {c : Code} {H : Heap} {locs : List Loc} {cells slots : Nat} {Q : State → Prop} {cc0 : ByteArray} {pc : Nat} {ls : Array Slot} {rest : List Value} {D : va_G} {A : Nat → Prop} {Ts : List Cond} {own : String} {cI cJ cZ cMic cSrc cSt cAI cAJ : ClassId} {cD : ClassId} {ad : Nat → Nat} {T : AT} {W2 : va_W} {y : MethodName} {bytes : ByteArray} {maxL nL n index fr lo : Nat} {ret : Option FieldType} {ws : List Cond} {As : List Value} {C : String} {TT : u_T} {nf ci q : Nat} {fs : List Value} {r1 : UInt32} {T1 : AT} (E : cE p c cc0 s m args Ts D own (CT cI cJ cZ cMic cSrc cSt cAI cAJ ++ [(cD, .double)])) (G : gL cI cJ cZ cMic cSrc cSt cAI cAJ D ad A s.heap H locs T W2) (hA : ∀ q, s.heap.size ≤ q → A q) (hX : xT A s) (hN : nX s) (hml : c.maxLocals = nL) (hM : kAf l y ws fr lo cI cJ cZ cMic cSrc cSt cAI cAJ D ad T (.ref (ad q) :: As) r1 T1) (cw : CallW R s args own C index y bytes maxL ret ws { frames := fr, cells := T1.1 - T.1, slots := sg T1 - sg T, locals := lo } (T1.1 - T.1) (sg T1 - sg T) n) (hq : q < T.1) (hSq : cc cI cJ cZ cMic cSrc cSt cAI cAJ ad T q = .inr (ci, fs)) (hc : vwCl[ci]? = some (C, TT, nf)) (hn : As.length = n) (hsz : ls.size = nL) {st : List Value} (hst : st = As.reverse ++ .ref (ad q) :: rest) (hW : 2 * (F0 m pc ls st).monitorRoom + (rest.map fun v => v.category).sum ≤ 8) (hdg : decode cc0 pc = .ok (.invokevirtual index, 3)) (hf : cells + (T1.1 - T.1) ≤ R.cells ∧ slots + (sg T1 - sg T) ≤ R.slots) (kk : ∀ (ad2 : Nat → Nat) (H1 : Heap) (locs1 : List Loc), (∀ n, n < T.1 → ad2 n = ad n) → gL cI cJ cZ cMic cSrc cSt cAI cAJ D ad2 A s.heap H1 locs1 T1 W2 → W p l e R s m args below meth c H1 locs1 (cells + (T1.1 - T.1)) (slots + (sg T1 - sg T)) Q (F0 m (pc + 3) ls (.float r1 :: rest))) : W p l e R s m args below meth c H locs cells slots Q (F0 m pc ls st) := by
  obtain ⟨hx, hb, hts, hown, hK⟩ := E
  obtain ⟨hP, hD, hS⟩ := G
  have hC := l_allC ad T.1 (cc cI cJ cZ cMic cSrc cSt cAI cAJ ad T) W2
  have hR := l_allM ad T.1 (cc cI cJ cZ cMic cSrc cSt cAI cAJ ad T) W2
  have hFc := va_free (wc := cW ad T.1 (cc cI cJ cZ cMic cSrc cSt cAI cAJ ad T)) hD hS hA (List.range T.1) hC
  have hPc := hP.sub (List.range T.1) (l_fm hC)
  have hDc := hD.sub (List.range T.1) (va_nd_range T.1) hC
  have hKc : va_K D vwCl (CT cI cJ cZ cMic cSrc cSt cAI cAJ) s := hK.sub [0, 1, 2, 3, 4, 5, 6, 7] rfl
  refine va_callf (va_runV (As := As) (rest := rest) ⟨hx, hb, hml, hown, hts⟩ (hM H.size) cw ⟨fun a U g mk q => by obtain ⟨q0, q1, qP, qK, qD, qX, qN⟩ := q; exact ⟨q0, q1, qP, va_K.moved (u := U) (U := U.calling g mk a) (Vm.Alike.refl U.vm) qK, qD, qX.blind, nX.moved U (U.calling g mk a) (State.WarmedH.refl U) qN⟩, va_recv hKc hPc (ci := ci) (q0 := q) hc (cW_e hq hSq), fun U hU hW => ⟨rfl, by rw [hU], by rw [hU]; exact hPc, va_K.moved hW.alike hKc, hDc.weaken (fun _ _ _ _ => trivial), hX.go hW hU hS hFc, nX.moved s U hW hN⟩⟩ rfl hn hsz hst hW hdg hf) hS (fun q _ h => hFc q h) hFc (fun r u t H1 locs1 ht hvm hw hB hz1 hk1 hS => ?_)
  obtain ⟨u1, u2⟩ := u
  obtain ⟨hw1, hw2, hw3⟩ := hw
  have hw2 : u1 = T1 := hw2
  obtain ⟨hP1, hK1, hD1⟩ := hB
  rw [ht] at hP1
  obtain ⟨hP2, hD2⟩ := va_join (wr := W2) (w1 := cW u2 u1.1 (cc cI cJ cZ cMic cSrc cSt cAI cAJ u2 u1)) hP hD (List.range T.1) _ hC hR (l_ndM T.1 _) l_disM hk1 hFc hP1 hD1
  rw [hw1]
  rw [hw2] at hP2 hD2
  exact kk u2 H1 locs1 hw3 ⟨va_P.swap (a := []) hP2, va_D.swap (a := []) hD2, hS⟩
theorem t_bvf {p : Program} {l : Launch} {e : Env} {R : Room} {s : State} {m : MethodId} {args : Array Value} {below : List Frame} {meth : Method} {c : Code} {H : Heap} {locs : List Loc} {cells slots : Nat} {Q : State → Prop} {cc0 : ByteArray} {pc : Nat} {ls : Array Slot} {rest : List Value} {D : va_G} {A : Nat → Prop} {Ts : List Cond} {own : String} {cI cJ cZ cMic cSrc cSt cAI cAJ : ClassId} {cD : ClassId} {ad : Nat → Nat} {T : AT} {W2 : va_W} {y : MethodName} {bytes : ByteArray} {maxL nL n index fr lo : Nat} {ret : Option FieldType} {ws : List Cond} {As : List Value} {C : String} {TT : u_T} {nf ci q : Nat} {fs : List Value} {e1 : Nat} {T1 : AT} (E : cE p c cc0 s m args Ts D own (CT cI cJ cZ cMic cSrc cSt cAI cAJ ++ [(cD, .double)])) (G : gL cI cJ cZ cMic cSrc cSt cAI cAJ D ad A s.heap H locs T W2) (hA : ∀ q, s.heap.size ≤ q → A q) (hX : xT A s) (hN : nX s) (hml : c.maxLocals = nL) (hM : kAXf l y ws fr lo cI cJ cZ cMic cSrc cSt cAI cAJ D ad T (.ref (ad q) :: As) e1 T1) (cw : CallW R s args own C index y bytes maxL ret ws { frames := fr, cells := T1.1 - T.1 + 1, slots := sg T1 - sg T + 6, locals := lo } (T1.1 - T.1 + 1) (sg T1 - sg T + 6) n) (hq : q < T.1) (hSq : cc cI cJ cZ cMic cSrc cSt cAI cAJ ad T q = .inr (ci, fs)) (hc : vwCl[ci]? = some (C, TT, nf)) (hn : As.length = n) (hsz : ls.size = nL) {st : List Value} (hst : st = As.reverse ++ .ref (ad q) :: rest) (hW : 2 * (F0 m pc ls st).monitorRoom + (rest.map fun v => v.category).sum ≤ 8) (hdg : decode cc0 pc = .ok (.invokevirtual index, 3)) (hf : cells + (T1.1 - T.1 + 1) ≤ R.cells ∧ slots + (sg T1 - sg T + 6) ≤ R.slots) (kx : ∀ (E9 : String) (ce : Cell) (q9 : Addr) (ad2 : Nat → Nat) (H1 : Heap) (locs1 : List Loc), E9 = exn e1 → (∀ n, n < T.1 → ad2 n = ad n) → gL cI cJ cZ cMic cSrc cSt cAI cAJ D ad2 A s.heap H1 locs1 T1 W2 → H1[q9]? = some ce → ce.vm = .none → s.vm.findClass E9 = some ce.cls → vx_W p l e R s m args below meth c H1 locs1 (cells + (T1.1 - T.1 + 1)) (slots + (sg T1 - sg T + 6)) Q (F0 m pc ls rest) q9) : W p l e R s m args below meth c H locs cells slots Q (F0 m pc ls st) := by
  obtain ⟨hx, hb, hts, hown, hK⟩ := E
  obtain ⟨hP, hD, hS⟩ := G
  have hC := l_allC ad T.1 (cc cI cJ cZ cMic cSrc cSt cAI cAJ ad T) W2
  have hR := l_allM ad T.1 (cc cI cJ cZ cMic cSrc cSt cAI cAJ ad T) W2
  have hFc := va_free (wc := cW ad T.1 (cc cI cJ cZ cMic cSrc cSt cAI cAJ ad T)) hD hS hA (List.range T.1) hC
  have hPc := hP.sub (List.range T.1) (l_fm hC)
  have hDc := hD.sub (List.range T.1) (va_nd_range T.1) hC
  have hKc : va_K D vwCl (CT cI cJ cZ cMic cSrc cSt cAI cAJ) s := hK.sub [0, 1, 2, 3, 4, 5, 6, 7] rfl
  refine vx_callf (vx_runV (As := As) (rest := rest) ⟨hx, hb, hml, hown, hts⟩ (hM H.size) cw ⟨fun a U g mk q => by obtain ⟨q0, q1, qP, qK, qD, qX, qN⟩ := q; exact ⟨q0, q1, qP, va_K.moved (u := U) (U := U.calling g mk a) (Vm.Alike.refl U.vm) qK, qD, qX.blind, nX.moved U (U.calling g mk a) (State.WarmedH.refl U) qN⟩, va_recv hKc hPc (ci := ci) (q0 := q) hc (cW_e hq hSq), fun U hU hW => ⟨rfl, by rw [hU], by rw [hU]; exact hPc, va_K.moved hW.alike hKc, hDc.weaken (fun _ _ _ _ => trivial), hX.go hW hU hS hFc, nX.moved s U hW hN⟩⟩ rfl hn hsz hst hW hdg hf) hS (fun q _ h => hFc q h) hFc (fun q _ h => hFc q h) (fun E9 ce q9 u t H1 locs1 ht hvm _ hB hz1 hk1 hS hce hcv hcl => ?_) (fun r u t H1 locs1 ht hvm hw hB hz1 hk1 hS => hw.elim)
  obtain ⟨u1, u2⟩ := u
  obtain ⟨⟨hpx, hw2, hw3⟩, hP1, hK1, hD1⟩ := hB
  have hw2 : u1 = T1 := hw2
  rw [ht] at hP1
  obtain ⟨hP2, hD2⟩ := va_join (wr := W2) (w1 := cW u2 u1.1 (cc cI cJ cZ cMic cSrc cSt cAI cAJ u2 u1)) hP hD (List.range T.1) _ hC hR (l_ndM T.1 _) l_disM hk1 hFc hP1 hD1
  rw [hw2] at hP2 hD2
  exact kx E9 ce q9 u2 H1 locs1 hpx hw3 ⟨va_P.swap (a := []) hP2, va_D.swap (a := []) hD2, hS⟩ hce hcv hcl
theorem t_aviS {p : Program} {l : Launch} {e : Env} {R : Room} {s : State} {m : MethodId} {args : Array Value} {below : List Frame} {meth : Method} {c : Code} {H : Heap} {locs : List Loc} {cells slots : Nat} {Q : State → Prop} {cc0 : ByteArray} {pc : Nat} {ls : Array Slot} {rest : List Value} {D : va_G} {A : Nat → Prop} {Ts : List Cond} {own : String} {cI cJ cZ cMic cSrc cSt cAI cAJ : ClassId} {cD : ClassId} {ad : Nat → Nat} {T : AT} {W2 : va_W} {y : MethodName} {bytes : ByteArray} {maxL nL n index fr lo : Nat} {ret : Option FieldType} {ws : List Cond} {As : List Value} {C : String} {TT : u_T} {nf ci q : Nat} {fs : List Value} {r1 : Int32} {T1 : AT} (E : cE p c cc0 s m args Ts D own (CT cI cJ cZ cMic cSrc cSt cAI cAJ ++ [(cD, .double)])) (G : gL cI cJ cZ cMic cSrc cSt cAI cAJ D ad A s.heap H locs T W2) (hA : ∀ q, s.heap.size ≤ q → A q) (hX : xT A s) (hN : nX s) (hml : c.maxLocals = nL) {h0 : Nat} (hA0 : ∀ a : Nat, A a → h0 ≤ a) (hTS : sAll h0 s) (hM : kAiS l y ws fr lo cI cJ cZ cMic cSrc cSt cAI cAJ D ad T (.ref (ad q) :: As) (yT0 cI cJ cZ cMic cSrc cSt cAI cAJ h0 ad T) r1 T1) (cw : CallW R s args own C index y bytes maxL ret ws { frames := fr, cells := T1.1 - T.1, slots := sg T1 - sg T, locals := lo } (T1.1 - T.1) (sg T1 - sg T) n) (hq : q < T.1) (hSq : cc cI cJ cZ cMic cSrc cSt cAI cAJ ad T q = .inr (ci, fs)) (hc : vwCl[ci]? = some (C, TT, nf)) (hn : As.length = n) (hsz : ls.size = nL) {st : List Value} (hst : st = As.reverse ++ .ref (ad q) :: rest) (hW : 2 * (F0 m pc ls st).monitorRoom + (rest.map fun v => v.category).sum ≤ 8) (hdg : decode cc0 pc = .ok (.invokevirtual index, 3)) (hf : cells + (T1.1 - T.1) ≤ R.cells ∧ slots + (sg T1 - sg T) ≤ R.slots) (kk : ∀ (ad2 : Nat → Nat) (H1 : Heap) (locs1 : List Loc), (∀ n, n < T.1 → ad2 n = ad n) → gL cI cJ cZ cMic cSrc cSt cAI cAJ D ad2 A s.heap H1 locs1 T1 W2 → W p l e R s m args below meth c H1 locs1 (cells + (T1.1 - T.1)) (slots + (sg T1 - sg T)) Q (F0 m (pc + 3) ls (.int r1 :: rest))) : W p l e R s m args below meth c H locs cells slots Q (F0 m pc ls st) := by
  obtain ⟨hx, hb, hts, hown, hK⟩ := E
  obtain ⟨hP, hD, hS⟩ := G
  have hC := l_allC ad T.1 (cc cI cJ cZ cMic cSrc cSt cAI cAJ ad T) W2
  have hR := l_allM ad T.1 (cc cI cJ cZ cMic cSrc cSt cAI cAJ ad T) W2
  have hFc := va_free (wc := cW ad T.1 (cc cI cJ cZ cMic cSrc cSt cAI cAJ ad T)) hD hS hA (List.range T.1) hC
  have hPc := hP.sub (List.range T.1) (l_fm hC)
  have hDc := hD.sub (List.range T.1) (va_nd_range T.1) hC
  have hKc : va_K D vwCl (CT cI cJ cZ cMic cSrc cSt cAI cAJ) s := hK.sub [0, 1, 2, 3, 4, 5, 6, 7] rfl
  refine va_calli (va_runV (As := As) (rest := rest) ⟨hx, hb, hml, hown, hts⟩ (hM H.size) cw ⟨fun a U g mk q => by obtain ⟨q0, ⟨q1, qP, qK, qD, qX, qN⟩, qY⟩ := q; exact ⟨q0, ⟨q1, qP, va_K.moved (u := U) (U := U.calling g mk a) (Vm.Alike.refl U.vm) qK, qD, qX.blind, nX.moved U (U.calling g mk a) (State.WarmedH.refl U) qN⟩, yT0.blind _ _ _ _ _ qY⟩, va_recv hKc hPc (ci := ci) (q0 := q) hc (cW_e hq hSq), fun U hU hW => ⟨rfl, ⟨by rw [hU], by rw [hU]; exact hPc, va_K.moved hW.alike hKc, hDc.weaken (fun _ _ _ _ => trivial), hX.go hW hU hS hFc, nX.moved s U hW hN⟩, ⟨fun a h => hA0 a (hFc a h), hTS.moved hA0 hS hU hW⟩⟩⟩ rfl hn hsz hst hW hdg hf) hS (fun q _ h => hFc q h) hFc (fun r u t H1 locs1 ht hvm hw hB hz1 hk1 hS => ?_)
  obtain ⟨u1, u2⟩ := u
  obtain ⟨hw1, hw2, hw3⟩ := hw
  have hw2 : u1 = T1 := hw2
  obtain ⟨hP1, hK1, hD1⟩ := hB
  rw [ht] at hP1
  obtain ⟨hP2, hD2⟩ := va_join (wr := W2) (w1 := cW u2 u1.1 (cc cI cJ cZ cMic cSrc cSt cAI cAJ u2 u1)) hP hD (List.range T.1) _ hC hR (l_ndM T.1 _) l_disM hk1 hFc hP1 hD1
  rw [hw1]
  rw [hw2] at hP2 hD2
  exact kk u2 H1 locs1 hw3 ⟨va_P.swap (a := []) hP2, va_D.swap (a := []) hD2, hS⟩
theorem t_bviS {p : Program} {l : Launch} {e : Env} {R : Room} {s : State} {m : MethodId} {args : Array Value} {below : List Frame} {meth : Method} {c : Code} {H : Heap} {locs : List Loc} {cells slots : Nat} {Q : State → Prop} {cc0 : ByteArray} {pc : Nat} {ls : Array Slot} {rest : List Value} {D : va_G} {A : Nat → Prop} {Ts : List Cond} {own : String} {cI cJ cZ cMic cSrc cSt cAI cAJ : ClassId} {cD : ClassId} {ad : Nat → Nat} {T : AT} {W2 : va_W} {y : MethodName} {bytes : ByteArray} {maxL nL n index fr lo : Nat} {ret : Option FieldType} {ws : List Cond} {As : List Value} {C : String} {TT : u_T} {nf ci q : Nat} {fs : List Value} {e1 : Nat} {T1 : AT} (E : cE p c cc0 s m args Ts D own (CT cI cJ cZ cMic cSrc cSt cAI cAJ ++ [(cD, .double)])) (G : gL cI cJ cZ cMic cSrc cSt cAI cAJ D ad A s.heap H locs T W2) (hA : ∀ q, s.heap.size ≤ q → A q) (hX : xT A s) (hN : nX s) (hml : c.maxLocals = nL) {h0 : Nat} (hA0 : ∀ a : Nat, A a → h0 ≤ a) (hTS : sAll h0 s) (hM : kAXiS l y ws fr lo cI cJ cZ cMic cSrc cSt cAI cAJ D ad T (.ref (ad q) :: As) (yT0 cI cJ cZ cMic cSrc cSt cAI cAJ h0 ad T) e1 T1) (cw : CallW R s args own C index y bytes maxL ret ws { frames := fr, cells := T1.1 - T.1 + 1, slots := sg T1 - sg T + 6, locals := lo } (T1.1 - T.1 + 1) (sg T1 - sg T + 6) n) (hq : q < T.1) (hSq : cc cI cJ cZ cMic cSrc cSt cAI cAJ ad T q = .inr (ci, fs)) (hc : vwCl[ci]? = some (C, TT, nf)) (hn : As.length = n) (hsz : ls.size = nL) {st : List Value} (hst : st = As.reverse ++ .ref (ad q) :: rest) (hW : 2 * (F0 m pc ls st).monitorRoom + (rest.map fun v => v.category).sum ≤ 8) (hdg : decode cc0 pc = .ok (.invokevirtual index, 3)) (hf : cells + (T1.1 - T.1 + 1) ≤ R.cells ∧ slots + (sg T1 - sg T + 6) ≤ R.slots) (kx : ∀ (E9 : String) (ce : Cell) (q9 : Addr) (ad2 : Nat → Nat) (H1 : Heap) (locs1 : List Loc), E9 = exn e1 → (∀ n, n < T.1 → ad2 n = ad n) → gL cI cJ cZ cMic cSrc cSt cAI cAJ D ad2 A s.heap H1 locs1 T1 W2 → H1[q9]? = some ce → ce.vm = .none → s.vm.findClass E9 = some ce.cls → vx_W p l e R s m args below meth c H1 locs1 (cells + (T1.1 - T.1 + 1)) (slots + (sg T1 - sg T + 6)) Q (F0 m pc ls rest) q9) : W p l e R s m args below meth c H locs cells slots Q (F0 m pc ls st) := by
  obtain ⟨hx, hb, hts, hown, hK⟩ := E
  obtain ⟨hP, hD, hS⟩ := G
  have hC := l_allC ad T.1 (cc cI cJ cZ cMic cSrc cSt cAI cAJ ad T) W2
  have hR := l_allM ad T.1 (cc cI cJ cZ cMic cSrc cSt cAI cAJ ad T) W2
  have hFc := va_free (wc := cW ad T.1 (cc cI cJ cZ cMic cSrc cSt cAI cAJ ad T)) hD hS hA (List.range T.1) hC
  have hPc := hP.sub (List.range T.1) (l_fm hC)
  have hDc := hD.sub (List.range T.1) (va_nd_range T.1) hC
  have hKc : va_K D vwCl (CT cI cJ cZ cMic cSrc cSt cAI cAJ) s := hK.sub [0, 1, 2, 3, 4, 5, 6, 7] rfl
  refine vx_calli (vx_runV (As := As) (rest := rest) ⟨hx, hb, hml, hown, hts⟩ (hM H.size) cw ⟨fun a U g mk q => by obtain ⟨q0, ⟨q1, qP, qK, qD, qX, qN⟩, qY⟩ := q; exact ⟨q0, ⟨q1, qP, va_K.moved (u := U) (U := U.calling g mk a) (Vm.Alike.refl U.vm) qK, qD, qX.blind, nX.moved U (U.calling g mk a) (State.WarmedH.refl U) qN⟩, yT0.blind _ _ _ _ _ qY⟩, va_recv hKc hPc (ci := ci) (q0 := q) hc (cW_e hq hSq), fun U hU hW => ⟨rfl, ⟨by rw [hU], by rw [hU]; exact hPc, va_K.moved hW.alike hKc, hDc.weaken (fun _ _ _ _ => trivial), hX.go hW hU hS hFc, nX.moved s U hW hN⟩, ⟨fun a h => hA0 a (hFc a h), hTS.moved hA0 hS hU hW⟩⟩⟩ rfl hn hsz hst hW hdg hf) hS (fun q _ h => hFc q h) hFc (fun q _ h => hFc q h) (fun E9 ce q9 u t H1 locs1 ht hvm _ hB hz1 hk1 hS hce hcv hcl => ?_) (fun r u t H1 locs1 ht hvm hw hB hz1 hk1 hS => hw.elim)
  obtain ⟨u1, u2⟩ := u
  obtain ⟨⟨hpx, hw2, hw3⟩, hP1, hK1, hD1⟩ := hB
  have hw2 : u1 = T1 := hw2
  rw [ht] at hP1
  obtain ⟨hP2, hD2⟩ := va_join (wr := W2) (w1 := cW u2 u1.1 (cc cI cJ cZ cMic cSrc cSt cAI cAJ u2 u1)) hP hD (List.range T.1) _ hC hR (l_ndM T.1 _) l_disM hk1 hFc hP1 hD1
  rw [hw2] at hP2 hD2
  exact kx E9 ce q9 u2 H1 locs1 hpx hw3 ⟨va_P.swap (a := []) hP2, va_D.swap (a := []) hD2, hS⟩ hce hcv hcl
/-- which exceptions aren't one another's -/
def nC (U : State) : Prop := va_Nc xIAE xIOB U ∧ va_Nc xISE xIOB U ∧ va_Nc xIOB xISE U ∧ va_Nc xIAE xISE U
theorem nC.moved {u U : State} (h : nC u) (hvm : u.vm.Alike U.vm) : nC U := ⟨h.1.moved hvm, h.2.1.moved hvm, h.2.2.1.moved hvm, h.2.2.2.moved hvm⟩
def oJ (ao : Nat) (cJ : ClassId) (f : Nat → Int64) : Nat × va_E := (ao, .inl (cJ, 1, .inr (.inl f)))
def oD (ao : Nat) (cD : ClassId) (f : Nat → UInt64) : Nat × va_E := (ao, .inl (cD, 1, .inr (.inr (.inr (.inl f)))))
/-- the law's code for a code of the class's -/
def vck (p0 p1 p2 : Int32) (k : Nat) : Int32 := match k with
  | 0 => 0
  | 1 => p0
  | 2 => p1
  | _ + 3 => p2
def vfJ (k : Nat) (f : Nat → Int64) (v : Int64) : Nat → Int64 := match k with
  | 0 => vp_updL f 0 v
  | _ + 1 => f
def vfD (k : Nat) (f : Nat → UInt64) (v : UInt64) : Nat → UInt64 := match k with
  | 0 => vf_upd f 0 v
  | _ + 1 => f
def vzb (r : Int32) : Int64 := if r = 0 then 0 else 1
/-- what a try block of the law needs: the class's cells and the array that it writes its answer into -/
abbrev tB (cI cJ cZ cMic cSrc cSt cAI cAJ cD : ClassId) (D : va_G) (h0 : Nat) (ad : Nat → Nat) (T : AT) (o : Nat × va_E) (sz : Nat) : State → Prop := fun U => U.heap.size = sz ∧ va_P D vwCl (cW ad T.1 (cc cI cJ cZ cMic cSrc cSt cAI cAJ ad T) ++ [o]) U.heap ∧ va_K D vwCl (CT cI cJ cZ cMic cSrc cSt cAI cAJ ++ [(cD, .double)]) U ∧ va_D (fun _ => True) (cW ad T.1 (cc cI cJ cZ cMic cSrc cSt cAI cAJ ad T) ++ [o]) ∧ xT (va_A (cW ad T.1 (cc cI cJ cZ cMic cSrc cSt cAI cAJ ad T) ++ [o]) sz) U ∧ nC U ∧ (∀ a, va_A (cW ad T.1 (cc cI cJ cZ cMic cSrc cSt cAI cAJ ad T) ++ [o]) sz a → h0 ≤ a) ∧ sAll h0 U
abbrev tAt (cI cJ cZ cMic cSrc cSt cAI cAJ cD : ClassId) (D : va_G) (ad : Nat → Nat) (A : Nat → Prop) (T : AT) (o : Nat × va_E) (t : State) : Prop := va_P D vwCl (cW ad T.1 (cc cI cJ cZ cMic cSrc cSt cAI cAJ ad T) ++ [o]) t.heap ∧ va_K D vwCl (CT cI cJ cZ cMic cSrc cSt cAI cAJ ++ [(cD, .double)]) t ∧ va_D A (cW ad T.1 (cc cI cJ cZ cMic cSrc cSt cAI cAJ ad T) ++ [o])
abbrev tWi (l : Launch) (y : MethodName) (ws : List Cond) (fr lo : Nat) (cI cJ cZ cMic cSrc cSt cAI cAJ cD : ClassId) (D : va_G) (h0 : Nat) (ad : Nat → Nat) (T : AT) (o : Nat × va_E) (As : List Value) (k1 : Int32) (T1 : AT) (o1 : Nat × va_E) : Prop := ∀ sz : Nat, Met l y ws { frames := fr, cells := T1.1 - T.1 + 1, slots := sg T1 - sg T + 6, locals := lo } (va_Pc As (tB cI cJ cZ cMic cSrc cSt cAI cAJ cD D h0 ad T o sz)) (va_Qi (fun r (u : Nat → Nat) => r = k1 ∧ ∀ n, n < T.1 → u n = ad n) (fun (u : Nat → Nat) t => tAt cI cJ cZ cMic cSrc cSt cAI cAJ cD D u (va_A (cW ad T.1 (cc cI cJ cZ cMic cSrc cSt cAI cAJ ad T) ++ [o]) sz) T1 o1 t) (va_A (cW ad T.1 (cc cI cJ cZ cMic cSrc cSt cAI cAJ ad T) ++ [o]) sz)) (T1.1 - T.1 + 1) (sg T1 - sg T + 6) (va_A (cW ad T.1 (cc cI cJ cZ cMic cSrc cSt cAI cAJ ad T) ++ [o]) sz)
/-- the law calls one of its own try blocks -/
theorem l_v {p : Program} {l : Launch} {e : Env} {R : Room} {s : State} {m : MethodId} {args : Array Value} {below : List Frame} {meth : Method} {c : Code} {H : Heap} {locs : List Loc} {cells slots : Nat} {Q : State → Prop} {cc0 : ByteArray} {pc : Nat} {ls : Array Slot} {rest : List Value} {D : va_G} {A : Nat → Prop} {Ts : List Cond} {own : String} {cI cJ cZ cMic cSrc cSt cAI cAJ cD : ClassId} {ad : Nat → Nat} {T : AT} {W3 : va_W} {y : MethodName} {bytes : ByteArray} {maxL nL n index fr lo h0 : Nat} {ret : Option FieldType} {hh : List (Nat × Nat × Nat × Nat)} {ws : List Cond} {As : List Value} {o o1 : Nat × va_E} {k1 : Int32} {T1 : AT} (E : cE p c cc0 s m args Ts D own (CT cI cJ cZ cMic cSrc cSt cAI cAJ ++ [(cD, .double)])) (G : gL cI cJ cZ cMic cSrc cSt cAI cAJ D ad A s.heap H locs T (o :: W3)) (hA : ∀ q, s.heap.size ≤ q → A q) (hX : xT A s) (hN : nC s) (hA0 : ∀ a : Nat, A a → h0 ≤ a) (hTS : sAll h0 s) (hml : c.maxLocals = nL) (hM : tWi l y ws fr lo cI cJ cZ cMic cSrc cSt cAI cAJ cD D h0 ad T o As k1 T1 o1) (cw : vx_CSW R s args own index y bytes maxL ret hh ws { frames := fr, cells := T1.1 - T.1 + 1, slots := sg T1 - sg T + 6, locals := lo } (T1.1 - T.1 + 1) (sg T1 - sg T + 6) n) (hn : As.length = n) (hsz : ls.size = nL) {st : List Value} (hst : st = As.reverse ++ rest) (hW : 2 * (F0 m pc ls st).monitorRoom + (rest.map fun v => v.category).sum ≤ 8) (hdg : decode cc0 pc = .ok (.invokestatic index, 3)) (hf : cells + (T1.1 - T.1 + 1) ≤ R.cells ∧ slots + (sg T1 - sg T + 6) ≤ R.slots) (kk : ∀ (ad2 : Nat → Nat) (H1 : Heap) (locs1 : List Loc), (∀ n, n < T.1 → ad2 n = ad n) → gL cI cJ cZ cMic cSrc cSt cAI cAJ D ad2 A s.heap H1 locs1 T1 (o1 :: W3) → W p l e R s m args below meth c H1 locs1 (cells + (T1.1 - T.1 + 1)) (slots + (sg T1 - sg T + 6)) Q (F0 m (pc + 3) ls (.int k1 :: rest))) : W p l e R s m args below meth c H locs cells slots Q (F0 m pc ls st) := by
  obtain ⟨hx, hb, hts, hown, hK⟩ := E
  obtain ⟨hP, hD, hS⟩ := G
  rw [List.append_cons] at hP hD
  have hC := x_allC (cW ad T.1 (cc cI cJ cZ cMic cSrc cSt cAI cAJ ad T) ++ [o]) W3
  have hR := x_allM (cW ad T.1 (cc cI cJ cZ cMic cSrc cSt cAI cAJ ad T) ++ [o]) W3
  have hFc := va_free (wc := cW ad T.1 (cc cI cJ cZ cMic cSrc cSt cAI cAJ ad T) ++ [o]) hD hS hA _ hC
  have hPc := hP.sub _ (l_fm hC)
  have hDc := hD.sub _ (va_nd_range _) hC
  refine va_calli (vx_runSW (As := As) (rest := rest) ⟨hx, hb, hml, hown, hts⟩ (hM H.size) cw ⟨fun a U g mk q => by obtain ⟨q0, q1, qP, qK, qD, qX, q8, q10, q11⟩ := q; exact ⟨q0, q1, qP, va_K.moved (u := U) (U := U.calling g mk a) (Vm.Alike.refl U.vm) qK, qD, qX.blind, nC.moved (u := U) (U := U.calling g mk a) q8 (Vm.Alike.refl U.vm), q10, q11.blind⟩, fun U hU hW => ⟨rfl, by rw [hU], by rw [hU]; exact hPc, va_K.moved hW.alike hK, hDc.weaken (fun _ _ _ _ => trivial), hX.go hW hU hS hFc, hN.moved hW.alike, fun a h => hA0 a (hFc a h), hTS.moved hA0 hS hU hW⟩⟩ rfl hn hsz hst hW hdg hf) hS (fun q _ h => hFc q h) hFc (fun r u t H1 locs1 ht hvm hw hB hz1 hk1 hS => ?_)
  obtain ⟨hw1, hw3⟩ := hw
  obtain ⟨hP1, hK1, hD1⟩ := hB
  rw [ht] at hP1
  obtain ⟨hP2, hD2⟩ := va_join (wr := W3) (w1 := cW u T1.1 (cc cI cJ cZ cMic cSrc cSt cAI cAJ u T1) ++ [o1]) hP hD _ _ hC hR (l_ndM _ _) l_disM hk1 hFc hP1 hD1
  rw [hw1]
  refine kk u H1 locs1 hw3 ?_
  unfold gL
  rw [List.append_cons]
  exact ⟨va_P.swap (a := []) hP2, va_D.swap (a := []) hD2, hS⟩
/-- the law calls the reference -/
theorem y_mi {p : Program} {l : Launch} {e : Env} {R : Room} {s : State} {m : MethodId} {args : Array Value} {below : List Frame} {meth : Method} {c : Code} {H : Heap} {locs : List Loc} {cells slots : Nat} {Q : State → Prop} {cc0 : ByteArray} {pc : Nat} {ls : Array Slot} {rest : List Value} {D : va_G} {A : Nat → Prop} {Ts : List Cond} {own : String} {cI cJ cZ cMic cSrc cSt cAI cAJ cD : ClassId} {ad : Nat → Nat} {am : Nat → Nat} {Sm : MS} {T : AT} {o1 o2 : Nat × va_E} {y : MethodName} {bytes : ByteArray} {maxL nL n index fr lo : Nat} {ret : Option FieldType} {ws : List Cond} {As : List Value} {r1 : Int32} {S1 : MS} (E : cE p c cc0 s m args Ts D own (CT cI cJ cZ cMic cSrc cSt cAI cAJ ++ [(cD, .double)])) (G : gL cI cJ cZ cMic cSrc cSt cAI cAJ D ad A s.heap H locs T (o1 :: o2 :: MW cI cJ cZ am Sm)) (hA : ∀ q, s.heap.size ≤ q → A q) (hRs : sR s) (hml : c.maxLocals = nL) (hM : mCi l y ws fr lo D cI cJ cZ am Sm As (fun r S2 => r = r1 ∧ S2 = S1)) (cw : CallW R s args own RX12 index y bytes maxL ret ws { frames := fr, cells := 0, slots := 0, locals := lo } 0 0 n) (hn : As.length = n) (hsz : ls.size = nL) {st : List Value} (hst : st = As.reverse ++ .ref (am 0) :: rest) (hW : 2 * (F0 m pc ls st).monitorRoom + (rest.map fun v => v.category).sum ≤ 8) (hdg : decode cc0 pc = .ok (.invokevirtual index, 3)) (hf : cells + 0 ≤ R.cells ∧ slots + 0 ≤ R.slots) (kk : ∀ (H1 : Heap) (locs1 : List Loc), gL cI cJ cZ cMic cSrc cSt cAI cAJ D ad A s.heap H1 locs1 T (o1 :: o2 :: MW cI cJ cZ am S1) → W p l e R s m args below meth c H1 locs1 cells slots Q (F0 m (pc + 3) ls (.int r1 :: rest))) : W p l e R s m args below meth c H locs cells slots Q (F0 m pc ls st) := by
  obtain ⟨hx, hb, hts, hown, hK⟩ := E
  obtain ⟨hP, hD, hS⟩ := G
  rw [List.append_cons, List.append_cons] at hP hD
  have hKm : va_K D vwCl (MT cI cJ cZ) s := hK.sub [0, 1, 2] rfl
  have hR := x_allC (cW ad T.1 (cc cI cJ cZ cMic cSrc cSt cAI cAJ ad T) ++ [o1] ++ [o2]) (MW cI cJ cZ am Sm)
  have hC := x_allM (cW ad T.1 (cc cI cJ cZ cMic cSrc cSt cAI cAJ ad T) ++ [o1] ++ [o2]) (MW cI cJ cZ am Sm)
  have hFc := va_free (wc := MW cI cJ cZ am Sm) hD hS hA _ hC
  have hPc : va_P D vwCl (MW cI cJ cZ am Sm) H := hP.sub _ (l_fm hC)
  have hDc : va_D A (MW cI cJ cZ am Sm) := hD.sub _ (l_ndM _ _) hC
  refine va_calli (va_runV (As := As) (rest := rest) ⟨hx, hb, hml, hown, hts⟩ (hM H.size) cw ⟨fun a U g mk q => by obtain ⟨q0, q1, qP, qK, qD, qR⟩ := q; exact ⟨q0, q1, qP, va_K.moved (u := U) (U := U.calling g mk a) (Vm.Alike.refl U.vm) qK, qD, qR.blind⟩, va_recv hKm hPc (ci := 12) (q0 := 0) rfl rfl, fun U hU hW => ⟨rfl, by rw [hU], by rw [hU]; exact hPc, va_K.moved hW.alike hKm, hDc.weaken (fun _ _ _ _ => trivial), hRs.warm hW⟩⟩ rfl hn hsz hst hW hdg hf) hS (fun q _ h => hFc q h) hFc (fun r u t H1 locs1 ht hvm hw hB hz1 hk1 hS => ?_)
  obtain ⟨hw1, hw2⟩ := hw
  obtain ⟨hP1, hK1, hD1⟩ := hB
  rw [ht] at hP1
  obtain ⟨hP2, hD2⟩ := va_join (wr := cW ad T.1 (cc cI cJ cZ cMic cSrc cSt cAI cAJ ad T) ++ [o1] ++ [o2]) (w1 := MW cI cJ cZ am u) hP hD _ _ hC hR (va_nd_range _) l_disC hk1 hFc hP1 hD1
  rw [hw1]
  rw [hw2] at hP2 hD2
  refine kk H1 locs1 ?_
  unfold gL
  rw [List.append_cons, List.append_cons]
  exact ⟨hP2, hD2, hS⟩
/-- the law calls the reference -/
theorem y_ml {p : Program} {l : Launch} {e : Env} {R : Room} {s : State} {m : MethodId} {args : Array Value} {below : List Frame} {meth : Method} {c : Code} {H : Heap} {locs : List Loc} {cells slots : Nat} {Q : State → Prop} {cc0 : ByteArray} {pc : Nat} {ls : Array Slot} {rest : List Value} {D : va_G} {A : Nat → Prop} {Ts : List Cond} {own : String} {cI cJ cZ cMic cSrc cSt cAI cAJ cD : ClassId} {ad : Nat → Nat} {am : Nat → Nat} {Sm : MS} {T : AT} {o1 o2 : Nat × va_E} {y : MethodName} {bytes : ByteArray} {maxL nL n index fr lo : Nat} {ret : Option FieldType} {ws : List Cond} {As : List Value} {r1 : Int64} {S1 : MS} (E : cE p c cc0 s m args Ts D own (CT cI cJ cZ cMic cSrc cSt cAI cAJ ++ [(cD, .double)])) (G : gL cI cJ cZ cMic cSrc cSt cAI cAJ D ad A s.heap H locs T (o1 :: o2 :: MW cI cJ cZ am Sm)) (hA : ∀ q, s.heap.size ≤ q → A q) (hRs : sR s) (hml : c.maxLocals = nL) (hM : mCl l y ws fr lo D cI cJ cZ am Sm As (fun r S2 => r = r1 ∧ S2 = S1)) (cw : CallW R s args own RX12 index y bytes maxL ret ws { frames := fr, cells := 0, slots := 0, locals := lo } 0 0 n) (hn : As.length = n) (hsz : ls.size = nL) {st : List Value} (hst : st = As.reverse ++ .ref (am 0) :: rest) (hW : 2 * (F0 m pc ls st).monitorRoom + (rest.map fun v => v.category).sum ≤ 8) (hdg : decode cc0 pc = .ok (.invokevirtual index, 3)) (hf : cells + 0 ≤ R.cells ∧ slots + 0 ≤ R.slots) (kk : ∀ (H1 : Heap) (locs1 : List Loc), gL cI cJ cZ cMic cSrc cSt cAI cAJ D ad A s.heap H1 locs1 T (o1 :: o2 :: MW cI cJ cZ am S1) → W p l e R s m args below meth c H1 locs1 cells slots Q (F0 m (pc + 3) ls (.long r1 :: rest))) : W p l e R s m args below meth c H locs cells slots Q (F0 m pc ls st) := by
  obtain ⟨hx, hb, hts, hown, hK⟩ := E
  obtain ⟨hP, hD, hS⟩ := G
  rw [List.append_cons, List.append_cons] at hP hD
  have hKm : va_K D vwCl (MT cI cJ cZ) s := hK.sub [0, 1, 2] rfl
  have hR := x_allC (cW ad T.1 (cc cI cJ cZ cMic cSrc cSt cAI cAJ ad T) ++ [o1] ++ [o2]) (MW cI cJ cZ am Sm)
  have hC := x_allM (cW ad T.1 (cc cI cJ cZ cMic cSrc cSt cAI cAJ ad T) ++ [o1] ++ [o2]) (MW cI cJ cZ am Sm)
  have hFc := va_free (wc := MW cI cJ cZ am Sm) hD hS hA _ hC
  have hPc : va_P D vwCl (MW cI cJ cZ am Sm) H := hP.sub _ (l_fm hC)
  have hDc : va_D A (MW cI cJ cZ am Sm) := hD.sub _ (l_ndM _ _) hC
  refine va_calll (va_runV (As := As) (rest := rest) ⟨hx, hb, hml, hown, hts⟩ (hM H.size) cw ⟨fun a U g mk q => by obtain ⟨q0, q1, qP, qK, qD, qR⟩ := q; exact ⟨q0, q1, qP, va_K.moved (u := U) (U := U.calling g mk a) (Vm.Alike.refl U.vm) qK, qD, qR.blind⟩, va_recv hKm hPc (ci := 12) (q0 := 0) rfl rfl, fun U hU hW => ⟨rfl, by rw [hU], by rw [hU]; exact hPc, va_K.moved hW.alike hKm, hDc.weaken (fun _ _ _ _ => trivial), hRs.warm hW⟩⟩ rfl hn hsz hst hW hdg hf) hS (fun q _ h => hFc q h) hFc (fun r u t H1 locs1 ht hvm hw hB hz1 hk1 hS => ?_)
  obtain ⟨hw1, hw2⟩ := hw
  obtain ⟨hP1, hK1, hD1⟩ := hB
  rw [ht] at hP1
  obtain ⟨hP2, hD2⟩ := va_join (wr := cW ad T.1 (cc cI cJ cZ cMic cSrc cSt cAI cAJ ad T) ++ [o1] ++ [o2]) (w1 := MW cI cJ cZ am u) hP hD _ _ hC hR (va_nd_range _) l_disC hk1 hFc hP1 hD1
  rw [hw1]
  rw [hw2] at hP2 hD2
  refine kk H1 locs1 ?_
  unfold gL
  rw [List.append_cons, List.append_cons]
  exact ⟨hP2, hD2, hS⟩
/-- the law calls the reference -/
theorem y_mf {p : Program} {l : Launch} {e : Env} {R : Room} {s : State} {m : MethodId} {args : Array Value} {below : List Frame} {meth : Method} {c : Code} {H : Heap} {locs : List Loc} {cells slots : Nat} {Q : State → Prop} {cc0 : ByteArray} {pc : Nat} {ls : Array Slot} {rest : List Value} {D : va_G} {A : Nat → Prop} {Ts : List Cond} {own : String} {cI cJ cZ cMic cSrc cSt cAI cAJ cD : ClassId} {ad : Nat → Nat} {am : Nat → Nat} {Sm : MS} {T : AT} {o1 o2 : Nat × va_E} {y : MethodName} {bytes : ByteArray} {maxL nL n index fr lo : Nat} {ret : Option FieldType} {ws : List Cond} {As : List Value} {r1 : UInt32} {S1 : MS} (E : cE p c cc0 s m args Ts D own (CT cI cJ cZ cMic cSrc cSt cAI cAJ ++ [(cD, .double)])) (G : gL cI cJ cZ cMic cSrc cSt cAI cAJ D ad A s.heap H locs T (o1 :: o2 :: MW cI cJ cZ am Sm)) (hA : ∀ q, s.heap.size ≤ q → A q) (hRs : sR s) (hml : c.maxLocals = nL) (hM : mCf l y ws fr lo D cI cJ cZ am Sm As (fun r S2 => r = r1 ∧ S2 = S1)) (cw : CallW R s args own RX12 index y bytes maxL ret ws { frames := fr, cells := 0, slots := 0, locals := lo } 0 0 n) (hn : As.length = n) (hsz : ls.size = nL) {st : List Value} (hst : st = As.reverse ++ .ref (am 0) :: rest) (hW : 2 * (F0 m pc ls st).monitorRoom + (rest.map fun v => v.category).sum ≤ 8) (hdg : decode cc0 pc = .ok (.invokevirtual index, 3)) (hf : cells + 0 ≤ R.cells ∧ slots + 0 ≤ R.slots) (kk : ∀ (H1 : Heap) (locs1 : List Loc), gL cI cJ cZ cMic cSrc cSt cAI cAJ D ad A s.heap H1 locs1 T (o1 :: o2 :: MW cI cJ cZ am S1) → W p l e R s m args below meth c H1 locs1 cells slots Q (F0 m (pc + 3) ls (.float r1 :: rest))) : W p l e R s m args below meth c H locs cells slots Q (F0 m pc ls st) := by
  obtain ⟨hx, hb, hts, hown, hK⟩ := E
  obtain ⟨hP, hD, hS⟩ := G
  rw [List.append_cons, List.append_cons] at hP hD
  have hKm : va_K D vwCl (MT cI cJ cZ) s := hK.sub [0, 1, 2] rfl
  have hR := x_allC (cW ad T.1 (cc cI cJ cZ cMic cSrc cSt cAI cAJ ad T) ++ [o1] ++ [o2]) (MW cI cJ cZ am Sm)
  have hC := x_allM (cW ad T.1 (cc cI cJ cZ cMic cSrc cSt cAI cAJ ad T) ++ [o1] ++ [o2]) (MW cI cJ cZ am Sm)
  have hFc := va_free (wc := MW cI cJ cZ am Sm) hD hS hA _ hC
  have hPc : va_P D vwCl (MW cI cJ cZ am Sm) H := hP.sub _ (l_fm hC)
  have hDc : va_D A (MW cI cJ cZ am Sm) := hD.sub _ (l_ndM _ _) hC
  refine va_callf (va_runV (As := As) (rest := rest) ⟨hx, hb, hml, hown, hts⟩ (hM H.size) cw ⟨fun a U g mk q => by obtain ⟨q0, q1, qP, qK, qD, qR⟩ := q; exact ⟨q0, q1, qP, va_K.moved (u := U) (U := U.calling g mk a) (Vm.Alike.refl U.vm) qK, qD, qR.blind⟩, va_recv hKm hPc (ci := 12) (q0 := 0) rfl rfl, fun U hU hW => ⟨rfl, by rw [hU], by rw [hU]; exact hPc, va_K.moved hW.alike hKm, hDc.weaken (fun _ _ _ _ => trivial), hRs.warm hW⟩⟩ rfl hn hsz hst hW hdg hf) hS (fun q _ h => hFc q h) hFc (fun r u t H1 locs1 ht hvm hw hB hz1 hk1 hS => ?_)
  obtain ⟨hw1, hw2⟩ := hw
  obtain ⟨hP1, hK1, hD1⟩ := hB
  rw [ht] at hP1
  obtain ⟨hP2, hD2⟩ := va_join (wr := cW ad T.1 (cc cI cJ cZ cMic cSrc cSt cAI cAJ ad T) ++ [o1] ++ [o2]) (w1 := MW cI cJ cZ am u) hP hD _ _ hC hR (va_nd_range _) l_disC hk1 hFc hP1 hD1
  rw [hw1]
  rw [hw2] at hP2 hD2
  refine kk H1 locs1 ?_
  unfold gL
  rw [List.append_cons, List.append_cons]
  exact ⟨hP2, hD2, hS⟩
/-- the law calls the reference -/
theorem y_miX {p : Program} {l : Launch} {e : Env} {R : Room} {s : State} {m : MethodId} {args : Array Value} {below : List Frame} {meth : Method} {c : Code} {H : Heap} {locs : List Loc} {cells slots : Nat} {Q : State → Prop} {cc0 : ByteArray} {pc : Nat} {ls : Array Slot} {rest : List Value} {D : va_G} {A : Nat → Prop} {Ts : List Cond} {own : String} {cI cJ cZ cMic cSrc cSt cAI cAJ cD : ClassId} {ad : Nat → Nat} {am : Nat → Nat} {Sm : MS} {T : AT} {o1 o2 : Nat × va_E} {y : MethodName} {bytes : ByteArray} {maxL nL n index fr lo h0 : Nat} {ret : Option FieldType} {ws : List Cond} {As : List Value} {r1 : Int32} {S1 : MS} (E : cE p c cc0 s m args Ts D own (CT cI cJ cZ cMic cSrc cSt cAI cAJ ++ [(cD, .double)])) (G : gL cI cJ cZ cMic cSrc cSt cAI cAJ D ad A s.heap H locs T (o1 :: o2 :: MW cI cJ cZ am Sm)) (hA : ∀ q, s.heap.size ≤ q → A q) (hA0 : ∀ a : Nat, A a → h0 ≤ a) (hTS : sAll h0 s) (hRs : sR s) (hml : c.maxLocals = nL) (hM : mCiX l y ws fr lo D cI cJ cZ am Sm As (xT0 cI cJ cZ h0 am Sm) (fun r S2 => r = r1 ∧ S2 = S1)) (cw : CallW R s args own RX12 index y bytes maxL ret ws { frames := fr, cells := 0, slots := 0, locals := lo } 0 0 n) (hn : As.length = n) (hsz : ls.size = nL) {st : List Value} (hst : st = As.reverse ++ .ref (am 0) :: rest) (hW : 2 * (F0 m pc ls st).monitorRoom + (rest.map fun v => v.category).sum ≤ 8) (hdg : decode cc0 pc = .ok (.invokevirtual index, 3)) (hf : cells + 0 ≤ R.cells ∧ slots + 0 ≤ R.slots) (kk : ∀ (H1 : Heap) (locs1 : List Loc), gL cI cJ cZ cMic cSrc cSt cAI cAJ D ad A s.heap H1 locs1 T (o1 :: o2 :: MW cI cJ cZ am S1) → W p l e R s m args below meth c H1 locs1 cells slots Q (F0 m (pc + 3) ls (.int r1 :: rest))) : W p l e R s m args below meth c H locs cells slots Q (F0 m pc ls st) := by
  obtain ⟨hx, hb, hts, hown, hK⟩ := E
  obtain ⟨hP, hD, hS⟩ := G
  rw [List.append_cons, List.append_cons] at hP hD
  have hKm : va_K D vwCl (MT cI cJ cZ) s := hK.sub [0, 1, 2] rfl
  have hR := x_allC (cW ad T.1 (cc cI cJ cZ cMic cSrc cSt cAI cAJ ad T) ++ [o1] ++ [o2]) (MW cI cJ cZ am Sm)
  have hC := x_allM (cW ad T.1 (cc cI cJ cZ cMic cSrc cSt cAI cAJ ad T) ++ [o1] ++ [o2]) (MW cI cJ cZ am Sm)
  have hFc := va_free (wc := MW cI cJ cZ am Sm) hD hS hA _ hC
  have hPc : va_P D vwCl (MW cI cJ cZ am Sm) H := hP.sub _ (l_fm hC)
  have hDc : va_D A (MW cI cJ cZ am Sm) := hD.sub _ (l_ndM _ _) hC
  refine va_calli (va_runV (As := As) (rest := rest) ⟨hx, hb, hml, hown, hts⟩ (hM H.size) cw ⟨fun a U g mk q => by obtain ⟨q0, ⟨q1, qP, qK, qD, qR⟩, qY⟩ := q; exact ⟨q0, ⟨q1, qP, va_K.moved (u := U) (U := U.calling g mk a) (Vm.Alike.refl U.vm) qK, qD, qR.blind⟩, xT0.blind _ _ _ _ _ qY⟩, va_recv hKm hPc (ci := 12) (q0 := 0) rfl rfl, fun U hU hW => ⟨rfl, ⟨by rw [hU], by rw [hU]; exact hPc, va_K.moved hW.alike hKm, hDc.weaken (fun _ _ _ _ => trivial), hRs.warm hW⟩, ⟨fun a h => hA0 a (hFc a h), hTS.moved hA0 hS hU hW⟩⟩⟩ rfl hn hsz hst hW hdg hf) hS (fun q _ h => hFc q h) hFc (fun r u t H1 locs1 ht hvm hw hB hz1 hk1 hS => ?_)
  obtain ⟨hw1, hw2⟩ := hw
  obtain ⟨hP1, hK1, hD1⟩ := hB
  rw [ht] at hP1
  obtain ⟨hP2, hD2⟩ := va_join (wr := cW ad T.1 (cc cI cJ cZ cMic cSrc cSt cAI cAJ ad T) ++ [o1] ++ [o2]) (w1 := MW cI cJ cZ am u) hP hD _ _ hC hR (va_nd_range _) l_disC hk1 hFc hP1 hD1
  rw [hw1]
  rw [hw2] at hP2 hD2
  refine kk H1 locs1 ?_
  unfold gL
  rw [List.append_cons, List.append_cons]
  exact ⟨hP2, hD2, hS⟩
/-- the two arrays of answers change places -/
theorem gL_swap {D : va_G} {A : Nat → Prop} {H0 H : Heap} {locs : List Loc} {cI cJ cZ cMic cSrc cSt cAI cAJ : ClassId} {ad : Nat → Nat} {T : AT} {o1 o2 : Nat × va_E} {W2 : va_W} (G : gL cI cJ cZ cMic cSrc cSt cAI cAJ D ad A H0 H locs T (o1 :: o2 :: W2)) : gL cI cJ cZ cMic cSrc cSt cAI cAJ D ad A H0 H locs T (o2 :: o1 :: W2) := by
  have hp : (cW ad T.1 (cc cI cJ cZ cMic cSrc cSt cAI cAJ ad T) ++ o1 :: o2 :: W2).Perm (cW ad T.1 (cc cI cJ cZ cMic cSrc cSt cAI cAJ ad T) ++ o2 :: o1 :: W2) := List.Perm.append_left _ (List.Perm.swap _ _ _)
  exact ⟨va_P_perm hp G.1, va_D_perm hp G.2.1, G.2.2⟩
theorem t_last {p : Program} {l : Launch} {e : Env} {R : Room} {s : State} {m : MethodId} {args : Array Value} {below : List Frame} {meth : Method} {c : Code} {H : Heap} {locs : List Loc} {cells slots : Nat} {Q : State → Prop} {cc0 : ByteArray} {pc : Nat} {ls : Array Slot} {rest : List Value} {D : va_G} {A : Nat → Prop} {Ts : List Cond} {own : String} {cI cJ cZ cMic cSrc cSt cAI cAJ cD : ClassId} {ad : Nat → Nat} {T : AT} {W2 : va_W} {ao : Nat} {f : Nat → Int64} {x : Int64} (E : cE p c cc0 s m args Ts D own (CT cI cJ cZ cMic cSrc cSt cAI cAJ ++ [(cD, .double)])) (G : gL cI cJ cZ cMic cSrc cSt cAI cAJ D ad A s.heap H locs T (oJ ao cJ f :: W2)) (hdg : decode cc0 pc = .ok (.lastore, 1)) (kk : ∀ (H1 : Heap) (locs1 : List Loc), gL cI cJ cZ cMic cSrc cSt cAI cAJ D ad A s.heap H1 locs1 T (oJ ao cJ (vp_updL f 0 x) :: W2) → W p l e R s m args below meth c H1 locs1 cells slots Q (F0 m (pc + 1) ls rest)) : W p l e R s m args below meth c H locs cells slots Q (F0 m pc ls (.long x :: .int 0 :: .ref ao :: rest)) := by
  obtain ⟨hP, hD, hS⟩ := G
  refine va_last E.1 E.2.1 E.2.2.2.2 hP hD hS T.1 1 (tW_at _ _ _ _ _) rfl (vp_in_nI (n := 0) (N := 1) (by decide) (by decide)) hdg (fun H1 locs1 h1 h2 h3 => kk H1 locs1 ?_)
  rw [show (0 : Int32).toNatClampNeg = 0 from by decide, tW_set] at h1 h2
  exact ⟨h1, h2, h3⟩
theorem t_dast {p : Program} {l : Launch} {e : Env} {R : Room} {s : State} {m : MethodId} {args : Array Value} {below : List Frame} {meth : Method} {c : Code} {H : Heap} {locs : List Loc} {cells slots : Nat} {Q : State → Prop} {cc0 : ByteArray} {pc : Nat} {ls : Array Slot} {rest : List Value} {D : va_G} {A : Nat → Prop} {Ts : List Cond} {own : String} {cI cJ cZ cMic cSrc cSt cAI cAJ cD : ClassId} {ad : Nat → Nat} {T : AT} {W2 : va_W} {ao : Nat} {f : Nat → UInt64} {x : UInt64} (E : cE p c cc0 s m args Ts D own (CT cI cJ cZ cMic cSrc cSt cAI cAJ ++ [(cD, .double)])) (G : gL cI cJ cZ cMic cSrc cSt cAI cAJ D ad A s.heap H locs T (oD ao cD f :: W2)) (hdg : decode cc0 pc = .ok (.dastore, 1)) (kk : ∀ (H1 : Heap) (locs1 : List Loc), gL cI cJ cZ cMic cSrc cSt cAI cAJ D ad A s.heap H1 locs1 T (oD ao cD (vf_upd f 0 x) :: W2) → W p l e R s m args below meth c H1 locs1 cells slots Q (F0 m (pc + 1) ls rest)) : W p l e R s m args below meth c H locs cells slots Q (F0 m pc ls (.double x :: .int 0 :: .ref ao :: rest)) := by
  obtain ⟨hP, hD, hS⟩ := G
  refine va_dast E.1 E.2.1 E.2.2.2.2 hP hD hS T.1 8 (tW_at _ _ _ _ _) rfl (vp_in_nI (n := 0) (N := 1) (by decide) (by decide)) hdg (fun H1 locs1 h1 h2 h3 => kk H1 locs1 ?_)
  rw [show (0 : Int32).toNatClampNeg = 0 from by decide, tW_set] at h1 h2
  exact ⟨h1, h2, h3⟩
end
section
/-! 14b.cd.lean.txt -/
/-! the codes that a throwing method may give -/
def CD {α : Type} (S : List Nat) (x : Option (Nat × α × AT)) : Prop := ∀ k r T, x = some (k, r, T) → k ∈ S
section
variable {α β : Type} {S : List Nat}
theorem cd_none : CD (α := α) S none := fun _ _ _ h => by cases h
theorem cd_some {k : Nat} {r : α} {T : AT} (h : k ∈ S) : CD S (some (k, r, T)) := fun _ _ _ e => by rw [← (osome3 e).1]; exact h
theorem cd_oif {c : Prop} [Decidable c] {x : Option (Nat × α × AT)} (h : CD S x) : CD S (oif c x) := fun k r T e => by
  unfold oif at e
  split at e
  · exact h k r T e
  · cases e
theorem cd_elet {γ : Type} {v : γ} {f : γ → Option (Nat × α × AT)} (h : ∀ v, CD S (f v)) : CD S (elet v f) := h v
theorem cd_obind {γ : Type} {x : Option γ} {f : γ → Option (Nat × α × AT)} (h : ∀ v, CD S (f v)) : CD S (obind x f) := fun k r T e => by
  obtain ⟨v, -, e⟩ := obind_some e
  exact h v k r T e
theorem cd_obind2 {γ δ : Type} {x : Option (γ × δ)} {f : γ → δ → Option (Nat × α × AT)} (h : ∀ v w, CD S (f v w)) : CD S (obind2 x f) := fun k r T e => by
  obtain ⟨v, w, -, e⟩ := obind2_some e
  exact h v w k r T e
theorem cd_othr {x : Option (Nat × α × AT)} {z : β} {f : α → AT → Option (Nat × β × AT)} (h0 : CD S x) (h : ∀ v w, CD S (f v w)) : CD S (othr x z f) := fun k r T e => by
  rcases othr_s e with ⟨k9, r9, e9, e1⟩ | ⟨r9, T9, -, e1⟩
  · rw [e1]; exact h0 _ _ _ e9
  · exact h r9 T9 k r T e1
theorem cd_ite {c : Prop} [Decidable c] {x y : Option (Nat × α × AT)} (h1 : CD S x) (h2 : CD S y) : CD S (if c then x else y) := by
  split
  · exact h1
  · exact h2
end
set_option maxRecDepth 100000 in
theorem cd_g_X3_failAt_b34 {S : List Nat} (hS : ∀ k, k ∈ ([3] : List Nat) → k ∈ S) (T : AT) (s0 : Int32) (s1 : Nat) : CD S (g_X3_failAt_b34 T s0 s1) := by
  unfold g_X3_failAt_b34
  refine cd_oif ?_
  refine cd_elet (fun T3 => ?_)
  exact cd_some (hS _ (by decide))
set_option maxRecDepth 100000 in
theorem cd_g_X3_failAt_b33 {S : List Nat} (hS : ∀ k, k ∈ ([3] : List Nat) → k ∈ S) (T : AT) (s0 : Nat) : CD S (g_X3_failAt_b33 T s0) := by
  unfold g_X3_failAt_b33
  exact cd_g_X3_failAt_b34 (fun k h => hS k ((by decide : ∀ k, k ∈ ([3] : List Nat) → k ∈ ([3] : List Nat)) k h)) _ _ _
set_option maxRecDepth 100000 in
theorem cd_g_X3_failAt {S : List Nat} (hS : ∀ k, k ∈ ([3] : List Nat) → k ∈ S) (T : AT) (o : Nat) (a0 : Int32) (a1 : Int32) : CD S (g_X3_failAt T o a0 a1) := by
  unfold g_X3_failAt
  refine cd_oif ?_
  refine cd_elet (fun T3 => ?_)
  refine cd_ite ?_ ?_
  · exact cd_g_X3_failAt_b33 (fun k h => hS k ((by decide : ∀ k, k ∈ ([3] : List Nat) → k ∈ ([3] : List Nat)) k h)) _ _
  · refine cd_oif ?_
    refine cd_obind (fun n6 => ?_)
    refine cd_oif ?_
    refine cd_elet (fun v8 => ?_)
    refine cd_ite ?_ ?_
    · exact cd_g_X3_failAt_b33 (fun k h => hS k ((by decide : ∀ k, k ∈ ([3] : List Nat) → k ∈ ([3] : List Nat)) k h)) _ _
    · refine cd_oif ?_
      refine cd_obind (fun n11 => ?_)
      refine cd_oif ?_
      refine cd_obind (fun n13 => ?_)
      refine cd_oif ?_
      refine cd_oif ?_
      refine cd_elet (fun v16 => ?_)
      exact cd_g_X3_failAt_b34 (fun k h => hS k ((by decide : ∀ k, k ∈ ([3] : List Nat) → k ∈ ([3] : List Nat)) k h)) _ _ _
set_option maxRecDepth 100000 in
theorem cd_g_X3_takeWord_b17 {S : List Nat} (hS : ∀ k, k ∈ ([0] : List Nat) → k ∈ S) (tx : Nat × (Nat → Int32)) (T : AT) (l0 : Nat) : CD S (g_X3_takeWord_b17 tx T l0) := by
  unfold g_X3_takeWord_b17
  refine cd_oif ?_
  refine cd_elet (fun v3 => ?_)
  refine cd_elet (fun v4 => ?_)
  refine cd_oif ?_
  refine cd_elet (fun T6 => ?_)
  exact cd_some (hS _ (by decide))
set_option maxRecDepth 100000 in
theorem cd_g_X3_takeWord {S : List Nat} (hS : ∀ k, k ∈ ([0, 3] : List Nat) → k ∈ S) (T : AT) (tx : Nat × (Nat → Int32)) (o : Nat) : CD S (g_X3_takeWord T tx o) := by
  unfold g_X3_takeWord
  refine cd_oif ?_
  refine cd_obind2 (fun r5 T3 => ?_)
  refine cd_ite ?_ ?_
  · refine cd_oif ?_
    refine cd_elet (fun v9 => ?_)
    refine cd_oif ?_
    refine cd_othr (cd_g_X3_failAt (fun k h => hS k ((by decide : ∀ k, k ∈ ([3] : List Nat) → k ∈ ([0, 3] : List Nat)) k h)) _ _ _ _) (fun r13 T11 => ?_)
    exact cd_g_X3_takeWord_b17 (fun k h => hS k ((by decide : ∀ k, k ∈ ([0] : List Nat) → k ∈ ([0, 3] : List Nat)) k h)) _ _ _
  · exact cd_g_X3_takeWord_b17 (fun k h => hS k ((by decide : ∀ k, k ∈ ([0] : List Nat) → k ∈ ([0, 3] : List Nat)) k h)) _ _ _
set_option maxRecDepth 100000 in
theorem cd_g_X3_number_b41 {S : List Nat} (hS : ∀ k, k ∈ ([0] : List Nat) → k ∈ S) (T : AT) (l0 : Nat) (l3 : Int32) : CD S (g_X3_number_b41 T l0 l3) := by
  unfold g_X3_number_b41
  refine cd_oif ?_
  refine cd_elet (fun v3 => ?_)
  refine cd_elet (fun v4 => ?_)
  refine cd_oif ?_
  refine cd_elet (fun T6 => ?_)
  exact cd_some (hS _ (by decide))
set_option maxRecDepth 100000 in
theorem cd_g_X3_number_b32 {S : List Nat} (hS : ∀ k, k ∈ ([0, 3] : List Nat) → k ∈ S) (T : AT) (l0 : Nat) (l3 : Int32) : CD S (g_X3_number_b32 T l0 l3) := by
  unfold g_X3_number_b32
  refine cd_oif ?_
  refine cd_elet (fun v3 => ?_)
  refine cd_oif ?_
  refine cd_othr (cd_g_X3_failAt (fun k h => hS k ((by decide : ∀ k, k ∈ ([3] : List Nat) → k ∈ ([0, 3] : List Nat)) k h)) _ _ _ _) (fun r7 T5 => ?_)
  exact cd_g_X3_number_b41 (fun k h => hS k ((by decide : ∀ k, k ∈ ([0] : List Nat) → k ∈ ([0, 3] : List Nat)) k h)) _ _ _
set_option maxRecDepth 100000 in
theorem cd_g_X3_number_b17 {S : List Nat} (hS : ∀ k, k ∈ ([0, 3] : List Nat) → k ∈ S) (T : AT) (l0 : Nat) (l1 : Int32) (l2 : Int32) : CD S (g_X3_number_b17 T l0 l1 l2) := by
  unfold g_X3_number_b17
  refine cd_oif ?_
  refine cd_obind2 (fun r5 T3 => ?_)
  refine cd_ite ?_ ?_
  · exact cd_g_X3_number_b32 (fun k h => hS k ((by decide : ∀ k, k ∈ ([0, 3] : List Nat) → k ∈ ([0, 3] : List Nat)) k h)) _ _ _
  · refine cd_ite ?_ ?_
    · exact cd_g_X3_number_b41 (fun k h => hS k ((by decide : ∀ k, k ∈ ([0] : List Nat) → k ∈ ([0, 3] : List Nat)) k h)) _ _ _
    · exact cd_g_X3_number_b32 (fun k h => hS k ((by decide : ∀ k, k ∈ ([0, 3] : List Nat) → k ∈ ([0, 3] : List Nat)) k h)) _ _ _
set_option maxRecDepth 100000 in
theorem cd_g_X3_number {S : List Nat} (hS : ∀ k, k ∈ ([0, 3] : List Nat) → k ∈ S) (T : AT) (o : Nat) (a0 : Int32) (a1 : Int32) : CD S (g_X3_number T o a0 a1) := by
  unfold g_X3_number
  refine cd_oif ?_
  refine cd_obind2 (fun r5 T3 => ?_)
  refine cd_ite ?_ ?_
  · exact cd_g_X3_number_b17 (fun k h => hS k ((by decide : ∀ k, k ∈ ([0, 3] : List Nat) → k ∈ ([0, 3] : List Nat)) k h)) _ _ _ _
  · refine cd_oif ?_
    refine cd_elet (fun v9 => ?_)
    refine cd_oif ?_
    refine cd_othr (cd_g_X3_failAt (fun k h => hS k ((by decide : ∀ k, k ∈ ([3] : List Nat) → k ∈ ([0, 3] : List Nat)) k h)) _ _ _ _) (fun r13 T11 => ?_)
    exact cd_g_X3_number_b17 (fun k h => hS k ((by decide : ∀ k, k ∈ ([0, 3] : List Nat) → k ∈ ([0, 3] : List Nat)) k h)) _ _ _ _
set_option maxRecDepth 100000 in
theorem cd_g_X3_parseHead {S : List Nat} (hS : ∀ k, k ∈ ([0, 3] : List Nat) → k ∈ S) (T : AT) (o : Nat) (a0 : Nat) : CD S (g_X3_parseHead T o a0) := by
  unfold g_X3_parseHead
  refine cd_oif ?_
  refine cd_othr (cd_g_X3_takeWord (fun k h => hS k ((by decide : ∀ k, k ∈ ([0, 3] : List Nat) → k ∈ ([0, 3] : List Nat)) k h)) _ _ _) (fun r6 T4 => ?_)
  refine cd_oif ?_
  refine cd_othr (cd_g_X3_takeWord (fun k h => hS k ((by decide : ∀ k, k ∈ ([0, 3] : List Nat) → k ∈ ([0, 3] : List Nat)) k h)) _ _ _) (fun r12 T10 => ?_)
  refine cd_oif ?_
  refine cd_othr (cd_g_X3_number (fun k h => hS k ((by decide : ∀ k, k ∈ ([0, 3] : List Nat) → k ∈ ([0, 3] : List Nat)) k h)) _ _ _ _) (fun r17 T15 => ?_)
  refine cd_oif ?_
  refine cd_elet (fun T20 => ?_)
  refine cd_oif ?_
  refine cd_othr (cd_g_X3_takeWord (fun k h => hS k ((by decide : ∀ k, k ∈ ([0, 3] : List Nat) → k ∈ ([0, 3] : List Nat)) k h)) _ _ _) (fun r25 T23 => ?_)
  refine cd_oif ?_
  refine cd_othr (cd_g_X3_number (fun k h => hS k ((by decide : ∀ k, k ∈ ([0, 3] : List Nat) → k ∈ ([0, 3] : List Nat)) k h)) _ _ _ _) (fun r30 T28 => ?_)
  refine cd_oif ?_
  refine cd_elet (fun T33 => ?_)
  refine cd_oif ?_
  refine cd_othr (cd_g_X3_takeWord (fun k h => hS k ((by decide : ∀ k, k ∈ ([0, 3] : List Nat) → k ∈ ([0, 3] : List Nat)) k h)) _ _ _) (fun r38 T36 => ?_)
  refine cd_oif ?_
  refine cd_othr (cd_g_X3_number (fun k h => hS k ((by decide : ∀ k, k ∈ ([0, 3] : List Nat) → k ∈ ([0, 3] : List Nat)) k h)) _ _ _ _) (fun r43 T41 => ?_)
  refine cd_oif ?_
  refine cd_elet (fun T46 => ?_)
  refine cd_oif ?_
  refine cd_othr (cd_g_X3_takeWord (fun k h => hS k ((by decide : ∀ k, k ∈ ([0, 3] : List Nat) → k ∈ ([0, 3] : List Nat)) k h)) _ _ _) (fun r51 T49 => ?_)
  refine cd_oif ?_
  refine cd_othr (cd_g_X3_number (fun k h => hS k ((by decide : ∀ k, k ∈ ([0, 3] : List Nat) → k ∈ ([0, 3] : List Nat)) k h)) _ _ _ _) (fun r56 T54 => ?_)
  refine cd_oif ?_
  refine cd_elet (fun T59 => ?_)
  exact cd_some (hS _ (by decide))
set_option maxRecDepth 100000 in
theorem cd_g_X3_startLine_b13 {S : List Nat} (hS : ∀ k, k ∈ ([0] : List Nat) → k ∈ S) (T : AT) (l0 : Nat) : CD S (g_X3_startLine_b13 T l0) := by
  unfold g_X3_startLine_b13
  refine cd_oif ?_
  refine cd_elet (fun v3 => ?_)
  refine cd_elet (fun v4 => ?_)
  refine cd_oif ?_
  refine cd_elet (fun T6 => ?_)
  exact cd_some (hS _ (by decide))
set_option maxRecDepth 100000 in
theorem cd_g_X3_startLine {S : List Nat} (hS : ∀ k, k ∈ ([0, 3] : List Nat) → k ∈ S) (T : AT) (o : Nat) (a0 : Int32) (a1 : Int32) : CD S (g_X3_startLine T o a0 a1) := by
  unfold g_X3_startLine
  refine cd_ite ?_ ?_
  · exact cd_g_X3_startLine_b13 (fun k h => hS k ((by decide : ∀ k, k ∈ ([0] : List Nat) → k ∈ ([0, 3] : List Nat)) k h)) _ _
  · refine cd_oif ?_
    refine cd_elet (fun v4 => ?_)
    refine cd_oif ?_
    refine cd_othr (cd_g_X3_failAt (fun k h => hS k ((by decide : ∀ k, k ∈ ([3] : List Nat) → k ∈ ([0, 3] : List Nat)) k h)) _ _ _ _) (fun r8 T6 => ?_)
    exact cd_g_X3_startLine_b13 (fun k h => hS k ((by decide : ∀ k, k ∈ ([0] : List Nat) → k ∈ ([0, 3] : List Nat)) k h)) _ _
set_option maxRecDepth 100000 in
theorem cd_g_X3_parseOff_b41 {S : List Nat} (hS : ∀ k, k ∈ ([0] : List Nat) → k ∈ S) (T : AT) (l1 : Nat) (l2 : Int32) : CD S (g_X3_parseOff_b41 T l1 l2) := by
  unfold g_X3_parseOff_b41
  refine cd_oif ?_
  refine cd_obind (fun n3 => ?_)
  refine cd_oif ?_
  refine cd_oif ?_
  refine cd_obind (fun n6 => ?_)
  refine cd_oif ?_
  refine cd_elet (fun T8 => ?_)
  exact cd_some (hS _ (by decide))
set_option maxRecDepth 100000 in
theorem cd_g_X3_parseOff {S : List Nat} (hS : ∀ k, k ∈ ([0, 3] : List Nat) → k ∈ S) (T : AT) (o : Nat) (a0 : Nat) : CD S (g_X3_parseOff T o a0) := by
  unfold g_X3_parseOff
  refine cd_oif ?_
  refine cd_othr (cd_g_X3_startLine (fun k h => hS k ((by decide : ∀ k, k ∈ ([0, 3] : List Nat) → k ∈ ([0, 3] : List Nat)) k h)) _ _ _ _) (fun r5 T3 => ?_)
  refine cd_oif ?_
  refine cd_elet (fun v8 => ?_)
  refine cd_elet (fun v9 => ?_)
  refine cd_oif ?_
  refine cd_othr (cd_g_X3_number (fun k h => hS k ((by decide : ∀ k, k ∈ ([0, 3] : List Nat) → k ∈ ([0, 3] : List Nat)) k h)) _ _ _ _) (fun r13 T11 => ?_)
  refine cd_oif ?_
  refine cd_obind (fun n16 => ?_)
  refine cd_oif ?_
  refine cd_oif ?_
  refine cd_obind (fun n19 => ?_)
  refine cd_oif ?_
  refine cd_elet (fun v21 => ?_)
  refine cd_ite ?_ ?_
  · exact cd_g_X3_parseOff_b41 (fun k h => hS k ((by decide : ∀ k, k ∈ ([0] : List Nat) → k ∈ ([0, 3] : List Nat)) k h)) _ _ _
  · refine cd_oif ?_
    refine cd_elet (fun v24 => ?_)
    refine cd_elet (fun v25 => ?_)
    refine cd_oif ?_
    refine cd_othr (cd_g_X3_failAt (fun k h => hS k ((by decide : ∀ k, k ∈ ([3] : List Nat) → k ∈ ([0, 3] : List Nat)) k h)) _ _ _ _) (fun r29 T27 => ?_)
    exact cd_g_X3_parseOff_b41 (fun k h => hS k ((by decide : ∀ k, k ∈ ([0] : List Nat) → k ∈ ([0, 3] : List Nat)) k h)) _ _ _
set_option maxRecDepth 100000 in
theorem cd_g_X3_failAsTooMany_b26 {S : List Nat} (hS : ∀ k, k ∈ ([0, 3] : List Nat) → k ∈ S) (T : AT) (s0 : Int32) (s1 : Int32) (s2 : Nat) : CD S (g_X3_failAsTooMany_b26 T s0 s1 s2) := by
  unfold g_X3_failAsTooMany_b26
  refine cd_oif ?_
  refine cd_othr (cd_g_X3_failAt (fun k h => hS k ((by decide : ∀ k, k ∈ ([3] : List Nat) → k ∈ ([0, 3] : List Nat)) k h)) _ _ _ _) (fun r5 T3 => ?_)
  exact cd_some (hS _ (by decide))
set_option maxRecDepth 100000 in
theorem cd_g_X3_failAsTooMany_b25 {S : List Nat} (hS : ∀ k, k ∈ ([0, 3] : List Nat) → k ∈ S) (T : AT) (s0 : Int32) (s1 : Nat) : CD S (g_X3_failAsTooMany_b25 T s0 s1) := by
  unfold g_X3_failAsTooMany_b25
  exact cd_g_X3_failAsTooMany_b26 (fun k h => hS k ((by decide : ∀ k, k ∈ ([0, 3] : List Nat) → k ∈ ([0, 3] : List Nat)) k h)) _ _ _ _
set_option maxRecDepth 100000 in
theorem cd_g_X3_failAsTooMany {S : List Nat} (hS : ∀ k, k ∈ ([0, 3] : List Nat) → k ∈ S) (T : AT) (o : Nat) (a0 : Int32) : CD S (g_X3_failAsTooMany T o a0) := by
  unfold g_X3_failAsTooMany
  refine cd_oif ?_
  refine cd_elet (fun v3 => ?_)
  refine cd_oif ?_
  refine cd_obind2 (fun r7 T5 => ?_)
  refine cd_ite ?_ ?_
  · refine cd_oif ?_
    refine cd_obind2 (fun r13 T11 => ?_)
    refine cd_ite ?_ ?_
    · exact cd_g_X3_failAsTooMany_b25 (fun k h => hS k ((by decide : ∀ k, k ∈ ([0, 3] : List Nat) → k ∈ ([0, 3] : List Nat)) k h)) _ _ _
    · exact cd_g_X3_failAsTooMany_b26 (fun k h => hS k ((by decide : ∀ k, k ∈ ([0, 3] : List Nat) → k ∈ ([0, 3] : List Nat)) k h)) _ _ _ _
  · exact cd_g_X3_failAsTooMany_b25 (fun k h => hS k ((by decide : ∀ k, k ∈ ([0, 3] : List Nat) → k ∈ ([0, 3] : List Nat)) k h)) _ _ _
set_option maxRecDepth 100000 in
theorem cd_g_X3_parseShade_b73 {S : List Nat} (hS : ∀ k, k ∈ ([0] : List Nat) → k ∈ S) (T : AT) : CD S (g_X3_parseShade_b73 T) := by
  unfold g_X3_parseShade_b73
  exact cd_some (hS _ (by decide))
set_option maxRecDepth 100000 in
theorem cd_g_X3_parseShade_b56 {S : List Nat} (hS : ∀ k, k ∈ ([0, 3] : List Nat) → k ∈ S) {k30 : AT → Nat → Nat → Int32 → Option (Nat × Int32 × AT)} (hk30 : ∀ (x0 : AT) (x1 : Nat) (x2 : Nat) (x3 : Int32), CD S (k30 x0 x1 x2 x3)) (T : AT) (l0 : Nat) (l1 : Nat) (l2 : Int32) : CD S (g_X3_parseShade_b56 k30 T l0 l1 l2) := by
  unfold g_X3_parseShade_b56
  refine cd_oif ?_
  refine cd_othr (cd_g_X3_number (fun k h => hS k ((by decide : ∀ k, k ∈ ([0, 3] : List Nat) → k ∈ ([0, 3] : List Nat)) k h)) _ _ _ _) (fun r5 T3 => ?_)
  refine cd_oif ?_
  refine cd_obind (fun T8 => ?_)
  refine cd_elet (fun v10 => ?_)
  exact hk30 _ _ _ _
set_option maxRecDepth 100000 in
theorem cd_g_X3_parseShade_b30 {S : List Nat} (hS : ∀ k, k ∈ ([0, 3] : List Nat) → k ∈ S) : ∀ (n : Nat) (T : AT) (l0 : Nat) (l1 : Nat) (l2 : Int32), CD S (g_X3_parseShade_b30 n T l0 l1 l2)
  | 0, _, _, _, _ => cd_none
  | n + 1, T, l0, l1, l2 => by
    have ih := cd_g_X3_parseShade_b30 hS n
    unfold g_X3_parseShade_b30
    refine cd_ite ?_ ?_
    · exact cd_g_X3_parseShade_b73 (fun k h => hS k ((by decide : ∀ k, k ∈ ([0] : List Nat) → k ∈ ([0, 3] : List Nat)) k h)) _
    · refine cd_oif ?_
      refine cd_obind2 (fun r6 T4 => ?_)
      refine cd_ite ?_ ?_
      · refine cd_ite ?_ ?_
        · refine cd_oif ?_
          refine cd_othr (cd_g_X3_failAsTooMany (fun k h => hS k ((by decide : ∀ k, k ∈ ([0, 3] : List Nat) → k ∈ ([0, 3] : List Nat)) k h)) _ _ _) (fun r13 T11 => ?_)
          exact cd_g_X3_parseShade_b56 (fun k h => hS k ((by decide : ∀ k, k ∈ ([0, 3] : List Nat) → k ∈ ([0, 3] : List Nat)) k h)) ih _ _ _ _
        · exact cd_g_X3_parseShade_b56 (fun k h => hS k ((by decide : ∀ k, k ∈ ([0, 3] : List Nat) → k ∈ ([0, 3] : List Nat)) k h)) ih _ _ _ _
      · exact cd_g_X3_parseShade_b73 (fun k h => hS k ((by decide : ∀ k, k ∈ ([0] : List Nat) → k ∈ ([0, 3] : List Nat)) k h)) _
set_option maxRecDepth 100000 in
theorem cd_g_X3_parseShade_b13 {S : List Nat} (hS : ∀ k, k ∈ ([0, 3] : List Nat) → k ∈ S) (T : AT) (s0 : Int32) (s1 : Nat) (l0 : Nat) (l1 : Nat) : CD S (g_X3_parseShade_b13 T s0 s1 l0 l1) := by
  unfold g_X3_parseShade_b13
  refine cd_oif ?_
  refine cd_othr (cd_g_X3_startLine (fun k h => hS k ((by decide : ∀ k, k ∈ ([0, 3] : List Nat) → k ∈ ([0, 3] : List Nat)) k h)) _ _ _ _) (fun r5 T3 => ?_)
  refine cd_oif ?_
  refine cd_othr (cd_g_X3_number (fun k h => hS k ((by decide : ∀ k, k ∈ ([0, 3] : List Nat) → k ∈ ([0, 3] : List Nat)) k h)) _ _ _ _) (fun r10 T8 => ?_)
  refine cd_oif ?_
  refine cd_obind (fun T13 => ?_)
  exact cd_g_X3_parseShade_b30 (fun k h => hS k ((by decide : ∀ k, k ∈ ([0, 3] : List Nat) → k ∈ ([0, 3] : List Nat)) k h)) _ _ _ _ _
set_option maxRecDepth 100000 in
theorem cd_g_X3_parseShade {S : List Nat} (hS : ∀ k, k ∈ ([0, 3] : List Nat) → k ∈ S) (T : AT) (o : Nat) (a0 : Nat) : CD S (g_X3_parseShade T o a0) := by
  unfold g_X3_parseShade
  refine cd_oif ?_
  refine cd_elet (fun v3 => ?_)
  refine cd_ite ?_ ?_
  · exact cd_g_X3_parseShade_b13 (fun k h => hS k ((by decide : ∀ k, k ∈ ([0, 3] : List Nat) → k ∈ ([0, 3] : List Nat)) k h)) _ _ _ _ _
  · exact cd_g_X3_parseShade_b13 (fun k h => hS k ((by decide : ∀ k, k ∈ ([0, 3] : List Nat) → k ∈ ([0, 3] : List Nat)) k h)) _ _ _ _ _
set_option maxRecDepth 100000 in
theorem cd_g_X3_parseZone_b14 {S : List Nat} (hS : ∀ k, k ∈ ([0, 3] : List Nat) → k ∈ S) (T : AT) (s0 : Int32) (s1 : Nat) (l0 : Nat) (l1 : Nat) : CD S (g_X3_parseZone_b14 T s0 s1 l0 l1) := by
  unfold g_X3_parseZone_b14
  refine cd_oif ?_
  refine cd_othr (cd_g_X3_startLine (fun k h => hS k ((by decide : ∀ k, k ∈ ([0, 3] : List Nat) → k ∈ ([0, 3] : List Nat)) k h)) _ _ _ _) (fun r5 T3 => ?_)
  refine cd_oif ?_
  refine cd_obind (fun n8 => ?_)
  refine cd_oif ?_
  refine cd_elet (fun v10 => ?_)
  refine cd_oif ?_
  refine cd_oif ?_
  refine cd_obind (fun n13 => ?_)
  refine cd_oif ?_
  refine cd_elet (fun v15 => ?_)
  refine cd_elet (fun v16 => ?_)
  refine cd_oif ?_
  refine cd_othr (cd_g_X3_number (fun k h => hS k ((by decide : ∀ k, k ∈ ([0, 3] : List Nat) → k ∈ ([0, 3] : List Nat)) k h)) _ _ _ _) (fun r20 T18 => ?_)
  refine cd_oif ?_
  refine cd_oif ?_
  refine cd_elet (fun T24 => ?_)
  refine cd_oif ?_
  refine cd_elet (fun v26 => ?_)
  refine cd_elet (fun v27 => ?_)
  refine cd_oif ?_
  refine cd_othr (cd_g_X3_number (fun k h => hS k ((by decide : ∀ k, k ∈ ([0, 3] : List Nat) → k ∈ ([0, 3] : List Nat)) k h)) _ _ _ _) (fun r31 T29 => ?_)
  refine cd_oif ?_
  refine cd_oif ?_
  refine cd_elet (fun T35 => ?_)
  refine cd_oif ?_
  refine cd_oif ?_
  refine cd_elet (fun v38 => ?_)
  refine cd_oif ?_
  refine cd_elet (fun v40 => ?_)
  refine cd_elet (fun v41 => ?_)
  refine cd_oif ?_
  refine cd_othr (cd_g_X3_number (fun k h => hS k ((by decide : ∀ k, k ∈ ([0, 3] : List Nat) → k ∈ ([0, 3] : List Nat)) k h)) _ _ _ _) (fun r45 T43 => ?_)
  refine cd_oif ?_
  refine cd_oif ?_
  refine cd_elet (fun T49 => ?_)
  refine cd_oif ?_
  refine cd_oif ?_
  refine cd_elet (fun v52 => ?_)
  refine cd_oif ?_
  refine cd_elet (fun v54 => ?_)
  refine cd_elet (fun v55 => ?_)
  refine cd_oif ?_
  refine cd_othr (cd_g_X3_number (fun k h => hS k ((by decide : ∀ k, k ∈ ([0, 3] : List Nat) → k ∈ ([0, 3] : List Nat)) k h)) _ _ _ _) (fun r59 T57 => ?_)
  refine cd_oif ?_
  refine cd_oif ?_
  refine cd_elet (fun T63 => ?_)
  refine cd_oif ?_
  refine cd_elet (fun v65 => ?_)
  refine cd_elet (fun v66 => ?_)
  refine cd_oif ?_
  refine cd_elet (fun T68 => ?_)
  exact cd_some (hS _ (by decide))
set_option maxRecDepth 100000 in
theorem cd_g_X3_parseZone {S : List Nat} (hS : ∀ k, k ∈ ([0, 3] : List Nat) → k ∈ S) (T : AT) (o : Nat) (a0 : Nat) : CD S (g_X3_parseZone T o a0) := by
  unfold g_X3_parseZone
  refine cd_oif ?_
  refine cd_elet (fun v3 => ?_)
  refine cd_ite ?_ ?_
  · exact cd_g_X3_parseZone_b14 (fun k h => hS k ((by decide : ∀ k, k ∈ ([0, 3] : List Nat) → k ∈ ([0, 3] : List Nat)) k h)) _ _ _ _ _
  · exact cd_g_X3_parseZone_b14 (fun k h => hS k ((by decide : ∀ k, k ∈ ([0, 3] : List Nat) → k ∈ ([0, 3] : List Nat)) k h)) _ _ _ _ _
set_option maxRecDepth 100000 in
theorem cd_g_X3_parseClock_b41 {S : List Nat} (hS : ∀ k, k ∈ ([0, 3] : List Nat) → k ∈ S) (T : AT) (l0 : Nat) (l1 : Nat) (l2 : Int32) : CD S (g_X3_parseClock_b41 T l0 l1 l2) := by
  unfold g_X3_parseClock_b41
  refine cd_oif ?_
  refine cd_obind (fun n3 => ?_)
  refine cd_oif ?_
  refine cd_oif ?_
  refine cd_obind (fun n6 => ?_)
  refine cd_oif ?_
  refine cd_othr (cd_g_X3_number (fun k h => hS k ((by decide : ∀ k, k ∈ ([0, 3] : List Nat) → k ∈ ([0, 3] : List Nat)) k h)) _ _ _ _) (fun r10 T8 => ?_)
  refine cd_oif ?_
  refine cd_elet (fun T13 => ?_)
  exact cd_some (hS _ (by decide))
set_option maxRecDepth 100000 in
theorem cd_g_X3_parseClock {S : List Nat} (hS : ∀ k, k ∈ ([0, 3] : List Nat) → k ∈ S) (T : AT) (o : Nat) (a0 : Nat) : CD S (g_X3_parseClock T o a0) := by
  unfold g_X3_parseClock
  refine cd_oif ?_
  refine cd_othr (cd_g_X3_startLine (fun k h => hS k ((by decide : ∀ k, k ∈ ([0, 3] : List Nat) → k ∈ ([0, 3] : List Nat)) k h)) _ _ _ _) (fun r5 T3 => ?_)
  refine cd_oif ?_
  refine cd_elet (fun v8 => ?_)
  refine cd_elet (fun v9 => ?_)
  refine cd_oif ?_
  refine cd_othr (cd_g_X3_number (fun k h => hS k ((by decide : ∀ k, k ∈ ([0, 3] : List Nat) → k ∈ ([0, 3] : List Nat)) k h)) _ _ _ _) (fun r13 T11 => ?_)
  refine cd_oif ?_
  refine cd_obind (fun n16 => ?_)
  refine cd_oif ?_
  refine cd_oif ?_
  refine cd_obind (fun n19 => ?_)
  refine cd_oif ?_
  refine cd_elet (fun v21 => ?_)
  refine cd_ite ?_ ?_
  · exact cd_g_X3_parseClock_b41 (fun k h => hS k ((by decide : ∀ k, k ∈ ([0, 3] : List Nat) → k ∈ ([0, 3] : List Nat)) k h)) _ _ _ _
  · refine cd_oif ?_
    refine cd_elet (fun v24 => ?_)
    refine cd_elet (fun v25 => ?_)
    refine cd_oif ?_
    refine cd_othr (cd_g_X3_failAt (fun k h => hS k ((by decide : ∀ k, k ∈ ([3] : List Nat) → k ∈ ([0, 3] : List Nat)) k h)) _ _ _ _) (fun r29 T27 => ?_)
    exact cd_g_X3_parseClock_b41 (fun k h => hS k ((by decide : ∀ k, k ∈ ([0, 3] : List Nat) → k ∈ ([0, 3] : List Nat)) k h)) _ _ _ _
set_option maxRecDepth 100000 in
theorem cd_g_X3_signed {S : List Nat} (hS : ∀ k, k ∈ ([0, 3] : List Nat) → k ∈ S) (T : AT) (o : Nat) (a0 : Int32) (a1 : Int32) : CD S (g_X3_signed T o a0 a1) := by
  unfold g_X3_signed
  refine cd_oif ?_
  refine cd_obind2 (fun r5 T3 => ?_)
  refine cd_ite ?_ ?_
  · refine cd_oif ?_
    refine cd_elet (fun v9 => ?_)
    refine cd_elet (fun v10 => ?_)
    refine cd_oif ?_
    refine cd_elet (fun T12 => ?_)
    refine cd_elet (fun v13 => ?_)
    refine cd_elet (fun v14 => ?_)
    refine cd_oif ?_
    refine cd_othr (cd_g_X3_number (fun k h => hS k ((by decide : ∀ k, k ∈ ([0, 3] : List Nat) → k ∈ ([0, 3] : List Nat)) k h)) _ _ _ _) (fun r18 T16 => ?_)
    refine cd_elet (fun v20 => ?_)
    exact cd_some (hS _ (by decide))
  · refine cd_oif ?_
    refine cd_othr (cd_g_X3_number (fun k h => hS k ((by decide : ∀ k, k ∈ ([0, 3] : List Nat) → k ∈ ([0, 3] : List Nat)) k h)) _ _ _ _) (fun r24 T22 => ?_)
    exact cd_some (hS _ (by decide))
set_option maxRecDepth 100000 in
theorem cd_g_X3_parseFilter_b81 {S : List Nat} (hS : ∀ k, k ∈ ([0] : List Nat) → k ∈ S) (T : AT) : CD S (g_X3_parseFilter_b81 T) := by
  unfold g_X3_parseFilter_b81
  exact cd_some (hS _ (by decide))
set_option maxRecDepth 100000 in
theorem cd_g_X3_parseFilter_b63 {S : List Nat} (hS : ∀ k, k ∈ ([0, 3] : List Nat) → k ∈ S) {k31 : AT → Nat → Nat → Int32 → Option (Nat × Int32 × AT)} (hk31 : ∀ (x0 : AT) (x1 : Nat) (x2 : Nat) (x3 : Int32), CD S (k31 x0 x1 x2 x3)) (T : AT) (l0 : Nat) (l1 : Nat) (l2 : Int32) : CD S (g_X3_parseFilter_b63 k31 T l0 l1 l2) := by
  unfold g_X3_parseFilter_b63
  refine cd_oif ?_
  refine cd_othr (cd_g_X3_signed (fun k h => hS k ((by decide : ∀ k, k ∈ ([0, 3] : List Nat) → k ∈ ([0, 3] : List Nat)) k h)) _ _ _ _) (fun r5 T3 => ?_)
  refine cd_oif ?_
  refine cd_obind (fun T8 => ?_)
  refine cd_elet (fun v10 => ?_)
  exact hk31 _ _ _ _
set_option maxRecDepth 100000 in
theorem cd_g_X3_parseFilter_b52 {S : List Nat} (hS : ∀ k, k ∈ ([0, 3] : List Nat) → k ∈ S) {k31 : AT → Nat → Nat → Int32 → Option (Nat × Int32 × AT)} (hk31 : ∀ (x0 : AT) (x1 : Nat) (x2 : Nat) (x3 : Int32), CD S (k31 x0 x1 x2 x3)) (T : AT) (l0 : Nat) (l1 : Nat) (l2 : Int32) : CD S (g_X3_parseFilter_b52 k31 T l0 l1 l2) := by
  unfold g_X3_parseFilter_b52
  refine cd_ite ?_ ?_
  · refine cd_oif ?_
    refine cd_othr (cd_g_X3_failAsTooMany (fun k h => hS k ((by decide : ∀ k, k ∈ ([0, 3] : List Nat) → k ∈ ([0, 3] : List Nat)) k h)) _ _ _) (fun r6 T4 => ?_)
    exact cd_g_X3_parseFilter_b63 (fun k h => hS k ((by decide : ∀ k, k ∈ ([0, 3] : List Nat) → k ∈ ([0, 3] : List Nat)) k h)) hk31 _ _ _ _
  · exact cd_g_X3_parseFilter_b63 (fun k h => hS k ((by decide : ∀ k, k ∈ ([0, 3] : List Nat) → k ∈ ([0, 3] : List Nat)) k h)) hk31 _ _ _ _
set_option maxRecDepth 100000 in
theorem cd_g_X3_parseFilter_b31 {S : List Nat} (hS : ∀ k, k ∈ ([0, 3] : List Nat) → k ∈ S) : ∀ (n : Nat) (T : AT) (l0 : Nat) (l1 : Nat) (l2 : Int32), CD S (g_X3_parseFilter_b31 n T l0 l1 l2)
  | 0, _, _, _, _ => cd_none
  | n + 1, T, l0, l1, l2 => by
    have ih := cd_g_X3_parseFilter_b31 hS n
    unfold g_X3_parseFilter_b31
    refine cd_ite ?_ ?_
    · exact cd_g_X3_parseFilter_b81 (fun k h => hS k ((by decide : ∀ k, k ∈ ([0] : List Nat) → k ∈ ([0, 3] : List Nat)) k h)) _
    · refine cd_oif ?_
      refine cd_obind2 (fun r6 T4 => ?_)
      refine cd_ite ?_ ?_
      · exact cd_g_X3_parseFilter_b52 (fun k h => hS k ((by decide : ∀ k, k ∈ ([0, 3] : List Nat) → k ∈ ([0, 3] : List Nat)) k h)) ih _ _ _ _
      · refine cd_oif ?_
        refine cd_obind2 (fun r12 T10 => ?_)
        refine cd_ite ?_ ?_
        · exact cd_g_X3_parseFilter_b52 (fun k h => hS k ((by decide : ∀ k, k ∈ ([0, 3] : List Nat) → k ∈ ([0, 3] : List Nat)) k h)) ih _ _ _ _
        · exact cd_g_X3_parseFilter_b81 (fun k h => hS k ((by decide : ∀ k, k ∈ ([0] : List Nat) → k ∈ ([0, 3] : List Nat)) k h)) _
set_option maxRecDepth 100000 in
theorem cd_g_X3_parseFilter_b13 {S : List Nat} (hS : ∀ k, k ∈ ([0, 3] : List Nat) → k ∈ S) (T : AT) (s0 : Int32) (s1 : Nat) (l0 : Nat) (l1 : Nat) : CD S (g_X3_parseFilter_b13 T s0 s1 l0 l1) := by
  unfold g_X3_parseFilter_b13
  refine cd_oif ?_
  refine cd_othr (cd_g_X3_startLine (fun k h => hS k ((by decide : ∀ k, k ∈ ([0, 3] : List Nat) → k ∈ ([0, 3] : List Nat)) k h)) _ _ _ _) (fun r5 T3 => ?_)
  refine cd_oif ?_
  refine cd_othr (cd_g_X3_signed (fun k h => hS k ((by decide : ∀ k, k ∈ ([0, 3] : List Nat) → k ∈ ([0, 3] : List Nat)) k h)) _ _ _ _) (fun r10 T8 => ?_)
  refine cd_oif ?_
  refine cd_obind (fun T13 => ?_)
  exact cd_g_X3_parseFilter_b31 (fun k h => hS k ((by decide : ∀ k, k ∈ ([0, 3] : List Nat) → k ∈ ([0, 3] : List Nat)) k h)) _ _ _ _ _
set_option maxRecDepth 100000 in
theorem cd_g_X3_parseFilter {S : List Nat} (hS : ∀ k, k ∈ ([0, 3] : List Nat) → k ∈ S) (T : AT) (o : Nat) (a0 : Nat) : CD S (g_X3_parseFilter T o a0) := by
  unfold g_X3_parseFilter
  refine cd_oif ?_
  refine cd_elet (fun v3 => ?_)
  refine cd_ite ?_ ?_
  · exact cd_g_X3_parseFilter_b13 (fun k h => hS k ((by decide : ∀ k, k ∈ ([0, 3] : List Nat) → k ∈ ([0, 3] : List Nat)) k h)) _ _ _ _ _
  · exact cd_g_X3_parseFilter_b13 (fun k h => hS k ((by decide : ∀ k, k ∈ ([0, 3] : List Nat) → k ∈ ([0, 3] : List Nat)) k h)) _ _ _ _ _
set_option maxRecDepth 100000 in
theorem cd_g_X3_parseWall_b14 {S : List Nat} (hS : ∀ k, k ∈ ([0, 3] : List Nat) → k ∈ S) (T : AT) (s0 : Int32) (s1 : Nat) (l0 : Nat) (l1 : Nat) : CD S (g_X3_parseWall_b14 T s0 s1 l0 l1) := by
  unfold g_X3_parseWall_b14
  refine cd_oif ?_
  refine cd_othr (cd_g_X3_startLine (fun k h => hS k ((by decide : ∀ k, k ∈ ([0, 3] : List Nat) → k ∈ ([0, 3] : List Nat)) k h)) _ _ _ _) (fun r5 T3 => ?_)
  refine cd_oif ?_
  refine cd_obind (fun n8 => ?_)
  refine cd_oif ?_
  refine cd_elet (fun v10 => ?_)
  refine cd_oif ?_
  refine cd_othr (cd_g_X3_signed (fun k h => hS k ((by decide : ∀ k, k ∈ ([0, 3] : List Nat) → k ∈ ([0, 3] : List Nat)) k h)) _ _ _ _) (fun r14 T12 => ?_)
  refine cd_oif ?_
  refine cd_oif ?_
  refine cd_elet (fun T18 => ?_)
  refine cd_oif ?_
  refine cd_obind (fun n20 => ?_)
  refine cd_oif ?_
  refine cd_elet (fun v22 => ?_)
  refine cd_oif ?_
  refine cd_othr (cd_g_X3_number (fun k h => hS k ((by decide : ∀ k, k ∈ ([0, 3] : List Nat) → k ∈ ([0, 3] : List Nat)) k h)) _ _ _ _) (fun r26 T24 => ?_)
  refine cd_oif ?_
  refine cd_oif ?_
  refine cd_elet (fun T30 => ?_)
  refine cd_oif ?_
  refine cd_elet (fun v32 => ?_)
  refine cd_elet (fun v33 => ?_)
  refine cd_oif ?_
  refine cd_elet (fun T35 => ?_)
  exact cd_some (hS _ (by decide))
set_option maxRecDepth 100000 in
theorem cd_g_X3_parseWall {S : List Nat} (hS : ∀ k, k ∈ ([0, 3] : List Nat) → k ∈ S) (T : AT) (o : Nat) (a0 : Nat) : CD S (g_X3_parseWall T o a0) := by
  unfold g_X3_parseWall
  refine cd_oif ?_
  refine cd_elet (fun v3 => ?_)
  refine cd_ite ?_ ?_
  · exact cd_g_X3_parseWall_b14 (fun k h => hS k ((by decide : ∀ k, k ∈ ([0, 3] : List Nat) → k ∈ ([0, 3] : List Nat)) k h)) _ _ _ _ _
  · exact cd_g_X3_parseWall_b14 (fun k h => hS k ((by decide : ∀ k, k ∈ ([0, 3] : List Nat) → k ∈ ([0, 3] : List Nat)) k h)) _ _ _ _ _
set_option maxRecDepth 100000 in
theorem cd_g_X3_shape_b62 {S : List Nat} (hS : ∀ k, k ∈ ([0] : List Nat) → k ∈ S) (T : AT) (l0 : Nat) (l1 : Int32) : CD S (g_X3_shape_b62 T l0 l1) := by
  unfold g_X3_shape_b62
  refine cd_oif ?_
  refine cd_elet (fun v3 => ?_)
  refine cd_elet (fun v4 => ?_)
  refine cd_oif ?_
  refine cd_elet (fun T6 => ?_)
  exact cd_some (hS _ (by decide))
set_option maxRecDepth 100000 in
theorem cd_g_X3_shape {S : List Nat} (hS : ∀ k, k ∈ ([0, 3] : List Nat) → k ∈ S) (T : AT) (o : Nat) : CD S (g_X3_shape T o) := by
  unfold g_X3_shape
  refine cd_oif ?_
  refine cd_obind2 (fun r6 T4 => ?_)
  refine cd_ite ?_ ?_
  · refine cd_oif ?_
    refine cd_obind2 (fun r13 T11 => ?_)
    refine cd_ite ?_ ?_
    · refine cd_oif ?_
      refine cd_obind2 (fun r20 T18 => ?_)
      refine cd_ite ?_ ?_
      · refine cd_oif ?_
        refine cd_obind2 (fun r27 T25 => ?_)
        refine cd_ite ?_ ?_
        · refine cd_oif ?_
          refine cd_elet (fun v31 => ?_)
          refine cd_oif ?_
          refine cd_othr (cd_g_X3_failAt (fun k h => hS k ((by decide : ∀ k, k ∈ ([3] : List Nat) → k ∈ ([0, 3] : List Nat)) k h)) _ _ _ _) (fun r35 T33 => ?_)
          exact cd_g_X3_shape_b62 (fun k h => hS k ((by decide : ∀ k, k ∈ ([0] : List Nat) → k ∈ ([0, 3] : List Nat)) k h)) _ _ _
        · exact cd_g_X3_shape_b62 (fun k h => hS k ((by decide : ∀ k, k ∈ ([0] : List Nat) → k ∈ ([0, 3] : List Nat)) k h)) _ _ _
      · exact cd_g_X3_shape_b62 (fun k h => hS k ((by decide : ∀ k, k ∈ ([0] : List Nat) → k ∈ ([0, 3] : List Nat)) k h)) _ _ _
    · exact cd_g_X3_shape_b62 (fun k h => hS k ((by decide : ∀ k, k ∈ ([0] : List Nat) → k ∈ ([0, 3] : List Nat)) k h)) _ _ _
  · exact cd_g_X3_shape_b62 (fun k h => hS k ((by decide : ∀ k, k ∈ ([0] : List Nat) → k ∈ ([0, 3] : List Nat)) k h)) _ _ _
set_option maxRecDepth 100000 in
theorem cd_g_X3_parseSource_b168 {S : List Nat} (hS : ∀ k, k ∈ ([0] : List Nat) → k ∈ S) (T : AT) (l1 : Nat) : CD S (g_X3_parseSource_b168 T l1) := by
  unfold g_X3_parseSource_b168
  refine cd_oif ?_
  refine cd_elet (fun v3 => ?_)
  refine cd_elet (fun v4 => ?_)
  refine cd_oif ?_
  refine cd_elet (fun T6 => ?_)
  exact cd_some (hS _ (by decide))
set_option maxRecDepth 100000 in
theorem cd_g_X3_parseSource_b15 {S : List Nat} (hS : ∀ k, k ∈ ([0, 3] : List Nat) → k ∈ S) (T : AT) (s0 : Int32) (s1 : Nat) (l0 : Nat) (l1 : Nat) : CD S (g_X3_parseSource_b15 T s0 s1 l0 l1) := by
  unfold g_X3_parseSource_b15
  refine cd_oif ?_
  refine cd_othr (cd_g_X3_startLine (fun k h => hS k ((by decide : ∀ k, k ∈ ([0, 3] : List Nat) → k ∈ ([0, 3] : List Nat)) k h)) _ _ _ _) (fun r5 T3 => ?_)
  refine cd_oif ?_
  refine cd_obind (fun n8 => ?_)
  refine cd_oif ?_
  refine cd_elet (fun v10 => ?_)
  refine cd_oif ?_
  refine cd_oif ?_
  refine cd_obind (fun n13 => ?_)
  refine cd_oif ?_
  refine cd_othr (cd_g_X3_shape (fun k h => hS k ((by decide : ∀ k, k ∈ ([0, 3] : List Nat) → k ∈ ([0, 3] : List Nat)) k h)) _ _) (fun r17 T15 => ?_)
  refine cd_oif ?_
  refine cd_elet (fun T20 => ?_)
  refine cd_oif ?_
  refine cd_othr (cd_g_X3_signed (fun k h => hS k ((by decide : ∀ k, k ∈ ([0, 3] : List Nat) → k ∈ ([0, 3] : List Nat)) k h)) _ _ _ _) (fun r24 T22 => ?_)
  refine cd_oif ?_
  refine cd_elet (fun T27 => ?_)
  refine cd_oif ?_
  refine cd_othr (cd_g_X3_signed (fun k h => hS k ((by decide : ∀ k, k ∈ ([0, 3] : List Nat) → k ∈ ([0, 3] : List Nat)) k h)) _ _ _ _) (fun r31 T29 => ?_)
  refine cd_oif ?_
  refine cd_elet (fun T34 => ?_)
  refine cd_oif ?_
  refine cd_othr (cd_g_X3_signed (fun k h => hS k ((by decide : ∀ k, k ∈ ([0, 3] : List Nat) → k ∈ ([0, 3] : List Nat)) k h)) _ _ _ _) (fun r38 T36 => ?_)
  refine cd_oif ?_
  refine cd_elet (fun T41 => ?_)
  refine cd_oif ?_
  refine cd_othr (cd_g_X3_signed (fun k h => hS k ((by decide : ∀ k, k ∈ ([0, 3] : List Nat) → k ∈ ([0, 3] : List Nat)) k h)) _ _ _ _) (fun r45 T43 => ?_)
  refine cd_oif ?_
  refine cd_elet (fun T48 => ?_)
  refine cd_oif ?_
  refine cd_othr (cd_g_X3_number (fun k h => hS k ((by decide : ∀ k, k ∈ ([0, 3] : List Nat) → k ∈ ([0, 3] : List Nat)) k h)) _ _ _ _) (fun r52 T50 => ?_)
  refine cd_oif ?_
  refine cd_elet (fun T55 => ?_)
  refine cd_oif ?_
  refine cd_othr (cd_g_X3_number (fun k h => hS k ((by decide : ∀ k, k ∈ ([0, 3] : List Nat) → k ∈ ([0, 3] : List Nat)) k h)) _ _ _ _) (fun r59 T57 => ?_)
  refine cd_oif ?_
  refine cd_elet (fun T62 => ?_)
  refine cd_oif ?_
  refine cd_othr (cd_g_X3_number (fun k h => hS k ((by decide : ∀ k, k ∈ ([0, 3] : List Nat) → k ∈ ([0, 3] : List Nat)) k h)) _ _ _ _) (fun r66 T64 => ?_)
  refine cd_oif ?_
  refine cd_elet (fun T69 => ?_)
  refine cd_oif ?_
  refine cd_elet (fun T71 => ?_)
  refine cd_oif ?_
  refine cd_elet (fun T73 => ?_)
  refine cd_oif ?_
  refine cd_obind2 (fun r78 T76 => ?_)
  refine cd_ite ?_ ?_
  · exact cd_g_X3_parseSource_b168 (fun k h => hS k ((by decide : ∀ k, k ∈ ([0] : List Nat) → k ∈ ([0, 3] : List Nat)) k h)) _ _
  · refine cd_oif ?_
    refine cd_elet (fun v82 => ?_)
    refine cd_elet (fun v83 => ?_)
    refine cd_oif ?_
    refine cd_elet (fun T85 => ?_)
    refine cd_oif ?_
    refine cd_othr (cd_g_X3_number (fun k h => hS k ((by decide : ∀ k, k ∈ ([0, 3] : List Nat) → k ∈ ([0, 3] : List Nat)) k h)) _ _ _ _) (fun r89 T87 => ?_)
    refine cd_oif ?_
    refine cd_elet (fun T92 => ?_)
    exact cd_g_X3_parseSource_b168 (fun k h => hS k ((by decide : ∀ k, k ∈ ([0] : List Nat) → k ∈ ([0, 3] : List Nat)) k h)) _ _
set_option maxRecDepth 100000 in
theorem cd_g_X3_parseSource {S : List Nat} (hS : ∀ k, k ∈ ([0, 3] : List Nat) → k ∈ S) (T : AT) (o : Nat) (a0 : Nat) : CD S (g_X3_parseSource T o a0) := by
  unfold g_X3_parseSource
  refine cd_oif ?_
  refine cd_elet (fun v3 => ?_)
  refine cd_ite ?_ ?_
  · exact cd_g_X3_parseSource_b15 (fun k h => hS k ((by decide : ∀ k, k ∈ ([0, 3] : List Nat) → k ∈ ([0, 3] : List Nat)) k h)) _ _ _ _ _
  · exact cd_g_X3_parseSource_b15 (fun k h => hS k ((by decide : ∀ k, k ∈ ([0, 3] : List Nat) → k ∈ ([0, 3] : List Nat)) k h)) _ _ _ _ _
set_option maxRecDepth 100000 in
theorem cd_g_X3_parseMap_b13 {S : List Nat} (hS : ∀ k, k ∈ ([0, 3] : List Nat) → k ∈ S) (T : AT) (s0 : Int32) (s1 : Nat) (l0 : Nat) (l1 : Nat) : CD S (g_X3_parseMap_b13 T s0 s1 l0 l1) := by
  unfold g_X3_parseMap_b13
  refine cd_oif ?_
  refine cd_othr (cd_g_X3_startLine (fun k h => hS k ((by decide : ∀ k, k ∈ ([0, 3] : List Nat) → k ∈ ([0, 3] : List Nat)) k h)) _ _ _ _) (fun r5 T3 => ?_)
  refine cd_oif ?_
  refine cd_othr (cd_g_X3_signed (fun k h => hS k ((by decide : ∀ k, k ∈ ([0, 3] : List Nat) → k ∈ ([0, 3] : List Nat)) k h)) _ _ _ _) (fun r10 T8 => ?_)
  refine cd_oif ?_
  refine cd_elet (fun T13 => ?_)
  refine cd_oif ?_
  refine cd_othr (cd_g_X3_signed (fun k h => hS k ((by decide : ∀ k, k ∈ ([0, 3] : List Nat) → k ∈ ([0, 3] : List Nat)) k h)) _ _ _ _) (fun r17 T15 => ?_)
  refine cd_oif ?_
  refine cd_elet (fun T20 => ?_)
  refine cd_oif ?_
  refine cd_othr (cd_g_X3_number (fun k h => hS k ((by decide : ∀ k, k ∈ ([0, 3] : List Nat) → k ∈ ([0, 3] : List Nat)) k h)) _ _ _ _) (fun r24 T22 => ?_)
  refine cd_oif ?_
  refine cd_elet (fun T27 => ?_)
  refine cd_oif ?_
  refine cd_othr (cd_g_X3_number (fun k h => hS k ((by decide : ∀ k, k ∈ ([0, 3] : List Nat) → k ∈ ([0, 3] : List Nat)) k h)) _ _ _ _) (fun r31 T29 => ?_)
  refine cd_oif ?_
  refine cd_othr (cd_g_X3_number (fun k h => hS k ((by decide : ∀ k, k ∈ ([0, 3] : List Nat) → k ∈ ([0, 3] : List Nat)) k h)) _ _ _ _) (fun r36 T34 => ?_)
  refine cd_oif ?_
  refine cd_obind (fun T39 => ?_)
  exact cd_some (hS _ (by decide))
set_option maxRecDepth 100000 in
theorem cd_g_X3_parseMap {S : List Nat} (hS : ∀ k, k ∈ ([0, 3] : List Nat) → k ∈ S) (T : AT) (o : Nat) (a0 : Nat) : CD S (g_X3_parseMap T o a0) := by
  unfold g_X3_parseMap
  refine cd_oif ?_
  refine cd_elet (fun v3 => ?_)
  refine cd_ite ?_ ?_
  · exact cd_g_X3_parseMap_b13 (fun k h => hS k ((by decide : ∀ k, k ∈ ([0, 3] : List Nat) → k ∈ ([0, 3] : List Nat)) k h)) _ _ _ _ _
  · exact cd_g_X3_parseMap_b13 (fun k h => hS k ((by decide : ∀ k, k ∈ ([0, 3] : List Nat) → k ∈ ([0, 3] : List Nat)) k h)) _ _ _ _ _
set_option maxRecDepth 100000 in
theorem cd_g_X3_parseMic_b15 {S : List Nat} (hS : ∀ k, k ∈ ([0, 3] : List Nat) → k ∈ S) (T : AT) (s0 : Int32) (s1 : Nat) (l0 : Nat) (l1 : Nat) : CD S (g_X3_parseMic_b15 T s0 s1 l0 l1) := by
  unfold g_X3_parseMic_b15
  refine cd_oif ?_
  refine cd_othr (cd_g_X3_startLine (fun k h => hS k ((by decide : ∀ k, k ∈ ([0, 3] : List Nat) → k ∈ ([0, 3] : List Nat)) k h)) _ _ _ _) (fun r5 T3 => ?_)
  refine cd_oif ?_
  refine cd_obind (fun n8 => ?_)
  refine cd_oif ?_
  refine cd_elet (fun v10 => ?_)
  refine cd_oif ?_
  refine cd_oif ?_
  refine cd_obind (fun n13 => ?_)
  refine cd_oif ?_
  refine cd_othr (cd_g_X3_signed (fun k h => hS k ((by decide : ∀ k, k ∈ ([0, 3] : List Nat) → k ∈ ([0, 3] : List Nat)) k h)) _ _ _ _) (fun r17 T15 => ?_)
  refine cd_oif ?_
  refine cd_elet (fun T20 => ?_)
  refine cd_oif ?_
  refine cd_othr (cd_g_X3_signed (fun k h => hS k ((by decide : ∀ k, k ∈ ([0, 3] : List Nat) → k ∈ ([0, 3] : List Nat)) k h)) _ _ _ _) (fun r24 T22 => ?_)
  refine cd_oif ?_
  refine cd_elet (fun T27 => ?_)
  refine cd_oif ?_
  refine cd_othr (cd_g_X3_number (fun k h => hS k ((by decide : ∀ k, k ∈ ([0, 3] : List Nat) → k ∈ ([0, 3] : List Nat)) k h)) _ _ _ _) (fun r31 T29 => ?_)
  refine cd_oif ?_
  refine cd_elet (fun T34 => ?_)
  refine cd_oif ?_
  refine cd_elet (fun T36 => ?_)
  refine cd_oif ?_
  refine cd_elet (fun v38 => ?_)
  refine cd_elet (fun v39 => ?_)
  refine cd_oif ?_
  refine cd_elet (fun T41 => ?_)
  exact cd_some (hS _ (by decide))
set_option maxRecDepth 100000 in
theorem cd_g_X3_parseMic {S : List Nat} (hS : ∀ k, k ∈ ([0, 3] : List Nat) → k ∈ S) (T : AT) (o : Nat) (a0 : Nat) : CD S (g_X3_parseMic T o a0) := by
  unfold g_X3_parseMic
  refine cd_oif ?_
  refine cd_elet (fun v3 => ?_)
  refine cd_ite ?_ ?_
  · exact cd_g_X3_parseMic_b15 (fun k h => hS k ((by decide : ∀ k, k ∈ ([0, 3] : List Nat) → k ∈ ([0, 3] : List Nat)) k h)) _ _ _ _ _
  · exact cd_g_X3_parseMic_b15 (fun k h => hS k ((by decide : ∀ k, k ∈ ([0, 3] : List Nat) → k ∈ ([0, 3] : List Nat)) k h)) _ _ _ _ _
set_option maxRecDepth 100000 in
theorem cd_g_X3_parseLine_b209 {S : List Nat} (hS : ∀ k, k ∈ ([0] : List Nat) → k ∈ S) (T : AT) : CD S (g_X3_parseLine_b209 T) := by
  unfold g_X3_parseLine_b209
  exact cd_some (hS _ (by decide))
set_option maxRecDepth 100000 in
theorem cd_g_X3_parseLine_b93 {S : List Nat} (hS : ∀ k, k ∈ ([0, 3] : List Nat) → k ∈ S) (T : AT) (s0 : Int32) (s1 : Nat) (l0 : Nat) (l1 : Nat) : CD S (g_X3_parseLine_b93 T s0 s1 l0 l1) := by
  unfold g_X3_parseLine_b93
  refine cd_oif ?_
  refine cd_othr (cd_g_X3_startLine (fun k h => hS k ((by decide : ∀ k, k ∈ ([0, 3] : List Nat) → k ∈ ([0, 3] : List Nat)) k h)) _ _ _ _) (fun r5 T3 => ?_)
  refine cd_oif ?_
  refine cd_othr (cd_g_X3_number (fun k h => hS k ((by decide : ∀ k, k ∈ ([0, 3] : List Nat) → k ∈ ([0, 3] : List Nat)) k h)) _ _ _ _) (fun r10 T8 => ?_)
  refine cd_oif ?_
  refine cd_elet (fun T13 => ?_)
  exact cd_g_X3_parseLine_b209 (fun k h => hS k ((by decide : ∀ k, k ∈ ([0] : List Nat) → k ∈ ([0, 3] : List Nat)) k h)) _
set_option maxRecDepth 100000 in
theorem cd_g_X3_parseLine {S : List Nat} (hS : ∀ k, k ∈ ([0, 3] : List Nat) → k ∈ S) (T : AT) (o : Nat) (a0 : Nat) : CD S (g_X3_parseLine T o a0) := by
  unfold g_X3_parseLine
  refine cd_oif ?_
  refine cd_obind2 (fun r6 T4 => ?_)
  refine cd_ite ?_ ?_
  · refine cd_oif ?_
    refine cd_obind2 (fun r13 T11 => ?_)
    refine cd_ite ?_ ?_
    · refine cd_oif ?_
      refine cd_obind2 (fun r20 T18 => ?_)
      refine cd_ite ?_ ?_
      · refine cd_oif ?_
        refine cd_obind2 (fun r27 T25 => ?_)
        refine cd_ite ?_ ?_
        · refine cd_oif ?_
          refine cd_obind2 (fun r34 T32 => ?_)
          refine cd_ite ?_ ?_
          · refine cd_oif ?_
            refine cd_obind2 (fun r41 T39 => ?_)
            refine cd_ite ?_ ?_
            · refine cd_oif ?_
              refine cd_obind2 (fun r48 T46 => ?_)
              refine cd_ite ?_ ?_
              · refine cd_oif ?_
                refine cd_obind2 (fun r55 T53 => ?_)
                refine cd_ite ?_ ?_
                · refine cd_oif ?_
                  refine cd_obind2 (fun r62 T60 => ?_)
                  refine cd_ite ?_ ?_
                  · refine cd_oif ?_
                    refine cd_obind2 (fun r69 T67 => ?_)
                    refine cd_ite ?_ ?_
                    · refine cd_oif ?_
                      refine cd_elet (fun v73 => ?_)
                      refine cd_oif ?_
                      refine cd_othr (cd_g_X3_failAt (fun k h => hS k ((by decide : ∀ k, k ∈ ([3] : List Nat) → k ∈ ([0, 3] : List Nat)) k h)) _ _ _ _) (fun r77 T75 => ?_)
                      exact cd_g_X3_parseLine_b209 (fun k h => hS k ((by decide : ∀ k, k ∈ ([0] : List Nat) → k ∈ ([0, 3] : List Nat)) k h)) _
                    · refine cd_oif ?_
                      refine cd_othr (cd_g_X3_parseOff (fun k h => hS k ((by decide : ∀ k, k ∈ ([0, 3] : List Nat) → k ∈ ([0, 3] : List Nat)) k h)) _ _ _) (fun r82 T80 => ?_)
                      exact cd_g_X3_parseLine_b209 (fun k h => hS k ((by decide : ∀ k, k ∈ ([0] : List Nat) → k ∈ ([0, 3] : List Nat)) k h)) _
                  · refine cd_oif ?_
                    refine cd_othr (cd_g_X3_parseShade (fun k h => hS k ((by decide : ∀ k, k ∈ ([0, 3] : List Nat) → k ∈ ([0, 3] : List Nat)) k h)) _ _ _) (fun r87 T85 => ?_)
                    exact cd_g_X3_parseLine_b209 (fun k h => hS k ((by decide : ∀ k, k ∈ ([0] : List Nat) → k ∈ ([0, 3] : List Nat)) k h)) _
                · refine cd_oif ?_
                  refine cd_obind (fun n90 => ?_)
                  refine cd_oif ?_
                  refine cd_othr (cd_g_X3_parseZone (fun k h => hS k ((by decide : ∀ k, k ∈ ([0, 3] : List Nat) → k ∈ ([0, 3] : List Nat)) k h)) _ _ _) (fun r94 T92 => ?_)
                  exact cd_g_X3_parseLine_b209 (fun k h => hS k ((by decide : ∀ k, k ∈ ([0] : List Nat) → k ∈ ([0, 3] : List Nat)) k h)) _
              · refine cd_oif ?_
                refine cd_othr (cd_g_X3_parseClock (fun k h => hS k ((by decide : ∀ k, k ∈ ([0, 3] : List Nat) → k ∈ ([0, 3] : List Nat)) k h)) _ _ _) (fun r99 T97 => ?_)
                exact cd_g_X3_parseLine_b209 (fun k h => hS k ((by decide : ∀ k, k ∈ ([0] : List Nat) → k ∈ ([0, 3] : List Nat)) k h)) _
            · refine cd_oif ?_
              refine cd_othr (cd_g_X3_parseFilter (fun k h => hS k ((by decide : ∀ k, k ∈ ([0, 3] : List Nat) → k ∈ ([0, 3] : List Nat)) k h)) _ _ _) (fun r104 T102 => ?_)
              exact cd_g_X3_parseLine_b209 (fun k h => hS k ((by decide : ∀ k, k ∈ ([0] : List Nat) → k ∈ ([0, 3] : List Nat)) k h)) _
          · refine cd_oif ?_
            refine cd_elet (fun v107 => ?_)
            refine cd_ite ?_ ?_
            · exact cd_g_X3_parseLine_b93 (fun k h => hS k ((by decide : ∀ k, k ∈ ([0, 3] : List Nat) → k ∈ ([0, 3] : List Nat)) k h)) _ _ _ _ _
            · exact cd_g_X3_parseLine_b93 (fun k h => hS k ((by decide : ∀ k, k ∈ ([0, 3] : List Nat) → k ∈ ([0, 3] : List Nat)) k h)) _ _ _ _ _
        · refine cd_oif ?_
          refine cd_othr (cd_g_X3_parseWall (fun k h => hS k ((by decide : ∀ k, k ∈ ([0, 3] : List Nat) → k ∈ ([0, 3] : List Nat)) k h)) _ _ _) (fun r112 T110 => ?_)
          exact cd_g_X3_parseLine_b209 (fun k h => hS k ((by decide : ∀ k, k ∈ ([0] : List Nat) → k ∈ ([0, 3] : List Nat)) k h)) _
      · refine cd_oif ?_
        refine cd_othr (cd_g_X3_parseSource (fun k h => hS k ((by decide : ∀ k, k ∈ ([0, 3] : List Nat) → k ∈ ([0, 3] : List Nat)) k h)) _ _ _) (fun r117 T115 => ?_)
        exact cd_g_X3_parseLine_b209 (fun k h => hS k ((by decide : ∀ k, k ∈ ([0] : List Nat) → k ∈ ([0, 3] : List Nat)) k h)) _
    · refine cd_oif ?_
      refine cd_obind (fun n120 => ?_)
      refine cd_oif ?_
      refine cd_othr (cd_g_X3_parseMap (fun k h => hS k ((by decide : ∀ k, k ∈ ([0, 3] : List Nat) → k ∈ ([0, 3] : List Nat)) k h)) _ _ _) (fun r124 T122 => ?_)
      exact cd_g_X3_parseLine_b209 (fun k h => hS k ((by decide : ∀ k, k ∈ ([0] : List Nat) → k ∈ ([0, 3] : List Nat)) k h)) _
  · refine cd_oif ?_
    refine cd_othr (cd_g_X3_parseMic (fun k h => hS k ((by decide : ∀ k, k ∈ ([0, 3] : List Nat) → k ∈ ([0, 3] : List Nat)) k h)) _ _ _) (fun r129 T127 => ?_)
    exact cd_g_X3_parseLine_b209 (fun k h => hS k ((by decide : ∀ k, k ∈ ([0] : List Nat) → k ∈ ([0, 3] : List Nat)) k h)) _
set_option maxRecDepth 100000 in
theorem cd_g_X3_parse_b107 {S : List Nat} (hS : ∀ k, k ∈ ([0] : List Nat) → k ∈ S) (T : AT) (l0 : Nat) : CD S (g_X3_parse_b107 T l0) := by
  unfold g_X3_parse_b107
  refine cd_oif ?_
  refine cd_elet (fun T3 => ?_)
  refine cd_oif ?_
  refine cd_elet (fun T5 => ?_)
  exact cd_some (hS _ (by decide))
set_option maxRecDepth 100000 in
theorem cd_g_X3_parse_b98 {S : List Nat} (hS : ∀ k, k ∈ ([0, 3] : List Nat) → k ∈ S) (T : AT) (l0 : Nat) : CD S (g_X3_parse_b98 T l0) := by
  unfold g_X3_parse_b98
  refine cd_oif ?_
  refine cd_elet (fun v3 => ?_)
  refine cd_oif ?_
  refine cd_othr (cd_g_X3_failAt (fun k h => hS k ((by decide : ∀ k, k ∈ ([3] : List Nat) → k ∈ ([0, 3] : List Nat)) k h)) _ _ _ _) (fun r7 T5 => ?_)
  exact cd_g_X3_parse_b107 (fun k h => hS k ((by decide : ∀ k, k ∈ ([0] : List Nat) → k ∈ ([0, 3] : List Nat)) k h)) _ _
set_option maxRecDepth 100000 in
theorem cd_g_X3_parse_b81 {S : List Nat} (hS : ∀ k, k ∈ ([0, 3] : List Nat) → k ∈ S) (T : AT) (l0 : Nat) (l2 : Nat) : CD S (g_X3_parse_b81 T l0 l2) := by
  unfold g_X3_parse_b81
  refine cd_oif ?_
  refine cd_elet (fun v3 => ?_)
  refine cd_ite ?_ ?_
  · exact cd_g_X3_parse_b98 (fun k h => hS k ((by decide : ∀ k, k ∈ ([0, 3] : List Nat) → k ∈ ([0, 3] : List Nat)) k h)) _ _
  · refine cd_oif ?_
    refine cd_obind (fun n6 => ?_)
    refine cd_oif ?_
    refine cd_elet (fun v8 => ?_)
    refine cd_ite ?_ ?_
    · exact cd_g_X3_parse_b98 (fun k h => hS k ((by decide : ∀ k, k ∈ ([0, 3] : List Nat) → k ∈ ([0, 3] : List Nat)) k h)) _ _
    · exact cd_g_X3_parse_b107 (fun k h => hS k ((by decide : ∀ k, k ∈ ([0] : List Nat) → k ∈ ([0, 3] : List Nat)) k h)) _ _
set_option maxRecDepth 100000 in
theorem cd_g_X3_parse_b60 {S : List Nat} (hS : ∀ k, k ∈ ([0, 3] : List Nat) → k ∈ S) {k24 : AT → Nat → Nat → Int32 → Option (Nat × Int32 × AT)} (hk24 : ∀ (x0 : AT) (x1 : Nat) (x2 : Nat) (x3 : Int32), CD S (k24 x0 x1 x2 x3)) (T : AT) (l0 : Nat) (l2 : Nat) (l3 : Int32) : CD S (g_X3_parse_b60 k24 T l0 l2 l3) := by
  unfold g_X3_parse_b60
  refine cd_oif ?_
  refine cd_elet (fun v3 => ?_)
  refine cd_elet (fun v4 => ?_)
  refine cd_oif ?_
  refine cd_elet (fun T6 => ?_)
  refine cd_oif ?_
  refine cd_othr (cd_g_X3_parseLine (fun k h => hS k ((by decide : ∀ k, k ∈ ([0, 3] : List Nat) → k ∈ ([0, 3] : List Nat)) k h)) _ _ _) (fun r10 T8 => ?_)
  refine cd_elet (fun v12 => ?_)
  exact hk24 _ _ _ _
set_option maxRecDepth 100000 in
theorem cd_g_X3_parse_b24 {S : List Nat} (hS : ∀ k, k ∈ ([0, 3] : List Nat) → k ∈ S) : ∀ (n : Nat) (T : AT) (l0 : Nat) (l2 : Nat) (l3 : Int32), CD S (g_X3_parse_b24 n T l0 l2 l3)
  | 0, _, _, _, _ => cd_none
  | n + 1, T, l0, l2, l3 => by
    have ih := cd_g_X3_parse_b24 hS n
    unfold g_X3_parse_b24
    refine cd_oif ?_
    refine cd_obind (fun n3 => ?_)
    refine cd_oif ?_
    refine cd_elet (fun v5 => ?_)
    refine cd_ite ?_ ?_
    · exact cd_g_X3_parse_b81 (fun k h => hS k ((by decide : ∀ k, k ∈ ([0, 3] : List Nat) → k ∈ ([0, 3] : List Nat)) k h)) _ _ _
    · refine cd_oif ?_
      refine cd_obind2 (fun r10 T8 => ?_)
      refine cd_ite ?_ ?_
      · exact cd_g_X3_parse_b81 (fun k h => hS k ((by decide : ∀ k, k ∈ ([0, 3] : List Nat) → k ∈ ([0, 3] : List Nat)) k h)) _ _ _
      · refine cd_oif ?_
        refine cd_obind2 (fun r16 T14 => ?_)
        refine cd_ite ?_ ?_
        · exact cd_g_X3_parse_b60 (fun k h => hS k ((by decide : ∀ k, k ∈ ([0, 3] : List Nat) → k ∈ ([0, 3] : List Nat)) k h)) ih _ _ _ _
        · refine cd_oif ?_
          refine cd_elet (fun v20 => ?_)
          refine cd_oif ?_
          refine cd_othr (cd_g_X3_failAt (fun k h => hS k ((by decide : ∀ k, k ∈ ([3] : List Nat) → k ∈ ([0, 3] : List Nat)) k h)) _ _ _ _) (fun r24 T22 => ?_)
          exact cd_g_X3_parse_b60 (fun k h => hS k ((by decide : ∀ k, k ∈ ([0, 3] : List Nat) → k ∈ ([0, 3] : List Nat)) k h)) ih _ _ _ _
set_option maxRecDepth 100000 in
theorem cd_g_X3_parse {S : List Nat} (hS : ∀ k, k ∈ ([0, 3] : List Nat) → k ∈ S) (T : AT) (o : Nat) (a0 : Int32) (a1 : Nat) : CD S (g_X3_parse T o a0 a1) := by
  unfold g_X3_parse
  refine cd_oif ?_
  refine cd_obind (fun n3 => ?_)
  refine cd_oif ?_
  refine cd_obind (fun T5 => ?_)
  refine cd_oif ?_
  refine cd_elet (fun T8 => ?_)
  refine cd_oif ?_
  refine cd_obind (fun T10 => ?_)
  refine cd_oif ?_
  refine cd_othr (cd_g_X3_parseHead (fun k h => hS k ((by decide : ∀ k, k ∈ ([0, 3] : List Nat) → k ∈ ([0, 3] : List Nat)) k h)) _ _ _) (fun r15 T13 => ?_)
  exact cd_g_X3_parse_b24 (fun k h => hS k ((by decide : ∀ k, k ∈ ([0, 3] : List Nat) → k ∈ ([0, 3] : List Nat)) k h)) _ _ _ _ _
set_option maxRecDepth 100000 in
theorem cd_g_X11_load_b15 {S : List Nat} (hS : ∀ k, k ∈ ([2] : List Nat) → k ∈ S) (T : AT) : CD S (g_X11_load_b15 T) := by
  unfold g_X11_load_b15
  exact cd_some (hS _ (by decide))
set_option maxRecDepth 100000 in
theorem cd_g_X11_load_b65 {S : List Nat} (hS : ∀ k, k ∈ ([0] : List Nat) → k ∈ S) (T : AT) (l0 : Nat) : CD S (g_X11_load_b65 T l0) := by
  unfold g_X11_load_b65
  refine cd_oif ?_
  refine cd_obind (fun n3 => ?_)
  refine cd_oif ?_
  refine cd_obind (fun n5 => ?_)
  refine cd_oif ?_
  refine cd_obind2 (fun r9 T7 => ?_)
  exact cd_some (hS _ (by decide))
set_option maxRecDepth 100000 in
theorem cd_g_X11_load {S : List Nat} (hS : ∀ k, k ∈ ([0, 2, 3] : List Nat) → k ∈ S) (T : AT) (o : Nat) (a0 : Int32) : CD S (g_X11_load T o a0) := by
  unfold g_X11_load
  refine cd_ite ?_ ?_
  · exact cd_g_X11_load_b15 (fun k h => hS k ((by decide : ∀ k, k ∈ ([2] : List Nat) → k ∈ ([0, 2, 3] : List Nat)) k h)) _
  · refine cd_oif ?_
    refine cd_obind (fun n4 => ?_)
    refine cd_oif ?_
    refine cd_elet (fun v6 => ?_)
    refine cd_ite ?_ ?_
    · refine cd_oif ?_
      refine cd_obind (fun n9 => ?_)
      refine cd_oif ?_
      refine cd_elet (fun T11 => ?_)
      refine cd_oif ?_
      refine cd_obind (fun n13 => ?_)
      refine cd_oif ?_
      refine cd_obind (fun n15 => ?_)
      refine cd_oif ?_
      refine cd_othr (cd_g_X3_parse (fun k h => hS k ((by decide : ∀ k, k ∈ ([0, 3] : List Nat) → k ∈ ([0, 2, 3] : List Nat)) k h)) _ _ _ _) (fun r19 T17 => ?_)
      refine cd_oif ?_
      refine cd_obind (fun n22 => ?_)
      refine cd_oif ?_
      refine cd_obind (fun n24 => ?_)
      refine cd_oif ?_
      refine cd_oif ?_
      refine cd_elet (fun T27 => ?_)
      refine cd_oif ?_
      refine cd_oif ?_
      refine cd_elet (fun T30 => ?_)
      refine cd_oif ?_
      refine cd_obind (fun T32 => ?_)
      exact cd_g_X11_load_b65 (fun k h => hS k ((by decide : ∀ k, k ∈ ([0] : List Nat) → k ∈ ([0, 2, 3] : List Nat)) k h)) _ _
    · exact cd_g_X11_load_b15 (fun k h => hS k ((by decide : ∀ k, k ∈ ([2] : List Nat) → k ∈ ([0, 2, 3] : List Nat)) k h)) _
set_option maxRecDepth 100000 in
theorem cd_g_X11_needCamera {S : List Nat} (hS : ∀ k, k ∈ ([0, 1] : List Nat) → k ∈ S) (T : AT) (o : Nat) : CD S (g_X11_needCamera T o) := by
  unfold g_X11_needCamera
  refine cd_oif ?_
  refine cd_obind (fun n3 => ?_)
  refine cd_oif ?_
  refine cd_elet (fun v5 => ?_)
  refine cd_ite ?_ ?_
  · exact cd_some (hS _ (by decide))
  · exact cd_some (hS _ (by decide))
set_option maxRecDepth 100000 in
theorem cd_g_X11_needIndex_b9 {S : List Nat} (hS : ∀ k, k ∈ ([2] : List Nat) → k ∈ S) (T : AT) : CD S (g_X11_needIndex_b9 T) := by
  unfold g_X11_needIndex_b9
  exact cd_some (hS _ (by decide))
set_option maxRecDepth 100000 in
theorem cd_g_X11_needIndex {S : List Nat} (hS : ∀ k, k ∈ ([0, 2] : List Nat) → k ∈ S) (T : AT) (a0 : Int32) (a1 : Int32) : CD S (g_X11_needIndex T a0 a1) := by
  unfold g_X11_needIndex
  refine cd_ite ?_ ?_
  · exact cd_g_X11_needIndex_b9 (fun k h => hS k ((by decide : ∀ k, k ∈ ([2] : List Nat) → k ∈ ([0, 2] : List Nat)) k h)) _
  · refine cd_ite ?_ ?_
    · exact cd_some (hS _ (by decide))
    · exact cd_g_X11_needIndex_b9 (fun k h => hS k ((by decide : ∀ k, k ∈ ([2] : List Nat) → k ∈ ([0, 2] : List Nat)) k h)) _
set_option maxRecDepth 100000 in
theorem cd_g_X11_needMic {S : List Nat} (hS : ∀ k, k ∈ ([0, 2] : List Nat) → k ∈ S) (T : AT) (o : Nat) (a0 : Int32) : CD S (g_X11_needMic T o a0) := by
  unfold g_X11_needMic
  refine cd_oif ?_
  refine cd_obind (fun n3 => ?_)
  refine cd_oif ?_
  refine cd_elet (fun v5 => ?_)
  refine cd_othr (cd_g_X11_needIndex (fun k h => hS k ((by decide : ∀ k, k ∈ ([0, 2] : List Nat) → k ∈ ([0, 2] : List Nat)) k h)) _ _ _) (fun r8 T6 => ?_)
  exact cd_some (hS _ (by decide))
set_option maxRecDepth 100000 in
theorem cd_g_X11_needRange_b10 {S : List Nat} (hS : ∀ k, k ∈ ([3] : List Nat) → k ∈ S) (T : AT) : CD S (g_X11_needRange_b10 T) := by
  unfold g_X11_needRange_b10
  exact cd_some (hS _ (by decide))
set_option maxRecDepth 100000 in
theorem cd_g_X11_needRange {S : List Nat} (hS : ∀ k, k ∈ ([0, 3] : List Nat) → k ∈ S) (T : AT) (a0 : Int32) (a1 : Int32) (a2 : Int32) : CD S (g_X11_needRange T a0 a1 a2) := by
  unfold g_X11_needRange
  refine cd_ite ?_ ?_
  · exact cd_g_X11_needRange_b10 (fun k h => hS k ((by decide : ∀ k, k ∈ ([3] : List Nat) → k ∈ ([0, 3] : List Nat)) k h)) _
  · refine cd_ite ?_ ?_
    · exact cd_some (hS _ (by decide))
    · exact cd_g_X11_needRange_b10 (fun k h => hS k ((by decide : ∀ k, k ∈ ([3] : List Nat) → k ∈ ([0, 3] : List Nat)) k h)) _
set_option maxRecDepth 100000 in
theorem cd_g_X11_isMuted {S : List Nat} (hS : ∀ k, k ∈ ([0, 1, 2] : List Nat) → k ∈ S) (T : AT) (o : Nat) (a0 : Int32) : CD S (g_X11_isMuted T o a0) := by
  unfold g_X11_isMuted
  refine cd_oif ?_
  refine cd_othr (cd_g_X11_needCamera (fun k h => hS k ((by decide : ∀ k, k ∈ ([0, 1] : List Nat) → k ∈ ([0, 1, 2] : List Nat)) k h)) _ _) (fun r5 T3 => ?_)
  refine cd_oif ?_
  refine cd_othr (cd_g_X11_needMic (fun k h => hS k ((by decide : ∀ k, k ∈ ([0, 2] : List Nat) → k ∈ ([0, 1, 2] : List Nat)) k h)) _ _ _) (fun r10 T8 => ?_)
  refine cd_oif ?_
  refine cd_obind (fun n13 => ?_)
  refine cd_oif ?_
  refine cd_obind (fun n15 => ?_)
  refine cd_oif ?_
  refine cd_oif ?_
  refine cd_elet (fun v18 => ?_)
  refine cd_oif ?_
  exact cd_some (hS _ (by decide))
set_option maxRecDepth 100000 in
theorem cd_g_X11_needCell {S : List Nat} (hS : ∀ k, k ∈ ([0, 2] : List Nat) → k ∈ S) (T : AT) (o : Nat) (a0 : Int32) : CD S (g_X11_needCell T o a0) := by
  unfold g_X11_needCell
  refine cd_oif ?_
  refine cd_obind (fun n3 => ?_)
  refine cd_oif ?_
  refine cd_obind (fun n5 => ?_)
  refine cd_oif ?_
  refine cd_obind2 (fun r9 T7 => ?_)
  refine cd_othr (cd_g_X11_needIndex (fun k h => hS k ((by decide : ∀ k, k ∈ ([0, 2] : List Nat) → k ∈ ([0, 2] : List Nat)) k h)) _ _ _) (fun r13 T11 => ?_)
  exact cd_some (hS _ (by decide))
set_option maxRecDepth 100000 in
theorem cd_g_X11_needSource {S : List Nat} (hS : ∀ k, k ∈ ([0, 2] : List Nat) → k ∈ S) (T : AT) (o : Nat) (a0 : Int32) : CD S (g_X11_needSource T o a0) := by
  unfold g_X11_needSource
  refine cd_oif ?_
  refine cd_obind (fun n3 => ?_)
  refine cd_oif ?_
  refine cd_elet (fun v5 => ?_)
  refine cd_othr (cd_g_X11_needIndex (fun k h => hS k ((by decide : ∀ k, k ∈ ([0, 2] : List Nat) → k ∈ ([0, 2] : List Nat)) k h)) _ _ _) (fun r8 T6 => ?_)
  exact cd_some (hS _ (by decide))
set_option maxRecDepth 100000 in
theorem cd_g_X11_isOn {S : List Nat} (hS : ∀ k, k ∈ ([0, 1, 2] : List Nat) → k ∈ S) (T : AT) (o : Nat) (a0 : Int32) : CD S (g_X11_isOn T o a0) := by
  unfold g_X11_isOn
  refine cd_oif ?_
  refine cd_othr (cd_g_X11_needCamera (fun k h => hS k ((by decide : ∀ k, k ∈ ([0, 1] : List Nat) → k ∈ ([0, 1, 2] : List Nat)) k h)) _ _) (fun r5 T3 => ?_)
  refine cd_oif ?_
  refine cd_othr (cd_g_X11_needSource (fun k h => hS k ((by decide : ∀ k, k ∈ ([0, 2] : List Nat) → k ∈ ([0, 1, 2] : List Nat)) k h)) _ _ _) (fun r10 T8 => ?_)
  refine cd_oif ?_
  refine cd_obind (fun n13 => ?_)
  refine cd_oif ?_
  refine cd_obind (fun n15 => ?_)
  refine cd_oif ?_
  refine cd_oif ?_
  refine cd_elet (fun v18 => ?_)
  refine cd_oif ?_
  exact cd_some (hS _ (by decide))
set_option maxRecDepth 100000 in
theorem cd_g_X11_delay {S : List Nat} (hS : ∀ k, k ∈ ([0, 1, 2] : List Nat) → k ∈ S) (T : AT) (o : Nat) (a0 : Int32) (a1 : Int32) : CD S (g_X11_delay T o a0 a1) := by
  unfold g_X11_delay
  refine cd_oif ?_
  refine cd_othr (cd_g_X11_needCamera (fun k h => hS k ((by decide : ∀ k, k ∈ ([0, 1] : List Nat) → k ∈ ([0, 1, 2] : List Nat)) k h)) _ _) (fun r5 T3 => ?_)
  refine cd_oif ?_
  refine cd_othr (cd_g_X11_needMic (fun k h => hS k ((by decide : ∀ k, k ∈ ([0, 2] : List Nat) → k ∈ ([0, 1, 2] : List Nat)) k h)) _ _ _) (fun r10 T8 => ?_)
  refine cd_oif ?_
  refine cd_othr (cd_g_X11_needCell (fun k h => hS k ((by decide : ∀ k, k ∈ ([0, 2] : List Nat) → k ∈ ([0, 1, 2] : List Nat)) k h)) _ _ _) (fun r15 T13 => ?_)
  refine cd_oif ?_
  refine cd_obind (fun n18 => ?_)
  refine cd_oif ?_
  refine cd_obind (fun n20 => ?_)
  refine cd_oif ?_
  refine cd_oif ?_
  refine cd_obind (fun n23 => ?_)
  refine cd_oif ?_
  refine cd_oif ?_
  refine cd_elet (fun v26 => ?_)
  exact cd_some (hS _ (by decide))
set_option maxRecDepth 100000 in
theorem cd_g_X11_spread {S : List Nat} (hS : ∀ k, k ∈ ([0, 1, 2] : List Nat) → k ∈ S) (T : AT) (o : Nat) (a0 : Int32) : CD S (g_X11_spread T o a0) := by
  unfold g_X11_spread
  refine cd_oif ?_
  refine cd_othr (cd_g_X11_needCamera (fun k h => hS k ((by decide : ∀ k, k ∈ ([0, 1] : List Nat) → k ∈ ([0, 1, 2] : List Nat)) k h)) _ _) (fun r5 T3 => ?_)
  refine cd_oif ?_
  refine cd_othr (cd_g_X11_needCell (fun k h => hS k ((by decide : ∀ k, k ∈ ([0, 2] : List Nat) → k ∈ ([0, 1, 2] : List Nat)) k h)) _ _ _) (fun r10 T8 => ?_)
  refine cd_oif ?_
  refine cd_obind (fun n13 => ?_)
  refine cd_oif ?_
  refine cd_obind (fun n15 => ?_)
  refine cd_oif ?_
  refine cd_oif ?_
  refine cd_obind (fun n18 => ?_)
  refine cd_oif ?_
  refine cd_obind (fun n20 => ?_)
  refine cd_oif ?_
  refine cd_obind2 (fun r24 T22 => ?_)
  refine cd_oif ?_
  refine cd_obind (fun n27 => ?_)
  refine cd_oif ?_
  refine cd_obind2 (fun r31 T29 => ?_)
  refine cd_elet (fun v33 => ?_)
  exact cd_some (hS _ (by decide))
set_option maxRecDepth 100000 in
theorem cd_g_X11_window {S : List Nat} (hS : ∀ k, k ∈ ([0, 1, 2] : List Nat) → k ∈ S) (T : AT) (o : Nat) (a0 : Int32) : CD S (g_X11_window T o a0) := by
  unfold g_X11_window
  refine cd_oif ?_
  refine cd_othr (cd_g_X11_needCamera (fun k h => hS k ((by decide : ∀ k, k ∈ ([0, 1] : List Nat) → k ∈ ([0, 1, 2] : List Nat)) k h)) _ _) (fun r5 T3 => ?_)
  refine cd_oif ?_
  refine cd_othr (cd_g_X11_needCell (fun k h => hS k ((by decide : ∀ k, k ∈ ([0, 2] : List Nat) → k ∈ ([0, 1, 2] : List Nat)) k h)) _ _ _) (fun r10 T8 => ?_)
  refine cd_oif ?_
  refine cd_obind (fun n13 => ?_)
  refine cd_oif ?_
  refine cd_obind (fun n15 => ?_)
  refine cd_oif ?_
  refine cd_obind (fun n17 => ?_)
  refine cd_oif ?_
  refine cd_oif ?_
  refine cd_obind (fun n20 => ?_)
  refine cd_oif ?_
  refine cd_obind2 (fun r24 T22 => ?_)
  exact cd_some (hS _ (by decide))
set_option maxRecDepth 100000 in
theorem cd_g_X11_power_b13 {S : List Nat} (hS : ∀ k, k ∈ ([0] : List Nat) → k ∈ S) (T : AT) (s0 : Nat) (l1 : Int32) : CD S (g_X11_power_b13 T s0 l1) := by
  unfold g_X11_power_b13
  refine cd_oif ?_
  refine cd_obind (fun n3 => ?_)
  refine cd_oif ?_
  refine cd_obind2 (fun r7 T5 => ?_)
  exact cd_some (hS _ (by decide))
set_option maxRecDepth 100000 in
theorem cd_g_X11_power {S : List Nat} (hS : ∀ k, k ∈ ([0, 1, 2] : List Nat) → k ∈ S) (T : AT) (o : Nat) (a0 : Int32) : CD S (g_X11_power T o a0) := by
  unfold g_X11_power
  refine cd_oif ?_
  refine cd_othr (cd_g_X11_needCamera (fun k h => hS k ((by decide : ∀ k, k ∈ ([0, 1] : List Nat) → k ∈ ([0, 1, 2] : List Nat)) k h)) _ _) (fun r5 T3 => ?_)
  refine cd_oif ?_
  refine cd_othr (cd_g_X11_needCell (fun k h => hS k ((by decide : ∀ k, k ∈ ([0, 2] : List Nat) → k ∈ ([0, 1, 2] : List Nat)) k h)) _ _ _) (fun r10 T8 => ?_)
  refine cd_oif ?_
  refine cd_obind2 (fun r14 T13 => ?_)
  refine cd_oif ?_
  exact cd_g_X11_power_b13 (fun k h => hS k ((by decide : ∀ k, k ∈ ([0] : List Nat) → k ∈ ([0, 1, 2] : List Nat)) k h)) _ _ _
set_option maxRecDepth 100000 in
theorem cd_g_X11_powerAt_b53 {S : List Nat} (hS : ∀ k, k ∈ ([0] : List Nat) → k ∈ S) (T : AT) (l0 : Nat) : CD S (g_X11_powerAt_b53 T l0) := by
  unfold g_X11_powerAt_b53
  refine cd_oif ?_
  refine cd_obind (fun n3 => ?_)
  refine cd_oif ?_
  refine cd_obind2 (fun r7 T5 => ?_)
  exact cd_some (hS _ (by decide))
set_option maxRecDepth 100000 in
theorem cd_g_X11_powerAt {S : List Nat} (hS : ∀ k, k ∈ ([0, 1, 3] : List Nat) → k ∈ S) (T : AT) (o : Nat) (a0 : Int32) (a1 : Int32) : CD S (g_X11_powerAt T o a0 a1) := by
  unfold g_X11_powerAt
  refine cd_oif ?_
  refine cd_othr (cd_g_X11_needCamera (fun k h => hS k ((by decide : ∀ k, k ∈ ([0, 1] : List Nat) → k ∈ ([0, 1, 3] : List Nat)) k h)) _ _) (fun r5 T3 => ?_)
  refine cd_othr (cd_g_X11_needRange (fun k h => hS k ((by decide : ∀ k, k ∈ ([0, 3] : List Nat) → k ∈ ([0, 1, 3] : List Nat)) k h)) _ _ _ _) (fun r9 T7 => ?_)
  refine cd_othr (cd_g_X11_needRange (fun k h => hS k ((by decide : ∀ k, k ∈ ([0, 3] : List Nat) → k ∈ ([0, 1, 3] : List Nat)) k h)) _ _ _ _) (fun r13 T11 => ?_)
  refine cd_oif ?_
  refine cd_obind (fun n16 => ?_)
  refine cd_oif ?_
  refine cd_obind (fun n18 => ?_)
  refine cd_oif ?_
  refine cd_obind (fun T20 => ?_)
  refine cd_oif ?_
  refine cd_obind (fun n23 => ?_)
  refine cd_oif ?_
  refine cd_obind (fun n25 => ?_)
  refine cd_oif ?_
  refine cd_obind (fun n27 => ?_)
  refine cd_oif ?_
  refine cd_obind (fun T29 => ?_)
  exact cd_g_X11_powerAt_b53 (fun k h => hS k ((by decide : ∀ k, k ∈ ([0] : List Nat) → k ∈ ([0, 1, 3] : List Nat)) k h)) _ _
set_option maxRecDepth 100000 in
theorem cd_g_X11_best_b8 {S : List Nat} (hS : ∀ k, k ∈ ([0] : List Nat) → k ∈ S) (T : AT) (s0 : Nat) : CD S (g_X11_best_b8 T s0) := by
  unfold g_X11_best_b8
  refine cd_oif ?_
  refine cd_elet (fun v3 => ?_)
  exact cd_some (hS _ (by decide))
set_option maxRecDepth 100000 in
theorem cd_g_X11_best {S : List Nat} (hS : ∀ k, k ∈ ([0, 1] : List Nat) → k ∈ S) (T : AT) (o : Nat) : CD S (g_X11_best T o) := by
  unfold g_X11_best
  refine cd_oif ?_
  refine cd_othr (cd_g_X11_needCamera (fun k h => hS k ((by decide : ∀ k, k ∈ ([0, 1] : List Nat) → k ∈ ([0, 1] : List Nat)) k h)) _ _) (fun r5 T3 => ?_)
  refine cd_oif ?_
  refine cd_obind2 (fun r9 T8 => ?_)
  refine cd_oif ?_
  exact cd_g_X11_best_b8 (fun k h => hS k ((by decide : ∀ k, k ∈ ([0] : List Nat) → k ∈ ([0, 1] : List Nat)) k h)) _ _
set_option maxRecDepth 100000 in
theorem cd_g_X11_bestPower_b8 {S : List Nat} (hS : ∀ k, k ∈ ([0] : List Nat) → k ∈ S) (T : AT) (s0 : Nat) : CD S (g_X11_bestPower_b8 T s0) := by
  unfold g_X11_bestPower_b8
  refine cd_oif ?_
  refine cd_obind (fun n3 => ?_)
  refine cd_oif ?_
  refine cd_elet (fun v5 => ?_)
  refine cd_oif ?_
  refine cd_obind2 (fun r9 T7 => ?_)
  exact cd_some (hS _ (by decide))
set_option maxRecDepth 100000 in
theorem cd_g_X11_bestPower {S : List Nat} (hS : ∀ k, k ∈ ([0, 1] : List Nat) → k ∈ S) (T : AT) (o : Nat) : CD S (g_X11_bestPower T o) := by
  unfold g_X11_bestPower
  refine cd_oif ?_
  refine cd_othr (cd_g_X11_needCamera (fun k h => hS k ((by decide : ∀ k, k ∈ ([0, 1] : List Nat) → k ∈ ([0, 1] : List Nat)) k h)) _ _) (fun r5 T3 => ?_)
  refine cd_oif ?_
  refine cd_obind2 (fun r9 T8 => ?_)
  refine cd_oif ?_
  exact cd_g_X11_bestPower_b8 (fun k h => hS k ((by decide : ∀ k, k ∈ ([0] : List Nat) → k ∈ ([0, 1] : List Nat)) k h)) _ _
set_option maxRecDepth 100000 in
theorem cd_g_X11_meanPower_b51 {S : List Nat} (hS : ∀ k, k ∈ ([0] : List Nat) → k ∈ S) (T : AT) (l0 : Nat) : CD S (g_X11_meanPower_b51 T l0) := by
  unfold g_X11_meanPower_b51
  refine cd_oif ?_
  refine cd_obind (fun n3 => ?_)
  refine cd_oif ?_
  refine cd_obind2 (fun r7 T5 => ?_)
  exact cd_some (hS _ (by decide))
set_option maxRecDepth 100000 in
theorem cd_g_X11_meanPower_b33 {S : List Nat} (hS : ∀ k, k ∈ ([0] : List Nat) → k ∈ S) (T : AT) (l0 : Nat) : CD S (g_X11_meanPower_b33 T l0) := by
  unfold g_X11_meanPower_b33
  refine cd_oif ?_
  refine cd_obind (fun n3 => ?_)
  refine cd_oif ?_
  refine cd_obind (fun n5 => ?_)
  refine cd_oif ?_
  refine cd_obind (fun n7 => ?_)
  refine cd_oif ?_
  refine cd_obind2 (fun r11 T9 => ?_)
  refine cd_oif ?_
  refine cd_obind (fun T14 => ?_)
  exact cd_g_X11_meanPower_b51 (fun k h => hS k ((by decide : ∀ k, k ∈ ([0] : List Nat) → k ∈ ([0] : List Nat)) k h)) _ _
set_option maxRecDepth 100000 in
theorem cd_g_X11_meanPower_b8 {S : List Nat} (hS : ∀ k, k ∈ ([0] : List Nat) → k ∈ S) (T : AT) (s0 : Nat) (l0 : Nat) : CD S (g_X11_meanPower_b8 T s0 l0) := by
  unfold g_X11_meanPower_b8
  refine cd_oif ?_
  refine cd_obind (fun n3 => ?_)
  refine cd_oif ?_
  refine cd_obind (fun n5 => ?_)
  refine cd_oif ?_
  refine cd_obind (fun n7 => ?_)
  refine cd_oif ?_
  refine cd_obind (fun n9 => ?_)
  refine cd_oif ?_
  refine cd_obind (fun n11 => ?_)
  refine cd_oif ?_
  refine cd_obind (fun n13 => ?_)
  refine cd_oif ?_
  refine cd_obind (fun T15 => ?_)
  exact cd_g_X11_meanPower_b33 (fun k h => hS k ((by decide : ∀ k, k ∈ ([0] : List Nat) → k ∈ ([0] : List Nat)) k h)) _ _
set_option maxRecDepth 100000 in
theorem cd_g_X11_meanPower {S : List Nat} (hS : ∀ k, k ∈ ([0, 1] : List Nat) → k ∈ S) (T : AT) (o : Nat) : CD S (g_X11_meanPower T o) := by
  unfold g_X11_meanPower
  refine cd_oif ?_
  refine cd_othr (cd_g_X11_needCamera (fun k h => hS k ((by decide : ∀ k, k ∈ ([0, 1] : List Nat) → k ∈ ([0, 1] : List Nat)) k h)) _ _) (fun r5 T3 => ?_)
  refine cd_oif ?_
  refine cd_obind2 (fun r9 T8 => ?_)
  refine cd_oif ?_
  exact cd_g_X11_meanPower_b8 (fun k h => hS k ((by decide : ∀ k, k ∈ ([0] : List Nat) → k ∈ ([0, 1] : List Nat)) k h)) _ _ _
set_option maxRecDepth 100000 in
theorem cd_g_X11_peaks_b8 {S : List Nat} (hS : ∀ k, k ∈ ([0] : List Nat) → k ∈ S) (T : AT) (s0 : Nat) : CD S (g_X11_peaks_b8 T s0) := by
  unfold g_X11_peaks_b8
  refine cd_oif ?_
  refine cd_elet (fun v3 => ?_)
  exact cd_some (hS _ (by decide))
set_option maxRecDepth 100000 in
theorem cd_g_X11_peaks {S : List Nat} (hS : ∀ k, k ∈ ([0, 1] : List Nat) → k ∈ S) (T : AT) (o : Nat) : CD S (g_X11_peaks T o) := by
  unfold g_X11_peaks
  refine cd_oif ?_
  refine cd_othr (cd_g_X11_needCamera (fun k h => hS k ((by decide : ∀ k, k ∈ ([0, 1] : List Nat) → k ∈ ([0, 1] : List Nat)) k h)) _ _) (fun r5 T3 => ?_)
  refine cd_oif ?_
  refine cd_obind2 (fun r9 T8 => ?_)
  refine cd_oif ?_
  exact cd_g_X11_peaks_b8 (fun k h => hS k ((by decide : ∀ k, k ∈ ([0] : List Nat) → k ∈ ([0, 1] : List Nat)) k h)) _ _
set_option maxRecDepth 100000 in
theorem cd_g_X11_peakAt_b8 {S : List Nat} (hS : ∀ k, k ∈ ([0, 2] : List Nat) → k ∈ S) (T : AT) (s0 : Nat) (l1 : Int32) : CD S (g_X11_peakAt_b8 T s0 l1) := by
  unfold g_X11_peakAt_b8
  refine cd_oif ?_
  refine cd_elet (fun v3 => ?_)
  refine cd_othr (cd_g_X11_needIndex (fun k h => hS k ((by decide : ∀ k, k ∈ ([0, 2] : List Nat) → k ∈ ([0, 2] : List Nat)) k h)) _ _ _) (fun r6 T4 => ?_)
  refine cd_oif ?_
  refine cd_obind2 (fun r11 T9 => ?_)
  exact cd_some (hS _ (by decide))
set_option maxRecDepth 100000 in
theorem cd_g_X11_peakAt {S : List Nat} (hS : ∀ k, k ∈ ([0, 1, 2] : List Nat) → k ∈ S) (T : AT) (o : Nat) (a0 : Int32) : CD S (g_X11_peakAt T o a0) := by
  unfold g_X11_peakAt
  refine cd_oif ?_
  refine cd_othr (cd_g_X11_needCamera (fun k h => hS k ((by decide : ∀ k, k ∈ ([0, 1] : List Nat) → k ∈ ([0, 1, 2] : List Nat)) k h)) _ _) (fun r5 T3 => ?_)
  refine cd_oif ?_
  refine cd_obind2 (fun r9 T8 => ?_)
  refine cd_oif ?_
  exact cd_g_X11_peakAt_b8 (fun k h => hS k ((by decide : ∀ k, k ∈ ([0, 2] : List Nat) → k ∈ ([0, 1, 2] : List Nat)) k h)) _ _ _
set_option maxRecDepth 100000 in
theorem cd_g_X11_isPeak_b13 {S : List Nat} (hS : ∀ k, k ∈ ([0] : List Nat) → k ∈ S) (T : AT) (s0 : Nat) (l0 : Nat) (l1 : Int32) : CD S (g_X11_isPeak_b13 T s0 l0 l1) := by
  unfold g_X11_isPeak_b13
  refine cd_oif ?_
  refine cd_obind (fun n3 => ?_)
  refine cd_oif ?_
  refine cd_obind (fun n5 => ?_)
  refine cd_oif ?_
  refine cd_obind2 (fun r9 T7 => ?_)
  refine cd_oif ?_
  exact cd_some (hS _ (by decide))
set_option maxRecDepth 100000 in
theorem cd_g_X11_isPeak {S : List Nat} (hS : ∀ k, k ∈ ([0, 1, 2] : List Nat) → k ∈ S) (T : AT) (o : Nat) (a0 : Int32) : CD S (g_X11_isPeak T o a0) := by
  unfold g_X11_isPeak
  refine cd_oif ?_
  refine cd_othr (cd_g_X11_needCamera (fun k h => hS k ((by decide : ∀ k, k ∈ ([0, 1] : List Nat) → k ∈ ([0, 1, 2] : List Nat)) k h)) _ _) (fun r5 T3 => ?_)
  refine cd_oif ?_
  refine cd_othr (cd_g_X11_needCell (fun k h => hS k ((by decide : ∀ k, k ∈ ([0, 2] : List Nat) → k ∈ ([0, 1, 2] : List Nat)) k h)) _ _ _) (fun r10 T8 => ?_)
  refine cd_oif ?_
  refine cd_obind2 (fun r14 T13 => ?_)
  refine cd_oif ?_
  exact cd_g_X11_isPeak_b13 (fun k h => hS k ((by decide : ∀ k, k ∈ ([0] : List Nat) → k ∈ ([0, 1, 2] : List Nat)) k h)) _ _ _ _
set_option maxRecDepth 100000 in
theorem cd_g_X11_zonePower_b49 {S : List Nat} (hS : ∀ k, k ∈ ([0] : List Nat) → k ∈ S) (T : AT) (l0 : Nat) : CD S (g_X11_zonePower_b49 T l0) := by
  unfold g_X11_zonePower_b49
  refine cd_oif ?_
  refine cd_obind (fun n3 => ?_)
  refine cd_oif ?_
  refine cd_obind2 (fun r7 T5 => ?_)
  exact cd_some (hS _ (by decide))
set_option maxRecDepth 100000 in
theorem cd_g_X11_zonePower_b22 {S : List Nat} (hS : ∀ k, k ∈ ([0] : List Nat) → k ∈ S) (T : AT) (s0 : Nat) (l0 : Nat) (l1 : Int32) : CD S (g_X11_zonePower_b22 T s0 l0 l1) := by
  unfold g_X11_zonePower_b22
  refine cd_oif ?_
  refine cd_obind (fun n3 => ?_)
  refine cd_oif ?_
  refine cd_obind (fun n5 => ?_)
  refine cd_oif ?_
  refine cd_obind (fun n7 => ?_)
  refine cd_oif ?_
  refine cd_oif ?_
  refine cd_obind (fun n10 => ?_)
  refine cd_oif ?_
  refine cd_obind (fun n12 => ?_)
  refine cd_oif ?_
  refine cd_obind (fun n14 => ?_)
  refine cd_oif ?_
  refine cd_obind (fun n16 => ?_)
  refine cd_oif ?_
  refine cd_obind (fun T18 => ?_)
  exact cd_g_X11_zonePower_b49 (fun k h => hS k ((by decide : ∀ k, k ∈ ([0] : List Nat) → k ∈ ([0] : List Nat)) k h)) _ _
set_option maxRecDepth 100000 in
theorem cd_g_X11_zonePower {S : List Nat} (hS : ∀ k, k ∈ ([0, 1, 2] : List Nat) → k ∈ S) (T : AT) (o : Nat) (a0 : Int32) : CD S (g_X11_zonePower T o a0) := by
  unfold g_X11_zonePower
  refine cd_oif ?_
  refine cd_othr (cd_g_X11_needCamera (fun k h => hS k ((by decide : ∀ k, k ∈ ([0, 1] : List Nat) → k ∈ ([0, 1, 2] : List Nat)) k h)) _ _) (fun r5 T3 => ?_)
  refine cd_oif ?_
  refine cd_obind (fun n8 => ?_)
  refine cd_oif ?_
  refine cd_obind (fun n10 => ?_)
  refine cd_oif ?_
  refine cd_elet (fun v12 => ?_)
  refine cd_othr (cd_g_X11_needIndex (fun k h => hS k ((by decide : ∀ k, k ∈ ([0, 2] : List Nat) → k ∈ ([0, 1, 2] : List Nat)) k h)) _ _ _) (fun r15 T13 => ?_)
  refine cd_oif ?_
  refine cd_obind2 (fun r19 T18 => ?_)
  refine cd_oif ?_
  exact cd_g_X11_zonePower_b22 (fun k h => hS k ((by decide : ∀ k, k ∈ ([0] : List Nat) → k ∈ ([0, 1, 2] : List Nat)) k h)) _ _ _ _
set_option maxRecDepth 100000 in
theorem cd_g_X11_zoneBest_b41 {S : List Nat} (hS : ∀ k, k ∈ ([0] : List Nat) → k ∈ S) (T : AT) (s0 : Nat) (s1 : Nat) (s2 : Nat) : CD S (g_X11_zoneBest_b41 T s0 s1 s2) := by
  unfold g_X11_zoneBest_b41
  refine cd_oif ?_
  refine cd_obind (fun n3 => ?_)
  refine cd_oif ?_
  refine cd_obind2 (fun r7 T5 => ?_)
  exact cd_some (hS _ (by decide))
set_option maxRecDepth 100000 in
theorem cd_g_X11_zoneBest {S : List Nat} (hS : ∀ k, k ∈ ([0, 1, 2] : List Nat) → k ∈ S) (T : AT) (o : Nat) (a0 : Int32) : CD S (g_X11_zoneBest T o a0) := by
  unfold g_X11_zoneBest
  refine cd_oif ?_
  refine cd_othr (cd_g_X11_needCamera (fun k h => hS k ((by decide : ∀ k, k ∈ ([0, 1] : List Nat) → k ∈ ([0, 1, 2] : List Nat)) k h)) _ _) (fun r5 T3 => ?_)
  refine cd_oif ?_
  refine cd_obind (fun n8 => ?_)
  refine cd_oif ?_
  refine cd_obind (fun n10 => ?_)
  refine cd_oif ?_
  refine cd_elet (fun v12 => ?_)
  refine cd_othr (cd_g_X11_needIndex (fun k h => hS k ((by decide : ∀ k, k ∈ ([0, 2] : List Nat) → k ∈ ([0, 1, 2] : List Nat)) k h)) _ _ _) (fun r15 T13 => ?_)
  refine cd_oif ?_
  refine cd_obind (fun n18 => ?_)
  refine cd_oif ?_
  refine cd_obind (fun n20 => ?_)
  refine cd_oif ?_
  refine cd_obind (fun n22 => ?_)
  refine cd_oif ?_
  refine cd_obind (fun n24 => ?_)
  refine cd_oif ?_
  refine cd_obind (fun n26 => ?_)
  refine cd_oif ?_
  refine cd_oif ?_
  refine cd_obind (fun n29 => ?_)
  refine cd_oif ?_
  refine cd_obind2 (fun r32 T31 => ?_)
  refine cd_oif ?_
  exact cd_g_X11_zoneBest_b41 (fun k h => hS k ((by decide : ∀ k, k ∈ ([0] : List Nat) → k ∈ ([0, 1, 2] : List Nat)) k h)) _ _ _ _
set_option maxRecDepth 100000 in
theorem cd_g_X11_contrast_b45 {S : List Nat} (hS : ∀ k, k ∈ ([0] : List Nat) → k ∈ S) (T : AT) (s0 : UInt32) : CD S (g_X11_contrast_b45 T s0) := by
  unfold g_X11_contrast_b45
  exact cd_some (hS _ (by decide))
set_option maxRecDepth 100000 in
theorem cd_g_X11_contrast_b8 {S : List Nat} (hS : ∀ k, k ∈ ([0] : List Nat) → k ∈ S) (T : AT) (s0 : Nat) (l0 : Nat) : CD S (g_X11_contrast_b8 T s0 l0) := by
  unfold g_X11_contrast_b8
  refine cd_oif ?_
  refine cd_obind (fun n3 => ?_)
  refine cd_oif ?_
  refine cd_obind (fun n5 => ?_)
  refine cd_oif ?_
  refine cd_obind2 (fun r9 T7 => ?_)
  refine cd_oif ?_
  refine cd_obind2 (fun r14 T12 => ?_)
  refine cd_ite ?_ ?_
  · exact cd_g_X11_contrast_b45 (fun k h => hS k ((by decide : ∀ k, k ∈ ([0] : List Nat) → k ∈ ([0] : List Nat)) k h)) _ _
  · refine cd_oif ?_
    refine cd_obind (fun n18 => ?_)
    refine cd_oif ?_
    refine cd_elet (fun v20 => ?_)
    refine cd_oif ?_
    refine cd_obind2 (fun r24 T22 => ?_)
    exact cd_g_X11_contrast_b45 (fun k h => hS k ((by decide : ∀ k, k ∈ ([0] : List Nat) → k ∈ ([0] : List Nat)) k h)) _ _
set_option maxRecDepth 100000 in
theorem cd_g_X11_contrast {S : List Nat} (hS : ∀ k, k ∈ ([0, 1] : List Nat) → k ∈ S) (T : AT) (o : Nat) : CD S (g_X11_contrast T o) := by
  unfold g_X11_contrast
  refine cd_oif ?_
  refine cd_othr (cd_g_X11_needCamera (fun k h => hS k ((by decide : ∀ k, k ∈ ([0, 1] : List Nat) → k ∈ ([0, 1] : List Nat)) k h)) _ _) (fun r5 T3 => ?_)
  refine cd_oif ?_
  refine cd_obind2 (fun r9 T8 => ?_)
  refine cd_oif ?_
  exact cd_g_X11_contrast_b8 (fun k h => hS k ((by decide : ∀ k, k ∈ ([0] : List Nat) → k ∈ ([0, 1] : List Nat)) k h)) _ _ _
set_option maxRecDepth 100000 in
theorem cd_g_X11_aliases_b59 {S : List Nat} (hS : ∀ k, k ∈ ([] : List Nat) → k ∈ S) {k29 : AT → Nat → Int32 → Int32 → Nat → Int32 → Int32 → Option (Nat × Int32 × AT)} (hk29 : ∀ (x0 : AT) (x1 : Nat) (x2 : Int32) (x3 : Int32) (x4 : Nat) (x5 : Int32) (x6 : Int32), CD S (k29 x0 x1 x2 x3 x4 x5 x6)) (T : AT) (l0 : Nat) (l1 : Int32) (l2 : Int32) (l3 : Nat) (l4 : Int32) (l5 : Int32) : CD S (g_X11_aliases_b59 k29 T l0 l1 l2 l3 l4 l5) := by
  unfold g_X11_aliases_b59
  refine cd_elet (fun v2 => ?_)
  exact hk29 _ _ _ _ _ _ _
set_option maxRecDepth 100000 in
theorem cd_g_X11_aliases_b29 {S : List Nat} (hS : ∀ k, k ∈ ([0] : List Nat) → k ∈ S) : ∀ (n : Nat) (T : AT) (l0 : Nat) (l1 : Int32) (l2 : Int32) (l3 : Nat) (l4 : Int32) (l5 : Int32), CD S (g_X11_aliases_b29 n T l0 l1 l2 l3 l4 l5)
  | 0, _, _, _, _, _, _, _ => cd_none
  | n + 1, T, l0, l1, l2, l3, l4, l5 => by
    have ih := cd_g_X11_aliases_b29 hS n
    unfold g_X11_aliases_b29
    refine cd_oif ?_
    refine cd_obind (fun n3 => ?_)
    refine cd_oif ?_
    refine cd_obind (fun n5 => ?_)
    refine cd_oif ?_
    refine cd_obind2 (fun r9 T7 => ?_)
    refine cd_ite ?_ ?_
    · exact cd_some (hS _ (by decide))
    · refine cd_oif ?_
      refine cd_obind2 (fun r15 T13 => ?_)
      refine cd_ite ?_ ?_
      · exact cd_g_X11_aliases_b59 (fun k h => hS k ((by decide : ∀ k, k ∈ ([] : List Nat) → k ∈ ([0] : List Nat)) k h)) ih _ _ _ _ _ _ _
      · refine cd_elet (fun v18 => ?_)
        exact cd_g_X11_aliases_b59 (fun k h => hS k ((by decide : ∀ k, k ∈ ([] : List Nat) → k ∈ ([0] : List Nat)) k h)) ih _ _ _ _ _ _ _
set_option maxRecDepth 100000 in
theorem cd_g_X11_aliases_b22 {S : List Nat} (hS : ∀ k, k ∈ ([0] : List Nat) → k ∈ S) (T : AT) (s0 : Nat) (l0 : Nat) (l1 : Int32) (l2 : Int32) : CD S (g_X11_aliases_b22 T s0 l0 l1 l2) := by
  unfold g_X11_aliases_b22
  exact cd_g_X11_aliases_b29 (fun k h => hS k ((by decide : ∀ k, k ∈ ([0] : List Nat) → k ∈ ([0] : List Nat)) k h)) _ _ _ _ _ _ _ _
set_option maxRecDepth 100000 in
theorem cd_g_X11_aliases {S : List Nat} (hS : ∀ k, k ∈ ([0, 1, 3] : List Nat) → k ∈ S) (T : AT) (o : Nat) (a0 : Int32) (a1 : Int32) : CD S (g_X11_aliases T o a0 a1) := by
  unfold g_X11_aliases
  refine cd_oif ?_
  refine cd_othr (cd_g_X11_needCamera (fun k h => hS k ((by decide : ∀ k, k ∈ ([0, 1] : List Nat) → k ∈ ([0, 1, 3] : List Nat)) k h)) _ _) (fun r5 T3 => ?_)
  refine cd_othr (cd_g_X11_needRange (fun k h => hS k ((by decide : ∀ k, k ∈ ([0, 3] : List Nat) → k ∈ ([0, 1, 3] : List Nat)) k h)) _ _ _ _) (fun r9 T7 => ?_)
  refine cd_othr (cd_g_X11_needRange (fun k h => hS k ((by decide : ∀ k, k ∈ ([0, 3] : List Nat) → k ∈ ([0, 1, 3] : List Nat)) k h)) _ _ _ _) (fun r13 T11 => ?_)
  refine cd_oif ?_
  refine cd_obind2 (fun r17 T16 => ?_)
  refine cd_oif ?_
  exact cd_g_X11_aliases_b22 (fun k h => hS k ((by decide : ∀ k, k ∈ ([0] : List Nat) → k ∈ ([0, 1, 3] : List Nat)) k h)) _ _ _ _ _
set_option maxRecDepth 100000 in
theorem cd_g_X11_blockBest_b47 {S : List Nat} (hS : ∀ k, k ∈ ([0] : List Nat) → k ∈ S) (T : AT) (s0 : Int32) : CD S (g_X11_blockBest_b47 T s0) := by
  unfold g_X11_blockBest_b47
  exact cd_some (hS _ (by decide))
set_option maxRecDepth 100000 in
theorem cd_g_X11_blockBest {S : List Nat} (hS : ∀ k, k ∈ ([0, 1, 3] : List Nat) → k ∈ S) (T : AT) (o : Nat) (a0 : Int32) (a1 : Int32) : CD S (g_X11_blockBest T o a0 a1) := by
  unfold g_X11_blockBest
  refine cd_oif ?_
  refine cd_othr (cd_g_X11_needCamera (fun k h => hS k ((by decide : ∀ k, k ∈ ([0, 1] : List Nat) → k ∈ ([0, 1, 3] : List Nat)) k h)) _ _) (fun r5 T3 => ?_)
  refine cd_oif ?_
  refine cd_obind (fun n8 => ?_)
  refine cd_oif ?_
  refine cd_elet (fun v10 => ?_)
  refine cd_elet (fun v11 => ?_)
  refine cd_othr (cd_g_X11_needRange (fun k h => hS k ((by decide : ∀ k, k ∈ ([0, 3] : List Nat) → k ∈ ([0, 1, 3] : List Nat)) k h)) _ _ _ _) (fun r14 T12 => ?_)
  refine cd_oif ?_
  refine cd_obind (fun n17 => ?_)
  refine cd_oif ?_
  refine cd_elet (fun v19 => ?_)
  refine cd_othr (cd_g_X11_needRange (fun k h => hS k ((by decide : ∀ k, k ∈ ([0, 3] : List Nat) → k ∈ ([0, 1, 3] : List Nat)) k h)) _ _ _ _) (fun r22 T20 => ?_)
  refine cd_oif ?_
  refine cd_obind (fun n25 => ?_)
  refine cd_oif ?_
  refine cd_obind (fun n27 => ?_)
  refine cd_oif ?_
  refine cd_obind (fun n29 => ?_)
  refine cd_oif ?_
  refine cd_obind2 (fun r32 T31 => ?_)
  exact cd_g_X11_blockBest_b47 (fun k h => hS k ((by decide : ∀ k, k ∈ ([0] : List Nat) → k ∈ ([0, 1, 3] : List Nat)) k h)) _ _
set_option maxRecDepth 100000 in
theorem cd_g_X11_path_b85 {S : List Nat} (hS : ∀ k, k ∈ ([] : List Nat) → k ∈ S) {k39 : AT → Nat → Int32 → Int32 → Int32 → Int32 → Option (Nat × Int32 × AT)} (hk39 : ∀ (x0 : AT) (x1 : Nat) (x2 : Int32) (x3 : Int32) (x4 : Int32) (x5 : Int32), CD S (k39 x0 x1 x2 x3 x4 x5)) (T : AT) (s0 : Int32) (s1 : Int32) (l0 : Nat) (l1 : Int32) (l4 : Int32) (l5 : Int32) : CD S (g_X11_path_b85 k39 T s0 s1 l0 l1 l4 l5) := by
  unfold g_X11_path_b85
  refine cd_elet (fun v2 => ?_)
  refine cd_elet (fun v3 => ?_)
  refine cd_elet (fun v4 => ?_)
  exact hk39 _ _ _ _ _ _
set_option maxRecDepth 100000 in
theorem cd_g_X11_path_b71 {S : List Nat} (hS : ∀ k, k ∈ ([] : List Nat) → k ∈ S) {k39 : AT → Nat → Int32 → Int32 → Int32 → Int32 → Option (Nat × Int32 × AT)} (hk39 : ∀ (x0 : AT) (x1 : Nat) (x2 : Int32) (x3 : Int32) (x4 : Int32) (x5 : Int32), CD S (k39 x0 x1 x2 x3 x4 x5)) (T : AT) (s0 : Int32) (l0 : Nat) (l1 : Int32) (l2 : Int32) (l3 : Int32) (l4 : Int32) : CD S (g_X11_path_b71 k39 T s0 l0 l1 l2 l3 l4) := by
  unfold g_X11_path_b71
  refine cd_ite ?_ ?_
  · exact cd_g_X11_path_b85 (fun k h => hS k ((by decide : ∀ k, k ∈ ([] : List Nat) → k ∈ ([] : List Nat)) k h)) hk39 _ _ _ _ _ _ _
  · exact cd_g_X11_path_b85 (fun k h => hS k ((by decide : ∀ k, k ∈ ([] : List Nat) → k ∈ ([] : List Nat)) k h)) hk39 _ _ _ _ _ _ _
set_option maxRecDepth 100000 in
theorem cd_g_X11_path_b39 {S : List Nat} (hS : ∀ k, k ∈ ([0] : List Nat) → k ∈ S) : ∀ (n : Nat) (T : AT) (l0 : Nat) (l1 : Int32) (l2 : Int32) (l3 : Int32) (l4 : Int32), CD S (g_X11_path_b39 n T l0 l1 l2 l3 l4)
  | 0, _, _, _, _, _, _ => cd_none
  | n + 1, T, l0, l1, l2, l3, l4 => by
    have ih := cd_g_X11_path_b39 hS n
    unfold g_X11_path_b39
    refine cd_elet (fun v2 => ?_)
    refine cd_oif ?_
    refine cd_obind (fun n4 => ?_)
    refine cd_oif ?_
    refine cd_elet (fun v6 => ?_)
    refine cd_ite ?_ ?_
    · exact cd_some (hS _ (by decide))
    · refine cd_oif ?_
      refine cd_obind (fun n9 => ?_)
      refine cd_oif ?_
      refine cd_obind (fun n11 => ?_)
      refine cd_oif ?_
      refine cd_obind (fun n13 => ?_)
      refine cd_oif ?_
      refine cd_obind2 (fun r16 T15 => ?_)
      exact cd_g_X11_path_b71 (fun k h => hS k ((by decide : ∀ k, k ∈ ([] : List Nat) → k ∈ ([0] : List Nat)) k h)) ih _ _ _ _ _ _ _
set_option maxRecDepth 100000 in
theorem cd_g_X11_path_b35 {S : List Nat} (hS : ∀ k, k ∈ ([0] : List Nat) → k ∈ S) (T : AT) (s0 : Int32) (l0 : Nat) (l1 : Int32) (l2 : Int32) : CD S (g_X11_path_b35 T s0 l0 l1 l2) := by
  unfold g_X11_path_b35
  exact cd_g_X11_path_b39 (fun k h => hS k ((by decide : ∀ k, k ∈ ([0] : List Nat) → k ∈ ([0] : List Nat)) k h)) _ _ _ _ _ _ _
set_option maxRecDepth 100000 in
theorem cd_g_X11_path {S : List Nat} (hS : ∀ k, k ∈ ([0, 1, 3] : List Nat) → k ∈ S) (T : AT) (o : Nat) (a0 : Int32) : CD S (g_X11_path T o a0) := by
  unfold g_X11_path
  refine cd_oif ?_
  refine cd_othr (cd_g_X11_needCamera (fun k h => hS k ((by decide : ∀ k, k ∈ ([0, 1] : List Nat) → k ∈ ([0, 1, 3] : List Nat)) k h)) _ _) (fun r5 T3 => ?_)
  refine cd_oif ?_
  refine cd_obind (fun n8 => ?_)
  refine cd_oif ?_
  refine cd_elet (fun v10 => ?_)
  refine cd_othr (cd_g_X11_needRange (fun k h => hS k ((by decide : ∀ k, k ∈ ([0, 3] : List Nat) → k ∈ ([0, 1, 3] : List Nat)) k h)) _ _ _ _) (fun r13 T11 => ?_)
  refine cd_oif ?_
  refine cd_obind (fun n16 => ?_)
  refine cd_oif ?_
  refine cd_obind (fun n18 => ?_)
  refine cd_oif ?_
  refine cd_obind (fun n20 => ?_)
  refine cd_oif ?_
  refine cd_obind2 (fun r23 T22 => ?_)
  exact cd_g_X11_path_b35 (fun k h => hS k ((by decide : ∀ k, k ∈ ([0] : List Nat) → k ∈ ([0, 1, 3] : List Nat)) k h)) _ _ _ _ _
set_option maxRecDepth 100000 in
theorem cd_g_X11_trackScore_b32 {S : List Nat} (hS : ∀ k, k ∈ ([0] : List Nat) → k ∈ S) (T : AT) (l0 : Nat) : CD S (g_X11_trackScore_b32 T l0) := by
  unfold g_X11_trackScore_b32
  refine cd_oif ?_
  refine cd_obind (fun n3 => ?_)
  refine cd_oif ?_
  refine cd_obind (fun n5 => ?_)
  refine cd_oif ?_
  refine cd_obind (fun n7 => ?_)
  refine cd_oif ?_
  refine cd_obind (fun n9 => ?_)
  refine cd_oif ?_
  refine cd_obind (fun n11 => ?_)
  refine cd_oif ?_
  refine cd_obind2 (fun r15 T13 => ?_)
  refine cd_oif ?_
  refine cd_obind2 (fun r20 T18 => ?_)
  exact cd_some (hS _ (by decide))
set_option maxRecDepth 100000 in
theorem cd_g_X11_trackScore {S : List Nat} (hS : ∀ k, k ∈ ([0, 1, 3] : List Nat) → k ∈ S) (T : AT) (o : Nat) (a0 : Int32) : CD S (g_X11_trackScore T o a0) := by
  unfold g_X11_trackScore
  refine cd_oif ?_
  refine cd_othr (cd_g_X11_needCamera (fun k h => hS k ((by decide : ∀ k, k ∈ ([0, 1] : List Nat) → k ∈ ([0, 1, 3] : List Nat)) k h)) _ _) (fun r5 T3 => ?_)
  refine cd_oif ?_
  refine cd_obind (fun n8 => ?_)
  refine cd_oif ?_
  refine cd_elet (fun v10 => ?_)
  refine cd_othr (cd_g_X11_needRange (fun k h => hS k ((by decide : ∀ k, k ∈ ([0, 3] : List Nat) → k ∈ ([0, 1, 3] : List Nat)) k h)) _ _ _ _) (fun r13 T11 => ?_)
  refine cd_oif ?_
  refine cd_obind (fun n16 => ?_)
  refine cd_oif ?_
  refine cd_obind (fun n18 => ?_)
  refine cd_oif ?_
  refine cd_obind (fun n20 => ?_)
  refine cd_oif ?_
  refine cd_obind (fun T22 => ?_)
  exact cd_g_X11_trackScore_b32 (fun k h => hS k ((by decide : ∀ k, k ∈ ([0] : List Nat) → k ∈ ([0, 1, 3] : List Nat)) k h)) _ _
set_option maxRecDepth 100000 in
theorem cd_g_X11_level_b14 {S : List Nat} (hS : ∀ k, k ∈ ([0] : List Nat) → k ∈ S) (T : AT) (l0 : Nat) (l1 : Int32) : CD S (g_X11_level_b14 T l0 l1) := by
  unfold g_X11_level_b14
  refine cd_oif ?_
  refine cd_obind (fun n3 => ?_)
  refine cd_oif ?_
  refine cd_obind2 (fun r7 T5 => ?_)
  exact cd_some (hS _ (by decide))
set_option maxRecDepth 100000 in
theorem cd_g_X11_level {S : List Nat} (hS : ∀ k, k ∈ ([0, 1, 2] : List Nat) → k ∈ S) (T : AT) (o : Nat) (a0 : Int32) : CD S (g_X11_level T o a0) := by
  unfold g_X11_level
  refine cd_oif ?_
  refine cd_othr (cd_g_X11_needCamera (fun k h => hS k ((by decide : ∀ k, k ∈ ([0, 1] : List Nat) → k ∈ ([0, 1, 2] : List Nat)) k h)) _ _) (fun r5 T3 => ?_)
  refine cd_oif ?_
  refine cd_othr (cd_g_X11_needMic (fun k h => hS k ((by decide : ∀ k, k ∈ ([0, 2] : List Nat) → k ∈ ([0, 1, 2] : List Nat)) k h)) _ _ _) (fun r10 T8 => ?_)
  refine cd_oif ?_
  refine cd_obind (fun T13 => ?_)
  exact cd_g_X11_level_b14 (fun k h => hS k ((by decide : ∀ k, k ∈ ([0] : List Nat) → k ∈ ([0, 1, 2] : List Nat)) k h)) _ _ _
set_option maxRecDepth 100000 in
theorem cd_g_X11_loudest_b33 {S : List Nat} (hS : ∀ k, k ∈ ([] : List Nat) → k ∈ S) {k17 : AT → Nat → Int32 → Int32 → Option (Nat × Int32 × AT)} (hk17 : ∀ (x0 : AT) (x1 : Nat) (x2 : Int32) (x3 : Int32), CD S (k17 x0 x1 x2 x3)) (T : AT) (l0 : Nat) (l1 : Int32) (l2 : Int32) : CD S (g_X11_loudest_b33 k17 T l0 l1 l2) := by
  unfold g_X11_loudest_b33
  refine cd_elet (fun v2 => ?_)
  exact hk17 _ _ _ _
set_option maxRecDepth 100000 in
theorem cd_g_X11_loudest_b17 {S : List Nat} (hS : ∀ k, k ∈ ([0] : List Nat) → k ∈ S) : ∀ (n : Nat) (T : AT) (l0 : Nat) (l1 : Int32) (l2 : Int32), CD S (g_X11_loudest_b17 n T l0 l1 l2)
  | 0, _, _, _, _ => cd_none
  | n + 1, T, l0, l1, l2 => by
    have ih := cd_g_X11_loudest_b17 hS n
    unfold g_X11_loudest_b17
    refine cd_oif ?_
    refine cd_obind (fun n3 => ?_)
    refine cd_oif ?_
    refine cd_elet (fun v5 => ?_)
    refine cd_ite ?_ ?_
    · refine cd_oif ?_
      refine cd_obind (fun n8 => ?_)
      refine cd_oif ?_
      refine cd_obind (fun n10 => ?_)
      refine cd_oif ?_
      refine cd_elet (fun v12 => ?_)
      refine cd_oif ?_
      refine cd_obind2 (fun r16 T14 => ?_)
      exact cd_some (hS _ (by decide))
    · refine cd_oif ?_
      refine cd_obind (fun T19 => ?_)
      exact cd_g_X11_loudest_b33 (fun k h => hS k ((by decide : ∀ k, k ∈ ([] : List Nat) → k ∈ ([0] : List Nat)) k h)) ih _ _ _ _
set_option maxRecDepth 100000 in
theorem cd_g_X11_loudest {S : List Nat} (hS : ∀ k, k ∈ ([0, 1, 2] : List Nat) → k ∈ S) (T : AT) (o : Nat) (a0 : Int32) : CD S (g_X11_loudest T o a0) := by
  unfold g_X11_loudest
  refine cd_oif ?_
  refine cd_othr (cd_g_X11_needCamera (fun k h => hS k ((by decide : ∀ k, k ∈ ([0, 1] : List Nat) → k ∈ ([0, 1, 2] : List Nat)) k h)) _ _) (fun r5 T3 => ?_)
  refine cd_oif ?_
  refine cd_obind (fun n8 => ?_)
  refine cd_oif ?_
  refine cd_elet (fun v10 => ?_)
  refine cd_othr (cd_g_X11_needIndex (fun k h => hS k ((by decide : ∀ k, k ∈ ([0, 2] : List Nat) → k ∈ ([0, 1, 2] : List Nat)) k h)) _ _ _) (fun r13 T11 => ?_)
  exact cd_g_X11_loudest_b17 (fun k h => hS k ((by decide : ∀ k, k ∈ ([0] : List Nat) → k ∈ ([0, 1, 2] : List Nat)) k h)) _ _ _ _ _
set_option maxRecDepth 100000 in
theorem cd_g_X11_writeMap_b66 {S : List Nat} (hS : ∀ k, k ∈ ([] : List Nat) → k ∈ S) {k16 : AT → Nat → Nat → Int32 → Option (Nat × Int32 × AT)} (hk16 : ∀ (x0 : AT) (x1 : Nat) (x2 : Nat) (x3 : Int32), CD S (k16 x0 x1 x2 x3)) (T : AT) (s0 : Int32) (s1 : Int32) (s2 : Nat) (l0 : Nat) (l1 : Nat) (l2 : Int32) : CD S (g_X11_writeMap_b66 k16 T s0 s1 s2 l0 l1 l2) := by
  unfold g_X11_writeMap_b66
  refine cd_elet (fun v2 => ?_)
  refine cd_oif ?_
  refine cd_obind (fun T4 => ?_)
  refine cd_elet (fun v6 => ?_)
  exact hk16 _ _ _ _
set_option maxRecDepth 100000 in
theorem cd_g_X11_writeMap_b54 {S : List Nat} (hS : ∀ k, k ∈ ([] : List Nat) → k ∈ S) {k16 : AT → Nat → Nat → Int32 → Option (Nat × Int32 × AT)} (hk16 : ∀ (x0 : AT) (x1 : Nat) (x2 : Nat) (x3 : Int32), CD S (k16 x0 x1 x2 x3)) (T : AT) (l0 : Nat) (l1 : Nat) (l2 : Int32) : CD S (g_X11_writeMap_b54 k16 T l0 l1 l2) := by
  unfold g_X11_writeMap_b54
  refine cd_oif ?_
  refine cd_obind (fun n3 => ?_)
  refine cd_oif ?_
  refine cd_obind2 (fun r6 T5 => ?_)
  exact cd_g_X11_writeMap_b66 (fun k h => hS k ((by decide : ∀ k, k ∈ ([] : List Nat) → k ∈ ([] : List Nat)) k h)) hk16 _ _ _ _ _ _ _
set_option maxRecDepth 100000 in
theorem cd_g_X11_writeMap_b16 {S : List Nat} (hS : ∀ k, k ∈ ([0] : List Nat) → k ∈ S) : ∀ (n : Nat) (T : AT) (l0 : Nat) (l1 : Nat) (l2 : Int32), CD S (g_X11_writeMap_b16 n T l0 l1 l2)
  | 0, _, _, _, _ => cd_none
  | n + 1, T, l0, l1, l2 => by
    have ih := cd_g_X11_writeMap_b16 hS n
    unfold g_X11_writeMap_b16
    refine cd_oif ?_
    refine cd_obind (fun n3 => ?_)
    refine cd_oif ?_
    refine cd_obind (fun n5 => ?_)
    refine cd_oif ?_
    refine cd_obind2 (fun r9 T7 => ?_)
    refine cd_ite ?_ ?_
    · refine cd_oif ?_
      refine cd_elet (fun v13 => ?_)
      exact cd_some (hS _ (by decide))
    · refine cd_ite ?_ ?_
      · exact cd_g_X11_writeMap_b54 (fun k h => hS k ((by decide : ∀ k, k ∈ ([] : List Nat) → k ∈ ([0] : List Nat)) k h)) ih _ _ _ _
      · refine cd_oif ?_
        refine cd_obind (fun n16 => ?_)
        refine cd_oif ?_
        refine cd_obind (fun n18 => ?_)
        refine cd_oif ?_
        refine cd_obind2 (fun r22 T20 => ?_)
        refine cd_ite ?_ ?_
        · refine cd_oif ?_
          refine cd_obind (fun T26 => ?_)
          exact cd_g_X11_writeMap_b54 (fun k h => hS k ((by decide : ∀ k, k ∈ ([] : List Nat) → k ∈ ([0] : List Nat)) k h)) ih _ _ _ _
        · exact cd_g_X11_writeMap_b54 (fun k h => hS k ((by decide : ∀ k, k ∈ ([] : List Nat) → k ∈ ([0] : List Nat)) k h)) ih _ _ _ _
set_option maxRecDepth 100000 in
theorem cd_g_X11_writeMap_b8 {S : List Nat} (hS : ∀ k, k ∈ ([0] : List Nat) → k ∈ S) (T : AT) (s0 : Nat) (l0 : Nat) : CD S (g_X11_writeMap_b8 T s0 l0) := by
  unfold g_X11_writeMap_b8
  refine cd_oif ?_
  refine cd_elet (fun T3 => ?_)
  exact cd_g_X11_writeMap_b16 (fun k h => hS k ((by decide : ∀ k, k ∈ ([0] : List Nat) → k ∈ ([0] : List Nat)) k h)) _ _ _ _ _
set_option maxRecDepth 100000 in
theorem cd_g_X11_writeMap {S : List Nat} (hS : ∀ k, k ∈ ([0, 1] : List Nat) → k ∈ S) (T : AT) (o : Nat) : CD S (g_X11_writeMap T o) := by
  unfold g_X11_writeMap
  refine cd_oif ?_
  refine cd_othr (cd_g_X11_needCamera (fun k h => hS k ((by decide : ∀ k, k ∈ ([0, 1] : List Nat) → k ∈ ([0, 1] : List Nat)) k h)) _ _) (fun r5 T3 => ?_)
  refine cd_oif ?_
  refine cd_obind2 (fun r9 T8 => ?_)
  refine cd_oif ?_
  exact cd_g_X11_writeMap_b8 (fun k h => hS k ((by decide : ∀ k, k ∈ ([0] : List Nat) → k ∈ ([0, 1] : List Nat)) k h)) _ _ _
set_option maxRecDepth 100000 in
theorem cd_g_X11_mapByte {S : List Nat} (hS : ∀ k, k ∈ ([0, 2] : List Nat) → k ∈ S) (T : AT) (o : Nat) (a0 : Int32) : CD S (g_X11_mapByte T o a0) := by
  unfold g_X11_mapByte
  refine cd_oif ?_
  refine cd_elet (fun v3 => ?_)
  refine cd_othr (cd_g_X11_needIndex (fun k h => hS k ((by decide : ∀ k, k ∈ ([0, 2] : List Nat) → k ∈ ([0, 2] : List Nat)) k h)) _ _ _) (fun r6 T4 => ?_)
  refine cd_oif ?_
  refine cd_obind (fun n9 => ?_)
  refine cd_oif ?_
  refine cd_oif ?_
  refine cd_elet (fun v12 => ?_)
  exact cd_some (hS _ (by decide))
set_option maxRecDepth 100000 in
theorem cd_g_X11_bestWithout_b34 {S : List Nat} (hS : ∀ k, k ∈ ([0] : List Nat) → k ∈ S) (T : AT) (s0 : Int32) : CD S (g_X11_bestWithout_b34 T s0) := by
  unfold g_X11_bestWithout_b34
  exact cd_some (hS _ (by decide))
set_option maxRecDepth 100000 in
theorem cd_g_X11_bestWithout_b20 {S : List Nat} (hS : ∀ k, k ∈ ([0] : List Nat) → k ∈ S) (T : AT) (l0 : Nat) (l1 : Int32) : CD S (g_X11_bestWithout_b20 T l0 l1) := by
  unfold g_X11_bestWithout_b20
  refine cd_oif ?_
  refine cd_obind (fun n3 => ?_)
  refine cd_oif ?_
  refine cd_obind (fun n5 => ?_)
  refine cd_oif ?_
  refine cd_oif ?_
  refine cd_elet (fun T8 => ?_)
  refine cd_oif ?_
  refine cd_obind2 (fun r11 T10 => ?_)
  exact cd_g_X11_bestWithout_b34 (fun k h => hS k ((by decide : ∀ k, k ∈ ([0] : List Nat) → k ∈ ([0] : List Nat)) k h)) _ _
set_option maxRecDepth 100000 in
theorem cd_g_X11_bestWithout {S : List Nat} (hS : ∀ k, k ∈ ([0, 1, 2] : List Nat) → k ∈ S) (T : AT) (o : Nat) (a0 : Int32) : CD S (g_X11_bestWithout T o a0) := by
  unfold g_X11_bestWithout
  refine cd_oif ?_
  refine cd_othr (cd_g_X11_needCamera (fun k h => hS k ((by decide : ∀ k, k ∈ ([0, 1] : List Nat) → k ∈ ([0, 1, 2] : List Nat)) k h)) _ _) (fun r5 T3 => ?_)
  refine cd_oif ?_
  refine cd_othr (cd_g_X11_needMic (fun k h => hS k ((by decide : ∀ k, k ∈ ([0, 2] : List Nat) → k ∈ ([0, 1, 2] : List Nat)) k h)) _ _ _) (fun r10 T8 => ?_)
  refine cd_oif ?_
  refine cd_obind (fun n13 => ?_)
  refine cd_oif ?_
  refine cd_obind (fun n15 => ?_)
  refine cd_oif ?_
  refine cd_obind (fun T17 => ?_)
  exact cd_g_X11_bestWithout_b20 (fun k h => hS k ((by decide : ∀ k, k ∈ ([0] : List Nat) → k ∈ ([0, 1, 2] : List Nat)) k h)) _ _ _
set_option maxRecDepth 100000 in
theorem cd_g_X11_bestIfOff_b49 {S : List Nat} (hS : ∀ k, k ∈ ([0] : List Nat) → k ∈ S) (T : AT) (s0 : Int32) : CD S (g_X11_bestIfOff_b49 T s0) := by
  unfold g_X11_bestIfOff_b49
  exact cd_some (hS _ (by decide))
set_option maxRecDepth 100000 in
theorem cd_g_X11_bestIfOff_b45 {S : List Nat} (hS : ∀ k, k ∈ ([0] : List Nat) → k ∈ S) (T : AT) (l0 : Nat) : CD S (g_X11_bestIfOff_b45 T l0) := by
  unfold g_X11_bestIfOff_b45
  refine cd_oif ?_
  refine cd_obind2 (fun r4 T3 => ?_)
  exact cd_g_X11_bestIfOff_b49 (fun k h => hS k ((by decide : ∀ k, k ∈ ([0] : List Nat) → k ∈ ([0] : List Nat)) k h)) _ _
set_option maxRecDepth 100000 in
theorem cd_g_X11_bestIfOff_b20 {S : List Nat} (hS : ∀ k, k ∈ ([0] : List Nat) → k ∈ S) (T : AT) (l0 : Nat) (l1 : Int32) : CD S (g_X11_bestIfOff_b20 T l0 l1) := by
  unfold g_X11_bestIfOff_b20
  refine cd_oif ?_
  refine cd_obind (fun n3 => ?_)
  refine cd_oif ?_
  refine cd_obind (fun n5 => ?_)
  refine cd_oif ?_
  refine cd_oif ?_
  refine cd_elet (fun T8 => ?_)
  refine cd_oif ?_
  refine cd_obind (fun n10 => ?_)
  refine cd_oif ?_
  refine cd_obind (fun n12 => ?_)
  refine cd_oif ?_
  refine cd_obind (fun n14 => ?_)
  refine cd_oif ?_
  refine cd_obind (fun T16 => ?_)
  exact cd_g_X11_bestIfOff_b45 (fun k h => hS k ((by decide : ∀ k, k ∈ ([0] : List Nat) → k ∈ ([0] : List Nat)) k h)) _ _
set_option maxRecDepth 100000 in
theorem cd_g_X11_bestIfOff {S : List Nat} (hS : ∀ k, k ∈ ([0, 1, 2] : List Nat) → k ∈ S) (T : AT) (o : Nat) (a0 : Int32) : CD S (g_X11_bestIfOff T o a0) := by
  unfold g_X11_bestIfOff
  refine cd_oif ?_
  refine cd_othr (cd_g_X11_needCamera (fun k h => hS k ((by decide : ∀ k, k ∈ ([0, 1] : List Nat) → k ∈ ([0, 1, 2] : List Nat)) k h)) _ _) (fun r5 T3 => ?_)
  refine cd_oif ?_
  refine cd_othr (cd_g_X11_needSource (fun k h => hS k ((by decide : ∀ k, k ∈ ([0, 2] : List Nat) → k ∈ ([0, 1, 2] : List Nat)) k h)) _ _ _) (fun r10 T8 => ?_)
  refine cd_oif ?_
  refine cd_obind (fun n13 => ?_)
  refine cd_oif ?_
  refine cd_obind (fun n15 => ?_)
  refine cd_oif ?_
  refine cd_obind (fun T17 => ?_)
  exact cd_g_X11_bestIfOff_b20 (fun k h => hS k ((by decide : ∀ k, k ∈ ([0] : List Nat) → k ∈ ([0, 1, 2] : List Nat)) k h)) _ _ _
set_option maxRecDepth 100000 in
theorem cd_g_X11_mute_b23 {S : List Nat} (hS : ∀ k, k ∈ ([0] : List Nat) → k ∈ S) (T : AT) (l0 : Nat) (l1 : Int32) (l2 : Int32) (l3 : Int32) : CD S (g_X11_mute_b23 T l0 l1 l2 l3) := by
  unfold g_X11_mute_b23
  refine cd_oif ?_
  refine cd_obind (fun n3 => ?_)
  refine cd_oif ?_
  refine cd_obind (fun n5 => ?_)
  refine cd_oif ?_
  refine cd_oif ?_
  refine cd_oif ?_
  refine cd_elet (fun T8 => ?_)
  refine cd_oif ?_
  exact cd_some (hS _ (by decide))
set_option maxRecDepth 100000 in
theorem cd_g_X11_mute {S : List Nat} (hS : ∀ k, k ∈ ([0, 1, 2] : List Nat) → k ∈ S) (T : AT) (o : Nat) (a0 : Int32) (a1 : Int32) : CD S (g_X11_mute T o a0 a1) := by
  unfold g_X11_mute
  refine cd_oif ?_
  refine cd_othr (cd_g_X11_needCamera (fun k h => hS k ((by decide : ∀ k, k ∈ ([0, 1] : List Nat) → k ∈ ([0, 1, 2] : List Nat)) k h)) _ _) (fun r5 T3 => ?_)
  refine cd_oif ?_
  refine cd_othr (cd_g_X11_needMic (fun k h => hS k ((by decide : ∀ k, k ∈ ([0, 2] : List Nat) → k ∈ ([0, 1, 2] : List Nat)) k h)) _ _ _) (fun r10 T8 => ?_)
  refine cd_oif ?_
  refine cd_obind (fun n13 => ?_)
  refine cd_oif ?_
  refine cd_obind (fun n15 => ?_)
  refine cd_oif ?_
  refine cd_oif ?_
  refine cd_elet (fun v18 => ?_)
  refine cd_oif ?_
  refine cd_obind (fun T20 => ?_)
  exact cd_g_X11_mute_b23 (fun k h => hS k ((by decide : ∀ k, k ∈ ([0] : List Nat) → k ∈ ([0, 1, 2] : List Nat)) k h)) _ _ _ _ _
set_option maxRecDepth 100000 in
theorem cd_g_X11_setOn_b48 {S : List Nat} (hS : ∀ k, k ∈ ([0] : List Nat) → k ∈ S) (T : AT) (l3 : Int32) : CD S (g_X11_setOn_b48 T l3) := by
  unfold g_X11_setOn_b48
  refine cd_oif ?_
  exact cd_some (hS _ (by decide))
set_option maxRecDepth 100000 in
theorem cd_g_X11_setOn_b23 {S : List Nat} (hS : ∀ k, k ∈ ([0] : List Nat) → k ∈ S) (T : AT) (l0 : Nat) (l1 : Int32) (l2 : Int32) (l3 : Int32) : CD S (g_X11_setOn_b23 T l0 l1 l2 l3) := by
  unfold g_X11_setOn_b23
  refine cd_oif ?_
  refine cd_obind (fun n3 => ?_)
  refine cd_oif ?_
  refine cd_obind (fun n5 => ?_)
  refine cd_oif ?_
  refine cd_oif ?_
  refine cd_oif ?_
  refine cd_elet (fun T8 => ?_)
  refine cd_oif ?_
  refine cd_obind (fun n10 => ?_)
  refine cd_oif ?_
  refine cd_obind (fun n12 => ?_)
  refine cd_oif ?_
  refine cd_obind (fun n14 => ?_)
  refine cd_oif ?_
  refine cd_obind (fun T16 => ?_)
  exact cd_g_X11_setOn_b48 (fun k h => hS k ((by decide : ∀ k, k ∈ ([0] : List Nat) → k ∈ ([0] : List Nat)) k h)) _ _
set_option maxRecDepth 100000 in
theorem cd_g_X11_setOn {S : List Nat} (hS : ∀ k, k ∈ ([0, 1, 2] : List Nat) → k ∈ S) (T : AT) (o : Nat) (a0 : Int32) (a1 : Int32) : CD S (g_X11_setOn T o a0 a1) := by
  unfold g_X11_setOn
  refine cd_oif ?_
  refine cd_othr (cd_g_X11_needCamera (fun k h => hS k ((by decide : ∀ k, k ∈ ([0, 1] : List Nat) → k ∈ ([0, 1, 2] : List Nat)) k h)) _ _) (fun r5 T3 => ?_)
  refine cd_oif ?_
  refine cd_othr (cd_g_X11_needSource (fun k h => hS k ((by decide : ∀ k, k ∈ ([0, 2] : List Nat) → k ∈ ([0, 1, 2] : List Nat)) k h)) _ _ _) (fun r10 T8 => ?_)
  refine cd_oif ?_
  refine cd_obind (fun n13 => ?_)
  refine cd_oif ?_
  refine cd_obind (fun n15 => ?_)
  refine cd_oif ?_
  refine cd_oif ?_
  refine cd_elet (fun v18 => ?_)
  refine cd_oif ?_
  refine cd_obind (fun T20 => ?_)
  exact cd_g_X11_setOn_b23 (fun k h => hS k ((by decide : ∀ k, k ∈ ([0] : List Nat) → k ∈ ([0, 1, 2] : List Nat)) k h)) _ _ _ _ _
set_option maxRecDepth 100000 in
theorem cd_g_X11_clean_b58 {S : List Nat} (hS : ∀ k, k ∈ ([0] : List Nat) → k ∈ S) (T : AT) (l2 : Int32) : CD S (g_X11_clean_b58 T l2) := by
  unfold g_X11_clean_b58
  exact cd_some (hS _ (by decide))
set_option maxRecDepth 100000 in
theorem cd_g_X11_clean_b41 {S : List Nat} (hS : ∀ k, k ∈ ([0] : List Nat) → k ∈ S) (T : AT) (l0 : Nat) (l1 : Int32) (l2 : Int32) : CD S (g_X11_clean_b41 T l0 l1 l2) := by
  unfold g_X11_clean_b41
  refine cd_oif ?_
  refine cd_obind (fun n3 => ?_)
  refine cd_oif ?_
  refine cd_obind (fun n5 => ?_)
  refine cd_oif ?_
  refine cd_obind (fun n7 => ?_)
  refine cd_oif ?_
  refine cd_oif ?_
  refine cd_obind (fun n10 => ?_)
  refine cd_oif ?_
  refine cd_obind (fun T12 => ?_)
  exact cd_g_X11_clean_b58 (fun k h => hS k ((by decide : ∀ k, k ∈ ([0] : List Nat) → k ∈ ([0] : List Nat)) k h)) _ _
set_option maxRecDepth 100000 in
theorem cd_g_X11_clean_b33 {S : List Nat} (hS : ∀ k, k ∈ ([0] : List Nat) → k ∈ S) (T : AT) (s0 : Nat) (l0 : Nat) (l1 : Int32) : CD S (g_X11_clean_b33 T s0 l0 l1) := by
  unfold g_X11_clean_b33
  refine cd_oif ?_
  refine cd_elet (fun v3 => ?_)
  refine cd_oif ?_
  refine cd_obind (fun T5 => ?_)
  exact cd_g_X11_clean_b41 (fun k h => hS k ((by decide : ∀ k, k ∈ ([0] : List Nat) → k ∈ ([0] : List Nat)) k h)) _ _ _ _
set_option maxRecDepth 100000 in
theorem cd_g_X11_clean {S : List Nat} (hS : ∀ k, k ∈ ([0, 1, 3] : List Nat) → k ∈ S) (T : AT) (o : Nat) (a0 : Int32) : CD S (g_X11_clean T o a0) := by
  unfold g_X11_clean
  refine cd_oif ?_
  refine cd_othr (cd_g_X11_needCamera (fun k h => hS k ((by decide : ∀ k, k ∈ ([0, 1] : List Nat) → k ∈ ([0, 1, 3] : List Nat)) k h)) _ _) (fun r5 T3 => ?_)
  refine cd_oif ?_
  refine cd_obind (fun n8 => ?_)
  refine cd_oif ?_
  refine cd_obind2 (fun r12 T10 => ?_)
  refine cd_ite ?_ ?_
  · exact cd_some (hS _ (by decide))
  · refine cd_othr (cd_g_X11_needRange (fun k h => hS k ((by decide : ∀ k, k ∈ ([0, 3] : List Nat) → k ∈ ([0, 1, 3] : List Nat)) k h)) _ _ _ _) (fun r17 T15 => ?_)
    refine cd_oif ?_
    refine cd_obind2 (fun r21 T20 => ?_)
    refine cd_oif ?_
    exact cd_g_X11_clean_b33 (fun k h => hS k ((by decide : ∀ k, k ∈ ([0] : List Nat) → k ∈ ([0, 1, 3] : List Nat)) k h)) _ _ _ _
set_option maxRecDepth 100000 in
theorem cd_g_X11_cleaned {S : List Nat} (hS : ∀ k, k ∈ ([0, 1] : List Nat) → k ∈ S) (T : AT) (o : Nat) : CD S (g_X11_cleaned T o) := by
  unfold g_X11_cleaned
  refine cd_oif ?_
  refine cd_othr (cd_g_X11_needCamera (fun k h => hS k ((by decide : ∀ k, k ∈ ([0, 1] : List Nat) → k ∈ ([0, 1] : List Nat)) k h)) _ _) (fun r5 T3 => ?_)
  refine cd_oif ?_
  refine cd_obind (fun n8 => ?_)
  refine cd_oif ?_
  refine cd_elet (fun v10 => ?_)
  exact cd_some (hS _ (by decide))
set_option maxRecDepth 100000 in
theorem cd_g_X11_undo_b31 {S : List Nat} (hS : ∀ k, k ∈ ([0] : List Nat) → k ∈ S) (T : AT) (l0 : Nat) : CD S (g_X11_undo_b31 T l0) := by
  unfold g_X11_undo_b31
  refine cd_oif ?_
  refine cd_elet (fun v3 => ?_)
  refine cd_elet (fun v4 => ?_)
  refine cd_elet (fun v5 => ?_)
  refine cd_elet (fun v6 => ?_)
  refine cd_oif ?_
  refine cd_elet (fun T8 => ?_)
  refine cd_oif ?_
  refine cd_elet (fun v10 => ?_)
  refine cd_elet (fun v11 => ?_)
  refine cd_oif ?_
  refine cd_elet (fun T13 => ?_)
  refine cd_oif ?_
  refine cd_obind (fun n15 => ?_)
  refine cd_oif ?_
  refine cd_elet (fun T17 => ?_)
  refine cd_oif ?_
  refine cd_elet (fun v19 => ?_)
  exact cd_some (hS _ (by decide))
set_option maxRecDepth 100000 in
theorem cd_g_X11_undo {S : List Nat} (hS : ∀ k, k ∈ ([0, 1] : List Nat) → k ∈ S) (T : AT) (o : Nat) : CD S (g_X11_undo T o) := by
  unfold g_X11_undo
  refine cd_oif ?_
  refine cd_elet (fun v3 => ?_)
  refine cd_ite ?_ ?_
  · exact cd_some (hS _ (by decide))
  · refine cd_oif ?_
    refine cd_obind (fun n6 => ?_)
    refine cd_oif ?_
    refine cd_obind (fun n8 => ?_)
    refine cd_oif ?_
    refine cd_elet (fun v10 => ?_)
    refine cd_oif ?_
    refine cd_oif ?_
    refine cd_obind (fun n13 => ?_)
    refine cd_oif ?_
    refine cd_obind (fun T15 => ?_)
    exact cd_g_X11_undo_b31 (fun k h => hS k ((by decide : ∀ k, k ∈ ([0] : List Nat) → k ∈ ([0, 1] : List Nat)) k h)) _ _
set_option maxRecDepth 100000 in
theorem cd_g_X11_save_b33 {S : List Nat} (hS : ∀ k, k ∈ ([0] : List Nat) → k ∈ S) (T : AT) (s0 : Nat) : CD S (g_X11_save_b33 T s0) := by
  unfold g_X11_save_b33
  refine cd_oif ?_
  refine cd_elet (fun v3 => ?_)
  exact cd_some (hS _ (by decide))
set_option maxRecDepth 100000 in
theorem cd_g_X11_save_b22 {S : List Nat} (hS : ∀ k, k ∈ ([0] : List Nat) → k ∈ S) (T : AT) (l0 : Nat) (l1 : Int32) : CD S (g_X11_save_b22 T l0 l1) := by
  unfold g_X11_save_b22
  refine cd_oif ?_
  refine cd_obind (fun n3 => ?_)
  refine cd_oif ?_
  refine cd_oif ?_
  refine cd_elet (fun T6 => ?_)
  refine cd_oif ?_
  refine cd_obind2 (fun r9 T8 => ?_)
  refine cd_oif ?_
  exact cd_g_X11_save_b33 (fun k h => hS k ((by decide : ∀ k, k ∈ ([0] : List Nat) → k ∈ ([0] : List Nat)) k h)) _ _
set_option maxRecDepth 100000 in
theorem cd_g_X11_save {S : List Nat} (hS : ∀ k, k ∈ ([0, 1, 2] : List Nat) → k ∈ S) (T : AT) (o : Nat) (a0 : Int32) : CD S (g_X11_save T o a0) := by
  unfold g_X11_save
  refine cd_oif ?_
  refine cd_othr (cd_g_X11_needCamera (fun k h => hS k ((by decide : ∀ k, k ∈ ([0, 1] : List Nat) → k ∈ ([0, 1, 2] : List Nat)) k h)) _ _) (fun r5 T3 => ?_)
  refine cd_othr (cd_g_X11_needIndex (fun k h => hS k ((by decide : ∀ k, k ∈ ([0, 2] : List Nat) → k ∈ ([0, 1, 2] : List Nat)) k h)) _ _ _) (fun r9 T7 => ?_)
  refine cd_oif ?_
  refine cd_obind (fun n12 => ?_)
  refine cd_oif ?_
  refine cd_oif ?_
  refine cd_obind (fun n15 => ?_)
  refine cd_oif ?_
  refine cd_obind (fun n17 => ?_)
  refine cd_oif ?_
  refine cd_obind (fun T19 => ?_)
  exact cd_g_X11_save_b22 (fun k h => hS k ((by decide : ∀ k, k ∈ ([0] : List Nat) → k ∈ ([0, 1, 2] : List Nat)) k h)) _ _ _
set_option maxRecDepth 100000 in
theorem cd_g_X11_restore_b52 {S : List Nat} (hS : ∀ k, k ∈ ([0] : List Nat) → k ∈ S) (T : AT) (s0 : Nat) : CD S (g_X11_restore_b52 T s0) := by
  unfold g_X11_restore_b52
  refine cd_oif ?_
  refine cd_elet (fun v3 => ?_)
  exact cd_some (hS _ (by decide))
set_option maxRecDepth 100000 in
theorem cd_g_X11_restore_b35 {S : List Nat} (hS : ∀ k, k ∈ ([0] : List Nat) → k ∈ S) (T : AT) (l0 : Nat) : CD S (g_X11_restore_b35 T l0) := by
  unfold g_X11_restore_b35
  refine cd_oif ?_
  refine cd_elet (fun T3 => ?_)
  refine cd_oif ?_
  refine cd_obind (fun n5 => ?_)
  refine cd_oif ?_
  refine cd_elet (fun T7 => ?_)
  refine cd_oif ?_
  refine cd_obind2 (fun r10 T9 => ?_)
  refine cd_oif ?_
  exact cd_g_X11_restore_b52 (fun k h => hS k ((by decide : ∀ k, k ∈ ([0] : List Nat) → k ∈ ([0] : List Nat)) k h)) _ _
set_option maxRecDepth 100000 in
theorem cd_g_X11_restore {S : List Nat} (hS : ∀ k, k ∈ ([0, 1, 2] : List Nat) → k ∈ S) (T : AT) (o : Nat) (a0 : Int32) : CD S (g_X11_restore T o a0) := by
  unfold g_X11_restore
  refine cd_othr (cd_g_X11_needIndex (fun k h => hS k ((by decide : ∀ k, k ∈ ([0, 2] : List Nat) → k ∈ ([0, 1, 2] : List Nat)) k h)) _ _ _) (fun r4 T2 => ?_)
  refine cd_oif ?_
  refine cd_obind (fun n7 => ?_)
  refine cd_oif ?_
  refine cd_oif ?_
  refine cd_elet (fun v10 => ?_)
  refine cd_ite ?_ ?_
  · exact cd_some (hS _ (by decide))
  · refine cd_oif ?_
    refine cd_obind (fun n13 => ?_)
    refine cd_oif ?_
    refine cd_obind (fun n15 => ?_)
    refine cd_oif ?_
    refine cd_oif ?_
    refine cd_obind (fun n18 => ?_)
    refine cd_oif ?_
    refine cd_obind (fun T20 => ?_)
    exact cd_g_X11_restore_b35 (fun k h => hS k ((by decide : ∀ k, k ∈ ([0] : List Nat) → k ∈ ([0, 1, 2] : List Nat)) k h)) _ _
end
section
/-! 14c.nan.lean.txt -/
/-! the quotient that contrast answers is a number, as a double too -/
theorem nn_f2d {r : UInt32} (h : r &&& 0x7fffffff ≤ 0x7f800000) : vf_n64 (FP.f2d r) := by
  have h1 : FP.Core.fIsNaN r = false := by
    rw [← Bool.not_eq_true, FP.Core.isNaN_bits32]
    rw [UInt32.le_iff_toNat_le, UInt32.toNat_and, show (0x7fffffff : UInt32).toNat = 2 ^ 31 - 1 from by decide, show (0x7f800000 : UInt32).toNat = 2139095040 from by decide, Nat.and_two_pow_sub_one_eq_mod] at h
    omega
  have h2 : FP.Core.dIsNaN (FP.f2d r) = false := (FP.f2d_nan r).trans h1
  rw [← Bool.not_eq_true, FP.Core.isNaN_bits] at h2
  unfold vf_n64
  rw [UInt64.le_iff_toNat_le, UInt64.toNat_and, show (0x7fffffffffffffff : UInt64).toNat = 2 ^ 63 - 1 from by decide, show (0x7ff0000000000000 : UInt64).toNat = 9218868437227405312 from by decide, Nat.and_two_pow_sub_one_eq_mod]
  omega
theorem nn_ratio30 {r : UInt32} {T1 : AT} : ∀ (n : Nat) (T : AT) (l0 : Nat) (l1 : Int32) (l4 : UInt32) (l5 : Int32), l4 &&& 0x7fffffff ≤ 0x7f800000 → g_X10_ratio_b30 n T l0 l1 l4 l5 = some (r, T1) → r &&& 0x7fffffff ≤ 0x7f800000
  | 0, _, _, _, _, _, _, h => by
    unfold g_X10_ratio_b30 at h
    cases h
  | n + 1, T, l0, l1, l4, l5, h4, h => by
    have ih := nn_ratio30 (r := r) (T1 := T1) n
    unfold g_X10_ratio_b30 at h
    obtain ⟨-, h⟩ := oif_some h
    obtain ⟨r5, T3, -, h⟩ := obind2_some h
    by_cases c : r5 ≤ l5
    · rw [if_pos c] at h
      rw [← (osome2 h).1]
      exact h4
    · rw [if_neg c] at h
      obtain ⟨g, h⟩ := oif_some h
      obtain ⟨v9, e9, h⟩ := elet_some h
      obtain ⟨v10, -, h⟩ := elet_some h
      exact ih T3 l0 l1 v9 v10 (by rw [e9]; exact g) h
theorem nn_ratio {T : AT} {o : Nat} {a0 a1 : Int32} {r : UInt32} {T1 : AT} (h : g_X10_ratio T o a0 a1 = some (r, T1)) : r &&& 0x7fffffff ≤ 0x7f800000 := by
  unfold g_X10_ratio at h
  obtain ⟨-, h⟩ := oif_some h
  obtain ⟨r5, T3, -, h⟩ := obind2_some h
  obtain ⟨v7, -, h⟩ := elet_some h
  by_cases c : v7 = 0
  · rw [if_pos c] at h
    rw [← (osome2 h).1]
    decide
  · rw [if_neg c] at h
    obtain ⟨-, h⟩ := oif_some h
    obtain ⟨r12, T10, -, h⟩ := obind2_some h
    obtain ⟨g, h⟩ := oif_some h
    obtain ⟨v15, e15, h⟩ := elet_some h
    obtain ⟨-, h⟩ := oif_some h
    obtain ⟨r19, T17, -, h⟩ := obind2_some h
    exact nn_ratio30 _ _ _ _ _ _ (by rw [e15]; exact g) h
theorem nn_contrast {T : AT} {o : Nat} {r : UInt32} {T1 : AT} (h : g_X11_contrast T o = some (0, r, T1)) : vf_n64 (FP.f2d r) := by
  refine nn_f2d ?_
  unfold g_X11_contrast at h
  obtain ⟨-, h⟩ := oif_some h
  obtain ⟨r5, T3, -, h⟩ := othr_n h
  obtain ⟨-, h⟩ := oif_some h
  obtain ⟨r9, T8, -, h⟩ := obind2_some h
  obtain ⟨-, h⟩ := oif_some h
  unfold g_X11_contrast_b8 at h
  obtain ⟨-, h⟩ := oif_some h
  obtain ⟨n3, -, h⟩ := obind_some h
  obtain ⟨-, h⟩ := oif_some h
  obtain ⟨n5, -, h⟩ := obind_some h
  obtain ⟨-, h⟩ := oif_some h
  obtain ⟨r10, T7, -, h⟩ := obind2_some h
  obtain ⟨-, h⟩ := oif_some h
  obtain ⟨r14, T12, -, h⟩ := obind2_some h
  by_cases c : r14 = (-1)
  · rw [if_pos c] at h
    unfold g_X11_contrast_b45 at h
    rw [← (osome3 h).2.1]
    decide
  · rw [if_neg c] at h
    obtain ⟨-, h⟩ := oif_some h
    obtain ⟨n18, -, h⟩ := obind_some h
    obtain ⟨-, h⟩ := oif_some h
    obtain ⟨v20, -, h⟩ := elet_some h
    obtain ⟨-, h⟩ := oif_some h
    obtain ⟨r24, T22, e, h⟩ := obind2_some h
    unfold g_X11_contrast_b45 at h
    rw [← (osome3 h).2.1]
    exact nn_ratio e
end
section
/-! 14d.va0.lean.txt -/
set_option maxHeartbeats 4000000 in
set_option maxRecDepth 100000 in
theorem v_load_n (l : Launch) (hst : l.stackTraces = false) (D : va_G) {cI cJ cZ cMic cSrc cSt cAI cAJ cD : ClassId} (h0 : Nat) (ad : Nat → Nat) (T : AT) (o : Nat) (a0 : Int32) (ao : Nat) (f : Nat → Int64) {r1 : Int32} {T1 : AT} (h : g_X11_load T o a0 = some (0, r1, T1)) (hrc : RC T) (h_o : o < T.1) (h_s : T.2.1 o = (11, 0)) : tWi l yL_load (Cond.codeWith yL_load cL_load 4 (some .int) [(0, 9, 12, 13), (0, 9, 15, 15)] :: wsA) 13 237 cI cJ cZ cMic cSrc cSt cAI cAJ cD D h0 ad T (oJ ao cJ f) [.ref (ad o), .int a0, .ref ao] (vck 0 1 2 (0)) T1 (oJ ao cJ (vfJ (0) f r1.toInt64)) := by
  intro sz
  refine va_MetW (cc := cL_load) (maxL := 4) (ret := some .int) (by decide) rfl ?_
  intro p e s m args below meth c s₁ B hml hv
  obtain ⟨rfl, hsz, hP, hK, hD0, hX, hN, hA0, hTS⟩ := hv
  have hx := B.exec
  have hb := B.bytes
  have hr := B.returns
  have hts := atoms_spec (ws := (Cond.codeWith yL_load cL_load 4 (some .int) [(0, 9, 12, 13), (0, 9, 15, 15)] :: wsA)) B.pre
  have hown : s.vm.findClass RL = some m.cls := findClass_of_methodNamed B.named
  have hlocks := B.notSynchronized
  have htb := vx_table (x := yL_load) B (hts _ (.head _))
  subst hsz
  have hD := hD0.self (sz := s.heap.size)
  generalize hAe : va_A (cW ad T.1 (cc cI cJ cZ cMic cSrc cSt cAI cAJ ad T) ++ [oJ ao cJ f]) s.heap.size = A at hD hX hA0 ⊢
  have hA : ∀ q : Nat, s.heap.size ≤ q → A q := fun q h => by rw [← hAe]; exact Or.inr h
  have G : gL cI cJ cZ cMic cSrc cSt cAI cAJ D ad A s.heap s.heap [] T [oJ ao cJ f] := ⟨hP, hD, va_S.rf⟩
  have E : cE p c cL_load s m ([.ref (ad o), .int a0, .ref ao] : List Value).toArray (Cond.codeWith yL_load cL_load 4 (some .int) [(0, 9, 12, 13), (0, 9, 15, 15)] :: wsA) D RL (CT cI cJ cZ cMic cSrc cSt cAI cAJ ++ [(cD, .double)]) := ⟨hx, hb, hts, hown, hK⟩
  have hl := lv_entry ([.ref (ad o), .int a0, .ref ao]) (n := 4) (Nat.le_of_ble_eq_true rfl)
  rw [lg_entry_eq]
  generalize (lg_sl ([.ref (ad o), .int a0, .ref ao]) ++ List.replicate (4 - (lg_sl ([.ref (ad o), .int a0, .ref ao])).length) Slot.unset).toArray = ls at hl ⊢
  have hl : lv_has ls 4 [(0, .ref (ad o)), (1, .int a0), (2, .ref ao)] := hl
  refine lv_aload_n hx hb dL_load_0 rfl (lv_at hl 2 rfl) ?_
  refine lv_iconst (v := 0) hx hb dL_load_1 (by decide) ?_
  refine lv_aload_n hx hb dL_load_2 rfl (lv_at hl 0 rfl) ?_
  refine lv_iload_n hx hb dL_load_3 rfl (lv_at hl 1 rfl) ?_
  refine t_aviS (As := [.int a0]) (rest := [.int 0, .ref ao]) E G hA hX hX.2.2.2.1 hml hA0 hTS (a_X11_load l hst D cI cJ cZ cMic cSrc cSt cAI cAJ ad T h0 o a0 h hrc h_o) (cwV 1 hts (gaV qA_948 qA_949 qA_950 qA_131 qA_692) rfl rfl rfl (by decide +kernel) ⟨Nat.le_of_ble_eq_true rfl, Nat.le_of_ble_eq_true rfl⟩) h_o (cc_o11 h_s) rfl rfl hl.1 rfl (lv_room (Nat.le_of_ble_eq_true rfl)) dL_load_4 ⟨by show 0 + (T1.1 - T.1) ≤ T1.1 - T.1 + 1; omega, by show 0 + (sg T1 - sg T) ≤ sg T1 - sg T + 6; omega⟩ ?_
  intro ad2 H locs had G
  refine lv_i2l (v := r1.toInt64) hx hb dL_load_7 rfl ?_
  refine t_last E G dL_load_8 (fun H locs G => ?_)
  refine lv_goto (tgt := 18) hx hb dL_load_9 (by decide) ?_
  refine lv_iconst (v := 0) hx hb dL_load_18 (by decide) ?_
  refine W.widen (k := T1.1 - T.1 + 1) (n := sg T1 - sg T + 6) (by omega) (by omega) ?_
  exact W.iret (v := 0) hx hb hr (fun t ht hW => ⟨⟨0, ad2, rfl, ⟨rfl, had⟩, ⟨by rw [ht]; exact G.1, va_K.moved hW.alike hK, G.2.1⟩⟩, G.2.2.F ht⟩) G.2.2.2.2 dL_load_19
set_option maxHeartbeats 4000000 in
set_option maxRecDepth 100000 in
theorem v_load_t (l : Launch) (hst : l.stackTraces = false) (D : va_G) {cI cJ cZ cMic cSrc cSt cAI cAJ cD : ClassId} (h0 : Nat) (ad : Nat → Nat) (T : AT) (o : Nat) (a0 : Int32) (ao : Nat) (f : Nat → Int64) {e1 : Nat} {r1 : Int32} {T1 : AT} (h : g_X11_load T o a0 = some (e1 + 1, r1, T1)) (hrc : RC T) (h_o : o < T.1) (h_s : T.2.1 o = (11, 0)) : tWi l yL_load (Cond.codeWith yL_load cL_load 4 (some .int) [(0, 9, 12, 13), (0, 9, 15, 15)] :: wsA) 13 237 cI cJ cZ cMic cSrc cSt cAI cAJ cD D h0 ad T (oJ ao cJ f) [.ref (ad o), .int a0, .ref ao] (vck 0 1 2 (e1 + 1)) T1 (oJ ao cJ (vfJ (e1 + 1) f r1.toInt64)) := by
  intro sz
  refine va_MetW (cc := cL_load) (maxL := 4) (ret := some .int) (by decide) rfl ?_
  intro p e s m args below meth c s₁ B hml hv
  obtain ⟨rfl, hsz, hP, hK, hD0, hX, hN, hA0, hTS⟩ := hv
  have hx := B.exec
  have hb := B.bytes
  have hr := B.returns
  have hts := atoms_spec (ws := (Cond.codeWith yL_load cL_load 4 (some .int) [(0, 9, 12, 13), (0, 9, 15, 15)] :: wsA)) B.pre
  have hown : s.vm.findClass RL = some m.cls := findClass_of_methodNamed B.named
  have hlocks := B.notSynchronized
  have htb := vx_table (x := yL_load) B (hts _ (.head _))
  subst hsz
  have hD := hD0.self (sz := s.heap.size)
  generalize hAe : va_A (cW ad T.1 (cc cI cJ cZ cMic cSrc cSt cAI cAJ ad T) ++ [oJ ao cJ f]) s.heap.size = A at hD hX hA0 ⊢
  have hA : ∀ q : Nat, s.heap.size ≤ q → A q := fun q h => by rw [← hAe]; exact Or.inr h
  have G : gL cI cJ cZ cMic cSrc cSt cAI cAJ D ad A s.heap s.heap [] T [oJ ao cJ f] := ⟨hP, hD, va_S.rf⟩
  have E : cE p c cL_load s m ([.ref (ad o), .int a0, .ref ao] : List Value).toArray (Cond.codeWith yL_load cL_load 4 (some .int) [(0, 9, 12, 13), (0, 9, 15, 15)] :: wsA) D RL (CT cI cJ cZ cMic cSrc cSt cAI cAJ ++ [(cD, .double)]) := ⟨hx, hb, hts, hown, hK⟩
  have hl := lv_entry ([.ref (ad o), .int a0, .ref ao]) (n := 4) (Nat.le_of_ble_eq_true rfl)
  rw [lg_entry_eq]
  generalize (lg_sl ([.ref (ad o), .int a0, .ref ao]) ++ List.replicate (4 - (lg_sl ([.ref (ad o), .int a0, .ref ao])).length) Slot.unset).toArray = ls at hl ⊢
  have hl : lv_has ls 4 [(0, .ref (ad o)), (1, .int a0), (2, .ref ao)] := hl
  refine lv_aload_n hx hb dL_load_0 rfl (lv_at hl 2 rfl) ?_
  refine lv_iconst (v := 0) hx hb dL_load_1 (by decide) ?_
  refine lv_aload_n hx hb dL_load_2 rfl (lv_at hl 0 rfl) ?_
  refine lv_iload_n hx hb dL_load_3 rfl (lv_at hl 1 rfl) ?_
  refine t_bviS (As := [.int a0]) (rest := [.int 0, .ref ao]) E G hA hX hX.2.2.2.1 hml hA0 hTS (b_X11_load l hst D cI cJ cZ cMic cSrc cSt cAI cAJ ad T h0 o a0 h hrc h_o) (cwV 1 hts (gaV qA_948 qA_949 qA_950 qA_131 qA_692) rfl rfl rfl (by decide +kernel) ⟨Nat.le_of_ble_eq_true rfl, Nat.le_of_ble_eq_true rfl⟩) h_o (cc_o11 h_s) rfl rfl hl.1 rfl (lv_room (Nat.le_of_ble_eq_true rfl)) dL_load_4 ⟨by show 0 + (T1.1 - T.1 + 1) ≤ T1.1 - T.1 + 1; omega, by show 0 + (sg T1 - sg T + 6) ≤ sg T1 - sg T + 6; omega⟩ ?_
  intro E9 ce q9 ad2 H locs hE had G hce hcv hcl
  rcases e1 with _ | _ | e1
  · exact absurd (cd_g_X11_load (S := [0, 2, 3]) (fun _ h => h) T o a0 _ _ _ h) (by decide)
  · have hE : E9 = xIOB := hE
    subst hE
    refine vx_catch (name := xIOB) hown [] { startPc := 0, endPc := 9, handlerPc := 12, catchType := 13 } [{ startPc := 0, endPc := 9, handlerPc := 15, catchType := 15 }] htb (fun z hz => absurd hz List.not_mem_nil) (by decide) (by decide) (hts _ (.tail _ qA_946)) (hX.use (.castable xIOB xIOB) (by decide +kernel)) hce hcv hcl ?_
    refine lv_astore_n (lv' := [(3, .ref q9), (0, .ref (ad o)), (1, .int a0), (2, .ref ao)]) hx hb dL_load_12 rfl hl (by decide) rfl (fun ls hl => ?_)
    refine lv_iconst (v := 1) hx hb dL_load_13 (by decide) ?_
    refine W.widen (k := T1.1 - T.1 + 1) (n := sg T1 - sg T + 6) (by omega) (by omega) ?_
    exact W.iret (v := 1) hx hb hr (fun t ht hW => ⟨⟨1, ad2, rfl, ⟨rfl, had⟩, ⟨by rw [ht]; exact G.1, va_K.moved hW.alike hK, G.2.1⟩⟩, G.2.2.F ht⟩) G.2.2.2.2 dL_load_14
  · have hE : E9 = xIAE := hE
    subst hE
    refine vx_catch (name := xIAE) hown [{ startPc := 0, endPc := 9, handlerPc := 12, catchType := 13 }] { startPc := 0, endPc := 9, handlerPc := 15, catchType := 15 } [] htb (List.forall_mem_cons.mpr ⟨Or.inr ⟨by decide, xIOB, hts _ (.tail _ qA_946), hN.1⟩, fun z hz => absurd hz List.not_mem_nil⟩) (by decide) (by decide) (hts _ (.tail _ qA_947)) (hX.use (.castable xIAE xIAE) (by decide +kernel)) hce hcv hcl ?_
    refine lv_astore_n (lv' := [(3, .ref q9), (0, .ref (ad o)), (1, .int a0), (2, .ref ao)]) hx hb dL_load_15 rfl hl (by decide) rfl (fun ls hl => ?_)
    refine lv_iconst (v := 2) hx hb dL_load_16 (by decide) ?_
    refine W.widen (k := T1.1 - T.1 + 1) (n := sg T1 - sg T + 6) (by omega) (by omega) ?_
    exact W.iret (v := 2) hx hb hr (fun t ht hW => ⟨⟨2, ad2, rfl, ⟨rfl, had⟩, ⟨by rw [ht]; exact G.1, va_K.moved hW.alike hK, G.2.1⟩⟩, G.2.2.F ht⟩) G.2.2.2.2 dL_load_17
theorem v_load (l : Launch) (hst : l.stackTraces = false) (D : va_G) {cI cJ cZ cMic cSrc cSt cAI cAJ cD : ClassId} (h0 : Nat) (ad : Nat → Nat) (T : AT) (o : Nat) (a0 : Int32) (ao : Nat) (f : Nat → Int64) {k1 : Nat} {r1 : Int32} {T1 : AT} (h : g_X11_load T o a0 = some (k1, r1, T1)) (hrc : RC T) (h_o : o < T.1) (h_s : T.2.1 o = (11, 0)) : tWi l yL_load (Cond.codeWith yL_load cL_load 4 (some .int) [(0, 9, 12, 13), (0, 9, 15, 15)] :: wsA) 13 237 cI cJ cZ cMic cSrc cSt cAI cAJ cD D h0 ad T (oJ ao cJ f) [.ref (ad o), .int a0, .ref ao] (vck 0 1 2 k1) T1 (oJ ao cJ (vfJ k1 f r1.toInt64)) := by
  cases k1 with
  | zero => exact v_load_n l hst D h0 ad T o a0 ao f h hrc h_o h_s
  | succ e1 => exact v_load_t l hst D h0 ad T o a0 ao f h hrc h_o h_s
set_option maxHeartbeats 4000000 in
set_option maxRecDepth 100000 in
theorem v_micAt_n (l : Launch) (hst : l.stackTraces = false) (D : va_G) {cI cJ cZ cMic cSrc cSt cAI cAJ cD : ClassId} (h0 : Nat) (ad : Nat → Nat) (T : AT) (o : Nat) (a0 a1 : Int32) (ao : Nat) (f : Nat → Int64) {r1 : Int32} {T1 : AT} (h : g_X11_micAt T o a0 a1 = some (0, r1, T1)) (hrc : RC T) (h_o : o < T.1) (h_s : T.2.1 o = (11, 0)) : tWi l yL_micAt (Cond.codeWith yL_micAt cL_micAt 5 (some .int) [(0, 10, 13, 21), (0, 10, 17, 13), (0, 10, 21, 15)] :: wsA) 9 145 cI cJ cZ cMic cSrc cSt cAI cAJ cD D h0 ad T (oJ ao cJ f) [.ref (ad o), .int a0, .int a1, .ref ao] (vck 1 2 3 (0)) T1 (oJ ao cJ (vfJ (0) f r1.toInt64)) := by
  intro sz
  refine va_MetW (cc := cL_micAt) (maxL := 5) (ret := some .int) (by decide) rfl ?_
  intro p e s m args below meth c s₁ B hml hv
  obtain ⟨rfl, hsz, hP, hK, hD0, hX, hN, hA0, hTS⟩ := hv
  have hx := B.exec
  have hb := B.bytes
  have hr := B.returns
  have hts := atoms_spec (ws := (Cond.codeWith yL_micAt cL_micAt 5 (some .int) [(0, 10, 13, 21), (0, 10, 17, 13), (0, 10, 21, 15)] :: wsA)) B.pre
  have hown : s.vm.findClass RL = some m.cls := findClass_of_methodNamed B.named
  have hlocks := B.notSynchronized
  have htb := vx_table (x := yL_micAt) B (hts _ (.head _))
  subst hsz
  have hD := hD0.self (sz := s.heap.size)
  generalize hAe : va_A (cW ad T.1 (cc cI cJ cZ cMic cSrc cSt cAI cAJ ad T) ++ [oJ ao cJ f]) s.heap.size = A at hD hX hA0 ⊢
  have hA : ∀ q : Nat, s.heap.size ≤ q → A q := fun q h => by rw [← hAe]; exact Or.inr h
  have G : gL cI cJ cZ cMic cSrc cSt cAI cAJ D ad A s.heap s.heap [] T [oJ ao cJ f] := ⟨hP, hD, va_S.rf⟩
  have E : cE p c cL_micAt s m ([.ref (ad o), .int a0, .int a1, .ref ao] : List Value).toArray (Cond.codeWith yL_micAt cL_micAt 5 (some .int) [(0, 10, 13, 21), (0, 10, 17, 13), (0, 10, 21, 15)] :: wsA) D RL (CT cI cJ cZ cMic cSrc cSt cAI cAJ ++ [(cD, .double)]) := ⟨hx, hb, hts, hown, hK⟩
  have hl := lv_entry ([.ref (ad o), .int a0, .int a1, .ref ao]) (n := 5) (Nat.le_of_ble_eq_true rfl)
  rw [lg_entry_eq]
  generalize (lg_sl ([.ref (ad o), .int a0, .int a1, .ref ao]) ++ List.replicate (5 - (lg_sl ([.ref (ad o), .int a0, .int a1, .ref ao])).length) Slot.unset).toArray = ls at hl ⊢
  have hl : lv_has ls 5 [(0, .ref (ad o)), (1, .int a0), (2, .int a1), (3, .ref ao)] := hl
  refine lv_aload_n hx hb dL_micAt_0 rfl (lv_at hl 3 rfl) ?_
  refine lv_iconst (v := 0) hx hb dL_micAt_1 (by decide) ?_
  refine lv_aload_n hx hb dL_micAt_2 rfl (lv_at hl 0 rfl) ?_
  refine lv_iload_n hx hb dL_micAt_3 rfl (lv_at hl 1 rfl) ?_
  refine lv_iload_n hx hb dL_micAt_4 rfl (lv_at hl 2 rfl) ?_
  refine t_cvi (As := [.int a0, .int a1]) (rest := [.int 0, .ref ao]) E G hA hX hX.2.2.2.1 hml (u_X11_micAt l hst D cI cJ cZ cMic cSrc cSt cAI cAJ ad T o a0 a1 h) (cwV 2 hts (gaV qA_953 qA_954 qA_955 qA_131 qA_722) rfl rfl rfl (by decide +kernel) ⟨Nat.le_of_ble_eq_true rfl, Nat.le_of_ble_eq_true rfl⟩) h_o (cc_o11 h_s) rfl rfl hl.1 rfl (lv_room (Nat.le_of_ble_eq_true rfl)) dL_micAt_5 ⟨by show 0 + (0) ≤ T1.1 - T.1 + 1; omega, by show 0 + (0) ≤ sg T1 - sg T + 6; omega⟩ ?_
  intro r9 S1 H locs hp G
  obtain ⟨hr9, hS1⟩ := hp
  rw [hS1] at G
  rw [hr9]
  have had : ∀ n, n < T.1 → ad n = ad n := fun _ _ => rfl
  refine lv_i2l (v := r1.toInt64) hx hb dL_micAt_8 rfl ?_
  refine t_last E G dL_micAt_9 (fun H locs G => ?_)
  refine lv_goto (tgt := 25) hx hb dL_micAt_10 (by decide) ?_
  refine lv_iconst (v := 0) hx hb dL_micAt_25 (by decide) ?_
  refine W.widen (k := T1.1 - T.1 + 1) (n := sg T1 - sg T + 6) (by omega) (by omega) ?_
  exact W.iret (v := 0) hx hb hr (fun t ht hW => ⟨⟨0, ad, rfl, ⟨rfl, had⟩, ⟨by rw [ht]; exact G.1, va_K.moved hW.alike hK, G.2.1⟩⟩, G.2.2.F ht⟩) G.2.2.2.2 dL_micAt_26
set_option maxHeartbeats 4000000 in
set_option maxRecDepth 100000 in
theorem v_micAt_t (l : Launch) (hst : l.stackTraces = false) (D : va_G) {cI cJ cZ cMic cSrc cSt cAI cAJ cD : ClassId} (h0 : Nat) (ad : Nat → Nat) (T : AT) (o : Nat) (a0 a1 : Int32) (ao : Nat) (f : Nat → Int64) {e1 : Nat} {r1 : Int32} {T1 : AT} (h : g_X11_micAt T o a0 a1 = some (e1 + 1, r1, T1)) (hrc : RC T) (h_o : o < T.1) (h_s : T.2.1 o = (11, 0)) : tWi l yL_micAt (Cond.codeWith yL_micAt cL_micAt 5 (some .int) [(0, 10, 13, 21), (0, 10, 17, 13), (0, 10, 21, 15)] :: wsA) 9 145 cI cJ cZ cMic cSrc cSt cAI cAJ cD D h0 ad T (oJ ao cJ f) [.ref (ad o), .int a0, .int a1, .ref ao] (vck 1 2 3 (e1 + 1)) T1 (oJ ao cJ (vfJ (e1 + 1) f r1.toInt64)) := by
  intro sz
  refine va_MetW (cc := cL_micAt) (maxL := 5) (ret := some .int) (by decide) rfl ?_
  intro p e s m args below meth c s₁ B hml hv
  obtain ⟨rfl, hsz, hP, hK, hD0, hX, hN, hA0, hTS⟩ := hv
  have hx := B.exec
  have hb := B.bytes
  have hr := B.returns
  have hts := atoms_spec (ws := (Cond.codeWith yL_micAt cL_micAt 5 (some .int) [(0, 10, 13, 21), (0, 10, 17, 13), (0, 10, 21, 15)] :: wsA)) B.pre
  have hown : s.vm.findClass RL = some m.cls := findClass_of_methodNamed B.named
  have hlocks := B.notSynchronized
  have htb := vx_table (x := yL_micAt) B (hts _ (.head _))
  subst hsz
  have hD := hD0.self (sz := s.heap.size)
  generalize hAe : va_A (cW ad T.1 (cc cI cJ cZ cMic cSrc cSt cAI cAJ ad T) ++ [oJ ao cJ f]) s.heap.size = A at hD hX hA0 ⊢
  have hA : ∀ q : Nat, s.heap.size ≤ q → A q := fun q h => by rw [← hAe]; exact Or.inr h
  have G : gL cI cJ cZ cMic cSrc cSt cAI cAJ D ad A s.heap s.heap [] T [oJ ao cJ f] := ⟨hP, hD, va_S.rf⟩
  have E : cE p c cL_micAt s m ([.ref (ad o), .int a0, .int a1, .ref ao] : List Value).toArray (Cond.codeWith yL_micAt cL_micAt 5 (some .int) [(0, 10, 13, 21), (0, 10, 17, 13), (0, 10, 21, 15)] :: wsA) D RL (CT cI cJ cZ cMic cSrc cSt cAI cAJ ++ [(cD, .double)]) := ⟨hx, hb, hts, hown, hK⟩
  have hl := lv_entry ([.ref (ad o), .int a0, .int a1, .ref ao]) (n := 5) (Nat.le_of_ble_eq_true rfl)
  rw [lg_entry_eq]
  generalize (lg_sl ([.ref (ad o), .int a0, .int a1, .ref ao]) ++ List.replicate (5 - (lg_sl ([.ref (ad o), .int a0, .int a1, .ref ao])).length) Slot.unset).toArray = ls at hl ⊢
  have hl : lv_has ls 5 [(0, .ref (ad o)), (1, .int a0), (2, .int a1), (3, .ref ao)] := hl
  refine lv_aload_n hx hb dL_micAt_0 rfl (lv_at hl 3 rfl) ?_
  refine lv_iconst (v := 0) hx hb dL_micAt_1 (by decide) ?_
  refine lv_aload_n hx hb dL_micAt_2 rfl (lv_at hl 0 rfl) ?_
  refine lv_iload_n hx hb dL_micAt_3 rfl (lv_at hl 1 rfl) ?_
  refine lv_iload_n hx hb dL_micAt_4 rfl (lv_at hl 2 rfl) ?_
  refine t_xvi (As := [.int a0, .int a1]) (rest := [.int 0, .ref ao]) E G hA hX hX.2.2.2.1 hml (x_X11_micAt l hst D cI cJ cZ cMic cSrc cSt cAI cAJ ad T o a0 a1 h) (cwV 2 hts (gaV qA_953 qA_954 qA_955 qA_131 qA_722) rfl rfl rfl (by decide +kernel) ⟨Nat.le_of_ble_eq_true rfl, Nat.le_of_ble_eq_true rfl⟩) h_o (cc_o11 h_s) rfl rfl hl.1 rfl (lv_room (Nat.le_of_ble_eq_true rfl)) dL_micAt_5 ⟨by show 0 + (1) ≤ T1.1 - T.1 + 1; omega, by show 0 + (6) ≤ sg T1 - sg T + 6; omega⟩ ?_
  intro E9 ce q9 S1 H locs hp G hce hcv hcl
  obtain ⟨hE, hS1⟩ := hp
  rw [hS1] at G
  have had : ∀ n, n < T.1 → ad n = ad n := fun _ _ => rfl
  rcases e1 with _ | _ | e1
  · have hE : E9 = xISE := hE
    subst hE
    refine vx_catch (name := xISE) hown [] { startPc := 0, endPc := 10, handlerPc := 13, catchType := 21 } [{ startPc := 0, endPc := 10, handlerPc := 17, catchType := 13 }, { startPc := 0, endPc := 10, handlerPc := 21, catchType := 15 }] htb (fun z hz => absurd hz List.not_mem_nil) (by decide) (by decide) (hts _ (.tail _ qA_952)) (hX.use (.castable xISE xISE) (by decide +kernel)) hce hcv hcl ?_
    refine lv_astore (lv' := [(4, .ref q9), (0, .ref (ad o)), (1, .int a0), (2, .int a1), (3, .ref ao)]) hx hb dL_micAt_13 hl (by decide) rfl (fun ls hl => ?_)
    refine lv_iconst (v := 1) hx hb dL_micAt_15 (by decide) ?_
    refine W.widen (k := T1.1 - T.1 + 1) (n := sg T1 - sg T + 6) (by omega) (by omega) ?_
    exact W.iret (v := 1) hx hb hr (fun t ht hW => ⟨⟨1, ad, rfl, ⟨rfl, had⟩, ⟨by rw [ht]; exact G.1, va_K.moved hW.alike hK, G.2.1⟩⟩, G.2.2.F ht⟩) G.2.2.2.2 dL_micAt_16
  · have hE : E9 = xIOB := hE
    subst hE
    refine vx_catch (name := xIOB) hown [{ startPc := 0, endPc := 10, handlerPc := 13, catchType := 21 }] { startPc := 0, endPc := 10, handlerPc := 17, catchType := 13 } [{ startPc := 0, endPc := 10, handlerPc := 21, catchType := 15 }] htb (List.forall_mem_cons.mpr ⟨Or.inr ⟨by decide, xISE, hts _ (.tail _ qA_952), hN.2.2.1⟩, fun z hz => absurd hz List.not_mem_nil⟩) (by decide) (by decide) (hts _ (.tail _ qA_946)) (hX.use (.castable xIOB xIOB) (by decide +kernel)) hce hcv hcl ?_
    refine lv_astore (lv' := [(4, .ref q9), (0, .ref (ad o)), (1, .int a0), (2, .int a1), (3, .ref ao)]) hx hb dL_micAt_17 hl (by decide) rfl (fun ls hl => ?_)
    refine lv_iconst (v := 2) hx hb dL_micAt_19 (by decide) ?_
    refine W.widen (k := T1.1 - T.1 + 1) (n := sg T1 - sg T + 6) (by omega) (by omega) ?_
    exact W.iret (v := 2) hx hb hr (fun t ht hW => ⟨⟨2, ad, rfl, ⟨rfl, had⟩, ⟨by rw [ht]; exact G.1, va_K.moved hW.alike hK, G.2.1⟩⟩, G.2.2.F ht⟩) G.2.2.2.2 dL_micAt_20
  · have hE : E9 = xIAE := hE
    subst hE
    refine vx_catch (name := xIAE) hown [{ startPc := 0, endPc := 10, handlerPc := 13, catchType := 21 }, { startPc := 0, endPc := 10, handlerPc := 17, catchType := 13 }] { startPc := 0, endPc := 10, handlerPc := 21, catchType := 15 } [] htb (List.forall_mem_cons.mpr ⟨Or.inr ⟨by decide, xISE, hts _ (.tail _ qA_952), hN.2.2.2⟩, List.forall_mem_cons.mpr ⟨Or.inr ⟨by decide, xIOB, hts _ (.tail _ qA_946), hN.1⟩, fun z hz => absurd hz List.not_mem_nil⟩⟩) (by decide) (by decide) (hts _ (.tail _ qA_947)) (hX.use (.castable xIAE xIAE) (by decide +kernel)) hce hcv hcl ?_
    refine lv_astore (lv' := [(4, .ref q9), (0, .ref (ad o)), (1, .int a0), (2, .int a1), (3, .ref ao)]) hx hb dL_micAt_21 hl (by decide) rfl (fun ls hl => ?_)
    refine lv_iconst (v := 3) hx hb dL_micAt_23 (by decide) ?_
    refine W.widen (k := T1.1 - T.1 + 1) (n := sg T1 - sg T + 6) (by omega) (by omega) ?_
    exact W.iret (v := 3) hx hb hr (fun t ht hW => ⟨⟨3, ad, rfl, ⟨rfl, had⟩, ⟨by rw [ht]; exact G.1, va_K.moved hW.alike hK, G.2.1⟩⟩, G.2.2.F ht⟩) G.2.2.2.2 dL_micAt_24
theorem v_micAt (l : Launch) (hst : l.stackTraces = false) (D : va_G) {cI cJ cZ cMic cSrc cSt cAI cAJ cD : ClassId} (h0 : Nat) (ad : Nat → Nat) (T : AT) (o : Nat) (a0 a1 : Int32) (ao : Nat) (f : Nat → Int64) {k1 : Nat} {r1 : Int32} {T1 : AT} (h : g_X11_micAt T o a0 a1 = some (k1, r1, T1)) (hrc : RC T) (h_o : o < T.1) (h_s : T.2.1 o = (11, 0)) : tWi l yL_micAt (Cond.codeWith yL_micAt cL_micAt 5 (some .int) [(0, 10, 13, 21), (0, 10, 17, 13), (0, 10, 21, 15)] :: wsA) 9 145 cI cJ cZ cMic cSrc cSt cAI cAJ cD D h0 ad T (oJ ao cJ f) [.ref (ad o), .int a0, .int a1, .ref ao] (vck 1 2 3 k1) T1 (oJ ao cJ (vfJ k1 f r1.toInt64)) := by
  cases k1 with
  | zero => exact v_micAt_n l hst D h0 ad T o a0 a1 ao f h hrc h_o h_s
  | succ e1 => exact v_micAt_t l hst D h0 ad T o a0 a1 ao f h hrc h_o h_s
set_option maxHeartbeats 4000000 in
set_option maxRecDepth 100000 in
theorem v_isMuted_n (l : Launch) (hst : l.stackTraces = false) (D : va_G) {cI cJ cZ cMic cSrc cSt cAI cAJ cD : ClassId} (h0 : Nat) (ad : Nat → Nat) (T : AT) (o : Nat) (a0 : Int32) (ao : Nat) (f : Nat → Int64) {r1 : Int32} {T1 : AT} (h : g_X11_isMuted T o a0 = some (0, r1, T1)) (hrc : RC T) (h_o : o < T.1) (h_s : T.2.1 o = (11, 0)) : tWi l yL_isMuted (Cond.codeWith yL_isMuted cL_isMuted 4 (some .int) [(0, 16, 19, 21), (0, 16, 22, 13)] :: wsA) 9 144 cI cJ cZ cMic cSrc cSt cAI cAJ cD D h0 ad T (oJ ao cJ f) [.ref (ad o), .int a0, .ref ao] (vck 1 2 0 (0)) T1 (oJ ao cJ (vfJ (0) f (vzb r1))) := by
  intro sz
  refine va_MetW (cc := cL_isMuted) (maxL := 4) (ret := some .int) (by decide) rfl ?_
  intro p e s m args below meth c s₁ B hml hv
  obtain ⟨rfl, hsz, hP, hK, hD0, hX, hN, hA0, hTS⟩ := hv
  have hx := B.exec
  have hb := B.bytes
  have hr := B.returns
  have hts := atoms_spec (ws := (Cond.codeWith yL_isMuted cL_isMuted 4 (some .int) [(0, 16, 19, 21), (0, 16, 22, 13)] :: wsA)) B.pre
  have hown : s.vm.findClass RL = some m.cls := findClass_of_methodNamed B.named
  have hlocks := B.notSynchronized
  have htb := vx_table (x := yL_isMuted) B (hts _ (.head _))
  subst hsz
  have hD := hD0.self (sz := s.heap.size)
  generalize hAe : va_A (cW ad T.1 (cc cI cJ cZ cMic cSrc cSt cAI cAJ ad T) ++ [oJ ao cJ f]) s.heap.size = A at hD hX hA0 ⊢
  have hA : ∀ q : Nat, s.heap.size ≤ q → A q := fun q h => by rw [← hAe]; exact Or.inr h
  have G : gL cI cJ cZ cMic cSrc cSt cAI cAJ D ad A s.heap s.heap [] T [oJ ao cJ f] := ⟨hP, hD, va_S.rf⟩
  have E : cE p c cL_isMuted s m ([.ref (ad o), .int a0, .ref ao] : List Value).toArray (Cond.codeWith yL_isMuted cL_isMuted 4 (some .int) [(0, 16, 19, 21), (0, 16, 22, 13)] :: wsA) D RL (CT cI cJ cZ cMic cSrc cSt cAI cAJ ++ [(cD, .double)]) := ⟨hx, hb, hts, hown, hK⟩
  have hl := lv_entry ([.ref (ad o), .int a0, .ref ao]) (n := 4) (Nat.le_of_ble_eq_true rfl)
  rw [lg_entry_eq]
  generalize (lg_sl ([.ref (ad o), .int a0, .ref ao]) ++ List.replicate (4 - (lg_sl ([.ref (ad o), .int a0, .ref ao])).length) Slot.unset).toArray = ls at hl ⊢
  have hl : lv_has ls 4 [(0, .ref (ad o)), (1, .int a0), (2, .ref ao)] := hl
  refine lv_aload_n hx hb dL_isMuted_0 rfl (lv_at hl 2 rfl) ?_
  refine lv_iconst (v := 0) hx hb dL_isMuted_1 (by decide) ?_
  refine lv_aload_n hx hb dL_isMuted_2 rfl (lv_at hl 0 rfl) ?_
  refine lv_iload_n hx hb dL_isMuted_3 rfl (lv_at hl 1 rfl) ?_
  refine t_cvi (As := [.int a0]) (rest := [.int 0, .ref ao]) E G hA hX hX.2.2.2.1 hml (u_X11_isMuted l hst D cI cJ cZ cMic cSrc cSt cAI cAJ ad T o a0 h) (cwV 1 hts (gaV qA_957 qA_958 qA_959 qA_131 qA_745) rfl rfl rfl (by decide +kernel) ⟨Nat.le_of_ble_eq_true rfl, Nat.le_of_ble_eq_true rfl⟩) h_o (cc_o11 h_s) rfl rfl hl.1 rfl (lv_room (Nat.le_of_ble_eq_true rfl)) dL_isMuted_4 ⟨by show 0 + (0) ≤ T1.1 - T.1 + 1; omega, by show 0 + (0) ≤ sg T1 - sg T + 6; omega⟩ ?_
  intro r9 S1 H locs hp G
  obtain ⟨hr9, hS1⟩ := hp
  rw [hS1] at G
  rw [hr9]
  have had : ∀ n, n < T.1 → ad n = ad n := fun _ _ => rfl
  refine lv_if_eq (tgt := 14) hx hb dL_isMuted_7 (by decide) (fun c1 => ?_) (fun c1 => ?_)
  · refine lv_lconst (v := vzb r1) hx hb dL_isMuted_14 (by rw [vzb, if_pos c1]; rfl) ?_
    refine t_last E G dL_isMuted_15 (fun H locs G => ?_)
    refine lv_goto (tgt := 25) hx hb dL_isMuted_16 (by decide) ?_
    refine lv_iconst (v := 0) hx hb dL_isMuted_25 (by decide) ?_
    refine W.widen (k := T1.1 - T.1 + 1) (n := sg T1 - sg T + 6) (by omega) (by omega) ?_
    exact W.iret (v := 0) hx hb hr (fun t ht hW => ⟨⟨0, ad, rfl, ⟨rfl, had⟩, ⟨by rw [ht]; exact G.1, va_K.moved hW.alike hK, G.2.1⟩⟩, G.2.2.F ht⟩) G.2.2.2.2 dL_isMuted_26
  · refine lv_lconst (v := vzb r1) hx hb dL_isMuted_10 (by rw [vzb, if_neg c1]; rfl) ?_
    refine lv_goto (tgt := 15) hx hb dL_isMuted_11 (by decide) ?_
    refine t_last E G dL_isMuted_15 (fun H locs G => ?_)
    refine lv_goto (tgt := 25) hx hb dL_isMuted_16 (by decide) ?_
    refine lv_iconst (v := 0) hx hb dL_isMuted_25 (by decide) ?_
    refine W.widen (k := T1.1 - T.1 + 1) (n := sg T1 - sg T + 6) (by omega) (by omega) ?_
    exact W.iret (v := 0) hx hb hr (fun t ht hW => ⟨⟨0, ad, rfl, ⟨rfl, had⟩, ⟨by rw [ht]; exact G.1, va_K.moved hW.alike hK, G.2.1⟩⟩, G.2.2.F ht⟩) G.2.2.2.2 dL_isMuted_26
set_option maxHeartbeats 4000000 in
set_option maxRecDepth 100000 in
theorem v_isMuted_t (l : Launch) (hst : l.stackTraces = false) (D : va_G) {cI cJ cZ cMic cSrc cSt cAI cAJ cD : ClassId} (h0 : Nat) (ad : Nat → Nat) (T : AT) (o : Nat) (a0 : Int32) (ao : Nat) (f : Nat → Int64) {e1 : Nat} {r1 : Int32} {T1 : AT} (h : g_X11_isMuted T o a0 = some (e1 + 1, r1, T1)) (hrc : RC T) (h_o : o < T.1) (h_s : T.2.1 o = (11, 0)) : tWi l yL_isMuted (Cond.codeWith yL_isMuted cL_isMuted 4 (some .int) [(0, 16, 19, 21), (0, 16, 22, 13)] :: wsA) 9 144 cI cJ cZ cMic cSrc cSt cAI cAJ cD D h0 ad T (oJ ao cJ f) [.ref (ad o), .int a0, .ref ao] (vck 1 2 0 (e1 + 1)) T1 (oJ ao cJ (vfJ (e1 + 1) f (vzb r1))) := by
  intro sz
  refine va_MetW (cc := cL_isMuted) (maxL := 4) (ret := some .int) (by decide) rfl ?_
  intro p e s m args below meth c s₁ B hml hv
  obtain ⟨rfl, hsz, hP, hK, hD0, hX, hN, hA0, hTS⟩ := hv
  have hx := B.exec
  have hb := B.bytes
  have hr := B.returns
  have hts := atoms_spec (ws := (Cond.codeWith yL_isMuted cL_isMuted 4 (some .int) [(0, 16, 19, 21), (0, 16, 22, 13)] :: wsA)) B.pre
  have hown : s.vm.findClass RL = some m.cls := findClass_of_methodNamed B.named
  have hlocks := B.notSynchronized
  have htb := vx_table (x := yL_isMuted) B (hts _ (.head _))
  subst hsz
  have hD := hD0.self (sz := s.heap.size)
  generalize hAe : va_A (cW ad T.1 (cc cI cJ cZ cMic cSrc cSt cAI cAJ ad T) ++ [oJ ao cJ f]) s.heap.size = A at hD hX hA0 ⊢
  have hA : ∀ q : Nat, s.heap.size ≤ q → A q := fun q h => by rw [← hAe]; exact Or.inr h
  have G : gL cI cJ cZ cMic cSrc cSt cAI cAJ D ad A s.heap s.heap [] T [oJ ao cJ f] := ⟨hP, hD, va_S.rf⟩
  have E : cE p c cL_isMuted s m ([.ref (ad o), .int a0, .ref ao] : List Value).toArray (Cond.codeWith yL_isMuted cL_isMuted 4 (some .int) [(0, 16, 19, 21), (0, 16, 22, 13)] :: wsA) D RL (CT cI cJ cZ cMic cSrc cSt cAI cAJ ++ [(cD, .double)]) := ⟨hx, hb, hts, hown, hK⟩
  have hl := lv_entry ([.ref (ad o), .int a0, .ref ao]) (n := 4) (Nat.le_of_ble_eq_true rfl)
  rw [lg_entry_eq]
  generalize (lg_sl ([.ref (ad o), .int a0, .ref ao]) ++ List.replicate (4 - (lg_sl ([.ref (ad o), .int a0, .ref ao])).length) Slot.unset).toArray = ls at hl ⊢
  have hl : lv_has ls 4 [(0, .ref (ad o)), (1, .int a0), (2, .ref ao)] := hl
  refine lv_aload_n hx hb dL_isMuted_0 rfl (lv_at hl 2 rfl) ?_
  refine lv_iconst (v := 0) hx hb dL_isMuted_1 (by decide) ?_
  refine lv_aload_n hx hb dL_isMuted_2 rfl (lv_at hl 0 rfl) ?_
  refine lv_iload_n hx hb dL_isMuted_3 rfl (lv_at hl 1 rfl) ?_
  refine t_xvi (As := [.int a0]) (rest := [.int 0, .ref ao]) E G hA hX hX.2.2.2.1 hml (x_X11_isMuted l hst D cI cJ cZ cMic cSrc cSt cAI cAJ ad T o a0 h) (cwV 1 hts (gaV qA_957 qA_958 qA_959 qA_131 qA_745) rfl rfl rfl (by decide +kernel) ⟨Nat.le_of_ble_eq_true rfl, Nat.le_of_ble_eq_true rfl⟩) h_o (cc_o11 h_s) rfl rfl hl.1 rfl (lv_room (Nat.le_of_ble_eq_true rfl)) dL_isMuted_4 ⟨by show 0 + (1) ≤ T1.1 - T.1 + 1; omega, by show 0 + (6) ≤ sg T1 - sg T + 6; omega⟩ ?_
  intro E9 ce q9 S1 H locs hp G hce hcv hcl
  obtain ⟨hE, hS1⟩ := hp
  rw [hS1] at G
  have had : ∀ n, n < T.1 → ad n = ad n := fun _ _ => rfl
  rcases e1 with _ | _ | e1
  · have hE : E9 = xISE := hE
    subst hE
    refine vx_catch (name := xISE) hown [] { startPc := 0, endPc := 16, handlerPc := 19, catchType := 21 } [{ startPc := 0, endPc := 16, handlerPc := 22, catchType := 13 }] htb (fun z hz => absurd hz List.not_mem_nil) (by decide) (by decide) (hts _ (.tail _ qA_952)) (hX.use (.castable xISE xISE) (by decide +kernel)) hce hcv hcl ?_
    refine lv_astore_n (lv' := [(3, .ref q9), (0, .ref (ad o)), (1, .int a0), (2, .ref ao)]) hx hb dL_isMuted_19 rfl hl (by decide) rfl (fun ls hl => ?_)
    refine lv_iconst (v := 1) hx hb dL_isMuted_20 (by decide) ?_
    refine W.widen (k := T1.1 - T.1 + 1) (n := sg T1 - sg T + 6) (by omega) (by omega) ?_
    exact W.iret (v := 1) hx hb hr (fun t ht hW => ⟨⟨1, ad, rfl, ⟨rfl, had⟩, ⟨by rw [ht]; exact G.1, va_K.moved hW.alike hK, G.2.1⟩⟩, G.2.2.F ht⟩) G.2.2.2.2 dL_isMuted_21
  · have hE : E9 = xIOB := hE
    subst hE
    refine vx_catch (name := xIOB) hown [{ startPc := 0, endPc := 16, handlerPc := 19, catchType := 21 }] { startPc := 0, endPc := 16, handlerPc := 22, catchType := 13 } [] htb (List.forall_mem_cons.mpr ⟨Or.inr ⟨by decide, xISE, hts _ (.tail _ qA_952), hN.2.2.1⟩, fun z hz => absurd hz List.not_mem_nil⟩) (by decide) (by decide) (hts _ (.tail _ qA_946)) (hX.use (.castable xIOB xIOB) (by decide +kernel)) hce hcv hcl ?_
    refine lv_astore_n (lv' := [(3, .ref q9), (0, .ref (ad o)), (1, .int a0), (2, .ref ao)]) hx hb dL_isMuted_22 rfl hl (by decide) rfl (fun ls hl => ?_)
    refine lv_iconst (v := 2) hx hb dL_isMuted_23 (by decide) ?_
    refine W.widen (k := T1.1 - T.1 + 1) (n := sg T1 - sg T + 6) (by omega) (by omega) ?_
    exact W.iret (v := 2) hx hb hr (fun t ht hW => ⟨⟨2, ad, rfl, ⟨rfl, had⟩, ⟨by rw [ht]; exact G.1, va_K.moved hW.alike hK, G.2.1⟩⟩, G.2.2.F ht⟩) G.2.2.2.2 dL_isMuted_24
  · have q := (cd_g_X11_isMuted (S := [0, 1, 2]) (fun _ h => h) T o a0 _ _ _ h)
    simp only [List.mem_cons, List.not_mem_nil, or_false] at q
    omega
theorem v_isMuted (l : Launch) (hst : l.stackTraces = false) (D : va_G) {cI cJ cZ cMic cSrc cSt cAI cAJ cD : ClassId} (h0 : Nat) (ad : Nat → Nat) (T : AT) (o : Nat) (a0 : Int32) (ao : Nat) (f : Nat → Int64) {k1 : Nat} {r1 : Int32} {T1 : AT} (h : g_X11_isMuted T o a0 = some (k1, r1, T1)) (hrc : RC T) (h_o : o < T.1) (h_s : T.2.1 o = (11, 0)) : tWi l yL_isMuted (Cond.codeWith yL_isMuted cL_isMuted 4 (some .int) [(0, 16, 19, 21), (0, 16, 22, 13)] :: wsA) 9 144 cI cJ cZ cMic cSrc cSt cAI cAJ cD D h0 ad T (oJ ao cJ f) [.ref (ad o), .int a0, .ref ao] (vck 1 2 0 k1) T1 (oJ ao cJ (vfJ k1 f (vzb r1))) := by
  cases k1 with
  | zero => exact v_isMuted_n l hst D h0 ad T o a0 ao f h hrc h_o h_s
  | succ e1 => exact v_isMuted_t l hst D h0 ad T o a0 ao f h hrc h_o h_s
set_option maxHeartbeats 4000000 in
set_option maxRecDepth 100000 in
theorem v_cellAt_n (l : Launch) (hst : l.stackTraces = false) (D : va_G) {cI cJ cZ cMic cSrc cSt cAI cAJ cD : ClassId} (h0 : Nat) (ad : Nat → Nat) (T : AT) (o : Nat) (a0 a1 : Int32) (ao : Nat) (f : Nat → Int64) {r1 : Int32} {T1 : AT} (h : g_X11_cellAt T o a0 a1 = some (0, r1, T1)) (hrc : RC T) (h_o : o < T.1) (h_s : T.2.1 o = (11, 0)) : tWi l yL_cellAt (Cond.codeWith yL_cellAt cL_cellAt 5 (some .int) [(0, 10, 13, 21), (0, 10, 17, 13), (0, 10, 21, 15)] :: wsA) 9 145 cI cJ cZ cMic cSrc cSt cAI cAJ cD D h0 ad T (oJ ao cJ f) [.ref (ad o), .int a0, .int a1, .ref ao] (vck 1 2 3 (0)) T1 (oJ ao cJ (vfJ (0) f r1.toInt64)) := by
  intro sz
  refine va_MetW (cc := cL_cellAt) (maxL := 5) (ret := some .int) (by decide) rfl ?_
  intro p e s m args below meth c s₁ B hml hv
  obtain ⟨rfl, hsz, hP, hK, hD0, hX, hN, hA0, hTS⟩ := hv
  have hx := B.exec
  have hb := B.bytes
  have hr := B.returns
  have hts := atoms_spec (ws := (Cond.codeWith yL_cellAt cL_cellAt 5 (some .int) [(0, 10, 13, 21), (0, 10, 17, 13), (0, 10, 21, 15)] :: wsA)) B.pre
  have hown : s.vm.findClass RL = some m.cls := findClass_of_methodNamed B.named
  have hlocks := B.notSynchronized
  have htb := vx_table (x := yL_cellAt) B (hts _ (.head _))
  subst hsz
  have hD := hD0.self (sz := s.heap.size)
  generalize hAe : va_A (cW ad T.1 (cc cI cJ cZ cMic cSrc cSt cAI cAJ ad T) ++ [oJ ao cJ f]) s.heap.size = A at hD hX hA0 ⊢
  have hA : ∀ q : Nat, s.heap.size ≤ q → A q := fun q h => by rw [← hAe]; exact Or.inr h
  have G : gL cI cJ cZ cMic cSrc cSt cAI cAJ D ad A s.heap s.heap [] T [oJ ao cJ f] := ⟨hP, hD, va_S.rf⟩
  have E : cE p c cL_cellAt s m ([.ref (ad o), .int a0, .int a1, .ref ao] : List Value).toArray (Cond.codeWith yL_cellAt cL_cellAt 5 (some .int) [(0, 10, 13, 21), (0, 10, 17, 13), (0, 10, 21, 15)] :: wsA) D RL (CT cI cJ cZ cMic cSrc cSt cAI cAJ ++ [(cD, .double)]) := ⟨hx, hb, hts, hown, hK⟩
  have hl := lv_entry ([.ref (ad o), .int a0, .int a1, .ref ao]) (n := 5) (Nat.le_of_ble_eq_true rfl)
  rw [lg_entry_eq]
  generalize (lg_sl ([.ref (ad o), .int a0, .int a1, .ref ao]) ++ List.replicate (5 - (lg_sl ([.ref (ad o), .int a0, .int a1, .ref ao])).length) Slot.unset).toArray = ls at hl ⊢
  have hl : lv_has ls 5 [(0, .ref (ad o)), (1, .int a0), (2, .int a1), (3, .ref ao)] := hl
  refine lv_aload_n hx hb dL_cellAt_0 rfl (lv_at hl 3 rfl) ?_
  refine lv_iconst (v := 0) hx hb dL_cellAt_1 (by decide) ?_
  refine lv_aload_n hx hb dL_cellAt_2 rfl (lv_at hl 0 rfl) ?_
  refine lv_iload_n hx hb dL_cellAt_3 rfl (lv_at hl 1 rfl) ?_
  refine lv_iload_n hx hb dL_cellAt_4 rfl (lv_at hl 2 rfl) ?_
  refine t_cvi (As := [.int a0, .int a1]) (rest := [.int 0, .ref ao]) E G hA hX hX.2.2.2.1 hml (u_X11_cellAt l hst D cI cJ cZ cMic cSrc cSt cAI cAJ ad T o a0 a1 h) (cwV 2 hts (gaV qA_961 qA_962 qA_963 qA_131 qA_751) rfl rfl rfl (by decide +kernel) ⟨Nat.le_of_ble_eq_true rfl, Nat.le_of_ble_eq_true rfl⟩) h_o (cc_o11 h_s) rfl rfl hl.1 rfl (lv_room (Nat.le_of_ble_eq_true rfl)) dL_cellAt_5 ⟨by show 0 + (0) ≤ T1.1 - T.1 + 1; omega, by show 0 + (0) ≤ sg T1 - sg T + 6; omega⟩ ?_
  intro r9 S1 H locs hp G
  obtain ⟨hr9, hS1⟩ := hp
  rw [hS1] at G
  rw [hr9]
  have had : ∀ n, n < T.1 → ad n = ad n := fun _ _ => rfl
  refine lv_i2l (v := r1.toInt64) hx hb dL_cellAt_8 rfl ?_
  refine t_last E G dL_cellAt_9 (fun H locs G => ?_)
  refine lv_goto (tgt := 25) hx hb dL_cellAt_10 (by decide) ?_
  refine lv_iconst (v := 0) hx hb dL_cellAt_25 (by decide) ?_
  refine W.widen (k := T1.1 - T.1 + 1) (n := sg T1 - sg T + 6) (by omega) (by omega) ?_
  exact W.iret (v := 0) hx hb hr (fun t ht hW => ⟨⟨0, ad, rfl, ⟨rfl, had⟩, ⟨by rw [ht]; exact G.1, va_K.moved hW.alike hK, G.2.1⟩⟩, G.2.2.F ht⟩) G.2.2.2.2 dL_cellAt_26
set_option maxHeartbeats 4000000 in
set_option maxRecDepth 100000 in
theorem v_cellAt_t (l : Launch) (hst : l.stackTraces = false) (D : va_G) {cI cJ cZ cMic cSrc cSt cAI cAJ cD : ClassId} (h0 : Nat) (ad : Nat → Nat) (T : AT) (o : Nat) (a0 a1 : Int32) (ao : Nat) (f : Nat → Int64) {e1 : Nat} {r1 : Int32} {T1 : AT} (h : g_X11_cellAt T o a0 a1 = some (e1 + 1, r1, T1)) (hrc : RC T) (h_o : o < T.1) (h_s : T.2.1 o = (11, 0)) : tWi l yL_cellAt (Cond.codeWith yL_cellAt cL_cellAt 5 (some .int) [(0, 10, 13, 21), (0, 10, 17, 13), (0, 10, 21, 15)] :: wsA) 9 145 cI cJ cZ cMic cSrc cSt cAI cAJ cD D h0 ad T (oJ ao cJ f) [.ref (ad o), .int a0, .int a1, .ref ao] (vck 1 2 3 (e1 + 1)) T1 (oJ ao cJ (vfJ (e1 + 1) f r1.toInt64)) := by
  intro sz
  refine va_MetW (cc := cL_cellAt) (maxL := 5) (ret := some .int) (by decide) rfl ?_
  intro p e s m args below meth c s₁ B hml hv
  obtain ⟨rfl, hsz, hP, hK, hD0, hX, hN, hA0, hTS⟩ := hv
  have hx := B.exec
  have hb := B.bytes
  have hr := B.returns
  have hts := atoms_spec (ws := (Cond.codeWith yL_cellAt cL_cellAt 5 (some .int) [(0, 10, 13, 21), (0, 10, 17, 13), (0, 10, 21, 15)] :: wsA)) B.pre
  have hown : s.vm.findClass RL = some m.cls := findClass_of_methodNamed B.named
  have hlocks := B.notSynchronized
  have htb := vx_table (x := yL_cellAt) B (hts _ (.head _))
  subst hsz
  have hD := hD0.self (sz := s.heap.size)
  generalize hAe : va_A (cW ad T.1 (cc cI cJ cZ cMic cSrc cSt cAI cAJ ad T) ++ [oJ ao cJ f]) s.heap.size = A at hD hX hA0 ⊢
  have hA : ∀ q : Nat, s.heap.size ≤ q → A q := fun q h => by rw [← hAe]; exact Or.inr h
  have G : gL cI cJ cZ cMic cSrc cSt cAI cAJ D ad A s.heap s.heap [] T [oJ ao cJ f] := ⟨hP, hD, va_S.rf⟩
  have E : cE p c cL_cellAt s m ([.ref (ad o), .int a0, .int a1, .ref ao] : List Value).toArray (Cond.codeWith yL_cellAt cL_cellAt 5 (some .int) [(0, 10, 13, 21), (0, 10, 17, 13), (0, 10, 21, 15)] :: wsA) D RL (CT cI cJ cZ cMic cSrc cSt cAI cAJ ++ [(cD, .double)]) := ⟨hx, hb, hts, hown, hK⟩
  have hl := lv_entry ([.ref (ad o), .int a0, .int a1, .ref ao]) (n := 5) (Nat.le_of_ble_eq_true rfl)
  rw [lg_entry_eq]
  generalize (lg_sl ([.ref (ad o), .int a0, .int a1, .ref ao]) ++ List.replicate (5 - (lg_sl ([.ref (ad o), .int a0, .int a1, .ref ao])).length) Slot.unset).toArray = ls at hl ⊢
  have hl : lv_has ls 5 [(0, .ref (ad o)), (1, .int a0), (2, .int a1), (3, .ref ao)] := hl
  refine lv_aload_n hx hb dL_cellAt_0 rfl (lv_at hl 3 rfl) ?_
  refine lv_iconst (v := 0) hx hb dL_cellAt_1 (by decide) ?_
  refine lv_aload_n hx hb dL_cellAt_2 rfl (lv_at hl 0 rfl) ?_
  refine lv_iload_n hx hb dL_cellAt_3 rfl (lv_at hl 1 rfl) ?_
  refine lv_iload_n hx hb dL_cellAt_4 rfl (lv_at hl 2 rfl) ?_
  refine t_xvi (As := [.int a0, .int a1]) (rest := [.int 0, .ref ao]) E G hA hX hX.2.2.2.1 hml (x_X11_cellAt l hst D cI cJ cZ cMic cSrc cSt cAI cAJ ad T o a0 a1 h) (cwV 2 hts (gaV qA_961 qA_962 qA_963 qA_131 qA_751) rfl rfl rfl (by decide +kernel) ⟨Nat.le_of_ble_eq_true rfl, Nat.le_of_ble_eq_true rfl⟩) h_o (cc_o11 h_s) rfl rfl hl.1 rfl (lv_room (Nat.le_of_ble_eq_true rfl)) dL_cellAt_5 ⟨by show 0 + (1) ≤ T1.1 - T.1 + 1; omega, by show 0 + (6) ≤ sg T1 - sg T + 6; omega⟩ ?_
  intro E9 ce q9 S1 H locs hp G hce hcv hcl
  obtain ⟨hE, hS1⟩ := hp
  rw [hS1] at G
  have had : ∀ n, n < T.1 → ad n = ad n := fun _ _ => rfl
  rcases e1 with _ | _ | e1
  · have hE : E9 = xISE := hE
    subst hE
    refine vx_catch (name := xISE) hown [] { startPc := 0, endPc := 10, handlerPc := 13, catchType := 21 } [{ startPc := 0, endPc := 10, handlerPc := 17, catchType := 13 }, { startPc := 0, endPc := 10, handlerPc := 21, catchType := 15 }] htb (fun z hz => absurd hz List.not_mem_nil) (by decide) (by decide) (hts _ (.tail _ qA_952)) (hX.use (.castable xISE xISE) (by decide +kernel)) hce hcv hcl ?_
    refine lv_astore (lv' := [(4, .ref q9), (0, .ref (ad o)), (1, .int a0), (2, .int a1), (3, .ref ao)]) hx hb dL_cellAt_13 hl (by decide) rfl (fun ls hl => ?_)
    refine lv_iconst (v := 1) hx hb dL_cellAt_15 (by decide) ?_
    refine W.widen (k := T1.1 - T.1 + 1) (n := sg T1 - sg T + 6) (by omega) (by omega) ?_
    exact W.iret (v := 1) hx hb hr (fun t ht hW => ⟨⟨1, ad, rfl, ⟨rfl, had⟩, ⟨by rw [ht]; exact G.1, va_K.moved hW.alike hK, G.2.1⟩⟩, G.2.2.F ht⟩) G.2.2.2.2 dL_cellAt_16
  · have hE : E9 = xIOB := hE
    subst hE
    refine vx_catch (name := xIOB) hown [{ startPc := 0, endPc := 10, handlerPc := 13, catchType := 21 }] { startPc := 0, endPc := 10, handlerPc := 17, catchType := 13 } [{ startPc := 0, endPc := 10, handlerPc := 21, catchType := 15 }] htb (List.forall_mem_cons.mpr ⟨Or.inr ⟨by decide, xISE, hts _ (.tail _ qA_952), hN.2.2.1⟩, fun z hz => absurd hz List.not_mem_nil⟩) (by decide) (by decide) (hts _ (.tail _ qA_946)) (hX.use (.castable xIOB xIOB) (by decide +kernel)) hce hcv hcl ?_
    refine lv_astore (lv' := [(4, .ref q9), (0, .ref (ad o)), (1, .int a0), (2, .int a1), (3, .ref ao)]) hx hb dL_cellAt_17 hl (by decide) rfl (fun ls hl => ?_)
    refine lv_iconst (v := 2) hx hb dL_cellAt_19 (by decide) ?_
    refine W.widen (k := T1.1 - T.1 + 1) (n := sg T1 - sg T + 6) (by omega) (by omega) ?_
    exact W.iret (v := 2) hx hb hr (fun t ht hW => ⟨⟨2, ad, rfl, ⟨rfl, had⟩, ⟨by rw [ht]; exact G.1, va_K.moved hW.alike hK, G.2.1⟩⟩, G.2.2.F ht⟩) G.2.2.2.2 dL_cellAt_20
  · have hE : E9 = xIAE := hE
    subst hE
    refine vx_catch (name := xIAE) hown [{ startPc := 0, endPc := 10, handlerPc := 13, catchType := 21 }, { startPc := 0, endPc := 10, handlerPc := 17, catchType := 13 }] { startPc := 0, endPc := 10, handlerPc := 21, catchType := 15 } [] htb (List.forall_mem_cons.mpr ⟨Or.inr ⟨by decide, xISE, hts _ (.tail _ qA_952), hN.2.2.2⟩, List.forall_mem_cons.mpr ⟨Or.inr ⟨by decide, xIOB, hts _ (.tail _ qA_946), hN.1⟩, fun z hz => absurd hz List.not_mem_nil⟩⟩) (by decide) (by decide) (hts _ (.tail _ qA_947)) (hX.use (.castable xIAE xIAE) (by decide +kernel)) hce hcv hcl ?_
    refine lv_astore (lv' := [(4, .ref q9), (0, .ref (ad o)), (1, .int a0), (2, .int a1), (3, .ref ao)]) hx hb dL_cellAt_21 hl (by decide) rfl (fun ls hl => ?_)
    refine lv_iconst (v := 3) hx hb dL_cellAt_23 (by decide) ?_
    refine W.widen (k := T1.1 - T.1 + 1) (n := sg T1 - sg T + 6) (by omega) (by omega) ?_
    exact W.iret (v := 3) hx hb hr (fun t ht hW => ⟨⟨3, ad, rfl, ⟨rfl, had⟩, ⟨by rw [ht]; exact G.1, va_K.moved hW.alike hK, G.2.1⟩⟩, G.2.2.F ht⟩) G.2.2.2.2 dL_cellAt_24
theorem v_cellAt (l : Launch) (hst : l.stackTraces = false) (D : va_G) {cI cJ cZ cMic cSrc cSt cAI cAJ cD : ClassId} (h0 : Nat) (ad : Nat → Nat) (T : AT) (o : Nat) (a0 a1 : Int32) (ao : Nat) (f : Nat → Int64) {k1 : Nat} {r1 : Int32} {T1 : AT} (h : g_X11_cellAt T o a0 a1 = some (k1, r1, T1)) (hrc : RC T) (h_o : o < T.1) (h_s : T.2.1 o = (11, 0)) : tWi l yL_cellAt (Cond.codeWith yL_cellAt cL_cellAt 5 (some .int) [(0, 10, 13, 21), (0, 10, 17, 13), (0, 10, 21, 15)] :: wsA) 9 145 cI cJ cZ cMic cSrc cSt cAI cAJ cD D h0 ad T (oJ ao cJ f) [.ref (ad o), .int a0, .int a1, .ref ao] (vck 1 2 3 k1) T1 (oJ ao cJ (vfJ k1 f r1.toInt64)) := by
  cases k1 with
  | zero => exact v_cellAt_n l hst D h0 ad T o a0 a1 ao f h hrc h_o h_s
  | succ e1 => exact v_cellAt_t l hst D h0 ad T o a0 a1 ao f h hrc h_o h_s
set_option maxHeartbeats 4000000 in
set_option maxRecDepth 100000 in
theorem v_sourceAt_n (l : Launch) (hst : l.stackTraces = false) (D : va_G) {cI cJ cZ cMic cSrc cSt cAI cAJ cD : ClassId} (h0 : Nat) (ad : Nat → Nat) (T : AT) (o : Nat) (a0 a1 a2 : Int32) (ao : Nat) (f : Nat → Int64) {r1 : Int32} {T1 : AT} (h : g_X11_sourceAt T o a0 a1 a2 = some (0, r1, T1)) (hrc : RC T) (h_o : o < T.1) (h_s : T.2.1 o = (11, 0)) : tWi l yL_sourceAt (Cond.codeWith yL_sourceAt cL_sourceAt 6 (some .int) [(0, 12, 15, 21), (0, 12, 19, 13), (0, 12, 23, 15)] :: wsA) 9 146 cI cJ cZ cMic cSrc cSt cAI cAJ cD D h0 ad T (oJ ao cJ f) [.ref (ad o), .int a0, .int a1, .int a2, .ref ao] (vck 1 2 3 (0)) T1 (oJ ao cJ (vfJ (0) f r1.toInt64)) := by
  intro sz
  refine va_MetW (cc := cL_sourceAt) (maxL := 6) (ret := some .int) (by decide) rfl ?_
  intro p e s m args below meth c s₁ B hml hv
  obtain ⟨rfl, hsz, hP, hK, hD0, hX, hN, hA0, hTS⟩ := hv
  have hx := B.exec
  have hb := B.bytes
  have hr := B.returns
  have hts := atoms_spec (ws := (Cond.codeWith yL_sourceAt cL_sourceAt 6 (some .int) [(0, 12, 15, 21), (0, 12, 19, 13), (0, 12, 23, 15)] :: wsA)) B.pre
  have hown : s.vm.findClass RL = some m.cls := findClass_of_methodNamed B.named
  have hlocks := B.notSynchronized
  have htb := vx_table (x := yL_sourceAt) B (hts _ (.head _))
  subst hsz
  have hD := hD0.self (sz := s.heap.size)
  generalize hAe : va_A (cW ad T.1 (cc cI cJ cZ cMic cSrc cSt cAI cAJ ad T) ++ [oJ ao cJ f]) s.heap.size = A at hD hX hA0 ⊢
  have hA : ∀ q : Nat, s.heap.size ≤ q → A q := fun q h => by rw [← hAe]; exact Or.inr h
  have G : gL cI cJ cZ cMic cSrc cSt cAI cAJ D ad A s.heap s.heap [] T [oJ ao cJ f] := ⟨hP, hD, va_S.rf⟩
  have E : cE p c cL_sourceAt s m ([.ref (ad o), .int a0, .int a1, .int a2, .ref ao] : List Value).toArray (Cond.codeWith yL_sourceAt cL_sourceAt 6 (some .int) [(0, 12, 15, 21), (0, 12, 19, 13), (0, 12, 23, 15)] :: wsA) D RL (CT cI cJ cZ cMic cSrc cSt cAI cAJ ++ [(cD, .double)]) := ⟨hx, hb, hts, hown, hK⟩
  have hl := lv_entry ([.ref (ad o), .int a0, .int a1, .int a2, .ref ao]) (n := 6) (Nat.le_of_ble_eq_true rfl)
  rw [lg_entry_eq]
  generalize (lg_sl ([.ref (ad o), .int a0, .int a1, .int a2, .ref ao]) ++ List.replicate (6 - (lg_sl ([.ref (ad o), .int a0, .int a1, .int a2, .ref ao])).length) Slot.unset).toArray = ls at hl ⊢
  have hl : lv_has ls 6 [(0, .ref (ad o)), (1, .int a0), (2, .int a1), (3, .int a2), (4, .ref ao)] := hl
  refine lv_aload hx hb dL_sourceAt_0 (lv_at hl 4 rfl) ?_
  refine lv_iconst (v := 0) hx hb dL_sourceAt_2 (by decide) ?_
  refine lv_aload_n hx hb dL_sourceAt_3 rfl (lv_at hl 0 rfl) ?_
  refine lv_iload_n hx hb dL_sourceAt_4 rfl (lv_at hl 1 rfl) ?_
  refine lv_iload_n hx hb dL_sourceAt_5 rfl (lv_at hl 2 rfl) ?_
  refine lv_iload_n hx hb dL_sourceAt_6 rfl (lv_at hl 3 rfl) ?_
  refine t_cvi (As := [.int a0, .int a1, .int a2]) (rest := [.int 0, .ref ao]) E G hA hX hX.2.2.2.1 hml (u_X11_sourceAt l hst D cI cJ cZ cMic cSrc cSt cAI cAJ ad T o a0 a1 a2 h) (cwV 3 hts (gaV qA_965 qA_966 qA_967 qA_131 qA_760) rfl rfl rfl (by decide +kernel) ⟨Nat.le_of_ble_eq_true rfl, Nat.le_of_ble_eq_true rfl⟩) h_o (cc_o11 h_s) rfl rfl hl.1 rfl (lv_room (Nat.le_of_ble_eq_true rfl)) dL_sourceAt_7 ⟨by show 0 + (0) ≤ T1.1 - T.1 + 1; omega, by show 0 + (0) ≤ sg T1 - sg T + 6; omega⟩ ?_
  intro r9 S1 H locs hp G
  obtain ⟨hr9, hS1⟩ := hp
  rw [hS1] at G
  rw [hr9]
  have had : ∀ n, n < T.1 → ad n = ad n := fun _ _ => rfl
  refine lv_i2l (v := r1.toInt64) hx hb dL_sourceAt_10 rfl ?_
  refine t_last E G dL_sourceAt_11 (fun H locs G => ?_)
  refine lv_goto (tgt := 27) hx hb dL_sourceAt_12 (by decide) ?_
  refine lv_iconst (v := 0) hx hb dL_sourceAt_27 (by decide) ?_
  refine W.widen (k := T1.1 - T.1 + 1) (n := sg T1 - sg T + 6) (by omega) (by omega) ?_
  exact W.iret (v := 0) hx hb hr (fun t ht hW => ⟨⟨0, ad, rfl, ⟨rfl, had⟩, ⟨by rw [ht]; exact G.1, va_K.moved hW.alike hK, G.2.1⟩⟩, G.2.2.F ht⟩) G.2.2.2.2 dL_sourceAt_28
set_option maxHeartbeats 4000000 in
set_option maxRecDepth 100000 in
theorem v_sourceAt_t (l : Launch) (hst : l.stackTraces = false) (D : va_G) {cI cJ cZ cMic cSrc cSt cAI cAJ cD : ClassId} (h0 : Nat) (ad : Nat → Nat) (T : AT) (o : Nat) (a0 a1 a2 : Int32) (ao : Nat) (f : Nat → Int64) {e1 : Nat} {r1 : Int32} {T1 : AT} (h : g_X11_sourceAt T o a0 a1 a2 = some (e1 + 1, r1, T1)) (hrc : RC T) (h_o : o < T.1) (h_s : T.2.1 o = (11, 0)) : tWi l yL_sourceAt (Cond.codeWith yL_sourceAt cL_sourceAt 6 (some .int) [(0, 12, 15, 21), (0, 12, 19, 13), (0, 12, 23, 15)] :: wsA) 9 146 cI cJ cZ cMic cSrc cSt cAI cAJ cD D h0 ad T (oJ ao cJ f) [.ref (ad o), .int a0, .int a1, .int a2, .ref ao] (vck 1 2 3 (e1 + 1)) T1 (oJ ao cJ (vfJ (e1 + 1) f r1.toInt64)) := by
  intro sz
  refine va_MetW (cc := cL_sourceAt) (maxL := 6) (ret := some .int) (by decide) rfl ?_
  intro p e s m args below meth c s₁ B hml hv
  obtain ⟨rfl, hsz, hP, hK, hD0, hX, hN, hA0, hTS⟩ := hv
  have hx := B.exec
  have hb := B.bytes
  have hr := B.returns
  have hts := atoms_spec (ws := (Cond.codeWith yL_sourceAt cL_sourceAt 6 (some .int) [(0, 12, 15, 21), (0, 12, 19, 13), (0, 12, 23, 15)] :: wsA)) B.pre
  have hown : s.vm.findClass RL = some m.cls := findClass_of_methodNamed B.named
  have hlocks := B.notSynchronized
  have htb := vx_table (x := yL_sourceAt) B (hts _ (.head _))
  subst hsz
  have hD := hD0.self (sz := s.heap.size)
  generalize hAe : va_A (cW ad T.1 (cc cI cJ cZ cMic cSrc cSt cAI cAJ ad T) ++ [oJ ao cJ f]) s.heap.size = A at hD hX hA0 ⊢
  have hA : ∀ q : Nat, s.heap.size ≤ q → A q := fun q h => by rw [← hAe]; exact Or.inr h
  have G : gL cI cJ cZ cMic cSrc cSt cAI cAJ D ad A s.heap s.heap [] T [oJ ao cJ f] := ⟨hP, hD, va_S.rf⟩
  have E : cE p c cL_sourceAt s m ([.ref (ad o), .int a0, .int a1, .int a2, .ref ao] : List Value).toArray (Cond.codeWith yL_sourceAt cL_sourceAt 6 (some .int) [(0, 12, 15, 21), (0, 12, 19, 13), (0, 12, 23, 15)] :: wsA) D RL (CT cI cJ cZ cMic cSrc cSt cAI cAJ ++ [(cD, .double)]) := ⟨hx, hb, hts, hown, hK⟩
  have hl := lv_entry ([.ref (ad o), .int a0, .int a1, .int a2, .ref ao]) (n := 6) (Nat.le_of_ble_eq_true rfl)
  rw [lg_entry_eq]
  generalize (lg_sl ([.ref (ad o), .int a0, .int a1, .int a2, .ref ao]) ++ List.replicate (6 - (lg_sl ([.ref (ad o), .int a0, .int a1, .int a2, .ref ao])).length) Slot.unset).toArray = ls at hl ⊢
  have hl : lv_has ls 6 [(0, .ref (ad o)), (1, .int a0), (2, .int a1), (3, .int a2), (4, .ref ao)] := hl
  refine lv_aload hx hb dL_sourceAt_0 (lv_at hl 4 rfl) ?_
  refine lv_iconst (v := 0) hx hb dL_sourceAt_2 (by decide) ?_
  refine lv_aload_n hx hb dL_sourceAt_3 rfl (lv_at hl 0 rfl) ?_
  refine lv_iload_n hx hb dL_sourceAt_4 rfl (lv_at hl 1 rfl) ?_
  refine lv_iload_n hx hb dL_sourceAt_5 rfl (lv_at hl 2 rfl) ?_
  refine lv_iload_n hx hb dL_sourceAt_6 rfl (lv_at hl 3 rfl) ?_
  refine t_xvi (As := [.int a0, .int a1, .int a2]) (rest := [.int 0, .ref ao]) E G hA hX hX.2.2.2.1 hml (x_X11_sourceAt l hst D cI cJ cZ cMic cSrc cSt cAI cAJ ad T o a0 a1 a2 h) (cwV 3 hts (gaV qA_965 qA_966 qA_967 qA_131 qA_760) rfl rfl rfl (by decide +kernel) ⟨Nat.le_of_ble_eq_true rfl, Nat.le_of_ble_eq_true rfl⟩) h_o (cc_o11 h_s) rfl rfl hl.1 rfl (lv_room (Nat.le_of_ble_eq_true rfl)) dL_sourceAt_7 ⟨by show 0 + (1) ≤ T1.1 - T.1 + 1; omega, by show 0 + (6) ≤ sg T1 - sg T + 6; omega⟩ ?_
  intro E9 ce q9 S1 H locs hp G hce hcv hcl
  obtain ⟨hE, hS1⟩ := hp
  rw [hS1] at G
  have had : ∀ n, n < T.1 → ad n = ad n := fun _ _ => rfl
  rcases e1 with _ | _ | e1
  · have hE : E9 = xISE := hE
    subst hE
    refine vx_catch (name := xISE) hown [] { startPc := 0, endPc := 12, handlerPc := 15, catchType := 21 } [{ startPc := 0, endPc := 12, handlerPc := 19, catchType := 13 }, { startPc := 0, endPc := 12, handlerPc := 23, catchType := 15 }] htb (fun z hz => absurd hz List.not_mem_nil) (by decide) (by decide) (hts _ (.tail _ qA_952)) (hX.use (.castable xISE xISE) (by decide +kernel)) hce hcv hcl ?_
    refine lv_astore (lv' := [(5, .ref q9), (0, .ref (ad o)), (1, .int a0), (2, .int a1), (3, .int a2), (4, .ref ao)]) hx hb dL_sourceAt_15 hl (by decide) rfl (fun ls hl => ?_)
    refine lv_iconst (v := 1) hx hb dL_sourceAt_17 (by decide) ?_
    refine W.widen (k := T1.1 - T.1 + 1) (n := sg T1 - sg T + 6) (by omega) (by omega) ?_
    exact W.iret (v := 1) hx hb hr (fun t ht hW => ⟨⟨1, ad, rfl, ⟨rfl, had⟩, ⟨by rw [ht]; exact G.1, va_K.moved hW.alike hK, G.2.1⟩⟩, G.2.2.F ht⟩) G.2.2.2.2 dL_sourceAt_18
  · have hE : E9 = xIOB := hE
    subst hE
    refine vx_catch (name := xIOB) hown [{ startPc := 0, endPc := 12, handlerPc := 15, catchType := 21 }] { startPc := 0, endPc := 12, handlerPc := 19, catchType := 13 } [{ startPc := 0, endPc := 12, handlerPc := 23, catchType := 15 }] htb (List.forall_mem_cons.mpr ⟨Or.inr ⟨by decide, xISE, hts _ (.tail _ qA_952), hN.2.2.1⟩, fun z hz => absurd hz List.not_mem_nil⟩) (by decide) (by decide) (hts _ (.tail _ qA_946)) (hX.use (.castable xIOB xIOB) (by decide +kernel)) hce hcv hcl ?_
    refine lv_astore (lv' := [(5, .ref q9), (0, .ref (ad o)), (1, .int a0), (2, .int a1), (3, .int a2), (4, .ref ao)]) hx hb dL_sourceAt_19 hl (by decide) rfl (fun ls hl => ?_)
    refine lv_iconst (v := 2) hx hb dL_sourceAt_21 (by decide) ?_
    refine W.widen (k := T1.1 - T.1 + 1) (n := sg T1 - sg T + 6) (by omega) (by omega) ?_
    exact W.iret (v := 2) hx hb hr (fun t ht hW => ⟨⟨2, ad, rfl, ⟨rfl, had⟩, ⟨by rw [ht]; exact G.1, va_K.moved hW.alike hK, G.2.1⟩⟩, G.2.2.F ht⟩) G.2.2.2.2 dL_sourceAt_22
  · have hE : E9 = xIAE := hE
    subst hE
    refine vx_catch (name := xIAE) hown [{ startPc := 0, endPc := 12, handlerPc := 15, catchType := 21 }, { startPc := 0, endPc := 12, handlerPc := 19, catchType := 13 }] { startPc := 0, endPc := 12, handlerPc := 23, catchType := 15 } [] htb (List.forall_mem_cons.mpr ⟨Or.inr ⟨by decide, xISE, hts _ (.tail _ qA_952), hN.2.2.2⟩, List.forall_mem_cons.mpr ⟨Or.inr ⟨by decide, xIOB, hts _ (.tail _ qA_946), hN.1⟩, fun z hz => absurd hz List.not_mem_nil⟩⟩) (by decide) (by decide) (hts _ (.tail _ qA_947)) (hX.use (.castable xIAE xIAE) (by decide +kernel)) hce hcv hcl ?_
    refine lv_astore (lv' := [(5, .ref q9), (0, .ref (ad o)), (1, .int a0), (2, .int a1), (3, .int a2), (4, .ref ao)]) hx hb dL_sourceAt_23 hl (by decide) rfl (fun ls hl => ?_)
    refine lv_iconst (v := 3) hx hb dL_sourceAt_25 (by decide) ?_
    refine W.widen (k := T1.1 - T.1 + 1) (n := sg T1 - sg T + 6) (by omega) (by omega) ?_
    exact W.iret (v := 3) hx hb hr (fun t ht hW => ⟨⟨3, ad, rfl, ⟨rfl, had⟩, ⟨by rw [ht]; exact G.1, va_K.moved hW.alike hK, G.2.1⟩⟩, G.2.2.F ht⟩) G.2.2.2.2 dL_sourceAt_26
theorem v_sourceAt (l : Launch) (hst : l.stackTraces = false) (D : va_G) {cI cJ cZ cMic cSrc cSt cAI cAJ cD : ClassId} (h0 : Nat) (ad : Nat → Nat) (T : AT) (o : Nat) (a0 a1 a2 : Int32) (ao : Nat) (f : Nat → Int64) {k1 : Nat} {r1 : Int32} {T1 : AT} (h : g_X11_sourceAt T o a0 a1 a2 = some (k1, r1, T1)) (hrc : RC T) (h_o : o < T.1) (h_s : T.2.1 o = (11, 0)) : tWi l yL_sourceAt (Cond.codeWith yL_sourceAt cL_sourceAt 6 (some .int) [(0, 12, 15, 21), (0, 12, 19, 13), (0, 12, 23, 15)] :: wsA) 9 146 cI cJ cZ cMic cSrc cSt cAI cAJ cD D h0 ad T (oJ ao cJ f) [.ref (ad o), .int a0, .int a1, .int a2, .ref ao] (vck 1 2 3 k1) T1 (oJ ao cJ (vfJ k1 f r1.toInt64)) := by
  cases k1 with
  | zero => exact v_sourceAt_n l hst D h0 ad T o a0 a1 a2 ao f h hrc h_o h_s
  | succ e1 => exact v_sourceAt_t l hst D h0 ad T o a0 a1 a2 ao f h hrc h_o h_s
set_option maxHeartbeats 4000000 in
set_option maxRecDepth 100000 in
theorem v_isOn_n (l : Launch) (hst : l.stackTraces = false) (D : va_G) {cI cJ cZ cMic cSrc cSt cAI cAJ cD : ClassId} (h0 : Nat) (ad : Nat → Nat) (T : AT) (o : Nat) (a0 : Int32) (ao : Nat) (f : Nat → Int64) {r1 : Int32} {T1 : AT} (h : g_X11_isOn T o a0 = some (0, r1, T1)) (hrc : RC T) (h_o : o < T.1) (h_s : T.2.1 o = (11, 0)) : tWi l yL_isOn (Cond.codeWith yL_isOn cL_isOn 4 (some .int) [(0, 16, 19, 21), (0, 16, 22, 13)] :: wsA) 9 144 cI cJ cZ cMic cSrc cSt cAI cAJ cD D h0 ad T (oJ ao cJ f) [.ref (ad o), .int a0, .ref ao] (vck 1 2 0 (0)) T1 (oJ ao cJ (vfJ (0) f (vzb r1))) := by
  intro sz
  refine va_MetW (cc := cL_isOn) (maxL := 4) (ret := some .int) (by decide) rfl ?_
  intro p e s m args below meth c s₁ B hml hv
  obtain ⟨rfl, hsz, hP, hK, hD0, hX, hN, hA0, hTS⟩ := hv
  have hx := B.exec
  have hb := B.bytes
  have hr := B.returns
  have hts := atoms_spec (ws := (Cond.codeWith yL_isOn cL_isOn 4 (some .int) [(0, 16, 19, 21), (0, 16, 22, 13)] :: wsA)) B.pre
  have hown : s.vm.findClass RL = some m.cls := findClass_of_methodNamed B.named
  have hlocks := B.notSynchronized
  have htb := vx_table (x := yL_isOn) B (hts _ (.head _))
  subst hsz
  have hD := hD0.self (sz := s.heap.size)
  generalize hAe : va_A (cW ad T.1 (cc cI cJ cZ cMic cSrc cSt cAI cAJ ad T) ++ [oJ ao cJ f]) s.heap.size = A at hD hX hA0 ⊢
  have hA : ∀ q : Nat, s.heap.size ≤ q → A q := fun q h => by rw [← hAe]; exact Or.inr h
  have G : gL cI cJ cZ cMic cSrc cSt cAI cAJ D ad A s.heap s.heap [] T [oJ ao cJ f] := ⟨hP, hD, va_S.rf⟩
  have E : cE p c cL_isOn s m ([.ref (ad o), .int a0, .ref ao] : List Value).toArray (Cond.codeWith yL_isOn cL_isOn 4 (some .int) [(0, 16, 19, 21), (0, 16, 22, 13)] :: wsA) D RL (CT cI cJ cZ cMic cSrc cSt cAI cAJ ++ [(cD, .double)]) := ⟨hx, hb, hts, hown, hK⟩
  have hl := lv_entry ([.ref (ad o), .int a0, .ref ao]) (n := 4) (Nat.le_of_ble_eq_true rfl)
  rw [lg_entry_eq]
  generalize (lg_sl ([.ref (ad o), .int a0, .ref ao]) ++ List.replicate (4 - (lg_sl ([.ref (ad o), .int a0, .ref ao])).length) Slot.unset).toArray = ls at hl ⊢
  have hl : lv_has ls 4 [(0, .ref (ad o)), (1, .int a0), (2, .ref ao)] := hl
  refine lv_aload_n hx hb dL_isOn_0 rfl (lv_at hl 2 rfl) ?_
  refine lv_iconst (v := 0) hx hb dL_isOn_1 (by decide) ?_
  refine lv_aload_n hx hb dL_isOn_2 rfl (lv_at hl 0 rfl) ?_
  refine lv_iload_n hx hb dL_isOn_3 rfl (lv_at hl 1 rfl) ?_
  refine t_cvi (As := [.int a0]) (rest := [.int 0, .ref ao]) E G hA hX hX.2.2.2.1 hml (u_X11_isOn l hst D cI cJ cZ cMic cSrc cSt cAI cAJ ad T o a0 h) (cwV 1 hts (gaV qA_969 qA_970 qA_971 qA_131 qA_771) rfl rfl rfl (by decide +kernel) ⟨Nat.le_of_ble_eq_true rfl, Nat.le_of_ble_eq_true rfl⟩) h_o (cc_o11 h_s) rfl rfl hl.1 rfl (lv_room (Nat.le_of_ble_eq_true rfl)) dL_isOn_4 ⟨by show 0 + (0) ≤ T1.1 - T.1 + 1; omega, by show 0 + (0) ≤ sg T1 - sg T + 6; omega⟩ ?_
  intro r9 S1 H locs hp G
  obtain ⟨hr9, hS1⟩ := hp
  rw [hS1] at G
  rw [hr9]
  have had : ∀ n, n < T.1 → ad n = ad n := fun _ _ => rfl
  refine lv_if_eq (tgt := 14) hx hb dL_isOn_7 (by decide) (fun c1 => ?_) (fun c1 => ?_)
  · refine lv_lconst (v := vzb r1) hx hb dL_isOn_14 (by rw [vzb, if_pos c1]; rfl) ?_
    refine t_last E G dL_isOn_15 (fun H locs G => ?_)
    refine lv_goto (tgt := 25) hx hb dL_isOn_16 (by decide) ?_
    refine lv_iconst (v := 0) hx hb dL_isOn_25 (by decide) ?_
    refine W.widen (k := T1.1 - T.1 + 1) (n := sg T1 - sg T + 6) (by omega) (by omega) ?_
    exact W.iret (v := 0) hx hb hr (fun t ht hW => ⟨⟨0, ad, rfl, ⟨rfl, had⟩, ⟨by rw [ht]; exact G.1, va_K.moved hW.alike hK, G.2.1⟩⟩, G.2.2.F ht⟩) G.2.2.2.2 dL_isOn_26
  · refine lv_lconst (v := vzb r1) hx hb dL_isOn_10 (by rw [vzb, if_neg c1]; rfl) ?_
    refine lv_goto (tgt := 15) hx hb dL_isOn_11 (by decide) ?_
    refine t_last E G dL_isOn_15 (fun H locs G => ?_)
    refine lv_goto (tgt := 25) hx hb dL_isOn_16 (by decide) ?_
    refine lv_iconst (v := 0) hx hb dL_isOn_25 (by decide) ?_
    refine W.widen (k := T1.1 - T.1 + 1) (n := sg T1 - sg T + 6) (by omega) (by omega) ?_
    exact W.iret (v := 0) hx hb hr (fun t ht hW => ⟨⟨0, ad, rfl, ⟨rfl, had⟩, ⟨by rw [ht]; exact G.1, va_K.moved hW.alike hK, G.2.1⟩⟩, G.2.2.F ht⟩) G.2.2.2.2 dL_isOn_26
set_option maxHeartbeats 4000000 in
set_option maxRecDepth 100000 in
theorem v_isOn_t (l : Launch) (hst : l.stackTraces = false) (D : va_G) {cI cJ cZ cMic cSrc cSt cAI cAJ cD : ClassId} (h0 : Nat) (ad : Nat → Nat) (T : AT) (o : Nat) (a0 : Int32) (ao : Nat) (f : Nat → Int64) {e1 : Nat} {r1 : Int32} {T1 : AT} (h : g_X11_isOn T o a0 = some (e1 + 1, r1, T1)) (hrc : RC T) (h_o : o < T.1) (h_s : T.2.1 o = (11, 0)) : tWi l yL_isOn (Cond.codeWith yL_isOn cL_isOn 4 (some .int) [(0, 16, 19, 21), (0, 16, 22, 13)] :: wsA) 9 144 cI cJ cZ cMic cSrc cSt cAI cAJ cD D h0 ad T (oJ ao cJ f) [.ref (ad o), .int a0, .ref ao] (vck 1 2 0 (e1 + 1)) T1 (oJ ao cJ (vfJ (e1 + 1) f (vzb r1))) := by
  intro sz
  refine va_MetW (cc := cL_isOn) (maxL := 4) (ret := some .int) (by decide) rfl ?_
  intro p e s m args below meth c s₁ B hml hv
  obtain ⟨rfl, hsz, hP, hK, hD0, hX, hN, hA0, hTS⟩ := hv
  have hx := B.exec
  have hb := B.bytes
  have hr := B.returns
  have hts := atoms_spec (ws := (Cond.codeWith yL_isOn cL_isOn 4 (some .int) [(0, 16, 19, 21), (0, 16, 22, 13)] :: wsA)) B.pre
  have hown : s.vm.findClass RL = some m.cls := findClass_of_methodNamed B.named
  have hlocks := B.notSynchronized
  have htb := vx_table (x := yL_isOn) B (hts _ (.head _))
  subst hsz
  have hD := hD0.self (sz := s.heap.size)
  generalize hAe : va_A (cW ad T.1 (cc cI cJ cZ cMic cSrc cSt cAI cAJ ad T) ++ [oJ ao cJ f]) s.heap.size = A at hD hX hA0 ⊢
  have hA : ∀ q : Nat, s.heap.size ≤ q → A q := fun q h => by rw [← hAe]; exact Or.inr h
  have G : gL cI cJ cZ cMic cSrc cSt cAI cAJ D ad A s.heap s.heap [] T [oJ ao cJ f] := ⟨hP, hD, va_S.rf⟩
  have E : cE p c cL_isOn s m ([.ref (ad o), .int a0, .ref ao] : List Value).toArray (Cond.codeWith yL_isOn cL_isOn 4 (some .int) [(0, 16, 19, 21), (0, 16, 22, 13)] :: wsA) D RL (CT cI cJ cZ cMic cSrc cSt cAI cAJ ++ [(cD, .double)]) := ⟨hx, hb, hts, hown, hK⟩
  have hl := lv_entry ([.ref (ad o), .int a0, .ref ao]) (n := 4) (Nat.le_of_ble_eq_true rfl)
  rw [lg_entry_eq]
  generalize (lg_sl ([.ref (ad o), .int a0, .ref ao]) ++ List.replicate (4 - (lg_sl ([.ref (ad o), .int a0, .ref ao])).length) Slot.unset).toArray = ls at hl ⊢
  have hl : lv_has ls 4 [(0, .ref (ad o)), (1, .int a0), (2, .ref ao)] := hl
  refine lv_aload_n hx hb dL_isOn_0 rfl (lv_at hl 2 rfl) ?_
  refine lv_iconst (v := 0) hx hb dL_isOn_1 (by decide) ?_
  refine lv_aload_n hx hb dL_isOn_2 rfl (lv_at hl 0 rfl) ?_
  refine lv_iload_n hx hb dL_isOn_3 rfl (lv_at hl 1 rfl) ?_
  refine t_xvi (As := [.int a0]) (rest := [.int 0, .ref ao]) E G hA hX hX.2.2.2.1 hml (x_X11_isOn l hst D cI cJ cZ cMic cSrc cSt cAI cAJ ad T o a0 h) (cwV 1 hts (gaV qA_969 qA_970 qA_971 qA_131 qA_771) rfl rfl rfl (by decide +kernel) ⟨Nat.le_of_ble_eq_true rfl, Nat.le_of_ble_eq_true rfl⟩) h_o (cc_o11 h_s) rfl rfl hl.1 rfl (lv_room (Nat.le_of_ble_eq_true rfl)) dL_isOn_4 ⟨by show 0 + (1) ≤ T1.1 - T.1 + 1; omega, by show 0 + (6) ≤ sg T1 - sg T + 6; omega⟩ ?_
  intro E9 ce q9 S1 H locs hp G hce hcv hcl
  obtain ⟨hE, hS1⟩ := hp
  rw [hS1] at G
  have had : ∀ n, n < T.1 → ad n = ad n := fun _ _ => rfl
  rcases e1 with _ | _ | e1
  · have hE : E9 = xISE := hE
    subst hE
    refine vx_catch (name := xISE) hown [] { startPc := 0, endPc := 16, handlerPc := 19, catchType := 21 } [{ startPc := 0, endPc := 16, handlerPc := 22, catchType := 13 }] htb (fun z hz => absurd hz List.not_mem_nil) (by decide) (by decide) (hts _ (.tail _ qA_952)) (hX.use (.castable xISE xISE) (by decide +kernel)) hce hcv hcl ?_
    refine lv_astore_n (lv' := [(3, .ref q9), (0, .ref (ad o)), (1, .int a0), (2, .ref ao)]) hx hb dL_isOn_19 rfl hl (by decide) rfl (fun ls hl => ?_)
    refine lv_iconst (v := 1) hx hb dL_isOn_20 (by decide) ?_
    refine W.widen (k := T1.1 - T.1 + 1) (n := sg T1 - sg T + 6) (by omega) (by omega) ?_
    exact W.iret (v := 1) hx hb hr (fun t ht hW => ⟨⟨1, ad, rfl, ⟨rfl, had⟩, ⟨by rw [ht]; exact G.1, va_K.moved hW.alike hK, G.2.1⟩⟩, G.2.2.F ht⟩) G.2.2.2.2 dL_isOn_21
  · have hE : E9 = xIOB := hE
    subst hE
    refine vx_catch (name := xIOB) hown [{ startPc := 0, endPc := 16, handlerPc := 19, catchType := 21 }] { startPc := 0, endPc := 16, handlerPc := 22, catchType := 13 } [] htb (List.forall_mem_cons.mpr ⟨Or.inr ⟨by decide, xISE, hts _ (.tail _ qA_952), hN.2.2.1⟩, fun z hz => absurd hz List.not_mem_nil⟩) (by decide) (by decide) (hts _ (.tail _ qA_946)) (hX.use (.castable xIOB xIOB) (by decide +kernel)) hce hcv hcl ?_
    refine lv_astore_n (lv' := [(3, .ref q9), (0, .ref (ad o)), (1, .int a0), (2, .ref ao)]) hx hb dL_isOn_22 rfl hl (by decide) rfl (fun ls hl => ?_)
    refine lv_iconst (v := 2) hx hb dL_isOn_23 (by decide) ?_
    refine W.widen (k := T1.1 - T.1 + 1) (n := sg T1 - sg T + 6) (by omega) (by omega) ?_
    exact W.iret (v := 2) hx hb hr (fun t ht hW => ⟨⟨2, ad, rfl, ⟨rfl, had⟩, ⟨by rw [ht]; exact G.1, va_K.moved hW.alike hK, G.2.1⟩⟩, G.2.2.F ht⟩) G.2.2.2.2 dL_isOn_24
  · have q := (cd_g_X11_isOn (S := [0, 1, 2]) (fun _ h => h) T o a0 _ _ _ h)
    simp only [List.mem_cons, List.not_mem_nil, or_false] at q
    omega
theorem v_isOn (l : Launch) (hst : l.stackTraces = false) (D : va_G) {cI cJ cZ cMic cSrc cSt cAI cAJ cD : ClassId} (h0 : Nat) (ad : Nat → Nat) (T : AT) (o : Nat) (a0 : Int32) (ao : Nat) (f : Nat → Int64) {k1 : Nat} {r1 : Int32} {T1 : AT} (h : g_X11_isOn T o a0 = some (k1, r1, T1)) (hrc : RC T) (h_o : o < T.1) (h_s : T.2.1 o = (11, 0)) : tWi l yL_isOn (Cond.codeWith yL_isOn cL_isOn 4 (some .int) [(0, 16, 19, 21), (0, 16, 22, 13)] :: wsA) 9 144 cI cJ cZ cMic cSrc cSt cAI cAJ cD D h0 ad T (oJ ao cJ f) [.ref (ad o), .int a0, .ref ao] (vck 1 2 0 k1) T1 (oJ ao cJ (vfJ k1 f (vzb r1))) := by
  cases k1 with
  | zero => exact v_isOn_n l hst D h0 ad T o a0 ao f h hrc h_o h_s
  | succ e1 => exact v_isOn_t l hst D h0 ad T o a0 ao f h hrc h_o h_s
set_option maxHeartbeats 4000000 in
set_option maxRecDepth 100000 in
theorem v_waveAt_n (l : Launch) (hst : l.stackTraces = false) (D : va_G) {cI cJ cZ cMic cSrc cSt cAI cAJ cD : ClassId} (h0 : Nat) (ad : Nat → Nat) (T : AT) (o : Nat) (a0 a1 : Int32) (ao : Nat) (f : Nat → Int64) {r1 : Int32} {T1 : AT} (h : g_X11_waveAt T o a0 a1 = some (0, r1, T1)) (hrc : RC T) (h_o : o < T.1) (h_s : T.2.1 o = (11, 0)) : tWi l yL_waveAt (Cond.codeWith yL_waveAt cL_waveAt 5 (some .int) [(0, 10, 13, 21), (0, 10, 17, 13), (0, 10, 21, 15)] :: wsA) 9 145 cI cJ cZ cMic cSrc cSt cAI cAJ cD D h0 ad T (oJ ao cJ f) [.ref (ad o), .int a0, .int a1, .ref ao] (vck 1 2 3 (0)) T1 (oJ ao cJ (vfJ (0) f r1.toInt64)) := by
  intro sz
  refine va_MetW (cc := cL_waveAt) (maxL := 5) (ret := some .int) (by decide) rfl ?_
  intro p e s m args below meth c s₁ B hml hv
  obtain ⟨rfl, hsz, hP, hK, hD0, hX, hN, hA0, hTS⟩ := hv
  have hx := B.exec
  have hb := B.bytes
  have hr := B.returns
  have hts := atoms_spec (ws := (Cond.codeWith yL_waveAt cL_waveAt 5 (some .int) [(0, 10, 13, 21), (0, 10, 17, 13), (0, 10, 21, 15)] :: wsA)) B.pre
  have hown : s.vm.findClass RL = some m.cls := findClass_of_methodNamed B.named
  have hlocks := B.notSynchronized
  have htb := vx_table (x := yL_waveAt) B (hts _ (.head _))
  subst hsz
  have hD := hD0.self (sz := s.heap.size)
  generalize hAe : va_A (cW ad T.1 (cc cI cJ cZ cMic cSrc cSt cAI cAJ ad T) ++ [oJ ao cJ f]) s.heap.size = A at hD hX hA0 ⊢
  have hA : ∀ q : Nat, s.heap.size ≤ q → A q := fun q h => by rw [← hAe]; exact Or.inr h
  have G : gL cI cJ cZ cMic cSrc cSt cAI cAJ D ad A s.heap s.heap [] T [oJ ao cJ f] := ⟨hP, hD, va_S.rf⟩
  have E : cE p c cL_waveAt s m ([.ref (ad o), .int a0, .int a1, .ref ao] : List Value).toArray (Cond.codeWith yL_waveAt cL_waveAt 5 (some .int) [(0, 10, 13, 21), (0, 10, 17, 13), (0, 10, 21, 15)] :: wsA) D RL (CT cI cJ cZ cMic cSrc cSt cAI cAJ ++ [(cD, .double)]) := ⟨hx, hb, hts, hown, hK⟩
  have hl := lv_entry ([.ref (ad o), .int a0, .int a1, .ref ao]) (n := 5) (Nat.le_of_ble_eq_true rfl)
  rw [lg_entry_eq]
  generalize (lg_sl ([.ref (ad o), .int a0, .int a1, .ref ao]) ++ List.replicate (5 - (lg_sl ([.ref (ad o), .int a0, .int a1, .ref ao])).length) Slot.unset).toArray = ls at hl ⊢
  have hl : lv_has ls 5 [(0, .ref (ad o)), (1, .int a0), (2, .int a1), (3, .ref ao)] := hl
  refine lv_aload_n hx hb dL_waveAt_0 rfl (lv_at hl 3 rfl) ?_
  refine lv_iconst (v := 0) hx hb dL_waveAt_1 (by decide) ?_
  refine lv_aload_n hx hb dL_waveAt_2 rfl (lv_at hl 0 rfl) ?_
  refine lv_iload_n hx hb dL_waveAt_3 rfl (lv_at hl 1 rfl) ?_
  refine lv_iload_n hx hb dL_waveAt_4 rfl (lv_at hl 2 rfl) ?_
  refine t_cvi (As := [.int a0, .int a1]) (rest := [.int 0, .ref ao]) E G hA hX hX.2.2.2.1 hml (u_X11_waveAt l hst D cI cJ cZ cMic cSrc cSt cAI cAJ ad T o a0 a1 h) (cwV 2 hts (gaV qA_973 qA_974 qA_975 qA_131 qA_773) rfl rfl rfl (by decide +kernel) ⟨Nat.le_of_ble_eq_true rfl, Nat.le_of_ble_eq_true rfl⟩) h_o (cc_o11 h_s) rfl rfl hl.1 rfl (lv_room (Nat.le_of_ble_eq_true rfl)) dL_waveAt_5 ⟨by show 0 + (0) ≤ T1.1 - T.1 + 1; omega, by show 0 + (0) ≤ sg T1 - sg T + 6; omega⟩ ?_
  intro r9 S1 H locs hp G
  obtain ⟨hr9, hS1⟩ := hp
  rw [hS1] at G
  rw [hr9]
  have had : ∀ n, n < T.1 → ad n = ad n := fun _ _ => rfl
  refine lv_i2l (v := r1.toInt64) hx hb dL_waveAt_8 rfl ?_
  refine t_last E G dL_waveAt_9 (fun H locs G => ?_)
  refine lv_goto (tgt := 25) hx hb dL_waveAt_10 (by decide) ?_
  refine lv_iconst (v := 0) hx hb dL_waveAt_25 (by decide) ?_
  refine W.widen (k := T1.1 - T.1 + 1) (n := sg T1 - sg T + 6) (by omega) (by omega) ?_
  exact W.iret (v := 0) hx hb hr (fun t ht hW => ⟨⟨0, ad, rfl, ⟨rfl, had⟩, ⟨by rw [ht]; exact G.1, va_K.moved hW.alike hK, G.2.1⟩⟩, G.2.2.F ht⟩) G.2.2.2.2 dL_waveAt_26
set_option maxHeartbeats 4000000 in
set_option maxRecDepth 100000 in
theorem v_waveAt_t (l : Launch) (hst : l.stackTraces = false) (D : va_G) {cI cJ cZ cMic cSrc cSt cAI cAJ cD : ClassId} (h0 : Nat) (ad : Nat → Nat) (T : AT) (o : Nat) (a0 a1 : Int32) (ao : Nat) (f : Nat → Int64) {e1 : Nat} {r1 : Int32} {T1 : AT} (h : g_X11_waveAt T o a0 a1 = some (e1 + 1, r1, T1)) (hrc : RC T) (h_o : o < T.1) (h_s : T.2.1 o = (11, 0)) : tWi l yL_waveAt (Cond.codeWith yL_waveAt cL_waveAt 5 (some .int) [(0, 10, 13, 21), (0, 10, 17, 13), (0, 10, 21, 15)] :: wsA) 9 145 cI cJ cZ cMic cSrc cSt cAI cAJ cD D h0 ad T (oJ ao cJ f) [.ref (ad o), .int a0, .int a1, .ref ao] (vck 1 2 3 (e1 + 1)) T1 (oJ ao cJ (vfJ (e1 + 1) f r1.toInt64)) := by
  intro sz
  refine va_MetW (cc := cL_waveAt) (maxL := 5) (ret := some .int) (by decide) rfl ?_
  intro p e s m args below meth c s₁ B hml hv
  obtain ⟨rfl, hsz, hP, hK, hD0, hX, hN, hA0, hTS⟩ := hv
  have hx := B.exec
  have hb := B.bytes
  have hr := B.returns
  have hts := atoms_spec (ws := (Cond.codeWith yL_waveAt cL_waveAt 5 (some .int) [(0, 10, 13, 21), (0, 10, 17, 13), (0, 10, 21, 15)] :: wsA)) B.pre
  have hown : s.vm.findClass RL = some m.cls := findClass_of_methodNamed B.named
  have hlocks := B.notSynchronized
  have htb := vx_table (x := yL_waveAt) B (hts _ (.head _))
  subst hsz
  have hD := hD0.self (sz := s.heap.size)
  generalize hAe : va_A (cW ad T.1 (cc cI cJ cZ cMic cSrc cSt cAI cAJ ad T) ++ [oJ ao cJ f]) s.heap.size = A at hD hX hA0 ⊢
  have hA : ∀ q : Nat, s.heap.size ≤ q → A q := fun q h => by rw [← hAe]; exact Or.inr h
  have G : gL cI cJ cZ cMic cSrc cSt cAI cAJ D ad A s.heap s.heap [] T [oJ ao cJ f] := ⟨hP, hD, va_S.rf⟩
  have E : cE p c cL_waveAt s m ([.ref (ad o), .int a0, .int a1, .ref ao] : List Value).toArray (Cond.codeWith yL_waveAt cL_waveAt 5 (some .int) [(0, 10, 13, 21), (0, 10, 17, 13), (0, 10, 21, 15)] :: wsA) D RL (CT cI cJ cZ cMic cSrc cSt cAI cAJ ++ [(cD, .double)]) := ⟨hx, hb, hts, hown, hK⟩
  have hl := lv_entry ([.ref (ad o), .int a0, .int a1, .ref ao]) (n := 5) (Nat.le_of_ble_eq_true rfl)
  rw [lg_entry_eq]
  generalize (lg_sl ([.ref (ad o), .int a0, .int a1, .ref ao]) ++ List.replicate (5 - (lg_sl ([.ref (ad o), .int a0, .int a1, .ref ao])).length) Slot.unset).toArray = ls at hl ⊢
  have hl : lv_has ls 5 [(0, .ref (ad o)), (1, .int a0), (2, .int a1), (3, .ref ao)] := hl
  refine lv_aload_n hx hb dL_waveAt_0 rfl (lv_at hl 3 rfl) ?_
  refine lv_iconst (v := 0) hx hb dL_waveAt_1 (by decide) ?_
  refine lv_aload_n hx hb dL_waveAt_2 rfl (lv_at hl 0 rfl) ?_
  refine lv_iload_n hx hb dL_waveAt_3 rfl (lv_at hl 1 rfl) ?_
  refine lv_iload_n hx hb dL_waveAt_4 rfl (lv_at hl 2 rfl) ?_
  refine t_xvi (As := [.int a0, .int a1]) (rest := [.int 0, .ref ao]) E G hA hX hX.2.2.2.1 hml (x_X11_waveAt l hst D cI cJ cZ cMic cSrc cSt cAI cAJ ad T o a0 a1 h) (cwV 2 hts (gaV qA_973 qA_974 qA_975 qA_131 qA_773) rfl rfl rfl (by decide +kernel) ⟨Nat.le_of_ble_eq_true rfl, Nat.le_of_ble_eq_true rfl⟩) h_o (cc_o11 h_s) rfl rfl hl.1 rfl (lv_room (Nat.le_of_ble_eq_true rfl)) dL_waveAt_5 ⟨by show 0 + (1) ≤ T1.1 - T.1 + 1; omega, by show 0 + (6) ≤ sg T1 - sg T + 6; omega⟩ ?_
  intro E9 ce q9 S1 H locs hp G hce hcv hcl
  obtain ⟨hE, hS1⟩ := hp
  rw [hS1] at G
  have had : ∀ n, n < T.1 → ad n = ad n := fun _ _ => rfl
  rcases e1 with _ | _ | e1
  · have hE : E9 = xISE := hE
    subst hE
    refine vx_catch (name := xISE) hown [] { startPc := 0, endPc := 10, handlerPc := 13, catchType := 21 } [{ startPc := 0, endPc := 10, handlerPc := 17, catchType := 13 }, { startPc := 0, endPc := 10, handlerPc := 21, catchType := 15 }] htb (fun z hz => absurd hz List.not_mem_nil) (by decide) (by decide) (hts _ (.tail _ qA_952)) (hX.use (.castable xISE xISE) (by decide +kernel)) hce hcv hcl ?_
    refine lv_astore (lv' := [(4, .ref q9), (0, .ref (ad o)), (1, .int a0), (2, .int a1), (3, .ref ao)]) hx hb dL_waveAt_13 hl (by decide) rfl (fun ls hl => ?_)
    refine lv_iconst (v := 1) hx hb dL_waveAt_15 (by decide) ?_
    refine W.widen (k := T1.1 - T.1 + 1) (n := sg T1 - sg T + 6) (by omega) (by omega) ?_
    exact W.iret (v := 1) hx hb hr (fun t ht hW => ⟨⟨1, ad, rfl, ⟨rfl, had⟩, ⟨by rw [ht]; exact G.1, va_K.moved hW.alike hK, G.2.1⟩⟩, G.2.2.F ht⟩) G.2.2.2.2 dL_waveAt_16
  · have hE : E9 = xIOB := hE
    subst hE
    refine vx_catch (name := xIOB) hown [{ startPc := 0, endPc := 10, handlerPc := 13, catchType := 21 }] { startPc := 0, endPc := 10, handlerPc := 17, catchType := 13 } [{ startPc := 0, endPc := 10, handlerPc := 21, catchType := 15 }] htb (List.forall_mem_cons.mpr ⟨Or.inr ⟨by decide, xISE, hts _ (.tail _ qA_952), hN.2.2.1⟩, fun z hz => absurd hz List.not_mem_nil⟩) (by decide) (by decide) (hts _ (.tail _ qA_946)) (hX.use (.castable xIOB xIOB) (by decide +kernel)) hce hcv hcl ?_
    refine lv_astore (lv' := [(4, .ref q9), (0, .ref (ad o)), (1, .int a0), (2, .int a1), (3, .ref ao)]) hx hb dL_waveAt_17 hl (by decide) rfl (fun ls hl => ?_)
    refine lv_iconst (v := 2) hx hb dL_waveAt_19 (by decide) ?_
    refine W.widen (k := T1.1 - T.1 + 1) (n := sg T1 - sg T + 6) (by omega) (by omega) ?_
    exact W.iret (v := 2) hx hb hr (fun t ht hW => ⟨⟨2, ad, rfl, ⟨rfl, had⟩, ⟨by rw [ht]; exact G.1, va_K.moved hW.alike hK, G.2.1⟩⟩, G.2.2.F ht⟩) G.2.2.2.2 dL_waveAt_20
  · have hE : E9 = xIAE := hE
    subst hE
    refine vx_catch (name := xIAE) hown [{ startPc := 0, endPc := 10, handlerPc := 13, catchType := 21 }, { startPc := 0, endPc := 10, handlerPc := 17, catchType := 13 }] { startPc := 0, endPc := 10, handlerPc := 21, catchType := 15 } [] htb (List.forall_mem_cons.mpr ⟨Or.inr ⟨by decide, xISE, hts _ (.tail _ qA_952), hN.2.2.2⟩, List.forall_mem_cons.mpr ⟨Or.inr ⟨by decide, xIOB, hts _ (.tail _ qA_946), hN.1⟩, fun z hz => absurd hz List.not_mem_nil⟩⟩) (by decide) (by decide) (hts _ (.tail _ qA_947)) (hX.use (.castable xIAE xIAE) (by decide +kernel)) hce hcv hcl ?_
    refine lv_astore (lv' := [(4, .ref q9), (0, .ref (ad o)), (1, .int a0), (2, .int a1), (3, .ref ao)]) hx hb dL_waveAt_21 hl (by decide) rfl (fun ls hl => ?_)
    refine lv_iconst (v := 3) hx hb dL_waveAt_23 (by decide) ?_
    refine W.widen (k := T1.1 - T.1 + 1) (n := sg T1 - sg T + 6) (by omega) (by omega) ?_
    exact W.iret (v := 3) hx hb hr (fun t ht hW => ⟨⟨3, ad, rfl, ⟨rfl, had⟩, ⟨by rw [ht]; exact G.1, va_K.moved hW.alike hK, G.2.1⟩⟩, G.2.2.F ht⟩) G.2.2.2.2 dL_waveAt_24
theorem v_waveAt (l : Launch) (hst : l.stackTraces = false) (D : va_G) {cI cJ cZ cMic cSrc cSt cAI cAJ cD : ClassId} (h0 : Nat) (ad : Nat → Nat) (T : AT) (o : Nat) (a0 a1 : Int32) (ao : Nat) (f : Nat → Int64) {k1 : Nat} {r1 : Int32} {T1 : AT} (h : g_X11_waveAt T o a0 a1 = some (k1, r1, T1)) (hrc : RC T) (h_o : o < T.1) (h_s : T.2.1 o = (11, 0)) : tWi l yL_waveAt (Cond.codeWith yL_waveAt cL_waveAt 5 (some .int) [(0, 10, 13, 21), (0, 10, 17, 13), (0, 10, 21, 15)] :: wsA) 9 145 cI cJ cZ cMic cSrc cSt cAI cAJ cD D h0 ad T (oJ ao cJ f) [.ref (ad o), .int a0, .int a1, .ref ao] (vck 1 2 3 k1) T1 (oJ ao cJ (vfJ k1 f r1.toInt64)) := by
  cases k1 with
  | zero => exact v_waveAt_n l hst D h0 ad T o a0 a1 ao f h hrc h_o h_s
  | succ e1 => exact v_waveAt_t l hst D h0 ad T o a0 a1 ao f h hrc h_o h_s
set_option maxHeartbeats 4000000 in
set_option maxRecDepth 100000 in
theorem v_delay_n (l : Launch) (hst : l.stackTraces = false) (D : va_G) {cI cJ cZ cMic cSrc cSt cAI cAJ cD : ClassId} (h0 : Nat) (ad : Nat → Nat) (T : AT) (o : Nat) (a0 a1 : Int32) (ao : Nat) (f : Nat → Int64) {r1 : Int32} {T1 : AT} (h : g_X11_delay T o a0 a1 = some (0, r1, T1)) (hrc : RC T) (h_o : o < T.1) (h_s : T.2.1 o = (11, 0)) : tWi l yL_delay (Cond.codeWith yL_delay cL_delay 5 (some .int) [(0, 10, 13, 21), (0, 10, 17, 13)] :: wsA) 9 145 cI cJ cZ cMic cSrc cSt cAI cAJ cD D h0 ad T (oJ ao cJ f) [.ref (ad o), .int a0, .int a1, .ref ao] (vck 1 2 0 (0)) T1 (oJ ao cJ (vfJ (0) f r1.toInt64)) := by
  intro sz
  refine va_MetW (cc := cL_delay) (maxL := 5) (ret := some .int) (by decide) rfl ?_
  intro p e s m args below meth c s₁ B hml hv
  obtain ⟨rfl, hsz, hP, hK, hD0, hX, hN, hA0, hTS⟩ := hv
  have hx := B.exec
  have hb := B.bytes
  have hr := B.returns
  have hts := atoms_spec (ws := (Cond.codeWith yL_delay cL_delay 5 (some .int) [(0, 10, 13, 21), (0, 10, 17, 13)] :: wsA)) B.pre
  have hown : s.vm.findClass RL = some m.cls := findClass_of_methodNamed B.named
  have hlocks := B.notSynchronized
  have htb := vx_table (x := yL_delay) B (hts _ (.head _))
  subst hsz
  have hD := hD0.self (sz := s.heap.size)
  generalize hAe : va_A (cW ad T.1 (cc cI cJ cZ cMic cSrc cSt cAI cAJ ad T) ++ [oJ ao cJ f]) s.heap.size = A at hD hX hA0 ⊢
  have hA : ∀ q : Nat, s.heap.size ≤ q → A q := fun q h => by rw [← hAe]; exact Or.inr h
  have G : gL cI cJ cZ cMic cSrc cSt cAI cAJ D ad A s.heap s.heap [] T [oJ ao cJ f] := ⟨hP, hD, va_S.rf⟩
  have E : cE p c cL_delay s m ([.ref (ad o), .int a0, .int a1, .ref ao] : List Value).toArray (Cond.codeWith yL_delay cL_delay 5 (some .int) [(0, 10, 13, 21), (0, 10, 17, 13)] :: wsA) D RL (CT cI cJ cZ cMic cSrc cSt cAI cAJ ++ [(cD, .double)]) := ⟨hx, hb, hts, hown, hK⟩
  have hl := lv_entry ([.ref (ad o), .int a0, .int a1, .ref ao]) (n := 5) (Nat.le_of_ble_eq_true rfl)
  rw [lg_entry_eq]
  generalize (lg_sl ([.ref (ad o), .int a0, .int a1, .ref ao]) ++ List.replicate (5 - (lg_sl ([.ref (ad o), .int a0, .int a1, .ref ao])).length) Slot.unset).toArray = ls at hl ⊢
  have hl : lv_has ls 5 [(0, .ref (ad o)), (1, .int a0), (2, .int a1), (3, .ref ao)] := hl
  refine lv_aload_n hx hb dL_delay_0 rfl (lv_at hl 3 rfl) ?_
  refine lv_iconst (v := 0) hx hb dL_delay_1 (by decide) ?_
  refine lv_aload_n hx hb dL_delay_2 rfl (lv_at hl 0 rfl) ?_
  refine lv_iload_n hx hb dL_delay_3 rfl (lv_at hl 1 rfl) ?_
  refine lv_iload_n hx hb dL_delay_4 rfl (lv_at hl 2 rfl) ?_
  refine t_cvi (As := [.int a0, .int a1]) (rest := [.int 0, .ref ao]) E G hA hX hX.2.2.2.1 hml (u_X11_delay l hst D cI cJ cZ cMic cSrc cSt cAI cAJ ad T o a0 a1 h) (cwV 2 hts (gaV qA_977 qA_978 qA_979 qA_131 qA_777) rfl rfl rfl (by decide +kernel) ⟨Nat.le_of_ble_eq_true rfl, Nat.le_of_ble_eq_true rfl⟩) h_o (cc_o11 h_s) rfl rfl hl.1 rfl (lv_room (Nat.le_of_ble_eq_true rfl)) dL_delay_5 ⟨by show 0 + (0) ≤ T1.1 - T.1 + 1; omega, by show 0 + (0) ≤ sg T1 - sg T + 6; omega⟩ ?_
  intro r9 S1 H locs hp G
  obtain ⟨hr9, hS1⟩ := hp
  rw [hS1] at G
  rw [hr9]
  have had : ∀ n, n < T.1 → ad n = ad n := fun _ _ => rfl
  refine lv_i2l (v := r1.toInt64) hx hb dL_delay_8 rfl ?_
  refine t_last E G dL_delay_9 (fun H locs G => ?_)
  refine lv_goto (tgt := 21) hx hb dL_delay_10 (by decide) ?_
  refine lv_iconst (v := 0) hx hb dL_delay_21 (by decide) ?_
  refine W.widen (k := T1.1 - T.1 + 1) (n := sg T1 - sg T + 6) (by omega) (by omega) ?_
  exact W.iret (v := 0) hx hb hr (fun t ht hW => ⟨⟨0, ad, rfl, ⟨rfl, had⟩, ⟨by rw [ht]; exact G.1, va_K.moved hW.alike hK, G.2.1⟩⟩, G.2.2.F ht⟩) G.2.2.2.2 dL_delay_22
set_option maxHeartbeats 4000000 in
set_option maxRecDepth 100000 in
theorem v_delay_t (l : Launch) (hst : l.stackTraces = false) (D : va_G) {cI cJ cZ cMic cSrc cSt cAI cAJ cD : ClassId} (h0 : Nat) (ad : Nat → Nat) (T : AT) (o : Nat) (a0 a1 : Int32) (ao : Nat) (f : Nat → Int64) {e1 : Nat} {r1 : Int32} {T1 : AT} (h : g_X11_delay T o a0 a1 = some (e1 + 1, r1, T1)) (hrc : RC T) (h_o : o < T.1) (h_s : T.2.1 o = (11, 0)) : tWi l yL_delay (Cond.codeWith yL_delay cL_delay 5 (some .int) [(0, 10, 13, 21), (0, 10, 17, 13)] :: wsA) 9 145 cI cJ cZ cMic cSrc cSt cAI cAJ cD D h0 ad T (oJ ao cJ f) [.ref (ad o), .int a0, .int a1, .ref ao] (vck 1 2 0 (e1 + 1)) T1 (oJ ao cJ (vfJ (e1 + 1) f r1.toInt64)) := by
  intro sz
  refine va_MetW (cc := cL_delay) (maxL := 5) (ret := some .int) (by decide) rfl ?_
  intro p e s m args below meth c s₁ B hml hv
  obtain ⟨rfl, hsz, hP, hK, hD0, hX, hN, hA0, hTS⟩ := hv
  have hx := B.exec
  have hb := B.bytes
  have hr := B.returns
  have hts := atoms_spec (ws := (Cond.codeWith yL_delay cL_delay 5 (some .int) [(0, 10, 13, 21), (0, 10, 17, 13)] :: wsA)) B.pre
  have hown : s.vm.findClass RL = some m.cls := findClass_of_methodNamed B.named
  have hlocks := B.notSynchronized
  have htb := vx_table (x := yL_delay) B (hts _ (.head _))
  subst hsz
  have hD := hD0.self (sz := s.heap.size)
  generalize hAe : va_A (cW ad T.1 (cc cI cJ cZ cMic cSrc cSt cAI cAJ ad T) ++ [oJ ao cJ f]) s.heap.size = A at hD hX hA0 ⊢
  have hA : ∀ q : Nat, s.heap.size ≤ q → A q := fun q h => by rw [← hAe]; exact Or.inr h
  have G : gL cI cJ cZ cMic cSrc cSt cAI cAJ D ad A s.heap s.heap [] T [oJ ao cJ f] := ⟨hP, hD, va_S.rf⟩
  have E : cE p c cL_delay s m ([.ref (ad o), .int a0, .int a1, .ref ao] : List Value).toArray (Cond.codeWith yL_delay cL_delay 5 (some .int) [(0, 10, 13, 21), (0, 10, 17, 13)] :: wsA) D RL (CT cI cJ cZ cMic cSrc cSt cAI cAJ ++ [(cD, .double)]) := ⟨hx, hb, hts, hown, hK⟩
  have hl := lv_entry ([.ref (ad o), .int a0, .int a1, .ref ao]) (n := 5) (Nat.le_of_ble_eq_true rfl)
  rw [lg_entry_eq]
  generalize (lg_sl ([.ref (ad o), .int a0, .int a1, .ref ao]) ++ List.replicate (5 - (lg_sl ([.ref (ad o), .int a0, .int a1, .ref ao])).length) Slot.unset).toArray = ls at hl ⊢
  have hl : lv_has ls 5 [(0, .ref (ad o)), (1, .int a0), (2, .int a1), (3, .ref ao)] := hl
  refine lv_aload_n hx hb dL_delay_0 rfl (lv_at hl 3 rfl) ?_
  refine lv_iconst (v := 0) hx hb dL_delay_1 (by decide) ?_
  refine lv_aload_n hx hb dL_delay_2 rfl (lv_at hl 0 rfl) ?_
  refine lv_iload_n hx hb dL_delay_3 rfl (lv_at hl 1 rfl) ?_
  refine lv_iload_n hx hb dL_delay_4 rfl (lv_at hl 2 rfl) ?_
  refine t_xvi (As := [.int a0, .int a1]) (rest := [.int 0, .ref ao]) E G hA hX hX.2.2.2.1 hml (x_X11_delay l hst D cI cJ cZ cMic cSrc cSt cAI cAJ ad T o a0 a1 h) (cwV 2 hts (gaV qA_977 qA_978 qA_979 qA_131 qA_777) rfl rfl rfl (by decide +kernel) ⟨Nat.le_of_ble_eq_true rfl, Nat.le_of_ble_eq_true rfl⟩) h_o (cc_o11 h_s) rfl rfl hl.1 rfl (lv_room (Nat.le_of_ble_eq_true rfl)) dL_delay_5 ⟨by show 0 + (1) ≤ T1.1 - T.1 + 1; omega, by show 0 + (6) ≤ sg T1 - sg T + 6; omega⟩ ?_
  intro E9 ce q9 S1 H locs hp G hce hcv hcl
  obtain ⟨hE, hS1⟩ := hp
  rw [hS1] at G
  have had : ∀ n, n < T.1 → ad n = ad n := fun _ _ => rfl
  rcases e1 with _ | _ | e1
  · have hE : E9 = xISE := hE
    subst hE
    refine vx_catch (name := xISE) hown [] { startPc := 0, endPc := 10, handlerPc := 13, catchType := 21 } [{ startPc := 0, endPc := 10, handlerPc := 17, catchType := 13 }] htb (fun z hz => absurd hz List.not_mem_nil) (by decide) (by decide) (hts _ (.tail _ qA_952)) (hX.use (.castable xISE xISE) (by decide +kernel)) hce hcv hcl ?_
    refine lv_astore (lv' := [(4, .ref q9), (0, .ref (ad o)), (1, .int a0), (2, .int a1), (3, .ref ao)]) hx hb dL_delay_13 hl (by decide) rfl (fun ls hl => ?_)
    refine lv_iconst (v := 1) hx hb dL_delay_15 (by decide) ?_
    refine W.widen (k := T1.1 - T.1 + 1) (n := sg T1 - sg T + 6) (by omega) (by omega) ?_
    exact W.iret (v := 1) hx hb hr (fun t ht hW => ⟨⟨1, ad, rfl, ⟨rfl, had⟩, ⟨by rw [ht]; exact G.1, va_K.moved hW.alike hK, G.2.1⟩⟩, G.2.2.F ht⟩) G.2.2.2.2 dL_delay_16
  · have hE : E9 = xIOB := hE
    subst hE
    refine vx_catch (name := xIOB) hown [{ startPc := 0, endPc := 10, handlerPc := 13, catchType := 21 }] { startPc := 0, endPc := 10, handlerPc := 17, catchType := 13 } [] htb (List.forall_mem_cons.mpr ⟨Or.inr ⟨by decide, xISE, hts _ (.tail _ qA_952), hN.2.2.1⟩, fun z hz => absurd hz List.not_mem_nil⟩) (by decide) (by decide) (hts _ (.tail _ qA_946)) (hX.use (.castable xIOB xIOB) (by decide +kernel)) hce hcv hcl ?_
    refine lv_astore (lv' := [(4, .ref q9), (0, .ref (ad o)), (1, .int a0), (2, .int a1), (3, .ref ao)]) hx hb dL_delay_17 hl (by decide) rfl (fun ls hl => ?_)
    refine lv_iconst (v := 2) hx hb dL_delay_19 (by decide) ?_
    refine W.widen (k := T1.1 - T.1 + 1) (n := sg T1 - sg T + 6) (by omega) (by omega) ?_
    exact W.iret (v := 2) hx hb hr (fun t ht hW => ⟨⟨2, ad, rfl, ⟨rfl, had⟩, ⟨by rw [ht]; exact G.1, va_K.moved hW.alike hK, G.2.1⟩⟩, G.2.2.F ht⟩) G.2.2.2.2 dL_delay_20
  · have q := (cd_g_X11_delay (S := [0, 1, 2]) (fun _ h => h) T o a0 a1 _ _ _ h)
    simp only [List.mem_cons, List.not_mem_nil, or_false] at q
    omega
theorem v_delay (l : Launch) (hst : l.stackTraces = false) (D : va_G) {cI cJ cZ cMic cSrc cSt cAI cAJ cD : ClassId} (h0 : Nat) (ad : Nat → Nat) (T : AT) (o : Nat) (a0 a1 : Int32) (ao : Nat) (f : Nat → Int64) {k1 : Nat} {r1 : Int32} {T1 : AT} (h : g_X11_delay T o a0 a1 = some (k1, r1, T1)) (hrc : RC T) (h_o : o < T.1) (h_s : T.2.1 o = (11, 0)) : tWi l yL_delay (Cond.codeWith yL_delay cL_delay 5 (some .int) [(0, 10, 13, 21), (0, 10, 17, 13)] :: wsA) 9 145 cI cJ cZ cMic cSrc cSt cAI cAJ cD D h0 ad T (oJ ao cJ f) [.ref (ad o), .int a0, .int a1, .ref ao] (vck 1 2 0 k1) T1 (oJ ao cJ (vfJ k1 f r1.toInt64)) := by
  cases k1 with
  | zero => exact v_delay_n l hst D h0 ad T o a0 a1 ao f h hrc h_o h_s
  | succ e1 => exact v_delay_t l hst D h0 ad T o a0 a1 ao f h hrc h_o h_s
set_option maxHeartbeats 4000000 in
set_option maxRecDepth 100000 in
theorem v_delayTo_n (l : Launch) (hst : l.stackTraces = false) (D : va_G) {cI cJ cZ cMic cSrc cSt cAI cAJ cD : ClassId} (h0 : Nat) (ad : Nat → Nat) (T : AT) (o : Nat) (a0 a1 a2 : Int32) (ao : Nat) (f : Nat → Int64) {r1 : Int32} {T1 : AT} (h : g_X11_delayTo T o a0 a1 a2 = some (0, r1, T1)) (hrc : RC T) (h_o : o < T.1) (h_s : T.2.1 o = (11, 0)) : tWi l yL_delayTo (Cond.codeWith yL_delayTo cL_delayTo 6 (some .int) [(0, 12, 15, 21), (0, 12, 19, 13), (0, 12, 23, 15)] :: wsA) 9 146 cI cJ cZ cMic cSrc cSt cAI cAJ cD D h0 ad T (oJ ao cJ f) [.ref (ad o), .int a0, .int a1, .int a2, .ref ao] (vck 1 2 3 (0)) T1 (oJ ao cJ (vfJ (0) f r1.toInt64)) := by
  intro sz
  refine va_MetW (cc := cL_delayTo) (maxL := 6) (ret := some .int) (by decide) rfl ?_
  intro p e s m args below meth c s₁ B hml hv
  obtain ⟨rfl, hsz, hP, hK, hD0, hX, hN, hA0, hTS⟩ := hv
  have hx := B.exec
  have hb := B.bytes
  have hr := B.returns
  have hts := atoms_spec (ws := (Cond.codeWith yL_delayTo cL_delayTo 6 (some .int) [(0, 12, 15, 21), (0, 12, 19, 13), (0, 12, 23, 15)] :: wsA)) B.pre
  have hown : s.vm.findClass RL = some m.cls := findClass_of_methodNamed B.named
  have hlocks := B.notSynchronized
  have htb := vx_table (x := yL_delayTo) B (hts _ (.head _))
  subst hsz
  have hD := hD0.self (sz := s.heap.size)
  generalize hAe : va_A (cW ad T.1 (cc cI cJ cZ cMic cSrc cSt cAI cAJ ad T) ++ [oJ ao cJ f]) s.heap.size = A at hD hX hA0 ⊢
  have hA : ∀ q : Nat, s.heap.size ≤ q → A q := fun q h => by rw [← hAe]; exact Or.inr h
  have G : gL cI cJ cZ cMic cSrc cSt cAI cAJ D ad A s.heap s.heap [] T [oJ ao cJ f] := ⟨hP, hD, va_S.rf⟩
  have E : cE p c cL_delayTo s m ([.ref (ad o), .int a0, .int a1, .int a2, .ref ao] : List Value).toArray (Cond.codeWith yL_delayTo cL_delayTo 6 (some .int) [(0, 12, 15, 21), (0, 12, 19, 13), (0, 12, 23, 15)] :: wsA) D RL (CT cI cJ cZ cMic cSrc cSt cAI cAJ ++ [(cD, .double)]) := ⟨hx, hb, hts, hown, hK⟩
  have hl := lv_entry ([.ref (ad o), .int a0, .int a1, .int a2, .ref ao]) (n := 6) (Nat.le_of_ble_eq_true rfl)
  rw [lg_entry_eq]
  generalize (lg_sl ([.ref (ad o), .int a0, .int a1, .int a2, .ref ao]) ++ List.replicate (6 - (lg_sl ([.ref (ad o), .int a0, .int a1, .int a2, .ref ao])).length) Slot.unset).toArray = ls at hl ⊢
  have hl : lv_has ls 6 [(0, .ref (ad o)), (1, .int a0), (2, .int a1), (3, .int a2), (4, .ref ao)] := hl
  refine lv_aload hx hb dL_delayTo_0 (lv_at hl 4 rfl) ?_
  refine lv_iconst (v := 0) hx hb dL_delayTo_2 (by decide) ?_
  refine lv_aload_n hx hb dL_delayTo_3 rfl (lv_at hl 0 rfl) ?_
  refine lv_iload_n hx hb dL_delayTo_4 rfl (lv_at hl 1 rfl) ?_
  refine lv_iload_n hx hb dL_delayTo_5 rfl (lv_at hl 2 rfl) ?_
  refine lv_iload_n hx hb dL_delayTo_6 rfl (lv_at hl 3 rfl) ?_
  refine t_cvi (As := [.int a0, .int a1, .int a2]) (rest := [.int 0, .ref ao]) E G hA hX hX.2.2.2.1 hml (u_X11_delayTo l hst D cI cJ cZ cMic cSrc cSt cAI cAJ ad T o a0 a1 a2 h) (cwV 3 hts (gaV qA_981 qA_982 qA_983 qA_131 qA_779) rfl rfl rfl (by decide +kernel) ⟨Nat.le_of_ble_eq_true rfl, Nat.le_of_ble_eq_true rfl⟩) h_o (cc_o11 h_s) rfl rfl hl.1 rfl (lv_room (Nat.le_of_ble_eq_true rfl)) dL_delayTo_7 ⟨by show 0 + (0) ≤ T1.1 - T.1 + 1; omega, by show 0 + (0) ≤ sg T1 - sg T + 6; omega⟩ ?_
  intro r9 S1 H locs hp G
  obtain ⟨hr9, hS1⟩ := hp
  rw [hS1] at G
  rw [hr9]
  have had : ∀ n, n < T.1 → ad n = ad n := fun _ _ => rfl
  refine lv_i2l (v := r1.toInt64) hx hb dL_delayTo_10 rfl ?_
  refine t_last E G dL_delayTo_11 (fun H locs G => ?_)
  refine lv_goto (tgt := 27) hx hb dL_delayTo_12 (by decide) ?_
  refine lv_iconst (v := 0) hx hb dL_delayTo_27 (by decide) ?_
  refine W.widen (k := T1.1 - T.1 + 1) (n := sg T1 - sg T + 6) (by omega) (by omega) ?_
  exact W.iret (v := 0) hx hb hr (fun t ht hW => ⟨⟨0, ad, rfl, ⟨rfl, had⟩, ⟨by rw [ht]; exact G.1, va_K.moved hW.alike hK, G.2.1⟩⟩, G.2.2.F ht⟩) G.2.2.2.2 dL_delayTo_28
set_option maxHeartbeats 4000000 in
set_option maxRecDepth 100000 in
theorem v_delayTo_t (l : Launch) (hst : l.stackTraces = false) (D : va_G) {cI cJ cZ cMic cSrc cSt cAI cAJ cD : ClassId} (h0 : Nat) (ad : Nat → Nat) (T : AT) (o : Nat) (a0 a1 a2 : Int32) (ao : Nat) (f : Nat → Int64) {e1 : Nat} {r1 : Int32} {T1 : AT} (h : g_X11_delayTo T o a0 a1 a2 = some (e1 + 1, r1, T1)) (hrc : RC T) (h_o : o < T.1) (h_s : T.2.1 o = (11, 0)) : tWi l yL_delayTo (Cond.codeWith yL_delayTo cL_delayTo 6 (some .int) [(0, 12, 15, 21), (0, 12, 19, 13), (0, 12, 23, 15)] :: wsA) 9 146 cI cJ cZ cMic cSrc cSt cAI cAJ cD D h0 ad T (oJ ao cJ f) [.ref (ad o), .int a0, .int a1, .int a2, .ref ao] (vck 1 2 3 (e1 + 1)) T1 (oJ ao cJ (vfJ (e1 + 1) f r1.toInt64)) := by
  intro sz
  refine va_MetW (cc := cL_delayTo) (maxL := 6) (ret := some .int) (by decide) rfl ?_
  intro p e s m args below meth c s₁ B hml hv
  obtain ⟨rfl, hsz, hP, hK, hD0, hX, hN, hA0, hTS⟩ := hv
  have hx := B.exec
  have hb := B.bytes
  have hr := B.returns
  have hts := atoms_spec (ws := (Cond.codeWith yL_delayTo cL_delayTo 6 (some .int) [(0, 12, 15, 21), (0, 12, 19, 13), (0, 12, 23, 15)] :: wsA)) B.pre
  have hown : s.vm.findClass RL = some m.cls := findClass_of_methodNamed B.named
  have hlocks := B.notSynchronized
  have htb := vx_table (x := yL_delayTo) B (hts _ (.head _))
  subst hsz
  have hD := hD0.self (sz := s.heap.size)
  generalize hAe : va_A (cW ad T.1 (cc cI cJ cZ cMic cSrc cSt cAI cAJ ad T) ++ [oJ ao cJ f]) s.heap.size = A at hD hX hA0 ⊢
  have hA : ∀ q : Nat, s.heap.size ≤ q → A q := fun q h => by rw [← hAe]; exact Or.inr h
  have G : gL cI cJ cZ cMic cSrc cSt cAI cAJ D ad A s.heap s.heap [] T [oJ ao cJ f] := ⟨hP, hD, va_S.rf⟩
  have E : cE p c cL_delayTo s m ([.ref (ad o), .int a0, .int a1, .int a2, .ref ao] : List Value).toArray (Cond.codeWith yL_delayTo cL_delayTo 6 (some .int) [(0, 12, 15, 21), (0, 12, 19, 13), (0, 12, 23, 15)] :: wsA) D RL (CT cI cJ cZ cMic cSrc cSt cAI cAJ ++ [(cD, .double)]) := ⟨hx, hb, hts, hown, hK⟩
  have hl := lv_entry ([.ref (ad o), .int a0, .int a1, .int a2, .ref ao]) (n := 6) (Nat.le_of_ble_eq_true rfl)
  rw [lg_entry_eq]
  generalize (lg_sl ([.ref (ad o), .int a0, .int a1, .int a2, .ref ao]) ++ List.replicate (6 - (lg_sl ([.ref (ad o), .int a0, .int a1, .int a2, .ref ao])).length) Slot.unset).toArray = ls at hl ⊢
  have hl : lv_has ls 6 [(0, .ref (ad o)), (1, .int a0), (2, .int a1), (3, .int a2), (4, .ref ao)] := hl
  refine lv_aload hx hb dL_delayTo_0 (lv_at hl 4 rfl) ?_
  refine lv_iconst (v := 0) hx hb dL_delayTo_2 (by decide) ?_
  refine lv_aload_n hx hb dL_delayTo_3 rfl (lv_at hl 0 rfl) ?_
  refine lv_iload_n hx hb dL_delayTo_4 rfl (lv_at hl 1 rfl) ?_
  refine lv_iload_n hx hb dL_delayTo_5 rfl (lv_at hl 2 rfl) ?_
  refine lv_iload_n hx hb dL_delayTo_6 rfl (lv_at hl 3 rfl) ?_
  refine t_xvi (As := [.int a0, .int a1, .int a2]) (rest := [.int 0, .ref ao]) E G hA hX hX.2.2.2.1 hml (x_X11_delayTo l hst D cI cJ cZ cMic cSrc cSt cAI cAJ ad T o a0 a1 a2 h) (cwV 3 hts (gaV qA_981 qA_982 qA_983 qA_131 qA_779) rfl rfl rfl (by decide +kernel) ⟨Nat.le_of_ble_eq_true rfl, Nat.le_of_ble_eq_true rfl⟩) h_o (cc_o11 h_s) rfl rfl hl.1 rfl (lv_room (Nat.le_of_ble_eq_true rfl)) dL_delayTo_7 ⟨by show 0 + (1) ≤ T1.1 - T.1 + 1; omega, by show 0 + (6) ≤ sg T1 - sg T + 6; omega⟩ ?_
  intro E9 ce q9 S1 H locs hp G hce hcv hcl
  obtain ⟨hE, hS1⟩ := hp
  rw [hS1] at G
  have had : ∀ n, n < T.1 → ad n = ad n := fun _ _ => rfl
  rcases e1 with _ | _ | e1
  · have hE : E9 = xISE := hE
    subst hE
    refine vx_catch (name := xISE) hown [] { startPc := 0, endPc := 12, handlerPc := 15, catchType := 21 } [{ startPc := 0, endPc := 12, handlerPc := 19, catchType := 13 }, { startPc := 0, endPc := 12, handlerPc := 23, catchType := 15 }] htb (fun z hz => absurd hz List.not_mem_nil) (by decide) (by decide) (hts _ (.tail _ qA_952)) (hX.use (.castable xISE xISE) (by decide +kernel)) hce hcv hcl ?_
    refine lv_astore (lv' := [(5, .ref q9), (0, .ref (ad o)), (1, .int a0), (2, .int a1), (3, .int a2), (4, .ref ao)]) hx hb dL_delayTo_15 hl (by decide) rfl (fun ls hl => ?_)
    refine lv_iconst (v := 1) hx hb dL_delayTo_17 (by decide) ?_
    refine W.widen (k := T1.1 - T.1 + 1) (n := sg T1 - sg T + 6) (by omega) (by omega) ?_
    exact W.iret (v := 1) hx hb hr (fun t ht hW => ⟨⟨1, ad, rfl, ⟨rfl, had⟩, ⟨by rw [ht]; exact G.1, va_K.moved hW.alike hK, G.2.1⟩⟩, G.2.2.F ht⟩) G.2.2.2.2 dL_delayTo_18
  · have hE : E9 = xIOB := hE
    subst hE
    refine vx_catch (name := xIOB) hown [{ startPc := 0, endPc := 12, handlerPc := 15, catchType := 21 }] { startPc := 0, endPc := 12, handlerPc := 19, catchType := 13 } [{ startPc := 0, endPc := 12, handlerPc := 23, catchType := 15 }] htb (List.forall_mem_cons.mpr ⟨Or.inr ⟨by decide, xISE, hts _ (.tail _ qA_952), hN.2.2.1⟩, fun z hz => absurd hz List.not_mem_nil⟩) (by decide) (by decide) (hts _ (.tail _ qA_946)) (hX.use (.castable xIOB xIOB) (by decide +kernel)) hce hcv hcl ?_
    refine lv_astore (lv' := [(5, .ref q9), (0, .ref (ad o)), (1, .int a0), (2, .int a1), (3, .int a2), (4, .ref ao)]) hx hb dL_delayTo_19 hl (by decide) rfl (fun ls hl => ?_)
    refine lv_iconst (v := 2) hx hb dL_delayTo_21 (by decide) ?_
    refine W.widen (k := T1.1 - T.1 + 1) (n := sg T1 - sg T + 6) (by omega) (by omega) ?_
    exact W.iret (v := 2) hx hb hr (fun t ht hW => ⟨⟨2, ad, rfl, ⟨rfl, had⟩, ⟨by rw [ht]; exact G.1, va_K.moved hW.alike hK, G.2.1⟩⟩, G.2.2.F ht⟩) G.2.2.2.2 dL_delayTo_22
  · have hE : E9 = xIAE := hE
    subst hE
    refine vx_catch (name := xIAE) hown [{ startPc := 0, endPc := 12, handlerPc := 15, catchType := 21 }, { startPc := 0, endPc := 12, handlerPc := 19, catchType := 13 }] { startPc := 0, endPc := 12, handlerPc := 23, catchType := 15 } [] htb (List.forall_mem_cons.mpr ⟨Or.inr ⟨by decide, xISE, hts _ (.tail _ qA_952), hN.2.2.2⟩, List.forall_mem_cons.mpr ⟨Or.inr ⟨by decide, xIOB, hts _ (.tail _ qA_946), hN.1⟩, fun z hz => absurd hz List.not_mem_nil⟩⟩) (by decide) (by decide) (hts _ (.tail _ qA_947)) (hX.use (.castable xIAE xIAE) (by decide +kernel)) hce hcv hcl ?_
    refine lv_astore (lv' := [(5, .ref q9), (0, .ref (ad o)), (1, .int a0), (2, .int a1), (3, .int a2), (4, .ref ao)]) hx hb dL_delayTo_23 hl (by decide) rfl (fun ls hl => ?_)
    refine lv_iconst (v := 3) hx hb dL_delayTo_25 (by decide) ?_
    refine W.widen (k := T1.1 - T.1 + 1) (n := sg T1 - sg T + 6) (by omega) (by omega) ?_
    exact W.iret (v := 3) hx hb hr (fun t ht hW => ⟨⟨3, ad, rfl, ⟨rfl, had⟩, ⟨by rw [ht]; exact G.1, va_K.moved hW.alike hK, G.2.1⟩⟩, G.2.2.F ht⟩) G.2.2.2.2 dL_delayTo_26
theorem v_delayTo (l : Launch) (hst : l.stackTraces = false) (D : va_G) {cI cJ cZ cMic cSrc cSt cAI cAJ cD : ClassId} (h0 : Nat) (ad : Nat → Nat) (T : AT) (o : Nat) (a0 a1 a2 : Int32) (ao : Nat) (f : Nat → Int64) {k1 : Nat} {r1 : Int32} {T1 : AT} (h : g_X11_delayTo T o a0 a1 a2 = some (k1, r1, T1)) (hrc : RC T) (h_o : o < T.1) (h_s : T.2.1 o = (11, 0)) : tWi l yL_delayTo (Cond.codeWith yL_delayTo cL_delayTo 6 (some .int) [(0, 12, 15, 21), (0, 12, 19, 13), (0, 12, 23, 15)] :: wsA) 9 146 cI cJ cZ cMic cSrc cSt cAI cAJ cD D h0 ad T (oJ ao cJ f) [.ref (ad o), .int a0, .int a1, .int a2, .ref ao] (vck 1 2 3 k1) T1 (oJ ao cJ (vfJ k1 f r1.toInt64)) := by
  cases k1 with
  | zero => exact v_delayTo_n l hst D h0 ad T o a0 a1 a2 ao f h hrc h_o h_s
  | succ e1 => exact v_delayTo_t l hst D h0 ad T o a0 a1 a2 ao f h hrc h_o h_s
set_option maxHeartbeats 4000000 in
set_option maxRecDepth 100000 in
theorem v_spread_n (l : Launch) (hst : l.stackTraces = false) (D : va_G) {cI cJ cZ cMic cSrc cSt cAI cAJ cD : ClassId} (h0 : Nat) (ad : Nat → Nat) (T : AT) (o : Nat) (a0 : Int32) (ao : Nat) (f : Nat → Int64) {r1 : Int32} {T1 : AT} (h : g_X11_spread T o a0 = some (0, r1, T1)) (hrc : RC T) (h_o : o < T.1) (h_s : T.2.1 o = (11, 0)) : tWi l yL_spread (Cond.codeWith yL_spread cL_spread 4 (some .int) [(0, 9, 12, 21), (0, 9, 15, 13)] :: wsA) 9 145 cI cJ cZ cMic cSrc cSt cAI cAJ cD D h0 ad T (oJ ao cJ f) [.ref (ad o), .int a0, .ref ao] (vck 1 2 0 (0)) T1 (oJ ao cJ (vfJ (0) f r1.toInt64)) := by
  intro sz
  refine va_MetW (cc := cL_spread) (maxL := 4) (ret := some .int) (by decide) rfl ?_
  intro p e s m args below meth c s₁ B hml hv
  obtain ⟨rfl, hsz, hP, hK, hD0, hX, hN, hA0, hTS⟩ := hv
  have hx := B.exec
  have hb := B.bytes
  have hr := B.returns
  have hts := atoms_spec (ws := (Cond.codeWith yL_spread cL_spread 4 (some .int) [(0, 9, 12, 21), (0, 9, 15, 13)] :: wsA)) B.pre
  have hown : s.vm.findClass RL = some m.cls := findClass_of_methodNamed B.named
  have hlocks := B.notSynchronized
  have htb := vx_table (x := yL_spread) B (hts _ (.head _))
  subst hsz
  have hD := hD0.self (sz := s.heap.size)
  generalize hAe : va_A (cW ad T.1 (cc cI cJ cZ cMic cSrc cSt cAI cAJ ad T) ++ [oJ ao cJ f]) s.heap.size = A at hD hX hA0 ⊢
  have hA : ∀ q : Nat, s.heap.size ≤ q → A q := fun q h => by rw [← hAe]; exact Or.inr h
  have G : gL cI cJ cZ cMic cSrc cSt cAI cAJ D ad A s.heap s.heap [] T [oJ ao cJ f] := ⟨hP, hD, va_S.rf⟩
  have E : cE p c cL_spread s m ([.ref (ad o), .int a0, .ref ao] : List Value).toArray (Cond.codeWith yL_spread cL_spread 4 (some .int) [(0, 9, 12, 21), (0, 9, 15, 13)] :: wsA) D RL (CT cI cJ cZ cMic cSrc cSt cAI cAJ ++ [(cD, .double)]) := ⟨hx, hb, hts, hown, hK⟩
  have hl := lv_entry ([.ref (ad o), .int a0, .ref ao]) (n := 4) (Nat.le_of_ble_eq_true rfl)
  rw [lg_entry_eq]
  generalize (lg_sl ([.ref (ad o), .int a0, .ref ao]) ++ List.replicate (4 - (lg_sl ([.ref (ad o), .int a0, .ref ao])).length) Slot.unset).toArray = ls at hl ⊢
  have hl : lv_has ls 4 [(0, .ref (ad o)), (1, .int a0), (2, .ref ao)] := hl
  refine lv_aload_n hx hb dL_spread_0 rfl (lv_at hl 2 rfl) ?_
  refine lv_iconst (v := 0) hx hb dL_spread_1 (by decide) ?_
  refine lv_aload_n hx hb dL_spread_2 rfl (lv_at hl 0 rfl) ?_
  refine lv_iload_n hx hb dL_spread_3 rfl (lv_at hl 1 rfl) ?_
  refine t_cvi (As := [.int a0]) (rest := [.int 0, .ref ao]) E G hA hX hX.2.2.2.1 hml (u_X11_spread l hst D cI cJ cZ cMic cSrc cSt cAI cAJ ad T o a0 h) (cwV 1 hts (gaV qA_985 qA_986 qA_987 qA_131 qA_781) rfl rfl rfl (by decide +kernel) ⟨Nat.le_of_ble_eq_true rfl, Nat.le_of_ble_eq_true rfl⟩) h_o (cc_o11 h_s) rfl rfl hl.1 rfl (lv_room (Nat.le_of_ble_eq_true rfl)) dL_spread_4 ⟨by show 0 + (0) ≤ T1.1 - T.1 + 1; omega, by show 0 + (0) ≤ sg T1 - sg T + 6; omega⟩ ?_
  intro r9 S1 H locs hp G
  obtain ⟨hr9, hS1⟩ := hp
  rw [hS1] at G
  rw [hr9]
  have had : ∀ n, n < T.1 → ad n = ad n := fun _ _ => rfl
  refine lv_i2l (v := r1.toInt64) hx hb dL_spread_7 rfl ?_
  refine t_last E G dL_spread_8 (fun H locs G => ?_)
  refine lv_goto (tgt := 18) hx hb dL_spread_9 (by decide) ?_
  refine lv_iconst (v := 0) hx hb dL_spread_18 (by decide) ?_
  refine W.widen (k := T1.1 - T.1 + 1) (n := sg T1 - sg T + 6) (by omega) (by omega) ?_
  exact W.iret (v := 0) hx hb hr (fun t ht hW => ⟨⟨0, ad, rfl, ⟨rfl, had⟩, ⟨by rw [ht]; exact G.1, va_K.moved hW.alike hK, G.2.1⟩⟩, G.2.2.F ht⟩) G.2.2.2.2 dL_spread_19
set_option maxHeartbeats 4000000 in
set_option maxRecDepth 100000 in
theorem v_spread_t (l : Launch) (hst : l.stackTraces = false) (D : va_G) {cI cJ cZ cMic cSrc cSt cAI cAJ cD : ClassId} (h0 : Nat) (ad : Nat → Nat) (T : AT) (o : Nat) (a0 : Int32) (ao : Nat) (f : Nat → Int64) {e1 : Nat} {r1 : Int32} {T1 : AT} (h : g_X11_spread T o a0 = some (e1 + 1, r1, T1)) (hrc : RC T) (h_o : o < T.1) (h_s : T.2.1 o = (11, 0)) : tWi l yL_spread (Cond.codeWith yL_spread cL_spread 4 (some .int) [(0, 9, 12, 21), (0, 9, 15, 13)] :: wsA) 9 145 cI cJ cZ cMic cSrc cSt cAI cAJ cD D h0 ad T (oJ ao cJ f) [.ref (ad o), .int a0, .ref ao] (vck 1 2 0 (e1 + 1)) T1 (oJ ao cJ (vfJ (e1 + 1) f r1.toInt64)) := by
  intro sz
  refine va_MetW (cc := cL_spread) (maxL := 4) (ret := some .int) (by decide) rfl ?_
  intro p e s m args below meth c s₁ B hml hv
  obtain ⟨rfl, hsz, hP, hK, hD0, hX, hN, hA0, hTS⟩ := hv
  have hx := B.exec
  have hb := B.bytes
  have hr := B.returns
  have hts := atoms_spec (ws := (Cond.codeWith yL_spread cL_spread 4 (some .int) [(0, 9, 12, 21), (0, 9, 15, 13)] :: wsA)) B.pre
  have hown : s.vm.findClass RL = some m.cls := findClass_of_methodNamed B.named
  have hlocks := B.notSynchronized
  have htb := vx_table (x := yL_spread) B (hts _ (.head _))
  subst hsz
  have hD := hD0.self (sz := s.heap.size)
  generalize hAe : va_A (cW ad T.1 (cc cI cJ cZ cMic cSrc cSt cAI cAJ ad T) ++ [oJ ao cJ f]) s.heap.size = A at hD hX hA0 ⊢
  have hA : ∀ q : Nat, s.heap.size ≤ q → A q := fun q h => by rw [← hAe]; exact Or.inr h
  have G : gL cI cJ cZ cMic cSrc cSt cAI cAJ D ad A s.heap s.heap [] T [oJ ao cJ f] := ⟨hP, hD, va_S.rf⟩
  have E : cE p c cL_spread s m ([.ref (ad o), .int a0, .ref ao] : List Value).toArray (Cond.codeWith yL_spread cL_spread 4 (some .int) [(0, 9, 12, 21), (0, 9, 15, 13)] :: wsA) D RL (CT cI cJ cZ cMic cSrc cSt cAI cAJ ++ [(cD, .double)]) := ⟨hx, hb, hts, hown, hK⟩
  have hl := lv_entry ([.ref (ad o), .int a0, .ref ao]) (n := 4) (Nat.le_of_ble_eq_true rfl)
  rw [lg_entry_eq]
  generalize (lg_sl ([.ref (ad o), .int a0, .ref ao]) ++ List.replicate (4 - (lg_sl ([.ref (ad o), .int a0, .ref ao])).length) Slot.unset).toArray = ls at hl ⊢
  have hl : lv_has ls 4 [(0, .ref (ad o)), (1, .int a0), (2, .ref ao)] := hl
  refine lv_aload_n hx hb dL_spread_0 rfl (lv_at hl 2 rfl) ?_
  refine lv_iconst (v := 0) hx hb dL_spread_1 (by decide) ?_
  refine lv_aload_n hx hb dL_spread_2 rfl (lv_at hl 0 rfl) ?_
  refine lv_iload_n hx hb dL_spread_3 rfl (lv_at hl 1 rfl) ?_
  refine t_xvi (As := [.int a0]) (rest := [.int 0, .ref ao]) E G hA hX hX.2.2.2.1 hml (x_X11_spread l hst D cI cJ cZ cMic cSrc cSt cAI cAJ ad T o a0 h) (cwV 1 hts (gaV qA_985 qA_986 qA_987 qA_131 qA_781) rfl rfl rfl (by decide +kernel) ⟨Nat.le_of_ble_eq_true rfl, Nat.le_of_ble_eq_true rfl⟩) h_o (cc_o11 h_s) rfl rfl hl.1 rfl (lv_room (Nat.le_of_ble_eq_true rfl)) dL_spread_4 ⟨by show 0 + (1) ≤ T1.1 - T.1 + 1; omega, by show 0 + (6) ≤ sg T1 - sg T + 6; omega⟩ ?_
  intro E9 ce q9 S1 H locs hp G hce hcv hcl
  obtain ⟨hE, hS1⟩ := hp
  rw [hS1] at G
  have had : ∀ n, n < T.1 → ad n = ad n := fun _ _ => rfl
  rcases e1 with _ | _ | e1
  · have hE : E9 = xISE := hE
    subst hE
    refine vx_catch (name := xISE) hown [] { startPc := 0, endPc := 9, handlerPc := 12, catchType := 21 } [{ startPc := 0, endPc := 9, handlerPc := 15, catchType := 13 }] htb (fun z hz => absurd hz List.not_mem_nil) (by decide) (by decide) (hts _ (.tail _ qA_952)) (hX.use (.castable xISE xISE) (by decide +kernel)) hce hcv hcl ?_
    refine lv_astore_n (lv' := [(3, .ref q9), (0, .ref (ad o)), (1, .int a0), (2, .ref ao)]) hx hb dL_spread_12 rfl hl (by decide) rfl (fun ls hl => ?_)
    refine lv_iconst (v := 1) hx hb dL_spread_13 (by decide) ?_
    refine W.widen (k := T1.1 - T.1 + 1) (n := sg T1 - sg T + 6) (by omega) (by omega) ?_
    exact W.iret (v := 1) hx hb hr (fun t ht hW => ⟨⟨1, ad, rfl, ⟨rfl, had⟩, ⟨by rw [ht]; exact G.1, va_K.moved hW.alike hK, G.2.1⟩⟩, G.2.2.F ht⟩) G.2.2.2.2 dL_spread_14
  · have hE : E9 = xIOB := hE
    subst hE
    refine vx_catch (name := xIOB) hown [{ startPc := 0, endPc := 9, handlerPc := 12, catchType := 21 }] { startPc := 0, endPc := 9, handlerPc := 15, catchType := 13 } [] htb (List.forall_mem_cons.mpr ⟨Or.inr ⟨by decide, xISE, hts _ (.tail _ qA_952), hN.2.2.1⟩, fun z hz => absurd hz List.not_mem_nil⟩) (by decide) (by decide) (hts _ (.tail _ qA_946)) (hX.use (.castable xIOB xIOB) (by decide +kernel)) hce hcv hcl ?_
    refine lv_astore_n (lv' := [(3, .ref q9), (0, .ref (ad o)), (1, .int a0), (2, .ref ao)]) hx hb dL_spread_15 rfl hl (by decide) rfl (fun ls hl => ?_)
    refine lv_iconst (v := 2) hx hb dL_spread_16 (by decide) ?_
    refine W.widen (k := T1.1 - T.1 + 1) (n := sg T1 - sg T + 6) (by omega) (by omega) ?_
    exact W.iret (v := 2) hx hb hr (fun t ht hW => ⟨⟨2, ad, rfl, ⟨rfl, had⟩, ⟨by rw [ht]; exact G.1, va_K.moved hW.alike hK, G.2.1⟩⟩, G.2.2.F ht⟩) G.2.2.2.2 dL_spread_17
  · have q := (cd_g_X11_spread (S := [0, 1, 2]) (fun _ h => h) T o a0 _ _ _ h)
    simp only [List.mem_cons, List.not_mem_nil, or_false] at q
    omega
theorem v_spread (l : Launch) (hst : l.stackTraces = false) (D : va_G) {cI cJ cZ cMic cSrc cSt cAI cAJ cD : ClassId} (h0 : Nat) (ad : Nat → Nat) (T : AT) (o : Nat) (a0 : Int32) (ao : Nat) (f : Nat → Int64) {k1 : Nat} {r1 : Int32} {T1 : AT} (h : g_X11_spread T o a0 = some (k1, r1, T1)) (hrc : RC T) (h_o : o < T.1) (h_s : T.2.1 o = (11, 0)) : tWi l yL_spread (Cond.codeWith yL_spread cL_spread 4 (some .int) [(0, 9, 12, 21), (0, 9, 15, 13)] :: wsA) 9 145 cI cJ cZ cMic cSrc cSt cAI cAJ cD D h0 ad T (oJ ao cJ f) [.ref (ad o), .int a0, .ref ao] (vck 1 2 0 k1) T1 (oJ ao cJ (vfJ k1 f r1.toInt64)) := by
  cases k1 with
  | zero => exact v_spread_n l hst D h0 ad T o a0 ao f h hrc h_o h_s
  | succ e1 => exact v_spread_t l hst D h0 ad T o a0 ao f h hrc h_o h_s
set_option maxHeartbeats 4000000 in
set_option maxRecDepth 100000 in
theorem v_window_n (l : Launch) (hst : l.stackTraces = false) (D : va_G) {cI cJ cZ cMic cSrc cSt cAI cAJ cD : ClassId} (h0 : Nat) (ad : Nat → Nat) (T : AT) (o : Nat) (a0 : Int32) (ao : Nat) (f : Nat → Int64) {r1 : Int32} {T1 : AT} (h : g_X11_window T o a0 = some (0, r1, T1)) (hrc : RC T) (h_o : o < T.1) (h_s : T.2.1 o = (11, 0)) : tWi l yL_window (Cond.codeWith yL_window cL_window 4 (some .int) [(0, 9, 12, 21), (0, 9, 15, 13)] :: wsA) 9 144 cI cJ cZ cMic cSrc cSt cAI cAJ cD D h0 ad T (oJ ao cJ f) [.ref (ad o), .int a0, .ref ao] (vck 1 2 0 (0)) T1 (oJ ao cJ (vfJ (0) f r1.toInt64)) := by
  intro sz
  refine va_MetW (cc := cL_window) (maxL := 4) (ret := some .int) (by decide) rfl ?_
  intro p e s m args below meth c s₁ B hml hv
  obtain ⟨rfl, hsz, hP, hK, hD0, hX, hN, hA0, hTS⟩ := hv
  have hx := B.exec
  have hb := B.bytes
  have hr := B.returns
  have hts := atoms_spec (ws := (Cond.codeWith yL_window cL_window 4 (some .int) [(0, 9, 12, 21), (0, 9, 15, 13)] :: wsA)) B.pre
  have hown : s.vm.findClass RL = some m.cls := findClass_of_methodNamed B.named
  have hlocks := B.notSynchronized
  have htb := vx_table (x := yL_window) B (hts _ (.head _))
  subst hsz
  have hD := hD0.self (sz := s.heap.size)
  generalize hAe : va_A (cW ad T.1 (cc cI cJ cZ cMic cSrc cSt cAI cAJ ad T) ++ [oJ ao cJ f]) s.heap.size = A at hD hX hA0 ⊢
  have hA : ∀ q : Nat, s.heap.size ≤ q → A q := fun q h => by rw [← hAe]; exact Or.inr h
  have G : gL cI cJ cZ cMic cSrc cSt cAI cAJ D ad A s.heap s.heap [] T [oJ ao cJ f] := ⟨hP, hD, va_S.rf⟩
  have E : cE p c cL_window s m ([.ref (ad o), .int a0, .ref ao] : List Value).toArray (Cond.codeWith yL_window cL_window 4 (some .int) [(0, 9, 12, 21), (0, 9, 15, 13)] :: wsA) D RL (CT cI cJ cZ cMic cSrc cSt cAI cAJ ++ [(cD, .double)]) := ⟨hx, hb, hts, hown, hK⟩
  have hl := lv_entry ([.ref (ad o), .int a0, .ref ao]) (n := 4) (Nat.le_of_ble_eq_true rfl)
  rw [lg_entry_eq]
  generalize (lg_sl ([.ref (ad o), .int a0, .ref ao]) ++ List.replicate (4 - (lg_sl ([.ref (ad o), .int a0, .ref ao])).length) Slot.unset).toArray = ls at hl ⊢
  have hl : lv_has ls 4 [(0, .ref (ad o)), (1, .int a0), (2, .ref ao)] := hl
  refine lv_aload_n hx hb dL_window_0 rfl (lv_at hl 2 rfl) ?_
  refine lv_iconst (v := 0) hx hb dL_window_1 (by decide) ?_
  refine lv_aload_n hx hb dL_window_2 rfl (lv_at hl 0 rfl) ?_
  refine lv_iload_n hx hb dL_window_3 rfl (lv_at hl 1 rfl) ?_
  refine t_cvi (As := [.int a0]) (rest := [.int 0, .ref ao]) E G hA hX hX.2.2.2.1 hml (u_X11_window l hst D cI cJ cZ cMic cSrc cSt cAI cAJ ad T o a0 h) (cwV 1 hts (gaV qA_989 qA_990 qA_991 qA_131 qA_786) rfl rfl rfl (by decide +kernel) ⟨Nat.le_of_ble_eq_true rfl, Nat.le_of_ble_eq_true rfl⟩) h_o (cc_o11 h_s) rfl rfl hl.1 rfl (lv_room (Nat.le_of_ble_eq_true rfl)) dL_window_4 ⟨by show 0 + (0) ≤ T1.1 - T.1 + 1; omega, by show 0 + (0) ≤ sg T1 - sg T + 6; omega⟩ ?_
  intro r9 S1 H locs hp G
  obtain ⟨hr9, hS1⟩ := hp
  rw [hS1] at G
  rw [hr9]
  have had : ∀ n, n < T.1 → ad n = ad n := fun _ _ => rfl
  refine lv_i2l (v := r1.toInt64) hx hb dL_window_7 rfl ?_
  refine t_last E G dL_window_8 (fun H locs G => ?_)
  refine lv_goto (tgt := 18) hx hb dL_window_9 (by decide) ?_
  refine lv_iconst (v := 0) hx hb dL_window_18 (by decide) ?_
  refine W.widen (k := T1.1 - T.1 + 1) (n := sg T1 - sg T + 6) (by omega) (by omega) ?_
  exact W.iret (v := 0) hx hb hr (fun t ht hW => ⟨⟨0, ad, rfl, ⟨rfl, had⟩, ⟨by rw [ht]; exact G.1, va_K.moved hW.alike hK, G.2.1⟩⟩, G.2.2.F ht⟩) G.2.2.2.2 dL_window_19
set_option maxHeartbeats 4000000 in
set_option maxRecDepth 100000 in
theorem v_window_t (l : Launch) (hst : l.stackTraces = false) (D : va_G) {cI cJ cZ cMic cSrc cSt cAI cAJ cD : ClassId} (h0 : Nat) (ad : Nat → Nat) (T : AT) (o : Nat) (a0 : Int32) (ao : Nat) (f : Nat → Int64) {e1 : Nat} {r1 : Int32} {T1 : AT} (h : g_X11_window T o a0 = some (e1 + 1, r1, T1)) (hrc : RC T) (h_o : o < T.1) (h_s : T.2.1 o = (11, 0)) : tWi l yL_window (Cond.codeWith yL_window cL_window 4 (some .int) [(0, 9, 12, 21), (0, 9, 15, 13)] :: wsA) 9 144 cI cJ cZ cMic cSrc cSt cAI cAJ cD D h0 ad T (oJ ao cJ f) [.ref (ad o), .int a0, .ref ao] (vck 1 2 0 (e1 + 1)) T1 (oJ ao cJ (vfJ (e1 + 1) f r1.toInt64)) := by
  intro sz
  refine va_MetW (cc := cL_window) (maxL := 4) (ret := some .int) (by decide) rfl ?_
  intro p e s m args below meth c s₁ B hml hv
  obtain ⟨rfl, hsz, hP, hK, hD0, hX, hN, hA0, hTS⟩ := hv
  have hx := B.exec
  have hb := B.bytes
  have hr := B.returns
  have hts := atoms_spec (ws := (Cond.codeWith yL_window cL_window 4 (some .int) [(0, 9, 12, 21), (0, 9, 15, 13)] :: wsA)) B.pre
  have hown : s.vm.findClass RL = some m.cls := findClass_of_methodNamed B.named
  have hlocks := B.notSynchronized
  have htb := vx_table (x := yL_window) B (hts _ (.head _))
  subst hsz
  have hD := hD0.self (sz := s.heap.size)
  generalize hAe : va_A (cW ad T.1 (cc cI cJ cZ cMic cSrc cSt cAI cAJ ad T) ++ [oJ ao cJ f]) s.heap.size = A at hD hX hA0 ⊢
  have hA : ∀ q : Nat, s.heap.size ≤ q → A q := fun q h => by rw [← hAe]; exact Or.inr h
  have G : gL cI cJ cZ cMic cSrc cSt cAI cAJ D ad A s.heap s.heap [] T [oJ ao cJ f] := ⟨hP, hD, va_S.rf⟩
  have E : cE p c cL_window s m ([.ref (ad o), .int a0, .ref ao] : List Value).toArray (Cond.codeWith yL_window cL_window 4 (some .int) [(0, 9, 12, 21), (0, 9, 15, 13)] :: wsA) D RL (CT cI cJ cZ cMic cSrc cSt cAI cAJ ++ [(cD, .double)]) := ⟨hx, hb, hts, hown, hK⟩
  have hl := lv_entry ([.ref (ad o), .int a0, .ref ao]) (n := 4) (Nat.le_of_ble_eq_true rfl)
  rw [lg_entry_eq]
  generalize (lg_sl ([.ref (ad o), .int a0, .ref ao]) ++ List.replicate (4 - (lg_sl ([.ref (ad o), .int a0, .ref ao])).length) Slot.unset).toArray = ls at hl ⊢
  have hl : lv_has ls 4 [(0, .ref (ad o)), (1, .int a0), (2, .ref ao)] := hl
  refine lv_aload_n hx hb dL_window_0 rfl (lv_at hl 2 rfl) ?_
  refine lv_iconst (v := 0) hx hb dL_window_1 (by decide) ?_
  refine lv_aload_n hx hb dL_window_2 rfl (lv_at hl 0 rfl) ?_
  refine lv_iload_n hx hb dL_window_3 rfl (lv_at hl 1 rfl) ?_
  refine t_xvi (As := [.int a0]) (rest := [.int 0, .ref ao]) E G hA hX hX.2.2.2.1 hml (x_X11_window l hst D cI cJ cZ cMic cSrc cSt cAI cAJ ad T o a0 h) (cwV 1 hts (gaV qA_989 qA_990 qA_991 qA_131 qA_786) rfl rfl rfl (by decide +kernel) ⟨Nat.le_of_ble_eq_true rfl, Nat.le_of_ble_eq_true rfl⟩) h_o (cc_o11 h_s) rfl rfl hl.1 rfl (lv_room (Nat.le_of_ble_eq_true rfl)) dL_window_4 ⟨by show 0 + (1) ≤ T1.1 - T.1 + 1; omega, by show 0 + (6) ≤ sg T1 - sg T + 6; omega⟩ ?_
  intro E9 ce q9 S1 H locs hp G hce hcv hcl
  obtain ⟨hE, hS1⟩ := hp
  rw [hS1] at G
  have had : ∀ n, n < T.1 → ad n = ad n := fun _ _ => rfl
  rcases e1 with _ | _ | e1
  · have hE : E9 = xISE := hE
    subst hE
    refine vx_catch (name := xISE) hown [] { startPc := 0, endPc := 9, handlerPc := 12, catchType := 21 } [{ startPc := 0, endPc := 9, handlerPc := 15, catchType := 13 }] htb (fun z hz => absurd hz List.not_mem_nil) (by decide) (by decide) (hts _ (.tail _ qA_952)) (hX.use (.castable xISE xISE) (by decide +kernel)) hce hcv hcl ?_
    refine lv_astore_n (lv' := [(3, .ref q9), (0, .ref (ad o)), (1, .int a0), (2, .ref ao)]) hx hb dL_window_12 rfl hl (by decide) rfl (fun ls hl => ?_)
    refine lv_iconst (v := 1) hx hb dL_window_13 (by decide) ?_
    refine W.widen (k := T1.1 - T.1 + 1) (n := sg T1 - sg T + 6) (by omega) (by omega) ?_
    exact W.iret (v := 1) hx hb hr (fun t ht hW => ⟨⟨1, ad, rfl, ⟨rfl, had⟩, ⟨by rw [ht]; exact G.1, va_K.moved hW.alike hK, G.2.1⟩⟩, G.2.2.F ht⟩) G.2.2.2.2 dL_window_14
  · have hE : E9 = xIOB := hE
    subst hE
    refine vx_catch (name := xIOB) hown [{ startPc := 0, endPc := 9, handlerPc := 12, catchType := 21 }] { startPc := 0, endPc := 9, handlerPc := 15, catchType := 13 } [] htb (List.forall_mem_cons.mpr ⟨Or.inr ⟨by decide, xISE, hts _ (.tail _ qA_952), hN.2.2.1⟩, fun z hz => absurd hz List.not_mem_nil⟩) (by decide) (by decide) (hts _ (.tail _ qA_946)) (hX.use (.castable xIOB xIOB) (by decide +kernel)) hce hcv hcl ?_
    refine lv_astore_n (lv' := [(3, .ref q9), (0, .ref (ad o)), (1, .int a0), (2, .ref ao)]) hx hb dL_window_15 rfl hl (by decide) rfl (fun ls hl => ?_)
    refine lv_iconst (v := 2) hx hb dL_window_16 (by decide) ?_
    refine W.widen (k := T1.1 - T.1 + 1) (n := sg T1 - sg T + 6) (by omega) (by omega) ?_
    exact W.iret (v := 2) hx hb hr (fun t ht hW => ⟨⟨2, ad, rfl, ⟨rfl, had⟩, ⟨by rw [ht]; exact G.1, va_K.moved hW.alike hK, G.2.1⟩⟩, G.2.2.F ht⟩) G.2.2.2.2 dL_window_17
  · have q := (cd_g_X11_window (S := [0, 1, 2]) (fun _ h => h) T o a0 _ _ _ h)
    simp only [List.mem_cons, List.not_mem_nil, or_false] at q
    omega
theorem v_window (l : Launch) (hst : l.stackTraces = false) (D : va_G) {cI cJ cZ cMic cSrc cSt cAI cAJ cD : ClassId} (h0 : Nat) (ad : Nat → Nat) (T : AT) (o : Nat) (a0 : Int32) (ao : Nat) (f : Nat → Int64) {k1 : Nat} {r1 : Int32} {T1 : AT} (h : g_X11_window T o a0 = some (k1, r1, T1)) (hrc : RC T) (h_o : o < T.1) (h_s : T.2.1 o = (11, 0)) : tWi l yL_window (Cond.codeWith yL_window cL_window 4 (some .int) [(0, 9, 12, 21), (0, 9, 15, 13)] :: wsA) 9 144 cI cJ cZ cMic cSrc cSt cAI cAJ cD D h0 ad T (oJ ao cJ f) [.ref (ad o), .int a0, .ref ao] (vck 1 2 0 k1) T1 (oJ ao cJ (vfJ k1 f r1.toInt64)) := by
  cases k1 with
  | zero => exact v_window_n l hst D h0 ad T o a0 ao f h hrc h_o h_s
  | succ e1 => exact v_window_t l hst D h0 ad T o a0 ao f h hrc h_o h_s
set_option maxHeartbeats 4000000 in
set_option maxRecDepth 100000 in
theorem v_sample_n (l : Launch) (hst : l.stackTraces = false) (D : va_G) {cI cJ cZ cMic cSrc cSt cAI cAJ cD : ClassId} (h0 : Nat) (ad : Nat → Nat) (T : AT) (o : Nat) (a0 a1 : Int32) (ao : Nat) (f : Nat → Int64) {r1 : Int32} {T1 : AT} (h : g_X11_sample T o a0 a1 = some (0, r1, T1)) (hrc : RC T) (h_o : o < T.1) (h_s : T.2.1 o = (11, 0)) : tWi l yL_sample (Cond.codeWith yL_sample cL_sample 5 (some .int) [(0, 10, 13, 21), (0, 10, 17, 13), (0, 10, 21, 15)] :: wsA) 9 145 cI cJ cZ cMic cSrc cSt cAI cAJ cD D h0 ad T (oJ ao cJ f) [.ref (ad o), .int a0, .int a1, .ref ao] (vck 1 2 3 (0)) T1 (oJ ao cJ (vfJ (0) f r1.toInt64)) := by
  intro sz
  refine va_MetW (cc := cL_sample) (maxL := 5) (ret := some .int) (by decide) rfl ?_
  intro p e s m args below meth c s₁ B hml hv
  obtain ⟨rfl, hsz, hP, hK, hD0, hX, hN, hA0, hTS⟩ := hv
  have hx := B.exec
  have hb := B.bytes
  have hr := B.returns
  have hts := atoms_spec (ws := (Cond.codeWith yL_sample cL_sample 5 (some .int) [(0, 10, 13, 21), (0, 10, 17, 13), (0, 10, 21, 15)] :: wsA)) B.pre
  have hown : s.vm.findClass RL = some m.cls := findClass_of_methodNamed B.named
  have hlocks := B.notSynchronized
  have htb := vx_table (x := yL_sample) B (hts _ (.head _))
  subst hsz
  have hD := hD0.self (sz := s.heap.size)
  generalize hAe : va_A (cW ad T.1 (cc cI cJ cZ cMic cSrc cSt cAI cAJ ad T) ++ [oJ ao cJ f]) s.heap.size = A at hD hX hA0 ⊢
  have hA : ∀ q : Nat, s.heap.size ≤ q → A q := fun q h => by rw [← hAe]; exact Or.inr h
  have G : gL cI cJ cZ cMic cSrc cSt cAI cAJ D ad A s.heap s.heap [] T [oJ ao cJ f] := ⟨hP, hD, va_S.rf⟩
  have E : cE p c cL_sample s m ([.ref (ad o), .int a0, .int a1, .ref ao] : List Value).toArray (Cond.codeWith yL_sample cL_sample 5 (some .int) [(0, 10, 13, 21), (0, 10, 17, 13), (0, 10, 21, 15)] :: wsA) D RL (CT cI cJ cZ cMic cSrc cSt cAI cAJ ++ [(cD, .double)]) := ⟨hx, hb, hts, hown, hK⟩
  have hl := lv_entry ([.ref (ad o), .int a0, .int a1, .ref ao]) (n := 5) (Nat.le_of_ble_eq_true rfl)
  rw [lg_entry_eq]
  generalize (lg_sl ([.ref (ad o), .int a0, .int a1, .ref ao]) ++ List.replicate (5 - (lg_sl ([.ref (ad o), .int a0, .int a1, .ref ao])).length) Slot.unset).toArray = ls at hl ⊢
  have hl : lv_has ls 5 [(0, .ref (ad o)), (1, .int a0), (2, .int a1), (3, .ref ao)] := hl
  refine lv_aload_n hx hb dL_sample_0 rfl (lv_at hl 3 rfl) ?_
  refine lv_iconst (v := 0) hx hb dL_sample_1 (by decide) ?_
  refine lv_aload_n hx hb dL_sample_2 rfl (lv_at hl 0 rfl) ?_
  refine lv_iload_n hx hb dL_sample_3 rfl (lv_at hl 1 rfl) ?_
  refine lv_iload_n hx hb dL_sample_4 rfl (lv_at hl 2 rfl) ?_
  refine t_cvi (As := [.int a0, .int a1]) (rest := [.int 0, .ref ao]) E G hA hX hX.2.2.2.1 hml (u_X11_sample l hst D cI cJ cZ cMic cSrc cSt cAI cAJ ad T o a0 a1 h) (cwV 2 hts (gaV qA_993 qA_994 qA_995 qA_131 qA_788) rfl rfl rfl (by decide +kernel) ⟨Nat.le_of_ble_eq_true rfl, Nat.le_of_ble_eq_true rfl⟩) h_o (cc_o11 h_s) rfl rfl hl.1 rfl (lv_room (Nat.le_of_ble_eq_true rfl)) dL_sample_5 ⟨by show 0 + (0) ≤ T1.1 - T.1 + 1; omega, by show 0 + (0) ≤ sg T1 - sg T + 6; omega⟩ ?_
  intro r9 S1 H locs hp G
  obtain ⟨hr9, hS1⟩ := hp
  rw [hS1] at G
  rw [hr9]
  have had : ∀ n, n < T.1 → ad n = ad n := fun _ _ => rfl
  refine lv_i2l (v := r1.toInt64) hx hb dL_sample_8 rfl ?_
  refine t_last E G dL_sample_9 (fun H locs G => ?_)
  refine lv_goto (tgt := 25) hx hb dL_sample_10 (by decide) ?_
  refine lv_iconst (v := 0) hx hb dL_sample_25 (by decide) ?_
  refine W.widen (k := T1.1 - T.1 + 1) (n := sg T1 - sg T + 6) (by omega) (by omega) ?_
  exact W.iret (v := 0) hx hb hr (fun t ht hW => ⟨⟨0, ad, rfl, ⟨rfl, had⟩, ⟨by rw [ht]; exact G.1, va_K.moved hW.alike hK, G.2.1⟩⟩, G.2.2.F ht⟩) G.2.2.2.2 dL_sample_26
set_option maxHeartbeats 4000000 in
set_option maxRecDepth 100000 in
theorem v_sample_t (l : Launch) (hst : l.stackTraces = false) (D : va_G) {cI cJ cZ cMic cSrc cSt cAI cAJ cD : ClassId} (h0 : Nat) (ad : Nat → Nat) (T : AT) (o : Nat) (a0 a1 : Int32) (ao : Nat) (f : Nat → Int64) {e1 : Nat} {r1 : Int32} {T1 : AT} (h : g_X11_sample T o a0 a1 = some (e1 + 1, r1, T1)) (hrc : RC T) (h_o : o < T.1) (h_s : T.2.1 o = (11, 0)) : tWi l yL_sample (Cond.codeWith yL_sample cL_sample 5 (some .int) [(0, 10, 13, 21), (0, 10, 17, 13), (0, 10, 21, 15)] :: wsA) 9 145 cI cJ cZ cMic cSrc cSt cAI cAJ cD D h0 ad T (oJ ao cJ f) [.ref (ad o), .int a0, .int a1, .ref ao] (vck 1 2 3 (e1 + 1)) T1 (oJ ao cJ (vfJ (e1 + 1) f r1.toInt64)) := by
  intro sz
  refine va_MetW (cc := cL_sample) (maxL := 5) (ret := some .int) (by decide) rfl ?_
  intro p e s m args below meth c s₁ B hml hv
  obtain ⟨rfl, hsz, hP, hK, hD0, hX, hN, hA0, hTS⟩ := hv
  have hx := B.exec
  have hb := B.bytes
  have hr := B.returns
  have hts := atoms_spec (ws := (Cond.codeWith yL_sample cL_sample 5 (some .int) [(0, 10, 13, 21), (0, 10, 17, 13), (0, 10, 21, 15)] :: wsA)) B.pre
  have hown : s.vm.findClass RL = some m.cls := findClass_of_methodNamed B.named
  have hlocks := B.notSynchronized
  have htb := vx_table (x := yL_sample) B (hts _ (.head _))
  subst hsz
  have hD := hD0.self (sz := s.heap.size)
  generalize hAe : va_A (cW ad T.1 (cc cI cJ cZ cMic cSrc cSt cAI cAJ ad T) ++ [oJ ao cJ f]) s.heap.size = A at hD hX hA0 ⊢
  have hA : ∀ q : Nat, s.heap.size ≤ q → A q := fun q h => by rw [← hAe]; exact Or.inr h
  have G : gL cI cJ cZ cMic cSrc cSt cAI cAJ D ad A s.heap s.heap [] T [oJ ao cJ f] := ⟨hP, hD, va_S.rf⟩
  have E : cE p c cL_sample s m ([.ref (ad o), .int a0, .int a1, .ref ao] : List Value).toArray (Cond.codeWith yL_sample cL_sample 5 (some .int) [(0, 10, 13, 21), (0, 10, 17, 13), (0, 10, 21, 15)] :: wsA) D RL (CT cI cJ cZ cMic cSrc cSt cAI cAJ ++ [(cD, .double)]) := ⟨hx, hb, hts, hown, hK⟩
  have hl := lv_entry ([.ref (ad o), .int a0, .int a1, .ref ao]) (n := 5) (Nat.le_of_ble_eq_true rfl)
  rw [lg_entry_eq]
  generalize (lg_sl ([.ref (ad o), .int a0, .int a1, .ref ao]) ++ List.replicate (5 - (lg_sl ([.ref (ad o), .int a0, .int a1, .ref ao])).length) Slot.unset).toArray = ls at hl ⊢
  have hl : lv_has ls 5 [(0, .ref (ad o)), (1, .int a0), (2, .int a1), (3, .ref ao)] := hl
  refine lv_aload_n hx hb dL_sample_0 rfl (lv_at hl 3 rfl) ?_
  refine lv_iconst (v := 0) hx hb dL_sample_1 (by decide) ?_
  refine lv_aload_n hx hb dL_sample_2 rfl (lv_at hl 0 rfl) ?_
  refine lv_iload_n hx hb dL_sample_3 rfl (lv_at hl 1 rfl) ?_
  refine lv_iload_n hx hb dL_sample_4 rfl (lv_at hl 2 rfl) ?_
  refine t_xvi (As := [.int a0, .int a1]) (rest := [.int 0, .ref ao]) E G hA hX hX.2.2.2.1 hml (x_X11_sample l hst D cI cJ cZ cMic cSrc cSt cAI cAJ ad T o a0 a1 h) (cwV 2 hts (gaV qA_993 qA_994 qA_995 qA_131 qA_788) rfl rfl rfl (by decide +kernel) ⟨Nat.le_of_ble_eq_true rfl, Nat.le_of_ble_eq_true rfl⟩) h_o (cc_o11 h_s) rfl rfl hl.1 rfl (lv_room (Nat.le_of_ble_eq_true rfl)) dL_sample_5 ⟨by show 0 + (1) ≤ T1.1 - T.1 + 1; omega, by show 0 + (6) ≤ sg T1 - sg T + 6; omega⟩ ?_
  intro E9 ce q9 S1 H locs hp G hce hcv hcl
  obtain ⟨hE, hS1⟩ := hp
  rw [hS1] at G
  have had : ∀ n, n < T.1 → ad n = ad n := fun _ _ => rfl
  rcases e1 with _ | _ | e1
  · have hE : E9 = xISE := hE
    subst hE
    refine vx_catch (name := xISE) hown [] { startPc := 0, endPc := 10, handlerPc := 13, catchType := 21 } [{ startPc := 0, endPc := 10, handlerPc := 17, catchType := 13 }, { startPc := 0, endPc := 10, handlerPc := 21, catchType := 15 }] htb (fun z hz => absurd hz List.not_mem_nil) (by decide) (by decide) (hts _ (.tail _ qA_952)) (hX.use (.castable xISE xISE) (by decide +kernel)) hce hcv hcl ?_
    refine lv_astore (lv' := [(4, .ref q9), (0, .ref (ad o)), (1, .int a0), (2, .int a1), (3, .ref ao)]) hx hb dL_sample_13 hl (by decide) rfl (fun ls hl => ?_)
    refine lv_iconst (v := 1) hx hb dL_sample_15 (by decide) ?_
    refine W.widen (k := T1.1 - T.1 + 1) (n := sg T1 - sg T + 6) (by omega) (by omega) ?_
    exact W.iret (v := 1) hx hb hr (fun t ht hW => ⟨⟨1, ad, rfl, ⟨rfl, had⟩, ⟨by rw [ht]; exact G.1, va_K.moved hW.alike hK, G.2.1⟩⟩, G.2.2.F ht⟩) G.2.2.2.2 dL_sample_16
  · have hE : E9 = xIOB := hE
    subst hE
    refine vx_catch (name := xIOB) hown [{ startPc := 0, endPc := 10, handlerPc := 13, catchType := 21 }] { startPc := 0, endPc := 10, handlerPc := 17, catchType := 13 } [{ startPc := 0, endPc := 10, handlerPc := 21, catchType := 15 }] htb (List.forall_mem_cons.mpr ⟨Or.inr ⟨by decide, xISE, hts _ (.tail _ qA_952), hN.2.2.1⟩, fun z hz => absurd hz List.not_mem_nil⟩) (by decide) (by decide) (hts _ (.tail _ qA_946)) (hX.use (.castable xIOB xIOB) (by decide +kernel)) hce hcv hcl ?_
    refine lv_astore (lv' := [(4, .ref q9), (0, .ref (ad o)), (1, .int a0), (2, .int a1), (3, .ref ao)]) hx hb dL_sample_17 hl (by decide) rfl (fun ls hl => ?_)
    refine lv_iconst (v := 2) hx hb dL_sample_19 (by decide) ?_
    refine W.widen (k := T1.1 - T.1 + 1) (n := sg T1 - sg T + 6) (by omega) (by omega) ?_
    exact W.iret (v := 2) hx hb hr (fun t ht hW => ⟨⟨2, ad, rfl, ⟨rfl, had⟩, ⟨by rw [ht]; exact G.1, va_K.moved hW.alike hK, G.2.1⟩⟩, G.2.2.F ht⟩) G.2.2.2.2 dL_sample_20
  · have hE : E9 = xIAE := hE
    subst hE
    refine vx_catch (name := xIAE) hown [{ startPc := 0, endPc := 10, handlerPc := 13, catchType := 21 }, { startPc := 0, endPc := 10, handlerPc := 17, catchType := 13 }] { startPc := 0, endPc := 10, handlerPc := 21, catchType := 15 } [] htb (List.forall_mem_cons.mpr ⟨Or.inr ⟨by decide, xISE, hts _ (.tail _ qA_952), hN.2.2.2⟩, List.forall_mem_cons.mpr ⟨Or.inr ⟨by decide, xIOB, hts _ (.tail _ qA_946), hN.1⟩, fun z hz => absurd hz List.not_mem_nil⟩⟩) (by decide) (by decide) (hts _ (.tail _ qA_947)) (hX.use (.castable xIAE xIAE) (by decide +kernel)) hce hcv hcl ?_
    refine lv_astore (lv' := [(4, .ref q9), (0, .ref (ad o)), (1, .int a0), (2, .int a1), (3, .ref ao)]) hx hb dL_sample_21 hl (by decide) rfl (fun ls hl => ?_)
    refine lv_iconst (v := 3) hx hb dL_sample_23 (by decide) ?_
    refine W.widen (k := T1.1 - T.1 + 1) (n := sg T1 - sg T + 6) (by omega) (by omega) ?_
    exact W.iret (v := 3) hx hb hr (fun t ht hW => ⟨⟨3, ad, rfl, ⟨rfl, had⟩, ⟨by rw [ht]; exact G.1, va_K.moved hW.alike hK, G.2.1⟩⟩, G.2.2.F ht⟩) G.2.2.2.2 dL_sample_24
theorem v_sample (l : Launch) (hst : l.stackTraces = false) (D : va_G) {cI cJ cZ cMic cSrc cSt cAI cAJ cD : ClassId} (h0 : Nat) (ad : Nat → Nat) (T : AT) (o : Nat) (a0 a1 : Int32) (ao : Nat) (f : Nat → Int64) {k1 : Nat} {r1 : Int32} {T1 : AT} (h : g_X11_sample T o a0 a1 = some (k1, r1, T1)) (hrc : RC T) (h_o : o < T.1) (h_s : T.2.1 o = (11, 0)) : tWi l yL_sample (Cond.codeWith yL_sample cL_sample 5 (some .int) [(0, 10, 13, 21), (0, 10, 17, 13), (0, 10, 21, 15)] :: wsA) 9 145 cI cJ cZ cMic cSrc cSt cAI cAJ cD D h0 ad T (oJ ao cJ f) [.ref (ad o), .int a0, .int a1, .ref ao] (vck 1 2 3 k1) T1 (oJ ao cJ (vfJ k1 f r1.toInt64)) := by
  cases k1 with
  | zero => exact v_sample_n l hst D h0 ad T o a0 a1 ao f h hrc h_o h_s
  | succ e1 => exact v_sample_t l hst D h0 ad T o a0 a1 ao f h hrc h_o h_s
set_option maxHeartbeats 4000000 in
set_option maxRecDepth 100000 in
theorem v_beam_n (l : Launch) (hst : l.stackTraces = false) (D : va_G) {cI cJ cZ cMic cSrc cSt cAI cAJ cD : ClassId} (h0 : Nat) (ad : Nat → Nat) (T : AT) (o : Nat) (a0 a1 : Int32) (ao : Nat) (f : Nat → Int64) {r1 : Int32} {T1 : AT} (h : g_X11_beam T o a0 a1 = some (0, r1, T1)) (hrc : RC T) (h_o : o < T.1) (h_s : T.2.1 o = (11, 0)) : tWi l yL_beam (Cond.codeWith yL_beam cL_beam 5 (some .int) [(0, 10, 13, 21), (0, 10, 17, 13), (0, 10, 21, 15)] :: wsA) 9 145 cI cJ cZ cMic cSrc cSt cAI cAJ cD D h0 ad T (oJ ao cJ f) [.ref (ad o), .int a0, .int a1, .ref ao] (vck 1 2 3 (0)) T1 (oJ ao cJ (vfJ (0) f r1.toInt64)) := by
  intro sz
  refine va_MetW (cc := cL_beam) (maxL := 5) (ret := some .int) (by decide) rfl ?_
  intro p e s m args below meth c s₁ B hml hv
  obtain ⟨rfl, hsz, hP, hK, hD0, hX, hN, hA0, hTS⟩ := hv
  have hx := B.exec
  have hb := B.bytes
  have hr := B.returns
  have hts := atoms_spec (ws := (Cond.codeWith yL_beam cL_beam 5 (some .int) [(0, 10, 13, 21), (0, 10, 17, 13), (0, 10, 21, 15)] :: wsA)) B.pre
  have hown : s.vm.findClass RL = some m.cls := findClass_of_methodNamed B.named
  have hlocks := B.notSynchronized
  have htb := vx_table (x := yL_beam) B (hts _ (.head _))
  subst hsz
  have hD := hD0.self (sz := s.heap.size)
  generalize hAe : va_A (cW ad T.1 (cc cI cJ cZ cMic cSrc cSt cAI cAJ ad T) ++ [oJ ao cJ f]) s.heap.size = A at hD hX hA0 ⊢
  have hA : ∀ q : Nat, s.heap.size ≤ q → A q := fun q h => by rw [← hAe]; exact Or.inr h
  have G : gL cI cJ cZ cMic cSrc cSt cAI cAJ D ad A s.heap s.heap [] T [oJ ao cJ f] := ⟨hP, hD, va_S.rf⟩
  have E : cE p c cL_beam s m ([.ref (ad o), .int a0, .int a1, .ref ao] : List Value).toArray (Cond.codeWith yL_beam cL_beam 5 (some .int) [(0, 10, 13, 21), (0, 10, 17, 13), (0, 10, 21, 15)] :: wsA) D RL (CT cI cJ cZ cMic cSrc cSt cAI cAJ ++ [(cD, .double)]) := ⟨hx, hb, hts, hown, hK⟩
  have hl := lv_entry ([.ref (ad o), .int a0, .int a1, .ref ao]) (n := 5) (Nat.le_of_ble_eq_true rfl)
  rw [lg_entry_eq]
  generalize (lg_sl ([.ref (ad o), .int a0, .int a1, .ref ao]) ++ List.replicate (5 - (lg_sl ([.ref (ad o), .int a0, .int a1, .ref ao])).length) Slot.unset).toArray = ls at hl ⊢
  have hl : lv_has ls 5 [(0, .ref (ad o)), (1, .int a0), (2, .int a1), (3, .ref ao)] := hl
  refine lv_aload_n hx hb dL_beam_0 rfl (lv_at hl 3 rfl) ?_
  refine lv_iconst (v := 0) hx hb dL_beam_1 (by decide) ?_
  refine lv_aload_n hx hb dL_beam_2 rfl (lv_at hl 0 rfl) ?_
  refine lv_iload_n hx hb dL_beam_3 rfl (lv_at hl 1 rfl) ?_
  refine lv_iload_n hx hb dL_beam_4 rfl (lv_at hl 2 rfl) ?_
  refine t_avi (As := [.int a0, .int a1]) (rest := [.int 0, .ref ao]) E G hA hX hX.2.2.2.1 hml (a_X11_beam l hst D cI cJ cZ cMic cSrc cSt cAI cAJ ad T o a0 a1 h hrc h_o) (cwV 2 hts (gaV qA_997 qA_998 qA_999 qA_131 qA_794) rfl rfl rfl (by decide +kernel) ⟨Nat.le_of_ble_eq_true rfl, Nat.le_of_ble_eq_true rfl⟩) h_o (cc_o11 h_s) rfl rfl hl.1 rfl (lv_room (Nat.le_of_ble_eq_true rfl)) dL_beam_5 ⟨by show 0 + (T1.1 - T.1) ≤ T1.1 - T.1 + 1; omega, by show 0 + (sg T1 - sg T) ≤ sg T1 - sg T + 6; omega⟩ ?_
  intro ad2 H locs had G
  refine lv_i2l (v := r1.toInt64) hx hb dL_beam_8 rfl ?_
  refine t_last E G dL_beam_9 (fun H locs G => ?_)
  refine lv_goto (tgt := 25) hx hb dL_beam_10 (by decide) ?_
  refine lv_iconst (v := 0) hx hb dL_beam_25 (by decide) ?_
  refine W.widen (k := T1.1 - T.1 + 1) (n := sg T1 - sg T + 6) (by omega) (by omega) ?_
  exact W.iret (v := 0) hx hb hr (fun t ht hW => ⟨⟨0, ad2, rfl, ⟨rfl, had⟩, ⟨by rw [ht]; exact G.1, va_K.moved hW.alike hK, G.2.1⟩⟩, G.2.2.F ht⟩) G.2.2.2.2 dL_beam_26
set_option maxHeartbeats 4000000 in
set_option maxRecDepth 100000 in
theorem v_beam_t (l : Launch) (hst : l.stackTraces = false) (D : va_G) {cI cJ cZ cMic cSrc cSt cAI cAJ cD : ClassId} (h0 : Nat) (ad : Nat → Nat) (T : AT) (o : Nat) (a0 a1 : Int32) (ao : Nat) (f : Nat → Int64) {e1 : Nat} {r1 : Int32} {T1 : AT} (h : g_X11_beam T o a0 a1 = some (e1 + 1, r1, T1)) (hrc : RC T) (h_o : o < T.1) (h_s : T.2.1 o = (11, 0)) : tWi l yL_beam (Cond.codeWith yL_beam cL_beam 5 (some .int) [(0, 10, 13, 21), (0, 10, 17, 13), (0, 10, 21, 15)] :: wsA) 9 145 cI cJ cZ cMic cSrc cSt cAI cAJ cD D h0 ad T (oJ ao cJ f) [.ref (ad o), .int a0, .int a1, .ref ao] (vck 1 2 3 (e1 + 1)) T1 (oJ ao cJ (vfJ (e1 + 1) f r1.toInt64)) := by
  intro sz
  refine va_MetW (cc := cL_beam) (maxL := 5) (ret := some .int) (by decide) rfl ?_
  intro p e s m args below meth c s₁ B hml hv
  obtain ⟨rfl, hsz, hP, hK, hD0, hX, hN, hA0, hTS⟩ := hv
  have hx := B.exec
  have hb := B.bytes
  have hr := B.returns
  have hts := atoms_spec (ws := (Cond.codeWith yL_beam cL_beam 5 (some .int) [(0, 10, 13, 21), (0, 10, 17, 13), (0, 10, 21, 15)] :: wsA)) B.pre
  have hown : s.vm.findClass RL = some m.cls := findClass_of_methodNamed B.named
  have hlocks := B.notSynchronized
  have htb := vx_table (x := yL_beam) B (hts _ (.head _))
  subst hsz
  have hD := hD0.self (sz := s.heap.size)
  generalize hAe : va_A (cW ad T.1 (cc cI cJ cZ cMic cSrc cSt cAI cAJ ad T) ++ [oJ ao cJ f]) s.heap.size = A at hD hX hA0 ⊢
  have hA : ∀ q : Nat, s.heap.size ≤ q → A q := fun q h => by rw [← hAe]; exact Or.inr h
  have G : gL cI cJ cZ cMic cSrc cSt cAI cAJ D ad A s.heap s.heap [] T [oJ ao cJ f] := ⟨hP, hD, va_S.rf⟩
  have E : cE p c cL_beam s m ([.ref (ad o), .int a0, .int a1, .ref ao] : List Value).toArray (Cond.codeWith yL_beam cL_beam 5 (some .int) [(0, 10, 13, 21), (0, 10, 17, 13), (0, 10, 21, 15)] :: wsA) D RL (CT cI cJ cZ cMic cSrc cSt cAI cAJ ++ [(cD, .double)]) := ⟨hx, hb, hts, hown, hK⟩
  have hl := lv_entry ([.ref (ad o), .int a0, .int a1, .ref ao]) (n := 5) (Nat.le_of_ble_eq_true rfl)
  rw [lg_entry_eq]
  generalize (lg_sl ([.ref (ad o), .int a0, .int a1, .ref ao]) ++ List.replicate (5 - (lg_sl ([.ref (ad o), .int a0, .int a1, .ref ao])).length) Slot.unset).toArray = ls at hl ⊢
  have hl : lv_has ls 5 [(0, .ref (ad o)), (1, .int a0), (2, .int a1), (3, .ref ao)] := hl
  refine lv_aload_n hx hb dL_beam_0 rfl (lv_at hl 3 rfl) ?_
  refine lv_iconst (v := 0) hx hb dL_beam_1 (by decide) ?_
  refine lv_aload_n hx hb dL_beam_2 rfl (lv_at hl 0 rfl) ?_
  refine lv_iload_n hx hb dL_beam_3 rfl (lv_at hl 1 rfl) ?_
  refine lv_iload_n hx hb dL_beam_4 rfl (lv_at hl 2 rfl) ?_
  refine t_bvi (As := [.int a0, .int a1]) (rest := [.int 0, .ref ao]) E G hA hX hX.2.2.2.1 hml (b_X11_beam l hst D cI cJ cZ cMic cSrc cSt cAI cAJ ad T o a0 a1 h hrc h_o) (cwV 2 hts (gaV qA_997 qA_998 qA_999 qA_131 qA_794) rfl rfl rfl (by decide +kernel) ⟨Nat.le_of_ble_eq_true rfl, Nat.le_of_ble_eq_true rfl⟩) h_o (cc_o11 h_s) rfl rfl hl.1 rfl (lv_room (Nat.le_of_ble_eq_true rfl)) dL_beam_5 ⟨by show 0 + (T1.1 - T.1 + 1) ≤ T1.1 - T.1 + 1; omega, by show 0 + (sg T1 - sg T + 6) ≤ sg T1 - sg T + 6; omega⟩ ?_
  intro E9 ce q9 ad2 H locs hE had G hce hcv hcl
  rcases e1 with _ | _ | e1
  · have hE : E9 = xISE := hE
    subst hE
    refine vx_catch (name := xISE) hown [] { startPc := 0, endPc := 10, handlerPc := 13, catchType := 21 } [{ startPc := 0, endPc := 10, handlerPc := 17, catchType := 13 }, { startPc := 0, endPc := 10, handlerPc := 21, catchType := 15 }] htb (fun z hz => absurd hz List.not_mem_nil) (by decide) (by decide) (hts _ (.tail _ qA_952)) (hX.use (.castable xISE xISE) (by decide +kernel)) hce hcv hcl ?_
    refine lv_astore (lv' := [(4, .ref q9), (0, .ref (ad o)), (1, .int a0), (2, .int a1), (3, .ref ao)]) hx hb dL_beam_13 hl (by decide) rfl (fun ls hl => ?_)
    refine lv_iconst (v := 1) hx hb dL_beam_15 (by decide) ?_
    refine W.widen (k := T1.1 - T.1 + 1) (n := sg T1 - sg T + 6) (by omega) (by omega) ?_
    exact W.iret (v := 1) hx hb hr (fun t ht hW => ⟨⟨1, ad2, rfl, ⟨rfl, had⟩, ⟨by rw [ht]; exact G.1, va_K.moved hW.alike hK, G.2.1⟩⟩, G.2.2.F ht⟩) G.2.2.2.2 dL_beam_16
  · have hE : E9 = xIOB := hE
    subst hE
    refine vx_catch (name := xIOB) hown [{ startPc := 0, endPc := 10, handlerPc := 13, catchType := 21 }] { startPc := 0, endPc := 10, handlerPc := 17, catchType := 13 } [{ startPc := 0, endPc := 10, handlerPc := 21, catchType := 15 }] htb (List.forall_mem_cons.mpr ⟨Or.inr ⟨by decide, xISE, hts _ (.tail _ qA_952), hN.2.2.1⟩, fun z hz => absurd hz List.not_mem_nil⟩) (by decide) (by decide) (hts _ (.tail _ qA_946)) (hX.use (.castable xIOB xIOB) (by decide +kernel)) hce hcv hcl ?_
    refine lv_astore (lv' := [(4, .ref q9), (0, .ref (ad o)), (1, .int a0), (2, .int a1), (3, .ref ao)]) hx hb dL_beam_17 hl (by decide) rfl (fun ls hl => ?_)
    refine lv_iconst (v := 2) hx hb dL_beam_19 (by decide) ?_
    refine W.widen (k := T1.1 - T.1 + 1) (n := sg T1 - sg T + 6) (by omega) (by omega) ?_
    exact W.iret (v := 2) hx hb hr (fun t ht hW => ⟨⟨2, ad2, rfl, ⟨rfl, had⟩, ⟨by rw [ht]; exact G.1, va_K.moved hW.alike hK, G.2.1⟩⟩, G.2.2.F ht⟩) G.2.2.2.2 dL_beam_20
  · have hE : E9 = xIAE := hE
    subst hE
    refine vx_catch (name := xIAE) hown [{ startPc := 0, endPc := 10, handlerPc := 13, catchType := 21 }, { startPc := 0, endPc := 10, handlerPc := 17, catchType := 13 }] { startPc := 0, endPc := 10, handlerPc := 21, catchType := 15 } [] htb (List.forall_mem_cons.mpr ⟨Or.inr ⟨by decide, xISE, hts _ (.tail _ qA_952), hN.2.2.2⟩, List.forall_mem_cons.mpr ⟨Or.inr ⟨by decide, xIOB, hts _ (.tail _ qA_946), hN.1⟩, fun z hz => absurd hz List.not_mem_nil⟩⟩) (by decide) (by decide) (hts _ (.tail _ qA_947)) (hX.use (.castable xIAE xIAE) (by decide +kernel)) hce hcv hcl ?_
    refine lv_astore (lv' := [(4, .ref q9), (0, .ref (ad o)), (1, .int a0), (2, .int a1), (3, .ref ao)]) hx hb dL_beam_21 hl (by decide) rfl (fun ls hl => ?_)
    refine lv_iconst (v := 3) hx hb dL_beam_23 (by decide) ?_
    refine W.widen (k := T1.1 - T.1 + 1) (n := sg T1 - sg T + 6) (by omega) (by omega) ?_
    exact W.iret (v := 3) hx hb hr (fun t ht hW => ⟨⟨3, ad2, rfl, ⟨rfl, had⟩, ⟨by rw [ht]; exact G.1, va_K.moved hW.alike hK, G.2.1⟩⟩, G.2.2.F ht⟩) G.2.2.2.2 dL_beam_24
theorem v_beam (l : Launch) (hst : l.stackTraces = false) (D : va_G) {cI cJ cZ cMic cSrc cSt cAI cAJ cD : ClassId} (h0 : Nat) (ad : Nat → Nat) (T : AT) (o : Nat) (a0 a1 : Int32) (ao : Nat) (f : Nat → Int64) {k1 : Nat} {r1 : Int32} {T1 : AT} (h : g_X11_beam T o a0 a1 = some (k1, r1, T1)) (hrc : RC T) (h_o : o < T.1) (h_s : T.2.1 o = (11, 0)) : tWi l yL_beam (Cond.codeWith yL_beam cL_beam 5 (some .int) [(0, 10, 13, 21), (0, 10, 17, 13), (0, 10, 21, 15)] :: wsA) 9 145 cI cJ cZ cMic cSrc cSt cAI cAJ cD D h0 ad T (oJ ao cJ f) [.ref (ad o), .int a0, .int a1, .ref ao] (vck 1 2 3 k1) T1 (oJ ao cJ (vfJ k1 f r1.toInt64)) := by
  cases k1 with
  | zero => exact v_beam_n l hst D h0 ad T o a0 a1 ao f h hrc h_o h_s
  | succ e1 => exact v_beam_t l hst D h0 ad T o a0 a1 ao f h hrc h_o h_s
set_option maxHeartbeats 4000000 in
set_option maxRecDepth 100000 in
theorem v_power_n (l : Launch) (hst : l.stackTraces = false) (D : va_G) {cI cJ cZ cMic cSrc cSt cAI cAJ cD : ClassId} (h0 : Nat) (ad : Nat → Nat) (T : AT) (o : Nat) (a0 : Int32) (ao : Nat) (f : Nat → Int64) {r1 : Int64} {T1 : AT} (h : g_X11_power T o a0 = some (0, r1, T1)) (hrc : RC T) (h_o : o < T.1) (h_s : T.2.1 o = (11, 0)) : tWi l yL_power (Cond.codeWith yL_power cL_power 4 (some .int) [(0, 8, 11, 21), (0, 8, 14, 13)] :: wsA) 9 170 cI cJ cZ cMic cSrc cSt cAI cAJ cD D h0 ad T (oJ ao cJ f) [.ref (ad o), .int a0, .ref ao] (vck 1 2 0 (0)) T1 (oJ ao cJ (vfJ (0) f r1)) := by
  intro sz
  refine va_MetW (cc := cL_power) (maxL := 4) (ret := some .int) (by decide) rfl ?_
  intro p e s m args below meth c s₁ B hml hv
  obtain ⟨rfl, hsz, hP, hK, hD0, hX, hN, hA0, hTS⟩ := hv
  have hx := B.exec
  have hb := B.bytes
  have hr := B.returns
  have hts := atoms_spec (ws := (Cond.codeWith yL_power cL_power 4 (some .int) [(0, 8, 11, 21), (0, 8, 14, 13)] :: wsA)) B.pre
  have hown : s.vm.findClass RL = some m.cls := findClass_of_methodNamed B.named
  have hlocks := B.notSynchronized
  have htb := vx_table (x := yL_power) B (hts _ (.head _))
  subst hsz
  have hD := hD0.self (sz := s.heap.size)
  generalize hAe : va_A (cW ad T.1 (cc cI cJ cZ cMic cSrc cSt cAI cAJ ad T) ++ [oJ ao cJ f]) s.heap.size = A at hD hX hA0 ⊢
  have hA : ∀ q : Nat, s.heap.size ≤ q → A q := fun q h => by rw [← hAe]; exact Or.inr h
  have G : gL cI cJ cZ cMic cSrc cSt cAI cAJ D ad A s.heap s.heap [] T [oJ ao cJ f] := ⟨hP, hD, va_S.rf⟩
  have E : cE p c cL_power s m ([.ref (ad o), .int a0, .ref ao] : List Value).toArray (Cond.codeWith yL_power cL_power 4 (some .int) [(0, 8, 11, 21), (0, 8, 14, 13)] :: wsA) D RL (CT cI cJ cZ cMic cSrc cSt cAI cAJ ++ [(cD, .double)]) := ⟨hx, hb, hts, hown, hK⟩
  have hl := lv_entry ([.ref (ad o), .int a0, .ref ao]) (n := 4) (Nat.le_of_ble_eq_true rfl)
  rw [lg_entry_eq]
  generalize (lg_sl ([.ref (ad o), .int a0, .ref ao]) ++ List.replicate (4 - (lg_sl ([.ref (ad o), .int a0, .ref ao])).length) Slot.unset).toArray = ls at hl ⊢
  have hl : lv_has ls 4 [(0, .ref (ad o)), (1, .int a0), (2, .ref ao)] := hl
  refine lv_aload_n hx hb dL_power_0 rfl (lv_at hl 2 rfl) ?_
  refine lv_iconst (v := 0) hx hb dL_power_1 (by decide) ?_
  refine lv_aload_n hx hb dL_power_2 rfl (lv_at hl 0 rfl) ?_
  refine lv_iload_n hx hb dL_power_3 rfl (lv_at hl 1 rfl) ?_
  refine t_avl (As := [.int a0]) (rest := [.int 0, .ref ao]) E G hA hX hX.2.2.2.1 hml (a_X11_power l hst D cI cJ cZ cMic cSrc cSt cAI cAJ ad T o a0 h hrc h_o) (cwV 1 hts (gaV qA_1001 qA_1002 qA_1003 qA_131 qA_797) rfl rfl rfl (by decide +kernel) ⟨Nat.le_of_ble_eq_true rfl, Nat.le_of_ble_eq_true rfl⟩) h_o (cc_o11 h_s) rfl rfl hl.1 rfl (lv_room (Nat.le_of_ble_eq_true rfl)) dL_power_4 ⟨by show 0 + (T1.1 - T.1) ≤ T1.1 - T.1 + 1; omega, by show 0 + (sg T1 - sg T) ≤ sg T1 - sg T + 6; omega⟩ ?_
  intro ad2 H locs had G
  refine t_last E G dL_power_7 (fun H locs G => ?_)
  refine lv_goto (tgt := 17) hx hb dL_power_8 (by decide) ?_
  refine lv_iconst (v := 0) hx hb dL_power_17 (by decide) ?_
  refine W.widen (k := T1.1 - T.1 + 1) (n := sg T1 - sg T + 6) (by omega) (by omega) ?_
  exact W.iret (v := 0) hx hb hr (fun t ht hW => ⟨⟨0, ad2, rfl, ⟨rfl, had⟩, ⟨by rw [ht]; exact G.1, va_K.moved hW.alike hK, G.2.1⟩⟩, G.2.2.F ht⟩) G.2.2.2.2 dL_power_18
set_option maxHeartbeats 4000000 in
set_option maxRecDepth 100000 in
theorem v_power_t (l : Launch) (hst : l.stackTraces = false) (D : va_G) {cI cJ cZ cMic cSrc cSt cAI cAJ cD : ClassId} (h0 : Nat) (ad : Nat → Nat) (T : AT) (o : Nat) (a0 : Int32) (ao : Nat) (f : Nat → Int64) {e1 : Nat} {r1 : Int64} {T1 : AT} (h : g_X11_power T o a0 = some (e1 + 1, r1, T1)) (hrc : RC T) (h_o : o < T.1) (h_s : T.2.1 o = (11, 0)) : tWi l yL_power (Cond.codeWith yL_power cL_power 4 (some .int) [(0, 8, 11, 21), (0, 8, 14, 13)] :: wsA) 9 170 cI cJ cZ cMic cSrc cSt cAI cAJ cD D h0 ad T (oJ ao cJ f) [.ref (ad o), .int a0, .ref ao] (vck 1 2 0 (e1 + 1)) T1 (oJ ao cJ (vfJ (e1 + 1) f r1)) := by
  intro sz
  refine va_MetW (cc := cL_power) (maxL := 4) (ret := some .int) (by decide) rfl ?_
  intro p e s m args below meth c s₁ B hml hv
  obtain ⟨rfl, hsz, hP, hK, hD0, hX, hN, hA0, hTS⟩ := hv
  have hx := B.exec
  have hb := B.bytes
  have hr := B.returns
  have hts := atoms_spec (ws := (Cond.codeWith yL_power cL_power 4 (some .int) [(0, 8, 11, 21), (0, 8, 14, 13)] :: wsA)) B.pre
  have hown : s.vm.findClass RL = some m.cls := findClass_of_methodNamed B.named
  have hlocks := B.notSynchronized
  have htb := vx_table (x := yL_power) B (hts _ (.head _))
  subst hsz
  have hD := hD0.self (sz := s.heap.size)
  generalize hAe : va_A (cW ad T.1 (cc cI cJ cZ cMic cSrc cSt cAI cAJ ad T) ++ [oJ ao cJ f]) s.heap.size = A at hD hX hA0 ⊢
  have hA : ∀ q : Nat, s.heap.size ≤ q → A q := fun q h => by rw [← hAe]; exact Or.inr h
  have G : gL cI cJ cZ cMic cSrc cSt cAI cAJ D ad A s.heap s.heap [] T [oJ ao cJ f] := ⟨hP, hD, va_S.rf⟩
  have E : cE p c cL_power s m ([.ref (ad o), .int a0, .ref ao] : List Value).toArray (Cond.codeWith yL_power cL_power 4 (some .int) [(0, 8, 11, 21), (0, 8, 14, 13)] :: wsA) D RL (CT cI cJ cZ cMic cSrc cSt cAI cAJ ++ [(cD, .double)]) := ⟨hx, hb, hts, hown, hK⟩
  have hl := lv_entry ([.ref (ad o), .int a0, .ref ao]) (n := 4) (Nat.le_of_ble_eq_true rfl)
  rw [lg_entry_eq]
  generalize (lg_sl ([.ref (ad o), .int a0, .ref ao]) ++ List.replicate (4 - (lg_sl ([.ref (ad o), .int a0, .ref ao])).length) Slot.unset).toArray = ls at hl ⊢
  have hl : lv_has ls 4 [(0, .ref (ad o)), (1, .int a0), (2, .ref ao)] := hl
  refine lv_aload_n hx hb dL_power_0 rfl (lv_at hl 2 rfl) ?_
  refine lv_iconst (v := 0) hx hb dL_power_1 (by decide) ?_
  refine lv_aload_n hx hb dL_power_2 rfl (lv_at hl 0 rfl) ?_
  refine lv_iload_n hx hb dL_power_3 rfl (lv_at hl 1 rfl) ?_
  refine t_bvl (As := [.int a0]) (rest := [.int 0, .ref ao]) E G hA hX hX.2.2.2.1 hml (b_X11_power l hst D cI cJ cZ cMic cSrc cSt cAI cAJ ad T o a0 h hrc h_o) (cwV 1 hts (gaV qA_1001 qA_1002 qA_1003 qA_131 qA_797) rfl rfl rfl (by decide +kernel) ⟨Nat.le_of_ble_eq_true rfl, Nat.le_of_ble_eq_true rfl⟩) h_o (cc_o11 h_s) rfl rfl hl.1 rfl (lv_room (Nat.le_of_ble_eq_true rfl)) dL_power_4 ⟨by show 0 + (T1.1 - T.1 + 1) ≤ T1.1 - T.1 + 1; omega, by show 0 + (sg T1 - sg T + 6) ≤ sg T1 - sg T + 6; omega⟩ ?_
  intro E9 ce q9 ad2 H locs hE had G hce hcv hcl
  rcases e1 with _ | _ | e1
  · have hE : E9 = xISE := hE
    subst hE
    refine vx_catch (name := xISE) hown [] { startPc := 0, endPc := 8, handlerPc := 11, catchType := 21 } [{ startPc := 0, endPc := 8, handlerPc := 14, catchType := 13 }] htb (fun z hz => absurd hz List.not_mem_nil) (by decide) (by decide) (hts _ (.tail _ qA_952)) (hX.use (.castable xISE xISE) (by decide +kernel)) hce hcv hcl ?_
    refine lv_astore_n (lv' := [(3, .ref q9), (0, .ref (ad o)), (1, .int a0), (2, .ref ao)]) hx hb dL_power_11 rfl hl (by decide) rfl (fun ls hl => ?_)
    refine lv_iconst (v := 1) hx hb dL_power_12 (by decide) ?_
    refine W.widen (k := T1.1 - T.1 + 1) (n := sg T1 - sg T + 6) (by omega) (by omega) ?_
    exact W.iret (v := 1) hx hb hr (fun t ht hW => ⟨⟨1, ad2, rfl, ⟨rfl, had⟩, ⟨by rw [ht]; exact G.1, va_K.moved hW.alike hK, G.2.1⟩⟩, G.2.2.F ht⟩) G.2.2.2.2 dL_power_13
  · have hE : E9 = xIOB := hE
    subst hE
    refine vx_catch (name := xIOB) hown [{ startPc := 0, endPc := 8, handlerPc := 11, catchType := 21 }] { startPc := 0, endPc := 8, handlerPc := 14, catchType := 13 } [] htb (List.forall_mem_cons.mpr ⟨Or.inr ⟨by decide, xISE, hts _ (.tail _ qA_952), hN.2.2.1⟩, fun z hz => absurd hz List.not_mem_nil⟩) (by decide) (by decide) (hts _ (.tail _ qA_946)) (hX.use (.castable xIOB xIOB) (by decide +kernel)) hce hcv hcl ?_
    refine lv_astore_n (lv' := [(3, .ref q9), (0, .ref (ad o)), (1, .int a0), (2, .ref ao)]) hx hb dL_power_14 rfl hl (by decide) rfl (fun ls hl => ?_)
    refine lv_iconst (v := 2) hx hb dL_power_15 (by decide) ?_
    refine W.widen (k := T1.1 - T.1 + 1) (n := sg T1 - sg T + 6) (by omega) (by omega) ?_
    exact W.iret (v := 2) hx hb hr (fun t ht hW => ⟨⟨2, ad2, rfl, ⟨rfl, had⟩, ⟨by rw [ht]; exact G.1, va_K.moved hW.alike hK, G.2.1⟩⟩, G.2.2.F ht⟩) G.2.2.2.2 dL_power_16
  · have q := (cd_g_X11_power (S := [0, 1, 2]) (fun _ h => h) T o a0 _ _ _ h)
    simp only [List.mem_cons, List.not_mem_nil, or_false] at q
    omega
theorem v_power (l : Launch) (hst : l.stackTraces = false) (D : va_G) {cI cJ cZ cMic cSrc cSt cAI cAJ cD : ClassId} (h0 : Nat) (ad : Nat → Nat) (T : AT) (o : Nat) (a0 : Int32) (ao : Nat) (f : Nat → Int64) {k1 : Nat} {r1 : Int64} {T1 : AT} (h : g_X11_power T o a0 = some (k1, r1, T1)) (hrc : RC T) (h_o : o < T.1) (h_s : T.2.1 o = (11, 0)) : tWi l yL_power (Cond.codeWith yL_power cL_power 4 (some .int) [(0, 8, 11, 21), (0, 8, 14, 13)] :: wsA) 9 170 cI cJ cZ cMic cSrc cSt cAI cAJ cD D h0 ad T (oJ ao cJ f) [.ref (ad o), .int a0, .ref ao] (vck 1 2 0 k1) T1 (oJ ao cJ (vfJ k1 f r1)) := by
  cases k1 with
  | zero => exact v_power_n l hst D h0 ad T o a0 ao f h hrc h_o h_s
  | succ e1 => exact v_power_t l hst D h0 ad T o a0 ao f h hrc h_o h_s
end
