set_option maxHeartbeats 4000000 in
set_option maxRecDepth 10000 in
theorem cl_X11_bestLag_b49 {R : Nat → Nat} {B K1 K2 : Nat} {Q : Nat × Int32 × AT → Prop} (l0 : Nat) (l1 : Int32) (l2 : Int32) (l3 : Int32) (T00 : AT) (k_l0 : R l0 = 11) (g0 : 0 ≤ l1.toInt ∧ l1.toInt ≤ 11) (g1 : 0 ≤ l2.toInt ∧ l2.toInt ≤ 11) (g2 : 0 ≤ l3.toInt ∧ l3.toInt ≤ 199) (hx0 : ∀ (T : AT) (l4 : Int32), (IV R B K1 K2 T) → (FW R [3202] T00 T) → (0 ≤ l4.toInt ∧ l4.toInt ≤ 199) → Tot (some (0, l4, T)) Q) : ∀ (n : Nat) (T : AT) (l4 : Int32) (l5 : Int32), (IV R B K1 K2 T) → (FW R [3202] T00 T) → (0 ≤ l4.toInt ∧ l4.toInt ≤ 199) → (1 ≤ l5.toInt ∧ l5.toInt ≤ 200) → 200 - l5.toInt < (n : Int) → Tot (g_X11_bestLag_b49 n T l0 l1 l2 l3 l4 l5) Q := by
  have z0 : ((1 : Int32) : Int32).toInt = 1 := by decide
  have z1 : ((0 : Int32) : Int32).toInt = 0 := by decide
  have z2 : (0 : Int32).toInt = 0 := by decide
  have z3 : (Int32.ofInt (1) : Int32).toInt = 1 := by decide
  have cc_101 : cnt 101 = 1 := rfl
  have cc_102 : cnt 102 = 12 := rfl
  have cc_103 : cnt 103 = 144 := rfl
  have cc_104 : cnt 104 = 2400 := rfl
  have cc_105 : cnt 105 = 7200 := rfl
  have j_l1 := i_any l1
  have j_l2 := i_any l2
  have j_l3 := i_any l3
  intro n
  induction n with
  | zero =>
    intro T l4 l5 h_T x_T g_l4 g_l5 hm
    exfalso
    omega
  | succ n ih =>
    intro T l4 l5 h_T x_T g_l4 g_l5 hm
    unfold g_X11_bestLag_b49
    refine tot_if (fun c_40 => ?_) (fun c_40 => ?_)
    · replace c_40 := i_lt c_40
      exact hx0 T l4 h_T x_T (by omega)
    · replace c_40 := i_nlt c_40
      refine tot_oif (iv_oO h_T k_l0 (by decide) (by decide) rfl) ?_
      refine tot_ref h_T k_l0 (by decide) (by decide) (r2 := 8) (rfl : rtg 11 6 = 8) (by decide) (fun n_37 k_n_37 e_n_37 => ?_)
      refine tot_oif (iv_oO h_T k_l0 (by decide) (by decide) rfl) ?_
      refine tot_ref h_T k_l0 (by decide) (by decide) (r2 := 102) (rfl : rtg 11 12 = 102) (by decide) (fun n_38 k_n_38 e_n_38 => ?_)
      refine tot_oif (iv_oO h_T k_n_37 (by decide) (by decide) rfl) ?_
      refine tot_bind (cs_X8_productSum T n_37 l1 l2 l5 n_38 (1 : Int32) h_T k_n_37 k_n_38 (rfl : isW 102 = true) (by omega) (by omega) (by omega) (by omega) (by omega)) (fun T_39 d_T_39 => ?_)
      have h_T_39 : IV R B K1 K2 T_39 := d_T_39.1
      have y_T_39 : FW R [3202] T T_39 := d_T_39.2
      have x_T_39 := x_T.tr (y_T_39.w (by decide))
      unfold g_X11_bestLag_b71
      refine tot_oif (iv_oO h_T_39 k_l0 (by decide) (by decide) rfl) ?_
      refine tot_ref h_T_39 k_l0 (by decide) (by decide) (r2 := 102) (rfl : rtg 11 12 = 102) (by decide) (fun n_41 k_n_41 e_n_41 => ?_)
      refine tot_oif (w_oO h_T_39 k_n_41 (rfl : isW 102 = true)) ?_
      refine tot_bindq (R := fun r_42 : Int32 => True) (c_compare (a0 := (1 : Int32)) (a1 := (0 : Int32)) k_n_41 (rfl : isW 102 = true) h_T_39 (by omega) (by omega)) (fun r_42 d_r_42 => ?_)
      have r_r_42 := i_any r_42
      refine tot_if (fun c_47 => ?_) (fun c_47 => ?_)
      · replace c_47 := i_le c_47
        unfold g_X11_bestLag_b100
        refine tot_let (fun v_48 e_v_48 => ?_)
        have q_v_48 := i_add e_v_48 (by omega) (by omega)
        exact ih T_39 l4 v_48 h_T_39 x_T_39 (by omega) (by omega) (by omega)
      · replace c_47 := i_nle c_47
        refine tot_oif (iv_oO h_T_39 k_l0 (by decide) (by decide) rfl) ?_
        refine tot_ref1 e_n_41 ?_
        refine tot_oif (iv_oO h_T_39 k_l0 (by decide) (by decide) rfl) ?_
        refine tot_ref1 e_n_41 ?_
        refine tot_oif (w_oO h_T_39 k_n_41 (rfl : isW 102 = true)) ?_
        refine tot_bind (c_set (a0 := (0 : Int32)) (a2 := (1 : Int32)) k_n_41 (rfl : isW 102 = true) k_n_41 (rfl : isW 102 = true) h_T_39 (by omega) (by omega)) (fun T_46 d_T_46 => ?_)
        have h_T_46 : IV R B K1 K2 T_46 := d_T_46.1
        have y_T_46 : FW R [3202] T_39 T_46 := (fw_wx d_T_46.2 k_n_41 (rfl : isW 102 = true) (by decide))
        have x_T_46 := x_T_39.tr (y_T_46.w (by decide))
        unfold g_X11_bestLag_b96
        unfold g_X11_bestLag_b100
        refine tot_let (fun v_49 e_v_49 => ?_)
        have q_v_49 := i_add e_v_49 (by omega) (by omega)
        exact ih T_46 l5 v_49 h_T_46 x_T_46 (by omega) (by omega) (by omega)
set_option maxHeartbeats 4000000 in
set_option maxRecDepth 10000 in
theorem cs_X11_bestLag {R : Nat → Nat} {B K1 K2 : Nat} (T : AT) (o : Nat) (a0 : Int32) (a1 : Int32) (a2 : Int32) (h_T : IV R B K1 K2 T) (k_o : R o = 11) : Tot (g_X11_bestLag T o a0 a1 a2) (fun r => (IV R B K1 K2 r.2.2 ∧ FW R [3202] T r.2.2) ∧ (r.1 = 0 → (0 ≤ r.2.1.toInt ∧ r.2.1.toInt ≤ 199))) := by
  have z0 : (1 : Int32).toInt = 1 := by decide
  have z1 : ((0 : Int32) : Int32).toInt = 0 := by decide
  have z2 : (0 : Int32).toInt = 0 := by decide
  have cc_101 : cnt 101 = 1 := rfl
  have cc_102 : cnt 102 = 12 := rfl
  have cc_103 : cnt 103 = 144 := rfl
  have cc_104 : cnt 104 = 2400 := rfl
  have cc_105 : cnt 105 = 7200 := rfl
  have x_T : FW R [3202] T T := FW.rf
  have j_a0 := i_any a0
  have j_a1 := i_any a1
  have j_a2 := i_any a2
  unfold g_X11_bestLag
  refine tot_oif (iv_oO h_T k_o (by decide) (by decide) rfl) ?_
  refine tot_thrp (Q := fun r_1 : Int32 => (0 ≤ r_1.toInt ∧ r_1.toInt ≤ 0)) (cs_X11_needCamera T o h_T k_o ) (fun r_1 d_r_1 => ?_) (fun k_ => ⟨⟨h_T, x_T⟩, fun q_ => absurd q_ (Nat.succ_ne_zero k_)⟩)
  replace d_r_1 : (0 ≤ r_1.toInt ∧ r_1.toInt ≤ 0) := d_r_1
  refine tot_oif (iv_oO h_T k_o (by decide) (by decide) rfl) ?_
  refine tot_thrp (Q := fun r_3 : Int32 => (0 ≤ a0.toInt ∧ a0.toInt ≤ 11)) (cs_X11_needMic T o a0 h_T k_o ) (fun r_3 d_r_3 => ?_) (fun k_ => ⟨⟨h_T, x_T⟩, fun q_ => absurd q_ (Nat.succ_ne_zero k_)⟩)
  replace d_r_3 : (0 ≤ a0.toInt ∧ a0.toInt ≤ 11) := d_r_3
  refine tot_oif (iv_oO h_T k_o (by decide) (by decide) rfl) ?_
  refine tot_thrp (Q := fun r_5 : Int32 => (0 ≤ a1.toInt ∧ a1.toInt ≤ 11)) (cs_X11_needMic T o a1 h_T k_o ) (fun r_5 d_r_5 => ?_) (fun k_ => ⟨⟨h_T, x_T⟩, fun q_ => absurd q_ (Nat.succ_ne_zero k_)⟩)
  replace d_r_5 : (0 ≤ a1.toInt ∧ a1.toInt ≤ 11) := d_r_5
  refine tot_oif (iv_oO h_T k_o (by decide) (by decide) rfl) ?_
  refine tot_ref h_T k_o (by decide) (by decide) (r2 := 6) (rfl : rtg 11 14 = 6) (by decide) (fun n_7 k_n_7 e_n_7 => ?_)
  refine tot_oif (iv_oO h_T k_n_7 (by decide) (by decide) rfl) ?_
  refine tot_let (fun v_8 e_v_8 => ?_)
  have r_v_8 : 0 ≤ v_8.toInt ∧ v_8.toInt ≤ 200 := iv_int h_T k_n_7 (by decide) (by decide) e_v_8 rfl
  refine tot_let (fun v_9 e_v_9 => ?_)
  have q_v_9 := i_sub e_v_9 (by omega) (by omega)
  refine tot_thrp (Q := fun r_10 : Int32 => (((0 : Int32) : Int32).toInt ≤ a2.toInt ∧ a2.toInt ≤ v_9.toInt)) (cs_X11_needRange T a2 (0 : Int32) v_9 h_T ) (fun r_10 d_r_10 => ?_) (fun k_ => ⟨⟨h_T, x_T⟩, fun q_ => absurd q_ (Nat.succ_ne_zero k_)⟩)
  replace d_r_10 : (((0 : Int32) : Int32).toInt ≤ a2.toInt ∧ a2.toInt ≤ v_9.toInt) := d_r_10
  refine tot_oif (iv_oO h_T k_o (by decide) (by decide) rfl) ?_
  refine tot_ref h_T k_o (by decide) (by decide) (r2 := 8) (rfl : rtg 11 6 = 8) (by decide) (fun n_12 k_n_12 e_n_12 => ?_)
  refine tot_oif (iv_oO h_T k_o (by decide) (by decide) rfl) ?_
  refine tot_ref h_T k_o (by decide) (by decide) (r2 := 102) (rfl : rtg 11 12 = 102) (by decide) (fun n_13 k_n_13 e_n_13 => ?_)
  refine tot_oif (iv_oO h_T k_n_12 (by decide) (by decide) rfl) ?_
  refine tot_bind (cs_X8_productSum T n_12 a0 a1 (0 : Int32) n_13 (0 : Int32) h_T k_n_12 k_n_13 (rfl : isW 102 = true) (by omega) (by omega) (by omega) (by omega) (by omega)) (fun T_14 d_T_14 => ?_)
  have h_T_14 : IV R B K1 K2 T_14 := d_T_14.1
  have y_T_14 : FW R [3202] T T_14 := d_T_14.2
  have x_T_14 := x_T.tr (y_T_14.w (by decide))
  unfold g_X11_bestLag_b46
  refine cl_X11_bestLag_b49 o a0 a1 a2 T k_o (by omega) (by omega) (by omega) ?_ 16384 T_14 0 1 h_T_14 x_T_14 (by omega) (by omega) (by omega)
  · intro T_50 l_51 h_T_50 x_T_50 g_l_51
    exact tot_some ⟨⟨h_T_50, x_T_50⟩, fun _ => (show (0 ≤ l_51.toInt ∧ l_51.toInt ≤ 199) from by omega)⟩
set_option maxHeartbeats 4000000 in
set_option maxRecDepth 10000 in
theorem cs_X11_measureLevel {R : Nat → Nat} {B K1 K2 : Nat} (T : AT) (o : Nat) (a0 : Int32) (h_T : IV R B K1 K2 T) (k_o : R o = 11) (g0 : 0 ≤ a0.toInt ∧ a0.toInt ≤ 11) : Tot (g_X11_measureLevel T o a0) (fun T1 => IV R B K1 K2 T1 ∧ FW R [3202] T T1) := by
  have z0 : ((0 : Int32) : Int32).toInt = 0 := by decide
  have cc_101 : cnt 101 = 1 := rfl
  have cc_102 : cnt 102 = 12 := rfl
  have cc_103 : cnt 103 = 144 := rfl
  have cc_104 : cnt 104 = 2400 := rfl
  have cc_105 : cnt 105 = 7200 := rfl
  have x_T : FW R [3202] T T := FW.rf
  have j_a0 := i_any a0
  unfold g_X11_measureLevel
  refine tot_oif (iv_oO h_T k_o (by decide) (by decide) rfl) ?_
  refine tot_ref h_T k_o (by decide) (by decide) (r2 := 8) (rfl : rtg 11 6 = 8) (by decide) (fun n_1 k_n_1 e_n_1 => ?_)
  refine tot_oif (iv_oO h_T k_o (by decide) (by decide) rfl) ?_
  refine tot_ref h_T k_o (by decide) (by decide) (r2 := 102) (rfl : rtg 11 12 = 102) (by decide) (fun n_2 k_n_2 e_n_2 => ?_)
  refine tot_oif (iv_oO h_T k_n_1 (by decide) (by decide) rfl) ?_
  refine tot_bind (cs_X8_productSum T n_1 a0 a0 (0 : Int32) n_2 a0 h_T k_n_1 k_n_2 (rfl : isW 102 = true) (by omega) (by omega) (by omega) (by omega) (by omega)) (fun T_3 d_T_3 => ?_)
  have h_T_3 : IV R B K1 K2 T_3 := d_T_3.1
  have y_T_3 : FW R [3202] T T_3 := d_T_3.2
  have x_T_3 := x_T.tr (y_T_3.w (by decide))
  unfold g_X11_measureLevel_b15
  refine tot_oif (iv_oO h_T_3 k_o (by decide) (by decide) rfl) ?_
  refine tot_ref h_T_3 k_o (by decide) (by decide) (r2 := 102) (rfl : rtg 11 12 = 102) (by decide) (fun n_4 k_n_4 e_n_4 => ?_)
  refine tot_oif (iv_oO h_T_3 k_o (by decide) (by decide) rfl) ?_
  refine tot_ref h_T_3 k_o (by decide) (by decide) (r2 := 6) (rfl : rtg 11 14 = 6) (by decide) (fun n_5 k_n_5 e_n_5 => ?_)
  refine tot_oif (iv_oO h_T_3 k_n_5 (by decide) (by decide) rfl) ?_
  refine tot_let (fun v_6 e_v_6 => ?_)
  have r_v_6 : 0 ≤ v_6.toInt ∧ v_6.toInt ≤ 200 := iv_int h_T_3 k_n_5 (by decide) (by decide) e_v_6 rfl
  refine tot_oif (w_oO h_T_3 k_n_4 (rfl : isW 102 = true)) ?_
  refine tot_bind (c_divide (a0 := a0) (a1 := v_6) k_n_4 (rfl : isW 102 = true) h_T_3 (by omega)) (fun T_7 d_T_7 => ?_)
  have h_T_7 : IV R B K1 K2 T_7 := d_T_7.1
  have y_T_7 : FW R [3202] T_3 T_7 := (fw_wx d_T_7.2 k_n_4 (rfl : isW 102 = true) (by decide))
  have x_T_7 := x_T_3.tr (y_T_7.w (by decide))
  unfold g_X11_measureLevel_b30
  exact tot_some ⟨h_T_7, x_T_7⟩
set_option maxHeartbeats 4000000 in
set_option maxRecDepth 10000 in
theorem cs_X11_level {R : Nat → Nat} {B K1 K2 : Nat} (T : AT) (o : Nat) (a0 : Int32) (h_T : IV R B K1 K2 T) (k_o : R o = 11) : Tot (g_X11_level T o a0) (fun r => (IV R B K1 K2 r.2.2 ∧ FW R [3202] T r.2.2) ∧ (r.1 = 0 → True)) := by
  have cc_101 : cnt 101 = 1 := rfl
  have cc_102 : cnt 102 = 12 := rfl
  have cc_103 : cnt 103 = 144 := rfl
  have cc_104 : cnt 104 = 2400 := rfl
  have cc_105 : cnt 105 = 7200 := rfl
  have x_T : FW R [3202] T T := FW.rf
  have j_a0 := i_any a0
  unfold g_X11_level
  refine tot_oif (iv_oO h_T k_o (by decide) (by decide) rfl) ?_
  refine tot_thrp (Q := fun r_1 : Int32 => (0 ≤ r_1.toInt ∧ r_1.toInt ≤ 0)) (cs_X11_needCamera T o h_T k_o ) (fun r_1 d_r_1 => ?_) (fun k_ => ⟨⟨h_T, x_T⟩, fun q_ => absurd q_ (Nat.succ_ne_zero k_)⟩)
  replace d_r_1 : (0 ≤ r_1.toInt ∧ r_1.toInt ≤ 0) := d_r_1
  refine tot_oif (iv_oO h_T k_o (by decide) (by decide) rfl) ?_
  refine tot_thrp (Q := fun r_3 : Int32 => (0 ≤ a0.toInt ∧ a0.toInt ≤ 11)) (cs_X11_needMic T o a0 h_T k_o ) (fun r_3 d_r_3 => ?_) (fun k_ => ⟨⟨h_T, x_T⟩, fun q_ => absurd q_ (Nat.succ_ne_zero k_)⟩)
  replace d_r_3 : (0 ≤ a0.toInt ∧ a0.toInt ≤ 11) := d_r_3
  refine tot_oif (iv_oO h_T k_o (by decide) (by decide) rfl) ?_
  refine tot_bind (cs_X11_measureLevel T o a0 h_T k_o (by omega)) (fun T_5 d_T_5 => ?_)
  have h_T_5 : IV R B K1 K2 T_5 := d_T_5.1
  have y_T_5 : FW R [3202] T T_5 := d_T_5.2
  have x_T_5 := x_T.tr (y_T_5.w (by decide))
  unfold g_X11_level_b14
  refine tot_oif (iv_oO h_T_5 k_o (by decide) (by decide) rfl) ?_
  refine tot_ref h_T_5 k_o (by decide) (by decide) (r2 := 102) (rfl : rtg 11 12 = 102) (by decide) (fun n_6 k_n_6 e_n_6 => ?_)
  refine tot_oif (w_oO h_T_5 k_n_6 (rfl : isW 102 = true)) ?_
  refine tot_bindq (R := fun r_7 : Int64 => True) (c_value (a0 := a0) k_n_6 (rfl : isW 102 = true) h_T_5 (by omega)) (fun r_7 d_r_7 => ?_)
  exact tot_some ⟨⟨h_T_5, x_T_5⟩, fun _ => trivial⟩
set_option maxHeartbeats 4000000 in
set_option maxRecDepth 10000 in
theorem cl_X11_loudest_b17 {R : Nat → Nat} {B K1 K2 : Nat} {Q : Nat × Int32 × AT → Prop} (l0 : Nat) (l1 : Int32) (T00 : AT) (k_l0 : R l0 = 11) (g0 : 0 ≤ l1.toInt ∧ l1.toInt ≤ 11) (hx0 : ∀ (T : AT), (IV R B K1 K2 T) → (FW R [3202] T00 T) → Tot (oif (oO T l0 11 = true) <| obind (T.2.2.2.2 l0 12) fun n_27 => oif (oO T l0 11 = true) <| obind (T.2.2.2.2 l0 14) fun n_28 => oif (oO T n_28 6 = true) <| elet (T.2.2.1 n_28 5) fun v_29 => oif (oO T n_27 10 = true) <| obind2 (g_X10_ranked T n_27 v_29 l1) fun r_30 T_31 => some (0, r_30, T_31)) Q) : ∀ (n : Nat) (T : AT) (l2 : Int32), (IV R B K1 K2 T) → (FW R [3202] T00 T) → (0 ≤ l2.toInt ∧ l2.toInt ≤ 12) → 12 - l2.toInt < (n : Int) → Tot (g_X11_loudest_b17 n T l0 l1 l2) Q := by
  have z0 : (Int32.ofInt (1) : Int32).toInt = 1 := by decide
  have cc_101 : cnt 101 = 1 := rfl
  have cc_102 : cnt 102 = 12 := rfl
  have cc_103 : cnt 103 = 144 := rfl
  have cc_104 : cnt 104 = 2400 := rfl
  have cc_105 : cnt 105 = 7200 := rfl
  have j_l1 := i_any l1
  intro n
  induction n with
  | zero =>
    intro T l2 h_T x_T g_l2 hm
    exfalso
    omega
  | succ n ih =>
    intro T l2 h_T x_T g_l2 hm
    unfold g_X11_loudest_b17
    refine tot_oif (iv_oO h_T k_l0 (by decide) (by decide) rfl) ?_
    refine tot_ref h_T k_l0 (by decide) (by decide) (r2 := 6) (rfl : rtg 11 14 = 6) (by decide) (fun n_25 k_n_25 e_n_25 => ?_)
    refine tot_oif (iv_oO h_T k_n_25 (by decide) (by decide) rfl) ?_
    refine tot_let (fun v_26 e_v_26 => ?_)
    have r_v_26 : 0 ≤ v_26.toInt ∧ v_26.toInt ≤ 12 := iv_int h_T k_n_25 (by decide) (by decide) e_v_26 rfl
    refine tot_if (fun c_33 => ?_) (fun c_33 => ?_)
    · replace c_33 := i_le c_33
      exact hx0 T h_T x_T
    · replace c_33 := i_nle c_33
      refine tot_oif (iv_oO h_T k_l0 (by decide) (by decide) rfl) ?_
      refine tot_bind (cs_X11_measureLevel T l0 l2 h_T k_l0 (by omega)) (fun T_32 d_T_32 => ?_)
      have h_T_32 : IV R B K1 K2 T_32 := d_T_32.1
      have y_T_32 : FW R [3202] T T_32 := d_T_32.2
      have x_T_32 := x_T.tr (y_T_32.w (by decide))
      unfold g_X11_loudest_b33
      refine tot_let (fun v_34 e_v_34 => ?_)
      have q_v_34 := i_add e_v_34 (by omega) (by omega)
      exact ih T_32 v_34 h_T_32 x_T_32 (by omega) (by omega)
set_option maxHeartbeats 4000000 in
set_option maxRecDepth 10000 in
theorem cs_X11_loudest {R : Nat → Nat} {B K1 K2 : Nat} (T : AT) (o : Nat) (a0 : Int32) (h_T : IV R B K1 K2 T) (k_o : R o = 11) : Tot (g_X11_loudest T o a0) (fun r => (IV R B K1 K2 r.2.2 ∧ FW R [3202] T r.2.2) ∧ (r.1 = 0 → (-1 ≤ r.2.1.toInt ∧ r.2.1.toInt ≤ 11))) := by
  have z0 : (0 : Int32).toInt = 0 := by decide
  have cc_101 : cnt 101 = 1 := rfl
  have cc_102 : cnt 102 = 12 := rfl
  have cc_103 : cnt 103 = 144 := rfl
  have cc_104 : cnt 104 = 2400 := rfl
  have cc_105 : cnt 105 = 7200 := rfl
  have x_T : FW R [3202] T T := FW.rf
  have j_a0 := i_any a0
  unfold g_X11_loudest
  refine tot_oif (iv_oO h_T k_o (by decide) (by decide) rfl) ?_
  refine tot_thrp (Q := fun r_1 : Int32 => (0 ≤ r_1.toInt ∧ r_1.toInt ≤ 0)) (cs_X11_needCamera T o h_T k_o ) (fun r_1 d_r_1 => ?_) (fun k_ => ⟨⟨h_T, x_T⟩, fun q_ => absurd q_ (Nat.succ_ne_zero k_)⟩)
  replace d_r_1 : (0 ≤ r_1.toInt ∧ r_1.toInt ≤ 0) := d_r_1
  refine tot_oif (iv_oO h_T k_o (by decide) (by decide) rfl) ?_
  refine tot_ref h_T k_o (by decide) (by decide) (r2 := 6) (rfl : rtg 11 14 = 6) (by decide) (fun n_3 k_n_3 e_n_3 => ?_)
  refine tot_oif (iv_oO h_T k_n_3 (by decide) (by decide) rfl) ?_
  refine tot_let (fun v_4 e_v_4 => ?_)
  have r_v_4 : 0 ≤ v_4.toInt ∧ v_4.toInt ≤ 12 := iv_int h_T k_n_3 (by decide) (by decide) e_v_4 rfl
  refine tot_thrp (Q := fun r_5 : Int32 => (0 ≤ a0.toInt ∧ a0.toInt < v_4.toInt)) (cs_X11_needIndex T a0 v_4 h_T ) (fun r_5 d_r_5 => ?_) (fun k_ => ⟨⟨h_T, x_T⟩, fun q_ => absurd q_ (Nat.succ_ne_zero k_)⟩)
  replace d_r_5 : (0 ≤ a0.toInt ∧ a0.toInt < v_4.toInt) := d_r_5
  refine cl_X11_loudest_b17 o a0 T k_o (by omega) ?_ 16384 T 0 h_T x_T (by omega) (by omega)
  · intro T_35 h_T_35 x_T_35
    refine tot_oif (iv_oO h_T_35 k_o (by decide) (by decide) rfl) ?_
    refine tot_ref h_T_35 k_o (by decide) (by decide) (r2 := 102) (rfl : rtg 11 12 = 102) (by decide) (fun n_36 k_n_36 e_n_36 => ?_)
    refine tot_oif (iv_oO h_T_35 k_o (by decide) (by decide) rfl) ?_
    refine tot_ref h_T_35 k_o (by decide) (by decide) (r2 := 6) (rfl : rtg 11 14 = 6) (by decide) (fun n_37 k_n_37 e_n_37 => ?_)
    refine tot_oif (iv_oO h_T_35 k_n_37 (by decide) (by decide) rfl) ?_
    refine tot_let (fun v_38 e_v_38 => ?_)
    have r_v_38 : 0 ≤ v_38.toInt ∧ v_38.toInt ≤ 12 := iv_int h_T_35 k_n_37 (by decide) (by decide) e_v_38 rfl
    refine tot_oif (w_oO h_T_35 k_n_36 (rfl : isW 102 = true)) ?_
    refine tot_bindq (R := fun r_39 : Int32 => r_39.toInt = -1 ∨ 0 ≤ r_39.toInt ∧ r_39.toInt < v_38.toInt) (c_ranked (a0 := v_38) (a1 := a0) k_n_36 (rfl : isW 102 = true) h_T_35 (by omega)) (fun r_39 d_r_39 => ?_)
    replace d_r_39 : r_39.toInt = -1 ∨ 0 ≤ r_39.toInt ∧ r_39.toInt < v_38.toInt := d_r_39
    exact tot_some ⟨⟨h_T_35, x_T_35⟩, fun _ => (show (-1 ≤ r_39.toInt ∧ r_39.toInt ≤ 11) from by omega)⟩
set_option maxHeartbeats 4000000 in
set_option maxRecDepth 10000 in
theorem cs_X11_addMapByte {R : Nat → Nat} {B K1 K2 : Nat} (T : AT) (o : Nat) (a0 : Int32) (h_T : IV R B K1 K2 T) (k_o : R o = 11) (g0 : 48 ≤ a0.toInt ∧ a0.toInt ≤ 59) : Tot (g_X11_addMapByte T o a0) (fun T1 => IV R B K1 K2 T1 ∧ FW R [370, 1664] T T1) := by
  have z0 : (1 : Int32).toInt = 1 := by decide
  have cc_101 : cnt 101 = 1 := rfl
  have cc_102 : cnt 102 = 12 := rfl
  have cc_103 : cnt 103 = 144 := rfl
  have cc_104 : cnt 104 = 2400 := rfl
  have cc_105 : cnt 105 = 7200 := rfl
  have x_T : FW R [370, 1664] T T := FW.rf
  have j_a0 := i_any a0
  unfold g_X11_addMapByte
  refine tot_oif (iv_oO h_T k_o (by decide) (by decide) rfl) ?_
  refine tot_let (fun v_1 e_v_1 => ?_)
  have q_v_1 := i_eq e_v_1
  have r_v_1 : 0 ≤ v_1.toInt ∧ v_1.toInt ≤ 155 := iv_int h_T k_o (by decide) (by decide) e_v_1 rfl
  refine tot_oif (iv_oO h_T k_o (by decide) (by decide) rfl) ?_
  refine tot_ref h_T k_o (by decide) (by decide) (r2 := 52) (rfl : rtg 11 13 = 52) (by decide) (fun n_2 k_n_2 e_n_2 => ?_)
  refine tot_oif (iv_aA h_T k_n_2 (by decide) (by decide) rfl rfl) ?_
  refine tot_let (fun v_3 e_v_3 => ?_)
  have q_v_3 : v_3.toInt = 155 := by rw [e_v_3, iv_len h_T k_n_2 (by decide) (by decide) (rfl : shp 52 = (100, 155))]; decide
  refine tot_if (fun c_10 => ?_) (fun c_10 => ?_)
  · replace c_10 := i_le c_10
    unfold g_X11_addMapByte_b32
    exact tot_some ⟨h_T, x_T⟩
  · replace c_10 := i_nle c_10
    refine tot_oif (iv_oO h_T k_o (by decide) (by decide) rfl) ?_
    refine tot_ref1 e_n_2 ?_
    refine tot_oif (iv_oO h_T k_o (by decide) (by decide) rfl) ?_
    refine tot_let (fun v_5 e_v_5 => ?_)
    have u_v_5 : v_5.toInt = v_1.toInt := by rw [e_v_5, e_v_1]
    have q_v_5 := i_eq e_v_5
    have r_v_5 : 0 ≤ v_5.toInt ∧ v_5.toInt ≤ 155 := iv_int h_T k_o (by decide) (by decide) e_v_5 rfl
    refine tot_oif (iv_aA h_T k_n_2 (by decide) (by decide) rfl rfl) ?_
    refine tot_oif (by rw [iv_len h_T k_n_2 (by decide) (by decide) (rfl : shp 52 = (100, 155))]; exact i_inb (by omega) (by omega)) ?_
    refine tot_let (fun T_6 e_T_6 => ?_)
    have ja_T_6 := i_any a0
    have h_T_6 : IV R B K1 K2 T_6 := by rw [e_T_6]; exact iv_uI (a := -2147483648) (b := 2147483647) h_T k_n_2 (by decide) (by decide) rfl (by omega) (.inl rfl)
    have x_T_6 := x_T.tr (fw_uA e_T_6 k_n_2 rfl rfl (by decide))
    have f_T_6_18 : (T_6.2.2.1 o 18).toInt = (T.2.2.1 o 18).toInt := congrArg Int32.toInt ((fw_uA (W := [1664]) e_T_6 k_n_2 rfl rfl (by decide)) o 18 (by rw [k_o]; decide))
    refine tot_oif (iv_oO h_T_6 k_o (by decide) (by decide) rfl) ?_
    refine tot_let (fun v_7 e_v_7 => ?_)
    have q_v_7 := i_eq e_v_7
    have r_v_7 : 0 ≤ v_7.toInt ∧ v_7.toInt ≤ 155 := iv_int h_T_6 k_o (by decide) (by decide) e_v_7 rfl
    refine tot_let (fun v_8 e_v_8 => ?_)
    have q_v_8 := i_add e_v_8 (by omega) (by omega)
    refine tot_oif (iv_oO h_T_6 k_o (by decide) (by decide) rfl) ?_
    refine tot_let (fun T_9 e_T_9 => ?_)
    have h_T_9 : IV R B K1 K2 T_9 := by rw [e_T_9]; exact iv_uI (a := 0) (b := 155) h_T_6 k_o (by decide) (by decide) rfl (by omega) (.inl rfl)
    have x_T_9 := x_T_6.tr (fw_uI e_T_9 k_o (by decide))
    have f_T_9_18 : (T_9.2.2.1 o 18).toInt = (v_8 : Int32).toInt := by rw [e_T_9]; exact congrArg Int32.toInt (uI_at _ _ _ _)
    unfold g_X11_addMapByte_b32
    exact tot_some ⟨h_T_9, x_T_9⟩
set_option maxHeartbeats 4000000 in
set_option maxRecDepth 10000 in
theorem cl_X11_writeMap_b16 {R : Nat → Nat} {B K1 K2 : Nat} {Q : Nat × Int32 × AT → Prop} (l0 : Nat) (l1 : Nat) (T00 : AT) (k_l0 : R l0 = 11) (k_l1 : R l1 = 4) (hx0 : ∀ (T : AT), (IV R B K1 K2 T) → (FW R [128, 130, 131, 370, 1664, 1952, 2144, 3202] T00 T) → Tot (oif (oO T l0 11 = true) <| elet (T.2.2.1 l0 18) fun v_66 => some (0, v_66, T)) Q) : ∀ (n : Nat) (T : AT) (l2 : Int32), (IV R B K1 K2 T) → (FW R [128, 130, 131, 370, 1664, 1952, 2144, 3202] T00 T) → (0 ≤ l2.toInt ∧ l2.toInt ≤ 144) → 144 - l2.toInt < (n : Int) → Tot (g_X11_writeMap_b16 n T l0 l1 l2) Q := by
  have z0 : (0 : Int32).toInt = 0 := by decide
  have z1 : (48 : Int32).toInt = 48 := by decide
  have z2 : (Int32.ofInt (1) : Int32).toInt = 1 := by decide
  have z3 : ((59 : Int32) : Int32).toInt = 59 := by decide
  have cc_101 : cnt 101 = 1 := rfl
  have cc_102 : cnt 102 = 12 := rfl
  have cc_103 : cnt 103 = 144 := rfl
  have cc_104 : cnt 104 = 2400 := rfl
  have cc_105 : cnt 105 = 7200 := rfl
  intro n
  induction n with
  | zero =>
    intro T l2 h_T x_T g_l2 hm
    exfalso
    omega
  | succ n ih =>
    intro T l2 h_T x_T g_l2 hm
    unfold g_X11_writeMap_b16
    refine tot_oif (iv_oO h_T k_l0 (by decide) (by decide) rfl) ?_
    refine tot_ref h_T k_l0 (by decide) (by decide) (r2 := 6) (rfl : rtg 11 14 = 6) (by decide) (fun n_62 k_n_62 e_n_62 => ?_)
    refine tot_oif (iv_oO h_T k_n_62 (by decide) (by decide) rfl) ?_
    refine tot_ref h_T k_n_62 (by decide) (by decide) (r2 := 1) (rfl : rtg 6 6 = 1) (by decide) (fun n_63 k_n_63 e_n_63 => ?_)
    refine tot_oif (iv_oO h_T k_n_63 (by decide) (by decide) rfl) ?_
    refine tot_bindq (R := fun r_64 : Int32 => (0 ≤ r_64.toInt ∧ r_64.toInt ≤ 144)) (cs_X1_cells T n_63 h_T k_n_63 ) (fun r_64 d_r_64 => ?_)
    replace d_r_64 : (0 ≤ r_64.toInt ∧ r_64.toInt ≤ 144) := d_r_64
    refine tot_if (fun c_72 => ?_) (fun c_72 => ?_)
    · replace c_72 := i_le c_72
      exact hx0 T h_T x_T
    · replace c_72 := i_nle c_72
      refine tot_if (fun c_73 => ?_) (fun c_73 => ?_)
      · replace c_73 := i_le c_73
        unfold g_X11_writeMap_b54
        refine tot_oif (iv_oO h_T k_l0 (by decide) (by decide) rfl) ?_
        refine tot_ref h_T k_l0 (by decide) (by decide) (r2 := 102) (rfl : rtg 11 12 = 102) (by decide) (fun n_74 k_n_74 e_n_74 => ?_)
        refine tot_oif (iv_oO h_T k_l1 (by decide) (by decide) rfl) ?_
        refine tot_bind2 (cs_X4_digit T l1 l2 n_74 h_T k_l1 k_n_74 (rfl : isW 102 = true) (by omega) (by omega)) (fun r_75 T_76 d_r_75 => ?_)
        have h_T_76 : IV R B K1 K2 T_76 := d_r_75.1.1
        have y_T_76 : FW R [3202] T T_76 := d_r_75.1.2
        have x_T_76 := x_T.tr (y_T_76.w (by decide))
        replace d_r_75 : (0 ≤ r_75.toInt ∧ r_75.toInt ≤ 9) := d_r_75.2
        unfold g_X11_writeMap_b66
        refine tot_let (fun v_77 e_v_77 => ?_)
        have q_v_77 := i_add e_v_77 (by omega) (by omega)
        refine tot_oif (iv_oO h_T_76 k_l0 (by decide) (by decide) rfl) ?_
        refine tot_bind (cs_X11_addMapByte T_76 l0 v_77 h_T_76 k_l0 (by omega)) (fun T_78 d_T_78 => ?_)
        have h_T_78 : IV R B K1 K2 T_78 := d_T_78.1
        have y_T_78 : FW R [370, 1664] T_76 T_78 := d_T_78.2
        have x_T_78 := x_T_76.tr (y_T_78.w (by decide))
        refine tot_let (fun v_79 e_v_79 => ?_)
        have q_v_79 := i_add e_v_79 (by omega) (by omega)
        exact ih T_78 v_79 h_T_78 x_T_78 (by omega) (by omega)
      · replace c_73 := i_nle c_73
        refine tot_oif (iv_oO h_T k_l0 (by decide) (by decide) rfl) ?_
        refine tot_ref1 e_n_62 ?_
        refine tot_oif (iv_oO h_T k_n_62 (by decide) (by decide) rfl) ?_
        refine tot_ref1 e_n_63 ?_
        refine tot_oif (iv_oO h_T k_n_63 (by decide) (by decide) rfl) ?_
        refine tot_bindq (R := fun r_69 : Int32 => (0 ≤ r_69.toInt ∧ r_69.toInt ≤ 11)) (cs_X1_columnOf T n_63 l2 h_T k_n_63 (by omega)) (fun r_69 d_r_69 => ?_)
        replace d_r_69 : (0 ≤ r_69.toInt ∧ r_69.toInt ≤ 11) := d_r_69
        refine tot_if (fun c_80 => ?_) (fun c_80 => ?_)
        · replace c_80 := i_eq c_80
          refine tot_oif (iv_oO h_T k_l0 (by decide) (by decide) rfl) ?_
          refine tot_bind (cs_X11_addMapByte T l0 (59 : Int32) h_T k_l0 (by omega)) (fun T_71 d_T_71 => ?_)
          have h_T_71 : IV R B K1 K2 T_71 := d_T_71.1
          have y_T_71 : FW R [370, 1664] T T_71 := d_T_71.2
          have x_T_71 := x_T.tr (y_T_71.w (by decide))
          unfold g_X11_writeMap_b54
          refine tot_oif (iv_oO h_T_71 k_l0 (by decide) (by decide) rfl) ?_
          refine tot_ref h_T_71 k_l0 (by decide) (by decide) (r2 := 102) (rfl : rtg 11 12 = 102) (by decide) (fun n_81 k_n_81 e_n_81 => ?_)
          refine tot_oif (iv_oO h_T_71 k_l1 (by decide) (by decide) rfl) ?_
          refine tot_bind2 (cs_X4_digit T_71 l1 l2 n_81 h_T_71 k_l1 k_n_81 (rfl : isW 102 = true) (by omega) (by omega)) (fun r_82 T_83 d_r_82 => ?_)
          have h_T_83 : IV R B K1 K2 T_83 := d_r_82.1.1
          have y_T_83 : FW R [3202] T_71 T_83 := d_r_82.1.2
          have x_T_83 := x_T_71.tr (y_T_83.w (by decide))
          replace d_r_82 : (0 ≤ r_82.toInt ∧ r_82.toInt ≤ 9) := d_r_82.2
          unfold g_X11_writeMap_b66
          refine tot_let (fun v_84 e_v_84 => ?_)
          have q_v_84 := i_add e_v_84 (by omega) (by omega)
          refine tot_oif (iv_oO h_T_83 k_l0 (by decide) (by decide) rfl) ?_
          refine tot_bind (cs_X11_addMapByte T_83 l0 v_84 h_T_83 k_l0 (by omega)) (fun T_85 d_T_85 => ?_)
          have h_T_85 : IV R B K1 K2 T_85 := d_T_85.1
          have y_T_85 : FW R [370, 1664] T_83 T_85 := d_T_85.2
          have x_T_85 := x_T_83.tr (y_T_85.w (by decide))
          refine tot_let (fun v_86 e_v_86 => ?_)
          have q_v_86 := i_add e_v_86 (by omega) (by omega)
          exact ih T_85 v_86 h_T_85 x_T_85 (by omega) (by omega)
        · replace c_80 := i_ne c_80
          unfold g_X11_writeMap_b54
          refine tot_oif (iv_oO h_T k_l0 (by decide) (by decide) rfl) ?_
          refine tot_ref h_T k_l0 (by decide) (by decide) (r2 := 102) (rfl : rtg 11 12 = 102) (by decide) (fun n_87 k_n_87 e_n_87 => ?_)
          refine tot_oif (iv_oO h_T k_l1 (by decide) (by decide) rfl) ?_
          refine tot_bind2 (cs_X4_digit T l1 l2 n_87 h_T k_l1 k_n_87 (rfl : isW 102 = true) (by omega) (by omega)) (fun r_88 T_89 d_r_88 => ?_)
          have h_T_89 : IV R B K1 K2 T_89 := d_r_88.1.1
          have y_T_89 : FW R [3202] T T_89 := d_r_88.1.2
          have x_T_89 := x_T.tr (y_T_89.w (by decide))
          replace d_r_88 : (0 ≤ r_88.toInt ∧ r_88.toInt ≤ 9) := d_r_88.2
          unfold g_X11_writeMap_b66
          refine tot_let (fun v_90 e_v_90 => ?_)
          have q_v_90 := i_add e_v_90 (by omega) (by omega)
          refine tot_oif (iv_oO h_T_89 k_l0 (by decide) (by decide) rfl) ?_
          refine tot_bind (cs_X11_addMapByte T_89 l0 v_90 h_T_89 k_l0 (by omega)) (fun T_91 d_T_91 => ?_)
          have h_T_91 : IV R B K1 K2 T_91 := d_T_91.1
          have y_T_91 : FW R [370, 1664] T_89 T_91 := d_T_91.2
          have x_T_91 := x_T_89.tr (y_T_91.w (by decide))
          refine tot_let (fun v_92 e_v_92 => ?_)
          have q_v_92 := i_add e_v_92 (by omega) (by omega)
          exact ih T_91 v_92 h_T_91 x_T_91 (by omega) (by omega)
set_option maxHeartbeats 4000000 in
set_option maxRecDepth 10000 in
theorem cs_X11_writeMap {R : Nat → Nat} {B K1 K2 : Nat} (T : AT) (o : Nat) (h_T : IV R B K1 K2 T) (k_o : R o = 11) : Tot (g_X11_writeMap T o) (fun r => (IV R B K1 K2 r.2.2 ∧ FW R [128, 130, 131, 370, 1664, 1952, 2144, 3202] T r.2.2) ∧ (r.1 = 0 → (0 ≤ r.2.1.toInt ∧ r.2.1.toInt ≤ 155))) := by
  have z0 : (0 : Int32).toInt = 0 := by decide
  have cc_101 : cnt 101 = 1 := rfl
  have cc_102 : cnt 102 = 12 := rfl
  have cc_103 : cnt 103 = 144 := rfl
  have cc_104 : cnt 104 = 2400 := rfl
  have cc_105 : cnt 105 = 7200 := rfl
  have x_T : FW R [128, 130, 131, 370, 1664, 1952, 2144, 3202] T T := FW.rf
  unfold g_X11_writeMap
  refine tot_oif (iv_oO h_T k_o (by decide) (by decide) rfl) ?_
  refine tot_thrp (Q := fun r_1 : Int32 => (0 ≤ r_1.toInt ∧ r_1.toInt ≤ 0)) (cs_X11_needCamera T o h_T k_o ) (fun r_1 d_r_1 => ?_) (fun k_ => ⟨⟨h_T, x_T⟩, fun q_ => absurd q_ (Nat.succ_ne_zero k_)⟩)
  replace d_r_1 : (0 ≤ r_1.toInt ∧ r_1.toInt ≤ 0) := d_r_1
  refine tot_oif (iv_oO h_T k_o (by decide) (by decide) rfl) ?_
  refine tot_bind2 (cs_X11_powersNow T o h_T k_o ) (fun r_3 T_4 d_r_3 => ?_)
  have h_T_4 : IV R B K1 K2 T_4 := d_r_3.1.1
  have y_T_4 : FW R [128, 130, 131, 1952, 2144, 3202] T T_4 := d_r_3.1.2
  have x_T_4 := x_T.tr (y_T_4.w (by decide))
  have k_r_3 : R r_3 = 4 := d_r_3.2
  refine tot_oif (Nat.ble_eq_true_of_le (iv_lt h_T_4 (iv_sta h_T_4 k_r_3 (by decide) (by decide)))) ?_
  unfold g_X11_writeMap_b8
  refine tot_oif (iv_oO h_T_4 k_o (by decide) (by decide) rfl) ?_
  refine tot_let (fun T_5 e_T_5 => ?_)
  have h_T_5 : IV R B K1 K2 T_5 := by rw [e_T_5]; exact iv_uI (a := 0) (b := 155) h_T_4 k_o (by decide) (by decide) rfl (by omega) (.inl rfl)
  have x_T_5 := x_T_4.tr (fw_uI e_T_5 k_o (by decide))
  refine cl_X11_writeMap_b16 o r_3 T k_o k_r_3 ?_ 16384 T_5 0 h_T_5 x_T_5 (by omega) (by omega)
  · intro T_93 h_T_93 x_T_93
    refine tot_oif (iv_oO h_T_93 k_o (by decide) (by decide) rfl) ?_
    refine tot_let (fun v_94 e_v_94 => ?_)
    have r_v_94 : 0 ≤ v_94.toInt ∧ v_94.toInt ≤ 155 := iv_int h_T_93 k_o (by decide) (by decide) e_v_94 rfl
    exact tot_some ⟨⟨h_T_93, x_T_93⟩, fun _ => (show (0 ≤ v_94.toInt ∧ v_94.toInt ≤ 155) from by omega)⟩
set_option maxHeartbeats 4000000 in
set_option maxRecDepth 10000 in
theorem cs_X11_mapByte {R : Nat → Nat} {B K1 K2 : Nat} (T : AT) (o : Nat) (a0 : Int32) (h_T : IV R B K1 K2 T) (k_o : R o = 11) : Tot (g_X11_mapByte T o a0) (fun r => r.2.2 = T ∧ (r.1 = 0 → True)) := by
  have cc_101 : cnt 101 = 1 := rfl
  have cc_102 : cnt 102 = 12 := rfl
  have cc_103 : cnt 103 = 144 := rfl
  have cc_104 : cnt 104 = 2400 := rfl
  have cc_105 : cnt 105 = 7200 := rfl
  have j_a0 := i_any a0
  unfold g_X11_mapByte
  refine tot_oif (iv_oO h_T k_o (by decide) (by decide) rfl) ?_
  refine tot_let (fun v_1 e_v_1 => ?_)
  have r_v_1 : 0 ≤ v_1.toInt ∧ v_1.toInt ≤ 155 := iv_int h_T k_o (by decide) (by decide) e_v_1 rfl
  refine tot_thrp (Q := fun r_2 : Int32 => (0 ≤ a0.toInt ∧ a0.toInt < v_1.toInt)) (cs_X11_needIndex T a0 v_1 h_T ) (fun r_2 d_r_2 => ?_) (fun k_ => ⟨rfl, fun q_ => absurd q_ (Nat.succ_ne_zero k_)⟩)
  replace d_r_2 : (0 ≤ a0.toInt ∧ a0.toInt < v_1.toInt) := d_r_2
  refine tot_oif (iv_oO h_T k_o (by decide) (by decide) rfl) ?_
  refine tot_ref h_T k_o (by decide) (by decide) (r2 := 52) (rfl : rtg 11 13 = 52) (by decide) (fun n_4 k_n_4 e_n_4 => ?_)
  refine tot_oif (iv_aA h_T k_n_4 (by decide) (by decide) rfl rfl) ?_
  refine tot_oif (by rw [iv_len h_T k_n_4 (by decide) (by decide) (rfl : shp 52 = (100, 155))]; exact i_inb (by omega) (by omega)) ?_
  refine tot_let (fun v_5 e_v_5 => ?_)
  have r_v_5 := i_any v_5
  exact tot_some ⟨rfl, fun _ => trivial⟩
set_option maxHeartbeats 4000000 in
set_option maxRecDepth 10000 in
theorem cs_X11_recordPoint {R : Nat → Nat} {B K1 K2 : Nat} (T : AT) (o : Nat) (a0 : Int32) (a1 : Int32) (h_T : IV R B K1 K2 T) (k_o : R o = 11) (g0 : 0 ≤ a0.toInt ∧ a0.toInt ≤ 143) (g1 : 2 ≤ a1.toInt ∧ a1.toInt ≤ 99) : Tot (g_X11_recordPoint T o a0 a1) (fun T1 => IV R B K1 K2 T1 ∧ FW R [224, 229, 230, 256, 257, 258, 1472, 1984, 2016, 2048, 2080, 2112, 3202] T T1) := by
  have cc_101 : cnt 101 = 1 := rfl
  have cc_102 : cnt 102 = 12 := rfl
  have cc_103 : cnt 103 = 144 := rfl
  have cc_104 : cnt 104 = 2400 := rfl
  have cc_105 : cnt 105 = 7200 := rfl
  have x_T : FW R [224, 229, 230, 256, 257, 258, 1472, 1984, 2016, 2048, 2080, 2112, 3202] T T := FW.rf
  have j_a0 := i_any a0
  have j_a1 := i_any a1
  unfold g_X11_recordPoint
  refine tot_oif (iv_oO h_T k_o (by decide) (by decide) rfl) ?_
  refine tot_ref h_T k_o (by decide) (by decide) (r2 := 8) (rfl : rtg 11 7 = 8) (by decide) (fun n_1 k_n_1 e_n_1 => ?_)
  refine tot_oif (iv_oO h_T k_o (by decide) (by decide) rfl) ?_
  refine tot_ref h_T k_o (by decide) (by decide) (r2 := 8) (rfl : rtg 11 6 = 8) (by decide) (fun n_2 k_n_2 e_n_2 => ?_)
  refine tot_oif (iv_oO h_T k_n_1 (by decide) (by decide) rfl) ?_
  refine tot_bind (cs_X8_copyFrom T n_1 n_2 h_T k_n_1 k_n_2 ) (fun T_3 d_T_3 => ?_)
  have h_T_3 : IV R B K1 K2 T_3 := d_T_3.1
  have y_T_3 : FW R [256, 257, 258, 1984, 2016, 2048, 2080, 2112, 3202] T T_3 := d_T_3.2
  have x_T_3 := x_T.tr (y_T_3.w (by decide))
  unfold g_X11_recordPoint_b11
  refine tot_oif (iv_oO h_T_3 k_o (by decide) (by decide) rfl) ?_
  refine tot_ref h_T_3 k_o (by decide) (by decide) (r2 := 5) (rfl : rtg 11 2 = 5) (by decide) (fun n_4 k_n_4 e_n_4 => ?_)
  refine tot_oif (iv_oO h_T_3 k_o (by decide) (by decide) rfl) ?_
  refine tot_ref h_T_3 k_o (by decide) (by decide) (r2 := 6) (rfl : rtg 11 14 = 6) (by decide) (fun n_5 k_n_5 e_n_5 => ?_)
  refine tot_oif (iv_oO h_T_3 k_o (by decide) (by decide) rfl) ?_
  refine tot_ref h_T_3 k_o (by decide) (by decide) (r2 := 8) (rfl : rtg 11 7 = 8) (by decide) (fun n_6 k_n_6 e_n_6 => ?_)
  refine tot_oif (iv_oO h_T_3 k_n_4 (by decide) (by decide) rfl) ?_
  refine tot_bind (cs_X5_recordPoint T_3 n_4 n_5 n_6 a0 a1 h_T_3 k_n_4 k_n_5 k_n_6 (by omega) (by omega)) (fun T_7 d_T_7 => ?_)
  have h_T_7 : IV R B K1 K2 T_7 := d_T_7.1
  have y_T_7 : FW R [224, 229, 230, 258, 1472, 3202] T_3 T_7 := d_T_7.2
  have x_T_7 := x_T_3.tr (y_T_7.w (by decide))
  unfold g_X11_recordPoint_b28
  exact tot_some ⟨h_T_7, x_T_7⟩
set_option maxHeartbeats 4000000 in
set_option maxRecDepth 10000 in
theorem cs_X11_trialBest {R : Nat → Nat} {B K1 K2 : Nat} (T : AT) (o : Nat) (h_T : IV R B K1 K2 T) (k_o : R o = 11) : Tot (g_X11_trialBest T o) (fun r => (IV R B K1 K2 r.2 ∧ FW R [130, 131, 1952, 2144, 3202] T r.2) ∧ (0 ≤ r.1.toInt ∧ r.1.toInt ≤ 143)) := by
  have cc_101 : cnt 101 = 1 := rfl
  have cc_102 : cnt 102 = 12 := rfl
  have cc_103 : cnt 103 = 144 := rfl
  have cc_104 : cnt 104 = 2400 := rfl
  have cc_105 : cnt 105 = 7200 := rfl
  have x_T : FW R [130, 131, 1952, 2144, 3202] T T := FW.rf
  unfold g_X11_trialBest
  refine tot_oif (iv_oO h_T k_o (by decide) (by decide) rfl) ?_
  refine tot_ref h_T k_o (by decide) (by decide) (r2 := 4) (rfl : rtg 11 5 = 4) (by decide) (fun n_1 k_n_1 e_n_1 => ?_)
  refine tot_oif (iv_oO h_T k_o (by decide) (by decide) rfl) ?_
  refine tot_ref h_T k_o (by decide) (by decide) (r2 := 6) (rfl : rtg 11 14 = 6) (by decide) (fun n_2 k_n_2 e_n_2 => ?_)
  refine tot_oif (iv_oO h_T k_o (by decide) (by decide) rfl) ?_
  refine tot_ref h_T k_o (by decide) (by decide) (r2 := 8) (rfl : rtg 11 7 = 8) (by decide) (fun n_3 k_n_3 e_n_3 => ?_)
  refine tot_oif (iv_oO h_T k_n_1 (by decide) (by decide) rfl) ?_
  refine tot_bind (cs_X4_measure T n_1 n_2 n_3 h_T k_n_1 k_n_2 k_n_3 ) (fun T_4 d_T_4 => ?_)
  have h_T_4 : IV R B K1 K2 T_4 := d_T_4.1
  have y_T_4 : FW R [130, 131, 1952, 2144, 3202] T T_4 := d_T_4.2
  have x_T_4 := x_T.tr (y_T_4.w (by decide))
  unfold g_X11_trialBest_b15
  refine tot_oif (iv_oO h_T_4 k_o (by decide) (by decide) rfl) ?_
  refine tot_ref h_T_4 k_o (by decide) (by decide) (r2 := 4) (rfl : rtg 11 5 = 4) (by decide) (fun n_5 k_n_5 e_n_5 => ?_)
  refine tot_oif (iv_oO h_T_4 k_n_5 (by decide) (by decide) rfl) ?_
  refine tot_let (fun v_6 e_v_6 => ?_)
  have r_v_6 : 0 ≤ v_6.toInt ∧ v_6.toInt ≤ 143 := iv_int h_T_4 k_n_5 (by decide) (by decide) e_v_6 rfl
  exact tot_some ⟨⟨h_T_4, x_T_4⟩, (show (0 ≤ v_6.toInt ∧ v_6.toInt ≤ 143) from by omega)⟩
set_option maxHeartbeats 4000000 in
set_option maxRecDepth 10000 in
theorem cs_X11_pointBest {R : Nat → Nat} {B K1 K2 : Nat} (T : AT) (o : Nat) (a0 : Int32) (a1 : Int32) (h_T : IV R B K1 K2 T) (k_o : R o = 11) : Tot (g_X11_pointBest T o a0 a1) (fun r => (IV R B K1 K2 r.2.2 ∧ FW R [130, 131, 224, 229, 230, 256, 257, 258, 1472, 1952, 1984, 2016, 2048, 2080, 2112, 2144, 3202] T r.2.2) ∧ (r.1 = 0 → True)) := by
  have z0 : ((2 : Int32) : Int32).toInt = 2 := by decide
  have z1 : ((99 : Int32) : Int32).toInt = 99 := by decide
  have cc_101 : cnt 101 = 1 := rfl
  have cc_102 : cnt 102 = 12 := rfl
  have cc_103 : cnt 103 = 144 := rfl
  have cc_104 : cnt 104 = 2400 := rfl
  have cc_105 : cnt 105 = 7200 := rfl
  have x_T : FW R [130, 131, 224, 229, 230, 256, 257, 258, 1472, 1952, 1984, 2016, 2048, 2080, 2112, 2144, 3202] T T := FW.rf
  have j_a0 := i_any a0
  have j_a1 := i_any a1
  unfold g_X11_pointBest
  refine tot_oif (iv_oO h_T k_o (by decide) (by decide) rfl) ?_
  refine tot_thrp (Q := fun r_1 : Int32 => (0 ≤ r_1.toInt ∧ r_1.toInt ≤ 0)) (cs_X11_needCamera T o h_T k_o ) (fun r_1 d_r_1 => ?_) (fun k_ => ⟨⟨h_T, x_T⟩, fun q_ => absurd q_ (Nat.succ_ne_zero k_)⟩)
  replace d_r_1 : (0 ≤ r_1.toInt ∧ r_1.toInt ≤ 0) := d_r_1
  refine tot_oif (iv_oO h_T k_o (by decide) (by decide) rfl) ?_
  refine tot_thrp (Q := fun r_3 : Int32 => (0 ≤ a0.toInt ∧ a0.toInt ≤ 143)) (cs_X11_needCell T o a0 h_T k_o ) (fun r_3 d_r_3 => ?_) (fun k_ => ⟨⟨h_T, x_T⟩, fun q_ => absurd q_ (Nat.succ_ne_zero k_)⟩)
  replace d_r_3 : (0 ≤ a0.toInt ∧ a0.toInt ≤ 143) := d_r_3
  refine tot_thrp (Q := fun r_5 : Int32 => (((2 : Int32) : Int32).toInt ≤ a1.toInt ∧ a1.toInt ≤ ((99 : Int32) : Int32).toInt)) (cs_X11_needRange T a1 (2 : Int32) (99 : Int32) h_T ) (fun r_5 d_r_5 => ?_) (fun k_ => ⟨⟨h_T, x_T⟩, fun q_ => absurd q_ (Nat.succ_ne_zero k_)⟩)
  replace d_r_5 : (((2 : Int32) : Int32).toInt ≤ a1.toInt ∧ a1.toInt ≤ ((99 : Int32) : Int32).toInt) := d_r_5
  refine tot_oif (iv_oO h_T k_o (by decide) (by decide) rfl) ?_
  refine tot_bind (cs_X11_recordPoint T o a0 a1 h_T k_o (by omega) (by omega)) (fun T_7 d_T_7 => ?_)
  have h_T_7 : IV R B K1 K2 T_7 := d_T_7.1
  have y_T_7 : FW R [224, 229, 230, 256, 257, 258, 1472, 1984, 2016, 2048, 2080, 2112, 3202] T T_7 := d_T_7.2
  have x_T_7 := x_T.tr (y_T_7.w (by decide))
  unfold g_X11_pointBest_b22
  refine tot_oif (iv_oO h_T_7 k_o (by decide) (by decide) rfl) ?_
  refine tot_bind2 (cs_X11_trialBest T_7 o h_T_7 k_o ) (fun r_8 T_9 d_r_8 => ?_)
  have h_T_9 : IV R B K1 K2 T_9 := d_r_8.1.1
  have y_T_9 : FW R [130, 131, 1952, 2144, 3202] T_7 T_9 := d_r_8.1.2
  have x_T_9 := x_T_7.tr (y_T_9.w (by decide))
  replace d_r_8 : (0 ≤ r_8.toInt ∧ r_8.toInt ≤ 143) := d_r_8.2
  unfold g_X11_pointBest_b26
  exact tot_some ⟨⟨h_T_9, x_T_9⟩, fun _ => trivial⟩
set_option maxHeartbeats 4000000 in
set_option maxRecDepth 10000 in
theorem cs_X11_pointPower {R : Nat → Nat} {B K1 K2 : Nat} (T : AT) (o : Nat) (a0 : Int32) (a1 : Int32) (a2 : Int32) (h_T : IV R B K1 K2 T) (k_o : R o = 11) : Tot (g_X11_pointPower T o a0 a1 a2) (fun r => (IV R B K1 K2 r.2.2 ∧ FW R [224, 229, 230, 256, 257, 258, 1472, 1984, 2016, 2048, 2080, 2112, 3202] T r.2.2) ∧ (r.1 = 0 → True)) := by
  have z0 : ((2 : Int32) : Int32).toInt = 2 := by decide
  have z1 : ((99 : Int32) : Int32).toInt = 99 := by decide
  have z2 : ((0 : Int32) : Int32).toInt = 0 := by decide
  have cc_101 : cnt 101 = 1 := rfl
  have cc_102 : cnt 102 = 12 := rfl
  have cc_103 : cnt 103 = 144 := rfl
  have cc_104 : cnt 104 = 2400 := rfl
  have cc_105 : cnt 105 = 7200 := rfl
  have x_T : FW R [224, 229, 230, 256, 257, 258, 1472, 1984, 2016, 2048, 2080, 2112, 3202] T T := FW.rf
  have j_a0 := i_any a0
  have j_a1 := i_any a1
  have j_a2 := i_any a2
  unfold g_X11_pointPower
  refine tot_oif (iv_oO h_T k_o (by decide) (by decide) rfl) ?_
  refine tot_thrp (Q := fun r_1 : Int32 => (0 ≤ r_1.toInt ∧ r_1.toInt ≤ 0)) (cs_X11_needCamera T o h_T k_o ) (fun r_1 d_r_1 => ?_) (fun k_ => ⟨⟨h_T, x_T⟩, fun q_ => absurd q_ (Nat.succ_ne_zero k_)⟩)
  replace d_r_1 : (0 ≤ r_1.toInt ∧ r_1.toInt ≤ 0) := d_r_1
  refine tot_oif (iv_oO h_T k_o (by decide) (by decide) rfl) ?_
  refine tot_thrp (Q := fun r_3 : Int32 => (0 ≤ a0.toInt ∧ a0.toInt ≤ 143)) (cs_X11_needCell T o a0 h_T k_o ) (fun r_3 d_r_3 => ?_) (fun k_ => ⟨⟨h_T, x_T⟩, fun q_ => absurd q_ (Nat.succ_ne_zero k_)⟩)
  replace d_r_3 : (0 ≤ a0.toInt ∧ a0.toInt ≤ 143) := d_r_3
  refine tot_oif (iv_oO h_T k_o (by decide) (by decide) rfl) ?_
  refine tot_thrp (Q := fun r_5 : Int32 => (0 ≤ a1.toInt ∧ a1.toInt ≤ 143)) (cs_X11_needCell T o a1 h_T k_o ) (fun r_5 d_r_5 => ?_) (fun k_ => ⟨⟨h_T, x_T⟩, fun q_ => absurd q_ (Nat.succ_ne_zero k_)⟩)
  replace d_r_5 : (0 ≤ a1.toInt ∧ a1.toInt ≤ 143) := d_r_5
  refine tot_thrp (Q := fun r_7 : Int32 => (((2 : Int32) : Int32).toInt ≤ a2.toInt ∧ a2.toInt ≤ ((99 : Int32) : Int32).toInt)) (cs_X11_needRange T a2 (2 : Int32) (99 : Int32) h_T ) (fun r_7 d_r_7 => ?_) (fun k_ => ⟨⟨h_T, x_T⟩, fun q_ => absurd q_ (Nat.succ_ne_zero k_)⟩)
  replace d_r_7 : (((2 : Int32) : Int32).toInt ≤ a2.toInt ∧ a2.toInt ≤ ((99 : Int32) : Int32).toInt) := d_r_7
  refine tot_oif (iv_oO h_T k_o (by decide) (by decide) rfl) ?_
  refine tot_bind (cs_X11_recordPoint T o a0 a2 h_T k_o (by omega) (by omega)) (fun T_9 d_T_9 => ?_)
  have h_T_9 : IV R B K1 K2 T_9 := d_T_9.1
  have y_T_9 : FW R [224, 229, 230, 256, 257, 258, 1472, 1984, 2016, 2048, 2080, 2112, 3202] T T_9 := d_T_9.2
  have x_T_9 := x_T.tr (y_T_9.w (by decide))
  unfold g_X11_pointPower_b27
  refine tot_oif (iv_oO h_T_9 k_o (by decide) (by decide) rfl) ?_
  refine tot_ref h_T_9 k_o (by decide) (by decide) (r2 := 8) (rfl : rtg 11 7 = 8) (by decide) (fun n_10 k_n_10 e_n_10 => ?_)
  refine tot_oif (iv_oO h_T_9 k_o (by decide) (by decide) rfl) ?_
  refine tot_ref h_T_9 k_o (by decide) (by decide) (r2 := 6) (rfl : rtg 11 14 = 6) (by decide) (fun n_11 k_n_11 e_n_11 => ?_)
  refine tot_oif (iv_oO h_T_9 k_n_11 (by decide) (by decide) rfl) ?_
  refine tot_ref h_T_9 k_n_11 (by decide) (by decide) (r2 := 51) (rfl : rtg 6 17 = 51) (by decide) (fun n_12 k_n_12 e_n_12 => ?_)
  refine tot_oif (iv_aA h_T_9 k_n_12 (by decide) (by decide) rfl rfl) ?_
  refine tot_oif (by rw [iv_len h_T_9 k_n_12 (by decide) (by decide) (rfl : shp 51 = (106, 144))]; exact i_inb (by omega) (by omega)) ?_
  refine tot_ref h_T_9 k_n_12 (by decide) (by decide) (r2 := 50) (rt_51 (by omega) (by omega)) (by decide) (fun n_13 k_n_13 e_n_13 => ?_)
  refine tot_oif (iv_oO h_T_9 k_o (by decide) (by decide) rfl) ?_
  refine tot_ref h_T_9 k_o (by decide) (by decide) (r2 := 102) (rfl : rtg 11 12 = 102) (by decide) (fun n_14 k_n_14 e_n_14 => ?_)
  refine tot_oif (iv_oO h_T_9 k_n_10 (by decide) (by decide) rfl) ?_
  refine tot_bind (cs_X8_powerOf T_9 n_10 n_13 n_14 (0 : Int32) h_T_9 k_n_10 k_n_13 k_n_14 (rfl : isW 102 = true) (by omega) (by omega)) (fun T_15 d_T_15 => ?_)
  have h_T_15 : IV R B K1 K2 T_15 := d_T_15.1
  have y_T_15 : FW R [3202] T_9 T_15 := d_T_15.2
  have x_T_15 := x_T_9.tr (y_T_15.w (by decide))
  unfold g_X11_pointPower_b48
  refine tot_oif (iv_oO h_T_15 k_o (by decide) (by decide) rfl) ?_
  refine tot_ref h_T_15 k_o (by decide) (by decide) (r2 := 102) (rfl : rtg 11 12 = 102) (by decide) (fun n_16 k_n_16 e_n_16 => ?_)
  refine tot_oif (w_oO h_T_15 k_n_16 (rfl : isW 102 = true)) ?_
  refine tot_bindq (R := fun r_17 : Int64 => True) (c_value (a0 := (0 : Int32)) k_n_16 (rfl : isW 102 = true) h_T_15 (by omega)) (fun r_17 d_r_17 => ?_)
  exact tot_some ⟨⟨h_T_15, x_T_15⟩, fun _ => trivial⟩
set_option maxHeartbeats 4000000 in
set_option maxRecDepth 10000 in
theorem cs_X11_bestWithout {R : Nat → Nat} {B K1 K2 : Nat} (T : AT) (o : Nat) (a0 : Int32) (h_T : IV R B K1 K2 T) (k_o : R o = 11) : Tot (g_X11_bestWithout T o a0) (fun r => (IV R B K1 K2 r.2.2 ∧ FW R [130, 131, 256, 257, 258, 1952, 1984, 2016, 2048, 2080, 2112, 2144, 3202] T r.2.2) ∧ (r.1 = 0 → (0 ≤ r.2.1.toInt ∧ r.2.1.toInt ≤ 143))) := by
  have z0 : (1 : Int32).toInt = 1 := by decide
  have cc_101 : cnt 101 = 1 := rfl
  have cc_102 : cnt 102 = 12 := rfl
  have cc_103 : cnt 103 = 144 := rfl
  have cc_104 : cnt 104 = 2400 := rfl
  have cc_105 : cnt 105 = 7200 := rfl
  have x_T : FW R [130, 131, 256, 257, 258, 1952, 1984, 2016, 2048, 2080, 2112, 2144, 3202] T T := FW.rf
  have j_a0 := i_any a0
  unfold g_X11_bestWithout
  refine tot_oif (iv_oO h_T k_o (by decide) (by decide) rfl) ?_
  refine tot_thrp (Q := fun r_1 : Int32 => (0 ≤ r_1.toInt ∧ r_1.toInt ≤ 0)) (cs_X11_needCamera T o h_T k_o ) (fun r_1 d_r_1 => ?_) (fun k_ => ⟨⟨h_T, x_T⟩, fun q_ => absurd q_ (Nat.succ_ne_zero k_)⟩)
  replace d_r_1 : (0 ≤ r_1.toInt ∧ r_1.toInt ≤ 0) := d_r_1
  refine tot_oif (iv_oO h_T k_o (by decide) (by decide) rfl) ?_
  refine tot_thrp (Q := fun r_3 : Int32 => (0 ≤ a0.toInt ∧ a0.toInt ≤ 11)) (cs_X11_needMic T o a0 h_T k_o ) (fun r_3 d_r_3 => ?_) (fun k_ => ⟨⟨h_T, x_T⟩, fun q_ => absurd q_ (Nat.succ_ne_zero k_)⟩)
  replace d_r_3 : (0 ≤ a0.toInt ∧ a0.toInt ≤ 11) := d_r_3
  refine tot_oif (iv_oO h_T k_o (by decide) (by decide) rfl) ?_
  refine tot_ref h_T k_o (by decide) (by decide) (r2 := 8) (rfl : rtg 11 7 = 8) (by decide) (fun n_5 k_n_5 e_n_5 => ?_)
  refine tot_oif (iv_oO h_T k_o (by decide) (by decide) rfl) ?_
  refine tot_ref h_T k_o (by decide) (by decide) (r2 := 8) (rfl : rtg 11 6 = 8) (by decide) (fun n_6 k_n_6 e_n_6 => ?_)
  refine tot_oif (iv_oO h_T k_n_5 (by decide) (by decide) rfl) ?_
  refine tot_bind (cs_X8_copyFrom T n_5 n_6 h_T k_n_5 k_n_6 ) (fun T_7 d_T_7 => ?_)
  have h_T_7 : IV R B K1 K2 T_7 := d_T_7.1
  have y_T_7 : FW R [256, 257, 258, 1984, 2016, 2048, 2080, 2112, 3202] T T_7 := d_T_7.2
  have x_T_7 := x_T.tr (y_T_7.w (by decide))
  unfold g_X11_bestWithout_b20
  refine tot_oif (iv_oO h_T_7 k_o (by decide) (by decide) rfl) ?_
  refine tot_ref h_T_7 k_o (by decide) (by decide) (r2 := 8) (rfl : rtg 11 7 = 8) (by decide) (fun n_8 k_n_8 e_n_8 => ?_)
  refine tot_oif (iv_oO h_T_7 k_n_8 (by decide) (by decide) rfl) ?_
  refine tot_ref h_T_7 k_n_8 (by decide) (by decide) (r2 := 62) (rfl : rtg 8 3 = 62) (by decide) (fun n_9 k_n_9 e_n_9 => ?_)
  refine tot_oif (iv_aA h_T_7 k_n_9 (by decide) (by decide) rfl rfl) ?_
  refine tot_oif (by rw [iv_len h_T_7 k_n_9 (by decide) (by decide) (rfl : shp 62 = (102, 12))]; exact i_inb (by omega) (by omega)) ?_
  refine tot_let (fun T_10 e_T_10 => ?_)
  have h_T_10 : IV R B K1 K2 T_10 := by rw [e_T_10]; exact iv_uI (a := 0) (b := 1) h_T_7 k_n_9 (by decide) (by decide) rfl (by omega) (.inl rfl)
  have x_T_10 := x_T_7.tr (fw_uA e_T_10 k_n_9 rfl rfl (by decide))
  refine tot_oif (iv_oO h_T_10 k_o (by decide) (by decide) rfl) ?_
  refine tot_bind2 (cs_X11_trialBest T_10 o h_T_10 k_o ) (fun r_11 T_12 d_r_11 => ?_)
  have h_T_12 : IV R B K1 K2 T_12 := d_r_11.1.1
  have y_T_12 : FW R [130, 131, 1952, 2144, 3202] T_10 T_12 := d_r_11.1.2
  have x_T_12 := x_T_10.tr (y_T_12.w (by decide))
  replace d_r_11 : (0 ≤ r_11.toInt ∧ r_11.toInt ≤ 143) := d_r_11.2
  unfold g_X11_bestWithout_b34
  exact tot_some ⟨⟨h_T_12, x_T_12⟩, fun _ => (show (0 ≤ r_11.toInt ∧ r_11.toInt ≤ 143) from by omega)⟩
set_option maxHeartbeats 4000000 in
set_option maxRecDepth 10000 in
theorem cs_X11_bestIfOff {R : Nat → Nat} {B K1 K2 : Nat} (T : AT) (o : Nat) (a0 : Int32) (h_T : IV R B K1 K2 T) (k_o : R o = 11) : Tot (g_X11_bestIfOff T o a0) (fun r => (IV R B K1 K2 r.2.2 ∧ FW R [130, 131, 256, 257, 258, 1472, 1952, 1984, 2016, 2048, 2080, 2112, 2144, 3202] T r.2.2) ∧ (r.1 = 0 → True)) := by
  have z0 : (0 : Int32).toInt = 0 := by decide
  have cc_101 : cnt 101 = 1 := rfl
  have cc_102 : cnt 102 = 12 := rfl
  have cc_103 : cnt 103 = 144 := rfl
  have cc_104 : cnt 104 = 2400 := rfl
  have cc_105 : cnt 105 = 7200 := rfl
  have x_T : FW R [130, 131, 256, 257, 258, 1472, 1952, 1984, 2016, 2048, 2080, 2112, 2144, 3202] T T := FW.rf
  have j_a0 := i_any a0
  unfold g_X11_bestIfOff
  refine tot_oif (iv_oO h_T k_o (by decide) (by decide) rfl) ?_
  refine tot_thrp (Q := fun r_1 : Int32 => (0 ≤ r_1.toInt ∧ r_1.toInt ≤ 0)) (cs_X11_needCamera T o h_T k_o ) (fun r_1 d_r_1 => ?_) (fun k_ => ⟨⟨h_T, x_T⟩, fun q_ => absurd q_ (Nat.succ_ne_zero k_)⟩)
  replace d_r_1 : (0 ≤ r_1.toInt ∧ r_1.toInt ≤ 0) := d_r_1
  refine tot_oif (iv_oO h_T k_o (by decide) (by decide) rfl) ?_
  refine tot_thrp (Q := fun r_3 : Int32 => (0 ≤ a0.toInt ∧ a0.toInt ≤ 5)) (cs_X11_needSource T o a0 h_T k_o ) (fun r_3 d_r_3 => ?_) (fun k_ => ⟨⟨h_T, x_T⟩, fun q_ => absurd q_ (Nat.succ_ne_zero k_)⟩)
  replace d_r_3 : (0 ≤ a0.toInt ∧ a0.toInt ≤ 5) := d_r_3
  refine tot_oif (iv_oO h_T k_o (by decide) (by decide) rfl) ?_
  refine tot_ref h_T k_o (by decide) (by decide) (r2 := 8) (rfl : rtg 11 7 = 8) (by decide) (fun n_5 k_n_5 e_n_5 => ?_)
  refine tot_oif (iv_oO h_T k_o (by decide) (by decide) rfl) ?_
  refine tot_ref h_T k_o (by decide) (by decide) (r2 := 8) (rfl : rtg 11 6 = 8) (by decide) (fun n_6 k_n_6 e_n_6 => ?_)
  refine tot_oif (iv_oO h_T k_n_5 (by decide) (by decide) rfl) ?_
  refine tot_bind (cs_X8_copyFrom T n_5 n_6 h_T k_n_5 k_n_6 ) (fun T_7 d_T_7 => ?_)
  have h_T_7 : IV R B K1 K2 T_7 := d_T_7.1
  have y_T_7 : FW R [256, 257, 258, 1984, 2016, 2048, 2080, 2112, 3202] T T_7 := d_T_7.2
  have x_T_7 := x_T.tr (y_T_7.w (by decide))
  unfold g_X11_bestIfOff_b20
  refine tot_oif (iv_oO h_T_7 k_o (by decide) (by decide) rfl) ?_
  refine tot_ref h_T_7 k_o (by decide) (by decide) (r2 := 8) (rfl : rtg 11 7 = 8) (by decide) (fun n_8 k_n_8 e_n_8 => ?_)
  refine tot_oif (iv_oO h_T_7 k_n_8 (by decide) (by decide) rfl) ?_
  refine tot_ref h_T_7 k_n_8 (by decide) (by decide) (r2 := 64) (rfl : rtg 8 5 = 64) (by decide) (fun n_9 k_n_9 e_n_9 => ?_)
  refine tot_oif (iv_aA h_T_7 k_n_9 (by decide) (by decide) rfl rfl) ?_
  refine tot_oif (by rw [iv_len h_T_7 k_n_9 (by decide) (by decide) (rfl : shp 64 = (102, 6))]; exact i_inb (by omega) (by omega)) ?_
  refine tot_let (fun T_10 e_T_10 => ?_)
  have h_T_10 : IV R B K1 K2 T_10 := by rw [e_T_10]; exact iv_uI (a := 0) (b := 1) h_T_7 k_n_9 (by decide) (by decide) rfl (by omega) (.inl rfl)
  have x_T_10 := x_T_7.tr (fw_uA e_T_10 k_n_9 rfl rfl (by decide))
  refine tot_oif (iv_oO h_T_10 k_o (by decide) (by decide) rfl) ?_
  refine tot_ref h_T_10 k_o (by decide) (by decide) (r2 := 5) (rfl : rtg 11 2 = 5) (by decide) (fun n_11 k_n_11 e_n_11 => ?_)
  refine tot_oif (iv_oO h_T_10 k_o (by decide) (by decide) rfl) ?_
  refine tot_ref h_T_10 k_o (by decide) (by decide) (r2 := 6) (rfl : rtg 11 14 = 6) (by decide) (fun n_12 k_n_12 e_n_12 => ?_)
  refine tot_oif (iv_oO h_T_10 k_o (by decide) (by decide) rfl) ?_
  refine tot_ref h_T_10 k_o (by decide) (by decide) (r2 := 8) (rfl : rtg 11 7 = 8) (by decide) (fun n_13 k_n_13 e_n_13 => ?_)
  refine tot_oif (iv_oO h_T_10 k_n_11 (by decide) (by decide) rfl) ?_
  refine tot_bind (cs_X5_record T_10 n_11 n_12 n_13 h_T_10 k_n_11 k_n_12 k_n_13 ) (fun T_14 d_T_14 => ?_)
  have h_T_14 : IV R B K1 K2 T_14 := d_T_14.1
  have y_T_14 : FW R [258, 1472, 3202] T_10 T_14 := d_T_14.2
  have x_T_14 := x_T_10.tr (y_T_14.w (by decide))
  unfold g_X11_bestIfOff_b45
  refine tot_oif (iv_oO h_T_14 k_o (by decide) (by decide) rfl) ?_
  refine tot_bind2 (cs_X11_trialBest T_14 o h_T_14 k_o ) (fun r_15 T_16 d_r_15 => ?_)
  have h_T_16 : IV R B K1 K2 T_16 := d_r_15.1.1
  have y_T_16 : FW R [130, 131, 1952, 2144, 3202] T_14 T_16 := d_r_15.1.2
  have x_T_16 := x_T_14.tr (y_T_16.w (by decide))
  replace d_r_15 : (0 ≤ r_15.toInt ∧ r_15.toInt ≤ 143) := d_r_15.2
  unfold g_X11_bestIfOff_b49
  exact tot_some ⟨⟨h_T_16, x_T_16⟩, fun _ => trivial⟩
set_option maxHeartbeats 4000000 in
set_option maxRecDepth 10000 in
theorem cs_X11_keepForUndo {R : Nat → Nat} {B K1 K2 : Nat} (T : AT) (o : Nat) (h_T : IV R B K1 K2 T) (k_o : R o = 11) : Tot (g_X11_keepForUndo T o) (fun T1 => IV R B K1 K2 T1 ∧ FW R [128, 256, 257, 258, 368, 369, 1984, 2016, 2048, 2080, 2112, 3202] T T1) := by
  have z0 : (1 : Int32).toInt = 1 := by decide
  have z1 : (6 : Int32).toInt = 6 := by decide
  have z2 : (0 : Int32).toInt = 0 := by decide
  have cc_101 : cnt 101 = 1 := rfl
  have cc_102 : cnt 102 = 12 := rfl
  have cc_103 : cnt 103 = 144 := rfl
  have cc_104 : cnt 104 = 2400 := rfl
  have cc_105 : cnt 105 = 7200 := rfl
  have x_T : FW R [128, 256, 257, 258, 368, 369, 1984, 2016, 2048, 2080, 2112, 3202] T T := FW.rf
  unfold g_X11_keepForUndo
  refine tot_oif (iv_oO h_T k_o (by decide) (by decide) rfl) ?_
  refine tot_let (fun v_1 e_v_1 => ?_)
  have r_v_1 : 0 ≤ v_1.toInt ∧ v_1.toInt ≤ 5 := iv_int h_T k_o (by decide) (by decide) e_v_1 rfl
  refine tot_let (fun v_2 e_v_2 => ?_)
  have q_v_2 := i_add e_v_2 (by omega) (by omega)
  refine tot_let (fun v_3 e_v_3 => ?_)
  have q_v_3 := i_rem e_v_3 (by omega) (by omega)
  refine tot_oif (iv_oO h_T k_o (by decide) (by decide) rfl) ?_
  refine tot_let (fun T_4 e_T_4 => ?_)
  have h_T_4 : IV R B K1 K2 T_4 := by rw [e_T_4]; exact iv_uI (a := 0) (b := 5) h_T k_o (by decide) (by decide) rfl (by omega) (.inl rfl)
  have x_T_4 := x_T.tr (fw_uI e_T_4 k_o (by decide))
  refine tot_oif (iv_oO h_T_4 k_o (by decide) (by decide) rfl) ?_
  refine tot_ref h_T_4 k_o (by decide) (by decide) (r2 := 47) (rfl : rtg 11 8 = 47) (by decide) (fun n_5 k_n_5 e_n_5 => ?_)
  refine tot_oif (iv_oO h_T_4 k_o (by decide) (by decide) rfl) ?_
  refine tot_let (fun v_6 e_v_6 => ?_)
  have r_v_6 : 0 ≤ v_6.toInt ∧ v_6.toInt ≤ 5 := iv_int h_T_4 k_o (by decide) (by decide) e_v_6 rfl
  refine tot_oif (iv_aA h_T_4 k_n_5 (by decide) (by decide) rfl rfl) ?_
  refine tot_oif (by rw [iv_len h_T_4 k_n_5 (by decide) (by decide) (rfl : shp 47 = (105, 6))]; exact i_inb (by omega) (by omega)) ?_
  refine tot_ref h_T_4 k_n_5 (by decide) (by decide) (r2 := 8) (rt_47 (by omega) (by omega)) (by decide) (fun n_7 k_n_7 e_n_7 => ?_)
  refine tot_oif (iv_oO h_T_4 k_o (by decide) (by decide) rfl) ?_
  refine tot_ref h_T_4 k_o (by decide) (by decide) (r2 := 8) (rfl : rtg 11 6 = 8) (by decide) (fun n_8 k_n_8 e_n_8 => ?_)
  refine tot_oif (iv_oO h_T_4 k_n_7 (by decide) (by decide) rfl) ?_
  refine tot_bind (cs_X8_copyFrom T_4 n_7 n_8 h_T_4 k_n_7 k_n_8 ) (fun T_9 d_T_9 => ?_)
  have h_T_9 : IV R B K1 K2 T_9 := d_T_9.1
  have y_T_9 : FW R [256, 257, 258, 1984, 2016, 2048, 2080, 2112, 3202] T_4 T_9 := d_T_9.2
  have x_T_9 := x_T_4.tr (y_T_9.w (by decide))
  unfold g_X11_keepForUndo_b29
  refine tot_oif (iv_oO h_T_9 k_o (by decide) (by decide) rfl) ?_
  refine tot_let (fun v_10 e_v_10 => ?_)
  have r_v_10 : 0 ≤ v_10.toInt ∧ v_10.toInt ≤ 6 := iv_int h_T_9 k_o (by decide) (by decide) e_v_10 rfl
  refine tot_if (fun c_14 => ?_) (fun c_14 => ?_)
  · replace c_14 := i_le c_14
    unfold g_X11_keepForUndo_b48
    refine tot_oif (iv_oO h_T_9 k_o (by decide) (by decide) rfl) ?_
    refine tot_ref h_T_9 k_o (by decide) (by decide) (r2 := 4) (rfl : rtg 11 4 = 4) (by decide) (fun n_15 k_n_15 e_n_15 => ?_)
    refine tot_oif (iv_oO h_T_9 k_n_15 (by decide) (by decide) rfl) ?_
    refine tot_let (fun T_16 e_T_16 => ?_)
    have h_T_16 : IV R B K1 K2 T_16 := by rw [e_T_16]; exact iv_uI (a := 0) (b := 1) h_T_9 k_n_15 (by decide) (by decide) rfl (by omega) (.inl rfl)
    have x_T_16 := x_T_9.tr (fw_uI e_T_16 k_n_15 (by decide))
    exact tot_some ⟨h_T_16, x_T_16⟩
  · replace c_14 := i_nle c_14
    refine tot_oif (iv_oO h_T_9 k_o (by decide) (by decide) rfl) ?_
    refine tot_let (fun v_11 e_v_11 => ?_)
    have u_v_11 : v_11.toInt = v_10.toInt := by rw [e_v_11, e_v_10]
    have r_v_11 : 0 ≤ v_11.toInt ∧ v_11.toInt ≤ 6 := iv_int h_T_9 k_o (by decide) (by decide) e_v_11 rfl
    refine tot_let (fun v_12 e_v_12 => ?_)
    have q_v_12 := i_add e_v_12 (by omega) (by omega)
    refine tot_oif (iv_oO h_T_9 k_o (by decide) (by decide) rfl) ?_
    refine tot_let (fun T_13 e_T_13 => ?_)
    have h_T_13 : IV R B K1 K2 T_13 := by rw [e_T_13]; exact iv_uI (a := 0) (b := 6) h_T_9 k_o (by decide) (by decide) rfl (by omega) (.inl rfl)
    have x_T_13 := x_T_9.tr (fw_uI e_T_13 k_o (by decide))
    unfold g_X11_keepForUndo_b48
    refine tot_oif (iv_oO h_T_13 k_o (by decide) (by decide) rfl) ?_
    refine tot_ref h_T_13 k_o (by decide) (by decide) (r2 := 4) (rfl : rtg 11 4 = 4) (by decide) (fun n_17 k_n_17 e_n_17 => ?_)
    refine tot_oif (iv_oO h_T_13 k_n_17 (by decide) (by decide) rfl) ?_
    refine tot_let (fun T_18 e_T_18 => ?_)
    have h_T_18 : IV R B K1 K2 T_18 := by rw [e_T_18]; exact iv_uI (a := 0) (b := 1) h_T_13 k_n_17 (by decide) (by decide) rfl (by omega) (.inl rfl)
    have x_T_18 := x_T_13.tr (fw_uI e_T_18 k_n_17 (by decide))
    exact tot_some ⟨h_T_18, x_T_18⟩
set_option maxHeartbeats 4000000 in
set_option maxRecDepth 10000 in
theorem cs_X11_mute {R : Nat → Nat} {B K1 K2 : Nat} (T : AT) (o : Nat) (a0 : Int32) (a1 : Int32) (h_T : IV R B K1 K2 T) (k_o : R o = 11) (g0 : 0 ≤ a1.toInt ∧ a1.toInt ≤ 1) : Tot (g_X11_mute T o a0 a1) (fun r => (IV R B K1 K2 r.2.2 ∧ FW R [128, 256, 257, 258, 368, 369, 1984, 2016, 2048, 2080, 2112, 3202] T r.2.2) ∧ (r.1 = 0 → (0 ≤ r.2.1.toInt ∧ r.2.1.toInt ≤ 1))) := by
  have cc_101 : cnt 101 = 1 := rfl
  have cc_102 : cnt 102 = 12 := rfl
  have cc_103 : cnt 103 = 144 := rfl
  have cc_104 : cnt 104 = 2400 := rfl
  have cc_105 : cnt 105 = 7200 := rfl
  have x_T : FW R [128, 256, 257, 258, 368, 369, 1984, 2016, 2048, 2080, 2112, 3202] T T := FW.rf
  have j_a0 := i_any a0
  have j_a1 := i_any a1
  unfold g_X11_mute
  refine tot_oif (iv_oO h_T k_o (by decide) (by decide) rfl) ?_
  refine tot_thrp (Q := fun r_1 : Int32 => (0 ≤ r_1.toInt ∧ r_1.toInt ≤ 0)) (cs_X11_needCamera T o h_T k_o ) (fun r_1 d_r_1 => ?_) (fun k_ => ⟨⟨h_T, x_T⟩, fun q_ => absurd q_ (Nat.succ_ne_zero k_)⟩)
  replace d_r_1 : (0 ≤ r_1.toInt ∧ r_1.toInt ≤ 0) := d_r_1
  refine tot_oif (iv_oO h_T k_o (by decide) (by decide) rfl) ?_
  refine tot_thrp (Q := fun r_3 : Int32 => (0 ≤ a0.toInt ∧ a0.toInt ≤ 11)) (cs_X11_needMic T o a0 h_T k_o ) (fun r_3 d_r_3 => ?_) (fun k_ => ⟨⟨h_T, x_T⟩, fun q_ => absurd q_ (Nat.succ_ne_zero k_)⟩)
  replace d_r_3 : (0 ≤ a0.toInt ∧ a0.toInt ≤ 11) := d_r_3
  refine tot_oif (iv_oO h_T k_o (by decide) (by decide) rfl) ?_
  refine tot_ref h_T k_o (by decide) (by decide) (r2 := 8) (rfl : rtg 11 6 = 8) (by decide) (fun n_5 k_n_5 e_n_5 => ?_)
  refine tot_oif (iv_oO h_T k_n_5 (by decide) (by decide) rfl) ?_
  refine tot_ref h_T k_n_5 (by decide) (by decide) (r2 := 62) (rfl : rtg 8 3 = 62) (by decide) (fun n_6 k_n_6 e_n_6 => ?_)
  refine tot_oif (iv_aA h_T k_n_6 (by decide) (by decide) rfl rfl) ?_
  refine tot_oif (by rw [iv_len h_T k_n_6 (by decide) (by decide) (rfl : shp 62 = (102, 12))]; exact i_inb (by omega) (by omega)) ?_
  refine tot_let (fun v_7 e_v_7 => ?_)
  have r_v_7 : 0 ≤ v_7.toInt ∧ v_7.toInt ≤ 1 := iv_int h_T k_n_6 (by decide) (by decide) e_v_7 rfl
  refine tot_oif (iv_oO h_T k_o (by decide) (by decide) rfl) ?_
  refine tot_bind (cs_X11_keepForUndo T o h_T k_o ) (fun T_8 d_T_8 => ?_)
  have h_T_8 : IV R B K1 K2 T_8 := d_T_8.1
  have y_T_8 : FW R [128, 256, 257, 258, 368, 369, 1984, 2016, 2048, 2080, 2112, 3202] T T_8 := d_T_8.2
  have x_T_8 := x_T.tr (y_T_8.w (by decide))
  unfold g_X11_mute_b23
  refine tot_oif (iv_oO h_T_8 k_o (by decide) (by decide) rfl) ?_
  refine tot_ref h_T_8 k_o (by decide) (by decide) (r2 := 8) (rfl : rtg 11 6 = 8) (by decide) (fun n_9 k_n_9 e_n_9 => ?_)
  refine tot_oif (iv_oO h_T_8 k_n_9 (by decide) (by decide) rfl) ?_
  refine tot_ref h_T_8 k_n_9 (by decide) (by decide) (r2 := 62) (rfl : rtg 8 3 = 62) (by decide) (fun n_10 k_n_10 e_n_10 => ?_)
  refine tot_oif (iv_aA h_T_8 k_n_10 (by decide) (by decide) rfl rfl) ?_
  refine tot_oif (by rw [iv_len h_T_8 k_n_10 (by decide) (by decide) (rfl : shp 62 = (102, 12))]; exact i_inb (by omega) (by omega)) ?_
  refine tot_oif (i_b01 (by omega)) ?_
  refine tot_let (fun T_11 e_T_11 => ?_)
  have h_T_11 : IV R B K1 K2 T_11 := by rw [e_T_11]; exact iv_uI (a := 0) (b := 1) h_T_8 k_n_10 (by decide) (by decide) rfl (by omega) (.inl rfl)
  have x_T_11 := x_T_8.tr (fw_uA e_T_11 k_n_10 rfl rfl (by decide))
  refine tot_oif (i_b01 (by omega)) ?_
  exact tot_some ⟨⟨h_T_11, x_T_11⟩, fun _ => (show (0 ≤ v_7.toInt ∧ v_7.toInt ≤ 1) from by omega)⟩
