set_option maxHeartbeats 4000000 in
set_option maxRecDepth 10000 in
theorem cl_X11_aliases_b29 {R : Nat → Nat} {B K1 K2 : Nat} {Q : Nat × Int32 × AT → Prop} (l0 : Nat) (l1 : Int32) (l2 : Int32) (l3 : Nat) (T00 : AT) (k_l0 : R l0 = 11) (k_l3 : R l3 = 4) (g0 : 2 ≤ l1.toInt ∧ l1.toInt ≤ 99) (g1 : 1 ≤ l2.toInt ∧ l2.toInt ≤ 100) (hx0 : ∀ (T : AT) (l4 : Int32), (IV R B K1 K2 T) → (FW R [128, 130, 131, 1952, 2144, 3202] T00 T) → Tot (some (0, l4, T)) Q) : ∀ (n : Nat) (T : AT) (l4 : Int32) (l5 : Int32), (IV R B K1 K2 T) → (FW R [128, 130, 131, 1952, 2144, 3202] T00 T) → (0 ≤ l5.toInt ∧ l5.toInt ≤ 144) → 144 - l5.toInt < (n : Int) → Tot (g_X11_aliases_b29 n T l0 l1 l2 l3 l4 l5) Q := by
  have z0 : (0 : Int32).toInt = 0 := by decide
  have z1 : (Int32.ofInt (1) : Int32).toInt = 1 := by decide
  have cc_101 : cnt 101 = 1 := rfl
  have cc_102 : cnt 102 = 12 := rfl
  have cc_103 : cnt 103 = 144 := rfl
  have cc_104 : cnt 104 = 2400 := rfl
  have cc_105 : cnt 105 = 7200 := rfl
  have j_l1 := i_any l1
  have j_l2 := i_any l2
  intro n
  induction n with
  | zero =>
    intro T l4 l5 h_T x_T g_l5 hm
    exfalso
    omega
  | succ n ih =>
    intro T l4 l5 h_T x_T g_l5 hm
    unfold g_X11_aliases_b29
    refine tot_oif (iv_oO h_T k_l0 (by decide) (by decide) rfl) ?_
    refine tot_ref h_T k_l0 (by decide) (by decide) (r2 := 6) (rfl : rtg 11 14 = 6) (by decide) (fun n_27 k_n_27 e_n_27 => ?_)
    refine tot_oif (iv_oO h_T k_n_27 (by decide) (by decide) rfl) ?_
    refine tot_ref h_T k_n_27 (by decide) (by decide) (r2 := 1) (rfl : rtg 6 6 = 1) (by decide) (fun n_28 k_n_28 e_n_28 => ?_)
    refine tot_oif (iv_oO h_T k_n_28 (by decide) (by decide) rfl) ?_
    refine tot_bindq (R := fun r_29 : Int32 => (0 ≤ r_29.toInt ∧ r_29.toInt ≤ 144)) (cs_X1_cells T n_28 h_T k_n_28 ) (fun r_29 d_r_29 => ?_)
    replace d_r_29 : (0 ≤ r_29.toInt ∧ r_29.toInt ≤ 144) := d_r_29
    refine tot_if (fun c_34 => ?_) (fun c_34 => ?_)
    · replace c_34 := i_le c_34
      exact hx0 T l4 h_T x_T
    · replace c_34 := i_nle c_34
      refine tot_oif (iv_oO h_T k_l0 (by decide) (by decide) rfl) ?_
      refine tot_bind2 (cs_X11_marksAlias T l0 l3 l5 l1 l2 h_T k_l0 k_l3 (by omega) (by omega) (by omega)) (fun r_31 T_32 d_r_31 => ?_)
      have h_T_32 : IV R B K1 K2 T_32 := d_r_31.1.1
      have y_T_32 : FW R [1952] T T_32 := d_r_31.1.2
      have x_T_32 := x_T.tr (y_T_32.w (by decide))
      replace d_r_31 : (0 ≤ r_31.toInt ∧ r_31.toInt ≤ 1) := d_r_31.2
      refine tot_if (fun c_35 => ?_) (fun c_35 => ?_)
      · replace c_35 := i_eq c_35
        unfold g_X11_aliases_b59
        refine tot_let (fun v_36 e_v_36 => ?_)
        have q_v_36 := i_add e_v_36 (by omega) (by omega)
        exact ih T_32 l4 v_36 h_T_32 x_T_32 (by omega) (by omega)
      · replace c_35 := i_ne c_35
        refine tot_let (fun v_33 e_v_33 => ?_)
        have r_v_33 := i_any v_33
        unfold g_X11_aliases_b59
        refine tot_let (fun v_37 e_v_37 => ?_)
        have q_v_37 := i_add e_v_37 (by omega) (by omega)
        exact ih T_32 v_33 v_37 h_T_32 x_T_32 (by omega) (by omega)
set_option maxHeartbeats 4000000 in
set_option maxRecDepth 10000 in
theorem cs_X11_aliases {R : Nat → Nat} {B K1 K2 : Nat} (T : AT) (o : Nat) (a0 : Int32) (a1 : Int32) (h_T : IV R B K1 K2 T) (k_o : R o = 11) : Tot (g_X11_aliases T o a0 a1) (fun r => (IV R B K1 K2 r.2.2 ∧ FW R [128, 130, 131, 1952, 2144, 3202] T r.2.2) ∧ (r.1 = 0 → True)) := by
  have z0 : ((2 : Int32) : Int32).toInt = 2 := by decide
  have z1 : ((99 : Int32) : Int32).toInt = 99 := by decide
  have z2 : ((1 : Int32) : Int32).toInt = 1 := by decide
  have z3 : ((100 : Int32) : Int32).toInt = 100 := by decide
  have z4 : (0 : Int32).toInt = 0 := by decide
  have cc_101 : cnt 101 = 1 := rfl
  have cc_102 : cnt 102 = 12 := rfl
  have cc_103 : cnt 103 = 144 := rfl
  have cc_104 : cnt 104 = 2400 := rfl
  have cc_105 : cnt 105 = 7200 := rfl
  have x_T : FW R [128, 130, 131, 1952, 2144, 3202] T T := FW.rf
  have j_a0 := i_any a0
  have j_a1 := i_any a1
  unfold g_X11_aliases
  refine tot_oif (iv_oO h_T k_o (by decide) (by decide) rfl) ?_
  refine tot_thrp (Q := fun r_1 : Int32 => (0 ≤ r_1.toInt ∧ r_1.toInt ≤ 0)) (cs_X11_needCamera T o h_T k_o ) (fun r_1 d_r_1 => ?_) (fun k_ => ⟨⟨h_T, x_T⟩, fun q_ => absurd q_ (Nat.succ_ne_zero k_)⟩)
  replace d_r_1 : (0 ≤ r_1.toInt ∧ r_1.toInt ≤ 0) := d_r_1
  refine tot_thrp (Q := fun r_3 : Int32 => (((2 : Int32) : Int32).toInt ≤ a0.toInt ∧ a0.toInt ≤ ((99 : Int32) : Int32).toInt)) (cs_X11_needRange T a0 (2 : Int32) (99 : Int32) h_T ) (fun r_3 d_r_3 => ?_) (fun k_ => ⟨⟨h_T, x_T⟩, fun q_ => absurd q_ (Nat.succ_ne_zero k_)⟩)
  replace d_r_3 : (((2 : Int32) : Int32).toInt ≤ a0.toInt ∧ a0.toInt ≤ ((99 : Int32) : Int32).toInt) := d_r_3
  refine tot_thrp (Q := fun r_5 : Int32 => (((1 : Int32) : Int32).toInt ≤ a1.toInt ∧ a1.toInt ≤ ((100 : Int32) : Int32).toInt)) (cs_X11_needRange T a1 (1 : Int32) (100 : Int32) h_T ) (fun r_5 d_r_5 => ?_) (fun k_ => ⟨⟨h_T, x_T⟩, fun q_ => absurd q_ (Nat.succ_ne_zero k_)⟩)
  replace d_r_5 : (((1 : Int32) : Int32).toInt ≤ a1.toInt ∧ a1.toInt ≤ ((100 : Int32) : Int32).toInt) := d_r_5
  refine tot_oif (iv_oO h_T k_o (by decide) (by decide) rfl) ?_
  refine tot_bind2 (cs_X11_powersNow T o h_T k_o ) (fun r_7 T_8 d_r_7 => ?_)
  have h_T_8 : IV R B K1 K2 T_8 := d_r_7.1.1
  have y_T_8 : FW R [128, 130, 131, 1952, 2144, 3202] T T_8 := d_r_7.1.2
  have x_T_8 := x_T.tr (y_T_8.w (by decide))
  have k_r_7 : R r_7 = 4 := d_r_7.2
  refine tot_oif (Nat.ble_eq_true_of_le (iv_lt h_T_8 (iv_sta h_T_8 k_r_7 (by decide) (by decide)))) ?_
  unfold g_X11_aliases_b22
  refine cl_X11_aliases_b29 o a0 a1 r_7 T k_o k_r_7 (by omega) (by omega) ?_ 16384 T_8 0 0 h_T_8 x_T_8 (by omega) (by omega)
  · intro T_38 l_39 h_T_38 x_T_38
    have j_l_39 := i_any l_39
    exact tot_some ⟨⟨h_T_38, x_T_38⟩, fun _ => trivial⟩
set_option maxHeartbeats 4000000 in
set_option maxRecDepth 10000 in
theorem cs_X11_blockPower {R : Nat → Nat} {B K1 K2 : Nat} (T : AT) (o : Nat) (a0 : Int32) (a1 : Int32) (a2 : Int32) (h_T : IV R B K1 K2 T) (k_o : R o = 11) : Tot (g_X11_blockPower T o a0 a1 a2) (fun r => (IV R B K1 K2 r.2.2 ∧ FW R [3202] T r.2.2) ∧ (r.1 = 0 → True)) := by
  have z0 : (1 : Int32).toInt = 1 := by decide
  have z1 : ((0 : Int32) : Int32).toInt = 0 := by decide
  have z2 : ((1 : Int32) : Int32).toInt = 1 := by decide
  have cc_101 : cnt 101 = 1 := rfl
  have cc_102 : cnt 102 = 12 := rfl
  have cc_103 : cnt 103 = 144 := rfl
  have cc_104 : cnt 104 = 2400 := rfl
  have cc_105 : cnt 105 = 7200 := rfl
  have x_T : FW R [3202] T T := FW.rf
  have j_a0 := i_any a0
  have j_a1 := i_any a1
  have j_a2 := i_any a2
  unfold g_X11_blockPower
  refine tot_oif (iv_oO h_T k_o (by decide) (by decide) rfl) ?_
  refine tot_thrp (Q := fun r_1 : Int32 => (0 ≤ r_1.toInt ∧ r_1.toInt ≤ 0)) (cs_X11_needCamera T o h_T k_o ) (fun r_1 d_r_1 => ?_) (fun k_ => ⟨⟨h_T, x_T⟩, fun q_ => absurd q_ (Nat.succ_ne_zero k_)⟩)
  replace d_r_1 : (0 ≤ r_1.toInt ∧ r_1.toInt ≤ 0) := d_r_1
  refine tot_oif (iv_oO h_T k_o (by decide) (by decide) rfl) ?_
  refine tot_thrp (Q := fun r_3 : Int32 => (0 ≤ a0.toInt ∧ a0.toInt ≤ 143)) (cs_X11_needCell T o a0 h_T k_o ) (fun r_3 d_r_3 => ?_) (fun k_ => ⟨⟨h_T, x_T⟩, fun q_ => absurd q_ (Nat.succ_ne_zero k_)⟩)
  replace d_r_3 : (0 ≤ a0.toInt ∧ a0.toInt ≤ 143) := d_r_3
  refine tot_oif (iv_oO h_T k_o (by decide) (by decide) rfl) ?_
  refine tot_ref h_T k_o (by decide) (by decide) (r2 := 6) (rfl : rtg 11 14 = 6) (by decide) (fun n_5 k_n_5 e_n_5 => ?_)
  refine tot_oif (iv_oO h_T k_n_5 (by decide) (by decide) rfl) ?_
  refine tot_let (fun v_6 e_v_6 => ?_)
  have r_v_6 : 0 ≤ v_6.toInt ∧ v_6.toInt ≤ 200 := iv_int h_T k_n_5 (by decide) (by decide) e_v_6 rfl
  refine tot_let (fun v_7 e_v_7 => ?_)
  have q_v_7 := i_sub e_v_7 (by omega) (by omega)
  refine tot_thrp (Q := fun r_8 : Int32 => (((0 : Int32) : Int32).toInt ≤ a1.toInt ∧ a1.toInt ≤ v_7.toInt)) (cs_X11_needRange T a1 (0 : Int32) v_7 h_T ) (fun r_8 d_r_8 => ?_) (fun k_ => ⟨⟨h_T, x_T⟩, fun q_ => absurd q_ (Nat.succ_ne_zero k_)⟩)
  replace d_r_8 : (((0 : Int32) : Int32).toInt ≤ a1.toInt ∧ a1.toInt ≤ v_7.toInt) := d_r_8
  refine tot_oif (iv_oO h_T k_o (by decide) (by decide) rfl) ?_
  refine tot_ref1 e_n_5 ?_
  refine tot_oif (iv_oO h_T k_n_5 (by decide) (by decide) rfl) ?_
  refine tot_let (fun v_11 e_v_11 => ?_)
  have u_v_11 : v_11.toInt = v_6.toInt := by rw [e_v_11, e_v_6]
  have r_v_11 : 0 ≤ v_11.toInt ∧ v_11.toInt ≤ 200 := iv_int h_T k_n_5 (by decide) (by decide) e_v_11 rfl
  refine tot_thrp (Q := fun r_12 : Int32 => (((1 : Int32) : Int32).toInt ≤ a2.toInt ∧ a2.toInt ≤ v_11.toInt)) (cs_X11_needRange T a2 (1 : Int32) v_11 h_T ) (fun r_12 d_r_12 => ?_) (fun k_ => ⟨⟨h_T, x_T⟩, fun q_ => absurd q_ (Nat.succ_ne_zero k_)⟩)
  replace d_r_12 : (((1 : Int32) : Int32).toInt ≤ a2.toInt ∧ a2.toInt ≤ v_11.toInt) := d_r_12
  refine tot_oif (iv_oO h_T k_o (by decide) (by decide) rfl) ?_
  refine tot_ref h_T k_o (by decide) (by decide) (r2 := 8) (rfl : rtg 11 6 = 8) (by decide) (fun n_14 k_n_14 e_n_14 => ?_)
  refine tot_oif (iv_oO h_T k_o (by decide) (by decide) rfl) ?_
  refine tot_ref1 e_n_5 ?_
  refine tot_oif (iv_oO h_T k_n_5 (by decide) (by decide) rfl) ?_
  refine tot_ref h_T k_n_5 (by decide) (by decide) (r2 := 51) (rfl : rtg 6 17 = 51) (by decide) (fun n_16 k_n_16 e_n_16 => ?_)
  refine tot_oif (iv_aA h_T k_n_16 (by decide) (by decide) rfl rfl) ?_
  refine tot_oif (by rw [iv_len h_T k_n_16 (by decide) (by decide) (rfl : shp 51 = (106, 144))]; exact i_inb (by omega) (by omega)) ?_
  refine tot_ref h_T k_n_16 (by decide) (by decide) (r2 := 50) (rt_51 (by omega) (by omega)) (by decide) (fun n_17 k_n_17 e_n_17 => ?_)
  refine tot_oif (iv_oO h_T k_o (by decide) (by decide) rfl) ?_
  refine tot_ref h_T k_o (by decide) (by decide) (r2 := 102) (rfl : rtg 11 12 = 102) (by decide) (fun n_18 k_n_18 e_n_18 => ?_)
  refine tot_oif (iv_oO h_T k_n_14 (by decide) (by decide) rfl) ?_
  refine tot_bind (cs_X8_blockPowerOf T n_14 n_17 a1 a2 n_18 (0 : Int32) h_T k_n_14 k_n_17 k_n_18 (rfl : isW 102 = true) (by omega) (by omega) (by omega) (by omega)) (fun T_19 d_T_19 => ?_)
  have h_T_19 : IV R B K1 K2 T_19 := d_T_19.1
  have y_T_19 : FW R [3202] T T_19 := d_T_19.2
  have x_T_19 := x_T.tr (y_T_19.w (by decide))
  unfold g_X11_blockPower_b58
  refine tot_oif (iv_oO h_T_19 k_o (by decide) (by decide) rfl) ?_
  refine tot_ref h_T_19 k_o (by decide) (by decide) (r2 := 102) (rfl : rtg 11 12 = 102) (by decide) (fun n_20 k_n_20 e_n_20 => ?_)
  refine tot_oif (w_oO h_T_19 k_n_20 (rfl : isW 102 = true)) ?_
  refine tot_bindq (R := fun r_21 : Int64 => True) (c_value (a0 := (0 : Int32)) k_n_20 (rfl : isW 102 = true) h_T_19 (by omega)) (fun r_21 d_r_21 => ?_)
  exact tot_some ⟨⟨h_T_19, x_T_19⟩, fun _ => trivial⟩
set_option maxHeartbeats 4000000 in
set_option maxRecDepth 10000 in
theorem cs_X11_blockBest {R : Nat → Nat} {B K1 K2 : Nat} (T : AT) (o : Nat) (a0 : Int32) (a1 : Int32) (h_T : IV R B K1 K2 T) (k_o : R o = 11) : Tot (g_X11_blockBest T o a0 a1) (fun r => (IV R B K1 K2 r.2.2 ∧ FW R [3202] T r.2.2) ∧ (r.1 = 0 → (0 ≤ r.2.1.toInt ∧ r.2.1.toInt ≤ 143))) := by
  have z0 : (1 : Int32).toInt = 1 := by decide
  have z1 : ((0 : Int32) : Int32).toInt = 0 := by decide
  have z2 : ((1 : Int32) : Int32).toInt = 1 := by decide
  have cc_101 : cnt 101 = 1 := rfl
  have cc_102 : cnt 102 = 12 := rfl
  have cc_103 : cnt 103 = 144 := rfl
  have cc_104 : cnt 104 = 2400 := rfl
  have cc_105 : cnt 105 = 7200 := rfl
  have x_T : FW R [3202] T T := FW.rf
  have j_a0 := i_any a0
  have j_a1 := i_any a1
  unfold g_X11_blockBest
  refine tot_oif (iv_oO h_T k_o (by decide) (by decide) rfl) ?_
  refine tot_thrp (Q := fun r_1 : Int32 => (0 ≤ r_1.toInt ∧ r_1.toInt ≤ 0)) (cs_X11_needCamera T o h_T k_o ) (fun r_1 d_r_1 => ?_) (fun k_ => ⟨⟨h_T, x_T⟩, fun q_ => absurd q_ (Nat.succ_ne_zero k_)⟩)
  replace d_r_1 : (0 ≤ r_1.toInt ∧ r_1.toInt ≤ 0) := d_r_1
  refine tot_oif (iv_oO h_T k_o (by decide) (by decide) rfl) ?_
  refine tot_ref h_T k_o (by decide) (by decide) (r2 := 6) (rfl : rtg 11 14 = 6) (by decide) (fun n_3 k_n_3 e_n_3 => ?_)
  refine tot_oif (iv_oO h_T k_n_3 (by decide) (by decide) rfl) ?_
  refine tot_let (fun v_4 e_v_4 => ?_)
  have r_v_4 : 0 ≤ v_4.toInt ∧ v_4.toInt ≤ 200 := iv_int h_T k_n_3 (by decide) (by decide) e_v_4 rfl
  refine tot_let (fun v_5 e_v_5 => ?_)
  have q_v_5 := i_sub e_v_5 (by omega) (by omega)
  refine tot_thrp (Q := fun r_6 : Int32 => (((0 : Int32) : Int32).toInt ≤ a0.toInt ∧ a0.toInt ≤ v_5.toInt)) (cs_X11_needRange T a0 (0 : Int32) v_5 h_T ) (fun r_6 d_r_6 => ?_) (fun k_ => ⟨⟨h_T, x_T⟩, fun q_ => absurd q_ (Nat.succ_ne_zero k_)⟩)
  replace d_r_6 : (((0 : Int32) : Int32).toInt ≤ a0.toInt ∧ a0.toInt ≤ v_5.toInt) := d_r_6
  refine tot_oif (iv_oO h_T k_o (by decide) (by decide) rfl) ?_
  refine tot_ref1 e_n_3 ?_
  refine tot_oif (iv_oO h_T k_n_3 (by decide) (by decide) rfl) ?_
  refine tot_let (fun v_9 e_v_9 => ?_)
  have u_v_9 : v_9.toInt = v_4.toInt := by rw [e_v_9, e_v_4]
  have r_v_9 : 0 ≤ v_9.toInt ∧ v_9.toInt ≤ 200 := iv_int h_T k_n_3 (by decide) (by decide) e_v_9 rfl
  refine tot_thrp (Q := fun r_10 : Int32 => (((1 : Int32) : Int32).toInt ≤ a1.toInt ∧ a1.toInt ≤ v_9.toInt)) (cs_X11_needRange T a1 (1 : Int32) v_9 h_T ) (fun r_10 d_r_10 => ?_) (fun k_ => ⟨⟨h_T, x_T⟩, fun q_ => absurd q_ (Nat.succ_ne_zero k_)⟩)
  replace d_r_10 : (((1 : Int32) : Int32).toInt ≤ a1.toInt ∧ a1.toInt ≤ v_9.toInt) := d_r_10
  refine tot_oif (iv_oO h_T k_o (by decide) (by decide) rfl) ?_
  refine tot_ref h_T k_o (by decide) (by decide) (r2 := 20) (rfl : rtg 11 3 = 20) (by decide) (fun n_12 k_n_12 e_n_12 => ?_)
  refine tot_oif (iv_oO h_T k_o (by decide) (by decide) rfl) ?_
  refine tot_ref1 e_n_3 ?_
  refine tot_oif (iv_oO h_T k_o (by decide) (by decide) rfl) ?_
  refine tot_ref h_T k_o (by decide) (by decide) (r2 := 8) (rfl : rtg 11 6 = 8) (by decide) (fun n_14 k_n_14 e_n_14 => ?_)
  refine tot_oif (iv_oO h_T k_n_12 (by decide) (by decide) rfl) ?_
  refine tot_bind2 (cs_X0_bestOf T n_12 n_3 n_14 a0 a1 h_T k_n_12 k_n_3 k_n_14 (by omega) (by omega)) (fun r_15 T_16 d_r_15 => ?_)
  have h_T_16 : IV R B K1 K2 T_16 := d_r_15.1.1
  have y_T_16 : FW R [3202] T T_16 := d_r_15.1.2
  have x_T_16 := x_T.tr (y_T_16.w (by decide))
  replace d_r_15 : (0 ≤ r_15.toInt ∧ r_15.toInt ≤ 143) := d_r_15.2
  unfold g_X11_blockBest_b47
  exact tot_some ⟨⟨h_T_16, x_T_16⟩, fun _ => (show (0 ≤ r_15.toInt ∧ r_15.toInt ≤ 143) from by omega)⟩
set_option maxHeartbeats 4000000 in
set_option maxRecDepth 10000 in
theorem cl_X11_path_b39 {R : Nat → Nat} {B K1 K2 : Nat} {Q : Nat × Int32 × AT → Prop} (l0 : Nat) (l1 : Int32) (T00 : AT) (k_l0 : R l0 = 11) (g0 : 4 ≤ l1.toInt ∧ l1.toInt ≤ 200) (hx0 : ∀ (T : AT) (l2 : Int32), (IV R B K1 K2 T) → (FW R [3202] T00 T) → Tot (some (0, l2, T)) Q) : ∀ (n : Nat) (T : AT) (l2 : Int32) (l3 : Int32) (l4 : Int32), (IV R B K1 K2 T) → (FW R [3202] T00 T) → (0 ≤ l3.toInt ∧ l3.toInt ≤ 143) → (4 ≤ l4.toInt ∧ l4.toInt ≤ 392) → 400 - l4.toInt < (n : Int) → Tot (g_X11_path_b39 n T l0 l1 l2 l3 l4) Q := by
  have z0 : (0 : Int32).toInt = 0 := by decide
  have z1 : (1 : Int32).toInt = 1 := by decide
  have cc_101 : cnt 101 = 1 := rfl
  have cc_102 : cnt 102 = 12 := rfl
  have cc_103 : cnt 103 = 144 := rfl
  have cc_104 : cnt 104 = 2400 := rfl
  have cc_105 : cnt 105 = 7200 := rfl
  have j_l1 := i_any l1
  intro n
  induction n with
  | zero =>
    intro T l2 l3 l4 h_T x_T g_l3 g_l4 hm
    exfalso
    omega
  | succ n ih =>
    intro T l2 l3 l4 h_T x_T g_l3 g_l4 hm
    unfold g_X11_path_b39
    refine tot_let (fun v_26 e_v_26 => ?_)
    have q_v_26 := i_add e_v_26 (by omega) (by omega)
    refine tot_oif (iv_oO h_T k_l0 (by decide) (by decide) rfl) ?_
    refine tot_ref h_T k_l0 (by decide) (by decide) (r2 := 6) (rfl : rtg 11 14 = 6) (by decide) (fun n_27 k_n_27 e_n_27 => ?_)
    refine tot_oif (iv_oO h_T k_n_27 (by decide) (by decide) rfl) ?_
    refine tot_let (fun v_28 e_v_28 => ?_)
    have r_v_28 : 0 ≤ v_28.toInt ∧ v_28.toInt ≤ 200 := iv_int h_T k_n_27 (by decide) (by decide) e_v_28 rfl
    refine tot_if (fun c_34 => ?_) (fun c_34 => ?_)
    · replace c_34 := i_lt c_34
      exact hx0 T l2 h_T x_T
    · replace c_34 := i_nlt c_34
      refine tot_oif (iv_oO h_T k_l0 (by decide) (by decide) rfl) ?_
      refine tot_ref h_T k_l0 (by decide) (by decide) (r2 := 20) (rfl : rtg 11 3 = 20) (by decide) (fun n_29 k_n_29 e_n_29 => ?_)
      refine tot_oif (iv_oO h_T k_l0 (by decide) (by decide) rfl) ?_
      refine tot_ref1 e_n_27 ?_
      refine tot_oif (iv_oO h_T k_l0 (by decide) (by decide) rfl) ?_
      refine tot_ref h_T k_l0 (by decide) (by decide) (r2 := 8) (rfl : rtg 11 6 = 8) (by decide) (fun n_31 k_n_31 e_n_31 => ?_)
      refine tot_oif (iv_oO h_T k_n_29 (by decide) (by decide) rfl) ?_
      refine tot_bind2 (cs_X0_bestOf T n_29 n_27 n_31 l4 l1 h_T k_n_29 k_n_27 k_n_31 (by omega) (by omega)) (fun r_32 T_33 d_r_32 => ?_)
      have h_T_33 : IV R B K1 K2 T_33 := d_r_32.1.1
      have y_T_33 : FW R [3202] T T_33 := d_r_32.1.2
      have x_T_33 := x_T.tr (y_T_33.w (by decide))
      replace d_r_32 : (0 ≤ r_32.toInt ∧ r_32.toInt ≤ 143) := d_r_32.2
      unfold g_X11_path_b71
      refine tot_if (fun c_35 => ?_) (fun c_35 => ?_)
      · replace c_35 := i_eq c_35
        unfold g_X11_path_b85
        refine tot_let (fun v_36 e_v_36 => ?_)
        have r_v_36 := i_any v_36
        refine tot_let (fun v_37 e_v_37 => ?_)
        have q_v_37 := i_ilt e_v_37
        refine tot_let (fun v_38 e_v_38 => ?_)
        have q_v_38 := i_add e_v_38 (by omega) (by omega)
        exact ih T_33 v_36 r_32 v_38 h_T_33 x_T_33 (by omega) (by omega) (by omega)
      · replace c_35 := i_ne c_35
        unfold g_X11_path_b85
        refine tot_let (fun v_39 e_v_39 => ?_)
        have r_v_39 := i_any v_39
        refine tot_let (fun v_40 e_v_40 => ?_)
        have q_v_40 := i_ilt e_v_40
        refine tot_let (fun v_41 e_v_41 => ?_)
        have q_v_41 := i_add e_v_41 (by omega) (by omega)
        exact ih T_33 v_39 r_32 v_41 h_T_33 x_T_33 (by omega) (by omega) (by omega)
set_option maxHeartbeats 4000000 in
set_option maxRecDepth 10000 in
theorem cs_X11_path {R : Nat → Nat} {B K1 K2 : Nat} (T : AT) (o : Nat) (a0 : Int32) (h_T : IV R B K1 K2 T) (k_o : R o = 11) : Tot (g_X11_path T o a0) (fun r => (IV R B K1 K2 r.2.2 ∧ FW R [3202] T r.2.2) ∧ (r.1 = 0 → True)) := by
  have z0 : ((4 : Int32) : Int32).toInt = 4 := by decide
  have z1 : ((0 : Int32) : Int32).toInt = 0 := by decide
  have z2 : (0 : Int32).toInt = 0 := by decide
  have cc_101 : cnt 101 = 1 := rfl
  have cc_102 : cnt 102 = 12 := rfl
  have cc_103 : cnt 103 = 144 := rfl
  have cc_104 : cnt 104 = 2400 := rfl
  have cc_105 : cnt 105 = 7200 := rfl
  have x_T : FW R [3202] T T := FW.rf
  have j_a0 := i_any a0
  unfold g_X11_path
  refine tot_oif (iv_oO h_T k_o (by decide) (by decide) rfl) ?_
  refine tot_thrp (Q := fun r_1 : Int32 => (0 ≤ r_1.toInt ∧ r_1.toInt ≤ 0)) (cs_X11_needCamera T o h_T k_o ) (fun r_1 d_r_1 => ?_) (fun k_ => ⟨⟨h_T, x_T⟩, fun q_ => absurd q_ (Nat.succ_ne_zero k_)⟩)
  replace d_r_1 : (0 ≤ r_1.toInt ∧ r_1.toInt ≤ 0) := d_r_1
  refine tot_oif (iv_oO h_T k_o (by decide) (by decide) rfl) ?_
  refine tot_ref h_T k_o (by decide) (by decide) (r2 := 6) (rfl : rtg 11 14 = 6) (by decide) (fun n_3 k_n_3 e_n_3 => ?_)
  refine tot_oif (iv_oO h_T k_n_3 (by decide) (by decide) rfl) ?_
  refine tot_let (fun v_4 e_v_4 => ?_)
  have r_v_4 : 0 ≤ v_4.toInt ∧ v_4.toInt ≤ 200 := iv_int h_T k_n_3 (by decide) (by decide) e_v_4 rfl
  refine tot_thrp (Q := fun r_5 : Int32 => (((4 : Int32) : Int32).toInt ≤ a0.toInt ∧ a0.toInt ≤ v_4.toInt)) (cs_X11_needRange T a0 (4 : Int32) v_4 h_T ) (fun r_5 d_r_5 => ?_) (fun k_ => ⟨⟨h_T, x_T⟩, fun q_ => absurd q_ (Nat.succ_ne_zero k_)⟩)
  replace d_r_5 : (((4 : Int32) : Int32).toInt ≤ a0.toInt ∧ a0.toInt ≤ v_4.toInt) := d_r_5
  refine tot_oif (iv_oO h_T k_o (by decide) (by decide) rfl) ?_
  refine tot_ref h_T k_o (by decide) (by decide) (r2 := 20) (rfl : rtg 11 3 = 20) (by decide) (fun n_7 k_n_7 e_n_7 => ?_)
  refine tot_oif (iv_oO h_T k_o (by decide) (by decide) rfl) ?_
  refine tot_ref1 e_n_3 ?_
  refine tot_oif (iv_oO h_T k_o (by decide) (by decide) rfl) ?_
  refine tot_ref h_T k_o (by decide) (by decide) (r2 := 8) (rfl : rtg 11 6 = 8) (by decide) (fun n_9 k_n_9 e_n_9 => ?_)
  refine tot_oif (iv_oO h_T k_n_7 (by decide) (by decide) rfl) ?_
  refine tot_bind2 (cs_X0_bestOf T n_7 n_3 n_9 (0 : Int32) a0 h_T k_n_7 k_n_3 k_n_9 (by omega) (by omega)) (fun r_10 T_11 d_r_10 => ?_)
  have h_T_11 : IV R B K1 K2 T_11 := d_r_10.1.1
  have y_T_11 : FW R [3202] T T_11 := d_r_10.1.2
  have x_T_11 := x_T.tr (y_T_11.w (by decide))
  replace d_r_10 : (0 ≤ r_10.toInt ∧ r_10.toInt ≤ 143) := d_r_10.2
  unfold g_X11_path_b35
  refine cl_X11_path_b39 o a0 T k_o (by omega) ?_ 16384 T_11 0 r_10 a0 h_T_11 x_T_11 (by omega) (by omega) (by omega)
  · intro T_42 l_43 h_T_42 x_T_42
    have j_l_43 := i_any l_43
    exact tot_some ⟨⟨h_T_42, x_T_42⟩, fun _ => trivial⟩
set_option maxHeartbeats 4000000 in
set_option maxRecDepth 10000 in
theorem cs_X11_trackScore {R : Nat → Nat} {B K1 K2 : Nat} (T : AT) (o : Nat) (a0 : Int32) (h_T : IV R B K1 K2 T) (k_o : R o = 11) : Tot (g_X11_trackScore T o a0) (fun r => (IV R B K1 K2 r.2.2 ∧ FW R [1952, 3202] T r.2.2) ∧ (r.1 = 0 → True)) := by
  have z0 : ((4 : Int32) : Int32).toInt = 4 := by decide
  have z1 : ((0 : Int32) : Int32).toInt = 0 := by decide
  have cc_101 : cnt 101 = 1 := rfl
  have cc_102 : cnt 102 = 12 := rfl
  have cc_103 : cnt 103 = 144 := rfl
  have cc_104 : cnt 104 = 2400 := rfl
  have cc_105 : cnt 105 = 7200 := rfl
  have x_T : FW R [1952, 3202] T T := FW.rf
  have j_a0 := i_any a0
  unfold g_X11_trackScore
  refine tot_oif (iv_oO h_T k_o (by decide) (by decide) rfl) ?_
  refine tot_thrp (Q := fun r_1 : Int32 => (0 ≤ r_1.toInt ∧ r_1.toInt ≤ 0)) (cs_X11_needCamera T o h_T k_o ) (fun r_1 d_r_1 => ?_) (fun k_ => ⟨⟨h_T, x_T⟩, fun q_ => absurd q_ (Nat.succ_ne_zero k_)⟩)
  replace d_r_1 : (0 ≤ r_1.toInt ∧ r_1.toInt ≤ 0) := d_r_1
  refine tot_oif (iv_oO h_T k_o (by decide) (by decide) rfl) ?_
  refine tot_ref h_T k_o (by decide) (by decide) (r2 := 6) (rfl : rtg 11 14 = 6) (by decide) (fun n_3 k_n_3 e_n_3 => ?_)
  refine tot_oif (iv_oO h_T k_n_3 (by decide) (by decide) rfl) ?_
  refine tot_let (fun v_4 e_v_4 => ?_)
  have r_v_4 : 0 ≤ v_4.toInt ∧ v_4.toInt ≤ 200 := iv_int h_T k_n_3 (by decide) (by decide) e_v_4 rfl
  refine tot_thrp (Q := fun r_5 : Int32 => (((4 : Int32) : Int32).toInt ≤ a0.toInt ∧ a0.toInt ≤ v_4.toInt)) (cs_X11_needRange T a0 (4 : Int32) v_4 h_T ) (fun r_5 d_r_5 => ?_) (fun k_ => ⟨⟨h_T, x_T⟩, fun q_ => absurd q_ (Nat.succ_ne_zero k_)⟩)
  replace d_r_5 : (((4 : Int32) : Int32).toInt ≤ a0.toInt ∧ a0.toInt ≤ v_4.toInt) := d_r_5
  refine tot_oif (iv_oO h_T k_o (by decide) (by decide) rfl) ?_
  refine tot_ref h_T k_o (by decide) (by decide) (r2 := 20) (rfl : rtg 11 3 = 20) (by decide) (fun n_7 k_n_7 e_n_7 => ?_)
  refine tot_oif (iv_oO h_T k_o (by decide) (by decide) rfl) ?_
  refine tot_ref1 e_n_3 ?_
  refine tot_oif (iv_oO h_T k_o (by decide) (by decide) rfl) ?_
  refine tot_ref h_T k_o (by decide) (by decide) (r2 := 8) (rfl : rtg 11 6 = 8) (by decide) (fun n_9 k_n_9 e_n_9 => ?_)
  refine tot_oif (iv_oO h_T k_n_7 (by decide) (by decide) rfl) ?_
  refine tot_bind (cs_X0_score T n_7 n_3 n_9 a0 h_T k_n_7 k_n_3 k_n_9 (by omega)) (fun T_10 d_T_10 => ?_)
  have h_T_10 : IV R B K1 K2 T_10 := d_T_10.1
  have y_T_10 : FW R [1952, 3202] T T_10 := d_T_10.2
  have x_T_10 := x_T.tr (y_T_10.w (by decide))
  unfold g_X11_trackScore_b32
  refine tot_oif (iv_oO h_T_10 k_o (by decide) (by decide) rfl) ?_
  refine tot_ref h_T_10 k_o (by decide) (by decide) (r2 := 20) (rfl : rtg 11 3 = 20) (by decide) (fun n_11 k_n_11 e_n_11 => ?_)
  refine tot_oif (iv_oO h_T_10 k_n_11 (by decide) (by decide) rfl) ?_
  refine tot_ref h_T_10 k_n_11 (by decide) (by decide) (r2 := 105) (rfl : rtg 20 0 = 105) (by decide) (fun n_12 k_n_12 e_n_12 => ?_)
  refine tot_oif (iv_oO h_T_10 k_o (by decide) (by decide) rfl) ?_
  refine tot_ref1 e_n_11 ?_
  refine tot_oif (iv_oO h_T_10 k_o (by decide) (by decide) rfl) ?_
  refine tot_ref h_T_10 k_o (by decide) (by decide) (r2 := 6) (rfl : rtg 11 14 = 6) (by decide) (fun n_14 k_n_14 e_n_14 => ?_)
  refine tot_oif (iv_oO h_T_10 k_n_14 (by decide) (by decide) rfl) ?_
  refine tot_ref h_T_10 k_n_14 (by decide) (by decide) (r2 := 1) (rfl : rtg 6 6 = 1) (by decide) (fun n_15 k_n_15 e_n_15 => ?_)
  refine tot_oif (iv_oO h_T_10 k_n_11 (by decide) (by decide) rfl) ?_
  refine tot_bind2 (cs_X0_trackCellIn T_10 n_11 n_15 (0 : Int32) h_T_10 k_n_11 k_n_15 ) (fun r_16 T_17 d_r_16 => ?_)
  have h_T_17 : IV R B K1 K2 T_17 := d_r_16.1.1
  have y_T_17 : FW R [1952] T_10 T_17 := d_r_16.1.2
  have x_T_17 := x_T_10.tr (y_T_17.w (by decide))
  replace d_r_16 : (0 ≤ r_16.toInt ∧ r_16.toInt ≤ 143) := d_r_16.2
  refine tot_oif (w_oO h_T_17 k_n_12 (rfl : isW 105 = true)) ?_
  refine tot_bindq (R := fun r_18 : Int64 => True) (c_value (a0 := r_16) k_n_12 (rfl : isW 105 = true) h_T_17 (by omega)) (fun r_18 d_r_18 => ?_)
  exact tot_some ⟨⟨h_T_17, x_T_17⟩, fun _ => trivial⟩
set_option maxHeartbeats 4000000 in
set_option maxRecDepth 10000 in
theorem cs_X11_trackCell {R : Nat → Nat} {B K1 K2 : Nat} (T : AT) (o : Nat) (a0 : Int32) (a1 : Int32) (h_T : IV R B K1 K2 T) (k_o : R o = 11) : Tot (g_X11_trackCell T o a0 a1) (fun r => (IV R B K1 K2 r.2.2 ∧ FW R [1952, 3202] T r.2.2) ∧ (r.1 = 0 → (0 ≤ r.2.1.toInt ∧ r.2.1.toInt ≤ 143))) := by
  have z0 : (4 : Int32).toInt = 4 := by decide
  have z1 : (0 : Int32).toInt = 0 := by decide
  have z2 : ((4 : Int32) : Int32).toInt = 4 := by decide
  have z3 : (1 : Int32).toInt = 1 := by decide
  have cc_101 : cnt 101 = 1 := rfl
  have cc_102 : cnt 102 = 12 := rfl
  have cc_103 : cnt 103 = 144 := rfl
  have cc_104 : cnt 104 = 2400 := rfl
  have cc_105 : cnt 105 = 7200 := rfl
  have x_T : FW R [1952, 3202] T T := FW.rf
  have j_a0 := i_any a0
  have j_a1 := i_any a1
  unfold g_X11_trackCell
  refine tot_oif (iv_oO h_T k_o (by decide) (by decide) rfl) ?_
  refine tot_thrp (Q := fun r_1 : Int32 => (0 ≤ r_1.toInt ∧ r_1.toInt ≤ 0)) (cs_X11_needCamera T o h_T k_o ) (fun r_1 d_r_1 => ?_) (fun k_ => ⟨⟨h_T, x_T⟩, fun q_ => absurd q_ (Nat.succ_ne_zero k_)⟩)
  replace d_r_1 : (0 ≤ r_1.toInt ∧ r_1.toInt ≤ 0) := d_r_1
  refine tot_if (fun c_5 => ?_) (fun c_5 => ?_)
  · replace c_5 := i_lt c_5
    unfold g_X11_trackCell_b24
    unfold g_X11_trackCell_b25
    refine tot_if (fun c_14 => ?_) (fun c_14 => ?_)
    · replace c_14 := i_eq c_14
      unfold g_X11_trackCell_b48
      refine tot_oif (iv_oO h_T k_o (by decide) (by decide) rfl) ?_
      refine tot_ref h_T k_o (by decide) (by decide) (r2 := 6) (rfl : rtg 11 14 = 6) (by decide) (fun n_15 k_n_15 e_n_15 => ?_)
      refine tot_oif (iv_oO h_T k_n_15 (by decide) (by decide) rfl) ?_
      refine tot_let (fun v_16 e_v_16 => ?_)
      have r_v_16 : 0 ≤ v_16.toInt ∧ v_16.toInt ≤ 200 := iv_int h_T k_n_15 (by decide) (by decide) e_v_16 rfl
      refine tot_thrp (Q := fun r_17 : Int32 => (((4 : Int32) : Int32).toInt ≤ a0.toInt ∧ a0.toInt ≤ v_16.toInt)) (cs_X11_needRange T a0 (4 : Int32) v_16 h_T ) (fun r_17 d_r_17 => ?_) (fun k_ => ⟨⟨h_T, x_T⟩, fun q_ => absurd q_ (Nat.succ_ne_zero k_)⟩)
      replace d_r_17 : (((4 : Int32) : Int32).toInt ≤ a0.toInt ∧ a0.toInt ≤ v_16.toInt) := d_r_17
      exfalso
      omega
    · replace c_14 := i_ne c_14
      exfalso
      omega
  · replace c_5 := i_nlt c_5
    refine tot_oif (iv_oO h_T k_o (by decide) (by decide) rfl) ?_
    refine tot_ref h_T k_o (by decide) (by decide) (r2 := 6) (rfl : rtg 11 14 = 6) (by decide) (fun n_3 k_n_3 e_n_3 => ?_)
    refine tot_oif (iv_oO h_T k_n_3 (by decide) (by decide) rfl) ?_
    refine tot_let (fun v_4 e_v_4 => ?_)
    have r_v_4 : 0 ≤ v_4.toInt ∧ v_4.toInt ≤ 200 := iv_int h_T k_n_3 (by decide) (by decide) e_v_4 rfl
    refine tot_if (fun c_23 => ?_) (fun c_23 => ?_)
    · replace c_23 := i_lt c_23
      unfold g_X11_trackCell_b24
      unfold g_X11_trackCell_b25
      refine tot_if (fun c_32 => ?_) (fun c_32 => ?_)
      · replace c_32 := i_eq c_32
        unfold g_X11_trackCell_b48
        refine tot_oif (iv_oO h_T k_o (by decide) (by decide) rfl) ?_
        refine tot_ref1 e_n_3 ?_
        refine tot_oif (iv_oO h_T k_n_3 (by decide) (by decide) rfl) ?_
        refine tot_let (fun v_34 e_v_34 => ?_)
        have u_v_34 : v_34.toInt = v_4.toInt := by rw [e_v_34, e_v_4]
        have r_v_34 : 0 ≤ v_34.toInt ∧ v_34.toInt ≤ 200 := iv_int h_T k_n_3 (by decide) (by decide) e_v_34 rfl
        refine tot_thrp (Q := fun r_35 : Int32 => (((4 : Int32) : Int32).toInt ≤ a0.toInt ∧ a0.toInt ≤ v_34.toInt)) (cs_X11_needRange T a0 (4 : Int32) v_34 h_T ) (fun r_35 d_r_35 => ?_) (fun k_ => ⟨⟨h_T, x_T⟩, fun q_ => absurd q_ (Nat.succ_ne_zero k_)⟩)
        replace d_r_35 : (((4 : Int32) : Int32).toInt ≤ a0.toInt ∧ a0.toInt ≤ v_34.toInt) := d_r_35
        refine tot_oif (iv_oO h_T k_o (by decide) (by decide) rfl) ?_
        refine tot_ref h_T k_o (by decide) (by decide) (r2 := 20) (rfl : rtg 11 3 = 20) (by decide) (fun n_37 k_n_37 e_n_37 => ?_)
        refine tot_oif (iv_oO h_T k_o (by decide) (by decide) rfl) ?_
        refine tot_ref1 e_n_3 ?_
        refine tot_oif (iv_oO h_T k_o (by decide) (by decide) rfl) ?_
        refine tot_ref h_T k_o (by decide) (by decide) (r2 := 8) (rfl : rtg 11 6 = 8) (by decide) (fun n_39 k_n_39 e_n_39 => ?_)
        refine tot_oif (iv_oO h_T k_n_37 (by decide) (by decide) rfl) ?_
        refine tot_bind (cs_X0_score T n_37 n_3 n_39 a0 h_T k_n_37 k_n_3 k_n_39 (by omega)) (fun T_40 d_T_40 => ?_)
        have h_T_40 : IV R B K1 K2 T_40 := d_T_40.1
        have y_T_40 : FW R [1952, 3202] T T_40 := d_T_40.2
        have x_T_40 := x_T.tr (y_T_40.w (by decide))
        unfold g_X11_trackCell_b76
        refine tot_oif (iv_oO h_T_40 k_o (by decide) (by decide) rfl) ?_
        refine tot_ref h_T_40 k_o (by decide) (by decide) (r2 := 20) (rfl : rtg 11 3 = 20) (by decide) (fun n_41 k_n_41 e_n_41 => ?_)
        refine tot_oif (iv_oO h_T_40 k_o (by decide) (by decide) rfl) ?_
        refine tot_ref h_T_40 k_o (by decide) (by decide) (r2 := 6) (rfl : rtg 11 14 = 6) (by decide) (fun n_42 k_n_42 e_n_42 => ?_)
        refine tot_oif (iv_oO h_T_40 k_n_42 (by decide) (by decide) rfl) ?_
        refine tot_ref h_T_40 k_n_42 (by decide) (by decide) (r2 := 1) (rfl : rtg 6 6 = 1) (by decide) (fun n_43 k_n_43 e_n_43 => ?_)
        refine tot_oif (iv_oO h_T_40 k_n_41 (by decide) (by decide) rfl) ?_
        refine tot_bind2 (cs_X0_trackCellIn T_40 n_41 n_43 a1 h_T_40 k_n_41 k_n_43 ) (fun r_44 T_45 d_r_44 => ?_)
        have h_T_45 : IV R B K1 K2 T_45 := d_r_44.1.1
        have y_T_45 : FW R [1952] T_40 T_45 := d_r_44.1.2
        have x_T_45 := x_T_40.tr (y_T_45.w (by decide))
        replace d_r_44 : (0 ≤ r_44.toInt ∧ r_44.toInt ≤ 143) := d_r_44.2
        exact tot_some ⟨⟨h_T_45, x_T_45⟩, fun _ => (show (0 ≤ r_44.toInt ∧ r_44.toInt ≤ 143) from by omega)⟩
      · replace c_32 := i_ne c_32
        exfalso
        omega
    · replace c_23 := i_nlt c_23
      unfold g_X11_trackCell_b25
      refine tot_if (fun c_54 => ?_) (fun c_54 => ?_)
      · replace c_54 := i_eq c_54
        exfalso
        omega
      · replace c_54 := i_ne c_54
        refine tot_oif (iv_oO h_T k_o (by decide) (by decide) rfl) ?_
        refine tot_ref1 e_n_3 ?_
        refine tot_oif (iv_oO h_T k_n_3 (by decide) (by decide) rfl) ?_
        refine tot_let (fun v_47 e_v_47 => ?_)
        have u_v_47 : v_47.toInt = v_4.toInt := by rw [e_v_47, e_v_4]
        have r_v_47 : 0 ≤ v_47.toInt ∧ v_47.toInt ≤ 200 := iv_int h_T k_n_3 (by decide) (by decide) e_v_47 rfl
        refine tot_let (fun v_48 e_v_48 => ?_)
        refine tot_let (fun v_49 e_v_49 => ?_)
        refine tot_bind (cs_X11_quotient v_48 v_49) (fun r_50 d_r_50 => ?_)
        refine tot_let (fun v_51 e_v_51 => ?_)
        have q_v_51 : 0 ≤ v_51.toInt ∧ v_51.toInt ≤ v_47.toInt := by rw [e_v_51]; exact d_r_50 _ _ e_v_48 e_v_49 (by omega) (by omega)
        refine tot_thrp (Q := fun r_52 : Int32 => (0 ≤ a1.toInt ∧ a1.toInt < v_51.toInt)) (cs_X11_needIndex T a1 v_51 h_T ) (fun r_52 d_r_52 => ?_) (fun k_ => ⟨⟨h_T, x_T⟩, fun q_ => absurd q_ (Nat.succ_ne_zero k_)⟩)
        replace d_r_52 : (0 ≤ a1.toInt ∧ a1.toInt < v_51.toInt) := d_r_52
        unfold g_X11_trackCell_b48
        refine tot_oif (iv_oO h_T k_o (by decide) (by decide) rfl) ?_
        refine tot_ref1 e_n_3 ?_
        refine tot_oif (iv_oO h_T k_n_3 (by decide) (by decide) rfl) ?_
        refine tot_let (fun v_56 e_v_56 => ?_)
        have u_v_56 : v_56.toInt = v_4.toInt := by rw [e_v_56, e_v_4]
        have r_v_56 : 0 ≤ v_56.toInt ∧ v_56.toInt ≤ 200 := iv_int h_T k_n_3 (by decide) (by decide) e_v_56 rfl
        refine tot_thrp (Q := fun r_57 : Int32 => (((4 : Int32) : Int32).toInt ≤ a0.toInt ∧ a0.toInt ≤ v_56.toInt)) (cs_X11_needRange T a0 (4 : Int32) v_56 h_T ) (fun r_57 d_r_57 => ?_) (fun k_ => ⟨⟨h_T, x_T⟩, fun q_ => absurd q_ (Nat.succ_ne_zero k_)⟩)
        replace d_r_57 : (((4 : Int32) : Int32).toInt ≤ a0.toInt ∧ a0.toInt ≤ v_56.toInt) := d_r_57
        refine tot_oif (iv_oO h_T k_o (by decide) (by decide) rfl) ?_
        refine tot_ref h_T k_o (by decide) (by decide) (r2 := 20) (rfl : rtg 11 3 = 20) (by decide) (fun n_59 k_n_59 e_n_59 => ?_)
        refine tot_oif (iv_oO h_T k_o (by decide) (by decide) rfl) ?_
        refine tot_ref1 e_n_3 ?_
        refine tot_oif (iv_oO h_T k_o (by decide) (by decide) rfl) ?_
        refine tot_ref h_T k_o (by decide) (by decide) (r2 := 8) (rfl : rtg 11 6 = 8) (by decide) (fun n_61 k_n_61 e_n_61 => ?_)
        refine tot_oif (iv_oO h_T k_n_59 (by decide) (by decide) rfl) ?_
        refine tot_bind (cs_X0_score T n_59 n_3 n_61 a0 h_T k_n_59 k_n_3 k_n_61 (by omega)) (fun T_62 d_T_62 => ?_)
        have h_T_62 : IV R B K1 K2 T_62 := d_T_62.1
        have y_T_62 : FW R [1952, 3202] T T_62 := d_T_62.2
        have x_T_62 := x_T.tr (y_T_62.w (by decide))
        unfold g_X11_trackCell_b76
        refine tot_oif (iv_oO h_T_62 k_o (by decide) (by decide) rfl) ?_
        refine tot_ref h_T_62 k_o (by decide) (by decide) (r2 := 20) (rfl : rtg 11 3 = 20) (by decide) (fun n_63 k_n_63 e_n_63 => ?_)
        refine tot_oif (iv_oO h_T_62 k_o (by decide) (by decide) rfl) ?_
        refine tot_ref h_T_62 k_o (by decide) (by decide) (r2 := 6) (rfl : rtg 11 14 = 6) (by decide) (fun n_64 k_n_64 e_n_64 => ?_)
        refine tot_oif (iv_oO h_T_62 k_n_64 (by decide) (by decide) rfl) ?_
        refine tot_ref h_T_62 k_n_64 (by decide) (by decide) (r2 := 1) (rfl : rtg 6 6 = 1) (by decide) (fun n_65 k_n_65 e_n_65 => ?_)
        refine tot_oif (iv_oO h_T_62 k_n_63 (by decide) (by decide) rfl) ?_
        refine tot_bind2 (cs_X0_trackCellIn T_62 n_63 n_65 a1 h_T_62 k_n_63 k_n_65 ) (fun r_66 T_67 d_r_66 => ?_)
        have h_T_67 : IV R B K1 K2 T_67 := d_r_66.1.1
        have y_T_67 : FW R [1952] T_62 T_67 := d_r_66.1.2
        have x_T_67 := x_T_62.tr (y_T_67.w (by decide))
        replace d_r_66 : (0 ≤ r_66.toInt ∧ r_66.toInt ≤ 143) := d_r_66.2
        exact tot_some ⟨⟨h_T_67, x_T_67⟩, fun _ => (show (0 ≤ r_66.toInt ∧ r_66.toInt ≤ 143) from by omega)⟩
set_option maxHeartbeats 4000000 in
set_option maxRecDepth 10000 in
theorem cl_X11_powerOnTheMove_b38 {R : Nat → Nat} {B K1 K2 : Nat} {Q : AT → Prop} (l0 : Nat) (l2 : Int32) (l3 : Int32) (l4 : Int32) (l5 : Int32) (l6 : Int32) (T00 : AT) (k_l0 : R l0 = 11) (g0 : -999 ≤ l2.toInt ∧ l2.toInt ≤ 999) (g1 : -999 ≤ l3.toInt ∧ l3.toInt ≤ 999) (g2 : 0 ≤ l4.toInt ∧ l4.toInt ≤ 1) (g3 : -999 ≤ l5.toInt ∧ l5.toInt ≤ 2088) (g4 : -999 ≤ l6.toInt ∧ l6.toInt ≤ 15156) (hx0 : ∀ (T : AT), (IV R B K1 K2 T) → (FW R [1600, 3202] T00 T) → Tot (oif (oO T l0 11 = true) <| obind (T.2.2.2.2 l0 12) fun n_55 => oif (oO T l0 11 = true) <| obind (T.2.2.2.2 l0 14) fun n_56 => oif (oO T n_56 6 = true) <| elet (T.2.2.1 n_56 2) fun v_57 => oif (oO T n_55 10 = true) <| obind (g_X10_divide T n_55 l4 v_57) fun T_58 => g_X11_powerOnTheMove_b137 T_58) Q) : ∀ (n : Nat) (T : AT) (l7 : Int32), (IV R B K1 K2 T) → (FW R [1600, 3202] T00 T) → (0 ≤ l7.toInt ∧ l7.toInt ≤ 200) → 200 - l7.toInt < (n : Int) → Tot (g_X11_powerOnTheMove_b38 n T l0 l2 l3 l4 l5 l6 l7) Q := by
  have z0 : ((0 : Int32) : Int32).toInt = 0 := by decide
  have z1 : (Int32.ofInt (1) : Int32).toInt = 1 := by decide
  have cc_101 : cnt 101 = 1 := rfl
  have cc_102 : cnt 102 = 12 := rfl
  have cc_103 : cnt 103 = 144 := rfl
  have cc_104 : cnt 104 = 2400 := rfl
  have cc_105 : cnt 105 = 7200 := rfl
  have j_l2 := i_any l2
  have j_l3 := i_any l3
  have j_l4 := i_any l4
  have j_l5 := i_any l5
  have j_l6 := i_any l6
  intro n
  induction n with
  | zero =>
    intro T l7 h_T x_T g_l7 hm
    exfalso
    omega
  | succ n ih =>
    intro T l7 h_T x_T g_l7 hm
    unfold g_X11_powerOnTheMove_b38
    refine tot_oif (iv_oO h_T k_l0 (by decide) (by decide) rfl) ?_
    refine tot_ref h_T k_l0 (by decide) (by decide) (r2 := 6) (rfl : rtg 11 14 = 6) (by decide) (fun n_53 k_n_53 e_n_53 => ?_)
    refine tot_oif (iv_oO h_T k_n_53 (by decide) (by decide) rfl) ?_
    refine tot_let (fun v_54 e_v_54 => ?_)
    have r_v_54 : 0 ≤ v_54.toInt ∧ v_54.toInt ≤ 200 := iv_int h_T k_n_53 (by decide) (by decide) e_v_54 rfl
    refine tot_if (fun c_67 => ?_) (fun c_67 => ?_)
    · replace c_67 := i_le c_67
      exact hx0 T h_T x_T
    · replace c_67 := i_nle c_67
      refine tot_oif (iv_oO h_T k_l0 (by decide) (by decide) rfl) ?_
      refine tot_ref1 e_n_53 ?_
      refine tot_bind (cs_X11_moved l5 l2 l7 (by omega) (by omega) (by omega)) (fun r_60 d_r_60 => ?_)
      replace d_r_60 : (-3988 ≤ r_60.toInt ∧ r_60.toInt ≤ 17144) := d_r_60
      refine tot_bind (cs_X11_moved l6 l3 l7 (by omega) (by omega) (by omega)) (fun r_61 d_r_61 => ?_)
      replace d_r_61 : (-3988 ≤ r_61.toInt ∧ r_61.toInt ≤ 17144) := d_r_61
      refine tot_oif (iv_oO h_T k_l0 (by decide) (by decide) rfl) ?_
      refine tot_ref h_T k_l0 (by decide) (by decide) (r2 := 50) (rfl : rtg 11 11 = 50) (by decide) (fun n_62 k_n_62 e_n_62 => ?_)
      refine tot_oif (iv_oO h_T k_n_53 (by decide) (by decide) rfl) ?_
      refine tot_bind (cs_X6_delaysFrom T n_53 r_60 r_61 n_62 h_T k_n_53 k_n_62 (by omega) (by omega)) (fun T_63 d_T_63 => ?_)
      have h_T_63 : IV R B K1 K2 T_63 := d_T_63.1
      have y_T_63 : FW R [1600] T T_63 := d_T_63.2
      have x_T_63 := x_T.tr (y_T_63.w (by decide))
      refine tot_oif (iv_oO h_T_63 k_l0 (by decide) (by decide) rfl) ?_
      refine tot_ref h_T_63 k_l0 (by decide) (by decide) (r2 := 8) (rfl : rtg 11 6 = 8) (by decide) (fun n_64 k_n_64 e_n_64 => ?_)
      refine tot_oif (iv_oO h_T_63 k_l0 (by decide) (by decide) rfl) ?_
      refine tot_ref h_T_63 k_l0 (by decide) (by decide) (r2 := 50) (rfl : rtg 11 11 = 50) (by decide) (fun n_65 k_n_65 e_n_65 => ?_)
      refine tot_oif (iv_oO h_T_63 k_n_64 (by decide) (by decide) rfl) ?_
      refine tot_bind (cs_X8_focus T_63 n_64 n_65 l7 h_T_63 k_n_64 k_n_65 ) (fun T_66 d_T_66 => ?_)
      have h_T_66 : IV R B K1 K2 T_66 := d_T_66.1
      have y_T_66 : FW R [3202] T_63 T_66 := d_T_66.2
      have x_T_66 := x_T_63.tr (y_T_66.w (by decide))
      unfold g_X11_powerOnTheMove_b90
      refine tot_oif (iv_oO h_T_66 k_l0 (by decide) (by decide) rfl) ?_
      refine tot_ref h_T_66 k_l0 (by decide) (by decide) (r2 := 102) (rfl : rtg 11 12 = 102) (by decide) (fun n_68 k_n_68 e_n_68 => ?_)
      refine tot_oif (iv_oO h_T_66 k_l0 (by decide) (by decide) rfl) ?_
      refine tot_ref h_T_66 k_l0 (by decide) (by decide) (r2 := 8) (rfl : rtg 11 6 = 8) (by decide) (fun n_69 k_n_69 e_n_69 => ?_)
      refine tot_oif (iv_oO h_T_66 k_n_69 (by decide) (by decide) rfl) ?_
      refine tot_ref h_T_66 k_n_69 (by decide) (by decide) (r2 := 101) (rfl : rtg 8 11 = 101) (by decide) (fun n_70 k_n_70 e_n_70 => ?_)
      refine tot_oif (iv_oO h_T_66 k_l0 (by decide) (by decide) rfl) ?_
      refine tot_ref1 e_n_69 ?_
      refine tot_oif (iv_oO h_T_66 k_n_69 (by decide) (by decide) rfl) ?_
      refine tot_ref1 e_n_70 ?_
      refine tot_oif (w_oO h_T_66 k_n_68 (rfl : isW 102 = true)) ?_
      refine tot_bind (c_addProduct (a0 := l4) (a2 := (0 : Int32)) (a4 := (0 : Int32)) k_n_68 (rfl : isW 102 = true) k_n_70 (rfl : isW 101 = true) k_n_70 (rfl : isW 101 = true) h_T_66 (by omega) (by omega) (by omega)) (fun T_73 d_T_73 => ?_)
      have h_T_73 : IV R B K1 K2 T_73 := d_T_73.1
      have y_T_73 : FW R [3202] T_66 T_73 := (fw_wx d_T_73.2 k_n_68 (rfl : isW 102 = true) (by decide))
      have x_T_73 := x_T_66.tr (y_T_73.w (by decide))
      unfold g_X11_powerOnTheMove_b115
      refine tot_let (fun v_74 e_v_74 => ?_)
      have q_v_74 := i_add e_v_74 (by omega) (by omega)
      exact ih T_73 v_74 h_T_73 x_T_73 (by omega) (by omega)
set_option maxHeartbeats 4000000 in
set_option maxRecDepth 10000 in
theorem cs_X11_powerOnTheMove {R : Nat → Nat} {B K1 K2 : Nat} (T : AT) (o : Nat) (a0 : Int32) (a1 : Int32) (a2 : Int32) (a3 : Int32) (h_T : IV R B K1 K2 T) (k_o : R o = 11) (g0 : 0 ≤ a0.toInt ∧ a0.toInt ≤ 143) (g1 : -999 ≤ a1.toInt ∧ a1.toInt ≤ 999) (g2 : -999 ≤ a2.toInt ∧ a2.toInt ≤ 999) (g3 : 0 ≤ a3.toInt ∧ a3.toInt ≤ 1) : Tot (g_X11_powerOnTheMove T o a0 a1 a2 a3) (fun T1 => IV R B K1 K2 T1 ∧ FW R [1600, 3202] T T1) := by
  have z0 : (0 : Int32).toInt = 0 := by decide
  have cc_101 : cnt 101 = 1 := rfl
  have cc_102 : cnt 102 = 12 := rfl
  have cc_103 : cnt 103 = 144 := rfl
  have cc_104 : cnt 104 = 2400 := rfl
  have cc_105 : cnt 105 = 7200 := rfl
  have x_T : FW R [1600, 3202] T T := FW.rf
  have j_a0 := i_any a0
  have j_a1 := i_any a1
  have j_a2 := i_any a2
  have j_a3 := i_any a3
  unfold g_X11_powerOnTheMove
  refine tot_oif (iv_oO h_T k_o (by decide) (by decide) rfl) ?_
  refine tot_ref h_T k_o (by decide) (by decide) (r2 := 6) (rfl : rtg 11 14 = 6) (by decide) (fun n_1 k_n_1 e_n_1 => ?_)
  refine tot_oif (iv_oO h_T k_n_1 (by decide) (by decide) rfl) ?_
  refine tot_ref h_T k_n_1 (by decide) (by decide) (r2 := 1) (rfl : rtg 6 6 = 1) (by decide) (fun n_2 k_n_2 e_n_2 => ?_)
  refine tot_oif (iv_oO h_T k_n_2 (by decide) (by decide) rfl) ?_
  refine tot_bindq (R := fun r_3 : Int32 => (-999 ≤ r_3.toInt ∧ r_3.toInt ≤ 2088)) (cs_X1_centreX T n_2 a0 h_T k_n_2 (by omega)) (fun r_3 d_r_3 => ?_)
  replace d_r_3 : (-999 ≤ r_3.toInt ∧ r_3.toInt ≤ 2088) := d_r_3
  refine tot_oif (iv_oO h_T k_o (by decide) (by decide) rfl) ?_
  refine tot_ref1 e_n_1 ?_
  refine tot_oif (iv_oO h_T k_n_1 (by decide) (by decide) rfl) ?_
  refine tot_ref1 e_n_2 ?_
  refine tot_oif (iv_oO h_T k_n_2 (by decide) (by decide) rfl) ?_
  refine tot_bindq (R := fun r_7 : Int32 => (-999 ≤ r_7.toInt ∧ r_7.toInt ≤ 15156)) (cs_X1_centreY T n_2 a0 h_T k_n_2 (by omega)) (fun r_7 d_r_7 => ?_)
  replace d_r_7 : (-999 ≤ r_7.toInt ∧ r_7.toInt ≤ 15156) := d_r_7
  refine tot_oif (iv_oO h_T k_o (by decide) (by decide) rfl) ?_
  refine tot_ref h_T k_o (by decide) (by decide) (r2 := 102) (rfl : rtg 11 12 = 102) (by decide) (fun n_9 k_n_9 e_n_9 => ?_)
  refine tot_oif (w_oO h_T k_n_9 (rfl : isW 102 = true)) ?_
  refine tot_bind (c_clear (a0 := a3) h_T k_n_9 (rfl : isW 102 = true) (by omega)) (fun T_10 d_T_10 => ?_)
  have h_T_10 : IV R B K1 K2 T_10 := d_T_10.1
  have y_T_10 : FW R [3202] T T_10 := (fw_of d_T_10.2)
  have x_T_10 := x_T.tr (y_T_10.w (by decide))
  refine cl_X11_powerOnTheMove_b38 o a1 a2 a3 r_3 r_7 T k_o (by omega) (by omega) (by omega) (by omega) (by omega) ?_ 16384 T_10 0 h_T_10 x_T_10 (by omega) (by omega)
  · intro T_75 h_T_75 x_T_75
    refine tot_oif (iv_oO h_T_75 k_o (by decide) (by decide) rfl) ?_
    refine tot_ref h_T_75 k_o (by decide) (by decide) (r2 := 102) (rfl : rtg 11 12 = 102) (by decide) (fun n_76 k_n_76 e_n_76 => ?_)
    refine tot_oif (iv_oO h_T_75 k_o (by decide) (by decide) rfl) ?_
    refine tot_ref h_T_75 k_o (by decide) (by decide) (r2 := 6) (rfl : rtg 11 14 = 6) (by decide) (fun n_77 k_n_77 e_n_77 => ?_)
    refine tot_oif (iv_oO h_T_75 k_n_77 (by decide) (by decide) rfl) ?_
    refine tot_let (fun v_78 e_v_78 => ?_)
    have r_v_78 : 0 ≤ v_78.toInt ∧ v_78.toInt ≤ 200 := iv_int h_T_75 k_n_77 (by decide) (by decide) e_v_78 rfl
    refine tot_oif (w_oO h_T_75 k_n_76 (rfl : isW 102 = true)) ?_
    refine tot_bind (c_divide (a0 := a3) (a1 := v_78) k_n_76 (rfl : isW 102 = true) h_T_75 (by omega)) (fun T_79 d_T_79 => ?_)
    have h_T_79 : IV R B K1 K2 T_79 := d_T_79.1
    have y_T_79 : FW R [3202] T_75 T_79 := (fw_wx d_T_79.2 k_n_76 (rfl : isW 102 = true) (by decide))
    have x_T_79 := x_T_75.tr (y_T_79.w (by decide))
    unfold g_X11_powerOnTheMove_b137
    exact tot_some ⟨h_T_79, x_T_79⟩
set_option maxHeartbeats 4000000 in
set_option maxRecDepth 10000 in
theorem cs_X11_movingPower {R : Nat → Nat} {B K1 K2 : Nat} (T : AT) (o : Nat) (a0 : Int32) (a1 : Int32) (a2 : Int32) (h_T : IV R B K1 K2 T) (k_o : R o = 11) : Tot (g_X11_movingPower T o a0 a1 a2) (fun r => (IV R B K1 K2 r.2.2 ∧ FW R [1600, 3202] T r.2.2) ∧ (r.1 = 0 → True)) := by
  have z0 : (((-999) : Int32) : Int32).toInt = -999 := by decide
  have z1 : ((999 : Int32) : Int32).toInt = 999 := by decide
  have z2 : ((0 : Int32) : Int32).toInt = 0 := by decide
  have cc_101 : cnt 101 = 1 := rfl
  have cc_102 : cnt 102 = 12 := rfl
  have cc_103 : cnt 103 = 144 := rfl
  have cc_104 : cnt 104 = 2400 := rfl
  have cc_105 : cnt 105 = 7200 := rfl
  have x_T : FW R [1600, 3202] T T := FW.rf
  have j_a0 := i_any a0
  have j_a1 := i_any a1
  have j_a2 := i_any a2
  unfold g_X11_movingPower
  refine tot_oif (iv_oO h_T k_o (by decide) (by decide) rfl) ?_
  refine tot_thrp (Q := fun r_1 : Int32 => (0 ≤ r_1.toInt ∧ r_1.toInt ≤ 0)) (cs_X11_needCamera T o h_T k_o ) (fun r_1 d_r_1 => ?_) (fun k_ => ⟨⟨h_T, x_T⟩, fun q_ => absurd q_ (Nat.succ_ne_zero k_)⟩)
  replace d_r_1 : (0 ≤ r_1.toInt ∧ r_1.toInt ≤ 0) := d_r_1
  refine tot_oif (iv_oO h_T k_o (by decide) (by decide) rfl) ?_
  refine tot_thrp (Q := fun r_3 : Int32 => (0 ≤ a0.toInt ∧ a0.toInt ≤ 143)) (cs_X11_needCell T o a0 h_T k_o ) (fun r_3 d_r_3 => ?_) (fun k_ => ⟨⟨h_T, x_T⟩, fun q_ => absurd q_ (Nat.succ_ne_zero k_)⟩)
  replace d_r_3 : (0 ≤ a0.toInt ∧ a0.toInt ≤ 143) := d_r_3
  refine tot_thrp (Q := fun r_5 : Int32 => ((((-999) : Int32) : Int32).toInt ≤ a1.toInt ∧ a1.toInt ≤ ((999 : Int32) : Int32).toInt)) (cs_X11_needRange T a1 ((-999) : Int32) (999 : Int32) h_T ) (fun r_5 d_r_5 => ?_) (fun k_ => ⟨⟨h_T, x_T⟩, fun q_ => absurd q_ (Nat.succ_ne_zero k_)⟩)
  replace d_r_5 : ((((-999) : Int32) : Int32).toInt ≤ a1.toInt ∧ a1.toInt ≤ ((999 : Int32) : Int32).toInt) := d_r_5
  refine tot_thrp (Q := fun r_7 : Int32 => ((((-999) : Int32) : Int32).toInt ≤ a2.toInt ∧ a2.toInt ≤ ((999 : Int32) : Int32).toInt)) (cs_X11_needRange T a2 ((-999) : Int32) (999 : Int32) h_T ) (fun r_7 d_r_7 => ?_) (fun k_ => ⟨⟨h_T, x_T⟩, fun q_ => absurd q_ (Nat.succ_ne_zero k_)⟩)
  replace d_r_7 : ((((-999) : Int32) : Int32).toInt ≤ a2.toInt ∧ a2.toInt ≤ ((999 : Int32) : Int32).toInt) := d_r_7
  refine tot_oif (iv_oO h_T k_o (by decide) (by decide) rfl) ?_
  refine tot_bind (cs_X11_powerOnTheMove T o a0 a1 a2 (0 : Int32) h_T k_o (by omega) (by omega) (by omega) (by omega)) (fun T_9 d_T_9 => ?_)
  have h_T_9 : IV R B K1 K2 T_9 := d_T_9.1
  have y_T_9 : FW R [1600, 3202] T T_9 := d_T_9.2
  have x_T_9 := x_T.tr (y_T_9.w (by decide))
  unfold g_X11_movingPower_b37
  refine tot_oif (iv_oO h_T_9 k_o (by decide) (by decide) rfl) ?_
  refine tot_ref h_T_9 k_o (by decide) (by decide) (r2 := 102) (rfl : rtg 11 12 = 102) (by decide) (fun n_10 k_n_10 e_n_10 => ?_)
  refine tot_oif (w_oO h_T_9 k_n_10 (rfl : isW 102 = true)) ?_
  refine tot_bindq (R := fun r_11 : Int64 => True) (c_value (a0 := (0 : Int32)) k_n_10 (rfl : isW 102 = true) h_T_9 (by omega)) (fun r_11 d_r_11 => ?_)
  exact tot_some ⟨⟨h_T_9, x_T_9⟩, fun _ => trivial⟩
set_option maxHeartbeats 4000000 in
set_option maxRecDepth 10000 in
theorem cl_X11_bestVelocity_b39 {R : Nat → Nat} {B K1 K2 : Nat} {Q : Nat × Int32 × AT → Prop} {k29 : AT → Nat → Int32 → Int32 → Int32 → Int32 → Int32 → Option (Nat × Int32 × AT)} (l0 : Nat) (l1 : Int32) (l2 : Int32) (l3 : Int32) (l5 : Int32) (T00 : AT) (k_l0 : R l0 = 11) (g0 : 0 ≤ l1.toInt ∧ l1.toInt ≤ 143) (g1 : 1 ≤ l2.toInt ∧ l2.toInt ≤ 99) (g2 : 0 ≤ l3.toInt ∧ l3.toInt ≤ 4) (g3 : -4 ≤ l5.toInt ∧ l5.toInt ≤ 4) (hx0 : ∀ (T : AT) (l4 : Int32), (IV R B K1 K2 T) → (FW R [1600, 3202] T00 T) → (-404 ≤ l4.toInt ∧ l4.toInt ≤ 999) → Tot (elet (l5 + Int32.ofInt (1)) fun v_116 => k29 T l0 l1 l2 l3 l4 v_116) Q) : ∀ (n : Nat) (T : AT) (l4 : Int32) (l6 : Int32), (IV R B K1 K2 T) → (FW R [1600, 3202] T00 T) → (-404 ≤ l4.toInt ∧ l4.toInt ≤ 999) → (-4 ≤ l6.toInt ∧ l6.toInt ≤ 5) → 5 - l6.toInt < (n : Int) → Tot (g_X11_bestVelocity_b39 k29 n T l0 l1 l2 l3 l4 l5 l6) Q := by
  have z0 : ((1 : Int32) : Int32).toInt = 1 := by decide
  have z1 : ((-1) : Int32).toInt = -1 := by decide
  have z2 : ((0 : Int32) : Int32).toInt = 0 := by decide
  have z3 : (100 : Int32).toInt = 100 := by decide
  have z4 : (Int32.ofInt (1) : Int32).toInt = 1 := by decide
  have z5 : (0 : Int32).toInt = 0 := by decide
  have cc_101 : cnt 101 = 1 := rfl
  have cc_102 : cnt 102 = 12 := rfl
  have cc_103 : cnt 103 = 144 := rfl
  have cc_104 : cnt 104 = 2400 := rfl
  have cc_105 : cnt 105 = 7200 := rfl
  have j_l1 := i_any l1
  have j_l2 := i_any l2
  have j_l3 := i_any l3
  have j_l5 := i_any l5
  intro n
  induction n with
  | zero =>
    intro T l4 l6 h_T x_T g_l4 g_l6 hm
    exfalso
    omega
  | succ n ih =>
    intro T l4 l6 h_T x_T g_l4 g_l6 hm
    unfold g_X11_bestVelocity_b39
    refine tot_if (fun c_120 => ?_) (fun c_120 => ?_)
    · replace c_120 := i_lt c_120
      exact hx0 T l4 h_T x_T (by omega)
    · replace c_120 := i_nlt c_120
      refine tot_let (fun v_117 e_v_117 => ?_)
      have q_v_117 := i_mulm2 (a := -4) (b := 4) (d := 99) e_v_117 (by omega) (by omega) (by omega) (by omega) (by decide)
      refine tot_let (fun v_118 e_v_118 => ?_)
      have q_v_118 := i_mulm2 (a := -4) (b := 4) (d := 99) e_v_118 (by omega) (by omega) (by omega) (by omega) (by decide)
      refine tot_oif (iv_oO h_T k_l0 (by decide) (by decide) rfl) ?_
      refine tot_bind (cs_X11_powerOnTheMove T l0 l1 v_117 v_118 (1 : Int32) h_T k_l0 (by omega) (by omega) (by omega) (by omega)) (fun T_119 d_T_119 => ?_)
      have h_T_119 : IV R B K1 K2 T_119 := d_T_119.1
      have y_T_119 : FW R [1600, 3202] T T_119 := d_T_119.2
      have x_T_119 := x_T.tr (y_T_119.w (by decide))
      unfold g_X11_bestVelocity_b59
      refine tot_if (fun c_124 => ?_) (fun c_124 => ?_)
      · replace c_124 := i_eq c_124
        unfold g_X11_bestVelocity_b77
        refine tot_oif (iv_oO h_T_119 k_l0 (by decide) (by decide) rfl) ?_
        refine tot_ref h_T_119 k_l0 (by decide) (by decide) (r2 := 102) (rfl : rtg 11 12 = 102) (by decide) (fun n_125 k_n_125 e_n_125 => ?_)
        refine tot_oif (iv_oO h_T_119 k_l0 (by decide) (by decide) rfl) ?_
        refine tot_ref1 e_n_125 ?_
        refine tot_oif (w_oO h_T_119 k_n_125 (rfl : isW 102 = true)) ?_
        refine tot_bind (c_set (a0 := (0 : Int32)) (a2 := (1 : Int32)) k_n_125 (rfl : isW 102 = true) k_n_125 (rfl : isW 102 = true) h_T_119 (by omega) (by omega)) (fun T_127 d_T_127 => ?_)
        have h_T_127 : IV R B K1 K2 T_127 := d_T_127.1
        have y_T_127 : FW R [3202] T_119 T_127 := (fw_wx d_T_127.2 k_n_125 (rfl : isW 102 = true) (by decide))
        have x_T_127 := x_T_119.tr (y_T_127.w (by decide))
        unfold g_X11_bestVelocity_b90
        refine tot_let (fun v_128 e_v_128 => ?_)
        have q_v_128 := i_add e_v_128 (by omega) (by omega)
        refine tot_let (fun v_129 e_v_129 => ?_)
        have q_v_129 := i_mulk e_v_129 z3 (by omega) (by omega)
        refine tot_let (fun v_130 e_v_130 => ?_)
        have q_v_130 := i_add e_v_130 (by omega) (by omega)
        refine tot_let (fun v_131 e_v_131 => ?_)
        have q_v_131 := i_add e_v_131 (by omega) (by omega)
        unfold g_X11_bestVelocity_b104
        refine tot_let (fun v_132 e_v_132 => ?_)
        have q_v_132 := i_add e_v_132 (by omega) (by omega)
        exact ih T_127 v_131 v_132 h_T_127 x_T_127 (by omega) (by omega) (by omega)
      · replace c_124 := i_ne c_124
        refine tot_oif (iv_oO h_T_119 k_l0 (by decide) (by decide) rfl) ?_
        refine tot_ref h_T_119 k_l0 (by decide) (by decide) (r2 := 102) (rfl : rtg 11 12 = 102) (by decide) (fun n_121 k_n_121 e_n_121 => ?_)
        refine tot_oif (w_oO h_T_119 k_n_121 (rfl : isW 102 = true)) ?_
        refine tot_bindq (R := fun r_122 : Int32 => True) (c_compare (a0 := (1 : Int32)) (a1 := (0 : Int32)) k_n_121 (rfl : isW 102 = true) h_T_119 (by omega) (by omega)) (fun r_122 d_r_122 => ?_)
        have r_r_122 := i_any r_122
        refine tot_if (fun c_133 => ?_) (fun c_133 => ?_)
        · replace c_133 := i_le c_133
          unfold g_X11_bestVelocity_b104
          refine tot_let (fun v_134 e_v_134 => ?_)
          have q_v_134 := i_add e_v_134 (by omega) (by omega)
          exact ih T_119 l4 v_134 h_T_119 x_T_119 (by omega) (by omega) (by omega)
        · replace c_133 := i_nle c_133
          unfold g_X11_bestVelocity_b77
          refine tot_oif (iv_oO h_T_119 k_l0 (by decide) (by decide) rfl) ?_
          refine tot_ref1 e_n_121 ?_
          refine tot_oif (iv_oO h_T_119 k_l0 (by decide) (by decide) rfl) ?_
          refine tot_ref1 e_n_121 ?_
          refine tot_oif (w_oO h_T_119 k_n_121 (rfl : isW 102 = true)) ?_
          refine tot_bind (c_set (a0 := (0 : Int32)) (a2 := (1 : Int32)) k_n_121 (rfl : isW 102 = true) k_n_121 (rfl : isW 102 = true) h_T_119 (by omega) (by omega)) (fun T_137 d_T_137 => ?_)
          have h_T_137 : IV R B K1 K2 T_137 := d_T_137.1
          have y_T_137 : FW R [3202] T_119 T_137 := (fw_wx d_T_137.2 k_n_121 (rfl : isW 102 = true) (by decide))
          have x_T_137 := x_T_119.tr (y_T_137.w (by decide))
          unfold g_X11_bestVelocity_b90
          refine tot_let (fun v_138 e_v_138 => ?_)
          have q_v_138 := i_add e_v_138 (by omega) (by omega)
          refine tot_let (fun v_139 e_v_139 => ?_)
          have q_v_139 := i_mulk e_v_139 z3 (by omega) (by omega)
          refine tot_let (fun v_140 e_v_140 => ?_)
          have q_v_140 := i_add e_v_140 (by omega) (by omega)
          refine tot_let (fun v_141 e_v_141 => ?_)
          have q_v_141 := i_add e_v_141 (by omega) (by omega)
          unfold g_X11_bestVelocity_b104
          refine tot_let (fun v_142 e_v_142 => ?_)
          have q_v_142 := i_add e_v_142 (by omega) (by omega)
          exact ih T_137 v_141 v_142 h_T_137 x_T_137 (by omega) (by omega) (by omega)
set_option maxHeartbeats 4000000 in
set_option maxRecDepth 10000 in
theorem cl_X11_bestVelocity_b29 {R : Nat → Nat} {B K1 K2 : Nat} {Q : Nat × Int32 × AT → Prop} (l0 : Nat) (l1 : Int32) (l2 : Int32) (l3 : Int32) (T00 : AT) (k_l0 : R l0 = 11) (g0 : 0 ≤ l1.toInt ∧ l1.toInt ≤ 143) (g1 : 1 ≤ l2.toInt ∧ l2.toInt ≤ 99) (g2 : 0 ≤ l3.toInt ∧ l3.toInt ≤ 4) (hx0 : ∀ (T : AT) (l4 : Int32), (IV R B K1 K2 T) → (FW R [1600, 3202] T00 T) → (-404 ≤ l4.toInt ∧ l4.toInt ≤ 999) → Tot (some (0, l4, T)) Q) : ∀ (n : Nat) (T : AT) (l4 : Int32) (l5 : Int32), (IV R B K1 K2 T) → (FW R [1600, 3202] T00 T) → (-404 ≤ l4.toInt ∧ l4.toInt ≤ 999) → (-4 ≤ l5.toInt ∧ l5.toInt ≤ 5) → 5 - l5.toInt < (n : Int) → Tot (g_X11_bestVelocity_b29 n T l0 l1 l2 l3 l4 l5) Q := by
  have z0 : (Int32.ofInt (1) : Int32).toInt = 1 := by decide
  have cc_101 : cnt 101 = 1 := rfl
  have cc_102 : cnt 102 = 12 := rfl
  have cc_103 : cnt 103 = 144 := rfl
  have cc_104 : cnt 104 = 2400 := rfl
  have cc_105 : cnt 105 = 7200 := rfl
  have j_l1 := i_any l1
  have j_l2 := i_any l2
  have j_l3 := i_any l3
  intro n
  induction n with
  | zero =>
    intro T l4 l5 h_T x_T g_l4 g_l5 hm
    exfalso
    omega
  | succ n ih =>
    intro T l4 l5 h_T x_T g_l4 g_l5 hm
    unfold g_X11_bestVelocity_b29
    refine tot_if (fun c_91 => ?_) (fun c_91 => ?_)
    · replace c_91 := i_lt c_91
      exact hx0 T l4 h_T x_T (by omega)
    · replace c_91 := i_nlt c_91
      refine tot_let (fun v_90 e_v_90 => ?_)
      have q_v_90 := i_neg e_v_90 (by omega)
      refine cl_X11_bestVelocity_b39 l0 l1 l2 l3 l5 T00 k_l0 (by omega) (by omega) (by omega) (by omega) ?_ 16384 T l4 v_90 h_T x_T (by omega) (by omega) (by omega)
      · intro T_143 l_144 h_T_143 x_T_143 g_l_144
        refine tot_let (fun v_145 e_v_145 => ?_)
        have q_v_145 := i_add e_v_145 (by omega) (by omega)
        exact ih T_143 l_144 v_145 h_T_143 x_T_143 (by omega) (by omega) (by omega)
set_option maxHeartbeats 4000000 in
set_option maxRecDepth 10000 in
theorem cs_X11_bestVelocity {R : Nat → Nat} {B K1 K2 : Nat} (T : AT) (o : Nat) (a0 : Int32) (a1 : Int32) (a2 : Int32) (h_T : IV R B K1 K2 T) (k_o : R o = 11) : Tot (g_X11_bestVelocity T o a0 a1 a2) (fun r => (IV R B K1 K2 r.2.2 ∧ FW R [1600, 3202] T r.2.2) ∧ (r.1 = 0 → (-404 ≤ r.2.1.toInt ∧ r.2.1.toInt ≤ 999))) := by
  have z0 : ((1 : Int32) : Int32).toInt = 1 := by decide
  have z1 : ((99 : Int32) : Int32).toInt = 99 := by decide
  have z2 : ((0 : Int32) : Int32).toInt = 0 := by decide
  have z3 : ((4 : Int32) : Int32).toInt = 4 := by decide
  have z4 : ((-1) : Int32).toInt = -1 := by decide
  have cc_101 : cnt 101 = 1 := rfl
  have cc_102 : cnt 102 = 12 := rfl
  have cc_103 : cnt 103 = 144 := rfl
  have cc_104 : cnt 104 = 2400 := rfl
  have cc_105 : cnt 105 = 7200 := rfl
  have x_T : FW R [1600, 3202] T T := FW.rf
  have j_a0 := i_any a0
  have j_a1 := i_any a1
  have j_a2 := i_any a2
  unfold g_X11_bestVelocity
  refine tot_oif (iv_oO h_T k_o (by decide) (by decide) rfl) ?_
  refine tot_thrp (Q := fun r_1 : Int32 => (0 ≤ r_1.toInt ∧ r_1.toInt ≤ 0)) (cs_X11_needCamera T o h_T k_o ) (fun r_1 d_r_1 => ?_) (fun k_ => ⟨⟨h_T, x_T⟩, fun q_ => absurd q_ (Nat.succ_ne_zero k_)⟩)
  replace d_r_1 : (0 ≤ r_1.toInt ∧ r_1.toInt ≤ 0) := d_r_1
  refine tot_oif (iv_oO h_T k_o (by decide) (by decide) rfl) ?_
  refine tot_thrp (Q := fun r_3 : Int32 => (0 ≤ a0.toInt ∧ a0.toInt ≤ 143)) (cs_X11_needCell T o a0 h_T k_o ) (fun r_3 d_r_3 => ?_) (fun k_ => ⟨⟨h_T, x_T⟩, fun q_ => absurd q_ (Nat.succ_ne_zero k_)⟩)
  replace d_r_3 : (0 ≤ a0.toInt ∧ a0.toInt ≤ 143) := d_r_3
  refine tot_thrp (Q := fun r_5 : Int32 => (((1 : Int32) : Int32).toInt ≤ a1.toInt ∧ a1.toInt ≤ ((99 : Int32) : Int32).toInt)) (cs_X11_needRange T a1 (1 : Int32) (99 : Int32) h_T ) (fun r_5 d_r_5 => ?_) (fun k_ => ⟨⟨h_T, x_T⟩, fun q_ => absurd q_ (Nat.succ_ne_zero k_)⟩)
  replace d_r_5 : (((1 : Int32) : Int32).toInt ≤ a1.toInt ∧ a1.toInt ≤ ((99 : Int32) : Int32).toInt) := d_r_5
  refine tot_thrp (Q := fun r_7 : Int32 => (((0 : Int32) : Int32).toInt ≤ a2.toInt ∧ a2.toInt ≤ ((4 : Int32) : Int32).toInt)) (cs_X11_needRange T a2 (0 : Int32) (4 : Int32) h_T ) (fun r_7 d_r_7 => ?_) (fun k_ => ⟨⟨h_T, x_T⟩, fun q_ => absurd q_ (Nat.succ_ne_zero k_)⟩)
  replace d_r_7 : (((0 : Int32) : Int32).toInt ≤ a2.toInt ∧ a2.toInt ≤ ((4 : Int32) : Int32).toInt) := d_r_7
  refine tot_let (fun v_9 e_v_9 => ?_)
  have q_v_9 := i_neg e_v_9 (by omega)
  refine cl_X11_bestVelocity_b29 o a0 a1 a2 T k_o (by omega) (by omega) (by omega) ?_ 16384 T (-1) v_9 h_T x_T (by omega) (by omega) (by omega)
  · intro T_146 l_147 h_T_146 x_T_146 g_l_147
    exact tot_some ⟨⟨h_T_146, x_T_146⟩, fun _ => (show (-404 ≤ l_147.toInt ∧ l_147.toInt ≤ 999) from by omega)⟩
set_option maxHeartbeats 4000000 in
set_option maxRecDepth 10000 in
theorem cs_X11_correlation {R : Nat → Nat} {B K1 K2 : Nat} (T : AT) (o : Nat) (a0 : Int32) (a1 : Int32) (a2 : Int32) (h_T : IV R B K1 K2 T) (k_o : R o = 11) : Tot (g_X11_correlation T o a0 a1 a2) (fun r => (IV R B K1 K2 r.2.2 ∧ FW R [3202] T r.2.2) ∧ (r.1 = 0 → True)) := by
  have z0 : (1 : Int32).toInt = 1 := by decide
  have z1 : ((0 : Int32) : Int32).toInt = 0 := by decide
  have cc_101 : cnt 101 = 1 := rfl
  have cc_102 : cnt 102 = 12 := rfl
  have cc_103 : cnt 103 = 144 := rfl
  have cc_104 : cnt 104 = 2400 := rfl
  have cc_105 : cnt 105 = 7200 := rfl
  have x_T : FW R [3202] T T := FW.rf
  have j_a0 := i_any a0
  have j_a1 := i_any a1
  have j_a2 := i_any a2
  unfold g_X11_correlation
  refine tot_oif (iv_oO h_T k_o (by decide) (by decide) rfl) ?_
  refine tot_thrp (Q := fun r_1 : Int32 => (0 ≤ r_1.toInt ∧ r_1.toInt ≤ 0)) (cs_X11_needCamera T o h_T k_o ) (fun r_1 d_r_1 => ?_) (fun k_ => ⟨⟨h_T, x_T⟩, fun q_ => absurd q_ (Nat.succ_ne_zero k_)⟩)
  replace d_r_1 : (0 ≤ r_1.toInt ∧ r_1.toInt ≤ 0) := d_r_1
  refine tot_oif (iv_oO h_T k_o (by decide) (by decide) rfl) ?_
  refine tot_thrp (Q := fun r_3 : Int32 => (0 ≤ a0.toInt ∧ a0.toInt ≤ 11)) (cs_X11_needMic T o a0 h_T k_o ) (fun r_3 d_r_3 => ?_) (fun k_ => ⟨⟨h_T, x_T⟩, fun q_ => absurd q_ (Nat.succ_ne_zero k_)⟩)
  replace d_r_3 : (0 ≤ a0.toInt ∧ a0.toInt ≤ 11) := d_r_3
  refine tot_oif (iv_oO h_T k_o (by decide) (by decide) rfl) ?_
  refine tot_thrp (Q := fun r_5 : Int32 => (0 ≤ a1.toInt ∧ a1.toInt ≤ 11)) (cs_X11_needMic T o a1 h_T k_o ) (fun r_5 d_r_5 => ?_) (fun k_ => ⟨⟨h_T, x_T⟩, fun q_ => absurd q_ (Nat.succ_ne_zero k_)⟩)
  replace d_r_5 : (0 ≤ a1.toInt ∧ a1.toInt ≤ 11) := d_r_5
  refine tot_oif (iv_oO h_T k_o (by decide) (by decide) rfl) ?_
  refine tot_ref h_T k_o (by decide) (by decide) (r2 := 6) (rfl : rtg 11 14 = 6) (by decide) (fun n_7 k_n_7 e_n_7 => ?_)
  refine tot_oif (iv_oO h_T k_n_7 (by decide) (by decide) rfl) ?_
  refine tot_let (fun v_8 e_v_8 => ?_)
  have r_v_8 : 0 ≤ v_8.toInt ∧ v_8.toInt ≤ 200 := iv_int h_T k_n_7 (by decide) (by decide) e_v_8 rfl
  refine tot_let (fun v_9 e_v_9 => ?_)
  have q_v_9 := i_sub e_v_9 (by omega) (by omega)
  refine tot_thrp (Q := fun r_10 : Int32 => (((0 : Int32) : Int32).toInt ≤ a2.toInt ∧ a2.toInt ≤ v_9.toInt)) (cs_X11_needRange T a2 (0 : Int32) v_9 h_T ) (fun r_10 d_r_10 => ?_) (fun k_ => ⟨⟨h_T, x_T⟩, fun q_ => absurd q_ (Nat.succ_ne_zero k_)⟩)
  replace d_r_10 : (((0 : Int32) : Int32).toInt ≤ a2.toInt ∧ a2.toInt ≤ v_9.toInt) := d_r_10
  refine tot_oif (iv_oO h_T k_o (by decide) (by decide) rfl) ?_
  refine tot_ref h_T k_o (by decide) (by decide) (r2 := 8) (rfl : rtg 11 6 = 8) (by decide) (fun n_12 k_n_12 e_n_12 => ?_)
  refine tot_oif (iv_oO h_T k_o (by decide) (by decide) rfl) ?_
  refine tot_ref h_T k_o (by decide) (by decide) (r2 := 102) (rfl : rtg 11 12 = 102) (by decide) (fun n_13 k_n_13 e_n_13 => ?_)
  refine tot_oif (iv_oO h_T k_n_12 (by decide) (by decide) rfl) ?_
  refine tot_bind (cs_X8_productSum T n_12 a0 a1 a2 n_13 (0 : Int32) h_T k_n_12 k_n_13 (rfl : isW 102 = true) (by omega) (by omega) (by omega) (by omega) (by omega)) (fun T_14 d_T_14 => ?_)
  have h_T_14 : IV R B K1 K2 T_14 := d_T_14.1
  have y_T_14 : FW R [3202] T T_14 := d_T_14.2
  have x_T_14 := x_T.tr (y_T_14.w (by decide))
  unfold g_X11_correlation_b43
  refine tot_oif (iv_oO h_T_14 k_o (by decide) (by decide) rfl) ?_
  refine tot_ref h_T_14 k_o (by decide) (by decide) (r2 := 102) (rfl : rtg 11 12 = 102) (by decide) (fun n_15 k_n_15 e_n_15 => ?_)
  refine tot_oif (w_oO h_T_14 k_n_15 (rfl : isW 102 = true)) ?_
  refine tot_bindq (R := fun r_16 : Int64 => True) (c_value (a0 := (0 : Int32)) k_n_15 (rfl : isW 102 = true) h_T_14 (by omega)) (fun r_16 d_r_16 => ?_)
  exact tot_some ⟨⟨h_T_14, x_T_14⟩, fun _ => trivial⟩
