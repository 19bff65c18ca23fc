set_option maxHeartbeats 4000000 in
set_option maxRecDepth 10000 in
theorem cs_X1_cells {R : Nat → Nat} {B K1 K2 : Nat} (T : AT) (o : Nat) (h_T : IV R B K1 K2 T) (k_o : R o = 1) : Tot (g_X1_cells T o) (fun r => r.2 = T ∧ (0 ≤ r.1.toInt ∧ r.1.toInt ≤ 144)) := by
  have cc_101 : cnt 101 = 1 := rfl
  have cc_102 : cnt 102 = 12 := rfl
  have cc_103 : cnt 103 = 144 := rfl
  have cc_104 : cnt 104 = 2400 := rfl
  have cc_105 : cnt 105 = 7200 := rfl
  unfold g_X1_cells
  refine tot_oif (iv_oO h_T k_o (by decide) (by decide) rfl) ?_
  refine tot_let (fun v_1 e_v_1 => ?_)
  have r_v_1 : 0 ≤ v_1.toInt ∧ v_1.toInt ≤ 12 := iv_int h_T k_o (by decide) (by decide) e_v_1 rfl
  refine tot_oif (iv_oO h_T k_o (by decide) (by decide) rfl) ?_
  refine tot_let (fun v_2 e_v_2 => ?_)
  have r_v_2 : 0 ≤ v_2.toInt ∧ v_2.toInt ≤ 12 := iv_int h_T k_o (by decide) (by decide) e_v_2 rfl
  refine tot_let (fun v_3 e_v_3 => ?_)
  have q_v_3 := i_mulp (a := 0) (b := 12) (c := 0) (d := 12) e_v_3 (by omega) (by omega) (by omega) (by omega) (by decide)
  exact tot_some ⟨rfl, (show (0 ≤ v_3.toInt ∧ v_3.toInt ≤ 144) from by omega)⟩
set_option maxHeartbeats 4000000 in
set_option maxRecDepth 10000 in
theorem cs_X0_rowStart (a0 : Int32) (g0 : 0 ≤ a0.toInt ∧ a0.toInt ≤ 49) : Tot (g_X0_rowStart a0) (fun r => (0 ≤ r.toInt ∧ r.toInt ≤ 7056)) := by
  have z0 : (144 : Int32).toInt = 144 := by decide
  have cc_101 : cnt 101 = 1 := rfl
  have cc_102 : cnt 102 = 12 := rfl
  have cc_103 : cnt 103 = 144 := rfl
  have cc_104 : cnt 104 = 2400 := rfl
  have cc_105 : cnt 105 = 7200 := rfl
  have j_a0 := i_any a0
  unfold g_X0_rowStart
  refine tot_let (fun v_1 e_v_1 => ?_)
  have q_v_1 := i_mulk2 e_v_1 z0 (by omega) (by omega)
  exact tot_some (show (0 ≤ v_1.toInt ∧ v_1.toInt ≤ 7056) from by omega)
set_option maxHeartbeats 4000000 in
set_option maxRecDepth 10000 in
theorem cl_X8_greatestDelay_b4 {R : Nat → Nat} {B K1 K2 : Nat} {Q : Int32 × AT → Prop} (T : AT) (l0 : Nat) (l1 : Nat) (h_T : IV R B K1 K2 T) (k_l0 : R l0 = 8) (k_l1 : R l1 = 50) (hx0 : ∀ (l2 : Int32), (0 ≤ l2.toInt ∧ l2.toInt ≤ 2147483647) → Tot (some (l2, T)) Q) : ∀ (n : Nat) (l2 : Int32) (l3 : Int32), (0 ≤ l2.toInt ∧ l2.toInt ≤ 2147483647) → (0 ≤ l3.toInt ∧ l3.toInt ≤ 12) → 12 - l3.toInt < (n : Int) → Tot (g_X8_greatestDelay_b4 n T l0 l1 l2 l3) Q := by
  have z0 : (0 : Int32).toInt = 0 := by decide
  have z1 : (Int32.ofInt (1) : Int32).toInt = 1 := by decide
  have cc_101 : cnt 101 = 1 := rfl
  have cc_102 : cnt 102 = 12 := rfl
  have cc_103 : cnt 103 = 144 := rfl
  have cc_104 : cnt 104 = 2400 := rfl
  have cc_105 : cnt 105 = 7200 := rfl
  intro n
  induction n with
  | zero =>
    intro l2 l3 g_l2 g_l3 hm
    exfalso
    omega
  | succ n ih =>
    intro l2 l3 g_l2 g_l3 hm
    unfold g_X8_greatestDelay_b4
    refine tot_oif (iv_oO h_T k_l0 (by decide) (by decide) rfl) ?_
    refine tot_let (fun v_15 e_v_15 => ?_)
    have r_v_15 : 0 ≤ v_15.toInt ∧ v_15.toInt ≤ 12 := iv_int h_T k_l0 (by decide) (by decide) e_v_15 rfl
    refine tot_if (fun c_20 => ?_) (fun c_20 => ?_)
    · replace c_20 := i_le c_20
      exact hx0 l2 (by omega)
    · replace c_20 := i_nle c_20
      refine tot_oif (iv_oO h_T k_l0 (by decide) (by decide) rfl) ?_
      refine tot_ref h_T k_l0 (by decide) (by decide) (r2 := 62) (rfl : rtg 8 3 = 62) (by decide) (fun n_16 k_n_16 e_n_16 => ?_)
      refine tot_oif (iv_aA h_T k_n_16 (by decide) (by decide) rfl rfl) ?_
      refine tot_oif (by rw [iv_len h_T k_n_16 (by decide) (by decide) (rfl : shp 62 = (102, 12))]; exact i_inb (by omega) (by omega)) ?_
      refine tot_let (fun v_17 e_v_17 => ?_)
      have r_v_17 : 0 ≤ v_17.toInt ∧ v_17.toInt ≤ 1 := iv_int h_T k_n_16 (by decide) (by decide) e_v_17 rfl
      refine tot_if (fun c_21 => ?_) (fun c_21 => ?_)
      · replace c_21 := i_eq c_21
        refine tot_oif (iv_aA h_T k_l1 (by decide) (by decide) rfl rfl) ?_
        refine tot_oif (by rw [iv_len h_T k_l1 (by decide) (by decide) (rfl : shp 50 = (100, 12))]; exact i_inb (by omega) (by omega)) ?_
        refine tot_let (fun v_18 e_v_18 => ?_)
        have r_v_18 := i_any v_18
        refine tot_let (fun v_19 e_v_19 => ?_)
        have q_v_19 := i_ilt e_v_19
        unfold g_X8_greatestDelay_b29
        refine tot_let (fun v_22 e_v_22 => ?_)
        have q_v_22 := i_add e_v_22 (by omega) (by omega)
        exact ih v_19 v_22 (by omega) (by omega) (by omega)
      · replace c_21 := i_ne c_21
        unfold g_X8_greatestDelay_b29
        refine tot_let (fun v_23 e_v_23 => ?_)
        have q_v_23 := i_add e_v_23 (by omega) (by omega)
        exact ih l2 v_23 (by omega) (by omega) (by omega)
set_option maxHeartbeats 4000000 in
set_option maxRecDepth 10000 in
theorem cs_X8_greatestDelay {R : Nat → Nat} {B K1 K2 : Nat} (T : AT) (o : Nat) (a0 : Nat) (h_T : IV R B K1 K2 T) (k_o : R o = 8) (k_a0 : R a0 = 50) : Tot (g_X8_greatestDelay T o a0) (fun r => r.2 = T ∧ (0 ≤ r.1.toInt ∧ r.1.toInt ≤ 2147483647)) := by
  have z0 : (0 : Int32).toInt = 0 := by decide
  have cc_101 : cnt 101 = 1 := rfl
  have cc_102 : cnt 102 = 12 := rfl
  have cc_103 : cnt 103 = 144 := rfl
  have cc_104 : cnt 104 = 2400 := rfl
  have cc_105 : cnt 105 = 7200 := rfl
  unfold g_X8_greatestDelay
  refine cl_X8_greatestDelay_b4 T o a0 h_T k_o k_a0 ?_ 16384 0 0 (by omega) (by omega) (by omega)
  · intro l_24 g_l_24
    exact tot_some ⟨rfl, (show (0 ≤ l_24.toInt ∧ l_24.toInt ≤ 2147483647) from by omega)⟩
set_option maxHeartbeats 4000000 in
set_option maxRecDepth 10000 in
theorem cs_X8_windowOf {R : Nat → Nat} {B K1 K2 : Nat} (T : AT) (o : Nat) (a0 : Nat) (h_T : IV R B K1 K2 T) (k_o : R o = 8) (k_a0 : R a0 = 50) : Tot (g_X8_windowOf T o a0) (fun r => r.2 = T ∧ (0 ≤ r.1.toInt ∧ r.1.toInt ≤ 200)) := by
  have z0 : (0 : Int32).toInt = 0 := by decide
  have cc_101 : cnt 101 = 1 := rfl
  have cc_102 : cnt 102 = 12 := rfl
  have cc_103 : cnt 103 = 144 := rfl
  have cc_104 : cnt 104 = 2400 := rfl
  have cc_105 : cnt 105 = 7200 := rfl
  unfold g_X8_windowOf
  refine tot_oif (iv_oO h_T k_o (by decide) (by decide) rfl) ?_
  refine tot_let (fun v_1 e_v_1 => ?_)
  have r_v_1 : 0 ≤ v_1.toInt ∧ v_1.toInt ≤ 200 := iv_int h_T k_o (by decide) (by decide) e_v_1 rfl
  refine tot_oif (iv_oO h_T k_o (by decide) (by decide) rfl) ?_
  refine tot_bindq (R := fun r_2 : Int32 => (0 ≤ r_2.toInt ∧ r_2.toInt ≤ 2147483647)) (cs_X8_greatestDelay T o a0 h_T k_o k_a0 ) (fun r_2 d_r_2 => ?_)
  replace d_r_2 : (0 ≤ r_2.toInt ∧ r_2.toInt ≤ 2147483647) := d_r_2
  refine tot_let (fun v_4 e_v_4 => ?_)
  have q_v_4 := i_sub e_v_4 (by omega) (by omega)
  refine tot_let (fun v_5 e_v_5 => ?_)
  have q_v_5 := i_ilt e_v_5
  exact tot_some ⟨rfl, (show (0 ≤ v_5.toInt ∧ v_5.toInt ≤ 200) from by omega)⟩
set_option maxHeartbeats 4000000 in
set_option maxRecDepth 10000 in
theorem cs_X8_placeOf (a0 : Int32) (a1 : Int32) (g0 : 0 ≤ a0.toInt ∧ a0.toInt ≤ 11) (g1 : 0 ≤ a1.toInt ∧ a1.toInt ≤ 199) : Tot (g_X8_placeOf a0 a1) (fun r => (0 ≤ r.toInt ∧ r.toInt ≤ 2399)) := by
  have z0 : (200 : Int32).toInt = 200 := by decide
  have cc_101 : cnt 101 = 1 := rfl
  have cc_102 : cnt 102 = 12 := rfl
  have cc_103 : cnt 103 = 144 := rfl
  have cc_104 : cnt 104 = 2400 := rfl
  have cc_105 : cnt 105 = 7200 := rfl
  have j_a0 := i_any a0
  have j_a1 := i_any a1
  unfold g_X8_placeOf
  refine tot_let (fun v_1 e_v_1 => ?_)
  have q_v_1 := i_mulk2 e_v_1 z0 (by omega) (by omega)
  refine tot_let (fun v_2 e_v_2 => ?_)
  have q_v_2 := i_add e_v_2 (by omega) (by omega)
  exact tot_some (show (0 ≤ v_2.toInt ∧ v_2.toInt ≤ 2399) from by omega)
set_option maxHeartbeats 4000000 in
set_option maxRecDepth 10000 in
theorem cl_X8_blockPowerOf_b23 {R : Nat → Nat} {B K1 K2 : Nat} {Q : AT → Prop} (l0 : Nat) (l1 : Nat) (l3 : Int32) (l4 : Nat) (l5 : Int32) (l6 : Int32) (T00 : AT) (k_l0 : R l0 = 8) (k_l1 : R l1 = 50) {r_l4 : Nat} (k_l4 : R l4 = r_l4) (w_l4 : isW r_l4 = true) (g0 : 0 ≤ l3.toInt ∧ l3.toInt ≤ 200) (g1 : 0 ≤ l5.toInt ∧ l5.toInt ≤ 7199) (g2 : 0 ≤ l6.toInt ∧ l6.toInt ≤ 200) (g3 : 0 ≤ l5.toInt ∧ l5.toInt < cnt r_l4) (hx0 : ∀ (T : AT), (IV R B K1 K2 T) → (FW R [3202] T00 T) → Tot (oif (oO T l4 10 = true) <| obind (g_X10_divide T l4 l5 l3) fun T_18 => g_X8_blockPowerOf_b68 T_18) Q) : ∀ (n : Nat) (T : AT) (l7 : Int32), (IV R B K1 K2 T) → (FW R [3202] T00 T) → (0 ≤ l7.toInt ∧ l7.toInt ≤ 9800) → 9800 - l7.toInt < (n : Int) → Tot (g_X8_blockPowerOf_b23 n T l0 l1 l3 l4 l5 l6 l7) Q := by
  have z0 : ((0 : Int32) : Int32).toInt = 0 := by decide
  have z1 : (Int32.ofInt (1) : Int32).toInt = 1 := by decide
  have cc_101 : cnt 101 = 1 := rfl
  have cc_102 : cnt 102 = 12 := rfl
  have cc_103 : cnt 103 = 144 := rfl
  have cc_104 : cnt 104 = 2400 := rfl
  have cc_105 : cnt 105 = 7200 := rfl
  have j_l3 := i_any l3
  have c7_l4 := (isW_f w_l4).2.2.2.1
  have j_l5 := i_any l5
  have j_l6 := i_any l6
  intro n
  induction n with
  | zero =>
    intro T l7 h_T x_T g_l7 hm
    exfalso
    omega
  | succ n ih =>
    intro T l7 h_T x_T g_l7 hm
    unfold g_X8_blockPowerOf_b23
    refine tot_if (fun c_20 => ?_) (fun c_20 => ?_)
    · replace c_20 := i_le c_20
      exact hx0 T h_T x_T
    · replace c_20 := i_nle c_20
      refine tot_oif (iv_oO h_T k_l0 (by decide) (by decide) rfl) ?_
      refine tot_bind (cs_X8_focus T l0 l1 l7 h_T k_l0 k_l1 ) (fun T_19 d_T_19 => ?_)
      have h_T_19 : IV R B K1 K2 T_19 := d_T_19.1
      have y_T_19 : FW R [3202] T T_19 := d_T_19.2
      have x_T_19 := x_T.tr (y_T_19.w (by decide))
      unfold g_X8_blockPowerOf_b37
      refine tot_oif (iv_oO h_T_19 k_l0 (by decide) (by decide) rfl) ?_
      refine tot_ref h_T_19 k_l0 (by decide) (by decide) (r2 := 101) (rfl : rtg 8 11 = 101) (by decide) (fun n_21 k_n_21 e_n_21 => ?_)
      refine tot_oif (iv_oO h_T_19 k_l0 (by decide) (by decide) rfl) ?_
      refine tot_ref1 e_n_21 ?_
      refine tot_oif (w_oO h_T_19 k_l4 w_l4) ?_
      refine tot_bind (c_addProduct (a0 := l5) (a2 := (0 : Int32)) (a4 := (0 : Int32)) k_l4 w_l4 k_n_21 (rfl : isW 101 = true) k_n_21 (rfl : isW 101 = true) h_T_19 (by omega) (by omega) (by omega)) (fun T_23 d_T_23 => ?_)
      have h_T_23 : IV R B K1 K2 T_23 := d_T_23.1
      have y_T_23 : FW R [3202] T_19 T_23 := (fw_wx d_T_23.2 k_l4 w_l4 (by decide))
      have x_T_23 := x_T_19.tr (y_T_23.w (by decide))
      unfold g_X8_blockPowerOf_b54
      refine tot_let (fun v_24 e_v_24 => ?_)
      have q_v_24 := i_add e_v_24 (by omega) (by omega)
      exact ih T_23 v_24 h_T_23 x_T_23 (by omega) (by omega)
set_option maxHeartbeats 4000000 in
set_option maxRecDepth 10000 in
theorem cs_X8_blockPowerOf {R : Nat → Nat} {B K1 K2 : Nat} (T : AT) (o : Nat) (a0 : Nat) (a1 : Int32) (a2 : Int32) (a3 : Nat) (a4 : Int32) (h_T : IV R B K1 K2 T) (k_o : R o = 8) (k_a0 : R a0 = 50) {r_a3 : Nat} (k_a3 : R a3 = r_a3) (w_a3 : isW r_a3 = true) (g0 : 0 ≤ a1.toInt ∧ a1.toInt ≤ 9800) (g1 : 0 ≤ a2.toInt ∧ a2.toInt ≤ 200) (g2 : 0 ≤ a4.toInt ∧ a4.toInt ≤ 7199) (g3 : 0 ≤ a4.toInt ∧ a4.toInt < cnt r_a3) : Tot (g_X8_blockPowerOf T o a0 a1 a2 a3 a4) (fun T1 => IV R B K1 K2 T1 ∧ FW R [3202] T T1) := by
  have cc_101 : cnt 101 = 1 := rfl
  have cc_102 : cnt 102 = 12 := rfl
  have cc_103 : cnt 103 = 144 := rfl
  have cc_104 : cnt 104 = 2400 := rfl
  have cc_105 : cnt 105 = 7200 := rfl
  have x_T : FW R [3202] T T := FW.rf
  have j_a1 := i_any a1
  have j_a2 := i_any a2
  have j_a4 := i_any a4
  have c7_a3 := (isW_f w_a3).2.2.2.1
  unfold g_X8_blockPowerOf
  refine tot_let (fun v_1 e_v_1 => ?_)
  have q_v_1 := i_add e_v_1 (by omega) (by omega)
  refine tot_oif (iv_oO h_T k_o (by decide) (by decide) rfl) ?_
  refine tot_bindq (R := fun r_2 : Int32 => (0 ≤ r_2.toInt ∧ r_2.toInt ≤ 200)) (cs_X8_windowOf T o a0 h_T k_o k_a0 ) (fun r_2 d_r_2 => ?_)
  replace d_r_2 : (0 ≤ r_2.toInt ∧ r_2.toInt ≤ 200) := d_r_2
  refine tot_let (fun v_4 e_v_4 => ?_)
  have q_v_4 := i_ilt e_v_4
  refine tot_oif (w_oO h_T k_a3 w_a3) ?_
  refine tot_bind (c_clear (a0 := a4) h_T k_a3 w_a3 (by omega)) (fun T_5 d_T_5 => ?_)
  have h_T_5 : IV R B K1 K2 T_5 := d_T_5.1
  have y_T_5 : FW R [3202] T T_5 := (fw_of d_T_5.2)
  have x_T_5 := x_T.tr (y_T_5.w (by decide))
  refine cl_X8_blockPowerOf_b23 o a0 a2 a3 a4 v_4 T k_o k_a0 k_a3 w_a3 (by omega) (by omega) (by omega) (by omega) ?_ 16384 T_5 a1 h_T_5 x_T_5 (by omega) (by omega)
  · intro T_25 h_T_25 x_T_25
    refine tot_oif (w_oO h_T_25 k_a3 w_a3) ?_
    refine tot_bind (c_divide (a0 := a4) (a1 := a2) k_a3 w_a3 h_T_25 (by omega)) (fun T_26 d_T_26 => ?_)
    have h_T_26 : IV R B K1 K2 T_26 := d_T_26.1
    have y_T_26 : FW R [3202] T_25 T_26 := (fw_wx d_T_26.2 k_a3 w_a3 (by decide))
    have x_T_26 := x_T_25.tr (y_T_26.w (by decide))
    unfold g_X8_blockPowerOf_b68
    exact tot_some ⟨h_T_26, x_T_26⟩
set_option maxHeartbeats 4000000 in
set_option maxRecDepth 10000 in
theorem cl_X0_measure_b3 {R : Nat → Nat} {B K1 K2 : Nat} {Q : AT → Prop} (l0 : Nat) (l1 : Nat) (l2 : Nat) (l3 : Int32) (l4 : Int32) (l5 : Int32) (T00 : AT) (k_l0 : R l0 = 20) (k_l1 : R l1 = 6) (k_l2 : R l2 = 8) (g0 : 0 ≤ l3.toInt ∧ l3.toInt ≤ 9800) (g1 : 1 ≤ l4.toInt ∧ l4.toInt ≤ 200) (g2 : 0 ≤ l5.toInt ∧ l5.toInt ≤ 49) (hx0 : ∀ (T : AT), (IV R B K1 K2 T) → (FW R [3202] T00 T) → Tot (some (T)) Q) : ∀ (n : Nat) (T : AT) (l6 : Int32), (IV R B K1 K2 T) → (FW R [3202] T00 T) → (0 ≤ l6.toInt ∧ l6.toInt ≤ 144) → 144 - l6.toInt < (n : Int) → Tot (g_X0_measure_b3 n T l0 l1 l2 l3 l4 l5 l6) Q := by
  have z0 : (Int32.ofInt (1) : Int32).toInt = 1 := by decide
  have cc_101 : cnt 101 = 1 := rfl
  have cc_102 : cnt 102 = 12 := rfl
  have cc_103 : cnt 103 = 144 := rfl
  have cc_104 : cnt 104 = 2400 := rfl
  have cc_105 : cnt 105 = 7200 := rfl
  have j_l3 := i_any l3
  have j_l4 := i_any l4
  have j_l5 := i_any l5
  intro n
  induction n with
  | zero =>
    intro T l6 h_T x_T g_l6 hm
    exfalso
    omega
  | succ n ih =>
    intro T l6 h_T x_T g_l6 hm
    unfold g_X0_measure_b3
    refine tot_oif (iv_oO h_T k_l1 (by decide) (by decide) rfl) ?_
    refine tot_ref h_T k_l1 (by decide) (by decide) (r2 := 1) (rfl : rtg 6 6 = 1) (by decide) (fun n_21 k_n_21 e_n_21 => ?_)
    refine tot_oif (iv_oO h_T k_n_21 (by decide) (by decide) rfl) ?_
    refine tot_bindq (R := fun r_22 : Int32 => (0 ≤ r_22.toInt ∧ r_22.toInt ≤ 144)) (cs_X1_cells T n_21 h_T k_n_21 ) (fun r_22 d_r_22 => ?_)
    replace d_r_22 : (0 ≤ r_22.toInt ∧ r_22.toInt ≤ 144) := d_r_22
    refine tot_if (fun c_30 => ?_) (fun c_30 => ?_)
    · replace c_30 := i_le c_30
      exact hx0 T h_T x_T
    · replace c_30 := i_nle c_30
      refine tot_oif (iv_oO h_T k_l1 (by decide) (by decide) rfl) ?_
      refine tot_ref h_T k_l1 (by decide) (by decide) (r2 := 51) (rfl : rtg 6 17 = 51) (by decide) (fun n_24 k_n_24 e_n_24 => ?_)
      refine tot_oif (iv_aA h_T k_n_24 (by decide) (by decide) rfl rfl) ?_
      refine tot_oif (by rw [iv_len h_T k_n_24 (by decide) (by decide) (rfl : shp 51 = (106, 144))]; exact i_inb (by omega) (by omega)) ?_
      refine tot_ref h_T k_n_24 (by decide) (by decide) (r2 := 50) (rt_51 (by omega) (by omega)) (by decide) (fun n_25 k_n_25 e_n_25 => ?_)
      refine tot_oif (iv_oO h_T k_l0 (by decide) (by decide) rfl) ?_
      refine tot_ref h_T k_l0 (by decide) (by decide) (r2 := 105) (rfl : rtg 20 0 = 105) (by decide) (fun n_26 k_n_26 e_n_26 => ?_)
      refine tot_bind (cs_X0_rowStart l5 (by omega)) (fun r_27 d_r_27 => ?_)
      replace d_r_27 : (0 ≤ r_27.toInt ∧ r_27.toInt ≤ 7056) := d_r_27
      refine tot_let (fun v_28 e_v_28 => ?_)
      have q_v_28 := i_add e_v_28 (by omega) (by omega)
      refine tot_oif (iv_oO h_T k_l2 (by decide) (by decide) rfl) ?_
      refine tot_bind (cs_X8_blockPowerOf T l2 n_25 l3 l4 n_26 v_28 h_T k_l2 k_n_25 k_n_26 (rfl : isW 105 = true) (by omega) (by omega) (by omega) (by omega)) (fun T_29 d_T_29 => ?_)
      have h_T_29 : IV R B K1 K2 T_29 := d_T_29.1
      have y_T_29 : FW R [3202] T T_29 := d_T_29.2
      have x_T_29 := x_T.tr (y_T_29.w (by decide))
      unfold g_X0_measure_b41
      refine tot_let (fun v_31 e_v_31 => ?_)
      have q_v_31 := i_add e_v_31 (by omega) (by omega)
      exact ih T_29 v_31 h_T_29 x_T_29 (by omega) (by omega)
set_option maxHeartbeats 4000000 in
set_option maxRecDepth 10000 in
theorem cs_X0_measure {R : Nat → Nat} {B K1 K2 : Nat} (T : AT) (o : Nat) (a0 : Nat) (a1 : Nat) (a2 : Int32) (a3 : Int32) (a4 : Int32) (h_T : IV R B K1 K2 T) (k_o : R o = 20) (k_a0 : R a0 = 6) (k_a1 : R a1 = 8) (g0 : 0 ≤ a2.toInt ∧ a2.toInt ≤ 9800) (g1 : 1 ≤ a3.toInt ∧ a3.toInt ≤ 200) (g2 : 0 ≤ a4.toInt ∧ a4.toInt ≤ 49) : Tot (g_X0_measure T o a0 a1 a2 a3 a4) (fun T1 => IV R B K1 K2 T1 ∧ FW R [3202] T T1) := by
  have z0 : (0 : Int32).toInt = 0 := by decide
  have cc_101 : cnt 101 = 1 := rfl
  have cc_102 : cnt 102 = 12 := rfl
  have cc_103 : cnt 103 = 144 := rfl
  have cc_104 : cnt 104 = 2400 := rfl
  have cc_105 : cnt 105 = 7200 := rfl
  have x_T : FW R [3202] T T := FW.rf
  have j_a2 := i_any a2
  have j_a3 := i_any a3
  have j_a4 := i_any a4
  unfold g_X0_measure
  refine cl_X0_measure_b3 o a0 a1 a2 a3 a4 T k_o k_a0 k_a1 (by omega) (by omega) (by omega) ?_ 16384 T 0 h_T x_T (by omega) (by omega)
  · intro T_32 h_T_32 x_T_32
    exact tot_some ⟨h_T_32, x_T_32⟩
set_option maxHeartbeats 4000000 in
set_option maxRecDepth 10000 in
theorem cs_X0_bestOf {R : Nat → Nat} {B K1 K2 : Nat} (T : AT) (o : Nat) (a0 : Nat) (a1 : Nat) (a2 : Int32) (a3 : Int32) (h_T : IV R B K1 K2 T) (k_o : R o = 20) (k_a0 : R a0 = 6) (k_a1 : R a1 = 8) (g0 : 0 ≤ a2.toInt ∧ a2.toInt ≤ 199) (g1 : 1 ≤ a3.toInt ∧ a3.toInt ≤ 200) : Tot (g_X0_bestOf T o a0 a1 a2 a3) (fun r => (IV R B K1 K2 r.2 ∧ FW R [3202] T r.2) ∧ (0 ≤ r.1.toInt ∧ r.1.toInt ≤ 143)) := by
  have z0 : ((0 : Int32) : Int32).toInt = 0 := by decide
  have cc_101 : cnt 101 = 1 := rfl
  have cc_102 : cnt 102 = 12 := rfl
  have cc_103 : cnt 103 = 144 := rfl
  have cc_104 : cnt 104 = 2400 := rfl
  have cc_105 : cnt 105 = 7200 := rfl
  have x_T : FW R [3202] T T := FW.rf
  have j_a2 := i_any a2
  have j_a3 := i_any a3
  unfold g_X0_bestOf
  refine tot_oif (iv_oO h_T k_o (by decide) (by decide) rfl) ?_
  refine tot_ref h_T k_o (by decide) (by decide) (r2 := 105) (rfl : rtg 20 0 = 105) (by decide) (fun n_1 k_n_1 e_n_1 => ?_)
  refine tot_oif (w_oO h_T k_n_1 (rfl : isW 105 = true)) ?_
  refine tot_bind (c_narrow h_T k_n_1 (rfl : isW 105 = true)) (fun T_2 d_T_2 => ?_)
  have h_T_2 : IV R B K1 K2 T_2 := d_T_2.1
  have y_T_2 : FW R [3202] T T_2 := d_T_2.2.2
  have x_T_2 := x_T.tr (y_T_2.w (by decide))
  refine tot_oif (iv_oO h_T_2 k_o (by decide) (by decide) rfl) ?_
  refine tot_bind (cs_X0_measure T_2 o a0 a1 a2 a3 (0 : Int32) h_T_2 k_o k_a0 k_a1 (by omega) (by omega) (by omega)) (fun T_3 d_T_3 => ?_)
  have h_T_3 : IV R B K1 K2 T_3 := d_T_3.1
  have y_T_3 : FW R [3202] T_2 T_3 := d_T_3.2
  have x_T_3 := x_T_2.tr (y_T_3.w (by decide))
  unfold g_X0_bestOf_b17
  refine tot_oif (iv_oO h_T_3 k_a0 (by decide) (by decide) rfl) ?_
  refine tot_ref h_T_3 k_a0 (by decide) (by decide) (r2 := 1) (rfl : rtg 6 6 = 1) (by decide) (fun n_4 k_n_4 e_n_4 => ?_)
  refine tot_oif (iv_oO h_T_3 k_a0 (by decide) (by decide) rfl) ?_
  refine tot_ref1 e_n_4 ?_
  refine tot_oif (iv_oO h_T_3 k_n_4 (by decide) (by decide) rfl) ?_
  refine tot_ref h_T_3 k_n_4 (by decide) (by decide) (r2 := 59) (rfl : rtg 1 5 = 59) (by decide) (fun n_6 k_n_6 e_n_6 => ?_)
  refine tot_oif (iv_oO h_T_3 k_o (by decide) (by decide) rfl) ?_
  refine tot_ref h_T_3 k_o (by decide) (by decide) (r2 := 105) (rfl : rtg 20 0 = 105) (by decide) (fun n_7 k_n_7 e_n_7 => ?_)
  refine tot_oif (iv_oO h_T_3 k_n_4 (by decide) (by decide) rfl) ?_
  refine tot_bindq (R := fun r_8 : Int32 => (0 ≤ r_8.toInt ∧ r_8.toInt ≤ 143)) (cs_X1_bestIn59 T_3 n_4 n_6 n_7 (0 : Int32) h_T_3 k_n_4 k_n_6 k_n_7 (rfl : isW 105 = true) (by omega)) (fun r_8 d_r_8 => ?_)
  replace d_r_8 : (0 ≤ r_8.toInt ∧ r_8.toInt ≤ 143) := d_r_8
  exact tot_some ⟨⟨h_T_3, x_T_3⟩, (show (0 ≤ r_8.toInt ∧ r_8.toInt ≤ 143) from by omega)⟩
set_option maxHeartbeats 4000000 in
set_option maxRecDepth 10000 in
theorem cs_X1_columnOf {R : Nat → Nat} {B K1 K2 : Nat} (T : AT) (o : Nat) (a0 : Int32) (h_T : IV R B K1 K2 T) (k_o : R o = 1) (g0 : 0 ≤ a0.toInt ∧ a0.toInt ≤ 143) : Tot (g_X1_columnOf T o a0) (fun r => r.2 = T ∧ (0 ≤ r.1.toInt ∧ r.1.toInt ≤ 11)) := by
  have cc_101 : cnt 101 = 1 := rfl
  have cc_102 : cnt 102 = 12 := rfl
  have cc_103 : cnt 103 = 144 := rfl
  have cc_104 : cnt 104 = 2400 := rfl
  have cc_105 : cnt 105 = 7200 := rfl
  have j_a0 := i_any a0
  unfold g_X1_columnOf
  refine tot_oif (iv_oO h_T k_o (by decide) (by decide) rfl) ?_
  refine tot_let (fun v_1 e_v_1 => ?_)
  have r_v_1 : 0 ≤ v_1.toInt ∧ v_1.toInt ≤ 12 := iv_int h_T k_o (by decide) (by decide) e_v_1 rfl
  refine tot_bind (cs_X11_remainder a0 v_1 ) (fun r_2 d_r_2 => ?_)
  replace d_r_2 : ((0 ≤ a0.toInt ∧ 0 ≤ v_1.toInt → 0 ≤ r_2.toInt ∧ r_2.toInt ≤ a0.toInt) ∧ (1 ≤ v_1.toInt → -v_1.toInt < r_2.toInt ∧ r_2.toInt < v_1.toInt) ∧ (v_1.toInt = 0 → r_2.toInt = 0)) := d_r_2
  exact tot_some ⟨rfl, (show (0 ≤ r_2.toInt ∧ r_2.toInt ≤ 11) from by omega)⟩
set_option maxHeartbeats 4000000 in
set_option maxRecDepth 10000 in
theorem cs_X1_rowOf {R : Nat → Nat} {B K1 K2 : Nat} (T : AT) (o : Nat) (a0 : Int32) (h_T : IV R B K1 K2 T) (k_o : R o = 1) (g0 : 0 ≤ a0.toInt ∧ a0.toInt ≤ 143) : Tot (g_X1_rowOf T o a0) (fun r => r.2 = T ∧ (0 ≤ r.1.toInt ∧ r.1.toInt ≤ 143)) := by
  have cc_101 : cnt 101 = 1 := rfl
  have cc_102 : cnt 102 = 12 := rfl
  have cc_103 : cnt 103 = 144 := rfl
  have cc_104 : cnt 104 = 2400 := rfl
  have cc_105 : cnt 105 = 7200 := rfl
  have j_a0 := i_any a0
  unfold g_X1_rowOf
  refine tot_let (fun v_1 e_v_1 => ?_)
  refine tot_oif (iv_oO h_T k_o (by decide) (by decide) rfl) ?_
  refine tot_let (fun v_2 e_v_2 => ?_)
  have r_v_2 : 0 ≤ v_2.toInt ∧ v_2.toInt ≤ 12 := iv_int h_T k_o (by decide) (by decide) e_v_2 rfl
  refine tot_let (fun v_3 e_v_3 => ?_)
  refine tot_bind (cs_X11_quotient v_1 v_3) (fun r_4 d_r_4 => ?_)
  refine tot_let (fun v_5 e_v_5 => ?_)
  have q_v_5 : 0 ≤ v_5.toInt ∧ v_5.toInt ≤ a0.toInt := by rw [e_v_5]; exact d_r_4 _ _ e_v_1 e_v_3 (by omega) (by omega)
  exact tot_some ⟨rfl, (show (0 ≤ v_5.toInt ∧ v_5.toInt ≤ 143) from by omega)⟩
set_option maxHeartbeats 4000000 in
set_option maxRecDepth 10000 in
theorem cl_X0_score_b52 {R : Nat → Nat} {B K1 K2 : Nat} {Q : AT → Prop} {k31 : AT → Nat → Nat → Nat → Int32 → Int32 → Int32 → Option (AT)} (l0 : Nat) (l1 : Nat) (l2 : Nat) (l3 : Int32) (l4 : Int32) (l5 : Int32) (T00 : AT) (k_l0 : R l0 = 20) (k_l1 : R l1 = 6) (k_l2 : R l2 = 8) (g0 : 4 ≤ l3.toInt ∧ l3.toInt ≤ 200) (g1 : 0 ≤ l4.toInt ∧ l4.toInt ≤ 50) (g2 : 0 ≤ l5.toInt ∧ l5.toInt ≤ 49) (hx0 : ∀ (T : AT), (IV R B K1 K2 T) → (FW R [1952, 3202] T00 T) → Tot (g_X0_score_b137 k31 T l0 l1 l2 l3 l4 l5) Q) : ∀ (n : Nat) (T : AT) (l6 : Int32), (IV R B K1 K2 T) → (FW R [1952, 3202] T00 T) → (0 ≤ l6.toInt ∧ l6.toInt ≤ 144) → 144 - l6.toInt < (n : Int) → Tot (g_X0_score_b52 k31 n T l0 l1 l2 l3 l4 l5 l6) Q := by
  have z0 : (1 : Int32).toInt = 1 := by decide
  have z1 : ((1 : Int32) : Int32).toInt = 1 := by decide
  have z2 : (Int32.ofInt (1) : Int32).toInt = 1 := by decide
  have cc_101 : cnt 101 = 1 := rfl
  have cc_102 : cnt 102 = 12 := rfl
  have cc_103 : cnt 103 = 144 := rfl
  have cc_104 : cnt 104 = 2400 := rfl
  have cc_105 : cnt 105 = 7200 := rfl
  have j_l3 := i_any l3
  have j_l4 := i_any l4
  have j_l5 := i_any l5
  intro n
  induction n with
  | zero =>
    intro T l6 h_T x_T g_l6 hm
    exfalso
    omega
  | succ n ih =>
    intro T l6 h_T x_T g_l6 hm
    unfold g_X0_score_b52
    refine tot_oif (iv_oO h_T k_l1 (by decide) (by decide) rfl) ?_
    refine tot_ref h_T k_l1 (by decide) (by decide) (r2 := 1) (rfl : rtg 6 6 = 1) (by decide) (fun n_109 k_n_109 e_n_109 => ?_)
    refine tot_oif (iv_oO h_T k_n_109 (by decide) (by decide) rfl) ?_
    refine tot_bindq (R := fun r_110 : Int32 => (0 ≤ r_110.toInt ∧ r_110.toInt ≤ 144)) (cs_X1_cells T n_109 h_T k_n_109 ) (fun r_110 d_r_110 => ?_)
    replace d_r_110 : (0 ≤ r_110.toInt ∧ r_110.toInt ≤ 144) := d_r_110
    refine tot_if (fun c_128 => ?_) (fun c_128 => ?_)
    · replace c_128 := i_le c_128
      exact hx0 T h_T x_T
    · replace c_128 := i_nle c_128
      refine tot_let (fun v_112 e_v_112 => ?_)
      have q_v_112 := i_add e_v_112 (by omega) (by omega)
      refine tot_if (fun c_129 => ?_) (fun c_129 => ?_)
      · replace c_129 := i_le c_129
        exact hx0 T h_T x_T
      · replace c_129 := i_nle c_129
        refine tot_let (fun v_113 e_v_113 => ?_)
        have q_v_113 := i_add e_v_113 (by omega) (by omega)
        refine tot_bind (cs_X0_rowStart v_113 (by omega)) (fun r_114 d_r_114 => ?_)
        replace d_r_114 : (0 ≤ r_114.toInt ∧ r_114.toInt ≤ 7056) := d_r_114
        refine tot_oif (iv_oO h_T k_l1 (by decide) (by decide) rfl) ?_
        refine tot_ref1 e_n_109 ?_
        refine tot_oif (iv_oO h_T k_l1 (by decide) (by decide) rfl) ?_
        refine tot_ref1 e_n_109 ?_
        refine tot_oif (iv_oO h_T k_n_109 (by decide) (by decide) rfl) ?_
        refine tot_bind2 (cs_X1_areaAround T n_109 l6 h_T k_n_109 (by omega)) (fun n_117 T_118 d_n_117 => ?_)
        have h_T_118 : IV R B K1 K2 T_118 := d_n_117.1.1
        have y_T_118 : FW R [1952] T T_118 := d_n_117.1.2
        have x_T_118 := x_T.tr (y_T_118.w (by decide))
        have k_n_117 : R n_117 = 61 := d_n_117.2.1
        have ao_n_117 : AO n_109 T_118 n_117 := d_n_117.2.2
        refine tot_oif (Nat.ble_eq_true_of_le (iv_lt h_T_118 (iv_sta h_T_118 k_n_117 (by decide) (by decide)))) ?_
        refine tot_oif (iv_oO h_T_118 k_l0 (by decide) (by decide) rfl) ?_
        refine tot_ref h_T_118 k_l0 (by decide) (by decide) (r2 := 105) (rfl : rtg 20 0 = 105) (by decide) (fun n_119 k_n_119 e_n_119 => ?_)
        refine tot_oif (iv_oO h_T_118 k_n_109 (by decide) (by decide) rfl) ?_
        refine tot_bindq (R := fun r_120 : Int32 => (0 ≤ r_120.toInt ∧ r_120.toInt ≤ 143)) (cs_X1_bestIn61 T_118 n_109 n_117 n_119 r_114 h_T_118 k_n_109 k_n_117 k_n_119 (rfl : isW 105 = true) ao_n_117 (by omega)) (fun r_120 d_r_120 => ?_)
        replace d_r_120 : (0 ≤ r_120.toInt ∧ r_120.toInt ≤ 143) := d_r_120
        refine tot_oif (iv_oO h_T_118 k_l0 (by decide) (by decide) rfl) ?_
        refine tot_ref1 e_n_119 ?_
        refine tot_bind (cs_X0_rowStart l5 (by omega)) (fun r_123 d_r_123 => ?_)
        replace d_r_123 : (0 ≤ r_123.toInt ∧ r_123.toInt ≤ 7056) := d_r_123
        refine tot_let (fun v_124 e_v_124 => ?_)
        have q_v_124 := i_add e_v_124 (by omega) (by omega)
        refine tot_oif (iv_oO h_T_118 k_l0 (by decide) (by decide) rfl) ?_
        refine tot_ref1 e_n_119 ?_
        refine tot_let (fun v_126 e_v_126 => ?_)
        have q_v_126 := i_add e_v_126 (by omega) (by omega)
        refine tot_oif (w_oO h_T_118 k_n_119 (rfl : isW 105 = true)) ?_
        refine tot_bind (c_add (a0 := v_124) (a2 := v_126) (a3 := (1 : Int32)) k_n_119 (rfl : isW 105 = true) k_n_119 (rfl : isW 105 = true) h_T_118 (by omega) (by omega)) (fun T_127 d_T_127 => ?_)
        have h_T_127 : IV R B K1 K2 T_127 := d_T_127.1
        have y_T_127 : FW R [3202] T_118 T_127 := (fw_wx d_T_127.2 k_n_119 (rfl : isW 105 = true) (by decide))
        have x_T_127 := x_T_118.tr (y_T_127.w (by decide))
        unfold g_X0_score_b131
        refine tot_let (fun v_130 e_v_130 => ?_)
        have q_v_130 := i_add e_v_130 (by omega) (by omega)
        exact ih T_127 v_130 h_T_127 x_T_127 (by omega) (by omega)
set_option maxHeartbeats 4000000 in
set_option maxRecDepth 10000 in
theorem cl_X0_score_b31 {R : Nat → Nat} {B K1 K2 : Nat} {Q : AT → Prop} (l0 : Nat) (l1 : Nat) (l2 : Nat) (l3 : Int32) (l4 : Int32) (T00 : AT) (k_l0 : R l0 = 20) (k_l1 : R l1 = 6) (k_l2 : R l2 = 8) (g0 : 4 ≤ l3.toInt ∧ l3.toInt ≤ 200) (g1 : 0 ≤ l4.toInt ∧ l4.toInt ≤ 50) (hx0 : ∀ (T : AT), (IV R B K1 K2 T) → (FW R [1952, 3202] T00 T) → Tot (some (T)) Q) : ∀ (n : Nat) (T : AT) (l5 : Int32), (IV R B K1 K2 T) → (FW R [1952, 3202] T00 T) → (-1 ≤ l5.toInt ∧ l5.toInt ≤ 49) → l5.toInt - (-1) < (n : Int) → Tot (g_X0_score_b31 n T l0 l1 l2 l3 l4 l5) Q := by
  have z0 : (0 : Int32).toInt = 0 := by decide
  have z1 : (Int32.ofInt (-1) : Int32).toInt = -1 := by decide
  have cc_101 : cnt 101 = 1 := rfl
  have cc_102 : cnt 102 = 12 := rfl
  have cc_103 : cnt 103 = 144 := rfl
  have cc_104 : cnt 104 = 2400 := rfl
  have cc_105 : cnt 105 = 7200 := rfl
  have j_l3 := i_any l3
  have j_l4 := i_any l4
  intro n
  induction n with
  | zero =>
    intro T l5 h_T x_T g_l5 hm
    exfalso
    omega
  | succ n ih =>
    intro T l5 h_T x_T g_l5 hm
    unfold g_X0_score_b31
    refine tot_if (fun c_86 => ?_) (fun c_86 => ?_)
    · replace c_86 := i_lt c_86
      exact hx0 T h_T x_T
    · replace c_86 := i_nlt c_86
      refine tot_let (fun v_84 e_v_84 => ?_)
      have q_v_84 := i_mulp (a := 0) (b := 49) (c := 4) (d := 200) e_v_84 (by omega) (by omega) (by omega) (by omega) (by decide)
      refine tot_oif (iv_oO h_T k_l0 (by decide) (by decide) rfl) ?_
      refine tot_bind (cs_X0_measure T l0 l1 l2 v_84 l3 l5 h_T k_l0 k_l1 k_l2 (by omega) (by omega) (by omega)) (fun T_85 d_T_85 => ?_)
      have h_T_85 : IV R B K1 K2 T_85 := d_T_85.1
      have y_T_85 : FW R [3202] T T_85 := d_T_85.2
      have x_T_85 := x_T.tr (y_T_85.w (by decide))
      unfold g_X0_score_b49
      refine cl_X0_score_b52 l0 l1 l2 l3 l4 l5 T00 k_l0 k_l1 k_l2 (by omega) (by omega) (by omega) ?_ 16384 T_85 0 h_T_85 x_T_85 (by omega) (by omega)
      · intro T_131 h_T_131 x_T_131
        unfold g_X0_score_b137
        refine tot_let (fun v_132 e_v_132 => ?_)
        have q_v_132 := i_add e_v_132 (by omega) (by omega)
        exact ih T_131 v_132 h_T_131 x_T_131 (by omega) (by omega)
set_option maxHeartbeats 4000000 in
set_option maxRecDepth 10000 in
theorem cs_X0_score {R : Nat → Nat} {B K1 K2 : Nat} (T : AT) (o : Nat) (a0 : Nat) (a1 : Nat) (a2 : Int32) (h_T : IV R B K1 K2 T) (k_o : R o = 20) (k_a0 : R a0 = 6) (k_a1 : R a1 = 8) (g0 : 4 ≤ a2.toInt ∧ a2.toInt ≤ 200) : Tot (g_X0_score T o a0 a1 a2) (fun T1 => IV R B K1 K2 T1 ∧ FW R [1952, 3202] T T1) := by
  have z0 : (50 : Int32).toInt = 50 := by decide
  have z1 : (1 : Int32).toInt = 1 := by decide
  have cc_101 : cnt 101 = 1 := rfl
  have cc_102 : cnt 102 = 12 := rfl
  have cc_103 : cnt 103 = 144 := rfl
  have cc_104 : cnt 104 = 2400 := rfl
  have cc_105 : cnt 105 = 7200 := rfl
  have x_T : FW R [1952, 3202] T T := FW.rf
  have j_a2 := i_any a2
  unfold g_X0_score
  refine tot_oif (iv_oO h_T k_a0 (by decide) (by decide) rfl) ?_
  refine tot_let (fun v_1 e_v_1 => ?_)
  have r_v_1 : 0 ≤ v_1.toInt ∧ v_1.toInt ≤ 200 := iv_int h_T k_a0 (by decide) (by decide) e_v_1 rfl
  refine tot_let (fun v_2 e_v_2 => ?_)
  refine tot_let (fun v_3 e_v_3 => ?_)
  refine tot_bind (cs_X11_quotient v_2 v_3) (fun r_4 d_r_4 => ?_)
  refine tot_let (fun v_5 e_v_5 => ?_)
  have q_v_5 : 0 ≤ v_5.toInt ∧ v_5.toInt ≤ v_1.toInt := by rw [e_v_5]; exact d_r_4 _ _ e_v_2 e_v_3 (by omega) (by omega)
  refine tot_let (fun v_6 e_v_6 => ?_)
  have q_v_6 := i_ilt e_v_6
  refine tot_oif (iv_oO h_T k_o (by decide) (by decide) rfl) ?_
  refine tot_ref h_T k_o (by decide) (by decide) (r2 := 105) (rfl : rtg 20 0 = 105) (by decide) (fun n_7 k_n_7 e_n_7 => ?_)
  refine tot_oif (w_oO h_T k_n_7 (rfl : isW 105 = true)) ?_
  refine tot_bind (c_narrow h_T k_n_7 (rfl : isW 105 = true)) (fun T_8 d_T_8 => ?_)
  have h_T_8 : IV R B K1 K2 T_8 := d_T_8.1
  have y_T_8 : FW R [3202] T T_8 := d_T_8.2.2
  have x_T_8 := x_T.tr (y_T_8.w (by decide))
  refine tot_let (fun v_9 e_v_9 => ?_)
  have q_v_9 := i_sub e_v_9 (by omega) (by omega)
  refine cl_X0_score_b31 o a0 a1 a2 v_6 T k_o k_a0 k_a1 (by omega) (by omega) ?_ 16384 T_8 v_9 h_T_8 x_T_8 (by omega) (by omega)
  · intro T_133 h_T_133 x_T_133
    exact tot_some ⟨h_T_133, x_T_133⟩
set_option maxHeartbeats 4000000 in
set_option maxRecDepth 10000 in
theorem cl_X0_trackCellIn_b17 {R : Nat → Nat} {B K1 K2 : Nat} {Q : Int32 × AT → Prop} (l0 : Nat) (l1 : Nat) (l2 : Int32) (T00 : AT) (k_l0 : R l0 = 20) (k_l1 : R l1 = 1) (hx0 : ∀ (T : AT) (l3 : Int32), (IV R B K1 K2 T) → (FW R [1952] T00 T) → (0 ≤ l3.toInt ∧ l3.toInt ≤ 143) → Tot (g_X0_trackCellIn_b55 T l3) Q) : ∀ (n : Nat) (T : AT) (l3 : Int32) (l4 : Int32), (IV R B K1 K2 T) → (FW R [1952] T00 T) → (0 ≤ l3.toInt ∧ l3.toInt ≤ 143) → (1 ≤ l4.toInt ∧ l4.toInt ≤ 50) → 50 - l4.toInt < (n : Int) → Tot (g_X0_trackCellIn_b17 n T l0 l1 l2 l3 l4) Q := by
  have z0 : (50 : Int32).toInt = 50 := by decide
  have z1 : (Int32.ofInt (1) : Int32).toInt = 1 := by decide
  have cc_101 : cnt 101 = 1 := rfl
  have cc_102 : cnt 102 = 12 := rfl
  have cc_103 : cnt 103 = 144 := rfl
  have cc_104 : cnt 104 = 2400 := rfl
  have cc_105 : cnt 105 = 7200 := rfl
  have j_l2 := i_any l2
  intro n
  induction n with
  | zero =>
    intro T l3 l4 h_T x_T g_l3 g_l4 hm
    exfalso
    omega
  | succ n ih =>
    intro T l3 l4 h_T x_T g_l3 g_l4 hm
    unfold g_X0_trackCellIn_b17
    refine tot_if (fun c_26 => ?_) (fun c_26 => ?_)
    · replace c_26 := i_lt c_26
      exact hx0 T l3 h_T x_T (by omega)
    · replace c_26 := i_nlt c_26
      refine tot_if (fun c_27 => ?_) (fun c_27 => ?_)
      · replace c_27 := i_le c_27
        exact hx0 T l3 h_T x_T (by omega)
      · replace c_27 := i_nle c_27
        refine tot_oif (iv_oO h_T k_l1 (by decide) (by decide) rfl) ?_
        refine tot_bind2 (cs_X1_areaAround T l1 l3 h_T k_l1 (by omega)) (fun n_19 T_20 d_n_19 => ?_)
        have h_T_20 : IV R B K1 K2 T_20 := d_n_19.1.1
        have y_T_20 : FW R [1952] T T_20 := d_n_19.1.2
        have x_T_20 := x_T.tr (y_T_20.w (by decide))
        have k_n_19 : R n_19 = 61 := d_n_19.2.1
        have ao_n_19 : AO l1 T_20 n_19 := d_n_19.2.2
        refine tot_oif (iv_oO h_T_20 k_l0 (by decide) (by decide) rfl) ?_
        refine tot_ref h_T_20 k_l0 (by decide) (by decide) (r2 := 105) (rfl : rtg 20 0 = 105) (by decide) (fun n_21 k_n_21 e_n_21 => ?_)
        refine tot_bind (cs_X0_rowStart l4 (by omega)) (fun r_22 d_r_22 => ?_)
        replace d_r_22 : (0 ≤ r_22.toInt ∧ r_22.toInt ≤ 7056) := d_r_22
        refine tot_oif (iv_oO h_T_20 k_l1 (by decide) (by decide) rfl) ?_
        refine tot_bindq (R := fun r_23 : Int32 => (0 ≤ r_23.toInt ∧ r_23.toInt ≤ 143)) (cs_X1_bestIn61 T_20 l1 n_19 n_21 r_22 h_T_20 k_l1 k_n_19 k_n_21 (rfl : isW 105 = true) ao_n_19 (by omega)) (fun r_23 d_r_23 => ?_)
        replace d_r_23 : (0 ≤ r_23.toInt ∧ r_23.toInt ≤ 143) := d_r_23
        refine tot_let (fun v_25 e_v_25 => ?_)
        have q_v_25 := i_add e_v_25 (by omega) (by omega)
        exact ih T_20 r_23 v_25 h_T_20 x_T_20 (by omega) (by omega) (by omega)
set_option maxHeartbeats 4000000 in
set_option maxRecDepth 10000 in
theorem cs_X0_trackCellIn {R : Nat → Nat} {B K1 K2 : Nat} (T : AT) (o : Nat) (a0 : Nat) (a1 : Int32) (h_T : IV R B K1 K2 T) (k_o : R o = 20) (k_a0 : R a0 = 1) : Tot (g_X0_trackCellIn T o a0 a1) (fun r => (IV R B K1 K2 r.2 ∧ FW R [1952] T r.2) ∧ (0 ≤ r.1.toInt ∧ r.1.toInt ≤ 143)) := by
  have z0 : ((0 : Int32) : Int32).toInt = 0 := by decide
  have z1 : (1 : Int32).toInt = 1 := by decide
  have cc_101 : cnt 101 = 1 := rfl
  have cc_102 : cnt 102 = 12 := rfl
  have cc_103 : cnt 103 = 144 := rfl
  have cc_104 : cnt 104 = 2400 := rfl
  have cc_105 : cnt 105 = 7200 := rfl
  have x_T : FW R [1952] T T := FW.rf
  have j_a1 := i_any a1
  unfold g_X0_trackCellIn
  refine tot_oif (iv_oO h_T k_a0 (by decide) (by decide) rfl) ?_
  refine tot_ref h_T k_a0 (by decide) (by decide) (r2 := 59) (rfl : rtg 1 5 = 59) (by decide) (fun n_1 k_n_1 e_n_1 => ?_)
  refine tot_oif (iv_oO h_T k_o (by decide) (by decide) rfl) ?_
  refine tot_ref h_T k_o (by decide) (by decide) (r2 := 105) (rfl : rtg 20 0 = 105) (by decide) (fun n_2 k_n_2 e_n_2 => ?_)
  refine tot_oif (iv_oO h_T k_a0 (by decide) (by decide) rfl) ?_
  refine tot_bindq (R := fun r_3 : Int32 => (0 ≤ r_3.toInt ∧ r_3.toInt ≤ 143)) (cs_X1_bestIn59 T a0 n_1 n_2 (0 : Int32) h_T k_a0 k_n_1 k_n_2 (rfl : isW 105 = true) (by omega)) (fun r_3 d_r_3 => ?_)
  replace d_r_3 : (0 ≤ r_3.toInt ∧ r_3.toInt ≤ 143) := d_r_3
  refine cl_X0_trackCellIn_b17 o a0 a1 T k_o k_a0 ?_ 16384 T r_3 1 h_T x_T (by omega) (by omega) (by omega)
  · intro T_28 l_29 h_T_28 x_T_28 g_l_29
    unfold g_X0_trackCellIn_b55
    exact tot_some ⟨⟨h_T_28, x_T_28⟩, (show (0 ≤ l_29.toInt ∧ l_29.toInt ≤ 143) from by omega)⟩
set_option maxHeartbeats 4000000 in
set_option maxRecDepth 10000 in
theorem cs_X1_clear {R : Nat → Nat} {B K1 K2 : Nat} (T : AT) (o : Nat) (h_T : IV R B K1 K2 T) (k_o : R o = 1) : Tot (g_X1_clear T o) (fun T1 => IV R B K1 K2 T1 ∧ FW R [35, 36, 39] T T1) := by
  have z0 : (0 : Int32).toInt = 0 := by decide
  have cc_101 : cnt 101 = 1 := rfl
  have cc_102 : cnt 102 = 12 := rfl
  have cc_103 : cnt 103 = 144 := rfl
  have cc_104 : cnt 104 = 2400 := rfl
  have cc_105 : cnt 105 = 7200 := rfl
  have x_T : FW R [35, 36, 39] T T := FW.rf
  unfold g_X1_clear
  refine tot_oif (iv_oO h_T k_o (by decide) (by decide) rfl) ?_
  refine tot_let (fun T_1 e_T_1 => ?_)
  have h_T_1 : IV R B K1 K2 T_1 := by rw [e_T_1]; exact iv_uI (a := 0) (b := 12) h_T k_o (by decide) (by decide) rfl (by omega) (.inl rfl)
  have x_T_1 := x_T.tr (fw_uI e_T_1 k_o (by decide))
  refine tot_oif (iv_oO h_T_1 k_o (by decide) (by decide) rfl) ?_
  refine tot_let (fun T_2 e_T_2 => ?_)
  have h_T_2 : IV R B K1 K2 T_2 := by rw [e_T_2]; exact iv_uI (a := 0) (b := 12) h_T_1 k_o (by decide) (by decide) rfl (by omega) (.inl rfl)
  have x_T_2 := x_T_1.tr (fw_uI e_T_2 k_o (by decide))
  refine tot_oif (iv_oO h_T_2 k_o (by decide) (by decide) rfl) ?_
  refine tot_let (fun T_3 e_T_3 => ?_)
  have h_T_3 : IV R B K1 K2 T_3 := by rw [e_T_3]; exact iv_uI (a := 0) (b := 4) h_T_2 k_o (by decide) (by decide) rfl (by omega) (.inl rfl)
  have x_T_3 := x_T_2.tr (fw_uI e_T_3 k_o (by decide))
  exact tot_some ⟨h_T_3, x_T_3⟩
set_option maxHeartbeats 4000000 in
set_option maxRecDepth 10000 in
theorem cs_X1_open {R : Nat → Nat} {B K1 K2 : Nat} (T : AT) (o : Nat) (a0 : Int32) (a1 : Int32) (h_T : IV R B K1 K2 T) (k_o : R o = 1) (g0 : 1 ≤ a0.toInt ∧ a0.toInt ≤ 12) (g1 : 1 ≤ a1.toInt ∧ a1.toInt ≤ 12) : Tot (g_X1_open T o a0 a1) (fun T1 => IV R B K1 K2 T1 ∧ FW R [35, 36, 1888] T T1) := by
  have z0 : (1 : Int32).toInt = 1 := by decide
  have z1 : (2 : Int32).toInt = 2 := by decide
  have z2 : (3 : Int32).toInt = 3 := by decide
  have cc_101 : cnt 101 = 1 := rfl
  have cc_102 : cnt 102 = 12 := rfl
  have cc_103 : cnt 103 = 144 := rfl
  have cc_104 : cnt 104 = 2400 := rfl
  have cc_105 : cnt 105 = 7200 := rfl
  have x_T : FW R [35, 36, 1888] T T := FW.rf
  have j_a0 := i_any a0
  have j_a1 := i_any a1
  unfold g_X1_open
  refine tot_oif (iv_oO h_T k_o (by decide) (by decide) rfl) ?_
  refine tot_let (fun T_1 e_T_1 => ?_)
  have h_T_1 : IV R B K1 K2 T_1 := by rw [e_T_1]; exact iv_uI (a := 0) (b := 12) h_T k_o (by decide) (by decide) rfl (by omega) (.inl rfl)
  have x_T_1 := x_T.tr (fw_uI e_T_1 k_o (by decide))
  refine tot_oif (iv_oO h_T_1 k_o (by decide) (by decide) rfl) ?_
  refine tot_let (fun T_2 e_T_2 => ?_)
  have h_T_2 : IV R B K1 K2 T_2 := by rw [e_T_2]; exact iv_uI (a := 0) (b := 12) h_T_1 k_o (by decide) (by decide) rfl (by omega) (.inl rfl)
  have x_T_2 := x_T_1.tr (fw_uI e_T_2 k_o (by decide))
  refine tot_oif (iv_oO h_T_2 k_o (by decide) (by decide) rfl) ?_
  refine tot_ref h_T_2 k_o (by decide) (by decide) (r2 := 59) (rfl : rtg 1 5 = 59) (by decide) (fun n_3 k_n_3 e_n_3 => ?_)
  refine tot_let (fun v_4 e_v_4 => ?_)
  have q_v_4 := i_sub e_v_4 (by omega) (by omega)
  refine tot_oif (iv_aA h_T_2 k_n_3 (by decide) (by decide) rfl rfl) ?_
  refine tot_oif (by rw [iv_len h_T_2 k_n_3 (by decide) (by decide) (rfl : shp 59 = (100, 4))]; exact i_inb (by omega) (by omega)) ?_
  refine tot_let (fun T_5 e_T_5 => ?_)
  have h_T_5 : IV R B K1 K2 T_5 := by rw [e_T_5]; exact iv_uI (a := 0) (b := 11) h_T_2 k_n_3 (by decide) (by decide) rfl (by omega) (.inl rfl)
  have x_T_5 := x_T_2.tr (fw_uA e_T_5 k_n_3 rfl rfl (by decide))
  refine tot_oif (iv_oO h_T_5 k_o (by decide) (by decide) rfl) ?_
  refine tot_ref h_T_5 k_o (by decide) (by decide) (r2 := 59) (rfl : rtg 1 5 = 59) (by decide) (fun n_6 k_n_6 e_n_6 => ?_)
  refine tot_let (fun v_7 e_v_7 => ?_)
  have q_v_7 := i_sub e_v_7 (by omega) (by omega)
  refine tot_oif (iv_aA h_T_5 k_n_6 (by decide) (by decide) rfl rfl) ?_
  refine tot_oif (by rw [iv_len h_T_5 k_n_6 (by decide) (by decide) (rfl : shp 59 = (100, 4))]; exact i_inb (by omega) (by omega)) ?_
  refine tot_let (fun T_8 e_T_8 => ?_)
  have h_T_8 : IV R B K1 K2 T_8 := by rw [e_T_8]; exact iv_uI (a := 0) (b := 11) h_T_5 k_n_6 (by decide) (by decide) rfl (by omega) (.inl rfl)
  have x_T_8 := x_T_5.tr (fw_uA e_T_8 k_n_6 rfl rfl (by decide))
  exact tot_some ⟨h_T_8, x_T_8⟩
set_option maxHeartbeats 4000000 in
set_option maxRecDepth 10000 in
theorem cs_X1_centreX {R : Nat → Nat} {B K1 K2 : Nat} (T : AT) (o : Nat) (a0 : Int32) (h_T : IV R B K1 K2 T) (k_o : R o = 1) (g0 : 0 ≤ a0.toInt ∧ a0.toInt ≤ 143) : Tot (g_X1_centreX T o a0) (fun r => r.2 = T ∧ (-999 ≤ r.1.toInt ∧ r.1.toInt ≤ 2088)) := by
  have cc_101 : cnt 101 = 1 := rfl
  have cc_102 : cnt 102 = 12 := rfl
  have cc_103 : cnt 103 = 144 := rfl
  have cc_104 : cnt 104 = 2400 := rfl
  have cc_105 : cnt 105 = 7200 := rfl
  have j_a0 := i_any a0
  unfold g_X1_centreX
  refine tot_oif (iv_oO h_T k_o (by decide) (by decide) rfl) ?_
  refine tot_let (fun v_1 e_v_1 => ?_)
  have r_v_1 : -999 ≤ v_1.toInt ∧ v_1.toInt ≤ 999 := iv_int h_T k_o (by decide) (by decide) e_v_1 rfl
  refine tot_oif (iv_oO h_T k_o (by decide) (by decide) rfl) ?_
  refine tot_let (fun v_2 e_v_2 => ?_)
  have r_v_2 : 0 ≤ v_2.toInt ∧ v_2.toInt ≤ 99 := iv_int h_T k_o (by decide) (by decide) e_v_2 rfl
  refine tot_oif (iv_oO h_T k_o (by decide) (by decide) rfl) ?_
  refine tot_bindq (R := fun r_3 : Int32 => (0 ≤ r_3.toInt ∧ r_3.toInt ≤ 11)) (cs_X1_columnOf T o a0 h_T k_o (by omega)) (fun r_3 d_r_3 => ?_)
  replace d_r_3 : (0 ≤ r_3.toInt ∧ r_3.toInt ≤ 11) := d_r_3
  refine tot_let (fun v_5 e_v_5 => ?_)
  have q_v_5 := i_mulp (a := 0) (b := 99) (c := 0) (d := 11) e_v_5 (by omega) (by omega) (by omega) (by omega) (by decide)
  refine tot_let (fun v_6 e_v_6 => ?_)
  have q_v_6 := i_add e_v_6 (by omega) (by omega)
  exact tot_some ⟨rfl, (show (-999 ≤ v_6.toInt ∧ v_6.toInt ≤ 2088) from by omega)⟩
set_option maxHeartbeats 4000000 in
set_option maxRecDepth 10000 in
theorem cs_X1_centreY {R : Nat → Nat} {B K1 K2 : Nat} (T : AT) (o : Nat) (a0 : Int32) (h_T : IV R B K1 K2 T) (k_o : R o = 1) (g0 : 0 ≤ a0.toInt ∧ a0.toInt ≤ 143) : Tot (g_X1_centreY T o a0) (fun r => r.2 = T ∧ (-999 ≤ r.1.toInt ∧ r.1.toInt ≤ 15156)) := by
  have cc_101 : cnt 101 = 1 := rfl
  have cc_102 : cnt 102 = 12 := rfl
  have cc_103 : cnt 103 = 144 := rfl
  have cc_104 : cnt 104 = 2400 := rfl
  have cc_105 : cnt 105 = 7200 := rfl
  have j_a0 := i_any a0
  unfold g_X1_centreY
  refine tot_oif (iv_oO h_T k_o (by decide) (by decide) rfl) ?_
  refine tot_let (fun v_1 e_v_1 => ?_)
  have r_v_1 : -999 ≤ v_1.toInt ∧ v_1.toInt ≤ 999 := iv_int h_T k_o (by decide) (by decide) e_v_1 rfl
  refine tot_oif (iv_oO h_T k_o (by decide) (by decide) rfl) ?_
  refine tot_let (fun v_2 e_v_2 => ?_)
  have r_v_2 : 0 ≤ v_2.toInt ∧ v_2.toInt ≤ 99 := iv_int h_T k_o (by decide) (by decide) e_v_2 rfl
  refine tot_oif (iv_oO h_T k_o (by decide) (by decide) rfl) ?_
  refine tot_bindq (R := fun r_3 : Int32 => (0 ≤ r_3.toInt ∧ r_3.toInt ≤ 143)) (cs_X1_rowOf T o a0 h_T k_o (by omega)) (fun r_3 d_r_3 => ?_)
  replace d_r_3 : (0 ≤ r_3.toInt ∧ r_3.toInt ≤ 143) := d_r_3
  refine tot_let (fun v_5 e_v_5 => ?_)
  have q_v_5 := i_mulp (a := 0) (b := 99) (c := 0) (d := 143) e_v_5 (by omega) (by omega) (by omega) (by omega) (by decide)
  refine tot_let (fun v_6 e_v_6 => ?_)
  have q_v_6 := i_add e_v_6 (by omega) (by omega)
  exact tot_some ⟨rfl, (show (-999 ≤ v_6.toInt ∧ v_6.toInt ≤ 15156) from by omega)⟩
set_option maxHeartbeats 4000000 in
set_option maxRecDepth 10000 in
theorem cl_X9_runEnd_b3 {R : Nat → Nat} {B K1 K2 : Nat} {Q : Int32 × AT → Prop} (T : AT) (l0 : Nat) (l1 : Int32) (l3 : Int32) (l4 : Int32) (h_T : IV R B K1 K2 T) (k_l0 : R l0 = 9) (g0 : 1 ≤ l1.toInt ∧ l1.toInt ≤ 1000) (g1 : 48 ≤ l3.toInt ∧ l3.toInt ≤ 97) (g2 : 57 ≤ l4.toInt ∧ l4.toInt ≤ 122) (hx0 : ∀ (_ : Unit), Tot (some (l1, T)) Q) (hx1 : ∀ (l5 : Int32), (0 ≤ l5.toInt ∧ l5.toInt ≤ 999) → Tot (g_X9_runEnd_b32 T l5) Q) : ∀ (n : Nat) (l5 : Int32), (0 ≤ l5.toInt ∧ l5.toInt ≤ 1000) → 1000 - l5.toInt < (n : Int) → Tot (g_X9_runEnd_b3 n T l0 l1 l3 l4 l5) Q := by
  have z0 : (Int32.ofInt (1) : Int32).toInt = 1 := by decide
  have cc_101 : cnt 101 = 1 := rfl
  have cc_102 : cnt 102 = 12 := rfl
  have cc_103 : cnt 103 = 144 := rfl
  have cc_104 : cnt 104 = 2400 := rfl
  have cc_105 : cnt 105 = 7200 := rfl
  have j_l1 := i_any l1
  have j_l3 := i_any l3
  have j_l4 := i_any l4
  intro n
  induction n with
  | zero =>
    intro l5 g_l5 hm
    exfalso
    omega
  | succ n ih =>
    intro l5 g_l5 hm
    unfold g_X9_runEnd_b3
    refine tot_if (fun c_16 => ?_) (fun c_16 => ?_)
    · replace c_16 := i_le c_16
      exact hx0 () 
    · replace c_16 := i_nle c_16
      refine tot_oif (iv_oO h_T k_l0 (by decide) (by decide) rfl) ?_
      refine tot_ref h_T k_l0 (by decide) (by decide) (r2 := 41) (rfl : rtg 9 0 = 41) (by decide) (fun n_11 k_n_11 e_n_11 => ?_)
      refine tot_oif (iv_aA h_T k_n_11 (by decide) (by decide) rfl rfl) ?_
      refine tot_oif (by rw [iv_len h_T k_n_11 (by decide) (by decide) (rfl : shp 41 = (100, 1000))]; exact i_inb (by omega) (by omega)) ?_
      refine tot_let (fun v_12 e_v_12 => ?_)
      have r_v_12 := i_any v_12
      refine tot_if (fun c_17 => ?_) (fun c_17 => ?_)
      · replace c_17 := i_lt c_17
        exact hx1 l5 (by omega)
      · replace c_17 := i_nlt c_17
        refine tot_oif (iv_oO h_T k_l0 (by decide) (by decide) rfl) ?_
        refine tot_ref1 e_n_11 ?_
        refine tot_oif (iv_aA h_T k_n_11 (by decide) (by decide) rfl rfl) ?_
        refine tot_oif (by rw [iv_len h_T k_n_11 (by decide) (by decide) (rfl : shp 41 = (100, 1000))]; exact i_inb (by omega) (by omega)) ?_
        refine tot_let (fun v_14 e_v_14 => ?_)
        have u_v_14 : v_14.toInt = v_12.toInt := by rw [e_v_14, e_v_12]
        have r_v_14 := i_any v_14
        refine tot_if (fun c_18 => ?_) (fun c_18 => ?_)
        · replace c_18 := i_le c_18
          refine tot_let (fun v_15 e_v_15 => ?_)
          have q_v_15 := i_add e_v_15 (by omega) (by omega)
          exact ih v_15 (by omega) (by omega)
        · replace c_18 := i_nle c_18
          exact hx1 l5 (by omega)
set_option maxHeartbeats 4000000 in
set_option maxRecDepth 10000 in
theorem cs_X9_runEnd {R : Nat → Nat} {B K1 K2 : Nat} (T : AT) (o : Nat) (a0 : Int32) (a1 : Int32) (a2 : Int32) (a3 : Int32) (h_T : IV R B K1 K2 T) (k_o : R o = 9) (g0 : 1 ≤ a0.toInt ∧ a0.toInt ≤ 1000) (g1 : 0 ≤ a1.toInt ∧ a1.toInt ≤ 999) (g2 : 48 ≤ a2.toInt ∧ a2.toInt ≤ 97) (g3 : 57 ≤ a3.toInt ∧ a3.toInt ≤ 122) : Tot (g_X9_runEnd T o a0 a1 a2 a3) (fun r => r.2 = T ∧ (0 ≤ r.1.toInt ∧ r.1.toInt ≤ 1000)) := by
  have cc_101 : cnt 101 = 1 := rfl
  have cc_102 : cnt 102 = 12 := rfl
  have cc_103 : cnt 103 = 144 := rfl
  have cc_104 : cnt 104 = 2400 := rfl
  have cc_105 : cnt 105 = 7200 := rfl
  have j_a0 := i_any a0
  have j_a1 := i_any a1
  have j_a2 := i_any a2
  have j_a3 := i_any a3
  unfold g_X9_runEnd
  refine cl_X9_runEnd_b3 T o a0 a2 a3 h_T k_o (by omega) (by omega) (by omega) ?_ ?_ 16384 a1 (by omega) (by omega)
  · intro _
    exact tot_some ⟨rfl, (show (0 ≤ a0.toInt ∧ a0.toInt ≤ 1000) from by omega)⟩
  · intro l_19 g_l_19
    unfold g_X9_runEnd_b32
    exact tot_some ⟨rfl, (show (0 ≤ l_19.toInt ∧ l_19.toInt ≤ 1000) from by omega)⟩
set_option maxHeartbeats 4000000 in
set_option maxRecDepth 10000 in
theorem cs_X9_add {R : Nat → Nat} {B K1 K2 : Nat} (T : AT) (o : Nat) (a0 : Int32) (a1 : Int32) (a2 : Int32) (h_T : IV R B K1 K2 T) (k_o : R o = 9) (g0 : 1 ≤ a0.toInt ∧ a0.toInt ≤ 6) (g1 : 0 ≤ a1.toInt ∧ a1.toInt ≤ 1000) (g2 : 0 ≤ a2.toInt ∧ a2.toInt ≤ 1000) : Tot (g_X9_add T o a0 a1 a2) (fun T1 => IV R B K1 K2 T1 ∧ FW R [293, 1344, 1376, 1408] T T1) := by
  have z0 : (1 : Int32).toInt = 1 := by decide
  have cc_101 : cnt 101 = 1 := rfl
  have cc_102 : cnt 102 = 12 := rfl
  have cc_103 : cnt 103 = 144 := rfl
  have cc_104 : cnt 104 = 2400 := rfl
  have cc_105 : cnt 105 = 7200 := rfl
  have x_T : FW R [293, 1344, 1376, 1408] T T := FW.rf
  have j_a0 := i_any a0
  have j_a1 := i_any a1
  have j_a2 := i_any a2
  unfold g_X9_add
  refine tot_oif (iv_oO h_T k_o (by decide) (by decide) rfl) ?_
  refine tot_let (fun v_1 e_v_1 => ?_)
  have q_v_1 := i_eq e_v_1
  have r_v_1 : 0 ≤ v_1.toInt ∧ v_1.toInt ≤ 1001 := iv_int h_T k_o (by decide) (by decide) e_v_1 rfl
  refine tot_oif (iv_oO h_T k_o (by decide) (by decide) rfl) ?_
  refine tot_ref h_T k_o (by decide) (by decide) (r2 := 42) (rfl : rtg 9 2 = 42) (by decide) (fun n_2 k_n_2 e_n_2 => ?_)
  refine tot_oif (iv_aA h_T k_n_2 (by decide) (by decide) rfl rfl) ?_
  refine tot_let (fun v_3 e_v_3 => ?_)
  have q_v_3 : v_3.toInt = 1001 := by rw [e_v_3, iv_len h_T k_n_2 (by decide) (by decide) (rfl : shp 42 = (100, 1001))]; decide
  refine tot_if (fun c_16 => ?_) (fun c_16 => ?_)
  · replace c_16 := i_le c_16
    unfold g_X9_add_b52
    exact tot_some ⟨h_T, x_T⟩
  · replace c_16 := i_nle c_16
    refine tot_oif (iv_oO h_T k_o (by decide) (by decide) rfl) ?_
    refine tot_ref1 e_n_2 ?_
    refine tot_oif (iv_oO h_T k_o (by decide) (by decide) rfl) ?_
    refine tot_let (fun v_5 e_v_5 => ?_)
    have u_v_5 : v_5.toInt = v_1.toInt := by rw [e_v_5, e_v_1]
    have q_v_5 := i_eq e_v_5
    have r_v_5 : 0 ≤ v_5.toInt ∧ v_5.toInt ≤ 1001 := iv_int h_T k_o (by decide) (by decide) e_v_5 rfl
    refine tot_oif (iv_aA h_T k_n_2 (by decide) (by decide) rfl rfl) ?_
    refine tot_oif (by rw [iv_len h_T k_n_2 (by decide) (by decide) (rfl : shp 42 = (100, 1001))]; exact i_inb (by omega) (by omega)) ?_
    refine tot_let (fun T_6 e_T_6 => ?_)
    have ja_T_6 := i_any a0
    have h_T_6 : IV R B K1 K2 T_6 := by rw [e_T_6]; exact iv_uI (a := -2147483648) (b := 2147483647) h_T k_n_2 (by decide) (by decide) rfl (by omega) (.inl rfl)
    have x_T_6 := x_T.tr (fw_uA e_T_6 k_n_2 rfl rfl (by decide))
    have f_T_6_o_5 : (T_6.2.2.1 o 5).toInt = (T.2.2.1 o 5).toInt := congrArg Int32.toInt ((fw_uA (W := [1344]) e_T_6 k_n_2 rfl rfl (by decide)) o 5 (by rw [k_o]; decide))
    refine tot_oif (iv_oO h_T_6 k_o (by decide) (by decide) rfl) ?_
    refine tot_ref h_T_6 k_o (by decide) (by decide) (r2 := 43) (rfl : rtg 9 3 = 43) (by decide) (fun n_7 k_n_7 e_n_7 => ?_)
    refine tot_oif (iv_oO h_T_6 k_o (by decide) (by decide) rfl) ?_
    refine tot_let (fun v_8 e_v_8 => ?_)
    have q_v_8 := i_eq e_v_8
    have r_v_8 : 0 ≤ v_8.toInt ∧ v_8.toInt ≤ 1001 := iv_int h_T_6 k_o (by decide) (by decide) e_v_8 rfl
    refine tot_oif (iv_aA h_T_6 k_n_7 (by decide) (by decide) rfl rfl) ?_
    refine tot_oif (by rw [iv_len h_T_6 k_n_7 (by decide) (by decide) (rfl : shp 43 = (100, 1001))]; exact i_inb (by omega) (by omega)) ?_
    refine tot_let (fun T_9 e_T_9 => ?_)
    have h_T_9 : IV R B K1 K2 T_9 := by rw [e_T_9]; exact iv_uI (a := 0) (b := 1000) h_T_6 k_n_7 (by decide) (by decide) rfl (by omega) (.inl rfl)
    have x_T_9 := x_T_6.tr (fw_uA e_T_9 k_n_7 rfl rfl (by decide))
    have f_T_9_o_5 : (T_9.2.2.1 o 5).toInt = (T_6.2.2.1 o 5).toInt := congrArg Int32.toInt ((fw_uA (W := [1376]) e_T_9 k_n_7 rfl rfl (by decide)) o 5 (by rw [k_o]; decide))
    refine tot_oif (iv_oO h_T_9 k_o (by decide) (by decide) rfl) ?_
    refine tot_ref h_T_9 k_o (by decide) (by decide) (r2 := 44) (rfl : rtg 9 4 = 44) (by decide) (fun n_10 k_n_10 e_n_10 => ?_)
    refine tot_oif (iv_oO h_T_9 k_o (by decide) (by decide) rfl) ?_
    refine tot_let (fun v_11 e_v_11 => ?_)
    have q_v_11 := i_eq e_v_11
    have r_v_11 : 0 ≤ v_11.toInt ∧ v_11.toInt ≤ 1001 := iv_int h_T_9 k_o (by decide) (by decide) e_v_11 rfl
    refine tot_oif (iv_aA h_T_9 k_n_10 (by decide) (by decide) rfl rfl) ?_
    refine tot_oif (by rw [iv_len h_T_9 k_n_10 (by decide) (by decide) (rfl : shp 44 = (100, 1001))]; exact i_inb (by omega) (by omega)) ?_
    refine tot_let (fun T_12 e_T_12 => ?_)
    have h_T_12 : IV R B K1 K2 T_12 := by rw [e_T_12]; exact iv_uI (a := 0) (b := 1000) h_T_9 k_n_10 (by decide) (by decide) rfl (by omega) (.inl rfl)
    have x_T_12 := x_T_9.tr (fw_uA e_T_12 k_n_10 rfl rfl (by decide))
    have f_T_12_o_5 : (T_12.2.2.1 o 5).toInt = (T_9.2.2.1 o 5).toInt := congrArg Int32.toInt ((fw_uA (W := [1408]) e_T_12 k_n_10 rfl rfl (by decide)) o 5 (by rw [k_o]; decide))
    refine tot_oif (iv_oO h_T_12 k_o (by decide) (by decide) rfl) ?_
    refine tot_let (fun v_13 e_v_13 => ?_)
    have q_v_13 := i_eq e_v_13
    have r_v_13 : 0 ≤ v_13.toInt ∧ v_13.toInt ≤ 1001 := iv_int h_T_12 k_o (by decide) (by decide) e_v_13 rfl
    refine tot_let (fun v_14 e_v_14 => ?_)
    have q_v_14 := i_add e_v_14 (by omega) (by omega)
    refine tot_oif (iv_oO h_T_12 k_o (by decide) (by decide) rfl) ?_
    refine tot_let (fun T_15 e_T_15 => ?_)
    have h_T_15 : IV R B K1 K2 T_15 := by rw [e_T_15]; exact iv_uI (a := 0) (b := 1001) h_T_12 k_o (by decide) (by decide) rfl (by omega) (.inl rfl)
    have x_T_15 := x_T_12.tr (fw_uI e_T_15 k_o (by decide))
    have f_T_15_o_5 : (T_15.2.2.1 o 5).toInt = (v_14 : Int32).toInt := by rw [e_T_15]; exact congrArg Int32.toInt (uI_at _ _ _ _)
    unfold g_X9_add_b52
    exact tot_some ⟨h_T_15, x_T_15⟩
set_option maxHeartbeats 4000000 in
set_option maxRecDepth 10000 in
theorem cs_X9_cutOne {R : Nat → Nat} {B K1 K2 : Nat} (T : AT) (o : Nat) (a0 : Int32) (a1 : Int32) (h_T : IV R B K1 K2 T) (k_o : R o = 9) (g0 : 1 ≤ a0.toInt ∧ a0.toInt ≤ 1000) (g1 : 0 ≤ a1.toInt ∧ a1.toInt ≤ 999) : Tot (g_X9_cutOne T o a0 a1) (fun r => (IV R B K1 K2 r.2 ∧ FW R [293, 1344, 1376, 1408] T r.2) ∧ (0 ≤ r.1.toInt ∧ r.1.toInt ≤ 1000)) := by
  have z0 : (1 : Int32).toInt = 1 := by decide
  have z1 : (97 : Int32).toInt = 97 := by decide
  have z2 : (48 : Int32).toInt = 48 := by decide
  have z3 : (45 : Int32).toInt = 45 := by decide
  have z4 : ((3 : Int32) : Int32).toInt = 3 := by decide
  have z5 : (59 : Int32).toInt = 59 := by decide
  have z6 : (32 : Int32).toInt = 32 := by decide
  have z7 : ((6 : Int32) : Int32).toInt = 6 := by decide
  have z8 : (57 : Int32).toInt = 57 := by decide
  have z9 : ((4 : Int32) : Int32).toInt = 4 := by decide
  have z10 : ((48 : Int32) : Int32).toInt = 48 := by decide
  have z11 : ((57 : Int32) : Int32).toInt = 57 := by decide
  have z12 : (4 : Int32).toInt = 4 := by decide
  have z13 : (6 : Int32).toInt = 6 := by decide
  have z14 : (2 : Int32).toInt = 2 := by decide
  have z15 : (122 : Int32).toInt = 122 := by decide
  have z16 : ((97 : Int32) : Int32).toInt = 97 := by decide
  have z17 : ((122 : Int32) : Int32).toInt = 122 := by decide
  have z18 : (8 : Int32).toInt = 8 := by decide
  have cc_101 : cnt 101 = 1 := rfl
  have cc_102 : cnt 102 = 12 := rfl
  have cc_103 : cnt 103 = 144 := rfl
  have cc_104 : cnt 104 = 2400 := rfl
  have cc_105 : cnt 105 = 7200 := rfl
  have x_T : FW R [293, 1344, 1376, 1408] T T := FW.rf
  have j_a0 := i_any a0
  have j_a1 := i_any a1
  unfold g_X9_cutOne
  refine tot_oif (iv_oO h_T k_o (by decide) (by decide) rfl) ?_
  refine tot_ref h_T k_o (by decide) (by decide) (r2 := 41) (rfl : rtg 9 0 = 41) (by decide) (fun n_1 k_n_1 e_n_1 => ?_)
  refine tot_oif (iv_aA h_T k_n_1 (by decide) (by decide) rfl rfl) ?_
  refine tot_oif (by rw [iv_len h_T k_n_1 (by decide) (by decide) (rfl : shp 41 = (100, 1000))]; exact i_inb (by omega) (by omega)) ?_
  refine tot_let (fun v_2 e_v_2 => ?_)
  have r_v_2 := i_any v_2
  refine tot_let (fun v_3 e_v_3 => ?_)
  have q_v_3 := i_add e_v_3 (by omega) (by omega)
  refine tot_if (fun c_7 => ?_) (fun c_7 => ?_)
  · replace c_7 := i_lt c_7
    unfold g_X9_cutOne_b61
    refine tot_if (fun c_11 => ?_) (fun c_11 => ?_)
    · replace c_11 := i_lt c_11
      unfold g_X9_cutOne_b109
      refine tot_if (fun c_15 => ?_) (fun c_15 => ?_)
      · replace c_15 := i_eq c_15
        refine tot_oif (iv_oO h_T k_o (by decide) (by decide) rfl) ?_
        refine tot_bind (cs_X9_add T o (3 : Int32) a1 v_3 h_T k_o (by omega) (by omega) (by omega)) (fun T_12 d_T_12 => ?_)
        have h_T_12 : IV R B K1 K2 T_12 := d_T_12.1
        have y_T_12 : FW R [293, 1344, 1376, 1408] T T_12 := d_T_12.2
        have x_T_12 := x_T.tr (y_T_12.w (by decide))
        unfold g_X9_cutOne_b158
        exact tot_some ⟨⟨h_T_12, x_T_12⟩, (show (0 ≤ v_3.toInt ∧ v_3.toInt ≤ 1000) from by omega)⟩
      · replace c_15 := i_ne c_15
        refine tot_if (fun c_16 => ?_) (fun c_16 => ?_)
        · replace c_16 := i_eq c_16
          exfalso
          omega
        · replace c_16 := i_ne c_16
          refine tot_if (fun c_17 => ?_) (fun c_17 => ?_)
          · replace c_17 := i_eq c_17
            unfold g_X9_cutOne_b158
            exact tot_some ⟨⟨h_T, x_T⟩, (show (0 ≤ v_3.toInt ∧ v_3.toInt ≤ 1000) from by omega)⟩
          · replace c_17 := i_ne c_17
            refine tot_oif (iv_oO h_T k_o (by decide) (by decide) rfl) ?_
            refine tot_bind (cs_X9_add T o (6 : Int32) a1 v_3 h_T k_o (by omega) (by omega) (by omega)) (fun T_14 d_T_14 => ?_)
            have h_T_14 : IV R B K1 K2 T_14 := d_T_14.1
            have y_T_14 : FW R [293, 1344, 1376, 1408] T T_14 := d_T_14.2
            have x_T_14 := x_T.tr (y_T_14.w (by decide))
            unfold g_X9_cutOne_b158
            exact tot_some ⟨⟨h_T_14, x_T_14⟩, (show (0 ≤ v_3.toInt ∧ v_3.toInt ≤ 1000) from by omega)⟩
    · replace c_11 := i_nlt c_11
      refine tot_if (fun c_18 => ?_) (fun c_18 => ?_)
      · replace c_18 := i_lt c_18
        unfold g_X9_cutOne_b109
        refine tot_if (fun c_22 => ?_) (fun c_22 => ?_)
        · replace c_22 := i_eq c_22
          exfalso
          omega
        · replace c_22 := i_ne c_22
          refine tot_if (fun c_23 => ?_) (fun c_23 => ?_)
          · replace c_23 := i_eq c_23
            refine tot_oif (iv_oO h_T k_o (by decide) (by decide) rfl) ?_
            refine tot_bind (cs_X9_add T o (4 : Int32) a1 v_3 h_T k_o (by omega) (by omega) (by omega)) (fun T_20 d_T_20 => ?_)
            have h_T_20 : IV R B K1 K2 T_20 := d_T_20.1
            have y_T_20 : FW R [293, 1344, 1376, 1408] T T_20 := d_T_20.2
            have x_T_20 := x_T.tr (y_T_20.w (by decide))
            unfold g_X9_cutOne_b158
            exact tot_some ⟨⟨h_T_20, x_T_20⟩, (show (0 ≤ v_3.toInt ∧ v_3.toInt ≤ 1000) from by omega)⟩
          · replace c_23 := i_ne c_23
            refine tot_if (fun c_24 => ?_) (fun c_24 => ?_)
            · replace c_24 := i_eq c_24
              exfalso
              omega
            · replace c_24 := i_ne c_24
              refine tot_oif (iv_oO h_T k_o (by decide) (by decide) rfl) ?_
              refine tot_bind (cs_X9_add T o (6 : Int32) a1 v_3 h_T k_o (by omega) (by omega) (by omega)) (fun T_21 d_T_21 => ?_)
              have h_T_21 : IV R B K1 K2 T_21 := d_T_21.1
              have y_T_21 : FW R [293, 1344, 1376, 1408] T T_21 := d_T_21.2
              have x_T_21 := x_T.tr (y_T_21.w (by decide))
              unfold g_X9_cutOne_b158
              exact tot_some ⟨⟨h_T_21, x_T_21⟩, (show (0 ≤ v_3.toInt ∧ v_3.toInt ≤ 1000) from by omega)⟩
      · replace c_18 := i_nlt c_18
        refine tot_oif (iv_oO h_T k_o (by decide) (by decide) rfl) ?_
        refine tot_bindq (R := fun r_8 : Int32 => (0 ≤ r_8.toInt ∧ r_8.toInt ≤ 1000)) (cs_X9_runEnd T o a0 a1 (48 : Int32) (57 : Int32) h_T k_o (by omega) (by omega) (by omega) (by omega)) (fun r_8 d_r_8 => ?_)
        replace d_r_8 : (0 ≤ r_8.toInt ∧ r_8.toInt ≤ 1000) := d_r_8
        refine tot_let (fun v_10 e_v_10 => ?_)
        have q_v_10 := i_sub e_v_10 (by omega) (by omega)
        refine tot_if (fun c_25 => ?_) (fun c_25 => ?_)
        · replace c_25 := i_lt c_25
          unfold g_X9_cutOne_b100
          refine tot_oif (iv_oO h_T k_o (by decide) (by decide) rfl) ?_
          refine tot_bind (cs_X9_add T o 6 a1 r_8 h_T k_o (by omega) (by omega) (by omega)) (fun T_26 d_T_26 => ?_)
          have h_T_26 : IV R B K1 K2 T_26 := d_T_26.1
          have y_T_26 : FW R [293, 1344, 1376, 1408] T T_26 := d_T_26.2
          have x_T_26 := x_T.tr (y_T_26.w (by decide))
          unfold g_X9_cutOne_b158
          exact tot_some ⟨⟨h_T_26, x_T_26⟩, (show (0 ≤ r_8.toInt ∧ r_8.toInt ≤ 1000) from by omega)⟩
        · replace c_25 := i_nlt c_25
          unfold g_X9_cutOne_b100
          refine tot_oif (iv_oO h_T k_o (by decide) (by decide) rfl) ?_
          refine tot_bind (cs_X9_add T o 2 a1 r_8 h_T k_o (by omega) (by omega) (by omega)) (fun T_27 d_T_27 => ?_)
          have h_T_27 : IV R B K1 K2 T_27 := d_T_27.1
          have y_T_27 : FW R [293, 1344, 1376, 1408] T T_27 := d_T_27.2
          have x_T_27 := x_T.tr (y_T_27.w (by decide))
          unfold g_X9_cutOne_b158
          exact tot_some ⟨⟨h_T_27, x_T_27⟩, (show (0 ≤ r_8.toInt ∧ r_8.toInt ≤ 1000) from by omega)⟩
  · replace c_7 := i_nlt c_7
    refine tot_if (fun c_28 => ?_) (fun c_28 => ?_)
    · replace c_28 := i_lt c_28
      unfold g_X9_cutOne_b61
      refine tot_if (fun c_32 => ?_) (fun c_32 => ?_)
      · replace c_32 := i_lt c_32
        exfalso
        omega
      · replace c_32 := i_nlt c_32
        refine tot_if (fun c_33 => ?_) (fun c_33 => ?_)
        · replace c_33 := i_lt c_33
          unfold g_X9_cutOne_b109
          refine tot_if (fun c_37 => ?_) (fun c_37 => ?_)
          · replace c_37 := i_eq c_37
            exfalso
            omega
          · replace c_37 := i_ne c_37
            refine tot_if (fun c_38 => ?_) (fun c_38 => ?_)
            · replace c_38 := i_eq c_38
              exfalso
              omega
            · replace c_38 := i_ne c_38
              refine tot_if (fun c_39 => ?_) (fun c_39 => ?_)
              · replace c_39 := i_eq c_39
                exfalso
                omega
              · replace c_39 := i_ne c_39
                refine tot_oif (iv_oO h_T k_o (by decide) (by decide) rfl) ?_
                refine tot_bind (cs_X9_add T o (6 : Int32) a1 v_3 h_T k_o (by omega) (by omega) (by omega)) (fun T_36 d_T_36 => ?_)
                have h_T_36 : IV R B K1 K2 T_36 := d_T_36.1
                have y_T_36 : FW R [293, 1344, 1376, 1408] T T_36 := d_T_36.2
                have x_T_36 := x_T.tr (y_T_36.w (by decide))
                unfold g_X9_cutOne_b158
                exact tot_some ⟨⟨h_T_36, x_T_36⟩, (show (0 ≤ v_3.toInt ∧ v_3.toInt ≤ 1000) from by omega)⟩
        · replace c_33 := i_nlt c_33
          exfalso
          omega
    · replace c_28 := i_nlt c_28
      refine tot_oif (iv_oO h_T k_o (by decide) (by decide) rfl) ?_
      refine tot_bindq (R := fun r_4 : Int32 => (0 ≤ r_4.toInt ∧ r_4.toInt ≤ 1000)) (cs_X9_runEnd T o a0 a1 (97 : Int32) (122 : Int32) h_T k_o (by omega) (by omega) (by omega) (by omega)) (fun r_4 d_r_4 => ?_)
      replace d_r_4 : (0 ≤ r_4.toInt ∧ r_4.toInt ≤ 1000) := d_r_4
      refine tot_let (fun v_6 e_v_6 => ?_)
      have q_v_6 := i_sub e_v_6 (by omega) (by omega)
      refine tot_if (fun c_40 => ?_) (fun c_40 => ?_)
      · replace c_40 := i_lt c_40
        unfold g_X9_cutOne_b52
        refine tot_oif (iv_oO h_T k_o (by decide) (by decide) rfl) ?_
        refine tot_bind (cs_X9_add T o 6 a1 r_4 h_T k_o (by omega) (by omega) (by omega)) (fun T_41 d_T_41 => ?_)
        have h_T_41 : IV R B K1 K2 T_41 := d_T_41.1
        have y_T_41 : FW R [293, 1344, 1376, 1408] T T_41 := d_T_41.2
        have x_T_41 := x_T.tr (y_T_41.w (by decide))
        unfold g_X9_cutOne_b158
        exact tot_some ⟨⟨h_T_41, x_T_41⟩, (show (0 ≤ r_4.toInt ∧ r_4.toInt ≤ 1000) from by omega)⟩
      · replace c_40 := i_nlt c_40
        unfold g_X9_cutOne_b52
        refine tot_oif (iv_oO h_T k_o (by decide) (by decide) rfl) ?_
        refine tot_bind (cs_X9_add T o 1 a1 r_4 h_T k_o (by omega) (by omega) (by omega)) (fun T_42 d_T_42 => ?_)
        have h_T_42 : IV R B K1 K2 T_42 := d_T_42.1
        have y_T_42 : FW R [293, 1344, 1376, 1408] T T_42 := d_T_42.2
        have x_T_42 := x_T.tr (y_T_42.w (by decide))
        unfold g_X9_cutOne_b158
        exact tot_some ⟨⟨h_T_42, x_T_42⟩, (show (0 ≤ r_4.toInt ∧ r_4.toInt ≤ 1000) from by omega)⟩
