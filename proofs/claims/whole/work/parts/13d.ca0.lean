set_option maxHeartbeats 4000000 in
set_option maxRecDepth 10000 in
theorem cs_X1_cells {R : Nat → Nat} {B K1 K2 : Nat} (T : AT) (o : Nat) (h_T : IV R B K1 K2 T) (k_o : R o = 1) : Tot (g_X1_cells T o) (fun r => r.2 = T ∧ (0 ≤ r.1.toInt ∧ r.1.toInt ≤ 144)) := by
  have cc_101 : cnt 101 = 1 := rfl
  have cc_102 : cnt 102 = 12 := rfl
  have cc_103 : cnt 103 = 144 := rfl
  have cc_104 : cnt 104 = 2400 := rfl
  have cc_105 : cnt 105 = 7200 := rfl
  unfold g_X1_cells
  refine tot_oif (iv_oO h_T k_o (by decide) (by decide) rfl) ?_
  refine tot_let (fun v_1 e_v_1 => ?_)
  have r_v_1 : 0 ≤ v_1.toInt ∧ v_1.toInt ≤ 12 := iv_int h_T k_o (by decide) (by decide) e_v_1 rfl
  refine tot_oif (iv_oO h_T k_o (by decide) (by decide) rfl) ?_
  refine tot_let (fun v_2 e_v_2 => ?_)
  have r_v_2 : 0 ≤ v_2.toInt ∧ v_2.toInt ≤ 12 := iv_int h_T k_o (by decide) (by decide) e_v_2 rfl
  refine tot_let (fun v_3 e_v_3 => ?_)
  have q_v_3 := i_mulp (a := 0) (b := 12) (c := 0) (d := 12) e_v_3 (by omega) (by omega) (by omega) (by omega) (by decide)
  exact tot_some ⟨rfl, (show (0 ≤ v_3.toInt ∧ v_3.toInt ≤ 144) from by omega)⟩
set_option maxHeartbeats 4000000 in
set_option maxRecDepth 10000 in
theorem cs_X0_rowStart (a0 : Int32) (g0 : 0 ≤ a0.toInt ∧ a0.toInt ≤ 49) : Tot (g_X0_rowStart a0) (fun r => (0 ≤ r.toInt ∧ r.toInt ≤ 7056)) := by
  have z0 : (144 : Int32).toInt = 144 := by decide
  have cc_101 : cnt 101 = 1 := rfl
  have cc_102 : cnt 102 = 12 := rfl
  have cc_103 : cnt 103 = 144 := rfl
  have cc_104 : cnt 104 = 2400 := rfl
  have cc_105 : cnt 105 = 7200 := rfl
  have j_a0 := i_any a0
  unfold g_X0_rowStart
  refine tot_let (fun v_1 e_v_1 => ?_)
  have q_v_1 := i_mulk2 e_v_1 z0 (by omega) (by omega)
  exact tot_some (show (0 ≤ v_1.toInt ∧ v_1.toInt ≤ 7056) from by omega)
set_option maxHeartbeats 4000000 in
set_option maxRecDepth 10000 in
theorem cl_X8_greatestDelay_b4 {R : Nat → Nat} {B K1 K2 : Nat} {Q : Int32 × AT → Prop} (T : AT) (l0 : Nat) (l1 : Nat) (h_T : IV R B K1 K2 T) (k_l0 : R l0 = 8) (k_l1 : R l1 = 50) (hx0 : ∀ (l2 : Int32), (0 ≤ l2.toInt ∧ l2.toInt ≤ 2147483647) → Tot (some (l2, T)) Q) : ∀ (n : Nat) (l2 : Int32) (l3 : Int32), (0 ≤ l2.toInt ∧ l2.toInt ≤ 2147483647) → (0 ≤ l3.toInt ∧ l3.toInt ≤ 12) → 12 - l3.toInt < (n : Int) → Tot (g_X8_greatestDelay_b4 n T l0 l1 l2 l3) Q := by
  have z0 : (0 : Int32).toInt = 0 := by decide
  have z1 : (Int32.ofInt (1) : Int32).toInt = 1 := by decide
  have cc_101 : cnt 101 = 1 := rfl
  have cc_102 : cnt 102 = 12 := rfl
  have cc_103 : cnt 103 = 144 := rfl
  have cc_104 : cnt 104 = 2400 := rfl
  have cc_105 : cnt 105 = 7200 := rfl
  intro n
  induction n with
  | zero =>
    intro l2 l3 g_l2 g_l3 hm
    exfalso
    omega
  | succ n ih =>
    intro l2 l3 g_l2 g_l3 hm
    unfold g_X8_greatestDelay_b4
    refine tot_oif (iv_oO h_T k_l0 (by decide) (by decide) rfl) ?_
    refine tot_let (fun v_15 e_v_15 => ?_)
    have r_v_15 : 0 ≤ v_15.toInt ∧ v_15.toInt ≤ 12 := iv_int h_T k_l0 (by decide) (by decide) e_v_15 rfl
    refine tot_if (fun c_20 => ?_) (fun c_20 => ?_)
    · replace c_20 := i_le c_20
      exact hx0 l2 (by omega)
    · replace c_20 := i_nle c_20
      refine tot_oif (iv_oO h_T k_l0 (by decide) (by decide) rfl) ?_
      refine tot_ref h_T k_l0 (by decide) (by decide) (r2 := 62) (rfl : rtg 8 3 = 62) (by decide) (fun n_16 k_n_16 e_n_16 => ?_)
      refine tot_oif (iv_aA h_T k_n_16 (by decide) (by decide) rfl rfl) ?_
      refine tot_oif (by rw [iv_len h_T k_n_16 (by decide) (by decide) (rfl : shp 62 = (102, 12))]; exact i_inb (by omega) (by omega)) ?_
      refine tot_let (fun v_17 e_v_17 => ?_)
      have r_v_17 : 0 ≤ v_17.toInt ∧ v_17.toInt ≤ 1 := iv_int h_T k_n_16 (by decide) (by decide) e_v_17 rfl
      refine tot_if (fun c_21 => ?_) (fun c_21 => ?_)
      · replace c_21 := i_eq c_21
        refine tot_oif (iv_aA h_T k_l1 (by decide) (by decide) rfl rfl) ?_
        refine tot_oif (by rw [iv_len h_T k_l1 (by decide) (by decide) (rfl : shp 50 = (100, 12))]; exact i_inb (by omega) (by omega)) ?_
        refine tot_let (fun v_18 e_v_18 => ?_)
        have r_v_18 := i_any v_18
        refine tot_let (fun v_19 e_v_19 => ?_)
        have q_v_19 := i_ilt e_v_19
        unfold g_X8_greatestDelay_b29
        refine tot_let (fun v_22 e_v_22 => ?_)
        have q_v_22 := i_add e_v_22 (by omega) (by omega)
        exact ih v_19 v_22 (by omega) (by omega) (by omega)
      · replace c_21 := i_ne c_21
        unfold g_X8_greatestDelay_b29
        refine tot_let (fun v_23 e_v_23 => ?_)
        have q_v_23 := i_add e_v_23 (by omega) (by omega)
        exact ih l2 v_23 (by omega) (by omega) (by omega)
set_option maxHeartbeats 4000000 in
set_option maxRecDepth 10000 in
theorem cs_X8_greatestDelay {R : Nat → Nat} {B K1 K2 : Nat} (T : AT) (o : Nat) (a0 : Nat) (h_T : IV R B K1 K2 T) (k_o : R o = 8) (k_a0 : R a0 = 50) : Tot (g_X8_greatestDelay T o a0) (fun r => r.2 = T ∧ (0 ≤ r.1.toInt ∧ r.1.toInt ≤ 2147483647)) := by
  have z0 : (0 : Int32).toInt = 0 := by decide
  have cc_101 : cnt 101 = 1 := rfl
  have cc_102 : cnt 102 = 12 := rfl
  have cc_103 : cnt 103 = 144 := rfl
  have cc_104 : cnt 104 = 2400 := rfl
  have cc_105 : cnt 105 = 7200 := rfl
  unfold g_X8_greatestDelay
  refine cl_X8_greatestDelay_b4 T o a0 h_T k_o k_a0 ?_ 16384 0 0 (by omega) (by omega) (by omega)
  · intro l_24 g_l_24
    exact tot_some ⟨rfl, (show (0 ≤ l_24.toInt ∧ l_24.toInt ≤ 2147483647) from by omega)⟩
set_option maxHeartbeats 4000000 in
set_option maxRecDepth 10000 in
theorem cs_X8_windowOf {R : Nat → Nat} {B K1 K2 : Nat} (T : AT) (o : Nat) (a0 : Nat) (h_T : IV R B K1 K2 T) (k_o : R o = 8) (k_a0 : R a0 = 50) : Tot (g_X8_windowOf T o a0) (fun r => r.2 = T ∧ (0 ≤ r.1.toInt ∧ r.1.toInt ≤ 200)) := by
  have z0 : (0 : Int32).toInt = 0 := by decide
  have cc_101 : cnt 101 = 1 := rfl
  have cc_102 : cnt 102 = 12 := rfl
  have cc_103 : cnt 103 = 144 := rfl
  have cc_104 : cnt 104 = 2400 := rfl
  have cc_105 : cnt 105 = 7200 := rfl
  unfold g_X8_windowOf
  refine tot_oif (iv_oO h_T k_o (by decide) (by decide) rfl) ?_
  refine tot_let (fun v_1 e_v_1 => ?_)
  have r_v_1 : 0 ≤ v_1.toInt ∧ v_1.toInt ≤ 200 := iv_int h_T k_o (by decide) (by decide) e_v_1 rfl
  refine tot_oif (iv_oO h_T k_o (by decide) (by decide) rfl) ?_
  refine tot_bindq (R := fun r_2 : Int32 => (0 ≤ r_2.toInt ∧ r_2.toInt ≤ 2147483647)) (cs_X8_greatestDelay T o a0 h_T k_o k_a0 ) (fun r_2 d_r_2 => ?_)
  replace d_r_2 : (0 ≤ r_2.toInt ∧ r_2.toInt ≤ 2147483647) := d_r_2
  refine tot_let (fun v_4 e_v_4 => ?_)
  have q_v_4 := i_sub e_v_4 (by omega) (by omega)
  refine tot_let (fun v_5 e_v_5 => ?_)
  have q_v_5 := i_ilt e_v_5
  exact tot_some ⟨rfl, (show (0 ≤ v_5.toInt ∧ v_5.toInt ≤ 200) from by omega)⟩
set_option maxHeartbeats 4000000 in
set_option maxRecDepth 10000 in
theorem cs_X8_placeOf (a0 : Int32) (a1 : Int32) (g0 : 0 ≤ a0.toInt ∧ a0.toInt ≤ 11) (g1 : 0 ≤ a1.toInt ∧ a1.toInt ≤ 199) : Tot (g_X8_placeOf a0 a1) (fun r => (0 ≤ r.toInt ∧ r.toInt ≤ 2399)) := by
  have z0 : (200 : Int32).toInt = 200 := by decide
  have cc_101 : cnt 101 = 1 := rfl
  have cc_102 : cnt 102 = 12 := rfl
  have cc_103 : cnt 103 = 144 := rfl
  have cc_104 : cnt 104 = 2400 := rfl
  have cc_105 : cnt 105 = 7200 := rfl
  have j_a0 := i_any a0
  have j_a1 := i_any a1
  unfold g_X8_placeOf
  refine tot_let (fun v_1 e_v_1 => ?_)
  have q_v_1 := i_mulk2 e_v_1 z0 (by omega) (by omega)
  refine tot_let (fun v_2 e_v_2 => ?_)
  have q_v_2 := i_add e_v_2 (by omega) (by omega)
  exact tot_some (show (0 ≤ v_2.toInt ∧ v_2.toInt ≤ 2399) from by omega)
set_option maxHeartbeats 4000000 in
set_option maxRecDepth 10000 in
theorem cl_X8_blockPowerOf_b23 {R : Nat → Nat} {B K1 K2 : Nat} {Q : AT → Prop} (l0 : Nat) (l1 : Nat) (l3 : Int32) (l4 : Nat) (l5 : Int32) (l6 : Int32) (T00 : AT) (k_l0 : R l0 = 8) (k_l1 : R l1 = 50) {r_l4 : Nat} (k_l4 : R l4 = r_l4) (w_l4 : isW r_l4 = true) (g0 : 0 ≤ l3.toInt ∧ l3.toInt ≤ 200) (g1 : 0 ≤ l5.toInt ∧ l5.toInt ≤ 7199) (g2 : 0 ≤ l6.toInt ∧ l6.toInt ≤ 200) (g3 : 0 ≤ l5.toInt ∧ l5.toInt < cnt r_l4) (hx0 : ∀ (T : AT), (IV R B K1 K2 T) → (FW R [3202] T00 T) → Tot (oif (oO T l4 10 = true) <| obind (g_X10_divide T l4 l5 l3) fun T_18 => g_X8_blockPowerOf_b68 T_18) Q) : ∀ (n : Nat) (T : AT) (l7 : Int32), (IV R B K1 K2 T) → (FW R [3202] T00 T) → (0 ≤ l7.toInt ∧ l7.toInt ≤ 9800) → 9800 - l7.toInt < (n : Int) → Tot (g_X8_blockPowerOf_b23 n T l0 l1 l3 l4 l5 l6 l7) Q := by
  have z0 : ((0 : Int32) : Int32).toInt = 0 := by decide
  have z1 : (Int32.ofInt (1) : Int32).toInt = 1 := by decide
  have cc_101 : cnt 101 = 1 := rfl
  have cc_102 : cnt 102 = 12 := rfl
  have cc_103 : cnt 103 = 144 := rfl
  have cc_104 : cnt 104 = 2400 := rfl
  have cc_105 : cnt 105 = 7200 := rfl
  have j_l3 := i_any l3
  have c7_l4 := (isW_f w_l4).2.2.2.1
  have j_l5 := i_any l5
  have j_l6 := i_any l6
  intro n
  induction n with
  | zero =>
    intro T l7 h_T x_T g_l7 hm
    exfalso
    omega
  | succ n ih =>
    intro T l7 h_T x_T g_l7 hm
    unfold g_X8_blockPowerOf_b23
    refine tot_if (fun c_20 => ?_) (fun c_20 => ?_)
    · replace c_20 := i_le c_20
      exact hx0 T h_T x_T
    · replace c_20 := i_nle c_20
      refine tot_oif (iv_oO h_T k_l0 (by decide) (by decide) rfl) ?_
      refine tot_bind (cs_X8_focus T l0 l1 l7 h_T k_l0 k_l1 ) (fun T_19 d_T_19 => ?_)
      have h_T_19 : IV R B K1 K2 T_19 := d_T_19.1
      have y_T_19 : FW R [3202] T T_19 := d_T_19.2
      have x_T_19 := x_T.tr (y_T_19.w (by decide))
      unfold g_X8_blockPowerOf_b37
      refine tot_oif (iv_oO h_T_19 k_l0 (by decide) (by decide) rfl) ?_
      refine tot_ref h_T_19 k_l0 (by decide) (by decide) (r2 := 101) (rfl : rtg 8 11 = 101) (by decide) (fun n_21 k_n_21 e_n_21 => ?_)
      refine tot_oif (iv_oO h_T_19 k_l0 (by decide) (by decide) rfl) ?_
      refine tot_ref1 e_n_21 ?_
      refine tot_oif (w_oO h_T_19 k_l4 w_l4) ?_
      refine tot_bind (c_addProduct (a0 := l5) (a2 := (0 : Int32)) (a4 := (0 : Int32)) k_l4 w_l4 k_n_21 (rfl : isW 101 = true) k_n_21 (rfl : isW 101 = true) h_T_19 (by omega) (by omega) (by omega)) (fun T_23 d_T_23 => ?_)
      have h_T_23 : IV R B K1 K2 T_23 := d_T_23.1
      have y_T_23 : FW R [3202] T_19 T_23 := (fw_wx d_T_23.2 k_l4 w_l4 (by decide))
      have x_T_23 := x_T_19.tr (y_T_23.w (by decide))
      unfold g_X8_blockPowerOf_b54
      refine tot_let (fun v_24 e_v_24 => ?_)
      have q_v_24 := i_add e_v_24 (by omega) (by omega)
      exact ih T_23 v_24 h_T_23 x_T_23 (by omega) (by omega)
set_option maxHeartbeats 4000000 in
set_option maxRecDepth 10000 in
theorem cs_X8_blockPowerOf {R : Nat → Nat} {B K1 K2 : Nat} (T : AT) (o : Nat) (a0 : Nat) (a1 : Int32) (a2 : Int32) (a3 : Nat) (a4 : Int32) (h_T : IV R B K1 K2 T) (k_o : R o = 8) (k_a0 : R a0 = 50) {r_a3 : Nat} (k_a3 : R a3 = r_a3) (w_a3 : isW r_a3 = true) (g0 : 0 ≤ a1.toInt ∧ a1.toInt ≤ 9800) (g1 : 0 ≤ a2.toInt ∧ a2.toInt ≤ 200) (g2 : 0 ≤ a4.toInt ∧ a4.toInt ≤ 7199) (g3 : 0 ≤ a4.toInt ∧ a4.toInt < cnt r_a3) : Tot (g_X8_blockPowerOf T o a0 a1 a2 a3 a4) (fun T1 => IV R B K1 K2 T1 ∧ FW R [3202] T T1) := by
  have cc_101 : cnt 101 = 1 := rfl
  have cc_102 : cnt 102 = 12 := rfl
  have cc_103 : cnt 103 = 144 := rfl
  have cc_104 : cnt 104 = 2400 := rfl
  have cc_105 : cnt 105 = 7200 := rfl
  have x_T : FW R [3202] T T := FW.rf
  have j_a1 := i_any a1
  have j_a2 := i_any a2
  have j_a4 := i_any a4
  have c7_a3 := (isW_f w_a3).2.2.2.1
  unfold g_X8_blockPowerOf
  refine tot_let (fun v_1 e_v_1 => ?_)
  have q_v_1 := i_add e_v_1 (by omega) (by omega)
  refine tot_oif (iv_oO h_T k_o (by decide) (by decide) rfl) ?_
  refine tot_bindq (R := fun r_2 : Int32 => (0 ≤ r_2.toInt ∧ r_2.toInt ≤ 200)) (cs_X8_windowOf T o a0 h_T k_o k_a0 ) (fun r_2 d_r_2 => ?_)
  replace d_r_2 : (0 ≤ r_2.toInt ∧ r_2.toInt ≤ 200) := d_r_2
  refine tot_let (fun v_4 e_v_4 => ?_)
  have q_v_4 := i_ilt e_v_4
  refine tot_oif (w_oO h_T k_a3 w_a3) ?_
  refine tot_bind (c_clear (a0 := a4) h_T k_a3 w_a3 (by omega)) (fun T_5 d_T_5 => ?_)
  have h_T_5 : IV R B K1 K2 T_5 := d_T_5.1
  have y_T_5 : FW R [3202] T T_5 := (fw_of d_T_5.2)
  have x_T_5 := x_T.tr (y_T_5.w (by decide))
  refine cl_X8_blockPowerOf_b23 o a0 a2 a3 a4 v_4 T k_o k_a0 k_a3 w_a3 (by omega) (by omega) (by omega) (by omega) ?_ 16384 T_5 a1 h_T_5 x_T_5 (by omega) (by omega)
  · intro T_25 h_T_25 x_T_25
    refine tot_oif (w_oO h_T_25 k_a3 w_a3) ?_
    refine tot_bind (c_divide (a0 := a4) (a1 := a2) k_a3 w_a3 h_T_25 (by omega)) (fun T_26 d_T_26 => ?_)
    have h_T_26 : IV R B K1 K2 T_26 := d_T_26.1
    have y_T_26 : FW R [3202] T_25 T_26 := (fw_wx d_T_26.2 k_a3 w_a3 (by decide))
    have x_T_26 := x_T_25.tr (y_T_26.w (by decide))
    unfold g_X8_blockPowerOf_b68
    exact tot_some ⟨h_T_26, x_T_26⟩
set_option maxHeartbeats 4000000 in
set_option maxRecDepth 10000 in
theorem cl_X0_measure_b3 {R : Nat → Nat} {B K1 K2 : Nat} {Q : AT → Prop} (l0 : Nat) (l1 : Nat) (l2 : Nat) (l3 : Int32) (l4 : Int32) (l5 : Int32) (T00 : AT) (k_l0 : R l0 = 20) (k_l1 : R l1 = 6) (k_l2 : R l2 = 8) (g0 : 0 ≤ l3.toInt ∧ l3.toInt ≤ 9800) (g1 : 1 ≤ l4.toInt ∧ l4.toInt ≤ 200) (g2 : 0 ≤ l5.toInt ∧ l5.toInt ≤ 49) (hx0 : ∀ (T : AT), (IV R B K1 K2 T) → (FW R [3202] T00 T) → Tot (some (T)) Q) : ∀ (n : Nat) (T : AT) (l6 : Int32), (IV R B K1 K2 T) → (FW R [3202] T00 T) → (0 ≤ l6.toInt ∧ l6.toInt ≤ 144) → 144 - l6.toInt < (n : Int) → Tot (g_X0_measure_b3 n T l0 l1 l2 l3 l4 l5 l6) Q := by
  have z0 : (Int32.ofInt (1) : Int32).toInt = 1 := by decide
  have cc_101 : cnt 101 = 1 := rfl
  have cc_102 : cnt 102 = 12 := rfl
  have cc_103 : cnt 103 = 144 := rfl
  have cc_104 : cnt 104 = 2400 := rfl
  have cc_105 : cnt 105 = 7200 := rfl
  have j_l3 := i_any l3
  have j_l4 := i_any l4
  have j_l5 := i_any l5
  intro n
  induction n with
  | zero =>
    intro T l6 h_T x_T g_l6 hm
    exfalso
    omega
  | succ n ih =>
    intro T l6 h_T x_T g_l6 hm
    unfold g_X0_measure_b3
    refine tot_oif (iv_oO h_T k_l1 (by decide) (by decide) rfl) ?_
    refine tot_ref h_T k_l1 (by decide) (by decide) (r2 := 1) (rfl : rtg 6 6 = 1) (by decide) (fun n_21 k_n_21 e_n_21 => ?_)
    refine tot_oif (iv_oO h_T k_n_21 (by decide) (by decide) rfl) ?_
    refine tot_bindq (R := fun r_22 : Int32 => (0 ≤ r_22.toInt ∧ r_22.toInt ≤ 144)) (cs_X1_cells T n_21 h_T k_n_21 ) (fun r_22 d_r_22 => ?_)
    replace d_r_22 : (0 ≤ r_22.toInt ∧ r_22.toInt ≤ 144) := d_r_22
    refine tot_if (fun c_30 => ?_) (fun c_30 => ?_)
    · replace c_30 := i_le c_30
      exact hx0 T h_T x_T
    · replace c_30 := i_nle c_30
      refine tot_oif (iv_oO h_T k_l1 (by decide) (by decide) rfl) ?_
      refine tot_ref h_T k_l1 (by decide) (by decide) (r2 := 51) (rfl : rtg 6 17 = 51) (by decide) (fun n_24 k_n_24 e_n_24 => ?_)
      refine tot_oif (iv_aA h_T k_n_24 (by decide) (by decide) rfl rfl) ?_
      refine tot_oif (by rw [iv_len h_T k_n_24 (by decide) (by decide) (rfl : shp 51 = (106, 144))]; exact i_inb (by omega) (by omega)) ?_
      refine tot_ref h_T k_n_24 (by decide) (by decide) (r2 := 50) (rt_51 (by omega) (by omega)) (by decide) (fun n_25 k_n_25 e_n_25 => ?_)
      refine tot_oif (iv_oO h_T k_l0 (by decide) (by decide) rfl) ?_
      refine tot_ref h_T k_l0 (by decide) (by decide) (r2 := 105) (rfl : rtg 20 0 = 105) (by decide) (fun n_26 k_n_26 e_n_26 => ?_)
      refine tot_bind (cs_X0_rowStart l5 (by omega)) (fun r_27 d_r_27 => ?_)
      replace d_r_27 : (0 ≤ r_27.toInt ∧ r_27.toInt ≤ 7056) := d_r_27
      refine tot_let (fun v_28 e_v_28 => ?_)
      have q_v_28 := i_add e_v_28 (by omega) (by omega)
      refine tot_oif (iv_oO h_T k_l2 (by decide) (by decide) rfl) ?_
      refine tot_bind (cs_X8_blockPowerOf T l2 n_25 l3 l4 n_26 v_28 h_T k_l2 k_n_25 k_n_26 (rfl : isW 105 = true) (by omega) (by omega) (by omega) (by omega)) (fun T_29 d_T_29 => ?_)
      have h_T_29 : IV R B K1 K2 T_29 := d_T_29.1
      have y_T_29 : FW R [3202] T T_29 := d_T_29.2
      have x_T_29 := x_T.tr (y_T_29.w (by decide))
      unfold g_X0_measure_b41
      refine tot_let (fun v_31 e_v_31 => ?_)
      have q_v_31 := i_add e_v_31 (by omega) (by omega)
      exact ih T_29 v_31 h_T_29 x_T_29 (by omega) (by omega)
set_option maxHeartbeats 4000000 in
set_option maxRecDepth 10000 in
theorem cs_X0_measure {R : Nat → Nat} {B K1 K2 : Nat} (T : AT) (o : Nat) (a0 : Nat) (a1 : Nat) (a2 : Int32) (a3 : Int32) (a4 : Int32) (h_T : IV R B K1 K2 T) (k_o : R o = 20) (k_a0 : R a0 = 6) (k_a1 : R a1 = 8) (g0 : 0 ≤ a2.toInt ∧ a2.toInt ≤ 9800) (g1 : 1 ≤ a3.toInt ∧ a3.toInt ≤ 200) (g2 : 0 ≤ a4.toInt ∧ a4.toInt ≤ 49) : Tot (g_X0_measure T o a0 a1 a2 a3 a4) (fun T1 => IV R B K1 K2 T1 ∧ FW R [3202] T T1) := by
  have z0 : (0 : Int32).toInt = 0 := by decide
  have cc_101 : cnt 101 = 1 := rfl
  have cc_102 : cnt 102 = 12 := rfl
  have cc_103 : cnt 103 = 144 := rfl
  have cc_104 : cnt 104 = 2400 := rfl
  have cc_105 : cnt 105 = 7200 := rfl
  have x_T : FW R [3202] T T := FW.rf
  have j_a2 := i_any a2
  have j_a3 := i_any a3
  have j_a4 := i_any a4
  unfold g_X0_measure
  refine cl_X0_measure_b3 o a0 a1 a2 a3 a4 T k_o k_a0 k_a1 (by omega) (by omega) (by omega) ?_ 16384 T 0 h_T x_T (by omega) (by omega)
  · intro T_32 h_T_32 x_T_32
    exact tot_some ⟨h_T_32, x_T_32⟩
set_option maxHeartbeats 4000000 in
set_option maxRecDepth 10000 in
theorem cs_X0_bestOf {R : Nat → Nat} {B K1 K2 : Nat} (T : AT) (o : Nat) (a0 : Nat) (a1 : Nat) (a2 : Int32) (a3 : Int32) (h_T : IV R B K1 K2 T) (k_o : R o = 20) (k_a0 : R a0 = 6) (k_a1 : R a1 = 8) (g0 : 0 ≤ a2.toInt ∧ a2.toInt ≤ 199) (g1 : 1 ≤ a3.toInt ∧ a3.toInt ≤ 200) : Tot (g_X0_bestOf T o a0 a1 a2 a3) (fun r => (IV R B K1 K2 r.2 ∧ FW R [3202] T r.2) ∧ (0 ≤ r.1.toInt ∧ r.1.toInt ≤ 143)) := by
  have z0 : ((0 : Int32) : Int32).toInt = 0 := by decide
  have cc_101 : cnt 101 = 1 := rfl
  have cc_102 : cnt 102 = 12 := rfl
  have cc_103 : cnt 103 = 144 := rfl
  have cc_104 : cnt 104 = 2400 := rfl
  have cc_105 : cnt 105 = 7200 := rfl
  have x_T : FW R [3202] T T := FW.rf
  have j_a2 := i_any a2
  have j_a3 := i_any a3
  unfold g_X0_bestOf
  refine tot_oif (iv_oO h_T k_o (by decide) (by decide) rfl) ?_
  refine tot_ref h_T k_o (by decide) (by decide) (r2 := 105) (rfl : rtg 20 0 = 105) (by decide) (fun n_1 k_n_1 e_n_1 => ?_)
  refine tot_oif (w_oO h_T k_n_1 (rfl : isW 105 = true)) ?_
  refine tot_bind (c_narrow h_T k_n_1 (rfl : isW 105 = true)) (fun T_2 d_T_2 => ?_)
  have h_T_2 : IV R B K1 K2 T_2 := d_T_2.1
  have y_T_2 : FW R [3202] T T_2 := d_T_2.2.2
  have x_T_2 := x_T.tr (y_T_2.w (by decide))
  refine tot_oif (iv_oO h_T_2 k_o (by decide) (by decide) rfl) ?_
  refine tot_bind (cs_X0_measure T_2 o a0 a1 a2 a3 (0 : Int32) h_T_2 k_o k_a0 k_a1 (by omega) (by omega) (by omega)) (fun T_3 d_T_3 => ?_)
  have h_T_3 : IV R B K1 K2 T_3 := d_T_3.1
  have y_T_3 : FW R [3202] T_2 T_3 := d_T_3.2
  have x_T_3 := x_T_2.tr (y_T_3.w (by decide))
  unfold g_X0_bestOf_b17
  refine tot_oif (iv_oO h_T_3 k_a0 (by decide) (by decide) rfl) ?_
  refine tot_ref h_T_3 k_a0 (by decide) (by decide) (r2 := 1) (rfl : rtg 6 6 = 1) (by decide) (fun n_4 k_n_4 e_n_4 => ?_)
  refine tot_oif (iv_oO h_T_3 k_a0 (by decide) (by decide) rfl) ?_
  refine tot_ref1 e_n_4 ?_
  refine tot_oif (iv_oO h_T_3 k_n_4 (by decide) (by decide) rfl) ?_
  refine tot_ref h_T_3 k_n_4 (by decide) (by decide) (r2 := 59) (rfl : rtg 1 5 = 59) (by decide) (fun n_6 k_n_6 e_n_6 => ?_)
  refine tot_oif (iv_oO h_T_3 k_o (by decide) (by decide) rfl) ?_
  refine tot_ref h_T_3 k_o (by decide) (by decide) (r2 := 105) (rfl : rtg 20 0 = 105) (by decide) (fun n_7 k_n_7 e_n_7 => ?_)
  refine tot_oif (iv_oO h_T_3 k_n_4 (by decide) (by decide) rfl) ?_
  refine tot_bindq (R := fun r_8 : Int32 => (0 ≤ r_8.toInt ∧ r_8.toInt ≤ 143)) (cs_X1_bestIn59 T_3 n_4 n_6 n_7 (0 : Int32) h_T_3 k_n_4 k_n_6 k_n_7 (rfl : isW 105 = true) (by omega)) (fun r_8 d_r_8 => ?_)
  replace d_r_8 : (0 ≤ r_8.toInt ∧ r_8.toInt ≤ 143) := d_r_8
  exact tot_some ⟨⟨h_T_3, x_T_3⟩, (show (0 ≤ r_8.toInt ∧ r_8.toInt ≤ 143) from by omega)⟩
set_option maxHeartbeats 4000000 in
set_option maxRecDepth 10000 in
theorem cs_X1_columnOf {R : Nat → Nat} {B K1 K2 : Nat} (T : AT) (o : Nat) (a0 : Int32) (h_T : IV R B K1 K2 T) (k_o : R o = 1) (g0 : 0 ≤ a0.toInt ∧ a0.toInt ≤ 143) : Tot (g_X1_columnOf T o a0) (fun r => r.2 = T ∧ (0 ≤ r.1.toInt ∧ r.1.toInt ≤ 11)) := by
  have cc_101 : cnt 101 = 1 := rfl
  have cc_102 : cnt 102 = 12 := rfl
  have cc_103 : cnt 103 = 144 := rfl
  have cc_104 : cnt 104 = 2400 := rfl
  have cc_105 : cnt 105 = 7200 := rfl
  have j_a0 := i_any a0
  unfold g_X1_columnOf
  refine tot_oif (iv_oO h_T k_o (by decide) (by decide) rfl) ?_
  refine tot_let (fun v_1 e_v_1 => ?_)
  have r_v_1 : 0 ≤ v_1.toInt ∧ v_1.toInt ≤ 12 := iv_int h_T k_o (by decide) (by decide) e_v_1 rfl
  refine tot_bind (cs_X11_remainder a0 v_1 ) (fun r_2 d_r_2 => ?_)
  replace d_r_2 : ((0 ≤ a0.toInt ∧ 0 ≤ v_1.toInt → 0 ≤ r_2.toInt ∧ r_2.toInt ≤ a0.toInt) ∧ (1 ≤ v_1.toInt → -v_1.toInt < r_2.toInt ∧ r_2.toInt < v_1.toInt) ∧ (v_1.toInt = 0 → r_2.toInt = 0)) := d_r_2
  exact tot_some ⟨rfl, (show (0 ≤ r_2.toInt ∧ r_2.toInt ≤ 11) from by omega)⟩
set_option maxHeartbeats 4000000 in
set_option maxRecDepth 10000 in
theorem cs_X1_rowOf {R : Nat → Nat} {B K1 K2 : Nat} (T : AT) (o : Nat) (a0 : Int32) (h_T : IV R B K1 K2 T) (k_o : R o = 1) (g0 : 0 ≤ a0.toInt ∧ a0.toInt ≤ 143) : Tot (g_X1_rowOf T o a0) (fun r => r.2 = T ∧ (0 ≤ r.1.toInt ∧ r.1.toInt ≤ 143)) := by
  have cc_101 : cnt 101 = 1 := rfl
  have cc_102 : cnt 102 = 12 := rfl
  have cc_103 : cnt 103 = 144 := rfl
  have cc_104 : cnt 104 = 2400 := rfl
  have cc_105 : cnt 105 = 7200 := rfl
  have j_a0 := i_any a0
  unfold g_X1_rowOf
  refine tot_let (fun v_1 e_v_1 => ?_)
  refine tot_oif (iv_oO h_T k_o (by decide) (by decide) rfl) ?_
  refine tot_let (fun v_2 e_v_2 => ?_)
  have r_v_2 : 0 ≤ v_2.toInt ∧ v_2.toInt ≤ 12 := iv_int h_T k_o (by decide) (by decide) e_v_2 rfl
  refine tot_let (fun v_3 e_v_3 => ?_)
  refine tot_bind (cs_X11_quotient v_1 v_3) (fun r_4 d_r_4 => ?_)
  refine tot_let (fun v_5 e_v_5 => ?_)
  have q_v_5 : 0 ≤ v_5.toInt ∧ v_5.toInt ≤ a0.toInt := by rw [e_v_5]; exact d_r_4 _ _ e_v_1 e_v_3 (by omega) (by omega)
  exact tot_some ⟨rfl, (show (0 ≤ v_5.toInt ∧ v_5.toInt ≤ 143) from by omega)⟩
set_option maxHeartbeats 4000000 in
set_option maxRecDepth 10000 in
theorem cl_X0_score_b52 {R : Nat → Nat} {B K1 K2 : Nat} {Q : AT → Prop} {k31 : AT → Nat → Nat → Nat → Int32 → Int32 → Int32 → Option (AT)} (l0 : Nat) (l1 : Nat) (l2 : Nat) (l3 : Int32) (l4 : Int32) (l5 : Int32) (T00 : AT) (k_l0 : R l0 = 20) (k_l1 : R l1 = 6) (k_l2 : R l2 = 8) (g0 : 4 ≤ l3.toInt ∧ l3.toInt ≤ 200) (g1 : 0 ≤ l4.toInt ∧ l4.toInt ≤ 50) (g2 : 0 ≤ l5.toInt ∧ l5.toInt ≤ 49) (hx0 : ∀ (T : AT), (IV R B K1 K2 T) → (FW R [1952, 3202] T00 T) → Tot (g_X0_score_b137 k31 T l0 l1 l2 l3 l4 l5) Q) : ∀ (n : Nat) (T : AT) (l6 : Int32), (IV R B K1 K2 T) → (FW R [1952, 3202] T00 T) → (0 ≤ l6.toInt ∧ l6.toInt ≤ 144) → 144 - l6.toInt < (n : Int) → Tot (g_X0_score_b52 k31 n T l0 l1 l2 l3 l4 l5 l6) Q := by
  have z0 : (1 : Int32).toInt = 1 := by decide
  have z1 : ((1 : Int32) : Int32).toInt = 1 := by decide
  have z2 : (Int32.ofInt (1) : Int32).toInt = 1 := by decide
  have cc_101 : cnt 101 = 1 := rfl
  have cc_102 : cnt 102 = 12 := rfl
  have cc_103 : cnt 103 = 144 := rfl
  have cc_104 : cnt 104 = 2400 := rfl
  have cc_105 : cnt 105 = 7200 := rfl
  have j_l3 := i_any l3
  have j_l4 := i_any l4
  have j_l5 := i_any l5
  intro n
  induction n with
  | zero =>
    intro T l6 h_T x_T g_l6 hm
    exfalso
    omega
  | succ n ih =>
    intro T l6 h_T x_T g_l6 hm
    unfold g_X0_score_b52
    refine tot_oif (iv_oO h_T k_l1 (by decide) (by decide) rfl) ?_
    refine tot_ref h_T k_l1 (by decide) (by decide) (r2 := 1) (rfl : rtg 6 6 = 1) (by decide) (fun n_109 k_n_109 e_n_109 => ?_)
    refine tot_oif (iv_oO h_T k_n_109 (by decide) (by decide) rfl) ?_
    refine tot_bindq (R := fun r_110 : Int32 => (0 ≤ r_110.toInt ∧ r_110.toInt ≤ 144)) (cs_X1_cells T n_109 h_T k_n_109 ) (fun r_110 d_r_110 => ?_)
    replace d_r_110 : (0 ≤ r_110.toInt ∧ r_110.toInt ≤ 144) := d_r_110
    refine tot_if (fun c_128 => ?_) (fun c_128 => ?_)
    · replace c_128 := i_le c_128
      exact hx0 T h_T x_T
    · replace c_128 := i_nle c_128
      refine tot_let (fun v_112 e_v_112 => ?_)
      have q_v_112 := i_add e_v_112 (by omega) (by omega)
      refine tot_if (fun c_129 => ?_) (fun c_129 => ?_)
      · replace c_129 := i_le c_129
        exact hx0 T h_T x_T
      · replace c_129 := i_nle c_129
        refine tot_let (fun v_113 e_v_113 => ?_)
        have q_v_113 := i_add e_v_113 (by omega) (by omega)
        refine tot_bind (cs_X0_rowStart v_113 (by omega)) (fun r_114 d_r_114 => ?_)
        replace d_r_114 : (0 ≤ r_114.toInt ∧ r_114.toInt ≤ 7056) := d_r_114
        refine tot_oif (iv_oO h_T k_l1 (by decide) (by decide) rfl) ?_
        refine tot_ref1 e_n_109 ?_
        refine tot_oif (iv_oO h_T k_l1 (by decide) (by decide) rfl) ?_
        refine tot_ref1 e_n_109 ?_
        refine tot_oif (iv_oO h_T k_n_109 (by decide) (by decide) rfl) ?_
        refine tot_bind2 (cs_X1_areaAround T n_109 l6 h_T k_n_109 (by omega)) (fun n_117 T_118 d_n_117 => ?_)
        have h_T_118 : IV R B K1 K2 T_118 := d_n_117.1.1
        have y_T_118 : FW R [1952] T T_118 := d_n_117.1.2
        have x_T_118 := x_T.tr (y_T_118.w (by decide))
        have k_n_117 : R n_117 = 61 := d_n_117.2.1
        have ao_n_117 : AO n_109 T_118 n_117 := d_n_117.2.2
        refine tot_oif (Nat.ble_eq_true_of_le (iv_lt h_T_118 (iv_sta h_T_118 k_n_117 (by decide) (by decide)))) ?_
        refine tot_oif (iv_oO h_T_118 k_l0 (by decide) (by decide) rfl) ?_
        refine tot_ref h_T_118 k_l0 (by decide) (by decide) (r2 := 105) (rfl : rtg 20 0 = 105) (by decide) (fun n_119 k_n_119 e_n_119 => ?_)
        refine tot_oif (iv_oO h_T_118 k_n_109 (by decide) (by decide) rfl) ?_
        refine tot_bindq (R := fun r_120 : Int32 => (0 ≤ r_120.toInt ∧ r_120.toInt ≤ 143)) (cs_X1_bestIn61 T_118 n_109 n_117 n_119 r_114 h_T_118 k_n_109 k_n_117 k_n_119 (rfl : isW 105 = true) ao_n_117 (by omega)) (fun r_120 d_r_120 => ?_)
        replace d_r_120 : (0 ≤ r_120.toInt ∧ r_120.toInt ≤ 143) := d_r_120
        refine tot_oif (iv_oO h_T_118 k_l0 (by decide) (by decide) rfl) ?_
        refine tot_ref1 e_n_119 ?_
        refine tot_bind (cs_X0_rowStart l5 (by omega)) (fun r_123 d_r_123 => ?_)
        replace d_r_123 : (0 ≤ r_123.toInt ∧ r_123.toInt ≤ 7056) := d_r_123
        refine tot_let (fun v_124 e_v_124 => ?_)
        have q_v_124 := i_add e_v_124 (by omega) (by omega)
        refine tot_oif (iv_oO h_T_118 k_l0 (by decide) (by decide) rfl) ?_
        refine tot_ref1 e_n_119 ?_
        refine tot_let (fun v_126 e_v_126 => ?_)
        have q_v_126 := i_add e_v_126 (by omega) (by omega)
        refine tot_oif (w_oO h_T_118 k_n_119 (rfl : isW 105 = true)) ?_
        refine tot_bind (c_add (a0 := v_124) (a2 := v_126) (a3 := (1 : Int32)) k_n_119 (rfl : isW 105 = true) k_n_119 (rfl : isW 105 = true) h_T_118 (by omega) (by omega)) (fun T_127 d_T_127 => ?_)
        have h_T_127 : IV R B K1 K2 T_127 := d_T_127.1
        have y_T_127 : FW R [3202] T_118 T_127 := (fw_wx d_T_127.2 k_n_119 (rfl : isW 105 = true) (by decide))
        have x_T_127 := x_T_118.tr (y_T_127.w (by decide))
        unfold g_X0_score_b131
        refine tot_let (fun v_130 e_v_130 => ?_)
        have q_v_130 := i_add e_v_130 (by omega) (by omega)
        exact ih T_127 v_130 h_T_127 x_T_127 (by omega) (by omega)
set_option maxHeartbeats 4000000 in
set_option maxRecDepth 10000 in
theorem cl_X0_score_b31 {R : Nat → Nat} {B K1 K2 : Nat} {Q : AT → Prop} (l0 : Nat) (l1 : Nat) (l2 : Nat) (l3 : Int32) (l4 : Int32) (T00 : AT) (k_l0 : R l0 = 20) (k_l1 : R l1 = 6) (k_l2 : R l2 = 8) (g0 : 4 ≤ l3.toInt ∧ l3.toInt ≤ 200) (g1 : 0 ≤ l4.toInt ∧ l4.toInt ≤ 50) (hx0 : ∀ (T : AT), (IV R B K1 K2 T) → (FW R [1952, 3202] T00 T) → Tot (some (T)) Q) : ∀ (n : Nat) (T : AT) (l5 : Int32), (IV R B K1 K2 T) → (FW R [1952, 3202] T00 T) → (-1 ≤ l5.toInt ∧ l5.toInt ≤ 49) → l5.toInt - (-1) < (n : Int) → Tot (g_X0_score_b31 n T l0 l1 l2 l3 l4 l5) Q := by
  have z0 : (0 : Int32).toInt = 0 := by decide
  have z1 : (Int32.ofInt (-1) : Int32).toInt = -1 := by decide
  have cc_101 : cnt 101 = 1 := rfl
  have cc_102 : cnt 102 = 12 := rfl
  have cc_103 : cnt 103 = 144 := rfl
  have cc_104 : cnt 104 = 2400 := rfl
  have cc_105 : cnt 105 = 7200 := rfl
  have j_l3 := i_any l3
  have j_l4 := i_any l4
  intro n
  induction n with
  | zero =>
    intro T l5 h_T x_T g_l5 hm
    exfalso
    omega
  | succ n ih =>
    intro T l5 h_T x_T g_l5 hm
    unfold g_X0_score_b31
    refine tot_if (fun c_86 => ?_) (fun c_86 => ?_)
    · replace c_86 := i_lt c_86
      exact hx0 T h_T x_T
    · replace c_86 := i_nlt c_86
      refine tot_let (fun v_84 e_v_84 => ?_)
      have q_v_84 := i_mulp (a := 0) (b := 49) (c := 4) (d := 200) e_v_84 (by omega) (by omega) (by omega) (by omega) (by decide)
      refine tot_oif (iv_oO h_T k_l0 (by decide) (by decide) rfl) ?_
      refine tot_bind (cs_X0_measure T l0 l1 l2 v_84 l3 l5 h_T k_l0 k_l1 k_l2 (by omega) (by omega) (by omega)) (fun T_85 d_T_85 => ?_)
      have h_T_85 : IV R B K1 K2 T_85 := d_T_85.1
      have y_T_85 : FW R [3202] T T_85 := d_T_85.2
      have x_T_85 := x_T.tr (y_T_85.w (by decide))
      unfold g_X0_score_b49
      refine cl_X0_score_b52 l0 l1 l2 l3 l4 l5 T00 k_l0 k_l1 k_l2 (by omega) (by omega) (by omega) ?_ 16384 T_85 0 h_T_85 x_T_85 (by omega) (by omega)
      · intro T_131 h_T_131 x_T_131
        unfold g_X0_score_b137
        refine tot_let (fun v_132 e_v_132 => ?_)
        have q_v_132 := i_add e_v_132 (by omega) (by omega)
        exact ih T_131 v_132 h_T_131 x_T_131 (by omega) (by omega)
set_option maxHeartbeats 4000000 in
set_option maxRecDepth 10000 in
theorem cs_X0_score {R : Nat → Nat} {B K1 K2 : Nat} (T : AT) (o : Nat) (a0 : Nat) (a1 : Nat) (a2 : Int32) (h_T : IV R B K1 K2 T) (k_o : R o = 20) (k_a0 : R a0 = 6) (k_a1 : R a1 = 8) (g0 : 4 ≤ a2.toInt ∧ a2.toInt ≤ 200) : Tot (g_X0_score T o a0 a1 a2) (fun T1 => IV R B K1 K2 T1 ∧ FW R [1952, 3202] T T1) := by
  have z0 : (50 : Int32).toInt = 50 := by decide
  have z1 : (1 : Int32).toInt = 1 := by decide
  have cc_101 : cnt 101 = 1 := rfl
  have cc_102 : cnt 102 = 12 := rfl
  have cc_103 : cnt 103 = 144 := rfl
  have cc_104 : cnt 104 = 2400 := rfl
  have cc_105 : cnt 105 = 7200 := rfl
  have x_T : FW R [1952, 3202] T T := FW.rf
  have j_a2 := i_any a2
  unfold g_X0_score
  refine tot_oif (iv_oO h_T k_a0 (by decide) (by decide) rfl) ?_
  refine tot_let (fun v_1 e_v_1 => ?_)
  have r_v_1 : 0 ≤ v_1.toInt ∧ v_1.toInt ≤ 200 := iv_int h_T k_a0 (by decide) (by decide) e_v_1 rfl
  refine tot_let (fun v_2 e_v_2 => ?_)
  refine tot_let (fun v_3 e_v_3 => ?_)
  refine tot_bind (cs_X11_quotient v_2 v_3) (fun r_4 d_r_4 => ?_)
  refine tot_let (fun v_5 e_v_5 => ?_)
  have q_v_5 : 0 ≤ v_5.toInt ∧ v_5.toInt ≤ v_1.toInt := by rw [e_v_5]; exact d_r_4 _ _ e_v_2 e_v_3 (by omega) (by omega)
  refine tot_let (fun v_6 e_v_6 => ?_)
  have q_v_6 := i_ilt e_v_6
  refine tot_oif (iv_oO h_T k_o (by decide) (by decide) rfl) ?_
  refine tot_ref h_T k_o (by decide) (by decide) (r2 := 105) (rfl : rtg 20 0 = 105) (by decide) (fun n_7 k_n_7 e_n_7 => ?_)
  refine tot_oif (w_oO h_T k_n_7 (rfl : isW 105 = true)) ?_
  refine tot_bind (c_narrow h_T k_n_7 (rfl : isW 105 = true)) (fun T_8 d_T_8 => ?_)
  have h_T_8 : IV R B K1 K2 T_8 := d_T_8.1
  have y_T_8 : FW R [3202] T T_8 := d_T_8.2.2
  have x_T_8 := x_T.tr (y_T_8.w (by decide))
  refine tot_let (fun v_9 e_v_9 => ?_)
  have q_v_9 := i_sub e_v_9 (by omega) (by omega)
  refine cl_X0_score_b31 o a0 a1 a2 v_6 T k_o k_a0 k_a1 (by omega) (by omega) ?_ 16384 T_8 v_9 h_T_8 x_T_8 (by omega) (by omega)
  · intro T_133 h_T_133 x_T_133
    exact tot_some ⟨h_T_133, x_T_133⟩
set_option maxHeartbeats 4000000 in
set_option maxRecDepth 10000 in
theorem cl_X0_trackCellIn_b17 {R : Nat → Nat} {B K1 K2 : Nat} {Q : Int32 × AT → Prop} (l0 : Nat) (l1 : Nat) (l2 : Int32) (T00 : AT) (k_l0 : R l0 = 20) (k_l1 : R l1 = 1) (hx0 : ∀ (T : AT) (l3 : Int32), (IV R B K1 K2 T) → (FW R [1952] T00 T) → (0 ≤ l3.toInt ∧ l3.toInt ≤ 143) → Tot (g_X0_trackCellIn_b55 T l3) Q) : ∀ (n : Nat) (T : AT) (l3 : Int32) (l4 : Int32), (IV R B K1 K2 T) → (FW R [1952] T00 T) → (0 ≤ l3.toInt ∧ l3.toInt ≤ 143) → (1 ≤ l4.toInt ∧ l4.toInt ≤ 50) → 50 - l4.toInt < (n : Int) → Tot (g_X0_trackCellIn_b17 n T l0 l1 l2 l3 l4) Q := by
  have z0 : (50 : Int32).toInt = 50 := by decide
  have z1 : (Int32.ofInt (1) : Int32).toInt = 1 := by decide
  have cc_101 : cnt 101 = 1 := rfl
  have cc_102 : cnt 102 = 12 := rfl
  have cc_103 : cnt 103 = 144 := rfl
  have cc_104 : cnt 104 = 2400 := rfl
  have cc_105 : cnt 105 = 7200 := rfl
  have j_l2 := i_any l2
  intro n
  induction n with
  | zero =>
    intro T l3 l4 h_T x_T g_l3 g_l4 hm
    exfalso
    omega
  | succ n ih =>
    intro T l3 l4 h_T x_T g_l3 g_l4 hm
    unfold g_X0_trackCellIn_b17
    refine tot_if (fun c_26 => ?_) (fun c_26 => ?_)
    · replace c_26 := i_lt c_26
      exact hx0 T l3 h_T x_T (by omega)
    · replace c_26 := i_nlt c_26
      refine tot_if (fun c_27 => ?_) (fun c_27 => ?_)
      · replace c_27 := i_le c_27
        exact hx0 T l3 h_T x_T (by omega)
      · replace c_27 := i_nle c_27
        refine tot_oif (iv_oO h_T k_l1 (by decide) (by decide) rfl) ?_
        refine tot_bind2 (cs_X1_areaAround T l1 l3 h_T k_l1 (by omega)) (fun n_19 T_20 d_n_19 => ?_)
        have h_T_20 : IV R B K1 K2 T_20 := d_n_19.1.1
        have y_T_20 : FW R [1952] T T_20 := d_n_19.1.2
        have x_T_20 := x_T.tr (y_T_20.w (by decide))
        have k_n_19 : R n_19 = 61 := d_n_19.2.1
        have ao_n_19 : AO l1 T_20 n_19 := d_n_19.2.2
        refine tot_oif (iv_oO h_T_20 k_l0 (by decide) (by decide) rfl) ?_
        refine tot_ref h_T_20 k_l0 (by decide) (by decide) (r2 := 105) (rfl : rtg 20 0 = 105) (by decide) (fun n_21 k_n_21 e_n_21 => ?_)
        refine tot_bind (cs_X0_rowStart l4 (by omega)) (fun r_22 d_r_22 => ?_)
        replace d_r_22 : (0 ≤ r_22.toInt ∧ r_22.toInt ≤ 7056) := d_r_22
        refine tot_oif (iv_oO h_T_20 k_l1 (by decide) (by decide) rfl) ?_
        refine tot_bindq (R := fun r_23 : Int32 => (0 ≤ r_23.toInt ∧ r_23.toInt ≤ 143)) (cs_X1_bestIn61 T_20 l1 n_19 n_21 r_22 h_T_20 k_l1 k_n_19 k_n_21 (rfl : isW 105 = true) ao_n_19 (by omega)) (fun r_23 d_r_23 => ?_)
        replace d_r_23 : (0 ≤ r_23.toInt ∧ r_23.toInt ≤ 143) := d_r_23
        refine tot_let (fun v_25 e_v_25 => ?_)
        have q_v_25 := i_add e_v_25 (by omega) (by omega)
        exact ih T_20 r_23 v_25 h_T_20 x_T_20 (by omega) (by omega) (by omega)
set_option maxHeartbeats 4000000 in
set_option maxRecDepth 10000 in
theorem cs_X0_trackCellIn {R : Nat → Nat} {B K1 K2 : Nat} (T : AT) (o : Nat) (a0 : Nat) (a1 : Int32) (h_T : IV R B K1 K2 T) (k_o : R o = 20) (k_a0 : R a0 = 1) : Tot (g_X0_trackCellIn T o a0 a1) (fun r => (IV R B K1 K2 r.2 ∧ FW R [1952] T r.2) ∧ (0 ≤ r.1.toInt ∧ r.1.toInt ≤ 143)) := by
  have z0 : ((0 : Int32) : Int32).toInt = 0 := by decide
  have z1 : (1 : Int32).toInt = 1 := by decide
  have cc_101 : cnt 101 = 1 := rfl
  have cc_102 : cnt 102 = 12 := rfl
  have cc_103 : cnt 103 = 144 := rfl
  have cc_104 : cnt 104 = 2400 := rfl
  have cc_105 : cnt 105 = 7200 := rfl
  have x_T : FW R [1952] T T := FW.rf
  have j_a1 := i_any a1
  unfold g_X0_trackCellIn
  refine tot_oif (iv_oO h_T k_a0 (by decide) (by decide) rfl) ?_
  refine tot_ref h_T k_a0 (by decide) (by decide) (r2 := 59) (rfl : rtg 1 5 = 59) (by decide) (fun n_1 k_n_1 e_n_1 => ?_)
  refine tot_oif (iv_oO h_T k_o (by decide) (by decide) rfl) ?_
  refine tot_ref h_T k_o (by decide) (by decide) (r2 := 105) (rfl : rtg 20 0 = 105) (by decide) (fun n_2 k_n_2 e_n_2 => ?_)
  refine tot_oif (iv_oO h_T k_a0 (by decide) (by decide) rfl) ?_
  refine tot_bindq (R := fun r_3 : Int32 => (0 ≤ r_3.toInt ∧ r_3.toInt ≤ 143)) (cs_X1_bestIn59 T a0 n_1 n_2 (0 : Int32) h_T k_a0 k_n_1 k_n_2 (rfl : isW 105 = true) (by omega)) (fun r_3 d_r_3 => ?_)
  replace d_r_3 : (0 ≤ r_3.toInt ∧ r_3.toInt ≤ 143) := d_r_3
  refine cl_X0_trackCellIn_b17 o a0 a1 T k_o k_a0 ?_ 16384 T r_3 1 h_T x_T (by omega) (by omega) (by omega)
  · intro T_28 l_29 h_T_28 x_T_28 g_l_29
    unfold g_X0_trackCellIn_b55
    exact tot_some ⟨⟨h_T_28, x_T_28⟩, (show (0 ≤ l_29.toInt ∧ l_29.toInt ≤ 143) from by omega)⟩
set_option maxHeartbeats 4000000 in
set_option maxRecDepth 10000 in
theorem cs_X1_centreX {R : Nat → Nat} {B K1 K2 : Nat} (T : AT) (o : Nat) (a0 : Int32) (h_T : IV R B K1 K2 T) (k_o : R o = 1) (g0 : 0 ≤ a0.toInt ∧ a0.toInt ≤ 143) : Tot (g_X1_centreX T o a0) (fun r => r.2 = T ∧ (-999 ≤ r.1.toInt ∧ r.1.toInt ≤ 2088)) := by
  have cc_101 : cnt 101 = 1 := rfl
  have cc_102 : cnt 102 = 12 := rfl
  have cc_103 : cnt 103 = 144 := rfl
  have cc_104 : cnt 104 = 2400 := rfl
  have cc_105 : cnt 105 = 7200 := rfl
  have j_a0 := i_any a0
  unfold g_X1_centreX
  refine tot_oif (iv_oO h_T k_o (by decide) (by decide) rfl) ?_
  refine tot_let (fun v_1 e_v_1 => ?_)
  have r_v_1 : -999 ≤ v_1.toInt ∧ v_1.toInt ≤ 999 := iv_int h_T k_o (by decide) (by decide) e_v_1 rfl
  refine tot_oif (iv_oO h_T k_o (by decide) (by decide) rfl) ?_
  refine tot_let (fun v_2 e_v_2 => ?_)
  have r_v_2 : 0 ≤ v_2.toInt ∧ v_2.toInt ≤ 99 := iv_int h_T k_o (by decide) (by decide) e_v_2 rfl
  refine tot_oif (iv_oO h_T k_o (by decide) (by decide) rfl) ?_
  refine tot_bindq (R := fun r_3 : Int32 => (0 ≤ r_3.toInt ∧ r_3.toInt ≤ 11)) (cs_X1_columnOf T o a0 h_T k_o (by omega)) (fun r_3 d_r_3 => ?_)
  replace d_r_3 : (0 ≤ r_3.toInt ∧ r_3.toInt ≤ 11) := d_r_3
  refine tot_let (fun v_5 e_v_5 => ?_)
  have q_v_5 := i_mulp (a := 0) (b := 99) (c := 0) (d := 11) e_v_5 (by omega) (by omega) (by omega) (by omega) (by decide)
  refine tot_let (fun v_6 e_v_6 => ?_)
  have q_v_6 := i_add e_v_6 (by omega) (by omega)
  exact tot_some ⟨rfl, (show (-999 ≤ v_6.toInt ∧ v_6.toInt ≤ 2088) from by omega)⟩
set_option maxHeartbeats 4000000 in
set_option maxRecDepth 10000 in
theorem cs_X1_centreY {R : Nat → Nat} {B K1 K2 : Nat} (T : AT) (o : Nat) (a0 : Int32) (h_T : IV R B K1 K2 T) (k_o : R o = 1) (g0 : 0 ≤ a0.toInt ∧ a0.toInt ≤ 143) : Tot (g_X1_centreY T o a0) (fun r => r.2 = T ∧ (-999 ≤ r.1.toInt ∧ r.1.toInt ≤ 15156)) := by
  have cc_101 : cnt 101 = 1 := rfl
  have cc_102 : cnt 102 = 12 := rfl
  have cc_103 : cnt 103 = 144 := rfl
  have cc_104 : cnt 104 = 2400 := rfl
  have cc_105 : cnt 105 = 7200 := rfl
  have j_a0 := i_any a0
  unfold g_X1_centreY
  refine tot_oif (iv_oO h_T k_o (by decide) (by decide) rfl) ?_
  refine tot_let (fun v_1 e_v_1 => ?_)
  have r_v_1 : -999 ≤ v_1.toInt ∧ v_1.toInt ≤ 999 := iv_int h_T k_o (by decide) (by decide) e_v_1 rfl
  refine tot_oif (iv_oO h_T k_o (by decide) (by decide) rfl) ?_
  refine tot_let (fun v_2 e_v_2 => ?_)
  have r_v_2 : 0 ≤ v_2.toInt ∧ v_2.toInt ≤ 99 := iv_int h_T k_o (by decide) (by decide) e_v_2 rfl
  refine tot_oif (iv_oO h_T k_o (by decide) (by decide) rfl) ?_
  refine tot_bindq (R := fun r_3 : Int32 => (0 ≤ r_3.toInt ∧ r_3.toInt ≤ 143)) (cs_X1_rowOf T o a0 h_T k_o (by omega)) (fun r_3 d_r_3 => ?_)
  replace d_r_3 : (0 ≤ r_3.toInt ∧ r_3.toInt ≤ 143) := d_r_3
  refine tot_let (fun v_5 e_v_5 => ?_)
  have q_v_5 := i_mulp (a := 0) (b := 99) (c := 0) (d := 143) e_v_5 (by omega) (by omega) (by omega) (by omega) (by decide)
  refine tot_let (fun v_6 e_v_6 => ?_)
  have q_v_6 := i_add e_v_6 (by omega) (by omega)
  exact tot_some ⟨rfl, (show (-999 ≤ v_6.toInt ∧ v_6.toInt ≤ 15156) from by omega)⟩
set_option maxHeartbeats 4000000 in
set_option maxRecDepth 10000 in
theorem cl_X4_standsOut_b24 {R : Nat → Nat} {B K1 K2 : Nat} {Q : Int32 × AT → Prop} {k11 : AT → Nat → Int32 → Nat → Nat → Int32 → Option (Int32 × AT)} (l0 : Nat) (l1 : Int32) (l2 : Nat) (l3 : Nat) (l4 : Int32) (T00 : AT) (k_l0 : R l0 = 4) (k_l2 : R l2 = 1) (k_l3 : R l3 = 61) (g0 : 0 ≤ l1.toInt ∧ l1.toInt ≤ 143) (g1 : 0 ≤ l4.toInt ∧ l4.toInt ≤ 11) (hx0 : ∀ (T : AT), (IV R B K1 K2 T) → (FW R [1952] T00 T) → Tot (elet (l4 + Int32.ofInt (1)) fun v_56 => k11 T l0 l1 l2 l3 v_56) Q) (hx1 : ∀ (T : AT), (IV R B K1 K2 T) → (FW R [1952] T00 T) → Tot (some (0, T)) Q) : ∀ (n : Nat) (T : AT) (l5 : Int32), (IV R B K1 K2 T) → (FW R [1952] T00 T) → (0 ≤ l5.toInt ∧ l5.toInt ≤ 143) → 143 - l5.toInt < (n : Int) → Tot (g_X4_standsOut_b24 k11 n T l0 l1 l2 l3 l4 l5) Q := by
  have z0 : (2 : Int32).toInt = 2 := by decide
  have z1 : (Int32.ofInt (1) : Int32).toInt = 1 := by decide
  have z2 : (0 : Int32).toInt = 0 := by decide
  have cc_101 : cnt 101 = 1 := rfl
  have cc_102 : cnt 102 = 12 := rfl
  have cc_103 : cnt 103 = 144 := rfl
  have cc_104 : cnt 104 = 2400 := rfl
  have cc_105 : cnt 105 = 7200 := rfl
  have j_l1 := i_any l1
  have j_l4 := i_any l4
  intro n
  induction n with
  | zero =>
    intro T l5 h_T x_T g_l5 hm
    exfalso
    omega
  | succ n ih =>
    intro T l5 h_T x_T g_l5 hm
    unfold g_X4_standsOut_b24
    refine tot_oif (iv_aA h_T k_l3 (by decide) (by decide) rfl rfl) ?_
    refine tot_oif (by rw [iv_len h_T k_l3 (by decide) (by decide) (rfl : shp 61 = (100, 4))]; exact i_inb (by omega) (by omega)) ?_
    refine tot_let (fun v_55 e_v_55 => ?_)
    have r_v_55 : -1 ≤ v_55.toInt ∧ v_55.toInt ≤ 11 := iv_int h_T k_l3 (by decide) (by decide) e_v_55 (by decide)
    refine tot_if (fun c_63 => ?_) (fun c_63 => ?_)
    · replace c_63 := i_lt c_63
      exact hx0 T h_T x_T
    · replace c_63 := i_nlt c_63
      refine tot_oif (iv_oO h_T k_l2 (by decide) (by decide) rfl) ?_
      refine tot_let (fun v_57 e_v_57 => ?_)
      have r_v_57 : 0 ≤ v_57.toInt ∧ v_57.toInt ≤ 12 := iv_int h_T k_l2 (by decide) (by decide) e_v_57 rfl
      refine tot_let (fun v_58 e_v_58 => ?_)
      have q_v_58 := i_mulp (a := 0) (b := 11) (c := 0) (d := 12) e_v_58 (by omega) (by omega) (by omega) (by omega) (by decide)
      refine tot_let (fun v_59 e_v_59 => ?_)
      have q_v_59 := i_add e_v_59 (by omega) (by omega)
      refine tot_if (fun c_64 => ?_) (fun c_64 => ?_)
      · replace c_64 := i_eq c_64
        unfold g_X4_standsOut_b65
        refine tot_let (fun v_65 e_v_65 => ?_)
        have q_v_65 := i_add e_v_65 (by omega) (by omega)
        exact ih T v_65 h_T x_T (by omega) (by omega)
      · replace c_64 := i_ne c_64
        refine tot_oif (iv_oO h_T k_l0 (by decide) (by decide) rfl) ?_
        refine tot_ref h_T k_l0 (by decide) (by decide) (r2 := 103) (rfl : rtg 4 1 = 103) (by decide) (fun n_60 k_n_60 e_n_60 => ?_)
        refine tot_oif (w_oO h_T k_n_60 (rfl : isW 103 = true)) ?_
        refine tot_bindq (R := fun r_61 : Int32 => True) (c_compare (a0 := v_59) (a1 := l1) k_n_60 (rfl : isW 103 = true) h_T (by omega) (by omega)) (fun r_61 d_r_61 => ?_)
        have r_r_61 := i_any r_61
        refine tot_if (fun c_66 => ?_) (fun c_66 => ?_)
        · replace c_66 := i_lt c_66
          unfold g_X4_standsOut_b65
          refine tot_let (fun v_67 e_v_67 => ?_)
          have q_v_67 := i_add e_v_67 (by omega) (by omega)
          exact ih T v_67 h_T x_T (by omega) (by omega)
        · replace c_66 := i_nlt c_66
          exact hx1 T h_T x_T
set_option maxHeartbeats 4000000 in
set_option maxRecDepth 10000 in
theorem cl_X4_standsOut_b11 {R : Nat → Nat} {B K1 K2 : Nat} {Q : Int32 × AT → Prop} (l0 : Nat) (l1 : Int32) (l2 : Nat) (l3 : Nat) (T00 : AT) (k_l0 : R l0 = 4) (k_l2 : R l2 = 1) (k_l3 : R l3 = 61) (g0 : 0 ≤ l1.toInt ∧ l1.toInt ≤ 143) (hx0 : ∀ (T : AT), (IV R B K1 K2 T) → (FW R [1952] T00 T) → Tot (some (1, T)) Q) (hx1 : ∀ (T_70 : AT), (IV R B K1 K2 T_70) → (FW R [1952] T00 T_70) → Tot (some (0, T_70)) Q) : ∀ (n : Nat) (T : AT) (l4 : Int32), (IV R B K1 K2 T) → (FW R [1952] T00 T) → (0 ≤ l4.toInt ∧ l4.toInt ≤ 143) → 143 - l4.toInt < (n : Int) → Tot (g_X4_standsOut_b11 n T l0 l1 l2 l3 l4) Q := by
  have z0 : (3 : Int32).toInt = 3 := by decide
  have z1 : (0 : Int32).toInt = 0 := by decide
  have z2 : (Int32.ofInt (1) : Int32).toInt = 1 := by decide
  have cc_101 : cnt 101 = 1 := rfl
  have cc_102 : cnt 102 = 12 := rfl
  have cc_103 : cnt 103 = 144 := rfl
  have cc_104 : cnt 104 = 2400 := rfl
  have cc_105 : cnt 105 = 7200 := rfl
  have j_l1 := i_any l1
  intro n
  induction n with
  | zero =>
    intro T l4 h_T x_T g_l4 hm
    exfalso
    omega
  | succ n ih =>
    intro T l4 h_T x_T g_l4 hm
    unfold g_X4_standsOut_b11
    refine tot_oif (iv_aA h_T k_l3 (by decide) (by decide) rfl rfl) ?_
    refine tot_oif (by rw [iv_len h_T k_l3 (by decide) (by decide) (rfl : shp 61 = (100, 4))]; exact i_inb (by omega) (by omega)) ?_
    refine tot_let (fun v_42 e_v_42 => ?_)
    have r_v_42 : -1 ≤ v_42.toInt ∧ v_42.toInt ≤ 11 := iv_int h_T k_l3 (by decide) (by decide) e_v_42 (by decide)
    refine tot_if (fun c_44 => ?_) (fun c_44 => ?_)
    · replace c_44 := i_lt c_44
      exact hx0 T h_T x_T
    · replace c_44 := i_nlt c_44
      refine tot_oif (iv_aA h_T k_l3 (by decide) (by decide) rfl rfl) ?_
      refine tot_oif (by rw [iv_len h_T k_l3 (by decide) (by decide) (rfl : shp 61 = (100, 4))]; exact i_inb (by omega) (by omega)) ?_
      refine tot_let (fun v_43 e_v_43 => ?_)
      have r_v_43 : 0 ≤ v_43.toInt ∧ v_43.toInt ≤ 143 := iv_int h_T k_l3 (by decide) (by decide) e_v_43 (by decide)
      refine cl_X4_standsOut_b24 l0 l1 l2 l3 l4 T00 k_l0 k_l2 k_l3 (by omega) (by omega) ?_ ?_ 16384 T v_43 h_T x_T (by omega) (by omega)
      · intro T_68 h_T_68 x_T_68
        refine tot_let (fun v_69 e_v_69 => ?_)
        have q_v_69 := i_add e_v_69 (by omega) (by omega)
        exact ih T_68 v_69 h_T_68 x_T_68 (by omega) (by omega)
      · intro T_70 h_T_70 x_T_70
        exact hx1 T_70 h_T_70 x_T_70
set_option maxHeartbeats 4000000 in
set_option maxRecDepth 10000 in
theorem cs_X4_standsOut {R : Nat → Nat} {B K1 K2 : Nat} (T : AT) (o : Nat) (a0 : Int32) (a1 : Nat) (h_T : IV R B K1 K2 T) (k_o : R o = 4) (k_a1 : R a1 = 1) (g0 : 0 ≤ a0.toInt ∧ a0.toInt ≤ 143) : Tot (g_X4_standsOut T o a0 a1) (fun r => (IV R B K1 K2 r.2 ∧ FW R [1952] T r.2) ∧ (0 ≤ r.1.toInt ∧ r.1.toInt ≤ 1)) := by
  have z0 : (1 : Int32).toInt = 1 := by decide
  have z1 : (0 : Int32).toInt = 0 := by decide
  have cc_101 : cnt 101 = 1 := rfl
  have cc_102 : cnt 102 = 12 := rfl
  have cc_103 : cnt 103 = 144 := rfl
  have cc_104 : cnt 104 = 2400 := rfl
  have cc_105 : cnt 105 = 7200 := rfl
  have x_T : FW R [1952] T T := FW.rf
  have j_a0 := i_any a0
  unfold g_X4_standsOut
  refine tot_oif (iv_oO h_T k_a1 (by decide) (by decide) rfl) ?_
  refine tot_bind2 (cs_X1_areaAround T a1 a0 h_T k_a1 (by omega)) (fun n_1 T_2 d_n_1 => ?_)
  have h_T_2 : IV R B K1 K2 T_2 := d_n_1.1.1
  have y_T_2 : FW R [1952] T T_2 := d_n_1.1.2
  have x_T_2 := x_T.tr (y_T_2.w (by decide))
  have k_n_1 : R n_1 = 61 := d_n_1.2.1
  have ao_n_1 : AO a1 T_2 n_1 := d_n_1.2.2
  refine tot_oif (iv_aA h_T_2 k_n_1 (by decide) (by decide) rfl rfl) ?_
  refine tot_oif (by rw [iv_len h_T_2 k_n_1 (by decide) (by decide) (rfl : shp 61 = (100, 4))]; exact i_inb (by omega) (by omega)) ?_
  refine tot_let (fun v_3 e_v_3 => ?_)
  have r_v_3 : 0 ≤ v_3.toInt ∧ v_3.toInt ≤ 143 := iv_int h_T_2 k_n_1 (by decide) (by decide) e_v_3 (by decide)
  refine cl_X4_standsOut_b11 o a0 a1 n_1 T k_o k_a1 k_n_1 (by omega) ?_ ?_ 16384 T_2 v_3 h_T_2 x_T_2 (by omega) (by omega)
  · intro T_71 h_T_71 x_T_71
    exact tot_some ⟨⟨h_T_71, x_T_71⟩, (show (0 ≤ (1 : Int32).toInt ∧ (1 : Int32).toInt ≤ 1) from by omega)⟩
  · intro T_72 h_T_72 x_T_72
    exact tot_some ⟨⟨h_T_72, x_T_72⟩, (show (0 ≤ (0 : Int32).toInt ∧ (0 : Int32).toInt ≤ 1) from by omega)⟩
set_option maxHeartbeats 4000000 in
set_option maxRecDepth 10000 in
theorem cl_X4_measure_b16 {R : Nat → Nat} {B K1 K2 : Nat} {Q : AT → Prop} (l0 : Nat) (l1 : Nat) (l2 : Nat) (T00 : AT) (k_l0 : R l0 = 4) (k_l1 : R l1 = 6) (k_l2 : R l2 = 8) (hx0 : ∀ (T : AT), (IV R B K1 K2 T) → (FW R [130, 131, 1952, 2144, 3202] T00 T) → Tot (oif (oO T l1 6 = true) <| obind (T.2.2.2.2 l1 6) fun n_102 => oif (oO T l1 6 = true) <| obind (T.2.2.2.2 l1 6) fun n_103 => oif (oO T n_103 1 = true) <| obind (T.2.2.2.2 n_103 5) fun n_104 => oif (oO T l0 4 = true) <| obind (T.2.2.2.2 l0 1) fun n_105 => oif (oO T n_102 1 = true) <| obind2 (g_X1_bestIn T n_102 n_104 n_105 (0 : Int32)) fun r_106 T_107 => oif (oO T_107 l0 4 = true) <| elet (uI T_107 l0 2 r_106) fun T_108 => oif (oO T_108 l0 4 = true) <| elet (uI T_108 l0 3 0) fun T_109 => g_X4_measure_b89 16384 T_109 l0 l1 0) Q) : ∀ (n : Nat) (T : AT) (l3 : Int32), (IV R B K1 K2 T) → (FW R [130, 131, 1952, 2144, 3202] T00 T) → (0 ≤ l3.toInt ∧ l3.toInt ≤ 144) → 144 - l3.toInt < (n : Int) → Tot (g_X4_measure_b16 n T l0 l1 l2 l3) Q := by
  have z0 : ((0 : Int32) : Int32).toInt = 0 := by decide
  have z1 : (Int32.ofInt (1) : Int32).toInt = 1 := by decide
  have cc_101 : cnt 101 = 1 := rfl
  have cc_102 : cnt 102 = 12 := rfl
  have cc_103 : cnt 103 = 144 := rfl
  have cc_104 : cnt 104 = 2400 := rfl
  have cc_105 : cnt 105 = 7200 := rfl
  intro n
  induction n with
  | zero =>
    intro T l3 h_T x_T g_l3 hm
    exfalso
    omega
  | succ n ih =>
    intro T l3 h_T x_T g_l3 hm
    unfold g_X4_measure_b16
    refine tot_oif (iv_oO h_T k_l1 (by decide) (by decide) rfl) ?_
    refine tot_ref h_T k_l1 (by decide) (by decide) (r2 := 1) (rfl : rtg 6 6 = 1) (by decide) (fun n_99 k_n_99 e_n_99 => ?_)
    refine tot_oif (iv_oO h_T k_n_99 (by decide) (by decide) rfl) ?_
    refine tot_bindq (R := fun r_100 : Int32 => (0 ≤ r_100.toInt ∧ r_100.toInt ≤ 144)) (cs_X1_cells T n_99 h_T k_n_99 ) (fun r_100 d_r_100 => ?_)
    replace d_r_100 : (0 ≤ r_100.toInt ∧ r_100.toInt ≤ 144) := d_r_100
    refine tot_if (fun c_116 => ?_) (fun c_116 => ?_)
    · replace c_116 := i_le c_116
      exact hx0 T h_T x_T
    · replace c_116 := i_nle c_116
      refine tot_oif (iv_oO h_T k_l1 (by decide) (by decide) rfl) ?_
      refine tot_ref h_T k_l1 (by decide) (by decide) (r2 := 51) (rfl : rtg 6 17 = 51) (by decide) (fun n_110 k_n_110 e_n_110 => ?_)
      refine tot_oif (iv_aA h_T k_n_110 (by decide) (by decide) rfl rfl) ?_
      refine tot_oif (by rw [iv_len h_T k_n_110 (by decide) (by decide) (rfl : shp 51 = (106, 144))]; exact i_inb (by omega) (by omega)) ?_
      refine tot_ref h_T k_n_110 (by decide) (by decide) (r2 := 50) (rt_51 (by omega) (by omega)) (by decide) (fun n_111 k_n_111 e_n_111 => ?_)
      refine tot_oif (iv_oO h_T k_l2 (by decide) (by decide) rfl) ?_
      refine tot_bindq (R := fun r_112 : Int32 => (0 ≤ r_112.toInt ∧ r_112.toInt ≤ 200)) (cs_X8_windowOf T l2 n_111 h_T k_l2 k_n_111 ) (fun r_112 d_r_112 => ?_)
      replace d_r_112 : (0 ≤ r_112.toInt ∧ r_112.toInt ≤ 200) := d_r_112
      refine tot_oif (iv_oO h_T k_l0 (by decide) (by decide) rfl) ?_
      refine tot_ref h_T k_l0 (by decide) (by decide) (r2 := 103) (rfl : rtg 4 1 = 103) (by decide) (fun n_114 k_n_114 e_n_114 => ?_)
      refine tot_oif (iv_oO h_T k_l2 (by decide) (by decide) rfl) ?_
      refine tot_bind (cs_X8_blockPowerOf T l2 n_111 (0 : Int32) r_112 n_114 l3 h_T k_l2 k_n_111 k_n_114 (rfl : isW 103 = true) (by omega) (by omega) (by omega) (by omega)) (fun T_115 d_T_115 => ?_)
      have h_T_115 : IV R B K1 K2 T_115 := d_T_115.1
      have y_T_115 : FW R [3202] T T_115 := d_T_115.2
      have x_T_115 := x_T.tr (y_T_115.w (by decide))
      have f_T_115_3 : (T_115.2.2.1 l0 3).toInt = (T.2.2.1 l0 3).toInt := congrArg Int32.toInt (y_T_115 l0 3 (by rw [k_l0]; decide))
      unfold g_X4_measure_b53
      refine tot_let (fun v_117 e_v_117 => ?_)
      have q_v_117 := i_add e_v_117 (by omega) (by omega)
      exact ih T_115 v_117 h_T_115 x_T_115 (by omega) (by omega)
set_option maxHeartbeats 4000000 in
set_option maxRecDepth 10000 in
theorem cl_X4_measure_b89 {R : Nat → Nat} {B K1 K2 : Nat} {Q : AT → Prop} (l0 : Nat) (l1 : Nat) (T00 : AT) (k_l0 : R l0 = 4) (k_l1 : R l1 = 6) (hx0 : ∀ (T : AT), (IV R B K1 K2 T) → (FW R [130, 131, 1952, 2144, 3202] T00 T) → Tot (some (T)) Q) : ∀ (n : Nat) (T : AT) (l3 : Int32), (IV R B K1 K2 T) → (FW R [130, 131, 1952, 2144, 3202] T00 T) → (0 ≤ l3.toInt ∧ l3.toInt ≤ 144) → ((T.2.2.1 l0 3).toInt ≤ l3.toInt) → 144 - l3.toInt < (n : Int) → Tot (g_X4_measure_b89 n T l0 l1 l3) Q := by
  have z0 : (0 : Int32).toInt = 0 := by decide
  have z1 : (Int32.ofInt (1) : Int32).toInt = 1 := by decide
  have z2 : (1 : Int32).toInt = 1 := by decide
  have cc_101 : cnt 101 = 1 := rfl
  have cc_102 : cnt 102 = 12 := rfl
  have cc_103 : cnt 103 = 144 := rfl
  have cc_104 : cnt 104 = 2400 := rfl
  have cc_105 : cnt 105 = 7200 := rfl
  intro n
  induction n with
  | zero =>
    intro T l3 h_T x_T g_l3 gi_0 hm
    exfalso
    omega
  | succ n ih =>
    intro T l3 h_T x_T g_l3 gi_0 hm
    unfold g_X4_measure_b89
    refine tot_oif (iv_oO h_T k_l1 (by decide) (by decide) rfl) ?_
    refine tot_ref h_T k_l1 (by decide) (by decide) (r2 := 1) (rfl : rtg 6 6 = 1) (by decide) (fun n_145 k_n_145 e_n_145 => ?_)
    refine tot_oif (iv_oO h_T k_n_145 (by decide) (by decide) rfl) ?_
    refine tot_bindq (R := fun r_146 : Int32 => (0 ≤ r_146.toInt ∧ r_146.toInt ≤ 144)) (cs_X1_cells T n_145 h_T k_n_145 ) (fun r_146 d_r_146 => ?_)
    replace d_r_146 : (0 ≤ r_146.toInt ∧ r_146.toInt ≤ 144) := d_r_146
    refine tot_if (fun c_158 => ?_) (fun c_158 => ?_)
    · replace c_158 := i_le c_158
      exact hx0 T h_T x_T
    · replace c_158 := i_nle c_158
      refine tot_oif (iv_oO h_T k_l1 (by decide) (by decide) rfl) ?_
      refine tot_ref1 e_n_145 ?_
      refine tot_oif (iv_oO h_T k_l0 (by decide) (by decide) rfl) ?_
      refine tot_bind2 (cs_X4_standsOut T l0 l3 n_145 h_T k_l0 k_n_145 (by omega)) (fun r_149 T_150 d_r_149 => ?_)
      have h_T_150 : IV R B K1 K2 T_150 := d_r_149.1.1
      have y_T_150 : FW R [1952] T T_150 := d_r_149.1.2
      have x_T_150 := x_T.tr (y_T_150.w (by decide))
      have f_T_150_3 : (T_150.2.2.1 l0 3).toInt = (T.2.2.1 l0 3).toInt := congrArg Int32.toInt (y_T_150 l0 3 (by rw [k_l0]; decide))
      replace d_r_149 : (0 ≤ r_149.toInt ∧ r_149.toInt ≤ 1) := d_r_149.2
      refine tot_if (fun c_159 => ?_) (fun c_159 => ?_)
      · replace c_159 := i_eq c_159
        unfold g_X4_measure_b148
        refine tot_let (fun v_160 e_v_160 => ?_)
        have q_v_160 := i_add e_v_160 (by omega) (by omega)
        exact ih T_150 v_160 h_T_150 x_T_150 (by omega) (by omega) (by omega)
      · replace c_159 := i_ne c_159
        refine tot_oif (iv_oO h_T_150 k_l0 (by decide) (by decide) rfl) ?_
        refine tot_ref h_T_150 k_l0 (by decide) (by decide) (r2 := 67) (rfl : rtg 4 4 = 67) (by decide) (fun n_151 k_n_151 e_n_151 => ?_)
        refine tot_oif (iv_oO h_T_150 k_l0 (by decide) (by decide) rfl) ?_
        refine tot_let (fun v_152 e_v_152 => ?_)
        have q_v_152 := i_eq e_v_152
        have r_v_152 : 0 ≤ v_152.toInt ∧ v_152.toInt ≤ 144 := iv_int h_T_150 k_l0 (by decide) (by decide) e_v_152 rfl
        refine tot_oif (iv_aA h_T_150 k_n_151 (by decide) (by decide) rfl rfl) ?_
        refine tot_oif (by rw [iv_len h_T_150 k_n_151 (by decide) (by decide) (rfl : shp 67 = (100, 144))]; exact i_inb (by omega) (by omega)) ?_
        refine tot_let (fun T_153 e_T_153 => ?_)
        have h_T_153 : IV R B K1 K2 T_153 := by rw [e_T_153]; exact iv_uI (a := 0) (b := 143) h_T_150 k_n_151 (by decide) (by decide) rfl (by omega) (.inl rfl)
        have x_T_153 := x_T_150.tr (fw_uA e_T_153 k_n_151 rfl rfl (by decide))
        have f_T_153_3 : (T_153.2.2.1 l0 3).toInt = (T_150.2.2.1 l0 3).toInt := congrArg Int32.toInt ((fw_uA (W := [2144]) e_T_153 k_n_151 rfl rfl (by decide)) l0 3 (by rw [k_l0]; decide))
        refine tot_oif (iv_oO h_T_153 k_l0 (by decide) (by decide) rfl) ?_
        refine tot_ref h_T_153 k_l0 (by decide) (by decide) (r2 := 103) (rfl : rtg 4 5 = 103) (by decide) (fun n_154 k_n_154 e_n_154 => ?_)
        refine tot_oif (iv_oO h_T_153 k_l0 (by decide) (by decide) rfl) ?_
        refine tot_let (fun v_155 e_v_155 => ?_)
        have q_v_155 := i_eq e_v_155
        have r_v_155 : 0 ≤ v_155.toInt ∧ v_155.toInt ≤ 144 := iv_int h_T_153 k_l0 (by decide) (by decide) e_v_155 rfl
        refine tot_oif (iv_oO h_T_153 k_l0 (by decide) (by decide) rfl) ?_
        refine tot_ref h_T_153 k_l0 (by decide) (by decide) (r2 := 103) (rfl : rtg 4 1 = 103) (by decide) (fun n_156 k_n_156 e_n_156 => ?_)
        refine tot_oif (w_oO h_T_153 k_n_154 (rfl : isW 103 = true)) ?_
        refine tot_bind (c_set (a0 := v_155) (a2 := l3) k_n_154 (rfl : isW 103 = true) k_n_156 (rfl : isW 103 = true) h_T_153 (by omega) (by omega)) (fun T_157 d_T_157 => ?_)
        have h_T_157 : IV R B K1 K2 T_157 := d_T_157.1
        have y_T_157 : FW R [3202] T_153 T_157 := (fw_wx d_T_157.2 k_n_154 (rfl : isW 103 = true) (by decide))
        have x_T_157 := x_T_153.tr (y_T_157.w (by decide))
        have f_T_157_3 : (T_157.2.2.1 l0 3).toInt = (T_153.2.2.1 l0 3).toInt := congrArg Int32.toInt (y_T_157 l0 3 (by rw [k_l0]; decide))
        unfold g_X4_measure_b138
        refine tot_oif (iv_oO h_T_157 k_l0 (by decide) (by decide) rfl) ?_
        refine tot_let (fun v_161 e_v_161 => ?_)
        have q_v_161 := i_eq e_v_161
        have r_v_161 : 0 ≤ v_161.toInt ∧ v_161.toInt ≤ 144 := iv_int h_T_157 k_l0 (by decide) (by decide) e_v_161 rfl
        refine tot_let (fun v_162 e_v_162 => ?_)
        have q_v_162 := i_add e_v_162 (by omega) (by omega)
        refine tot_oif (iv_oO h_T_157 k_l0 (by decide) (by decide) rfl) ?_
        refine tot_let (fun T_163 e_T_163 => ?_)
        have h_T_163 : IV R B K1 K2 T_163 := by rw [e_T_163]; exact iv_uI (a := 0) (b := 144) h_T_157 k_l0 (by decide) (by decide) rfl (by omega) (.inl rfl)
        have x_T_163 := x_T_157.tr (fw_uI e_T_163 k_l0 (by decide))
        have f_T_163_3 : (T_163.2.2.1 l0 3).toInt = (v_162 : Int32).toInt := by rw [e_T_163]; exact congrArg Int32.toInt (uI_at _ _ _ _)
        unfold g_X4_measure_b148
        refine tot_let (fun v_164 e_v_164 => ?_)
        have q_v_164 := i_add e_v_164 (by omega) (by omega)
        exact ih T_163 v_164 h_T_163 x_T_163 (by omega) (by omega) (by omega)
set_option maxHeartbeats 4000000 in
set_option maxRecDepth 10000 in
theorem cs_X4_measure {R : Nat → Nat} {B K1 K2 : Nat} (T : AT) (o : Nat) (a0 : Nat) (a1 : Nat) (h_T : IV R B K1 K2 T) (k_o : R o = 4) (k_a0 : R a0 = 6) (k_a1 : R a1 = 8) : Tot (g_X4_measure T o a0 a1) (fun T1 => IV R B K1 K2 T1 ∧ FW R [130, 131, 1952, 2144, 3202] T T1) := by
  have z0 : (0 : Int32).toInt = 0 := by decide
  have z1 : ((0 : Int32) : Int32).toInt = 0 := by decide
  have cc_101 : cnt 101 = 1 := rfl
  have cc_102 : cnt 102 = 12 := rfl
  have cc_103 : cnt 103 = 144 := rfl
  have cc_104 : cnt 104 = 2400 := rfl
  have cc_105 : cnt 105 = 7200 := rfl
  have x_T : FW R [130, 131, 1952, 2144, 3202] T T := FW.rf
  unfold g_X4_measure
  refine tot_oif (iv_oO h_T k_o (by decide) (by decide) rfl) ?_
  refine tot_ref h_T k_o (by decide) (by decide) (r2 := 103) (rfl : rtg 4 1 = 103) (by decide) (fun n_1 k_n_1 e_n_1 => ?_)
  refine tot_oif (w_oO h_T k_n_1 (rfl : isW 103 = true)) ?_
  refine tot_bind (c_narrow h_T k_n_1 (rfl : isW 103 = true)) (fun T_2 d_T_2 => ?_)
  have h_T_2 : IV R B K1 K2 T_2 := d_T_2.1
  have y_T_2 : FW R [3202] T T_2 := d_T_2.2.2
  have x_T_2 := x_T.tr (y_T_2.w (by decide))
  have f_T_2_3 : (T_2.2.2.1 o 3).toInt = (T.2.2.1 o 3).toInt := congrArg Int32.toInt (y_T_2 o 3 (by rw [k_o]; decide))
  refine tot_oif (iv_oO h_T_2 k_o (by decide) (by decide) rfl) ?_
  refine tot_ref h_T_2 k_o (by decide) (by decide) (r2 := 103) (rfl : rtg 4 5 = 103) (by decide) (fun n_3 k_n_3 e_n_3 => ?_)
  refine tot_oif (w_oO h_T_2 k_n_3 (rfl : isW 103 = true)) ?_
  refine tot_bind (c_narrow h_T_2 k_n_3 (rfl : isW 103 = true)) (fun T_4 d_T_4 => ?_)
  have h_T_4 : IV R B K1 K2 T_4 := d_T_4.1
  have y_T_4 : FW R [3202] T_2 T_4 := d_T_4.2.2
  have x_T_4 := x_T_2.tr (y_T_4.w (by decide))
  have f_T_4_3 : (T_4.2.2.1 o 3).toInt = (T_2.2.2.1 o 3).toInt := congrArg Int32.toInt (y_T_4 o 3 (by rw [k_o]; decide))
  refine cl_X4_measure_b16 o a0 a1 T k_o k_a0 k_a1 ?_ 16384 T_4 0 h_T_4 x_T_4 (by omega) (by omega)
  · intro T_118 h_T_118 x_T_118
    refine tot_oif (iv_oO h_T_118 k_a0 (by decide) (by decide) rfl) ?_
    refine tot_ref h_T_118 k_a0 (by decide) (by decide) (r2 := 1) (rfl : rtg 6 6 = 1) (by decide) (fun n_119 k_n_119 e_n_119 => ?_)
    refine tot_oif (iv_oO h_T_118 k_a0 (by decide) (by decide) rfl) ?_
    refine tot_ref1 e_n_119 ?_
    refine tot_oif (iv_oO h_T_118 k_n_119 (by decide) (by decide) rfl) ?_
    refine tot_ref h_T_118 k_n_119 (by decide) (by decide) (r2 := 59) (rfl : rtg 1 5 = 59) (by decide) (fun n_121 k_n_121 e_n_121 => ?_)
    refine tot_oif (iv_oO h_T_118 k_o (by decide) (by decide) rfl) ?_
    refine tot_ref h_T_118 k_o (by decide) (by decide) (r2 := 103) (rfl : rtg 4 1 = 103) (by decide) (fun n_122 k_n_122 e_n_122 => ?_)
    refine tot_oif (iv_oO h_T_118 k_n_119 (by decide) (by decide) rfl) ?_
    refine tot_bindq (R := fun r_123 : Int32 => (0 ≤ r_123.toInt ∧ r_123.toInt ≤ 143)) (cs_X1_bestIn59 T_118 n_119 n_121 n_122 (0 : Int32) h_T_118 k_n_119 k_n_121 k_n_122 (rfl : isW 103 = true) (by omega)) (fun r_123 d_r_123 => ?_)
    replace d_r_123 : (0 ≤ r_123.toInt ∧ r_123.toInt ≤ 143) := d_r_123
    refine tot_oif (iv_oO h_T_118 k_o (by decide) (by decide) rfl) ?_
    refine tot_let (fun T_125 e_T_125 => ?_)
    have h_T_125 : IV R B K1 K2 T_125 := by rw [e_T_125]; exact iv_uI (a := 0) (b := 143) h_T_118 k_o (by decide) (by decide) rfl (by omega) (.inl rfl)
    have x_T_125 := x_T_118.tr (fw_uI e_T_125 k_o (by decide))
    have f_T_125_3 : (T_125.2.2.1 o 3).toInt = (T_118.2.2.1 o 3).toInt := congrArg Int32.toInt ((fw_uI (W := [130]) e_T_125 k_o (by decide)) o 3 (by rw [k_o]; decide))
    refine tot_oif (iv_oO h_T_125 k_o (by decide) (by decide) rfl) ?_
    refine tot_let (fun T_126 e_T_126 => ?_)
    have h_T_126 : IV R B K1 K2 T_126 := by rw [e_T_126]; exact iv_uI (a := 0) (b := 144) h_T_125 k_o (by decide) (by decide) rfl (by omega) (.inl rfl)
    have x_T_126 := x_T_125.tr (fw_uI e_T_126 k_o (by decide))
    have f_T_126_3 : (T_126.2.2.1 o 3).toInt = (0 : Int32).toInt := by rw [e_T_126]; exact congrArg Int32.toInt (uI_at _ _ _ _)
    refine cl_X4_measure_b89 o a0 T k_o k_a0 ?_ 16384 T_126 0 h_T_126 x_T_126 (by omega) (by omega) (by omega)
    · intro T_165 h_T_165 x_T_165
      exact tot_some ⟨h_T_165, x_T_165⟩
