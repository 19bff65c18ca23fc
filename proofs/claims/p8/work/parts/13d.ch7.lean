set_option maxHeartbeats 4000000 in
set_option maxRecDepth 10000 in
theorem cl_X8_activeWeight_b4 {R : Nat → Nat} {B K1 K2 : Nat} {Q : Int32 × AT → Prop} (T : AT) (l0 : Nat) (h_T : IV R B K1 K2 T) (k_l0 : R l0 = 8) (hx0 : ∀ (l1 : Int32), Tot (some (l1, T)) Q) : ∀ (n : Nat) (l1 : Int32) (l2 : Int32), (0 ≤ l2.toInt ∧ l2.toInt ≤ 12) → 12 - l2.toInt < (n : Int) → Tot (g_X8_activeWeight_b4 n T l0 l1 l2) Q := by
  have z0 : (0 : Int32).toInt = 0 := by decide
  have z1 : (Int32.ofInt (1) : Int32).toInt = 1 := by decide
  have cc_101 : cnt 101 = 1 := rfl
  have cc_102 : cnt 102 = 12 := rfl
  have cc_103 : cnt 103 = 144 := rfl
  have cc_104 : cnt 104 = 2400 := rfl
  have cc_105 : cnt 105 = 7200 := rfl
  intro n
  induction n with
  | zero =>
    intro l1 l2 g_l2 hm
    exfalso
    omega
  | succ n ih =>
    intro l1 l2 g_l2 hm
    unfold g_X8_activeWeight_b4
    refine tot_oif (iv_oO h_T k_l0 (by decide) (by decide) rfl) ?_
    refine tot_let (fun v_19 e_v_19 => ?_)
    have r_v_19 : 0 ≤ v_19.toInt ∧ v_19.toInt ≤ 12 := iv_int h_T k_l0 (by decide) (by decide) e_v_19 rfl
    refine tot_if (fun c_24 => ?_) (fun c_24 => ?_)
    · replace c_24 := i_le c_24
      exact hx0 l1 
    · replace c_24 := i_nle c_24
      refine tot_oif (iv_oO h_T k_l0 (by decide) (by decide) rfl) ?_
      refine tot_ref h_T k_l0 (by decide) (by decide) (r2 := 62) (rfl : rtg 8 3 = 62) (by decide) (fun n_20 k_n_20 e_n_20 => ?_)
      refine tot_oif (iv_aA h_T k_n_20 (by decide) (by decide) rfl rfl) ?_
      refine tot_oif (by rw [iv_len h_T k_n_20 (by decide) (by decide) (rfl : shp 62 = (102, 12))]; exact i_inb (by omega) (by omega)) ?_
      refine tot_let (fun v_21 e_v_21 => ?_)
      have r_v_21 : 0 ≤ v_21.toInt ∧ v_21.toInt ≤ 1 := iv_int h_T k_n_20 (by decide) (by decide) e_v_21 rfl
      refine tot_if (fun c_25 => ?_) (fun c_25 => ?_)
      · replace c_25 := i_eq c_25
        refine tot_oif (iv_oO h_T k_l0 (by decide) (by decide) rfl) ?_
        refine tot_ref h_T k_l0 (by decide) (by decide) (r2 := 63) (rfl : rtg 8 4 = 63) (by decide) (fun n_22 k_n_22 e_n_22 => ?_)
        refine tot_oif (iv_aA h_T k_n_22 (by decide) (by decide) rfl rfl) ?_
        refine tot_oif (by rw [iv_len h_T k_n_22 (by decide) (by decide) (rfl : shp 63 = (100, 12))]; exact i_inb (by omega) (by omega)) ?_
        refine tot_let (fun v_23 e_v_23 => ?_)
        have r_v_23 : 0 ≤ v_23.toInt ∧ v_23.toInt ≤ 9 := iv_int h_T k_n_22 (by decide) (by decide) e_v_23 rfl
        unfold g_X8_activeWeight_b32
        refine tot_let (fun v_26 e_v_26 => ?_)
        have r_v_26 := i_any v_26
        refine tot_let (fun v_27 e_v_27 => ?_)
        have q_v_27 := i_add e_v_27 (by omega) (by omega)
        exact ih v_26 v_27 (by omega) (by omega)
      · replace c_25 := i_ne c_25
        unfold g_X8_activeWeight_b32
        refine tot_let (fun v_28 e_v_28 => ?_)
        have r_v_28 := i_any v_28
        refine tot_let (fun v_29 e_v_29 => ?_)
        have q_v_29 := i_add e_v_29 (by omega) (by omega)
        exact ih v_28 v_29 (by omega) (by omega)
set_option maxHeartbeats 4000000 in
set_option maxRecDepth 10000 in
theorem cs_X8_activeWeight {R : Nat → Nat} {B K1 K2 : Nat} (T : AT) (o : Nat) (h_T : IV R B K1 K2 T) (k_o : R o = 8) : Tot (g_X8_activeWeight T o) (fun r => r.2 = T ∧ True) := by
  have z0 : (0 : Int32).toInt = 0 := by decide
  have cc_101 : cnt 101 = 1 := rfl
  have cc_102 : cnt 102 = 12 := rfl
  have cc_103 : cnt 103 = 144 := rfl
  have cc_104 : cnt 104 = 2400 := rfl
  have cc_105 : cnt 105 = 7200 := rfl
  unfold g_X8_activeWeight
  refine cl_X8_activeWeight_b4 T o h_T k_o ?_ 16384 0 0 (by omega) (by omega)
  · intro l_30
    have j_l_30 := i_any l_30
    exact tot_some ⟨rfl, trivial⟩
set_option maxHeartbeats 4000000 in
set_option maxRecDepth 10000 in
theorem cl_X8_smallestDelay_b8 {R : Nat → Nat} {B K1 K2 : Nat} {Q : Int32 × AT → Prop} (T : AT) (l0 : Nat) (l1 : Nat) (h_T : IV R B K1 K2 T) (k_l0 : R l0 = 8) (k_l1 : R l1 = 50) (hx0 : ∀ (l2 : Int32), Tot (some (l2, T)) Q) : ∀ (n : Nat) (l2 : Int32) (l3 : Int32), (0 ≤ l3.toInt ∧ l3.toInt ≤ 12) → 12 - l3.toInt < (n : Int) → Tot (g_X8_smallestDelay_b8 n T l0 l1 l2 l3) Q := by
  have z0 : (0 : Int32).toInt = 0 := by decide
  have z1 : (Int32.ofInt (1) : Int32).toInt = 1 := by decide
  have cc_101 : cnt 101 = 1 := rfl
  have cc_102 : cnt 102 = 12 := rfl
  have cc_103 : cnt 103 = 144 := rfl
  have cc_104 : cnt 104 = 2400 := rfl
  have cc_105 : cnt 105 = 7200 := rfl
  intro n
  induction n with
  | zero =>
    intro l2 l3 g_l3 hm
    exfalso
    omega
  | succ n ih =>
    intro l2 l3 g_l3 hm
    unfold g_X8_smallestDelay_b8
    refine tot_oif (iv_oO h_T k_l0 (by decide) (by decide) rfl) ?_
    refine tot_let (fun v_17 e_v_17 => ?_)
    have r_v_17 : 0 ≤ v_17.toInt ∧ v_17.toInt ≤ 12 := iv_int h_T k_l0 (by decide) (by decide) e_v_17 rfl
    refine tot_if (fun c_22 => ?_) (fun c_22 => ?_)
    · replace c_22 := i_le c_22
      exact hx0 l2 
    · replace c_22 := i_nle c_22
      refine tot_oif (iv_oO h_T k_l0 (by decide) (by decide) rfl) ?_
      refine tot_ref h_T k_l0 (by decide) (by decide) (r2 := 62) (rfl : rtg 8 3 = 62) (by decide) (fun n_18 k_n_18 e_n_18 => ?_)
      refine tot_oif (iv_aA h_T k_n_18 (by decide) (by decide) rfl rfl) ?_
      refine tot_oif (by rw [iv_len h_T k_n_18 (by decide) (by decide) (rfl : shp 62 = (102, 12))]; exact i_inb (by omega) (by omega)) ?_
      refine tot_let (fun v_19 e_v_19 => ?_)
      have r_v_19 : 0 ≤ v_19.toInt ∧ v_19.toInt ≤ 1 := iv_int h_T k_n_18 (by decide) (by decide) e_v_19 rfl
      refine tot_if (fun c_23 => ?_) (fun c_23 => ?_)
      · replace c_23 := i_eq c_23
        refine tot_oif (iv_aA h_T k_l1 (by decide) (by decide) rfl rfl) ?_
        refine tot_oif (by rw [iv_len h_T k_l1 (by decide) (by decide) (rfl : shp 50 = (100, 12))]; exact i_inb (by omega) (by omega)) ?_
        refine tot_let (fun v_20 e_v_20 => ?_)
        have r_v_20 := i_any v_20
        refine tot_let (fun v_21 e_v_21 => ?_)
        have q_v_21 := i_ilt e_v_21
        unfold g_X8_smallestDelay_b33
        refine tot_let (fun v_24 e_v_24 => ?_)
        have q_v_24 := i_add e_v_24 (by omega) (by omega)
        exact ih v_21 v_24 (by omega) (by omega)
      · replace c_23 := i_ne c_23
        unfold g_X8_smallestDelay_b33
        refine tot_let (fun v_25 e_v_25 => ?_)
        have q_v_25 := i_add e_v_25 (by omega) (by omega)
        exact ih l2 v_25 (by omega) (by omega)
set_option maxHeartbeats 4000000 in
set_option maxRecDepth 10000 in
theorem cs_X8_smallestDelay {R : Nat → Nat} {B K1 K2 : Nat} (T : AT) (o : Nat) (a0 : Nat) (h_T : IV R B K1 K2 T) (k_o : R o = 8) (k_a0 : R a0 = 50) : Tot (g_X8_smallestDelay T o a0) (fun r => r.2 = T ∧ True) := by
  have z0 : (0 : Int32).toInt = 0 := by decide
  have cc_101 : cnt 101 = 1 := rfl
  have cc_102 : cnt 102 = 12 := rfl
  have cc_103 : cnt 103 = 144 := rfl
  have cc_104 : cnt 104 = 2400 := rfl
  have cc_105 : cnt 105 = 7200 := rfl
  unfold g_X8_smallestDelay
  refine tot_oif (iv_oO h_T k_o (by decide) (by decide) rfl) ?_
  refine tot_bindq (R := fun r_1 : Int32 => (0 ≤ r_1.toInt ∧ r_1.toInt ≤ 2147483647)) (cs_X8_greatestDelay T o a0 h_T k_o k_a0 ) (fun r_1 d_r_1 => ?_)
  replace d_r_1 : (0 ≤ r_1.toInt ∧ r_1.toInt ≤ 2147483647) := d_r_1
  refine cl_X8_smallestDelay_b8 T o a0 h_T k_o k_a0 ?_ 16384 r_1 0 (by omega) (by omega)
  · intro l_26
    have j_l_26 := i_any l_26
    exact tot_some ⟨rfl, trivial⟩
set_option maxHeartbeats 4000000 in
set_option maxRecDepth 10000 in
theorem cs_X8_powerOf {R : Nat → Nat} {B K1 K2 : Nat} (T : AT) (o : Nat) (a0 : Nat) (a1 : Nat) (a2 : Int32) (h_T : IV R B K1 K2 T) (k_o : R o = 8) (k_a0 : R a0 = 50) {r_a1 : Nat} (k_a1 : R a1 = r_a1) (w_a1 : isW r_a1 = true) (g0 : 0 ≤ a2.toInt ∧ a2.toInt ≤ 0) (g1 : 0 ≤ a2.toInt ∧ a2.toInt < cnt r_a1) : Tot (g_X8_powerOf T o a0 a1 a2) (fun T1 => IV R B K1 K2 T1 ∧ FW R [3202] T T1) := by
  have z0 : ((0 : Int32) : Int32).toInt = 0 := by decide
  have cc_101 : cnt 101 = 1 := rfl
  have cc_102 : cnt 102 = 12 := rfl
  have cc_103 : cnt 103 = 144 := rfl
  have cc_104 : cnt 104 = 2400 := rfl
  have cc_105 : cnt 105 = 7200 := rfl
  have x_T : FW R [3202] T T := FW.rf
  have j_a2 := i_any a2
  have c7_a1 := (isW_f w_a1).2.2.2.1
  unfold g_X8_powerOf
  refine tot_oif (iv_oO h_T k_o (by decide) (by decide) rfl) ?_
  refine tot_bindq (R := fun r_1 : Int32 => (0 ≤ r_1.toInt ∧ r_1.toInt ≤ 200)) (cs_X8_windowOf T o a0 h_T k_o k_a0 ) (fun r_1 d_r_1 => ?_)
  replace d_r_1 : (0 ≤ r_1.toInt ∧ r_1.toInt ≤ 200) := d_r_1
  refine tot_oif (iv_oO h_T k_o (by decide) (by decide) rfl) ?_
  refine tot_bind (cs_X8_blockPowerOf T o a0 (0 : Int32) r_1 a1 a2 h_T k_o k_a0 k_a1 w_a1 (by omega) (by omega) (by omega) (by omega)) (fun T_3 d_T_3 => ?_)
  have h_T_3 : IV R B K1 K2 T_3 := d_T_3.1
  have y_T_3 : FW R [3202] T T_3 := d_T_3.2
  have x_T_3 := x_T.tr (y_T_3.w (by decide))
  unfold g_X8_powerOf_b13
  exact tot_some ⟨h_T_3, x_T_3⟩
set_option maxHeartbeats 4000000 in
set_option maxRecDepth 10000 in
theorem cl_X8_productSum_b10 {R : Nat → Nat} {B K1 K2 : Nat} {Q : AT → Prop} (l0 : Nat) (l1 : Int32) (l2 : Int32) (l3 : Int32) (l4 : Nat) (l5 : Int32) (T00 : AT) (k_l0 : R l0 = 8) {r_l4 : Nat} (k_l4 : R l4 = r_l4) (w_l4 : isW r_l4 = true) (g0 : 0 ≤ l1.toInt ∧ l1.toInt ≤ 11) (g1 : 0 ≤ l2.toInt ∧ l2.toInt ≤ 11) (g2 : 0 ≤ l3.toInt ∧ l3.toInt ≤ 199) (g3 : 0 ≤ l5.toInt ∧ l5.toInt ≤ 11) (g4 : 0 ≤ l5.toInt ∧ l5.toInt < cnt r_l4) (hx0 : ∀ (T : AT), (IV R B K1 K2 T) → (FW R [3202] T00 T) → Tot (some (T)) Q) : ∀ (n : Nat) (T : AT) (l6 : Int32), (IV R B K1 K2 T) → (FW R [3202] T00 T) → (0 ≤ l6.toInt ∧ l6.toInt ≤ 200) → 200 - l6.toInt < (n : Int) → Tot (g_X8_productSum_b10 n T l0 l1 l2 l3 l4 l5 l6) Q := by
  have z0 : (Int32.ofInt (1) : Int32).toInt = 1 := by decide
  have cc_101 : cnt 101 = 1 := rfl
  have cc_102 : cnt 102 = 12 := rfl
  have cc_103 : cnt 103 = 144 := rfl
  have cc_104 : cnt 104 = 2400 := rfl
  have cc_105 : cnt 105 = 7200 := rfl
  have j_l1 := i_any l1
  have j_l2 := i_any l2
  have j_l3 := i_any l3
  have c7_l4 := (isW_f w_l4).2.2.2.1
  have j_l5 := i_any l5
  intro n
  induction n with
  | zero =>
    intro T l6 h_T x_T g_l6 hm
    exfalso
    omega
  | succ n ih =>
    intro T l6 h_T x_T g_l6 hm
    unfold g_X8_productSum_b10
    refine tot_let (fun v_20 e_v_20 => ?_)
    have q_v_20 := i_add e_v_20 (by omega) (by omega)
    refine tot_oif (iv_oO h_T k_l0 (by decide) (by decide) rfl) ?_
    refine tot_let (fun v_21 e_v_21 => ?_)
    have r_v_21 : 0 ≤ v_21.toInt ∧ v_21.toInt ≤ 200 := iv_int h_T k_l0 (by decide) (by decide) e_v_21 rfl
    refine tot_if (fun c_28 => ?_) (fun c_28 => ?_)
    · replace c_28 := i_le c_28
      exact hx0 T h_T x_T
    · replace c_28 := i_nle c_28
      refine tot_oif (iv_oO h_T k_l0 (by decide) (by decide) rfl) ?_
      refine tot_ref h_T k_l0 (by decide) (by decide) (r2 := 104) (rfl : rtg 8 10 = 104) (by decide) (fun n_22 k_n_22 e_n_22 => ?_)
      refine tot_bind (cs_X8_placeOf l1 l6 (by omega) (by omega)) (fun r_23 d_r_23 => ?_)
      replace d_r_23 : (0 ≤ r_23.toInt ∧ r_23.toInt ≤ 2399) := d_r_23
      refine tot_oif (iv_oO h_T k_l0 (by decide) (by decide) rfl) ?_
      refine tot_ref1 e_n_22 ?_
      refine tot_let (fun v_25 e_v_25 => ?_)
      have q_v_25 := i_add e_v_25 (by omega) (by omega)
      refine tot_bind (cs_X8_placeOf l2 v_25 (by omega) (by omega)) (fun r_26 d_r_26 => ?_)
      replace d_r_26 : (0 ≤ r_26.toInt ∧ r_26.toInt ≤ 2399) := d_r_26
      refine tot_oif (w_oO h_T k_l4 w_l4) ?_
      refine tot_bind (c_addProduct (a0 := l5) (a2 := r_23) (a4 := r_26) k_l4 w_l4 k_n_22 (rfl : isW 104 = true) k_n_22 (rfl : isW 104 = true) h_T (by omega) (by omega) (by omega)) (fun T_27 d_T_27 => ?_)
      have h_T_27 : IV R B K1 K2 T_27 := d_T_27.1
      have y_T_27 : FW R [3202] T T_27 := (fw_wx d_T_27.2 k_l4 w_l4 (by decide))
      have x_T_27 := x_T.tr (y_T_27.w (by decide))
      unfold g_X8_productSum_b50
      refine tot_let (fun v_29 e_v_29 => ?_)
      have q_v_29 := i_add e_v_29 (by omega) (by omega)
      exact ih T_27 v_29 h_T_27 x_T_27 (by omega) (by omega)
set_option maxHeartbeats 4000000 in
set_option maxRecDepth 10000 in
theorem cs_X8_productSum {R : Nat → Nat} {B K1 K2 : Nat} (T : AT) (o : Nat) (a0 : Int32) (a1 : Int32) (a2 : Int32) (a3 : Nat) (a4 : Int32) (h_T : IV R B K1 K2 T) (k_o : R o = 8) {r_a3 : Nat} (k_a3 : R a3 = r_a3) (w_a3 : isW r_a3 = true) (g0 : 0 ≤ a0.toInt ∧ a0.toInt ≤ 11) (g1 : 0 ≤ a1.toInt ∧ a1.toInt ≤ 11) (g2 : 0 ≤ a2.toInt ∧ a2.toInt ≤ 199) (g3 : 0 ≤ a4.toInt ∧ a4.toInt ≤ 11) (g4 : 0 ≤ a4.toInt ∧ a4.toInt < cnt r_a3) : Tot (g_X8_productSum T o a0 a1 a2 a3 a4) (fun T1 => IV R B K1 K2 T1 ∧ FW R [3202] T T1) := by
  have z0 : (0 : Int32).toInt = 0 := by decide
  have cc_101 : cnt 101 = 1 := rfl
  have cc_102 : cnt 102 = 12 := rfl
  have cc_103 : cnt 103 = 144 := rfl
  have cc_104 : cnt 104 = 2400 := rfl
  have cc_105 : cnt 105 = 7200 := rfl
  have x_T : FW R [3202] T T := FW.rf
  have j_a0 := i_any a0
  have j_a1 := i_any a1
  have j_a2 := i_any a2
  have j_a4 := i_any a4
  have c7_a3 := (isW_f w_a3).2.2.2.1
  unfold g_X8_productSum
  refine tot_oif (w_oO h_T k_a3 w_a3) ?_
  refine tot_bind (c_clear (a0 := a4) h_T k_a3 w_a3 (by omega)) (fun T_1 d_T_1 => ?_)
  have h_T_1 : IV R B K1 K2 T_1 := d_T_1.1
  have y_T_1 : FW R [3202] T T_1 := (fw_of d_T_1.2)
  have x_T_1 := x_T.tr (y_T_1.w (by decide))
  refine cl_X8_productSum_b10 o a0 a1 a2 a3 a4 T k_o k_a3 w_a3 (by omega) (by omega) (by omega) (by omega) (by omega) ?_ 16384 T_1 0 h_T_1 x_T_1 (by omega) (by omega)
  · intro T_30 h_T_30 x_T_30
    exact tot_some ⟨h_T_30, x_T_30⟩
set_option maxHeartbeats 4000000 in
set_option maxRecDepth 10000 in
theorem cl_X8_subtractBeam_b53 {R : Nat → Nat} {B K1 K2 : Nat} {Q : AT → Prop} {k18 : AT → Nat → Nat → Int32 → Int32 → Int32 → Int32 → Option (AT)} (l0 : Nat) (l1 : Nat) (l2 : Int32) (l3 : Int32) (l4 : Int32) (l5 : Int32) (T00 : AT) (k_l0 : R l0 = 8) (k_l1 : R l1 = 50) (g0 : 1 ≤ l2.toInt ∧ l2.toInt ≤ 100) (g1 : 1 ≤ l4.toInt ∧ l4.toInt ≤ 200) (g2 : 0 ≤ l5.toInt ∧ l5.toInt ≤ 199) (hx0 : ∀ (T : AT), (IV R B K1 K2 T) → (FW R [258, 3202] T00 T) → Tot (elet (l5 + Int32.ofInt (1)) fun v_96 => k18 T l0 l1 l2 l3 l4 v_96) Q) : ∀ (n : Nat) (T : AT) (l6 : Int32), (IV R B K1 K2 T) → (FW R [258, 3202] T00 T) → (0 ≤ l6.toInt ∧ l6.toInt ≤ 12) → 12 - l6.toInt < (n : Int) → Tot (g_X8_subtractBeam_b53 k18 n T l0 l1 l2 l3 l4 l5 l6) Q := by
  have z0 : (0 : Int32).toInt = 0 := by decide
  have z1 : (Int32.ofInt (1) : Int32).toInt = 1 := by decide
  have z2 : ((0 : Int32) : Int32).toInt = 0 := by decide
  have z3 : (((-1) : Int32) : Int32).toInt = -1 := by decide
  have cc_101 : cnt 101 = 1 := rfl
  have cc_102 : cnt 102 = 12 := rfl
  have cc_103 : cnt 103 = 144 := rfl
  have cc_104 : cnt 104 = 2400 := rfl
  have cc_105 : cnt 105 = 7200 := rfl
  have j_l2 := i_any l2
  have j_l3 := i_any l3
  have j_l4 := i_any l4
  have j_l5 := i_any l5
  intro n
  induction n with
  | zero =>
    intro T l6 h_T x_T g_l6 hm
    exfalso
    omega
  | succ n ih =>
    intro T l6 h_T x_T g_l6 hm
    unfold g_X8_subtractBeam_b53
    refine tot_oif (iv_oO h_T k_l0 (by decide) (by decide) rfl) ?_
    refine tot_let (fun v_95 e_v_95 => ?_)
    have r_v_95 : 0 ≤ v_95.toInt ∧ v_95.toInt ≤ 12 := iv_int h_T k_l0 (by decide) (by decide) e_v_95 rfl
    refine tot_if (fun c_106 => ?_) (fun c_106 => ?_)
    · replace c_106 := i_le c_106
      exact hx0 T h_T x_T
    · replace c_106 := i_nle c_106
      refine tot_oif (iv_aA h_T k_l1 (by decide) (by decide) rfl rfl) ?_
      refine tot_oif (by rw [iv_len h_T k_l1 (by decide) (by decide) (rfl : shp 50 = (100, 12))]; exact i_inb (by omega) (by omega)) ?_
      refine tot_let (fun v_97 e_v_97 => ?_)
      have r_v_97 := i_any v_97
      refine tot_let (fun v_98 e_v_98 => ?_)
      have r_v_98 := i_any v_98
      refine tot_oif (iv_oO h_T k_l0 (by decide) (by decide) rfl) ?_
      refine tot_ref h_T k_l0 (by decide) (by decide) (r2 := 62) (rfl : rtg 8 3 = 62) (by decide) (fun n_99 k_n_99 e_n_99 => ?_)
      refine tot_oif (iv_aA h_T k_n_99 (by decide) (by decide) rfl rfl) ?_
      refine tot_oif (by rw [iv_len h_T k_n_99 (by decide) (by decide) (rfl : shp 62 = (102, 12))]; exact i_inb (by omega) (by omega)) ?_
      refine tot_let (fun v_100 e_v_100 => ?_)
      have r_v_100 : 0 ≤ v_100.toInt ∧ v_100.toInt ≤ 1 := iv_int h_T k_n_99 (by decide) (by decide) e_v_100 rfl
      refine tot_if (fun c_107 => ?_) (fun c_107 => ?_)
      · replace c_107 := i_eq c_107
        refine tot_if (fun c_108 => ?_) (fun c_108 => ?_)
        · replace c_108 := i_lt c_108
          unfold g_X8_subtractBeam_b115
          refine tot_let (fun v_109 e_v_109 => ?_)
          have q_v_109 := i_add e_v_109 (by omega) (by omega)
          exact ih T v_109 h_T x_T (by omega) (by omega)
        · replace c_108 := i_nlt c_108
          refine tot_oif (iv_oO h_T k_l0 (by decide) (by decide) rfl) ?_
          refine tot_let (fun v_101 e_v_101 => ?_)
          have r_v_101 : 0 ≤ v_101.toInt ∧ v_101.toInt ≤ 200 := iv_int h_T k_l0 (by decide) (by decide) e_v_101 rfl
          refine tot_if (fun c_110 => ?_) (fun c_110 => ?_)
          · replace c_110 := i_le c_110
            unfold g_X8_subtractBeam_b115
            refine tot_let (fun v_111 e_v_111 => ?_)
            have q_v_111 := i_add e_v_111 (by omega) (by omega)
            exact ih T v_111 h_T x_T (by omega) (by omega)
          · replace c_110 := i_nle c_110
            refine tot_oif (iv_oO h_T k_l0 (by decide) (by decide) rfl) ?_
            refine tot_ref h_T k_l0 (by decide) (by decide) (r2 := 104) (rfl : rtg 8 10 = 104) (by decide) (fun n_102 k_n_102 e_n_102 => ?_)
            refine tot_bind (cs_X8_placeOf l6 v_98 (by omega) (by omega)) (fun r_103 d_r_103 => ?_)
            replace d_r_103 : (0 ≤ r_103.toInt ∧ r_103.toInt ≤ 2399) := d_r_103
            refine tot_oif (iv_oO h_T k_l0 (by decide) (by decide) rfl) ?_
            refine tot_ref h_T k_l0 (by decide) (by decide) (r2 := 101) (rfl : rtg 8 11 = 101) (by decide) (fun n_104 k_n_104 e_n_104 => ?_)
            refine tot_oif (w_oO h_T k_n_102 (rfl : isW 104 = true)) ?_
            refine tot_bind (c_add (a0 := r_103) (a2 := (0 : Int32)) (a3 := ((-1) : Int32)) k_n_102 (rfl : isW 104 = true) k_n_104 (rfl : isW 101 = true) h_T (by omega) (by omega)) (fun T_105 d_T_105 => ?_)
            have h_T_105 : IV R B K1 K2 T_105 := d_T_105.1
            have y_T_105 : FW R [3202] T T_105 := (fw_wx d_T_105.2 k_n_102 (rfl : isW 104 = true) (by decide))
            have x_T_105 := x_T.tr (y_T_105.w (by decide))
            unfold g_X8_subtractBeam_b115
            refine tot_let (fun v_112 e_v_112 => ?_)
            have q_v_112 := i_add e_v_112 (by omega) (by omega)
            exact ih T_105 v_112 h_T_105 x_T_105 (by omega) (by omega)
      · replace c_107 := i_ne c_107
        unfold g_X8_subtractBeam_b115
        refine tot_let (fun v_113 e_v_113 => ?_)
        have q_v_113 := i_add e_v_113 (by omega) (by omega)
        exact ih T v_113 h_T x_T (by omega) (by omega)
set_option maxHeartbeats 4000000 in
set_option maxRecDepth 10000 in
theorem cl_X8_subtractBeam_b18 {R : Nat → Nat} {B K1 K2 : Nat} {Q : AT → Prop} (l0 : Nat) (l1 : Nat) (l2 : Int32) (l3 : Int32) (l4 : Int32) (T00 : AT) (k_l0 : R l0 = 8) (k_l1 : R l1 = 50) (g0 : 1 ≤ l2.toInt ∧ l2.toInt ≤ 100) (g1 : 0 ≤ l4.toInt ∧ l4.toInt ≤ 200) (hx0 : ∀ (T : AT), (IV R B K1 K2 T) → (FW R [258, 3202] T00 T) → Tot (oif (oO T l0 8 = true) <| elet (T.2.2.1 l0 2) fun v_71 => elet (v_71 + 1) fun v_72 => oif (oO T l0 8 = true) <| elet (uI T l0 2 v_72) fun T_73 => some (T_73)) Q) : ∀ (n : Nat) (T : AT) (l5 : Int32), (IV R B K1 K2 T) → (FW R [258, 3202] T00 T) → (0 ≤ l5.toInt ∧ l5.toInt ≤ 200) → 200 - l5.toInt < (n : Int) → Tot (g_X8_subtractBeam_b18 n T l0 l1 l2 l3 l4 l5) Q := by
  have z0 : ((0 : Int32) : Int32).toInt = 0 := by decide
  have z1 : (0 : Int32).toInt = 0 := by decide
  have z2 : (Int32.ofInt (1) : Int32).toInt = 1 := by decide
  have cc_101 : cnt 101 = 1 := rfl
  have cc_102 : cnt 102 = 12 := rfl
  have cc_103 : cnt 103 = 144 := rfl
  have cc_104 : cnt 104 = 2400 := rfl
  have cc_105 : cnt 105 = 7200 := rfl
  have j_l2 := i_any l2
  have j_l3 := i_any l3
  have j_l4 := i_any l4
  intro n
  induction n with
  | zero =>
    intro T l5 h_T x_T g_l5 hm
    exfalso
    omega
  | succ n ih =>
    intro T l5 h_T x_T g_l5 hm
    unfold g_X8_subtractBeam_b18
    refine tot_if (fun c_75 => ?_) (fun c_75 => ?_)
    · replace c_75 := i_le c_75
      exact hx0 T h_T x_T
    · replace c_75 := i_nle c_75
      refine tot_oif (iv_oO h_T k_l0 (by decide) (by decide) rfl) ?_
      refine tot_bind (cs_X8_focus T l0 l1 l5 h_T k_l0 k_l1 ) (fun T_74 d_T_74 => ?_)
      have h_T_74 : IV R B K1 K2 T_74 := d_T_74.1
      have y_T_74 : FW R [3202] T T_74 := d_T_74.2
      have x_T_74 := x_T.tr (y_T_74.w (by decide))
      unfold g_X8_subtractBeam_b32
      refine tot_oif (iv_oO h_T_74 k_l0 (by decide) (by decide) rfl) ?_
      refine tot_ref h_T_74 k_l0 (by decide) (by decide) (r2 := 101) (rfl : rtg 8 11 = 101) (by decide) (fun n_76 k_n_76 e_n_76 => ?_)
      refine tot_oif (w_oO h_T_74 k_n_76 (rfl : isW 101 = true)) ?_
      refine tot_bind (c_multiply (a0 := (0 : Int32)) (a1 := l2) k_n_76 (rfl : isW 101 = true) h_T_74 (by omega)) (fun T_77 d_T_77 => ?_)
      have h_T_77 : IV R B K1 K2 T_77 := d_T_77.1
      have y_T_77 : FW R [3202] T_74 T_77 := (fw_wx d_T_77.2 k_n_76 (rfl : isW 101 = true) (by decide))
      have x_T_77 := x_T_74.tr (y_T_77.w (by decide))
      unfold g_X8_subtractBeam_b41
      refine tot_oif (iv_oO h_T_77 k_l0 (by decide) (by decide) rfl) ?_
      refine tot_ref h_T_77 k_l0 (by decide) (by decide) (r2 := 101) (rfl : rtg 8 11 = 101) (by decide) (fun n_78 k_n_78 e_n_78 => ?_)
      refine tot_oif (w_oO h_T_77 k_n_78 (rfl : isW 101 = true)) ?_
      refine tot_bind (c_divide (a0 := (0 : Int32)) (a1 := l3) k_n_78 (rfl : isW 101 = true) h_T_77 (by omega)) (fun T_79 d_T_79 => ?_)
      have h_T_79 : IV R B K1 K2 T_79 := d_T_79.1
      have y_T_79 : FW R [3202] T_77 T_79 := (fw_wx d_T_79.2 k_n_78 (rfl : isW 101 = true) (by decide))
      have x_T_79 := x_T_77.tr (y_T_79.w (by decide))
      unfold g_X8_subtractBeam_b50
      refine cl_X8_subtractBeam_b53 l0 l1 l2 l3 l4 l5 T00 k_l0 k_l1 (by omega) (by omega) (by omega) ?_ 16384 T_79 0 h_T_79 x_T_79 (by omega) (by omega)
      · intro T_114 h_T_114 x_T_114
        refine tot_let (fun v_115 e_v_115 => ?_)
        have q_v_115 := i_add e_v_115 (by omega) (by omega)
        exact ih T_114 v_115 h_T_114 x_T_114 (by omega) (by omega)
set_option maxHeartbeats 4000000 in
set_option maxRecDepth 10000 in
theorem cs_X8_subtractBeam {R : Nat → Nat} {B K1 K2 : Nat} (T : AT) (o : Nat) (a0 : Nat) (a1 : Int32) (h_T : IV R B K1 K2 T) (k_o : R o = 8) (k_a0 : R a0 = 50) (g0 : 1 ≤ a1.toInt ∧ a1.toInt ≤ 100) : Tot (g_X8_subtractBeam T o a0 a1) (fun T1 => IV R B K1 K2 T1 ∧ FW R [258, 3202] T T1) := by
  have z0 : (100 : Int32).toInt = 100 := by decide
  have z1 : (0 : Int32).toInt = 0 := by decide
  have z2 : (1 : Int32).toInt = 1 := by decide
  have cc_101 : cnt 101 = 1 := rfl
  have cc_102 : cnt 102 = 12 := rfl
  have cc_103 : cnt 103 = 144 := rfl
  have cc_104 : cnt 104 = 2400 := rfl
  have cc_105 : cnt 105 = 7200 := rfl
  have x_T : FW R [258, 3202] T T := FW.rf
  have j_a1 := i_any a1
  unfold g_X8_subtractBeam
  refine tot_oif (iv_oO h_T k_o (by decide) (by decide) rfl) ?_
  refine tot_bindq (R := fun r_1 : Int32 => True) (cs_X8_activeWeight T o h_T k_o ) (fun r_1 d_r_1 => ?_)
  have r_r_1 := i_any r_1
  refine tot_let (fun v_3 e_v_3 => ?_)
  have r_v_3 := i_any v_3
  refine tot_oif (iv_oO h_T k_o (by decide) (by decide) rfl) ?_
  refine tot_bindq (R := fun r_4 : Int32 => (0 ≤ r_4.toInt ∧ r_4.toInt ≤ 200)) (cs_X8_windowOf T o a0 h_T k_o k_a0 ) (fun r_4 d_r_4 => ?_)
  replace d_r_4 : (0 ≤ r_4.toInt ∧ r_4.toInt ≤ 200) := d_r_4
  refine cl_X8_subtractBeam_b18 o a0 a1 v_3 r_4 T k_o k_a0 (by omega) (by omega) ?_ 16384 T 0 h_T x_T (by omega) (by omega)
  · intro T_116 h_T_116 x_T_116
    refine tot_oif (iv_oO h_T_116 k_o (by decide) (by decide) rfl) ?_
    refine tot_let (fun v_117 e_v_117 => ?_)
    have r_v_117 := i_any v_117
    refine tot_let (fun v_118 e_v_118 => ?_)
    have r_v_118 := i_any v_118
    refine tot_oif (iv_oO h_T_116 k_o (by decide) (by decide) rfl) ?_
    refine tot_let (fun T_119 e_T_119 => ?_)
    have ja_T_119 := i_any v_118
    have h_T_119 : IV R B K1 K2 T_119 := by rw [e_T_119]; exact iv_uI (a := -2147483648) (b := 2147483647) h_T_116 k_o (by decide) (by decide) rfl (by omega) (.inl rfl)
    have x_T_119 := x_T_116.tr (fw_uI e_T_119 k_o (by decide))
    exact tot_some ⟨h_T_119, x_T_119⟩
set_option maxHeartbeats 4000000 in
set_option maxRecDepth 10000 in
theorem cl_X9_addWord_b3 {R : Nat → Nat} {B K1 K2 : Nat} {Q : AT → Prop} (l0 : Nat) (l1 : Int32) (T00 : AT) (k_l0 : R l0 = 9) (hx0 : ∀ (T : AT), (IV R B K1 K2 T) → (FW R [289, 1312] T00 T) → Tot (some (T)) Q) : ∀ (n : Nat) (T : AT) (l2 : Int32), (IV R B K1 K2 T) → (FW R [289, 1312] T00 T) → (-8 ≤ l2.toInt ∧ l2.toInt ≤ 24) → l2.toInt - (-8) < (n : Int) → Tot (g_X9_addWord_b3 n T l0 l1 l2) Q := by
  have z0 : (0 : Int32).toInt = 0 := by decide
  have z1 : (1000 : Int32).toInt = 1000 := by decide
  have z2 : (Int32.ofInt (-8) : Int32).toInt = -8 := by decide
  have z3 : (255 : Int32).toInt = 255 := by decide
  have z4 : (1 : Int32).toInt = 1 := by decide
  have cc_101 : cnt 101 = 1 := rfl
  have cc_102 : cnt 102 = 12 := rfl
  have cc_103 : cnt 103 = 144 := rfl
  have cc_104 : cnt 104 = 2400 := rfl
  have cc_105 : cnt 105 = 7200 := rfl
  have j_l1 := i_any l1
  intro n
  induction n with
  | zero =>
    intro T l2 h_T x_T g_l2 hm
    exfalso
    omega
  | succ n ih =>
    intro T l2 h_T x_T g_l2 hm
    unfold g_X9_addWord_b3
    refine tot_if (fun c_32 => ?_) (fun c_32 => ?_)
    · replace c_32 := i_lt c_32
      exact hx0 T h_T x_T
    · replace c_32 := i_nlt c_32
      refine tot_oif (iv_oO h_T k_l0 (by decide) (by decide) rfl) ?_
      refine tot_let (fun v_23 e_v_23 => ?_)
      have q_v_23 := i_eq e_v_23
      have r_v_23 : 0 ≤ v_23.toInt ∧ v_23.toInt ≤ 1000 := iv_int h_T k_l0 (by decide) (by decide) e_v_23 rfl
      refine tot_if (fun c_33 => ?_) (fun c_33 => ?_)
      · replace c_33 := i_le c_33
        unfold g_X9_addWord_b43
        refine tot_let (fun v_34 e_v_34 => ?_)
        have q_v_34 := i_add e_v_34 (by omega) (by omega)
        exact ih T v_34 h_T x_T (by omega) (by omega)
      · replace c_33 := i_nle c_33
        refine tot_oif (iv_oO h_T k_l0 (by decide) (by decide) rfl) ?_
        refine tot_ref h_T k_l0 (by decide) (by decide) (r2 := 41) (rfl : rtg 9 0 = 41) (by decide) (fun n_24 k_n_24 e_n_24 => ?_)
        refine tot_oif (iv_oO h_T k_l0 (by decide) (by decide) rfl) ?_
        refine tot_let (fun v_25 e_v_25 => ?_)
        have u_v_25 : v_25.toInt = v_23.toInt := by rw [e_v_25, e_v_23]
        have q_v_25 := i_eq e_v_25
        have r_v_25 : 0 ≤ v_25.toInt ∧ v_25.toInt ≤ 1000 := iv_int h_T k_l0 (by decide) (by decide) e_v_25 rfl
        refine tot_let (fun v_26 e_v_26 => ?_)
        have r_v_26 := i_any v_26
        refine tot_let (fun v_27 e_v_27 => ?_)
        have r_v_27 := i_any v_27
        refine tot_oif (iv_aA h_T k_n_24 (by decide) (by decide) rfl rfl) ?_
        refine tot_oif (by rw [iv_len h_T k_n_24 (by decide) (by decide) (rfl : shp 41 = (100, 1000))]; exact i_inb (by omega) (by omega)) ?_
        refine tot_let (fun T_28 e_T_28 => ?_)
        have ja_T_28 := i_any v_27
        have h_T_28 : IV R B K1 K2 T_28 := by rw [e_T_28]; exact iv_uI (a := -2147483648) (b := 2147483647) h_T k_n_24 (by decide) (by decide) rfl (by omega) (.inl rfl)
        have x_T_28 := x_T.tr (fw_uA e_T_28 k_n_24 rfl rfl (by decide))
        have f_T_28_l0_1 : (T_28.2.2.1 l0 1).toInt = (T.2.2.1 l0 1).toInt := congrArg Int32.toInt ((fw_uA (W := [1312]) e_T_28 k_n_24 rfl rfl (by decide)) l0 1 (by rw [k_l0]; decide))
        refine tot_oif (iv_oO h_T_28 k_l0 (by decide) (by decide) rfl) ?_
        refine tot_let (fun v_29 e_v_29 => ?_)
        have q_v_29 := i_eq e_v_29
        have r_v_29 : 0 ≤ v_29.toInt ∧ v_29.toInt ≤ 1000 := iv_int h_T_28 k_l0 (by decide) (by decide) e_v_29 rfl
        refine tot_let (fun v_30 e_v_30 => ?_)
        have q_v_30 := i_add e_v_30 (by omega) (by omega)
        refine tot_oif (iv_oO h_T_28 k_l0 (by decide) (by decide) rfl) ?_
        refine tot_let (fun T_31 e_T_31 => ?_)
        have h_T_31 : IV R B K1 K2 T_31 := by rw [e_T_31]; exact iv_uI (a := 0) (b := 1000) h_T_28 k_l0 (by decide) (by decide) rfl (by omega) (.inl rfl)
        have x_T_31 := x_T_28.tr (fw_uI e_T_31 k_l0 (by decide))
        have f_T_31_l0_1 : (T_31.2.2.1 l0 1).toInt = (v_30 : Int32).toInt := by rw [e_T_31]; exact congrArg Int32.toInt (uI_at _ _ _ _)
        unfold g_X9_addWord_b43
        refine tot_let (fun v_35 e_v_35 => ?_)
        have q_v_35 := i_add e_v_35 (by omega) (by omega)
        exact ih T_31 v_35 h_T_31 x_T_31 (by omega) (by omega)
set_option maxHeartbeats 4000000 in
set_option maxRecDepth 10000 in
theorem cs_X9_addWord {R : Nat → Nat} {B K1 K2 : Nat} (T : AT) (o : Nat) (a0 : Int32) (h_T : IV R B K1 K2 T) (k_o : R o = 9) : Tot (g_X9_addWord T o a0) (fun T1 => IV R B K1 K2 T1 ∧ FW R [289, 1312] T T1) := by
  have z0 : (24 : Int32).toInt = 24 := by decide
  have cc_101 : cnt 101 = 1 := rfl
  have cc_102 : cnt 102 = 12 := rfl
  have cc_103 : cnt 103 = 144 := rfl
  have cc_104 : cnt 104 = 2400 := rfl
  have cc_105 : cnt 105 = 7200 := rfl
  have x_T : FW R [289, 1312] T T := FW.rf
  have j_a0 := i_any a0
  unfold g_X9_addWord
  refine cl_X9_addWord_b3 o a0 T k_o ?_ 16384 T 24 h_T x_T (by omega) (by omega)
  · intro T_36 h_T_36 x_T_36
    exact tot_some ⟨h_T_36, x_T_36⟩
set_option maxHeartbeats 4000000 in
set_option maxRecDepth 10000 in
theorem cs_X11_append {R : Nat → Nat} {B K1 K2 : Nat} (T : AT) (o : Nat) (a0 : Int32) (a1 : Int32) (a2 : Int32) (a3 : Int32) (a4 : Int32) (h_T : IV R B K1 K2 T) (k_o : R o = 11) : Tot (g_X11_append T o a0 a1 a2 a3 a4) (fun r => (IV R B K1 K2 r.2 ∧ FW R [289, 1312] T r.2) ∧ (-1 ≤ r.1.toInt ∧ r.1.toInt ≤ 1000)) := by
  have z0 : (20 : Int32).toInt = 20 := by decide
  have z1 : (1000 : Int32).toInt = 1000 := by decide
  have z2 : ((-1) : Int32).toInt = -1 := by decide
  have cc_101 : cnt 101 = 1 := rfl
  have cc_102 : cnt 102 = 12 := rfl
  have cc_103 : cnt 103 = 144 := rfl
  have cc_104 : cnt 104 = 2400 := rfl
  have cc_105 : cnt 105 = 7200 := rfl
  have x_T : FW R [289, 1312] T T := FW.rf
  have j_a0 := i_any a0
  have j_a1 := i_any a1
  have j_a2 := i_any a2
  have j_a3 := i_any a3
  have j_a4 := i_any a4
  unfold g_X11_append
  refine tot_oif (iv_oO h_T k_o (by decide) (by decide) rfl) ?_
  refine tot_ref h_T k_o (by decide) (by decide) (r2 := 9) (rfl : rtg 11 0 = 9) (by decide) (fun n_1 k_n_1 e_n_1 => ?_)
  refine tot_oif (iv_oO h_T k_n_1 (by decide) (by decide) rfl) ?_
  refine tot_let (fun v_2 e_v_2 => ?_)
  have r_v_2 : 0 ≤ v_2.toInt ∧ v_2.toInt ≤ 1000 := iv_int h_T k_n_1 (by decide) (by decide) e_v_2 rfl
  refine tot_let (fun v_3 e_v_3 => ?_)
  have q_v_3 := i_add e_v_3 (by omega) (by omega)
  refine tot_if (fun c_16 => ?_) (fun c_16 => ?_)
  · replace c_16 := i_le c_16
    refine tot_oif (iv_oO h_T k_o (by decide) (by decide) rfl) ?_
    refine tot_ref1 e_n_1 ?_
    refine tot_oif (iv_oO h_T k_n_1 (by decide) (by decide) rfl) ?_
    refine tot_bind (cs_X9_addWord T n_1 a0 h_T k_n_1 ) (fun T_5 d_T_5 => ?_)
    have h_T_5 : IV R B K1 K2 T_5 := d_T_5.1
    have y_T_5 : FW R [289, 1312] T T_5 := d_T_5.2
    have x_T_5 := x_T.tr (y_T_5.w (by decide))
    refine tot_oif (iv_oO h_T_5 k_o (by decide) (by decide) rfl) ?_
    refine tot_ref h_T_5 k_o (by decide) (by decide) (r2 := 9) (rfl : rtg 11 0 = 9) (by decide) (fun n_6 k_n_6 e_n_6 => ?_)
    refine tot_oif (iv_oO h_T_5 k_n_6 (by decide) (by decide) rfl) ?_
    refine tot_bind (cs_X9_addWord T_5 n_6 a1 h_T_5 k_n_6 ) (fun T_7 d_T_7 => ?_)
    have h_T_7 : IV R B K1 K2 T_7 := d_T_7.1
    have y_T_7 : FW R [289, 1312] T_5 T_7 := d_T_7.2
    have x_T_7 := x_T_5.tr (y_T_7.w (by decide))
    refine tot_oif (iv_oO h_T_7 k_o (by decide) (by decide) rfl) ?_
    refine tot_ref h_T_7 k_o (by decide) (by decide) (r2 := 9) (rfl : rtg 11 0 = 9) (by decide) (fun n_8 k_n_8 e_n_8 => ?_)
    refine tot_oif (iv_oO h_T_7 k_n_8 (by decide) (by decide) rfl) ?_
    refine tot_bind (cs_X9_addWord T_7 n_8 a2 h_T_7 k_n_8 ) (fun T_9 d_T_9 => ?_)
    have h_T_9 : IV R B K1 K2 T_9 := d_T_9.1
    have y_T_9 : FW R [289, 1312] T_7 T_9 := d_T_9.2
    have x_T_9 := x_T_7.tr (y_T_9.w (by decide))
    refine tot_oif (iv_oO h_T_9 k_o (by decide) (by decide) rfl) ?_
    refine tot_ref h_T_9 k_o (by decide) (by decide) (r2 := 9) (rfl : rtg 11 0 = 9) (by decide) (fun n_10 k_n_10 e_n_10 => ?_)
    refine tot_oif (iv_oO h_T_9 k_n_10 (by decide) (by decide) rfl) ?_
    refine tot_bind (cs_X9_addWord T_9 n_10 a3 h_T_9 k_n_10 ) (fun T_11 d_T_11 => ?_)
    have h_T_11 : IV R B K1 K2 T_11 := d_T_11.1
    have y_T_11 : FW R [289, 1312] T_9 T_11 := d_T_11.2
    have x_T_11 := x_T_9.tr (y_T_11.w (by decide))
    refine tot_oif (iv_oO h_T_11 k_o (by decide) (by decide) rfl) ?_
    refine tot_ref h_T_11 k_o (by decide) (by decide) (r2 := 9) (rfl : rtg 11 0 = 9) (by decide) (fun n_12 k_n_12 e_n_12 => ?_)
    refine tot_oif (iv_oO h_T_11 k_n_12 (by decide) (by decide) rfl) ?_
    refine tot_bind (cs_X9_addWord T_11 n_12 a4 h_T_11 k_n_12 ) (fun T_13 d_T_13 => ?_)
    have h_T_13 : IV R B K1 K2 T_13 := d_T_13.1
    have y_T_13 : FW R [289, 1312] T_11 T_13 := d_T_13.2
    have x_T_13 := x_T_11.tr (y_T_13.w (by decide))
    refine tot_oif (iv_oO h_T_13 k_o (by decide) (by decide) rfl) ?_
    refine tot_ref h_T_13 k_o (by decide) (by decide) (r2 := 9) (rfl : rtg 11 0 = 9) (by decide) (fun n_14 k_n_14 e_n_14 => ?_)
    refine tot_oif (iv_oO h_T_13 k_n_14 (by decide) (by decide) rfl) ?_
    refine tot_let (fun v_15 e_v_15 => ?_)
    have r_v_15 : 0 ≤ v_15.toInt ∧ v_15.toInt ≤ 1000 := iv_int h_T_13 k_n_14 (by decide) (by decide) e_v_15 rfl
    exact tot_some ⟨⟨h_T_13, x_T_13⟩, (show (-1 ≤ v_15.toInt ∧ v_15.toInt ≤ 1000) from by omega)⟩
  · replace c_16 := i_nle c_16
    exact tot_some ⟨⟨h_T, x_T⟩, (show (-1 ≤ ((-1) : Int32).toInt ∧ ((-1) : Int32).toInt ≤ 1000) from by omega)⟩
set_option maxHeartbeats 4000000 in
set_option maxRecDepth 10000 in
theorem cl_X11_begin_b48 {R : Nat → Nat} {B K1 K2 : Nat} {Q : AT → Prop} (l0 : Nat) (T00 : AT) (k_l0 : R l0 = 11) (hx0 : ∀ (T : AT), (IV R B K1 K2 T) → (FW R [128, 256, 257, 258, 368, 1472, 1568, 1600, 1984, 2016, 2048, 2080, 2112, 3202] T00 T) → Tot (some (T)) Q) : ∀ (n : Nat) (T : AT) (l1 : Int32), (IV R B K1 K2 T) → (FW R [128, 256, 257, 258, 368, 1472, 1568, 1600, 1984, 2016, 2048, 2080, 2112, 3202] T00 T) → (0 ≤ l1.toInt ∧ l1.toInt ≤ 2) → 2 - l1.toInt < (n : Int) → Tot (g_X11_begin_b48 n T l0 l1) Q := by
  have z0 : (2 : Int32).toInt = 2 := by decide
  have z1 : (0 : Int32).toInt = 0 := by decide
  have z2 : (Int32.ofInt (1) : Int32).toInt = 1 := by decide
  have cc_101 : cnt 101 = 1 := rfl
  have cc_102 : cnt 102 = 12 := rfl
  have cc_103 : cnt 103 = 144 := rfl
  have cc_104 : cnt 104 = 2400 := rfl
  have cc_105 : cnt 105 = 7200 := rfl
  intro n
  induction n with
  | zero =>
    intro T l1 h_T x_T g_l1 hm
    exfalso
    omega
  | succ n ih =>
    intro T l1 h_T x_T g_l1 hm
    unfold g_X11_begin_b48
    refine tot_if (fun c_22 => ?_) (fun c_22 => ?_)
    · replace c_22 := i_le c_22
      exact hx0 T h_T x_T
    · replace c_22 := i_nle c_22
      refine tot_oif (iv_oO h_T k_l0 (by decide) (by decide) rfl) ?_
      refine tot_ref h_T k_l0 (by decide) (by decide) (r2 := 49) (rfl : rtg 11 10 = 49) (by decide) (fun n_19 k_n_19 e_n_19 => ?_)
      refine tot_oif (iv_aA h_T k_n_19 (by decide) (by decide) rfl rfl) ?_
      refine tot_oif (by rw [iv_len h_T k_n_19 (by decide) (by decide) (rfl : shp 49 = (102, 2))]; exact i_inb (by omega) (by omega)) ?_
      refine tot_let (fun T_20 e_T_20 => ?_)
      have h_T_20 : IV R B K1 K2 T_20 := by rw [e_T_20]; exact iv_uI (a := 0) (b := 1) h_T k_n_19 (by decide) (by decide) rfl (by omega) (.inl rfl)
      have x_T_20 := x_T.tr (fw_uA e_T_20 k_n_19 rfl rfl (by decide))
      refine tot_let (fun v_21 e_v_21 => ?_)
      have q_v_21 := i_add e_v_21 (by omega) (by omega)
      exact ih T_20 v_21 h_T_20 x_T_20 (by omega) (by omega)
set_option maxHeartbeats 4000000 in
set_option maxRecDepth 10000 in
theorem cs_X11_begin {R : Nat → Nat} {B K1 K2 : Nat} (T : AT) (o : Nat) (h_T : IV R B K1 K2 T) (k_o : R o = 11) : Tot (g_X11_begin T o) (fun T1 => IV R B K1 K2 T1 ∧ FW R [128, 256, 257, 258, 368, 1472, 1568, 1600, 1984, 2016, 2048, 2080, 2112, 3202] T T1) := by
  have z0 : (0 : Int32).toInt = 0 := by decide
  have cc_101 : cnt 101 = 1 := rfl
  have cc_102 : cnt 102 = 12 := rfl
  have cc_103 : cnt 103 = 144 := rfl
  have cc_104 : cnt 104 = 2400 := rfl
  have cc_105 : cnt 105 = 7200 := rfl
  have x_T : FW R [128, 256, 257, 258, 368, 1472, 1568, 1600, 1984, 2016, 2048, 2080, 2112, 3202] T T := FW.rf
  unfold g_X11_begin
  refine tot_oif (iv_oO h_T k_o (by decide) (by decide) rfl) ?_
  refine tot_ref h_T k_o (by decide) (by decide) (r2 := 6) (rfl : rtg 11 14 = 6) (by decide) (fun n_1 k_n_1 e_n_1 => ?_)
  refine tot_oif (iv_oO h_T k_n_1 (by decide) (by decide) rfl) ?_
  refine tot_bind (cs_X6_measureDelays T n_1 h_T k_n_1 ) (fun T_2 d_T_2 => ?_)
  have h_T_2 : IV R B K1 K2 T_2 := d_T_2.1
  have y_T_2 : FW R [1600] T T_2 := d_T_2.2
  have x_T_2 := x_T.tr (y_T_2.w (by decide))
  refine tot_oif (iv_oO h_T_2 k_o (by decide) (by decide) rfl) ?_
  refine tot_ref h_T_2 k_o (by decide) (by decide) (r2 := 8) (rfl : rtg 11 6 = 8) (by decide) (fun n_3 k_n_3 e_n_3 => ?_)
  refine tot_oif (iv_oO h_T_2 k_o (by decide) (by decide) rfl) ?_
  refine tot_ref h_T_2 k_o (by decide) (by decide) (r2 := 6) (rfl : rtg 11 14 = 6) (by decide) (fun n_4 k_n_4 e_n_4 => ?_)
  refine tot_oif (iv_oO h_T_2 k_n_3 (by decide) (by decide) rfl) ?_
  refine tot_bind (cs_X8_begin T_2 n_3 n_4 h_T_2 k_n_3 k_n_4 ) (fun T_5 d_T_5 => ?_)
  have h_T_5 : IV R B K1 K2 T_5 := d_T_5.1
  have y_T_5 : FW R [256, 257, 1984, 2016, 2048, 2080, 2112] T_2 T_5 := d_T_5.2
  have x_T_5 := x_T_2.tr (y_T_5.w (by decide))
  refine tot_oif (iv_oO h_T_5 k_o (by decide) (by decide) rfl) ?_
  refine tot_ref h_T_5 k_o (by decide) (by decide) (r2 := 5) (rfl : rtg 11 2 = 5) (by decide) (fun n_6 k_n_6 e_n_6 => ?_)
  refine tot_oif (iv_oO h_T_5 k_o (by decide) (by decide) rfl) ?_
  refine tot_ref h_T_5 k_o (by decide) (by decide) (r2 := 6) (rfl : rtg 11 14 = 6) (by decide) (fun n_7 k_n_7 e_n_7 => ?_)
  refine tot_oif (iv_oO h_T_5 k_o (by decide) (by decide) rfl) ?_
  refine tot_ref h_T_5 k_o (by decide) (by decide) (r2 := 8) (rfl : rtg 11 6 = 8) (by decide) (fun n_8 k_n_8 e_n_8 => ?_)
  refine tot_oif (iv_oO h_T_5 k_n_6 (by decide) (by decide) rfl) ?_
  refine tot_bind (cs_X5_record T_5 n_6 n_7 n_8 h_T_5 k_n_6 k_n_7 k_n_8 ) (fun T_9 d_T_9 => ?_)
  have h_T_9 : IV R B K1 K2 T_9 := d_T_9.1
  have y_T_9 : FW R [258, 1472, 3202] T_5 T_9 := d_T_9.2
  have x_T_9 := x_T_5.tr (y_T_9.w (by decide))
  unfold g_X11_begin_b33
  refine tot_oif (iv_oO h_T_9 k_o (by decide) (by decide) rfl) ?_
  refine tot_let (fun T_10 e_T_10 => ?_)
  have h_T_10 : IV R B K1 K2 T_10 := by rw [e_T_10]; exact iv_uI (a := 0) (b := 6) h_T_9 k_o (by decide) (by decide) rfl (by omega) (.inl rfl)
  have x_T_10 := x_T_9.tr (fw_uI e_T_10 k_o (by decide))
  refine tot_oif (iv_oO h_T_10 k_o (by decide) (by decide) rfl) ?_
  refine tot_ref h_T_10 k_o (by decide) (by decide) (r2 := 4) (rfl : rtg 11 4 = 4) (by decide) (fun n_11 k_n_11 e_n_11 => ?_)
  refine tot_oif (iv_oO h_T_10 k_n_11 (by decide) (by decide) rfl) ?_
  refine tot_let (fun T_12 e_T_12 => ?_)
  have h_T_12 : IV R B K1 K2 T_12 := by rw [e_T_12]; exact iv_uI (a := 0) (b := 1) h_T_10 k_n_11 (by decide) (by decide) rfl (by omega) (.inl rfl)
  have x_T_12 := x_T_10.tr (fw_uI e_T_12 k_n_11 (by decide))
  refine cl_X11_begin_b48 o T k_o ?_ 16384 T_12 0 h_T_12 x_T_12 (by omega) (by omega)
  · intro T_23 h_T_23 x_T_23
    exact tot_some ⟨h_T_23, x_T_23⟩
set_option maxHeartbeats 4000000 in
set_option maxRecDepth 10000 in
theorem cs_X11_load {R : Nat → Nat} {B K1 K2 : Nat} (T : AT) (o : Nat) (a0 : Int32) (h_T : IV R B K1 K2 T) (k_o : R o = 11) : Tot (g_X11_load T o a0) (fun r => (IV R B K1 K2 r.2.2 ∧ FW R [32, 33, 34, 35, 36, 39, 64, 65, 66, 67, 97, 98, 99, 128, 192, 193, 194, 195, 197, 200, 203, 204, 206, 208, 224, 225, 226, 227, 228, 229, 230, 231, 232, 233, 256, 257, 258, 289, 293, 368, 1344, 1376, 1408, 1472, 1568, 1600, 1760, 1792, 1824, 1856, 1888, 1984, 2016, 2048, 2080, 2112, 3202] T r.2.2) ∧ (r.1 = 0 → (0 ≤ r.2.1.toInt ∧ r.2.1.toInt ≤ 144))) := by
  have z0 : (0 : Int32).toInt = 0 := by decide
  have cc_101 : cnt 101 = 1 := rfl
  have cc_102 : cnt 102 = 12 := rfl
  have cc_103 : cnt 103 = 144 := rfl
  have cc_104 : cnt 104 = 2400 := rfl
  have cc_105 : cnt 105 = 7200 := rfl
  have x_T : FW R [32, 33, 34, 35, 36, 39, 64, 65, 66, 67, 97, 98, 99, 128, 192, 193, 194, 195, 197, 200, 203, 204, 206, 208, 224, 225, 226, 227, 228, 229, 230, 231, 232, 233, 256, 257, 258, 289, 293, 368, 1344, 1376, 1408, 1472, 1568, 1600, 1760, 1792, 1824, 1856, 1888, 1984, 2016, 2048, 2080, 2112, 3202] T T := FW.rf
  have j_a0 := i_any a0
  unfold g_X11_load
  refine tot_if (fun c_14 => ?_) (fun c_14 => ?_)
  · replace c_14 := i_lt c_14
    unfold g_X11_load_b15
    exact tot_some ⟨⟨h_T, x_T⟩, fun q_ => absurd q_ (Nat.succ_ne_zero _)⟩
  · replace c_14 := i_nlt c_14
    refine tot_oif (iv_oO h_T k_o (by decide) (by decide) rfl) ?_
    refine tot_ref h_T k_o (by decide) (by decide) (r2 := 9) (rfl : rtg 11 0 = 9) (by decide) (fun n_1 k_n_1 e_n_1 => ?_)
    refine tot_oif (iv_oO h_T k_n_1 (by decide) (by decide) rfl) ?_
    refine tot_let (fun v_2 e_v_2 => ?_)
    have r_v_2 : 0 ≤ v_2.toInt ∧ v_2.toInt ≤ 1000 := iv_int h_T k_n_1 (by decide) (by decide) e_v_2 rfl
    refine tot_if (fun c_15 => ?_) (fun c_15 => ?_)
    · replace c_15 := i_le c_15
      refine tot_oif (iv_oO h_T k_o (by decide) (by decide) rfl) ?_
      refine tot_ref1 e_n_1 ?_
      refine tot_oif (iv_oO h_T k_n_1 (by decide) (by decide) rfl) ?_
      refine tot_let (fun T_4 e_T_4 => ?_)
      have h_T_4 : IV R B K1 K2 T_4 := by rw [e_T_4]; exact iv_uI (a := 0) (b := 1000) h_T k_n_1 (by decide) (by decide) rfl (by omega) (.inl rfl)
      have x_T_4 := x_T.tr (fw_uI e_T_4 k_n_1 (by decide))
      refine tot_oif (iv_oO h_T_4 k_o (by decide) (by decide) rfl) ?_
      refine tot_ref h_T_4 k_o (by decide) (by decide) (r2 := 3) (rfl : rtg 11 1 = 3) (by decide) (fun n_5 k_n_5 e_n_5 => ?_)
      refine tot_oif (iv_oO h_T_4 k_o (by decide) (by decide) rfl) ?_
      refine tot_ref h_T_4 k_o (by decide) (by decide) (r2 := 6) (rfl : rtg 11 15 = 6) (by decide) (fun n_6 k_n_6 e_n_6 => ?_)
      refine tot_oif (iv_oO h_T_4 k_n_5 (by decide) (by decide) rfl) ?_
      refine tot_thri (R := R) (W := [32, 33, 34, 35, 36, 39, 64, 65, 66, 67, 97, 98, 99, 192, 193, 194, 195, 197, 200, 203, 204, 206, 208, 224, 225, 226, 227, 228, 229, 230, 231, 232, 233, 293, 1344, 1376, 1408, 1760, 1792, 1824, 1856, 1888]) (Q := fun r_7 : Int32 => (0 ≤ r_7.toInt ∧ r_7.toInt ≤ 0)) (cs_X3_parse T_4 n_5 a0 n_6 h_T_4 k_n_5 k_n_6 (by omega)) (fun r_7 T_8 i_T_8 y_T_8 d_r_7 => ?_) (fun k_ U_ i_ y_ => ⟨⟨i_, x_T_4.tr (y_.w (by decide))⟩, fun q_ => absurd q_ (Nat.succ_ne_zero k_)⟩)
      have h_T_8 : IV R B K1 K2 T_8 := i_T_8
      have x_T_8 := x_T_4.tr (y_T_8.w (by decide))
      replace d_r_7 : (0 ≤ r_7.toInt ∧ r_7.toInt ≤ 0) := d_r_7
      refine tot_oif (iv_oO h_T_8 k_o (by decide) (by decide) rfl) ?_
      refine tot_ref h_T_8 k_o (by decide) (by decide) (r2 := 6) (rfl : rtg 11 14 = 6) (by decide) (fun n_9 k_n_9 e_n_9 => ?_)
      refine tot_oif (iv_oO h_T_8 k_o (by decide) (by decide) rfl) ?_
      refine tot_ref h_T_8 k_o (by decide) (by decide) (r2 := 6) (rfl : rtg 11 15 = 6) (by decide) (fun n_10 k_n_10 e_n_10 => ?_)
      refine tot_oif (iv_oO h_T_8 k_o (by decide) (by decide) rfl) ?_
      refine tot_oif (Nat.ble_eq_true_of_le (iv_lt h_T_8 (iv_sta h_T_8 k_n_10 (by decide) (by decide)))) ?_
      refine tot_let (fun T_11 e_T_11 => ?_)
      have h_T_11 : IV R B K1 K2 T_11 := by rw [e_T_11]; exact iv_uR h_T_8 k_o (by decide) (by decide) rfl rfl (by rw [k_n_10]; rfl) (by decide)
      have x_T_11 := x_T_8.tr (fw_of (T := T_8) (T1 := T_11) (by rw [e_T_11]; rfl))
      refine tot_oif (iv_oO h_T_11 k_o (by decide) (by decide) rfl) ?_
      refine tot_oif (Nat.ble_eq_true_of_le (iv_lt h_T_11 (iv_sta h_T_11 k_n_9 (by decide) (by decide)))) ?_
      refine tot_let (fun T_12 e_T_12 => ?_)
      have h_T_12 : IV R B K1 K2 T_12 := by rw [e_T_12]; exact iv_uR h_T_11 k_o (by decide) (by decide) rfl rfl (by rw [k_n_9]; rfl) (by decide)
      have x_T_12 := x_T_11.tr (fw_of (T := T_11) (T1 := T_12) (by rw [e_T_12]; rfl))
      refine tot_oif (iv_oO h_T_12 k_o (by decide) (by decide) rfl) ?_
      refine tot_bind (cs_X11_begin T_12 o h_T_12 k_o ) (fun T_13 d_T_13 => ?_)
      have h_T_13 : IV R B K1 K2 T_13 := d_T_13.1
      have y_T_13 : FW R [128, 256, 257, 258, 368, 1472, 1568, 1600, 1984, 2016, 2048, 2080, 2112, 3202] T_12 T_13 := d_T_13.2
      have x_T_13 := x_T_12.tr (y_T_13.w (by decide))
      unfold g_X11_load_b65
      refine tot_oif (iv_oO h_T_13 k_o (by decide) (by decide) rfl) ?_
      refine tot_ref h_T_13 k_o (by decide) (by decide) (r2 := 6) (rfl : rtg 11 14 = 6) (by decide) (fun n_16 k_n_16 e_n_16 => ?_)
      refine tot_oif (iv_oO h_T_13 k_n_16 (by decide) (by decide) rfl) ?_
      refine tot_ref h_T_13 k_n_16 (by decide) (by decide) (r2 := 1) (rfl : rtg 6 6 = 1) (by decide) (fun n_17 k_n_17 e_n_17 => ?_)
      refine tot_oif (iv_oO h_T_13 k_n_17 (by decide) (by decide) rfl) ?_
      refine tot_bindq (R := fun r_18 : Int32 => (0 ≤ r_18.toInt ∧ r_18.toInt ≤ 144)) (cs_X1_cells T_13 n_17 h_T_13 k_n_17 ) (fun r_18 d_r_18 => ?_)
      replace d_r_18 : (0 ≤ r_18.toInt ∧ r_18.toInt ≤ 144) := d_r_18
      exact tot_some ⟨⟨h_T_13, x_T_13⟩, fun _ => (show (0 ≤ r_18.toInt ∧ r_18.toInt ≤ 144) from by omega)⟩
    · replace c_15 := i_nle c_15
      unfold g_X11_load_b15
      exact tot_some ⟨⟨h_T, x_T⟩, fun q_ => absurd q_ (Nat.succ_ne_zero _)⟩
set_option maxHeartbeats 4000000 in
set_option maxRecDepth 10000 in
theorem cs_X11_parseError {R : Nat → Nat} {B K1 K2 : Nat} (T : AT) (o : Nat) (h_T : IV R B K1 K2 T) (k_o : R o = 11) : Tot (g_X11_parseError T o) (fun r => r.2 = T ∧ (0 ≤ r.1.toInt ∧ r.1.toInt ≤ 6)) := by
  have cc_101 : cnt 101 = 1 := rfl
  have cc_102 : cnt 102 = 12 := rfl
  have cc_103 : cnt 103 = 144 := rfl
  have cc_104 : cnt 104 = 2400 := rfl
  have cc_105 : cnt 105 = 7200 := rfl
  unfold g_X11_parseError
  refine tot_oif (iv_oO h_T k_o (by decide) (by decide) rfl) ?_
  refine tot_ref h_T k_o (by decide) (by decide) (r2 := 3) (rfl : rtg 11 1 = 3) (by decide) (fun n_1 k_n_1 e_n_1 => ?_)
  refine tot_oif (iv_oO h_T k_n_1 (by decide) (by decide) rfl) ?_
  refine tot_let (fun v_2 e_v_2 => ?_)
  have r_v_2 : 0 ≤ v_2.toInt ∧ v_2.toInt ≤ 6 := iv_int h_T k_n_1 (by decide) (by decide) e_v_2 rfl
  exact tot_some ⟨rfl, (show (0 ≤ v_2.toInt ∧ v_2.toInt ≤ 6) from by omega)⟩
set_option maxHeartbeats 4000000 in
set_option maxRecDepth 10000 in
theorem cs_X11_errorPosition {R : Nat → Nat} {B K1 K2 : Nat} (T : AT) (o : Nat) (h_T : IV R B K1 K2 T) (k_o : R o = 11) : Tot (g_X11_errorPosition T o) (fun r => r.2 = T ∧ True) := by
  have cc_101 : cnt 101 = 1 := rfl
  have cc_102 : cnt 102 = 12 := rfl
  have cc_103 : cnt 103 = 144 := rfl
  have cc_104 : cnt 104 = 2400 := rfl
  have cc_105 : cnt 105 = 7200 := rfl
  unfold g_X11_errorPosition
  refine tot_oif (iv_oO h_T k_o (by decide) (by decide) rfl) ?_
  refine tot_ref h_T k_o (by decide) (by decide) (r2 := 3) (rfl : rtg 11 1 = 3) (by decide) (fun n_1 k_n_1 e_n_1 => ?_)
  refine tot_oif (iv_oO h_T k_n_1 (by decide) (by decide) rfl) ?_
  refine tot_let (fun v_2 e_v_2 => ?_)
  have r_v_2 := i_any v_2
  exact tot_some ⟨rfl, trivial⟩
set_option maxHeartbeats 4000000 in
set_option maxRecDepth 10000 in
theorem cs_X11_buffered {R : Nat → Nat} {B K1 K2 : Nat} (T : AT) (o : Nat) (h_T : IV R B K1 K2 T) (k_o : R o = 11) : Tot (g_X11_buffered T o) (fun r => r.2 = T ∧ (0 ≤ r.1.toInt ∧ r.1.toInt ≤ 1000)) := by
  have cc_101 : cnt 101 = 1 := rfl
  have cc_102 : cnt 102 = 12 := rfl
  have cc_103 : cnt 103 = 144 := rfl
  have cc_104 : cnt 104 = 2400 := rfl
  have cc_105 : cnt 105 = 7200 := rfl
  unfold g_X11_buffered
  refine tot_oif (iv_oO h_T k_o (by decide) (by decide) rfl) ?_
  refine tot_ref h_T k_o (by decide) (by decide) (r2 := 9) (rfl : rtg 11 0 = 9) (by decide) (fun n_1 k_n_1 e_n_1 => ?_)
  refine tot_oif (iv_oO h_T k_n_1 (by decide) (by decide) rfl) ?_
  refine tot_let (fun v_2 e_v_2 => ?_)
  have r_v_2 : 0 ≤ v_2.toInt ∧ v_2.toInt ≤ 1000 := iv_int h_T k_n_1 (by decide) (by decide) e_v_2 rfl
  exact tot_some ⟨rfl, (show (0 ≤ v_2.toInt ∧ v_2.toInt ≤ 1000) from by omega)⟩
set_option maxHeartbeats 4000000 in
set_option maxRecDepth 10000 in
theorem cs_X11_mics {R : Nat → Nat} {B K1 K2 : Nat} (T : AT) (o : Nat) (h_T : IV R B K1 K2 T) (k_o : R o = 11) : Tot (g_X11_mics T o) (fun r => r.2 = T ∧ (0 ≤ r.1.toInt ∧ r.1.toInt ≤ 12)) := by
  have cc_101 : cnt 101 = 1 := rfl
  have cc_102 : cnt 102 = 12 := rfl
  have cc_103 : cnt 103 = 144 := rfl
  have cc_104 : cnt 104 = 2400 := rfl
  have cc_105 : cnt 105 = 7200 := rfl
  unfold g_X11_mics
  refine tot_oif (iv_oO h_T k_o (by decide) (by decide) rfl) ?_
  refine tot_ref h_T k_o (by decide) (by decide) (r2 := 6) (rfl : rtg 11 14 = 6) (by decide) (fun n_1 k_n_1 e_n_1 => ?_)
  refine tot_oif (iv_oO h_T k_n_1 (by decide) (by decide) rfl) ?_
  refine tot_let (fun v_2 e_v_2 => ?_)
  have r_v_2 : 0 ≤ v_2.toInt ∧ v_2.toInt ≤ 12 := iv_int h_T k_n_1 (by decide) (by decide) e_v_2 rfl
  exact tot_some ⟨rfl, (show (0 ≤ v_2.toInt ∧ v_2.toInt ≤ 12) from by omega)⟩
set_option maxHeartbeats 4000000 in
set_option maxRecDepth 10000 in
theorem cs_X11_needCamera {R : Nat → Nat} {B K1 K2 : Nat} (T : AT) (o : Nat) (h_T : IV R B K1 K2 T) (k_o : R o = 11) : Tot (g_X11_needCamera T o) (fun r => r.2.2 = T ∧ (r.1 = 0 → (0 ≤ r.2.1.toInt ∧ r.2.1.toInt ≤ 0))) := by
  have z0 : (0 : Int32).toInt = 0 := by decide
  have cc_101 : cnt 101 = 1 := rfl
  have cc_102 : cnt 102 = 12 := rfl
  have cc_103 : cnt 103 = 144 := rfl
  have cc_104 : cnt 104 = 2400 := rfl
  have cc_105 : cnt 105 = 7200 := rfl
  unfold g_X11_needCamera
  refine tot_oif (iv_oO h_T k_o (by decide) (by decide) rfl) ?_
  refine tot_ref h_T k_o (by decide) (by decide) (r2 := 6) (rfl : rtg 11 14 = 6) (by decide) (fun n_1 k_n_1 e_n_1 => ?_)
  refine tot_oif (iv_oO h_T k_n_1 (by decide) (by decide) rfl) ?_
  refine tot_let (fun v_2 e_v_2 => ?_)
  have r_v_2 : 0 ≤ v_2.toInt ∧ v_2.toInt ≤ 12 := iv_int h_T k_n_1 (by decide) (by decide) e_v_2 rfl
  refine tot_if (fun c_3 => ?_) (fun c_3 => ?_)
  · replace c_3 := i_eq c_3
    exact tot_some ⟨rfl, fun q_ => absurd q_ (Nat.succ_ne_zero _)⟩
  · replace c_3 := i_ne c_3
    exact tot_some ⟨rfl, fun _ => (show (0 ≤ (0 : Int32).toInt ∧ (0 : Int32).toInt ≤ 0) from by omega)⟩
set_option maxHeartbeats 4000000 in
set_option maxRecDepth 10000 in
theorem cs_X11_needIndex {R : Nat → Nat} {B K1 K2 : Nat} (T : AT) (a0 : Int32) (a1 : Int32) (h_T : IV R B K1 K2 T) : Tot (g_X11_needIndex T a0 a1) (fun r => r.2.2 = T ∧ (r.1 = 0 → (0 ≤ a0.toInt ∧ a0.toInt < a1.toInt))) := by
  have z0 : (0 : Int32).toInt = 0 := by decide
  have cc_101 : cnt 101 = 1 := rfl
  have cc_102 : cnt 102 = 12 := rfl
  have cc_103 : cnt 103 = 144 := rfl
  have cc_104 : cnt 104 = 2400 := rfl
  have cc_105 : cnt 105 = 7200 := rfl
  have j_a0 := i_any a0
  have j_a1 := i_any a1
  unfold g_X11_needIndex
  refine tot_if (fun c_1 => ?_) (fun c_1 => ?_)
  · replace c_1 := i_lt c_1
    unfold g_X11_needIndex_b9
    exact tot_some ⟨rfl, fun q_ => absurd q_ (Nat.succ_ne_zero _)⟩
  · replace c_1 := i_nlt c_1
    refine tot_if (fun c_2 => ?_) (fun c_2 => ?_)
    · replace c_2 := i_lt c_2
      exact tot_some ⟨rfl, fun _ => (show (0 ≤ a0.toInt ∧ a0.toInt < a1.toInt) from by omega)⟩
    · replace c_2 := i_nlt c_2
      unfold g_X11_needIndex_b9
      exact tot_some ⟨rfl, fun q_ => absurd q_ (Nat.succ_ne_zero _)⟩
set_option maxHeartbeats 4000000 in
set_option maxRecDepth 10000 in
theorem cs_X11_needMic {R : Nat → Nat} {B K1 K2 : Nat} (T : AT) (o : Nat) (a0 : Int32) (h_T : IV R B K1 K2 T) (k_o : R o = 11) : Tot (g_X11_needMic T o a0) (fun r => r.2.2 = T ∧ (r.1 = 0 → (0 ≤ a0.toInt ∧ a0.toInt ≤ 11))) := by
  have z0 : (0 : Int32).toInt = 0 := by decide
  have cc_101 : cnt 101 = 1 := rfl
  have cc_102 : cnt 102 = 12 := rfl
  have cc_103 : cnt 103 = 144 := rfl
  have cc_104 : cnt 104 = 2400 := rfl
  have cc_105 : cnt 105 = 7200 := rfl
  have j_a0 := i_any a0
  unfold g_X11_needMic
  refine tot_oif (iv_oO h_T k_o (by decide) (by decide) rfl) ?_
  refine tot_ref h_T k_o (by decide) (by decide) (r2 := 6) (rfl : rtg 11 14 = 6) (by decide) (fun n_1 k_n_1 e_n_1 => ?_)
  refine tot_oif (iv_oO h_T k_n_1 (by decide) (by decide) rfl) ?_
  refine tot_let (fun v_2 e_v_2 => ?_)
  have r_v_2 : 0 ≤ v_2.toInt ∧ v_2.toInt ≤ 12 := iv_int h_T k_n_1 (by decide) (by decide) e_v_2 rfl
  refine tot_thrp (Q := fun r_3 : Int32 => (0 ≤ a0.toInt ∧ a0.toInt < v_2.toInt)) (cs_X11_needIndex T a0 v_2 h_T ) (fun r_3 d_r_3 => ?_) (fun k_ => ⟨rfl, fun q_ => absurd q_ (Nat.succ_ne_zero k_)⟩)
  replace d_r_3 : (0 ≤ a0.toInt ∧ a0.toInt < v_2.toInt) := d_r_3
  exact tot_some ⟨rfl, fun _ => (show (0 ≤ a0.toInt ∧ a0.toInt ≤ 11) from by omega)⟩
set_option maxHeartbeats 4000000 in
set_option maxRecDepth 10000 in
theorem cs_X11_needRange {R : Nat → Nat} {B K1 K2 : Nat} (T : AT) (a0 : Int32) (a1 : Int32) (a2 : Int32) (h_T : IV R B K1 K2 T) : Tot (g_X11_needRange T a0 a1 a2) (fun r => r.2.2 = T ∧ (r.1 = 0 → (a1.toInt ≤ a0.toInt ∧ a0.toInt ≤ a2.toInt))) := by
  have z0 : (0 : Int32).toInt = 0 := by decide
  have cc_101 : cnt 101 = 1 := rfl
  have cc_102 : cnt 102 = 12 := rfl
  have cc_103 : cnt 103 = 144 := rfl
  have cc_104 : cnt 104 = 2400 := rfl
  have cc_105 : cnt 105 = 7200 := rfl
  have j_a0 := i_any a0
  have j_a1 := i_any a1
  have j_a2 := i_any a2
  unfold g_X11_needRange
  refine tot_if (fun c_1 => ?_) (fun c_1 => ?_)
  · replace c_1 := i_lt c_1
    unfold g_X11_needRange_b10
    exact tot_some ⟨rfl, fun q_ => absurd q_ (Nat.succ_ne_zero _)⟩
  · replace c_1 := i_nlt c_1
    refine tot_if (fun c_2 => ?_) (fun c_2 => ?_)
    · replace c_2 := i_le c_2
      exact tot_some ⟨rfl, fun _ => (show (a1.toInt ≤ a0.toInt ∧ a0.toInt ≤ a2.toInt) from by omega)⟩
    · replace c_2 := i_nle c_2
      unfold g_X11_needRange_b10
      exact tot_some ⟨rfl, fun q_ => absurd q_ (Nat.succ_ne_zero _)⟩
set_option maxHeartbeats 4000000 in
set_option maxRecDepth 10000 in
theorem cs_X11_micAt {R : Nat → Nat} {B K1 K2 : Nat} (T : AT) (o : Nat) (a0 : Int32) (a1 : Int32) (h_T : IV R B K1 K2 T) (k_o : R o = 11) : Tot (g_X11_micAt T o a0 a1) (fun r => r.2.2 = T ∧ (r.1 = 0 → (-500 ≤ r.2.1.toInt ∧ r.2.1.toInt ≤ 500))) := by
  have z0 : ((0 : Int32) : Int32).toInt = 0 := by decide
  have z1 : ((3 : Int32) : Int32).toInt = 3 := by decide
  have z2 : (0 : Int32).toInt = 0 := by decide
  have z3 : (1 : Int32).toInt = 1 := by decide
  have z4 : (2 : Int32).toInt = 2 := by decide
  have cc_101 : cnt 101 = 1 := rfl
  have cc_102 : cnt 102 = 12 := rfl
  have cc_103 : cnt 103 = 144 := rfl
  have cc_104 : cnt 104 = 2400 := rfl
  have cc_105 : cnt 105 = 7200 := rfl
  have j_a0 := i_any a0
  have j_a1 := i_any a1
  unfold g_X11_micAt
  refine tot_oif (iv_oO h_T k_o (by decide) (by decide) rfl) ?_
  refine tot_thrp (Q := fun r_1 : Int32 => (0 ≤ r_1.toInt ∧ r_1.toInt ≤ 0)) (cs_X11_needCamera T o h_T k_o ) (fun r_1 d_r_1 => ?_) (fun k_ => ⟨rfl, fun q_ => absurd q_ (Nat.succ_ne_zero k_)⟩)
  replace d_r_1 : (0 ≤ r_1.toInt ∧ r_1.toInt ≤ 0) := d_r_1
  refine tot_oif (iv_oO h_T k_o (by decide) (by decide) rfl) ?_
  refine tot_thrp (Q := fun r_3 : Int32 => (0 ≤ a0.toInt ∧ a0.toInt ≤ 11)) (cs_X11_needMic T o a0 h_T k_o ) (fun r_3 d_r_3 => ?_) (fun k_ => ⟨rfl, fun q_ => absurd q_ (Nat.succ_ne_zero k_)⟩)
  replace d_r_3 : (0 ≤ a0.toInt ∧ a0.toInt ≤ 11) := d_r_3
  refine tot_thrp (Q := fun r_5 : Int32 => (((0 : Int32) : Int32).toInt ≤ a1.toInt ∧ a1.toInt ≤ ((3 : Int32) : Int32).toInt)) (cs_X11_needRange T a1 (0 : Int32) (3 : Int32) h_T ) (fun r_5 d_r_5 => ?_) (fun k_ => ⟨rfl, fun q_ => absurd q_ (Nat.succ_ne_zero k_)⟩)
  replace d_r_5 : (((0 : Int32) : Int32).toInt ≤ a1.toInt ∧ a1.toInt ≤ ((3 : Int32) : Int32).toInt) := d_r_5
  refine tot_if (fun c_22 => ?_) (fun c_22 => ?_)
  · replace c_22 := i_eq c_22
    refine tot_oif (iv_oO h_T k_o (by decide) (by decide) rfl) ?_
    refine tot_ref h_T k_o (by decide) (by decide) (r2 := 6) (rfl : rtg 11 14 = 6) (by decide) (fun n_7 k_n_7 e_n_7 => ?_)
    refine tot_oif (iv_oO h_T k_n_7 (by decide) (by decide) rfl) ?_
    refine tot_ref h_T k_n_7 (by decide) (by decide) (r2 := 53) (rfl : rtg 6 4 = 53) (by decide) (fun n_8 k_n_8 e_n_8 => ?_)
    refine tot_oif (iv_aA h_T k_n_8 (by decide) (by decide) rfl rfl) ?_
    refine tot_oif (by rw [iv_len h_T k_n_8 (by decide) (by decide) (rfl : shp 53 = (103, 12))]; exact i_inb (by omega) (by omega)) ?_
    refine tot_ref h_T k_n_8 (by decide) (by decide) (r2 := 2) (rt_53 (by omega) (by omega)) (by decide) (fun n_9 k_n_9 e_n_9 => ?_)
    refine tot_oif (iv_oO h_T k_n_9 (by decide) (by decide) rfl) ?_
    refine tot_let (fun v_10 e_v_10 => ?_)
    have r_v_10 : -500 ≤ v_10.toInt ∧ v_10.toInt ≤ 500 := iv_int h_T k_n_9 (by decide) (by decide) e_v_10 rfl
    exact tot_some ⟨rfl, fun _ => (show (-500 ≤ v_10.toInt ∧ v_10.toInt ≤ 500) from by omega)⟩
  · replace c_22 := i_ne c_22
    refine tot_if (fun c_23 => ?_) (fun c_23 => ?_)
    · replace c_23 := i_eq c_23
      refine tot_oif (iv_oO h_T k_o (by decide) (by decide) rfl) ?_
      refine tot_ref h_T k_o (by decide) (by decide) (r2 := 6) (rfl : rtg 11 14 = 6) (by decide) (fun n_11 k_n_11 e_n_11 => ?_)
      refine tot_oif (iv_oO h_T k_n_11 (by decide) (by decide) rfl) ?_
      refine tot_ref h_T k_n_11 (by decide) (by decide) (r2 := 53) (rfl : rtg 6 4 = 53) (by decide) (fun n_12 k_n_12 e_n_12 => ?_)
      refine tot_oif (iv_aA h_T k_n_12 (by decide) (by decide) rfl rfl) ?_
      refine tot_oif (by rw [iv_len h_T k_n_12 (by decide) (by decide) (rfl : shp 53 = (103, 12))]; exact i_inb (by omega) (by omega)) ?_
      refine tot_ref h_T k_n_12 (by decide) (by decide) (r2 := 2) (rt_53 (by omega) (by omega)) (by decide) (fun n_13 k_n_13 e_n_13 => ?_)
      refine tot_oif (iv_oO h_T k_n_13 (by decide) (by decide) rfl) ?_
      refine tot_let (fun v_14 e_v_14 => ?_)
      have r_v_14 : -500 ≤ v_14.toInt ∧ v_14.toInt ≤ 500 := iv_int h_T k_n_13 (by decide) (by decide) e_v_14 rfl
      exact tot_some ⟨rfl, fun _ => (show (-500 ≤ v_14.toInt ∧ v_14.toInt ≤ 500) from by omega)⟩
    · replace c_23 := i_ne c_23
      refine tot_if (fun c_24 => ?_) (fun c_24 => ?_)
      · replace c_24 := i_eq c_24
        refine tot_oif (iv_oO h_T k_o (by decide) (by decide) rfl) ?_
        refine tot_ref h_T k_o (by decide) (by decide) (r2 := 6) (rfl : rtg 11 14 = 6) (by decide) (fun n_15 k_n_15 e_n_15 => ?_)
        refine tot_oif (iv_oO h_T k_n_15 (by decide) (by decide) rfl) ?_
        refine tot_ref h_T k_n_15 (by decide) (by decide) (r2 := 53) (rfl : rtg 6 4 = 53) (by decide) (fun n_16 k_n_16 e_n_16 => ?_)
        refine tot_oif (iv_aA h_T k_n_16 (by decide) (by decide) rfl rfl) ?_
        refine tot_oif (by rw [iv_len h_T k_n_16 (by decide) (by decide) (rfl : shp 53 = (103, 12))]; exact i_inb (by omega) (by omega)) ?_
        refine tot_ref h_T k_n_16 (by decide) (by decide) (r2 := 2) (rt_53 (by omega) (by omega)) (by decide) (fun n_17 k_n_17 e_n_17 => ?_)
        refine tot_oif (iv_oO h_T k_n_17 (by decide) (by decide) rfl) ?_
        refine tot_let (fun v_18 e_v_18 => ?_)
        have r_v_18 : 0 ≤ v_18.toInt ∧ v_18.toInt ≤ 9 := iv_int h_T k_n_17 (by decide) (by decide) e_v_18 rfl
        exact tot_some ⟨rfl, fun _ => (show (-500 ≤ v_18.toInt ∧ v_18.toInt ≤ 500) from by omega)⟩
      · replace c_24 := i_ne c_24
        refine tot_oif (iv_oO h_T k_o (by decide) (by decide) rfl) ?_
        refine tot_ref h_T k_o (by decide) (by decide) (r2 := 8) (rfl : rtg 11 6 = 8) (by decide) (fun n_19 k_n_19 e_n_19 => ?_)
        refine tot_oif (iv_oO h_T k_n_19 (by decide) (by decide) rfl) ?_
        refine tot_ref h_T k_n_19 (by decide) (by decide) (r2 := 63) (rfl : rtg 8 4 = 63) (by decide) (fun n_20 k_n_20 e_n_20 => ?_)
        refine tot_oif (iv_aA h_T k_n_20 (by decide) (by decide) rfl rfl) ?_
        refine tot_oif (by rw [iv_len h_T k_n_20 (by decide) (by decide) (rfl : shp 63 = (100, 12))]; exact i_inb (by omega) (by omega)) ?_
        refine tot_let (fun v_21 e_v_21 => ?_)
        have r_v_21 : 0 ≤ v_21.toInt ∧ v_21.toInt ≤ 9 := iv_int h_T k_n_20 (by decide) (by decide) e_v_21 rfl
        exact tot_some ⟨rfl, fun _ => (show (-500 ≤ v_21.toInt ∧ v_21.toInt ≤ 500) from by omega)⟩
