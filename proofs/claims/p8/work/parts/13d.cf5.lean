set_option maxHeartbeats 4000000 in
set_option maxRecDepth 10000 in
theorem cl_X4_second_b4 {R : Nat → Nat} {B K1 K2 : Nat} {Q : Int32 × AT → Prop} (T : AT) (l0 : Nat) (l1 : Int32) (h_T : IV R B K1 K2 T) (k_l0 : R l0 = 4) (g0 : 0 ≤ l1.toInt ∧ l1.toInt ≤ 144) (hx0 : ∀ (l2 : Int32), (-1 ≤ l2.toInt ∧ l2.toInt ≤ 143) → Tot (some (l2, T)) Q) : ∀ (n : Nat) (l2 : Int32) (l3 : Int32), (-1 ≤ l2.toInt ∧ l2.toInt ≤ 143) → (0 ≤ l3.toInt ∧ l3.toInt ≤ 144) → 144 - l3.toInt < (n : Int) → Tot (g_X4_second_b4 n T l0 l1 l2 l3) Q := by
  have z0 : (Int32.ofInt (1) : Int32).toInt = 1 := by decide
  have z1 : ((-1) : Int32).toInt = -1 := by decide
  have z2 : (0 : Int32).toInt = 0 := by decide
  have cc_101 : cnt 101 = 1 := rfl
  have cc_102 : cnt 102 = 12 := rfl
  have cc_103 : cnt 103 = 144 := rfl
  have cc_104 : cnt 104 = 2400 := rfl
  have cc_105 : cnt 105 = 7200 := rfl
  have j_l1 := i_any l1
  intro n
  induction n with
  | zero =>
    intro l2 l3 g_l2 g_l3 hm
    exfalso
    omega
  | succ n ih =>
    intro l2 l3 g_l2 g_l3 hm
    unfold g_X4_second_b4
    refine tot_if (fun c_21 => ?_) (fun c_21 => ?_)
    · replace c_21 := i_le c_21
      exact hx0 l2 (by omega)
    · replace c_21 := i_nle c_21
      refine tot_oif (iv_oO h_T k_l0 (by decide) (by decide) rfl) ?_
      refine tot_let (fun v_17 e_v_17 => ?_)
      have r_v_17 : 0 ≤ v_17.toInt ∧ v_17.toInt ≤ 143 := iv_int h_T k_l0 (by decide) (by decide) e_v_17 rfl
      refine tot_if (fun c_22 => ?_) (fun c_22 => ?_)
      · replace c_22 := i_eq c_22
        unfold g_X4_second_b36
        refine tot_let (fun v_23 e_v_23 => ?_)
        have q_v_23 := i_add e_v_23 (by omega) (by omega)
        exact ih l2 v_23 (by omega) (by omega) (by omega)
      · replace c_22 := i_ne c_22
        refine tot_if (fun c_24 => ?_) (fun c_24 => ?_)
        · replace c_24 := i_eq c_24
          unfold g_X4_second_b34
          unfold g_X4_second_b36
          refine tot_let (fun v_25 e_v_25 => ?_)
          have q_v_25 := i_add e_v_25 (by omega) (by omega)
          exact ih l3 v_25 (by omega) (by omega) (by omega)
        · replace c_24 := i_ne c_24
          refine tot_oif (iv_oO h_T k_l0 (by decide) (by decide) rfl) ?_
          refine tot_ref h_T k_l0 (by decide) (by decide) (r2 := 103) (rfl : rtg 4 1 = 103) (by decide) (fun n_18 k_n_18 e_n_18 => ?_)
          refine tot_oif (w_oO h_T k_n_18 (rfl : isW 103 = true)) ?_
          refine tot_bindq (R := fun r_19 : Int32 => True) (c_compare (a0 := l3) (a1 := l2) k_n_18 (rfl : isW 103 = true) h_T (by omega) (by omega)) (fun r_19 d_r_19 => ?_)
          have r_r_19 := i_any r_19
          refine tot_if (fun c_26 => ?_) (fun c_26 => ?_)
          · replace c_26 := i_le c_26
            unfold g_X4_second_b36
            refine tot_let (fun v_27 e_v_27 => ?_)
            have q_v_27 := i_add e_v_27 (by omega) (by omega)
            exact ih l2 v_27 (by omega) (by omega) (by omega)
          · replace c_26 := i_nle c_26
            unfold g_X4_second_b34
            unfold g_X4_second_b36
            refine tot_let (fun v_28 e_v_28 => ?_)
            have q_v_28 := i_add e_v_28 (by omega) (by omega)
            exact ih l3 v_28 (by omega) (by omega) (by omega)
set_option maxHeartbeats 4000000 in
set_option maxRecDepth 10000 in
theorem cs_X4_second {R : Nat → Nat} {B K1 K2 : Nat} (T : AT) (o : Nat) (a0 : Int32) (h_T : IV R B K1 K2 T) (k_o : R o = 4) (g0 : 0 ≤ a0.toInt ∧ a0.toInt ≤ 144) : Tot (g_X4_second T o a0) (fun r => r.2 = T ∧ (-1 ≤ r.1.toInt ∧ r.1.toInt ≤ 143)) := by
  have z0 : ((-1) : Int32).toInt = -1 := by decide
  have z1 : (0 : Int32).toInt = 0 := by decide
  have cc_101 : cnt 101 = 1 := rfl
  have cc_102 : cnt 102 = 12 := rfl
  have cc_103 : cnt 103 = 144 := rfl
  have cc_104 : cnt 104 = 2400 := rfl
  have cc_105 : cnt 105 = 7200 := rfl
  have j_a0 := i_any a0
  unfold g_X4_second
  refine cl_X4_second_b4 T o a0 h_T k_o (by omega) ?_ 16384 (-1) 0 (by omega) (by omega) (by omega)
  · intro l_29 g_l_29
    exact tot_some ⟨rfl, (show (-1 ≤ l_29.toInt ∧ l_29.toInt ≤ 143) from by omega)⟩
set_option maxHeartbeats 4000000 in
set_option maxRecDepth 10000 in
theorem cl_X4_sumIn_b24 {R : Nat → Nat} {B K1 K2 : Nat} {Q : AT → Prop} {k11 : AT → Nat → Nat → Nat → Nat → Int32 → Int32 → Option (AT)} (l0 : Nat) (l1 : Nat) (l2 : Nat) (l3 : Nat) (l4 : Int32) (l5 : Int32) (T00 : AT) (k_l0 : R l0 = 4) (k_l1 : R l1 = 59) (k_l2 : R l2 = 1) {r_l3 : Nat} (k_l3 : R l3 = r_l3) (w_l3 : isW r_l3 = true) (g0 : 0 ≤ l4.toInt ∧ l4.toInt ≤ 0) (g1 : 0 ≤ l5.toInt ∧ l5.toInt ≤ 11) (hx0 : ∀ (T : AT), (IV R B K1 K2 T) → (FW R [3202] T00 T) → Tot (elet (l5 + Int32.ofInt (1)) fun v_47 => k11 T l0 l1 l2 l3 l4 v_47) Q) : ∀ (n : Nat) (T : AT) (l6 : Int32), (IV R B K1 K2 T) → (FW R [3202] T00 T) → (0 ≤ l6.toInt ∧ l6.toInt ≤ 12) → 12 - l6.toInt < (n : Int) → Tot (g_X4_sumIn_b24 k11 n T l0 l1 l2 l3 l4 l5 l6) Q := by
  have z0 : (2 : Int32).toInt = 2 := by decide
  have z1 : ((1 : Int32) : Int32).toInt = 1 := by decide
  have z2 : (Int32.ofInt (1) : Int32).toInt = 1 := by decide
  have cc_101 : cnt 101 = 1 := rfl
  have cc_102 : cnt 102 = 12 := rfl
  have cc_103 : cnt 103 = 144 := rfl
  have cc_104 : cnt 104 = 2400 := rfl
  have cc_105 : cnt 105 = 7200 := rfl
  have c7_l3 := (isW_f w_l3).2.2.2.1
  have j_l4 := i_any l4
  have j_l5 := i_any l5
  intro n
  induction n with
  | zero =>
    intro T l6 h_T x_T g_l6 hm
    exfalso
    omega
  | succ n ih =>
    intro T l6 h_T x_T g_l6 hm
    unfold g_X4_sumIn_b24
    refine tot_oif (iv_aA h_T k_l1 (by decide) (by decide) rfl rfl) ?_
    refine tot_oif (by rw [iv_len h_T k_l1 (by decide) (by decide) (rfl : shp 59 = (100, 4))]; exact i_inb (by omega) (by omega)) ?_
    refine tot_let (fun v_46 e_v_46 => ?_)
    have r_v_46 : 0 ≤ v_46.toInt ∧ v_46.toInt ≤ 11 := iv_int h_T k_l1 (by decide) (by decide) e_v_46 rfl
    refine tot_if (fun c_53 => ?_) (fun c_53 => ?_)
    · replace c_53 := i_lt c_53
      exact hx0 T h_T x_T
    · replace c_53 := i_nlt c_53
      refine tot_oif (iv_oO h_T k_l0 (by decide) (by decide) rfl) ?_
      refine tot_ref h_T k_l0 (by decide) (by decide) (r2 := 103) (rfl : rtg 4 1 = 103) (by decide) (fun n_48 k_n_48 e_n_48 => ?_)
      refine tot_oif (iv_oO h_T k_l2 (by decide) (by decide) rfl) ?_
      refine tot_let (fun v_49 e_v_49 => ?_)
      have r_v_49 : 0 ≤ v_49.toInt ∧ v_49.toInt ≤ 12 := iv_int h_T k_l2 (by decide) (by decide) e_v_49 rfl
      refine tot_let (fun v_50 e_v_50 => ?_)
      have q_v_50 := i_mulp (a := 0) (b := 11) (c := 0) (d := 12) e_v_50 (by omega) (by omega) (by omega) (by omega) (by decide)
      refine tot_let (fun v_51 e_v_51 => ?_)
      have q_v_51 := i_add e_v_51 (by omega) (by omega)
      refine tot_oif (w_oO h_T k_l3 w_l3) ?_
      refine tot_bind (c_add (a0 := l4) (a2 := v_51) (a3 := (1 : Int32)) k_l3 w_l3 k_n_48 (rfl : isW 103 = true) h_T (by omega) (by omega)) (fun T_52 d_T_52 => ?_)
      have h_T_52 : IV R B K1 K2 T_52 := d_T_52.1
      have y_T_52 : FW R [3202] T T_52 := (fw_wx d_T_52.2 k_l3 w_l3 (by decide))
      have x_T_52 := x_T.tr (y_T_52.w (by decide))
      unfold g_X4_sumIn_b53
      refine tot_let (fun v_54 e_v_54 => ?_)
      have q_v_54 := i_add e_v_54 (by omega) (by omega)
      exact ih T_52 v_54 h_T_52 x_T_52 (by omega) (by omega)
set_option maxHeartbeats 4000000 in
set_option maxRecDepth 10000 in
theorem cl_X4_sumIn_b11 {R : Nat → Nat} {B K1 K2 : Nat} {Q : AT → Prop} (l0 : Nat) (l1 : Nat) (l2 : Nat) (l3 : Nat) (l4 : Int32) (T00 : AT) (k_l0 : R l0 = 4) (k_l1 : R l1 = 59) (k_l2 : R l2 = 1) {r_l3 : Nat} (k_l3 : R l3 = r_l3) (w_l3 : isW r_l3 = true) (g0 : 0 ≤ l4.toInt ∧ l4.toInt ≤ 0) (hx0 : ∀ (T : AT), (IV R B K1 K2 T) → (FW R [3202] T00 T) → Tot (some (T)) Q) : ∀ (n : Nat) (T : AT) (l5 : Int32), (IV R B K1 K2 T) → (FW R [3202] T00 T) → (0 ≤ l5.toInt ∧ l5.toInt ≤ 12) → 12 - l5.toInt < (n : Int) → Tot (g_X4_sumIn_b11 n T l0 l1 l2 l3 l4 l5) Q := by
  have z0 : (3 : Int32).toInt = 3 := by decide
  have z1 : (0 : Int32).toInt = 0 := by decide
  have z2 : (Int32.ofInt (1) : Int32).toInt = 1 := by decide
  have cc_101 : cnt 101 = 1 := rfl
  have cc_102 : cnt 102 = 12 := rfl
  have cc_103 : cnt 103 = 144 := rfl
  have cc_104 : cnt 104 = 2400 := rfl
  have cc_105 : cnt 105 = 7200 := rfl
  have c7_l3 := (isW_f w_l3).2.2.2.1
  have j_l4 := i_any l4
  intro n
  induction n with
  | zero =>
    intro T l5 h_T x_T g_l5 hm
    exfalso
    omega
  | succ n ih =>
    intro T l5 h_T x_T g_l5 hm
    unfold g_X4_sumIn_b11
    refine tot_oif (iv_aA h_T k_l1 (by decide) (by decide) rfl rfl) ?_
    refine tot_oif (by rw [iv_len h_T k_l1 (by decide) (by decide) (rfl : shp 59 = (100, 4))]; exact i_inb (by omega) (by omega)) ?_
    refine tot_let (fun v_35 e_v_35 => ?_)
    have r_v_35 : 0 ≤ v_35.toInt ∧ v_35.toInt ≤ 11 := iv_int h_T k_l1 (by decide) (by decide) e_v_35 rfl
    refine tot_if (fun c_37 => ?_) (fun c_37 => ?_)
    · replace c_37 := i_lt c_37
      exact hx0 T h_T x_T
    · replace c_37 := i_nlt c_37
      refine tot_oif (iv_aA h_T k_l1 (by decide) (by decide) rfl rfl) ?_
      refine tot_oif (by rw [iv_len h_T k_l1 (by decide) (by decide) (rfl : shp 59 = (100, 4))]; exact i_inb (by omega) (by omega)) ?_
      refine tot_let (fun v_36 e_v_36 => ?_)
      have r_v_36 : 0 ≤ v_36.toInt ∧ v_36.toInt ≤ 11 := iv_int h_T k_l1 (by decide) (by decide) e_v_36 rfl
      refine cl_X4_sumIn_b24 l0 l1 l2 l3 l4 l5 T00 k_l0 k_l1 k_l2 k_l3 w_l3 (by omega) (by omega) ?_ 16384 T v_36 h_T x_T (by omega) (by omega)
      · intro T_55 h_T_55 x_T_55
        refine tot_let (fun v_56 e_v_56 => ?_)
        have q_v_56 := i_add e_v_56 (by omega) (by omega)
        exact ih T_55 v_56 h_T_55 x_T_55 (by omega) (by omega)
set_option maxHeartbeats 4000000 in
set_option maxRecDepth 10000 in
theorem cs_X4_sumIn {R : Nat → Nat} {B K1 K2 : Nat} (T : AT) (o : Nat) (a0 : Nat) (a1 : Nat) (a2 : Nat) (a3 : Int32) (h_T : IV R B K1 K2 T) (k_o : R o = 4) (k_a0 : R a0 = 59) (k_a1 : R a1 = 1) {r_a2 : Nat} (k_a2 : R a2 = r_a2) (w_a2 : isW r_a2 = true) (g0 : 0 ≤ a3.toInt ∧ a3.toInt ≤ 0) : Tot (g_X4_sumIn T o a0 a1 a2 a3) (fun T1 => IV R B K1 K2 T1 ∧ FW R [3202] T T1) := by
  have z0 : (1 : Int32).toInt = 1 := by decide
  have cc_101 : cnt 101 = 1 := rfl
  have cc_102 : cnt 102 = 12 := rfl
  have cc_103 : cnt 103 = 144 := rfl
  have cc_104 : cnt 104 = 2400 := rfl
  have cc_105 : cnt 105 = 7200 := rfl
  have x_T : FW R [3202] T T := FW.rf
  have j_a3 := i_any a3
  have c7_a2 := (isW_f w_a2).2.2.2.1
  unfold g_X4_sumIn
  refine tot_oif (w_oO h_T k_a2 w_a2) ?_
  refine tot_bind (c_clear (a0 := a3) h_T k_a2 w_a2 (by omega)) (fun T_1 d_T_1 => ?_)
  have h_T_1 : IV R B K1 K2 T_1 := d_T_1.1
  have y_T_1 : FW R [3202] T T_1 := (fw_of d_T_1.2)
  have x_T_1 := x_T.tr (y_T_1.w (by decide))
  refine tot_oif (iv_aA h_T_1 k_a0 (by decide) (by decide) rfl rfl) ?_
  refine tot_oif (by rw [iv_len h_T_1 k_a0 (by decide) (by decide) (rfl : shp 59 = (100, 4))]; exact i_inb (by omega) (by omega)) ?_
  refine tot_let (fun v_2 e_v_2 => ?_)
  have r_v_2 : 0 ≤ v_2.toInt ∧ v_2.toInt ≤ 11 := iv_int h_T_1 k_a0 (by decide) (by decide) e_v_2 rfl
  refine cl_X4_sumIn_b11 o a0 a1 a2 a3 T k_o k_a0 k_a1 k_a2 w_a2 (by omega) ?_ 16384 T_1 v_2 h_T_1 x_T_1 (by omega) (by omega)
  · intro T_57 h_T_57 x_T_57
    exact tot_some ⟨h_T_57, x_T_57⟩
set_option maxHeartbeats 4000000 in
set_option maxRecDepth 10000 in
theorem cs_X4_peakRanked {R : Nat → Nat} {B K1 K2 : Nat} (T : AT) (o : Nat) (a0 : Int32) (h_T : IV R B K1 K2 T) (k_o : R o = 4) (g0 : 0 ≤ a0.toInt ∧ a0.toInt ≤ 143) : Tot (g_X4_peakRanked T o a0) (fun r => r.2 = T ∧ (-1 ≤ r.1.toInt ∧ r.1.toInt ≤ 143)) := by
  have z0 : ((-1) : Int32).toInt = -1 := by decide
  have cc_101 : cnt 101 = 1 := rfl
  have cc_102 : cnt 102 = 12 := rfl
  have cc_103 : cnt 103 = 144 := rfl
  have cc_104 : cnt 104 = 2400 := rfl
  have cc_105 : cnt 105 = 7200 := rfl
  have j_a0 := i_any a0
  unfold g_X4_peakRanked
  refine tot_oif (iv_oO h_T k_o (by decide) (by decide) rfl) ?_
  refine tot_ref h_T k_o (by decide) (by decide) (r2 := 103) (rfl : rtg 4 5 = 103) (by decide) (fun n_1 k_n_1 e_n_1 => ?_)
  refine tot_oif (iv_oO h_T k_o (by decide) (by decide) rfl) ?_
  refine tot_let (fun v_2 e_v_2 => ?_)
  have r_v_2 : 0 ≤ v_2.toInt ∧ v_2.toInt ≤ 144 := iv_int h_T k_o (by decide) (by decide) e_v_2 rfl
  refine tot_oif (w_oO h_T k_n_1 (rfl : isW 103 = true)) ?_
  refine tot_bindq (R := fun r_3 : Int32 => r_3.toInt = -1 ∨ 0 ≤ r_3.toInt ∧ r_3.toInt < v_2.toInt) (c_ranked (a0 := v_2) (a1 := a0) k_n_1 (rfl : isW 103 = true) h_T (by omega)) (fun r_3 d_r_3 => ?_)
  replace d_r_3 : r_3.toInt = -1 ∨ 0 ≤ r_3.toInt ∧ r_3.toInt < v_2.toInt := d_r_3
  refine tot_if (fun c_7 => ?_) (fun c_7 => ?_)
  · replace c_7 := i_eq c_7
    unfold g_X4_peakRanked_b28
    exact tot_some ⟨rfl, (show (-1 ≤ ((-1) : Int32).toInt ∧ ((-1) : Int32).toInt ≤ 143) from by omega)⟩
  · replace c_7 := i_ne c_7
    refine tot_oif (iv_oO h_T k_o (by decide) (by decide) rfl) ?_
    refine tot_ref h_T k_o (by decide) (by decide) (r2 := 67) (rfl : rtg 4 4 = 67) (by decide) (fun n_5 k_n_5 e_n_5 => ?_)
    refine tot_oif (iv_aA h_T k_n_5 (by decide) (by decide) rfl rfl) ?_
    refine tot_oif (by rw [iv_len h_T k_n_5 (by decide) (by decide) (rfl : shp 67 = (100, 144))]; exact i_inb (by omega) (by omega)) ?_
    refine tot_let (fun v_6 e_v_6 => ?_)
    have r_v_6 : 0 ≤ v_6.toInt ∧ v_6.toInt ≤ 143 := iv_int h_T k_n_5 (by decide) (by decide) e_v_6 rfl
    unfold g_X4_peakRanked_b28
    exact tot_some ⟨rfl, (show (-1 ≤ v_6.toInt ∧ v_6.toInt ≤ 143) from by omega)⟩
set_option maxHeartbeats 4000000 in
set_option maxRecDepth 10000 in
theorem cl_X4_digit_b27 {R : Nat → Nat} {B K1 K2 : Nat} {Q : Int32 × AT → Prop} (l0 : Nat) (l2 : Nat) (T00 : AT) (k_l0 : R l0 = 4) {r_l2 : Nat} (k_l2 : R l2 = r_l2) (w_l2 : isW r_l2 = true) (g0 : 2 ≤ cnt r_l2) (hx0 : ∀ (T : AT) (l3 : Int32), (IV R B K1 K2 T) → (FW R [3202] T00 T) → (0 ≤ l3.toInt ∧ l3.toInt ≤ 9) → Tot (g_X4_digit_b84 T l3) Q) : ∀ (n : Nat) (T : AT) (l3 : Int32) (l4 : Int32), (IV R B K1 K2 T) → (FW R [3202] T00 T) → (0 ≤ l3.toInt ∧ l3.toInt ≤ 9) → (1 ≤ l4.toInt ∧ l4.toInt ≤ 11) → 11 - l4.toInt < (n : Int) → Tot (g_X4_digit_b27 n T l0 l2 l3 l4) Q := by
  have z0 : (9 : Int32).toInt = 9 := by decide
  have z1 : (0 : Int32).toInt = 0 := by decide
  have z2 : ((1 : Int32) : Int32).toInt = 1 := by decide
  have z3 : ((0 : Int32) : Int32).toInt = 0 := by decide
  have z4 : (Int32.ofInt (1) : Int32).toInt = 1 := by decide
  have cc_101 : cnt 101 = 1 := rfl
  have cc_102 : cnt 102 = 12 := rfl
  have cc_103 : cnt 103 = 144 := rfl
  have cc_104 : cnt 104 = 2400 := rfl
  have cc_105 : cnt 105 = 7200 := rfl
  have c7_l2 := (isW_f w_l2).2.2.2.1
  intro n
  induction n with
  | zero =>
    intro T l3 l4 h_T x_T g_l3 g_l4 hm
    exfalso
    omega
  | succ n ih =>
    intro T l3 l4 h_T x_T g_l3 g_l4 hm
    unfold g_X4_digit_b27
    refine tot_if (fun c_34 => ?_) (fun c_34 => ?_)
    · replace c_34 := i_lt c_34
      exact hx0 T l3 h_T x_T (by omega)
    · replace c_34 := i_nlt c_34
      refine tot_oif (iv_oO h_T k_l0 (by decide) (by decide) rfl) ?_
      refine tot_ref h_T k_l0 (by decide) (by decide) (r2 := 103) (rfl : rtg 4 1 = 103) (by decide) (fun n_27 k_n_27 e_n_27 => ?_)
      refine tot_oif (iv_oO h_T k_l0 (by decide) (by decide) rfl) ?_
      refine tot_let (fun v_28 e_v_28 => ?_)
      have r_v_28 : 0 ≤ v_28.toInt ∧ v_28.toInt ≤ 143 := iv_int h_T k_l0 (by decide) (by decide) e_v_28 rfl
      refine tot_oif (w_oO h_T k_n_27 (rfl : isW 103 = true)) ?_
      refine tot_bindq (R := fun r_29 : Int32 => r_29.toInt = 0 ∨ r_29.toInt = 1) (c_isZero (a0 := v_28) k_n_27 (rfl : isW 103 = true) h_T (by omega)) (fun r_29 d_r_29 => ?_)
      replace d_r_29 : r_29.toInt = 0 ∨ r_29.toInt = 1 := d_r_29
      refine tot_if (fun c_35 => ?_) (fun c_35 => ?_)
      · replace c_35 := i_eq c_35
        refine tot_oif (iv_oO h_T k_l0 (by decide) (by decide) rfl) ?_
        refine tot_ref1 e_n_27 ?_
        refine tot_oif (iv_oO h_T k_l0 (by decide) (by decide) rfl) ?_
        refine tot_let (fun v_32 e_v_32 => ?_)
        have u_v_32 : v_32.toInt = v_28.toInt := by rw [e_v_32, e_v_28]
        have r_v_32 : 0 ≤ v_32.toInt ∧ v_32.toInt ≤ 143 := iv_int h_T k_l0 (by decide) (by decide) e_v_32 rfl
        refine tot_oif (w_oO h_T k_l2 w_l2) ?_
        refine tot_bind (c_add (a0 := (1 : Int32)) (a2 := v_32) (a3 := (1 : Int32)) k_l2 w_l2 k_n_27 (rfl : isW 103 = true) h_T (by omega) (by omega)) (fun T_33 d_T_33 => ?_)
        have h_T_33 : IV R B K1 K2 T_33 := d_T_33.1
        have y_T_33 : FW R [3202] T T_33 := (fw_wx d_T_33.2 k_l2 w_l2 (by decide))
        have x_T_33 := x_T.tr (y_T_33.w (by decide))
        unfold g_X4_digit_b62
        refine tot_oif (w_oO h_T_33 k_l2 w_l2) ?_
        refine tot_bindq (R := fun r_36 : Int32 => True) (c_compare (a0 := (0 : Int32)) (a1 := (1 : Int32)) k_l2 w_l2 h_T_33 (by omega) (by omega)) (fun r_36 d_r_36 => ?_)
        have r_r_36 := i_any r_36
        refine tot_if (fun c_38 => ?_) (fun c_38 => ?_)
        · replace c_38 := i_lt c_38
          unfold g_X4_digit_b77
          refine tot_let (fun v_39 e_v_39 => ?_)
          have q_v_39 := i_add e_v_39 (by omega) (by omega)
          exact ih T_33 l3 v_39 h_T_33 x_T_33 (by omega) (by omega) (by omega)
        · replace c_38 := i_nlt c_38
          unfold g_X4_digit_b77
          refine tot_let (fun v_40 e_v_40 => ?_)
          have q_v_40 := i_add e_v_40 (by omega) (by omega)
          exact ih T_33 l4 v_40 h_T_33 x_T_33 (by omega) (by omega) (by omega)
      · replace c_35 := i_ne c_35
        exact hx0 T l3 h_T x_T (by omega)
set_option maxHeartbeats 4000000 in
set_option maxRecDepth 10000 in
theorem cs_X4_digit {R : Nat → Nat} {B K1 K2 : Nat} (T : AT) (o : Nat) (a0 : Int32) (a1 : Nat) (h_T : IV R B K1 K2 T) (k_o : R o = 4) {r_a1 : Nat} (k_a1 : R a1 = r_a1) (w_a1 : isW r_a1 = true) (g0 : 0 ≤ a0.toInt ∧ a0.toInt ≤ 143) (g1 : 2 ≤ cnt r_a1) : Tot (g_X4_digit T o a0 a1) (fun r => (IV R B K1 K2 r.2 ∧ FW R [3202] T r.2) ∧ (0 ≤ r.1.toInt ∧ r.1.toInt ≤ 9)) := by
  have z0 : ((0 : Int32) : Int32).toInt = 0 := by decide
  have z1 : ((1 : Int32) : Int32).toInt = 1 := by decide
  have z2 : ((9 : Int32) : Int32).toInt = 9 := by decide
  have z3 : (0 : Int32).toInt = 0 := by decide
  have z4 : (1 : Int32).toInt = 1 := by decide
  have cc_101 : cnt 101 = 1 := rfl
  have cc_102 : cnt 102 = 12 := rfl
  have cc_103 : cnt 103 = 144 := rfl
  have cc_104 : cnt 104 = 2400 := rfl
  have cc_105 : cnt 105 = 7200 := rfl
  have x_T : FW R [3202] T T := FW.rf
  have j_a0 := i_any a0
  have c7_a1 := (isW_f w_a1).2.2.2.1
  unfold g_X4_digit
  refine tot_oif (w_oO h_T k_a1 w_a1) ?_
  refine tot_bind (c_clear (a0 := (0 : Int32)) h_T k_a1 w_a1 (by omega)) (fun T_1 d_T_1 => ?_)
  have h_T_1 : IV R B K1 K2 T_1 := d_T_1.1
  have y_T_1 : FW R [3202] T T_1 := (fw_of d_T_1.2)
  have x_T_1 := x_T.tr (y_T_1.w (by decide))
  refine tot_oif (w_oO h_T_1 k_a1 w_a1) ?_
  refine tot_bind (c_clear (a0 := (1 : Int32)) h_T_1 k_a1 w_a1 (by omega)) (fun T_2 d_T_2 => ?_)
  have h_T_2 : IV R B K1 K2 T_2 := d_T_2.1
  have y_T_2 : FW R [3202] T_1 T_2 := (fw_of d_T_2.2)
  have x_T_2 := x_T_1.tr (y_T_2.w (by decide))
  refine tot_oif (iv_oO h_T_2 k_o (by decide) (by decide) rfl) ?_
  refine tot_ref h_T_2 k_o (by decide) (by decide) (r2 := 103) (rfl : rtg 4 1 = 103) (by decide) (fun n_3 k_n_3 e_n_3 => ?_)
  refine tot_oif (w_oO h_T_2 k_a1 w_a1) ?_
  refine tot_bind (c_add (a0 := (0 : Int32)) (a2 := a0) (a3 := (9 : Int32)) k_a1 w_a1 k_n_3 (rfl : isW 103 = true) h_T_2 (by omega) (by omega)) (fun T_4 d_T_4 => ?_)
  have h_T_4 : IV R B K1 K2 T_4 := d_T_4.1
  have y_T_4 : FW R [3202] T_2 T_4 := (fw_wx d_T_4.2 k_a1 w_a1 (by decide))
  have x_T_4 := x_T_2.tr (y_T_4.w (by decide))
  unfold g_X4_digit_b22
  refine cl_X4_digit_b27 o a1 T k_o k_a1 w_a1 (by omega) ?_ 16384 T_4 0 1 h_T_4 x_T_4 (by omega) (by omega) (by omega)
  · intro T_41 l_42 h_T_41 x_T_41 g_l_42
    unfold g_X4_digit_b84
    exact tot_some ⟨⟨h_T_41, x_T_41⟩, (show (0 ≤ l_42.toInt ∧ l_42.toInt ≤ 9) from by omega)⟩
set_option maxHeartbeats 4000000 in
set_option maxRecDepth 10000 in
theorem cl_J7_fill_53178_b5 {R : Nat → Nat} {B K1 K2 : Nat} {Q : AT → Prop} (l0 : Nat) (l1 : Int32) (l3 : Int32) (T00 : AT) (k_l0 : R l0 = 46) (g0 : 0 ≤ l1.toInt ∧ l1.toInt ≤ 0) (g1 : 200 ≤ l3.toInt ∧ l3.toInt ≤ 200) (hx0 : ∀ (T : AT), (IV R B K1 K2 T) → (FW R [1472] T00 T) → Tot (some (T)) Q) : ∀ (n : Nat) (T : AT) (l2 : Int32), (IV R B K1 K2 T) → (FW R [1472] T00 T) → (0 ≤ l2.toInt ∧ l2.toInt ≤ 200) → 200 - l2.toInt < (n : Int) → Tot (g_J7_fill_53178_b5 n T l0 l1 l2 l3) Q := by
  have z0 : (Int32.ofInt (1) : Int32).toInt = 1 := by decide
  have cc_101 : cnt 101 = 1 := rfl
  have cc_102 : cnt 102 = 12 := rfl
  have cc_103 : cnt 103 = 144 := rfl
  have cc_104 : cnt 104 = 2400 := rfl
  have cc_105 : cnt 105 = 7200 := rfl
  have j_l1 := i_any l1
  have j_l3 := i_any l3
  intro n
  induction n with
  | zero =>
    intro T l2 h_T x_T g_l2 hm
    exfalso
    omega
  | succ n ih =>
    intro T l2 h_T x_T g_l2 hm
    unfold g_J7_fill_53178_b5
    refine tot_if (fun c_8 => ?_) (fun c_8 => ?_)
    · replace c_8 := i_le c_8
      exact hx0 T h_T x_T
    · replace c_8 := i_nle c_8
      refine tot_oif (iv_aA h_T k_l0 (by decide) (by decide) rfl rfl) ?_
      refine tot_oif (by rw [iv_len h_T k_l0 (by decide) (by decide) (rfl : shp 46 = (100, 200))]; exact i_inb (by omega) (by omega)) ?_
      refine tot_let (fun T_6 e_T_6 => ?_)
      have ja_T_6 := i_any l1
      have h_T_6 : IV R B K1 K2 T_6 := by rw [e_T_6]; exact iv_uI (a := -2147483648) (b := 2147483647) h_T k_l0 (by decide) (by decide) rfl (by omega) (.inl rfl)
      have x_T_6 := x_T.tr (fw_uA e_T_6 k_l0 rfl rfl (by decide))
      refine tot_let (fun v_7 e_v_7 => ?_)
      have q_v_7 := i_add e_v_7 (by omega) (by omega)
      exact ih T_6 v_7 h_T_6 x_T_6 (by omega) (by omega)
set_option maxHeartbeats 4000000 in
set_option maxRecDepth 10000 in
theorem cs_J7_fill_53178 {R : Nat → Nat} {B K1 K2 : Nat} (T : AT) (a0 : Nat) (a1 : Int32) (h_T : IV R B K1 K2 T) (k_a0 : R a0 = 46) (g0 : 0 ≤ a1.toInt ∧ a1.toInt ≤ 0) : Tot (g_J7_fill_53178 T a0 a1) (fun T1 => IV R B K1 K2 T1 ∧ FW R [1472] T T1) := by
  have z0 : (0 : Int32).toInt = 0 := by decide
  have cc_101 : cnt 101 = 1 := rfl
  have cc_102 : cnt 102 = 12 := rfl
  have cc_103 : cnt 103 = 144 := rfl
  have cc_104 : cnt 104 = 2400 := rfl
  have cc_105 : cnt 105 = 7200 := rfl
  have x_T : FW R [1472] T T := FW.rf
  have j_a1 := i_any a1
  unfold g_J7_fill_53178
  refine tot_oif (iv_aA h_T k_a0 (by decide) (by decide) rfl rfl) ?_
  refine tot_let (fun v_1 e_v_1 => ?_)
  have q_v_1 : v_1.toInt = 200 := by rw [e_v_1, iv_len h_T k_a0 (by decide) (by decide) (rfl : shp 46 = (100, 200))]; decide
  refine cl_J7_fill_53178_b5 a0 a1 v_1 T k_a0 (by omega) (by omega) ?_ 16384 T 0 h_T x_T (by omega) (by omega)
  · intro T_9 h_T_9 x_T_9
    exact tot_some ⟨h_T_9, x_T_9⟩
set_option maxHeartbeats 4000000 in
set_option maxRecDepth 10000 in
theorem cl_X5_silence_b2 {R : Nat → Nat} {B K1 K2 : Nat} {Q : AT → Prop} (l0 : Nat) (T00 : AT) (k_l0 : R l0 = 5) (hx0 : ∀ (T : AT), (IV R B K1 K2 T) → (FW R [1472] T00 T) → Tot (some (T)) Q) : ∀ (n : Nat) (T : AT) (l1 : Int32), (IV R B K1 K2 T) → (FW R [1472] T00 T) → (0 ≤ l1.toInt ∧ l1.toInt ≤ 12) → 12 - l1.toInt < (n : Int) → Tot (g_X5_silence_b2 n T l0 l1) Q := by
  have z0 : (12 : Int32).toInt = 12 := by decide
  have z1 : ((0 : Int32) : Int32).toInt = 0 := by decide
  have z2 : (Int32.ofInt (1) : Int32).toInt = 1 := by decide
  have cc_101 : cnt 101 = 1 := rfl
  have cc_102 : cnt 102 = 12 := rfl
  have cc_103 : cnt 103 = 144 := rfl
  have cc_104 : cnt 104 = 2400 := rfl
  have cc_105 : cnt 105 = 7200 := rfl
  intro n
  induction n with
  | zero =>
    intro T l1 h_T x_T g_l1 hm
    exfalso
    omega
  | succ n ih =>
    intro T l1 h_T x_T g_l1 hm
    unfold g_X5_silence_b2
    refine tot_if (fun c_13 => ?_) (fun c_13 => ?_)
    · replace c_13 := i_le c_13
      exact hx0 T h_T x_T
    · replace c_13 := i_nle c_13
      refine tot_oif (iv_oO h_T k_l0 (by decide) (by decide) rfl) ?_
      refine tot_ref h_T k_l0 (by decide) (by decide) (r2 := 45) (rfl : rtg 5 0 = 45) (by decide) (fun n_9 k_n_9 e_n_9 => ?_)
      refine tot_oif (iv_aA h_T k_n_9 (by decide) (by decide) rfl rfl) ?_
      refine tot_oif (by rw [iv_len h_T k_n_9 (by decide) (by decide) (rfl : shp 45 = (106, 12))]; exact i_inb (by omega) (by omega)) ?_
      refine tot_ref h_T k_n_9 (by decide) (by decide) (r2 := 46) (rt_45 (by omega) (by omega)) (by decide) (fun n_10 k_n_10 e_n_10 => ?_)
      refine tot_bind (cs_J7_fill_53178 T n_10 (0 : Int32) h_T k_n_10 (by omega)) (fun T_11 d_T_11 => ?_)
      have h_T_11 : IV R B K1 K2 T_11 := d_T_11.1
      have y_T_11 : FW R [1472] T T_11 := d_T_11.2
      have x_T_11 := x_T.tr (y_T_11.w (by decide))
      refine tot_let (fun v_12 e_v_12 => ?_)
      have q_v_12 := i_add e_v_12 (by omega) (by omega)
      exact ih T_11 v_12 h_T_11 x_T_11 (by omega) (by omega)
set_option maxHeartbeats 4000000 in
set_option maxRecDepth 10000 in
theorem cs_X5_silence {R : Nat → Nat} {B K1 K2 : Nat} (T : AT) (o : Nat) (h_T : IV R B K1 K2 T) (k_o : R o = 5) : Tot (g_X5_silence T o) (fun T1 => IV R B K1 K2 T1 ∧ FW R [1472] T T1) := by
  have z0 : (0 : Int32).toInt = 0 := by decide
  have cc_101 : cnt 101 = 1 := rfl
  have cc_102 : cnt 102 = 12 := rfl
  have cc_103 : cnt 103 = 144 := rfl
  have cc_104 : cnt 104 = 2400 := rfl
  have cc_105 : cnt 105 = 7200 := rfl
  have x_T : FW R [1472] T T := FW.rf
  unfold g_X5_silence
  refine cl_X5_silence_b2 o T k_o ?_ 16384 T 0 h_T x_T (by omega) (by omega)
  · intro T_14 h_T_14 x_T_14
    exact tot_some ⟨h_T_14, x_T_14⟩
set_option maxHeartbeats 4000000 in
set_option maxRecDepth 10000 in
theorem cs_X5_raw {R : Nat → Nat} {B K1 K2 : Nat} (T : AT) (o : Nat) (a0 : Nat) (a1 : Int32) (a2 : Int32) (h_T : IV R B K1 K2 T) (k_o : R o = 5) (k_a0 : R a0 = 6) (g0 : 0 ≤ a1.toInt ∧ a1.toInt ≤ 11) (g1 : -4 ≤ a2.toInt ∧ a2.toInt ≤ 199) : Tot (g_X5_raw T o a0 a1 a2) (fun r => r.2 = T ∧ True) := by
  have z0 : (0 : Int32).toInt = 0 := by decide
  have z1 : (200 : Int32).toInt = 200 := by decide
  have cc_101 : cnt 101 = 1 := rfl
  have cc_102 : cnt 102 = 12 := rfl
  have cc_103 : cnt 103 = 144 := rfl
  have cc_104 : cnt 104 = 2400 := rfl
  have cc_105 : cnt 105 = 7200 := rfl
  have j_a1 := i_any a1
  have j_a2 := i_any a2
  unfold g_X5_raw
  refine tot_oif (iv_oO h_T k_a0 (by decide) (by decide) rfl) ?_
  refine tot_ref h_T k_a0 (by decide) (by decide) (r2 := 53) (rfl : rtg 6 4 = 53) (by decide) (fun n_1 k_n_1 e_n_1 => ?_)
  refine tot_oif (iv_aA h_T k_n_1 (by decide) (by decide) rfl rfl) ?_
  refine tot_oif (by rw [iv_len h_T k_n_1 (by decide) (by decide) (rfl : shp 53 = (103, 12))]; exact i_inb (by omega) (by omega)) ?_
  refine tot_ref h_T k_n_1 (by decide) (by decide) (r2 := 2) (rt_53 (by omega) (by omega)) (by decide) (fun n_2 k_n_2 e_n_2 => ?_)
  refine tot_oif (iv_oO h_T k_n_2 (by decide) (by decide) rfl) ?_
  refine tot_let (fun v_3 e_v_3 => ?_)
  have r_v_3 : 0 ≤ v_3.toInt ∧ v_3.toInt ≤ 31 := iv_int h_T k_n_2 (by decide) (by decide) e_v_3 rfl
  refine tot_let (fun v_4 e_v_4 => ?_)
  have q_v_4 := i_sub e_v_4 (by omega) (by omega)
  refine tot_if (fun c_12 => ?_) (fun c_12 => ?_)
  · replace c_12 := i_lt c_12
    unfold g_X5_raw_b48
    unfold g_X5_raw_b49
    exact tot_some ⟨rfl, trivial⟩
  · replace c_12 := i_nlt c_12
    refine tot_if (fun c_13 => ?_) (fun c_13 => ?_)
    · replace c_13 := i_le c_13
      exfalso
      omega
    · replace c_13 := i_nle c_13
      refine tot_oif (iv_oO h_T k_a0 (by decide) (by decide) rfl) ?_
      refine tot_ref1 e_n_1 ?_
      refine tot_oif (iv_aA h_T k_n_1 (by decide) (by decide) rfl rfl) ?_
      refine tot_oif (by rw [iv_len h_T k_n_1 (by decide) (by decide) (rfl : shp 53 = (103, 12))]; exact i_inb (by omega) (by omega)) ?_
      refine tot_ref1 e_n_2 ?_
      refine tot_oif (iv_oO h_T k_n_2 (by decide) (by decide) rfl) ?_
      refine tot_let (fun v_7 e_v_7 => ?_)
      have r_v_7 : 0 ≤ v_7.toInt ∧ v_7.toInt ≤ 9 := iv_int h_T k_n_2 (by decide) (by decide) e_v_7 rfl
      refine tot_oif (iv_oO h_T k_o (by decide) (by decide) rfl) ?_
      refine tot_ref h_T k_o (by decide) (by decide) (r2 := 45) (rfl : rtg 5 0 = 45) (by decide) (fun n_8 k_n_8 e_n_8 => ?_)
      refine tot_oif (iv_aA h_T k_n_8 (by decide) (by decide) rfl rfl) ?_
      refine tot_oif (by rw [iv_len h_T k_n_8 (by decide) (by decide) (rfl : shp 45 = (106, 12))]; exact i_inb (by omega) (by omega)) ?_
      refine tot_ref h_T k_n_8 (by decide) (by decide) (r2 := 46) (rt_45 (by omega) (by omega)) (by decide) (fun n_9 k_n_9 e_n_9 => ?_)
      refine tot_oif (iv_aA h_T k_n_9 (by decide) (by decide) rfl rfl) ?_
      refine tot_oif (by rw [iv_len h_T k_n_9 (by decide) (by decide) (rfl : shp 46 = (100, 200))]; exact i_inb (by omega) (by omega)) ?_
      refine tot_let (fun v_10 e_v_10 => ?_)
      have r_v_10 := i_any v_10
      refine tot_let (fun v_11 e_v_11 => ?_)
      have r_v_11 := i_any v_11
      unfold g_X5_raw_b49
      exact tot_some ⟨rfl, trivial⟩
set_option maxHeartbeats 4000000 in
set_option maxRecDepth 10000 in
theorem cl_X5_filtered_b6 {R : Nat → Nat} {B K1 K2 : Nat} {Q : Int32 × AT → Prop} (T : AT) (l0 : Nat) (l1 : Nat) (l2 : Int32) (l3 : Int32) (h_T : IV R B K1 K2 T) (k_l0 : R l0 = 5) (k_l1 : R l1 = 6) (g0 : 0 ≤ l2.toInt ∧ l2.toInt ≤ 11) (g1 : 0 ≤ l3.toInt ∧ l3.toInt ≤ 199) (hx0 : ∀ (l4 : Int32), Tot (some (l4, T)) Q) : ∀ (n : Nat) (l4 : Int32) (l5 : Int32), (0 ≤ l5.toInt ∧ l5.toInt ≤ 5) → 5 - l5.toInt < (n : Int) → Tot (g_X5_filtered_b6 n T l0 l1 l2 l3 l4 l5) Q := by
  have z0 : (Int32.ofInt (1) : Int32).toInt = 1 := by decide
  have cc_101 : cnt 101 = 1 := rfl
  have cc_102 : cnt 102 = 12 := rfl
  have cc_103 : cnt 103 = 144 := rfl
  have cc_104 : cnt 104 = 2400 := rfl
  have cc_105 : cnt 105 = 7200 := rfl
  have j_l2 := i_any l2
  have j_l3 := i_any l3
  intro n
  induction n with
  | zero =>
    intro l4 l5 g_l5 hm
    exfalso
    omega
  | succ n ih =>
    intro l4 l5 g_l5 hm
    unfold g_X5_filtered_b6
    refine tot_oif (iv_oO h_T k_l1 (by decide) (by decide) rfl) ?_
    refine tot_let (fun v_19 e_v_19 => ?_)
    have r_v_19 : 0 ≤ v_19.toInt ∧ v_19.toInt ≤ 5 := iv_int h_T k_l1 (by decide) (by decide) e_v_19 rfl
    refine tot_if (fun c_28 => ?_) (fun c_28 => ?_)
    · replace c_28 := i_le c_28
      exact hx0 l4 
    · replace c_28 := i_nle c_28
      refine tot_oif (iv_oO h_T k_l1 (by decide) (by decide) rfl) ?_
      refine tot_ref h_T k_l1 (by decide) (by decide) (r2 := 57) (rfl : rtg 6 13 = 57) (by decide) (fun n_20 k_n_20 e_n_20 => ?_)
      refine tot_oif (iv_aA h_T k_n_20 (by decide) (by decide) rfl rfl) ?_
      refine tot_oif (by rw [iv_len h_T k_n_20 (by decide) (by decide) (rfl : shp 57 = (100, 5))]; exact i_inb (by omega) (by omega)) ?_
      refine tot_let (fun v_21 e_v_21 => ?_)
      have r_v_21 : -9 ≤ v_21.toInt ∧ v_21.toInt ≤ 9 := iv_int h_T k_n_20 (by decide) (by decide) e_v_21 rfl
      refine tot_let (fun v_22 e_v_22 => ?_)
      have q_v_22 := i_sub e_v_22 (by omega) (by omega)
      refine tot_oif (iv_oO h_T k_l0 (by decide) (by decide) rfl) ?_
      refine tot_bindq (R := fun r_23 : Int32 => True) (cs_X5_raw T l0 l1 l2 v_22 h_T k_l0 k_l1 (by omega) (by omega)) (fun r_23 d_r_23 => ?_)
      have r_r_23 := i_any r_23
      refine tot_let (fun v_25 e_v_25 => ?_)
      have r_v_25 := i_any v_25
      refine tot_let (fun v_26 e_v_26 => ?_)
      have r_v_26 := i_any v_26
      refine tot_let (fun v_27 e_v_27 => ?_)
      have q_v_27 := i_add e_v_27 (by omega) (by omega)
      exact ih v_26 v_27 (by omega) (by omega)
set_option maxHeartbeats 4000000 in
set_option maxRecDepth 10000 in
theorem cs_X5_filtered {R : Nat → Nat} {B K1 K2 : Nat} (T : AT) (o : Nat) (a0 : Nat) (a1 : Int32) (a2 : Int32) (h_T : IV R B K1 K2 T) (k_o : R o = 5) (k_a0 : R a0 = 6) (g0 : 0 ≤ a1.toInt ∧ a1.toInt ≤ 11) (g1 : 0 ≤ a2.toInt ∧ a2.toInt ≤ 199) : Tot (g_X5_filtered T o a0 a1 a2) (fun r => r.2 = T ∧ True) := by
  have z0 : (0 : Int32).toInt = 0 := by decide
  have cc_101 : cnt 101 = 1 := rfl
  have cc_102 : cnt 102 = 12 := rfl
  have cc_103 : cnt 103 = 144 := rfl
  have cc_104 : cnt 104 = 2400 := rfl
  have cc_105 : cnt 105 = 7200 := rfl
  have j_a1 := i_any a1
  have j_a2 := i_any a2
  unfold g_X5_filtered
  refine cl_X5_filtered_b6 T o a0 a1 a2 h_T k_o k_a0 (by omega) (by omega) ?_ 16384 0 0 (by omega) (by omega)
  · intro l_29
    have j_l_29 := i_any l_29
    exact tot_some ⟨rfl, trivial⟩
set_option maxHeartbeats 4000000 in
set_option maxRecDepth 10000 in
theorem cl_X5_finish_b20 {R : Nat → Nat} {B K1 K2 : Nat} {Q : AT → Prop} {k9 : AT → Nat → Nat → Nat → Int32 → Option (AT)} (l0 : Nat) (l1 : Nat) (l2 : Nat) (l3 : Int32) (T00 : AT) (k_l0 : R l0 = 5) (k_l1 : R l1 = 6) (k_l2 : R l2 = 8) (g0 : 0 ≤ l3.toInt ∧ l3.toInt ≤ 11) (hx0 : ∀ (T : AT), (IV R B K1 K2 T) → (FW R [258, 3202] T00 T) → Tot (elet (l3 + Int32.ofInt (1)) fun v_115 => k9 T l0 l1 l2 v_115) Q) : ∀ (n : Nat) (T : AT) (l4 : Int32), (IV R B K1 K2 T) → (FW R [258, 3202] T00 T) → (0 ≤ l4.toInt ∧ l4.toInt ≤ 200) → 200 - l4.toInt < (n : Int) → Tot (g_X5_finish_b20 k9 n T l0 l1 l2 l3 l4) Q := by
  have z0 : (0 : Int32).toInt = 0 := by decide
  have z1 : (Int32.ofInt (1) : Int32).toInt = 1 := by decide
  have cc_101 : cnt 101 = 1 := rfl
  have cc_102 : cnt 102 = 12 := rfl
  have cc_103 : cnt 103 = 144 := rfl
  have cc_104 : cnt 104 = 2400 := rfl
  have cc_105 : cnt 105 = 7200 := rfl
  have j_l3 := i_any l3
  intro n
  induction n with
  | zero =>
    intro T l4 h_T x_T g_l4 hm
    exfalso
    omega
  | succ n ih =>
    intro T l4 h_T x_T g_l4 hm
    unfold g_X5_finish_b20
    refine tot_oif (iv_oO h_T k_l1 (by decide) (by decide) rfl) ?_
    refine tot_let (fun v_114 e_v_114 => ?_)
    have r_v_114 : 0 ≤ v_114.toInt ∧ v_114.toInt ≤ 200 := iv_int h_T k_l1 (by decide) (by decide) e_v_114 rfl
    refine tot_if (fun c_121 => ?_) (fun c_121 => ?_)
    · replace c_121 := i_le c_121
      exact hx0 T h_T x_T
    · replace c_121 := i_nle c_121
      refine tot_oif (iv_oO h_T k_l1 (by decide) (by decide) rfl) ?_
      refine tot_let (fun v_116 e_v_116 => ?_)
      have r_v_116 : 0 ≤ v_116.toInt ∧ v_116.toInt ≤ 5 := iv_int h_T k_l1 (by decide) (by decide) e_v_116 rfl
      refine tot_if (fun c_122 => ?_) (fun c_122 => ?_)
      · replace c_122 := i_le c_122
        refine tot_oif (iv_oO h_T k_l0 (by decide) (by decide) rfl) ?_
        refine tot_bindq (R := fun r_117 : Int32 => True) (cs_X5_raw T l0 l1 l3 l4 h_T k_l0 k_l1 (by omega) (by omega)) (fun r_117 d_r_117 => ?_)
        have r_r_117 := i_any r_117
        unfold g_X5_finish_b55
        refine tot_oif (iv_oO h_T k_l2 (by decide) (by decide) rfl) ?_
        refine tot_ref h_T k_l2 (by decide) (by decide) (r2 := 104) (rfl : rtg 8 10 = 104) (by decide) (fun n_123 k_n_123 e_n_123 => ?_)
        refine tot_bind (cs_X8_placeOf l3 l4 (by omega) (by omega)) (fun r_124 d_r_124 => ?_)
        replace d_r_124 : (0 ≤ r_124.toInt ∧ r_124.toInt ≤ 2399) := d_r_124
        refine tot_oif (iv_oO h_T k_l1 (by decide) (by decide) rfl) ?_
        refine tot_let (fun v_125 e_v_125 => ?_)
        have r_v_125 : 0 ≤ v_125.toInt ∧ v_125.toInt ≤ 9999 := iv_int h_T k_l1 (by decide) (by decide) e_v_125 rfl
        refine tot_let (fun v_126 e_v_126 => ?_)
        have q_v_126 := i_neg e_v_126 (by omega)
        refine tot_oif (iv_oO h_T k_l1 (by decide) (by decide) rfl) ?_
        refine tot_let (fun v_127 e_v_127 => ?_)
        have u_v_127 : v_127.toInt = v_125.toInt := by rw [e_v_127, e_v_125]
        have r_v_127 : 0 ≤ v_127.toInt ∧ v_127.toInt ≤ 9999 := iv_int h_T k_l1 (by decide) (by decide) e_v_127 rfl
        refine tot_let (fun v_128 e_v_128 => ?_)
        have q_v_128 := i_ilt e_v_128
        refine tot_let (fun v_129 e_v_129 => ?_)
        have q_v_129 := i_ilt e_v_129
        refine tot_oif (w_oO h_T k_n_123 (rfl : isW 104 = true)) ?_
        refine tot_bind (c_putN (a0 := r_124) (a1 := v_129) k_n_123 (rfl : isW 104 = true) h_T (by omega)) (fun T_130 d_T_130 => ?_)
        have h_T_130 : IV R B K1 K2 T_130 := d_T_130.1
        have y_T_130 : FW R [3202] T T_130 := (fw_wx d_T_130.2 k_n_123 (rfl : isW 104 = true) (by decide))
        have x_T_130 := x_T.tr (y_T_130.w (by decide))
        unfold g_X5_finish_b87
        refine tot_let (fun v_131 e_v_131 => ?_)
        have q_v_131 := i_add e_v_131 (by omega) (by omega)
        exact ih T_130 v_131 h_T_130 x_T_130 (by omega) (by omega)
      · replace c_122 := i_nle c_122
        refine tot_oif (iv_oO h_T k_l0 (by decide) (by decide) rfl) ?_
        refine tot_bindq (R := fun r_119 : Int32 => True) (cs_X5_filtered T l0 l1 l3 l4 h_T k_l0 k_l1 (by omega) (by omega)) (fun r_119 d_r_119 => ?_)
        have r_r_119 := i_any r_119
        unfold g_X5_finish_b55
        refine tot_oif (iv_oO h_T k_l2 (by decide) (by decide) rfl) ?_
        refine tot_ref h_T k_l2 (by decide) (by decide) (r2 := 104) (rfl : rtg 8 10 = 104) (by decide) (fun n_132 k_n_132 e_n_132 => ?_)
        refine tot_bind (cs_X8_placeOf l3 l4 (by omega) (by omega)) (fun r_133 d_r_133 => ?_)
        replace d_r_133 : (0 ≤ r_133.toInt ∧ r_133.toInt ≤ 2399) := d_r_133
        refine tot_oif (iv_oO h_T k_l1 (by decide) (by decide) rfl) ?_
        refine tot_let (fun v_134 e_v_134 => ?_)
        have r_v_134 : 0 ≤ v_134.toInt ∧ v_134.toInt ≤ 9999 := iv_int h_T k_l1 (by decide) (by decide) e_v_134 rfl
        refine tot_let (fun v_135 e_v_135 => ?_)
        have q_v_135 := i_neg e_v_135 (by omega)
        refine tot_oif (iv_oO h_T k_l1 (by decide) (by decide) rfl) ?_
        refine tot_let (fun v_136 e_v_136 => ?_)
        have u_v_136 : v_136.toInt = v_134.toInt := by rw [e_v_136, e_v_134]
        have r_v_136 : 0 ≤ v_136.toInt ∧ v_136.toInt ≤ 9999 := iv_int h_T k_l1 (by decide) (by decide) e_v_136 rfl
        refine tot_let (fun v_137 e_v_137 => ?_)
        have q_v_137 := i_ilt e_v_137
        refine tot_let (fun v_138 e_v_138 => ?_)
        have q_v_138 := i_ilt e_v_138
        refine tot_oif (w_oO h_T k_n_132 (rfl : isW 104 = true)) ?_
        refine tot_bind (c_putN (a0 := r_133) (a1 := v_138) k_n_132 (rfl : isW 104 = true) h_T (by omega)) (fun T_139 d_T_139 => ?_)
        have h_T_139 : IV R B K1 K2 T_139 := d_T_139.1
        have y_T_139 : FW R [3202] T T_139 := (fw_wx d_T_139.2 k_n_132 (rfl : isW 104 = true) (by decide))
        have x_T_139 := x_T.tr (y_T_139.w (by decide))
        unfold g_X5_finish_b87
        refine tot_let (fun v_140 e_v_140 => ?_)
        have q_v_140 := i_add e_v_140 (by omega) (by omega)
        exact ih T_139 v_140 h_T_139 x_T_139 (by omega) (by omega)
set_option maxHeartbeats 4000000 in
set_option maxRecDepth 10000 in
theorem cl_X5_finish_b9 {R : Nat → Nat} {B K1 K2 : Nat} {Q : AT → Prop} (l0 : Nat) (l1 : Nat) (l2 : Nat) (T00 : AT) (k_l0 : R l0 = 5) (k_l1 : R l1 = 6) (k_l2 : R l2 = 8) (hx0 : ∀ (T : AT), (IV R B K1 K2 T) → (FW R [258, 3202] T00 T) → Tot (oif (oO T l2 8 = true) <| elet (uI T l2 2 0) fun T_87 => some (T_87)) Q) : ∀ (n : Nat) (T : AT) (l3 : Int32), (IV R B K1 K2 T) → (FW R [258, 3202] T00 T) → (0 ≤ l3.toInt ∧ l3.toInt ≤ 12) → 12 - l3.toInt < (n : Int) → Tot (g_X5_finish_b9 n T l0 l1 l2 l3) Q := by
  have z0 : (0 : Int32).toInt = 0 := by decide
  have z1 : (Int32.ofInt (1) : Int32).toInt = 1 := by decide
  have cc_101 : cnt 101 = 1 := rfl
  have cc_102 : cnt 102 = 12 := rfl
  have cc_103 : cnt 103 = 144 := rfl
  have cc_104 : cnt 104 = 2400 := rfl
  have cc_105 : cnt 105 = 7200 := rfl
  intro n
  induction n with
  | zero =>
    intro T l3 h_T x_T g_l3 hm
    exfalso
    omega
  | succ n ih =>
    intro T l3 h_T x_T g_l3 hm
    unfold g_X5_finish_b9
    refine tot_oif (iv_oO h_T k_l1 (by decide) (by decide) rfl) ?_
    refine tot_let (fun v_86 e_v_86 => ?_)
    have r_v_86 : 0 ≤ v_86.toInt ∧ v_86.toInt ≤ 12 := iv_int h_T k_l1 (by decide) (by decide) e_v_86 rfl
    refine tot_if (fun c_88 => ?_) (fun c_88 => ?_)
    · replace c_88 := i_le c_88
      exact hx0 T h_T x_T
    · replace c_88 := i_nle c_88
      refine cl_X5_finish_b20 l0 l1 l2 l3 T00 k_l0 k_l1 k_l2 (by omega) ?_ 16384 T 0 h_T x_T (by omega) (by omega)
      · intro T_141 h_T_141 x_T_141
        refine tot_let (fun v_142 e_v_142 => ?_)
        have q_v_142 := i_add e_v_142 (by omega) (by omega)
        exact ih T_141 v_142 h_T_141 x_T_141 (by omega) (by omega)
set_option maxHeartbeats 4000000 in
set_option maxRecDepth 10000 in
theorem cs_X5_finish {R : Nat → Nat} {B K1 K2 : Nat} (T : AT) (o : Nat) (a0 : Nat) (a1 : Nat) (h_T : IV R B K1 K2 T) (k_o : R o = 5) (k_a0 : R a0 = 6) (k_a1 : R a1 = 8) : Tot (g_X5_finish T o a0 a1) (fun T1 => IV R B K1 K2 T1 ∧ FW R [258, 3202] T T1) := by
  have z0 : (0 : Int32).toInt = 0 := by decide
  have cc_101 : cnt 101 = 1 := rfl
  have cc_102 : cnt 102 = 12 := rfl
  have cc_103 : cnt 103 = 144 := rfl
  have cc_104 : cnt 104 = 2400 := rfl
  have cc_105 : cnt 105 = 7200 := rfl
  have x_T : FW R [258, 3202] T T := FW.rf
  unfold g_X5_finish
  refine tot_oif (iv_oO h_T k_a1 (by decide) (by decide) rfl) ?_
  refine tot_ref h_T k_a1 (by decide) (by decide) (r2 := 104) (rfl : rtg 8 10 = 104) (by decide) (fun n_1 k_n_1 e_n_1 => ?_)
  refine tot_oif (w_oO h_T k_n_1 (rfl : isW 104 = true)) ?_
  refine tot_bind (c_narrow h_T k_n_1 (rfl : isW 104 = true)) (fun T_2 d_T_2 => ?_)
  have h_T_2 : IV R B K1 K2 T_2 := d_T_2.1
  have y_T_2 : FW R [3202] T T_2 := d_T_2.2.2
  have x_T_2 := x_T.tr (y_T_2.w (by decide))
  refine cl_X5_finish_b9 o a0 a1 T k_o k_a0 k_a1 ?_ 16384 T_2 0 h_T_2 x_T_2 (by omega) (by omega)
  · intro T_143 h_T_143 x_T_143
    refine tot_oif (iv_oO h_T_143 k_a1 (by decide) (by decide) rfl) ?_
    refine tot_let (fun T_144 e_T_144 => ?_)
    have h_T_144 : IV R B K1 K2 T_144 := by rw [e_T_144]; exact iv_uI (a := -2147483648) (b := 2147483647) h_T_143 k_a1 (by decide) (by decide) rfl (by omega) (.inl rfl)
    have x_T_144 := x_T_143.tr (fw_uI e_T_144 k_a1 (by decide))
    exact tot_some ⟨h_T_144, x_T_144⟩
set_option maxHeartbeats 4000000 in
set_option maxRecDepth 10000 in
theorem cs_X11_moved (a0 : Int32) (a1 : Int32) (a2 : Int32) (g0 : -2000 ≤ a0.toInt ∧ a0.toInt ≤ 15156) (g1 : -999 ≤ a1.toInt ∧ a1.toInt ≤ 999) (g2 : 0 ≤ a2.toInt ∧ a2.toInt ≤ 199) : Tot (g_X11_moved a0 a1 a2) (fun r => (-3988 ≤ r.toInt ∧ r.toInt ≤ 17144)) := by
  have z0 : (100 : Int32).toInt = 100 := by decide
  have cc_101 : cnt 101 = 1 := rfl
  have cc_102 : cnt 102 = 12 := rfl
  have cc_103 : cnt 103 = 144 := rfl
  have cc_104 : cnt 104 = 2400 := rfl
  have cc_105 : cnt 105 = 7200 := rfl
  have j_a0 := i_any a0
  have j_a1 := i_any a1
  have j_a2 := i_any a2
  unfold g_X11_moved
  refine tot_let (fun v_1 e_v_1 => ?_)
  have q_v_1 := i_mulm (a := -999) (b := 999) (d := 199) e_v_1 (by omega) (by omega) (by omega) (by omega) (by decide)
  refine tot_let (fun v_2 e_v_2 => ?_)
  have q_v_2 := i_divk e_v_2 z0 (by decide)
  refine tot_let (fun v_3 e_v_3 => ?_)
  have q_v_3 := i_add e_v_3 (by omega) (by omega)
  exact tot_some (show (-3988 ≤ v_3.toInt ∧ v_3.toInt ≤ 17144) from by omega)
set_option maxHeartbeats 4000000 in
set_option maxRecDepth 10000 in
theorem cs_X6_delayFrom {R : Nat → Nat} {B K1 K2 : Nat} (T : AT) (o : Nat) (a0 : Nat) (a1 : Int32) (a2 : Int32) (h_T : IV R B K1 K2 T) (k_o : R o = 6) (k_a0 : R a0 = 2) (g0 : -21144 ≤ a1.toInt ∧ a1.toInt ≤ 17144) (g1 : -9999 ≤ a2.toInt ∧ a2.toInt ≤ 17144) : Tot (g_X6_delayFrom T o a0 a1 a2) (fun r => r.2 = T ∧ True) := by
  have cc_101 : cnt 101 = 1 := rfl
  have cc_102 : cnt 102 = 12 := rfl
  have cc_103 : cnt 103 = 144 := rfl
  have cc_104 : cnt 104 = 2400 := rfl
  have cc_105 : cnt 105 = 7200 := rfl
  have j_a1 := i_any a1
  have j_a2 := i_any a2
  unfold g_X6_delayFrom
  refine tot_oif (iv_oO h_T k_a0 (by decide) (by decide) rfl) ?_
  refine tot_let (fun v_1 e_v_1 => ?_)
  have r_v_1 : -500 ≤ v_1.toInt ∧ v_1.toInt ≤ 500 := iv_int h_T k_a0 (by decide) (by decide) e_v_1 rfl
  refine tot_let (fun v_2 e_v_2 => ?_)
  have q_v_2 := i_sub e_v_2 (by omega) (by omega)
  refine tot_oif (iv_oO h_T k_a0 (by decide) (by decide) rfl) ?_
  refine tot_let (fun v_3 e_v_3 => ?_)
  have r_v_3 : -500 ≤ v_3.toInt ∧ v_3.toInt ≤ 500 := iv_int h_T k_a0 (by decide) (by decide) e_v_3 rfl
  refine tot_let (fun v_4 e_v_4 => ?_)
  have q_v_4 := i_sub e_v_4 (by omega) (by omega)
  refine tot_let (fun v_5 e_v_5 => ?_)
  have q_v_5 := i_sq (b := 21644) e_v_5 (by omega) (by omega) (by decide)
  refine tot_let (fun v_6 e_v_6 => ?_)
  have q_v_6 := i_sq (b := 17644) e_v_6 (by omega) (by omega) (by decide)
  refine tot_let (fun v_7 e_v_7 => ?_)
  have q_v_7 := i_add e_v_7 (by omega) (by omega)
  refine tot_oif (iv_oO h_T k_o (by decide) (by decide) rfl) ?_
  refine tot_let (fun v_8 e_v_8 => ?_)
  have r_v_8 : 0 ≤ v_8.toInt ∧ v_8.toInt ≤ 5000 := iv_int h_T k_o (by decide) (by decide) e_v_8 rfl
  refine tot_oif (iv_oO h_T k_o (by decide) (by decide) rfl) ?_
  refine tot_let (fun v_9 e_v_9 => ?_)
  have u_v_9 : v_9.toInt = v_8.toInt := by rw [e_v_9, e_v_8]
  have r_v_9 : 0 ≤ v_9.toInt ∧ v_9.toInt ≤ 5000 := iv_int h_T k_o (by decide) (by decide) e_v_9 rfl
  refine tot_let (fun v_10 e_v_10 => ?_)
  have q_v_10 := i_mulp (a := 0) (b := 5000) (c := 0) (d := 5000) e_v_10 (by omega) (by omega) (by omega) (by omega) (by decide)
  refine tot_let (fun v_11 e_v_11 => ?_)
  have q_v_11 := i_add e_v_11 (by omega) (by omega)
  refine tot_bind (cs_X11_root v_11 ) (fun r_12 d_r_12 => ?_)
  have r_r_12 := i_any r_12
  refine tot_let (fun v_13 e_v_13 => ?_)
  refine tot_oif (iv_oO h_T k_o (by decide) (by decide) rfl) ?_
  refine tot_let (fun v_14 e_v_14 => ?_)
  have r_v_14 : 0 ≤ v_14.toInt ∧ v_14.toInt ≤ 99 := iv_int h_T k_o (by decide) (by decide) e_v_14 rfl
  refine tot_let (fun v_15 e_v_15 => ?_)
  refine tot_bind (cs_X11_quotient v_13 v_15) (fun r_16 d_r_16 => ?_)
  refine tot_oif (iv_oO h_T k_o (by decide) (by decide) rfl) ?_
  refine tot_let (fun v_17 e_v_17 => ?_)
  have u_v_17 : v_17.toInt = v_8.toInt := by rw [e_v_17, e_v_8]
  have r_v_17 : 0 ≤ v_17.toInt ∧ v_17.toInt ≤ 5000 := iv_int h_T k_o (by decide) (by decide) e_v_17 rfl
  refine tot_let (fun v_18 e_v_18 => ?_)
  refine tot_oif (iv_oO h_T k_o (by decide) (by decide) rfl) ?_
  refine tot_let (fun v_19 e_v_19 => ?_)
  have u_v_19 : v_19.toInt = v_14.toInt := by rw [e_v_19, e_v_14]
  have r_v_19 : 0 ≤ v_19.toInt ∧ v_19.toInt ≤ 99 := iv_int h_T k_o (by decide) (by decide) e_v_19 rfl
  refine tot_let (fun v_20 e_v_20 => ?_)
  refine tot_bind (cs_X11_quotient v_18 v_20) (fun r_21 d_r_21 => ?_)
  refine tot_let (fun v_22 e_v_22 => ?_)
  refine tot_let (fun v_23 e_v_23 => ?_)
  have r_v_23 := i_any v_23
  exact tot_some ⟨rfl, trivial⟩
set_option maxHeartbeats 4000000 in
set_option maxRecDepth 10000 in
theorem cs_X7_valueAt {R : Nat → Nat} {B K1 K2 : Nat} (T : AT) (o : Nat) (a0 : Int32) (h_T : IV R B K1 K2 T) (k_o : R o = 7) : Tot (g_X7_valueAt T o a0) (fun r => r.2 = T ∧ True) := by
  have z0 : (0 : Int32).toInt = 0 := by decide
  have z1 : (2 : Int32).toInt = 2 := by decide
  have z2 : (1 : Int32).toInt = 1 := by decide
  have z3 : (4 : Int32).toInt = 4 := by decide
  have z4 : (31 : Int32).toInt = 31 := by decide
  have z5 : (7919 : Int32).toInt = 7919 := by decide
  have z6 : (104729 : Int32).toInt = 104729 := by decide
  have cc_101 : cnt 101 = 1 := rfl
  have cc_102 : cnt 102 = 12 := rfl
  have cc_103 : cnt 103 = 144 := rfl
  have cc_104 : cnt 104 = 2400 := rfl
  have cc_105 : cnt 105 = 7200 := rfl
  have j_a0 := i_any a0
  unfold g_X7_valueAt
  refine tot_oif (iv_oO h_T k_o (by decide) (by decide) rfl) ?_
  refine tot_let (fun v_1 e_v_1 => ?_)
  have r_v_1 : 0 ≤ v_1.toInt ∧ v_1.toInt ≤ 199 := iv_int h_T k_o (by decide) (by decide) e_v_1 rfl
  refine tot_if (fun c_40 => ?_) (fun c_40 => ?_)
  · replace c_40 := i_le c_40
    refine tot_oif (iv_oO h_T k_o (by decide) (by decide) rfl) ?_
    refine tot_let (fun v_2 e_v_2 => ?_)
    have r_v_2 : 0 ≤ v_2.toInt ∧ v_2.toInt ≤ 99 := iv_int h_T k_o (by decide) (by decide) e_v_2 rfl
    refine tot_let (fun v_3 e_v_3 => ?_)
    have r_v_3 := i_any v_3
    refine tot_oif (iv_oO h_T k_o (by decide) (by decide) rfl) ?_
    refine tot_let (fun v_4 e_v_4 => ?_)
    have r_v_4 : 0 ≤ v_4.toInt ∧ v_4.toInt ≤ 99 := iv_int h_T k_o (by decide) (by decide) e_v_4 rfl
    refine tot_bind (cs_X11_remainder v_3 v_4 ) (fun r_5 d_r_5 => ?_)
    replace d_r_5 : ((0 ≤ v_3.toInt ∧ 0 ≤ v_4.toInt → 0 ≤ r_5.toInt ∧ r_5.toInt ≤ v_3.toInt) ∧ (1 ≤ v_4.toInt → -v_4.toInt < r_5.toInt ∧ r_5.toInt < v_4.toInt) ∧ (v_4.toInt = 0 → r_5.toInt = 0)) := d_r_5
    refine tot_oif (iv_oO h_T k_o (by decide) (by decide) rfl) ?_
    refine tot_let (fun v_6 e_v_6 => ?_)
    have r_v_6 : 0 ≤ v_6.toInt ∧ v_6.toInt ≤ 3 := iv_int h_T k_o (by decide) (by decide) e_v_6 rfl
    refine tot_if (fun c_41 => ?_) (fun c_41 => ?_)
    · replace c_41 := i_eq c_41
      refine tot_oif (iv_oO h_T k_o (by decide) (by decide) rfl) ?_
      refine tot_let (fun v_7 e_v_7 => ?_)
      have u_v_7 : v_7.toInt = v_4.toInt := by rw [e_v_7, e_v_4]
      have r_v_7 : 0 ≤ v_7.toInt ∧ v_7.toInt ≤ 99 := iv_int h_T k_o (by decide) (by decide) e_v_7 rfl
      refine tot_let (fun v_8 e_v_8 => ?_)
      have q_v_8 := i_divk e_v_8 z1 (by decide)
      refine tot_if (fun c_42 => ?_) (fun c_42 => ?_)
      · replace c_42 := i_le c_42
        refine tot_oif (iv_oO h_T k_o (by decide) (by decide) rfl) ?_
        refine tot_let (fun v_9 e_v_9 => ?_)
        have r_v_9 : 0 ≤ v_9.toInt ∧ v_9.toInt ≤ 999 := iv_int h_T k_o (by decide) (by decide) e_v_9 rfl
        refine tot_let (fun v_10 e_v_10 => ?_)
        have q_v_10 := i_neg e_v_10 (by omega)
        unfold g_X7_valueAt_b78
        exact tot_some ⟨rfl, trivial⟩
      · replace c_42 := i_nle c_42
        refine tot_oif (iv_oO h_T k_o (by decide) (by decide) rfl) ?_
        refine tot_let (fun v_11 e_v_11 => ?_)
        have r_v_11 : 0 ≤ v_11.toInt ∧ v_11.toInt ≤ 999 := iv_int h_T k_o (by decide) (by decide) e_v_11 rfl
        unfold g_X7_valueAt_b78
        exact tot_some ⟨rfl, trivial⟩
    · replace c_41 := i_ne c_41
      refine tot_if (fun c_43 => ?_) (fun c_43 => ?_)
      · replace c_43 := i_eq c_43
        refine tot_oif (iv_oO h_T k_o (by decide) (by decide) rfl) ?_
        refine tot_let (fun v_12 e_v_12 => ?_)
        have r_v_12 : 0 ≤ v_12.toInt ∧ v_12.toInt ≤ 999 := iv_int h_T k_o (by decide) (by decide) e_v_12 rfl
        refine tot_oif (iv_oO h_T k_o (by decide) (by decide) rfl) ?_
        refine tot_let (fun v_13 e_v_13 => ?_)
        have u_v_13 : v_13.toInt = v_4.toInt := by rw [e_v_13, e_v_4]
        have r_v_13 : 0 ≤ v_13.toInt ∧ v_13.toInt ≤ 99 := iv_int h_T k_o (by decide) (by decide) e_v_13 rfl
        refine tot_let (fun v_14 e_v_14 => ?_)
        have q_v_14 := i_divk e_v_14 z1 (by decide)
        refine tot_let (fun v_15 e_v_15 => ?_)
        have q_v_15 := i_sub e_v_15 (by omega) (by omega)
        refine tot_let (fun v_16 e_v_16 => ?_)
        have q_v_16 := i_abs e_v_16 (by omega)
        refine tot_let (fun v_17 e_v_17 => ?_)
        have q_v_17 := i_mulk e_v_17 z3 (by omega) (by omega)
        refine tot_oif (iv_oO h_T k_o (by decide) (by decide) rfl) ?_
        refine tot_let (fun v_18 e_v_18 => ?_)
        have u_v_18 : v_18.toInt = v_4.toInt := by rw [e_v_18, e_v_4]
        have r_v_18 : 0 ≤ v_18.toInt ∧ v_18.toInt ≤ 99 := iv_int h_T k_o (by decide) (by decide) e_v_18 rfl
        refine tot_let (fun v_19 e_v_19 => ?_)
        have q_v_19 := i_sub e_v_19 (by omega) (by omega)
        refine tot_let (fun v_20 e_v_20 => ?_)
        have q_v_20 := i_mulm2 (a := -99) (b := 588) (d := 999) e_v_20 (by omega) (by omega) (by omega) (by omega) (by decide)
        refine tot_let (fun v_21 e_v_21 => ?_)
        refine tot_oif (iv_oO h_T k_o (by decide) (by decide) rfl) ?_
        refine tot_let (fun v_22 e_v_22 => ?_)
        have u_v_22 : v_22.toInt = v_4.toInt := by rw [e_v_22, e_v_4]
        have r_v_22 : 0 ≤ v_22.toInt ∧ v_22.toInt ≤ 99 := iv_int h_T k_o (by decide) (by decide) e_v_22 rfl
        refine tot_let (fun v_23 e_v_23 => ?_)
        refine tot_bind (cs_X11_quotient v_21 v_23) (fun r_24 d_r_24 => ?_)
        refine tot_let (fun v_25 e_v_25 => ?_)
        have r_v_25 := i_any v_25
        exact tot_some ⟨rfl, trivial⟩
      · replace c_43 := i_ne c_43
        refine tot_if (fun c_44 => ?_) (fun c_44 => ?_)
        · replace c_44 := i_eq c_44
          refine tot_if (fun c_45 => ?_) (fun c_45 => ?_)
          · replace c_45 := i_eq c_45
            refine tot_oif (iv_oO h_T k_o (by decide) (by decide) rfl) ?_
            refine tot_let (fun v_26 e_v_26 => ?_)
            have r_v_26 : 0 ≤ v_26.toInt ∧ v_26.toInt ≤ 999 := iv_int h_T k_o (by decide) (by decide) e_v_26 rfl
            unfold g_X7_valueAt_b125
            exact tot_some ⟨rfl, trivial⟩
          · replace c_45 := i_ne c_45
            unfold g_X7_valueAt_b125
            exact tot_some ⟨rfl, trivial⟩
        · replace c_44 := i_ne c_44
          refine tot_let (fun v_27 e_v_27 => ?_)
          have r_v_27 := i_any v_27
          refine tot_let (fun v_28 e_v_28 => ?_)
          have r_v_28 := i_any v_28
          refine tot_let (fun v_29 e_v_29 => ?_)
          have r_v_29 := i_any v_29
          refine tot_let (fun v_30 e_v_30 => ?_)
          have r_v_30 := i_any v_30
          refine tot_oif (iv_oO h_T k_o (by decide) (by decide) rfl) ?_
          refine tot_let (fun v_31 e_v_31 => ?_)
          have u_v_31 : v_31.toInt = v_2.toInt := by rw [e_v_31, e_v_2]
          have r_v_31 : 0 ≤ v_31.toInt ∧ v_31.toInt ≤ 99 := iv_int h_T k_o (by decide) (by decide) e_v_31 rfl
          refine tot_let (fun v_32 e_v_32 => ?_)
          have q_v_32 := i_mulk e_v_32 z6 (by omega) (by omega)
          refine tot_let (fun v_33 e_v_33 => ?_)
          have r_v_33 := i_any v_33
          refine tot_oif (iv_oO h_T k_o (by decide) (by decide) rfl) ?_
          refine tot_let (fun v_34 e_v_34 => ?_)
          have r_v_34 : 0 ≤ v_34.toInt ∧ v_34.toInt ≤ 999 := iv_int h_T k_o (by decide) (by decide) e_v_34 rfl
          refine tot_let (fun v_35 e_v_35 => ?_)
          have q_v_35 := i_mulk e_v_35 z1 (by omega) (by omega)
          refine tot_let (fun v_36 e_v_36 => ?_)
          have q_v_36 := i_add e_v_36 (by omega) (by omega)
          refine tot_bind (cs_X11_remainder v_33 v_36 ) (fun r_37 d_r_37 => ?_)
          replace d_r_37 : ((0 ≤ v_33.toInt ∧ 0 ≤ v_36.toInt → 0 ≤ r_37.toInt ∧ r_37.toInt ≤ v_33.toInt) ∧ (1 ≤ v_36.toInt → -v_36.toInt < r_37.toInt ∧ r_37.toInt < v_36.toInt) ∧ (v_36.toInt = 0 → r_37.toInt = 0)) := d_r_37
          refine tot_oif (iv_oO h_T k_o (by decide) (by decide) rfl) ?_
          refine tot_let (fun v_38 e_v_38 => ?_)
          have u_v_38 : v_38.toInt = v_34.toInt := by rw [e_v_38, e_v_34]
          have r_v_38 : 0 ≤ v_38.toInt ∧ v_38.toInt ≤ 999 := iv_int h_T k_o (by decide) (by decide) e_v_38 rfl
          refine tot_let (fun v_39 e_v_39 => ?_)
          have q_v_39 := i_sub e_v_39 (by omega) (by omega)
          exact tot_some ⟨rfl, trivial⟩
  · replace c_40 := i_nle c_40
    exact tot_some ⟨rfl, trivial⟩
set_option maxHeartbeats 4000000 in
set_option maxRecDepth 10000 in
theorem cs_X5_arriving {R : Nat → Nat} {B K1 K2 : Nat} (T : AT) (a0 : Nat) (a1 : Nat) (a2 : Int32) (a3 : Int32) (h_T : IV R B K1 K2 T) (k_a0 : R a0 = 6) (k_a1 : R a1 = 7) (g0 : 0 ≤ a3.toInt ∧ a3.toInt ≤ 199) : Tot (g_X5_arriving T a0 a1 a2 a3) (fun r => r.2 = T ∧ True) := by
  have z0 : (0 : Int32).toInt = 0 := by decide
  have cc_101 : cnt 101 = 1 := rfl
  have cc_102 : cnt 102 = 12 := rfl
  have cc_103 : cnt 103 = 144 := rfl
  have cc_104 : cnt 104 = 2400 := rfl
  have cc_105 : cnt 105 = 7200 := rfl
  have j_a2 := i_any a2
  have j_a3 := i_any a3
  unfold g_X5_arriving
  refine tot_if (fun c_13 => ?_) (fun c_13 => ?_)
  · replace c_13 := i_le c_13
    refine tot_let (fun v_1 e_v_1 => ?_)
    have r_v_1 := i_any v_1
    refine tot_oif (iv_oO h_T k_a1 (by decide) (by decide) rfl) ?_
    refine tot_bindq (R := fun r_2 : Int32 => True) (cs_X7_valueAt T a1 v_1 h_T k_a1 ) (fun r_2 d_r_2 => ?_)
    have r_r_2 := i_any r_2
    refine tot_oif (iv_oO h_T k_a0 (by decide) (by decide) rfl) ?_
    refine tot_let (fun v_4 e_v_4 => ?_)
    have r_v_4 : 0 ≤ v_4.toInt ∧ v_4.toInt ≤ 999 := iv_int h_T k_a0 (by decide) (by decide) e_v_4 rfl
    refine tot_if (fun c_14 => ?_) (fun c_14 => ?_)
    · replace c_14 := i_le c_14
      unfold g_X5_arriving_b47
      exact tot_some ⟨rfl, trivial⟩
    · replace c_14 := i_nle c_14
      refine tot_oif (iv_oO h_T k_a0 (by decide) (by decide) rfl) ?_
      refine tot_let (fun v_5 e_v_5 => ?_)
      have u_v_5 : v_5.toInt = v_4.toInt := by rw [e_v_5, e_v_4]
      have r_v_5 : 0 ≤ v_5.toInt ∧ v_5.toInt ≤ 999 := iv_int h_T k_a0 (by decide) (by decide) e_v_5 rfl
      refine tot_let (fun v_6 e_v_6 => ?_)
      have r_v_6 := i_any v_6
      refine tot_let (fun v_7 e_v_7 => ?_)
      refine tot_oif (iv_oO h_T k_a0 (by decide) (by decide) rfl) ?_
      refine tot_let (fun v_8 e_v_8 => ?_)
      have u_v_8 : v_8.toInt = v_4.toInt := by rw [e_v_8, e_v_4]
      have r_v_8 : 0 ≤ v_8.toInt ∧ v_8.toInt ≤ 999 := iv_int h_T k_a0 (by decide) (by decide) e_v_8 rfl
      refine tot_let (fun v_9 e_v_9 => ?_)
      have q_v_9 := i_add e_v_9 (by omega) (by omega)
      refine tot_let (fun v_10 e_v_10 => ?_)
      refine tot_bind (cs_X11_quotient v_7 v_10) (fun r_11 d_r_11 => ?_)
      refine tot_let (fun v_12 e_v_12 => ?_)
      have r_v_12 := i_any v_12
      unfold g_X5_arriving_b47
      exact tot_some ⟨rfl, trivial⟩
  · replace c_13 := i_nle c_13
    exact tot_some ⟨rfl, trivial⟩
set_option maxHeartbeats 4000000 in
set_option maxRecDepth 10000 in
theorem cl_X5_hear_b42 {R : Nat → Nat} {B K1 K2 : Nat} {Q : AT → Prop} {k3 : AT → Nat → Nat → Nat → Int32 → Int32 → Int32 → Int32 → Option (AT)} (l0 : Nat) (l1 : Nat) (l2 : Nat) (l3 : Int32) (l4 : Int32) (l5 : Int32) (l6 : Int32) (l7 : Nat) (T00 : AT) (k_l0 : R l0 = 5) (k_l1 : R l1 = 6) (k_l2 : R l2 = 7) (k_l7 : R l7 = 2) (g0 : -3988 ≤ l3.toInt ∧ l3.toInt ≤ 17144) (g1 : -3988 ≤ l4.toInt ∧ l4.toInt ≤ 17144) (g2 : 0 ≤ l5.toInt ∧ l5.toInt ≤ 199) (g3 : 0 ≤ l6.toInt ∧ l6.toInt ≤ 11) (hx0 : ∀ (T : AT) (l8 : Int32), (IV R B K1 K2 T) → (FW R [1472] T00 T) → Tot (oif (oO T l0 5 = true) <| obind (T.2.2.2.2 l0 0) fun n_114 => oif (aA T n_114 106 = true) <| oif (inb l6 (T.2.1 n_114).2 = true) <| obind (T.2.2.2.2 n_114 l6.toNatClampNeg) fun n_115 => oif (aA T n_115 100 = true) <| oif (inb l5 (T.2.1 n_115).2 = true) <| elet (T.2.2.1 n_115 l5.toNatClampNeg) fun v_116 => elet (v_116 + l8) fun v_117 => oif (aA T n_115 100 = true) <| oif (inb l5 (T.2.1 n_115).2 = true) <| elet (uI T n_115 l5.toNatClampNeg v_117) fun T_118 => elet (l6 + Int32.ofInt (1)) fun v_119 => k3 T_118 l0 l1 l2 l3 l4 l5 v_119) Q) : ∀ (n : Nat) (T : AT) (l8 : Int32) (l9 : Int32), (IV R B K1 K2 T) → (FW R [1472] T00 T) → (0 ≤ l9.toInt ∧ l9.toInt ≤ 2) → 2 - l9.toInt < (n : Int) → Tot (g_X5_hear_b42 k3 n T l0 l1 l2 l3 l4 l5 l6 l7 l8 l9) Q := by
  have z0 : (2 : Int32).toInt = 2 := by decide
  have z1 : (100 : Int32).toInt = 100 := by decide
  have z2 : (Int32.ofInt (1) : Int32).toInt = 1 := by decide
  have cc_101 : cnt 101 = 1 := rfl
  have cc_102 : cnt 102 = 12 := rfl
  have cc_103 : cnt 103 = 144 := rfl
  have cc_104 : cnt 104 = 2400 := rfl
  have cc_105 : cnt 105 = 7200 := rfl
  have j_l3 := i_any l3
  have j_l4 := i_any l4
  have j_l5 := i_any l5
  have j_l6 := i_any l6
  intro n
  induction n with
  | zero =>
    intro T l8 l9 h_T x_T g_l9 hm
    exfalso
    omega
  | succ n ih =>
    intro T l8 l9 h_T x_T g_l9 hm
    unfold g_X5_hear_b42
    refine tot_oif (iv_oO h_T k_l1 (by decide) (by decide) rfl) ?_
    refine tot_let (fun v_113 e_v_113 => ?_)
    have r_v_113 : 0 ≤ v_113.toInt ∧ v_113.toInt ≤ 2 := iv_int h_T k_l1 (by decide) (by decide) e_v_113 rfl
    refine tot_if (fun c_134 => ?_) (fun c_134 => ?_)
    · replace c_134 := i_le c_134
      exact hx0 T l8 h_T x_T
    · replace c_134 := i_nle c_134
      refine tot_oif (iv_oO h_T k_l1 (by decide) (by decide) rfl) ?_
      refine tot_ref h_T k_l1 (by decide) (by decide) (r2 := 55) (rfl : rtg 6 9 = 55) (by decide) (fun n_120 k_n_120 e_n_120 => ?_)
      refine tot_oif (iv_aA h_T k_n_120 (by decide) (by decide) rfl rfl) ?_
      refine tot_oif (by rw [iv_len h_T k_n_120 (by decide) (by decide) (rfl : shp 55 = (100, 2))]; exact i_inb (by omega) (by omega)) ?_
      refine tot_let (fun v_121 e_v_121 => ?_)
      have r_v_121 : -2000 ≤ v_121.toInt ∧ v_121.toInt ≤ 2000 := iv_int h_T k_n_120 (by decide) (by decide) e_v_121 rfl
      refine tot_let (fun v_122 e_v_122 => ?_)
      have q_v_122 := i_mulk e_v_122 z0 (by omega) (by omega)
      refine tot_let (fun v_123 e_v_123 => ?_)
      have q_v_123 := i_sub e_v_123 (by omega) (by omega)
      refine tot_oif (iv_oO h_T k_l1 (by decide) (by decide) rfl) ?_
      refine tot_bindq (R := fun r_124 : Int32 => True) (cs_X6_delayFrom T l1 l7 v_123 l4 h_T k_l1 k_l7 (by omega) (by omega)) (fun r_124 d_r_124 => ?_)
      have r_r_124 := i_any r_124
      refine tot_bindq (R := fun r_126 : Int32 => True) (cs_X5_arriving T l1 l2 r_124 l5 h_T k_l1 k_l2 (by omega)) (fun r_126 d_r_126 => ?_)
      have r_r_126 := i_any r_126
      refine tot_oif (iv_oO h_T k_l1 (by decide) (by decide) rfl) ?_
      refine tot_ref h_T k_l1 (by decide) (by decide) (r2 := 56) (rfl : rtg 6 10 = 56) (by decide) (fun n_128 k_n_128 e_n_128 => ?_)
      refine tot_oif (iv_aA h_T k_n_128 (by decide) (by decide) rfl rfl) ?_
      refine tot_oif (by rw [iv_len h_T k_n_128 (by decide) (by decide) (rfl : shp 56 = (100, 2))]; exact i_inb (by omega) (by omega)) ?_
      refine tot_let (fun v_129 e_v_129 => ?_)
      have r_v_129 : 0 ≤ v_129.toInt ∧ v_129.toInt ≤ 100 := iv_int h_T k_n_128 (by decide) (by decide) e_v_129 rfl
      refine tot_let (fun v_130 e_v_130 => ?_)
      have r_v_130 := i_any v_130
      refine tot_let (fun v_131 e_v_131 => ?_)
      have q_v_131 := i_divk e_v_131 z1 (by decide)
      refine tot_let (fun v_132 e_v_132 => ?_)
      have r_v_132 := i_any v_132
      refine tot_let (fun v_133 e_v_133 => ?_)
      have q_v_133 := i_add e_v_133 (by omega) (by omega)
      exact ih T v_132 v_133 h_T x_T (by omega) (by omega)
set_option maxHeartbeats 4000000 in
set_option maxRecDepth 10000 in
theorem cl_X5_hear_b3 {R : Nat → Nat} {B K1 K2 : Nat} {Q : AT → Prop} (l0 : Nat) (l1 : Nat) (l2 : Nat) (l3 : Int32) (l4 : Int32) (l5 : Int32) (T00 : AT) (k_l0 : R l0 = 5) (k_l1 : R l1 = 6) (k_l2 : R l2 = 7) (g0 : -3988 ≤ l3.toInt ∧ l3.toInt ≤ 17144) (g1 : -3988 ≤ l4.toInt ∧ l4.toInt ≤ 17144) (g2 : 0 ≤ l5.toInt ∧ l5.toInt ≤ 199) (hx0 : ∀ (T : AT), (IV R B K1 K2 T) → (FW R [1472] T00 T) → Tot (some (T)) Q) : ∀ (n : Nat) (T : AT) (l6 : Int32), (IV R B K1 K2 T) → (FW R [1472] T00 T) → (0 ≤ l6.toInt ∧ l6.toInt ≤ 12) → 12 - l6.toInt < (n : Int) → Tot (g_X5_hear_b3 n T l0 l1 l2 l3 l4 l5 l6) Q := by
  have z0 : (0 : Int32).toInt = 0 := by decide
  have z1 : (Int32.ofInt (1) : Int32).toInt = 1 := by decide
  have cc_101 : cnt 101 = 1 := rfl
  have cc_102 : cnt 102 = 12 := rfl
  have cc_103 : cnt 103 = 144 := rfl
  have cc_104 : cnt 104 = 2400 := rfl
  have cc_105 : cnt 105 = 7200 := rfl
  have j_l3 := i_any l3
  have j_l4 := i_any l4
  have j_l5 := i_any l5
  intro n
  induction n with
  | zero =>
    intro T l6 h_T x_T g_l6 hm
    exfalso
    omega
  | succ n ih =>
    intro T l6 h_T x_T g_l6 hm
    unfold g_X5_hear_b3
    refine tot_oif (iv_oO h_T k_l1 (by decide) (by decide) rfl) ?_
    refine tot_let (fun v_84 e_v_84 => ?_)
    have r_v_84 : 0 ≤ v_84.toInt ∧ v_84.toInt ≤ 12 := iv_int h_T k_l1 (by decide) (by decide) e_v_84 rfl
    refine tot_if (fun c_91 => ?_) (fun c_91 => ?_)
    · replace c_91 := i_le c_91
      exact hx0 T h_T x_T
    · replace c_91 := i_nle c_91
      refine tot_oif (iv_oO h_T k_l1 (by decide) (by decide) rfl) ?_
      refine tot_ref h_T k_l1 (by decide) (by decide) (r2 := 53) (rfl : rtg 6 4 = 53) (by decide) (fun n_85 k_n_85 e_n_85 => ?_)
      refine tot_oif (iv_aA h_T k_n_85 (by decide) (by decide) rfl rfl) ?_
      refine tot_oif (by rw [iv_len h_T k_n_85 (by decide) (by decide) (rfl : shp 53 = (103, 12))]; exact i_inb (by omega) (by omega)) ?_
      refine tot_ref h_T k_n_85 (by decide) (by decide) (r2 := 2) (rt_53 (by omega) (by omega)) (by decide) (fun n_86 k_n_86 e_n_86 => ?_)
      refine tot_oif (iv_oO h_T k_l1 (by decide) (by decide) rfl) ?_
      refine tot_bindq (R := fun r_87 : Int32 => True) (cs_X6_delayFrom T l1 n_86 l3 l4 h_T k_l1 k_n_86 (by omega) (by omega)) (fun r_87 d_r_87 => ?_)
      have r_r_87 := i_any r_87
      refine tot_bindq (R := fun r_89 : Int32 => True) (cs_X5_arriving T l1 l2 r_87 l5 h_T k_l1 k_l2 (by omega)) (fun r_89 d_r_89 => ?_)
      have r_r_89 := i_any r_89
      refine cl_X5_hear_b42 l0 l1 l2 l3 l4 l5 l6 n_86 T00 k_l0 k_l1 k_l2 k_n_86 (by omega) (by omega) (by omega) (by omega) ?_ 16384 T r_89 0 h_T x_T (by omega) (by omega)
      · intro T_135 l_136 h_T_135 x_T_135
        have j_l_136 := i_any l_136
        refine tot_oif (iv_oO h_T_135 k_l0 (by decide) (by decide) rfl) ?_
        refine tot_ref h_T_135 k_l0 (by decide) (by decide) (r2 := 45) (rfl : rtg 5 0 = 45) (by decide) (fun n_137 k_n_137 e_n_137 => ?_)
        refine tot_oif (iv_aA h_T_135 k_n_137 (by decide) (by decide) rfl rfl) ?_
        refine tot_oif (by rw [iv_len h_T_135 k_n_137 (by decide) (by decide) (rfl : shp 45 = (106, 12))]; exact i_inb (by omega) (by omega)) ?_
        refine tot_ref h_T_135 k_n_137 (by decide) (by decide) (r2 := 46) (rt_45 (by omega) (by omega)) (by decide) (fun n_138 k_n_138 e_n_138 => ?_)
        refine tot_oif (iv_aA h_T_135 k_n_138 (by decide) (by decide) rfl rfl) ?_
        refine tot_oif (by rw [iv_len h_T_135 k_n_138 (by decide) (by decide) (rfl : shp 46 = (100, 200))]; exact i_inb (by omega) (by omega)) ?_
        refine tot_let (fun v_139 e_v_139 => ?_)
        have r_v_139 := i_any v_139
        refine tot_let (fun v_140 e_v_140 => ?_)
        have r_v_140 := i_any v_140
        refine tot_oif (iv_aA h_T_135 k_n_138 (by decide) (by decide) rfl rfl) ?_
        refine tot_oif (by rw [iv_len h_T_135 k_n_138 (by decide) (by decide) (rfl : shp 46 = (100, 200))]; exact i_inb (by omega) (by omega)) ?_
        refine tot_let (fun T_141 e_T_141 => ?_)
        have ja_T_141 := i_any v_140
        have h_T_141 : IV R B K1 K2 T_141 := by rw [e_T_141]; exact iv_uI (a := -2147483648) (b := 2147483647) h_T_135 k_n_138 (by decide) (by decide) rfl (by omega) (.inl rfl)
        have x_T_141 := x_T_135.tr (fw_uA e_T_141 k_n_138 rfl rfl (by decide))
        refine tot_let (fun v_142 e_v_142 => ?_)
        have q_v_142 := i_add e_v_142 (by omega) (by omega)
        exact ih T_141 v_142 h_T_141 x_T_141 (by omega) (by omega)
set_option maxHeartbeats 4000000 in
set_option maxRecDepth 10000 in
theorem cs_X5_hear {R : Nat → Nat} {B K1 K2 : Nat} (T : AT) (o : Nat) (a0 : Nat) (a1 : Nat) (a2 : Int32) (a3 : Int32) (a4 : Int32) (h_T : IV R B K1 K2 T) (k_o : R o = 5) (k_a0 : R a0 = 6) (k_a1 : R a1 = 7) (g0 : -3988 ≤ a2.toInt ∧ a2.toInt ≤ 17144) (g1 : -3988 ≤ a3.toInt ∧ a3.toInt ≤ 17144) (g2 : 0 ≤ a4.toInt ∧ a4.toInt ≤ 199) : Tot (g_X5_hear T o a0 a1 a2 a3 a4) (fun T1 => IV R B K1 K2 T1 ∧ FW R [1472] T T1) := by
  have z0 : (0 : Int32).toInt = 0 := by decide
  have cc_101 : cnt 101 = 1 := rfl
  have cc_102 : cnt 102 = 12 := rfl
  have cc_103 : cnt 103 = 144 := rfl
  have cc_104 : cnt 104 = 2400 := rfl
  have cc_105 : cnt 105 = 7200 := rfl
  have x_T : FW R [1472] T T := FW.rf
  have j_a2 := i_any a2
  have j_a3 := i_any a3
  have j_a4 := i_any a4
  unfold g_X5_hear
  refine cl_X5_hear_b3 o a0 a1 a2 a3 a4 T k_o k_a0 k_a1 (by omega) (by omega) (by omega) ?_ 16384 T 0 h_T x_T (by omega) (by omega)
  · intro T_143 h_T_143 x_T_143
    exact tot_some ⟨h_T_143, x_T_143⟩
