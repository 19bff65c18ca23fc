set_option maxHeartbeats 4000000 in
set_option maxRecDepth 10000 in
theorem cl_X5_record_b34 {R : Nat → Nat} {B K1 K2 : Nat} {Q : AT → Prop} {k6 : AT → Nat → Nat → Nat → Int32 → Option (AT)} (l0 : Nat) (l1 : Nat) (l2 : Nat) (l3 : Int32) (l4 : Nat) (T00 : AT) (k_l0 : R l0 = 5) (k_l1 : R l1 = 6) (k_l2 : R l2 = 8) (k_l4 : R l4 = 7) (g0 : 0 ≤ l3.toInt ∧ l3.toInt ≤ 5) (hx0 : ∀ (T : AT), (IV R B K1 K2 T) → (FW R [258, 1472, 3202] T00 T) → Tot (g_X5_record_b92 k6 T l0 l1 l2 l3) Q) : ∀ (n : Nat) (T : AT) (l5 : Int32), (IV R B K1 K2 T) → (FW R [258, 1472, 3202] T00 T) → (0 ≤ l5.toInt ∧ l5.toInt ≤ 200) → 200 - l5.toInt < (n : Int) → Tot (g_X5_record_b34 k6 n T l0 l1 l2 l3 l4 l5) Q := by
  have z0 : (Int32.ofInt (1) : Int32).toInt = 1 := by decide
  have cc_101 : cnt 101 = 1 := rfl
  have cc_102 : cnt 102 = 12 := rfl
  have cc_103 : cnt 103 = 144 := rfl
  have cc_104 : cnt 104 = 2400 := rfl
  have cc_105 : cnt 105 = 7200 := rfl
  have j_l3 := i_any l3
  intro n
  induction n with
  | zero =>
    intro T l5 h_T x_T g_l5 hm
    exfalso
    omega
  | succ n ih =>
    intro T l5 h_T x_T g_l5 hm
    unfold g_X5_record_b34
    refine tot_oif (iv_oO h_T k_l1 (by decide) (by decide) rfl) ?_
    refine tot_let (fun v_85 e_v_85 => ?_)
    have r_v_85 : 0 ≤ v_85.toInt ∧ v_85.toInt ≤ 200 := iv_int h_T k_l1 (by decide) (by decide) e_v_85 rfl
    refine tot_if (fun c_98 => ?_) (fun c_98 => ?_)
    · replace c_98 := i_le c_98
      exact hx0 T h_T x_T
    · replace c_98 := i_nle c_98
      refine tot_oif (iv_oO h_T k_l2 (by decide) (by decide) rfl) ?_
      refine tot_ref h_T k_l2 (by decide) (by decide) (r2 := 65) (rfl : rtg 8 6 = 65) (by decide) (fun n_86 k_n_86 e_n_86 => ?_)
      refine tot_oif (iv_aA h_T k_n_86 (by decide) (by decide) rfl rfl) ?_
      refine tot_oif (by rw [iv_len h_T k_n_86 (by decide) (by decide) (rfl : shp 65 = (100, 6))]; exact i_inb (by omega) (by omega)) ?_
      refine tot_let (fun v_87 e_v_87 => ?_)
      have r_v_87 : -2000 ≤ v_87.toInt ∧ v_87.toInt ≤ 2000 := iv_int h_T k_n_86 (by decide) (by decide) e_v_87 rfl
      refine tot_oif (iv_oO h_T k_l2 (by decide) (by decide) rfl) ?_
      refine tot_ref h_T k_l2 (by decide) (by decide) (r2 := 66) (rfl : rtg 8 8 = 66) (by decide) (fun n_88 k_n_88 e_n_88 => ?_)
      refine tot_oif (iv_aA h_T k_n_88 (by decide) (by decide) rfl rfl) ?_
      refine tot_oif (by rw [iv_len h_T k_n_88 (by decide) (by decide) (rfl : shp 66 = (100, 6))]; exact i_inb (by omega) (by omega)) ?_
      refine tot_let (fun v_89 e_v_89 => ?_)
      have r_v_89 : -999 ≤ v_89.toInt ∧ v_89.toInt ≤ 999 := iv_int h_T k_n_88 (by decide) (by decide) e_v_89 rfl
      refine tot_bind (cs_X11_moved v_87 v_89 l5 (by omega) (by omega) (by omega)) (fun r_90 d_r_90 => ?_)
      replace d_r_90 : (-3988 ≤ r_90.toInt ∧ r_90.toInt ≤ 17144) := d_r_90
      refine tot_oif (iv_oO h_T k_l2 (by decide) (by decide) rfl) ?_
      refine tot_ref h_T k_l2 (by decide) (by decide) (r2 := 65) (rfl : rtg 8 7 = 65) (by decide) (fun n_91 k_n_91 e_n_91 => ?_)
      refine tot_oif (iv_aA h_T k_n_91 (by decide) (by decide) rfl rfl) ?_
      refine tot_oif (by rw [iv_len h_T k_n_91 (by decide) (by decide) (rfl : shp 65 = (100, 6))]; exact i_inb (by omega) (by omega)) ?_
      refine tot_let (fun v_92 e_v_92 => ?_)
      have r_v_92 : -2000 ≤ v_92.toInt ∧ v_92.toInt ≤ 2000 := iv_int h_T k_n_91 (by decide) (by decide) e_v_92 rfl
      refine tot_oif (iv_oO h_T k_l2 (by decide) (by decide) rfl) ?_
      refine tot_ref h_T k_l2 (by decide) (by decide) (r2 := 66) (rfl : rtg 8 9 = 66) (by decide) (fun n_93 k_n_93 e_n_93 => ?_)
      refine tot_oif (iv_aA h_T k_n_93 (by decide) (by decide) rfl rfl) ?_
      refine tot_oif (by rw [iv_len h_T k_n_93 (by decide) (by decide) (rfl : shp 66 = (100, 6))]; exact i_inb (by omega) (by omega)) ?_
      refine tot_let (fun v_94 e_v_94 => ?_)
      have r_v_94 : -999 ≤ v_94.toInt ∧ v_94.toInt ≤ 999 := iv_int h_T k_n_93 (by decide) (by decide) e_v_94 rfl
      refine tot_bind (cs_X11_moved v_92 v_94 l5 (by omega) (by omega) (by omega)) (fun r_95 d_r_95 => ?_)
      replace d_r_95 : (-3988 ≤ r_95.toInt ∧ r_95.toInt ≤ 17144) := d_r_95
      refine tot_oif (iv_oO h_T k_l0 (by decide) (by decide) rfl) ?_
      refine tot_bind (cs_X5_hear T l0 l1 l4 r_90 r_95 l5 h_T k_l0 k_l1 k_l4 (by omega) (by omega) (by omega)) (fun T_96 d_T_96 => ?_)
      have h_T_96 : IV R B K1 K2 T_96 := d_T_96.1
      have y_T_96 : FW R [1472] T T_96 := d_T_96.2
      have x_T_96 := x_T.tr (y_T_96.w (by decide))
      refine tot_let (fun v_97 e_v_97 => ?_)
      have q_v_97 := i_add e_v_97 (by omega) (by omega)
      exact ih T_96 v_97 h_T_96 x_T_96 (by omega) (by omega)
set_option maxHeartbeats 4000000 in
set_option maxRecDepth 10000 in
theorem cl_X5_record_b6 {R : Nat → Nat} {B K1 K2 : Nat} {Q : AT → Prop} (l0 : Nat) (l1 : Nat) (l2 : Nat) (T00 : AT) (k_l0 : R l0 = 5) (k_l1 : R l1 = 6) (k_l2 : R l2 = 8) (hx0 : ∀ (T : AT), (IV R B K1 K2 T) → (FW R [258, 1472, 3202] T00 T) → Tot (oif (oO T l0 5 = true) <| obind (g_X5_finish T l0 l1 l2) fun T_63 => g_X5_record_b104 T_63) Q) : ∀ (n : Nat) (T : AT) (l3 : Int32), (IV R B K1 K2 T) → (FW R [258, 1472, 3202] T00 T) → (0 ≤ l3.toInt ∧ l3.toInt ≤ 6) → 6 - l3.toInt < (n : Int) → Tot (g_X5_record_b6 n T l0 l1 l2 l3) Q := by
  have z0 : (0 : Int32).toInt = 0 := by decide
  have z1 : (Int32.ofInt (1) : Int32).toInt = 1 := by decide
  have cc_101 : cnt 101 = 1 := rfl
  have cc_102 : cnt 102 = 12 := rfl
  have cc_103 : cnt 103 = 144 := rfl
  have cc_104 : cnt 104 = 2400 := rfl
  have cc_105 : cnt 105 = 7200 := rfl
  intro n
  induction n with
  | zero =>
    intro T l3 h_T x_T g_l3 hm
    exfalso
    omega
  | succ n ih =>
    intro T l3 h_T x_T g_l3 hm
    unfold g_X5_record_b6
    refine tot_oif (iv_oO h_T k_l1 (by decide) (by decide) rfl) ?_
    refine tot_let (fun v_62 e_v_62 => ?_)
    have r_v_62 : 0 ≤ v_62.toInt ∧ v_62.toInt ≤ 6 := iv_int h_T k_l1 (by decide) (by decide) e_v_62 rfl
    refine tot_if (fun c_68 => ?_) (fun c_68 => ?_)
    · replace c_68 := i_le c_68
      exact hx0 T h_T x_T
    · replace c_68 := i_nle c_68
      refine tot_oif (iv_oO h_T k_l2 (by decide) (by decide) rfl) ?_
      refine tot_ref h_T k_l2 (by decide) (by decide) (r2 := 64) (rfl : rtg 8 5 = 64) (by decide) (fun n_64 k_n_64 e_n_64 => ?_)
      refine tot_oif (iv_aA h_T k_n_64 (by decide) (by decide) rfl rfl) ?_
      refine tot_oif (by rw [iv_len h_T k_n_64 (by decide) (by decide) (rfl : shp 64 = (102, 6))]; exact i_inb (by omega) (by omega)) ?_
      refine tot_let (fun v_65 e_v_65 => ?_)
      have r_v_65 : 0 ≤ v_65.toInt ∧ v_65.toInt ≤ 1 := iv_int h_T k_n_64 (by decide) (by decide) e_v_65 rfl
      refine tot_if (fun c_69 => ?_) (fun c_69 => ?_)
      · replace c_69 := i_eq c_69
        unfold g_X5_record_b92
        refine tot_let (fun v_70 e_v_70 => ?_)
        have q_v_70 := i_add e_v_70 (by omega) (by omega)
        exact ih T v_70 h_T x_T (by omega) (by omega)
      · replace c_69 := i_ne c_69
        refine tot_oif (iv_oO h_T k_l1 (by decide) (by decide) rfl) ?_
        refine tot_ref h_T k_l1 (by decide) (by decide) (r2 := 54) (rfl : rtg 6 7 = 54) (by decide) (fun n_66 k_n_66 e_n_66 => ?_)
        refine tot_oif (iv_aA h_T k_n_66 (by decide) (by decide) rfl rfl) ?_
        refine tot_oif (by rw [iv_len h_T k_n_66 (by decide) (by decide) (rfl : shp 54 = (104, 6))]; exact i_inb (by omega) (by omega)) ?_
        refine tot_ref h_T k_n_66 (by decide) (by decide) (r2 := 7) (rt_54 (by omega) (by omega)) (by decide) (fun n_67 k_n_67 e_n_67 => ?_)
        refine cl_X5_record_b34 l0 l1 l2 l3 n_67 T00 k_l0 k_l1 k_l2 k_n_67 (by omega) ?_ 16384 T 0 h_T x_T (by omega) (by omega)
        · intro T_99 h_T_99 x_T_99
          unfold g_X5_record_b92
          refine tot_let (fun v_100 e_v_100 => ?_)
          have q_v_100 := i_add e_v_100 (by omega) (by omega)
          exact ih T_99 v_100 h_T_99 x_T_99 (by omega) (by omega)
set_option maxHeartbeats 4000000 in
set_option maxRecDepth 10000 in
theorem cs_X5_record {R : Nat → Nat} {B K1 K2 : Nat} (T : AT) (o : Nat) (a0 : Nat) (a1 : Nat) (h_T : IV R B K1 K2 T) (k_o : R o = 5) (k_a0 : R a0 = 6) (k_a1 : R a1 = 8) : Tot (g_X5_record T o a0 a1) (fun T1 => IV R B K1 K2 T1 ∧ FW R [258, 1472, 3202] T T1) := by
  have z0 : (0 : Int32).toInt = 0 := by decide
  have cc_101 : cnt 101 = 1 := rfl
  have cc_102 : cnt 102 = 12 := rfl
  have cc_103 : cnt 103 = 144 := rfl
  have cc_104 : cnt 104 = 2400 := rfl
  have cc_105 : cnt 105 = 7200 := rfl
  have x_T : FW R [258, 1472, 3202] T T := FW.rf
  unfold g_X5_record
  refine tot_oif (iv_oO h_T k_o (by decide) (by decide) rfl) ?_
  refine tot_bind (cs_X5_silence T o h_T k_o ) (fun T_1 d_T_1 => ?_)
  have h_T_1 : IV R B K1 K2 T_1 := d_T_1.1
  have y_T_1 : FW R [1472] T T_1 := d_T_1.2
  have x_T_1 := x_T.tr (y_T_1.w (by decide))
  refine cl_X5_record_b6 o a0 a1 T k_o k_a0 k_a1 ?_ 16384 T_1 0 h_T_1 x_T_1 (by omega) (by omega)
  · intro T_101 h_T_101 x_T_101
    refine tot_oif (iv_oO h_T_101 k_o (by decide) (by decide) rfl) ?_
    refine tot_bind (cs_X5_finish T_101 o a0 a1 h_T_101 k_o k_a0 k_a1 ) (fun T_102 d_T_102 => ?_)
    have h_T_102 : IV R B K1 K2 T_102 := d_T_102.1
    have y_T_102 : FW R [258, 3202] T_101 T_102 := d_T_102.2
    have x_T_102 := x_T_101.tr (y_T_102.w (by decide))
    unfold g_X5_record_b104
    exact tot_some ⟨h_T_102, x_T_102⟩
set_option maxHeartbeats 4000000 in
set_option maxRecDepth 10000 in
theorem cl_X5_recordPoint_b53 {R : Nat → Nat} {B K1 K2 : Nat} {Q : AT → Prop} (l0 : Nat) (l1 : Nat) (l2 : Nat) (l5 : Int32) (l6 : Int32) (T00 : AT) (k_l0 : R l0 = 5) (k_l1 : R l1 = 6) (k_l2 : R l2 = 8) (g0 : -999 ≤ l5.toInt ∧ l5.toInt ≤ 2088) (g1 : -999 ≤ l6.toInt ∧ l6.toInt ≤ 15156) (hx0 : ∀ (T : AT), (IV R B K1 K2 T) → (FW R [224, 229, 230, 258, 1472, 3202] T00 T) → Tot (oif (oO T l0 5 = true) <| obind (g_X5_finish T l0 l1 l2) fun T_25 => g_X5_recordPoint_b89 T_25) Q) : ∀ (n : Nat) (T : AT) (l7 : Int32), (IV R B K1 K2 T) → (FW R [224, 229, 230, 258, 1472, 3202] T00 T) → (0 ≤ l7.toInt ∧ l7.toInt ≤ 200) → 200 - l7.toInt < (n : Int) → Tot (g_X5_recordPoint_b53 n T l0 l1 l2 l5 l6 l7) Q := by
  have z0 : (Int32.ofInt (1) : Int32).toInt = 1 := by decide
  have cc_101 : cnt 101 = 1 := rfl
  have cc_102 : cnt 102 = 12 := rfl
  have cc_103 : cnt 103 = 144 := rfl
  have cc_104 : cnt 104 = 2400 := rfl
  have cc_105 : cnt 105 = 7200 := rfl
  have j_l5 := i_any l5
  have j_l6 := i_any l6
  intro n
  induction n with
  | zero =>
    intro T l7 h_T x_T g_l7 hm
    exfalso
    omega
  | succ n ih =>
    intro T l7 h_T x_T g_l7 hm
    unfold g_X5_recordPoint_b53
    refine tot_oif (iv_oO h_T k_l1 (by decide) (by decide) rfl) ?_
    refine tot_let (fun v_24 e_v_24 => ?_)
    have r_v_24 : 0 ≤ v_24.toInt ∧ v_24.toInt ≤ 200 := iv_int h_T k_l1 (by decide) (by decide) e_v_24 rfl
    refine tot_if (fun c_29 => ?_) (fun c_29 => ?_)
    · replace c_29 := i_le c_29
      exact hx0 T h_T x_T
    · replace c_29 := i_nle c_29
      refine tot_oif (iv_oO h_T k_l0 (by decide) (by decide) rfl) ?_
      refine tot_ref h_T k_l0 (by decide) (by decide) (r2 := 7) (rfl : rtg 5 1 = 7) (by decide) (fun n_26 k_n_26 e_n_26 => ?_)
      refine tot_oif (iv_oO h_T k_l0 (by decide) (by decide) rfl) ?_
      refine tot_bind (cs_X5_hear T l0 l1 n_26 l5 l6 l7 h_T k_l0 k_l1 k_n_26 (by omega) (by omega) (by omega)) (fun T_27 d_T_27 => ?_)
      have h_T_27 : IV R B K1 K2 T_27 := d_T_27.1
      have y_T_27 : FW R [1472] T T_27 := d_T_27.2
      have x_T_27 := x_T.tr (y_T_27.w (by decide))
      refine tot_let (fun v_28 e_v_28 => ?_)
      have q_v_28 := i_add e_v_28 (by omega) (by omega)
      exact ih T_27 v_28 h_T_27 x_T_27 (by omega) (by omega)
set_option maxHeartbeats 4000000 in
set_option maxRecDepth 10000 in
theorem cs_X5_recordPoint {R : Nat → Nat} {B K1 K2 : Nat} (T : AT) (o : Nat) (a0 : Nat) (a1 : Nat) (a2 : Int32) (a3 : Int32) (h_T : IV R B K1 K2 T) (k_o : R o = 5) (k_a0 : R a0 = 6) (k_a1 : R a1 = 8) (g0 : 0 ≤ a2.toInt ∧ a2.toInt ≤ 143) (g1 : 2 ≤ a3.toInt ∧ a3.toInt ≤ 99) : Tot (g_X5_recordPoint T o a0 a1 a2 a3) (fun T1 => IV R B K1 K2 T1 ∧ FW R [224, 229, 230, 258, 1472, 3202] T T1) := by
  have z0 : (0 : Int32).toInt = 0 := by decide
  have z1 : (100 : Int32).toInt = 100 := by decide
  have cc_101 : cnt 101 = 1 := rfl
  have cc_102 : cnt 102 = 12 := rfl
  have cc_103 : cnt 103 = 144 := rfl
  have cc_104 : cnt 104 = 2400 := rfl
  have cc_105 : cnt 105 = 7200 := rfl
  have x_T : FW R [224, 229, 230, 258, 1472, 3202] T T := FW.rf
  have j_a2 := i_any a2
  have j_a3 := i_any a3
  unfold g_X5_recordPoint
  refine tot_oif (iv_oO h_T k_o (by decide) (by decide) rfl) ?_
  refine tot_bind (cs_X5_silence T o h_T k_o ) (fun T_1 d_T_1 => ?_)
  have h_T_1 : IV R B K1 K2 T_1 := d_T_1.1
  have y_T_1 : FW R [1472] T T_1 := d_T_1.2
  have x_T_1 := x_T.tr (y_T_1.w (by decide))
  refine tot_oif (iv_oO h_T_1 k_o (by decide) (by decide) rfl) ?_
  refine tot_ref h_T_1 k_o (by decide) (by decide) (r2 := 7) (rfl : rtg 5 1 = 7) (by decide) (fun n_2 k_n_2 e_n_2 => ?_)
  refine tot_oif (iv_oO h_T_1 k_n_2 (by decide) (by decide) rfl) ?_
  refine tot_let (fun T_3 e_T_3 => ?_)
  have h_T_3 : IV R B K1 K2 T_3 := by rw [e_T_3]; exact iv_uI (a := 0) (b := 3) h_T_1 k_n_2 (by decide) (by decide) rfl (by omega) (.inl rfl)
  have x_T_3 := x_T_1.tr (fw_uI e_T_3 k_n_2 (by decide))
  refine tot_oif (iv_oO h_T_3 k_o (by decide) (by decide) rfl) ?_
  refine tot_ref h_T_3 k_o (by decide) (by decide) (r2 := 7) (rfl : rtg 5 1 = 7) (by decide) (fun n_4 k_n_4 e_n_4 => ?_)
  refine tot_oif (iv_oO h_T_3 k_n_4 (by decide) (by decide) rfl) ?_
  refine tot_let (fun T_5 e_T_5 => ?_)
  have h_T_5 : IV R B K1 K2 T_5 := by rw [e_T_5]; exact iv_uI (a := 0) (b := 999) h_T_3 k_n_4 (by decide) (by decide) rfl (by omega) (.inl rfl)
  have x_T_5 := x_T_3.tr (fw_uI e_T_5 k_n_4 (by decide))
  refine tot_oif (iv_oO h_T_5 k_o (by decide) (by decide) rfl) ?_
  refine tot_ref h_T_5 k_o (by decide) (by decide) (r2 := 7) (rfl : rtg 5 1 = 7) (by decide) (fun n_6 k_n_6 e_n_6 => ?_)
  refine tot_oif (iv_oO h_T_5 k_n_6 (by decide) (by decide) rfl) ?_
  refine tot_let (fun T_7 e_T_7 => ?_)
  have h_T_7 : IV R B K1 K2 T_7 := by rw [e_T_7]; exact iv_uI (a := 0) (b := 99) h_T_5 k_n_6 (by decide) (by decide) rfl (by omega) (.inl rfl)
  have x_T_7 := x_T_5.tr (fw_uI e_T_7 k_n_6 (by decide))
  refine tot_oif (iv_oO h_T_7 k_a0 (by decide) (by decide) rfl) ?_
  refine tot_ref h_T_7 k_a0 (by decide) (by decide) (r2 := 1) (rfl : rtg 6 6 = 1) (by decide) (fun n_8 k_n_8 e_n_8 => ?_)
  refine tot_oif (iv_oO h_T_7 k_n_8 (by decide) (by decide) rfl) ?_
  refine tot_bindq (R := fun r_9 : Int32 => (-999 ≤ r_9.toInt ∧ r_9.toInt ≤ 2088)) (cs_X1_centreX T_7 n_8 a2 h_T_7 k_n_8 (by omega)) (fun r_9 d_r_9 => ?_)
  replace d_r_9 : (-999 ≤ r_9.toInt ∧ r_9.toInt ≤ 2088) := d_r_9
  refine tot_oif (iv_oO h_T_7 k_a0 (by decide) (by decide) rfl) ?_
  refine tot_ref1 e_n_8 ?_
  refine tot_oif (iv_oO h_T_7 k_n_8 (by decide) (by decide) rfl) ?_
  refine tot_bindq (R := fun r_12 : Int32 => (-999 ≤ r_12.toInt ∧ r_12.toInt ≤ 15156)) (cs_X1_centreY T_7 n_8 a2 h_T_7 k_n_8 (by omega)) (fun r_12 d_r_12 => ?_)
  replace d_r_12 : (-999 ≤ r_12.toInt ∧ r_12.toInt ≤ 15156) := d_r_12
  refine cl_X5_recordPoint_b53 o a0 a1 r_9 r_12 T k_o k_a0 k_a1 (by omega) (by omega) ?_ 16384 T_7 0 h_T_7 x_T_7 (by omega) (by omega)
  · intro T_30 h_T_30 x_T_30
    refine tot_oif (iv_oO h_T_30 k_o (by decide) (by decide) rfl) ?_
    refine tot_bind (cs_X5_finish T_30 o a0 a1 h_T_30 k_o k_a0 k_a1 ) (fun T_31 d_T_31 => ?_)
    have h_T_31 : IV R B K1 K2 T_31 := d_T_31.1
    have y_T_31 : FW R [258, 3202] T_30 T_31 := d_T_31.2
    have x_T_31 := x_T_30.tr (y_T_31.w (by decide))
    unfold g_X5_recordPoint_b89
    exact tot_some ⟨h_T_31, x_T_31⟩
set_option maxHeartbeats 4000000 in
set_option maxRecDepth 10000 in
theorem cl_X6_delaysFrom_b3 {R : Nat → Nat} {B K1 K2 : Nat} {Q : AT → Prop} (l0 : Nat) (l1 : Int32) (l2 : Int32) (l3 : Nat) (T00 : AT) (k_l0 : R l0 = 6) (k_l3 : R l3 = 50) (g0 : -9999 ≤ l1.toInt ∧ l1.toInt ≤ 17144) (g1 : -9999 ≤ l2.toInt ∧ l2.toInt ≤ 17144) (hx0 : ∀ (T : AT), (IV R B K1 K2 T) → (FW R [1600] T00 T) → Tot (some (T)) Q) : ∀ (n : Nat) (T : AT) (l4 : Int32), (IV R B K1 K2 T) → (FW R [1600] T00 T) → (0 ≤ l4.toInt ∧ l4.toInt ≤ 12) → 12 - l4.toInt < (n : Int) → Tot (g_X6_delaysFrom_b3 n T l0 l1 l2 l3 l4) Q := by
  have z0 : (Int32.ofInt (1) : Int32).toInt = 1 := by decide
  have cc_101 : cnt 101 = 1 := rfl
  have cc_102 : cnt 102 = 12 := rfl
  have cc_103 : cnt 103 = 144 := rfl
  have cc_104 : cnt 104 = 2400 := rfl
  have cc_105 : cnt 105 = 7200 := rfl
  have j_l1 := i_any l1
  have j_l2 := i_any l2
  intro n
  induction n with
  | zero =>
    intro T l4 h_T x_T g_l4 hm
    exfalso
    omega
  | succ n ih =>
    intro T l4 h_T x_T g_l4 hm
    unfold g_X6_delaysFrom_b3
    refine tot_oif (iv_oO h_T k_l0 (by decide) (by decide) rfl) ?_
    refine tot_let (fun v_15 e_v_15 => ?_)
    have r_v_15 : 0 ≤ v_15.toInt ∧ v_15.toInt ≤ 12 := iv_int h_T k_l0 (by decide) (by decide) e_v_15 rfl
    refine tot_if (fun c_22 => ?_) (fun c_22 => ?_)
    · replace c_22 := i_le c_22
      exact hx0 T h_T x_T
    · replace c_22 := i_nle c_22
      refine tot_oif (iv_oO h_T k_l0 (by decide) (by decide) rfl) ?_
      refine tot_ref h_T k_l0 (by decide) (by decide) (r2 := 53) (rfl : rtg 6 4 = 53) (by decide) (fun n_16 k_n_16 e_n_16 => ?_)
      refine tot_oif (iv_aA h_T k_n_16 (by decide) (by decide) rfl rfl) ?_
      refine tot_oif (by rw [iv_len h_T k_n_16 (by decide) (by decide) (rfl : shp 53 = (103, 12))]; exact i_inb (by omega) (by omega)) ?_
      refine tot_ref h_T k_n_16 (by decide) (by decide) (r2 := 2) (rt_53 (by omega) (by omega)) (by decide) (fun n_17 k_n_17 e_n_17 => ?_)
      refine tot_oif (iv_oO h_T k_l0 (by decide) (by decide) rfl) ?_
      refine tot_bindq (R := fun r_18 : Int32 => True) (cs_X6_delayFrom T l0 n_17 l1 l2 h_T k_l0 k_n_17 (by omega) (by omega)) (fun r_18 d_r_18 => ?_)
      have r_r_18 := i_any r_18
      refine tot_oif (iv_aA h_T k_l3 (by decide) (by decide) rfl rfl) ?_
      refine tot_oif (by rw [iv_len h_T k_l3 (by decide) (by decide) (rfl : shp 50 = (100, 12))]; exact i_inb (by omega) (by omega)) ?_
      refine tot_let (fun T_20 e_T_20 => ?_)
      have ja_T_20 := i_any r_18
      have h_T_20 : IV R B K1 K2 T_20 := by rw [e_T_20]; exact iv_uI (a := -2147483648) (b := 2147483647) h_T k_l3 (by decide) (by decide) rfl (by omega) (.inl rfl)
      have x_T_20 := x_T.tr (fw_uA e_T_20 k_l3 rfl rfl (by decide))
      refine tot_let (fun v_21 e_v_21 => ?_)
      have q_v_21 := i_add e_v_21 (by omega) (by omega)
      exact ih T_20 v_21 h_T_20 x_T_20 (by omega) (by omega)
set_option maxHeartbeats 4000000 in
set_option maxRecDepth 10000 in
theorem cs_X6_delaysFrom {R : Nat → Nat} {B K1 K2 : Nat} (T : AT) (o : Nat) (a0 : Int32) (a1 : Int32) (a2 : Nat) (h_T : IV R B K1 K2 T) (k_o : R o = 6) (k_a2 : R a2 = 50) (g0 : -9999 ≤ a0.toInt ∧ a0.toInt ≤ 17144) (g1 : -9999 ≤ a1.toInt ∧ a1.toInt ≤ 17144) : Tot (g_X6_delaysFrom T o a0 a1 a2) (fun T1 => IV R B K1 K2 T1 ∧ FW R [1600] T T1) := by
  have z0 : (0 : Int32).toInt = 0 := by decide
  have cc_101 : cnt 101 = 1 := rfl
  have cc_102 : cnt 102 = 12 := rfl
  have cc_103 : cnt 103 = 144 := rfl
  have cc_104 : cnt 104 = 2400 := rfl
  have cc_105 : cnt 105 = 7200 := rfl
  have x_T : FW R [1600] T T := FW.rf
  have j_a0 := i_any a0
  have j_a1 := i_any a1
  unfold g_X6_delaysFrom
  refine cl_X6_delaysFrom_b3 o a0 a1 a2 T k_o k_a2 (by omega) (by omega) ?_ 16384 T 0 h_T x_T (by omega) (by omega)
  · intro T_23 h_T_23 x_T_23
    exact tot_some ⟨h_T_23, x_T_23⟩
set_option maxHeartbeats 4000000 in
set_option maxRecDepth 10000 in
theorem cl_X6_measureDelays_b2 {R : Nat → Nat} {B K1 K2 : Nat} {Q : AT → Prop} (l0 : Nat) (T00 : AT) (k_l0 : R l0 = 6) (hx0 : ∀ (T : AT), (IV R B K1 K2 T) → (FW R [1600] T00 T) → Tot (some (T)) Q) : ∀ (n : Nat) (T : AT) (l1 : Int32), (IV R B K1 K2 T) → (FW R [1600] T00 T) → (0 ≤ l1.toInt ∧ l1.toInt ≤ 144) → 144 - l1.toInt < (n : Int) → Tot (g_X6_measureDelays_b2 n T l0 l1) Q := by
  have z0 : (Int32.ofInt (1) : Int32).toInt = 1 := by decide
  have cc_101 : cnt 101 = 1 := rfl
  have cc_102 : cnt 102 = 12 := rfl
  have cc_103 : cnt 103 = 144 := rfl
  have cc_104 : cnt 104 = 2400 := rfl
  have cc_105 : cnt 105 = 7200 := rfl
  intro n
  induction n with
  | zero =>
    intro T l1 h_T x_T g_l1 hm
    exfalso
    omega
  | succ n ih =>
    intro T l1 h_T x_T g_l1 hm
    unfold g_X6_measureDelays_b2
    refine tot_oif (iv_oO h_T k_l0 (by decide) (by decide) rfl) ?_
    refine tot_ref h_T k_l0 (by decide) (by decide) (r2 := 1) (rfl : rtg 6 6 = 1) (by decide) (fun n_27 k_n_27 e_n_27 => ?_)
    refine tot_oif (iv_oO h_T k_n_27 (by decide) (by decide) rfl) ?_
    refine tot_bindq (R := fun r_28 : Int32 => (0 ≤ r_28.toInt ∧ r_28.toInt ≤ 144)) (cs_X1_cells T n_27 h_T k_n_27 ) (fun r_28 d_r_28 => ?_)
    replace d_r_28 : (0 ≤ r_28.toInt ∧ r_28.toInt ≤ 144) := d_r_28
    refine tot_if (fun c_40 => ?_) (fun c_40 => ?_)
    · replace c_40 := i_le c_40
      exact hx0 T h_T x_T
    · replace c_40 := i_nle c_40
      refine tot_oif (iv_oO h_T k_l0 (by decide) (by decide) rfl) ?_
      refine tot_ref1 e_n_27 ?_
      refine tot_oif (iv_oO h_T k_n_27 (by decide) (by decide) rfl) ?_
      refine tot_bindq (R := fun r_31 : Int32 => (-999 ≤ r_31.toInt ∧ r_31.toInt ≤ 2088)) (cs_X1_centreX T n_27 l1 h_T k_n_27 (by omega)) (fun r_31 d_r_31 => ?_)
      replace d_r_31 : (-999 ≤ r_31.toInt ∧ r_31.toInt ≤ 2088) := d_r_31
      refine tot_oif (iv_oO h_T k_l0 (by decide) (by decide) rfl) ?_
      refine tot_ref1 e_n_27 ?_
      refine tot_oif (iv_oO h_T k_n_27 (by decide) (by decide) rfl) ?_
      refine tot_bindq (R := fun r_34 : Int32 => (-999 ≤ r_34.toInt ∧ r_34.toInt ≤ 15156)) (cs_X1_centreY T n_27 l1 h_T k_n_27 (by omega)) (fun r_34 d_r_34 => ?_)
      replace d_r_34 : (-999 ≤ r_34.toInt ∧ r_34.toInt ≤ 15156) := d_r_34
      refine tot_oif (iv_oO h_T k_l0 (by decide) (by decide) rfl) ?_
      refine tot_ref h_T k_l0 (by decide) (by decide) (r2 := 51) (rfl : rtg 6 17 = 51) (by decide) (fun n_36 k_n_36 e_n_36 => ?_)
      refine tot_oif (iv_aA h_T k_n_36 (by decide) (by decide) rfl rfl) ?_
      refine tot_oif (by rw [iv_len h_T k_n_36 (by decide) (by decide) (rfl : shp 51 = (106, 144))]; exact i_inb (by omega) (by omega)) ?_
      refine tot_ref h_T k_n_36 (by decide) (by decide) (r2 := 50) (rt_51 (by omega) (by omega)) (by decide) (fun n_37 k_n_37 e_n_37 => ?_)
      refine tot_oif (iv_oO h_T k_l0 (by decide) (by decide) rfl) ?_
      refine tot_bind (cs_X6_delaysFrom T l0 r_31 r_34 n_37 h_T k_l0 k_n_37 (by omega) (by omega)) (fun T_38 d_T_38 => ?_)
      have h_T_38 : IV R B K1 K2 T_38 := d_T_38.1
      have y_T_38 : FW R [1600] T T_38 := d_T_38.2
      have x_T_38 := x_T.tr (y_T_38.w (by decide))
      refine tot_let (fun v_39 e_v_39 => ?_)
      have q_v_39 := i_add e_v_39 (by omega) (by omega)
      exact ih T_38 v_39 h_T_38 x_T_38 (by omega) (by omega)
set_option maxHeartbeats 4000000 in
set_option maxRecDepth 10000 in
theorem cs_X6_measureDelays {R : Nat → Nat} {B K1 K2 : Nat} (T : AT) (o : Nat) (h_T : IV R B K1 K2 T) (k_o : R o = 6) : Tot (g_X6_measureDelays T o) (fun T1 => IV R B K1 K2 T1 ∧ FW R [1600] T T1) := by
  have z0 : (0 : Int32).toInt = 0 := by decide
  have cc_101 : cnt 101 = 1 := rfl
  have cc_102 : cnt 102 = 12 := rfl
  have cc_103 : cnt 103 = 144 := rfl
  have cc_104 : cnt 104 = 2400 := rfl
  have cc_105 : cnt 105 = 7200 := rfl
  have x_T : FW R [1600] T T := FW.rf
  unfold g_X6_measureDelays
  refine cl_X6_measureDelays_b2 o T k_o ?_ 16384 T 0 h_T x_T (by omega) (by omega)
  · intro T_41 h_T_41 x_T_41
    exact tot_some ⟨h_T_41, x_T_41⟩
set_option maxHeartbeats 4000000 in
set_option maxRecDepth 10000 in
theorem cl_X8_begin_b18 {R : Nat → Nat} {B K1 K2 : Nat} {Q : AT → Prop} (l0 : Nat) (l1 : Nat) (T00 : AT) (k_l0 : R l0 = 8) (k_l1 : R l1 = 6) (hx0 : ∀ (T : AT), (IV R B K1 K2 T) → (FW R [256, 257, 1984, 2016, 2048, 2080, 2112] T00 T) → Tot (g_X8_begin_b63 16384 T l0 l1 0) Q) : ∀ (n : Nat) (T : AT) (l2 : Int32), (IV R B K1 K2 T) → (FW R [256, 257, 1984, 2016, 2048, 2080, 2112] T00 T) → (0 ≤ l2.toInt ∧ l2.toInt ≤ 12) → 12 - l2.toInt < (n : Int) → Tot (g_X8_begin_b18 n T l0 l1 l2) Q := by
  have z0 : (12 : Int32).toInt = 12 := by decide
  have z1 : (0 : Int32).toInt = 0 := by decide
  have z2 : (1 : Int32).toInt = 1 := by decide
  have z3 : (Int32.ofInt (1) : Int32).toInt = 1 := by decide
  have cc_101 : cnt 101 = 1 := rfl
  have cc_102 : cnt 102 = 12 := rfl
  have cc_103 : cnt 103 = 144 := rfl
  have cc_104 : cnt 104 = 2400 := rfl
  have cc_105 : cnt 105 = 7200 := rfl
  intro n
  induction n with
  | zero =>
    intro T l2 h_T x_T g_l2 hm
    exfalso
    omega
  | succ n ih =>
    intro T l2 h_T x_T g_l2 hm
    unfold g_X8_begin_b18
    refine tot_if (fun c_131 => ?_) (fun c_131 => ?_)
    · replace c_131 := i_le c_131
      exact hx0 T h_T x_T
    · replace c_131 := i_nle c_131
      refine tot_oif (iv_oO h_T k_l0 (by decide) (by decide) rfl) ?_
      refine tot_ref h_T k_l0 (by decide) (by decide) (r2 := 62) (rfl : rtg 8 3 = 62) (by decide) (fun n_125 k_n_125 e_n_125 => ?_)
      refine tot_oif (iv_aA h_T k_n_125 (by decide) (by decide) rfl rfl) ?_
      refine tot_oif (by rw [iv_len h_T k_n_125 (by decide) (by decide) (rfl : shp 62 = (102, 12))]; exact i_inb (by omega) (by omega)) ?_
      refine tot_let (fun T_126 e_T_126 => ?_)
      have h_T_126 : IV R B K1 K2 T_126 := by rw [e_T_126]; exact iv_uI (a := 0) (b := 1) h_T k_n_125 (by decide) (by decide) rfl (by omega) (.inl rfl)
      have x_T_126 := x_T.tr (fw_uA e_T_126 k_n_125 rfl rfl (by decide))
      refine tot_oif (iv_oO h_T_126 k_l0 (by decide) (by decide) rfl) ?_
      refine tot_ref h_T_126 k_l0 (by decide) (by decide) (r2 := 63) (rfl : rtg 8 4 = 63) (by decide) (fun n_127 k_n_127 e_n_127 => ?_)
      refine tot_oif (iv_oO h_T_126 k_l1 (by decide) (by decide) rfl) ?_
      refine tot_let (fun v_128 e_v_128 => ?_)
      have r_v_128 : 0 ≤ v_128.toInt ∧ v_128.toInt ≤ 12 := iv_int h_T_126 k_l1 (by decide) (by decide) e_v_128 rfl
      refine tot_if (fun c_132 => ?_) (fun c_132 => ?_)
      · replace c_132 := i_le c_132
        unfold g_X8_begin_b54
        refine tot_oif (iv_aA h_T_126 k_n_127 (by decide) (by decide) rfl rfl) ?_
        refine tot_oif (by rw [iv_len h_T_126 k_n_127 (by decide) (by decide) (rfl : shp 63 = (100, 12))]; exact i_inb (by omega) (by omega)) ?_
        refine tot_let (fun T_133 e_T_133 => ?_)
        have h_T_133 : IV R B K1 K2 T_133 := by rw [e_T_133]; exact iv_uI (a := 0) (b := 9) h_T_126 k_n_127 (by decide) (by decide) rfl (by omega) (.inl rfl)
        have x_T_133 := x_T_126.tr (fw_uA e_T_133 k_n_127 rfl rfl (by decide))
        refine tot_let (fun v_134 e_v_134 => ?_)
        have q_v_134 := i_add e_v_134 (by omega) (by omega)
        exact ih T_133 v_134 h_T_133 x_T_133 (by omega) (by omega)
      · replace c_132 := i_nle c_132
        refine tot_oif (iv_oO h_T_126 k_l1 (by decide) (by decide) rfl) ?_
        refine tot_ref h_T_126 k_l1 (by decide) (by decide) (r2 := 58) (rfl : rtg 6 15 = 58) (by decide) (fun n_129 k_n_129 e_n_129 => ?_)
        refine tot_oif (iv_aA h_T_126 k_n_129 (by decide) (by decide) rfl rfl) ?_
        refine tot_oif (by rw [iv_len h_T_126 k_n_129 (by decide) (by decide) (rfl : shp 58 = (100, 12))]; exact i_inb (by omega) (by omega)) ?_
        refine tot_let (fun v_130 e_v_130 => ?_)
        have r_v_130 : 0 ≤ v_130.toInt ∧ v_130.toInt ≤ 9 := iv_int h_T_126 k_n_129 (by decide) (by decide) e_v_130 rfl
        unfold g_X8_begin_b54
        refine tot_oif (iv_aA h_T_126 k_n_127 (by decide) (by decide) rfl rfl) ?_
        refine tot_oif (by rw [iv_len h_T_126 k_n_127 (by decide) (by decide) (rfl : shp 63 = (100, 12))]; exact i_inb (by omega) (by omega)) ?_
        refine tot_let (fun T_135 e_T_135 => ?_)
        have h_T_135 : IV R B K1 K2 T_135 := by rw [e_T_135]; exact iv_uI (a := 0) (b := 9) h_T_126 k_n_127 (by decide) (by decide) rfl (by omega) (.inl rfl)
        have x_T_135 := x_T_126.tr (fw_uA e_T_135 k_n_127 rfl rfl (by decide))
        refine tot_let (fun v_136 e_v_136 => ?_)
        have q_v_136 := i_add e_v_136 (by omega) (by omega)
        exact ih T_135 v_136 h_T_135 x_T_135 (by omega) (by omega)
set_option maxHeartbeats 4000000 in
set_option maxRecDepth 10000 in
theorem cl_X8_begin_b63 {R : Nat → Nat} {B K1 K2 : Nat} {Q : AT → Prop} (l0 : Nat) (l1 : Nat) (T00 : AT) (k_l0 : R l0 = 8) (k_l1 : R l1 = 6) (hx0 : ∀ (T : AT), (IV R B K1 K2 T) → (FW R [256, 257, 1984, 2016, 2048, 2080, 2112] T00 T) → Tot (some (T)) Q) : ∀ (n : Nat) (T : AT) (l2 : Int32), (IV R B K1 K2 T) → (FW R [256, 257, 1984, 2016, 2048, 2080, 2112] T00 T) → (0 ≤ l2.toInt ∧ l2.toInt ≤ 6) → 6 - l2.toInt < (n : Int) → Tot (g_X8_begin_b63 n T l0 l1 l2) Q := by
  have z0 : (6 : Int32).toInt = 6 := by decide
  have z1 : (0 : Int32).toInt = 0 := by decide
  have z2 : (1 : Int32).toInt = 1 := by decide
  have z3 : (Int32.ofInt (1) : Int32).toInt = 1 := by decide
  have cc_101 : cnt 101 = 1 := rfl
  have cc_102 : cnt 102 = 12 := rfl
  have cc_103 : cnt 103 = 144 := rfl
  have cc_104 : cnt 104 = 2400 := rfl
  have cc_105 : cnt 105 = 7200 := rfl
  intro n
  induction n with
  | zero =>
    intro T l2 h_T x_T g_l2 hm
    exfalso
    omega
  | succ n ih =>
    intro T l2 h_T x_T g_l2 hm
    unfold g_X8_begin_b63
    refine tot_if (fun c_174 => ?_) (fun c_174 => ?_)
    · replace c_174 := i_le c_174
      exact hx0 T h_T x_T
    · replace c_174 := i_nle c_174
      refine tot_oif (iv_oO h_T k_l1 (by decide) (by decide) rfl) ?_
      refine tot_ref h_T k_l1 (by decide) (by decide) (r2 := 54) (rfl : rtg 6 7 = 54) (by decide) (fun n_170 k_n_170 e_n_170 => ?_)
      refine tot_oif (iv_aA h_T k_n_170 (by decide) (by decide) rfl rfl) ?_
      refine tot_oif (by rw [iv_len h_T k_n_170 (by decide) (by decide) (rfl : shp 54 = (104, 6))]; exact i_inb (by omega) (by omega)) ?_
      refine tot_ref h_T k_n_170 (by decide) (by decide) (r2 := 7) (rt_54 (by omega) (by omega)) (by decide) (fun n_171 k_n_171 e_n_171 => ?_)
      refine tot_oif (iv_oO h_T k_l0 (by decide) (by decide) rfl) ?_
      refine tot_ref h_T k_l0 (by decide) (by decide) (r2 := 64) (rfl : rtg 8 5 = 64) (by decide) (fun n_172 k_n_172 e_n_172 => ?_)
      refine tot_oif (iv_oO h_T k_n_171 (by decide) (by decide) rfl) ?_
      refine tot_let (fun v_173 e_v_173 => ?_)
      have r_v_173 : 0 ≤ v_173.toInt ∧ v_173.toInt ≤ 1 := iv_int h_T k_n_171 (by decide) (by decide) e_v_173 rfl
      refine tot_if (fun c_175 => ?_) (fun c_175 => ?_)
      · replace c_175 := i_eq c_175
        unfold g_X8_begin_b93
        refine tot_oif (iv_aA h_T k_n_172 (by decide) (by decide) rfl rfl) ?_
        refine tot_oif (by rw [iv_len h_T k_n_172 (by decide) (by decide) (rfl : shp 64 = (102, 6))]; exact i_inb (by omega) (by omega)) ?_
        refine tot_oif (i_b01 (by omega)) ?_
        refine tot_let (fun T_176 e_T_176 => ?_)
        have h_T_176 : IV R B K1 K2 T_176 := by rw [e_T_176]; exact iv_uI (a := 0) (b := 1) h_T k_n_172 (by decide) (by decide) rfl (by omega) (.inl rfl)
        have x_T_176 := x_T.tr (fw_uA e_T_176 k_n_172 rfl rfl (by decide))
        refine tot_oif (iv_oO h_T_176 k_l0 (by decide) (by decide) rfl) ?_
        refine tot_ref h_T_176 k_l0 (by decide) (by decide) (r2 := 65) (rfl : rtg 8 6 = 65) (by decide) (fun n_177 k_n_177 e_n_177 => ?_)
        refine tot_oif (iv_oO h_T_176 k_n_171 (by decide) (by decide) rfl) ?_
        refine tot_let (fun v_178 e_v_178 => ?_)
        have r_v_178 : -2000 ≤ v_178.toInt ∧ v_178.toInt ≤ 2000 := iv_int h_T_176 k_n_171 (by decide) (by decide) e_v_178 rfl
        refine tot_oif (iv_aA h_T_176 k_n_177 (by decide) (by decide) rfl rfl) ?_
        refine tot_oif (by rw [iv_len h_T_176 k_n_177 (by decide) (by decide) (rfl : shp 65 = (100, 6))]; exact i_inb (by omega) (by omega)) ?_
        refine tot_let (fun T_179 e_T_179 => ?_)
        have h_T_179 : IV R B K1 K2 T_179 := by rw [e_T_179]; exact iv_uI (a := -2000) (b := 2000) h_T_176 k_n_177 (by decide) (by decide) rfl (by omega) (.inl rfl)
        have x_T_179 := x_T_176.tr (fw_uA e_T_179 k_n_177 rfl rfl (by decide))
        refine tot_oif (iv_oO h_T_179 k_l0 (by decide) (by decide) rfl) ?_
        refine tot_ref h_T_179 k_l0 (by decide) (by decide) (r2 := 65) (rfl : rtg 8 7 = 65) (by decide) (fun n_180 k_n_180 e_n_180 => ?_)
        refine tot_oif (iv_oO h_T_179 k_n_171 (by decide) (by decide) rfl) ?_
        refine tot_let (fun v_181 e_v_181 => ?_)
        have r_v_181 : -2000 ≤ v_181.toInt ∧ v_181.toInt ≤ 2000 := iv_int h_T_179 k_n_171 (by decide) (by decide) e_v_181 rfl
        refine tot_oif (iv_aA h_T_179 k_n_180 (by decide) (by decide) rfl rfl) ?_
        refine tot_oif (by rw [iv_len h_T_179 k_n_180 (by decide) (by decide) (rfl : shp 65 = (100, 6))]; exact i_inb (by omega) (by omega)) ?_
        refine tot_let (fun T_182 e_T_182 => ?_)
        have h_T_182 : IV R B K1 K2 T_182 := by rw [e_T_182]; exact iv_uI (a := -2000) (b := 2000) h_T_179 k_n_180 (by decide) (by decide) rfl (by omega) (.inl rfl)
        have x_T_182 := x_T_179.tr (fw_uA e_T_182 k_n_180 rfl rfl (by decide))
        refine tot_oif (iv_oO h_T_182 k_l0 (by decide) (by decide) rfl) ?_
        refine tot_ref h_T_182 k_l0 (by decide) (by decide) (r2 := 66) (rfl : rtg 8 8 = 66) (by decide) (fun n_183 k_n_183 e_n_183 => ?_)
        refine tot_oif (iv_oO h_T_182 k_n_171 (by decide) (by decide) rfl) ?_
        refine tot_let (fun v_184 e_v_184 => ?_)
        have r_v_184 : -999 ≤ v_184.toInt ∧ v_184.toInt ≤ 999 := iv_int h_T_182 k_n_171 (by decide) (by decide) e_v_184 rfl
        refine tot_oif (iv_aA h_T_182 k_n_183 (by decide) (by decide) rfl rfl) ?_
        refine tot_oif (by rw [iv_len h_T_182 k_n_183 (by decide) (by decide) (rfl : shp 66 = (100, 6))]; exact i_inb (by omega) (by omega)) ?_
        refine tot_let (fun T_185 e_T_185 => ?_)
        have h_T_185 : IV R B K1 K2 T_185 := by rw [e_T_185]; exact iv_uI (a := -999) (b := 999) h_T_182 k_n_183 (by decide) (by decide) rfl (by omega) (.inl rfl)
        have x_T_185 := x_T_182.tr (fw_uA e_T_185 k_n_183 rfl rfl (by decide))
        refine tot_oif (iv_oO h_T_185 k_l0 (by decide) (by decide) rfl) ?_
        refine tot_ref h_T_185 k_l0 (by decide) (by decide) (r2 := 66) (rfl : rtg 8 9 = 66) (by decide) (fun n_186 k_n_186 e_n_186 => ?_)
        refine tot_oif (iv_oO h_T_185 k_n_171 (by decide) (by decide) rfl) ?_
        refine tot_let (fun v_187 e_v_187 => ?_)
        have r_v_187 : -999 ≤ v_187.toInt ∧ v_187.toInt ≤ 999 := iv_int h_T_185 k_n_171 (by decide) (by decide) e_v_187 rfl
        refine tot_oif (iv_aA h_T_185 k_n_186 (by decide) (by decide) rfl rfl) ?_
        refine tot_oif (by rw [iv_len h_T_185 k_n_186 (by decide) (by decide) (rfl : shp 66 = (100, 6))]; exact i_inb (by omega) (by omega)) ?_
        refine tot_let (fun T_188 e_T_188 => ?_)
        have h_T_188 : IV R B K1 K2 T_188 := by rw [e_T_188]; exact iv_uI (a := -999) (b := 999) h_T_185 k_n_186 (by decide) (by decide) rfl (by omega) (.inl rfl)
        have x_T_188 := x_T_185.tr (fw_uA e_T_188 k_n_186 rfl rfl (by decide))
        refine tot_let (fun v_189 e_v_189 => ?_)
        have q_v_189 := i_add e_v_189 (by omega) (by omega)
        exact ih T_188 v_189 h_T_188 x_T_188 (by omega) (by omega)
      · replace c_175 := i_ne c_175
        unfold g_X8_begin_b93
        refine tot_oif (iv_aA h_T k_n_172 (by decide) (by decide) rfl rfl) ?_
        refine tot_oif (by rw [iv_len h_T k_n_172 (by decide) (by decide) (rfl : shp 64 = (102, 6))]; exact i_inb (by omega) (by omega)) ?_
        refine tot_oif (i_b01 (by omega)) ?_
        refine tot_let (fun T_190 e_T_190 => ?_)
        have h_T_190 : IV R B K1 K2 T_190 := by rw [e_T_190]; exact iv_uI (a := 0) (b := 1) h_T k_n_172 (by decide) (by decide) rfl (by omega) (.inl rfl)
        have x_T_190 := x_T.tr (fw_uA e_T_190 k_n_172 rfl rfl (by decide))
        refine tot_oif (iv_oO h_T_190 k_l0 (by decide) (by decide) rfl) ?_
        refine tot_ref h_T_190 k_l0 (by decide) (by decide) (r2 := 65) (rfl : rtg 8 6 = 65) (by decide) (fun n_191 k_n_191 e_n_191 => ?_)
        refine tot_oif (iv_oO h_T_190 k_n_171 (by decide) (by decide) rfl) ?_
        refine tot_let (fun v_192 e_v_192 => ?_)
        have r_v_192 : -2000 ≤ v_192.toInt ∧ v_192.toInt ≤ 2000 := iv_int h_T_190 k_n_171 (by decide) (by decide) e_v_192 rfl
        refine tot_oif (iv_aA h_T_190 k_n_191 (by decide) (by decide) rfl rfl) ?_
        refine tot_oif (by rw [iv_len h_T_190 k_n_191 (by decide) (by decide) (rfl : shp 65 = (100, 6))]; exact i_inb (by omega) (by omega)) ?_
        refine tot_let (fun T_193 e_T_193 => ?_)
        have h_T_193 : IV R B K1 K2 T_193 := by rw [e_T_193]; exact iv_uI (a := -2000) (b := 2000) h_T_190 k_n_191 (by decide) (by decide) rfl (by omega) (.inl rfl)
        have x_T_193 := x_T_190.tr (fw_uA e_T_193 k_n_191 rfl rfl (by decide))
        refine tot_oif (iv_oO h_T_193 k_l0 (by decide) (by decide) rfl) ?_
        refine tot_ref h_T_193 k_l0 (by decide) (by decide) (r2 := 65) (rfl : rtg 8 7 = 65) (by decide) (fun n_194 k_n_194 e_n_194 => ?_)
        refine tot_oif (iv_oO h_T_193 k_n_171 (by decide) (by decide) rfl) ?_
        refine tot_let (fun v_195 e_v_195 => ?_)
        have r_v_195 : -2000 ≤ v_195.toInt ∧ v_195.toInt ≤ 2000 := iv_int h_T_193 k_n_171 (by decide) (by decide) e_v_195 rfl
        refine tot_oif (iv_aA h_T_193 k_n_194 (by decide) (by decide) rfl rfl) ?_
        refine tot_oif (by rw [iv_len h_T_193 k_n_194 (by decide) (by decide) (rfl : shp 65 = (100, 6))]; exact i_inb (by omega) (by omega)) ?_
        refine tot_let (fun T_196 e_T_196 => ?_)
        have h_T_196 : IV R B K1 K2 T_196 := by rw [e_T_196]; exact iv_uI (a := -2000) (b := 2000) h_T_193 k_n_194 (by decide) (by decide) rfl (by omega) (.inl rfl)
        have x_T_196 := x_T_193.tr (fw_uA e_T_196 k_n_194 rfl rfl (by decide))
        refine tot_oif (iv_oO h_T_196 k_l0 (by decide) (by decide) rfl) ?_
        refine tot_ref h_T_196 k_l0 (by decide) (by decide) (r2 := 66) (rfl : rtg 8 8 = 66) (by decide) (fun n_197 k_n_197 e_n_197 => ?_)
        refine tot_oif (iv_oO h_T_196 k_n_171 (by decide) (by decide) rfl) ?_
        refine tot_let (fun v_198 e_v_198 => ?_)
        have r_v_198 : -999 ≤ v_198.toInt ∧ v_198.toInt ≤ 999 := iv_int h_T_196 k_n_171 (by decide) (by decide) e_v_198 rfl
        refine tot_oif (iv_aA h_T_196 k_n_197 (by decide) (by decide) rfl rfl) ?_
        refine tot_oif (by rw [iv_len h_T_196 k_n_197 (by decide) (by decide) (rfl : shp 66 = (100, 6))]; exact i_inb (by omega) (by omega)) ?_
        refine tot_let (fun T_199 e_T_199 => ?_)
        have h_T_199 : IV R B K1 K2 T_199 := by rw [e_T_199]; exact iv_uI (a := -999) (b := 999) h_T_196 k_n_197 (by decide) (by decide) rfl (by omega) (.inl rfl)
        have x_T_199 := x_T_196.tr (fw_uA e_T_199 k_n_197 rfl rfl (by decide))
        refine tot_oif (iv_oO h_T_199 k_l0 (by decide) (by decide) rfl) ?_
        refine tot_ref h_T_199 k_l0 (by decide) (by decide) (r2 := 66) (rfl : rtg 8 9 = 66) (by decide) (fun n_200 k_n_200 e_n_200 => ?_)
        refine tot_oif (iv_oO h_T_199 k_n_171 (by decide) (by decide) rfl) ?_
        refine tot_let (fun v_201 e_v_201 => ?_)
        have r_v_201 : -999 ≤ v_201.toInt ∧ v_201.toInt ≤ 999 := iv_int h_T_199 k_n_171 (by decide) (by decide) e_v_201 rfl
        refine tot_oif (iv_aA h_T_199 k_n_200 (by decide) (by decide) rfl rfl) ?_
        refine tot_oif (by rw [iv_len h_T_199 k_n_200 (by decide) (by decide) (rfl : shp 66 = (100, 6))]; exact i_inb (by omega) (by omega)) ?_
        refine tot_let (fun T_202 e_T_202 => ?_)
        have h_T_202 : IV R B K1 K2 T_202 := by rw [e_T_202]; exact iv_uI (a := -999) (b := 999) h_T_199 k_n_200 (by decide) (by decide) rfl (by omega) (.inl rfl)
        have x_T_202 := x_T_199.tr (fw_uA e_T_202 k_n_200 rfl rfl (by decide))
        refine tot_let (fun v_203 e_v_203 => ?_)
        have q_v_203 := i_add e_v_203 (by omega) (by omega)
        exact ih T_202 v_203 h_T_202 x_T_202 (by omega) (by omega)
set_option maxHeartbeats 4000000 in
set_option maxRecDepth 10000 in
theorem cs_X8_begin {R : Nat → Nat} {B K1 K2 : Nat} (T : AT) (o : Nat) (a0 : Nat) (h_T : IV R B K1 K2 T) (k_o : R o = 8) (k_a0 : R a0 = 6) : Tot (g_X8_begin T o a0) (fun T1 => IV R B K1 K2 T1 ∧ FW R [256, 257, 1984, 2016, 2048, 2080, 2112] T T1) := by
  have z0 : (0 : Int32).toInt = 0 := by decide
  have cc_101 : cnt 101 = 1 := rfl
  have cc_102 : cnt 102 = 12 := rfl
  have cc_103 : cnt 103 = 144 := rfl
  have cc_104 : cnt 104 = 2400 := rfl
  have cc_105 : cnt 105 = 7200 := rfl
  have x_T : FW R [256, 257, 1984, 2016, 2048, 2080, 2112] T T := FW.rf
  unfold g_X8_begin
  refine tot_oif (iv_oO h_T k_a0 (by decide) (by decide) rfl) ?_
  refine tot_let (fun v_1 e_v_1 => ?_)
  have r_v_1 : 0 ≤ v_1.toInt ∧ v_1.toInt ≤ 12 := iv_int h_T k_a0 (by decide) (by decide) e_v_1 rfl
  refine tot_oif (iv_oO h_T k_o (by decide) (by decide) rfl) ?_
  refine tot_let (fun T_2 e_T_2 => ?_)
  have h_T_2 : IV R B K1 K2 T_2 := by rw [e_T_2]; exact iv_uI (a := 0) (b := 12) h_T k_o (by decide) (by decide) rfl (by omega) (.inl rfl)
  have x_T_2 := x_T.tr (fw_uI e_T_2 k_o (by decide))
  refine tot_oif (iv_oO h_T_2 k_a0 (by decide) (by decide) rfl) ?_
  refine tot_let (fun v_3 e_v_3 => ?_)
  have r_v_3 : 0 ≤ v_3.toInt ∧ v_3.toInt ≤ 200 := iv_int h_T_2 k_a0 (by decide) (by decide) e_v_3 rfl
  refine tot_oif (iv_oO h_T_2 k_o (by decide) (by decide) rfl) ?_
  refine tot_let (fun T_4 e_T_4 => ?_)
  have h_T_4 : IV R B K1 K2 T_4 := by rw [e_T_4]; exact iv_uI (a := 0) (b := 200) h_T_2 k_o (by decide) (by decide) rfl (by omega) (.inl rfl)
  have x_T_4 := x_T_2.tr (fw_uI e_T_4 k_o (by decide))
  refine cl_X8_begin_b18 o a0 T k_o k_a0 ?_ 16384 T_4 0 h_T_4 x_T_4 (by omega) (by omega)
  · intro T_137 h_T_137 x_T_137
    refine cl_X8_begin_b63 o a0 T k_o k_a0 ?_ 16384 T_137 0 h_T_137 x_T_137 (by omega) (by omega)
    · intro T_204 h_T_204 x_T_204
      exact tot_some ⟨h_T_204, x_T_204⟩
set_option maxHeartbeats 4000000 in
set_option maxRecDepth 10000 in
theorem cl_X8_copyFrom_b26 {R : Nat → Nat} {B K1 K2 : Nat} {Q : AT → Prop} (l0 : Nat) (l1 : Nat) (T00 : AT) (k_l0 : R l0 = 8) (k_l1 : R l1 = 8) (hx0 : ∀ (T : AT), (IV R B K1 K2 T) → (FW R [256, 257, 258, 1984, 2016, 2048, 2080, 2112, 3202] T00 T) → Tot (g_X8_copyFrom_b64 16384 T l0 l1 0) Q) : ∀ (n : Nat) (T : AT) (l2 : Int32), (IV R B K1 K2 T) → (FW R [256, 257, 258, 1984, 2016, 2048, 2080, 2112, 3202] T00 T) → (0 ≤ l2.toInt ∧ l2.toInt ≤ 12) → 12 - l2.toInt < (n : Int) → Tot (g_X8_copyFrom_b26 n T l0 l1 l2) Q := by
  have z0 : (12 : Int32).toInt = 12 := by decide
  have z1 : (Int32.ofInt (1) : Int32).toInt = 1 := by decide
  have cc_101 : cnt 101 = 1 := rfl
  have cc_102 : cnt 102 = 12 := rfl
  have cc_103 : cnt 103 = 144 := rfl
  have cc_104 : cnt 104 = 2400 := rfl
  have cc_105 : cnt 105 = 7200 := rfl
  intro n
  induction n with
  | zero =>
    intro T l2 h_T x_T g_l2 hm
    exfalso
    omega
  | succ n ih =>
    intro T l2 h_T x_T g_l2 hm
    unfold g_X8_copyFrom_b26
    refine tot_if (fun c_110 => ?_) (fun c_110 => ?_)
    · replace c_110 := i_le c_110
      exact hx0 T h_T x_T
    · replace c_110 := i_nle c_110
      refine tot_oif (iv_oO h_T k_l0 (by decide) (by decide) rfl) ?_
      refine tot_ref h_T k_l0 (by decide) (by decide) (r2 := 62) (rfl : rtg 8 3 = 62) (by decide) (fun n_101 k_n_101 e_n_101 => ?_)
      refine tot_oif (iv_oO h_T k_l1 (by decide) (by decide) rfl) ?_
      refine tot_ref h_T k_l1 (by decide) (by decide) (r2 := 62) (rfl : rtg 8 3 = 62) (by decide) (fun n_102 k_n_102 e_n_102 => ?_)
      refine tot_oif (iv_aA h_T k_n_102 (by decide) (by decide) rfl rfl) ?_
      refine tot_oif (by rw [iv_len h_T k_n_102 (by decide) (by decide) (rfl : shp 62 = (102, 12))]; exact i_inb (by omega) (by omega)) ?_
      refine tot_let (fun v_103 e_v_103 => ?_)
      have r_v_103 : 0 ≤ v_103.toInt ∧ v_103.toInt ≤ 1 := iv_int h_T k_n_102 (by decide) (by decide) e_v_103 rfl
      refine tot_oif (iv_aA h_T k_n_101 (by decide) (by decide) rfl rfl) ?_
      refine tot_oif (by rw [iv_len h_T k_n_101 (by decide) (by decide) (rfl : shp 62 = (102, 12))]; exact i_inb (by omega) (by omega)) ?_
      refine tot_oif (i_b01 (by omega)) ?_
      refine tot_let (fun T_104 e_T_104 => ?_)
      have h_T_104 : IV R B K1 K2 T_104 := by rw [e_T_104]; exact iv_uI (a := 0) (b := 1) h_T k_n_101 (by decide) (by decide) rfl (by omega) (.inl rfl)
      have x_T_104 := x_T.tr (fw_uA e_T_104 k_n_101 rfl rfl (by decide))
      refine tot_oif (iv_oO h_T_104 k_l0 (by decide) (by decide) rfl) ?_
      refine tot_ref h_T_104 k_l0 (by decide) (by decide) (r2 := 63) (rfl : rtg 8 4 = 63) (by decide) (fun n_105 k_n_105 e_n_105 => ?_)
      refine tot_oif (iv_oO h_T_104 k_l1 (by decide) (by decide) rfl) ?_
      refine tot_ref h_T_104 k_l1 (by decide) (by decide) (r2 := 63) (rfl : rtg 8 4 = 63) (by decide) (fun n_106 k_n_106 e_n_106 => ?_)
      refine tot_oif (iv_aA h_T_104 k_n_106 (by decide) (by decide) rfl rfl) ?_
      refine tot_oif (by rw [iv_len h_T_104 k_n_106 (by decide) (by decide) (rfl : shp 63 = (100, 12))]; exact i_inb (by omega) (by omega)) ?_
      refine tot_let (fun v_107 e_v_107 => ?_)
      have r_v_107 : 0 ≤ v_107.toInt ∧ v_107.toInt ≤ 9 := iv_int h_T_104 k_n_106 (by decide) (by decide) e_v_107 rfl
      refine tot_oif (iv_aA h_T_104 k_n_105 (by decide) (by decide) rfl rfl) ?_
      refine tot_oif (by rw [iv_len h_T_104 k_n_105 (by decide) (by decide) (rfl : shp 63 = (100, 12))]; exact i_inb (by omega) (by omega)) ?_
      refine tot_let (fun T_108 e_T_108 => ?_)
      have h_T_108 : IV R B K1 K2 T_108 := by rw [e_T_108]; exact iv_uI (a := 0) (b := 9) h_T_104 k_n_105 (by decide) (by decide) rfl (by omega) (.inl rfl)
      have x_T_108 := x_T_104.tr (fw_uA e_T_108 k_n_105 rfl rfl (by decide))
      refine tot_let (fun v_109 e_v_109 => ?_)
      have q_v_109 := i_add e_v_109 (by omega) (by omega)
      exact ih T_108 v_109 h_T_108 x_T_108 (by omega) (by omega)
set_option maxHeartbeats 4000000 in
set_option maxRecDepth 10000 in
theorem cl_X8_copyFrom_b64 {R : Nat → Nat} {B K1 K2 : Nat} {Q : AT → Prop} (l0 : Nat) (l1 : Nat) (T00 : AT) (k_l0 : R l0 = 8) (k_l1 : R l1 = 8) (hx0 : ∀ (T : AT), (IV R B K1 K2 T) → (FW R [256, 257, 258, 1984, 2016, 2048, 2080, 2112, 3202] T00 T) → Tot (oif (oO T l0 8 = true) <| obind (T.2.2.2.2 l0 10) fun n_136 => oif (oO T l1 8 = true) <| obind (T.2.2.2.2 l1 10) fun n_137 => oif (oO T n_136 10 = true) <| obind (g_X10_copyFrom T n_136 n_137) fun T_138 => g_X8_copyFrom_b147 T_138) Q) : ∀ (n : Nat) (T : AT) (l2 : Int32), (IV R B K1 K2 T) → (FW R [256, 257, 258, 1984, 2016, 2048, 2080, 2112, 3202] T00 T) → (0 ≤ l2.toInt ∧ l2.toInt ≤ 6) → 6 - l2.toInt < (n : Int) → Tot (g_X8_copyFrom_b64 n T l0 l1 l2) Q := by
  have z0 : (6 : Int32).toInt = 6 := by decide
  have z1 : (Int32.ofInt (1) : Int32).toInt = 1 := by decide
  have cc_101 : cnt 101 = 1 := rfl
  have cc_102 : cnt 102 = 12 := rfl
  have cc_103 : cnt 103 = 144 := rfl
  have cc_104 : cnt 104 = 2400 := rfl
  have cc_105 : cnt 105 = 7200 := rfl
  intro n
  induction n with
  | zero =>
    intro T l2 h_T x_T g_l2 hm
    exfalso
    omega
  | succ n ih =>
    intro T l2 h_T x_T g_l2 hm
    unfold g_X8_copyFrom_b64
    refine tot_if (fun c_160 => ?_) (fun c_160 => ?_)
    · replace c_160 := i_le c_160
      exact hx0 T h_T x_T
    · replace c_160 := i_nle c_160
      refine tot_oif (iv_oO h_T k_l0 (by decide) (by decide) rfl) ?_
      refine tot_ref h_T k_l0 (by decide) (by decide) (r2 := 64) (rfl : rtg 8 5 = 64) (by decide) (fun n_139 k_n_139 e_n_139 => ?_)
      refine tot_oif (iv_oO h_T k_l1 (by decide) (by decide) rfl) ?_
      refine tot_ref h_T k_l1 (by decide) (by decide) (r2 := 64) (rfl : rtg 8 5 = 64) (by decide) (fun n_140 k_n_140 e_n_140 => ?_)
      refine tot_oif (iv_aA h_T k_n_140 (by decide) (by decide) rfl rfl) ?_
      refine tot_oif (by rw [iv_len h_T k_n_140 (by decide) (by decide) (rfl : shp 64 = (102, 6))]; exact i_inb (by omega) (by omega)) ?_
      refine tot_let (fun v_141 e_v_141 => ?_)
      have r_v_141 : 0 ≤ v_141.toInt ∧ v_141.toInt ≤ 1 := iv_int h_T k_n_140 (by decide) (by decide) e_v_141 rfl
      refine tot_oif (iv_aA h_T k_n_139 (by decide) (by decide) rfl rfl) ?_
      refine tot_oif (by rw [iv_len h_T k_n_139 (by decide) (by decide) (rfl : shp 64 = (102, 6))]; exact i_inb (by omega) (by omega)) ?_
      refine tot_oif (i_b01 (by omega)) ?_
      refine tot_let (fun T_142 e_T_142 => ?_)
      have h_T_142 : IV R B K1 K2 T_142 := by rw [e_T_142]; exact iv_uI (a := 0) (b := 1) h_T k_n_139 (by decide) (by decide) rfl (by omega) (.inl rfl)
      have x_T_142 := x_T.tr (fw_uA e_T_142 k_n_139 rfl rfl (by decide))
      refine tot_oif (iv_oO h_T_142 k_l0 (by decide) (by decide) rfl) ?_
      refine tot_ref h_T_142 k_l0 (by decide) (by decide) (r2 := 65) (rfl : rtg 8 6 = 65) (by decide) (fun n_143 k_n_143 e_n_143 => ?_)
      refine tot_oif (iv_oO h_T_142 k_l1 (by decide) (by decide) rfl) ?_
      refine tot_ref h_T_142 k_l1 (by decide) (by decide) (r2 := 65) (rfl : rtg 8 6 = 65) (by decide) (fun n_144 k_n_144 e_n_144 => ?_)
      refine tot_oif (iv_aA h_T_142 k_n_144 (by decide) (by decide) rfl rfl) ?_
      refine tot_oif (by rw [iv_len h_T_142 k_n_144 (by decide) (by decide) (rfl : shp 65 = (100, 6))]; exact i_inb (by omega) (by omega)) ?_
      refine tot_let (fun v_145 e_v_145 => ?_)
      have r_v_145 : -2000 ≤ v_145.toInt ∧ v_145.toInt ≤ 2000 := iv_int h_T_142 k_n_144 (by decide) (by decide) e_v_145 rfl
      refine tot_oif (iv_aA h_T_142 k_n_143 (by decide) (by decide) rfl rfl) ?_
      refine tot_oif (by rw [iv_len h_T_142 k_n_143 (by decide) (by decide) (rfl : shp 65 = (100, 6))]; exact i_inb (by omega) (by omega)) ?_
      refine tot_let (fun T_146 e_T_146 => ?_)
      have h_T_146 : IV R B K1 K2 T_146 := by rw [e_T_146]; exact iv_uI (a := -2000) (b := 2000) h_T_142 k_n_143 (by decide) (by decide) rfl (by omega) (.inl rfl)
      have x_T_146 := x_T_142.tr (fw_uA e_T_146 k_n_143 rfl rfl (by decide))
      refine tot_oif (iv_oO h_T_146 k_l0 (by decide) (by decide) rfl) ?_
      refine tot_ref h_T_146 k_l0 (by decide) (by decide) (r2 := 65) (rfl : rtg 8 7 = 65) (by decide) (fun n_147 k_n_147 e_n_147 => ?_)
      refine tot_oif (iv_oO h_T_146 k_l1 (by decide) (by decide) rfl) ?_
      refine tot_ref h_T_146 k_l1 (by decide) (by decide) (r2 := 65) (rfl : rtg 8 7 = 65) (by decide) (fun n_148 k_n_148 e_n_148 => ?_)
      refine tot_oif (iv_aA h_T_146 k_n_148 (by decide) (by decide) rfl rfl) ?_
      refine tot_oif (by rw [iv_len h_T_146 k_n_148 (by decide) (by decide) (rfl : shp 65 = (100, 6))]; exact i_inb (by omega) (by omega)) ?_
      refine tot_let (fun v_149 e_v_149 => ?_)
      have r_v_149 : -2000 ≤ v_149.toInt ∧ v_149.toInt ≤ 2000 := iv_int h_T_146 k_n_148 (by decide) (by decide) e_v_149 rfl
      refine tot_oif (iv_aA h_T_146 k_n_147 (by decide) (by decide) rfl rfl) ?_
      refine tot_oif (by rw [iv_len h_T_146 k_n_147 (by decide) (by decide) (rfl : shp 65 = (100, 6))]; exact i_inb (by omega) (by omega)) ?_
      refine tot_let (fun T_150 e_T_150 => ?_)
      have h_T_150 : IV R B K1 K2 T_150 := by rw [e_T_150]; exact iv_uI (a := -2000) (b := 2000) h_T_146 k_n_147 (by decide) (by decide) rfl (by omega) (.inl rfl)
      have x_T_150 := x_T_146.tr (fw_uA e_T_150 k_n_147 rfl rfl (by decide))
      refine tot_oif (iv_oO h_T_150 k_l0 (by decide) (by decide) rfl) ?_
      refine tot_ref h_T_150 k_l0 (by decide) (by decide) (r2 := 66) (rfl : rtg 8 8 = 66) (by decide) (fun n_151 k_n_151 e_n_151 => ?_)
      refine tot_oif (iv_oO h_T_150 k_l1 (by decide) (by decide) rfl) ?_
      refine tot_ref h_T_150 k_l1 (by decide) (by decide) (r2 := 66) (rfl : rtg 8 8 = 66) (by decide) (fun n_152 k_n_152 e_n_152 => ?_)
      refine tot_oif (iv_aA h_T_150 k_n_152 (by decide) (by decide) rfl rfl) ?_
      refine tot_oif (by rw [iv_len h_T_150 k_n_152 (by decide) (by decide) (rfl : shp 66 = (100, 6))]; exact i_inb (by omega) (by omega)) ?_
      refine tot_let (fun v_153 e_v_153 => ?_)
      have r_v_153 : -999 ≤ v_153.toInt ∧ v_153.toInt ≤ 999 := iv_int h_T_150 k_n_152 (by decide) (by decide) e_v_153 rfl
      refine tot_oif (iv_aA h_T_150 k_n_151 (by decide) (by decide) rfl rfl) ?_
      refine tot_oif (by rw [iv_len h_T_150 k_n_151 (by decide) (by decide) (rfl : shp 66 = (100, 6))]; exact i_inb (by omega) (by omega)) ?_
      refine tot_let (fun T_154 e_T_154 => ?_)
      have h_T_154 : IV R B K1 K2 T_154 := by rw [e_T_154]; exact iv_uI (a := -999) (b := 999) h_T_150 k_n_151 (by decide) (by decide) rfl (by omega) (.inl rfl)
      have x_T_154 := x_T_150.tr (fw_uA e_T_154 k_n_151 rfl rfl (by decide))
      refine tot_oif (iv_oO h_T_154 k_l0 (by decide) (by decide) rfl) ?_
      refine tot_ref h_T_154 k_l0 (by decide) (by decide) (r2 := 66) (rfl : rtg 8 9 = 66) (by decide) (fun n_155 k_n_155 e_n_155 => ?_)
      refine tot_oif (iv_oO h_T_154 k_l1 (by decide) (by decide) rfl) ?_
      refine tot_ref h_T_154 k_l1 (by decide) (by decide) (r2 := 66) (rfl : rtg 8 9 = 66) (by decide) (fun n_156 k_n_156 e_n_156 => ?_)
      refine tot_oif (iv_aA h_T_154 k_n_156 (by decide) (by decide) rfl rfl) ?_
      refine tot_oif (by rw [iv_len h_T_154 k_n_156 (by decide) (by decide) (rfl : shp 66 = (100, 6))]; exact i_inb (by omega) (by omega)) ?_
      refine tot_let (fun v_157 e_v_157 => ?_)
      have r_v_157 : -999 ≤ v_157.toInt ∧ v_157.toInt ≤ 999 := iv_int h_T_154 k_n_156 (by decide) (by decide) e_v_157 rfl
      refine tot_oif (iv_aA h_T_154 k_n_155 (by decide) (by decide) rfl rfl) ?_
      refine tot_oif (by rw [iv_len h_T_154 k_n_155 (by decide) (by decide) (rfl : shp 66 = (100, 6))]; exact i_inb (by omega) (by omega)) ?_
      refine tot_let (fun T_158 e_T_158 => ?_)
      have h_T_158 : IV R B K1 K2 T_158 := by rw [e_T_158]; exact iv_uI (a := -999) (b := 999) h_T_154 k_n_155 (by decide) (by decide) rfl (by omega) (.inl rfl)
      have x_T_158 := x_T_154.tr (fw_uA e_T_158 k_n_155 rfl rfl (by decide))
      refine tot_let (fun v_159 e_v_159 => ?_)
      have q_v_159 := i_add e_v_159 (by omega) (by omega)
      exact ih T_158 v_159 h_T_158 x_T_158 (by omega) (by omega)
set_option maxHeartbeats 4000000 in
set_option maxRecDepth 10000 in
theorem cs_X8_copyFrom {R : Nat → Nat} {B K1 K2 : Nat} (T : AT) (o : Nat) (a0 : Nat) (h_T : IV R B K1 K2 T) (k_o : R o = 8) (k_a0 : R a0 = 8) : Tot (g_X8_copyFrom T o a0) (fun T1 => IV R B K1 K2 T1 ∧ FW R [256, 257, 258, 1984, 2016, 2048, 2080, 2112, 3202] T T1) := by
  have z0 : (0 : Int32).toInt = 0 := by decide
  have cc_101 : cnt 101 = 1 := rfl
  have cc_102 : cnt 102 = 12 := rfl
  have cc_103 : cnt 103 = 144 := rfl
  have cc_104 : cnt 104 = 2400 := rfl
  have cc_105 : cnt 105 = 7200 := rfl
  have x_T : FW R [256, 257, 258, 1984, 2016, 2048, 2080, 2112, 3202] T T := FW.rf
  unfold g_X8_copyFrom
  refine tot_oif (iv_oO h_T k_a0 (by decide) (by decide) rfl) ?_
  refine tot_let (fun v_1 e_v_1 => ?_)
  have r_v_1 : 0 ≤ v_1.toInt ∧ v_1.toInt ≤ 12 := iv_int h_T k_a0 (by decide) (by decide) e_v_1 rfl
  refine tot_oif (iv_oO h_T k_o (by decide) (by decide) rfl) ?_
  refine tot_let (fun T_2 e_T_2 => ?_)
  have h_T_2 : IV R B K1 K2 T_2 := by rw [e_T_2]; exact iv_uI (a := 0) (b := 12) h_T k_o (by decide) (by decide) rfl (by omega) (.inl rfl)
  have x_T_2 := x_T.tr (fw_uI e_T_2 k_o (by decide))
  refine tot_oif (iv_oO h_T_2 k_a0 (by decide) (by decide) rfl) ?_
  refine tot_let (fun v_3 e_v_3 => ?_)
  have r_v_3 : 0 ≤ v_3.toInt ∧ v_3.toInt ≤ 200 := iv_int h_T_2 k_a0 (by decide) (by decide) e_v_3 rfl
  refine tot_oif (iv_oO h_T_2 k_o (by decide) (by decide) rfl) ?_
  refine tot_let (fun T_4 e_T_4 => ?_)
  have h_T_4 : IV R B K1 K2 T_4 := by rw [e_T_4]; exact iv_uI (a := 0) (b := 200) h_T_2 k_o (by decide) (by decide) rfl (by omega) (.inl rfl)
  have x_T_4 := x_T_2.tr (fw_uI e_T_4 k_o (by decide))
  refine tot_oif (iv_oO h_T_4 k_a0 (by decide) (by decide) rfl) ?_
  refine tot_let (fun v_5 e_v_5 => ?_)
  have r_v_5 := i_any v_5
  refine tot_oif (iv_oO h_T_4 k_o (by decide) (by decide) rfl) ?_
  refine tot_let (fun T_6 e_T_6 => ?_)
  have ja_T_6 := i_any v_5
  have h_T_6 : IV R B K1 K2 T_6 := by rw [e_T_6]; exact iv_uI (a := -2147483648) (b := 2147483647) h_T_4 k_o (by decide) (by decide) rfl (by omega) (.inl rfl)
  have x_T_6 := x_T_4.tr (fw_uI e_T_6 k_o (by decide))
  refine cl_X8_copyFrom_b26 o a0 T k_o k_a0 ?_ 16384 T_6 0 h_T_6 x_T_6 (by omega) (by omega)
  · intro T_111 h_T_111 x_T_111
    refine cl_X8_copyFrom_b64 o a0 T k_o k_a0 ?_ 16384 T_111 0 h_T_111 x_T_111 (by omega) (by omega)
    · intro T_161 h_T_161 x_T_161
      refine tot_oif (iv_oO h_T_161 k_o (by decide) (by decide) rfl) ?_
      refine tot_ref h_T_161 k_o (by decide) (by decide) (r2 := 104) (rfl : rtg 8 10 = 104) (by decide) (fun n_162 k_n_162 e_n_162 => ?_)
      refine tot_oif (iv_oO h_T_161 k_a0 (by decide) (by decide) rfl) ?_
      refine tot_ref h_T_161 k_a0 (by decide) (by decide) (r2 := 104) (rfl : rtg 8 10 = 104) (by decide) (fun n_163 k_n_163 e_n_163 => ?_)
      refine tot_oif (w_oO h_T_161 k_n_162 (rfl : isW 104 = true)) ?_
      refine tot_bind (c_copyFrom k_n_162 (rfl : isW 104 = true) k_n_163 (rfl : isW 104 = true) h_T_161) (fun T_164 d_T_164 => ?_)
      have h_T_164 : IV R B K1 K2 T_164 := d_T_164.1
      have y_T_164 : FW R [3202] T_161 T_164 := (fw_wy d_T_164.2 k_n_162 (rfl : isW 104 = true) (by decide))
      have x_T_164 := x_T_161.tr (y_T_164.w (by decide))
      unfold g_X8_copyFrom_b147
      exact tot_some ⟨h_T_164, x_T_164⟩
set_option maxHeartbeats 4000000 in
set_option maxRecDepth 10000 in
theorem cl_X8_activeMics_b4 {R : Nat → Nat} {B K1 K2 : Nat} {Q : Int32 × AT → Prop} (T : AT) (l0 : Nat) (h_T : IV R B K1 K2 T) (k_l0 : R l0 = 8) (hx0 : ∀ (l1 : Int32), Tot (some (l1, T)) Q) : ∀ (n : Nat) (l1 : Int32) (l2 : Int32), (0 ≤ l2.toInt ∧ l2.toInt ≤ 12) → 12 - l2.toInt < (n : Int) → Tot (g_X8_activeMics_b4 n T l0 l1 l2) Q := by
  have z0 : (0 : Int32).toInt = 0 := by decide
  have z1 : (1 : Int32).toInt = 1 := by decide
  have z2 : (Int32.ofInt (1) : Int32).toInt = 1 := by decide
  have cc_101 : cnt 101 = 1 := rfl
  have cc_102 : cnt 102 = 12 := rfl
  have cc_103 : cnt 103 = 144 := rfl
  have cc_104 : cnt 104 = 2400 := rfl
  have cc_105 : cnt 105 = 7200 := rfl
  intro n
  induction n with
  | zero =>
    intro l1 l2 g_l2 hm
    exfalso
    omega
  | succ n ih =>
    intro l1 l2 g_l2 hm
    unfold g_X8_activeMics_b4
    refine tot_oif (iv_oO h_T k_l0 (by decide) (by decide) rfl) ?_
    refine tot_let (fun v_15 e_v_15 => ?_)
    have r_v_15 : 0 ≤ v_15.toInt ∧ v_15.toInt ≤ 12 := iv_int h_T k_l0 (by decide) (by decide) e_v_15 rfl
    refine tot_if (fun c_18 => ?_) (fun c_18 => ?_)
    · replace c_18 := i_le c_18
      exact hx0 l1 
    · replace c_18 := i_nle c_18
      refine tot_oif (iv_oO h_T k_l0 (by decide) (by decide) rfl) ?_
      refine tot_ref h_T k_l0 (by decide) (by decide) (r2 := 62) (rfl : rtg 8 3 = 62) (by decide) (fun n_16 k_n_16 e_n_16 => ?_)
      refine tot_oif (iv_aA h_T k_n_16 (by decide) (by decide) rfl rfl) ?_
      refine tot_oif (by rw [iv_len h_T k_n_16 (by decide) (by decide) (rfl : shp 62 = (102, 12))]; exact i_inb (by omega) (by omega)) ?_
      refine tot_let (fun v_17 e_v_17 => ?_)
      have r_v_17 : 0 ≤ v_17.toInt ∧ v_17.toInt ≤ 1 := iv_int h_T k_n_16 (by decide) (by decide) e_v_17 rfl
      refine tot_if (fun c_19 => ?_) (fun c_19 => ?_)
      · replace c_19 := i_eq c_19
        unfold g_X8_activeMics_b27
        refine tot_let (fun v_20 e_v_20 => ?_)
        have r_v_20 := i_any v_20
        refine tot_let (fun v_21 e_v_21 => ?_)
        have q_v_21 := i_add e_v_21 (by omega) (by omega)
        exact ih v_20 v_21 (by omega) (by omega)
      · replace c_19 := i_ne c_19
        unfold g_X8_activeMics_b27
        refine tot_let (fun v_22 e_v_22 => ?_)
        have r_v_22 := i_any v_22
        refine tot_let (fun v_23 e_v_23 => ?_)
        have q_v_23 := i_add e_v_23 (by omega) (by omega)
        exact ih v_22 v_23 (by omega) (by omega)
set_option maxHeartbeats 4000000 in
set_option maxRecDepth 10000 in
theorem cs_X8_activeMics {R : Nat → Nat} {B K1 K2 : Nat} (T : AT) (o : Nat) (h_T : IV R B K1 K2 T) (k_o : R o = 8) : Tot (g_X8_activeMics T o) (fun r => r.2 = T ∧ True) := by
  have z0 : (0 : Int32).toInt = 0 := by decide
  have cc_101 : cnt 101 = 1 := rfl
  have cc_102 : cnt 102 = 12 := rfl
  have cc_103 : cnt 103 = 144 := rfl
  have cc_104 : cnt 104 = 2400 := rfl
  have cc_105 : cnt 105 = 7200 := rfl
  unfold g_X8_activeMics
  refine cl_X8_activeMics_b4 T o h_T k_o ?_ 16384 0 0 (by omega) (by omega)
  · intro l_24
    have j_l_24 := i_any l_24
    exact tot_some ⟨rfl, trivial⟩
