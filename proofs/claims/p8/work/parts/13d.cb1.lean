set_option maxHeartbeats 4000000 in
set_option maxRecDepth 10000 in
theorem cl_X9_cut_b9 {R : Nat → Nat} {B K1 K2 : Nat} {Q : AT → Prop} (l0 : Nat) (l1 : Int32) (T00 : AT) (k_l0 : R l0 = 9) (g0 : 0 ≤ l1.toInt ∧ l1.toInt ≤ 1000) (hx0 : ∀ (T : AT), (IV R B K1 K2 T) → (FW R [293, 1344, 1376, 1408] T00 T) → Tot (g_X9_cut_b32 T l0 l1) Q) : ∀ (n : Nat) (T : AT) (l2 : Int32) (l3 : Int32), (IV R B K1 K2 T) → (FW R [293, 1344, 1376, 1408] T00 T) → (0 ≤ l2.toInt ∧ l2.toInt ≤ 1000) → (0 ≤ l3.toInt ∧ l3.toInt ≤ 1000) → 1000 - l3.toInt < (n : Int) → Tot (g_X9_cut_b9 n T l0 l1 l2 l3) Q := by
  have z0 : (Int32.ofInt (1) : Int32).toInt = 1 := by decide
  have cc_101 : cnt 101 = 1 := rfl
  have cc_102 : cnt 102 = 12 := rfl
  have cc_103 : cnt 103 = 144 := rfl
  have cc_104 : cnt 104 = 2400 := rfl
  have cc_105 : cnt 105 = 7200 := rfl
  have j_l1 := i_any l1
  intro n
  induction n with
  | zero =>
    intro T l2 l3 h_T x_T g_l2 g_l3 hm
    exfalso
    omega
  | succ n ih =>
    intro T l2 l3 h_T x_T g_l2 g_l3 hm
    unfold g_X9_cut_b9
    refine tot_if (fun c_15 => ?_) (fun c_15 => ?_)
    · replace c_15 := i_le c_15
      exact hx0 T h_T x_T
    · replace c_15 := i_nle c_15
      refine tot_if (fun c_16 => ?_) (fun c_16 => ?_)
      · replace c_16 := i_le c_16
        exact hx0 T h_T x_T
      · replace c_16 := i_nle c_16
        refine tot_oif (iv_oO h_T k_l0 (by decide) (by decide) rfl) ?_
        refine tot_bind2 (cs_X9_cutOne T l0 l1 l2 h_T k_l0 (by omega) (by omega)) (fun r_12 T_13 d_r_12 => ?_)
        have h_T_13 : IV R B K1 K2 T_13 := d_r_12.1.1
        have y_T_13 : FW R [293, 1344, 1376, 1408] T T_13 := d_r_12.1.2
        have x_T_13 := x_T.tr (y_T_13.w (by decide))
        replace d_r_12 : (0 ≤ r_12.toInt ∧ r_12.toInt ≤ 1000) := d_r_12.2
        refine tot_let (fun v_14 e_v_14 => ?_)
        have q_v_14 := i_add e_v_14 (by omega) (by omega)
        exact ih T_13 r_12 v_14 h_T_13 x_T_13 (by omega) (by omega) (by omega)
set_option maxHeartbeats 4000000 in
set_option maxRecDepth 10000 in
theorem cs_X9_cut {R : Nat → Nat} {B K1 K2 : Nat} (T : AT) (o : Nat) (a0 : Int32) (h_T : IV R B K1 K2 T) (k_o : R o = 9) (g0 : 0 ≤ a0.toInt ∧ a0.toInt ≤ 1000) : Tot (g_X9_cut T o a0) (fun T1 => IV R B K1 K2 T1 ∧ FW R [293, 1344, 1376, 1408] T T1) := by
  have z0 : (0 : Int32).toInt = 0 := by decide
  have z1 : ((5 : Int32) : Int32).toInt = 5 := by decide
  have cc_101 : cnt 101 = 1 := rfl
  have cc_102 : cnt 102 = 12 := rfl
  have cc_103 : cnt 103 = 144 := rfl
  have cc_104 : cnt 104 = 2400 := rfl
  have cc_105 : cnt 105 = 7200 := rfl
  have x_T : FW R [293, 1344, 1376, 1408] T T := FW.rf
  have j_a0 := i_any a0
  unfold g_X9_cut
  refine tot_oif (iv_oO h_T k_o (by decide) (by decide) rfl) ?_
  refine tot_let (fun T_1 e_T_1 => ?_)
  have h_T_1 : IV R B K1 K2 T_1 := by rw [e_T_1]; exact iv_uI (a := 0) (b := 1001) h_T k_o (by decide) (by decide) rfl (by omega) (.inl rfl)
  have x_T_1 := x_T.tr (fw_uI e_T_1 k_o (by decide))
  refine cl_X9_cut_b9 o a0 T k_o (by omega) ?_ 16384 T_1 0 0 h_T_1 x_T_1 (by omega) (by omega) (by omega)
  · intro T_17 h_T_17 x_T_17
    unfold g_X9_cut_b32
    refine tot_oif (iv_oO h_T_17 k_o (by decide) (by decide) rfl) ?_
    refine tot_bind (cs_X9_add T_17 o (5 : Int32) a0 a0 h_T_17 k_o (by omega) (by omega) (by omega)) (fun T_18 d_T_18 => ?_)
    have h_T_18 : IV R B K1 K2 T_18 := d_T_18.1
    have y_T_18 : FW R [293, 1344, 1376, 1408] T_17 T_18 := d_T_18.2
    have x_T_18 := x_T_17.tr (y_T_18.w (by decide))
    exact tot_some ⟨h_T_18, x_T_18⟩
set_option maxHeartbeats 4000000 in
set_option maxRecDepth 10000 in
theorem cs_X6_clear {R : Nat → Nat} {B K1 K2 : Nat} (T : AT) (o : Nat) (h_T : IV R B K1 K2 T) (k_o : R o = 6) : Tot (g_X6_clear T o) (fun T1 => IV R B K1 K2 T1 ∧ FW R [35, 36, 39, 197, 200, 203, 204, 206, 208] T T1) := by
  have z0 : (0 : Int32).toInt = 0 := by decide
  have cc_101 : cnt 101 = 1 := rfl
  have cc_102 : cnt 102 = 12 := rfl
  have cc_103 : cnt 103 = 144 := rfl
  have cc_104 : cnt 104 = 2400 := rfl
  have cc_105 : cnt 105 = 7200 := rfl
  have x_T : FW R [35, 36, 39, 197, 200, 203, 204, 206, 208] T T := FW.rf
  unfold g_X6_clear
  refine tot_oif (iv_oO h_T k_o (by decide) (by decide) rfl) ?_
  refine tot_ref h_T k_o (by decide) (by decide) (r2 := 1) (rfl : rtg 6 6 = 1) (by decide) (fun n_1 k_n_1 e_n_1 => ?_)
  refine tot_oif (iv_oO h_T k_n_1 (by decide) (by decide) rfl) ?_
  refine tot_bind (cs_X1_clear T n_1 h_T k_n_1 ) (fun T_2 d_T_2 => ?_)
  have h_T_2 : IV R B K1 K2 T_2 := d_T_2.1
  have y_T_2 : FW R [35, 36, 39] T T_2 := d_T_2.2
  have x_T_2 := x_T.tr (y_T_2.w (by decide))
  refine tot_oif (iv_oO h_T_2 k_o (by decide) (by decide) rfl) ?_
  refine tot_let (fun T_3 e_T_3 => ?_)
  have h_T_3 : IV R B K1 K2 T_3 := by rw [e_T_3]; exact iv_uI (a := 0) (b := 12) h_T_2 k_o (by decide) (by decide) rfl (by omega) (.inl rfl)
  have x_T_3 := x_T_2.tr (fw_uI e_T_3 k_o (by decide))
  refine tot_oif (iv_oO h_T_3 k_o (by decide) (by decide) rfl) ?_
  refine tot_let (fun T_4 e_T_4 => ?_)
  have h_T_4 : IV R B K1 K2 T_4 := by rw [e_T_4]; exact iv_uI (a := 0) (b := 6) h_T_3 k_o (by decide) (by decide) rfl (by omega) (.inl rfl)
  have x_T_4 := x_T_3.tr (fw_uI e_T_4 k_o (by decide))
  refine tot_oif (iv_oO h_T_4 k_o (by decide) (by decide) rfl) ?_
  refine tot_let (fun T_5 e_T_5 => ?_)
  have h_T_5 : IV R B K1 K2 T_5 := by rw [e_T_5]; exact iv_uI (a := 0) (b := 2) h_T_4 k_o (by decide) (by decide) rfl (by omega) (.inl rfl)
  have x_T_5 := x_T_4.tr (fw_uI e_T_5 k_o (by decide))
  refine tot_oif (iv_oO h_T_5 k_o (by decide) (by decide) rfl) ?_
  refine tot_let (fun T_6 e_T_6 => ?_)
  have h_T_6 : IV R B K1 K2 T_6 := by rw [e_T_6]; exact iv_uI (a := 0) (b := 999) h_T_5 k_o (by decide) (by decide) rfl (by omega) (.inl rfl)
  have x_T_6 := x_T_5.tr (fw_uI e_T_6 k_o (by decide))
  refine tot_oif (iv_oO h_T_6 k_o (by decide) (by decide) rfl) ?_
  refine tot_let (fun T_7 e_T_7 => ?_)
  have h_T_7 : IV R B K1 K2 T_7 := by rw [e_T_7]; exact iv_uI (a := 0) (b := 5) h_T_6 k_o (by decide) (by decide) rfl (by omega) (.inl rfl)
  have x_T_7 := x_T_6.tr (fw_uI e_T_7 k_o (by decide))
  refine tot_oif (iv_oO h_T_7 k_o (by decide) (by decide) rfl) ?_
  refine tot_let (fun T_8 e_T_8 => ?_)
  have h_T_8 : IV R B K1 K2 T_8 := by rw [e_T_8]; exact iv_uI (a := 0) (b := 12) h_T_7 k_o (by decide) (by decide) rfl (by omega) (.inl rfl)
  have x_T_8 := x_T_7.tr (fw_uI e_T_8 k_o (by decide))
  exact tot_some ⟨h_T_8, x_T_8⟩
set_option maxHeartbeats 4000000 in
set_option maxRecDepth 10000 in
theorem cs_X3_kind {R : Nat → Nat} {B K1 K2 : Nat} (T : AT) (o : Nat) (h_T : IV R B K1 K2 T) (k_o : R o = 3) : Tot (g_X3_kind T o) (fun r => r.2 = T ∧ (r.1.toInt = 5 ∨ (T.2.2.1 o 1).toInt ≤ 1000)) := by
  have z0 : (5 : Int32).toInt = 5 := by decide
  have cc_101 : cnt 101 = 1 := rfl
  have cc_102 : cnt 102 = 12 := rfl
  have cc_103 : cnt 103 = 144 := rfl
  have cc_104 : cnt 104 = 2400 := rfl
  have cc_105 : cnt 105 = 7200 := rfl
  unfold g_X3_kind
  refine tot_oif (iv_oO h_T k_o (by decide) (by decide) rfl) ?_
  refine tot_let (fun v_1 e_v_1 => ?_)
  have q_v_1 := i_eq e_v_1
  have r_v_1 : 0 ≤ v_1.toInt ∧ v_1.toInt ≤ 1001 := iv_int h_T k_o (by decide) (by decide) e_v_1 rfl
  refine tot_oif (iv_oO h_T k_o (by decide) (by decide) rfl) ?_
  refine tot_ref h_T k_o (by decide) (by decide) (r2 := 9) (rfl : rtg 3 0 = 9) (by decide) (fun n_2 k_n_2 e_n_2 => ?_)
  refine tot_oif (iv_oO h_T k_n_2 (by decide) (by decide) rfl) ?_
  refine tot_let (fun v_3 e_v_3 => ?_)
  have r_v_3 : 0 ≤ v_3.toInt ∧ v_3.toInt ≤ 1001 := iv_int h_T k_n_2 (by decide) (by decide) e_v_3 rfl
  refine tot_if (fun c_8 => ?_) (fun c_8 => ?_)
  · replace c_8 := i_le c_8
    unfold g_X3_kind_b30
    exact tot_some ⟨rfl, (show ((5 : Int32).toInt = 5 ∨ (T.2.2.1 o 1).toInt ≤ 1000) from by omega)⟩
  · replace c_8 := i_nle c_8
    refine tot_oif (iv_oO h_T k_o (by decide) (by decide) rfl) ?_
    refine tot_ref1 e_n_2 ?_
    refine tot_oif (iv_oO h_T k_n_2 (by decide) (by decide) rfl) ?_
    refine tot_ref h_T k_n_2 (by decide) (by decide) (r2 := 42) (rfl : rtg 9 2 = 42) (by decide) (fun n_5 k_n_5 e_n_5 => ?_)
    refine tot_oif (iv_oO h_T k_o (by decide) (by decide) rfl) ?_
    refine tot_let (fun v_6 e_v_6 => ?_)
    have u_v_6 : v_6.toInt = v_1.toInt := by rw [e_v_6, e_v_1]
    have q_v_6 := i_eq e_v_6
    have r_v_6 : 0 ≤ v_6.toInt ∧ v_6.toInt ≤ 1001 := iv_int h_T k_o (by decide) (by decide) e_v_6 rfl
    refine tot_oif (iv_aA h_T k_n_5 (by decide) (by decide) rfl rfl) ?_
    refine tot_oif (by rw [iv_len h_T k_n_5 (by decide) (by decide) (rfl : shp 42 = (100, 1001))]; exact i_inb (by omega) (by omega)) ?_
    refine tot_let (fun v_7 e_v_7 => ?_)
    have r_v_7 := i_any v_7
    unfold g_X3_kind_b30
    exact tot_some ⟨rfl, (show (v_7.toInt = 5 ∨ (T.2.2.1 o 1).toInt ≤ 1000) from by omega)⟩
set_option maxHeartbeats 4000000 in
set_option maxRecDepth 10000 in
theorem cl_X3_isWord_b51 {R : Nat → Nat} {B K1 K2 : Nat} {Q : Int32 × AT → Prop} {tx : Nat × (Nat → Int32)} (T : AT) (l0 : Nat) (l2 : Int32) (l3 : Int32) (h_T : IV R B K1 K2 T) (k_l0 : R l0 = 3) (g0 : 0 ≤ l2.toInt ∧ l2.toInt ≤ 1000) (g1 : -1000 ≤ l3.toInt ∧ l3.toInt ≤ 1000) (g2 : (l3.toInt = tx.1 ∧ tx.1 ≤ 20) ∧ l2.toInt + l3.toInt ≤ 1000) (hx0 : ∀ (_ : Unit), Tot (some (1, T)) Q) (hx1 : ∀ (_ : Unit), Tot (some (0, T)) Q) : ∀ (n : Nat) (l4 : Int32), (0 ≤ l4.toInt ∧ l4.toInt ≤ 1000) → 1000 - l4.toInt < (n : Int) → Tot (g_X3_isWord_b51 tx n T l0 l2 l3 l4) Q := by
  have z0 : (Int32.ofInt (1) : Int32).toInt = 1 := by decide
  have cc_101 : cnt 101 = 1 := rfl
  have cc_102 : cnt 102 = 12 := rfl
  have cc_103 : cnt 103 = 144 := rfl
  have cc_104 : cnt 104 = 2400 := rfl
  have cc_105 : cnt 105 = 7200 := rfl
  have j_l2 := i_any l2
  have j_l3 := i_any l3
  intro n
  induction n with
  | zero =>
    intro l4 g_l4 hm
    exfalso
    omega
  | succ n ih =>
    intro l4 g_l4 hm
    unfold g_X3_isWord_b51
    refine tot_if (fun c_33 => ?_) (fun c_33 => ?_)
    · replace c_33 := i_le c_33
      exact hx0 () 
    · replace c_33 := i_nle c_33
      refine tot_oif (iv_oO h_T k_l0 (by decide) (by decide) rfl) ?_
      refine tot_ref h_T k_l0 (by decide) (by decide) (r2 := 9) (rfl : rtg 3 0 = 9) (by decide) (fun n_27 k_n_27 e_n_27 => ?_)
      refine tot_oif (iv_oO h_T k_n_27 (by decide) (by decide) rfl) ?_
      refine tot_ref h_T k_n_27 (by decide) (by decide) (r2 := 41) (rfl : rtg 9 0 = 41) (by decide) (fun n_28 k_n_28 e_n_28 => ?_)
      refine tot_let (fun v_29 e_v_29 => ?_)
      have q_v_29 := i_add e_v_29 (by omega) (by omega)
      refine tot_oif (iv_aA h_T k_n_28 (by decide) (by decide) rfl rfl) ?_
      refine tot_oif (by rw [iv_len h_T k_n_28 (by decide) (by decide) (rfl : shp 41 = (100, 1000))]; exact i_inb (by omega) (by omega)) ?_
      refine tot_let (fun v_30 e_v_30 => ?_)
      have r_v_30 := i_any v_30
      refine tot_oif (i_inb (by omega) (by omega)) ?_
      refine tot_let (fun v_31 e_v_31 => ?_)
      have r_v_31 := i_any v_31
      refine tot_if (fun c_34 => ?_) (fun c_34 => ?_)
      · replace c_34 := i_eq c_34
        refine tot_let (fun v_32 e_v_32 => ?_)
        have q_v_32 := i_add e_v_32 (by omega) (by omega)
        exact ih v_32 (by omega) (by omega)
      · replace c_34 := i_ne c_34
        exact hx1 () 
set_option maxHeartbeats 4000000 in
set_option maxRecDepth 10000 in
theorem cs_X3_isWord {R : Nat → Nat} {B K1 K2 : Nat} (T : AT) (tx : Nat × (Nat → Int32)) (o : Nat) (h_T : IV R B K1 K2 T) (k_o : R o = 3) (g0 : (nI tx.1 >>> (0 &&& 31)).toInt = tx.1 ∧ tx.1 ≤ 20) : Tot (g_X3_isWord T tx o) (fun r => r.2 = T ∧ (0 ≤ r.1.toInt ∧ r.1.toInt ≤ 1 ∧ (r.1.toInt = 0 ∨ (T.2.2.1 o 1).toInt ≤ 1000))) := by
  have z0 : (1 : Int32).toInt = 1 := by decide
  have z1 : (0 : Int32).toInt = 0 := by decide
  have cc_101 : cnt 101 = 1 := rfl
  have cc_102 : cnt 102 = 12 := rfl
  have cc_103 : cnt 103 = 144 := rfl
  have cc_104 : cnt 104 = 2400 := rfl
  have cc_105 : cnt 105 = 7200 := rfl
  unfold g_X3_isWord
  refine tot_oif (iv_oO h_T k_o (by decide) (by decide) rfl) ?_
  refine tot_bindq (R := fun r_1 : Int32 => (r_1.toInt = 5 ∨ (T.2.2.1 o 1).toInt ≤ 1000)) (cs_X3_kind T o h_T k_o ) (fun r_1 d_r_1 => ?_)
  replace d_r_1 : (r_1.toInt = 5 ∨ (T.2.2.1 o 1).toInt ≤ 1000) := d_r_1
  refine tot_if (fun c_13 => ?_) (fun c_13 => ?_)
  · replace c_13 := i_eq c_13
    refine tot_oif (iv_oO h_T k_o (by decide) (by decide) rfl) ?_
    refine tot_ref h_T k_o (by decide) (by decide) (r2 := 9) (rfl : rtg 3 0 = 9) (by decide) (fun n_3 k_n_3 e_n_3 => ?_)
    refine tot_oif (iv_oO h_T k_n_3 (by decide) (by decide) rfl) ?_
    refine tot_ref h_T k_n_3 (by decide) (by decide) (r2 := 43) (rfl : rtg 9 3 = 43) (by decide) (fun n_4 k_n_4 e_n_4 => ?_)
    refine tot_oif (iv_oO h_T k_o (by decide) (by decide) rfl) ?_
    refine tot_let (fun v_5 e_v_5 => ?_)
    have q_v_5 := i_eq e_v_5
    have r_v_5 : 0 ≤ v_5.toInt ∧ v_5.toInt ≤ 1001 := iv_int h_T k_o (by decide) (by decide) e_v_5 rfl
    refine tot_oif (iv_aA h_T k_n_4 (by decide) (by decide) rfl rfl) ?_
    refine tot_oif (by rw [iv_len h_T k_n_4 (by decide) (by decide) (rfl : shp 43 = (100, 1001))]; exact i_inb (by omega) (by omega)) ?_
    refine tot_let (fun v_6 e_v_6 => ?_)
    have r_v_6 : 0 ≤ v_6.toInt ∧ v_6.toInt ≤ 1000 := iv_int h_T k_n_4 (by decide) (by decide) e_v_6 rfl
    refine tot_oif (iv_oO h_T k_o (by decide) (by decide) rfl) ?_
    refine tot_ref1 e_n_3 ?_
    refine tot_oif (iv_oO h_T k_n_3 (by decide) (by decide) rfl) ?_
    refine tot_ref h_T k_n_3 (by decide) (by decide) (r2 := 44) (rfl : rtg 9 4 = 44) (by decide) (fun n_8 k_n_8 e_n_8 => ?_)
    refine tot_oif (iv_oO h_T k_o (by decide) (by decide) rfl) ?_
    refine tot_let (fun v_9 e_v_9 => ?_)
    have u_v_9 : v_9.toInt = v_5.toInt := by rw [e_v_9, e_v_5]
    have q_v_9 := i_eq e_v_9
    have r_v_9 : 0 ≤ v_9.toInt ∧ v_9.toInt ≤ 1001 := iv_int h_T k_o (by decide) (by decide) e_v_9 rfl
    refine tot_oif (iv_aA h_T k_n_8 (by decide) (by decide) rfl rfl) ?_
    refine tot_oif (by rw [iv_len h_T k_n_8 (by decide) (by decide) (rfl : shp 44 = (100, 1001))]; exact i_inb (by omega) (by omega)) ?_
    refine tot_let (fun v_10 e_v_10 => ?_)
    have r_v_10 : 0 ≤ v_10.toInt ∧ v_10.toInt ≤ 1000 := iv_int h_T k_n_8 (by decide) (by decide) e_v_10 rfl
    refine tot_let (fun v_11 e_v_11 => ?_)
    have q_v_11 := i_sub e_v_11 (by omega) (by omega)
    refine tot_let (fun v_12 e_v_12 => ?_)
    have q_v_12 : v_12.toInt = tx.1 := by rw [e_v_12]; exact g0.1
    refine tot_if (fun c_14 => ?_) (fun c_14 => ?_)
    · replace c_14 := i_eq c_14
      refine cl_X3_isWord_b51 T o v_6 v_11 h_T k_o (by omega) (by omega) (by omega) ?_ ?_ 16384 0 (by omega) (by omega)
      · intro _
        exact tot_some ⟨rfl, (show (0 ≤ (1 : Int32).toInt ∧ (1 : Int32).toInt ≤ 1 ∧ ((1 : Int32).toInt = 0 ∨ (T.2.2.1 o 1).toInt ≤ 1000)) from by omega)⟩
      · intro _
        exact tot_some ⟨rfl, (show (0 ≤ (0 : Int32).toInt ∧ (0 : Int32).toInt ≤ 1 ∧ ((0 : Int32).toInt = 0 ∨ (T.2.2.1 o 1).toInt ≤ 1000)) from by omega)⟩
    · replace c_14 := i_ne c_14
      exact tot_some ⟨rfl, (show (0 ≤ (0 : Int32).toInt ∧ (0 : Int32).toInt ≤ 1 ∧ ((0 : Int32).toInt = 0 ∨ (T.2.2.1 o 1).toInt ≤ 1000)) from by omega)⟩
  · replace c_13 := i_ne c_13
    exact tot_some ⟨rfl, (show (0 ≤ (0 : Int32).toInt ∧ (0 : Int32).toInt ≤ 1 ∧ ((0 : Int32).toInt = 0 ∨ (T.2.2.1 o 1).toInt ≤ 1000)) from by omega)⟩
set_option maxHeartbeats 4000000 in
set_option maxRecDepth 10000 in
theorem cs_X3_failAt {R : Nat → Nat} {B K1 K2 : Nat} (T : AT) (o : Nat) (a0 : Int32) (a1 : Int32) (h_T : IV R B K1 K2 T) (k_o : R o = 3) (g0 : -1 ≤ a0.toInt ∧ a0.toInt ≤ 1001) (g1 : 1 ≤ a1.toInt ∧ a1.toInt ≤ 5) : Tot (g_X3_failAt T o a0 a1) (fun r => (IV R B K1 K2 r.2.2 ∧ FW R [98, 99] T r.2.2) ∧ (r.1 = 0 → (False))) := by
  have z0 : (0 : Int32).toInt = 0 := by decide
  have cc_101 : cnt 101 = 1 := rfl
  have cc_102 : cnt 102 = 12 := rfl
  have cc_103 : cnt 103 = 144 := rfl
  have cc_104 : cnt 104 = 2400 := rfl
  have cc_105 : cnt 105 = 7200 := rfl
  have x_T : FW R [98, 99] T T := FW.rf
  have j_a0 := i_any a0
  have j_a1 := i_any a1
  unfold g_X3_failAt
  refine tot_oif (iv_oO h_T k_o (by decide) (by decide) rfl) ?_
  refine tot_let (fun T_1 e_T_1 => ?_)
  have h_T_1 : IV R B K1 K2 T_1 := by rw [e_T_1]; exact iv_uI (a := 0) (b := 6) h_T k_o (by decide) (by decide) rfl (by omega) (.inl rfl)
  have x_T_1 := x_T.tr (fw_uI e_T_1 k_o (by decide))
  have f_T_1_o_1 : (T_1.2.2.1 o 1).toInt = (T.2.2.1 o 1).toInt := congrArg Int32.toInt ((fw_uI (W := [98]) e_T_1 k_o (by decide)) o 1 (by rw [k_o]; decide))
  refine tot_if (fun c_7 => ?_) (fun c_7 => ?_)
  · replace c_7 := i_lt c_7
    unfold g_X3_failAt_b33
    unfold g_X3_failAt_b34
    refine tot_oif (iv_oO h_T_1 k_o (by decide) (by decide) rfl) ?_
    refine tot_let (fun T_8 e_T_8 => ?_)
    have h_T_8 : IV R B K1 K2 T_8 := by rw [e_T_8]; exact iv_uI (a := -2147483648) (b := 2147483647) h_T_1 k_o (by decide) (by decide) rfl (by omega) (.inl rfl)
    have x_T_8 := x_T_1.tr (fw_uI e_T_8 k_o (by decide))
    have f_T_8_o_1 : (T_8.2.2.1 o 1).toInt = (T_1.2.2.1 o 1).toInt := congrArg Int32.toInt ((fw_uI (W := [99]) e_T_8 k_o (by decide)) o 1 (by rw [k_o]; decide))
    exact tot_some ⟨⟨h_T_8, x_T_8⟩, fun q_ => absurd q_ (Nat.succ_ne_zero _)⟩
  · replace c_7 := i_nlt c_7
    refine tot_oif (iv_oO h_T_1 k_o (by decide) (by decide) rfl) ?_
    refine tot_ref h_T_1 k_o (by decide) (by decide) (r2 := 9) (rfl : rtg 3 0 = 9) (by decide) (fun n_2 k_n_2 e_n_2 => ?_)
    refine tot_oif (iv_oO h_T_1 k_n_2 (by decide) (by decide) rfl) ?_
    refine tot_let (fun v_3 e_v_3 => ?_)
    have r_v_3 : 0 ≤ v_3.toInt ∧ v_3.toInt ≤ 1001 := iv_int h_T_1 k_n_2 (by decide) (by decide) e_v_3 rfl
    refine tot_if (fun c_9 => ?_) (fun c_9 => ?_)
    · replace c_9 := i_le c_9
      unfold g_X3_failAt_b33
      unfold g_X3_failAt_b34
      refine tot_oif (iv_oO h_T_1 k_o (by decide) (by decide) rfl) ?_
      refine tot_let (fun T_10 e_T_10 => ?_)
      have h_T_10 : IV R B K1 K2 T_10 := by rw [e_T_10]; exact iv_uI (a := -2147483648) (b := 2147483647) h_T_1 k_o (by decide) (by decide) rfl (by omega) (.inl rfl)
      have x_T_10 := x_T_1.tr (fw_uI e_T_10 k_o (by decide))
      have f_T_10_o_1 : (T_10.2.2.1 o 1).toInt = (T_1.2.2.1 o 1).toInt := congrArg Int32.toInt ((fw_uI (W := [99]) e_T_10 k_o (by decide)) o 1 (by rw [k_o]; decide))
      exact tot_some ⟨⟨h_T_10, x_T_10⟩, fun q_ => absurd q_ (Nat.succ_ne_zero _)⟩
    · replace c_9 := i_nle c_9
      refine tot_oif (iv_oO h_T_1 k_o (by decide) (by decide) rfl) ?_
      refine tot_ref1 e_n_2 ?_
      refine tot_oif (iv_oO h_T_1 k_n_2 (by decide) (by decide) rfl) ?_
      refine tot_ref h_T_1 k_n_2 (by decide) (by decide) (r2 := 43) (rfl : rtg 9 3 = 43) (by decide) (fun n_5 k_n_5 e_n_5 => ?_)
      refine tot_oif (iv_aA h_T_1 k_n_5 (by decide) (by decide) rfl rfl) ?_
      refine tot_oif (by rw [iv_len h_T_1 k_n_5 (by decide) (by decide) (rfl : shp 43 = (100, 1001))]; exact i_inb (by omega) (by omega)) ?_
      refine tot_let (fun v_6 e_v_6 => ?_)
      have r_v_6 : 0 ≤ v_6.toInt ∧ v_6.toInt ≤ 1000 := iv_int h_T_1 k_n_5 (by decide) (by decide) e_v_6 rfl
      unfold g_X3_failAt_b34
      refine tot_oif (iv_oO h_T_1 k_o (by decide) (by decide) rfl) ?_
      refine tot_let (fun T_11 e_T_11 => ?_)
      have ja_T_11 := i_any v_6
      have h_T_11 : IV R B K1 K2 T_11 := by rw [e_T_11]; exact iv_uI (a := -2147483648) (b := 2147483647) h_T_1 k_o (by decide) (by decide) rfl (by omega) (.inl rfl)
      have x_T_11 := x_T_1.tr (fw_uI e_T_11 k_o (by decide))
      have f_T_11_o_1 : (T_11.2.2.1 o 1).toInt = (T_1.2.2.1 o 1).toInt := congrArg Int32.toInt ((fw_uI (W := [99]) e_T_11 k_o (by decide)) o 1 (by rw [k_o]; decide))
      exact tot_some ⟨⟨h_T_11, x_T_11⟩, fun q_ => absurd q_ (Nat.succ_ne_zero _)⟩
set_option maxHeartbeats 4000000 in
set_option maxRecDepth 10000 in
theorem cs_X3_takeWord {R : Nat → Nat} {B K1 K2 : Nat} (T : AT) (tx : Nat × (Nat → Int32)) (o : Nat) (h_T : IV R B K1 K2 T) (k_o : R o = 3) (g0 : (nI tx.1 >>> (0 &&& 31)).toInt = tx.1 ∧ tx.1 ≤ 20) : Tot (g_X3_takeWord T tx o) (fun r => (IV R B K1 K2 r.2.2 ∧ FW R [97, 98, 99] T r.2.2) ∧ (r.1 = 0 → (0 ≤ r.2.1.toInt ∧ r.2.1.toInt ≤ 0))) := by
  have z0 : (0 : Int32).toInt = 0 := by decide
  have z1 : ((1 : Int32) : Int32).toInt = 1 := by decide
  have z2 : (1 : Int32).toInt = 1 := by decide
  have cc_101 : cnt 101 = 1 := rfl
  have cc_102 : cnt 102 = 12 := rfl
  have cc_103 : cnt 103 = 144 := rfl
  have cc_104 : cnt 104 = 2400 := rfl
  have cc_105 : cnt 105 = 7200 := rfl
  have x_T : FW R [97, 98, 99] T T := FW.rf
  unfold g_X3_takeWord
  refine tot_oif (iv_oO h_T k_o (by decide) (by decide) rfl) ?_
  refine tot_bindq (R := fun r_1 : Int32 => (0 ≤ r_1.toInt ∧ r_1.toInt ≤ 1 ∧ (r_1.toInt = 0 ∨ (T.2.2.1 o 1).toInt ≤ 1000))) (cs_X3_isWord T tx o h_T k_o g0) (fun r_1 d_r_1 => ?_)
  replace d_r_1 : (0 ≤ r_1.toInt ∧ r_1.toInt ≤ 1 ∧ (r_1.toInt = 0 ∨ (T.2.2.1 o 1).toInt ≤ 1000)) := d_r_1
  refine tot_if (fun c_6 => ?_) (fun c_6 => ?_)
  · replace c_6 := i_eq c_6
    refine tot_oif (iv_oO h_T k_o (by decide) (by decide) rfl) ?_
    refine tot_let (fun v_3 e_v_3 => ?_)
    have q_v_3 := i_eq e_v_3
    have r_v_3 : 0 ≤ v_3.toInt ∧ v_3.toInt ≤ 1001 := iv_int h_T k_o (by decide) (by decide) e_v_3 rfl
    refine tot_oif (iv_oO h_T k_o (by decide) (by decide) rfl) ?_
    refine tot_thri (R := R) (W := [98, 99]) (Q := fun r_4 : Int32 => (False)) (cs_X3_failAt T o v_3 (1 : Int32) h_T k_o (by omega) (by omega)) (fun r_4 T_5 i_T_5 y_T_5 d_r_4 => ?_) (fun k_ U_ i_ y_ => ⟨⟨i_, x_T.tr (y_.w (by decide))⟩, fun q_ => absurd q_ (Nat.succ_ne_zero k_)⟩)
    have h_T_5 : IV R B K1 K2 T_5 := i_T_5
    have x_T_5 := x_T.tr (y_T_5.w (by decide))
    have f_T_5_o_1 : (T_5.2.2.1 o 1).toInt = (T.2.2.1 o 1).toInt := congrArg Int32.toInt (y_T_5 o 1 (by rw [k_o]; decide))
    replace d_r_4 : (False) := d_r_4
    exact d_r_4.elim
  · replace c_6 := i_ne c_6
    unfold g_X3_takeWord_b17
    refine tot_oif (iv_oO h_T k_o (by decide) (by decide) rfl) ?_
    refine tot_let (fun v_7 e_v_7 => ?_)
    have q_v_7 := i_eq e_v_7
    have r_v_7 : 0 ≤ v_7.toInt ∧ v_7.toInt ≤ 1001 := iv_int h_T k_o (by decide) (by decide) e_v_7 rfl
    refine tot_let (fun v_8 e_v_8 => ?_)
    have q_v_8 := i_add e_v_8 (by omega) (by omega)
    refine tot_oif (iv_oO h_T k_o (by decide) (by decide) rfl) ?_
    refine tot_let (fun T_9 e_T_9 => ?_)
    have h_T_9 : IV R B K1 K2 T_9 := by rw [e_T_9]; exact iv_uI (a := 0) (b := 1001) h_T k_o (by decide) (by decide) rfl (by omega) (.inl rfl)
    have x_T_9 := x_T.tr (fw_uI e_T_9 k_o (by decide))
    have f_T_9_o_1 : (T_9.2.2.1 o 1).toInt = (v_8 : Int32).toInt := by rw [e_T_9]; exact congrArg Int32.toInt (uI_at _ _ _ _)
    exact tot_some ⟨⟨h_T_9, x_T_9⟩, fun _ => (show (0 ≤ (0 : Int32).toInt ∧ (0 : Int32).toInt ≤ 0) from by omega)⟩
set_option maxHeartbeats 4000000 in
set_option maxRecDepth 10000 in
theorem cl_X3_value_b15 {R : Nat → Nat} {B K1 K2 : Nat} {Q : Int32 × AT → Prop} (T : AT) (l0 : Nat) (h_T : IV R B K1 K2 T) (k_l0 : R l0 = 3) (g0 : (T.2.2.1 l0 1).toInt ≤ 1000) (hx0 : ∀ (l1 : Int32), Tot (some (l1, T)) Q) : ∀ (n : Nat) (l1 : Int32) (l2 : Int32), (0 ≤ l2.toInt ∧ l2.toInt ≤ 1000) → 1000 - l2.toInt < (n : Int) → Tot (g_X3_value_b15 n T l0 l1 l2) Q := by
  have z0 : (10 : Int32).toInt = 10 := by decide
  have z1 : (48 : Int32).toInt = 48 := by decide
  have z2 : (Int32.ofInt (1) : Int32).toInt = 1 := by decide
  have cc_101 : cnt 101 = 1 := rfl
  have cc_102 : cnt 102 = 12 := rfl
  have cc_103 : cnt 103 = 144 := rfl
  have cc_104 : cnt 104 = 2400 := rfl
  have cc_105 : cnt 105 = 7200 := rfl
  intro n
  induction n with
  | zero =>
    intro l1 l2 g_l2 hm
    exfalso
    omega
  | succ n ih =>
    intro l1 l2 g_l2 hm
    unfold g_X3_value_b15
    refine tot_oif (iv_oO h_T k_l0 (by decide) (by decide) rfl) ?_
    refine tot_ref h_T k_l0 (by decide) (by decide) (r2 := 9) (rfl : rtg 3 0 = 9) (by decide) (fun n_27 k_n_27 e_n_27 => ?_)
    refine tot_oif (iv_oO h_T k_n_27 (by decide) (by decide) rfl) ?_
    refine tot_ref h_T k_n_27 (by decide) (by decide) (r2 := 44) (rfl : rtg 9 4 = 44) (by decide) (fun n_28 k_n_28 e_n_28 => ?_)
    refine tot_oif (iv_oO h_T k_l0 (by decide) (by decide) rfl) ?_
    refine tot_let (fun v_29 e_v_29 => ?_)
    have q_v_29 := i_eq e_v_29
    have r_v_29 : 0 ≤ v_29.toInt ∧ v_29.toInt ≤ 1001 := iv_int h_T k_l0 (by decide) (by decide) e_v_29 rfl
    refine tot_oif (iv_aA h_T k_n_28 (by decide) (by decide) rfl rfl) ?_
    refine tot_oif (by rw [iv_len h_T k_n_28 (by decide) (by decide) (rfl : shp 44 = (100, 1001))]; exact i_inb (by omega) (by omega)) ?_
    refine tot_let (fun v_30 e_v_30 => ?_)
    have r_v_30 : 0 ≤ v_30.toInt ∧ v_30.toInt ≤ 1000 := iv_int h_T k_n_28 (by decide) (by decide) e_v_30 rfl
    refine tot_if (fun c_38 => ?_) (fun c_38 => ?_)
    · replace c_38 := i_le c_38
      exact hx0 l1 
    · replace c_38 := i_nle c_38
      refine tot_let (fun v_31 e_v_31 => ?_)
      have r_v_31 := i_any v_31
      refine tot_oif (iv_oO h_T k_l0 (by decide) (by decide) rfl) ?_
      refine tot_ref1 e_n_27 ?_
      refine tot_oif (iv_oO h_T k_n_27 (by decide) (by decide) rfl) ?_
      refine tot_ref h_T k_n_27 (by decide) (by decide) (r2 := 41) (rfl : rtg 9 0 = 41) (by decide) (fun n_33 k_n_33 e_n_33 => ?_)
      refine tot_oif (iv_aA h_T k_n_33 (by decide) (by decide) rfl rfl) ?_
      refine tot_oif (by rw [iv_len h_T k_n_33 (by decide) (by decide) (rfl : shp 41 = (100, 1000))]; exact i_inb (by omega) (by omega)) ?_
      refine tot_let (fun v_34 e_v_34 => ?_)
      have r_v_34 := i_any v_34
      refine tot_let (fun v_35 e_v_35 => ?_)
      have r_v_35 := i_any v_35
      refine tot_let (fun v_36 e_v_36 => ?_)
      have r_v_36 := i_any v_36
      refine tot_let (fun v_37 e_v_37 => ?_)
      have q_v_37 := i_add e_v_37 (by omega) (by omega)
      exact ih v_36 v_37 (by omega) (by omega)
set_option maxHeartbeats 4000000 in
set_option maxRecDepth 10000 in
theorem cs_X3_value {R : Nat → Nat} {B K1 K2 : Nat} (T : AT) (o : Nat) (h_T : IV R B K1 K2 T) (k_o : R o = 3) (g0 : (T.2.2.1 o 1).toInt ≤ 1000) : Tot (g_X3_value T o) (fun r => r.2 = T ∧ True) := by
  have z0 : (0 : Int32).toInt = 0 := by decide
  have cc_101 : cnt 101 = 1 := rfl
  have cc_102 : cnt 102 = 12 := rfl
  have cc_103 : cnt 103 = 144 := rfl
  have cc_104 : cnt 104 = 2400 := rfl
  have cc_105 : cnt 105 = 7200 := rfl
  unfold g_X3_value
  refine tot_oif (iv_oO h_T k_o (by decide) (by decide) rfl) ?_
  refine tot_ref h_T k_o (by decide) (by decide) (r2 := 9) (rfl : rtg 3 0 = 9) (by decide) (fun n_1 k_n_1 e_n_1 => ?_)
  refine tot_oif (iv_oO h_T k_n_1 (by decide) (by decide) rfl) ?_
  refine tot_ref h_T k_n_1 (by decide) (by decide) (r2 := 43) (rfl : rtg 9 3 = 43) (by decide) (fun n_2 k_n_2 e_n_2 => ?_)
  refine tot_oif (iv_oO h_T k_o (by decide) (by decide) rfl) ?_
  refine tot_let (fun v_3 e_v_3 => ?_)
  have q_v_3 := i_eq e_v_3
  have r_v_3 : 0 ≤ v_3.toInt ∧ v_3.toInt ≤ 1001 := iv_int h_T k_o (by decide) (by decide) e_v_3 rfl
  refine tot_oif (iv_aA h_T k_n_2 (by decide) (by decide) rfl rfl) ?_
  refine tot_oif (by rw [iv_len h_T k_n_2 (by decide) (by decide) (rfl : shp 43 = (100, 1001))]; exact i_inb (by omega) (by omega)) ?_
  refine tot_let (fun v_4 e_v_4 => ?_)
  have r_v_4 : 0 ≤ v_4.toInt ∧ v_4.toInt ≤ 1000 := iv_int h_T k_n_2 (by decide) (by decide) e_v_4 rfl
  refine cl_X3_value_b15 T o h_T k_o (by omega) ?_ 16384 0 v_4 (by omega) (by omega)
  · intro l_39
    have j_l_39 := i_any l_39
    exact tot_some ⟨rfl, trivial⟩
set_option maxHeartbeats 4000000 in
set_option maxRecDepth 10000 in
theorem cs_X3_number {R : Nat → Nat} {B K1 K2 : Nat} (T : AT) (o : Nat) (a0 : Int32) (a1 : Int32) (h_T : IV R B K1 K2 T) (k_o : R o = 3) : Tot (g_X3_number T o a0 a1) (fun r => (IV R B K1 K2 r.2.2 ∧ FW R [97, 98, 99] T r.2.2) ∧ (r.1 = 0 → (a0.toInt ≤ r.2.1.toInt ∧ r.2.1.toInt ≤ a1.toInt))) := by
  have z0 : (2 : Int32).toInt = 2 := by decide
  have z1 : ((2 : Int32) : Int32).toInt = 2 := by decide
  have z2 : (1 : Int32).toInt = 1 := by decide
  have z3 : ((1 : Int32) : Int32).toInt = 1 := by decide
  have cc_101 : cnt 101 = 1 := rfl
  have cc_102 : cnt 102 = 12 := rfl
  have cc_103 : cnt 103 = 144 := rfl
  have cc_104 : cnt 104 = 2400 := rfl
  have cc_105 : cnt 105 = 7200 := rfl
  have x_T : FW R [97, 98, 99] T T := FW.rf
  have j_a0 := i_any a0
  have j_a1 := i_any a1
  unfold g_X3_number
  refine tot_oif (iv_oO h_T k_o (by decide) (by decide) rfl) ?_
  refine tot_bindq (R := fun r_1 : Int32 => (r_1.toInt = 5 ∨ (T.2.2.1 o 1).toInt ≤ 1000)) (cs_X3_kind T o h_T k_o ) (fun r_1 d_r_1 => ?_)
  replace d_r_1 : (r_1.toInt = 5 ∨ (T.2.2.1 o 1).toInt ≤ 1000) := d_r_1
  refine tot_if (fun c_6 => ?_) (fun c_6 => ?_)
  · replace c_6 := i_eq c_6
    unfold g_X3_number_b17
    refine tot_oif (iv_oO h_T k_o (by decide) (by decide) rfl) ?_
    refine tot_bindq (R := fun r_7 : Int32 => True) (cs_X3_value T o h_T k_o (by omega)) (fun r_7 d_r_7 => ?_)
    have r_r_7 := i_any r_7
    refine tot_if (fun c_9 => ?_) (fun c_9 => ?_)
    · replace c_9 := i_lt c_9
      unfold g_X3_number_b32
      refine tot_oif (iv_oO h_T k_o (by decide) (by decide) rfl) ?_
      refine tot_let (fun v_10 e_v_10 => ?_)
      have q_v_10 := i_eq e_v_10
      have r_v_10 : 0 ≤ v_10.toInt ∧ v_10.toInt ≤ 1001 := iv_int h_T k_o (by decide) (by decide) e_v_10 rfl
      refine tot_oif (iv_oO h_T k_o (by decide) (by decide) rfl) ?_
      refine tot_thri (R := R) (W := [98, 99]) (Q := fun r_11 : Int32 => (False)) (cs_X3_failAt T o v_10 (2 : Int32) h_T k_o (by omega) (by omega)) (fun r_11 T_12 i_T_12 y_T_12 d_r_11 => ?_) (fun k_ U_ i_ y_ => ⟨⟨i_, x_T.tr (y_.w (by decide))⟩, fun q_ => absurd q_ (Nat.succ_ne_zero k_)⟩)
      have h_T_12 : IV R B K1 K2 T_12 := i_T_12
      have x_T_12 := x_T.tr (y_T_12.w (by decide))
      have f_T_12_o_1 : (T_12.2.2.1 o 1).toInt = (T.2.2.1 o 1).toInt := congrArg Int32.toInt (y_T_12 o 1 (by rw [k_o]; decide))
      replace d_r_11 : (False) := d_r_11
      exact d_r_11.elim
    · replace c_9 := i_nlt c_9
      refine tot_if (fun c_13 => ?_) (fun c_13 => ?_)
      · replace c_13 := i_le c_13
        unfold g_X3_number_b41
        refine tot_oif (iv_oO h_T k_o (by decide) (by decide) rfl) ?_
        refine tot_let (fun v_14 e_v_14 => ?_)
        have q_v_14 := i_eq e_v_14
        have r_v_14 : 0 ≤ v_14.toInt ∧ v_14.toInt ≤ 1001 := iv_int h_T k_o (by decide) (by decide) e_v_14 rfl
        refine tot_let (fun v_15 e_v_15 => ?_)
        have q_v_15 := i_add e_v_15 (by omega) (by omega)
        refine tot_oif (iv_oO h_T k_o (by decide) (by decide) rfl) ?_
        refine tot_let (fun T_16 e_T_16 => ?_)
        have h_T_16 : IV R B K1 K2 T_16 := by rw [e_T_16]; exact iv_uI (a := 0) (b := 1001) h_T k_o (by decide) (by decide) rfl (by omega) (.inl rfl)
        have x_T_16 := x_T.tr (fw_uI e_T_16 k_o (by decide))
        have f_T_16_o_1 : (T_16.2.2.1 o 1).toInt = (v_15 : Int32).toInt := by rw [e_T_16]; exact congrArg Int32.toInt (uI_at _ _ _ _)
        exact tot_some ⟨⟨h_T_16, x_T_16⟩, fun _ => (show (a0.toInt ≤ r_7.toInt ∧ r_7.toInt ≤ a1.toInt) from by omega)⟩
      · replace c_13 := i_nle c_13
        unfold g_X3_number_b32
        refine tot_oif (iv_oO h_T k_o (by decide) (by decide) rfl) ?_
        refine tot_let (fun v_17 e_v_17 => ?_)
        have q_v_17 := i_eq e_v_17
        have r_v_17 : 0 ≤ v_17.toInt ∧ v_17.toInt ≤ 1001 := iv_int h_T k_o (by decide) (by decide) e_v_17 rfl
        refine tot_oif (iv_oO h_T k_o (by decide) (by decide) rfl) ?_
        refine tot_thri (R := R) (W := [98, 99]) (Q := fun r_18 : Int32 => (False)) (cs_X3_failAt T o v_17 (2 : Int32) h_T k_o (by omega) (by omega)) (fun r_18 T_19 i_T_19 y_T_19 d_r_18 => ?_) (fun k_ U_ i_ y_ => ⟨⟨i_, x_T.tr (y_.w (by decide))⟩, fun q_ => absurd q_ (Nat.succ_ne_zero k_)⟩)
        have h_T_19 : IV R B K1 K2 T_19 := i_T_19
        have x_T_19 := x_T.tr (y_T_19.w (by decide))
        have f_T_19_o_1 : (T_19.2.2.1 o 1).toInt = (T.2.2.1 o 1).toInt := congrArg Int32.toInt (y_T_19 o 1 (by rw [k_o]; decide))
        replace d_r_18 : (False) := d_r_18
        exact d_r_18.elim
  · replace c_6 := i_ne c_6
    refine tot_oif (iv_oO h_T k_o (by decide) (by decide) rfl) ?_
    refine tot_let (fun v_3 e_v_3 => ?_)
    have q_v_3 := i_eq e_v_3
    have r_v_3 : 0 ≤ v_3.toInt ∧ v_3.toInt ≤ 1001 := iv_int h_T k_o (by decide) (by decide) e_v_3 rfl
    refine tot_oif (iv_oO h_T k_o (by decide) (by decide) rfl) ?_
    refine tot_thri (R := R) (W := [98, 99]) (Q := fun r_4 : Int32 => (False)) (cs_X3_failAt T o v_3 (1 : Int32) h_T k_o (by omega) (by omega)) (fun r_4 T_5 i_T_5 y_T_5 d_r_4 => ?_) (fun k_ U_ i_ y_ => ⟨⟨i_, x_T.tr (y_.w (by decide))⟩, fun q_ => absurd q_ (Nat.succ_ne_zero k_)⟩)
    have h_T_5 : IV R B K1 K2 T_5 := i_T_5
    have x_T_5 := x_T.tr (y_T_5.w (by decide))
    have f_T_5_o_1 : (T_5.2.2.1 o 1).toInt = (T.2.2.1 o 1).toInt := congrArg Int32.toInt (y_T_5 o 1 (by rw [k_o]; decide))
    replace d_r_4 : (False) := d_r_4
    exact d_r_4.elim
set_option maxHeartbeats 4000000 in
set_option maxRecDepth 10000 in
theorem cs_X3_parseHead {R : Nat → Nat} {B K1 K2 : Nat} (T : AT) (o : Nat) (a0 : Nat) (h_T : IV R B K1 K2 T) (k_o : R o = 3) (k_a0 : R a0 = 6) : Tot (g_X3_parseHead T o a0) (fun r => (IV R B K1 K2 r.2.2 ∧ FW R [97, 98, 99, 192, 193, 194, 195] T r.2.2) ∧ (r.1 = 0 → (0 ≤ r.2.1.toInt ∧ r.2.1.toInt ≤ 0))) := by
  have z0 : ((100 : Int32) : Int32).toInt = 100 := by decide
  have z1 : ((5000 : Int32) : Int32).toInt = 5000 := by decide
  have z2 : ((1 : Int32) : Int32).toInt = 1 := by decide
  have z3 : ((99 : Int32) : Int32).toInt = 99 := by decide
  have z4 : ((32 : Int32) : Int32).toInt = 32 := by decide
  have z5 : ((200 : Int32) : Int32).toInt = 200 := by decide
  have z6 : ((9999 : Int32) : Int32).toInt = 9999 := by decide
  have z7 : (0 : Int32).toInt = 0 := by decide
  have cc_101 : cnt 101 = 1 := rfl
  have cc_102 : cnt 102 = 12 := rfl
  have cc_103 : cnt 103 = 144 := rfl
  have cc_104 : cnt 104 = 2400 := rfl
  have cc_105 : cnt 105 = 7200 := rfl
  have x_T : FW R [97, 98, 99, 192, 193, 194, 195] T T := FW.rf
  unfold g_X3_parseHead
  refine tot_oif (iv_oO h_T k_o (by decide) (by decide) rfl) ?_
  refine tot_thri (R := R) (W := [97, 98, 99]) (Q := fun r_1 : Int32 => (0 ≤ r_1.toInt ∧ r_1.toInt ≤ 0)) (cs_X3_takeWord T (sTx "camera") o h_T k_o (by decide)) (fun r_1 T_2 i_T_2 y_T_2 d_r_1 => ?_) (fun k_ U_ i_ y_ => ⟨⟨i_, x_T.tr (y_.w (by decide))⟩, fun q_ => absurd q_ (Nat.succ_ne_zero k_)⟩)
  have h_T_2 : IV R B K1 K2 T_2 := i_T_2
  have x_T_2 := x_T.tr (y_T_2.w (by decide))
  replace d_r_1 : (0 ≤ r_1.toInt ∧ r_1.toInt ≤ 0) := d_r_1
  refine tot_oif (iv_oO h_T_2 k_o (by decide) (by decide) rfl) ?_
  refine tot_thri (R := R) (W := [97, 98, 99]) (Q := fun r_3 : Int32 => (0 ≤ r_3.toInt ∧ r_3.toInt ≤ 0)) (cs_X3_takeWord T_2 (sTx "distance") o h_T_2 k_o (by decide)) (fun r_3 T_4 i_T_4 y_T_4 d_r_3 => ?_) (fun k_ U_ i_ y_ => ⟨⟨i_, x_T_2.tr (y_.w (by decide))⟩, fun q_ => absurd q_ (Nat.succ_ne_zero k_)⟩)
  have h_T_4 : IV R B K1 K2 T_4 := i_T_4
  have x_T_4 := x_T_2.tr (y_T_4.w (by decide))
  replace d_r_3 : (0 ≤ r_3.toInt ∧ r_3.toInt ≤ 0) := d_r_3
  refine tot_oif (iv_oO h_T_4 k_o (by decide) (by decide) rfl) ?_
  refine tot_thri (R := R) (W := [97, 98, 99]) (Q := fun r_5 : Int32 => (((100 : Int32) : Int32).toInt ≤ r_5.toInt ∧ r_5.toInt ≤ ((5000 : Int32) : Int32).toInt)) (cs_X3_number T_4 o (100 : Int32) (5000 : Int32) h_T_4 k_o ) (fun r_5 T_6 i_T_6 y_T_6 d_r_5 => ?_) (fun k_ U_ i_ y_ => ⟨⟨i_, x_T_4.tr (y_.w (by decide))⟩, fun q_ => absurd q_ (Nat.succ_ne_zero k_)⟩)
  have h_T_6 : IV R B K1 K2 T_6 := i_T_6
  have x_T_6 := x_T_4.tr (y_T_6.w (by decide))
  replace d_r_5 : (((100 : Int32) : Int32).toInt ≤ r_5.toInt ∧ r_5.toInt ≤ ((5000 : Int32) : Int32).toInt) := d_r_5
  refine tot_oif (iv_oO h_T_6 k_a0 (by decide) (by decide) rfl) ?_
  refine tot_let (fun T_7 e_T_7 => ?_)
  have h_T_7 : IV R B K1 K2 T_7 := by rw [e_T_7]; exact iv_uI (a := 0) (b := 5000) h_T_6 k_a0 (by decide) (by decide) rfl (by omega) (.inl rfl)
  have x_T_7 := x_T_6.tr (fw_uI e_T_7 k_a0 (by decide))
  have f_T_7_o_1 : (T_7.2.2.1 o 1).toInt = (T_6.2.2.1 o 1).toInt := congrArg Int32.toInt ((fw_uI (W := [192]) e_T_7 k_a0 (by decide)) o 1 (by rw [k_o]; decide))
  refine tot_oif (iv_oO h_T_7 k_o (by decide) (by decide) rfl) ?_
  refine tot_thri (R := R) (W := [97, 98, 99]) (Q := fun r_8 : Int32 => (0 ≤ r_8.toInt ∧ r_8.toInt ≤ 0)) (cs_X3_takeWord T_7 (sTx "step") o h_T_7 k_o (by decide)) (fun r_8 T_9 i_T_9 y_T_9 d_r_8 => ?_) (fun k_ U_ i_ y_ => ⟨⟨i_, x_T_7.tr (y_.w (by decide))⟩, fun q_ => absurd q_ (Nat.succ_ne_zero k_)⟩)
  have h_T_9 : IV R B K1 K2 T_9 := i_T_9
  have x_T_9 := x_T_7.tr (y_T_9.w (by decide))
  replace d_r_8 : (0 ≤ r_8.toInt ∧ r_8.toInt ≤ 0) := d_r_8
  refine tot_oif (iv_oO h_T_9 k_o (by decide) (by decide) rfl) ?_
  refine tot_thri (R := R) (W := [97, 98, 99]) (Q := fun r_10 : Int32 => (((1 : Int32) : Int32).toInt ≤ r_10.toInt ∧ r_10.toInt ≤ ((99 : Int32) : Int32).toInt)) (cs_X3_number T_9 o (1 : Int32) (99 : Int32) h_T_9 k_o ) (fun r_10 T_11 i_T_11 y_T_11 d_r_10 => ?_) (fun k_ U_ i_ y_ => ⟨⟨i_, x_T_9.tr (y_.w (by decide))⟩, fun q_ => absurd q_ (Nat.succ_ne_zero k_)⟩)
  have h_T_11 : IV R B K1 K2 T_11 := i_T_11
  have x_T_11 := x_T_9.tr (y_T_11.w (by decide))
  replace d_r_10 : (((1 : Int32) : Int32).toInt ≤ r_10.toInt ∧ r_10.toInt ≤ ((99 : Int32) : Int32).toInt) := d_r_10
  refine tot_oif (iv_oO h_T_11 k_a0 (by decide) (by decide) rfl) ?_
  refine tot_let (fun T_12 e_T_12 => ?_)
  have h_T_12 : IV R B K1 K2 T_12 := by rw [e_T_12]; exact iv_uI (a := 0) (b := 99) h_T_11 k_a0 (by decide) (by decide) rfl (by omega) (.inl rfl)
  have x_T_12 := x_T_11.tr (fw_uI e_T_12 k_a0 (by decide))
  have f_T_12_o_1 : (T_12.2.2.1 o 1).toInt = (T_11.2.2.1 o 1).toInt := congrArg Int32.toInt ((fw_uI (W := [193]) e_T_12 k_a0 (by decide)) o 1 (by rw [k_o]; decide))
  refine tot_oif (iv_oO h_T_12 k_o (by decide) (by decide) rfl) ?_
  refine tot_thri (R := R) (W := [97, 98, 99]) (Q := fun r_13 : Int32 => (0 ≤ r_13.toInt ∧ r_13.toInt ≤ 0)) (cs_X3_takeWord T_12 (sTx "samples") o h_T_12 k_o (by decide)) (fun r_13 T_14 i_T_14 y_T_14 d_r_13 => ?_) (fun k_ U_ i_ y_ => ⟨⟨i_, x_T_12.tr (y_.w (by decide))⟩, fun q_ => absurd q_ (Nat.succ_ne_zero k_)⟩)
  have h_T_14 : IV R B K1 K2 T_14 := i_T_14
  have x_T_14 := x_T_12.tr (y_T_14.w (by decide))
  replace d_r_13 : (0 ≤ r_13.toInt ∧ r_13.toInt ≤ 0) := d_r_13
  refine tot_oif (iv_oO h_T_14 k_o (by decide) (by decide) rfl) ?_
  refine tot_thri (R := R) (W := [97, 98, 99]) (Q := fun r_15 : Int32 => (((32 : Int32) : Int32).toInt ≤ r_15.toInt ∧ r_15.toInt ≤ ((200 : Int32) : Int32).toInt)) (cs_X3_number T_14 o (32 : Int32) (200 : Int32) h_T_14 k_o ) (fun r_15 T_16 i_T_16 y_T_16 d_r_15 => ?_) (fun k_ U_ i_ y_ => ⟨⟨i_, x_T_14.tr (y_.w (by decide))⟩, fun q_ => absurd q_ (Nat.succ_ne_zero k_)⟩)
  have h_T_16 : IV R B K1 K2 T_16 := i_T_16
  have x_T_16 := x_T_14.tr (y_T_16.w (by decide))
  replace d_r_15 : (((32 : Int32) : Int32).toInt ≤ r_15.toInt ∧ r_15.toInt ≤ ((200 : Int32) : Int32).toInt) := d_r_15
  refine tot_oif (iv_oO h_T_16 k_a0 (by decide) (by decide) rfl) ?_
  refine tot_let (fun T_17 e_T_17 => ?_)
  have h_T_17 : IV R B K1 K2 T_17 := by rw [e_T_17]; exact iv_uI (a := 0) (b := 200) h_T_16 k_a0 (by decide) (by decide) rfl (by omega) (.inl rfl)
  have x_T_17 := x_T_16.tr (fw_uI e_T_17 k_a0 (by decide))
  have f_T_17_o_1 : (T_17.2.2.1 o 1).toInt = (T_16.2.2.1 o 1).toInt := congrArg Int32.toInt ((fw_uI (W := [194]) e_T_17 k_a0 (by decide)) o 1 (by rw [k_o]; decide))
  refine tot_oif (iv_oO h_T_17 k_o (by decide) (by decide) rfl) ?_
  refine tot_thri (R := R) (W := [97, 98, 99]) (Q := fun r_18 : Int32 => (0 ≤ r_18.toInt ∧ r_18.toInt ≤ 0)) (cs_X3_takeWord T_17 (sTx "limit") o h_T_17 k_o (by decide)) (fun r_18 T_19 i_T_19 y_T_19 d_r_18 => ?_) (fun k_ U_ i_ y_ => ⟨⟨i_, x_T_17.tr (y_.w (by decide))⟩, fun q_ => absurd q_ (Nat.succ_ne_zero k_)⟩)
  have h_T_19 : IV R B K1 K2 T_19 := i_T_19
  have x_T_19 := x_T_17.tr (y_T_19.w (by decide))
  replace d_r_18 : (0 ≤ r_18.toInt ∧ r_18.toInt ≤ 0) := d_r_18
  refine tot_oif (iv_oO h_T_19 k_o (by decide) (by decide) rfl) ?_
  refine tot_thri (R := R) (W := [97, 98, 99]) (Q := fun r_20 : Int32 => (((1 : Int32) : Int32).toInt ≤ r_20.toInt ∧ r_20.toInt ≤ ((9999 : Int32) : Int32).toInt)) (cs_X3_number T_19 o (1 : Int32) (9999 : Int32) h_T_19 k_o ) (fun r_20 T_21 i_T_21 y_T_21 d_r_20 => ?_) (fun k_ U_ i_ y_ => ⟨⟨i_, x_T_19.tr (y_.w (by decide))⟩, fun q_ => absurd q_ (Nat.succ_ne_zero k_)⟩)
  have h_T_21 : IV R B K1 K2 T_21 := i_T_21
  have x_T_21 := x_T_19.tr (y_T_21.w (by decide))
  replace d_r_20 : (((1 : Int32) : Int32).toInt ≤ r_20.toInt ∧ r_20.toInt ≤ ((9999 : Int32) : Int32).toInt) := d_r_20
  refine tot_oif (iv_oO h_T_21 k_a0 (by decide) (by decide) rfl) ?_
  refine tot_let (fun T_22 e_T_22 => ?_)
  have h_T_22 : IV R B K1 K2 T_22 := by rw [e_T_22]; exact iv_uI (a := 0) (b := 9999) h_T_21 k_a0 (by decide) (by decide) rfl (by omega) (.inl rfl)
  have x_T_22 := x_T_21.tr (fw_uI e_T_22 k_a0 (by decide))
  have f_T_22_o_1 : (T_22.2.2.1 o 1).toInt = (T_21.2.2.1 o 1).toInt := congrArg Int32.toInt ((fw_uI (W := [195]) e_T_22 k_a0 (by decide)) o 1 (by rw [k_o]; decide))
  exact tot_some ⟨⟨h_T_22, x_T_22⟩, fun _ => (show (0 ≤ (0 : Int32).toInt ∧ (0 : Int32).toInt ≤ 0) from by omega)⟩
set_option maxHeartbeats 4000000 in
set_option maxRecDepth 10000 in
theorem cs_X3_startLine {R : Nat → Nat} {B K1 K2 : Nat} (T : AT) (o : Nat) (a0 : Int32) (a1 : Int32) (h_T : IV R B K1 K2 T) (k_o : R o = 3) (g0 : 0 ≤ a0.toInt ∧ a0.toInt ≤ 1) (g1 : 3 ≤ a1.toInt ∧ a1.toInt ≤ 4) (g2 : (T.2.2.1 o 1).toInt ≤ 1000) : Tot (g_X3_startLine T o a0 a1) (fun r => (IV R B K1 K2 r.2.2 ∧ FW R [97, 98, 99] T r.2.2) ∧ (r.1 = 0 → (a0.toInt = 0))) := by
  have z0 : (0 : Int32).toInt = 0 := by decide
  have z1 : (1 : Int32).toInt = 1 := by decide
  have cc_101 : cnt 101 = 1 := rfl
  have cc_102 : cnt 102 = 12 := rfl
  have cc_103 : cnt 103 = 144 := rfl
  have cc_104 : cnt 104 = 2400 := rfl
  have cc_105 : cnt 105 = 7200 := rfl
  have x_T : FW R [97, 98, 99] T T := FW.rf
  have j_a0 := i_any a0
  have j_a1 := i_any a1
  unfold g_X3_startLine
  refine tot_if (fun c_4 => ?_) (fun c_4 => ?_)
  · replace c_4 := i_eq c_4
    unfold g_X3_startLine_b13
    refine tot_oif (iv_oO h_T k_o (by decide) (by decide) rfl) ?_
    refine tot_let (fun v_5 e_v_5 => ?_)
    have q_v_5 := i_eq e_v_5
    have r_v_5 : 0 ≤ v_5.toInt ∧ v_5.toInt ≤ 1001 := iv_int h_T k_o (by decide) (by decide) e_v_5 rfl
    refine tot_let (fun v_6 e_v_6 => ?_)
    have q_v_6 := i_add e_v_6 (by omega) (by omega)
    refine tot_oif (iv_oO h_T k_o (by decide) (by decide) rfl) ?_
    refine tot_let (fun T_7 e_T_7 => ?_)
    have h_T_7 : IV R B K1 K2 T_7 := by rw [e_T_7]; exact iv_uI (a := 0) (b := 1001) h_T k_o (by decide) (by decide) rfl (by omega) (.inl rfl)
    have x_T_7 := x_T.tr (fw_uI e_T_7 k_o (by decide))
    have f_T_7_o_1 : (T_7.2.2.1 o 1).toInt = (v_6 : Int32).toInt := by rw [e_T_7]; exact congrArg Int32.toInt (uI_at _ _ _ _)
    exact tot_some ⟨⟨h_T_7, x_T_7⟩, fun _ => (show (a0.toInt = 0) from by omega)⟩
  · replace c_4 := i_ne c_4
    refine tot_oif (iv_oO h_T k_o (by decide) (by decide) rfl) ?_
    refine tot_let (fun v_1 e_v_1 => ?_)
    have q_v_1 := i_eq e_v_1
    have r_v_1 : 0 ≤ v_1.toInt ∧ v_1.toInt ≤ 1001 := iv_int h_T k_o (by decide) (by decide) e_v_1 rfl
    refine tot_oif (iv_oO h_T k_o (by decide) (by decide) rfl) ?_
    refine tot_thri (R := R) (W := [98, 99]) (Q := fun r_2 : Int32 => (False)) (cs_X3_failAt T o v_1 a1 h_T k_o (by omega) (by omega)) (fun r_2 T_3 i_T_3 y_T_3 d_r_2 => ?_) (fun k_ U_ i_ y_ => ⟨⟨i_, x_T.tr (y_.w (by decide))⟩, fun q_ => absurd q_ (Nat.succ_ne_zero k_)⟩)
    have h_T_3 : IV R B K1 K2 T_3 := i_T_3
    have x_T_3 := x_T.tr (y_T_3.w (by decide))
    have f_T_3_o_1 : (T_3.2.2.1 o 1).toInt = (T.2.2.1 o 1).toInt := congrArg Int32.toInt (y_T_3 o 1 (by rw [k_o]; decide))
    replace d_r_2 : (False) := d_r_2
    exact d_r_2.elim
set_option maxHeartbeats 4000000 in
set_option maxRecDepth 10000 in
theorem cs_X3_parseOff {R : Nat → Nat} {B K1 K2 : Nat} (T : AT) (o : Nat) (a0 : Nat) (h_T : IV R B K1 K2 T) (k_o : R o = 3) (k_a0 : R a0 = 6) (g0 : (T.2.2.1 o 1).toInt ≤ 1000) : Tot (g_X3_parseOff T o a0) (fun r => (IV R B K1 K2 r.2.2 ∧ FW R [97, 98, 99, 233] T r.2.2) ∧ (r.1 = 0 → (0 ≤ r.2.1.toInt ∧ r.2.1.toInt ≤ 0))) := by
  have z0 : ((0 : Int32) : Int32).toInt = 0 := by decide
  have z1 : ((3 : Int32) : Int32).toInt = 3 := by decide
  have z2 : (1 : Int32).toInt = 1 := by decide
  have z3 : (0 : Int32).toInt = 0 := by decide
  have cc_101 : cnt 101 = 1 := rfl
  have cc_102 : cnt 102 = 12 := rfl
  have cc_103 : cnt 103 = 144 := rfl
  have cc_104 : cnt 104 = 2400 := rfl
  have cc_105 : cnt 105 = 7200 := rfl
  have x_T : FW R [97, 98, 99, 233] T T := FW.rf
  unfold g_X3_parseOff
  refine tot_oif (iv_oO h_T k_o (by decide) (by decide) rfl) ?_
  refine tot_thri (R := R) (W := [97, 98, 99]) (Q := fun r_1 : Int32 => (((0 : Int32) : Int32).toInt = 0)) (cs_X3_startLine T o (0 : Int32) (3 : Int32) h_T k_o (by omega) (by omega) (by omega)) (fun r_1 T_2 i_T_2 y_T_2 d_r_1 => ?_) (fun k_ U_ i_ y_ => ⟨⟨i_, x_T.tr (y_.w (by decide))⟩, fun q_ => absurd q_ (Nat.succ_ne_zero k_)⟩)
  have h_T_2 : IV R B K1 K2 T_2 := i_T_2
  have x_T_2 := x_T.tr (y_T_2.w (by decide))
  replace d_r_1 : (((0 : Int32) : Int32).toInt = 0) := d_r_1
  refine tot_oif (iv_oO h_T_2 k_a0 (by decide) (by decide) rfl) ?_
  refine tot_let (fun v_3 e_v_3 => ?_)
  have r_v_3 : 0 ≤ v_3.toInt ∧ v_3.toInt ≤ 6 := iv_int h_T_2 k_a0 (by decide) (by decide) e_v_3 rfl
  refine tot_let (fun v_4 e_v_4 => ?_)
  have q_v_4 := i_sub e_v_4 (by omega) (by omega)
  refine tot_oif (iv_oO h_T_2 k_o (by decide) (by decide) rfl) ?_
  refine tot_thri (R := R) (W := [97, 98, 99]) (Q := fun r_5 : Int32 => (((0 : Int32) : Int32).toInt ≤ r_5.toInt ∧ r_5.toInt ≤ v_4.toInt)) (cs_X3_number T_2 o (0 : Int32) v_4 h_T_2 k_o ) (fun r_5 T_6 i_T_6 y_T_6 d_r_5 => ?_) (fun k_ U_ i_ y_ => ⟨⟨i_, x_T_2.tr (y_.w (by decide))⟩, fun q_ => absurd q_ (Nat.succ_ne_zero k_)⟩)
  have h_T_6 : IV R B K1 K2 T_6 := i_T_6
  have x_T_6 := x_T_2.tr (y_T_6.w (by decide))
  replace d_r_5 : (((0 : Int32) : Int32).toInt ≤ r_5.toInt ∧ r_5.toInt ≤ v_4.toInt) := d_r_5
  refine tot_oif (iv_oO h_T_6 k_a0 (by decide) (by decide) rfl) ?_
  refine tot_ref h_T_6 k_a0 (by decide) (by decide) (r2 := 54) (rfl : rtg 6 7 = 54) (by decide) (fun n_7 k_n_7 e_n_7 => ?_)
  refine tot_oif (iv_aA h_T_6 k_n_7 (by decide) (by decide) rfl rfl) ?_
  refine tot_oif (by rw [iv_len h_T_6 k_n_7 (by decide) (by decide) (rfl : shp 54 = (104, 6))]; exact i_inb (by omega) (by omega)) ?_
  refine tot_ref h_T_6 k_n_7 (by decide) (by decide) (r2 := 7) (rt_54 (by omega) (by omega)) (by decide) (fun n_8 k_n_8 e_n_8 => ?_)
  refine tot_oif (iv_oO h_T_6 k_n_8 (by decide) (by decide) rfl) ?_
  refine tot_let (fun v_9 e_v_9 => ?_)
  have r_v_9 : 0 ≤ v_9.toInt ∧ v_9.toInt ≤ 1 := iv_int h_T_6 k_n_8 (by decide) (by decide) e_v_9 rfl
  refine tot_if (fun c_14 => ?_) (fun c_14 => ?_)
  · replace c_14 := i_eq c_14
    unfold g_X3_parseOff_b41
    refine tot_oif (iv_oO h_T_6 k_a0 (by decide) (by decide) rfl) ?_
    refine tot_ref1 e_n_7 ?_
    refine tot_oif (iv_aA h_T_6 k_n_7 (by decide) (by decide) rfl rfl) ?_
    refine tot_oif (by rw [iv_len h_T_6 k_n_7 (by decide) (by decide) (rfl : shp 54 = (104, 6))]; exact i_inb (by omega) (by omega)) ?_
    refine tot_ref1 e_n_8 ?_
    refine tot_oif (iv_oO h_T_6 k_n_8 (by decide) (by decide) rfl) ?_
    refine tot_let (fun T_17 e_T_17 => ?_)
    have h_T_17 : IV R B K1 K2 T_17 := by rw [e_T_17]; exact iv_uI (a := 0) (b := 1) h_T_6 k_n_8 (by decide) (by decide) rfl (by omega) (.inl rfl)
    have x_T_17 := x_T_6.tr (fw_uI e_T_17 k_n_8 (by decide))
    have f_T_17_o_1 : (T_17.2.2.1 o 1).toInt = (T_6.2.2.1 o 1).toInt := congrArg Int32.toInt ((fw_uI (W := [233]) e_T_17 k_n_8 (by decide)) o 1 (by rw [k_o]; decide))
    exact tot_some ⟨⟨h_T_17, x_T_17⟩, fun _ => (show (0 ≤ (0 : Int32).toInt ∧ (0 : Int32).toInt ≤ 0) from by omega)⟩
  · replace c_14 := i_ne c_14
    refine tot_oif (iv_oO h_T_6 k_o (by decide) (by decide) rfl) ?_
    refine tot_let (fun v_10 e_v_10 => ?_)
    have q_v_10 := i_eq e_v_10
    have r_v_10 : 0 ≤ v_10.toInt ∧ v_10.toInt ≤ 1001 := iv_int h_T_6 k_o (by decide) (by decide) e_v_10 rfl
    refine tot_let (fun v_11 e_v_11 => ?_)
    have q_v_11 := i_sub e_v_11 (by omega) (by omega)
    refine tot_oif (iv_oO h_T_6 k_o (by decide) (by decide) rfl) ?_
    refine tot_thri (R := R) (W := [98, 99]) (Q := fun r_12 : Int32 => (False)) (cs_X3_failAt T_6 o v_11 (3 : Int32) h_T_6 k_o (by omega) (by omega)) (fun r_12 T_13 i_T_13 y_T_13 d_r_12 => ?_) (fun k_ U_ i_ y_ => ⟨⟨i_, x_T_6.tr (y_.w (by decide))⟩, fun q_ => absurd q_ (Nat.succ_ne_zero k_)⟩)
    have h_T_13 : IV R B K1 K2 T_13 := i_T_13
    have x_T_13 := x_T_6.tr (y_T_13.w (by decide))
    have f_T_13_o_1 : (T_13.2.2.1 o 1).toInt = (T_6.2.2.1 o 1).toInt := congrArg Int32.toInt (y_T_13 o 1 (by rw [k_o]; decide))
    replace d_r_12 : (False) := d_r_12
    exact d_r_12.elim
set_option maxHeartbeats 4000000 in
set_option maxRecDepth 10000 in
theorem cs_X6_addShade {R : Nat → Nat} {B K1 K2 : Nat} (T : AT) (o : Nat) (a0 : Int32) (h_T : IV R B K1 K2 T) (k_o : R o = 6) (g0 : 0 ≤ a0.toInt ∧ a0.toInt ≤ 9) : Tot (g_X6_addShade T o a0) (fun T1 => IV R B K1 K2 T1 ∧ FW R [208, 1856] T T1) := by
  have z0 : (12 : Int32).toInt = 12 := by decide
  have z1 : (1 : Int32).toInt = 1 := by decide
  have cc_101 : cnt 101 = 1 := rfl
  have cc_102 : cnt 102 = 12 := rfl
  have cc_103 : cnt 103 = 144 := rfl
  have cc_104 : cnt 104 = 2400 := rfl
  have cc_105 : cnt 105 = 7200 := rfl
  have x_T : FW R [208, 1856] T T := FW.rf
  have j_a0 := i_any a0
  unfold g_X6_addShade
  refine tot_oif (iv_oO h_T k_o (by decide) (by decide) rfl) ?_
  refine tot_let (fun v_1 e_v_1 => ?_)
  have q_v_1 := i_eq e_v_1
  have r_v_1 : 0 ≤ v_1.toInt ∧ v_1.toInt ≤ 12 := iv_int h_T k_o (by decide) (by decide) e_v_1 rfl
  refine tot_if (fun c_8 => ?_) (fun c_8 => ?_)
  · replace c_8 := i_le c_8
    unfold g_X6_addShade_b29
    exact tot_some ⟨h_T, x_T⟩
  · replace c_8 := i_nle c_8
    refine tot_oif (iv_oO h_T k_o (by decide) (by decide) rfl) ?_
    refine tot_ref h_T k_o (by decide) (by decide) (r2 := 58) (rfl : rtg 6 15 = 58) (by decide) (fun n_2 k_n_2 e_n_2 => ?_)
    refine tot_oif (iv_oO h_T k_o (by decide) (by decide) rfl) ?_
    refine tot_let (fun v_3 e_v_3 => ?_)
    have u_v_3 : v_3.toInt = v_1.toInt := by rw [e_v_3, e_v_1]
    have q_v_3 := i_eq e_v_3
    have r_v_3 : 0 ≤ v_3.toInt ∧ v_3.toInt ≤ 12 := iv_int h_T k_o (by decide) (by decide) e_v_3 rfl
    refine tot_oif (iv_aA h_T k_n_2 (by decide) (by decide) rfl rfl) ?_
    refine tot_oif (by rw [iv_len h_T k_n_2 (by decide) (by decide) (rfl : shp 58 = (100, 12))]; exact i_inb (by omega) (by omega)) ?_
    refine tot_let (fun T_4 e_T_4 => ?_)
    have h_T_4 : IV R B K1 K2 T_4 := by rw [e_T_4]; exact iv_uI (a := 0) (b := 9) h_T k_n_2 (by decide) (by decide) rfl (by omega) (.inl rfl)
    have x_T_4 := x_T.tr (fw_uA e_T_4 k_n_2 rfl rfl (by decide))
    have f_T_4_o_16 : (T_4.2.2.1 o 16).toInt = (T.2.2.1 o 16).toInt := congrArg Int32.toInt ((fw_uA (W := [1856]) e_T_4 k_n_2 rfl rfl (by decide)) o 16 (by rw [k_o]; decide))
    refine tot_oif (iv_oO h_T_4 k_o (by decide) (by decide) rfl) ?_
    refine tot_let (fun v_5 e_v_5 => ?_)
    have q_v_5 := i_eq e_v_5
    have r_v_5 : 0 ≤ v_5.toInt ∧ v_5.toInt ≤ 12 := iv_int h_T_4 k_o (by decide) (by decide) e_v_5 rfl
    refine tot_let (fun v_6 e_v_6 => ?_)
    have q_v_6 := i_add e_v_6 (by omega) (by omega)
    refine tot_oif (iv_oO h_T_4 k_o (by decide) (by decide) rfl) ?_
    refine tot_let (fun T_7 e_T_7 => ?_)
    have h_T_7 : IV R B K1 K2 T_7 := by rw [e_T_7]; exact iv_uI (a := 0) (b := 12) h_T_4 k_o (by decide) (by decide) rfl (by omega) (.inl rfl)
    have x_T_7 := x_T_4.tr (fw_uI e_T_7 k_o (by decide))
    have f_T_7_o_16 : (T_7.2.2.1 o 16).toInt = (v_6 : Int32).toInt := by rw [e_T_7]; exact congrArg Int32.toInt (uI_at _ _ _ _)
    unfold g_X6_addShade_b29
    exact tot_some ⟨h_T_7, x_T_7⟩
set_option maxHeartbeats 4000000 in
set_option maxRecDepth 10000 in
theorem cs_X3_failAsTooMany {R : Nat → Nat} {B K1 K2 : Nat} (T : AT) (o : Nat) (a0 : Int32) (h_T : IV R B K1 K2 T) (k_o : R o = 3) (g0 : 9 ≤ a0.toInt ∧ a0.toInt ≤ 9) : Tot (g_X3_failAsTooMany T o a0) (fun r => (IV R B K1 K2 r.2.2 ∧ FW R [98, 99] T r.2.2) ∧ (r.1 = 0 → (False))) := by
  have z0 : (2 : Int32).toInt = 2 := by decide
  have z1 : (4 : Int32).toInt = 4 := by decide
  have cc_101 : cnt 101 = 1 := rfl
  have cc_102 : cnt 102 = 12 := rfl
  have cc_103 : cnt 103 = 144 := rfl
  have cc_104 : cnt 104 = 2400 := rfl
  have cc_105 : cnt 105 = 7200 := rfl
  have x_T : FW R [98, 99] T T := FW.rf
  have j_a0 := i_any a0
  unfold g_X3_failAsTooMany
  refine tot_oif (iv_oO h_T k_o (by decide) (by decide) rfl) ?_
  refine tot_let (fun v_1 e_v_1 => ?_)
  have q_v_1 := i_eq e_v_1
  have r_v_1 : 0 ≤ v_1.toInt ∧ v_1.toInt ≤ 1001 := iv_int h_T k_o (by decide) (by decide) e_v_1 rfl
  refine tot_oif (iv_oO h_T k_o (by decide) (by decide) rfl) ?_
  refine tot_bindq (R := fun r_2 : Int32 => (r_2.toInt = 5 ∨ (T.2.2.1 o 1).toInt ≤ 1000)) (cs_X3_kind T o h_T k_o ) (fun r_2 d_r_2 => ?_)
  replace d_r_2 : (r_2.toInt = 5 ∨ (T.2.2.1 o 1).toInt ≤ 1000) := d_r_2
  refine tot_if (fun c_6 => ?_) (fun c_6 => ?_)
  · replace c_6 := i_eq c_6
    refine tot_oif (iv_oO h_T k_o (by decide) (by decide) rfl) ?_
    refine tot_bindq (R := fun r_4 : Int32 => True) (cs_X3_value T o h_T k_o (by omega)) (fun r_4 d_r_4 => ?_)
    have r_r_4 := i_any r_4
    refine tot_if (fun c_7 => ?_) (fun c_7 => ?_)
    · replace c_7 := i_le c_7
      unfold g_X3_failAsTooMany_b25
      unfold g_X3_failAsTooMany_b26
      refine tot_oif (iv_oO h_T k_o (by decide) (by decide) rfl) ?_
      refine tot_thri (R := R) (W := [98, 99]) (Q := fun r_8 : Int32 => (False)) (cs_X3_failAt T o v_1 4 h_T k_o (by omega) (by omega)) (fun r_8 T_9 i_T_9 y_T_9 d_r_8 => ?_) (fun k_ U_ i_ y_ => ⟨⟨i_, x_T.tr (y_.w (by decide))⟩, fun q_ => absurd q_ (Nat.succ_ne_zero k_)⟩)
      have h_T_9 : IV R B K1 K2 T_9 := i_T_9
      have x_T_9 := x_T.tr (y_T_9.w (by decide))
      have f_T_9_o_1 : (T_9.2.2.1 o 1).toInt = (T.2.2.1 o 1).toInt := congrArg Int32.toInt (y_T_9 o 1 (by rw [k_o]; decide))
      replace d_r_8 : (False) := d_r_8
      exact d_r_8.elim
    · replace c_7 := i_nle c_7
      unfold g_X3_failAsTooMany_b26
      refine tot_oif (iv_oO h_T k_o (by decide) (by decide) rfl) ?_
      refine tot_thri (R := R) (W := [98, 99]) (Q := fun r_10 : Int32 => (False)) (cs_X3_failAt T o v_1 2 h_T k_o (by omega) (by omega)) (fun r_10 T_11 i_T_11 y_T_11 d_r_10 => ?_) (fun k_ U_ i_ y_ => ⟨⟨i_, x_T.tr (y_.w (by decide))⟩, fun q_ => absurd q_ (Nat.succ_ne_zero k_)⟩)
      have h_T_11 : IV R B K1 K2 T_11 := i_T_11
      have x_T_11 := x_T.tr (y_T_11.w (by decide))
      have f_T_11_o_1 : (T_11.2.2.1 o 1).toInt = (T.2.2.1 o 1).toInt := congrArg Int32.toInt (y_T_11 o 1 (by rw [k_o]; decide))
      replace d_r_10 : (False) := d_r_10
      exact d_r_10.elim
  · replace c_6 := i_ne c_6
    unfold g_X3_failAsTooMany_b25
    unfold g_X3_failAsTooMany_b26
    refine tot_oif (iv_oO h_T k_o (by decide) (by decide) rfl) ?_
    refine tot_thri (R := R) (W := [98, 99]) (Q := fun r_12 : Int32 => (False)) (cs_X3_failAt T o v_1 4 h_T k_o (by omega) (by omega)) (fun r_12 T_13 i_T_13 y_T_13 d_r_12 => ?_) (fun k_ U_ i_ y_ => ⟨⟨i_, x_T.tr (y_.w (by decide))⟩, fun q_ => absurd q_ (Nat.succ_ne_zero k_)⟩)
    have h_T_13 : IV R B K1 K2 T_13 := i_T_13
    have x_T_13 := x_T.tr (y_T_13.w (by decide))
    have f_T_13_o_1 : (T_13.2.2.1 o 1).toInt = (T.2.2.1 o 1).toInt := congrArg Int32.toInt (y_T_13 o 1 (by rw [k_o]; decide))
    replace d_r_12 : (False) := d_r_12
    exact d_r_12.elim
set_option maxHeartbeats 4000000 in
set_option maxRecDepth 10000 in
theorem cl_X3_parseShade_b30 {R : Nat → Nat} {B K1 K2 : Nat} {Q : Nat × Int32 × AT → Prop} (l0 : Nat) (l1 : Nat) (T00 : AT) (k_l0 : R l0 = 3) (k_l1 : R l1 = 6) (hthr : ∀ (k : Nat) (U : AT), IV R B K1 K2 U → FW R [97, 98, 99, 208, 1856] T00 U → Q (k + 1, 0, U)) (hx0 : ∀ (T : AT), (IV R B K1 K2 T) → (FW R [97, 98, 99, 208, 1856] T00 T) → Tot (g_X3_parseShade_b73 T) Q) : ∀ (n : Nat) (T : AT) (l2 : Int32), (IV R B K1 K2 T) → (FW R [97, 98, 99, 208, 1856] T00 T) → (1 ≤ l2.toInt ∧ l2.toInt ≤ 12) → 12 - l2.toInt < (n : Int) → Tot (g_X3_parseShade_b30 n T l0 l1 l2) Q := by
  have z0 : (12 : Int32).toInt = 12 := by decide
  have z1 : (2 : Int32).toInt = 2 := by decide
  have z2 : ((9 : Int32) : Int32).toInt = 9 := by decide
  have z3 : ((0 : Int32) : Int32).toInt = 0 := by decide
  have z4 : (Int32.ofInt (1) : Int32).toInt = 1 := by decide
  have cc_101 : cnt 101 = 1 := rfl
  have cc_102 : cnt 102 = 12 := rfl
  have cc_103 : cnt 103 = 144 := rfl
  have cc_104 : cnt 104 = 2400 := rfl
  have cc_105 : cnt 105 = 7200 := rfl
  intro n
  induction n with
  | zero =>
    intro T l2 h_T x_T g_l2 hm
    exfalso
    omega
  | succ n ih =>
    intro T l2 h_T x_T g_l2 hm
    unfold g_X3_parseShade_b30
    refine tot_if (fun c_36 => ?_) (fun c_36 => ?_)
    · replace c_36 := i_lt c_36
      exfalso
      omega
    · replace c_36 := i_nlt c_36
      refine tot_oif (iv_oO h_T k_l0 (by decide) (by decide) rfl) ?_
      refine tot_bindq (R := fun r_32 : Int32 => (r_32.toInt = 5 ∨ (T.2.2.1 l0 1).toInt ≤ 1000)) (cs_X3_kind T l0 h_T k_l0 ) (fun r_32 d_r_32 => ?_)
      replace d_r_32 : (r_32.toInt = 5 ∨ (T.2.2.1 l0 1).toInt ≤ 1000) := d_r_32
      refine tot_if (fun c_37 => ?_) (fun c_37 => ?_)
      · replace c_37 := i_eq c_37
        refine tot_if (fun c_38 => ?_) (fun c_38 => ?_)
        · replace c_38 := i_eq c_38
          refine tot_oif (iv_oO h_T k_l0 (by decide) (by decide) rfl) ?_
          refine tot_thri (R := R) (W := [98, 99]) (Q := fun r_34 : Int32 => (False)) (cs_X3_failAsTooMany T l0 (9 : Int32) h_T k_l0 (by omega)) (fun r_34 T_35 i_T_35 y_T_35 d_r_34 => ?_) (fun k_ U_ i_ y_ => hthr _ _ i_ (x_T.tr (y_.w (by decide))))
          have h_T_35 : IV R B K1 K2 T_35 := i_T_35
          have x_T_35 := x_T.tr (y_T_35.w (by decide))
          have f_T_35_l0_1 : (T_35.2.2.1 l0 1).toInt = (T.2.2.1 l0 1).toInt := congrArg Int32.toInt (y_T_35 l0 1 (by rw [k_l0]; decide))
          replace d_r_34 : (False) := d_r_34
          exact d_r_34.elim
        · replace c_38 := i_ne c_38
          unfold g_X3_parseShade_b56
          refine tot_oif (iv_oO h_T k_l0 (by decide) (by decide) rfl) ?_
          refine tot_thri (R := R) (W := [97, 98, 99]) (Q := fun r_39 : Int32 => (((0 : Int32) : Int32).toInt ≤ r_39.toInt ∧ r_39.toInt ≤ ((9 : Int32) : Int32).toInt)) (cs_X3_number T l0 (0 : Int32) (9 : Int32) h_T k_l0 ) (fun r_39 T_40 i_T_40 y_T_40 d_r_39 => ?_) (fun k_ U_ i_ y_ => hthr _ _ i_ (x_T.tr (y_.w (by decide))))
          have h_T_40 : IV R B K1 K2 T_40 := i_T_40
          have x_T_40 := x_T.tr (y_T_40.w (by decide))
          replace d_r_39 : (((0 : Int32) : Int32).toInt ≤ r_39.toInt ∧ r_39.toInt ≤ ((9 : Int32) : Int32).toInt) := d_r_39
          refine tot_oif (iv_oO h_T_40 k_l1 (by decide) (by decide) rfl) ?_
          refine tot_bind (cs_X6_addShade T_40 l1 r_39 h_T_40 k_l1 (by omega)) (fun T_41 d_T_41 => ?_)
          have h_T_41 : IV R B K1 K2 T_41 := d_T_41.1
          have y_T_41 : FW R [208, 1856] T_40 T_41 := d_T_41.2
          have x_T_41 := x_T_40.tr (y_T_41.w (by decide))
          have f_T_41_l0_1 : (T_41.2.2.1 l0 1).toInt = (T_40.2.2.1 l0 1).toInt := congrArg Int32.toInt (y_T_41 l0 1 (by rw [k_l0]; decide))
          refine tot_let (fun v_42 e_v_42 => ?_)
          have q_v_42 := i_add e_v_42 (by omega) (by omega)
          exact ih T_41 v_42 h_T_41 x_T_41 (by omega) (by omega)
      · replace c_37 := i_ne c_37
        exact hx0 T h_T x_T
set_option maxHeartbeats 4000000 in
set_option maxRecDepth 10000 in
theorem cs_X3_parseShade {R : Nat → Nat} {B K1 K2 : Nat} (T : AT) (o : Nat) (a0 : Nat) (h_T : IV R B K1 K2 T) (k_o : R o = 3) (k_a0 : R a0 = 6) (g0 : (T.2.2.1 o 1).toInt ≤ 1000) : Tot (g_X3_parseShade T o a0) (fun r => (IV R B K1 K2 r.2.2 ∧ FW R [97, 98, 99, 208, 1856] T r.2.2) ∧ (r.1 = 0 → (0 ≤ r.2.1.toInt ∧ r.2.1.toInt ≤ 0))) := by
  have z0 : (0 : Int32).toInt = 0 := by decide
  have z1 : ((3 : Int32) : Int32).toInt = 3 := by decide
  have z2 : ((0 : Int32) : Int32).toInt = 0 := by decide
  have z3 : ((9 : Int32) : Int32).toInt = 9 := by decide
  have z4 : (1 : Int32).toInt = 1 := by decide
  have cc_101 : cnt 101 = 1 := rfl
  have cc_102 : cnt 102 = 12 := rfl
  have cc_103 : cnt 103 = 144 := rfl
  have cc_104 : cnt 104 = 2400 := rfl
  have cc_105 : cnt 105 = 7200 := rfl
  have x_T : FW R [97, 98, 99, 208, 1856] T T := FW.rf
  unfold g_X3_parseShade
  refine tot_oif (iv_oO h_T k_a0 (by decide) (by decide) rfl) ?_
  refine tot_let (fun v_1 e_v_1 => ?_)
  have r_v_1 : 0 ≤ v_1.toInt ∧ v_1.toInt ≤ 12 := iv_int h_T k_a0 (by decide) (by decide) e_v_1 rfl
  refine tot_if (fun c_2 => ?_) (fun c_2 => ?_)
  · replace c_2 := i_le c_2
    unfold g_X3_parseShade_b13
    refine tot_oif (iv_oO h_T k_o (by decide) (by decide) rfl) ?_
    refine tot_thri (R := R) (W := [97, 98, 99]) (Q := fun r_3 : Int32 => ((0 : Int32).toInt = 0)) (cs_X3_startLine T o 0 (3 : Int32) h_T k_o (by omega) (by omega) (by omega)) (fun r_3 T_4 i_T_4 y_T_4 d_r_3 => ?_) (fun k_ U_ i_ y_ => ⟨⟨i_, x_T.tr (y_.w (by decide))⟩, fun q_ => absurd q_ (Nat.succ_ne_zero k_)⟩)
    have h_T_4 : IV R B K1 K2 T_4 := i_T_4
    have x_T_4 := x_T.tr (y_T_4.w (by decide))
    replace d_r_3 : ((0 : Int32).toInt = 0) := d_r_3
    refine tot_oif (iv_oO h_T_4 k_o (by decide) (by decide) rfl) ?_
    refine tot_thri (R := R) (W := [97, 98, 99]) (Q := fun r_5 : Int32 => (((0 : Int32) : Int32).toInt ≤ r_5.toInt ∧ r_5.toInt ≤ ((9 : Int32) : Int32).toInt)) (cs_X3_number T_4 o (0 : Int32) (9 : Int32) h_T_4 k_o ) (fun r_5 T_6 i_T_6 y_T_6 d_r_5 => ?_) (fun k_ U_ i_ y_ => ⟨⟨i_, x_T_4.tr (y_.w (by decide))⟩, fun q_ => absurd q_ (Nat.succ_ne_zero k_)⟩)
    have h_T_6 : IV R B K1 K2 T_6 := i_T_6
    have x_T_6 := x_T_4.tr (y_T_6.w (by decide))
    replace d_r_5 : (((0 : Int32) : Int32).toInt ≤ r_5.toInt ∧ r_5.toInt ≤ ((9 : Int32) : Int32).toInt) := d_r_5
    refine tot_oif (iv_oO h_T_6 k_a0 (by decide) (by decide) rfl) ?_
    refine tot_bind (cs_X6_addShade T_6 a0 r_5 h_T_6 k_a0 (by omega)) (fun T_7 d_T_7 => ?_)
    have h_T_7 : IV R B K1 K2 T_7 := d_T_7.1
    have y_T_7 : FW R [208, 1856] T_6 T_7 := d_T_7.2
    have x_T_7 := x_T_6.tr (y_T_7.w (by decide))
    have f_T_7_o_1 : (T_7.2.2.1 o 1).toInt = (T_6.2.2.1 o 1).toInt := congrArg Int32.toInt (y_T_7 o 1 (by rw [k_o]; decide))
    refine cl_X3_parseShade_b30 o a0 T k_o k_a0 (fun k_ U_ i_ x_ => ⟨⟨i_, x_⟩, fun q_ => absurd q_ (Nat.succ_ne_zero k_)⟩) ?_ 16384 T_7 1 h_T_7 x_T_7 (by omega) (by omega)
    · intro T_43 h_T_43 x_T_43
      unfold g_X3_parseShade_b73
      exact tot_some ⟨⟨h_T_43, x_T_43⟩, fun _ => (show (0 ≤ (0 : Int32).toInt ∧ (0 : Int32).toInt ≤ 0) from by omega)⟩
  · replace c_2 := i_nle c_2
    unfold g_X3_parseShade_b13
    refine tot_oif (iv_oO h_T k_o (by decide) (by decide) rfl) ?_
    refine tot_thri (R := R) (W := [97, 98, 99]) (Q := fun r_44 : Int32 => ((1 : Int32).toInt = 0)) (cs_X3_startLine T o 1 (3 : Int32) h_T k_o (by omega) (by omega) (by omega)) (fun r_44 T_45 i_T_45 y_T_45 d_r_44 => ?_) (fun k_ U_ i_ y_ => ⟨⟨i_, x_T.tr (y_.w (by decide))⟩, fun q_ => absurd q_ (Nat.succ_ne_zero k_)⟩)
    have h_T_45 : IV R B K1 K2 T_45 := i_T_45
    have x_T_45 := x_T.tr (y_T_45.w (by decide))
    replace d_r_44 : ((1 : Int32).toInt = 0) := d_r_44
    refine tot_oif (iv_oO h_T_45 k_o (by decide) (by decide) rfl) ?_
    refine tot_thri (R := R) (W := [97, 98, 99]) (Q := fun r_46 : Int32 => (((0 : Int32) : Int32).toInt ≤ r_46.toInt ∧ r_46.toInt ≤ ((9 : Int32) : Int32).toInt)) (cs_X3_number T_45 o (0 : Int32) (9 : Int32) h_T_45 k_o ) (fun r_46 T_47 i_T_47 y_T_47 d_r_46 => ?_) (fun k_ U_ i_ y_ => ⟨⟨i_, x_T_45.tr (y_.w (by decide))⟩, fun q_ => absurd q_ (Nat.succ_ne_zero k_)⟩)
    have h_T_47 : IV R B K1 K2 T_47 := i_T_47
    have x_T_47 := x_T_45.tr (y_T_47.w (by decide))
    replace d_r_46 : (((0 : Int32) : Int32).toInt ≤ r_46.toInt ∧ r_46.toInt ≤ ((9 : Int32) : Int32).toInt) := d_r_46
    refine tot_oif (iv_oO h_T_47 k_a0 (by decide) (by decide) rfl) ?_
    refine tot_bind (cs_X6_addShade T_47 a0 r_46 h_T_47 k_a0 (by omega)) (fun T_48 d_T_48 => ?_)
    have h_T_48 : IV R B K1 K2 T_48 := d_T_48.1
    have y_T_48 : FW R [208, 1856] T_47 T_48 := d_T_48.2
    have x_T_48 := x_T_47.tr (y_T_48.w (by decide))
    have f_T_48_o_1 : (T_48.2.2.1 o 1).toInt = (T_47.2.2.1 o 1).toInt := congrArg Int32.toInt (y_T_48 o 1 (by rw [k_o]; decide))
    refine cl_X3_parseShade_b30 o a0 T k_o k_a0 (fun k_ U_ i_ x_ => ⟨⟨i_, x_⟩, fun q_ => absurd q_ (Nat.succ_ne_zero k_)⟩) ?_ 16384 T_48 1 h_T_48 x_T_48 (by omega) (by omega)
    · intro T_49 h_T_49 x_T_49
      unfold g_X3_parseShade_b73
      exact tot_some ⟨⟨h_T_49, x_T_49⟩, fun _ => (show (0 ≤ (0 : Int32).toInt ∧ (0 : Int32).toInt ≤ 0) from by omega)⟩
