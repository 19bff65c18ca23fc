set_option maxHeartbeats 4000000 in
set_option maxRecDepth 10000 in
theorem cs_X11_isMuted {R : Nat → Nat} {B K1 K2 : Nat} (T : AT) (o : Nat) (a0 : Int32) (h_T : IV R B K1 K2 T) (k_o : R o = 11) : Tot (g_X11_isMuted T o a0) (fun r => r.2.2 = T ∧ (r.1 = 0 → (0 ≤ r.2.1.toInt ∧ r.2.1.toInt ≤ 1))) := by
  have cc_101 : cnt 101 = 1 := rfl
  have cc_102 : cnt 102 = 12 := rfl
  have cc_103 : cnt 103 = 144 := rfl
  have cc_104 : cnt 104 = 2400 := rfl
  have cc_105 : cnt 105 = 7200 := rfl
  have j_a0 := i_any a0
  unfold g_X11_isMuted
  refine tot_oif (iv_oO h_T k_o (by decide) (by decide) rfl) ?_
  refine tot_thrp (Q := fun r_1 : Int32 => (0 ≤ r_1.toInt ∧ r_1.toInt ≤ 0)) (cs_X11_needCamera T o h_T k_o ) (fun r_1 d_r_1 => ?_) (fun k_ => ⟨rfl, fun q_ => absurd q_ (Nat.succ_ne_zero k_)⟩)
  replace d_r_1 : (0 ≤ r_1.toInt ∧ r_1.toInt ≤ 0) := d_r_1
  refine tot_oif (iv_oO h_T k_o (by decide) (by decide) rfl) ?_
  refine tot_thrp (Q := fun r_3 : Int32 => (0 ≤ a0.toInt ∧ a0.toInt ≤ 11)) (cs_X11_needMic T o a0 h_T k_o ) (fun r_3 d_r_3 => ?_) (fun k_ => ⟨rfl, fun q_ => absurd q_ (Nat.succ_ne_zero k_)⟩)
  replace d_r_3 : (0 ≤ a0.toInt ∧ a0.toInt ≤ 11) := d_r_3
  refine tot_oif (iv_oO h_T k_o (by decide) (by decide) rfl) ?_
  refine tot_ref h_T k_o (by decide) (by decide) (r2 := 8) (rfl : rtg 11 6 = 8) (by decide) (fun n_5 k_n_5 e_n_5 => ?_)
  refine tot_oif (iv_oO h_T k_n_5 (by decide) (by decide) rfl) ?_
  refine tot_ref h_T k_n_5 (by decide) (by decide) (r2 := 62) (rfl : rtg 8 3 = 62) (by decide) (fun n_6 k_n_6 e_n_6 => ?_)
  refine tot_oif (iv_aA h_T k_n_6 (by decide) (by decide) rfl rfl) ?_
  refine tot_oif (by rw [iv_len h_T k_n_6 (by decide) (by decide) (rfl : shp 62 = (102, 12))]; exact i_inb (by omega) (by omega)) ?_
  refine tot_let (fun v_7 e_v_7 => ?_)
  have r_v_7 : 0 ≤ v_7.toInt ∧ v_7.toInt ≤ 1 := iv_int h_T k_n_6 (by decide) (by decide) e_v_7 rfl
  refine tot_oif (i_b01 (by omega)) ?_
  exact tot_some ⟨rfl, fun _ => (show (0 ≤ v_7.toInt ∧ v_7.toInt ≤ 1) from by omega)⟩
set_option maxHeartbeats 4000000 in
set_option maxRecDepth 10000 in
theorem cs_X11_columns {R : Nat → Nat} {B K1 K2 : Nat} (T : AT) (o : Nat) (h_T : IV R B K1 K2 T) (k_o : R o = 11) : Tot (g_X11_columns T o) (fun r => r.2 = T ∧ (0 ≤ r.1.toInt ∧ r.1.toInt ≤ 12)) := by
  have cc_101 : cnt 101 = 1 := rfl
  have cc_102 : cnt 102 = 12 := rfl
  have cc_103 : cnt 103 = 144 := rfl
  have cc_104 : cnt 104 = 2400 := rfl
  have cc_105 : cnt 105 = 7200 := rfl
  unfold g_X11_columns
  refine tot_oif (iv_oO h_T k_o (by decide) (by decide) rfl) ?_
  refine tot_ref h_T k_o (by decide) (by decide) (r2 := 6) (rfl : rtg 11 14 = 6) (by decide) (fun n_1 k_n_1 e_n_1 => ?_)
  refine tot_oif (iv_oO h_T k_n_1 (by decide) (by decide) rfl) ?_
  refine tot_ref h_T k_n_1 (by decide) (by decide) (r2 := 1) (rfl : rtg 6 6 = 1) (by decide) (fun n_2 k_n_2 e_n_2 => ?_)
  refine tot_oif (iv_oO h_T k_n_2 (by decide) (by decide) rfl) ?_
  refine tot_let (fun v_3 e_v_3 => ?_)
  have r_v_3 : 0 ≤ v_3.toInt ∧ v_3.toInt ≤ 12 := iv_int h_T k_n_2 (by decide) (by decide) e_v_3 rfl
  exact tot_some ⟨rfl, (show (0 ≤ v_3.toInt ∧ v_3.toInt ≤ 12) from by omega)⟩
set_option maxHeartbeats 4000000 in
set_option maxRecDepth 10000 in
theorem cs_X11_rows {R : Nat → Nat} {B K1 K2 : Nat} (T : AT) (o : Nat) (h_T : IV R B K1 K2 T) (k_o : R o = 11) : Tot (g_X11_rows T o) (fun r => r.2 = T ∧ (0 ≤ r.1.toInt ∧ r.1.toInt ≤ 12)) := by
  have cc_101 : cnt 101 = 1 := rfl
  have cc_102 : cnt 102 = 12 := rfl
  have cc_103 : cnt 103 = 144 := rfl
  have cc_104 : cnt 104 = 2400 := rfl
  have cc_105 : cnt 105 = 7200 := rfl
  unfold g_X11_rows
  refine tot_oif (iv_oO h_T k_o (by decide) (by decide) rfl) ?_
  refine tot_ref h_T k_o (by decide) (by decide) (r2 := 6) (rfl : rtg 11 14 = 6) (by decide) (fun n_1 k_n_1 e_n_1 => ?_)
  refine tot_oif (iv_oO h_T k_n_1 (by decide) (by decide) rfl) ?_
  refine tot_ref h_T k_n_1 (by decide) (by decide) (r2 := 1) (rfl : rtg 6 6 = 1) (by decide) (fun n_2 k_n_2 e_n_2 => ?_)
  refine tot_oif (iv_oO h_T k_n_2 (by decide) (by decide) rfl) ?_
  refine tot_let (fun v_3 e_v_3 => ?_)
  have r_v_3 : 0 ≤ v_3.toInt ∧ v_3.toInt ≤ 12 := iv_int h_T k_n_2 (by decide) (by decide) e_v_3 rfl
  exact tot_some ⟨rfl, (show (0 ≤ v_3.toInt ∧ v_3.toInt ≤ 12) from by omega)⟩
set_option maxHeartbeats 4000000 in
set_option maxRecDepth 10000 in
theorem cs_X11_needCell {R : Nat → Nat} {B K1 K2 : Nat} (T : AT) (o : Nat) (a0 : Int32) (h_T : IV R B K1 K2 T) (k_o : R o = 11) : Tot (g_X11_needCell T o a0) (fun r => r.2.2 = T ∧ (r.1 = 0 → (0 ≤ a0.toInt ∧ a0.toInt ≤ 143))) := by
  have z0 : (0 : Int32).toInt = 0 := by decide
  have cc_101 : cnt 101 = 1 := rfl
  have cc_102 : cnt 102 = 12 := rfl
  have cc_103 : cnt 103 = 144 := rfl
  have cc_104 : cnt 104 = 2400 := rfl
  have cc_105 : cnt 105 = 7200 := rfl
  have j_a0 := i_any a0
  unfold g_X11_needCell
  refine tot_oif (iv_oO h_T k_o (by decide) (by decide) rfl) ?_
  refine tot_ref h_T k_o (by decide) (by decide) (r2 := 6) (rfl : rtg 11 14 = 6) (by decide) (fun n_1 k_n_1 e_n_1 => ?_)
  refine tot_oif (iv_oO h_T k_n_1 (by decide) (by decide) rfl) ?_
  refine tot_ref h_T k_n_1 (by decide) (by decide) (r2 := 1) (rfl : rtg 6 6 = 1) (by decide) (fun n_2 k_n_2 e_n_2 => ?_)
  refine tot_oif (iv_oO h_T k_n_2 (by decide) (by decide) rfl) ?_
  refine tot_bindq (R := fun r_3 : Int32 => (0 ≤ r_3.toInt ∧ r_3.toInt ≤ 144)) (cs_X1_cells T n_2 h_T k_n_2 ) (fun r_3 d_r_3 => ?_)
  replace d_r_3 : (0 ≤ r_3.toInt ∧ r_3.toInt ≤ 144) := d_r_3
  refine tot_thrp (Q := fun r_5 : Int32 => (0 ≤ a0.toInt ∧ a0.toInt < r_3.toInt)) (cs_X11_needIndex T a0 r_3 h_T ) (fun r_5 d_r_5 => ?_) (fun k_ => ⟨rfl, fun q_ => absurd q_ (Nat.succ_ne_zero k_)⟩)
  replace d_r_5 : (0 ≤ a0.toInt ∧ a0.toInt < r_3.toInt) := d_r_5
  exact tot_some ⟨rfl, fun _ => (show (0 ≤ a0.toInt ∧ a0.toInt ≤ 143) from by omega)⟩
set_option maxHeartbeats 4000000 in
set_option maxRecDepth 10000 in
theorem cs_X11_cellAt {R : Nat → Nat} {B K1 K2 : Nat} (T : AT) (o : Nat) (a0 : Int32) (a1 : Int32) (h_T : IV R B K1 K2 T) (k_o : R o = 11) : Tot (g_X11_cellAt T o a0 a1) (fun r => r.2.2 = T ∧ (r.1 = 0 → (-999 ≤ r.2.1.toInt ∧ r.2.1.toInt ≤ 15156))) := by
  have z0 : ((0 : Int32) : Int32).toInt = 0 := by decide
  have z1 : ((1 : Int32) : Int32).toInt = 1 := by decide
  have z2 : (0 : Int32).toInt = 0 := by decide
  have cc_101 : cnt 101 = 1 := rfl
  have cc_102 : cnt 102 = 12 := rfl
  have cc_103 : cnt 103 = 144 := rfl
  have cc_104 : cnt 104 = 2400 := rfl
  have cc_105 : cnt 105 = 7200 := rfl
  have j_a0 := i_any a0
  have j_a1 := i_any a1
  unfold g_X11_cellAt
  refine tot_oif (iv_oO h_T k_o (by decide) (by decide) rfl) ?_
  refine tot_thrp (Q := fun r_1 : Int32 => (0 ≤ r_1.toInt ∧ r_1.toInt ≤ 0)) (cs_X11_needCamera T o h_T k_o ) (fun r_1 d_r_1 => ?_) (fun k_ => ⟨rfl, fun q_ => absurd q_ (Nat.succ_ne_zero k_)⟩)
  replace d_r_1 : (0 ≤ r_1.toInt ∧ r_1.toInt ≤ 0) := d_r_1
  refine tot_oif (iv_oO h_T k_o (by decide) (by decide) rfl) ?_
  refine tot_thrp (Q := fun r_3 : Int32 => (0 ≤ a0.toInt ∧ a0.toInt ≤ 143)) (cs_X11_needCell T o a0 h_T k_o ) (fun r_3 d_r_3 => ?_) (fun k_ => ⟨rfl, fun q_ => absurd q_ (Nat.succ_ne_zero k_)⟩)
  replace d_r_3 : (0 ≤ a0.toInt ∧ a0.toInt ≤ 143) := d_r_3
  refine tot_thrp (Q := fun r_5 : Int32 => (((0 : Int32) : Int32).toInt ≤ a1.toInt ∧ a1.toInt ≤ ((1 : Int32) : Int32).toInt)) (cs_X11_needRange T a1 (0 : Int32) (1 : Int32) h_T ) (fun r_5 d_r_5 => ?_) (fun k_ => ⟨rfl, fun q_ => absurd q_ (Nat.succ_ne_zero k_)⟩)
  replace d_r_5 : (((0 : Int32) : Int32).toInt ≤ a1.toInt ∧ a1.toInt ≤ ((1 : Int32) : Int32).toInt) := d_r_5
  refine tot_if (fun c_15 => ?_) (fun c_15 => ?_)
  · replace c_15 := i_eq c_15
    refine tot_oif (iv_oO h_T k_o (by decide) (by decide) rfl) ?_
    refine tot_ref h_T k_o (by decide) (by decide) (r2 := 6) (rfl : rtg 11 14 = 6) (by decide) (fun n_7 k_n_7 e_n_7 => ?_)
    refine tot_oif (iv_oO h_T k_n_7 (by decide) (by decide) rfl) ?_
    refine tot_ref h_T k_n_7 (by decide) (by decide) (r2 := 1) (rfl : rtg 6 6 = 1) (by decide) (fun n_8 k_n_8 e_n_8 => ?_)
    refine tot_oif (iv_oO h_T k_n_8 (by decide) (by decide) rfl) ?_
    refine tot_bindq (R := fun r_9 : Int32 => (-999 ≤ r_9.toInt ∧ r_9.toInt ≤ 2088)) (cs_X1_centreX T n_8 a0 h_T k_n_8 (by omega)) (fun r_9 d_r_9 => ?_)
    replace d_r_9 : (-999 ≤ r_9.toInt ∧ r_9.toInt ≤ 2088) := d_r_9
    unfold g_X11_cellAt_b44
    exact tot_some ⟨rfl, fun _ => (show (-999 ≤ r_9.toInt ∧ r_9.toInt ≤ 15156) from by omega)⟩
  · replace c_15 := i_ne c_15
    refine tot_oif (iv_oO h_T k_o (by decide) (by decide) rfl) ?_
    refine tot_ref h_T k_o (by decide) (by decide) (r2 := 6) (rfl : rtg 11 14 = 6) (by decide) (fun n_11 k_n_11 e_n_11 => ?_)
    refine tot_oif (iv_oO h_T k_n_11 (by decide) (by decide) rfl) ?_
    refine tot_ref h_T k_n_11 (by decide) (by decide) (r2 := 1) (rfl : rtg 6 6 = 1) (by decide) (fun n_12 k_n_12 e_n_12 => ?_)
    refine tot_oif (iv_oO h_T k_n_12 (by decide) (by decide) rfl) ?_
    refine tot_bindq (R := fun r_13 : Int32 => (-999 ≤ r_13.toInt ∧ r_13.toInt ≤ 15156)) (cs_X1_centreY T n_12 a0 h_T k_n_12 (by omega)) (fun r_13 d_r_13 => ?_)
    replace d_r_13 : (-999 ≤ r_13.toInt ∧ r_13.toInt ≤ 15156) := d_r_13
    unfold g_X11_cellAt_b44
    exact tot_some ⟨rfl, fun _ => (show (-999 ≤ r_13.toInt ∧ r_13.toInt ≤ 15156) from by omega)⟩
set_option maxHeartbeats 4000000 in
set_option maxRecDepth 10000 in
theorem cs_X11_sources {R : Nat → Nat} {B K1 K2 : Nat} (T : AT) (o : Nat) (h_T : IV R B K1 K2 T) (k_o : R o = 11) : Tot (g_X11_sources T o) (fun r => r.2 = T ∧ (0 ≤ r.1.toInt ∧ r.1.toInt ≤ 6)) := by
  have cc_101 : cnt 101 = 1 := rfl
  have cc_102 : cnt 102 = 12 := rfl
  have cc_103 : cnt 103 = 144 := rfl
  have cc_104 : cnt 104 = 2400 := rfl
  have cc_105 : cnt 105 = 7200 := rfl
  unfold g_X11_sources
  refine tot_oif (iv_oO h_T k_o (by decide) (by decide) rfl) ?_
  refine tot_ref h_T k_o (by decide) (by decide) (r2 := 6) (rfl : rtg 11 14 = 6) (by decide) (fun n_1 k_n_1 e_n_1 => ?_)
  refine tot_oif (iv_oO h_T k_n_1 (by decide) (by decide) rfl) ?_
  refine tot_let (fun v_2 e_v_2 => ?_)
  have r_v_2 : 0 ≤ v_2.toInt ∧ v_2.toInt ≤ 6 := iv_int h_T k_n_1 (by decide) (by decide) e_v_2 rfl
  exact tot_some ⟨rfl, (show (0 ≤ v_2.toInt ∧ v_2.toInt ≤ 6) from by omega)⟩
set_option maxHeartbeats 4000000 in
set_option maxRecDepth 10000 in
theorem cs_X11_needSource {R : Nat → Nat} {B K1 K2 : Nat} (T : AT) (o : Nat) (a0 : Int32) (h_T : IV R B K1 K2 T) (k_o : R o = 11) : Tot (g_X11_needSource T o a0) (fun r => r.2.2 = T ∧ (r.1 = 0 → (0 ≤ a0.toInt ∧ a0.toInt ≤ 5))) := by
  have z0 : (0 : Int32).toInt = 0 := by decide
  have cc_101 : cnt 101 = 1 := rfl
  have cc_102 : cnt 102 = 12 := rfl
  have cc_103 : cnt 103 = 144 := rfl
  have cc_104 : cnt 104 = 2400 := rfl
  have cc_105 : cnt 105 = 7200 := rfl
  have j_a0 := i_any a0
  unfold g_X11_needSource
  refine tot_oif (iv_oO h_T k_o (by decide) (by decide) rfl) ?_
  refine tot_ref h_T k_o (by decide) (by decide) (r2 := 6) (rfl : rtg 11 14 = 6) (by decide) (fun n_1 k_n_1 e_n_1 => ?_)
  refine tot_oif (iv_oO h_T k_n_1 (by decide) (by decide) rfl) ?_
  refine tot_let (fun v_2 e_v_2 => ?_)
  have r_v_2 : 0 ≤ v_2.toInt ∧ v_2.toInt ≤ 6 := iv_int h_T k_n_1 (by decide) (by decide) e_v_2 rfl
  refine tot_thrp (Q := fun r_3 : Int32 => (0 ≤ a0.toInt ∧ a0.toInt < v_2.toInt)) (cs_X11_needIndex T a0 v_2 h_T ) (fun r_3 d_r_3 => ?_) (fun k_ => ⟨rfl, fun q_ => absurd q_ (Nat.succ_ne_zero k_)⟩)
  replace d_r_3 : (0 ≤ a0.toInt ∧ a0.toInt < v_2.toInt) := d_r_3
  exact tot_some ⟨rfl, fun _ => (show (0 ≤ a0.toInt ∧ a0.toInt ≤ 5) from by omega)⟩
set_option maxHeartbeats 4000000 in
set_option maxRecDepth 10000 in
theorem cs_X11_sourceAt {R : Nat → Nat} {B K1 K2 : Nat} (T : AT) (o : Nat) (a0 : Int32) (a1 : Int32) (a2 : Int32) (h_T : IV R B K1 K2 T) (k_o : R o = 11) : Tot (g_X11_sourceAt T o a0 a1 a2) (fun r => r.2.2 = T ∧ (r.1 = 0 → (-3988 ≤ r.2.1.toInt ∧ r.2.1.toInt ≤ 17144))) := by
  have z0 : ((0 : Int32) : Int32).toInt = 0 := by decide
  have z1 : ((1 : Int32) : Int32).toInt = 1 := by decide
  have z2 : (1 : Int32).toInt = 1 := by decide
  have z3 : (0 : Int32).toInt = 0 := by decide
  have cc_101 : cnt 101 = 1 := rfl
  have cc_102 : cnt 102 = 12 := rfl
  have cc_103 : cnt 103 = 144 := rfl
  have cc_104 : cnt 104 = 2400 := rfl
  have cc_105 : cnt 105 = 7200 := rfl
  have j_a0 := i_any a0
  have j_a1 := i_any a1
  have j_a2 := i_any a2
  unfold g_X11_sourceAt
  refine tot_oif (iv_oO h_T k_o (by decide) (by decide) rfl) ?_
  refine tot_thrp (Q := fun r_1 : Int32 => (0 ≤ r_1.toInt ∧ r_1.toInt ≤ 0)) (cs_X11_needCamera T o h_T k_o ) (fun r_1 d_r_1 => ?_) (fun k_ => ⟨rfl, fun q_ => absurd q_ (Nat.succ_ne_zero k_)⟩)
  replace d_r_1 : (0 ≤ r_1.toInt ∧ r_1.toInt ≤ 0) := d_r_1
  refine tot_oif (iv_oO h_T k_o (by decide) (by decide) rfl) ?_
  refine tot_thrp (Q := fun r_3 : Int32 => (0 ≤ a0.toInt ∧ a0.toInt ≤ 5)) (cs_X11_needSource T o a0 h_T k_o ) (fun r_3 d_r_3 => ?_) (fun k_ => ⟨rfl, fun q_ => absurd q_ (Nat.succ_ne_zero k_)⟩)
  replace d_r_3 : (0 ≤ a0.toInt ∧ a0.toInt ≤ 5) := d_r_3
  refine tot_thrp (Q := fun r_5 : Int32 => (((0 : Int32) : Int32).toInt ≤ a1.toInt ∧ a1.toInt ≤ ((1 : Int32) : Int32).toInt)) (cs_X11_needRange T a1 (0 : Int32) (1 : Int32) h_T ) (fun r_5 d_r_5 => ?_) (fun k_ => ⟨rfl, fun q_ => absurd q_ (Nat.succ_ne_zero k_)⟩)
  replace d_r_5 : (((0 : Int32) : Int32).toInt ≤ a1.toInt ∧ a1.toInt ≤ ((1 : Int32) : Int32).toInt) := d_r_5
  refine tot_oif (iv_oO h_T k_o (by decide) (by decide) rfl) ?_
  refine tot_ref h_T k_o (by decide) (by decide) (r2 := 6) (rfl : rtg 11 14 = 6) (by decide) (fun n_7 k_n_7 e_n_7 => ?_)
  refine tot_oif (iv_oO h_T k_n_7 (by decide) (by decide) rfl) ?_
  refine tot_let (fun v_8 e_v_8 => ?_)
  have r_v_8 : 0 ≤ v_8.toInt ∧ v_8.toInt ≤ 200 := iv_int h_T k_n_7 (by decide) (by decide) e_v_8 rfl
  refine tot_let (fun v_9 e_v_9 => ?_)
  have q_v_9 := i_sub e_v_9 (by omega) (by omega)
  refine tot_thrp (Q := fun r_10 : Int32 => (((0 : Int32) : Int32).toInt ≤ a2.toInt ∧ a2.toInt ≤ v_9.toInt)) (cs_X11_needRange T a2 (0 : Int32) v_9 h_T ) (fun r_10 d_r_10 => ?_) (fun k_ => ⟨rfl, fun q_ => absurd q_ (Nat.succ_ne_zero k_)⟩)
  replace d_r_10 : (((0 : Int32) : Int32).toInt ≤ a2.toInt ∧ a2.toInt ≤ v_9.toInt) := d_r_10
  refine tot_if (fun c_26 => ?_) (fun c_26 => ?_)
  · replace c_26 := i_eq c_26
    refine tot_oif (iv_oO h_T k_o (by decide) (by decide) rfl) ?_
    refine tot_ref h_T k_o (by decide) (by decide) (r2 := 8) (rfl : rtg 11 6 = 8) (by decide) (fun n_12 k_n_12 e_n_12 => ?_)
    refine tot_oif (iv_oO h_T k_n_12 (by decide) (by decide) rfl) ?_
    refine tot_ref h_T k_n_12 (by decide) (by decide) (r2 := 65) (rfl : rtg 8 6 = 65) (by decide) (fun n_13 k_n_13 e_n_13 => ?_)
    refine tot_oif (iv_aA h_T k_n_13 (by decide) (by decide) rfl rfl) ?_
    refine tot_oif (by rw [iv_len h_T k_n_13 (by decide) (by decide) (rfl : shp 65 = (100, 6))]; exact i_inb (by omega) (by omega)) ?_
    refine tot_let (fun v_14 e_v_14 => ?_)
    have r_v_14 : -2000 ≤ v_14.toInt ∧ v_14.toInt ≤ 2000 := iv_int h_T k_n_13 (by decide) (by decide) e_v_14 rfl
    refine tot_oif (iv_oO h_T k_o (by decide) (by decide) rfl) ?_
    refine tot_ref1 e_n_12 ?_
    refine tot_oif (iv_oO h_T k_n_12 (by decide) (by decide) rfl) ?_
    refine tot_ref h_T k_n_12 (by decide) (by decide) (r2 := 66) (rfl : rtg 8 8 = 66) (by decide) (fun n_16 k_n_16 e_n_16 => ?_)
    refine tot_oif (iv_aA h_T k_n_16 (by decide) (by decide) rfl rfl) ?_
    refine tot_oif (by rw [iv_len h_T k_n_16 (by decide) (by decide) (rfl : shp 66 = (100, 6))]; exact i_inb (by omega) (by omega)) ?_
    refine tot_let (fun v_17 e_v_17 => ?_)
    have r_v_17 : -999 ≤ v_17.toInt ∧ v_17.toInt ≤ 999 := iv_int h_T k_n_16 (by decide) (by decide) e_v_17 rfl
    refine tot_bind (cs_X11_moved v_14 v_17 a2 (by omega) (by omega) (by omega)) (fun r_18 d_r_18 => ?_)
    replace d_r_18 : (-3988 ≤ r_18.toInt ∧ r_18.toInt ≤ 17144) := d_r_18
    unfold g_X11_sourceAt_b80
    exact tot_some ⟨rfl, fun _ => (show (-3988 ≤ r_18.toInt ∧ r_18.toInt ≤ 17144) from by omega)⟩
  · replace c_26 := i_ne c_26
    refine tot_oif (iv_oO h_T k_o (by decide) (by decide) rfl) ?_
    refine tot_ref h_T k_o (by decide) (by decide) (r2 := 8) (rfl : rtg 11 6 = 8) (by decide) (fun n_19 k_n_19 e_n_19 => ?_)
    refine tot_oif (iv_oO h_T k_n_19 (by decide) (by decide) rfl) ?_
    refine tot_ref h_T k_n_19 (by decide) (by decide) (r2 := 65) (rfl : rtg 8 7 = 65) (by decide) (fun n_20 k_n_20 e_n_20 => ?_)
    refine tot_oif (iv_aA h_T k_n_20 (by decide) (by decide) rfl rfl) ?_
    refine tot_oif (by rw [iv_len h_T k_n_20 (by decide) (by decide) (rfl : shp 65 = (100, 6))]; exact i_inb (by omega) (by omega)) ?_
    refine tot_let (fun v_21 e_v_21 => ?_)
    have r_v_21 : -2000 ≤ v_21.toInt ∧ v_21.toInt ≤ 2000 := iv_int h_T k_n_20 (by decide) (by decide) e_v_21 rfl
    refine tot_oif (iv_oO h_T k_o (by decide) (by decide) rfl) ?_
    refine tot_ref1 e_n_19 ?_
    refine tot_oif (iv_oO h_T k_n_19 (by decide) (by decide) rfl) ?_
    refine tot_ref h_T k_n_19 (by decide) (by decide) (r2 := 66) (rfl : rtg 8 9 = 66) (by decide) (fun n_23 k_n_23 e_n_23 => ?_)
    refine tot_oif (iv_aA h_T k_n_23 (by decide) (by decide) rfl rfl) ?_
    refine tot_oif (by rw [iv_len h_T k_n_23 (by decide) (by decide) (rfl : shp 66 = (100, 6))]; exact i_inb (by omega) (by omega)) ?_
    refine tot_let (fun v_24 e_v_24 => ?_)
    have r_v_24 : -999 ≤ v_24.toInt ∧ v_24.toInt ≤ 999 := iv_int h_T k_n_23 (by decide) (by decide) e_v_24 rfl
    refine tot_bind (cs_X11_moved v_21 v_24 a2 (by omega) (by omega) (by omega)) (fun r_25 d_r_25 => ?_)
    replace d_r_25 : (-3988 ≤ r_25.toInt ∧ r_25.toInt ≤ 17144) := d_r_25
    unfold g_X11_sourceAt_b80
    exact tot_some ⟨rfl, fun _ => (show (-3988 ≤ r_25.toInt ∧ r_25.toInt ≤ 17144) from by omega)⟩
set_option maxHeartbeats 4000000 in
set_option maxRecDepth 10000 in
theorem cs_X11_isOn {R : Nat → Nat} {B K1 K2 : Nat} (T : AT) (o : Nat) (a0 : Int32) (h_T : IV R B K1 K2 T) (k_o : R o = 11) : Tot (g_X11_isOn T o a0) (fun r => r.2.2 = T ∧ (r.1 = 0 → (0 ≤ r.2.1.toInt ∧ r.2.1.toInt ≤ 1))) := by
  have cc_101 : cnt 101 = 1 := rfl
  have cc_102 : cnt 102 = 12 := rfl
  have cc_103 : cnt 103 = 144 := rfl
  have cc_104 : cnt 104 = 2400 := rfl
  have cc_105 : cnt 105 = 7200 := rfl
  have j_a0 := i_any a0
  unfold g_X11_isOn
  refine tot_oif (iv_oO h_T k_o (by decide) (by decide) rfl) ?_
  refine tot_thrp (Q := fun r_1 : Int32 => (0 ≤ r_1.toInt ∧ r_1.toInt ≤ 0)) (cs_X11_needCamera T o h_T k_o ) (fun r_1 d_r_1 => ?_) (fun k_ => ⟨rfl, fun q_ => absurd q_ (Nat.succ_ne_zero k_)⟩)
  replace d_r_1 : (0 ≤ r_1.toInt ∧ r_1.toInt ≤ 0) := d_r_1
  refine tot_oif (iv_oO h_T k_o (by decide) (by decide) rfl) ?_
  refine tot_thrp (Q := fun r_3 : Int32 => (0 ≤ a0.toInt ∧ a0.toInt ≤ 5)) (cs_X11_needSource T o a0 h_T k_o ) (fun r_3 d_r_3 => ?_) (fun k_ => ⟨rfl, fun q_ => absurd q_ (Nat.succ_ne_zero k_)⟩)
  replace d_r_3 : (0 ≤ a0.toInt ∧ a0.toInt ≤ 5) := d_r_3
  refine tot_oif (iv_oO h_T k_o (by decide) (by decide) rfl) ?_
  refine tot_ref h_T k_o (by decide) (by decide) (r2 := 8) (rfl : rtg 11 6 = 8) (by decide) (fun n_5 k_n_5 e_n_5 => ?_)
  refine tot_oif (iv_oO h_T k_n_5 (by decide) (by decide) rfl) ?_
  refine tot_ref h_T k_n_5 (by decide) (by decide) (r2 := 64) (rfl : rtg 8 5 = 64) (by decide) (fun n_6 k_n_6 e_n_6 => ?_)
  refine tot_oif (iv_aA h_T k_n_6 (by decide) (by decide) rfl rfl) ?_
  refine tot_oif (by rw [iv_len h_T k_n_6 (by decide) (by decide) (rfl : shp 64 = (102, 6))]; exact i_inb (by omega) (by omega)) ?_
  refine tot_let (fun v_7 e_v_7 => ?_)
  have r_v_7 : 0 ≤ v_7.toInt ∧ v_7.toInt ≤ 1 := iv_int h_T k_n_6 (by decide) (by decide) e_v_7 rfl
  refine tot_oif (i_b01 (by omega)) ?_
  exact tot_some ⟨rfl, fun _ => (show (0 ≤ v_7.toInt ∧ v_7.toInt ≤ 1) from by omega)⟩
set_option maxHeartbeats 4000000 in
set_option maxRecDepth 10000 in
theorem cs_X11_waveAt {R : Nat → Nat} {B K1 K2 : Nat} (T : AT) (o : Nat) (a0 : Int32) (a1 : Int32) (h_T : IV R B K1 K2 T) (k_o : R o = 11) : Tot (g_X11_waveAt T o a0 a1) (fun r => r.2.2 = T ∧ (r.1 = 0 → True)) := by
  have z0 : (1 : Int32).toInt = 1 := by decide
  have z1 : ((0 : Int32) : Int32).toInt = 0 := by decide
  have cc_101 : cnt 101 = 1 := rfl
  have cc_102 : cnt 102 = 12 := rfl
  have cc_103 : cnt 103 = 144 := rfl
  have cc_104 : cnt 104 = 2400 := rfl
  have cc_105 : cnt 105 = 7200 := rfl
  have j_a0 := i_any a0
  have j_a1 := i_any a1
  unfold g_X11_waveAt
  refine tot_oif (iv_oO h_T k_o (by decide) (by decide) rfl) ?_
  refine tot_thrp (Q := fun r_1 : Int32 => (0 ≤ r_1.toInt ∧ r_1.toInt ≤ 0)) (cs_X11_needCamera T o h_T k_o ) (fun r_1 d_r_1 => ?_) (fun k_ => ⟨rfl, fun q_ => absurd q_ (Nat.succ_ne_zero k_)⟩)
  replace d_r_1 : (0 ≤ r_1.toInt ∧ r_1.toInt ≤ 0) := d_r_1
  refine tot_oif (iv_oO h_T k_o (by decide) (by decide) rfl) ?_
  refine tot_thrp (Q := fun r_3 : Int32 => (0 ≤ a0.toInt ∧ a0.toInt ≤ 5)) (cs_X11_needSource T o a0 h_T k_o ) (fun r_3 d_r_3 => ?_) (fun k_ => ⟨rfl, fun q_ => absurd q_ (Nat.succ_ne_zero k_)⟩)
  replace d_r_3 : (0 ≤ a0.toInt ∧ a0.toInt ≤ 5) := d_r_3
  refine tot_oif (iv_oO h_T k_o (by decide) (by decide) rfl) ?_
  refine tot_ref h_T k_o (by decide) (by decide) (r2 := 6) (rfl : rtg 11 14 = 6) (by decide) (fun n_5 k_n_5 e_n_5 => ?_)
  refine tot_oif (iv_oO h_T k_n_5 (by decide) (by decide) rfl) ?_
  refine tot_let (fun v_6 e_v_6 => ?_)
  have r_v_6 : 0 ≤ v_6.toInt ∧ v_6.toInt ≤ 200 := iv_int h_T k_n_5 (by decide) (by decide) e_v_6 rfl
  refine tot_let (fun v_7 e_v_7 => ?_)
  have q_v_7 := i_sub e_v_7 (by omega) (by omega)
  refine tot_thrp (Q := fun r_8 : Int32 => (((0 : Int32) : Int32).toInt ≤ a1.toInt ∧ a1.toInt ≤ v_7.toInt)) (cs_X11_needRange T a1 (0 : Int32) v_7 h_T ) (fun r_8 d_r_8 => ?_) (fun k_ => ⟨rfl, fun q_ => absurd q_ (Nat.succ_ne_zero k_)⟩)
  replace d_r_8 : (((0 : Int32) : Int32).toInt ≤ a1.toInt ∧ a1.toInt ≤ v_7.toInt) := d_r_8
  refine tot_oif (iv_oO h_T k_o (by decide) (by decide) rfl) ?_
  refine tot_ref1 e_n_5 ?_
  refine tot_oif (iv_oO h_T k_n_5 (by decide) (by decide) rfl) ?_
  refine tot_ref h_T k_n_5 (by decide) (by decide) (r2 := 54) (rfl : rtg 6 7 = 54) (by decide) (fun n_11 k_n_11 e_n_11 => ?_)
  refine tot_oif (iv_aA h_T k_n_11 (by decide) (by decide) rfl rfl) ?_
  refine tot_oif (by rw [iv_len h_T k_n_11 (by decide) (by decide) (rfl : shp 54 = (104, 6))]; exact i_inb (by omega) (by omega)) ?_
  refine tot_ref h_T k_n_11 (by decide) (by decide) (r2 := 7) (rt_54 (by omega) (by omega)) (by decide) (fun n_12 k_n_12 e_n_12 => ?_)
  refine tot_oif (iv_oO h_T k_n_12 (by decide) (by decide) rfl) ?_
  refine tot_bindq (R := fun r_13 : Int32 => True) (cs_X7_valueAt T n_12 a1 h_T k_n_12 ) (fun r_13 d_r_13 => ?_)
  have r_r_13 := i_any r_13
  exact tot_some ⟨rfl, fun _ => trivial⟩
set_option maxHeartbeats 4000000 in
set_option maxRecDepth 10000 in
theorem cs_X11_samples {R : Nat → Nat} {B K1 K2 : Nat} (T : AT) (o : Nat) (h_T : IV R B K1 K2 T) (k_o : R o = 11) : Tot (g_X11_samples T o) (fun r => r.2 = T ∧ (0 ≤ r.1.toInt ∧ r.1.toInt ≤ 200)) := by
  have cc_101 : cnt 101 = 1 := rfl
  have cc_102 : cnt 102 = 12 := rfl
  have cc_103 : cnt 103 = 144 := rfl
  have cc_104 : cnt 104 = 2400 := rfl
  have cc_105 : cnt 105 = 7200 := rfl
  unfold g_X11_samples
  refine tot_oif (iv_oO h_T k_o (by decide) (by decide) rfl) ?_
  refine tot_ref h_T k_o (by decide) (by decide) (r2 := 6) (rfl : rtg 11 14 = 6) (by decide) (fun n_1 k_n_1 e_n_1 => ?_)
  refine tot_oif (iv_oO h_T k_n_1 (by decide) (by decide) rfl) ?_
  refine tot_let (fun v_2 e_v_2 => ?_)
  have r_v_2 : 0 ≤ v_2.toInt ∧ v_2.toInt ≤ 200 := iv_int h_T k_n_1 (by decide) (by decide) e_v_2 rfl
  exact tot_some ⟨rfl, (show (0 ≤ v_2.toInt ∧ v_2.toInt ≤ 200) from by omega)⟩
set_option maxHeartbeats 4000000 in
set_option maxRecDepth 10000 in
theorem cs_X11_delay {R : Nat → Nat} {B K1 K2 : Nat} (T : AT) (o : Nat) (a0 : Int32) (a1 : Int32) (h_T : IV R B K1 K2 T) (k_o : R o = 11) : Tot (g_X11_delay T o a0 a1) (fun r => r.2.2 = T ∧ (r.1 = 0 → True)) := by
  have cc_101 : cnt 101 = 1 := rfl
  have cc_102 : cnt 102 = 12 := rfl
  have cc_103 : cnt 103 = 144 := rfl
  have cc_104 : cnt 104 = 2400 := rfl
  have cc_105 : cnt 105 = 7200 := rfl
  have j_a0 := i_any a0
  have j_a1 := i_any a1
  unfold g_X11_delay
  refine tot_oif (iv_oO h_T k_o (by decide) (by decide) rfl) ?_
  refine tot_thrp (Q := fun r_1 : Int32 => (0 ≤ r_1.toInt ∧ r_1.toInt ≤ 0)) (cs_X11_needCamera T o h_T k_o ) (fun r_1 d_r_1 => ?_) (fun k_ => ⟨rfl, fun q_ => absurd q_ (Nat.succ_ne_zero k_)⟩)
  replace d_r_1 : (0 ≤ r_1.toInt ∧ r_1.toInt ≤ 0) := d_r_1
  refine tot_oif (iv_oO h_T k_o (by decide) (by decide) rfl) ?_
  refine tot_thrp (Q := fun r_3 : Int32 => (0 ≤ a0.toInt ∧ a0.toInt ≤ 11)) (cs_X11_needMic T o a0 h_T k_o ) (fun r_3 d_r_3 => ?_) (fun k_ => ⟨rfl, fun q_ => absurd q_ (Nat.succ_ne_zero k_)⟩)
  replace d_r_3 : (0 ≤ a0.toInt ∧ a0.toInt ≤ 11) := d_r_3
  refine tot_oif (iv_oO h_T k_o (by decide) (by decide) rfl) ?_
  refine tot_thrp (Q := fun r_5 : Int32 => (0 ≤ a1.toInt ∧ a1.toInt ≤ 143)) (cs_X11_needCell T o a1 h_T k_o ) (fun r_5 d_r_5 => ?_) (fun k_ => ⟨rfl, fun q_ => absurd q_ (Nat.succ_ne_zero k_)⟩)
  replace d_r_5 : (0 ≤ a1.toInt ∧ a1.toInt ≤ 143) := d_r_5
  refine tot_oif (iv_oO h_T k_o (by decide) (by decide) rfl) ?_
  refine tot_ref h_T k_o (by decide) (by decide) (r2 := 6) (rfl : rtg 11 14 = 6) (by decide) (fun n_7 k_n_7 e_n_7 => ?_)
  refine tot_oif (iv_oO h_T k_n_7 (by decide) (by decide) rfl) ?_
  refine tot_ref h_T k_n_7 (by decide) (by decide) (r2 := 51) (rfl : rtg 6 17 = 51) (by decide) (fun n_8 k_n_8 e_n_8 => ?_)
  refine tot_oif (iv_aA h_T k_n_8 (by decide) (by decide) rfl rfl) ?_
  refine tot_oif (by rw [iv_len h_T k_n_8 (by decide) (by decide) (rfl : shp 51 = (106, 144))]; exact i_inb (by omega) (by omega)) ?_
  refine tot_ref h_T k_n_8 (by decide) (by decide) (r2 := 50) (rt_51 (by omega) (by omega)) (by decide) (fun n_9 k_n_9 e_n_9 => ?_)
  refine tot_oif (iv_aA h_T k_n_9 (by decide) (by decide) rfl rfl) ?_
  refine tot_oif (by rw [iv_len h_T k_n_9 (by decide) (by decide) (rfl : shp 50 = (100, 12))]; exact i_inb (by omega) (by omega)) ?_
  refine tot_let (fun v_10 e_v_10 => ?_)
  have r_v_10 := i_any v_10
  exact tot_some ⟨rfl, fun _ => trivial⟩
set_option maxHeartbeats 4000000 in
set_option maxRecDepth 10000 in
theorem cs_X11_delayTo {R : Nat → Nat} {B K1 K2 : Nat} (T : AT) (o : Nat) (a0 : Int32) (a1 : Int32) (a2 : Int32) (h_T : IV R B K1 K2 T) (k_o : R o = 11) : Tot (g_X11_delayTo T o a0 a1 a2) (fun r => r.2.2 = T ∧ (r.1 = 0 → True)) := by
  have z0 : (((-9999) : Int32) : Int32).toInt = -9999 := by decide
  have z1 : ((9999 : Int32) : Int32).toInt = 9999 := by decide
  have cc_101 : cnt 101 = 1 := rfl
  have cc_102 : cnt 102 = 12 := rfl
  have cc_103 : cnt 103 = 144 := rfl
  have cc_104 : cnt 104 = 2400 := rfl
  have cc_105 : cnt 105 = 7200 := rfl
  have j_a0 := i_any a0
  have j_a1 := i_any a1
  have j_a2 := i_any a2
  unfold g_X11_delayTo
  refine tot_oif (iv_oO h_T k_o (by decide) (by decide) rfl) ?_
  refine tot_thrp (Q := fun r_1 : Int32 => (0 ≤ r_1.toInt ∧ r_1.toInt ≤ 0)) (cs_X11_needCamera T o h_T k_o ) (fun r_1 d_r_1 => ?_) (fun k_ => ⟨rfl, fun q_ => absurd q_ (Nat.succ_ne_zero k_)⟩)
  replace d_r_1 : (0 ≤ r_1.toInt ∧ r_1.toInt ≤ 0) := d_r_1
  refine tot_oif (iv_oO h_T k_o (by decide) (by decide) rfl) ?_
  refine tot_thrp (Q := fun r_3 : Int32 => (0 ≤ a0.toInt ∧ a0.toInt ≤ 11)) (cs_X11_needMic T o a0 h_T k_o ) (fun r_3 d_r_3 => ?_) (fun k_ => ⟨rfl, fun q_ => absurd q_ (Nat.succ_ne_zero k_)⟩)
  replace d_r_3 : (0 ≤ a0.toInt ∧ a0.toInt ≤ 11) := d_r_3
  refine tot_thrp (Q := fun r_5 : Int32 => ((((-9999) : Int32) : Int32).toInt ≤ a1.toInt ∧ a1.toInt ≤ ((9999 : Int32) : Int32).toInt)) (cs_X11_needRange T a1 ((-9999) : Int32) (9999 : Int32) h_T ) (fun r_5 d_r_5 => ?_) (fun k_ => ⟨rfl, fun q_ => absurd q_ (Nat.succ_ne_zero k_)⟩)
  replace d_r_5 : ((((-9999) : Int32) : Int32).toInt ≤ a1.toInt ∧ a1.toInt ≤ ((9999 : Int32) : Int32).toInt) := d_r_5
  refine tot_thrp (Q := fun r_7 : Int32 => ((((-9999) : Int32) : Int32).toInt ≤ a2.toInt ∧ a2.toInt ≤ ((9999 : Int32) : Int32).toInt)) (cs_X11_needRange T a2 ((-9999) : Int32) (9999 : Int32) h_T ) (fun r_7 d_r_7 => ?_) (fun k_ => ⟨rfl, fun q_ => absurd q_ (Nat.succ_ne_zero k_)⟩)
  replace d_r_7 : ((((-9999) : Int32) : Int32).toInt ≤ a2.toInt ∧ a2.toInt ≤ ((9999 : Int32) : Int32).toInt) := d_r_7
  refine tot_oif (iv_oO h_T k_o (by decide) (by decide) rfl) ?_
  refine tot_ref h_T k_o (by decide) (by decide) (r2 := 6) (rfl : rtg 11 14 = 6) (by decide) (fun n_9 k_n_9 e_n_9 => ?_)
  refine tot_oif (iv_oO h_T k_o (by decide) (by decide) rfl) ?_
  refine tot_ref1 e_n_9 ?_
  refine tot_oif (iv_oO h_T k_n_9 (by decide) (by decide) rfl) ?_
  refine tot_ref h_T k_n_9 (by decide) (by decide) (r2 := 53) (rfl : rtg 6 4 = 53) (by decide) (fun n_11 k_n_11 e_n_11 => ?_)
  refine tot_oif (iv_aA h_T k_n_11 (by decide) (by decide) rfl rfl) ?_
  refine tot_oif (by rw [iv_len h_T k_n_11 (by decide) (by decide) (rfl : shp 53 = (103, 12))]; exact i_inb (by omega) (by omega)) ?_
  refine tot_ref h_T k_n_11 (by decide) (by decide) (r2 := 2) (rt_53 (by omega) (by omega)) (by decide) (fun n_12 k_n_12 e_n_12 => ?_)
  refine tot_oif (iv_oO h_T k_n_9 (by decide) (by decide) rfl) ?_
  refine tot_bindq (R := fun r_13 : Int32 => True) (cs_X6_delayFrom T n_9 n_12 a1 a2 h_T k_n_9 k_n_12 (by omega) (by omega)) (fun r_13 d_r_13 => ?_)
  have r_r_13 := i_any r_13
  exact tot_some ⟨rfl, fun _ => trivial⟩
set_option maxHeartbeats 4000000 in
set_option maxRecDepth 10000 in
theorem cs_X11_spread {R : Nat → Nat} {B K1 K2 : Nat} (T : AT) (o : Nat) (a0 : Int32) (h_T : IV R B K1 K2 T) (k_o : R o = 11) : Tot (g_X11_spread T o a0) (fun r => r.2.2 = T ∧ (r.1 = 0 → True)) := by
  have cc_101 : cnt 101 = 1 := rfl
  have cc_102 : cnt 102 = 12 := rfl
  have cc_103 : cnt 103 = 144 := rfl
  have cc_104 : cnt 104 = 2400 := rfl
  have cc_105 : cnt 105 = 7200 := rfl
  have j_a0 := i_any a0
  unfold g_X11_spread
  refine tot_oif (iv_oO h_T k_o (by decide) (by decide) rfl) ?_
  refine tot_thrp (Q := fun r_1 : Int32 => (0 ≤ r_1.toInt ∧ r_1.toInt ≤ 0)) (cs_X11_needCamera T o h_T k_o ) (fun r_1 d_r_1 => ?_) (fun k_ => ⟨rfl, fun q_ => absurd q_ (Nat.succ_ne_zero k_)⟩)
  replace d_r_1 : (0 ≤ r_1.toInt ∧ r_1.toInt ≤ 0) := d_r_1
  refine tot_oif (iv_oO h_T k_o (by decide) (by decide) rfl) ?_
  refine tot_thrp (Q := fun r_3 : Int32 => (0 ≤ a0.toInt ∧ a0.toInt ≤ 143)) (cs_X11_needCell T o a0 h_T k_o ) (fun r_3 d_r_3 => ?_) (fun k_ => ⟨rfl, fun q_ => absurd q_ (Nat.succ_ne_zero k_)⟩)
  replace d_r_3 : (0 ≤ a0.toInt ∧ a0.toInt ≤ 143) := d_r_3
  refine tot_oif (iv_oO h_T k_o (by decide) (by decide) rfl) ?_
  refine tot_ref h_T k_o (by decide) (by decide) (r2 := 6) (rfl : rtg 11 14 = 6) (by decide) (fun n_5 k_n_5 e_n_5 => ?_)
  refine tot_oif (iv_oO h_T k_n_5 (by decide) (by decide) rfl) ?_
  refine tot_ref h_T k_n_5 (by decide) (by decide) (r2 := 51) (rfl : rtg 6 17 = 51) (by decide) (fun n_6 k_n_6 e_n_6 => ?_)
  refine tot_oif (iv_aA h_T k_n_6 (by decide) (by decide) rfl rfl) ?_
  refine tot_oif (by rw [iv_len h_T k_n_6 (by decide) (by decide) (rfl : shp 51 = (106, 144))]; exact i_inb (by omega) (by omega)) ?_
  refine tot_ref h_T k_n_6 (by decide) (by decide) (r2 := 50) (rt_51 (by omega) (by omega)) (by decide) (fun n_7 k_n_7 e_n_7 => ?_)
  refine tot_oif (iv_oO h_T k_o (by decide) (by decide) rfl) ?_
  refine tot_ref h_T k_o (by decide) (by decide) (r2 := 8) (rfl : rtg 11 6 = 8) (by decide) (fun n_8 k_n_8 e_n_8 => ?_)
  refine tot_oif (iv_oO h_T k_n_8 (by decide) (by decide) rfl) ?_
  refine tot_bindq (R := fun r_9 : Int32 => (0 ≤ r_9.toInt ∧ r_9.toInt ≤ 2147483647)) (cs_X8_greatestDelay T n_8 n_7 h_T k_n_8 k_n_7 ) (fun r_9 d_r_9 => ?_)
  replace d_r_9 : (0 ≤ r_9.toInt ∧ r_9.toInt ≤ 2147483647) := d_r_9
  refine tot_oif (iv_oO h_T k_o (by decide) (by decide) rfl) ?_
  refine tot_ref1 e_n_8 ?_
  refine tot_oif (iv_oO h_T k_n_8 (by decide) (by decide) rfl) ?_
  refine tot_bindq (R := fun r_12 : Int32 => True) (cs_X8_smallestDelay T n_8 n_7 h_T k_n_8 k_n_7 ) (fun r_12 d_r_12 => ?_)
  have r_r_12 := i_any r_12
  refine tot_let (fun v_14 e_v_14 => ?_)
  have r_v_14 := i_any v_14
  exact tot_some ⟨rfl, fun _ => trivial⟩
set_option maxHeartbeats 4000000 in
set_option maxRecDepth 10000 in
theorem cs_X11_window {R : Nat → Nat} {B K1 K2 : Nat} (T : AT) (o : Nat) (a0 : Int32) (h_T : IV R B K1 K2 T) (k_o : R o = 11) : Tot (g_X11_window T o a0) (fun r => r.2.2 = T ∧ (r.1 = 0 → (0 ≤ r.2.1.toInt ∧ r.2.1.toInt ≤ 200))) := by
  have cc_101 : cnt 101 = 1 := rfl
  have cc_102 : cnt 102 = 12 := rfl
  have cc_103 : cnt 103 = 144 := rfl
  have cc_104 : cnt 104 = 2400 := rfl
  have cc_105 : cnt 105 = 7200 := rfl
  have j_a0 := i_any a0
  unfold g_X11_window
  refine tot_oif (iv_oO h_T k_o (by decide) (by decide) rfl) ?_
  refine tot_thrp (Q := fun r_1 : Int32 => (0 ≤ r_1.toInt ∧ r_1.toInt ≤ 0)) (cs_X11_needCamera T o h_T k_o ) (fun r_1 d_r_1 => ?_) (fun k_ => ⟨rfl, fun q_ => absurd q_ (Nat.succ_ne_zero k_)⟩)
  replace d_r_1 : (0 ≤ r_1.toInt ∧ r_1.toInt ≤ 0) := d_r_1
  refine tot_oif (iv_oO h_T k_o (by decide) (by decide) rfl) ?_
  refine tot_thrp (Q := fun r_3 : Int32 => (0 ≤ a0.toInt ∧ a0.toInt ≤ 143)) (cs_X11_needCell T o a0 h_T k_o ) (fun r_3 d_r_3 => ?_) (fun k_ => ⟨rfl, fun q_ => absurd q_ (Nat.succ_ne_zero k_)⟩)
  replace d_r_3 : (0 ≤ a0.toInt ∧ a0.toInt ≤ 143) := d_r_3
  refine tot_oif (iv_oO h_T k_o (by decide) (by decide) rfl) ?_
  refine tot_ref h_T k_o (by decide) (by decide) (r2 := 8) (rfl : rtg 11 6 = 8) (by decide) (fun n_5 k_n_5 e_n_5 => ?_)
  refine tot_oif (iv_oO h_T k_o (by decide) (by decide) rfl) ?_
  refine tot_ref h_T k_o (by decide) (by decide) (r2 := 6) (rfl : rtg 11 14 = 6) (by decide) (fun n_6 k_n_6 e_n_6 => ?_)
  refine tot_oif (iv_oO h_T k_n_6 (by decide) (by decide) rfl) ?_
  refine tot_ref h_T k_n_6 (by decide) (by decide) (r2 := 51) (rfl : rtg 6 17 = 51) (by decide) (fun n_7 k_n_7 e_n_7 => ?_)
  refine tot_oif (iv_aA h_T k_n_7 (by decide) (by decide) rfl rfl) ?_
  refine tot_oif (by rw [iv_len h_T k_n_7 (by decide) (by decide) (rfl : shp 51 = (106, 144))]; exact i_inb (by omega) (by omega)) ?_
  refine tot_ref h_T k_n_7 (by decide) (by decide) (r2 := 50) (rt_51 (by omega) (by omega)) (by decide) (fun n_8 k_n_8 e_n_8 => ?_)
  refine tot_oif (iv_oO h_T k_n_5 (by decide) (by decide) rfl) ?_
  refine tot_bindq (R := fun r_9 : Int32 => (0 ≤ r_9.toInt ∧ r_9.toInt ≤ 200)) (cs_X8_windowOf T n_5 n_8 h_T k_n_5 k_n_8 ) (fun r_9 d_r_9 => ?_)
  replace d_r_9 : (0 ≤ r_9.toInt ∧ r_9.toInt ≤ 200) := d_r_9
  exact tot_some ⟨rfl, fun _ => (show (0 ≤ r_9.toInt ∧ r_9.toInt ≤ 200) from by omega)⟩
set_option maxHeartbeats 4000000 in
set_option maxRecDepth 10000 in
theorem cs_X11_sample {R : Nat → Nat} {B K1 K2 : Nat} (T : AT) (o : Nat) (a0 : Int32) (a1 : Int32) (h_T : IV R B K1 K2 T) (k_o : R o = 11) : Tot (g_X11_sample T o a0 a1) (fun r => r.2.2 = T ∧ (r.1 = 0 → True)) := by
  have z0 : (1 : Int32).toInt = 1 := by decide
  have z1 : ((0 : Int32) : Int32).toInt = 0 := by decide
  have cc_101 : cnt 101 = 1 := rfl
  have cc_102 : cnt 102 = 12 := rfl
  have cc_103 : cnt 103 = 144 := rfl
  have cc_104 : cnt 104 = 2400 := rfl
  have cc_105 : cnt 105 = 7200 := rfl
  have j_a0 := i_any a0
  have j_a1 := i_any a1
  unfold g_X11_sample
  refine tot_oif (iv_oO h_T k_o (by decide) (by decide) rfl) ?_
  refine tot_thrp (Q := fun r_1 : Int32 => (0 ≤ r_1.toInt ∧ r_1.toInt ≤ 0)) (cs_X11_needCamera T o h_T k_o ) (fun r_1 d_r_1 => ?_) (fun k_ => ⟨rfl, fun q_ => absurd q_ (Nat.succ_ne_zero k_)⟩)
  replace d_r_1 : (0 ≤ r_1.toInt ∧ r_1.toInt ≤ 0) := d_r_1
  refine tot_oif (iv_oO h_T k_o (by decide) (by decide) rfl) ?_
  refine tot_thrp (Q := fun r_3 : Int32 => (0 ≤ a0.toInt ∧ a0.toInt ≤ 11)) (cs_X11_needMic T o a0 h_T k_o ) (fun r_3 d_r_3 => ?_) (fun k_ => ⟨rfl, fun q_ => absurd q_ (Nat.succ_ne_zero k_)⟩)
  replace d_r_3 : (0 ≤ a0.toInt ∧ a0.toInt ≤ 11) := d_r_3
  refine tot_oif (iv_oO h_T k_o (by decide) (by decide) rfl) ?_
  refine tot_ref h_T k_o (by decide) (by decide) (r2 := 6) (rfl : rtg 11 14 = 6) (by decide) (fun n_5 k_n_5 e_n_5 => ?_)
  refine tot_oif (iv_oO h_T k_n_5 (by decide) (by decide) rfl) ?_
  refine tot_let (fun v_6 e_v_6 => ?_)
  have r_v_6 : 0 ≤ v_6.toInt ∧ v_6.toInt ≤ 200 := iv_int h_T k_n_5 (by decide) (by decide) e_v_6 rfl
  refine tot_let (fun v_7 e_v_7 => ?_)
  have q_v_7 := i_sub e_v_7 (by omega) (by omega)
  refine tot_thrp (Q := fun r_8 : Int32 => (((0 : Int32) : Int32).toInt ≤ a1.toInt ∧ a1.toInt ≤ v_7.toInt)) (cs_X11_needRange T a1 (0 : Int32) v_7 h_T ) (fun r_8 d_r_8 => ?_) (fun k_ => ⟨rfl, fun q_ => absurd q_ (Nat.succ_ne_zero k_)⟩)
  replace d_r_8 : (((0 : Int32) : Int32).toInt ≤ a1.toInt ∧ a1.toInt ≤ v_7.toInt) := d_r_8
  refine tot_oif (iv_oO h_T k_o (by decide) (by decide) rfl) ?_
  refine tot_ref h_T k_o (by decide) (by decide) (r2 := 8) (rfl : rtg 11 6 = 8) (by decide) (fun n_10 k_n_10 e_n_10 => ?_)
  refine tot_oif (iv_oO h_T k_n_10 (by decide) (by decide) rfl) ?_
  refine tot_ref h_T k_n_10 (by decide) (by decide) (r2 := 104) (rfl : rtg 8 10 = 104) (by decide) (fun n_11 k_n_11 e_n_11 => ?_)
  refine tot_bind (cs_X8_placeOf a0 a1 (by omega) (by omega)) (fun r_12 d_r_12 => ?_)
  replace d_r_12 : (0 ≤ r_12.toInt ∧ r_12.toInt ≤ 2399) := d_r_12
  refine tot_oif (w_oO h_T k_n_11 (rfl : isW 104 = true)) ?_
  refine tot_bindq (R := fun r_13 : Int64 => True) (c_value (a0 := r_12) k_n_11 (rfl : isW 104 = true) h_T (by omega)) (fun r_13 d_r_13 => ?_)
  refine tot_let (fun v_15 e_v_15 => ?_)
  have r_v_15 := i_any v_15
  exact tot_some ⟨rfl, fun _ => trivial⟩
set_option maxHeartbeats 4000000 in
set_option maxRecDepth 10000 in
theorem cs_X11_beam {R : Nat → Nat} {B K1 K2 : Nat} (T : AT) (o : Nat) (a0 : Int32) (a1 : Int32) (h_T : IV R B K1 K2 T) (k_o : R o = 11) : Tot (g_X11_beam T o a0 a1) (fun r => (IV R B K1 K2 r.2.2 ∧ FW R [3202] T r.2.2) ∧ (r.1 = 0 → True)) := by
  have z0 : (1 : Int32).toInt = 1 := by decide
  have z1 : ((0 : Int32) : Int32).toInt = 0 := by decide
  have cc_101 : cnt 101 = 1 := rfl
  have cc_102 : cnt 102 = 12 := rfl
  have cc_103 : cnt 103 = 144 := rfl
  have cc_104 : cnt 104 = 2400 := rfl
  have cc_105 : cnt 105 = 7200 := rfl
  have x_T : FW R [3202] T T := FW.rf
  have j_a0 := i_any a0
  have j_a1 := i_any a1
  unfold g_X11_beam
  refine tot_oif (iv_oO h_T k_o (by decide) (by decide) rfl) ?_
  refine tot_thrp (Q := fun r_1 : Int32 => (0 ≤ r_1.toInt ∧ r_1.toInt ≤ 0)) (cs_X11_needCamera T o h_T k_o ) (fun r_1 d_r_1 => ?_) (fun k_ => ⟨⟨h_T, x_T⟩, fun q_ => absurd q_ (Nat.succ_ne_zero k_)⟩)
  replace d_r_1 : (0 ≤ r_1.toInt ∧ r_1.toInt ≤ 0) := d_r_1
  refine tot_oif (iv_oO h_T k_o (by decide) (by decide) rfl) ?_
  refine tot_thrp (Q := fun r_3 : Int32 => (0 ≤ a0.toInt ∧ a0.toInt ≤ 143)) (cs_X11_needCell T o a0 h_T k_o ) (fun r_3 d_r_3 => ?_) (fun k_ => ⟨⟨h_T, x_T⟩, fun q_ => absurd q_ (Nat.succ_ne_zero k_)⟩)
  replace d_r_3 : (0 ≤ a0.toInt ∧ a0.toInt ≤ 143) := d_r_3
  refine tot_oif (iv_oO h_T k_o (by decide) (by decide) rfl) ?_
  refine tot_ref h_T k_o (by decide) (by decide) (r2 := 8) (rfl : rtg 11 6 = 8) (by decide) (fun n_5 k_n_5 e_n_5 => ?_)
  refine tot_oif (iv_oO h_T k_o (by decide) (by decide) rfl) ?_
  refine tot_ref h_T k_o (by decide) (by decide) (r2 := 6) (rfl : rtg 11 14 = 6) (by decide) (fun n_6 k_n_6 e_n_6 => ?_)
  refine tot_oif (iv_oO h_T k_n_6 (by decide) (by decide) rfl) ?_
  refine tot_ref h_T k_n_6 (by decide) (by decide) (r2 := 51) (rfl : rtg 6 17 = 51) (by decide) (fun n_7 k_n_7 e_n_7 => ?_)
  refine tot_oif (iv_aA h_T k_n_7 (by decide) (by decide) rfl rfl) ?_
  refine tot_oif (by rw [iv_len h_T k_n_7 (by decide) (by decide) (rfl : shp 51 = (106, 144))]; exact i_inb (by omega) (by omega)) ?_
  refine tot_ref h_T k_n_7 (by decide) (by decide) (r2 := 50) (rt_51 (by omega) (by omega)) (by decide) (fun n_8 k_n_8 e_n_8 => ?_)
  refine tot_oif (iv_oO h_T k_n_5 (by decide) (by decide) rfl) ?_
  refine tot_bindq (R := fun r_9 : Int32 => (0 ≤ r_9.toInt ∧ r_9.toInt ≤ 200)) (cs_X8_windowOf T n_5 n_8 h_T k_n_5 k_n_8 ) (fun r_9 d_r_9 => ?_)
  replace d_r_9 : (0 ≤ r_9.toInt ∧ r_9.toInt ≤ 200) := d_r_9
  refine tot_let (fun v_11 e_v_11 => ?_)
  have q_v_11 := i_sub e_v_11 (by omega) (by omega)
  refine tot_thrp (Q := fun r_12 : Int32 => (((0 : Int32) : Int32).toInt ≤ a1.toInt ∧ a1.toInt ≤ v_11.toInt)) (cs_X11_needRange T a1 (0 : Int32) v_11 h_T ) (fun r_12 d_r_12 => ?_) (fun k_ => ⟨⟨h_T, x_T⟩, fun q_ => absurd q_ (Nat.succ_ne_zero k_)⟩)
  replace d_r_12 : (((0 : Int32) : Int32).toInt ≤ a1.toInt ∧ a1.toInt ≤ v_11.toInt) := d_r_12
  refine tot_oif (iv_oO h_T k_o (by decide) (by decide) rfl) ?_
  refine tot_ref1 e_n_5 ?_
  refine tot_oif (iv_oO h_T k_o (by decide) (by decide) rfl) ?_
  refine tot_ref1 e_n_6 ?_
  refine tot_oif (iv_oO h_T k_n_6 (by decide) (by decide) rfl) ?_
  refine tot_ref1 e_n_7 ?_
  refine tot_oif (iv_aA h_T k_n_7 (by decide) (by decide) rfl rfl) ?_
  refine tot_oif (by rw [iv_len h_T k_n_7 (by decide) (by decide) (rfl : shp 51 = (106, 144))]; exact i_inb (by omega) (by omega)) ?_
  refine tot_ref1 e_n_8 ?_
  refine tot_oif (iv_oO h_T k_n_5 (by decide) (by decide) rfl) ?_
  refine tot_bind (cs_X8_focus T n_5 n_8 a1 h_T k_n_5 k_n_8 ) (fun T_18 d_T_18 => ?_)
  have h_T_18 : IV R B K1 K2 T_18 := d_T_18.1
  have y_T_18 : FW R [3202] T T_18 := d_T_18.2
  have x_T_18 := x_T.tr (y_T_18.w (by decide))
  unfold g_X11_beam_b49
  refine tot_oif (iv_oO h_T_18 k_o (by decide) (by decide) rfl) ?_
  refine tot_ref h_T_18 k_o (by decide) (by decide) (r2 := 8) (rfl : rtg 11 6 = 8) (by decide) (fun n_19 k_n_19 e_n_19 => ?_)
  refine tot_oif (iv_oO h_T_18 k_n_19 (by decide) (by decide) rfl) ?_
  refine tot_ref h_T_18 k_n_19 (by decide) (by decide) (r2 := 101) (rfl : rtg 8 11 = 101) (by decide) (fun n_20 k_n_20 e_n_20 => ?_)
  refine tot_oif (w_oO h_T_18 k_n_20 (rfl : isW 101 = true)) ?_
  refine tot_bindq (R := fun r_21 : Int64 => True) (c_value (a0 := (0 : Int32)) k_n_20 (rfl : isW 101 = true) h_T_18 (by omega)) (fun r_21 d_r_21 => ?_)
  refine tot_let (fun v_23 e_v_23 => ?_)
  have r_v_23 := i_any v_23
  exact tot_some ⟨⟨h_T_18, x_T_18⟩, fun _ => trivial⟩
set_option maxHeartbeats 4000000 in
set_option maxRecDepth 10000 in
theorem cs_X11_powersNow {R : Nat → Nat} {B K1 K2 : Nat} (T : AT) (o : Nat) (h_T : IV R B K1 K2 T) (k_o : R o = 11) : Tot (g_X11_powersNow T o) (fun r => (IV R B K1 K2 r.2 ∧ FW R [128, 130, 131, 1952, 2144, 3202] T r.2) ∧ R r.1 = 4) := by
  have z0 : (0 : Int32).toInt = 0 := by decide
  have z1 : (1 : Int32).toInt = 1 := by decide
  have cc_101 : cnt 101 = 1 := rfl
  have cc_102 : cnt 102 = 12 := rfl
  have cc_103 : cnt 103 = 144 := rfl
  have cc_104 : cnt 104 = 2400 := rfl
  have cc_105 : cnt 105 = 7200 := rfl
  have x_T : FW R [128, 130, 131, 1952, 2144, 3202] T T := FW.rf
  unfold g_X11_powersNow
  refine tot_oif (iv_oO h_T k_o (by decide) (by decide) rfl) ?_
  refine tot_ref h_T k_o (by decide) (by decide) (r2 := 4) (rfl : rtg 11 4 = 4) (by decide) (fun n_1 k_n_1 e_n_1 => ?_)
  refine tot_oif (iv_oO h_T k_n_1 (by decide) (by decide) rfl) ?_
  refine tot_let (fun v_2 e_v_2 => ?_)
  have r_v_2 : 0 ≤ v_2.toInt ∧ v_2.toInt ≤ 1 := iv_int h_T k_n_1 (by decide) (by decide) e_v_2 rfl
  refine tot_if (fun c_7 => ?_) (fun c_7 => ?_)
  · replace c_7 := i_eq c_7
    refine tot_oif (iv_oO h_T k_o (by decide) (by decide) rfl) ?_
    refine tot_ref1 e_n_1 ?_
    refine tot_oif (iv_oO h_T k_o (by decide) (by decide) rfl) ?_
    refine tot_ref h_T k_o (by decide) (by decide) (r2 := 6) (rfl : rtg 11 14 = 6) (by decide) (fun n_4 k_n_4 e_n_4 => ?_)
    refine tot_oif (iv_oO h_T k_o (by decide) (by decide) rfl) ?_
    refine tot_ref h_T k_o (by decide) (by decide) (r2 := 8) (rfl : rtg 11 6 = 8) (by decide) (fun n_5 k_n_5 e_n_5 => ?_)
    refine tot_oif (iv_oO h_T k_n_1 (by decide) (by decide) rfl) ?_
    refine tot_bind (cs_X4_measure T n_1 n_4 n_5 h_T k_n_1 k_n_4 k_n_5 ) (fun T_6 d_T_6 => ?_)
    have h_T_6 : IV R B K1 K2 T_6 := d_T_6.1
    have y_T_6 : FW R [130, 131, 1952, 2144, 3202] T T_6 := d_T_6.2
    have x_T_6 := x_T.tr (y_T_6.w (by decide))
    unfold g_X11_powersNow_b25
    refine tot_oif (iv_oO h_T_6 k_o (by decide) (by decide) rfl) ?_
    refine tot_ref h_T_6 k_o (by decide) (by decide) (r2 := 4) (rfl : rtg 11 4 = 4) (by decide) (fun n_8 k_n_8 e_n_8 => ?_)
    refine tot_oif (iv_oO h_T_6 k_n_8 (by decide) (by decide) rfl) ?_
    refine tot_let (fun T_9 e_T_9 => ?_)
    have h_T_9 : IV R B K1 K2 T_9 := by rw [e_T_9]; exact iv_uI (a := 0) (b := 1) h_T_6 k_n_8 (by decide) (by decide) rfl (by omega) (.inl rfl)
    have x_T_9 := x_T_6.tr (fw_uI e_T_9 k_n_8 (by decide))
    unfold g_X11_powersNow_b33
    refine tot_oif (iv_oO h_T_9 k_o (by decide) (by decide) rfl) ?_
    refine tot_ref h_T_9 k_o (by decide) (by decide) (r2 := 4) (rfl : rtg 11 4 = 4) (by decide) (fun n_10 k_n_10 e_n_10 => ?_)
    exact tot_some ⟨⟨h_T_9, x_T_9⟩, k_n_10⟩
  · replace c_7 := i_ne c_7
    unfold g_X11_powersNow_b33
    refine tot_oif (iv_oO h_T k_o (by decide) (by decide) rfl) ?_
    refine tot_ref1 e_n_1 ?_
    exact tot_some ⟨⟨h_T, x_T⟩, k_n_1⟩
set_option maxHeartbeats 4000000 in
set_option maxRecDepth 10000 in
theorem cs_X11_power {R : Nat → Nat} {B K1 K2 : Nat} (T : AT) (o : Nat) (a0 : Int32) (h_T : IV R B K1 K2 T) (k_o : R o = 11) : Tot (g_X11_power T o a0) (fun r => (IV R B K1 K2 r.2.2 ∧ FW R [128, 130, 131, 1952, 2144, 3202] T r.2.2) ∧ (r.1 = 0 → True)) := by
  have cc_101 : cnt 101 = 1 := rfl
  have cc_102 : cnt 102 = 12 := rfl
  have cc_103 : cnt 103 = 144 := rfl
  have cc_104 : cnt 104 = 2400 := rfl
  have cc_105 : cnt 105 = 7200 := rfl
  have x_T : FW R [128, 130, 131, 1952, 2144, 3202] T T := FW.rf
  have j_a0 := i_any a0
  unfold g_X11_power
  refine tot_oif (iv_oO h_T k_o (by decide) (by decide) rfl) ?_
  refine tot_thrp (Q := fun r_1 : Int32 => (0 ≤ r_1.toInt ∧ r_1.toInt ≤ 0)) (cs_X11_needCamera T o h_T k_o ) (fun r_1 d_r_1 => ?_) (fun k_ => ⟨⟨h_T, x_T⟩, fun q_ => absurd q_ (Nat.succ_ne_zero k_)⟩)
  replace d_r_1 : (0 ≤ r_1.toInt ∧ r_1.toInt ≤ 0) := d_r_1
  refine tot_oif (iv_oO h_T k_o (by decide) (by decide) rfl) ?_
  refine tot_thrp (Q := fun r_3 : Int32 => (0 ≤ a0.toInt ∧ a0.toInt ≤ 143)) (cs_X11_needCell T o a0 h_T k_o ) (fun r_3 d_r_3 => ?_) (fun k_ => ⟨⟨h_T, x_T⟩, fun q_ => absurd q_ (Nat.succ_ne_zero k_)⟩)
  replace d_r_3 : (0 ≤ a0.toInt ∧ a0.toInt ≤ 143) := d_r_3
  refine tot_oif (iv_oO h_T k_o (by decide) (by decide) rfl) ?_
  refine tot_bind2 (cs_X11_powersNow T o h_T k_o ) (fun r_5 T_6 d_r_5 => ?_)
  have h_T_6 : IV R B K1 K2 T_6 := d_r_5.1.1
  have y_T_6 : FW R [128, 130, 131, 1952, 2144, 3202] T T_6 := d_r_5.1.2
  have x_T_6 := x_T.tr (y_T_6.w (by decide))
  have k_r_5 : R r_5 = 4 := d_r_5.2
  refine tot_oif (Nat.ble_eq_true_of_le (iv_lt h_T_6 (iv_sta h_T_6 k_r_5 (by decide) (by decide)))) ?_
  unfold g_X11_power_b13
  refine tot_oif (iv_oO h_T_6 k_r_5 (by decide) (by decide) rfl) ?_
  refine tot_ref h_T_6 k_r_5 (by decide) (by decide) (r2 := 103) (rfl : rtg 4 1 = 103) (by decide) (fun n_7 k_n_7 e_n_7 => ?_)
  refine tot_oif (w_oO h_T_6 k_n_7 (rfl : isW 103 = true)) ?_
  refine tot_bindq (R := fun r_8 : Int64 => True) (c_value (a0 := a0) k_n_7 (rfl : isW 103 = true) h_T_6 (by omega)) (fun r_8 d_r_8 => ?_)
  exact tot_some ⟨⟨h_T_6, x_T_6⟩, fun _ => trivial⟩
set_option maxHeartbeats 4000000 in
set_option maxRecDepth 10000 in
theorem cs_X11_powerAt {R : Nat → Nat} {B K1 K2 : Nat} (T : AT) (o : Nat) (a0 : Int32) (a1 : Int32) (h_T : IV R B K1 K2 T) (k_o : R o = 11) : Tot (g_X11_powerAt T o a0 a1) (fun r => (IV R B K1 K2 r.2.2 ∧ FW R [1600, 3202] T r.2.2) ∧ (r.1 = 0 → True)) := by
  have z0 : (((-9999) : Int32) : Int32).toInt = -9999 := by decide
  have z1 : ((9999 : Int32) : Int32).toInt = 9999 := by decide
  have z2 : ((0 : Int32) : Int32).toInt = 0 := by decide
  have cc_101 : cnt 101 = 1 := rfl
  have cc_102 : cnt 102 = 12 := rfl
  have cc_103 : cnt 103 = 144 := rfl
  have cc_104 : cnt 104 = 2400 := rfl
  have cc_105 : cnt 105 = 7200 := rfl
  have x_T : FW R [1600, 3202] T T := FW.rf
  have j_a0 := i_any a0
  have j_a1 := i_any a1
  unfold g_X11_powerAt
  refine tot_oif (iv_oO h_T k_o (by decide) (by decide) rfl) ?_
  refine tot_thrp (Q := fun r_1 : Int32 => (0 ≤ r_1.toInt ∧ r_1.toInt ≤ 0)) (cs_X11_needCamera T o h_T k_o ) (fun r_1 d_r_1 => ?_) (fun k_ => ⟨⟨h_T, x_T⟩, fun q_ => absurd q_ (Nat.succ_ne_zero k_)⟩)
  replace d_r_1 : (0 ≤ r_1.toInt ∧ r_1.toInt ≤ 0) := d_r_1
  refine tot_thrp (Q := fun r_3 : Int32 => ((((-9999) : Int32) : Int32).toInt ≤ a0.toInt ∧ a0.toInt ≤ ((9999 : Int32) : Int32).toInt)) (cs_X11_needRange T a0 ((-9999) : Int32) (9999 : Int32) h_T ) (fun r_3 d_r_3 => ?_) (fun k_ => ⟨⟨h_T, x_T⟩, fun q_ => absurd q_ (Nat.succ_ne_zero k_)⟩)
  replace d_r_3 : ((((-9999) : Int32) : Int32).toInt ≤ a0.toInt ∧ a0.toInt ≤ ((9999 : Int32) : Int32).toInt) := d_r_3
  refine tot_thrp (Q := fun r_5 : Int32 => ((((-9999) : Int32) : Int32).toInt ≤ a1.toInt ∧ a1.toInt ≤ ((9999 : Int32) : Int32).toInt)) (cs_X11_needRange T a1 ((-9999) : Int32) (9999 : Int32) h_T ) (fun r_5 d_r_5 => ?_) (fun k_ => ⟨⟨h_T, x_T⟩, fun q_ => absurd q_ (Nat.succ_ne_zero k_)⟩)
  replace d_r_5 : ((((-9999) : Int32) : Int32).toInt ≤ a1.toInt ∧ a1.toInt ≤ ((9999 : Int32) : Int32).toInt) := d_r_5
  refine tot_oif (iv_oO h_T k_o (by decide) (by decide) rfl) ?_
  refine tot_ref h_T k_o (by decide) (by decide) (r2 := 6) (rfl : rtg 11 14 = 6) (by decide) (fun n_7 k_n_7 e_n_7 => ?_)
  refine tot_oif (iv_oO h_T k_o (by decide) (by decide) rfl) ?_
  refine tot_ref h_T k_o (by decide) (by decide) (r2 := 50) (rfl : rtg 11 11 = 50) (by decide) (fun n_8 k_n_8 e_n_8 => ?_)
  refine tot_oif (iv_oO h_T k_n_7 (by decide) (by decide) rfl) ?_
  refine tot_bind (cs_X6_delaysFrom T n_7 a0 a1 n_8 h_T k_n_7 k_n_8 (by omega) (by omega)) (fun T_9 d_T_9 => ?_)
  have h_T_9 : IV R B K1 K2 T_9 := d_T_9.1
  have y_T_9 : FW R [1600] T T_9 := d_T_9.2
  have x_T_9 := x_T.tr (y_T_9.w (by decide))
  refine tot_oif (iv_oO h_T_9 k_o (by decide) (by decide) rfl) ?_
  refine tot_ref h_T_9 k_o (by decide) (by decide) (r2 := 8) (rfl : rtg 11 6 = 8) (by decide) (fun n_10 k_n_10 e_n_10 => ?_)
  refine tot_oif (iv_oO h_T_9 k_o (by decide) (by decide) rfl) ?_
  refine tot_ref h_T_9 k_o (by decide) (by decide) (r2 := 50) (rfl : rtg 11 11 = 50) (by decide) (fun n_11 k_n_11 e_n_11 => ?_)
  refine tot_oif (iv_oO h_T_9 k_o (by decide) (by decide) rfl) ?_
  refine tot_ref h_T_9 k_o (by decide) (by decide) (r2 := 102) (rfl : rtg 11 12 = 102) (by decide) (fun n_12 k_n_12 e_n_12 => ?_)
  refine tot_oif (iv_oO h_T_9 k_n_10 (by decide) (by decide) rfl) ?_
  refine tot_bind (cs_X8_powerOf T_9 n_10 n_11 n_12 (0 : Int32) h_T_9 k_n_10 k_n_11 k_n_12 (rfl : isW 102 = true) (by omega) (by omega)) (fun T_13 d_T_13 => ?_)
  have h_T_13 : IV R B K1 K2 T_13 := d_T_13.1
  have y_T_13 : FW R [3202] T_9 T_13 := d_T_13.2
  have x_T_13 := x_T_9.tr (y_T_13.w (by decide))
  unfold g_X11_powerAt_b53
  refine tot_oif (iv_oO h_T_13 k_o (by decide) (by decide) rfl) ?_
  refine tot_ref h_T_13 k_o (by decide) (by decide) (r2 := 102) (rfl : rtg 11 12 = 102) (by decide) (fun n_14 k_n_14 e_n_14 => ?_)
  refine tot_oif (w_oO h_T_13 k_n_14 (rfl : isW 102 = true)) ?_
  refine tot_bindq (R := fun r_15 : Int64 => True) (c_value (a0 := (0 : Int32)) k_n_14 (rfl : isW 102 = true) h_T_13 (by omega)) (fun r_15 d_r_15 => ?_)
  exact tot_some ⟨⟨h_T_13, x_T_13⟩, fun _ => trivial⟩
set_option maxHeartbeats 4000000 in
set_option maxRecDepth 10000 in
theorem cs_X11_best {R : Nat → Nat} {B K1 K2 : Nat} (T : AT) (o : Nat) (h_T : IV R B K1 K2 T) (k_o : R o = 11) : Tot (g_X11_best T o) (fun r => (IV R B K1 K2 r.2.2 ∧ FW R [128, 130, 131, 1952, 2144, 3202] T r.2.2) ∧ (r.1 = 0 → (0 ≤ r.2.1.toInt ∧ r.2.1.toInt ≤ 143))) := by
  have cc_101 : cnt 101 = 1 := rfl
  have cc_102 : cnt 102 = 12 := rfl
  have cc_103 : cnt 103 = 144 := rfl
  have cc_104 : cnt 104 = 2400 := rfl
  have cc_105 : cnt 105 = 7200 := rfl
  have x_T : FW R [128, 130, 131, 1952, 2144, 3202] T T := FW.rf
  unfold g_X11_best
  refine tot_oif (iv_oO h_T k_o (by decide) (by decide) rfl) ?_
  refine tot_thrp (Q := fun r_1 : Int32 => (0 ≤ r_1.toInt ∧ r_1.toInt ≤ 0)) (cs_X11_needCamera T o h_T k_o ) (fun r_1 d_r_1 => ?_) (fun k_ => ⟨⟨h_T, x_T⟩, fun q_ => absurd q_ (Nat.succ_ne_zero k_)⟩)
  replace d_r_1 : (0 ≤ r_1.toInt ∧ r_1.toInt ≤ 0) := d_r_1
  refine tot_oif (iv_oO h_T k_o (by decide) (by decide) rfl) ?_
  refine tot_bind2 (cs_X11_powersNow T o h_T k_o ) (fun r_3 T_4 d_r_3 => ?_)
  have h_T_4 : IV R B K1 K2 T_4 := d_r_3.1.1
  have y_T_4 : FW R [128, 130, 131, 1952, 2144, 3202] T T_4 := d_r_3.1.2
  have x_T_4 := x_T.tr (y_T_4.w (by decide))
  have k_r_3 : R r_3 = 4 := d_r_3.2
  refine tot_oif (Nat.ble_eq_true_of_le (iv_lt h_T_4 (iv_sta h_T_4 k_r_3 (by decide) (by decide)))) ?_
  unfold g_X11_best_b8
  refine tot_oif (iv_oO h_T_4 k_r_3 (by decide) (by decide) rfl) ?_
  refine tot_let (fun v_5 e_v_5 => ?_)
  have r_v_5 : 0 ≤ v_5.toInt ∧ v_5.toInt ≤ 143 := iv_int h_T_4 k_r_3 (by decide) (by decide) e_v_5 rfl
  exact tot_some ⟨⟨h_T_4, x_T_4⟩, fun _ => (show (0 ≤ v_5.toInt ∧ v_5.toInt ≤ 143) from by omega)⟩
set_option maxHeartbeats 4000000 in
set_option maxRecDepth 10000 in
theorem cs_X11_bestPower {R : Nat → Nat} {B K1 K2 : Nat} (T : AT) (o : Nat) (h_T : IV R B K1 K2 T) (k_o : R o = 11) : Tot (g_X11_bestPower T o) (fun r => (IV R B K1 K2 r.2.2 ∧ FW R [128, 130, 131, 1952, 2144, 3202] T r.2.2) ∧ (r.1 = 0 → True)) := by
  have cc_101 : cnt 101 = 1 := rfl
  have cc_102 : cnt 102 = 12 := rfl
  have cc_103 : cnt 103 = 144 := rfl
  have cc_104 : cnt 104 = 2400 := rfl
  have cc_105 : cnt 105 = 7200 := rfl
  have x_T : FW R [128, 130, 131, 1952, 2144, 3202] T T := FW.rf
  unfold g_X11_bestPower
  refine tot_oif (iv_oO h_T k_o (by decide) (by decide) rfl) ?_
  refine tot_thrp (Q := fun r_1 : Int32 => (0 ≤ r_1.toInt ∧ r_1.toInt ≤ 0)) (cs_X11_needCamera T o h_T k_o ) (fun r_1 d_r_1 => ?_) (fun k_ => ⟨⟨h_T, x_T⟩, fun q_ => absurd q_ (Nat.succ_ne_zero k_)⟩)
  replace d_r_1 : (0 ≤ r_1.toInt ∧ r_1.toInt ≤ 0) := d_r_1
  refine tot_oif (iv_oO h_T k_o (by decide) (by decide) rfl) ?_
  refine tot_bind2 (cs_X11_powersNow T o h_T k_o ) (fun r_3 T_4 d_r_3 => ?_)
  have h_T_4 : IV R B K1 K2 T_4 := d_r_3.1.1
  have y_T_4 : FW R [128, 130, 131, 1952, 2144, 3202] T T_4 := d_r_3.1.2
  have x_T_4 := x_T.tr (y_T_4.w (by decide))
  have k_r_3 : R r_3 = 4 := d_r_3.2
  refine tot_oif (Nat.ble_eq_true_of_le (iv_lt h_T_4 (iv_sta h_T_4 k_r_3 (by decide) (by decide)))) ?_
  unfold g_X11_bestPower_b8
  refine tot_oif (iv_oO h_T_4 k_r_3 (by decide) (by decide) rfl) ?_
  refine tot_ref h_T_4 k_r_3 (by decide) (by decide) (r2 := 103) (rfl : rtg 4 1 = 103) (by decide) (fun n_5 k_n_5 e_n_5 => ?_)
  refine tot_oif (iv_oO h_T_4 k_r_3 (by decide) (by decide) rfl) ?_
  refine tot_let (fun v_6 e_v_6 => ?_)
  have r_v_6 : 0 ≤ v_6.toInt ∧ v_6.toInt ≤ 143 := iv_int h_T_4 k_r_3 (by decide) (by decide) e_v_6 rfl
  refine tot_oif (w_oO h_T_4 k_n_5 (rfl : isW 103 = true)) ?_
  refine tot_bindq (R := fun r_7 : Int64 => True) (c_value (a0 := v_6) k_n_5 (rfl : isW 103 = true) h_T_4 (by omega)) (fun r_7 d_r_7 => ?_)
  exact tot_some ⟨⟨h_T_4, x_T_4⟩, fun _ => trivial⟩
set_option maxHeartbeats 4000000 in
set_option maxRecDepth 10000 in
theorem cs_X11_meanPower {R : Nat → Nat} {B K1 K2 : Nat} (T : AT) (o : Nat) (h_T : IV R B K1 K2 T) (k_o : R o = 11) : Tot (g_X11_meanPower T o) (fun r => (IV R B K1 K2 r.2.2 ∧ FW R [128, 130, 131, 1952, 2144, 3202] T r.2.2) ∧ (r.1 = 0 → True)) := by
  have z0 : ((0 : Int32) : Int32).toInt = 0 := by decide
  have cc_101 : cnt 101 = 1 := rfl
  have cc_102 : cnt 102 = 12 := rfl
  have cc_103 : cnt 103 = 144 := rfl
  have cc_104 : cnt 104 = 2400 := rfl
  have cc_105 : cnt 105 = 7200 := rfl
  have x_T : FW R [128, 130, 131, 1952, 2144, 3202] T T := FW.rf
  unfold g_X11_meanPower
  refine tot_oif (iv_oO h_T k_o (by decide) (by decide) rfl) ?_
  refine tot_thrp (Q := fun r_1 : Int32 => (0 ≤ r_1.toInt ∧ r_1.toInt ≤ 0)) (cs_X11_needCamera T o h_T k_o ) (fun r_1 d_r_1 => ?_) (fun k_ => ⟨⟨h_T, x_T⟩, fun q_ => absurd q_ (Nat.succ_ne_zero k_)⟩)
  replace d_r_1 : (0 ≤ r_1.toInt ∧ r_1.toInt ≤ 0) := d_r_1
  refine tot_oif (iv_oO h_T k_o (by decide) (by decide) rfl) ?_
  refine tot_bind2 (cs_X11_powersNow T o h_T k_o ) (fun r_3 T_4 d_r_3 => ?_)
  have h_T_4 : IV R B K1 K2 T_4 := d_r_3.1.1
  have y_T_4 : FW R [128, 130, 131, 1952, 2144, 3202] T T_4 := d_r_3.1.2
  have x_T_4 := x_T.tr (y_T_4.w (by decide))
  have k_r_3 : R r_3 = 4 := d_r_3.2
  refine tot_oif (Nat.ble_eq_true_of_le (iv_lt h_T_4 (iv_sta h_T_4 k_r_3 (by decide) (by decide)))) ?_
  unfold g_X11_meanPower_b8
  refine tot_oif (iv_oO h_T_4 k_o (by decide) (by decide) rfl) ?_
  refine tot_ref h_T_4 k_o (by decide) (by decide) (r2 := 6) (rfl : rtg 11 14 = 6) (by decide) (fun n_5 k_n_5 e_n_5 => ?_)
  refine tot_oif (iv_oO h_T_4 k_n_5 (by decide) (by decide) rfl) ?_
  refine tot_ref h_T_4 k_n_5 (by decide) (by decide) (r2 := 1) (rfl : rtg 6 6 = 1) (by decide) (fun n_6 k_n_6 e_n_6 => ?_)
  refine tot_oif (iv_oO h_T_4 k_n_6 (by decide) (by decide) rfl) ?_
  refine tot_ref h_T_4 k_n_6 (by decide) (by decide) (r2 := 59) (rfl : rtg 1 5 = 59) (by decide) (fun n_7 k_n_7 e_n_7 => ?_)
  refine tot_oif (iv_oO h_T_4 k_o (by decide) (by decide) rfl) ?_
  refine tot_ref1 e_n_5 ?_
  refine tot_oif (iv_oO h_T_4 k_n_5 (by decide) (by decide) rfl) ?_
  refine tot_ref1 e_n_6 ?_
  refine tot_oif (iv_oO h_T_4 k_o (by decide) (by decide) rfl) ?_
  refine tot_ref h_T_4 k_o (by decide) (by decide) (r2 := 102) (rfl : rtg 11 12 = 102) (by decide) (fun n_10 k_n_10 e_n_10 => ?_)
  refine tot_oif (iv_oO h_T_4 k_r_3 (by decide) (by decide) rfl) ?_
  refine tot_bind (cs_X4_sumIn T_4 r_3 n_7 n_6 n_10 (0 : Int32) h_T_4 k_r_3 k_n_7 k_n_6 k_n_10 (rfl : isW 102 = true) (by omega)) (fun T_11 d_T_11 => ?_)
  have h_T_11 : IV R B K1 K2 T_11 := d_T_11.1
  have y_T_11 : FW R [3202] T_4 T_11 := d_T_11.2
  have x_T_11 := x_T_4.tr (y_T_11.w (by decide))
  unfold g_X11_meanPower_b33
  refine tot_oif (iv_oO h_T_11 k_o (by decide) (by decide) rfl) ?_
  refine tot_ref h_T_11 k_o (by decide) (by decide) (r2 := 102) (rfl : rtg 11 12 = 102) (by decide) (fun n_12 k_n_12 e_n_12 => ?_)
  refine tot_oif (iv_oO h_T_11 k_o (by decide) (by decide) rfl) ?_
  refine tot_ref h_T_11 k_o (by decide) (by decide) (r2 := 6) (rfl : rtg 11 14 = 6) (by decide) (fun n_13 k_n_13 e_n_13 => ?_)
  refine tot_oif (iv_oO h_T_11 k_n_13 (by decide) (by decide) rfl) ?_
  refine tot_ref h_T_11 k_n_13 (by decide) (by decide) (r2 := 1) (rfl : rtg 6 6 = 1) (by decide) (fun n_14 k_n_14 e_n_14 => ?_)
  refine tot_oif (iv_oO h_T_11 k_n_14 (by decide) (by decide) rfl) ?_
  refine tot_bindq (R := fun r_15 : Int32 => (0 ≤ r_15.toInt ∧ r_15.toInt ≤ 144)) (cs_X1_cells T_11 n_14 h_T_11 k_n_14 ) (fun r_15 d_r_15 => ?_)
  replace d_r_15 : (0 ≤ r_15.toInt ∧ r_15.toInt ≤ 144) := d_r_15
  refine tot_oif (w_oO h_T_11 k_n_12 (rfl : isW 102 = true)) ?_
  refine tot_bind (c_divide (a0 := (0 : Int32)) (a1 := r_15) k_n_12 (rfl : isW 102 = true) h_T_11 (by omega)) (fun T_17 d_T_17 => ?_)
  have h_T_17 : IV R B K1 K2 T_17 := d_T_17.1
  have y_T_17 : FW R [3202] T_11 T_17 := (fw_wx d_T_17.2 k_n_12 (rfl : isW 102 = true) (by decide))
  have x_T_17 := x_T_11.tr (y_T_17.w (by decide))
  unfold g_X11_meanPower_b51
  refine tot_oif (iv_oO h_T_17 k_o (by decide) (by decide) rfl) ?_
  refine tot_ref h_T_17 k_o (by decide) (by decide) (r2 := 102) (rfl : rtg 11 12 = 102) (by decide) (fun n_18 k_n_18 e_n_18 => ?_)
  refine tot_oif (w_oO h_T_17 k_n_18 (rfl : isW 102 = true)) ?_
  refine tot_bindq (R := fun r_19 : Int64 => True) (c_value (a0 := (0 : Int32)) k_n_18 (rfl : isW 102 = true) h_T_17 (by omega)) (fun r_19 d_r_19 => ?_)
  exact tot_some ⟨⟨h_T_17, x_T_17⟩, fun _ => trivial⟩
set_option maxHeartbeats 4000000 in
set_option maxRecDepth 10000 in
theorem cs_X11_peaks {R : Nat → Nat} {B K1 K2 : Nat} (T : AT) (o : Nat) (h_T : IV R B K1 K2 T) (k_o : R o = 11) : Tot (g_X11_peaks T o) (fun r => (IV R B K1 K2 r.2.2 ∧ FW R [128, 130, 131, 1952, 2144, 3202] T r.2.2) ∧ (r.1 = 0 → (0 ≤ r.2.1.toInt ∧ r.2.1.toInt ≤ 144))) := by
  have cc_101 : cnt 101 = 1 := rfl
  have cc_102 : cnt 102 = 12 := rfl
  have cc_103 : cnt 103 = 144 := rfl
  have cc_104 : cnt 104 = 2400 := rfl
  have cc_105 : cnt 105 = 7200 := rfl
  have x_T : FW R [128, 130, 131, 1952, 2144, 3202] T T := FW.rf
  unfold g_X11_peaks
  refine tot_oif (iv_oO h_T k_o (by decide) (by decide) rfl) ?_
  refine tot_thrp (Q := fun r_1 : Int32 => (0 ≤ r_1.toInt ∧ r_1.toInt ≤ 0)) (cs_X11_needCamera T o h_T k_o ) (fun r_1 d_r_1 => ?_) (fun k_ => ⟨⟨h_T, x_T⟩, fun q_ => absurd q_ (Nat.succ_ne_zero k_)⟩)
  replace d_r_1 : (0 ≤ r_1.toInt ∧ r_1.toInt ≤ 0) := d_r_1
  refine tot_oif (iv_oO h_T k_o (by decide) (by decide) rfl) ?_
  refine tot_bind2 (cs_X11_powersNow T o h_T k_o ) (fun r_3 T_4 d_r_3 => ?_)
  have h_T_4 : IV R B K1 K2 T_4 := d_r_3.1.1
  have y_T_4 : FW R [128, 130, 131, 1952, 2144, 3202] T T_4 := d_r_3.1.2
  have x_T_4 := x_T.tr (y_T_4.w (by decide))
  have k_r_3 : R r_3 = 4 := d_r_3.2
  refine tot_oif (Nat.ble_eq_true_of_le (iv_lt h_T_4 (iv_sta h_T_4 k_r_3 (by decide) (by decide)))) ?_
  unfold g_X11_peaks_b8
  refine tot_oif (iv_oO h_T_4 k_r_3 (by decide) (by decide) rfl) ?_
  refine tot_let (fun v_5 e_v_5 => ?_)
  have r_v_5 : 0 ≤ v_5.toInt ∧ v_5.toInt ≤ 144 := iv_int h_T_4 k_r_3 (by decide) (by decide) e_v_5 rfl
  exact tot_some ⟨⟨h_T_4, x_T_4⟩, fun _ => (show (0 ≤ v_5.toInt ∧ v_5.toInt ≤ 144) from by omega)⟩
