set_option maxHeartbeats 4000000 in
set_option maxRecDepth 10000 in
theorem sf_bestWithout {P : Nat → Int32} (hP : PL P) (S : MS) (a0 : Int32) (h_S : IC P S) : Tot (fr_bestWithout S a0) (fun r => IC P r.2 ∧ (0 ≤ r.1.toInt ∧ r.1.toInt ≤ 143)) := by
  have z0 : (0 : Int32).toInt = 0 := by decide
  have z1 : (1 : Int32).toInt = 1 := by decide
  have p_4 := pl_4 hP
  have j_a0 := i_any a0
  unfold fr_bestWithout
  refine tot_bindp (R := fun r_1 : Int32 => (r_1.toInt = 0 ∨ r_1.toInt = 1 ∧ 0 ≤ a0.toInt ∧ a0.toInt < (P 4).toInt)) (sf_isMic hP S a0 h_S ) (fun r_1 d_r_1 => ?_)
  replace d_r_1 : (r_1.toInt = 0 ∨ r_1.toInt = 1 ∧ 0 ≤ a0.toInt ∧ a0.toInt < (P 4).toInt) := d_r_1
  refine tot_bind2 (sf_mayAsk hP S r_1 h_S (by omega)) (fun r_3 S_4 d_r_3 => ?_)
  have h_S_4 : IC P S_4 := d_r_3.1
  replace d_r_3 : (r_3.toInt = 0 ∨ r_3.toInt = 1 ∧ ¬ r_1.toInt = 0) := d_r_3.2
  refine tot_if (fun c_10 => ?_) (fun c_10 => ?_)
  · replace c_10 := i_eq c_10
    exact tot_some ⟨h_S_4, (show (0 ≤ (0 : Int32).toInt ∧ (0 : Int32).toInt ≤ 143) from by omega)⟩
  · replace c_10 := i_ne c_10
    refine tot_bind (sf_copy_12_14 hP S_4 0 0 h_S_4 (by omega) (by omega)) (fun S_5 d_S_5 => ?_)
    have h_S_5 : IC P S_5 := d_S_5.1
    refine tot_let (fun v_6 e_v_6 => ?_)
    have q_v_6 := i_add e_v_6 (by omega) (by omega)
    refine tot_oif (i_inb (by omega) (by omega)) ?_
    refine tot_let (fun S_7 e_S_7 => ?_)
    have h_S_7 : IC P S_7 := by rw [e_S_7]; exact ic_mf14 h_S_5 (nR_w (by omega) (by omega))
    refine tot_bind2 (sf_bestIn_14 hP S_7 h_S_7 ) (fun r_8 S_9 d_r_8 => ?_)
    have h_S_9 : IC P S_9 := d_r_8.1
    replace d_r_8 : (0 ≤ r_8.toInt ∧ r_8.toInt ≤ 143) := d_r_8.2
    exact tot_some ⟨h_S_9, (show (0 ≤ r_8.toInt ∧ r_8.toInt ≤ 143) from by omega)⟩
set_option maxHeartbeats 4000000 in
set_option maxRecDepth 10000 in
theorem sf_bestIfOff {P : Nat → Int32} (hP : PL P) (S : MS) (a0 : Int32) (h_S : IC P S) : Tot (fr_bestIfOff S a0) (fun r => IC P r.2 ∧ (0 ≤ r.1.toInt ∧ r.1.toInt ≤ 143)) := by
  have z0 : (0 : Int32).toInt = 0 := by decide
  have z1 : (25 : Int32).toInt = 25 := by decide
  have p_5 := pl_5 hP
  have j_a0 := i_any a0
  unfold fr_bestIfOff
  refine tot_bindp (R := fun r_1 : Int32 => (r_1.toInt = 0 ∨ r_1.toInt = 1 ∧ 0 ≤ a0.toInt ∧ a0.toInt < (P 5).toInt)) (sf_isSource hP S a0 h_S ) (fun r_1 d_r_1 => ?_)
  replace d_r_1 : (r_1.toInt = 0 ∨ r_1.toInt = 1 ∧ 0 ≤ a0.toInt ∧ a0.toInt < (P 5).toInt) := d_r_1
  refine tot_bind2 (sf_mayAsk hP S r_1 h_S (by omega)) (fun r_3 S_4 d_r_3 => ?_)
  have h_S_4 : IC P S_4 := d_r_3.1
  replace d_r_3 : (r_3.toInt = 0 ∨ r_3.toInt = 1 ∧ ¬ r_1.toInt = 0) := d_r_3.2
  refine tot_if (fun c_11 => ?_) (fun c_11 => ?_)
  · replace c_11 := i_eq c_11
    exact tot_some ⟨h_S_4, (show (0 ≤ (0 : Int32).toInt ∧ (0 : Int32).toInt ≤ 143) from by omega)⟩
  · replace c_11 := i_ne c_11
    refine tot_bind (sf_copy_12_14 hP S_4 0 0 h_S_4 (by omega) (by omega)) (fun S_5 d_S_5 => ?_)
    have h_S_5 : IC P S_5 := d_S_5.1
    refine tot_let (fun v_6 e_v_6 => ?_)
    have q_v_6 := i_add e_v_6 (by omega) (by omega)
    refine tot_oif (i_inb (by omega) (by omega)) ?_
    refine tot_let (fun S_7 e_S_7 => ?_)
    have h_S_7 : IC P S_7 := by rw [e_S_7]; exact ic_mf14 h_S_5 (nR_w (by omega) (by omega))
    refine tot_bind (sf_records_14 hP S_7 h_S_7 ) (fun S_8 d_S_8 => ?_)
    have h_S_8 : IC P S_8 := d_S_8.1
    refine tot_bind2 (sf_bestIn_14 hP S_8 h_S_8 ) (fun r_9 S_10 d_r_9 => ?_)
    have h_S_10 : IC P S_10 := d_r_9.1
    replace d_r_9 : (0 ≤ r_9.toInt ∧ r_9.toInt ≤ 143) := d_r_9.2
    exact tot_some ⟨h_S_10, (show (0 ≤ r_9.toInt ∧ r_9.toInt ≤ 143) from by omega)⟩
set_option maxHeartbeats 4000000 in
set_option maxRecDepth 10000 in
theorem sf_sets {P : Nat → Int32} (hP : PL P) (S : MS) (a0 : Int32) (a1 : Int32) (h_S : IC P S) (g0 : 1 ≤ a0.toInt ∧ a0.toInt ≤ 48) (g1 : -2000 ≤ a1.toInt ∧ a1.toInt ≤ 2000) (g2 : (1 ≤ a0.toInt → a0.toInt < 13 → 0 ≤ a1.toInt ∧ a1.toInt ≤ 1) ∧ (13 ≤ a0.toInt → a0.toInt < 25 → 0 ≤ a1.toInt ∧ a1.toInt ≤ 9) ∧ (25 ≤ a0.toInt → a0.toInt < 31 → 0 ≤ a1.toInt ∧ a1.toInt ≤ 1) ∧ (31 ≤ a0.toInt → a0.toInt < 43 → -2000 ≤ a1.toInt ∧ a1.toInt ≤ 2000) ∧ (43 ≤ a0.toInt → a0.toInt < 55 → -999 ≤ a1.toInt ∧ a1.toInt ≤ 999)) : Tot (fr_sets S a0 a1) (fun r => IC P r.2 ∧ True) := by
  have j_a0 := i_any a0
  have j_a1 := i_any a1
  unfold fr_sets
  refine tot_bind (sf_remember hP S h_S ) (fun S_1 d_S_1 => ?_)
  have h_S_1 : IC P S_1 := d_S_1.1
  refine tot_oif (i_inb (by omega) (by omega)) ?_
  refine tot_let (fun v_2 e_v_2 => ?_)
  have r_v_2 := i_any v_2
  refine tot_oif (i_inb (by omega) (by omega)) ?_
  refine tot_let (fun S_3 e_S_3 => ?_)
  have h_S_3 : IC P S_3 := by rw [e_S_3]; exact ic_mf12 h_S_1 (nR_w (by omega) (by omega))
  exact tot_some ⟨h_S_3, trivial⟩
set_option maxHeartbeats 4000000 in
set_option maxRecDepth 10000 in
theorem sf_mute {P : Nat → Int32} (hP : PL P) (S : MS) (a0 : Int32) (a1 : Int32) (h_S : IC P S) : Tot (fr_mute S a0 a1) (fun r => IC P r.2 ∧ (0 ≤ r.1.toInt ∧ r.1.toInt ≤ 1)) := by
  have z0 : (0 : Int32).toInt = 0 := by decide
  have z1 : (1 : Int32).toInt = 1 := by decide
  have p_4 := pl_4 hP
  have j_a0 := i_any a0
  have j_a1 := i_any a1
  unfold fr_mute
  refine tot_bindp (R := fun r_1 : Int32 => (r_1.toInt = 0 ∨ r_1.toInt = 1 ∧ 0 ≤ a0.toInt ∧ a0.toInt < (P 4).toInt)) (sf_isMic hP S a0 h_S ) (fun r_1 d_r_1 => ?_)
  replace d_r_1 : (r_1.toInt = 0 ∨ r_1.toInt = 1 ∧ 0 ≤ a0.toInt ∧ a0.toInt < (P 4).toInt) := d_r_1
  refine tot_bind2 (sf_mayAsk hP S r_1 h_S (by omega)) (fun r_3 S_4 d_r_3 => ?_)
  have h_S_4 : IC P S_4 := d_r_3.1
  replace d_r_3 : (r_3.toInt = 0 ∨ r_3.toInt = 1 ∧ ¬ r_1.toInt = 0) := d_r_3.2
  refine tot_if (fun c_6 => ?_) (fun c_6 => ?_)
  · replace c_6 := i_eq c_6
    unfold fr_mute_b36
    unfold fr_mute_b37
    refine tot_oif (i_b01 (by omega)) ?_
    exact tot_some ⟨h_S_4, (show (0 ≤ (0 : Int32).toInt ∧ (0 : Int32).toInt ≤ 1) from by omega)⟩
  · replace c_6 := i_ne c_6
    refine tot_let (fun v_5 e_v_5 => ?_)
    have q_v_5 := i_add e_v_5 (by omega) (by omega)
    refine tot_if (fun c_7 => ?_) (fun c_7 => ?_)
    · replace c_7 := i_eq c_7
      unfold fr_mute_b25
      refine tot_bind2 (sf_sets hP S_4 v_5 0 h_S_4 (by omega) (by omega) (by omega)) (fun r_8 S_9 d_r_8 => ?_)
      have h_S_9 : IC P S_9 := d_r_8.1
      refine tot_if (fun c_10 => ?_) (fun c_10 => ?_)
      · replace c_10 := i_eq c_10
        unfold fr_mute_b37
        refine tot_oif (i_b01 (by omega)) ?_
        exact tot_some ⟨h_S_9, (show (0 ≤ (1 : Int32).toInt ∧ (1 : Int32).toInt ≤ 1) from by omega)⟩
      · replace c_10 := i_ne c_10
        unfold fr_mute_b36
        unfold fr_mute_b37
        refine tot_oif (i_b01 (by omega)) ?_
        exact tot_some ⟨h_S_9, (show (0 ≤ (0 : Int32).toInt ∧ (0 : Int32).toInt ≤ 1) from by omega)⟩
    · replace c_7 := i_ne c_7
      unfold fr_mute_b25
      refine tot_bind2 (sf_sets hP S_4 v_5 1 h_S_4 (by omega) (by omega) (by omega)) (fun r_11 S_12 d_r_11 => ?_)
      have h_S_12 : IC P S_12 := d_r_11.1
      refine tot_if (fun c_13 => ?_) (fun c_13 => ?_)
      · replace c_13 := i_eq c_13
        unfold fr_mute_b37
        refine tot_oif (i_b01 (by omega)) ?_
        exact tot_some ⟨h_S_12, (show (0 ≤ (1 : Int32).toInt ∧ (1 : Int32).toInt ≤ 1) from by omega)⟩
      · replace c_13 := i_ne c_13
        unfold fr_mute_b36
        unfold fr_mute_b37
        refine tot_oif (i_b01 (by omega)) ?_
        exact tot_some ⟨h_S_12, (show (0 ≤ (0 : Int32).toInt ∧ (0 : Int32).toInt ≤ 1) from by omega)⟩
set_option maxHeartbeats 4000000 in
set_option maxRecDepth 10000 in
theorem sf_setWeight {P : Nat → Int32} (hP : PL P) (S : MS) (a0 : Int32) (a1 : Int32) (h_S : IC P S) : Tot (fr_setWeight S a0 a1) (fun r => IC P r.2 ∧ True) := by
  have z0 : (0 : Int32).toInt = 0 := by decide
  have z1 : (9 : Int32).toInt = 9 := by decide
  have z2 : (3 : Int32).toInt = 3 := by decide
  have z3 : (13 : Int32).toInt = 13 := by decide
  have p_4 := pl_4 hP
  have j_a0 := i_any a0
  have j_a1 := i_any a1
  unfold fr_setWeight
  refine tot_bindp (R := fun r_1 : Int32 => (r_1.toInt = 0 ∨ r_1.toInt = 1 ∧ 0 ≤ a0.toInt ∧ a0.toInt < (P 4).toInt)) (sf_isMic hP S a0 h_S ) (fun r_1 d_r_1 => ?_)
  replace d_r_1 : (r_1.toInt = 0 ∨ r_1.toInt = 1 ∧ 0 ≤ a0.toInt ∧ a0.toInt < (P 4).toInt) := d_r_1
  refine tot_bind2 (sf_mayAsk hP S r_1 h_S (by omega)) (fun r_3 S_4 d_r_3 => ?_)
  have h_S_4 : IC P S_4 := d_r_3.1
  replace d_r_3 : (r_3.toInt = 0 ∨ r_3.toInt = 1 ∧ ¬ r_1.toInt = 0) := d_r_3.2
  refine tot_if (fun c_11 => ?_) (fun c_11 => ?_)
  · replace c_11 := i_eq c_11
    exact tot_some ⟨h_S_4, trivial⟩
  · replace c_11 := i_ne c_11
    refine tot_bind (sf_in hP a1 0 9  ) (fun r_5 d_r_5 => ?_)
    replace d_r_5 : (r_5.toInt = 0 ∧ (a1.toInt < (0 : Int32).toInt ∨ (9 : Int32).toInt < a1.toInt) ∨ r_5.toInt = 1 ∧ (0 : Int32).toInt ≤ a1.toInt ∧ a1.toInt ≤ (9 : Int32).toInt) := d_r_5
    refine tot_if (fun c_12 => ?_) (fun c_12 => ?_)
    · replace c_12 := i_eq c_12
      refine tot_bind2 (sf_throwsAt hP S_4 3 h_S_4 ) (fun r_6 S_7 d_r_6 => ?_)
      have h_S_7 : IC P S_7 := d_r_6.1
      replace d_r_6 : (0 ≤ r_6.toInt ∧ r_6.toInt ≤ 0) := d_r_6.2
      unfold fr_setWeight_b41
      exact tot_some ⟨h_S_7, trivial⟩
    · replace c_12 := i_ne c_12
      refine tot_let (fun v_8 e_v_8 => ?_)
      have q_v_8 := i_add e_v_8 (by omega) (by omega)
      refine tot_bind2 (sf_sets hP S_4 v_8 a1 h_S_4 (by omega) (by omega) (by omega)) (fun r_9 S_10 d_r_9 => ?_)
      have h_S_10 : IC P S_10 := d_r_9.1
      unfold fr_setWeight_b41
      exact tot_some ⟨h_S_10, trivial⟩
set_option maxHeartbeats 4000000 in
set_option maxRecDepth 10000 in
theorem sf_setOn {P : Nat → Int32} (hP : PL P) (S : MS) (a0 : Int32) (a1 : Int32) (h_S : IC P S) : Tot (fr_setOn S a0 a1) (fun r => IC P r.2 ∧ (0 ≤ r.1.toInt ∧ r.1.toInt ≤ 1)) := by
  have z0 : (0 : Int32).toInt = 0 := by decide
  have z1 : (25 : Int32).toInt = 25 := by decide
  have z2 : (1 : Int32).toInt = 1 := by decide
  have p_5 := pl_5 hP
  have j_a0 := i_any a0
  have j_a1 := i_any a1
  unfold fr_setOn
  refine tot_bindp (R := fun r_1 : Int32 => (r_1.toInt = 0 ∨ r_1.toInt = 1 ∧ 0 ≤ a0.toInt ∧ a0.toInt < (P 5).toInt)) (sf_isSource hP S a0 h_S ) (fun r_1 d_r_1 => ?_)
  replace d_r_1 : (r_1.toInt = 0 ∨ r_1.toInt = 1 ∧ 0 ≤ a0.toInt ∧ a0.toInt < (P 5).toInt) := d_r_1
  refine tot_bind2 (sf_mayAsk hP S r_1 h_S (by omega)) (fun r_3 S_4 d_r_3 => ?_)
  have h_S_4 : IC P S_4 := d_r_3.1
  replace d_r_3 : (r_3.toInt = 0 ∨ r_3.toInt = 1 ∧ ¬ r_1.toInt = 0) := d_r_3.2
  refine tot_if (fun c_6 => ?_) (fun c_6 => ?_)
  · replace c_6 := i_eq c_6
    exact tot_some ⟨h_S_4, (show (0 ≤ (0 : Int32).toInt ∧ (0 : Int32).toInt ≤ 1) from by omega)⟩
  · replace c_6 := i_ne c_6
    refine tot_let (fun v_5 e_v_5 => ?_)
    have q_v_5 := i_add e_v_5 (by omega) (by omega)
    refine tot_if (fun c_7 => ?_) (fun c_7 => ?_)
    · replace c_7 := i_eq c_7
      unfold fr_setOn_b28
      refine tot_bind2 (sf_sets hP S_4 v_5 0 h_S_4 (by omega) (by omega) (by omega)) (fun r_8 S_9 d_r_8 => ?_)
      have h_S_9 : IC P S_9 := d_r_8.1
      refine tot_bind (sf_records_12 hP S_9 h_S_9 ) (fun S_10 d_S_10 => ?_)
      have h_S_10 : IC P S_10 := d_S_10.1
      refine tot_if (fun c_11 => ?_) (fun c_11 => ?_)
      · replace c_11 := i_eq c_11
        unfold fr_setOn_b50
        refine tot_oif (i_b01 (by omega)) ?_
        exact tot_some ⟨h_S_10, (show (0 ≤ (1 : Int32).toInt ∧ (1 : Int32).toInt ≤ 1) from by omega)⟩
      · replace c_11 := i_ne c_11
        unfold fr_setOn_b50
        refine tot_oif (i_b01 (by omega)) ?_
        exact tot_some ⟨h_S_10, (show (0 ≤ (0 : Int32).toInt ∧ (0 : Int32).toInt ≤ 1) from by omega)⟩
    · replace c_7 := i_ne c_7
      unfold fr_setOn_b28
      refine tot_bind2 (sf_sets hP S_4 v_5 1 h_S_4 (by omega) (by omega) (by omega)) (fun r_12 S_13 d_r_12 => ?_)
      have h_S_13 : IC P S_13 := d_r_12.1
      refine tot_bind (sf_records_12 hP S_13 h_S_13 ) (fun S_14 d_S_14 => ?_)
      have h_S_14 : IC P S_14 := d_S_14.1
      refine tot_if (fun c_15 => ?_) (fun c_15 => ?_)
      · replace c_15 := i_eq c_15
        unfold fr_setOn_b50
        refine tot_oif (i_b01 (by omega)) ?_
        exact tot_some ⟨h_S_14, (show (0 ≤ (1 : Int32).toInt ∧ (1 : Int32).toInt ≤ 1) from by omega)⟩
      · replace c_15 := i_ne c_15
        unfold fr_setOn_b50
        refine tot_oif (i_b01 (by omega)) ?_
        exact tot_some ⟨h_S_14, (show (0 ≤ (0 : Int32).toInt ∧ (0 : Int32).toInt ≤ 1) from by omega)⟩
set_option maxHeartbeats 4000000 in
set_option maxRecDepth 10000 in
theorem sf_setsTwo {P : Nat → Int32} (hP : PL P) (S : MS) (a0 : Int32) (a1 : Int32) (a2 : Int32) (h_S : IC P S) (g0 : 31 ≤ a0.toInt ∧ a0.toInt ≤ 48) (g1 : -2000 ≤ a1.toInt ∧ a1.toInt ≤ 2000) (g2 : -2000 ≤ a2.toInt ∧ a2.toInt ≤ 2000) (g3 : (31 ≤ a0.toInt ∧ a0.toInt < 37 ∧ (-2000 ≤ a1.toInt ∧ a1.toInt ≤ 2000) ∧ -2000 ≤ a2.toInt ∧ a2.toInt ≤ 2000) ∨ (43 ≤ a0.toInt ∧ a0.toInt < 49 ∧ (-999 ≤ a1.toInt ∧ a1.toInt ≤ 999) ∧ -999 ≤ a2.toInt ∧ a2.toInt ≤ 999)) : Tot (fr_setsTwo S a0 a1 a2) (fun r => IC P r.2 ∧ (0 ≤ r.1.toInt ∧ r.1.toInt ≤ 143)) := by
  have z0 : (6 : Int32).toInt = 6 := by decide
  have j_a0 := i_any a0
  have j_a1 := i_any a1
  have j_a2 := i_any a2
  unfold fr_setsTwo
  refine tot_bind2 (sf_sets hP S a0 a1 h_S (by omega) (by omega) (by omega)) (fun r_1 S_2 d_r_1 => ?_)
  have h_S_2 : IC P S_2 := d_r_1.1
  refine tot_let (fun v_3 e_v_3 => ?_)
  have q_v_3 := i_add e_v_3 (by omega) (by omega)
  refine tot_oif (i_inb (by omega) (by omega)) ?_
  refine tot_let (fun S_4 e_S_4 => ?_)
  have h_S_4 : IC P S_4 := by rw [e_S_4]; exact ic_mf12 h_S_2 (nR_w (by omega) (by omega))
  refine tot_bind (sf_records_12 hP S_4 h_S_4 ) (fun S_5 d_S_5 => ?_)
  have h_S_5 : IC P S_5 := d_S_5.1
  refine tot_bind2 (sf_bestIn_12 hP S_5 h_S_5 ) (fun r_6 S_7 d_r_6 => ?_)
  have h_S_7 : IC P S_7 := d_r_6.1
  replace d_r_6 : (0 ≤ r_6.toInt ∧ r_6.toInt ≤ 143) := d_r_6.2
  exact tot_some ⟨h_S_7, (show (0 ≤ r_6.toInt ∧ r_6.toInt ≤ 143) from by omega)⟩
set_option maxHeartbeats 4000000 in
set_option maxRecDepth 10000 in
theorem sf_moveSource {P : Nat → Int32} (hP : PL P) (S : MS) (a0 : Int32) (a1 : Int32) (a2 : Int32) (h_S : IC P S) : Tot (fr_moveSource S a0 a1 a2) (fun r => IC P r.2 ∧ (0 ≤ r.1.toInt ∧ r.1.toInt ≤ 143)) := by
  have z0 : (0 : Int32).toInt = 0 := by decide
  have z1 : ((-2000) : Int32).toInt = -2000 := by decide
  have z2 : (2000 : Int32).toInt = 2000 := by decide
  have z3 : (3 : Int32).toInt = 3 := by decide
  have z4 : (31 : Int32).toInt = 31 := by decide
  have p_5 := pl_5 hP
  have j_a0 := i_any a0
  have j_a1 := i_any a1
  have j_a2 := i_any a2
  unfold fr_moveSource
  refine tot_bindp (R := fun r_1 : Int32 => (r_1.toInt = 0 ∨ r_1.toInt = 1 ∧ 0 ≤ a0.toInt ∧ a0.toInt < (P 5).toInt)) (sf_isSource hP S a0 h_S ) (fun r_1 d_r_1 => ?_)
  replace d_r_1 : (r_1.toInt = 0 ∨ r_1.toInt = 1 ∧ 0 ≤ a0.toInt ∧ a0.toInt < (P 5).toInt) := d_r_1
  refine tot_bind2 (sf_mayAsk hP S r_1 h_S (by omega)) (fun r_3 S_4 d_r_3 => ?_)
  have h_S_4 : IC P S_4 := d_r_3.1
  replace d_r_3 : (r_3.toInt = 0 ∨ r_3.toInt = 1 ∧ ¬ r_1.toInt = 0) := d_r_3.2
  refine tot_if (fun c_10 => ?_) (fun c_10 => ?_)
  · replace c_10 := i_eq c_10
    exact tot_some ⟨h_S_4, (show (0 ≤ (0 : Int32).toInt ∧ (0 : Int32).toInt ≤ 143) from by omega)⟩
  · replace c_10 := i_ne c_10
    refine tot_bind (sf_in hP a1 (-2000) 2000  ) (fun r_5 d_r_5 => ?_)
    replace d_r_5 : (r_5.toInt = 0 ∧ (a1.toInt < ((-2000) : Int32).toInt ∨ (2000 : Int32).toInt < a1.toInt) ∨ r_5.toInt = 1 ∧ ((-2000) : Int32).toInt ≤ a1.toInt ∧ a1.toInt ≤ (2000 : Int32).toInt) := d_r_5
    refine tot_if (fun c_11 => ?_) (fun c_11 => ?_)
    · replace c_11 := i_eq c_11
      unfold fr_moveSource_b53
      refine tot_bind2 (sf_throwsAt hP S_4 3 h_S_4 ) (fun r_12 S_13 d_r_12 => ?_)
      have h_S_13 : IC P S_13 := d_r_12.1
      replace d_r_12 : (0 ≤ r_12.toInt ∧ r_12.toInt ≤ 0) := d_r_12.2
      unfold fr_moveSource_b58
      exact tot_some ⟨h_S_13, (show (0 ≤ r_12.toInt ∧ r_12.toInt ≤ 143) from by omega)⟩
    · replace c_11 := i_ne c_11
      refine tot_bind (sf_in hP a2 (-2000) 2000  ) (fun r_6 d_r_6 => ?_)
      replace d_r_6 : (r_6.toInt = 0 ∧ (a2.toInt < ((-2000) : Int32).toInt ∨ (2000 : Int32).toInt < a2.toInt) ∨ r_6.toInt = 1 ∧ ((-2000) : Int32).toInt ≤ a2.toInt ∧ a2.toInt ≤ (2000 : Int32).toInt) := d_r_6
      refine tot_if (fun c_14 => ?_) (fun c_14 => ?_)
      · replace c_14 := i_eq c_14
        unfold fr_moveSource_b53
        refine tot_bind2 (sf_throwsAt hP S_4 3 h_S_4 ) (fun r_15 S_16 d_r_15 => ?_)
        have h_S_16 : IC P S_16 := d_r_15.1
        replace d_r_15 : (0 ≤ r_15.toInt ∧ r_15.toInt ≤ 0) := d_r_15.2
        unfold fr_moveSource_b58
        exact tot_some ⟨h_S_16, (show (0 ≤ r_15.toInt ∧ r_15.toInt ≤ 143) from by omega)⟩
      · replace c_14 := i_ne c_14
        refine tot_let (fun v_7 e_v_7 => ?_)
        have q_v_7 := i_add e_v_7 (by omega) (by omega)
        refine tot_bind2 (sf_setsTwo hP S_4 v_7 a1 a2 h_S_4 (by omega) (by omega) (by omega) (by omega)) (fun r_8 S_9 d_r_8 => ?_)
        have h_S_9 : IC P S_9 := d_r_8.1
        replace d_r_8 : (0 ≤ r_8.toInt ∧ r_8.toInt ≤ 143) := d_r_8.2
        unfold fr_moveSource_b58
        exact tot_some ⟨h_S_9, (show (0 ≤ r_8.toInt ∧ r_8.toInt ≤ 143) from by omega)⟩
set_option maxHeartbeats 4000000 in
set_option maxRecDepth 10000 in
theorem sf_setVelocity {P : Nat → Int32} (hP : PL P) (S : MS) (a0 : Int32) (a1 : Int32) (a2 : Int32) (h_S : IC P S) : Tot (fr_setVelocity S a0 a1 a2) (fun r => IC P r.2 ∧ (0 ≤ r.1.toInt ∧ r.1.toInt ≤ 143)) := by
  have z0 : (0 : Int32).toInt = 0 := by decide
  have z1 : (3 : Int32).toInt = 3 := by decide
  have z2 : (43 : Int32).toInt = 43 := by decide
  have p_5 := pl_5 hP
  have j_a0 := i_any a0
  have j_a1 := i_any a1
  have j_a2 := i_any a2
  unfold fr_setVelocity
  refine tot_bindp (R := fun r_1 : Int32 => (r_1.toInt = 0 ∨ r_1.toInt = 1 ∧ 0 ≤ a0.toInt ∧ a0.toInt < (P 5).toInt)) (sf_isSource hP S a0 h_S ) (fun r_1 d_r_1 => ?_)
  replace d_r_1 : (r_1.toInt = 0 ∨ r_1.toInt = 1 ∧ 0 ≤ a0.toInt ∧ a0.toInt < (P 5).toInt) := d_r_1
  refine tot_bind2 (sf_mayAsk hP S r_1 h_S (by omega)) (fun r_3 S_4 d_r_3 => ?_)
  have h_S_4 : IC P S_4 := d_r_3.1
  replace d_r_3 : (r_3.toInt = 0 ∨ r_3.toInt = 1 ∧ ¬ r_1.toInt = 0) := d_r_3.2
  refine tot_if (fun c_11 => ?_) (fun c_11 => ?_)
  · replace c_11 := i_eq c_11
    exact tot_some ⟨h_S_4, (show (0 ≤ (0 : Int32).toInt ∧ (0 : Int32).toInt ≤ 143) from by omega)⟩
  · replace c_11 := i_ne c_11
    refine tot_bind (sf_isVelocity hP a1 a2  ) (fun r_5 d_r_5 => ?_)
    replace d_r_5 : (r_5.toInt = 0 ∨ r_5.toInt = 1 ∧ (-999 ≤ a1.toInt ∧ a1.toInt ≤ 999) ∧ -999 ≤ a2.toInt ∧ a2.toInt ≤ 999) := d_r_5
    refine tot_if (fun c_12 => ?_) (fun c_12 => ?_)
    · replace c_12 := i_eq c_12
      refine tot_bind2 (sf_throwsAt hP S_4 3 h_S_4 ) (fun r_6 S_7 d_r_6 => ?_)
      have h_S_7 : IC P S_7 := d_r_6.1
      replace d_r_6 : (0 ≤ r_6.toInt ∧ r_6.toInt ≤ 0) := d_r_6.2
      unfold fr_setVelocity_b40
      exact tot_some ⟨h_S_7, (show (0 ≤ r_6.toInt ∧ r_6.toInt ≤ 143) from by omega)⟩
    · replace c_12 := i_ne c_12
      refine tot_let (fun v_8 e_v_8 => ?_)
      have q_v_8 := i_add e_v_8 (by omega) (by omega)
      refine tot_bind2 (sf_setsTwo hP S_4 v_8 a1 a2 h_S_4 (by omega) (by omega) (by omega) (by omega)) (fun r_9 S_10 d_r_9 => ?_)
      have h_S_10 : IC P S_10 := d_r_9.1
      replace d_r_9 : (0 ≤ r_9.toInt ∧ r_9.toInt ≤ 143) := d_r_9.2
      unfold fr_setVelocity_b40
      exact tot_some ⟨h_S_10, (show (0 ≤ r_9.toInt ∧ r_9.toInt ≤ 143) from by omega)⟩
set_option maxHeartbeats 4000000 in
set_option maxRecDepth 10000 in
theorem sf_cleaned {P : Nat → Int32} (hP : PL P) (S : MS) (h_S : IC P S) : Tot (fr_cleaned S) (fun r => IC P r.2 ∧ True) := by
  have z0 : (1 : Int32).toInt = 1 := by decide
  have z1 : (0 : Int32).toInt = 0 := by decide
  unfold fr_cleaned
  refine tot_bind2 (sf_mayAsk hP S 1 h_S (by omega)) (fun r_1 S_2 d_r_1 => ?_)
  have h_S_2 : IC P S_2 := d_r_1.1
  replace d_r_1 : (r_1.toInt = 0 ∨ r_1.toInt = 1 ∧ ¬ (1 : Int32).toInt = 0) := d_r_1.2
  refine tot_if (fun c_4 => ?_) (fun c_4 => ?_)
  · replace c_4 := i_eq c_4
    unfold fr_cleaned_b18
    exact tot_some ⟨h_S_2, trivial⟩
  · replace c_4 := i_ne c_4
    refine tot_let (fun v_3 e_v_3 => ?_)
    have r_v_3 := i_any v_3
    unfold fr_cleaned_b18
    exact tot_some ⟨h_S_2, trivial⟩
set_option maxHeartbeats 4000000 in
set_option maxRecDepth 10000 in
theorem sf_undo {P : Nat → Int32} (hP : PL P) (S : MS) (h_S : IC P S) : Tot (fr_undo S) (fun r => IC P r.2 ∧ (0 ≤ r.1.toInt ∧ r.1.toInt ≤ 6)) := by
  have z0 : (0 : Int32).toInt = 0 := by decide
  have z1 : (1 : Int32).toInt = 1 := by decide
  have z2 : (2455 : Int32).toInt = 2455 := by decide
  unfold fr_undo
  refine tot_let (fun v_1 e_v_1 => ?_)
  have q_v_1 := i_eq e_v_1
  have r_v_1 := ic_19 h_S
  refine tot_if (fun c_2 => ?_) (fun c_2 => ?_)
  · replace c_2 := i_eq c_2
    unfold fr_undo_b13
    refine tot_let (fun S_3 e_S_3 => ?_)
    have h_S_3 : IC P S_3 := by rw [e_S_3]; exact ic_mi0 h_S _
    have f_S_3_0 : (S_3.1 0).toInt = (1 : Int32).toInt := by rw [e_S_3]; rfl
    have f_S_3_19 : (S_3.1 19).toInt = (S.1 19).toInt := by rw [e_S_3]; rfl
    refine tot_let (fun v_4 e_v_4 => ?_)
    have q_v_4 := i_eq e_v_4
    have r_v_4 := i_any v_4
    refine tot_if (fun c_12 => ?_) (fun c_12 => ?_)
    · replace c_12 := i_le c_12
      exfalso
      omega
    · replace c_12 := i_nle c_12
      exact tot_some ⟨h_S_3, (show (0 ≤ (0 : Int32).toInt ∧ (0 : Int32).toInt ≤ 6) from by omega)⟩
  · replace c_2 := i_ne c_2
    unfold fr_undo_b13
    refine tot_let (fun S_13 e_S_13 => ?_)
    have h_S_13 : IC P S_13 := by rw [e_S_13]; exact ic_mi0 h_S _
    have f_S_13_0 : (S_13.1 0).toInt = (0 : Int32).toInt := by rw [e_S_13]; rfl
    have f_S_13_19 : (S_13.1 19).toInt = (S.1 19).toInt := by rw [e_S_13]; rfl
    refine tot_let (fun v_14 e_v_14 => ?_)
    have q_v_14 := i_eq e_v_14
    have r_v_14 := i_any v_14
    refine tot_if (fun c_22 => ?_) (fun c_22 => ?_)
    · replace c_22 := i_le c_22
      refine tot_let (fun v_15 e_v_15 => ?_)
      have q_v_15 := i_eq e_v_15
      have r_v_15 := ic_19 h_S_13
      refine tot_let (fun v_16 e_v_16 => ?_)
      have q_v_16 := i_sub e_v_16 (by omega) (by omega)
      refine tot_let (fun S_17 e_S_17 => ?_)
      have h_S_17 : IC P S_17 := by rw [e_S_17]; exact ic_mi19 h_S_13 (by omega) (by omega)
      have f_S_17_0 : (S_17.1 0).toInt = (S_13.1 0).toInt := by rw [e_S_17]; rfl
      have f_S_17_19 : (S_17.1 19).toInt = (v_16 : Int32).toInt := by rw [e_S_17]; rfl
      refine tot_let (fun v_18 e_v_18 => ?_)
      have q_v_18 := i_eq e_v_18
      have r_v_18 := ic_19 h_S_17
      refine tot_let (fun v_19 e_v_19 => ?_)
      have q_v_19 := i_mulk e_v_19 z2 (by omega) (by omega)
      refine tot_bind (sf_copy_15_12 hP S_17 v_19 0 h_S_17 (by omega) (by omega)) (fun S_20 d_S_20 => ?_)
      have h_S_20 : IC P S_20 := d_S_20.1
      refine tot_let (fun v_21 e_v_21 => ?_)
      have q_v_21 := i_eq e_v_21
      have r_v_21 := ic_19 h_S_20
      exact tot_some ⟨h_S_20, (show (0 ≤ v_21.toInt ∧ v_21.toInt ≤ 6) from by omega)⟩
    · replace c_22 := i_nle c_22
      exfalso
      omega
set_option maxHeartbeats 4000000 in
set_option maxRecDepth 10000 in
theorem sf_undoable {P : Nat → Int32} (hP : PL P) (S : MS) (h_S : IC P S) : Tot (fr_undoable S) (fun r => IC P r.2 ∧ (0 ≤ r.1.toInt ∧ r.1.toInt ≤ 6)) := by
  have z0 : (0 : Int32).toInt = 0 := by decide
  unfold fr_undoable
  refine tot_let (fun S_1 e_S_1 => ?_)
  have h_S_1 : IC P S_1 := by rw [e_S_1]; exact ic_mi0 h_S _
  refine tot_let (fun v_2 e_v_2 => ?_)
  have q_v_2 := i_eq e_v_2
  have r_v_2 := ic_19 h_S_1
  exact tot_some ⟨h_S_1, (show (0 ≤ v_2.toInt ∧ v_2.toInt ≤ 6) from by omega)⟩
set_option maxHeartbeats 4000000 in
set_option maxRecDepth 10000 in
theorem sf_save {P : Nat → Int32} (hP : PL P) (S : MS) (a0 : Int32) (h_S : IC P S) : Tot (fr_save S a0) (fun r => IC P r.2 ∧ (0 ≤ r.1.toInt ∧ r.1.toInt ≤ 143)) := by
  have z0 : (0 : Int32).toInt = 0 := by decide
  have z1 : (1 : Int32).toInt = 1 := by decide
  have z2 : (2455 : Int32).toInt = 2455 := by decide
  have j_a0 := i_any a0
  unfold fr_save
  refine tot_bind (sf_in hP a0 0 1  ) (fun r_1 d_r_1 => ?_)
  replace d_r_1 : (r_1.toInt = 0 ∧ (a0.toInt < (0 : Int32).toInt ∨ (1 : Int32).toInt < a0.toInt) ∨ r_1.toInt = 1 ∧ (0 : Int32).toInt ≤ a0.toInt ∧ a0.toInt ≤ (1 : Int32).toInt) := d_r_1
  refine tot_bind2 (sf_mayAsk hP S r_1 h_S (by omega)) (fun r_2 S_3 d_r_2 => ?_)
  have h_S_3 : IC P S_3 := d_r_2.1
  replace d_r_2 : (r_2.toInt = 0 ∨ r_2.toInt = 1 ∧ ¬ r_1.toInt = 0) := d_r_2.2
  refine tot_if (fun c_9 => ?_) (fun c_9 => ?_)
  · replace c_9 := i_eq c_9
    exact tot_some ⟨h_S_3, (show (0 ≤ (0 : Int32).toInt ∧ (0 : Int32).toInt ≤ 143) from by omega)⟩
  · replace c_9 := i_ne c_9
    refine tot_let (fun v_4 e_v_4 => ?_)
    have q_v_4 := i_mulk e_v_4 z2 (by omega) (by omega)
    refine tot_bind (sf_copy_12_16 hP S_3 0 v_4 h_S_3 (by omega) (by omega)) (fun S_5 d_S_5 => ?_)
    have h_S_5 : IC P S_5 := d_S_5.1
    refine tot_oif (i_inb (by omega) (by omega)) ?_
    refine tot_let (fun S_6 e_S_6 => ?_)
    have h_S_6 : IC P S_6 := by rw [e_S_6]; exact ic_mf18 h_S_5 (by omega)
    refine tot_bind2 (sf_bestIn_12 hP S_6 h_S_6 ) (fun r_7 S_8 d_r_7 => ?_)
    have h_S_8 : IC P S_8 := d_r_7.1
    replace d_r_7 : (0 ≤ r_7.toInt ∧ r_7.toInt ≤ 143) := d_r_7.2
    exact tot_some ⟨h_S_8, (show (0 ≤ r_7.toInt ∧ r_7.toInt ≤ 143) from by omega)⟩
set_option maxHeartbeats 4000000 in
set_option maxRecDepth 10000 in
theorem sf_restore {P : Nat → Int32} (hP : PL P) (S : MS) (a0 : Int32) (h_S : IC P S) : Tot (fr_restore S a0) (fun r => IC P r.2 ∧ (0 ≤ r.1.toInt ∧ r.1.toInt ≤ 143)) := by
  have z0 : (0 : Int32).toInt = 0 := by decide
  have z1 : (1 : Int32).toInt = 1 := by decide
  have z2 : (2 : Int32).toInt = 2 := by decide
  have z3 : (2455 : Int32).toInt = 2455 := by decide
  have j_a0 := i_any a0
  unfold fr_restore
  refine tot_bind (sf_in hP a0 0 1  ) (fun r_1 d_r_1 => ?_)
  replace d_r_1 : (r_1.toInt = 0 ∧ (a0.toInt < (0 : Int32).toInt ∨ (1 : Int32).toInt < a0.toInt) ∨ r_1.toInt = 1 ∧ (0 : Int32).toInt ≤ a0.toInt ∧ a0.toInt ≤ (1 : Int32).toInt) := d_r_1
  refine tot_if (fun c_3 => ?_) (fun c_3 => ?_)
  · replace c_3 := i_eq c_3
    unfold fr_restore_b28
    refine tot_let (fun S_4 e_S_4 => ?_)
    have h_S_4 : IC P S_4 := by rw [e_S_4]; exact ic_mi0 h_S _
    have f_S_4_0 : (S_4.1 0).toInt = (1 : Int32).toInt := by rw [e_S_4]; rfl
    refine tot_let (fun v_5 e_v_5 => ?_)
    have q_v_5 := i_eq e_v_5
    have r_v_5 := i_any v_5
    refine tot_if (fun c_11 => ?_) (fun c_11 => ?_)
    · replace c_11 := i_le c_11
      exfalso
      omega
    · replace c_11 := i_nle c_11
      exact tot_some ⟨h_S_4, (show (0 ≤ (0 : Int32).toInt ∧ (0 : Int32).toInt ≤ 143) from by omega)⟩
  · replace c_3 := i_ne c_3
    refine tot_oif (i_inb (by omega) (by omega)) ?_
    refine tot_let (fun v_2 e_v_2 => ?_)
    have r_v_2 := ic_18 h_S e_v_2
    refine tot_if (fun c_12 => ?_) (fun c_12 => ?_)
    · replace c_12 := i_eq c_12
      unfold fr_restore_b28
      refine tot_let (fun S_13 e_S_13 => ?_)
      have h_S_13 : IC P S_13 := by rw [e_S_13]; exact ic_mi0 h_S _
      have f_S_13_0 : (S_13.1 0).toInt = (2 : Int32).toInt := by rw [e_S_13]; rfl
      refine tot_let (fun v_14 e_v_14 => ?_)
      have q_v_14 := i_eq e_v_14
      have r_v_14 := i_any v_14
      refine tot_if (fun c_20 => ?_) (fun c_20 => ?_)
      · replace c_20 := i_le c_20
        exfalso
        omega
      · replace c_20 := i_nle c_20
        exact tot_some ⟨h_S_13, (show (0 ≤ (0 : Int32).toInt ∧ (0 : Int32).toInt ≤ 143) from by omega)⟩
    · replace c_12 := i_ne c_12
      unfold fr_restore_b28
      refine tot_let (fun S_21 e_S_21 => ?_)
      have h_S_21 : IC P S_21 := by rw [e_S_21]; exact ic_mi0 h_S _
      have f_S_21_0 : (S_21.1 0).toInt = (0 : Int32).toInt := by rw [e_S_21]; rfl
      refine tot_let (fun v_22 e_v_22 => ?_)
      have q_v_22 := i_eq e_v_22
      have r_v_22 := i_any v_22
      refine tot_if (fun c_28 => ?_) (fun c_28 => ?_)
      · replace c_28 := i_le c_28
        refine tot_let (fun v_23 e_v_23 => ?_)
        have q_v_23 := i_mulk e_v_23 z3 (by omega) (by omega)
        refine tot_bind (sf_copy_16_12 hP S_21 v_23 0 h_S_21 (by omega) (by omega)) (fun S_24 d_S_24 => ?_)
        have h_S_24 : IC P S_24 := d_S_24.1
        refine tot_let (fun S_25 e_S_25 => ?_)
        have h_S_25 : IC P S_25 := by rw [e_S_25]; exact ic_mi19 h_S_24 (by omega) (by omega)
        have f_S_25_0 : (S_25.1 0).toInt = (S_24.1 0).toInt := by rw [e_S_25]; rfl
        refine tot_bind2 (sf_bestIn_12 hP S_25 h_S_25 ) (fun r_26 S_27 d_r_26 => ?_)
        have h_S_27 : IC P S_27 := d_r_26.1
        replace d_r_26 : (0 ≤ r_26.toInt ∧ r_26.toInt ≤ 143) := d_r_26.2
        exact tot_some ⟨h_S_27, (show (0 ≤ r_26.toInt ∧ r_26.toInt ≤ 143) from by omega)⟩
      · replace c_28 := i_nle c_28
        exfalso
        omega
set_option maxHeartbeats 4000000 in
set_option maxRecDepth 10000 in
theorem lf_load_b107 {P : Nat → Int32} (hP : PL P) {Q : Int32 × MS → Prop} (hx0 : ∀ (S : MS), (IC P S) → Tot (fr_load_b158 16384 S 0) Q) : ∀ (n : Nat) (S : MS) (l2 : Int32), (IC P S) → (0 ≤ l2.toInt ∧ l2.toInt ≤ 12) → 12 - l2.toInt < (n : Int) → Tot (fr_load_b107 n S l2) Q := by
  have z0 : (13 : Int32).toInt = 13 := by decide
  have z1 : (1 : Int32).toInt = 1 := by decide
  have z2 : (Int32.ofInt (1) : Int32).toInt = 1 := by decide
  have z3 : (119 : Int32).toInt = 119 := by decide
  have p_4 := pl_4 hP
  have p_118 := pl_118 hP
  intro n
  induction n with
  | zero =>
    intro S l2 h_S g_l2 hm
    exfalso
    omega
  | succ n ih =>
    intro S l2 h_S g_l2 hm
    unfold fr_load_b107
    refine tot_let (fun v_70 e_v_70 => ?_)
    have q_v_70 := ic_p h_S e_v_70
    refine tot_if (fun c_109 => ?_) (fun c_109 => ?_)
    · replace c_109 := i_le c_109
      exact hx0 S h_S
    · replace c_109 := i_nle c_109
      refine tot_let (fun v_71 e_v_71 => ?_)
      have q_v_71 := i_add e_v_71 (by omega) (by omega)
      refine tot_let (fun v_72 e_v_72 => ?_)
      have q_v_72 := ic_p h_S e_v_72
      refine tot_if (fun c_110 => ?_) (fun c_110 => ?_)
      · replace c_110 := i_le c_110
        unfold fr_load_b149
        refine tot_oif (i_inb (by omega) (by omega)) ?_
        refine tot_let (fun S_111 e_S_111 => ?_)
        have h_S_111 : IC P S_111 := by rw [e_S_111]; exact ic_mf12 h_S (nR_w (by omega) (by omega))
        refine tot_let (fun v_112 e_v_112 => ?_)
        have q_v_112 := i_add e_v_112 (by omega) (by omega)
        exact ih S_111 v_112 h_S_111 (by omega) (by omega)
      · replace c_110 := i_nle c_110
        refine tot_let (fun v_73 e_v_73 => ?_)
        have q_v_73 := i_add e_v_73 (by omega) (by omega)
        refine tot_oif (i_inb (by omega) (by omega)) ?_
        refine tot_let (fun v_74 e_v_74 => ?_)
        have q_v_74 := ic_p h_S e_v_74
        have r_v_74 := pr_119 hP v_73 (by omega) (by omega)
        unfold fr_load_b149
        refine tot_oif (i_inb (by omega) (by omega)) ?_
        refine tot_let (fun S_113 e_S_113 => ?_)
        have h_S_113 : IC P S_113 := by rw [e_S_113]; exact ic_mf12 h_S (nR_w (by omega) (by omega))
        refine tot_let (fun v_114 e_v_114 => ?_)
        have q_v_114 := i_add e_v_114 (by omega) (by omega)
        exact ih S_113 v_114 h_S_113 (by omega) (by omega)
set_option maxHeartbeats 4000000 in
set_option maxRecDepth 10000 in
theorem lf_load_b168 {P : Nat → Int32} (hP : PL P) {Q : Int32 × MS → Prop} {k158 : MS → Int32 → Option (Int32 × MS)} (l2 : Int32) (g0 : 0 ≤ l2.toInt ∧ l2.toInt ≤ 143) (hx0 : ∀ (S : MS), (IC P S) → Tot (elet (l2 + Int32.ofInt (1)) fun v_150 => k158 S v_150) Q) : ∀ (n : Nat) (S : MS) (l3 : Int32), (IC P S) → (0 ≤ l3.toInt ∧ l3.toInt ≤ 12) → 12 - l3.toInt < (n : Int) → Tot (fr_load_b168 k158 n S l2 l3) Q := by
  have z0 : (12 : Int32).toInt = 12 := by decide
  have z1 : (0 : Int32).toInt = 0 := by decide
  have z2 : (1 : Int32).toInt = 1 := by decide
  have z3 : (Int32.ofInt (1) : Int32).toInt = 1 := by decide
  have p_4 := pl_4 hP
  have j_l2 := i_any l2
  intro n
  induction n with
  | zero =>
    intro S l3 h_S g_l3 hm
    exfalso
    omega
  | succ n ih =>
    intro S l3 h_S g_l3 hm
    unfold fr_load_b168
    refine tot_let (fun v_149 e_v_149 => ?_)
    have q_v_149 := ic_p h_S e_v_149
    refine tot_if (fun c_173 => ?_) (fun c_173 => ?_)
    · replace c_173 := i_le c_173
      exact hx0 S h_S
    · replace c_173 := i_nle c_173
      refine tot_let (fun v_151 e_v_151 => ?_)
      have q_v_151 := i_mulk e_v_151 z0 (by omega) (by omega)
      refine tot_let (fun v_152 e_v_152 => ?_)
      have q_v_152 := i_add e_v_152 (by omega) (by omega)
      refine tot_bindp (R := fun r_153 : Int32 => (-999 ≤ r_153.toInt ∧ r_153.toInt ≤ 15156)) (sf_centre hP S l2 0 h_S (by omega) (by omega)) (fun r_153 d_r_153 => ?_)
      replace d_r_153 : (-999 ≤ r_153.toInt ∧ r_153.toInt ≤ 15156) := d_r_153
      refine tot_bindp (R := fun r_155 : Int32 => (-999 ≤ r_155.toInt ∧ r_155.toInt ≤ 15156)) (sf_centre hP S l2 1 h_S (by omega) (by omega)) (fun r_155 d_r_155 => ?_)
      replace d_r_155 : (-999 ≤ r_155.toInt ∧ r_155.toInt ≤ 15156) := d_r_155
      refine tot_bindp (R := fun r_157 : Int32 => (0 ≤ r_157.toInt ∧ r_157.toInt ≤ 65535)) (sf_delayFrom hP S l3 r_153 r_155 h_S (by omega) (by omega) (by omega)) (fun r_157 d_r_157 => ?_)
      replace d_r_157 : (0 ≤ r_157.toInt ∧ r_157.toInt ≤ 65535) := d_r_157
      refine tot_oif (i_inb (by omega) (by omega)) ?_
      refine tot_let (fun S_159 e_S_159 => ?_)
      have h_S_159 : IC P S_159 := by rw [e_S_159]; exact ic_mf17 h_S (by omega)
      refine tot_let (fun v_160 e_v_160 => ?_)
      have q_v_160 := i_add e_v_160 (by omega) (by omega)
      exact ih S_159 v_160 h_S_159 (by omega) (by omega)
set_option maxHeartbeats 4000000 in
set_option maxRecDepth 10000 in
theorem lf_load_b158 {P : Nat → Int32} (hP : PL P) {Q : Int32 × MS → Prop} (hx0 : ∀ (S : MS), (IC P S) → Tot (obind (fr_records_12 S) fun S_118 => elet (mi S_118 20 1) fun S_119 => elet (mf S_119 18 (upd (S_119.2.1 18) 0 0)) fun S_120 => elet (mf S_120 18 (upd (S_120.2.1 18) 1 0)) fun S_121 => elet (mi S_121 19 0) fun S_122 => obind2 (fr_cellCount S_122) fun r_123 S_124 => some (r_123, S_124)) Q) : ∀ (n : Nat) (S : MS) (l2 : Int32), (IC P S) → (0 ≤ l2.toInt ∧ l2.toInt ≤ 144) → 144 - l2.toInt < (n : Int) → Tot (fr_load_b158 n S l2) Q := by
  have z0 : (0 : Int32).toInt = 0 := by decide
  have z1 : (Int32.ofInt (1) : Int32).toInt = 1 := by decide
  have p_9 := pl_9 hP
  have p_10 := pl_10 hP
  have p_cells := pl_cells hP
  intro n
  induction n with
  | zero =>
    intro S l2 h_S g_l2 hm
    exfalso
    omega
  | succ n ih =>
    intro S l2 h_S g_l2 hm
    unfold fr_load_b158
    refine tot_bindp (R := fun r_116 : Int32 => ((1 ≤ r_116.toInt ∧ r_116.toInt ≤ 144) ∧ r_116.toInt = (P 9).toInt * (P 10).toInt)) (sf_cellCount hP S h_S ) (fun r_116 d_r_116 => ?_)
    replace d_r_116 : ((1 ≤ r_116.toInt ∧ r_116.toInt ≤ 144) ∧ r_116.toInt = (P 9).toInt * (P 10).toInt) := d_r_116
    refine tot_if (fun c_148 => ?_) (fun c_148 => ?_)
    · replace c_148 := i_le c_148
      exact hx0 S h_S
    · replace c_148 := i_nle c_148
      refine lf_load_b168 hP l2 (by omega) ?_ 16384 S 0 h_S (by omega) (by omega)
      · intro S_174 h_S_174
        refine tot_let (fun v__175 e_v__175 => ?_)
        have q_v__175 := i_add e_v__175 (by omega) (by omega)
        exact ih S_174 v__175 h_S_174 (by omega) (by omega)
set_option maxHeartbeats 4000000 in
set_option maxRecDepth 10000 in
theorem lcam {P : Nat → Int32} (hP : PL P) (S : MS) (h_S : IC P S) : Tot (fr_load_b107 16384 S 0) (fun r => IC P r.2 ∧ (1 ≤ r.1.toInt ∧ r.1.toInt ≤ 144)) := by
  have z0 : (0 : Int32).toInt = 0 := by decide
  have z1 : (1 : Int32).toInt = 1 := by decide
  have p_9 := pl_9 hP
  have p_10 := pl_10 hP
  have p_cells := pl_cells hP
  refine lf_load_b107 hP  ?_ 16384 S 0 h_S (by omega) (by omega)
  · intro S_115 h_S_115
    refine lf_load_b158 hP  ?_ 16384 S_115 0 h_S_115 (by omega) (by omega)
    · intro S_176 h_S_176
      refine tot_bind (sf_records_12 hP S_176 h_S_176 ) (fun S__177 d_S__177 => ?_)
      have h_S__177 : IC P S__177 := d_S__177.1
      refine tot_let (fun S__178 e_S__178 => ?_)
      have h_S__178 : IC P S__178 := by rw [e_S__178]; exact ic_mi20 h_S__177 _
      refine tot_let (fun S__179 e_S__179 => ?_)
      have h_S__179 : IC P S__179 := by rw [e_S__179]; exact ic_mf18 h_S__178 (by omega)
      refine tot_let (fun S__180 e_S__180 => ?_)
      have h_S__180 : IC P S__180 := by rw [e_S__180]; exact ic_mf18 h_S__179 (by omega)
      refine tot_let (fun S__181 e_S__181 => ?_)
      have h_S__181 : IC P S__181 := by rw [e_S__181]; exact ic_mi19 h_S__180 (by omega) (by omega)
      refine tot_bindp (R := fun r__182 : Int32 => ((1 ≤ r__182.toInt ∧ r__182.toInt ≤ 144) ∧ r__182.toInt = (P 9).toInt * (P 10).toInt)) (sf_cellCount hP S__181 h_S__181 ) (fun r__182 d_r__182 => ?_)
      replace d_r__182 : ((1 ≤ r__182.toInt ∧ r__182.toInt ≤ 144) ∧ r__182.toInt = (P 9).toInt * (P 10).toInt) := d_r__182
      exact tot_some ⟨h_S__181, (show (1 ≤ r__182.toInt ∧ r__182.toInt ≤ 144) from by omega)⟩
