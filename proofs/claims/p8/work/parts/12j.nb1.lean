set_option maxHeartbeats 4000000 in
set_option maxRecDepth 10000 in
theorem nf_mapByte (hP : True) (S : MS) (a0 : Int32) (h_S : NC S) : Tot (fr_mapByte S a0) (fun r => NC r.2 ∧ True) := by
  have z0 : (1 : Int32).toInt = 1 := by decide
  have z1 : (0 : Int32).toInt = 0 := by decide
  have j_a0 := i_any a0
  unfold fr_mapByte
  refine tot_let (fun v_1 e_v_1 => ?_)
  have q_v_1 := i_eq e_v_1
  have r_v_1 := nc_28 h_S
  refine tot_let (fun v_2 e_v_2 => ?_)
  have q_v_2 := i_sub e_v_2 (by omega) (by omega)
  refine tot_bind (nf_in hP a0 0 v_2  ) (fun r_3 d_r_3 => ?_)
  replace d_r_3 : (r_3.toInt = 0 ∧ (a0.toInt < (0 : Int32).toInt ∨ v_2.toInt < a0.toInt) ∨ r_3.toInt = 1 ∧ (0 : Int32).toInt ≤ a0.toInt ∧ a0.toInt ≤ v_2.toInt) := d_r_3
  refine tot_if (fun c_4 => ?_) (fun c_4 => ?_)
  · replace c_4 := i_eq c_4
    unfold fr_mapByte_b20
    refine tot_let (fun S_5 e_S_5 => ?_)
    have h_S_5 : NC S_5 := by rw [e_S_5]; exact nc_mi0 h_S _
    have f_S_5_0 : (S_5.1 0).toInt = (1 : Int32).toInt := by rw [e_S_5]; rfl
    refine tot_let (fun v_6 e_v_6 => ?_)
    have q_v_6 := i_eq e_v_6
    have r_v_6 := i_any v_6
    refine tot_if (fun c_8 => ?_) (fun c_8 => ?_)
    · replace c_8 := i_eq c_8
      exfalso
      omega
    · replace c_8 := i_ne c_8
      unfold fr_mapByte_b40
      exact tot_some ⟨h_S_5, trivial⟩
  · replace c_4 := i_ne c_4
    unfold fr_mapByte_b20
    refine tot_let (fun S_9 e_S_9 => ?_)
    have h_S_9 : NC S_9 := by rw [e_S_9]; exact nc_mi0 h_S _
    have f_S_9_0 : (S_9.1 0).toInt = (0 : Int32).toInt := by rw [e_S_9]; rfl
    refine tot_let (fun v_10 e_v_10 => ?_)
    have q_v_10 := i_eq e_v_10
    have r_v_10 := i_any v_10
    refine tot_if (fun c_12 => ?_) (fun c_12 => ?_)
    · replace c_12 := i_eq c_12
      refine tot_oif (i_inb (by omega) (by omega)) ?_
      refine tot_let (fun v_11 e_v_11 => ?_)
      have r_v_11 := i_any v_11
      unfold fr_mapByte_b40
      exact tot_some ⟨h_S_9, trivial⟩
    · replace c_12 := i_ne c_12
      exfalso
      omega
set_option maxHeartbeats 4000000 in
set_option maxRecDepth 10000 in
theorem nf_pointBest (hP : True) (S : MS) (a0 : Int32) (a1 : Int32) (h_S : NC S) : Tot (fr_pointBest S a0 a1) (fun r => NC r.2 ∧ (0 ≤ r.1.toInt ∧ r.1.toInt ≤ 0)) := by
  have z0 : (0 : Int32).toInt = 0 := by decide
  have j_a0 := i_any a0
  have j_a1 := i_any a1
  unfold fr_pointBest
  refine tot_bindp (R := fun r_1 : Int32 => (0 ≤ r_1.toInt ∧ r_1.toInt ≤ 1)) (nf_isCell hP S a0 h_S ) (fun r_1 d_r_1 => ?_)
  replace d_r_1 : (0 ≤ r_1.toInt ∧ r_1.toInt ≤ 1) := d_r_1
  refine tot_bind2 (nf_mayAsk hP S r_1 h_S (by omega)) (fun r_3 S_4 d_r_3 => ?_)
  have h_S_4 : NC S_4 := d_r_3.1
  replace d_r_3 : (0 ≤ r_3.toInt ∧ r_3.toInt ≤ 0) := d_r_3.2
  refine tot_if (fun c_12 => ?_) (fun c_12 => ?_)
  · replace c_12 := i_eq c_12
    exact tot_some ⟨h_S_4, (show (0 ≤ (0 : Int32).toInt ∧ (0 : Int32).toInt ≤ 0) from by omega)⟩
  · replace c_12 := i_ne c_12
    exfalso
    omega
set_option maxHeartbeats 4000000 in
set_option maxRecDepth 10000 in
theorem nf_pointPower (hP : True) (S : MS) (a0 : Int32) (a1 : Int32) (a2 : Int32) (h_S : NC S) : Tot (fr_pointPower S a0 a1 a2) (fun r => NC r.2 ∧ True) := by
  have z0 : (0 : Int32).toInt = 0 := by decide
  have z1 : (1 : Int32).toInt = 1 := by decide
  have j_a0 := i_any a0
  have j_a1 := i_any a1
  have j_a2 := i_any a2
  unfold fr_pointPower
  refine tot_bindp (R := fun r_1 : Int32 => (0 ≤ r_1.toInt ∧ r_1.toInt ≤ 1)) (nf_isCell hP S a0 h_S ) (fun r_1 d_r_1 => ?_)
  replace d_r_1 : (0 ≤ r_1.toInt ∧ r_1.toInt ≤ 1) := d_r_1
  refine tot_if (fun c_5 => ?_) (fun c_5 => ?_)
  · replace c_5 := i_eq c_5
    unfold fr_pointPower_b21
    unfold fr_pointPower_b22
    refine tot_bind2 (nf_mayAsk hP S 0 h_S (by omega)) (fun r_6 S_7 d_r_6 => ?_)
    have h_S_7 : NC S_7 := d_r_6.1
    replace d_r_6 : (0 ≤ r_6.toInt ∧ r_6.toInt ≤ 0) := d_r_6.2
    refine tot_if (fun c_16 => ?_) (fun c_16 => ?_)
    · replace c_16 := i_eq c_16
      exact tot_some ⟨h_S_7, trivial⟩
    · replace c_16 := i_ne c_16
      exfalso
      omega
  · replace c_5 := i_ne c_5
    refine tot_bindp (R := fun r_3 : Int32 => (0 ≤ r_3.toInt ∧ r_3.toInt ≤ 1)) (nf_isCell hP S a1 h_S ) (fun r_3 d_r_3 => ?_)
    replace d_r_3 : (0 ≤ r_3.toInt ∧ r_3.toInt ≤ 1) := d_r_3
    refine tot_if (fun c_17 => ?_) (fun c_17 => ?_)
    · replace c_17 := i_eq c_17
      unfold fr_pointPower_b21
      unfold fr_pointPower_b22
      refine tot_bind2 (nf_mayAsk hP S 0 h_S (by omega)) (fun r_18 S_19 d_r_18 => ?_)
      have h_S_19 : NC S_19 := d_r_18.1
      replace d_r_18 : (0 ≤ r_18.toInt ∧ r_18.toInt ≤ 0) := d_r_18.2
      refine tot_if (fun c_28 => ?_) (fun c_28 => ?_)
      · replace c_28 := i_eq c_28
        exact tot_some ⟨h_S_19, trivial⟩
      · replace c_28 := i_ne c_28
        exfalso
        omega
    · replace c_17 := i_ne c_17
      unfold fr_pointPower_b22
      refine tot_bind2 (nf_mayAsk hP S 1 h_S (by omega)) (fun r_29 S_30 d_r_29 => ?_)
      have h_S_30 : NC S_30 := d_r_29.1
      replace d_r_29 : (0 ≤ r_29.toInt ∧ r_29.toInt ≤ 0) := d_r_29.2
      refine tot_if (fun c_39 => ?_) (fun c_39 => ?_)
      · replace c_39 := i_eq c_39
        exact tot_some ⟨h_S_30, trivial⟩
      · replace c_39 := i_ne c_39
        exfalso
        omega
set_option maxHeartbeats 4000000 in
set_option maxRecDepth 10000 in
theorem nf_bestWithout (hP : True) (S : MS) (a0 : Int32) (h_S : NC S) : Tot (fr_bestWithout S a0) (fun r => NC r.2 ∧ (0 ≤ r.1.toInt ∧ r.1.toInt ≤ 0)) := by
  have z0 : (0 : Int32).toInt = 0 := by decide
  have j_a0 := i_any a0
  unfold fr_bestWithout
  refine tot_bindp (R := fun r_1 : Int32 => (0 ≤ r_1.toInt ∧ r_1.toInt ≤ 1)) (nf_isMic hP S a0 h_S ) (fun r_1 d_r_1 => ?_)
  replace d_r_1 : (0 ≤ r_1.toInt ∧ r_1.toInt ≤ 1) := d_r_1
  refine tot_bind2 (nf_mayAsk hP S r_1 h_S (by omega)) (fun r_3 S_4 d_r_3 => ?_)
  have h_S_4 : NC S_4 := d_r_3.1
  replace d_r_3 : (0 ≤ r_3.toInt ∧ r_3.toInt ≤ 0) := d_r_3.2
  refine tot_if (fun c_10 => ?_) (fun c_10 => ?_)
  · replace c_10 := i_eq c_10
    exact tot_some ⟨h_S_4, (show (0 ≤ (0 : Int32).toInt ∧ (0 : Int32).toInt ≤ 0) from by omega)⟩
  · replace c_10 := i_ne c_10
    exfalso
    omega
set_option maxHeartbeats 4000000 in
set_option maxRecDepth 10000 in
theorem nf_bestIfOff (hP : True) (S : MS) (a0 : Int32) (h_S : NC S) : Tot (fr_bestIfOff S a0) (fun r => NC r.2 ∧ (0 ≤ r.1.toInt ∧ r.1.toInt ≤ 0)) := by
  have z0 : (0 : Int32).toInt = 0 := by decide
  have j_a0 := i_any a0
  unfold fr_bestIfOff
  refine tot_bindp (R := fun r_1 : Int32 => (0 ≤ r_1.toInt ∧ r_1.toInt ≤ 1)) (nf_isSource hP S a0 h_S ) (fun r_1 d_r_1 => ?_)
  replace d_r_1 : (0 ≤ r_1.toInt ∧ r_1.toInt ≤ 1) := d_r_1
  refine tot_bind2 (nf_mayAsk hP S r_1 h_S (by omega)) (fun r_3 S_4 d_r_3 => ?_)
  have h_S_4 : NC S_4 := d_r_3.1
  replace d_r_3 : (0 ≤ r_3.toInt ∧ r_3.toInt ≤ 0) := d_r_3.2
  refine tot_if (fun c_11 => ?_) (fun c_11 => ?_)
  · replace c_11 := i_eq c_11
    exact tot_some ⟨h_S_4, (show (0 ≤ (0 : Int32).toInt ∧ (0 : Int32).toInt ≤ 0) from by omega)⟩
  · replace c_11 := i_ne c_11
    exfalso
    omega
set_option maxHeartbeats 4000000 in
set_option maxRecDepth 10000 in
theorem nf_mute (hP : True) (S : MS) (a0 : Int32) (a1 : Int32) (h_S : NC S) : Tot (fr_mute S a0 a1) (fun r => NC r.2 ∧ (0 ≤ r.1.toInt ∧ r.1.toInt ≤ 0)) := by
  have z0 : (0 : Int32).toInt = 0 := by decide
  have j_a0 := i_any a0
  have j_a1 := i_any a1
  unfold fr_mute
  refine tot_bindp (R := fun r_1 : Int32 => (0 ≤ r_1.toInt ∧ r_1.toInt ≤ 1)) (nf_isMic hP S a0 h_S ) (fun r_1 d_r_1 => ?_)
  replace d_r_1 : (0 ≤ r_1.toInt ∧ r_1.toInt ≤ 1) := d_r_1
  refine tot_bind2 (nf_mayAsk hP S r_1 h_S (by omega)) (fun r_3 S_4 d_r_3 => ?_)
  have h_S_4 : NC S_4 := d_r_3.1
  replace d_r_3 : (0 ≤ r_3.toInt ∧ r_3.toInt ≤ 0) := d_r_3.2
  refine tot_if (fun c_6 => ?_) (fun c_6 => ?_)
  · replace c_6 := i_eq c_6
    unfold fr_mute_b36
    unfold fr_mute_b37
    refine tot_oif (i_b01 (by omega)) ?_
    exact tot_some ⟨h_S_4, (show (0 ≤ (0 : Int32).toInt ∧ (0 : Int32).toInt ≤ 0) from by omega)⟩
  · replace c_6 := i_ne c_6
    exfalso
    omega
set_option maxHeartbeats 4000000 in
set_option maxRecDepth 10000 in
theorem nf_setWeight (hP : True) (S : MS) (a0 : Int32) (a1 : Int32) (h_S : NC S) : Tot (fr_setWeight S a0 a1) (fun r => NC r.2 ∧ (0 ≤ r.1.toInt ∧ r.1.toInt ≤ 0)) := by
  have z0 : (0 : Int32).toInt = 0 := by decide
  have j_a0 := i_any a0
  have j_a1 := i_any a1
  unfold fr_setWeight
  refine tot_bindp (R := fun r_1 : Int32 => (0 ≤ r_1.toInt ∧ r_1.toInt ≤ 1)) (nf_isMic hP S a0 h_S ) (fun r_1 d_r_1 => ?_)
  replace d_r_1 : (0 ≤ r_1.toInt ∧ r_1.toInt ≤ 1) := d_r_1
  refine tot_bind2 (nf_mayAsk hP S r_1 h_S (by omega)) (fun r_3 S_4 d_r_3 => ?_)
  have h_S_4 : NC S_4 := d_r_3.1
  replace d_r_3 : (0 ≤ r_3.toInt ∧ r_3.toInt ≤ 0) := d_r_3.2
  refine tot_if (fun c_11 => ?_) (fun c_11 => ?_)
  · replace c_11 := i_eq c_11
    exact tot_some ⟨h_S_4, (show (0 ≤ (0 : Int32).toInt ∧ (0 : Int32).toInt ≤ 0) from by omega)⟩
  · replace c_11 := i_ne c_11
    exfalso
    omega
set_option maxHeartbeats 4000000 in
set_option maxRecDepth 10000 in
theorem nf_setOn (hP : True) (S : MS) (a0 : Int32) (a1 : Int32) (h_S : NC S) : Tot (fr_setOn S a0 a1) (fun r => NC r.2 ∧ (0 ≤ r.1.toInt ∧ r.1.toInt ≤ 0)) := by
  have z0 : (0 : Int32).toInt = 0 := by decide
  have j_a0 := i_any a0
  have j_a1 := i_any a1
  unfold fr_setOn
  refine tot_bindp (R := fun r_1 : Int32 => (0 ≤ r_1.toInt ∧ r_1.toInt ≤ 1)) (nf_isSource hP S a0 h_S ) (fun r_1 d_r_1 => ?_)
  replace d_r_1 : (0 ≤ r_1.toInt ∧ r_1.toInt ≤ 1) := d_r_1
  refine tot_bind2 (nf_mayAsk hP S r_1 h_S (by omega)) (fun r_3 S_4 d_r_3 => ?_)
  have h_S_4 : NC S_4 := d_r_3.1
  replace d_r_3 : (0 ≤ r_3.toInt ∧ r_3.toInt ≤ 0) := d_r_3.2
  refine tot_if (fun c_6 => ?_) (fun c_6 => ?_)
  · replace c_6 := i_eq c_6
    exact tot_some ⟨h_S_4, (show (0 ≤ (0 : Int32).toInt ∧ (0 : Int32).toInt ≤ 0) from by omega)⟩
  · replace c_6 := i_ne c_6
    exfalso
    omega
set_option maxHeartbeats 4000000 in
set_option maxRecDepth 10000 in
theorem nf_moveSource (hP : True) (S : MS) (a0 : Int32) (a1 : Int32) (a2 : Int32) (h_S : NC S) : Tot (fr_moveSource S a0 a1 a2) (fun r => NC r.2 ∧ (0 ≤ r.1.toInt ∧ r.1.toInt ≤ 0)) := by
  have z0 : (0 : Int32).toInt = 0 := by decide
  have j_a0 := i_any a0
  have j_a1 := i_any a1
  have j_a2 := i_any a2
  unfold fr_moveSource
  refine tot_bindp (R := fun r_1 : Int32 => (0 ≤ r_1.toInt ∧ r_1.toInt ≤ 1)) (nf_isSource hP S a0 h_S ) (fun r_1 d_r_1 => ?_)
  replace d_r_1 : (0 ≤ r_1.toInt ∧ r_1.toInt ≤ 1) := d_r_1
  refine tot_bind2 (nf_mayAsk hP S r_1 h_S (by omega)) (fun r_3 S_4 d_r_3 => ?_)
  have h_S_4 : NC S_4 := d_r_3.1
  replace d_r_3 : (0 ≤ r_3.toInt ∧ r_3.toInt ≤ 0) := d_r_3.2
  refine tot_if (fun c_10 => ?_) (fun c_10 => ?_)
  · replace c_10 := i_eq c_10
    exact tot_some ⟨h_S_4, (show (0 ≤ (0 : Int32).toInt ∧ (0 : Int32).toInt ≤ 0) from by omega)⟩
  · replace c_10 := i_ne c_10
    exfalso
    omega
set_option maxHeartbeats 4000000 in
set_option maxRecDepth 10000 in
theorem nf_setVelocity (hP : True) (S : MS) (a0 : Int32) (a1 : Int32) (a2 : Int32) (h_S : NC S) : Tot (fr_setVelocity S a0 a1 a2) (fun r => NC r.2 ∧ (0 ≤ r.1.toInt ∧ r.1.toInt ≤ 0)) := by
  have z0 : (0 : Int32).toInt = 0 := by decide
  have j_a0 := i_any a0
  have j_a1 := i_any a1
  have j_a2 := i_any a2
  unfold fr_setVelocity
  refine tot_bindp (R := fun r_1 : Int32 => (0 ≤ r_1.toInt ∧ r_1.toInt ≤ 1)) (nf_isSource hP S a0 h_S ) (fun r_1 d_r_1 => ?_)
  replace d_r_1 : (0 ≤ r_1.toInt ∧ r_1.toInt ≤ 1) := d_r_1
  refine tot_bind2 (nf_mayAsk hP S r_1 h_S (by omega)) (fun r_3 S_4 d_r_3 => ?_)
  have h_S_4 : NC S_4 := d_r_3.1
  replace d_r_3 : (0 ≤ r_3.toInt ∧ r_3.toInt ≤ 0) := d_r_3.2
  refine tot_if (fun c_11 => ?_) (fun c_11 => ?_)
  · replace c_11 := i_eq c_11
    exact tot_some ⟨h_S_4, (show (0 ≤ (0 : Int32).toInt ∧ (0 : Int32).toInt ≤ 0) from by omega)⟩
  · replace c_11 := i_ne c_11
    exfalso
    omega
set_option maxHeartbeats 4000000 in
set_option maxRecDepth 10000 in
theorem nf_clean (hP : True) (S : MS) (a0 : Int32) (h_S : NC S) : Tot (fr_clean S a0) (fun r => NC r.2 ∧ (0 ≤ r.1.toInt ∧ r.1.toInt ≤ 0)) := by
  have z0 : (0 : Int32).toInt = 0 := by decide
  have z1 : (1 : Int32).toInt = 1 := by decide
  have j_a0 := i_any a0
  unfold fr_clean
  refine tot_let (fun v_1 e_v_1 => ?_)
  have q_v_1 := i_eq e_v_1
  have r_v_1 := nc_20 h_S
  refine tot_if (fun c_5 => ?_) (fun c_5 => ?_)
  · replace c_5 := i_eq c_5
    unfold fr_clean_b15
    unfold fr_clean_b34
    refine tot_let (fun S_6 e_S_6 => ?_)
    have h_S_6 : NC S_6 := by rw [e_S_6]; exact nc_mi0 h_S _
    have f_S_6_0 : (S_6.1 0).toInt = (1 : Int32).toInt := by rw [e_S_6]; rfl
    refine tot_let (fun v_7 e_v_7 => ?_)
    have q_v_7 := i_eq e_v_7
    have r_v_7 := i_any v_7
    refine tot_if (fun c_14 => ?_) (fun c_14 => ?_)
    · replace c_14 := i_le c_14
      exfalso
      omega
    · replace c_14 := i_nle c_14
      exact tot_some ⟨h_S_6, (show (0 ≤ (0 : Int32).toInt ∧ (0 : Int32).toInt ≤ 0) from by omega)⟩
  · replace c_5 := i_ne c_5
    exfalso
    omega
set_option maxHeartbeats 4000000 in
set_option maxRecDepth 10000 in
theorem nf_cleaned (hP : True) (S : MS) (h_S : NC S) : Tot (fr_cleaned S) (fun r => NC r.2 ∧ (0 ≤ r.1.toInt ∧ r.1.toInt ≤ 0)) := by
  have z0 : (1 : Int32).toInt = 1 := by decide
  have z1 : (0 : Int32).toInt = 0 := by decide
  unfold fr_cleaned
  refine tot_bind2 (nf_mayAsk hP S 1 h_S (by omega)) (fun r_1 S_2 d_r_1 => ?_)
  have h_S_2 : NC S_2 := d_r_1.1
  replace d_r_1 : (0 ≤ r_1.toInt ∧ r_1.toInt ≤ 0) := d_r_1.2
  refine tot_if (fun c_4 => ?_) (fun c_4 => ?_)
  · replace c_4 := i_eq c_4
    unfold fr_cleaned_b18
    exact tot_some ⟨h_S_2, (show (0 ≤ (0 : Int32).toInt ∧ (0 : Int32).toInt ≤ 0) from by omega)⟩
  · replace c_4 := i_ne c_4
    exfalso
    omega
set_option maxHeartbeats 4000000 in
set_option maxRecDepth 10000 in
theorem nf_undo (hP : True) (S : MS) (h_S : NC S) : Tot (fr_undo S) (fun r => NC r.2 ∧ (0 ≤ r.1.toInt ∧ r.1.toInt ≤ 0)) := by
  have z0 : (0 : Int32).toInt = 0 := by decide
  have z1 : (1 : Int32).toInt = 1 := by decide
  unfold fr_undo
  refine tot_let (fun v_1 e_v_1 => ?_)
  have q_v_1 := i_eq e_v_1
  have r_v_1 := nc_19 h_S
  refine tot_if (fun c_2 => ?_) (fun c_2 => ?_)
  · replace c_2 := i_eq c_2
    unfold fr_undo_b13
    refine tot_let (fun S_3 e_S_3 => ?_)
    have h_S_3 : NC S_3 := by rw [e_S_3]; exact nc_mi0 h_S _
    have f_S_3_0 : (S_3.1 0).toInt = (1 : Int32).toInt := by rw [e_S_3]; rfl
    have f_S_3_19 : (S_3.1 19).toInt = (S.1 19).toInt := by rw [e_S_3]; rfl
    refine tot_let (fun v_4 e_v_4 => ?_)
    have q_v_4 := i_eq e_v_4
    have r_v_4 := i_any v_4
    refine tot_if (fun c_12 => ?_) (fun c_12 => ?_)
    · replace c_12 := i_le c_12
      exfalso
      omega
    · replace c_12 := i_nle c_12
      exact tot_some ⟨h_S_3, (show (0 ≤ (0 : Int32).toInt ∧ (0 : Int32).toInt ≤ 0) from by omega)⟩
  · replace c_2 := i_ne c_2
    exfalso
    omega
set_option maxHeartbeats 4000000 in
set_option maxRecDepth 10000 in
theorem nf_undoable (hP : True) (S : MS) (h_S : NC S) : Tot (fr_undoable S) (fun r => NC r.2 ∧ (0 ≤ r.1.toInt ∧ r.1.toInt ≤ 0)) := by
  have z0 : (0 : Int32).toInt = 0 := by decide
  unfold fr_undoable
  refine tot_let (fun S_1 e_S_1 => ?_)
  have h_S_1 : NC S_1 := by rw [e_S_1]; exact nc_mi0 h_S _
  refine tot_let (fun v_2 e_v_2 => ?_)
  have q_v_2 := i_eq e_v_2
  have r_v_2 := nc_19 h_S_1
  exact tot_some ⟨h_S_1, (show (0 ≤ v_2.toInt ∧ v_2.toInt ≤ 0) from by omega)⟩
set_option maxHeartbeats 4000000 in
set_option maxRecDepth 10000 in
theorem nf_save (hP : True) (S : MS) (a0 : Int32) (h_S : NC S) : Tot (fr_save S a0) (fun r => NC r.2 ∧ (0 ≤ r.1.toInt ∧ r.1.toInt ≤ 0)) := by
  have z0 : (0 : Int32).toInt = 0 := by decide
  have z1 : (1 : Int32).toInt = 1 := by decide
  have j_a0 := i_any a0
  unfold fr_save
  refine tot_bind (nf_in hP a0 0 1  ) (fun r_1 d_r_1 => ?_)
  replace d_r_1 : (r_1.toInt = 0 ∧ (a0.toInt < (0 : Int32).toInt ∨ (1 : Int32).toInt < a0.toInt) ∨ r_1.toInt = 1 ∧ (0 : Int32).toInt ≤ a0.toInt ∧ a0.toInt ≤ (1 : Int32).toInt) := d_r_1
  refine tot_bind2 (nf_mayAsk hP S r_1 h_S (by omega)) (fun r_2 S_3 d_r_2 => ?_)
  have h_S_3 : NC S_3 := d_r_2.1
  replace d_r_2 : (0 ≤ r_2.toInt ∧ r_2.toInt ≤ 0) := d_r_2.2
  refine tot_if (fun c_9 => ?_) (fun c_9 => ?_)
  · replace c_9 := i_eq c_9
    exact tot_some ⟨h_S_3, (show (0 ≤ (0 : Int32).toInt ∧ (0 : Int32).toInt ≤ 0) from by omega)⟩
  · replace c_9 := i_ne c_9
    exfalso
    omega
set_option maxHeartbeats 4000000 in
set_option maxRecDepth 10000 in
theorem nf_restore (hP : True) (S : MS) (a0 : Int32) (h_S : NC S) : Tot (fr_restore S a0) (fun r => NC r.2 ∧ (0 ≤ r.1.toInt ∧ r.1.toInt ≤ 0)) := by
  have z0 : (0 : Int32).toInt = 0 := by decide
  have z1 : (1 : Int32).toInt = 1 := by decide
  have z2 : (2 : Int32).toInt = 2 := by decide
  have j_a0 := i_any a0
  unfold fr_restore
  refine tot_bind (nf_in hP a0 0 1  ) (fun r_1 d_r_1 => ?_)
  replace d_r_1 : (r_1.toInt = 0 ∧ (a0.toInt < (0 : Int32).toInt ∨ (1 : Int32).toInt < a0.toInt) ∨ r_1.toInt = 1 ∧ (0 : Int32).toInt ≤ a0.toInt ∧ a0.toInt ≤ (1 : Int32).toInt) := d_r_1
  refine tot_if (fun c_3 => ?_) (fun c_3 => ?_)
  · replace c_3 := i_eq c_3
    unfold fr_restore_b28
    refine tot_let (fun S_4 e_S_4 => ?_)
    have h_S_4 : NC S_4 := by rw [e_S_4]; exact nc_mi0 h_S _
    have f_S_4_0 : (S_4.1 0).toInt = (1 : Int32).toInt := by rw [e_S_4]; rfl
    refine tot_let (fun v_5 e_v_5 => ?_)
    have q_v_5 := i_eq e_v_5
    have r_v_5 := i_any v_5
    refine tot_if (fun c_11 => ?_) (fun c_11 => ?_)
    · replace c_11 := i_le c_11
      exfalso
      omega
    · replace c_11 := i_nle c_11
      exact tot_some ⟨h_S_4, (show (0 ≤ (0 : Int32).toInt ∧ (0 : Int32).toInt ≤ 0) from by omega)⟩
  · replace c_3 := i_ne c_3
    refine tot_oif (i_inb (by omega) (by omega)) ?_
    refine tot_let (fun v_2 e_v_2 => ?_)
    have r_v_2 := nc_18 h_S a0 e_v_2 (by omega) (by omega)
    refine tot_if (fun c_12 => ?_) (fun c_12 => ?_)
    · replace c_12 := i_eq c_12
      unfold fr_restore_b28
      refine tot_let (fun S_13 e_S_13 => ?_)
      have h_S_13 : NC S_13 := by rw [e_S_13]; exact nc_mi0 h_S _
      have f_S_13_0 : (S_13.1 0).toInt = (2 : Int32).toInt := by rw [e_S_13]; rfl
      refine tot_let (fun v_14 e_v_14 => ?_)
      have q_v_14 := i_eq e_v_14
      have r_v_14 := i_any v_14
      refine tot_if (fun c_20 => ?_) (fun c_20 => ?_)
      · replace c_20 := i_le c_20
        exfalso
        omega
      · replace c_20 := i_nle c_20
        exact tot_some ⟨h_S_13, (show (0 ≤ (0 : Int32).toInt ∧ (0 : Int32).toInt ≤ 0) from by omega)⟩
    · replace c_12 := i_ne c_12
      exfalso
      omega
