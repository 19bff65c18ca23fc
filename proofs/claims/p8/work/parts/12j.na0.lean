set_option maxHeartbeats 4000000 in
set_option maxRecDepth 10000 in
theorem nf_in (hP : True) (a0 : Int32) (a1 : Int32) (a2 : Int32) : Tot (fr_in a0 a1 a2) (fun r => (r.toInt = 0 ∧ (a0.toInt < a1.toInt ∨ a2.toInt < a0.toInt) ∨ r.toInt = 1 ∧ a1.toInt ≤ a0.toInt ∧ a0.toInt ≤ a2.toInt)) := by
  have z0 : (0 : Int32).toInt = 0 := by decide
  have z1 : (1 : Int32).toInt = 1 := by decide
  have j_a0 := i_any a0
  have j_a1 := i_any a1
  have j_a2 := i_any a2
  unfold fr_in
  refine tot_if (fun c_1 => ?_) (fun c_1 => ?_)
  · replace c_1 := i_lt c_1
    unfold fr_in_b14
    unfold fr_in_b15
    refine tot_oif (i_b01 (by omega)) ?_
    exact tot_some (show ((0 : Int32).toInt = 0 ∧ (a0.toInt < a1.toInt ∨ a2.toInt < a0.toInt) ∨ (0 : Int32).toInt = 1 ∧ a1.toInt ≤ a0.toInt ∧ a0.toInt ≤ a2.toInt) from by omega)
  · replace c_1 := i_nlt c_1
    refine tot_if (fun c_2 => ?_) (fun c_2 => ?_)
    · replace c_2 := i_lt c_2
      unfold fr_in_b14
      unfold fr_in_b15
      refine tot_oif (i_b01 (by omega)) ?_
      exact tot_some (show ((0 : Int32).toInt = 0 ∧ (a0.toInt < a1.toInt ∨ a2.toInt < a0.toInt) ∨ (0 : Int32).toInt = 1 ∧ a1.toInt ≤ a0.toInt ∧ a0.toInt ≤ a2.toInt) from by omega)
    · replace c_2 := i_nlt c_2
      unfold fr_in_b15
      refine tot_oif (i_b01 (by omega)) ?_
      exact tot_some (show ((1 : Int32).toInt = 0 ∧ (a0.toInt < a1.toInt ∨ a2.toInt < a0.toInt) ∨ (1 : Int32).toInt = 1 ∧ a1.toInt ≤ a0.toInt ∧ a0.toInt ≤ a2.toInt) from by omega)
set_option maxHeartbeats 4000000 in
set_option maxRecDepth 10000 in
theorem nf_buffered (hP : True) (S : MS) (h_S : NC S) : Tot (fr_buffered S) (fun r => NC r.2 ∧ (0 ≤ r.1.toInt ∧ r.1.toInt ≤ 1000)) := by
  have z0 : (0 : Int32).toInt = 0 := by decide
  unfold fr_buffered
  refine tot_let (fun S_1 e_S_1 => ?_)
  have h_S_1 : NC S_1 := by rw [e_S_1]; exact nc_mi0 h_S _
  refine tot_let (fun v_2 e_v_2 => ?_)
  have q_v_2 := i_eq e_v_2
  have r_v_2 := nc_2 h_S_1
  exact tot_some ⟨h_S_1, (show (0 ≤ v_2.toInt ∧ v_2.toInt ≤ 1000) from by omega)⟩
set_option maxHeartbeats 4000000 in
set_option maxRecDepth 10000 in
theorem nf_parseError (hP : True) (S : MS) (h_S : NC S) : Tot (fr_parseError S) (fun r => NC r.2 ∧ True) := by
  have z0 : (0 : Int32).toInt = 0 := by decide
  unfold fr_parseError
  refine tot_let (fun S_1 e_S_1 => ?_)
  have h_S_1 : NC S_1 := by rw [e_S_1]; exact nc_mi0 h_S _
  refine tot_let (fun v_2 e_v_2 => ?_)
  have q_v_2 := i_eq e_v_2
  have r_v_2 := i_any v_2
  exact tot_some ⟨h_S_1, trivial⟩
set_option maxHeartbeats 4000000 in
set_option maxRecDepth 10000 in
theorem nf_errorPosition (hP : True) (S : MS) (h_S : NC S) : Tot (fr_errorPosition S) (fun r => NC r.2 ∧ True) := by
  have z0 : (0 : Int32).toInt = 0 := by decide
  unfold fr_errorPosition
  refine tot_let (fun S_1 e_S_1 => ?_)
  have h_S_1 : NC S_1 := by rw [e_S_1]; exact nc_mi0 h_S _
  refine tot_let (fun v_2 e_v_2 => ?_)
  have q_v_2 := i_eq e_v_2
  have r_v_2 := i_any v_2
  exact tot_some ⟨h_S_1, trivial⟩
set_option maxHeartbeats 4000000 in
set_option maxRecDepth 10000 in
theorem nf_cellCount (hP : True) (S : MS) (h_S : NC S) : Tot (fr_cellCount S) (fun r => r.2 = S ∧ (0 ≤ r.1.toInt ∧ r.1.toInt ≤ 0)) := by
  unfold fr_cellCount
  refine tot_let (fun v_1 e_v_1 => ?_)
  have q_v_1 := nc_p h_S e_v_1
  refine tot_let (fun v_2 e_v_2 => ?_)
  have q_v_2 := nc_p h_S e_v_2
  refine tot_let (fun v_3 e_v_3 => ?_)
  have q_v_3 := i_mulp (a := 0) (b := 0) (c := 0) (d := 0) e_v_3 (by omega) (by omega) (by omega) (by omega) (by decide)
  exact tot_some ⟨rfl, (show (0 ≤ v_3.toInt ∧ v_3.toInt ≤ 0) from by omega)⟩
set_option maxHeartbeats 4000000 in
set_option maxRecDepth 10000 in
theorem nf_mayAsk (hP : True) (S : MS) (a0 : Int32) (h_S : NC S) (g0 : 0 ≤ a0.toInt ∧ a0.toInt ≤ 1) : Tot (fr_mayAsk S a0) (fun r => NC r.2 ∧ (0 ≤ r.1.toInt ∧ r.1.toInt ≤ 0)) := by
  have z0 : (0 : Int32).toInt = 0 := by decide
  have z1 : (1 : Int32).toInt = 1 := by decide
  have j_a0 := i_any a0
  unfold fr_mayAsk
  refine tot_let (fun v_1 e_v_1 => ?_)
  have q_v_1 := i_eq e_v_1
  have r_v_1 := nc_20 h_S
  refine tot_if (fun c_2 => ?_) (fun c_2 => ?_)
  · replace c_2 := i_eq c_2
    unfold fr_mayAsk_b21
    refine tot_let (fun S_3 e_S_3 => ?_)
    have h_S_3 : NC S_3 := by rw [e_S_3]; exact nc_mi0 h_S _
    have f_S_3_0 : (S_3.1 0).toInt = (1 : Int32).toInt := by rw [e_S_3]; rfl
    refine tot_let (fun v_4 e_v_4 => ?_)
    have q_v_4 := i_eq e_v_4
    have r_v_4 := i_any v_4
    refine tot_if (fun c_5 => ?_) (fun c_5 => ?_)
    · replace c_5 := i_eq c_5
      exfalso
      omega
    · replace c_5 := i_ne c_5
      unfold fr_mayAsk_b36
      refine tot_oif (i_b01 (by omega)) ?_
      exact tot_some ⟨h_S_3, (show (0 ≤ (0 : Int32).toInt ∧ (0 : Int32).toInt ≤ 0) from by omega)⟩
  · replace c_2 := i_ne c_2
    exfalso
    omega
set_option maxHeartbeats 4000000 in
set_option maxRecDepth 10000 in
theorem nf_told (hP : True) (S : MS) (a0 : Int32) (h_S : NC S) (g0 : 0 ≤ a0.toInt ∧ a0.toInt ≤ 0) : Tot (fr_told S a0) (fun r => NC r.2 ∧ (0 ≤ r.1.toInt ∧ r.1.toInt ≤ 0)) := by
  have z0 : (0 : Int32).toInt = 0 := by decide
  have j_a0 := i_any a0
  unfold fr_told
  refine tot_let (fun S_1 e_S_1 => ?_)
  have h_S_1 : NC S_1 := by rw [e_S_1]; exact nc_mi0 h_S _
  refine tot_let (fun v_2 e_v_2 => ?_)
  have q_v_2 := i_eq e_v_2
  have r_v_2 := nc_20 h_S_1
  refine tot_if (fun c_3 => ?_) (fun c_3 => ?_)
  · replace c_3 := i_eq c_3
    unfold fr_told_b17
    exact tot_some ⟨h_S_1, (show (0 ≤ (0 : Int32).toInt ∧ (0 : Int32).toInt ≤ 0) from by omega)⟩
  · replace c_3 := i_ne c_3
    exfalso
    omega
set_option maxHeartbeats 4000000 in
set_option maxRecDepth 10000 in
theorem nf_isMic (hP : True) (S : MS) (a0 : Int32) (h_S : NC S) : Tot (fr_isMic S a0) (fun r => r.2 = S ∧ (0 ≤ r.1.toInt ∧ r.1.toInt ≤ 1)) := by
  have z0 : (1 : Int32).toInt = 1 := by decide
  have z1 : (0 : Int32).toInt = 0 := by decide
  have j_a0 := i_any a0
  unfold fr_isMic
  refine tot_let (fun v_1 e_v_1 => ?_)
  have q_v_1 := nc_p h_S e_v_1
  refine tot_let (fun v_2 e_v_2 => ?_)
  have q_v_2 := i_sub e_v_2 (by omega) (by omega)
  refine tot_bind (nf_in hP a0 0 v_2  ) (fun r_3 d_r_3 => ?_)
  replace d_r_3 : (r_3.toInt = 0 ∧ (a0.toInt < (0 : Int32).toInt ∨ v_2.toInt < a0.toInt) ∨ r_3.toInt = 1 ∧ (0 : Int32).toInt ≤ a0.toInt ∧ a0.toInt ≤ v_2.toInt) := d_r_3
  refine tot_oif (i_b01 (by omega)) ?_
  exact tot_some ⟨rfl, (show (0 ≤ r_3.toInt ∧ r_3.toInt ≤ 1) from by omega)⟩
set_option maxHeartbeats 4000000 in
set_option maxRecDepth 10000 in
theorem nf_isCell (hP : True) (S : MS) (a0 : Int32) (h_S : NC S) : Tot (fr_isCell S a0) (fun r => r.2 = S ∧ (0 ≤ r.1.toInt ∧ r.1.toInt ≤ 1)) := by
  have z0 : (1 : Int32).toInt = 1 := by decide
  have z1 : (0 : Int32).toInt = 0 := by decide
  have j_a0 := i_any a0
  unfold fr_isCell
  refine tot_bindp (R := fun r_1 : Int32 => (0 ≤ r_1.toInt ∧ r_1.toInt ≤ 0)) (nf_cellCount hP S h_S ) (fun r_1 d_r_1 => ?_)
  replace d_r_1 : (0 ≤ r_1.toInt ∧ r_1.toInt ≤ 0) := d_r_1
  refine tot_let (fun v_3 e_v_3 => ?_)
  have q_v_3 := i_sub e_v_3 (by omega) (by omega)
  refine tot_bind (nf_in hP a0 0 v_3  ) (fun r_4 d_r_4 => ?_)
  replace d_r_4 : (r_4.toInt = 0 ∧ (a0.toInt < (0 : Int32).toInt ∨ v_3.toInt < a0.toInt) ∨ r_4.toInt = 1 ∧ (0 : Int32).toInt ≤ a0.toInt ∧ a0.toInt ≤ v_3.toInt) := d_r_4
  refine tot_oif (i_b01 (by omega)) ?_
  exact tot_some ⟨rfl, (show (0 ≤ r_4.toInt ∧ r_4.toInt ≤ 1) from by omega)⟩
set_option maxHeartbeats 4000000 in
set_option maxRecDepth 10000 in
theorem nf_isSource (hP : True) (S : MS) (a0 : Int32) (h_S : NC S) : Tot (fr_isSource S a0) (fun r => r.2 = S ∧ (0 ≤ r.1.toInt ∧ r.1.toInt ≤ 1)) := by
  have z0 : (1 : Int32).toInt = 1 := by decide
  have z1 : (0 : Int32).toInt = 0 := by decide
  have j_a0 := i_any a0
  unfold fr_isSource
  refine tot_let (fun v_1 e_v_1 => ?_)
  have q_v_1 := nc_p h_S e_v_1
  refine tot_let (fun v_2 e_v_2 => ?_)
  have q_v_2 := i_sub e_v_2 (by omega) (by omega)
  refine tot_bind (nf_in hP a0 0 v_2  ) (fun r_3 d_r_3 => ?_)
  replace d_r_3 : (r_3.toInt = 0 ∧ (a0.toInt < (0 : Int32).toInt ∨ v_2.toInt < a0.toInt) ∨ r_3.toInt = 1 ∧ (0 : Int32).toInt ≤ a0.toInt ∧ a0.toInt ≤ v_2.toInt) := d_r_3
  refine tot_oif (i_b01 (by omega)) ?_
  exact tot_some ⟨rfl, (show (0 ≤ r_3.toInt ∧ r_3.toInt ≤ 1) from by omega)⟩
set_option maxHeartbeats 4000000 in
set_option maxRecDepth 10000 in
theorem nf_isTime (hP : True) (S : MS) (a0 : Int32) (h_S : NC S) : Tot (fr_isTime S a0) (fun r => r.2 = S ∧ (0 ≤ r.1.toInt ∧ r.1.toInt ≤ 1)) := by
  have z0 : (1 : Int32).toInt = 1 := by decide
  have z1 : (0 : Int32).toInt = 0 := by decide
  have j_a0 := i_any a0
  unfold fr_isTime
  refine tot_let (fun v_1 e_v_1 => ?_)
  have q_v_1 := nc_p h_S e_v_1
  refine tot_let (fun v_2 e_v_2 => ?_)
  have q_v_2 := i_sub e_v_2 (by omega) (by omega)
  refine tot_bind (nf_in hP a0 0 v_2  ) (fun r_3 d_r_3 => ?_)
  replace d_r_3 : (r_3.toInt = 0 ∧ (a0.toInt < (0 : Int32).toInt ∨ v_2.toInt < a0.toInt) ∨ r_3.toInt = 1 ∧ (0 : Int32).toInt ≤ a0.toInt ∧ a0.toInt ≤ v_2.toInt) := d_r_3
  refine tot_oif (i_b01 (by omega)) ?_
  exact tot_some ⟨rfl, (show (0 ≤ r_3.toInt ∧ r_3.toInt ≤ 1) from by omega)⟩
set_option maxHeartbeats 4000000 in
set_option maxRecDepth 10000 in
theorem nf_isPeriod (hP : True) (a0 : Int32) : Tot (fr_isPeriod a0) (fun r => (0 ≤ r.toInt ∧ r.toInt ≤ 1)) := by
  have z0 : (2 : Int32).toInt = 2 := by decide
  have z1 : (99 : Int32).toInt = 99 := by decide
  have j_a0 := i_any a0
  unfold fr_isPeriod
  refine tot_bind (nf_in hP a0 2 99  ) (fun r_1 d_r_1 => ?_)
  replace d_r_1 : (r_1.toInt = 0 ∧ (a0.toInt < (2 : Int32).toInt ∨ (99 : Int32).toInt < a0.toInt) ∨ r_1.toInt = 1 ∧ (2 : Int32).toInt ≤ a0.toInt ∧ a0.toInt ≤ (99 : Int32).toInt) := d_r_1
  refine tot_oif (i_b01 (by omega)) ?_
  exact tot_some (show (0 ≤ r_1.toInt ∧ r_1.toInt ≤ 1) from by omega)
set_option maxHeartbeats 4000000 in
set_option maxRecDepth 10000 in
theorem nf_mics (hP : True) (S : MS) (h_S : NC S) : Tot (fr_mics S) (fun r => NC r.2 ∧ (0 ≤ r.1.toInt ∧ r.1.toInt ≤ 0)) := by
  unfold fr_mics
  refine tot_let (fun v_1 e_v_1 => ?_)
  have q_v_1 := nc_p h_S e_v_1
  refine tot_bind2 (nf_told hP S v_1 h_S (by omega)) (fun r_2 S_3 d_r_2 => ?_)
  have h_S_3 : NC S_3 := d_r_2.1
  replace d_r_2 : (0 ≤ r_2.toInt ∧ r_2.toInt ≤ 0) := d_r_2.2
  exact tot_some ⟨h_S_3, (show (0 ≤ r_2.toInt ∧ r_2.toInt ≤ 0) from by omega)⟩
set_option maxHeartbeats 4000000 in
set_option maxRecDepth 10000 in
theorem nf_micAt (hP : True) (S : MS) (a0 : Int32) (a1 : Int32) (h_S : NC S) : Tot (fr_micAt S a0 a1) (fun r => NC r.2 ∧ (0 ≤ r.1.toInt ∧ r.1.toInt ≤ 0)) := by
  have z0 : (0 : Int32).toInt = 0 := by decide
  have j_a0 := i_any a0
  have j_a1 := i_any a1
  unfold fr_micAt
  refine tot_bindp (R := fun r_1 : Int32 => (0 ≤ r_1.toInt ∧ r_1.toInt ≤ 1)) (nf_isMic hP S a0 h_S ) (fun r_1 d_r_1 => ?_)
  replace d_r_1 : (0 ≤ r_1.toInt ∧ r_1.toInt ≤ 1) := d_r_1
  refine tot_bind2 (nf_mayAsk hP S r_1 h_S (by omega)) (fun r_3 S_4 d_r_3 => ?_)
  have h_S_4 : NC S_4 := d_r_3.1
  replace d_r_3 : (0 ≤ r_3.toInt ∧ r_3.toInt ≤ 0) := d_r_3.2
  refine tot_if (fun c_15 => ?_) (fun c_15 => ?_)
  · replace c_15 := i_eq c_15
    exact tot_some ⟨h_S_4, (show (0 ≤ (0 : Int32).toInt ∧ (0 : Int32).toInt ≤ 0) from by omega)⟩
  · replace c_15 := i_ne c_15
    exfalso
    omega
set_option maxHeartbeats 4000000 in
set_option maxRecDepth 10000 in
theorem nf_isMuted (hP : True) (S : MS) (a0 : Int32) (h_S : NC S) : Tot (fr_isMuted S a0) (fun r => NC r.2 ∧ (0 ≤ r.1.toInt ∧ r.1.toInt ≤ 0)) := by
  have z0 : (0 : Int32).toInt = 0 := by decide
  have j_a0 := i_any a0
  unfold fr_isMuted
  refine tot_bindp (R := fun r_1 : Int32 => (0 ≤ r_1.toInt ∧ r_1.toInt ≤ 1)) (nf_isMic hP S a0 h_S ) (fun r_1 d_r_1 => ?_)
  replace d_r_1 : (0 ≤ r_1.toInt ∧ r_1.toInt ≤ 1) := d_r_1
  refine tot_bind2 (nf_mayAsk hP S r_1 h_S (by omega)) (fun r_3 S_4 d_r_3 => ?_)
  have h_S_4 : NC S_4 := d_r_3.1
  replace d_r_3 : (0 ≤ r_3.toInt ∧ r_3.toInt ≤ 0) := d_r_3.2
  refine tot_if (fun c_7 => ?_) (fun c_7 => ?_)
  · replace c_7 := i_eq c_7
    unfold fr_isMuted_b28
    unfold fr_isMuted_b29
    refine tot_oif (i_b01 (by omega)) ?_
    exact tot_some ⟨h_S_4, (show (0 ≤ (0 : Int32).toInt ∧ (0 : Int32).toInt ≤ 0) from by omega)⟩
  · replace c_7 := i_ne c_7
    exfalso
    omega
set_option maxHeartbeats 4000000 in
set_option maxRecDepth 10000 in
theorem nf_columns (hP : True) (S : MS) (h_S : NC S) : Tot (fr_columns S) (fun r => NC r.2 ∧ (0 ≤ r.1.toInt ∧ r.1.toInt ≤ 0)) := by
  unfold fr_columns
  refine tot_let (fun v_1 e_v_1 => ?_)
  have q_v_1 := nc_p h_S e_v_1
  refine tot_bind2 (nf_told hP S v_1 h_S (by omega)) (fun r_2 S_3 d_r_2 => ?_)
  have h_S_3 : NC S_3 := d_r_2.1
  replace d_r_2 : (0 ≤ r_2.toInt ∧ r_2.toInt ≤ 0) := d_r_2.2
  exact tot_some ⟨h_S_3, (show (0 ≤ r_2.toInt ∧ r_2.toInt ≤ 0) from by omega)⟩
set_option maxHeartbeats 4000000 in
set_option maxRecDepth 10000 in
theorem nf_rows (hP : True) (S : MS) (h_S : NC S) : Tot (fr_rows S) (fun r => NC r.2 ∧ (0 ≤ r.1.toInt ∧ r.1.toInt ≤ 0)) := by
  unfold fr_rows
  refine tot_let (fun v_1 e_v_1 => ?_)
  have q_v_1 := nc_p h_S e_v_1
  refine tot_bind2 (nf_told hP S v_1 h_S (by omega)) (fun r_2 S_3 d_r_2 => ?_)
  have h_S_3 : NC S_3 := d_r_2.1
  replace d_r_2 : (0 ≤ r_2.toInt ∧ r_2.toInt ≤ 0) := d_r_2.2
  exact tot_some ⟨h_S_3, (show (0 ≤ r_2.toInt ∧ r_2.toInt ≤ 0) from by omega)⟩
set_option maxHeartbeats 4000000 in
set_option maxRecDepth 10000 in
theorem nf_cellAt (hP : True) (S : MS) (a0 : Int32) (a1 : Int32) (h_S : NC S) : Tot (fr_cellAt S a0 a1) (fun r => NC r.2 ∧ (0 ≤ r.1.toInt ∧ r.1.toInt ≤ 0)) := by
  have z0 : (0 : Int32).toInt = 0 := by decide
  have j_a0 := i_any a0
  have j_a1 := i_any a1
  unfold fr_cellAt
  refine tot_bindp (R := fun r_1 : Int32 => (0 ≤ r_1.toInt ∧ r_1.toInt ≤ 1)) (nf_isCell hP S a0 h_S ) (fun r_1 d_r_1 => ?_)
  replace d_r_1 : (0 ≤ r_1.toInt ∧ r_1.toInt ≤ 1) := d_r_1
  refine tot_bind2 (nf_mayAsk hP S r_1 h_S (by omega)) (fun r_3 S_4 d_r_3 => ?_)
  have h_S_4 : NC S_4 := d_r_3.1
  replace d_r_3 : (0 ≤ r_3.toInt ∧ r_3.toInt ≤ 0) := d_r_3.2
  refine tot_if (fun c_10 => ?_) (fun c_10 => ?_)
  · replace c_10 := i_eq c_10
    exact tot_some ⟨h_S_4, (show (0 ≤ (0 : Int32).toInt ∧ (0 : Int32).toInt ≤ 0) from by omega)⟩
  · replace c_10 := i_ne c_10
    exfalso
    omega
set_option maxHeartbeats 4000000 in
set_option maxRecDepth 10000 in
theorem nf_sources (hP : True) (S : MS) (h_S : NC S) : Tot (fr_sources S) (fun r => NC r.2 ∧ (0 ≤ r.1.toInt ∧ r.1.toInt ≤ 0)) := by
  unfold fr_sources
  refine tot_let (fun v_1 e_v_1 => ?_)
  have q_v_1 := nc_p h_S e_v_1
  refine tot_bind2 (nf_told hP S v_1 h_S (by omega)) (fun r_2 S_3 d_r_2 => ?_)
  have h_S_3 : NC S_3 := d_r_2.1
  replace d_r_2 : (0 ≤ r_2.toInt ∧ r_2.toInt ≤ 0) := d_r_2.2
  exact tot_some ⟨h_S_3, (show (0 ≤ r_2.toInt ∧ r_2.toInt ≤ 0) from by omega)⟩
set_option maxHeartbeats 4000000 in
set_option maxRecDepth 10000 in
theorem nf_sourceAt (hP : True) (S : MS) (a0 : Int32) (a1 : Int32) (a2 : Int32) (h_S : NC S) : Tot (fr_sourceAt S a0 a1 a2) (fun r => NC r.2 ∧ (0 ≤ r.1.toInt ∧ r.1.toInt ≤ 0)) := by
  have z0 : (0 : Int32).toInt = 0 := by decide
  have j_a0 := i_any a0
  have j_a1 := i_any a1
  have j_a2 := i_any a2
  unfold fr_sourceAt
  refine tot_bindp (R := fun r_1 : Int32 => (0 ≤ r_1.toInt ∧ r_1.toInt ≤ 1)) (nf_isSource hP S a0 h_S ) (fun r_1 d_r_1 => ?_)
  replace d_r_1 : (0 ≤ r_1.toInt ∧ r_1.toInt ≤ 1) := d_r_1
  refine tot_bind2 (nf_mayAsk hP S r_1 h_S (by omega)) (fun r_3 S_4 d_r_3 => ?_)
  have h_S_4 : NC S_4 := d_r_3.1
  replace d_r_3 : (0 ≤ r_3.toInt ∧ r_3.toInt ≤ 0) := d_r_3.2
  refine tot_if (fun c_10 => ?_) (fun c_10 => ?_)
  · replace c_10 := i_eq c_10
    exact tot_some ⟨h_S_4, (show (0 ≤ (0 : Int32).toInt ∧ (0 : Int32).toInt ≤ 0) from by omega)⟩
  · replace c_10 := i_ne c_10
    exfalso
    omega
set_option maxHeartbeats 4000000 in
set_option maxRecDepth 10000 in
theorem nf_isOn (hP : True) (S : MS) (a0 : Int32) (h_S : NC S) : Tot (fr_isOn S a0) (fun r => NC r.2 ∧ (0 ≤ r.1.toInt ∧ r.1.toInt ≤ 0)) := by
  have z0 : (0 : Int32).toInt = 0 := by decide
  have j_a0 := i_any a0
  unfold fr_isOn
  refine tot_bindp (R := fun r_1 : Int32 => (0 ≤ r_1.toInt ∧ r_1.toInt ≤ 1)) (nf_isSource hP S a0 h_S ) (fun r_1 d_r_1 => ?_)
  replace d_r_1 : (0 ≤ r_1.toInt ∧ r_1.toInt ≤ 1) := d_r_1
  refine tot_bind2 (nf_mayAsk hP S r_1 h_S (by omega)) (fun r_3 S_4 d_r_3 => ?_)
  have h_S_4 : NC S_4 := d_r_3.1
  replace d_r_3 : (0 ≤ r_3.toInt ∧ r_3.toInt ≤ 0) := d_r_3.2
  refine tot_if (fun c_7 => ?_) (fun c_7 => ?_)
  · replace c_7 := i_eq c_7
    unfold fr_isOn_b29
    unfold fr_isOn_b30
    refine tot_oif (i_b01 (by omega)) ?_
    exact tot_some ⟨h_S_4, (show (0 ≤ (0 : Int32).toInt ∧ (0 : Int32).toInt ≤ 0) from by omega)⟩
  · replace c_7 := i_ne c_7
    exfalso
    omega
set_option maxHeartbeats 4000000 in
set_option maxRecDepth 10000 in
theorem nf_waveAt (hP : True) (S : MS) (a0 : Int32) (a1 : Int32) (h_S : NC S) : Tot (fr_waveAt S a0 a1) (fun r => NC r.2 ∧ (0 ≤ r.1.toInt ∧ r.1.toInt ≤ 0)) := by
  have z0 : (0 : Int32).toInt = 0 := by decide
  have j_a0 := i_any a0
  have j_a1 := i_any a1
  unfold fr_waveAt
  refine tot_bindp (R := fun r_1 : Int32 => (0 ≤ r_1.toInt ∧ r_1.toInt ≤ 1)) (nf_isSource hP S a0 h_S ) (fun r_1 d_r_1 => ?_)
  replace d_r_1 : (0 ≤ r_1.toInt ∧ r_1.toInt ≤ 1) := d_r_1
  refine tot_bind2 (nf_mayAsk hP S r_1 h_S (by omega)) (fun r_3 S_4 d_r_3 => ?_)
  have h_S_4 : NC S_4 := d_r_3.1
  replace d_r_3 : (0 ≤ r_3.toInt ∧ r_3.toInt ≤ 0) := d_r_3.2
  refine tot_if (fun c_11 => ?_) (fun c_11 => ?_)
  · replace c_11 := i_eq c_11
    exact tot_some ⟨h_S_4, (show (0 ≤ (0 : Int32).toInt ∧ (0 : Int32).toInt ≤ 0) from by omega)⟩
  · replace c_11 := i_ne c_11
    exfalso
    omega
set_option maxHeartbeats 4000000 in
set_option maxRecDepth 10000 in
theorem nf_samples (hP : True) (S : MS) (h_S : NC S) : Tot (fr_samples S) (fun r => NC r.2 ∧ (0 ≤ r.1.toInt ∧ r.1.toInt ≤ 0)) := by
  unfold fr_samples
  refine tot_let (fun v_1 e_v_1 => ?_)
  have q_v_1 := nc_p h_S e_v_1
  refine tot_bind2 (nf_told hP S v_1 h_S (by omega)) (fun r_2 S_3 d_r_2 => ?_)
  have h_S_3 : NC S_3 := d_r_2.1
  replace d_r_2 : (0 ≤ r_2.toInt ∧ r_2.toInt ≤ 0) := d_r_2.2
  exact tot_some ⟨h_S_3, (show (0 ≤ r_2.toInt ∧ r_2.toInt ≤ 0) from by omega)⟩
set_option maxHeartbeats 4000000 in
set_option maxRecDepth 10000 in
theorem nf_delay (hP : True) (S : MS) (a0 : Int32) (a1 : Int32) (h_S : NC S) : Tot (fr_delay S a0 a1) (fun r => NC r.2 ∧ (0 ≤ r.1.toInt ∧ r.1.toInt ≤ 0)) := by
  have z0 : (0 : Int32).toInt = 0 := by decide
  have z1 : (1 : Int32).toInt = 1 := by decide
  have j_a0 := i_any a0
  have j_a1 := i_any a1
  unfold fr_delay
  refine tot_bindp (R := fun r_1 : Int32 => (0 ≤ r_1.toInt ∧ r_1.toInt ≤ 1)) (nf_isMic hP S a0 h_S ) (fun r_1 d_r_1 => ?_)
  replace d_r_1 : (0 ≤ r_1.toInt ∧ r_1.toInt ≤ 1) := d_r_1
  refine tot_if (fun c_5 => ?_) (fun c_5 => ?_)
  · replace c_5 := i_eq c_5
    unfold fr_delay_b21
    unfold fr_delay_b22
    refine tot_bind2 (nf_mayAsk hP S 0 h_S (by omega)) (fun r_6 S_7 d_r_6 => ?_)
    have h_S_7 : NC S_7 := d_r_6.1
    replace d_r_6 : (0 ≤ r_6.toInt ∧ r_6.toInt ≤ 0) := d_r_6.2
    refine tot_if (fun c_11 => ?_) (fun c_11 => ?_)
    · replace c_11 := i_eq c_11
      unfold fr_delay_b43
      exact tot_some ⟨h_S_7, (show (0 ≤ (0 : Int32).toInt ∧ (0 : Int32).toInt ≤ 0) from by omega)⟩
    · replace c_11 := i_ne c_11
      exfalso
      omega
  · replace c_5 := i_ne c_5
    refine tot_bindp (R := fun r_3 : Int32 => (0 ≤ r_3.toInt ∧ r_3.toInt ≤ 1)) (nf_isCell hP S a1 h_S ) (fun r_3 d_r_3 => ?_)
    replace d_r_3 : (0 ≤ r_3.toInt ∧ r_3.toInt ≤ 1) := d_r_3
    refine tot_if (fun c_12 => ?_) (fun c_12 => ?_)
    · replace c_12 := i_eq c_12
      unfold fr_delay_b21
      unfold fr_delay_b22
      refine tot_bind2 (nf_mayAsk hP S 0 h_S (by omega)) (fun r_13 S_14 d_r_13 => ?_)
      have h_S_14 : NC S_14 := d_r_13.1
      replace d_r_13 : (0 ≤ r_13.toInt ∧ r_13.toInt ≤ 0) := d_r_13.2
      refine tot_if (fun c_18 => ?_) (fun c_18 => ?_)
      · replace c_18 := i_eq c_18
        unfold fr_delay_b43
        exact tot_some ⟨h_S_14, (show (0 ≤ (0 : Int32).toInt ∧ (0 : Int32).toInt ≤ 0) from by omega)⟩
      · replace c_18 := i_ne c_18
        exfalso
        omega
    · replace c_12 := i_ne c_12
      unfold fr_delay_b22
      refine tot_bind2 (nf_mayAsk hP S 1 h_S (by omega)) (fun r_19 S_20 d_r_19 => ?_)
      have h_S_20 : NC S_20 := d_r_19.1
      replace d_r_19 : (0 ≤ r_19.toInt ∧ r_19.toInt ≤ 0) := d_r_19.2
      refine tot_if (fun c_24 => ?_) (fun c_24 => ?_)
      · replace c_24 := i_eq c_24
        unfold fr_delay_b43
        exact tot_some ⟨h_S_20, (show (0 ≤ (0 : Int32).toInt ∧ (0 : Int32).toInt ≤ 0) from by omega)⟩
      · replace c_24 := i_ne c_24
        exfalso
        omega
set_option maxHeartbeats 4000000 in
set_option maxRecDepth 10000 in
theorem nf_isPoint (hP : True) (a0 : Int32) (a1 : Int32) : Tot (fr_isPoint a0 a1) (fun r => (0 ≤ r.toInt ∧ r.toInt ≤ 1)) := by
  have z0 : ((-9999) : Int32).toInt = -9999 := by decide
  have z1 : (9999 : Int32).toInt = 9999 := by decide
  have z2 : (0 : Int32).toInt = 0 := by decide
  have z3 : (1 : Int32).toInt = 1 := by decide
  have j_a0 := i_any a0
  have j_a1 := i_any a1
  unfold fr_isPoint
  refine tot_bind (nf_in hP a0 (-9999) 9999  ) (fun r_1 d_r_1 => ?_)
  replace d_r_1 : (r_1.toInt = 0 ∧ (a0.toInt < ((-9999) : Int32).toInt ∨ (9999 : Int32).toInt < a0.toInt) ∨ r_1.toInt = 1 ∧ ((-9999) : Int32).toInt ≤ a0.toInt ∧ a0.toInt ≤ (9999 : Int32).toInt) := d_r_1
  refine tot_if (fun c_3 => ?_) (fun c_3 => ?_)
  · replace c_3 := i_eq c_3
    unfold fr_isPoint_b30
    unfold fr_isPoint_b31
    refine tot_oif (i_b01 (by omega)) ?_
    exact tot_some (show (0 ≤ (0 : Int32).toInt ∧ (0 : Int32).toInt ≤ 1) from by omega)
  · replace c_3 := i_ne c_3
    refine tot_bind (nf_in hP a1 (-9999) 9999  ) (fun r_2 d_r_2 => ?_)
    replace d_r_2 : (r_2.toInt = 0 ∧ (a1.toInt < ((-9999) : Int32).toInt ∨ (9999 : Int32).toInt < a1.toInt) ∨ r_2.toInt = 1 ∧ ((-9999) : Int32).toInt ≤ a1.toInt ∧ a1.toInt ≤ (9999 : Int32).toInt) := d_r_2
    refine tot_if (fun c_4 => ?_) (fun c_4 => ?_)
    · replace c_4 := i_eq c_4
      unfold fr_isPoint_b30
      unfold fr_isPoint_b31
      refine tot_oif (i_b01 (by omega)) ?_
      exact tot_some (show (0 ≤ (0 : Int32).toInt ∧ (0 : Int32).toInt ≤ 1) from by omega)
    · replace c_4 := i_ne c_4
      unfold fr_isPoint_b31
      refine tot_oif (i_b01 (by omega)) ?_
      exact tot_some (show (0 ≤ (1 : Int32).toInt ∧ (1 : Int32).toInt ≤ 1) from by omega)
set_option maxHeartbeats 4000000 in
set_option maxRecDepth 10000 in
theorem nf_delayTo (hP : True) (S : MS) (a0 : Int32) (a1 : Int32) (a2 : Int32) (h_S : NC S) : Tot (fr_delayTo S a0 a1 a2) (fun r => NC r.2 ∧ (0 ≤ r.1.toInt ∧ r.1.toInt ≤ 0)) := by
  have z0 : (0 : Int32).toInt = 0 := by decide
  have j_a0 := i_any a0
  have j_a1 := i_any a1
  have j_a2 := i_any a2
  unfold fr_delayTo
  refine tot_bindp (R := fun r_1 : Int32 => (0 ≤ r_1.toInt ∧ r_1.toInt ≤ 1)) (nf_isMic hP S a0 h_S ) (fun r_1 d_r_1 => ?_)
  replace d_r_1 : (0 ≤ r_1.toInt ∧ r_1.toInt ≤ 1) := d_r_1
  refine tot_bind2 (nf_mayAsk hP S r_1 h_S (by omega)) (fun r_3 S_4 d_r_3 => ?_)
  have h_S_4 : NC S_4 := d_r_3.1
  replace d_r_3 : (0 ≤ r_3.toInt ∧ r_3.toInt ≤ 0) := d_r_3.2
  refine tot_if (fun c_10 => ?_) (fun c_10 => ?_)
  · replace c_10 := i_eq c_10
    exact tot_some ⟨h_S_4, (show (0 ≤ (0 : Int32).toInt ∧ (0 : Int32).toInt ≤ 0) from by omega)⟩
  · replace c_10 := i_ne c_10
    exfalso
    omega
set_option maxHeartbeats 4000000 in
set_option maxRecDepth 10000 in
theorem nf_spread (hP : True) (S : MS) (a0 : Int32) (h_S : NC S) : Tot (fr_spread S a0) (fun r => NC r.2 ∧ (0 ≤ r.1.toInt ∧ r.1.toInt ≤ 0)) := by
  have z0 : (0 : Int32).toInt = 0 := by decide
  have j_a0 := i_any a0
  unfold fr_spread
  refine tot_bindp (R := fun r_1 : Int32 => (0 ≤ r_1.toInt ∧ r_1.toInt ≤ 1)) (nf_isCell hP S a0 h_S ) (fun r_1 d_r_1 => ?_)
  replace d_r_1 : (0 ≤ r_1.toInt ∧ r_1.toInt ≤ 1) := d_r_1
  refine tot_bind2 (nf_mayAsk hP S r_1 h_S (by omega)) (fun r_3 S_4 d_r_3 => ?_)
  have h_S_4 : NC S_4 := d_r_3.1
  replace d_r_3 : (0 ≤ r_3.toInt ∧ r_3.toInt ≤ 0) := d_r_3.2
  refine tot_if (fun c_7 => ?_) (fun c_7 => ?_)
  · replace c_7 := i_eq c_7
    unfold fr_spread_b19
    exact tot_some ⟨h_S_4, (show (0 ≤ (0 : Int32).toInt ∧ (0 : Int32).toInt ≤ 0) from by omega)⟩
  · replace c_7 := i_ne c_7
    exfalso
    omega
set_option maxHeartbeats 4000000 in
set_option maxRecDepth 10000 in
theorem nf_window (hP : True) (S : MS) (a0 : Int32) (h_S : NC S) : Tot (fr_window S a0) (fun r => NC r.2 ∧ (0 ≤ r.1.toInt ∧ r.1.toInt ≤ 0)) := by
  have z0 : (0 : Int32).toInt = 0 := by decide
  have j_a0 := i_any a0
  unfold fr_window
  refine tot_bindp (R := fun r_1 : Int32 => (0 ≤ r_1.toInt ∧ r_1.toInt ≤ 1)) (nf_isCell hP S a0 h_S ) (fun r_1 d_r_1 => ?_)
  replace d_r_1 : (0 ≤ r_1.toInt ∧ r_1.toInt ≤ 1) := d_r_1
  refine tot_bind2 (nf_mayAsk hP S r_1 h_S (by omega)) (fun r_3 S_4 d_r_3 => ?_)
  have h_S_4 : NC S_4 := d_r_3.1
  replace d_r_3 : (0 ≤ r_3.toInt ∧ r_3.toInt ≤ 0) := d_r_3.2
  refine tot_if (fun c_8 => ?_) (fun c_8 => ?_)
  · replace c_8 := i_eq c_8
    exact tot_some ⟨h_S_4, (show (0 ≤ (0 : Int32).toInt ∧ (0 : Int32).toInt ≤ 0) from by omega)⟩
  · replace c_8 := i_ne c_8
    exfalso
    omega
set_option maxHeartbeats 4000000 in
set_option maxRecDepth 10000 in
theorem nf_sample (hP : True) (S : MS) (a0 : Int32) (a1 : Int32) (h_S : NC S) : Tot (fr_sample S a0 a1) (fun r => NC r.2 ∧ (0 ≤ r.1.toInt ∧ r.1.toInt ≤ 0)) := by
  have z0 : (0 : Int32).toInt = 0 := by decide
  have j_a0 := i_any a0
  have j_a1 := i_any a1
  unfold fr_sample
  refine tot_bindp (R := fun r_1 : Int32 => (0 ≤ r_1.toInt ∧ r_1.toInt ≤ 1)) (nf_isMic hP S a0 h_S ) (fun r_1 d_r_1 => ?_)
  replace d_r_1 : (0 ≤ r_1.toInt ∧ r_1.toInt ≤ 1) := d_r_1
  refine tot_bind2 (nf_mayAsk hP S r_1 h_S (by omega)) (fun r_3 S_4 d_r_3 => ?_)
  have h_S_4 : NC S_4 := d_r_3.1
  replace d_r_3 : (0 ≤ r_3.toInt ∧ r_3.toInt ≤ 0) := d_r_3.2
  refine tot_if (fun c_13 => ?_) (fun c_13 => ?_)
  · replace c_13 := i_eq c_13
    exact tot_some ⟨h_S_4, (show (0 ≤ (0 : Int32).toInt ∧ (0 : Int32).toInt ≤ 0) from by omega)⟩
  · replace c_13 := i_ne c_13
    exfalso
    omega
set_option maxHeartbeats 4000000 in
set_option maxRecDepth 10000 in
theorem nf_beam (hP : True) (S : MS) (a0 : Int32) (a1 : Int32) (h_S : NC S) : Tot (fr_beam S a0 a1) (fun r => NC r.2 ∧ (0 ≤ r.1.toInt ∧ r.1.toInt ≤ 0)) := by
  have z0 : (0 : Int32).toInt = 0 := by decide
  have j_a0 := i_any a0
  have j_a1 := i_any a1
  unfold fr_beam
  refine tot_bindp (R := fun r_1 : Int32 => (0 ≤ r_1.toInt ∧ r_1.toInt ≤ 1)) (nf_isCell hP S a0 h_S ) (fun r_1 d_r_1 => ?_)
  replace d_r_1 : (0 ≤ r_1.toInt ∧ r_1.toInt ≤ 1) := d_r_1
  refine tot_bind2 (nf_mayAsk hP S r_1 h_S (by omega)) (fun r_3 S_4 d_r_3 => ?_)
  have h_S_4 : NC S_4 := d_r_3.1
  replace d_r_3 : (0 ≤ r_3.toInt ∧ r_3.toInt ≤ 0) := d_r_3.2
  refine tot_if (fun c_14 => ?_) (fun c_14 => ?_)
  · replace c_14 := i_eq c_14
    exact tot_some ⟨h_S_4, (show (0 ≤ (0 : Int32).toInt ∧ (0 : Int32).toInt ≤ 0) from by omega)⟩
  · replace c_14 := i_ne c_14
    exfalso
    omega
set_option maxHeartbeats 4000000 in
set_option maxRecDepth 10000 in
theorem nf_power (hP : True) (S : MS) (a0 : Int32) (h_S : NC S) : Tot (fr_power S a0) (fun r => NC r.2 ∧ True) := by
  have z0 : (0 : Int32).toInt = 0 := by decide
  have j_a0 := i_any a0
  unfold fr_power
  refine tot_bindp (R := fun r_1 : Int32 => (0 ≤ r_1.toInt ∧ r_1.toInt ≤ 1)) (nf_isCell hP S a0 h_S ) (fun r_1 d_r_1 => ?_)
  replace d_r_1 : (0 ≤ r_1.toInt ∧ r_1.toInt ≤ 1) := d_r_1
  refine tot_bind2 (nf_mayAsk hP S r_1 h_S (by omega)) (fun r_3 S_4 d_r_3 => ?_)
  have h_S_4 : NC S_4 := d_r_3.1
  replace d_r_3 : (0 ≤ r_3.toInt ∧ r_3.toInt ≤ 0) := d_r_3.2
  refine tot_if (fun c_7 => ?_) (fun c_7 => ?_)
  · replace c_7 := i_eq c_7
    unfold fr_power_b25
    exact tot_some ⟨h_S_4, trivial⟩
  · replace c_7 := i_ne c_7
    exfalso
    omega
set_option maxHeartbeats 4000000 in
set_option maxRecDepth 10000 in
theorem nf_powerAt (hP : True) (S : MS) (a0 : Int32) (a1 : Int32) (h_S : NC S) : Tot (fr_powerAt S a0 a1) (fun r => NC r.2 ∧ True) := by
  have z0 : (0 : Int32).toInt = 0 := by decide
  have j_a0 := i_any a0
  have j_a1 := i_any a1
  unfold fr_powerAt
  refine tot_bind (nf_isPoint hP a0 a1  ) (fun r_1 d_r_1 => ?_)
  replace d_r_1 : (0 ≤ r_1.toInt ∧ r_1.toInt ≤ 1) := d_r_1
  refine tot_bind2 (nf_mayAsk hP S r_1 h_S (by omega)) (fun r_2 S_3 d_r_2 => ?_)
  have h_S_3 : NC S_3 := d_r_2.1
  replace d_r_2 : (0 ≤ r_2.toInt ∧ r_2.toInt ≤ 0) := d_r_2.2
  refine tot_if (fun c_7 => ?_) (fun c_7 => ?_)
  · replace c_7 := i_eq c_7
    exact tot_some ⟨h_S_3, trivial⟩
  · replace c_7 := i_ne c_7
    exfalso
    omega
set_option maxHeartbeats 4000000 in
set_option maxRecDepth 10000 in
theorem nf_best (hP : True) (S : MS) (h_S : NC S) : Tot (fr_best S) (fun r => NC r.2 ∧ (0 ≤ r.1.toInt ∧ r.1.toInt ≤ 0)) := by
  have z0 : (1 : Int32).toInt = 1 := by decide
  have z1 : (0 : Int32).toInt = 0 := by decide
  unfold fr_best
  refine tot_bind2 (nf_mayAsk hP S 1 h_S (by omega)) (fun r_1 S_2 d_r_1 => ?_)
  have h_S_2 : NC S_2 := d_r_1.1
  replace d_r_1 : (0 ≤ r_1.toInt ∧ r_1.toInt ≤ 0) := d_r_1.2
  refine tot_if (fun c_5 => ?_) (fun c_5 => ?_)
  · replace c_5 := i_eq c_5
    unfold fr_best_b20
    exact tot_some ⟨h_S_2, (show (0 ≤ (0 : Int32).toInt ∧ (0 : Int32).toInt ≤ 0) from by omega)⟩
  · replace c_5 := i_ne c_5
    exfalso
    omega
set_option maxHeartbeats 4000000 in
set_option maxRecDepth 10000 in
theorem nf_bestPower (hP : True) (S : MS) (h_S : NC S) : Tot (fr_bestPower S) (fun r => NC r.2 ∧ True) := by
  have z0 : (1 : Int32).toInt = 1 := by decide
  have z1 : (0 : Int32).toInt = 0 := by decide
  unfold fr_bestPower
  refine tot_bind2 (nf_mayAsk hP S 1 h_S (by omega)) (fun r_1 S_2 d_r_1 => ?_)
  have h_S_2 : NC S_2 := d_r_1.1
  replace d_r_1 : (0 ≤ r_1.toInt ∧ r_1.toInt ≤ 0) := d_r_1.2
  refine tot_if (fun c_6 => ?_) (fun c_6 => ?_)
  · replace c_6 := i_eq c_6
    unfold fr_bestPower_b25
    exact tot_some ⟨h_S_2, trivial⟩
  · replace c_6 := i_ne c_6
    exfalso
    omega
set_option maxHeartbeats 4000000 in
set_option maxRecDepth 10000 in
theorem nf_meanPower (hP : True) (S : MS) (h_S : NC S) : Tot (fr_meanPower S) (fun r => NC r.2 ∧ True) := by
  have z0 : (1 : Int32).toInt = 1 := by decide
  have z1 : (0 : Int32).toInt = 0 := by decide
  unfold fr_meanPower
  refine tot_bind2 (nf_mayAsk hP S 1 h_S (by omega)) (fun r_1 S_2 d_r_1 => ?_)
  have h_S_2 : NC S_2 := d_r_1.1
  replace d_r_1 : (0 ≤ r_1.toInt ∧ r_1.toInt ≤ 0) := d_r_1.2
  refine tot_if (fun c_4 => ?_) (fun c_4 => ?_)
  · replace c_4 := i_eq c_4
    exact tot_some ⟨h_S_2, trivial⟩
  · replace c_4 := i_ne c_4
    exfalso
    omega
set_option maxHeartbeats 4000000 in
set_option maxRecDepth 10000 in
theorem nf_peaks (hP : True) (S : MS) (h_S : NC S) : Tot (fr_peaks S) (fun r => NC r.2 ∧ (0 ≤ r.1.toInt ∧ r.1.toInt ≤ 0)) := by
  have z0 : (1 : Int32).toInt = 1 := by decide
  have z1 : (0 : Int32).toInt = 0 := by decide
  unfold fr_peaks
  refine tot_bind2 (nf_mayAsk hP S 1 h_S (by omega)) (fun r_1 S_2 d_r_1 => ?_)
  have h_S_2 : NC S_2 := d_r_1.1
  replace d_r_1 : (0 ≤ r_1.toInt ∧ r_1.toInt ≤ 0) := d_r_1.2
  refine tot_if (fun c_4 => ?_) (fun c_4 => ?_)
  · replace c_4 := i_eq c_4
    exact tot_some ⟨h_S_2, (show (0 ≤ (0 : Int32).toInt ∧ (0 : Int32).toInt ≤ 0) from by omega)⟩
  · replace c_4 := i_ne c_4
    exfalso
    omega
set_option maxHeartbeats 4000000 in
set_option maxRecDepth 10000 in
theorem nf_peakAt (hP : True) (S : MS) (a0 : Int32) (h_S : NC S) : Tot (fr_peakAt S a0) (fun r => NC r.2 ∧ (0 ≤ r.1.toInt ∧ r.1.toInt ≤ 0)) := by
  have z0 : (1 : Int32).toInt = 1 := by decide
  have z1 : (0 : Int32).toInt = 0 := by decide
  have j_a0 := i_any a0
  unfold fr_peakAt
  refine tot_bind2 (nf_mayAsk hP S 1 h_S (by omega)) (fun r_1 S_2 d_r_1 => ?_)
  have h_S_2 : NC S_2 := d_r_1.1
  replace d_r_1 : (0 ≤ r_1.toInt ∧ r_1.toInt ≤ 0) := d_r_1.2
  refine tot_if (fun c_4 => ?_) (fun c_4 => ?_)
  · replace c_4 := i_eq c_4
    exact tot_some ⟨h_S_2, (show (0 ≤ (0 : Int32).toInt ∧ (0 : Int32).toInt ≤ 0) from by omega)⟩
  · replace c_4 := i_ne c_4
    exfalso
    omega
set_option maxHeartbeats 4000000 in
set_option maxRecDepth 10000 in
theorem nf_isPeak (hP : True) (S : MS) (a0 : Int32) (h_S : NC S) : Tot (fr_isPeak S a0) (fun r => NC r.2 ∧ (0 ≤ r.1.toInt ∧ r.1.toInt ≤ 0)) := by
  have z0 : (0 : Int32).toInt = 0 := by decide
  have j_a0 := i_any a0
  unfold fr_isPeak
  refine tot_bindp (R := fun r_1 : Int32 => (0 ≤ r_1.toInt ∧ r_1.toInt ≤ 1)) (nf_isCell hP S a0 h_S ) (fun r_1 d_r_1 => ?_)
  replace d_r_1 : (0 ≤ r_1.toInt ∧ r_1.toInt ≤ 1) := d_r_1
  refine tot_bind2 (nf_mayAsk hP S r_1 h_S (by omega)) (fun r_3 S_4 d_r_3 => ?_)
  have h_S_4 : NC S_4 := d_r_3.1
  replace d_r_3 : (0 ≤ r_3.toInt ∧ r_3.toInt ≤ 0) := d_r_3.2
  refine tot_if (fun c_8 => ?_) (fun c_8 => ?_)
  · replace c_8 := i_eq c_8
    exact tot_some ⟨h_S_4, (show (0 ≤ (0 : Int32).toInt ∧ (0 : Int32).toInt ≤ 0) from by omega)⟩
  · replace c_8 := i_ne c_8
    exfalso
    omega
set_option maxHeartbeats 4000000 in
set_option maxRecDepth 10000 in
theorem nf_contrast (hP : True) (S : MS) (h_S : NC S) : Tot (fr_contrast S) (fun r => NC r.2 ∧ True) := by
  have z0 : (1 : Int32).toInt = 1 := by decide
  have z1 : (0 : Int32).toInt = 0 := by decide
  unfold fr_contrast
  refine tot_bind2 (nf_mayAsk hP S 1 h_S (by omega)) (fun r_1 S_2 d_r_1 => ?_)
  have h_S_2 : NC S_2 := d_r_1.1
  replace d_r_1 : (0 ≤ r_1.toInt ∧ r_1.toInt ≤ 0) := d_r_1.2
  refine tot_if (fun c_5 => ?_) (fun c_5 => ?_)
  · replace c_5 := i_eq c_5
    exact tot_some ⟨h_S_2, trivial⟩
  · replace c_5 := i_ne c_5
    exfalso
    omega
set_option maxHeartbeats 4000000 in
set_option maxRecDepth 10000 in
theorem nf_alias (hP : True) (S : MS) (a0 : Int32) (a1 : Int32) (a2 : Int32) (h_S : NC S) : Tot (fr_alias S a0 a1 a2) (fun r => NC r.2 ∧ (0 ≤ r.1.toInt ∧ r.1.toInt ≤ 0)) := by
  have z0 : (0 : Int32).toInt = 0 := by decide
  have z1 : (1 : Int32).toInt = 1 := by decide
  have j_a0 := i_any a0
  have j_a1 := i_any a1
  have j_a2 := i_any a2
  unfold fr_alias
  refine tot_bindp (R := fun r_1 : Int32 => (0 ≤ r_1.toInt ∧ r_1.toInt ≤ 1)) (nf_isCell hP S a0 h_S ) (fun r_1 d_r_1 => ?_)
  replace d_r_1 : (0 ≤ r_1.toInt ∧ r_1.toInt ≤ 1) := d_r_1
  refine tot_if (fun c_5 => ?_) (fun c_5 => ?_)
  · replace c_5 := i_eq c_5
    unfold fr_alias_b21
    unfold fr_alias_b22
    refine tot_bind2 (nf_mayAsk hP S 0 h_S (by omega)) (fun r_6 S_7 d_r_6 => ?_)
    have h_S_7 : NC S_7 := d_r_6.1
    replace d_r_6 : (0 ≤ r_6.toInt ∧ r_6.toInt ≤ 0) := d_r_6.2
    refine tot_if (fun c_13 => ?_) (fun c_13 => ?_)
    · replace c_13 := i_eq c_13
      exact tot_some ⟨h_S_7, (show (0 ≤ (0 : Int32).toInt ∧ (0 : Int32).toInt ≤ 0) from by omega)⟩
    · replace c_13 := i_ne c_13
      exfalso
      omega
  · replace c_5 := i_ne c_5
    refine tot_bindp (R := fun r_3 : Int32 => (0 ≤ r_3.toInt ∧ r_3.toInt ≤ 1)) (nf_isCell hP S a1 h_S ) (fun r_3 d_r_3 => ?_)
    replace d_r_3 : (0 ≤ r_3.toInt ∧ r_3.toInt ≤ 1) := d_r_3
    refine tot_if (fun c_14 => ?_) (fun c_14 => ?_)
    · replace c_14 := i_eq c_14
      unfold fr_alias_b21
      unfold fr_alias_b22
      refine tot_bind2 (nf_mayAsk hP S 0 h_S (by omega)) (fun r_15 S_16 d_r_15 => ?_)
      have h_S_16 : NC S_16 := d_r_15.1
      replace d_r_15 : (0 ≤ r_15.toInt ∧ r_15.toInt ≤ 0) := d_r_15.2
      refine tot_if (fun c_22 => ?_) (fun c_22 => ?_)
      · replace c_22 := i_eq c_22
        exact tot_some ⟨h_S_16, (show (0 ≤ (0 : Int32).toInt ∧ (0 : Int32).toInt ≤ 0) from by omega)⟩
      · replace c_22 := i_ne c_22
        exfalso
        omega
    · replace c_14 := i_ne c_14
      unfold fr_alias_b22
      refine tot_bind2 (nf_mayAsk hP S 1 h_S (by omega)) (fun r_23 S_24 d_r_23 => ?_)
      have h_S_24 : NC S_24 := d_r_23.1
      replace d_r_23 : (0 ≤ r_23.toInt ∧ r_23.toInt ≤ 0) := d_r_23.2
      refine tot_if (fun c_30 => ?_) (fun c_30 => ?_)
      · replace c_30 := i_eq c_30
        exact tot_some ⟨h_S_24, (show (0 ≤ (0 : Int32).toInt ∧ (0 : Int32).toInt ≤ 0) from by omega)⟩
      · replace c_30 := i_ne c_30
        exfalso
        omega
set_option maxHeartbeats 4000000 in
set_option maxRecDepth 10000 in
theorem nf_isShare (hP : True) (a0 : Int32) : Tot (fr_isShare a0) (fun r => (0 ≤ r.toInt ∧ r.toInt ≤ 1)) := by
  have z0 : (1 : Int32).toInt = 1 := by decide
  have z1 : (100 : Int32).toInt = 100 := by decide
  have j_a0 := i_any a0
  unfold fr_isShare
  refine tot_bind (nf_in hP a0 1 100  ) (fun r_1 d_r_1 => ?_)
  replace d_r_1 : (r_1.toInt = 0 ∧ (a0.toInt < (1 : Int32).toInt ∨ (100 : Int32).toInt < a0.toInt) ∨ r_1.toInt = 1 ∧ (1 : Int32).toInt ≤ a0.toInt ∧ a0.toInt ≤ (100 : Int32).toInt) := d_r_1
  refine tot_oif (i_b01 (by omega)) ?_
  exact tot_some (show (0 ≤ r_1.toInt ∧ r_1.toInt ≤ 1) from by omega)
set_option maxHeartbeats 4000000 in
set_option maxRecDepth 10000 in
theorem nf_isAlias (hP : True) (S : MS) (a0 : Int32) (a1 : Int32) (a2 : Int32) (h_S : NC S) : Tot (fr_isAlias S a0 a1 a2) (fun r => NC r.2 ∧ (0 ≤ r.1.toInt ∧ r.1.toInt ≤ 0)) := by
  have z0 : (0 : Int32).toInt = 0 := by decide
  have j_a0 := i_any a0
  have j_a1 := i_any a1
  have j_a2 := i_any a2
  unfold fr_isAlias
  refine tot_bindp (R := fun r_1 : Int32 => (0 ≤ r_1.toInt ∧ r_1.toInt ≤ 1)) (nf_isCell hP S a0 h_S ) (fun r_1 d_r_1 => ?_)
  replace d_r_1 : (0 ≤ r_1.toInt ∧ r_1.toInt ≤ 1) := d_r_1
  refine tot_bind2 (nf_mayAsk hP S r_1 h_S (by omega)) (fun r_3 S_4 d_r_3 => ?_)
  have h_S_4 : NC S_4 := d_r_3.1
  replace d_r_3 : (0 ≤ r_3.toInt ∧ r_3.toInt ≤ 0) := d_r_3.2
  refine tot_if (fun c_7 => ?_) (fun c_7 => ?_)
  · replace c_7 := i_eq c_7
    exact tot_some ⟨h_S_4, (show (0 ≤ (0 : Int32).toInt ∧ (0 : Int32).toInt ≤ 0) from by omega)⟩
  · replace c_7 := i_ne c_7
    exfalso
    omega
set_option maxHeartbeats 4000000 in
set_option maxRecDepth 10000 in
theorem nf_aliases (hP : True) (S : MS) (a0 : Int32) (a1 : Int32) (h_S : NC S) : Tot (fr_aliases S a0 a1) (fun r => NC r.2 ∧ (0 ≤ r.1.toInt ∧ r.1.toInt ≤ 0)) := by
  have z0 : (0 : Int32).toInt = 0 := by decide
  have z1 : (1 : Int32).toInt = 1 := by decide
  have j_a0 := i_any a0
  have j_a1 := i_any a1
  unfold fr_aliases
  refine tot_bind (nf_isPeriod hP a0  ) (fun r_1 d_r_1 => ?_)
  replace d_r_1 : (0 ≤ r_1.toInt ∧ r_1.toInt ≤ 1) := d_r_1
  refine tot_if (fun c_3 => ?_) (fun c_3 => ?_)
  · replace c_3 := i_eq c_3
    unfold fr_aliases_b19
    unfold fr_aliases_b20
    refine tot_bind2 (nf_mayAsk hP S 0 h_S (by omega)) (fun r_4 S_5 d_r_4 => ?_)
    have h_S_5 : NC S_5 := d_r_4.1
    replace d_r_4 : (0 ≤ r_4.toInt ∧ r_4.toInt ≤ 0) := d_r_4.2
    refine tot_if (fun c_8 => ?_) (fun c_8 => ?_)
    · replace c_8 := i_eq c_8
      exact tot_some ⟨h_S_5, (show (0 ≤ (0 : Int32).toInt ∧ (0 : Int32).toInt ≤ 0) from by omega)⟩
    · replace c_8 := i_ne c_8
      exfalso
      omega
  · replace c_3 := i_ne c_3
    refine tot_bind (nf_isShare hP a1  ) (fun r_2 d_r_2 => ?_)
    replace d_r_2 : (0 ≤ r_2.toInt ∧ r_2.toInt ≤ 1) := d_r_2
    refine tot_if (fun c_9 => ?_) (fun c_9 => ?_)
    · replace c_9 := i_eq c_9
      unfold fr_aliases_b19
      unfold fr_aliases_b20
      refine tot_bind2 (nf_mayAsk hP S 0 h_S (by omega)) (fun r_10 S_11 d_r_10 => ?_)
      have h_S_11 : NC S_11 := d_r_10.1
      replace d_r_10 : (0 ≤ r_10.toInt ∧ r_10.toInt ≤ 0) := d_r_10.2
      refine tot_if (fun c_14 => ?_) (fun c_14 => ?_)
      · replace c_14 := i_eq c_14
        exact tot_some ⟨h_S_11, (show (0 ≤ (0 : Int32).toInt ∧ (0 : Int32).toInt ≤ 0) from by omega)⟩
      · replace c_14 := i_ne c_14
        exfalso
        omega
    · replace c_9 := i_ne c_9
      unfold fr_aliases_b20
      refine tot_bind2 (nf_mayAsk hP S 1 h_S (by omega)) (fun r_15 S_16 d_r_15 => ?_)
      have h_S_16 : NC S_16 := d_r_15.1
      replace d_r_15 : (0 ≤ r_15.toInt ∧ r_15.toInt ≤ 0) := d_r_15.2
      refine tot_if (fun c_19 => ?_) (fun c_19 => ?_)
      · replace c_19 := i_eq c_19
        exact tot_some ⟨h_S_16, (show (0 ≤ (0 : Int32).toInt ∧ (0 : Int32).toInt ≤ 0) from by omega)⟩
      · replace c_19 := i_ne c_19
        exfalso
        omega
set_option maxHeartbeats 4000000 in
set_option maxRecDepth 10000 in
theorem nf_isBlock (hP : True) (S : MS) (a0 : Int32) (a1 : Int32) (h_S : NC S) : Tot (fr_isBlock S a0 a1) (fun r => r.2 = S ∧ (0 ≤ r.1.toInt ∧ r.1.toInt ≤ 0)) := by
  have z0 : (0 : Int32).toInt = 0 := by decide
  have z1 : (1 : Int32).toInt = 1 := by decide
  have j_a0 := i_any a0
  have j_a1 := i_any a1
  unfold fr_isBlock
  refine tot_bindp (R := fun r_1 : Int32 => (0 ≤ r_1.toInt ∧ r_1.toInt ≤ 1)) (nf_isTime hP S a0 h_S ) (fun r_1 d_r_1 => ?_)
  replace d_r_1 : (0 ≤ r_1.toInt ∧ r_1.toInt ≤ 1) := d_r_1
  refine tot_if (fun c_5 => ?_) (fun c_5 => ?_)
  · replace c_5 := i_eq c_5
    unfold fr_isBlock_b26
    unfold fr_isBlock_b27
    refine tot_oif (i_b01 (by omega)) ?_
    exact tot_some ⟨rfl, (show (0 ≤ (0 : Int32).toInt ∧ (0 : Int32).toInt ≤ 0) from by omega)⟩
  · replace c_5 := i_ne c_5
    refine tot_let (fun v_3 e_v_3 => ?_)
    have q_v_3 := nc_p h_S e_v_3
    refine tot_bind (nf_in hP a1 1 v_3  ) (fun r_4 d_r_4 => ?_)
    replace d_r_4 : (r_4.toInt = 0 ∧ (a1.toInt < (1 : Int32).toInt ∨ v_3.toInt < a1.toInt) ∨ r_4.toInt = 1 ∧ (1 : Int32).toInt ≤ a1.toInt ∧ a1.toInt ≤ v_3.toInt) := d_r_4
    refine tot_if (fun c_6 => ?_) (fun c_6 => ?_)
    · replace c_6 := i_eq c_6
      unfold fr_isBlock_b26
      unfold fr_isBlock_b27
      refine tot_oif (i_b01 (by omega)) ?_
      exact tot_some ⟨rfl, (show (0 ≤ (0 : Int32).toInt ∧ (0 : Int32).toInt ≤ 0) from by omega)⟩
    · replace c_6 := i_ne c_6
      exfalso
      omega
set_option maxHeartbeats 4000000 in
set_option maxRecDepth 10000 in
theorem nf_blockPower (hP : True) (S : MS) (a0 : Int32) (a1 : Int32) (a2 : Int32) (h_S : NC S) : Tot (fr_blockPower S a0 a1 a2) (fun r => NC r.2 ∧ True) := by
  have z0 : (0 : Int32).toInt = 0 := by decide
  have j_a0 := i_any a0
  have j_a1 := i_any a1
  have j_a2 := i_any a2
  unfold fr_blockPower
  refine tot_bindp (R := fun r_1 : Int32 => (0 ≤ r_1.toInt ∧ r_1.toInt ≤ 1)) (nf_isCell hP S a0 h_S ) (fun r_1 d_r_1 => ?_)
  replace d_r_1 : (0 ≤ r_1.toInt ∧ r_1.toInt ≤ 1) := d_r_1
  refine tot_bind2 (nf_mayAsk hP S r_1 h_S (by omega)) (fun r_3 S_4 d_r_3 => ?_)
  have h_S_4 : NC S_4 := d_r_3.1
  replace d_r_3 : (0 ≤ r_3.toInt ∧ r_3.toInt ≤ 0) := d_r_3.2
  refine tot_if (fun c_12 => ?_) (fun c_12 => ?_)
  · replace c_12 := i_eq c_12
    exact tot_some ⟨h_S_4, trivial⟩
  · replace c_12 := i_ne c_12
    exfalso
    omega
set_option maxHeartbeats 4000000 in
set_option maxRecDepth 10000 in
theorem nf_blockBest (hP : True) (S : MS) (a0 : Int32) (a1 : Int32) (h_S : NC S) : Tot (fr_blockBest S a0 a1) (fun r => NC r.2 ∧ (0 ≤ r.1.toInt ∧ r.1.toInt ≤ 0)) := by
  have z0 : (0 : Int32).toInt = 0 := by decide
  have j_a0 := i_any a0
  have j_a1 := i_any a1
  unfold fr_blockBest
  refine tot_bindp (R := fun r_1 : Int32 => (0 ≤ r_1.toInt ∧ r_1.toInt ≤ 0)) (nf_isBlock hP S a0 a1 h_S ) (fun r_1 d_r_1 => ?_)
  replace d_r_1 : (0 ≤ r_1.toInt ∧ r_1.toInt ≤ 0) := d_r_1
  refine tot_bind2 (nf_mayAsk hP S r_1 h_S (by omega)) (fun r_3 S_4 d_r_3 => ?_)
  have h_S_4 : NC S_4 := d_r_3.1
  replace d_r_3 : (0 ≤ r_3.toInt ∧ r_3.toInt ≤ 0) := d_r_3.2
  refine tot_if (fun c_7 => ?_) (fun c_7 => ?_)
  · replace c_7 := i_eq c_7
    unfold fr_blockBest_b23
    exact tot_some ⟨h_S_4, (show (0 ≤ (0 : Int32).toInt ∧ (0 : Int32).toInt ≤ 0) from by omega)⟩
  · replace c_7 := i_ne c_7
    exfalso
    omega
set_option maxHeartbeats 4000000 in
set_option maxRecDepth 10000 in
theorem nf_path (hP : True) (S : MS) (a0 : Int32) (h_S : NC S) : Tot (fr_path S a0) (fun r => NC r.2 ∧ (0 ≤ r.1.toInt ∧ r.1.toInt ≤ 0)) := by
  have z0 : (4 : Int32).toInt = 4 := by decide
  have z1 : (0 : Int32).toInt = 0 := by decide
  have j_a0 := i_any a0
  unfold fr_path
  refine tot_let (fun v_1 e_v_1 => ?_)
  have q_v_1 := nc_p h_S e_v_1
  refine tot_bind (nf_in hP a0 4 v_1  ) (fun r_2 d_r_2 => ?_)
  replace d_r_2 : (r_2.toInt = 0 ∧ (a0.toInt < (4 : Int32).toInt ∨ v_1.toInt < a0.toInt) ∨ r_2.toInt = 1 ∧ (4 : Int32).toInt ≤ a0.toInt ∧ a0.toInt ≤ v_1.toInt) := d_r_2
  refine tot_bind2 (nf_mayAsk hP S r_2 h_S (by omega)) (fun r_3 S_4 d_r_3 => ?_)
  have h_S_4 : NC S_4 := d_r_3.1
  replace d_r_3 : (0 ≤ r_3.toInt ∧ r_3.toInt ≤ 0) := d_r_3.2
  refine tot_if (fun c_7 => ?_) (fun c_7 => ?_)
  · replace c_7 := i_eq c_7
    exact tot_some ⟨h_S_4, (show (0 ≤ (0 : Int32).toInt ∧ (0 : Int32).toInt ≤ 0) from by omega)⟩
  · replace c_7 := i_ne c_7
    exfalso
    omega
set_option maxHeartbeats 4000000 in
set_option maxRecDepth 10000 in
theorem nf_isLength (hP : True) (S : MS) (a0 : Int32) (h_S : NC S) : Tot (fr_isLength S a0) (fun r => r.2 = S ∧ (r.1.toInt = 0)) := by
  have z0 : (4 : Int32).toInt = 4 := by decide
  have j_a0 := i_any a0
  unfold fr_isLength
  refine tot_let (fun v_1 e_v_1 => ?_)
  have q_v_1 := nc_p h_S e_v_1
  refine tot_bind (nf_in hP a0 4 v_1  ) (fun r_2 d_r_2 => ?_)
  replace d_r_2 : (r_2.toInt = 0 ∧ (a0.toInt < (4 : Int32).toInt ∨ v_1.toInt < a0.toInt) ∨ r_2.toInt = 1 ∧ (4 : Int32).toInt ≤ a0.toInt ∧ a0.toInt ≤ v_1.toInt) := d_r_2
  refine tot_oif (i_b01 (by omega)) ?_
  exact tot_some ⟨rfl, (show (r_2.toInt = 0) from by omega)⟩
set_option maxHeartbeats 4000000 in
set_option maxRecDepth 10000 in
theorem nf_trackScore (hP : True) (S : MS) (a0 : Int32) (h_S : NC S) : Tot (fr_trackScore S a0) (fun r => NC r.2 ∧ True) := by
  have z0 : (0 : Int32).toInt = 0 := by decide
  have j_a0 := i_any a0
  unfold fr_trackScore
  refine tot_bindp (R := fun r_1 : Int32 => (r_1.toInt = 0)) (nf_isLength hP S a0 h_S ) (fun r_1 d_r_1 => ?_)
  replace d_r_1 : (r_1.toInt = 0) := d_r_1
  refine tot_bind2 (nf_mayAsk hP S r_1 h_S (by omega)) (fun r_3 S_4 d_r_3 => ?_)
  have h_S_4 : NC S_4 := d_r_3.1
  replace d_r_3 : (0 ≤ r_3.toInt ∧ r_3.toInt ≤ 0) := d_r_3.2
  refine tot_if (fun c_9 => ?_) (fun c_9 => ?_)
  · replace c_9 := i_eq c_9
    exact tot_some ⟨h_S_4, trivial⟩
  · replace c_9 := i_ne c_9
    exfalso
    omega
set_option maxHeartbeats 4000000 in
set_option maxRecDepth 10000 in
theorem nf_trackCell (hP : True) (S : MS) (a0 : Int32) (a1 : Int32) (h_S : NC S) : Tot (fr_trackCell S a0 a1) (fun r => NC r.2 ∧ (0 ≤ r.1.toInt ∧ r.1.toInt ≤ 0)) := by
  have z0 : (0 : Int32).toInt = 0 := by decide
  have z1 : (1 : Int32).toInt = 1 := by decide
  have j_a0 := i_any a0
  have j_a1 := i_any a1
  unfold fr_trackCell
  refine tot_bindp (R := fun r_1 : Int32 => (r_1.toInt = 0)) (nf_isLength hP S a0 h_S ) (fun r_1 d_r_1 => ?_)
  replace d_r_1 : (r_1.toInt = 0) := d_r_1
  refine tot_if (fun c_7 => ?_) (fun c_7 => ?_)
  · replace c_7 := i_eq c_7
    unfold fr_trackCell_b24
    unfold fr_trackCell_b29
    refine tot_bind2 (nf_mayAsk hP S 1 h_S (by omega)) (fun r_8 S_9 d_r_8 => ?_)
    have h_S_9 : NC S_9 := d_r_8.1
    replace d_r_8 : (0 ≤ r_8.toInt ∧ r_8.toInt ≤ 0) := d_r_8.2
    refine tot_if (fun c_15 => ?_) (fun c_15 => ?_)
    · replace c_15 := i_eq c_15
      exact tot_some ⟨h_S_9, (show (0 ≤ (0 : Int32).toInt ∧ (0 : Int32).toInt ≤ 0) from by omega)⟩
    · replace c_15 := i_ne c_15
      exfalso
      omega
  · replace c_7 := i_ne c_7
    exfalso
    omega
set_option maxHeartbeats 4000000 in
set_option maxRecDepth 10000 in
theorem nf_isZone (hP : True) (S : MS) (a0 : Int32) (h_S : NC S) : Tot (fr_isZone S a0) (fun r => r.2 = S ∧ (0 ≤ r.1.toInt ∧ r.1.toInt ≤ 1)) := by
  have z0 : (1 : Int32).toInt = 1 := by decide
  have z1 : (0 : Int32).toInt = 0 := by decide
  have j_a0 := i_any a0
  unfold fr_isZone
  refine tot_let (fun v_1 e_v_1 => ?_)
  have q_v_1 := nc_p h_S e_v_1
  refine tot_let (fun v_2 e_v_2 => ?_)
  have q_v_2 := i_sub e_v_2 (by omega) (by omega)
  refine tot_bind (nf_in hP a0 0 v_2  ) (fun r_3 d_r_3 => ?_)
  replace d_r_3 : (r_3.toInt = 0 ∧ (a0.toInt < (0 : Int32).toInt ∨ v_2.toInt < a0.toInt) ∨ r_3.toInt = 1 ∧ (0 : Int32).toInt ≤ a0.toInt ∧ a0.toInt ≤ v_2.toInt) := d_r_3
  refine tot_oif (i_b01 (by omega)) ?_
  exact tot_some ⟨rfl, (show (0 ≤ r_3.toInt ∧ r_3.toInt ≤ 1) from by omega)⟩
set_option maxHeartbeats 4000000 in
set_option maxRecDepth 10000 in
theorem nf_zonePower (hP : True) (S : MS) (a0 : Int32) (h_S : NC S) : Tot (fr_zonePower S a0) (fun r => NC r.2 ∧ True) := by
  have z0 : (0 : Int32).toInt = 0 := by decide
  have j_a0 := i_any a0
  unfold fr_zonePower
  refine tot_bindp (R := fun r_1 : Int32 => (0 ≤ r_1.toInt ∧ r_1.toInt ≤ 1)) (nf_isZone hP S a0 h_S ) (fun r_1 d_r_1 => ?_)
  replace d_r_1 : (0 ≤ r_1.toInt ∧ r_1.toInt ≤ 1) := d_r_1
  refine tot_bind2 (nf_mayAsk hP S r_1 h_S (by omega)) (fun r_3 S_4 d_r_3 => ?_)
  have h_S_4 : NC S_4 := d_r_3.1
  replace d_r_3 : (0 ≤ r_3.toInt ∧ r_3.toInt ≤ 0) := d_r_3.2
  refine tot_if (fun c_5 => ?_) (fun c_5 => ?_)
  · replace c_5 := i_eq c_5
    exact tot_some ⟨h_S_4, trivial⟩
  · replace c_5 := i_ne c_5
    exfalso
    omega
set_option maxHeartbeats 4000000 in
set_option maxRecDepth 10000 in
theorem nf_zoneBest (hP : True) (S : MS) (a0 : Int32) (h_S : NC S) : Tot (fr_zoneBest S a0) (fun r => NC r.2 ∧ (0 ≤ r.1.toInt ∧ r.1.toInt ≤ 0)) := by
  have z0 : (0 : Int32).toInt = 0 := by decide
  have j_a0 := i_any a0
  unfold fr_zoneBest
  refine tot_bindp (R := fun r_1 : Int32 => (0 ≤ r_1.toInt ∧ r_1.toInt ≤ 1)) (nf_isZone hP S a0 h_S ) (fun r_1 d_r_1 => ?_)
  replace d_r_1 : (0 ≤ r_1.toInt ∧ r_1.toInt ≤ 1) := d_r_1
  refine tot_bind2 (nf_mayAsk hP S r_1 h_S (by omega)) (fun r_3 S_4 d_r_3 => ?_)
  have h_S_4 : NC S_4 := d_r_3.1
  replace d_r_3 : (0 ≤ r_3.toInt ∧ r_3.toInt ≤ 0) := d_r_3.2
  refine tot_if (fun c_6 => ?_) (fun c_6 => ?_)
  · replace c_6 := i_eq c_6
    exact tot_some ⟨h_S_4, (show (0 ≤ (0 : Int32).toInt ∧ (0 : Int32).toInt ≤ 0) from by omega)⟩
  · replace c_6 := i_ne c_6
    exfalso
    omega
set_option maxHeartbeats 4000000 in
set_option maxRecDepth 10000 in
theorem nf_movingPower (hP : True) (S : MS) (a0 : Int32) (a1 : Int32) (a2 : Int32) (h_S : NC S) : Tot (fr_movingPower S a0 a1 a2) (fun r => NC r.2 ∧ True) := by
  have z0 : (0 : Int32).toInt = 0 := by decide
  have j_a0 := i_any a0
  have j_a1 := i_any a1
  have j_a2 := i_any a2
  unfold fr_movingPower
  refine tot_bindp (R := fun r_1 : Int32 => (0 ≤ r_1.toInt ∧ r_1.toInt ≤ 1)) (nf_isCell hP S a0 h_S ) (fun r_1 d_r_1 => ?_)
  replace d_r_1 : (0 ≤ r_1.toInt ∧ r_1.toInt ≤ 1) := d_r_1
  refine tot_bind2 (nf_mayAsk hP S r_1 h_S (by omega)) (fun r_3 S_4 d_r_3 => ?_)
  have h_S_4 : NC S_4 := d_r_3.1
  replace d_r_3 : (0 ≤ r_3.toInt ∧ r_3.toInt ≤ 0) := d_r_3.2
  refine tot_if (fun c_11 => ?_) (fun c_11 => ?_)
  · replace c_11 := i_eq c_11
    exact tot_some ⟨h_S_4, trivial⟩
  · replace c_11 := i_ne c_11
    exfalso
    omega
set_option maxHeartbeats 4000000 in
set_option maxRecDepth 10000 in
theorem nf_bestVelocity (hP : True) (S : MS) (a0 : Int32) (a1 : Int32) (a2 : Int32) (h_S : NC S) : Tot (fr_bestVelocity S a0 a1 a2) (fun r => NC r.2 ∧ (0 ≤ r.1.toInt ∧ r.1.toInt ≤ 0)) := by
  have z0 : (0 : Int32).toInt = 0 := by decide
  have j_a0 := i_any a0
  have j_a1 := i_any a1
  have j_a2 := i_any a2
  unfold fr_bestVelocity
  refine tot_bindp (R := fun r_1 : Int32 => (0 ≤ r_1.toInt ∧ r_1.toInt ≤ 1)) (nf_isCell hP S a0 h_S ) (fun r_1 d_r_1 => ?_)
  replace d_r_1 : (0 ≤ r_1.toInt ∧ r_1.toInt ≤ 1) := d_r_1
  refine tot_bind2 (nf_mayAsk hP S r_1 h_S (by omega)) (fun r_3 S_4 d_r_3 => ?_)
  have h_S_4 : NC S_4 := d_r_3.1
  replace d_r_3 : (0 ≤ r_3.toInt ∧ r_3.toInt ≤ 0) := d_r_3.2
  refine tot_if (fun c_8 => ?_) (fun c_8 => ?_)
  · replace c_8 := i_eq c_8
    exact tot_some ⟨h_S_4, (show (0 ≤ (0 : Int32).toInt ∧ (0 : Int32).toInt ≤ 0) from by omega)⟩
  · replace c_8 := i_ne c_8
    exfalso
    omega
set_option maxHeartbeats 4000000 in
set_option maxRecDepth 10000 in
theorem nf_correlation (hP : True) (S : MS) (a0 : Int32) (a1 : Int32) (a2 : Int32) (h_S : NC S) : Tot (fr_correlation S a0 a1 a2) (fun r => NC r.2 ∧ True) := by
  have z0 : (0 : Int32).toInt = 0 := by decide
  have z1 : (1 : Int32).toInt = 1 := by decide
  have j_a0 := i_any a0
  have j_a1 := i_any a1
  have j_a2 := i_any a2
  unfold fr_correlation
  refine tot_bindp (R := fun r_1 : Int32 => (0 ≤ r_1.toInt ∧ r_1.toInt ≤ 1)) (nf_isMic hP S a0 h_S ) (fun r_1 d_r_1 => ?_)
  replace d_r_1 : (0 ≤ r_1.toInt ∧ r_1.toInt ≤ 1) := d_r_1
  refine tot_if (fun c_5 => ?_) (fun c_5 => ?_)
  · replace c_5 := i_eq c_5
    unfold fr_correlation_b21
    unfold fr_correlation_b22
    refine tot_bind2 (nf_mayAsk hP S 0 h_S (by omega)) (fun r_6 S_7 d_r_6 => ?_)
    have h_S_7 : NC S_7 := d_r_6.1
    replace d_r_6 : (0 ≤ r_6.toInt ∧ r_6.toInt ≤ 0) := d_r_6.2
    refine tot_if (fun c_15 => ?_) (fun c_15 => ?_)
    · replace c_15 := i_eq c_15
      exact tot_some ⟨h_S_7, trivial⟩
    · replace c_15 := i_ne c_15
      exfalso
      omega
  · replace c_5 := i_ne c_5
    refine tot_bindp (R := fun r_3 : Int32 => (0 ≤ r_3.toInt ∧ r_3.toInt ≤ 1)) (nf_isMic hP S a1 h_S ) (fun r_3 d_r_3 => ?_)
    replace d_r_3 : (0 ≤ r_3.toInt ∧ r_3.toInt ≤ 1) := d_r_3
    refine tot_if (fun c_16 => ?_) (fun c_16 => ?_)
    · replace c_16 := i_eq c_16
      unfold fr_correlation_b21
      unfold fr_correlation_b22
      refine tot_bind2 (nf_mayAsk hP S 0 h_S (by omega)) (fun r_17 S_18 d_r_17 => ?_)
      have h_S_18 : NC S_18 := d_r_17.1
      replace d_r_17 : (0 ≤ r_17.toInt ∧ r_17.toInt ≤ 0) := d_r_17.2
      refine tot_if (fun c_26 => ?_) (fun c_26 => ?_)
      · replace c_26 := i_eq c_26
        exact tot_some ⟨h_S_18, trivial⟩
      · replace c_26 := i_ne c_26
        exfalso
        omega
    · replace c_16 := i_ne c_16
      unfold fr_correlation_b22
      refine tot_bind2 (nf_mayAsk hP S 1 h_S (by omega)) (fun r_27 S_28 d_r_27 => ?_)
      have h_S_28 : NC S_28 := d_r_27.1
      replace d_r_27 : (0 ≤ r_27.toInt ∧ r_27.toInt ≤ 0) := d_r_27.2
      refine tot_if (fun c_36 => ?_) (fun c_36 => ?_)
      · replace c_36 := i_eq c_36
        exact tot_some ⟨h_S_28, trivial⟩
      · replace c_36 := i_ne c_36
        exfalso
        omega
set_option maxHeartbeats 4000000 in
set_option maxRecDepth 10000 in
theorem nf_bestLag (hP : True) (S : MS) (a0 : Int32) (a1 : Int32) (a2 : Int32) (h_S : NC S) : Tot (fr_bestLag S a0 a1 a2) (fun r => NC r.2 ∧ (0 ≤ r.1.toInt ∧ r.1.toInt ≤ 0)) := by
  have z0 : (0 : Int32).toInt = 0 := by decide
  have z1 : (1 : Int32).toInt = 1 := by decide
  have j_a0 := i_any a0
  have j_a1 := i_any a1
  have j_a2 := i_any a2
  unfold fr_bestLag
  refine tot_bindp (R := fun r_1 : Int32 => (0 ≤ r_1.toInt ∧ r_1.toInt ≤ 1)) (nf_isMic hP S a0 h_S ) (fun r_1 d_r_1 => ?_)
  replace d_r_1 : (0 ≤ r_1.toInt ∧ r_1.toInt ≤ 1) := d_r_1
  refine tot_if (fun c_5 => ?_) (fun c_5 => ?_)
  · replace c_5 := i_eq c_5
    unfold fr_bestLag_b21
    unfold fr_bestLag_b22
    refine tot_bind2 (nf_mayAsk hP S 0 h_S (by omega)) (fun r_6 S_7 d_r_6 => ?_)
    have h_S_7 : NC S_7 := d_r_6.1
    replace d_r_6 : (0 ≤ r_6.toInt ∧ r_6.toInt ≤ 0) := d_r_6.2
    refine tot_if (fun c_12 => ?_) (fun c_12 => ?_)
    · replace c_12 := i_eq c_12
      exact tot_some ⟨h_S_7, (show (0 ≤ (0 : Int32).toInt ∧ (0 : Int32).toInt ≤ 0) from by omega)⟩
    · replace c_12 := i_ne c_12
      exfalso
      omega
  · replace c_5 := i_ne c_5
    refine tot_bindp (R := fun r_3 : Int32 => (0 ≤ r_3.toInt ∧ r_3.toInt ≤ 1)) (nf_isMic hP S a1 h_S ) (fun r_3 d_r_3 => ?_)
    replace d_r_3 : (0 ≤ r_3.toInt ∧ r_3.toInt ≤ 1) := d_r_3
    refine tot_if (fun c_13 => ?_) (fun c_13 => ?_)
    · replace c_13 := i_eq c_13
      unfold fr_bestLag_b21
      unfold fr_bestLag_b22
      refine tot_bind2 (nf_mayAsk hP S 0 h_S (by omega)) (fun r_14 S_15 d_r_14 => ?_)
      have h_S_15 : NC S_15 := d_r_14.1
      replace d_r_14 : (0 ≤ r_14.toInt ∧ r_14.toInt ≤ 0) := d_r_14.2
      refine tot_if (fun c_20 => ?_) (fun c_20 => ?_)
      · replace c_20 := i_eq c_20
        exact tot_some ⟨h_S_15, (show (0 ≤ (0 : Int32).toInt ∧ (0 : Int32).toInt ≤ 0) from by omega)⟩
      · replace c_20 := i_ne c_20
        exfalso
        omega
    · replace c_13 := i_ne c_13
      unfold fr_bestLag_b22
      refine tot_bind2 (nf_mayAsk hP S 1 h_S (by omega)) (fun r_21 S_22 d_r_21 => ?_)
      have h_S_22 : NC S_22 := d_r_21.1
      replace d_r_21 : (0 ≤ r_21.toInt ∧ r_21.toInt ≤ 0) := d_r_21.2
      refine tot_if (fun c_27 => ?_) (fun c_27 => ?_)
      · replace c_27 := i_eq c_27
        exact tot_some ⟨h_S_22, (show (0 ≤ (0 : Int32).toInt ∧ (0 : Int32).toInt ≤ 0) from by omega)⟩
      · replace c_27 := i_ne c_27
        exfalso
        omega
set_option maxHeartbeats 4000000 in
set_option maxRecDepth 10000 in
theorem nf_level (hP : True) (S : MS) (a0 : Int32) (h_S : NC S) : Tot (fr_level S a0) (fun r => NC r.2 ∧ True) := by
  have z0 : (0 : Int32).toInt = 0 := by decide
  have j_a0 := i_any a0
  unfold fr_level
  refine tot_bindp (R := fun r_1 : Int32 => (0 ≤ r_1.toInt ∧ r_1.toInt ≤ 1)) (nf_isMic hP S a0 h_S ) (fun r_1 d_r_1 => ?_)
  replace d_r_1 : (0 ≤ r_1.toInt ∧ r_1.toInt ≤ 1) := d_r_1
  refine tot_bind2 (nf_mayAsk hP S r_1 h_S (by omega)) (fun r_3 S_4 d_r_3 => ?_)
  have h_S_4 : NC S_4 := d_r_3.1
  replace d_r_3 : (0 ≤ r_3.toInt ∧ r_3.toInt ≤ 0) := d_r_3.2
  refine tot_if (fun c_7 => ?_) (fun c_7 => ?_)
  · replace c_7 := i_eq c_7
    unfold fr_level_b21
    exact tot_some ⟨h_S_4, trivial⟩
  · replace c_7 := i_ne c_7
    exfalso
    omega
set_option maxHeartbeats 4000000 in
set_option maxRecDepth 10000 in
theorem nf_loudest (hP : True) (S : MS) (a0 : Int32) (h_S : NC S) : Tot (fr_loudest S a0) (fun r => NC r.2 ∧ (0 ≤ r.1.toInt ∧ r.1.toInt ≤ 0)) := by
  have z0 : (0 : Int32).toInt = 0 := by decide
  have j_a0 := i_any a0
  unfold fr_loudest
  refine tot_bindp (R := fun r_1 : Int32 => (0 ≤ r_1.toInt ∧ r_1.toInt ≤ 1)) (nf_isMic hP S a0 h_S ) (fun r_1 d_r_1 => ?_)
  replace d_r_1 : (0 ≤ r_1.toInt ∧ r_1.toInt ≤ 1) := d_r_1
  refine tot_bind2 (nf_mayAsk hP S r_1 h_S (by omega)) (fun r_3 S_4 d_r_3 => ?_)
  have h_S_4 : NC S_4 := d_r_3.1
  replace d_r_3 : (0 ≤ r_3.toInt ∧ r_3.toInt ≤ 0) := d_r_3.2
  refine tot_if (fun c_5 => ?_) (fun c_5 => ?_)
  · replace c_5 := i_eq c_5
    exact tot_some ⟨h_S_4, (show (0 ≤ (0 : Int32).toInt ∧ (0 : Int32).toInt ≤ 0) from by omega)⟩
  · replace c_5 := i_ne c_5
    exfalso
    omega
set_option maxHeartbeats 4000000 in
set_option maxRecDepth 10000 in
theorem nf_writeMap (hP : True) (S : MS) (h_S : NC S) : Tot (fr_writeMap S) (fun r => NC r.2 ∧ (0 ≤ r.1.toInt ∧ r.1.toInt ≤ 0)) := by
  have z0 : (1 : Int32).toInt = 1 := by decide
  have z1 : (0 : Int32).toInt = 0 := by decide
  unfold fr_writeMap
  refine tot_bind2 (nf_mayAsk hP S 1 h_S (by omega)) (fun r_1 S_2 d_r_1 => ?_)
  have h_S_2 : NC S_2 := d_r_1.1
  replace d_r_1 : (0 ≤ r_1.toInt ∧ r_1.toInt ≤ 0) := d_r_1.2
  refine tot_if (fun c_7 => ?_) (fun c_7 => ?_)
  · replace c_7 := i_eq c_7
    exact tot_some ⟨h_S_2, (show (0 ≤ (0 : Int32).toInt ∧ (0 : Int32).toInt ≤ 0) from by omega)⟩
  · replace c_7 := i_ne c_7
    exfalso
    omega
