section
/-! 12j.na0.lean.txt -/
set_option maxHeartbeats 4000000 in
set_option maxRecDepth 10000 in
theorem nf_in (hP : True) (a0 : Int32) (a1 : Int32) (a2 : Int32) : Tot (fr_in a0 a1 a2) (fun r => (r.toInt = 0 ∧ (a0.toInt < a1.toInt ∨ a2.toInt < a0.toInt) ∨ r.toInt = 1 ∧ a1.toInt ≤ a0.toInt ∧ a0.toInt ≤ a2.toInt)) := by
  have z0 : (0 : Int32).toInt = 0 := by decide
  have z1 : (1 : Int32).toInt = 1 := by decide
  have j_a0 := i_any a0
  have j_a1 := i_any a1
  have j_a2 := i_any a2
  unfold fr_in
  refine tot_if (fun c_1 => ?_) (fun c_1 => ?_)
  · replace c_1 := i_lt c_1
    unfold fr_in_b14
    unfold fr_in_b15
    refine tot_oif (i_b01 (by omega)) ?_
    exact tot_some (show ((0 : Int32).toInt = 0 ∧ (a0.toInt < a1.toInt ∨ a2.toInt < a0.toInt) ∨ (0 : Int32).toInt = 1 ∧ a1.toInt ≤ a0.toInt ∧ a0.toInt ≤ a2.toInt) from by omega)
  · replace c_1 := i_nlt c_1
    refine tot_if (fun c_2 => ?_) (fun c_2 => ?_)
    · replace c_2 := i_lt c_2
      unfold fr_in_b14
      unfold fr_in_b15
      refine tot_oif (i_b01 (by omega)) ?_
      exact tot_some (show ((0 : Int32).toInt = 0 ∧ (a0.toInt < a1.toInt ∨ a2.toInt < a0.toInt) ∨ (0 : Int32).toInt = 1 ∧ a1.toInt ≤ a0.toInt ∧ a0.toInt ≤ a2.toInt) from by omega)
    · replace c_2 := i_nlt c_2
      unfold fr_in_b15
      refine tot_oif (i_b01 (by omega)) ?_
      exact tot_some (show ((1 : Int32).toInt = 0 ∧ (a0.toInt < a1.toInt ∨ a2.toInt < a0.toInt) ∨ (1 : Int32).toInt = 1 ∧ a1.toInt ≤ a0.toInt ∧ a0.toInt ≤ a2.toInt) from by omega)
set_option maxHeartbeats 4000000 in
set_option maxRecDepth 10000 in
theorem nf_buffered (hP : True) (S : MS) (h_S : NC S) : Tot (fr_buffered S) (fun r => NC r.2 ∧ (0 ≤ r.1.toInt ∧ r.1.toInt ≤ 1000)) := by
  have z0 : (0 : Int32).toInt = 0 := by decide
  unfold fr_buffered
  refine tot_let (fun S_1 e_S_1 => ?_)
  have h_S_1 : NC S_1 := by rw [e_S_1]; exact nc_mi0 h_S _
  refine tot_let (fun v_2 e_v_2 => ?_)
  have q_v_2 := i_eq e_v_2
  have r_v_2 := nc_2 h_S_1
  exact tot_some ⟨h_S_1, (show (0 ≤ v_2.toInt ∧ v_2.toInt ≤ 1000) from by omega)⟩
set_option maxHeartbeats 4000000 in
set_option maxRecDepth 10000 in
theorem nf_parseError (hP : True) (S : MS) (h_S : NC S) : Tot (fr_parseError S) (fun r => NC r.2 ∧ True) := by
  have z0 : (0 : Int32).toInt = 0 := by decide
  unfold fr_parseError
  refine tot_let (fun S_1 e_S_1 => ?_)
  have h_S_1 : NC S_1 := by rw [e_S_1]; exact nc_mi0 h_S _
  refine tot_let (fun v_2 e_v_2 => ?_)
  have q_v_2 := i_eq e_v_2
  have r_v_2 := i_any v_2
  exact tot_some ⟨h_S_1, trivial⟩
set_option maxHeartbeats 4000000 in
set_option maxRecDepth 10000 in
theorem nf_errorPosition (hP : True) (S : MS) (h_S : NC S) : Tot (fr_errorPosition S) (fun r => NC r.2 ∧ True) := by
  have z0 : (0 : Int32).toInt = 0 := by decide
  unfold fr_errorPosition
  refine tot_let (fun S_1 e_S_1 => ?_)
  have h_S_1 : NC S_1 := by rw [e_S_1]; exact nc_mi0 h_S _
  refine tot_let (fun v_2 e_v_2 => ?_)
  have q_v_2 := i_eq e_v_2
  have r_v_2 := i_any v_2
  exact tot_some ⟨h_S_1, trivial⟩
set_option maxHeartbeats 4000000 in
set_option maxRecDepth 10000 in
theorem nf_cellCount (hP : True) (S : MS) (h_S : NC S) : Tot (fr_cellCount S) (fun r => r.2 = S ∧ (0 ≤ r.1.toInt ∧ r.1.toInt ≤ 0)) := by
  unfold fr_cellCount
  refine tot_let (fun v_1 e_v_1 => ?_)
  have q_v_1 := nc_p h_S e_v_1
  refine tot_let (fun v_2 e_v_2 => ?_)
  have q_v_2 := nc_p h_S e_v_2
  refine tot_let (fun v_3 e_v_3 => ?_)
  have q_v_3 := i_mulp (a := 0) (b := 0) (c := 0) (d := 0) e_v_3 (by omega) (by omega) (by omega) (by omega) (by decide)
  exact tot_some ⟨rfl, (show (0 ≤ v_3.toInt ∧ v_3.toInt ≤ 0) from by omega)⟩
set_option maxHeartbeats 4000000 in
set_option maxRecDepth 10000 in
theorem nf_mayAsk (hP : True) (S : MS) (a0 : Int32) (h_S : NC S) (g0 : 0 ≤ a0.toInt ∧ a0.toInt ≤ 1) : Tot (fr_mayAsk S a0) (fun r => NC r.2 ∧ (0 ≤ r.1.toInt ∧ r.1.toInt ≤ 0)) := by
  have z0 : (0 : Int32).toInt = 0 := by decide
  have z1 : (1 : Int32).toInt = 1 := by decide
  have j_a0 := i_any a0
  unfold fr_mayAsk
  refine tot_let (fun v_1 e_v_1 => ?_)
  have q_v_1 := i_eq e_v_1
  have r_v_1 := nc_20 h_S
  refine tot_if (fun c_2 => ?_) (fun c_2 => ?_)
  · replace c_2 := i_eq c_2
    unfold fr_mayAsk_b21
    refine tot_let (fun S_3 e_S_3 => ?_)
    have h_S_3 : NC S_3 := by rw [e_S_3]; exact nc_mi0 h_S _
    have f_S_3_0 : (S_3.1 0).toInt = (1 : Int32).toInt := by rw [e_S_3]; rfl
    refine tot_let (fun v_4 e_v_4 => ?_)
    have q_v_4 := i_eq e_v_4
    have r_v_4 := i_any v_4
    refine tot_if (fun c_5 => ?_) (fun c_5 => ?_)
    · replace c_5 := i_eq c_5
      exfalso
      omega
    · replace c_5 := i_ne c_5
      unfold fr_mayAsk_b36
      refine tot_oif (i_b01 (by omega)) ?_
      exact tot_some ⟨h_S_3, (show (0 ≤ (0 : Int32).toInt ∧ (0 : Int32).toInt ≤ 0) from by omega)⟩
  · replace c_2 := i_ne c_2
    exfalso
    omega
set_option maxHeartbeats 4000000 in
set_option maxRecDepth 10000 in
theorem nf_told (hP : True) (S : MS) (a0 : Int32) (h_S : NC S) (g0 : 0 ≤ a0.toInt ∧ a0.toInt ≤ 0) : Tot (fr_told S a0) (fun r => NC r.2 ∧ (0 ≤ r.1.toInt ∧ r.1.toInt ≤ 0)) := by
  have z0 : (0 : Int32).toInt = 0 := by decide
  have j_a0 := i_any a0
  unfold fr_told
  refine tot_let (fun S_1 e_S_1 => ?_)
  have h_S_1 : NC S_1 := by rw [e_S_1]; exact nc_mi0 h_S _
  refine tot_let (fun v_2 e_v_2 => ?_)
  have q_v_2 := i_eq e_v_2
  have r_v_2 := nc_20 h_S_1
  refine tot_if (fun c_3 => ?_) (fun c_3 => ?_)
  · replace c_3 := i_eq c_3
    unfold fr_told_b17
    exact tot_some ⟨h_S_1, (show (0 ≤ (0 : Int32).toInt ∧ (0 : Int32).toInt ≤ 0) from by omega)⟩
  · replace c_3 := i_ne c_3
    exfalso
    omega
set_option maxHeartbeats 4000000 in
set_option maxRecDepth 10000 in
theorem nf_isMic (hP : True) (S : MS) (a0 : Int32) (h_S : NC S) : Tot (fr_isMic S a0) (fun r => r.2 = S ∧ (0 ≤ r.1.toInt ∧ r.1.toInt ≤ 1)) := by
  have z0 : (1 : Int32).toInt = 1 := by decide
  have z1 : (0 : Int32).toInt = 0 := by decide
  have j_a0 := i_any a0
  unfold fr_isMic
  refine tot_let (fun v_1 e_v_1 => ?_)
  have q_v_1 := nc_p h_S e_v_1
  refine tot_let (fun v_2 e_v_2 => ?_)
  have q_v_2 := i_sub e_v_2 (by omega) (by omega)
  refine tot_bind (nf_in hP a0 0 v_2  ) (fun r_3 d_r_3 => ?_)
  replace d_r_3 : (r_3.toInt = 0 ∧ (a0.toInt < (0 : Int32).toInt ∨ v_2.toInt < a0.toInt) ∨ r_3.toInt = 1 ∧ (0 : Int32).toInt ≤ a0.toInt ∧ a0.toInt ≤ v_2.toInt) := d_r_3
  refine tot_oif (i_b01 (by omega)) ?_
  exact tot_some ⟨rfl, (show (0 ≤ r_3.toInt ∧ r_3.toInt ≤ 1) from by omega)⟩
set_option maxHeartbeats 4000000 in
set_option maxRecDepth 10000 in
theorem nf_isCell (hP : True) (S : MS) (a0 : Int32) (h_S : NC S) : Tot (fr_isCell S a0) (fun r => r.2 = S ∧ (0 ≤ r.1.toInt ∧ r.1.toInt ≤ 1)) := by
  have z0 : (1 : Int32).toInt = 1 := by decide
  have z1 : (0 : Int32).toInt = 0 := by decide
  have j_a0 := i_any a0
  unfold fr_isCell
  refine tot_bindp (R := fun r_1 : Int32 => (0 ≤ r_1.toInt ∧ r_1.toInt ≤ 0)) (nf_cellCount hP S h_S ) (fun r_1 d_r_1 => ?_)
  replace d_r_1 : (0 ≤ r_1.toInt ∧ r_1.toInt ≤ 0) := d_r_1
  refine tot_let (fun v_3 e_v_3 => ?_)
  have q_v_3 := i_sub e_v_3 (by omega) (by omega)
  refine tot_bind (nf_in hP a0 0 v_3  ) (fun r_4 d_r_4 => ?_)
  replace d_r_4 : (r_4.toInt = 0 ∧ (a0.toInt < (0 : Int32).toInt ∨ v_3.toInt < a0.toInt) ∨ r_4.toInt = 1 ∧ (0 : Int32).toInt ≤ a0.toInt ∧ a0.toInt ≤ v_3.toInt) := d_r_4
  refine tot_oif (i_b01 (by omega)) ?_
  exact tot_some ⟨rfl, (show (0 ≤ r_4.toInt ∧ r_4.toInt ≤ 1) from by omega)⟩
set_option maxHeartbeats 4000000 in
set_option maxRecDepth 10000 in
theorem nf_isSource (hP : True) (S : MS) (a0 : Int32) (h_S : NC S) : Tot (fr_isSource S a0) (fun r => r.2 = S ∧ (0 ≤ r.1.toInt ∧ r.1.toInt ≤ 1)) := by
  have z0 : (1 : Int32).toInt = 1 := by decide
  have z1 : (0 : Int32).toInt = 0 := by decide
  have j_a0 := i_any a0
  unfold fr_isSource
  refine tot_let (fun v_1 e_v_1 => ?_)
  have q_v_1 := nc_p h_S e_v_1
  refine tot_let (fun v_2 e_v_2 => ?_)
  have q_v_2 := i_sub e_v_2 (by omega) (by omega)
  refine tot_bind (nf_in hP a0 0 v_2  ) (fun r_3 d_r_3 => ?_)
  replace d_r_3 : (r_3.toInt = 0 ∧ (a0.toInt < (0 : Int32).toInt ∨ v_2.toInt < a0.toInt) ∨ r_3.toInt = 1 ∧ (0 : Int32).toInt ≤ a0.toInt ∧ a0.toInt ≤ v_2.toInt) := d_r_3
  refine tot_oif (i_b01 (by omega)) ?_
  exact tot_some ⟨rfl, (show (0 ≤ r_3.toInt ∧ r_3.toInt ≤ 1) from by omega)⟩
set_option maxHeartbeats 4000000 in
set_option maxRecDepth 10000 in
theorem nf_isTime (hP : True) (S : MS) (a0 : Int32) (h_S : NC S) : Tot (fr_isTime S a0) (fun r => r.2 = S ∧ (0 ≤ r.1.toInt ∧ r.1.toInt ≤ 1)) := by
  have z0 : (1 : Int32).toInt = 1 := by decide
  have z1 : (0 : Int32).toInt = 0 := by decide
  have j_a0 := i_any a0
  unfold fr_isTime
  refine tot_let (fun v_1 e_v_1 => ?_)
  have q_v_1 := nc_p h_S e_v_1
  refine tot_let (fun v_2 e_v_2 => ?_)
  have q_v_2 := i_sub e_v_2 (by omega) (by omega)
  refine tot_bind (nf_in hP a0 0 v_2  ) (fun r_3 d_r_3 => ?_)
  replace d_r_3 : (r_3.toInt = 0 ∧ (a0.toInt < (0 : Int32).toInt ∨ v_2.toInt < a0.toInt) ∨ r_3.toInt = 1 ∧ (0 : Int32).toInt ≤ a0.toInt ∧ a0.toInt ≤ v_2.toInt) := d_r_3
  refine tot_oif (i_b01 (by omega)) ?_
  exact tot_some ⟨rfl, (show (0 ≤ r_3.toInt ∧ r_3.toInt ≤ 1) from by omega)⟩
set_option maxHeartbeats 4000000 in
set_option maxRecDepth 10000 in
theorem nf_isPeriod (hP : True) (a0 : Int32) : Tot (fr_isPeriod a0) (fun r => (0 ≤ r.toInt ∧ r.toInt ≤ 1)) := by
  have z0 : (2 : Int32).toInt = 2 := by decide
  have z1 : (99 : Int32).toInt = 99 := by decide
  have j_a0 := i_any a0
  unfold fr_isPeriod
  refine tot_bind (nf_in hP a0 2 99  ) (fun r_1 d_r_1 => ?_)
  replace d_r_1 : (r_1.toInt = 0 ∧ (a0.toInt < (2 : Int32).toInt ∨ (99 : Int32).toInt < a0.toInt) ∨ r_1.toInt = 1 ∧ (2 : Int32).toInt ≤ a0.toInt ∧ a0.toInt ≤ (99 : Int32).toInt) := d_r_1
  refine tot_oif (i_b01 (by omega)) ?_
  exact tot_some (show (0 ≤ r_1.toInt ∧ r_1.toInt ≤ 1) from by omega)
set_option maxHeartbeats 4000000 in
set_option maxRecDepth 10000 in
theorem nf_mics (hP : True) (S : MS) (h_S : NC S) : Tot (fr_mics S) (fun r => NC r.2 ∧ (0 ≤ r.1.toInt ∧ r.1.toInt ≤ 0)) := by
  unfold fr_mics
  refine tot_let (fun v_1 e_v_1 => ?_)
  have q_v_1 := nc_p h_S e_v_1
  refine tot_bind2 (nf_told hP S v_1 h_S (by omega)) (fun r_2 S_3 d_r_2 => ?_)
  have h_S_3 : NC S_3 := d_r_2.1
  replace d_r_2 : (0 ≤ r_2.toInt ∧ r_2.toInt ≤ 0) := d_r_2.2
  exact tot_some ⟨h_S_3, (show (0 ≤ r_2.toInt ∧ r_2.toInt ≤ 0) from by omega)⟩
set_option maxHeartbeats 4000000 in
set_option maxRecDepth 10000 in
theorem nf_micAt (hP : True) (S : MS) (a0 : Int32) (a1 : Int32) (h_S : NC S) : Tot (fr_micAt S a0 a1) (fun r => NC r.2 ∧ (0 ≤ r.1.toInt ∧ r.1.toInt ≤ 0)) := by
  have z0 : (0 : Int32).toInt = 0 := by decide
  have j_a0 := i_any a0
  have j_a1 := i_any a1
  unfold fr_micAt
  refine tot_bindp (R := fun r_1 : Int32 => (0 ≤ r_1.toInt ∧ r_1.toInt ≤ 1)) (nf_isMic hP S a0 h_S ) (fun r_1 d_r_1 => ?_)
  replace d_r_1 : (0 ≤ r_1.toInt ∧ r_1.toInt ≤ 1) := d_r_1
  refine tot_bind2 (nf_mayAsk hP S r_1 h_S (by omega)) (fun r_3 S_4 d_r_3 => ?_)
  have h_S_4 : NC S_4 := d_r_3.1
  replace d_r_3 : (0 ≤ r_3.toInt ∧ r_3.toInt ≤ 0) := d_r_3.2
  refine tot_if (fun c_15 => ?_) (fun c_15 => ?_)
  · replace c_15 := i_eq c_15
    exact tot_some ⟨h_S_4, (show (0 ≤ (0 : Int32).toInt ∧ (0 : Int32).toInt ≤ 0) from by omega)⟩
  · replace c_15 := i_ne c_15
    exfalso
    omega
set_option maxHeartbeats 4000000 in
set_option maxRecDepth 10000 in
theorem nf_isMuted (hP : True) (S : MS) (a0 : Int32) (h_S : NC S) : Tot (fr_isMuted S a0) (fun r => NC r.2 ∧ (0 ≤ r.1.toInt ∧ r.1.toInt ≤ 0)) := by
  have z0 : (0 : Int32).toInt = 0 := by decide
  have j_a0 := i_any a0
  unfold fr_isMuted
  refine tot_bindp (R := fun r_1 : Int32 => (0 ≤ r_1.toInt ∧ r_1.toInt ≤ 1)) (nf_isMic hP S a0 h_S ) (fun r_1 d_r_1 => ?_)
  replace d_r_1 : (0 ≤ r_1.toInt ∧ r_1.toInt ≤ 1) := d_r_1
  refine tot_bind2 (nf_mayAsk hP S r_1 h_S (by omega)) (fun r_3 S_4 d_r_3 => ?_)
  have h_S_4 : NC S_4 := d_r_3.1
  replace d_r_3 : (0 ≤ r_3.toInt ∧ r_3.toInt ≤ 0) := d_r_3.2
  refine tot_if (fun c_7 => ?_) (fun c_7 => ?_)
  · replace c_7 := i_eq c_7
    unfold fr_isMuted_b28
    unfold fr_isMuted_b29
    refine tot_oif (i_b01 (by omega)) ?_
    exact tot_some ⟨h_S_4, (show (0 ≤ (0 : Int32).toInt ∧ (0 : Int32).toInt ≤ 0) from by omega)⟩
  · replace c_7 := i_ne c_7
    exfalso
    omega
set_option maxHeartbeats 4000000 in
set_option maxRecDepth 10000 in
theorem nf_columns (hP : True) (S : MS) (h_S : NC S) : Tot (fr_columns S) (fun r => NC r.2 ∧ (0 ≤ r.1.toInt ∧ r.1.toInt ≤ 0)) := by
  unfold fr_columns
  refine tot_let (fun v_1 e_v_1 => ?_)
  have q_v_1 := nc_p h_S e_v_1
  refine tot_bind2 (nf_told hP S v_1 h_S (by omega)) (fun r_2 S_3 d_r_2 => ?_)
  have h_S_3 : NC S_3 := d_r_2.1
  replace d_r_2 : (0 ≤ r_2.toInt ∧ r_2.toInt ≤ 0) := d_r_2.2
  exact tot_some ⟨h_S_3, (show (0 ≤ r_2.toInt ∧ r_2.toInt ≤ 0) from by omega)⟩
set_option maxHeartbeats 4000000 in
set_option maxRecDepth 10000 in
theorem nf_rows (hP : True) (S : MS) (h_S : NC S) : Tot (fr_rows S) (fun r => NC r.2 ∧ (0 ≤ r.1.toInt ∧ r.1.toInt ≤ 0)) := by
  unfold fr_rows
  refine tot_let (fun v_1 e_v_1 => ?_)
  have q_v_1 := nc_p h_S e_v_1
  refine tot_bind2 (nf_told hP S v_1 h_S (by omega)) (fun r_2 S_3 d_r_2 => ?_)
  have h_S_3 : NC S_3 := d_r_2.1
  replace d_r_2 : (0 ≤ r_2.toInt ∧ r_2.toInt ≤ 0) := d_r_2.2
  exact tot_some ⟨h_S_3, (show (0 ≤ r_2.toInt ∧ r_2.toInt ≤ 0) from by omega)⟩
set_option maxHeartbeats 4000000 in
set_option maxRecDepth 10000 in
theorem nf_cellAt (hP : True) (S : MS) (a0 : Int32) (a1 : Int32) (h_S : NC S) : Tot (fr_cellAt S a0 a1) (fun r => NC r.2 ∧ (0 ≤ r.1.toInt ∧ r.1.toInt ≤ 0)) := by
  have z0 : (0 : Int32).toInt = 0 := by decide
  have j_a0 := i_any a0
  have j_a1 := i_any a1
  unfold fr_cellAt
  refine tot_bindp (R := fun r_1 : Int32 => (0 ≤ r_1.toInt ∧ r_1.toInt ≤ 1)) (nf_isCell hP S a0 h_S ) (fun r_1 d_r_1 => ?_)
  replace d_r_1 : (0 ≤ r_1.toInt ∧ r_1.toInt ≤ 1) := d_r_1
  refine tot_bind2 (nf_mayAsk hP S r_1 h_S (by omega)) (fun r_3 S_4 d_r_3 => ?_)
  have h_S_4 : NC S_4 := d_r_3.1
  replace d_r_3 : (0 ≤ r_3.toInt ∧ r_3.toInt ≤ 0) := d_r_3.2
  refine tot_if (fun c_10 => ?_) (fun c_10 => ?_)
  · replace c_10 := i_eq c_10
    exact tot_some ⟨h_S_4, (show (0 ≤ (0 : Int32).toInt ∧ (0 : Int32).toInt ≤ 0) from by omega)⟩
  · replace c_10 := i_ne c_10
    exfalso
    omega
set_option maxHeartbeats 4000000 in
set_option maxRecDepth 10000 in
theorem nf_sources (hP : True) (S : MS) (h_S : NC S) : Tot (fr_sources S) (fun r => NC r.2 ∧ (0 ≤ r.1.toInt ∧ r.1.toInt ≤ 0)) := by
  unfold fr_sources
  refine tot_let (fun v_1 e_v_1 => ?_)
  have q_v_1 := nc_p h_S e_v_1
  refine tot_bind2 (nf_told hP S v_1 h_S (by omega)) (fun r_2 S_3 d_r_2 => ?_)
  have h_S_3 : NC S_3 := d_r_2.1
  replace d_r_2 : (0 ≤ r_2.toInt ∧ r_2.toInt ≤ 0) := d_r_2.2
  exact tot_some ⟨h_S_3, (show (0 ≤ r_2.toInt ∧ r_2.toInt ≤ 0) from by omega)⟩
set_option maxHeartbeats 4000000 in
set_option maxRecDepth 10000 in
theorem nf_sourceAt (hP : True) (S : MS) (a0 : Int32) (a1 : Int32) (a2 : Int32) (h_S : NC S) : Tot (fr_sourceAt S a0 a1 a2) (fun r => NC r.2 ∧ (0 ≤ r.1.toInt ∧ r.1.toInt ≤ 0)) := by
  have z0 : (0 : Int32).toInt = 0 := by decide
  have j_a0 := i_any a0
  have j_a1 := i_any a1
  have j_a2 := i_any a2
  unfold fr_sourceAt
  refine tot_bindp (R := fun r_1 : Int32 => (0 ≤ r_1.toInt ∧ r_1.toInt ≤ 1)) (nf_isSource hP S a0 h_S ) (fun r_1 d_r_1 => ?_)
  replace d_r_1 : (0 ≤ r_1.toInt ∧ r_1.toInt ≤ 1) := d_r_1
  refine tot_bind2 (nf_mayAsk hP S r_1 h_S (by omega)) (fun r_3 S_4 d_r_3 => ?_)
  have h_S_4 : NC S_4 := d_r_3.1
  replace d_r_3 : (0 ≤ r_3.toInt ∧ r_3.toInt ≤ 0) := d_r_3.2
  refine tot_if (fun c_10 => ?_) (fun c_10 => ?_)
  · replace c_10 := i_eq c_10
    exact tot_some ⟨h_S_4, (show (0 ≤ (0 : Int32).toInt ∧ (0 : Int32).toInt ≤ 0) from by omega)⟩
  · replace c_10 := i_ne c_10
    exfalso
    omega
set_option maxHeartbeats 4000000 in
set_option maxRecDepth 10000 in
theorem nf_isOn (hP : True) (S : MS) (a0 : Int32) (h_S : NC S) : Tot (fr_isOn S a0) (fun r => NC r.2 ∧ (0 ≤ r.1.toInt ∧ r.1.toInt ≤ 0)) := by
  have z0 : (0 : Int32).toInt = 0 := by decide
  have j_a0 := i_any a0
  unfold fr_isOn
  refine tot_bindp (R := fun r_1 : Int32 => (0 ≤ r_1.toInt ∧ r_1.toInt ≤ 1)) (nf_isSource hP S a0 h_S ) (fun r_1 d_r_1 => ?_)
  replace d_r_1 : (0 ≤ r_1.toInt ∧ r_1.toInt ≤ 1) := d_r_1
  refine tot_bind2 (nf_mayAsk hP S r_1 h_S (by omega)) (fun r_3 S_4 d_r_3 => ?_)
  have h_S_4 : NC S_4 := d_r_3.1
  replace d_r_3 : (0 ≤ r_3.toInt ∧ r_3.toInt ≤ 0) := d_r_3.2
  refine tot_if (fun c_7 => ?_) (fun c_7 => ?_)
  · replace c_7 := i_eq c_7
    unfold fr_isOn_b29
    unfold fr_isOn_b30
    refine tot_oif (i_b01 (by omega)) ?_
    exact tot_some ⟨h_S_4, (show (0 ≤ (0 : Int32).toInt ∧ (0 : Int32).toInt ≤ 0) from by omega)⟩
  · replace c_7 := i_ne c_7
    exfalso
    omega
set_option maxHeartbeats 4000000 in
set_option maxRecDepth 10000 in
theorem nf_waveAt (hP : True) (S : MS) (a0 : Int32) (a1 : Int32) (h_S : NC S) : Tot (fr_waveAt S a0 a1) (fun r => NC r.2 ∧ (0 ≤ r.1.toInt ∧ r.1.toInt ≤ 0)) := by
  have z0 : (0 : Int32).toInt = 0 := by decide
  have j_a0 := i_any a0
  have j_a1 := i_any a1
  unfold fr_waveAt
  refine tot_bindp (R := fun r_1 : Int32 => (0 ≤ r_1.toInt ∧ r_1.toInt ≤ 1)) (nf_isSource hP S a0 h_S ) (fun r_1 d_r_1 => ?_)
  replace d_r_1 : (0 ≤ r_1.toInt ∧ r_1.toInt ≤ 1) := d_r_1
  refine tot_bind2 (nf_mayAsk hP S r_1 h_S (by omega)) (fun r_3 S_4 d_r_3 => ?_)
  have h_S_4 : NC S_4 := d_r_3.1
  replace d_r_3 : (0 ≤ r_3.toInt ∧ r_3.toInt ≤ 0) := d_r_3.2
  refine tot_if (fun c_11 => ?_) (fun c_11 => ?_)
  · replace c_11 := i_eq c_11
    exact tot_some ⟨h_S_4, (show (0 ≤ (0 : Int32).toInt ∧ (0 : Int32).toInt ≤ 0) from by omega)⟩
  · replace c_11 := i_ne c_11
    exfalso
    omega
set_option maxHeartbeats 4000000 in
set_option maxRecDepth 10000 in
theorem nf_samples (hP : True) (S : MS) (h_S : NC S) : Tot (fr_samples S) (fun r => NC r.2 ∧ (0 ≤ r.1.toInt ∧ r.1.toInt ≤ 0)) := by
  unfold fr_samples
  refine tot_let (fun v_1 e_v_1 => ?_)
  have q_v_1 := nc_p h_S e_v_1
  refine tot_bind2 (nf_told hP S v_1 h_S (by omega)) (fun r_2 S_3 d_r_2 => ?_)
  have h_S_3 : NC S_3 := d_r_2.1
  replace d_r_2 : (0 ≤ r_2.toInt ∧ r_2.toInt ≤ 0) := d_r_2.2
  exact tot_some ⟨h_S_3, (show (0 ≤ r_2.toInt ∧ r_2.toInt ≤ 0) from by omega)⟩
set_option maxHeartbeats 4000000 in
set_option maxRecDepth 10000 in
theorem nf_delay (hP : True) (S : MS) (a0 : Int32) (a1 : Int32) (h_S : NC S) : Tot (fr_delay S a0 a1) (fun r => NC r.2 ∧ (0 ≤ r.1.toInt ∧ r.1.toInt ≤ 0)) := by
  have z0 : (0 : Int32).toInt = 0 := by decide
  have z1 : (1 : Int32).toInt = 1 := by decide
  have j_a0 := i_any a0
  have j_a1 := i_any a1
  unfold fr_delay
  refine tot_bindp (R := fun r_1 : Int32 => (0 ≤ r_1.toInt ∧ r_1.toInt ≤ 1)) (nf_isMic hP S a0 h_S ) (fun r_1 d_r_1 => ?_)
  replace d_r_1 : (0 ≤ r_1.toInt ∧ r_1.toInt ≤ 1) := d_r_1
  refine tot_if (fun c_5 => ?_) (fun c_5 => ?_)
  · replace c_5 := i_eq c_5
    unfold fr_delay_b21
    unfold fr_delay_b22
    refine tot_bind2 (nf_mayAsk hP S 0 h_S (by omega)) (fun r_6 S_7 d_r_6 => ?_)
    have h_S_7 : NC S_7 := d_r_6.1
    replace d_r_6 : (0 ≤ r_6.toInt ∧ r_6.toInt ≤ 0) := d_r_6.2
    refine tot_if (fun c_11 => ?_) (fun c_11 => ?_)
    · replace c_11 := i_eq c_11
      unfold fr_delay_b43
      exact tot_some ⟨h_S_7, (show (0 ≤ (0 : Int32).toInt ∧ (0 : Int32).toInt ≤ 0) from by omega)⟩
    · replace c_11 := i_ne c_11
      exfalso
      omega
  · replace c_5 := i_ne c_5
    refine tot_bindp (R := fun r_3 : Int32 => (0 ≤ r_3.toInt ∧ r_3.toInt ≤ 1)) (nf_isCell hP S a1 h_S ) (fun r_3 d_r_3 => ?_)
    replace d_r_3 : (0 ≤ r_3.toInt ∧ r_3.toInt ≤ 1) := d_r_3
    refine tot_if (fun c_12 => ?_) (fun c_12 => ?_)
    · replace c_12 := i_eq c_12
      unfold fr_delay_b21
      unfold fr_delay_b22
      refine tot_bind2 (nf_mayAsk hP S 0 h_S (by omega)) (fun r_13 S_14 d_r_13 => ?_)
      have h_S_14 : NC S_14 := d_r_13.1
      replace d_r_13 : (0 ≤ r_13.toInt ∧ r_13.toInt ≤ 0) := d_r_13.2
      refine tot_if (fun c_18 => ?_) (fun c_18 => ?_)
      · replace c_18 := i_eq c_18
        unfold fr_delay_b43
        exact tot_some ⟨h_S_14, (show (0 ≤ (0 : Int32).toInt ∧ (0 : Int32).toInt ≤ 0) from by omega)⟩
      · replace c_18 := i_ne c_18
        exfalso
        omega
    · replace c_12 := i_ne c_12
      unfold fr_delay_b22
      refine tot_bind2 (nf_mayAsk hP S 1 h_S (by omega)) (fun r_19 S_20 d_r_19 => ?_)
      have h_S_20 : NC S_20 := d_r_19.1
      replace d_r_19 : (0 ≤ r_19.toInt ∧ r_19.toInt ≤ 0) := d_r_19.2
      refine tot_if (fun c_24 => ?_) (fun c_24 => ?_)
      · replace c_24 := i_eq c_24
        unfold fr_delay_b43
        exact tot_some ⟨h_S_20, (show (0 ≤ (0 : Int32).toInt ∧ (0 : Int32).toInt ≤ 0) from by omega)⟩
      · replace c_24 := i_ne c_24
        exfalso
        omega
set_option maxHeartbeats 4000000 in
set_option maxRecDepth 10000 in
theorem nf_isPoint (hP : True) (a0 : Int32) (a1 : Int32) : Tot (fr_isPoint a0 a1) (fun r => (0 ≤ r.toInt ∧ r.toInt ≤ 1)) := by
  have z0 : ((-9999) : Int32).toInt = -9999 := by decide
  have z1 : (9999 : Int32).toInt = 9999 := by decide
  have z2 : (0 : Int32).toInt = 0 := by decide
  have z3 : (1 : Int32).toInt = 1 := by decide
  have j_a0 := i_any a0
  have j_a1 := i_any a1
  unfold fr_isPoint
  refine tot_bind (nf_in hP a0 (-9999) 9999  ) (fun r_1 d_r_1 => ?_)
  replace d_r_1 : (r_1.toInt = 0 ∧ (a0.toInt < ((-9999) : Int32).toInt ∨ (9999 : Int32).toInt < a0.toInt) ∨ r_1.toInt = 1 ∧ ((-9999) : Int32).toInt ≤ a0.toInt ∧ a0.toInt ≤ (9999 : Int32).toInt) := d_r_1
  refine tot_if (fun c_3 => ?_) (fun c_3 => ?_)
  · replace c_3 := i_eq c_3
    unfold fr_isPoint_b30
    unfold fr_isPoint_b31
    refine tot_oif (i_b01 (by omega)) ?_
    exact tot_some (show (0 ≤ (0 : Int32).toInt ∧ (0 : Int32).toInt ≤ 1) from by omega)
  · replace c_3 := i_ne c_3
    refine tot_bind (nf_in hP a1 (-9999) 9999  ) (fun r_2 d_r_2 => ?_)
    replace d_r_2 : (r_2.toInt = 0 ∧ (a1.toInt < ((-9999) : Int32).toInt ∨ (9999 : Int32).toInt < a1.toInt) ∨ r_2.toInt = 1 ∧ ((-9999) : Int32).toInt ≤ a1.toInt ∧ a1.toInt ≤ (9999 : Int32).toInt) := d_r_2
    refine tot_if (fun c_4 => ?_) (fun c_4 => ?_)
    · replace c_4 := i_eq c_4
      unfold fr_isPoint_b30
      unfold fr_isPoint_b31
      refine tot_oif (i_b01 (by omega)) ?_
      exact tot_some (show (0 ≤ (0 : Int32).toInt ∧ (0 : Int32).toInt ≤ 1) from by omega)
    · replace c_4 := i_ne c_4
      unfold fr_isPoint_b31
      refine tot_oif (i_b01 (by omega)) ?_
      exact tot_some (show (0 ≤ (1 : Int32).toInt ∧ (1 : Int32).toInt ≤ 1) from by omega)
set_option maxHeartbeats 4000000 in
set_option maxRecDepth 10000 in
theorem nf_delayTo (hP : True) (S : MS) (a0 : Int32) (a1 : Int32) (a2 : Int32) (h_S : NC S) : Tot (fr_delayTo S a0 a1 a2) (fun r => NC r.2 ∧ (0 ≤ r.1.toInt ∧ r.1.toInt ≤ 0)) := by
  have z0 : (0 : Int32).toInt = 0 := by decide
  have j_a0 := i_any a0
  have j_a1 := i_any a1
  have j_a2 := i_any a2
  unfold fr_delayTo
  refine tot_bindp (R := fun r_1 : Int32 => (0 ≤ r_1.toInt ∧ r_1.toInt ≤ 1)) (nf_isMic hP S a0 h_S ) (fun r_1 d_r_1 => ?_)
  replace d_r_1 : (0 ≤ r_1.toInt ∧ r_1.toInt ≤ 1) := d_r_1
  refine tot_bind2 (nf_mayAsk hP S r_1 h_S (by omega)) (fun r_3 S_4 d_r_3 => ?_)
  have h_S_4 : NC S_4 := d_r_3.1
  replace d_r_3 : (0 ≤ r_3.toInt ∧ r_3.toInt ≤ 0) := d_r_3.2
  refine tot_if (fun c_10 => ?_) (fun c_10 => ?_)
  · replace c_10 := i_eq c_10
    exact tot_some ⟨h_S_4, (show (0 ≤ (0 : Int32).toInt ∧ (0 : Int32).toInt ≤ 0) from by omega)⟩
  · replace c_10 := i_ne c_10
    exfalso
    omega
set_option maxHeartbeats 4000000 in
set_option maxRecDepth 10000 in
theorem nf_spread (hP : True) (S : MS) (a0 : Int32) (h_S : NC S) : Tot (fr_spread S a0) (fun r => NC r.2 ∧ (0 ≤ r.1.toInt ∧ r.1.toInt ≤ 0)) := by
  have z0 : (0 : Int32).toInt = 0 := by decide
  have j_a0 := i_any a0
  unfold fr_spread
  refine tot_bindp (R := fun r_1 : Int32 => (0 ≤ r_1.toInt ∧ r_1.toInt ≤ 1)) (nf_isCell hP S a0 h_S ) (fun r_1 d_r_1 => ?_)
  replace d_r_1 : (0 ≤ r_1.toInt ∧ r_1.toInt ≤ 1) := d_r_1
  refine tot_bind2 (nf_mayAsk hP S r_1 h_S (by omega)) (fun r_3 S_4 d_r_3 => ?_)
  have h_S_4 : NC S_4 := d_r_3.1
  replace d_r_3 : (0 ≤ r_3.toInt ∧ r_3.toInt ≤ 0) := d_r_3.2
  refine tot_if (fun c_7 => ?_) (fun c_7 => ?_)
  · replace c_7 := i_eq c_7
    unfold fr_spread_b19
    exact tot_some ⟨h_S_4, (show (0 ≤ (0 : Int32).toInt ∧ (0 : Int32).toInt ≤ 0) from by omega)⟩
  · replace c_7 := i_ne c_7
    exfalso
    omega
set_option maxHeartbeats 4000000 in
set_option maxRecDepth 10000 in
theorem nf_window (hP : True) (S : MS) (a0 : Int32) (h_S : NC S) : Tot (fr_window S a0) (fun r => NC r.2 ∧ (0 ≤ r.1.toInt ∧ r.1.toInt ≤ 0)) := by
  have z0 : (0 : Int32).toInt = 0 := by decide
  have j_a0 := i_any a0
  unfold fr_window
  refine tot_bindp (R := fun r_1 : Int32 => (0 ≤ r_1.toInt ∧ r_1.toInt ≤ 1)) (nf_isCell hP S a0 h_S ) (fun r_1 d_r_1 => ?_)
  replace d_r_1 : (0 ≤ r_1.toInt ∧ r_1.toInt ≤ 1) := d_r_1
  refine tot_bind2 (nf_mayAsk hP S r_1 h_S (by omega)) (fun r_3 S_4 d_r_3 => ?_)
  have h_S_4 : NC S_4 := d_r_3.1
  replace d_r_3 : (0 ≤ r_3.toInt ∧ r_3.toInt ≤ 0) := d_r_3.2
  refine tot_if (fun c_8 => ?_) (fun c_8 => ?_)
  · replace c_8 := i_eq c_8
    exact tot_some ⟨h_S_4, (show (0 ≤ (0 : Int32).toInt ∧ (0 : Int32).toInt ≤ 0) from by omega)⟩
  · replace c_8 := i_ne c_8
    exfalso
    omega
set_option maxHeartbeats 4000000 in
set_option maxRecDepth 10000 in
theorem nf_sample (hP : True) (S : MS) (a0 : Int32) (a1 : Int32) (h_S : NC S) : Tot (fr_sample S a0 a1) (fun r => NC r.2 ∧ (0 ≤ r.1.toInt ∧ r.1.toInt ≤ 0)) := by
  have z0 : (0 : Int32).toInt = 0 := by decide
  have j_a0 := i_any a0
  have j_a1 := i_any a1
  unfold fr_sample
  refine tot_bindp (R := fun r_1 : Int32 => (0 ≤ r_1.toInt ∧ r_1.toInt ≤ 1)) (nf_isMic hP S a0 h_S ) (fun r_1 d_r_1 => ?_)
  replace d_r_1 : (0 ≤ r_1.toInt ∧ r_1.toInt ≤ 1) := d_r_1
  refine tot_bind2 (nf_mayAsk hP S r_1 h_S (by omega)) (fun r_3 S_4 d_r_3 => ?_)
  have h_S_4 : NC S_4 := d_r_3.1
  replace d_r_3 : (0 ≤ r_3.toInt ∧ r_3.toInt ≤ 0) := d_r_3.2
  refine tot_if (fun c_13 => ?_) (fun c_13 => ?_)
  · replace c_13 := i_eq c_13
    exact tot_some ⟨h_S_4, (show (0 ≤ (0 : Int32).toInt ∧ (0 : Int32).toInt ≤ 0) from by omega)⟩
  · replace c_13 := i_ne c_13
    exfalso
    omega
set_option maxHeartbeats 4000000 in
set_option maxRecDepth 10000 in
theorem nf_beam (hP : True) (S : MS) (a0 : Int32) (a1 : Int32) (h_S : NC S) : Tot (fr_beam S a0 a1) (fun r => NC r.2 ∧ (0 ≤ r.1.toInt ∧ r.1.toInt ≤ 0)) := by
  have z0 : (0 : Int32).toInt = 0 := by decide
  have j_a0 := i_any a0
  have j_a1 := i_any a1
  unfold fr_beam
  refine tot_bindp (R := fun r_1 : Int32 => (0 ≤ r_1.toInt ∧ r_1.toInt ≤ 1)) (nf_isCell hP S a0 h_S ) (fun r_1 d_r_1 => ?_)
  replace d_r_1 : (0 ≤ r_1.toInt ∧ r_1.toInt ≤ 1) := d_r_1
  refine tot_bind2 (nf_mayAsk hP S r_1 h_S (by omega)) (fun r_3 S_4 d_r_3 => ?_)
  have h_S_4 : NC S_4 := d_r_3.1
  replace d_r_3 : (0 ≤ r_3.toInt ∧ r_3.toInt ≤ 0) := d_r_3.2
  refine tot_if (fun c_14 => ?_) (fun c_14 => ?_)
  · replace c_14 := i_eq c_14
    exact tot_some ⟨h_S_4, (show (0 ≤ (0 : Int32).toInt ∧ (0 : Int32).toInt ≤ 0) from by omega)⟩
  · replace c_14 := i_ne c_14
    exfalso
    omega
set_option maxHeartbeats 4000000 in
set_option maxRecDepth 10000 in
theorem nf_power (hP : True) (S : MS) (a0 : Int32) (h_S : NC S) : Tot (fr_power S a0) (fun r => NC r.2 ∧ True) := by
  have z0 : (0 : Int32).toInt = 0 := by decide
  have j_a0 := i_any a0
  unfold fr_power
  refine tot_bindp (R := fun r_1 : Int32 => (0 ≤ r_1.toInt ∧ r_1.toInt ≤ 1)) (nf_isCell hP S a0 h_S ) (fun r_1 d_r_1 => ?_)
  replace d_r_1 : (0 ≤ r_1.toInt ∧ r_1.toInt ≤ 1) := d_r_1
  refine tot_bind2 (nf_mayAsk hP S r_1 h_S (by omega)) (fun r_3 S_4 d_r_3 => ?_)
  have h_S_4 : NC S_4 := d_r_3.1
  replace d_r_3 : (0 ≤ r_3.toInt ∧ r_3.toInt ≤ 0) := d_r_3.2
  refine tot_if (fun c_7 => ?_) (fun c_7 => ?_)
  · replace c_7 := i_eq c_7
    unfold fr_power_b25
    exact tot_some ⟨h_S_4, trivial⟩
  · replace c_7 := i_ne c_7
    exfalso
    omega
set_option maxHeartbeats 4000000 in
set_option maxRecDepth 10000 in
theorem nf_powerAt (hP : True) (S : MS) (a0 : Int32) (a1 : Int32) (h_S : NC S) : Tot (fr_powerAt S a0 a1) (fun r => NC r.2 ∧ True) := by
  have z0 : (0 : Int32).toInt = 0 := by decide
  have j_a0 := i_any a0
  have j_a1 := i_any a1
  unfold fr_powerAt
  refine tot_bind (nf_isPoint hP a0 a1  ) (fun r_1 d_r_1 => ?_)
  replace d_r_1 : (0 ≤ r_1.toInt ∧ r_1.toInt ≤ 1) := d_r_1
  refine tot_bind2 (nf_mayAsk hP S r_1 h_S (by omega)) (fun r_2 S_3 d_r_2 => ?_)
  have h_S_3 : NC S_3 := d_r_2.1
  replace d_r_2 : (0 ≤ r_2.toInt ∧ r_2.toInt ≤ 0) := d_r_2.2
  refine tot_if (fun c_7 => ?_) (fun c_7 => ?_)
  · replace c_7 := i_eq c_7
    exact tot_some ⟨h_S_3, trivial⟩
  · replace c_7 := i_ne c_7
    exfalso
    omega
set_option maxHeartbeats 4000000 in
set_option maxRecDepth 10000 in
theorem nf_best (hP : True) (S : MS) (h_S : NC S) : Tot (fr_best S) (fun r => NC r.2 ∧ (0 ≤ r.1.toInt ∧ r.1.toInt ≤ 0)) := by
  have z0 : (1 : Int32).toInt = 1 := by decide
  have z1 : (0 : Int32).toInt = 0 := by decide
  unfold fr_best
  refine tot_bind2 (nf_mayAsk hP S 1 h_S (by omega)) (fun r_1 S_2 d_r_1 => ?_)
  have h_S_2 : NC S_2 := d_r_1.1
  replace d_r_1 : (0 ≤ r_1.toInt ∧ r_1.toInt ≤ 0) := d_r_1.2
  refine tot_if (fun c_5 => ?_) (fun c_5 => ?_)
  · replace c_5 := i_eq c_5
    unfold fr_best_b20
    exact tot_some ⟨h_S_2, (show (0 ≤ (0 : Int32).toInt ∧ (0 : Int32).toInt ≤ 0) from by omega)⟩
  · replace c_5 := i_ne c_5
    exfalso
    omega
set_option maxHeartbeats 4000000 in
set_option maxRecDepth 10000 in
theorem nf_bestPower (hP : True) (S : MS) (h_S : NC S) : Tot (fr_bestPower S) (fun r => NC r.2 ∧ True) := by
  have z0 : (1 : Int32).toInt = 1 := by decide
  have z1 : (0 : Int32).toInt = 0 := by decide
  unfold fr_bestPower
  refine tot_bind2 (nf_mayAsk hP S 1 h_S (by omega)) (fun r_1 S_2 d_r_1 => ?_)
  have h_S_2 : NC S_2 := d_r_1.1
  replace d_r_1 : (0 ≤ r_1.toInt ∧ r_1.toInt ≤ 0) := d_r_1.2
  refine tot_if (fun c_6 => ?_) (fun c_6 => ?_)
  · replace c_6 := i_eq c_6
    unfold fr_bestPower_b25
    exact tot_some ⟨h_S_2, trivial⟩
  · replace c_6 := i_ne c_6
    exfalso
    omega
set_option maxHeartbeats 4000000 in
set_option maxRecDepth 10000 in
theorem nf_meanPower (hP : True) (S : MS) (h_S : NC S) : Tot (fr_meanPower S) (fun r => NC r.2 ∧ True) := by
  have z0 : (1 : Int32).toInt = 1 := by decide
  have z1 : (0 : Int32).toInt = 0 := by decide
  unfold fr_meanPower
  refine tot_bind2 (nf_mayAsk hP S 1 h_S (by omega)) (fun r_1 S_2 d_r_1 => ?_)
  have h_S_2 : NC S_2 := d_r_1.1
  replace d_r_1 : (0 ≤ r_1.toInt ∧ r_1.toInt ≤ 0) := d_r_1.2
  refine tot_if (fun c_4 => ?_) (fun c_4 => ?_)
  · replace c_4 := i_eq c_4
    exact tot_some ⟨h_S_2, trivial⟩
  · replace c_4 := i_ne c_4
    exfalso
    omega
set_option maxHeartbeats 4000000 in
set_option maxRecDepth 10000 in
theorem nf_peaks (hP : True) (S : MS) (h_S : NC S) : Tot (fr_peaks S) (fun r => NC r.2 ∧ (0 ≤ r.1.toInt ∧ r.1.toInt ≤ 0)) := by
  have z0 : (1 : Int32).toInt = 1 := by decide
  have z1 : (0 : Int32).toInt = 0 := by decide
  unfold fr_peaks
  refine tot_bind2 (nf_mayAsk hP S 1 h_S (by omega)) (fun r_1 S_2 d_r_1 => ?_)
  have h_S_2 : NC S_2 := d_r_1.1
  replace d_r_1 : (0 ≤ r_1.toInt ∧ r_1.toInt ≤ 0) := d_r_1.2
  refine tot_if (fun c_4 => ?_) (fun c_4 => ?_)
  · replace c_4 := i_eq c_4
    exact tot_some ⟨h_S_2, (show (0 ≤ (0 : Int32).toInt ∧ (0 : Int32).toInt ≤ 0) from by omega)⟩
  · replace c_4 := i_ne c_4
    exfalso
    omega
set_option maxHeartbeats 4000000 in
set_option maxRecDepth 10000 in
theorem nf_peakAt (hP : True) (S : MS) (a0 : Int32) (h_S : NC S) : Tot (fr_peakAt S a0) (fun r => NC r.2 ∧ (0 ≤ r.1.toInt ∧ r.1.toInt ≤ 0)) := by
  have z0 : (1 : Int32).toInt = 1 := by decide
  have z1 : (0 : Int32).toInt = 0 := by decide
  have j_a0 := i_any a0
  unfold fr_peakAt
  refine tot_bind2 (nf_mayAsk hP S 1 h_S (by omega)) (fun r_1 S_2 d_r_1 => ?_)
  have h_S_2 : NC S_2 := d_r_1.1
  replace d_r_1 : (0 ≤ r_1.toInt ∧ r_1.toInt ≤ 0) := d_r_1.2
  refine tot_if (fun c_4 => ?_) (fun c_4 => ?_)
  · replace c_4 := i_eq c_4
    exact tot_some ⟨h_S_2, (show (0 ≤ (0 : Int32).toInt ∧ (0 : Int32).toInt ≤ 0) from by omega)⟩
  · replace c_4 := i_ne c_4
    exfalso
    omega
set_option maxHeartbeats 4000000 in
set_option maxRecDepth 10000 in
theorem nf_isPeak (hP : True) (S : MS) (a0 : Int32) (h_S : NC S) : Tot (fr_isPeak S a0) (fun r => NC r.2 ∧ (0 ≤ r.1.toInt ∧ r.1.toInt ≤ 0)) := by
  have z0 : (0 : Int32).toInt = 0 := by decide
  have j_a0 := i_any a0
  unfold fr_isPeak
  refine tot_bindp (R := fun r_1 : Int32 => (0 ≤ r_1.toInt ∧ r_1.toInt ≤ 1)) (nf_isCell hP S a0 h_S ) (fun r_1 d_r_1 => ?_)
  replace d_r_1 : (0 ≤ r_1.toInt ∧ r_1.toInt ≤ 1) := d_r_1
  refine tot_bind2 (nf_mayAsk hP S r_1 h_S (by omega)) (fun r_3 S_4 d_r_3 => ?_)
  have h_S_4 : NC S_4 := d_r_3.1
  replace d_r_3 : (0 ≤ r_3.toInt ∧ r_3.toInt ≤ 0) := d_r_3.2
  refine tot_if (fun c_8 => ?_) (fun c_8 => ?_)
  · replace c_8 := i_eq c_8
    exact tot_some ⟨h_S_4, (show (0 ≤ (0 : Int32).toInt ∧ (0 : Int32).toInt ≤ 0) from by omega)⟩
  · replace c_8 := i_ne c_8
    exfalso
    omega
set_option maxHeartbeats 4000000 in
set_option maxRecDepth 10000 in
theorem nf_contrast (hP : True) (S : MS) (h_S : NC S) : Tot (fr_contrast S) (fun r => NC r.2 ∧ True) := by
  have z0 : (1 : Int32).toInt = 1 := by decide
  have z1 : (0 : Int32).toInt = 0 := by decide
  unfold fr_contrast
  refine tot_bind2 (nf_mayAsk hP S 1 h_S (by omega)) (fun r_1 S_2 d_r_1 => ?_)
  have h_S_2 : NC S_2 := d_r_1.1
  replace d_r_1 : (0 ≤ r_1.toInt ∧ r_1.toInt ≤ 0) := d_r_1.2
  refine tot_if (fun c_5 => ?_) (fun c_5 => ?_)
  · replace c_5 := i_eq c_5
    exact tot_some ⟨h_S_2, trivial⟩
  · replace c_5 := i_ne c_5
    exfalso
    omega
set_option maxHeartbeats 4000000 in
set_option maxRecDepth 10000 in
theorem nf_alias (hP : True) (S : MS) (a0 : Int32) (a1 : Int32) (a2 : Int32) (h_S : NC S) : Tot (fr_alias S a0 a1 a2) (fun r => NC r.2 ∧ (0 ≤ r.1.toInt ∧ r.1.toInt ≤ 0)) := by
  have z0 : (0 : Int32).toInt = 0 := by decide
  have z1 : (1 : Int32).toInt = 1 := by decide
  have j_a0 := i_any a0
  have j_a1 := i_any a1
  have j_a2 := i_any a2
  unfold fr_alias
  refine tot_bindp (R := fun r_1 : Int32 => (0 ≤ r_1.toInt ∧ r_1.toInt ≤ 1)) (nf_isCell hP S a0 h_S ) (fun r_1 d_r_1 => ?_)
  replace d_r_1 : (0 ≤ r_1.toInt ∧ r_1.toInt ≤ 1) := d_r_1
  refine tot_if (fun c_5 => ?_) (fun c_5 => ?_)
  · replace c_5 := i_eq c_5
    unfold fr_alias_b21
    unfold fr_alias_b22
    refine tot_bind2 (nf_mayAsk hP S 0 h_S (by omega)) (fun r_6 S_7 d_r_6 => ?_)
    have h_S_7 : NC S_7 := d_r_6.1
    replace d_r_6 : (0 ≤ r_6.toInt ∧ r_6.toInt ≤ 0) := d_r_6.2
    refine tot_if (fun c_13 => ?_) (fun c_13 => ?_)
    · replace c_13 := i_eq c_13
      exact tot_some ⟨h_S_7, (show (0 ≤ (0 : Int32).toInt ∧ (0 : Int32).toInt ≤ 0) from by omega)⟩
    · replace c_13 := i_ne c_13
      exfalso
      omega
  · replace c_5 := i_ne c_5
    refine tot_bindp (R := fun r_3 : Int32 => (0 ≤ r_3.toInt ∧ r_3.toInt ≤ 1)) (nf_isCell hP S a1 h_S ) (fun r_3 d_r_3 => ?_)
    replace d_r_3 : (0 ≤ r_3.toInt ∧ r_3.toInt ≤ 1) := d_r_3
    refine tot_if (fun c_14 => ?_) (fun c_14 => ?_)
    · replace c_14 := i_eq c_14
      unfold fr_alias_b21
      unfold fr_alias_b22
      refine tot_bind2 (nf_mayAsk hP S 0 h_S (by omega)) (fun r_15 S_16 d_r_15 => ?_)
      have h_S_16 : NC S_16 := d_r_15.1
      replace d_r_15 : (0 ≤ r_15.toInt ∧ r_15.toInt ≤ 0) := d_r_15.2
      refine tot_if (fun c_22 => ?_) (fun c_22 => ?_)
      · replace c_22 := i_eq c_22
        exact tot_some ⟨h_S_16, (show (0 ≤ (0 : Int32).toInt ∧ (0 : Int32).toInt ≤ 0) from by omega)⟩
      · replace c_22 := i_ne c_22
        exfalso
        omega
    · replace c_14 := i_ne c_14
      unfold fr_alias_b22
      refine tot_bind2 (nf_mayAsk hP S 1 h_S (by omega)) (fun r_23 S_24 d_r_23 => ?_)
      have h_S_24 : NC S_24 := d_r_23.1
      replace d_r_23 : (0 ≤ r_23.toInt ∧ r_23.toInt ≤ 0) := d_r_23.2
      refine tot_if (fun c_30 => ?_) (fun c_30 => ?_)
      · replace c_30 := i_eq c_30
        exact tot_some ⟨h_S_24, (show (0 ≤ (0 : Int32).toInt ∧ (0 : Int32).toInt ≤ 0) from by omega)⟩
      · replace c_30 := i_ne c_30
        exfalso
        omega
set_option maxHeartbeats 4000000 in
set_option maxRecDepth 10000 in
theorem nf_isShare (hP : True) (a0 : Int32) : Tot (fr_isShare a0) (fun r => (0 ≤ r.toInt ∧ r.toInt ≤ 1)) := by
  have z0 : (1 : Int32).toInt = 1 := by decide
  have z1 : (100 : Int32).toInt = 100 := by decide
  have j_a0 := i_any a0
  unfold fr_isShare
  refine tot_bind (nf_in hP a0 1 100  ) (fun r_1 d_r_1 => ?_)
  replace d_r_1 : (r_1.toInt = 0 ∧ (a0.toInt < (1 : Int32).toInt ∨ (100 : Int32).toInt < a0.toInt) ∨ r_1.toInt = 1 ∧ (1 : Int32).toInt ≤ a0.toInt ∧ a0.toInt ≤ (100 : Int32).toInt) := d_r_1
  refine tot_oif (i_b01 (by omega)) ?_
  exact tot_some (show (0 ≤ r_1.toInt ∧ r_1.toInt ≤ 1) from by omega)
set_option maxHeartbeats 4000000 in
set_option maxRecDepth 10000 in
theorem nf_isAlias (hP : True) (S : MS) (a0 : Int32) (a1 : Int32) (a2 : Int32) (h_S : NC S) : Tot (fr_isAlias S a0 a1 a2) (fun r => NC r.2 ∧ (0 ≤ r.1.toInt ∧ r.1.toInt ≤ 0)) := by
  have z0 : (0 : Int32).toInt = 0 := by decide
  have j_a0 := i_any a0
  have j_a1 := i_any a1
  have j_a2 := i_any a2
  unfold fr_isAlias
  refine tot_bindp (R := fun r_1 : Int32 => (0 ≤ r_1.toInt ∧ r_1.toInt ≤ 1)) (nf_isCell hP S a0 h_S ) (fun r_1 d_r_1 => ?_)
  replace d_r_1 : (0 ≤ r_1.toInt ∧ r_1.toInt ≤ 1) := d_r_1
  refine tot_bind2 (nf_mayAsk hP S r_1 h_S (by omega)) (fun r_3 S_4 d_r_3 => ?_)
  have h_S_4 : NC S_4 := d_r_3.1
  replace d_r_3 : (0 ≤ r_3.toInt ∧ r_3.toInt ≤ 0) := d_r_3.2
  refine tot_if (fun c_7 => ?_) (fun c_7 => ?_)
  · replace c_7 := i_eq c_7
    exact tot_some ⟨h_S_4, (show (0 ≤ (0 : Int32).toInt ∧ (0 : Int32).toInt ≤ 0) from by omega)⟩
  · replace c_7 := i_ne c_7
    exfalso
    omega
set_option maxHeartbeats 4000000 in
set_option maxRecDepth 10000 in
theorem nf_aliases (hP : True) (S : MS) (a0 : Int32) (a1 : Int32) (h_S : NC S) : Tot (fr_aliases S a0 a1) (fun r => NC r.2 ∧ (0 ≤ r.1.toInt ∧ r.1.toInt ≤ 0)) := by
  have z0 : (0 : Int32).toInt = 0 := by decide
  have z1 : (1 : Int32).toInt = 1 := by decide
  have j_a0 := i_any a0
  have j_a1 := i_any a1
  unfold fr_aliases
  refine tot_bind (nf_isPeriod hP a0  ) (fun r_1 d_r_1 => ?_)
  replace d_r_1 : (0 ≤ r_1.toInt ∧ r_1.toInt ≤ 1) := d_r_1
  refine tot_if (fun c_3 => ?_) (fun c_3 => ?_)
  · replace c_3 := i_eq c_3
    unfold fr_aliases_b19
    unfold fr_aliases_b20
    refine tot_bind2 (nf_mayAsk hP S 0 h_S (by omega)) (fun r_4 S_5 d_r_4 => ?_)
    have h_S_5 : NC S_5 := d_r_4.1
    replace d_r_4 : (0 ≤ r_4.toInt ∧ r_4.toInt ≤ 0) := d_r_4.2
    refine tot_if (fun c_8 => ?_) (fun c_8 => ?_)
    · replace c_8 := i_eq c_8
      exact tot_some ⟨h_S_5, (show (0 ≤ (0 : Int32).toInt ∧ (0 : Int32).toInt ≤ 0) from by omega)⟩
    · replace c_8 := i_ne c_8
      exfalso
      omega
  · replace c_3 := i_ne c_3
    refine tot_bind (nf_isShare hP a1  ) (fun r_2 d_r_2 => ?_)
    replace d_r_2 : (0 ≤ r_2.toInt ∧ r_2.toInt ≤ 1) := d_r_2
    refine tot_if (fun c_9 => ?_) (fun c_9 => ?_)
    · replace c_9 := i_eq c_9
      unfold fr_aliases_b19
      unfold fr_aliases_b20
      refine tot_bind2 (nf_mayAsk hP S 0 h_S (by omega)) (fun r_10 S_11 d_r_10 => ?_)
      have h_S_11 : NC S_11 := d_r_10.1
      replace d_r_10 : (0 ≤ r_10.toInt ∧ r_10.toInt ≤ 0) := d_r_10.2
      refine tot_if (fun c_14 => ?_) (fun c_14 => ?_)
      · replace c_14 := i_eq c_14
        exact tot_some ⟨h_S_11, (show (0 ≤ (0 : Int32).toInt ∧ (0 : Int32).toInt ≤ 0) from by omega)⟩
      · replace c_14 := i_ne c_14
        exfalso
        omega
    · replace c_9 := i_ne c_9
      unfold fr_aliases_b20
      refine tot_bind2 (nf_mayAsk hP S 1 h_S (by omega)) (fun r_15 S_16 d_r_15 => ?_)
      have h_S_16 : NC S_16 := d_r_15.1
      replace d_r_15 : (0 ≤ r_15.toInt ∧ r_15.toInt ≤ 0) := d_r_15.2
      refine tot_if (fun c_19 => ?_) (fun c_19 => ?_)
      · replace c_19 := i_eq c_19
        exact tot_some ⟨h_S_16, (show (0 ≤ (0 : Int32).toInt ∧ (0 : Int32).toInt ≤ 0) from by omega)⟩
      · replace c_19 := i_ne c_19
        exfalso
        omega
set_option maxHeartbeats 4000000 in
set_option maxRecDepth 10000 in
theorem nf_isBlock (hP : True) (S : MS) (a0 : Int32) (a1 : Int32) (h_S : NC S) : Tot (fr_isBlock S a0 a1) (fun r => r.2 = S ∧ (0 ≤ r.1.toInt ∧ r.1.toInt ≤ 0)) := by
  have z0 : (0 : Int32).toInt = 0 := by decide
  have z1 : (1 : Int32).toInt = 1 := by decide
  have j_a0 := i_any a0
  have j_a1 := i_any a1
  unfold fr_isBlock
  refine tot_bindp (R := fun r_1 : Int32 => (0 ≤ r_1.toInt ∧ r_1.toInt ≤ 1)) (nf_isTime hP S a0 h_S ) (fun r_1 d_r_1 => ?_)
  replace d_r_1 : (0 ≤ r_1.toInt ∧ r_1.toInt ≤ 1) := d_r_1
  refine tot_if (fun c_5 => ?_) (fun c_5 => ?_)
  · replace c_5 := i_eq c_5
    unfold fr_isBlock_b26
    unfold fr_isBlock_b27
    refine tot_oif (i_b01 (by omega)) ?_
    exact tot_some ⟨rfl, (show (0 ≤ (0 : Int32).toInt ∧ (0 : Int32).toInt ≤ 0) from by omega)⟩
  · replace c_5 := i_ne c_5
    refine tot_let (fun v_3 e_v_3 => ?_)
    have q_v_3 := nc_p h_S e_v_3
    refine tot_bind (nf_in hP a1 1 v_3  ) (fun r_4 d_r_4 => ?_)
    replace d_r_4 : (r_4.toInt = 0 ∧ (a1.toInt < (1 : Int32).toInt ∨ v_3.toInt < a1.toInt) ∨ r_4.toInt = 1 ∧ (1 : Int32).toInt ≤ a1.toInt ∧ a1.toInt ≤ v_3.toInt) := d_r_4
    refine tot_if (fun c_6 => ?_) (fun c_6 => ?_)
    · replace c_6 := i_eq c_6
      unfold fr_isBlock_b26
      unfold fr_isBlock_b27
      refine tot_oif (i_b01 (by omega)) ?_
      exact tot_some ⟨rfl, (show (0 ≤ (0 : Int32).toInt ∧ (0 : Int32).toInt ≤ 0) from by omega)⟩
    · replace c_6 := i_ne c_6
      exfalso
      omega
set_option maxHeartbeats 4000000 in
set_option maxRecDepth 10000 in
theorem nf_blockPower (hP : True) (S : MS) (a0 : Int32) (a1 : Int32) (a2 : Int32) (h_S : NC S) : Tot (fr_blockPower S a0 a1 a2) (fun r => NC r.2 ∧ True) := by
  have z0 : (0 : Int32).toInt = 0 := by decide
  have j_a0 := i_any a0
  have j_a1 := i_any a1
  have j_a2 := i_any a2
  unfold fr_blockPower
  refine tot_bindp (R := fun r_1 : Int32 => (0 ≤ r_1.toInt ∧ r_1.toInt ≤ 1)) (nf_isCell hP S a0 h_S ) (fun r_1 d_r_1 => ?_)
  replace d_r_1 : (0 ≤ r_1.toInt ∧ r_1.toInt ≤ 1) := d_r_1
  refine tot_bind2 (nf_mayAsk hP S r_1 h_S (by omega)) (fun r_3 S_4 d_r_3 => ?_)
  have h_S_4 : NC S_4 := d_r_3.1
  replace d_r_3 : (0 ≤ r_3.toInt ∧ r_3.toInt ≤ 0) := d_r_3.2
  refine tot_if (fun c_12 => ?_) (fun c_12 => ?_)
  · replace c_12 := i_eq c_12
    exact tot_some ⟨h_S_4, trivial⟩
  · replace c_12 := i_ne c_12
    exfalso
    omega
set_option maxHeartbeats 4000000 in
set_option maxRecDepth 10000 in
theorem nf_blockBest (hP : True) (S : MS) (a0 : Int32) (a1 : Int32) (h_S : NC S) : Tot (fr_blockBest S a0 a1) (fun r => NC r.2 ∧ (0 ≤ r.1.toInt ∧ r.1.toInt ≤ 0)) := by
  have z0 : (0 : Int32).toInt = 0 := by decide
  have j_a0 := i_any a0
  have j_a1 := i_any a1
  unfold fr_blockBest
  refine tot_bindp (R := fun r_1 : Int32 => (0 ≤ r_1.toInt ∧ r_1.toInt ≤ 0)) (nf_isBlock hP S a0 a1 h_S ) (fun r_1 d_r_1 => ?_)
  replace d_r_1 : (0 ≤ r_1.toInt ∧ r_1.toInt ≤ 0) := d_r_1
  refine tot_bind2 (nf_mayAsk hP S r_1 h_S (by omega)) (fun r_3 S_4 d_r_3 => ?_)
  have h_S_4 : NC S_4 := d_r_3.1
  replace d_r_3 : (0 ≤ r_3.toInt ∧ r_3.toInt ≤ 0) := d_r_3.2
  refine tot_if (fun c_7 => ?_) (fun c_7 => ?_)
  · replace c_7 := i_eq c_7
    unfold fr_blockBest_b23
    exact tot_some ⟨h_S_4, (show (0 ≤ (0 : Int32).toInt ∧ (0 : Int32).toInt ≤ 0) from by omega)⟩
  · replace c_7 := i_ne c_7
    exfalso
    omega
set_option maxHeartbeats 4000000 in
set_option maxRecDepth 10000 in
theorem nf_path (hP : True) (S : MS) (a0 : Int32) (h_S : NC S) : Tot (fr_path S a0) (fun r => NC r.2 ∧ (0 ≤ r.1.toInt ∧ r.1.toInt ≤ 0)) := by
  have z0 : (4 : Int32).toInt = 4 := by decide
  have z1 : (0 : Int32).toInt = 0 := by decide
  have j_a0 := i_any a0
  unfold fr_path
  refine tot_let (fun v_1 e_v_1 => ?_)
  have q_v_1 := nc_p h_S e_v_1
  refine tot_bind (nf_in hP a0 4 v_1  ) (fun r_2 d_r_2 => ?_)
  replace d_r_2 : (r_2.toInt = 0 ∧ (a0.toInt < (4 : Int32).toInt ∨ v_1.toInt < a0.toInt) ∨ r_2.toInt = 1 ∧ (4 : Int32).toInt ≤ a0.toInt ∧ a0.toInt ≤ v_1.toInt) := d_r_2
  refine tot_bind2 (nf_mayAsk hP S r_2 h_S (by omega)) (fun r_3 S_4 d_r_3 => ?_)
  have h_S_4 : NC S_4 := d_r_3.1
  replace d_r_3 : (0 ≤ r_3.toInt ∧ r_3.toInt ≤ 0) := d_r_3.2
  refine tot_if (fun c_7 => ?_) (fun c_7 => ?_)
  · replace c_7 := i_eq c_7
    exact tot_some ⟨h_S_4, (show (0 ≤ (0 : Int32).toInt ∧ (0 : Int32).toInt ≤ 0) from by omega)⟩
  · replace c_7 := i_ne c_7
    exfalso
    omega
set_option maxHeartbeats 4000000 in
set_option maxRecDepth 10000 in
theorem nf_isLength (hP : True) (S : MS) (a0 : Int32) (h_S : NC S) : Tot (fr_isLength S a0) (fun r => r.2 = S ∧ (r.1.toInt = 0)) := by
  have z0 : (4 : Int32).toInt = 4 := by decide
  have j_a0 := i_any a0
  unfold fr_isLength
  refine tot_let (fun v_1 e_v_1 => ?_)
  have q_v_1 := nc_p h_S e_v_1
  refine tot_bind (nf_in hP a0 4 v_1  ) (fun r_2 d_r_2 => ?_)
  replace d_r_2 : (r_2.toInt = 0 ∧ (a0.toInt < (4 : Int32).toInt ∨ v_1.toInt < a0.toInt) ∨ r_2.toInt = 1 ∧ (4 : Int32).toInt ≤ a0.toInt ∧ a0.toInt ≤ v_1.toInt) := d_r_2
  refine tot_oif (i_b01 (by omega)) ?_
  exact tot_some ⟨rfl, (show (r_2.toInt = 0) from by omega)⟩
set_option maxHeartbeats 4000000 in
set_option maxRecDepth 10000 in
theorem nf_trackScore (hP : True) (S : MS) (a0 : Int32) (h_S : NC S) : Tot (fr_trackScore S a0) (fun r => NC r.2 ∧ True) := by
  have z0 : (0 : Int32).toInt = 0 := by decide
  have j_a0 := i_any a0
  unfold fr_trackScore
  refine tot_bindp (R := fun r_1 : Int32 => (r_1.toInt = 0)) (nf_isLength hP S a0 h_S ) (fun r_1 d_r_1 => ?_)
  replace d_r_1 : (r_1.toInt = 0) := d_r_1
  refine tot_bind2 (nf_mayAsk hP S r_1 h_S (by omega)) (fun r_3 S_4 d_r_3 => ?_)
  have h_S_4 : NC S_4 := d_r_3.1
  replace d_r_3 : (0 ≤ r_3.toInt ∧ r_3.toInt ≤ 0) := d_r_3.2
  refine tot_if (fun c_9 => ?_) (fun c_9 => ?_)
  · replace c_9 := i_eq c_9
    exact tot_some ⟨h_S_4, trivial⟩
  · replace c_9 := i_ne c_9
    exfalso
    omega
set_option maxHeartbeats 4000000 in
set_option maxRecDepth 10000 in
theorem nf_trackCell (hP : True) (S : MS) (a0 : Int32) (a1 : Int32) (h_S : NC S) : Tot (fr_trackCell S a0 a1) (fun r => NC r.2 ∧ (0 ≤ r.1.toInt ∧ r.1.toInt ≤ 0)) := by
  have z0 : (0 : Int32).toInt = 0 := by decide
  have z1 : (1 : Int32).toInt = 1 := by decide
  have j_a0 := i_any a0
  have j_a1 := i_any a1
  unfold fr_trackCell
  refine tot_bindp (R := fun r_1 : Int32 => (r_1.toInt = 0)) (nf_isLength hP S a0 h_S ) (fun r_1 d_r_1 => ?_)
  replace d_r_1 : (r_1.toInt = 0) := d_r_1
  refine tot_if (fun c_7 => ?_) (fun c_7 => ?_)
  · replace c_7 := i_eq c_7
    unfold fr_trackCell_b24
    unfold fr_trackCell_b29
    refine tot_bind2 (nf_mayAsk hP S 1 h_S (by omega)) (fun r_8 S_9 d_r_8 => ?_)
    have h_S_9 : NC S_9 := d_r_8.1
    replace d_r_8 : (0 ≤ r_8.toInt ∧ r_8.toInt ≤ 0) := d_r_8.2
    refine tot_if (fun c_15 => ?_) (fun c_15 => ?_)
    · replace c_15 := i_eq c_15
      exact tot_some ⟨h_S_9, (show (0 ≤ (0 : Int32).toInt ∧ (0 : Int32).toInt ≤ 0) from by omega)⟩
    · replace c_15 := i_ne c_15
      exfalso
      omega
  · replace c_7 := i_ne c_7
    exfalso
    omega
set_option maxHeartbeats 4000000 in
set_option maxRecDepth 10000 in
theorem nf_isZone (hP : True) (S : MS) (a0 : Int32) (h_S : NC S) : Tot (fr_isZone S a0) (fun r => r.2 = S ∧ (0 ≤ r.1.toInt ∧ r.1.toInt ≤ 1)) := by
  have z0 : (1 : Int32).toInt = 1 := by decide
  have z1 : (0 : Int32).toInt = 0 := by decide
  have j_a0 := i_any a0
  unfold fr_isZone
  refine tot_let (fun v_1 e_v_1 => ?_)
  have q_v_1 := nc_p h_S e_v_1
  refine tot_let (fun v_2 e_v_2 => ?_)
  have q_v_2 := i_sub e_v_2 (by omega) (by omega)
  refine tot_bind (nf_in hP a0 0 v_2  ) (fun r_3 d_r_3 => ?_)
  replace d_r_3 : (r_3.toInt = 0 ∧ (a0.toInt < (0 : Int32).toInt ∨ v_2.toInt < a0.toInt) ∨ r_3.toInt = 1 ∧ (0 : Int32).toInt ≤ a0.toInt ∧ a0.toInt ≤ v_2.toInt) := d_r_3
  refine tot_oif (i_b01 (by omega)) ?_
  exact tot_some ⟨rfl, (show (0 ≤ r_3.toInt ∧ r_3.toInt ≤ 1) from by omega)⟩
set_option maxHeartbeats 4000000 in
set_option maxRecDepth 10000 in
theorem nf_zonePower (hP : True) (S : MS) (a0 : Int32) (h_S : NC S) : Tot (fr_zonePower S a0) (fun r => NC r.2 ∧ True) := by
  have z0 : (0 : Int32).toInt = 0 := by decide
  have j_a0 := i_any a0
  unfold fr_zonePower
  refine tot_bindp (R := fun r_1 : Int32 => (0 ≤ r_1.toInt ∧ r_1.toInt ≤ 1)) (nf_isZone hP S a0 h_S ) (fun r_1 d_r_1 => ?_)
  replace d_r_1 : (0 ≤ r_1.toInt ∧ r_1.toInt ≤ 1) := d_r_1
  refine tot_bind2 (nf_mayAsk hP S r_1 h_S (by omega)) (fun r_3 S_4 d_r_3 => ?_)
  have h_S_4 : NC S_4 := d_r_3.1
  replace d_r_3 : (0 ≤ r_3.toInt ∧ r_3.toInt ≤ 0) := d_r_3.2
  refine tot_if (fun c_5 => ?_) (fun c_5 => ?_)
  · replace c_5 := i_eq c_5
    exact tot_some ⟨h_S_4, trivial⟩
  · replace c_5 := i_ne c_5
    exfalso
    omega
set_option maxHeartbeats 4000000 in
set_option maxRecDepth 10000 in
theorem nf_zoneBest (hP : True) (S : MS) (a0 : Int32) (h_S : NC S) : Tot (fr_zoneBest S a0) (fun r => NC r.2 ∧ (0 ≤ r.1.toInt ∧ r.1.toInt ≤ 0)) := by
  have z0 : (0 : Int32).toInt = 0 := by decide
  have j_a0 := i_any a0
  unfold fr_zoneBest
  refine tot_bindp (R := fun r_1 : Int32 => (0 ≤ r_1.toInt ∧ r_1.toInt ≤ 1)) (nf_isZone hP S a0 h_S ) (fun r_1 d_r_1 => ?_)
  replace d_r_1 : (0 ≤ r_1.toInt ∧ r_1.toInt ≤ 1) := d_r_1
  refine tot_bind2 (nf_mayAsk hP S r_1 h_S (by omega)) (fun r_3 S_4 d_r_3 => ?_)
  have h_S_4 : NC S_4 := d_r_3.1
  replace d_r_3 : (0 ≤ r_3.toInt ∧ r_3.toInt ≤ 0) := d_r_3.2
  refine tot_if (fun c_6 => ?_) (fun c_6 => ?_)
  · replace c_6 := i_eq c_6
    exact tot_some ⟨h_S_4, (show (0 ≤ (0 : Int32).toInt ∧ (0 : Int32).toInt ≤ 0) from by omega)⟩
  · replace c_6 := i_ne c_6
    exfalso
    omega
set_option maxHeartbeats 4000000 in
set_option maxRecDepth 10000 in
theorem nf_movingPower (hP : True) (S : MS) (a0 : Int32) (a1 : Int32) (a2 : Int32) (h_S : NC S) : Tot (fr_movingPower S a0 a1 a2) (fun r => NC r.2 ∧ True) := by
  have z0 : (0 : Int32).toInt = 0 := by decide
  have j_a0 := i_any a0
  have j_a1 := i_any a1
  have j_a2 := i_any a2
  unfold fr_movingPower
  refine tot_bindp (R := fun r_1 : Int32 => (0 ≤ r_1.toInt ∧ r_1.toInt ≤ 1)) (nf_isCell hP S a0 h_S ) (fun r_1 d_r_1 => ?_)
  replace d_r_1 : (0 ≤ r_1.toInt ∧ r_1.toInt ≤ 1) := d_r_1
  refine tot_bind2 (nf_mayAsk hP S r_1 h_S (by omega)) (fun r_3 S_4 d_r_3 => ?_)
  have h_S_4 : NC S_4 := d_r_3.1
  replace d_r_3 : (0 ≤ r_3.toInt ∧ r_3.toInt ≤ 0) := d_r_3.2
  refine tot_if (fun c_11 => ?_) (fun c_11 => ?_)
  · replace c_11 := i_eq c_11
    exact tot_some ⟨h_S_4, trivial⟩
  · replace c_11 := i_ne c_11
    exfalso
    omega
set_option maxHeartbeats 4000000 in
set_option maxRecDepth 10000 in
theorem nf_bestVelocity (hP : True) (S : MS) (a0 : Int32) (a1 : Int32) (a2 : Int32) (h_S : NC S) : Tot (fr_bestVelocity S a0 a1 a2) (fun r => NC r.2 ∧ (0 ≤ r.1.toInt ∧ r.1.toInt ≤ 0)) := by
  have z0 : (0 : Int32).toInt = 0 := by decide
  have j_a0 := i_any a0
  have j_a1 := i_any a1
  have j_a2 := i_any a2
  unfold fr_bestVelocity
  refine tot_bindp (R := fun r_1 : Int32 => (0 ≤ r_1.toInt ∧ r_1.toInt ≤ 1)) (nf_isCell hP S a0 h_S ) (fun r_1 d_r_1 => ?_)
  replace d_r_1 : (0 ≤ r_1.toInt ∧ r_1.toInt ≤ 1) := d_r_1
  refine tot_bind2 (nf_mayAsk hP S r_1 h_S (by omega)) (fun r_3 S_4 d_r_3 => ?_)
  have h_S_4 : NC S_4 := d_r_3.1
  replace d_r_3 : (0 ≤ r_3.toInt ∧ r_3.toInt ≤ 0) := d_r_3.2
  refine tot_if (fun c_8 => ?_) (fun c_8 => ?_)
  · replace c_8 := i_eq c_8
    exact tot_some ⟨h_S_4, (show (0 ≤ (0 : Int32).toInt ∧ (0 : Int32).toInt ≤ 0) from by omega)⟩
  · replace c_8 := i_ne c_8
    exfalso
    omega
set_option maxHeartbeats 4000000 in
set_option maxRecDepth 10000 in
theorem nf_correlation (hP : True) (S : MS) (a0 : Int32) (a1 : Int32) (a2 : Int32) (h_S : NC S) : Tot (fr_correlation S a0 a1 a2) (fun r => NC r.2 ∧ True) := by
  have z0 : (0 : Int32).toInt = 0 := by decide
  have z1 : (1 : Int32).toInt = 1 := by decide
  have j_a0 := i_any a0
  have j_a1 := i_any a1
  have j_a2 := i_any a2
  unfold fr_correlation
  refine tot_bindp (R := fun r_1 : Int32 => (0 ≤ r_1.toInt ∧ r_1.toInt ≤ 1)) (nf_isMic hP S a0 h_S ) (fun r_1 d_r_1 => ?_)
  replace d_r_1 : (0 ≤ r_1.toInt ∧ r_1.toInt ≤ 1) := d_r_1
  refine tot_if (fun c_5 => ?_) (fun c_5 => ?_)
  · replace c_5 := i_eq c_5
    unfold fr_correlation_b21
    unfold fr_correlation_b22
    refine tot_bind2 (nf_mayAsk hP S 0 h_S (by omega)) (fun r_6 S_7 d_r_6 => ?_)
    have h_S_7 : NC S_7 := d_r_6.1
    replace d_r_6 : (0 ≤ r_6.toInt ∧ r_6.toInt ≤ 0) := d_r_6.2
    refine tot_if (fun c_15 => ?_) (fun c_15 => ?_)
    · replace c_15 := i_eq c_15
      exact tot_some ⟨h_S_7, trivial⟩
    · replace c_15 := i_ne c_15
      exfalso
      omega
  · replace c_5 := i_ne c_5
    refine tot_bindp (R := fun r_3 : Int32 => (0 ≤ r_3.toInt ∧ r_3.toInt ≤ 1)) (nf_isMic hP S a1 h_S ) (fun r_3 d_r_3 => ?_)
    replace d_r_3 : (0 ≤ r_3.toInt ∧ r_3.toInt ≤ 1) := d_r_3
    refine tot_if (fun c_16 => ?_) (fun c_16 => ?_)
    · replace c_16 := i_eq c_16
      unfold fr_correlation_b21
      unfold fr_correlation_b22
      refine tot_bind2 (nf_mayAsk hP S 0 h_S (by omega)) (fun r_17 S_18 d_r_17 => ?_)
      have h_S_18 : NC S_18 := d_r_17.1
      replace d_r_17 : (0 ≤ r_17.toInt ∧ r_17.toInt ≤ 0) := d_r_17.2
      refine tot_if (fun c_26 => ?_) (fun c_26 => ?_)
      · replace c_26 := i_eq c_26
        exact tot_some ⟨h_S_18, trivial⟩
      · replace c_26 := i_ne c_26
        exfalso
        omega
    · replace c_16 := i_ne c_16
      unfold fr_correlation_b22
      refine tot_bind2 (nf_mayAsk hP S 1 h_S (by omega)) (fun r_27 S_28 d_r_27 => ?_)
      have h_S_28 : NC S_28 := d_r_27.1
      replace d_r_27 : (0 ≤ r_27.toInt ∧ r_27.toInt ≤ 0) := d_r_27.2
      refine tot_if (fun c_36 => ?_) (fun c_36 => ?_)
      · replace c_36 := i_eq c_36
        exact tot_some ⟨h_S_28, trivial⟩
      · replace c_36 := i_ne c_36
        exfalso
        omega
set_option maxHeartbeats 4000000 in
set_option maxRecDepth 10000 in
theorem nf_bestLag (hP : True) (S : MS) (a0 : Int32) (a1 : Int32) (a2 : Int32) (h_S : NC S) : Tot (fr_bestLag S a0 a1 a2) (fun r => NC r.2 ∧ (0 ≤ r.1.toInt ∧ r.1.toInt ≤ 0)) := by
  have z0 : (0 : Int32).toInt = 0 := by decide
  have z1 : (1 : Int32).toInt = 1 := by decide
  have j_a0 := i_any a0
  have j_a1 := i_any a1
  have j_a2 := i_any a2
  unfold fr_bestLag
  refine tot_bindp (R := fun r_1 : Int32 => (0 ≤ r_1.toInt ∧ r_1.toInt ≤ 1)) (nf_isMic hP S a0 h_S ) (fun r_1 d_r_1 => ?_)
  replace d_r_1 : (0 ≤ r_1.toInt ∧ r_1.toInt ≤ 1) := d_r_1
  refine tot_if (fun c_5 => ?_) (fun c_5 => ?_)
  · replace c_5 := i_eq c_5
    unfold fr_bestLag_b21
    unfold fr_bestLag_b22
    refine tot_bind2 (nf_mayAsk hP S 0 h_S (by omega)) (fun r_6 S_7 d_r_6 => ?_)
    have h_S_7 : NC S_7 := d_r_6.1
    replace d_r_6 : (0 ≤ r_6.toInt ∧ r_6.toInt ≤ 0) := d_r_6.2
    refine tot_if (fun c_12 => ?_) (fun c_12 => ?_)
    · replace c_12 := i_eq c_12
      exact tot_some ⟨h_S_7, (show (0 ≤ (0 : Int32).toInt ∧ (0 : Int32).toInt ≤ 0) from by omega)⟩
    · replace c_12 := i_ne c_12
      exfalso
      omega
  · replace c_5 := i_ne c_5
    refine tot_bindp (R := fun r_3 : Int32 => (0 ≤ r_3.toInt ∧ r_3.toInt ≤ 1)) (nf_isMic hP S a1 h_S ) (fun r_3 d_r_3 => ?_)
    replace d_r_3 : (0 ≤ r_3.toInt ∧ r_3.toInt ≤ 1) := d_r_3
    refine tot_if (fun c_13 => ?_) (fun c_13 => ?_)
    · replace c_13 := i_eq c_13
      unfold fr_bestLag_b21
      unfold fr_bestLag_b22
      refine tot_bind2 (nf_mayAsk hP S 0 h_S (by omega)) (fun r_14 S_15 d_r_14 => ?_)
      have h_S_15 : NC S_15 := d_r_14.1
      replace d_r_14 : (0 ≤ r_14.toInt ∧ r_14.toInt ≤ 0) := d_r_14.2
      refine tot_if (fun c_20 => ?_) (fun c_20 => ?_)
      · replace c_20 := i_eq c_20
        exact tot_some ⟨h_S_15, (show (0 ≤ (0 : Int32).toInt ∧ (0 : Int32).toInt ≤ 0) from by omega)⟩
      · replace c_20 := i_ne c_20
        exfalso
        omega
    · replace c_13 := i_ne c_13
      unfold fr_bestLag_b22
      refine tot_bind2 (nf_mayAsk hP S 1 h_S (by omega)) (fun r_21 S_22 d_r_21 => ?_)
      have h_S_22 : NC S_22 := d_r_21.1
      replace d_r_21 : (0 ≤ r_21.toInt ∧ r_21.toInt ≤ 0) := d_r_21.2
      refine tot_if (fun c_27 => ?_) (fun c_27 => ?_)
      · replace c_27 := i_eq c_27
        exact tot_some ⟨h_S_22, (show (0 ≤ (0 : Int32).toInt ∧ (0 : Int32).toInt ≤ 0) from by omega)⟩
      · replace c_27 := i_ne c_27
        exfalso
        omega
set_option maxHeartbeats 4000000 in
set_option maxRecDepth 10000 in
theorem nf_level (hP : True) (S : MS) (a0 : Int32) (h_S : NC S) : Tot (fr_level S a0) (fun r => NC r.2 ∧ True) := by
  have z0 : (0 : Int32).toInt = 0 := by decide
  have j_a0 := i_any a0
  unfold fr_level
  refine tot_bindp (R := fun r_1 : Int32 => (0 ≤ r_1.toInt ∧ r_1.toInt ≤ 1)) (nf_isMic hP S a0 h_S ) (fun r_1 d_r_1 => ?_)
  replace d_r_1 : (0 ≤ r_1.toInt ∧ r_1.toInt ≤ 1) := d_r_1
  refine tot_bind2 (nf_mayAsk hP S r_1 h_S (by omega)) (fun r_3 S_4 d_r_3 => ?_)
  have h_S_4 : NC S_4 := d_r_3.1
  replace d_r_3 : (0 ≤ r_3.toInt ∧ r_3.toInt ≤ 0) := d_r_3.2
  refine tot_if (fun c_7 => ?_) (fun c_7 => ?_)
  · replace c_7 := i_eq c_7
    unfold fr_level_b21
    exact tot_some ⟨h_S_4, trivial⟩
  · replace c_7 := i_ne c_7
    exfalso
    omega
set_option maxHeartbeats 4000000 in
set_option maxRecDepth 10000 in
theorem nf_loudest (hP : True) (S : MS) (a0 : Int32) (h_S : NC S) : Tot (fr_loudest S a0) (fun r => NC r.2 ∧ (0 ≤ r.1.toInt ∧ r.1.toInt ≤ 0)) := by
  have z0 : (0 : Int32).toInt = 0 := by decide
  have j_a0 := i_any a0
  unfold fr_loudest
  refine tot_bindp (R := fun r_1 : Int32 => (0 ≤ r_1.toInt ∧ r_1.toInt ≤ 1)) (nf_isMic hP S a0 h_S ) (fun r_1 d_r_1 => ?_)
  replace d_r_1 : (0 ≤ r_1.toInt ∧ r_1.toInt ≤ 1) := d_r_1
  refine tot_bind2 (nf_mayAsk hP S r_1 h_S (by omega)) (fun r_3 S_4 d_r_3 => ?_)
  have h_S_4 : NC S_4 := d_r_3.1
  replace d_r_3 : (0 ≤ r_3.toInt ∧ r_3.toInt ≤ 0) := d_r_3.2
  refine tot_if (fun c_5 => ?_) (fun c_5 => ?_)
  · replace c_5 := i_eq c_5
    exact tot_some ⟨h_S_4, (show (0 ≤ (0 : Int32).toInt ∧ (0 : Int32).toInt ≤ 0) from by omega)⟩
  · replace c_5 := i_ne c_5
    exfalso
    omega
set_option maxHeartbeats 4000000 in
set_option maxRecDepth 10000 in
theorem nf_writeMap (hP : True) (S : MS) (h_S : NC S) : Tot (fr_writeMap S) (fun r => NC r.2 ∧ (0 ≤ r.1.toInt ∧ r.1.toInt ≤ 0)) := by
  have z0 : (1 : Int32).toInt = 1 := by decide
  have z1 : (0 : Int32).toInt = 0 := by decide
  unfold fr_writeMap
  refine tot_bind2 (nf_mayAsk hP S 1 h_S (by omega)) (fun r_1 S_2 d_r_1 => ?_)
  have h_S_2 : NC S_2 := d_r_1.1
  replace d_r_1 : (0 ≤ r_1.toInt ∧ r_1.toInt ≤ 0) := d_r_1.2
  refine tot_if (fun c_7 => ?_) (fun c_7 => ?_)
  · replace c_7 := i_eq c_7
    exact tot_some ⟨h_S_2, (show (0 ≤ (0 : Int32).toInt ∧ (0 : Int32).toInt ≤ 0) from by omega)⟩
  · replace c_7 := i_ne c_7
    exfalso
    omega
end
section
/-! 12j.nb1.lean.txt -/
set_option maxHeartbeats 4000000 in
set_option maxRecDepth 10000 in
theorem nf_mapByte (hP : True) (S : MS) (a0 : Int32) (h_S : NC S) : Tot (fr_mapByte S a0) (fun r => NC r.2 ∧ True) := by
  have z0 : (1 : Int32).toInt = 1 := by decide
  have z1 : (0 : Int32).toInt = 0 := by decide
  have j_a0 := i_any a0
  unfold fr_mapByte
  refine tot_let (fun v_1 e_v_1 => ?_)
  have q_v_1 := i_eq e_v_1
  have r_v_1 := nc_28 h_S
  refine tot_let (fun v_2 e_v_2 => ?_)
  have q_v_2 := i_sub e_v_2 (by omega) (by omega)
  refine tot_bind (nf_in hP a0 0 v_2  ) (fun r_3 d_r_3 => ?_)
  replace d_r_3 : (r_3.toInt = 0 ∧ (a0.toInt < (0 : Int32).toInt ∨ v_2.toInt < a0.toInt) ∨ r_3.toInt = 1 ∧ (0 : Int32).toInt ≤ a0.toInt ∧ a0.toInt ≤ v_2.toInt) := d_r_3
  refine tot_if (fun c_4 => ?_) (fun c_4 => ?_)
  · replace c_4 := i_eq c_4
    unfold fr_mapByte_b20
    refine tot_let (fun S_5 e_S_5 => ?_)
    have h_S_5 : NC S_5 := by rw [e_S_5]; exact nc_mi0 h_S _
    have f_S_5_0 : (S_5.1 0).toInt = (1 : Int32).toInt := by rw [e_S_5]; rfl
    refine tot_let (fun v_6 e_v_6 => ?_)
    have q_v_6 := i_eq e_v_6
    have r_v_6 := i_any v_6
    refine tot_if (fun c_8 => ?_) (fun c_8 => ?_)
    · replace c_8 := i_eq c_8
      exfalso
      omega
    · replace c_8 := i_ne c_8
      unfold fr_mapByte_b40
      exact tot_some ⟨h_S_5, trivial⟩
  · replace c_4 := i_ne c_4
    unfold fr_mapByte_b20
    refine tot_let (fun S_9 e_S_9 => ?_)
    have h_S_9 : NC S_9 := by rw [e_S_9]; exact nc_mi0 h_S _
    have f_S_9_0 : (S_9.1 0).toInt = (0 : Int32).toInt := by rw [e_S_9]; rfl
    refine tot_let (fun v_10 e_v_10 => ?_)
    have q_v_10 := i_eq e_v_10
    have r_v_10 := i_any v_10
    refine tot_if (fun c_12 => ?_) (fun c_12 => ?_)
    · replace c_12 := i_eq c_12
      refine tot_oif (i_inb (by omega) (by omega)) ?_
      refine tot_let (fun v_11 e_v_11 => ?_)
      have r_v_11 := i_any v_11
      unfold fr_mapByte_b40
      exact tot_some ⟨h_S_9, trivial⟩
    · replace c_12 := i_ne c_12
      exfalso
      omega
set_option maxHeartbeats 4000000 in
set_option maxRecDepth 10000 in
theorem nf_pointBest (hP : True) (S : MS) (a0 : Int32) (a1 : Int32) (h_S : NC S) : Tot (fr_pointBest S a0 a1) (fun r => NC r.2 ∧ (0 ≤ r.1.toInt ∧ r.1.toInt ≤ 0)) := by
  have z0 : (0 : Int32).toInt = 0 := by decide
  have j_a0 := i_any a0
  have j_a1 := i_any a1
  unfold fr_pointBest
  refine tot_bindp (R := fun r_1 : Int32 => (0 ≤ r_1.toInt ∧ r_1.toInt ≤ 1)) (nf_isCell hP S a0 h_S ) (fun r_1 d_r_1 => ?_)
  replace d_r_1 : (0 ≤ r_1.toInt ∧ r_1.toInt ≤ 1) := d_r_1
  refine tot_bind2 (nf_mayAsk hP S r_1 h_S (by omega)) (fun r_3 S_4 d_r_3 => ?_)
  have h_S_4 : NC S_4 := d_r_3.1
  replace d_r_3 : (0 ≤ r_3.toInt ∧ r_3.toInt ≤ 0) := d_r_3.2
  refine tot_if (fun c_12 => ?_) (fun c_12 => ?_)
  · replace c_12 := i_eq c_12
    exact tot_some ⟨h_S_4, (show (0 ≤ (0 : Int32).toInt ∧ (0 : Int32).toInt ≤ 0) from by omega)⟩
  · replace c_12 := i_ne c_12
    exfalso
    omega
set_option maxHeartbeats 4000000 in
set_option maxRecDepth 10000 in
theorem nf_pointPower (hP : True) (S : MS) (a0 : Int32) (a1 : Int32) (a2 : Int32) (h_S : NC S) : Tot (fr_pointPower S a0 a1 a2) (fun r => NC r.2 ∧ True) := by
  have z0 : (0 : Int32).toInt = 0 := by decide
  have z1 : (1 : Int32).toInt = 1 := by decide
  have j_a0 := i_any a0
  have j_a1 := i_any a1
  have j_a2 := i_any a2
  unfold fr_pointPower
  refine tot_bindp (R := fun r_1 : Int32 => (0 ≤ r_1.toInt ∧ r_1.toInt ≤ 1)) (nf_isCell hP S a0 h_S ) (fun r_1 d_r_1 => ?_)
  replace d_r_1 : (0 ≤ r_1.toInt ∧ r_1.toInt ≤ 1) := d_r_1
  refine tot_if (fun c_5 => ?_) (fun c_5 => ?_)
  · replace c_5 := i_eq c_5
    unfold fr_pointPower_b21
    unfold fr_pointPower_b22
    refine tot_bind2 (nf_mayAsk hP S 0 h_S (by omega)) (fun r_6 S_7 d_r_6 => ?_)
    have h_S_7 : NC S_7 := d_r_6.1
    replace d_r_6 : (0 ≤ r_6.toInt ∧ r_6.toInt ≤ 0) := d_r_6.2
    refine tot_if (fun c_16 => ?_) (fun c_16 => ?_)
    · replace c_16 := i_eq c_16
      exact tot_some ⟨h_S_7, trivial⟩
    · replace c_16 := i_ne c_16
      exfalso
      omega
  · replace c_5 := i_ne c_5
    refine tot_bindp (R := fun r_3 : Int32 => (0 ≤ r_3.toInt ∧ r_3.toInt ≤ 1)) (nf_isCell hP S a1 h_S ) (fun r_3 d_r_3 => ?_)
    replace d_r_3 : (0 ≤ r_3.toInt ∧ r_3.toInt ≤ 1) := d_r_3
    refine tot_if (fun c_17 => ?_) (fun c_17 => ?_)
    · replace c_17 := i_eq c_17
      unfold fr_pointPower_b21
      unfold fr_pointPower_b22
      refine tot_bind2 (nf_mayAsk hP S 0 h_S (by omega)) (fun r_18 S_19 d_r_18 => ?_)
      have h_S_19 : NC S_19 := d_r_18.1
      replace d_r_18 : (0 ≤ r_18.toInt ∧ r_18.toInt ≤ 0) := d_r_18.2
      refine tot_if (fun c_28 => ?_) (fun c_28 => ?_)
      · replace c_28 := i_eq c_28
        exact tot_some ⟨h_S_19, trivial⟩
      · replace c_28 := i_ne c_28
        exfalso
        omega
    · replace c_17 := i_ne c_17
      unfold fr_pointPower_b22
      refine tot_bind2 (nf_mayAsk hP S 1 h_S (by omega)) (fun r_29 S_30 d_r_29 => ?_)
      have h_S_30 : NC S_30 := d_r_29.1
      replace d_r_29 : (0 ≤ r_29.toInt ∧ r_29.toInt ≤ 0) := d_r_29.2
      refine tot_if (fun c_39 => ?_) (fun c_39 => ?_)
      · replace c_39 := i_eq c_39
        exact tot_some ⟨h_S_30, trivial⟩
      · replace c_39 := i_ne c_39
        exfalso
        omega
set_option maxHeartbeats 4000000 in
set_option maxRecDepth 10000 in
theorem nf_bestWithout (hP : True) (S : MS) (a0 : Int32) (h_S : NC S) : Tot (fr_bestWithout S a0) (fun r => NC r.2 ∧ (0 ≤ r.1.toInt ∧ r.1.toInt ≤ 0)) := by
  have z0 : (0 : Int32).toInt = 0 := by decide
  have j_a0 := i_any a0
  unfold fr_bestWithout
  refine tot_bindp (R := fun r_1 : Int32 => (0 ≤ r_1.toInt ∧ r_1.toInt ≤ 1)) (nf_isMic hP S a0 h_S ) (fun r_1 d_r_1 => ?_)
  replace d_r_1 : (0 ≤ r_1.toInt ∧ r_1.toInt ≤ 1) := d_r_1
  refine tot_bind2 (nf_mayAsk hP S r_1 h_S (by omega)) (fun r_3 S_4 d_r_3 => ?_)
  have h_S_4 : NC S_4 := d_r_3.1
  replace d_r_3 : (0 ≤ r_3.toInt ∧ r_3.toInt ≤ 0) := d_r_3.2
  refine tot_if (fun c_10 => ?_) (fun c_10 => ?_)
  · replace c_10 := i_eq c_10
    exact tot_some ⟨h_S_4, (show (0 ≤ (0 : Int32).toInt ∧ (0 : Int32).toInt ≤ 0) from by omega)⟩
  · replace c_10 := i_ne c_10
    exfalso
    omega
set_option maxHeartbeats 4000000 in
set_option maxRecDepth 10000 in
theorem nf_bestIfOff (hP : True) (S : MS) (a0 : Int32) (h_S : NC S) : Tot (fr_bestIfOff S a0) (fun r => NC r.2 ∧ (0 ≤ r.1.toInt ∧ r.1.toInt ≤ 0)) := by
  have z0 : (0 : Int32).toInt = 0 := by decide
  have j_a0 := i_any a0
  unfold fr_bestIfOff
  refine tot_bindp (R := fun r_1 : Int32 => (0 ≤ r_1.toInt ∧ r_1.toInt ≤ 1)) (nf_isSource hP S a0 h_S ) (fun r_1 d_r_1 => ?_)
  replace d_r_1 : (0 ≤ r_1.toInt ∧ r_1.toInt ≤ 1) := d_r_1
  refine tot_bind2 (nf_mayAsk hP S r_1 h_S (by omega)) (fun r_3 S_4 d_r_3 => ?_)
  have h_S_4 : NC S_4 := d_r_3.1
  replace d_r_3 : (0 ≤ r_3.toInt ∧ r_3.toInt ≤ 0) := d_r_3.2
  refine tot_if (fun c_11 => ?_) (fun c_11 => ?_)
  · replace c_11 := i_eq c_11
    exact tot_some ⟨h_S_4, (show (0 ≤ (0 : Int32).toInt ∧ (0 : Int32).toInt ≤ 0) from by omega)⟩
  · replace c_11 := i_ne c_11
    exfalso
    omega
set_option maxHeartbeats 4000000 in
set_option maxRecDepth 10000 in
theorem nf_mute (hP : True) (S : MS) (a0 : Int32) (a1 : Int32) (h_S : NC S) : Tot (fr_mute S a0 a1) (fun r => NC r.2 ∧ (0 ≤ r.1.toInt ∧ r.1.toInt ≤ 0)) := by
  have z0 : (0 : Int32).toInt = 0 := by decide
  have j_a0 := i_any a0
  have j_a1 := i_any a1
  unfold fr_mute
  refine tot_bindp (R := fun r_1 : Int32 => (0 ≤ r_1.toInt ∧ r_1.toInt ≤ 1)) (nf_isMic hP S a0 h_S ) (fun r_1 d_r_1 => ?_)
  replace d_r_1 : (0 ≤ r_1.toInt ∧ r_1.toInt ≤ 1) := d_r_1
  refine tot_bind2 (nf_mayAsk hP S r_1 h_S (by omega)) (fun r_3 S_4 d_r_3 => ?_)
  have h_S_4 : NC S_4 := d_r_3.1
  replace d_r_3 : (0 ≤ r_3.toInt ∧ r_3.toInt ≤ 0) := d_r_3.2
  refine tot_if (fun c_6 => ?_) (fun c_6 => ?_)
  · replace c_6 := i_eq c_6
    unfold fr_mute_b36
    unfold fr_mute_b37
    refine tot_oif (i_b01 (by omega)) ?_
    exact tot_some ⟨h_S_4, (show (0 ≤ (0 : Int32).toInt ∧ (0 : Int32).toInt ≤ 0) from by omega)⟩
  · replace c_6 := i_ne c_6
    exfalso
    omega
set_option maxHeartbeats 4000000 in
set_option maxRecDepth 10000 in
theorem nf_setWeight (hP : True) (S : MS) (a0 : Int32) (a1 : Int32) (h_S : NC S) : Tot (fr_setWeight S a0 a1) (fun r => NC r.2 ∧ (0 ≤ r.1.toInt ∧ r.1.toInt ≤ 0)) := by
  have z0 : (0 : Int32).toInt = 0 := by decide
  have j_a0 := i_any a0
  have j_a1 := i_any a1
  unfold fr_setWeight
  refine tot_bindp (R := fun r_1 : Int32 => (0 ≤ r_1.toInt ∧ r_1.toInt ≤ 1)) (nf_isMic hP S a0 h_S ) (fun r_1 d_r_1 => ?_)
  replace d_r_1 : (0 ≤ r_1.toInt ∧ r_1.toInt ≤ 1) := d_r_1
  refine tot_bind2 (nf_mayAsk hP S r_1 h_S (by omega)) (fun r_3 S_4 d_r_3 => ?_)
  have h_S_4 : NC S_4 := d_r_3.1
  replace d_r_3 : (0 ≤ r_3.toInt ∧ r_3.toInt ≤ 0) := d_r_3.2
  refine tot_if (fun c_11 => ?_) (fun c_11 => ?_)
  · replace c_11 := i_eq c_11
    exact tot_some ⟨h_S_4, (show (0 ≤ (0 : Int32).toInt ∧ (0 : Int32).toInt ≤ 0) from by omega)⟩
  · replace c_11 := i_ne c_11
    exfalso
    omega
set_option maxHeartbeats 4000000 in
set_option maxRecDepth 10000 in
theorem nf_setOn (hP : True) (S : MS) (a0 : Int32) (a1 : Int32) (h_S : NC S) : Tot (fr_setOn S a0 a1) (fun r => NC r.2 ∧ (0 ≤ r.1.toInt ∧ r.1.toInt ≤ 0)) := by
  have z0 : (0 : Int32).toInt = 0 := by decide
  have j_a0 := i_any a0
  have j_a1 := i_any a1
  unfold fr_setOn
  refine tot_bindp (R := fun r_1 : Int32 => (0 ≤ r_1.toInt ∧ r_1.toInt ≤ 1)) (nf_isSource hP S a0 h_S ) (fun r_1 d_r_1 => ?_)
  replace d_r_1 : (0 ≤ r_1.toInt ∧ r_1.toInt ≤ 1) := d_r_1
  refine tot_bind2 (nf_mayAsk hP S r_1 h_S (by omega)) (fun r_3 S_4 d_r_3 => ?_)
  have h_S_4 : NC S_4 := d_r_3.1
  replace d_r_3 : (0 ≤ r_3.toInt ∧ r_3.toInt ≤ 0) := d_r_3.2
  refine tot_if (fun c_6 => ?_) (fun c_6 => ?_)
  · replace c_6 := i_eq c_6
    exact tot_some ⟨h_S_4, (show (0 ≤ (0 : Int32).toInt ∧ (0 : Int32).toInt ≤ 0) from by omega)⟩
  · replace c_6 := i_ne c_6
    exfalso
    omega
set_option maxHeartbeats 4000000 in
set_option maxRecDepth 10000 in
theorem nf_moveSource (hP : True) (S : MS) (a0 : Int32) (a1 : Int32) (a2 : Int32) (h_S : NC S) : Tot (fr_moveSource S a0 a1 a2) (fun r => NC r.2 ∧ (0 ≤ r.1.toInt ∧ r.1.toInt ≤ 0)) := by
  have z0 : (0 : Int32).toInt = 0 := by decide
  have j_a0 := i_any a0
  have j_a1 := i_any a1
  have j_a2 := i_any a2
  unfold fr_moveSource
  refine tot_bindp (R := fun r_1 : Int32 => (0 ≤ r_1.toInt ∧ r_1.toInt ≤ 1)) (nf_isSource hP S a0 h_S ) (fun r_1 d_r_1 => ?_)
  replace d_r_1 : (0 ≤ r_1.toInt ∧ r_1.toInt ≤ 1) := d_r_1
  refine tot_bind2 (nf_mayAsk hP S r_1 h_S (by omega)) (fun r_3 S_4 d_r_3 => ?_)
  have h_S_4 : NC S_4 := d_r_3.1
  replace d_r_3 : (0 ≤ r_3.toInt ∧ r_3.toInt ≤ 0) := d_r_3.2
  refine tot_if (fun c_10 => ?_) (fun c_10 => ?_)
  · replace c_10 := i_eq c_10
    exact tot_some ⟨h_S_4, (show (0 ≤ (0 : Int32).toInt ∧ (0 : Int32).toInt ≤ 0) from by omega)⟩
  · replace c_10 := i_ne c_10
    exfalso
    omega
set_option maxHeartbeats 4000000 in
set_option maxRecDepth 10000 in
theorem nf_setVelocity (hP : True) (S : MS) (a0 : Int32) (a1 : Int32) (a2 : Int32) (h_S : NC S) : Tot (fr_setVelocity S a0 a1 a2) (fun r => NC r.2 ∧ (0 ≤ r.1.toInt ∧ r.1.toInt ≤ 0)) := by
  have z0 : (0 : Int32).toInt = 0 := by decide
  have j_a0 := i_any a0
  have j_a1 := i_any a1
  have j_a2 := i_any a2
  unfold fr_setVelocity
  refine tot_bindp (R := fun r_1 : Int32 => (0 ≤ r_1.toInt ∧ r_1.toInt ≤ 1)) (nf_isSource hP S a0 h_S ) (fun r_1 d_r_1 => ?_)
  replace d_r_1 : (0 ≤ r_1.toInt ∧ r_1.toInt ≤ 1) := d_r_1
  refine tot_bind2 (nf_mayAsk hP S r_1 h_S (by omega)) (fun r_3 S_4 d_r_3 => ?_)
  have h_S_4 : NC S_4 := d_r_3.1
  replace d_r_3 : (0 ≤ r_3.toInt ∧ r_3.toInt ≤ 0) := d_r_3.2
  refine tot_if (fun c_11 => ?_) (fun c_11 => ?_)
  · replace c_11 := i_eq c_11
    exact tot_some ⟨h_S_4, (show (0 ≤ (0 : Int32).toInt ∧ (0 : Int32).toInt ≤ 0) from by omega)⟩
  · replace c_11 := i_ne c_11
    exfalso
    omega
set_option maxHeartbeats 4000000 in
set_option maxRecDepth 10000 in
theorem nf_clean (hP : True) (S : MS) (a0 : Int32) (h_S : NC S) : Tot (fr_clean S a0) (fun r => NC r.2 ∧ (0 ≤ r.1.toInt ∧ r.1.toInt ≤ 0)) := by
  have z0 : (0 : Int32).toInt = 0 := by decide
  have z1 : (1 : Int32).toInt = 1 := by decide
  have j_a0 := i_any a0
  unfold fr_clean
  refine tot_let (fun v_1 e_v_1 => ?_)
  have q_v_1 := i_eq e_v_1
  have r_v_1 := nc_20 h_S
  refine tot_if (fun c_5 => ?_) (fun c_5 => ?_)
  · replace c_5 := i_eq c_5
    unfold fr_clean_b15
    unfold fr_clean_b34
    refine tot_let (fun S_6 e_S_6 => ?_)
    have h_S_6 : NC S_6 := by rw [e_S_6]; exact nc_mi0 h_S _
    have f_S_6_0 : (S_6.1 0).toInt = (1 : Int32).toInt := by rw [e_S_6]; rfl
    refine tot_let (fun v_7 e_v_7 => ?_)
    have q_v_7 := i_eq e_v_7
    have r_v_7 := i_any v_7
    refine tot_if (fun c_14 => ?_) (fun c_14 => ?_)
    · replace c_14 := i_le c_14
      exfalso
      omega
    · replace c_14 := i_nle c_14
      exact tot_some ⟨h_S_6, (show (0 ≤ (0 : Int32).toInt ∧ (0 : Int32).toInt ≤ 0) from by omega)⟩
  · replace c_5 := i_ne c_5
    exfalso
    omega
set_option maxHeartbeats 4000000 in
set_option maxRecDepth 10000 in
theorem nf_cleaned (hP : True) (S : MS) (h_S : NC S) : Tot (fr_cleaned S) (fun r => NC r.2 ∧ (0 ≤ r.1.toInt ∧ r.1.toInt ≤ 0)) := by
  have z0 : (1 : Int32).toInt = 1 := by decide
  have z1 : (0 : Int32).toInt = 0 := by decide
  unfold fr_cleaned
  refine tot_bind2 (nf_mayAsk hP S 1 h_S (by omega)) (fun r_1 S_2 d_r_1 => ?_)
  have h_S_2 : NC S_2 := d_r_1.1
  replace d_r_1 : (0 ≤ r_1.toInt ∧ r_1.toInt ≤ 0) := d_r_1.2
  refine tot_if (fun c_4 => ?_) (fun c_4 => ?_)
  · replace c_4 := i_eq c_4
    unfold fr_cleaned_b18
    exact tot_some ⟨h_S_2, (show (0 ≤ (0 : Int32).toInt ∧ (0 : Int32).toInt ≤ 0) from by omega)⟩
  · replace c_4 := i_ne c_4
    exfalso
    omega
set_option maxHeartbeats 4000000 in
set_option maxRecDepth 10000 in
theorem nf_undo (hP : True) (S : MS) (h_S : NC S) : Tot (fr_undo S) (fun r => NC r.2 ∧ (0 ≤ r.1.toInt ∧ r.1.toInt ≤ 0)) := by
  have z0 : (0 : Int32).toInt = 0 := by decide
  have z1 : (1 : Int32).toInt = 1 := by decide
  unfold fr_undo
  refine tot_let (fun v_1 e_v_1 => ?_)
  have q_v_1 := i_eq e_v_1
  have r_v_1 := nc_19 h_S
  refine tot_if (fun c_2 => ?_) (fun c_2 => ?_)
  · replace c_2 := i_eq c_2
    unfold fr_undo_b13
    refine tot_let (fun S_3 e_S_3 => ?_)
    have h_S_3 : NC S_3 := by rw [e_S_3]; exact nc_mi0 h_S _
    have f_S_3_0 : (S_3.1 0).toInt = (1 : Int32).toInt := by rw [e_S_3]; rfl
    have f_S_3_19 : (S_3.1 19).toInt = (S.1 19).toInt := by rw [e_S_3]; rfl
    refine tot_let (fun v_4 e_v_4 => ?_)
    have q_v_4 := i_eq e_v_4
    have r_v_4 := i_any v_4
    refine tot_if (fun c_12 => ?_) (fun c_12 => ?_)
    · replace c_12 := i_le c_12
      exfalso
      omega
    · replace c_12 := i_nle c_12
      exact tot_some ⟨h_S_3, (show (0 ≤ (0 : Int32).toInt ∧ (0 : Int32).toInt ≤ 0) from by omega)⟩
  · replace c_2 := i_ne c_2
    exfalso
    omega
set_option maxHeartbeats 4000000 in
set_option maxRecDepth 10000 in
theorem nf_undoable (hP : True) (S : MS) (h_S : NC S) : Tot (fr_undoable S) (fun r => NC r.2 ∧ (0 ≤ r.1.toInt ∧ r.1.toInt ≤ 0)) := by
  have z0 : (0 : Int32).toInt = 0 := by decide
  unfold fr_undoable
  refine tot_let (fun S_1 e_S_1 => ?_)
  have h_S_1 : NC S_1 := by rw [e_S_1]; exact nc_mi0 h_S _
  refine tot_let (fun v_2 e_v_2 => ?_)
  have q_v_2 := i_eq e_v_2
  have r_v_2 := nc_19 h_S_1
  exact tot_some ⟨h_S_1, (show (0 ≤ v_2.toInt ∧ v_2.toInt ≤ 0) from by omega)⟩
set_option maxHeartbeats 4000000 in
set_option maxRecDepth 10000 in
theorem nf_save (hP : True) (S : MS) (a0 : Int32) (h_S : NC S) : Tot (fr_save S a0) (fun r => NC r.2 ∧ (0 ≤ r.1.toInt ∧ r.1.toInt ≤ 0)) := by
  have z0 : (0 : Int32).toInt = 0 := by decide
  have z1 : (1 : Int32).toInt = 1 := by decide
  have j_a0 := i_any a0
  unfold fr_save
  refine tot_bind (nf_in hP a0 0 1  ) (fun r_1 d_r_1 => ?_)
  replace d_r_1 : (r_1.toInt = 0 ∧ (a0.toInt < (0 : Int32).toInt ∨ (1 : Int32).toInt < a0.toInt) ∨ r_1.toInt = 1 ∧ (0 : Int32).toInt ≤ a0.toInt ∧ a0.toInt ≤ (1 : Int32).toInt) := d_r_1
  refine tot_bind2 (nf_mayAsk hP S r_1 h_S (by omega)) (fun r_2 S_3 d_r_2 => ?_)
  have h_S_3 : NC S_3 := d_r_2.1
  replace d_r_2 : (0 ≤ r_2.toInt ∧ r_2.toInt ≤ 0) := d_r_2.2
  refine tot_if (fun c_9 => ?_) (fun c_9 => ?_)
  · replace c_9 := i_eq c_9
    exact tot_some ⟨h_S_3, (show (0 ≤ (0 : Int32).toInt ∧ (0 : Int32).toInt ≤ 0) from by omega)⟩
  · replace c_9 := i_ne c_9
    exfalso
    omega
set_option maxHeartbeats 4000000 in
set_option maxRecDepth 10000 in
theorem nf_restore (hP : True) (S : MS) (a0 : Int32) (h_S : NC S) : Tot (fr_restore S a0) (fun r => NC r.2 ∧ (0 ≤ r.1.toInt ∧ r.1.toInt ≤ 0)) := by
  have z0 : (0 : Int32).toInt = 0 := by decide
  have z1 : (1 : Int32).toInt = 1 := by decide
  have z2 : (2 : Int32).toInt = 2 := by decide
  have j_a0 := i_any a0
  unfold fr_restore
  refine tot_bind (nf_in hP a0 0 1  ) (fun r_1 d_r_1 => ?_)
  replace d_r_1 : (r_1.toInt = 0 ∧ (a0.toInt < (0 : Int32).toInt ∨ (1 : Int32).toInt < a0.toInt) ∨ r_1.toInt = 1 ∧ (0 : Int32).toInt ≤ a0.toInt ∧ a0.toInt ≤ (1 : Int32).toInt) := d_r_1
  refine tot_if (fun c_3 => ?_) (fun c_3 => ?_)
  · replace c_3 := i_eq c_3
    unfold fr_restore_b28
    refine tot_let (fun S_4 e_S_4 => ?_)
    have h_S_4 : NC S_4 := by rw [e_S_4]; exact nc_mi0 h_S _
    have f_S_4_0 : (S_4.1 0).toInt = (1 : Int32).toInt := by rw [e_S_4]; rfl
    refine tot_let (fun v_5 e_v_5 => ?_)
    have q_v_5 := i_eq e_v_5
    have r_v_5 := i_any v_5
    refine tot_if (fun c_11 => ?_) (fun c_11 => ?_)
    · replace c_11 := i_le c_11
      exfalso
      omega
    · replace c_11 := i_nle c_11
      exact tot_some ⟨h_S_4, (show (0 ≤ (0 : Int32).toInt ∧ (0 : Int32).toInt ≤ 0) from by omega)⟩
  · replace c_3 := i_ne c_3
    refine tot_oif (i_inb (by omega) (by omega)) ?_
    refine tot_let (fun v_2 e_v_2 => ?_)
    have r_v_2 := nc_18 h_S a0 e_v_2 (by omega) (by omega)
    refine tot_if (fun c_12 => ?_) (fun c_12 => ?_)
    · replace c_12 := i_eq c_12
      unfold fr_restore_b28
      refine tot_let (fun S_13 e_S_13 => ?_)
      have h_S_13 : NC S_13 := by rw [e_S_13]; exact nc_mi0 h_S _
      have f_S_13_0 : (S_13.1 0).toInt = (2 : Int32).toInt := by rw [e_S_13]; rfl
      refine tot_let (fun v_14 e_v_14 => ?_)
      have q_v_14 := i_eq e_v_14
      have r_v_14 := i_any v_14
      refine tot_if (fun c_20 => ?_) (fun c_20 => ?_)
      · replace c_20 := i_le c_20
        exfalso
        omega
      · replace c_20 := i_nle c_20
        exact tot_some ⟨h_S_13, (show (0 ≤ (0 : Int32).toInt ∧ (0 : Int32).toInt ≤ 0) from by omega)⟩
    · replace c_12 := i_ne c_12
      exfalso
      omega
end
section
/-! 12k.jj.lean.txt -/
theorem sj_buffered (S : MS)  (h : JJ S) : Tot (fr_buffered S ) (fun r => JJ r.2) := by
  rcases h with ⟨P, hP, h⟩ | h
  · exact tot_w (sf_buffered hP S  h) (fun r q => .inl ⟨P, hP, q.1⟩)
  · exact tot_w (nf_buffered trivial S  h) (fun r q => .inr (q.1))
theorem sj_parseError (S : MS)  (h : JJ S) : Tot (fr_parseError S ) (fun r => JJ r.2) := by
  rcases h with ⟨P, hP, h⟩ | h
  · exact tot_w (sf_parseError hP S  h) (fun r q => .inl ⟨P, hP, q.1⟩)
  · exact tot_w (nf_parseError trivial S  h) (fun r q => .inr (q.1))
theorem sj_errorPosition (S : MS)  (h : JJ S) : Tot (fr_errorPosition S ) (fun r => JJ r.2) := by
  rcases h with ⟨P, hP, h⟩ | h
  · exact tot_w (sf_errorPosition hP S  h) (fun r q => .inl ⟨P, hP, q.1⟩)
  · exact tot_w (nf_errorPosition trivial S  h) (fun r q => .inr (q.1))
theorem sj_mics (S : MS)  (h : JJ S) : Tot (fr_mics S ) (fun r => JJ r.2) := by
  rcases h with ⟨P, hP, h⟩ | h
  · exact tot_w (sf_mics hP S  h) (fun r q => .inl ⟨P, hP, q.1⟩)
  · exact tot_w (nf_mics trivial S  h) (fun r q => .inr (q.1))
theorem sj_micAt (S : MS) (a0 : Int32) (a1 : Int32) (h : JJ S) : Tot (fr_micAt S a0 a1) (fun r => JJ r.2) := by
  rcases h with ⟨P, hP, h⟩ | h
  · exact tot_w (sf_micAt hP S a0 a1 h) (fun r q => .inl ⟨P, hP, q.1⟩)
  · exact tot_w (nf_micAt trivial S a0 a1 h) (fun r q => .inr (q.1))
theorem sj_isMuted (S : MS) (a0 : Int32) (h : JJ S) : Tot (fr_isMuted S a0) (fun r => JJ r.2) := by
  rcases h with ⟨P, hP, h⟩ | h
  · exact tot_w (sf_isMuted hP S a0 h) (fun r q => .inl ⟨P, hP, q.1⟩)
  · exact tot_w (nf_isMuted trivial S a0 h) (fun r q => .inr (q.1))
theorem sj_columns (S : MS)  (h : JJ S) : Tot (fr_columns S ) (fun r => JJ r.2) := by
  rcases h with ⟨P, hP, h⟩ | h
  · exact tot_w (sf_columns hP S  h) (fun r q => .inl ⟨P, hP, q.1⟩)
  · exact tot_w (nf_columns trivial S  h) (fun r q => .inr (q.1))
theorem sj_rows (S : MS)  (h : JJ S) : Tot (fr_rows S ) (fun r => JJ r.2) := by
  rcases h with ⟨P, hP, h⟩ | h
  · exact tot_w (sf_rows hP S  h) (fun r q => .inl ⟨P, hP, q.1⟩)
  · exact tot_w (nf_rows trivial S  h) (fun r q => .inr (q.1))
theorem sj_cellAt (S : MS) (a0 : Int32) (a1 : Int32) (h : JJ S) : Tot (fr_cellAt S a0 a1) (fun r => JJ r.2) := by
  rcases h with ⟨P, hP, h⟩ | h
  · exact tot_w (sf_cellAt hP S a0 a1 h) (fun r q => .inl ⟨P, hP, q.1⟩)
  · exact tot_w (nf_cellAt trivial S a0 a1 h) (fun r q => .inr (q.1))
theorem sj_sources (S : MS)  (h : JJ S) : Tot (fr_sources S ) (fun r => JJ r.2) := by
  rcases h with ⟨P, hP, h⟩ | h
  · exact tot_w (sf_sources hP S  h) (fun r q => .inl ⟨P, hP, q.1⟩)
  · exact tot_w (nf_sources trivial S  h) (fun r q => .inr (q.1))
theorem sj_sourceAt (S : MS) (a0 : Int32) (a1 : Int32) (a2 : Int32) (h : JJ S) : Tot (fr_sourceAt S a0 a1 a2) (fun r => JJ r.2) := by
  rcases h with ⟨P, hP, h⟩ | h
  · exact tot_w (sf_sourceAt hP S a0 a1 a2 h) (fun r q => .inl ⟨P, hP, q.1⟩)
  · exact tot_w (nf_sourceAt trivial S a0 a1 a2 h) (fun r q => .inr (q.1))
theorem sj_isOn (S : MS) (a0 : Int32) (h : JJ S) : Tot (fr_isOn S a0) (fun r => JJ r.2) := by
  rcases h with ⟨P, hP, h⟩ | h
  · exact tot_w (sf_isOn hP S a0 h) (fun r q => .inl ⟨P, hP, q.1⟩)
  · exact tot_w (nf_isOn trivial S a0 h) (fun r q => .inr (q.1))
theorem sj_waveAt (S : MS) (a0 : Int32) (a1 : Int32) (h : JJ S) : Tot (fr_waveAt S a0 a1) (fun r => JJ r.2) := by
  rcases h with ⟨P, hP, h⟩ | h
  · exact tot_w (sf_waveAt hP S a0 a1 h) (fun r q => .inl ⟨P, hP, q.1⟩)
  · exact tot_w (nf_waveAt trivial S a0 a1 h) (fun r q => .inr (q.1))
theorem sj_samples (S : MS)  (h : JJ S) : Tot (fr_samples S ) (fun r => JJ r.2) := by
  rcases h with ⟨P, hP, h⟩ | h
  · exact tot_w (sf_samples hP S  h) (fun r q => .inl ⟨P, hP, q.1⟩)
  · exact tot_w (nf_samples trivial S  h) (fun r q => .inr (q.1))
theorem sj_delay (S : MS) (a0 : Int32) (a1 : Int32) (h : JJ S) : Tot (fr_delay S a0 a1) (fun r => JJ r.2) := by
  rcases h with ⟨P, hP, h⟩ | h
  · exact tot_w (sf_delay hP S a0 a1 h) (fun r q => .inl ⟨P, hP, q.1⟩)
  · exact tot_w (nf_delay trivial S a0 a1 h) (fun r q => .inr (q.1))
theorem sj_delayTo (S : MS) (a0 : Int32) (a1 : Int32) (a2 : Int32) (h : JJ S) : Tot (fr_delayTo S a0 a1 a2) (fun r => JJ r.2) := by
  rcases h with ⟨P, hP, h⟩ | h
  · exact tot_w (sf_delayTo hP S a0 a1 a2 h) (fun r q => .inl ⟨P, hP, q.1⟩)
  · exact tot_w (nf_delayTo trivial S a0 a1 a2 h) (fun r q => .inr (q.1))
theorem sj_spread (S : MS) (a0 : Int32) (h : JJ S) : Tot (fr_spread S a0) (fun r => JJ r.2) := by
  rcases h with ⟨P, hP, h⟩ | h
  · exact tot_w (sf_spread hP S a0 h) (fun r q => .inl ⟨P, hP, q.1⟩)
  · exact tot_w (nf_spread trivial S a0 h) (fun r q => .inr (q.1))
theorem sj_window (S : MS) (a0 : Int32) (h : JJ S) : Tot (fr_window S a0) (fun r => JJ r.2) := by
  rcases h with ⟨P, hP, h⟩ | h
  · exact tot_w (sf_window hP S a0 h) (fun r q => .inl ⟨P, hP, q.1⟩)
  · exact tot_w (nf_window trivial S a0 h) (fun r q => .inr (q.1))
theorem sj_sample (S : MS) (a0 : Int32) (a1 : Int32) (h : JJ S) : Tot (fr_sample S a0 a1) (fun r => JJ r.2) := by
  rcases h with ⟨P, hP, h⟩ | h
  · exact tot_w (sf_sample hP S a0 a1 h) (fun r q => .inl ⟨P, hP, q.1⟩)
  · exact tot_w (nf_sample trivial S a0 a1 h) (fun r q => .inr (q.1))
theorem sj_beam (S : MS) (a0 : Int32) (a1 : Int32) (h : JJ S) : Tot (fr_beam S a0 a1) (fun r => JJ r.2) := by
  rcases h with ⟨P, hP, h⟩ | h
  · exact tot_w (sf_beam hP S a0 a1 h) (fun r q => .inl ⟨P, hP, q.1⟩)
  · exact tot_w (nf_beam trivial S a0 a1 h) (fun r q => .inr (q.1))
theorem sj_power (S : MS) (a0 : Int32) (h : JJ S) : Tot (fr_power S a0) (fun r => JJ r.2) := by
  rcases h with ⟨P, hP, h⟩ | h
  · exact tot_w (sf_power hP S a0 h) (fun r q => .inl ⟨P, hP, q.1⟩)
  · exact tot_w (nf_power trivial S a0 h) (fun r q => .inr (q.1))
theorem sj_powerAt (S : MS) (a0 : Int32) (a1 : Int32) (h : JJ S) : Tot (fr_powerAt S a0 a1) (fun r => JJ r.2) := by
  rcases h with ⟨P, hP, h⟩ | h
  · exact tot_w (sf_powerAt hP S a0 a1 h) (fun r q => .inl ⟨P, hP, q.1⟩)
  · exact tot_w (nf_powerAt trivial S a0 a1 h) (fun r q => .inr (q.1))
theorem sj_best (S : MS)  (h : JJ S) : Tot (fr_best S ) (fun r => JJ r.2) := by
  rcases h with ⟨P, hP, h⟩ | h
  · exact tot_w (sf_best hP S  h) (fun r q => .inl ⟨P, hP, q.1⟩)
  · exact tot_w (nf_best trivial S  h) (fun r q => .inr (q.1))
theorem sj_bestPower (S : MS)  (h : JJ S) : Tot (fr_bestPower S ) (fun r => JJ r.2) := by
  rcases h with ⟨P, hP, h⟩ | h
  · exact tot_w (sf_bestPower hP S  h) (fun r q => .inl ⟨P, hP, q.1⟩)
  · exact tot_w (nf_bestPower trivial S  h) (fun r q => .inr (q.1))
theorem sj_meanPower (S : MS)  (h : JJ S) : Tot (fr_meanPower S ) (fun r => JJ r.2) := by
  rcases h with ⟨P, hP, h⟩ | h
  · exact tot_w (sf_meanPower hP S  h) (fun r q => .inl ⟨P, hP, q.1⟩)
  · exact tot_w (nf_meanPower trivial S  h) (fun r q => .inr (q.1))
theorem sj_peaks (S : MS)  (h : JJ S) : Tot (fr_peaks S ) (fun r => JJ r.2) := by
  rcases h with ⟨P, hP, h⟩ | h
  · exact tot_w (sf_peaks hP S  h) (fun r q => .inl ⟨P, hP, q.1⟩)
  · exact tot_w (nf_peaks trivial S  h) (fun r q => .inr (q.1))
theorem sj_peakAt (S : MS) (a0 : Int32) (h : JJ S) : Tot (fr_peakAt S a0) (fun r => JJ r.2) := by
  rcases h with ⟨P, hP, h⟩ | h
  · exact tot_w (sf_peakAt hP S a0 h) (fun r q => .inl ⟨P, hP, q.1⟩)
  · exact tot_w (nf_peakAt trivial S a0 h) (fun r q => .inr (q.1))
theorem sj_isPeak (S : MS) (a0 : Int32) (h : JJ S) : Tot (fr_isPeak S a0) (fun r => JJ r.2) := by
  rcases h with ⟨P, hP, h⟩ | h
  · exact tot_w (sf_isPeak hP S a0 h) (fun r q => .inl ⟨P, hP, q.1⟩)
  · exact tot_w (nf_isPeak trivial S a0 h) (fun r q => .inr (q.1))
theorem sj_contrast (S : MS)  (h : JJ S) : Tot (fr_contrast S ) (fun r => JJ r.2) := by
  rcases h with ⟨P, hP, h⟩ | h
  · exact tot_w (sf_contrast hP S  h) (fun r q => .inl ⟨P, hP, q.1⟩)
  · exact tot_w (nf_contrast trivial S  h) (fun r q => .inr (q.1))
theorem sj_alias (S : MS) (a0 : Int32) (a1 : Int32) (a2 : Int32) (h : JJ S) : Tot (fr_alias S a0 a1 a2) (fun r => JJ r.2) := by
  rcases h with ⟨P, hP, h⟩ | h
  · exact tot_w (sf_alias hP S a0 a1 a2 h) (fun r q => .inl ⟨P, hP, q.1⟩)
  · exact tot_w (nf_alias trivial S a0 a1 a2 h) (fun r q => .inr (q.1))
theorem sj_isAlias (S : MS) (a0 : Int32) (a1 : Int32) (a2 : Int32) (h : JJ S) : Tot (fr_isAlias S a0 a1 a2) (fun r => JJ r.2) := by
  rcases h with ⟨P, hP, h⟩ | h
  · exact tot_w (sf_isAlias hP S a0 a1 a2 h) (fun r q => .inl ⟨P, hP, q.1⟩)
  · exact tot_w (nf_isAlias trivial S a0 a1 a2 h) (fun r q => .inr (q.1))
theorem sj_aliases (S : MS) (a0 : Int32) (a1 : Int32) (h : JJ S) : Tot (fr_aliases S a0 a1) (fun r => JJ r.2) := by
  rcases h with ⟨P, hP, h⟩ | h
  · exact tot_w (sf_aliases hP S a0 a1 h) (fun r q => .inl ⟨P, hP, q.1⟩)
  · exact tot_w (nf_aliases trivial S a0 a1 h) (fun r q => .inr (q.1))
theorem sj_blockPower (S : MS) (a0 : Int32) (a1 : Int32) (a2 : Int32) (h : JJ S) : Tot (fr_blockPower S a0 a1 a2) (fun r => JJ r.2) := by
  rcases h with ⟨P, hP, h⟩ | h
  · exact tot_w (sf_blockPower hP S a0 a1 a2 h) (fun r q => .inl ⟨P, hP, q.1⟩)
  · exact tot_w (nf_blockPower trivial S a0 a1 a2 h) (fun r q => .inr (q.1))
theorem sj_blockBest (S : MS) (a0 : Int32) (a1 : Int32) (h : JJ S) : Tot (fr_blockBest S a0 a1) (fun r => JJ r.2) := by
  rcases h with ⟨P, hP, h⟩ | h
  · exact tot_w (sf_blockBest hP S a0 a1 h) (fun r q => .inl ⟨P, hP, q.1⟩)
  · exact tot_w (nf_blockBest trivial S a0 a1 h) (fun r q => .inr (q.1))
theorem sj_path (S : MS) (a0 : Int32) (h : JJ S) : Tot (fr_path S a0) (fun r => JJ r.2) := by
  rcases h with ⟨P, hP, h⟩ | h
  · exact tot_w (sf_path hP S a0 h) (fun r q => .inl ⟨P, hP, q.1⟩)
  · exact tot_w (nf_path trivial S a0 h) (fun r q => .inr (q.1))
theorem sj_trackScore (S : MS) (a0 : Int32) (h : JJ S) : Tot (fr_trackScore S a0) (fun r => JJ r.2) := by
  rcases h with ⟨P, hP, h⟩ | h
  · exact tot_w (sf_trackScore hP S a0 h) (fun r q => .inl ⟨P, hP, q.1⟩)
  · exact tot_w (nf_trackScore trivial S a0 h) (fun r q => .inr (q.1))
theorem sj_trackCell (S : MS) (a0 : Int32) (a1 : Int32) (h : JJ S) : Tot (fr_trackCell S a0 a1) (fun r => JJ r.2) := by
  rcases h with ⟨P, hP, h⟩ | h
  · exact tot_w (sf_trackCell hP S a0 a1 h) (fun r q => .inl ⟨P, hP, q.1⟩)
  · exact tot_w (nf_trackCell trivial S a0 a1 h) (fun r q => .inr (q.1))
theorem sj_zonePower (S : MS) (a0 : Int32) (h : JJ S) : Tot (fr_zonePower S a0) (fun r => JJ r.2) := by
  rcases h with ⟨P, hP, h⟩ | h
  · exact tot_w (sf_zonePower hP S a0 h) (fun r q => .inl ⟨P, hP, q.1⟩)
  · exact tot_w (nf_zonePower trivial S a0 h) (fun r q => .inr (q.1))
theorem sj_zoneBest (S : MS) (a0 : Int32) (h : JJ S) : Tot (fr_zoneBest S a0) (fun r => JJ r.2) := by
  rcases h with ⟨P, hP, h⟩ | h
  · exact tot_w (sf_zoneBest hP S a0 h) (fun r q => .inl ⟨P, hP, q.1⟩)
  · exact tot_w (nf_zoneBest trivial S a0 h) (fun r q => .inr (q.1))
theorem sj_movingPower (S : MS) (a0 : Int32) (a1 : Int32) (a2 : Int32) (h : JJ S) : Tot (fr_movingPower S a0 a1 a2) (fun r => JJ r.2) := by
  rcases h with ⟨P, hP, h⟩ | h
  · exact tot_w (sf_movingPower hP S a0 a1 a2 h) (fun r q => .inl ⟨P, hP, q.1⟩)
  · exact tot_w (nf_movingPower trivial S a0 a1 a2 h) (fun r q => .inr (q.1))
theorem sj_bestVelocity (S : MS) (a0 : Int32) (a1 : Int32) (a2 : Int32) (h : JJ S) : Tot (fr_bestVelocity S a0 a1 a2) (fun r => JJ r.2) := by
  rcases h with ⟨P, hP, h⟩ | h
  · exact tot_w (sf_bestVelocity hP S a0 a1 a2 h) (fun r q => .inl ⟨P, hP, q.1⟩)
  · exact tot_w (nf_bestVelocity trivial S a0 a1 a2 h) (fun r q => .inr (q.1))
theorem sj_correlation (S : MS) (a0 : Int32) (a1 : Int32) (a2 : Int32) (h : JJ S) : Tot (fr_correlation S a0 a1 a2) (fun r => JJ r.2) := by
  rcases h with ⟨P, hP, h⟩ | h
  · exact tot_w (sf_correlation hP S a0 a1 a2 h) (fun r q => .inl ⟨P, hP, q.1⟩)
  · exact tot_w (nf_correlation trivial S a0 a1 a2 h) (fun r q => .inr (q.1))
theorem sj_bestLag (S : MS) (a0 : Int32) (a1 : Int32) (a2 : Int32) (h : JJ S) : Tot (fr_bestLag S a0 a1 a2) (fun r => JJ r.2) := by
  rcases h with ⟨P, hP, h⟩ | h
  · exact tot_w (sf_bestLag hP S a0 a1 a2 h) (fun r q => .inl ⟨P, hP, q.1⟩)
  · exact tot_w (nf_bestLag trivial S a0 a1 a2 h) (fun r q => .inr (q.1))
theorem sj_level (S : MS) (a0 : Int32) (h : JJ S) : Tot (fr_level S a0) (fun r => JJ r.2) := by
  rcases h with ⟨P, hP, h⟩ | h
  · exact tot_w (sf_level hP S a0 h) (fun r q => .inl ⟨P, hP, q.1⟩)
  · exact tot_w (nf_level trivial S a0 h) (fun r q => .inr (q.1))
theorem sj_loudest (S : MS) (a0 : Int32) (h : JJ S) : Tot (fr_loudest S a0) (fun r => JJ r.2) := by
  rcases h with ⟨P, hP, h⟩ | h
  · exact tot_w (sf_loudest hP S a0 h) (fun r q => .inl ⟨P, hP, q.1⟩)
  · exact tot_w (nf_loudest trivial S a0 h) (fun r q => .inr (q.1))
theorem sj_writeMap (S : MS)  (h : JJ S) : Tot (fr_writeMap S ) (fun r => JJ r.2) := by
  rcases h with ⟨P, hP, h⟩ | h
  · exact tot_w (sf_writeMap hP S  h) (fun r q => .inl ⟨P, hP, q.1⟩)
  · exact tot_w (nf_writeMap trivial S  h) (fun r q => .inr (q.1))
theorem sj_mapByte (S : MS) (a0 : Int32) (h : JJ S) : Tot (fr_mapByte S a0) (fun r => JJ r.2) := by
  rcases h with ⟨P, hP, h⟩ | h
  · exact tot_w (sf_mapByte hP S a0 h) (fun r q => .inl ⟨P, hP, q.1⟩)
  · exact tot_w (nf_mapByte trivial S a0 h) (fun r q => .inr (q.1))
theorem sj_pointBest (S : MS) (a0 : Int32) (a1 : Int32) (h : JJ S) : Tot (fr_pointBest S a0 a1) (fun r => JJ r.2) := by
  rcases h with ⟨P, hP, h⟩ | h
  · exact tot_w (sf_pointBest hP S a0 a1 h) (fun r q => .inl ⟨P, hP, q.1⟩)
  · exact tot_w (nf_pointBest trivial S a0 a1 h) (fun r q => .inr (q.1))
theorem sj_pointPower (S : MS) (a0 : Int32) (a1 : Int32) (a2 : Int32) (h : JJ S) : Tot (fr_pointPower S a0 a1 a2) (fun r => JJ r.2) := by
  rcases h with ⟨P, hP, h⟩ | h
  · exact tot_w (sf_pointPower hP S a0 a1 a2 h) (fun r q => .inl ⟨P, hP, q.1⟩)
  · exact tot_w (nf_pointPower trivial S a0 a1 a2 h) (fun r q => .inr (q.1))
theorem sj_bestWithout (S : MS) (a0 : Int32) (h : JJ S) : Tot (fr_bestWithout S a0) (fun r => JJ r.2) := by
  rcases h with ⟨P, hP, h⟩ | h
  · exact tot_w (sf_bestWithout hP S a0 h) (fun r q => .inl ⟨P, hP, q.1⟩)
  · exact tot_w (nf_bestWithout trivial S a0 h) (fun r q => .inr (q.1))
theorem sj_bestIfOff (S : MS) (a0 : Int32) (h : JJ S) : Tot (fr_bestIfOff S a0) (fun r => JJ r.2) := by
  rcases h with ⟨P, hP, h⟩ | h
  · exact tot_w (sf_bestIfOff hP S a0 h) (fun r q => .inl ⟨P, hP, q.1⟩)
  · exact tot_w (nf_bestIfOff trivial S a0 h) (fun r q => .inr (q.1))
theorem sj_mute (S : MS) (a0 : Int32) (a1 : Int32) (h : JJ S) : Tot (fr_mute S a0 a1) (fun r => JJ r.2) := by
  rcases h with ⟨P, hP, h⟩ | h
  · exact tot_w (sf_mute hP S a0 a1 h) (fun r q => .inl ⟨P, hP, q.1⟩)
  · exact tot_w (nf_mute trivial S a0 a1 h) (fun r q => .inr (q.1))
theorem sj_setWeight (S : MS) (a0 : Int32) (a1 : Int32) (h : JJ S) : Tot (fr_setWeight S a0 a1) (fun r => JJ r.2) := by
  rcases h with ⟨P, hP, h⟩ | h
  · exact tot_w (sf_setWeight hP S a0 a1 h) (fun r q => .inl ⟨P, hP, q.1⟩)
  · exact tot_w (nf_setWeight trivial S a0 a1 h) (fun r q => .inr (q.1))
theorem sj_setOn (S : MS) (a0 : Int32) (a1 : Int32) (h : JJ S) : Tot (fr_setOn S a0 a1) (fun r => JJ r.2) := by
  rcases h with ⟨P, hP, h⟩ | h
  · exact tot_w (sf_setOn hP S a0 a1 h) (fun r q => .inl ⟨P, hP, q.1⟩)
  · exact tot_w (nf_setOn trivial S a0 a1 h) (fun r q => .inr (q.1))
theorem sj_moveSource (S : MS) (a0 : Int32) (a1 : Int32) (a2 : Int32) (h : JJ S) : Tot (fr_moveSource S a0 a1 a2) (fun r => JJ r.2) := by
  rcases h with ⟨P, hP, h⟩ | h
  · exact tot_w (sf_moveSource hP S a0 a1 a2 h) (fun r q => .inl ⟨P, hP, q.1⟩)
  · exact tot_w (nf_moveSource trivial S a0 a1 a2 h) (fun r q => .inr (q.1))
theorem sj_setVelocity (S : MS) (a0 : Int32) (a1 : Int32) (a2 : Int32) (h : JJ S) : Tot (fr_setVelocity S a0 a1 a2) (fun r => JJ r.2) := by
  rcases h with ⟨P, hP, h⟩ | h
  · exact tot_w (sf_setVelocity hP S a0 a1 a2 h) (fun r q => .inl ⟨P, hP, q.1⟩)
  · exact tot_w (nf_setVelocity trivial S a0 a1 a2 h) (fun r q => .inr (q.1))
theorem sj_clean (S : MS) (a0 : Int32) (h : JJ S) : Tot (fr_clean S a0) (fun r => JJ r.2) := by
  rcases h with ⟨P, hP, h⟩ | h
  · exact tot_w (sf_clean hP S a0 h) (fun r q => .inl ⟨P, hP, q.1⟩)
  · exact tot_w (nf_clean trivial S a0 h) (fun r q => .inr (q.1))
theorem sj_cleaned (S : MS)  (h : JJ S) : Tot (fr_cleaned S ) (fun r => JJ r.2) := by
  rcases h with ⟨P, hP, h⟩ | h
  · exact tot_w (sf_cleaned hP S  h) (fun r q => .inl ⟨P, hP, q.1⟩)
  · exact tot_w (nf_cleaned trivial S  h) (fun r q => .inr (q.1))
theorem sj_undo (S : MS)  (h : JJ S) : Tot (fr_undo S ) (fun r => JJ r.2) := by
  rcases h with ⟨P, hP, h⟩ | h
  · exact tot_w (sf_undo hP S  h) (fun r q => .inl ⟨P, hP, q.1⟩)
  · exact tot_w (nf_undo trivial S  h) (fun r q => .inr (q.1))
theorem sj_undoable (S : MS)  (h : JJ S) : Tot (fr_undoable S ) (fun r => JJ r.2) := by
  rcases h with ⟨P, hP, h⟩ | h
  · exact tot_w (sf_undoable hP S  h) (fun r q => .inl ⟨P, hP, q.1⟩)
  · exact tot_w (nf_undoable trivial S  h) (fun r q => .inr (q.1))
theorem sj_save (S : MS) (a0 : Int32) (h : JJ S) : Tot (fr_save S a0) (fun r => JJ r.2) := by
  rcases h with ⟨P, hP, h⟩ | h
  · exact tot_w (sf_save hP S a0 h) (fun r q => .inl ⟨P, hP, q.1⟩)
  · exact tot_w (nf_save trivial S a0 h) (fun r q => .inr (q.1))
theorem sj_restore (S : MS) (a0 : Int32) (h : JJ S) : Tot (fr_restore S a0) (fun r => JJ r.2) := by
  rcases h with ⟨P, hP, h⟩ | h
  · exact tot_w (sf_restore hP S a0 h) (fun r q => .inl ⟨P, hP, q.1⟩)
  · exact tot_w (nf_restore trivial S a0 h) (fun r q => .inr (q.1))
end
section
/-! 13a.iv.lean.txt -/
/-! The class: roles of its cells, and what holds of each (IV) -/
def isW (r : Nat) : Bool := Nat.ble 101 r && Nat.ble r 105
def isRW (r : Nat) : Bool := Nat.ble 111 r && Nat.ble r 115
def cnt (r : Nat) : Nat := bif Nat.beq r 101 then 1 else bif Nat.beq r 102 then 12 else bif Nat.beq r 103 then 144 else bif Nat.beq r 104 then 2400 else 7200
def shp (r : Nat) : Nat × Nat :=
  bif isW r then (10, 0) else bif isRW r then (107, 40) else
  bif Nat.ble r 12 then (r, 0) else bif Nat.beq r 20 then (0, 0) else
  bif Nat.beq r 41 then (100, 1000) else bif Nat.beq r 42 then (100, 1001) else bif Nat.beq r 43 then (100, 1001) else bif Nat.beq r 44 then (100, 1001) else
  bif Nat.beq r 45 then (106, 12) else bif Nat.beq r 46 then (100, 200) else bif Nat.beq r 47 then (105, 6) else bif Nat.beq r 48 then (105, 2) else
  bif Nat.beq r 49 then (102, 2) else bif Nat.beq r 50 then (100, 12) else bif Nat.beq r 51 then (106, 144) else bif Nat.beq r 52 then (100, 155) else
  bif Nat.beq r 53 then (103, 12) else bif Nat.beq r 54 then (104, 6) else bif Nat.beq r 55 then (100, 2) else bif Nat.beq r 56 then (100, 2) else
  bif Nat.beq r 57 then (100, 5) else bif Nat.beq r 58 then (100, 12) else bif Nat.beq r 59 then (100, 4) else bif Nat.beq r 60 then (106, 4) else
  bif Nat.beq r 61 then (100, 4) else bif Nat.beq r 62 then (102, 12) else bif Nat.beq r 63 then (100, 12) else bif Nat.beq r 64 then (102, 6) else
  bif Nat.beq r 65 then (100, 6) else bif Nat.beq r 66 then (100, 6) else bif Nat.beq r 67 then (100, 144) else (0, 0)
/-- where a reference leads: by role and place (99: no reference) -/
def rtg (r k : Nat) : Nat :=
  bif isW r then (bif Nat.beq k 1 then r + 10 else 99) else bif isRW r then (bif Nat.blt k 40 then 30 else 99) else
  bif Nat.beq r 11 then (bif Nat.beq k 0 then 9 else bif Nat.beq k 1 then 3 else bif Nat.beq k 2 then 5 else bif Nat.beq k 3 then 20 else bif Nat.beq k 4 then 4 else bif Nat.beq k 5 then 4 else bif Nat.beq k 6 then 8 else bif Nat.beq k 7 then 8 else bif Nat.beq k 8 then 47 else bif Nat.beq k 9 then 48 else bif Nat.beq k 10 then 49 else bif Nat.beq k 11 then 50 else bif Nat.beq k 12 then 102 else bif Nat.beq k 13 then 52 else bif Nat.beq k 14 then 6 else bif Nat.beq k 15 then 6 else 99) else
  bif Nat.beq r 9 then (bif Nat.beq k 0 then 41 else bif Nat.beq k 2 then 42 else bif Nat.beq k 3 then 43 else bif Nat.beq k 4 then 44 else 99) else
  bif Nat.beq r 3 then (bif Nat.beq k 0 then 9 else 99) else
  bif Nat.beq r 5 then (bif Nat.beq k 0 then 45 else bif Nat.beq k 1 then 7 else 99) else
  bif Nat.beq r 20 then (bif Nat.beq k 0 then 105 else 99) else
  bif Nat.beq r 4 then (bif Nat.beq k 1 then 103 else bif Nat.beq k 4 then 67 else bif Nat.beq k 5 then 103 else 99) else
  bif Nat.beq r 8 then (bif Nat.beq k 3 then 62 else bif Nat.beq k 4 then 63 else bif Nat.beq k 5 then 64 else bif Nat.beq k 6 then 65 else bif Nat.beq k 7 then 65 else bif Nat.beq k 8 then 66 else bif Nat.beq k 9 then 66 else bif Nat.beq k 10 then 104 else bif Nat.beq k 11 then 101 else 99) else
  bif Nat.beq r 6 then (bif Nat.beq k 4 then 53 else bif Nat.beq k 6 then 1 else bif Nat.beq k 7 then 54 else bif Nat.beq k 9 then 55 else bif Nat.beq k 10 then 56 else bif Nat.beq k 13 then 57 else bif Nat.beq k 15 then 58 else bif Nat.beq k 17 then 51 else 99) else
  bif Nat.beq r 1 then (bif Nat.beq k 5 then 59 else bif Nat.beq k 6 then 60 else bif Nat.beq k 8 then 61 else 99) else
  bif Nat.beq r 45 then (bif Nat.blt k 12 then 46 else 99) else bif Nat.beq r 47 then (bif Nat.blt k 6 then 8 else 99) else bif Nat.beq r 48 then (bif Nat.blt k 2 then 8 else 99) else
  bif Nat.beq r 51 then (bif Nat.blt k 144 then 50 else 99) else bif Nat.beq r 53 then (bif Nat.blt k 12 then 2 else 99) else bif Nat.beq r 54 then (bif Nat.blt k 6 then 7 else 99) else
  bif Nat.beq r 60 then (bif Nat.blt k 4 then 59 else 99) else 99
/-- between what an int lies -/
def iR (r k : Nat) : Int × Int :=
  bif isW r then (bif Nat.beq k 0 then ((cnt r : Int), (cnt r : Int)) else bif Nat.beq k 2 then (1, 40) else (-2147483648, 2147483647)) else
  bif Nat.beq r 11 then (bif Nat.beq k 16 then (0, 6) else bif Nat.beq k 17 then (0, 5) else bif Nat.beq k 18 then (0, 155) else (-2147483648, 2147483647)) else
  bif Nat.beq r 9 then (bif Nat.beq k 1 then (0, 1000) else bif Nat.beq k 5 then (0, 1001) else (-2147483648, 2147483647)) else
  bif Nat.beq r 3 then (bif Nat.beq k 1 then (0, 1001) else bif Nat.beq k 2 then (0, 6) else (-2147483648, 2147483647)) else
  bif Nat.beq r 4 then (bif Nat.beq k 0 then (0, 1) else bif Nat.beq k 2 then (0, 143) else bif Nat.beq k 3 then (0, 144) else (-2147483648, 2147483647)) else
  bif Nat.beq r 8 then (bif Nat.beq k 0 then (0, 12) else bif Nat.beq k 1 then (0, 200) else (-2147483648, 2147483647)) else
  bif Nat.beq r 6 then (bif Nat.beq k 0 then (0, 5000) else bif Nat.beq k 1 then (0, 99) else bif Nat.beq k 2 then (0, 200) else bif Nat.beq k 3 then (0, 9999) else bif Nat.beq k 5 then (0, 12) else bif Nat.beq k 8 then (0, 6) else bif Nat.beq k 11 then (0, 2) else bif Nat.beq k 12 then (0, 999) else bif Nat.beq k 14 then (0, 5) else bif Nat.beq k 16 then (0, 12) else (-2147483648, 2147483647)) else
  bif Nat.beq r 1 then (bif Nat.beq k 0 then (-999, 999) else bif Nat.beq k 1 then (-999, 999) else bif Nat.beq k 2 then (0, 99) else bif Nat.beq k 3 then (0, 12) else bif Nat.beq k 4 then (0, 12) else bif Nat.beq k 7 then (0, 4) else (-2147483648, 2147483647)) else
  bif Nat.beq r 2 then (bif Nat.beq k 0 then (-500, 500) else bif Nat.beq k 1 then (-500, 500) else bif Nat.beq k 2 then (0, 9) else bif Nat.beq k 3 then (0, 31) else (-2147483648, 2147483647)) else
  bif Nat.beq r 7 then (bif Nat.beq k 0 then (0, 3) else bif Nat.beq k 1 then (-2000, 2000) else bif Nat.beq k 2 then (-2000, 2000) else bif Nat.beq k 3 then (-999, 999) else bif Nat.beq k 4 then (-999, 999) else bif Nat.beq k 5 then (0, 999) else bif Nat.beq k 6 then (0, 99) else bif Nat.beq k 7 then (0, 99) else bif Nat.beq k 8 then (0, 199) else bif Nat.beq k 9 then (0, 1) else (-2147483648, 2147483647)) else
  bif Nat.beq r 43 then (0, 1000) else bif Nat.beq r 44 then (0, 1000) else bif Nat.beq r 49 then (0, 1) else bif Nat.beq r 62 then (0, 1) else bif Nat.beq r 64 then (0, 1) else
  bif Nat.beq r 59 then (0, 11) else bif Nat.beq r 61 then (bif Nat.blt k 2 then (0, 143) else (-1, 11)) else bif Nat.beq r 63 then (0, 9) else bif Nat.beq r 67 then (0, 143) else
  bif Nat.beq r 57 then (-9, 9) else bif Nat.beq r 58 then (0, 9) else bif Nat.beq r 55 then (-2000, 2000) else bif Nat.beq r 56 then (0, 100) else bif Nat.beq r 65 then (-2000, 2000) else bif Nat.beq r 66 then (-999, 999) else (-2147483648, 2147483647)
/-- the room that is still to be taken: rows of no length -/
def zr (T : AT) (n p : Nat) : Nat := match T.2.2.2.2 n p with
  | some q => if (T.2.1 q).2 = 0 then 1 else 0
  | none => 0
def zs (T : AT) (n : Nat) : Nat → Nat
  | 0 => 0
  | p + 1 => zs T n p + zr T n p
def zt (R : Nat → Nat) (T : AT) (w : Nat → Nat) : Nat → Nat
  | 0 => 0
  | n + 1 => zt R T w n + (bif isRW (R n) then zs T n 40 * w (R n) else 0)
def w1 (_ : Nat) : Nat := 1
def wC (r : Nat) : Nat := cnt (r - 10)
/-- a cell that is there from the start, of a known role -/
def sta (R : Nat → Nat) (B n : Nat) : Prop := n < B ∧ R n ≠ 99 ∧ R n ≠ 30

def IV (R : Nat → Nat) (B K1 K2 : Nat) (T : AT) : Prop :=
  ((∀ n, R n ≠ 99 → R n ≠ 30 → n < B) ∧ ((∀ n, R n = 9 → ∀ m, R m = 9 → n = m) ∧ ∀ n, B ≤ n → R n = 30) ∧ B ≤ T.1)
  ∧ (∀ n, sta R B n → T.2.1 n = shp (R n))
  ∧ (∀ n k, sta R B n → rtg (R n) k ≠ 99 → ∃ q, T.2.2.2.2 n k = some q ∧ q < T.1 ∧ R q = rtg (R n) k)
  ∧ (∀ n k, sta R B n → (iR (R n) k).1 ≤ (T.2.2.1 n k).toInt ∧ (T.2.2.1 n k).toInt ≤ (iR (R n) k).2)
  ∧ (∀ n, sta R B n → isW (R n) = true → ∀ q, T.2.2.2.2 n 1 = some q → ∀ p : Nat, (p : Int) < (T.2.2.1 n 2).toInt → ∃ r, T.2.2.2.2 q p = some r ∧ T.2.1 r = (101, cnt (R n)))
  ∧ (∀ n p r, sta R B n → isRW (R n) = true → T.2.2.2.2 n p = some r → r < T.1 ∧ (T.2.1 r).1 = 101 ∧ ((T.2.1 r).2 = 0 ∨ (T.2.1 r).2 = wC (R n)))
  ∧ (T.1 + zt R T w1 B = K1 ∧ sg T + zt R T wC B = K2)
section
variable {R : Nat → Nat} {B K1 K2 : Nat} {T : AT}
theorem iv_sta (h : IV R B K1 K2 T) {n r : Nat} (hr : R n = r) (h1 : r ≠ 99) (h2 : r ≠ 30) : sta R B n := ⟨h.1.1 n (by rw [hr]; exact h1) (by rw [hr]; exact h2), by rw [hr]; exact h1, by rw [hr]; exact h2⟩
theorem iv_lt (h : IV R B K1 K2 T) {n : Nat} (hs : sta R B n) : n < T.1 := Nat.lt_of_lt_of_le hs.1 h.1.2.2
theorem iv_oO (h : IV R B K1 K2 T) {n r c : Nat} (hr : R n = r) (h1 : r ≠ 99) (h2 : r ≠ 30) (hs : shp r = (c, 0)) : oO T n c = true := by
  have s := iv_sta h hr h1 h2
  unfold oO
  rw [h.2.1 n s, hr, hs, decide_eq_true rfl, show Nat.blt n T.1 = true from Nat.ble_eq_true_of_le (iv_lt h s)]
  rfl
theorem iv_aA (h : IV R B K1 K2 T) {n r c l : Nat} (hr : R n = r) (h1 : r ≠ 99) (h2 : r ≠ 30) (hs : shp r = (c, l)) (hl : Nat.blt l (2 ^ 31) = true) : aA T n c = true := by
  have s := iv_sta h hr h1 h2
  unfold aA
  rw [h.2.1 n s, hr, hs, show Nat.blt n T.1 = true from Nat.ble_eq_true_of_le (iv_lt h s)]
  show (true && (decide (c = c) && Nat.blt l (2 ^ 31))) = true
  rw [hl, decide_eq_true rfl]
  rfl
theorem iv_len (h : IV R B K1 K2 T) {n r c l : Nat} (hr : R n = r) (h1 : r ≠ 99) (h2 : r ≠ 30) (hs : shp r = (c, l)) : (T.2.1 n).2 = l := by
  rw [h.2.1 n (iv_sta h hr h1 h2), hr, hs]
theorem iv_int (h : IV R B K1 K2 T) {n r k : Nat} {v : Int32} {a b : Int} (hr : R n = r) (h1 : r ≠ 99) (h2 : r ≠ 30) (e : v = T.2.2.1 n k) (hi : iR r k = (a, b)) : a ≤ v.toInt ∧ v.toInt ≤ b := by
  have q := h.2.2.2.1 n k (iv_sta h hr h1 h2)
  rw [hr, hi] at q
  rw [e]
  exact q
theorem tot_ref {γ : Type} {P : γ → Prop} {f : Nat → Option γ} (h : IV R B K1 K2 T) {n r k r2 : Nat} (hr : R n = r) (h1 : r ≠ 99) (h2 : r ≠ 30) (ht : rtg r k = r2) (h9 : r2 ≠ 99) (kk : ∀ q, R q = r2 → T.2.2.2.2 n k = some q → Tot (f q) P) : Tot (obind (T.2.2.2.2 n k) f) P := by
  obtain ⟨q, e, hq, hR⟩ := h.2.2.1 n k (iv_sta h hr h1 h2) (by rw [hr, ht]; exact h9)
  rw [hr, ht] at hR
  rw [e]
  exact kk q hR e
theorem tot_ref1 {γ : Type} {P : γ → Prop} {f : Nat → Option γ} {o q0 : Nat} {k : Nat} (e0 : T.2.2.2.2 o k = some q0) (kk : Tot (f q0) P) : Tot (obind (T.2.2.2.2 o k) f) P := by
  rw [e0]
  exact kk
theorem zs_eq {T U : AT} {n : Nat} : ∀ P : Nat, (∀ p, p < P → zr T n p = zr U n p) → zs T n P = zs U n P
  | 0, _ => rfl
  | P + 1, h => by
    show zs T n P + zr T n P = zs U n P + zr U n P
    rw [zs_eq P (fun p hp => h p (Nat.lt_succ_of_lt hp)), h P (Nat.lt_succ_self P)]
theorem zt_eq {T U : AT} {w : Nat → Nat} : ∀ N : Nat, (∀ n, n < N → isRW (R n) = true → ∀ p, p < 40 → zr T n p = zr U n p) → zt R T w N = zt R U w N
  | 0, _ => rfl
  | N + 1, h => by
    show zt R T w N + _ = zt R U w N + _
    rw [zt_eq N (fun n hn => h n (Nat.lt_succ_of_lt hn))]
    cases e : isRW (R N) with
    | false => rfl
    | true => rw [zs_eq 40 (h N (Nat.lt_succ_self N) e)]
theorem iv_room {U : AT} (e1 : U.1 = T.1) (e2 : U.2.1 = T.2.1) (e3 : U.2.2.2.2 = T.2.2.2.2) (h : T.1 + zt R T w1 B = K1 ∧ sg T + zt R T wC B = K2) : U.1 + zt R U w1 B = K1 ∧ sg U + zt R U wC B = K2 := by
  have z : ∀ w, zt R U w B = zt R T w B := fun w => zt_eq B (fun m _ _ p _ => by unfold zr; rw [e3, e2])
  have s : sg U = sg T := by unfold sg; rw [e1, e2]
  rw [z, z, e1, s]
  exact h
/-- an int is written -/
theorem iv_uI (h : IV R B K1 K2 T) {n r k : Nat} {v : Int32} {a b : Int} (hr : R n = r) (h1 : r ≠ 99) (h2 : r ≠ 30) (hi : iR r k = (a, b)) (hv : a ≤ v.toInt ∧ v.toInt ≤ b) (hw : isW r = false ∨ k ≠ 2) : IV R B K1 K2 (uI T n k v) := by
  have key : ∀ m j, (uI T n k v).2.2.1 m j = if m = n ∧ j = k then v else T.2.2.1 m j := fun m j => by
    show va_up T.2.2.1 n (upd (T.2.2.1 n) k v) m j = _
    by_cases e : m = n
    · subst e
      rw [va_up_self]
      unfold upd
      by_cases e2 : j = k
      · rw [if_pos e2, if_pos ⟨rfl, e2⟩]
      · rw [if_neg e2, if_neg (fun q => e2 q.2)]
    · rw [va_up_ne _ _ e, if_neg (fun q => e q.1)]
  refine ⟨h.1, h.2.1, h.2.2.1, fun m j hs => ?_, fun m hs hW q hq p hp => ?_, h.2.2.2.2.2.1, iv_room (T := T) rfl rfl rfl h.2.2.2.2.2.2⟩
  · rw [key]
    by_cases e : m = n ∧ j = k
    · rw [if_pos e, e.1, e.2, hr, hi]
      exact hv
    · rw [if_neg e]
      exact h.2.2.2.1 m j hs
  · rw [key, if_neg (fun q => by
      rcases hw with hw | hw
      · rw [q.1, hr, hw] at hW; cases hW
      · exact hw q.2.symm)] at hp
    exact h.2.2.2.2.1 m hs hW q hq p hp
/-- how many parts: the rows must be there -/
theorem iv_used (h : IV R B K1 K2 T) {n r : Nat} {v : Int32} (hr : R n = r) (hW : isW r = true) (hv : 1 ≤ v.toInt ∧ v.toInt ≤ 40) (hrow : ∀ q, T.2.2.2.2 n 1 = some q → ∀ p : Nat, (p : Int) < v.toInt → ∃ x, T.2.2.2.2 q p = some x ∧ T.2.1 x = (101, cnt r)) : IV R B K1 K2 (uI T n 2 v) := by
  have key : ∀ m j, (uI T n 2 v).2.2.1 m j = if m = n ∧ j = 2 then v else T.2.2.1 m j := fun m j => by
    show va_up T.2.2.1 n (upd (T.2.2.1 n) 2 v) m j = _
    by_cases e : m = n
    · subst e
      rw [va_up_self]
      unfold upd
      by_cases e2 : j = 2
      · rw [if_pos e2, if_pos ⟨rfl, e2⟩]
      · rw [if_neg e2, if_neg (fun q => e2 q.2)]
    · rw [va_up_ne _ _ e, if_neg (fun q => e q.1)]
  refine ⟨h.1, h.2.1, h.2.2.1, fun m j hs => ?_, fun m hs hW2 q hq p hp => ?_, h.2.2.2.2.2.1, iv_room (T := T) rfl rfl rfl h.2.2.2.2.2.2⟩
  · rw [key]
    by_cases e : m = n ∧ j = 2
    · rw [if_pos e, e.1, e.2, hr]
      unfold iR
      rw [hW]
      exact hv
    · rw [if_neg e]
      exact h.2.2.2.1 m j hs
  · rw [key] at hp
    by_cases e : m = n
    · rw [if_pos ⟨e, rfl⟩] at hp
      subst e
      rw [hr]
      exact hrow q hq p hp
    · rw [if_neg (fun q => e q.1)] at hp
      exact h.2.2.2.2.1 m hs hW2 q hq p hp
theorem iv_uJ (h : IV R B K1 K2 T) (n k : Nat) (v : Int64) : IV R B K1 K2 (uJ T n k v) := ⟨h.1, h.2.1, h.2.2.1, h.2.2.2.1, h.2.2.2.2.1, h.2.2.2.2.2.1, iv_room (T := T) rfl rfl rfl h.2.2.2.2.2.2⟩
theorem iv_uC (h : IV R B K1 K2 T) (a b k : Nat) : IV R B K1 K2 (uC T a b k) := ⟨h.1, h.2.1, h.2.2.1, h.2.2.2.1, h.2.2.2.2.1, h.2.2.2.2.2.1, iv_room (T := T) rfl rfl rfl h.2.2.2.2.2.2⟩
/-- scene and spare change places -/
theorem iv_uR (h : IV R B K1 K2 T) {n r k q : Nat} (hr : R n = r) (h1 : r ≠ 99) (h2 : r ≠ 30) (hw : isW r = false) (hw2 : isRW r = false) (hq : R q = rtg r k) (hq2 : rtg r k ≠ 99 ∧ rtg r k ≠ 30) : IV R B K1 K2 (uR T n k q) := by
  have key : ∀ m j, m ≠ n → (uR T n k q).2.2.2.2 m j = T.2.2.2.2 m j := fun m j e => by
    show va_up T.2.2.2.2 n (va_up (T.2.2.2.2 n) k (some q)) m j = _
    rw [va_up_ne _ _ e]
  have kn : ∀ j, (uR T n k q).2.2.2.2 n j = if j = k then some q else T.2.2.2.2 n j := fun j => by
    show va_up T.2.2.2.2 n (va_up (T.2.2.2.2 n) k (some q)) n j = _
    rw [va_up_self]
    by_cases e : j = k
    · rw [if_pos e, e, va_up_self]
    · rw [if_neg e, va_up_ne _ _ e]
  have hql : q < T.1 := iv_lt h (iv_sta h hq hq2.1 hq2.2)
  have rowne : ∀ m, isRW (R m) = true → m ≠ n := fun m hm e => by rw [e, hr, hw2] at hm; cases hm
  have z : ∀ w, zt R (uR T n k q) w B = zt R T w B := fun w => zt_eq B (fun m _ hm p _ => by
    unfold zr
    rw [key m p (rowne m hm)]
    rfl)
  refine ⟨h.1, h.2.1, fun m j hs hj => ?_, h.2.2.2.1, fun m hs hW x hx p hp => ?_, fun m p x hs hW hx => ?_, ?_, ?_⟩
  · by_cases e : m = n
    · subst e
      rw [kn]
      by_cases e2 : j = k
      · rw [if_pos e2]
        exact ⟨q, rfl, hql, by rw [hq, hr, e2]⟩
      · rw [if_neg e2]
        exact h.2.2.1 m j hs hj
    · rw [key m j e]
      exact h.2.2.1 m j hs hj
  · have e : m ≠ n := fun e => by rw [e, hr, hw] at hW; cases hW
    rw [key m 1 e] at hx
    obtain ⟨y, y1, y2⟩ := h.2.2.2.2.1 m hs hW x hx p hp
    have hx2 := h.2.2.1 m 1 hs (by unfold rtg; rw [hW]; show R m + 10 ≠ 99; unfold isW at hW; have := Nat.le_of_ble_eq_true ((Bool.and_eq_true _ _).mp hW).1; omega)
    obtain ⟨x2, a1, a2, a3⟩ := hx2
    rw [hx] at a1
    cases a1
    have hxn : x ≠ n := rowne x (by
      rw [a3]
      unfold rtg
      rw [hW]
      unfold isW at hW
      have b1 := Nat.le_of_ble_eq_true ((Bool.and_eq_true _ _).mp hW).1
      have b2 := Nat.le_of_ble_eq_true ((Bool.and_eq_true _ _).mp hW).2
      show (Nat.ble 111 (R m + 10) && Nat.ble (R m + 10) 115) = true
      rw [Nat.ble_eq_true_of_le (show 111 ≤ R m + 10 by omega), Nat.ble_eq_true_of_le (show R m + 10 ≤ 115 by omega)]
      rfl)
    exact ⟨y, by rw [key x p hxn]; exact y1, y2⟩
  · rw [key m p (rowne m hW)] at hx
    exact h.2.2.2.2.2.1 m p x hs hW hx
  · rw [z]; exact h.2.2.2.2.2.2.1
  · rw [z]; exact h.2.2.2.2.2.2.2
end
end
section
/-! 13b.wide.lean.txt -/
/-! The class's whole numbers: rows, room, and all methods of Wides -/
theorem isW_c {r : Nat} (h : isW r = true) : r = 101 ∨ r = 102 ∨ r = 103 ∨ r = 104 ∨ r = 105 := by
  unfold isW at h
  have b1 := Nat.le_of_ble_eq_true ((Bool.and_eq_true _ _).mp h).1
  have b2 := Nat.le_of_ble_eq_true ((Bool.and_eq_true _ _).mp h).2
  omega
theorem isW_f {r : Nat} (h : isW r = true) : ((r ≠ 99 ∧ r ≠ 30) ∧ shp r = (10, 0) ∧ rtg r 1 = r + 10) ∧ ((r + 10 ≠ 99 ∧ r + 10 ≠ 30) ∧ shp (r + 10) = (107, 40) ∧ isRW (r + 10) = true) ∧ (iR r 0 = ((cnt r : Int), (cnt r : Int)) ∧ iR r 2 = (1, 40)) ∧ (1 ≤ cnt r ∧ cnt r ≤ 7200) ∧ wC (r + 10) = cnt r ∧ isW (r + 10) = false := by
  rcases isW_c h with e | e | e | e | e <;> subst e <;> decide
section
variable {R : Nat → Nat} {B K1 K2 : Nat} {T : AT}
theorem zs_dec {T U : AT} {n p : Nat} (h0 : zr T n p = zr U n p + 1) (h : ∀ j, j ≠ p → zr T n j = zr U n j) : ∀ P : Nat, zs T n P = zs U n P + (if p < P then 1 else 0)
  | 0 => rfl
  | P + 1 => by
    have ih := zs_dec h0 h P
    show zs T n P + zr T n P = zs U n P + zr U n P + _
    by_cases e : P = p
    · subst e
      rw [ih, h0, if_neg (Nat.lt_irrefl _), if_pos (Nat.lt_succ_self _)]
      omega
    · rw [ih, h P e]
      by_cases e2 : p < P
      · rw [if_pos e2, if_pos (by omega)]
        omega
      · rw [if_neg e2, if_neg (by omega)]
        omega
theorem zt_dec {T U : AT} {w : Nat → Nat} {q p : Nat} (hq : isRW (R q) = true) (hp : p < 40) (h0 : zr T q p = zr U q p + 1) (h : ∀ j, j ≠ p → zr T q j = zr U q j) (ho : ∀ n, n ≠ q → isRW (R n) = true → ∀ j, zr T n j = zr U n j) : ∀ N : Nat, zt R T w N = zt R U w N + (if q < N then w (R q) else 0)
  | 0 => rfl
  | N + 1 => by
    have ih := zt_dec (w := w) hq hp h0 h ho N
    show zt R T w N + _ = zt R U w N + _ + _
    rw [ih]
    by_cases e : N = q
    · subst e
      rw [hq, if_neg (Nat.lt_irrefl _), if_pos (Nat.lt_succ_self _), zs_dec h0 h 40, if_pos hp]
      show zt R U w N + 0 + (zs U N 40 + 1) * w (R N) = zt R U w N + zs U N 40 * w (R N) + w (R N)
      rw [Nat.add_mul]
      omega
    · have z : (bif isRW (R N) then zs T N 40 * w (R N) else 0) = (bif isRW (R N) then zs U N 40 * w (R N) else 0) := by
        cases e2 : isRW (R N) with
        | false => rfl
        | true => rw [zs_eq 40 (fun j _ => ho N e e2 j)]
      rw [z]
      by_cases e2 : q < N
      · rw [if_pos e2, if_pos (by omega)]
        omega
      · rw [if_neg e2, if_neg (by omega)]
        omega
/-- a new row, where one of no length was -/
theorem iv_new (h : IV R B K1 K2 T) {o q r p x : Nat} (hr : R o = r) (hW : isW r = true) (hq : R q = r + 10) (e1 : T.2.2.2.2 o 1 = some q) (hp : p < 40) (ex : T.2.2.2.2 q p = some x) (hx : (T.2.1 x).2 = 0) : IV R B K1 K2 (uR (newJ T (cnt r)) q p T.1) := by
  obtain ⟨⟨⟨w1', w2'⟩, w3, w4⟩, ⟨⟨w5, w6⟩, w7, w8⟩, w9, ⟨w10, w11⟩, w12, w13⟩ := isW_f hW
  have hqs := iv_sta h hq w5 w6
  have hBT := h.1.2.2
  have key : ∀ m j, (uR (newJ T (cnt r)) q p T.1).2.2.2.2 m j = if m = q ∧ j = p then some T.1 else T.2.2.2.2 m j := fun m j => by
    show va_up T.2.2.2.2 q (va_up (T.2.2.2.2 q) p (some T.1)) m j = _
    by_cases e : m = q
    · subst e
      rw [va_up_self]
      by_cases e2 : j = p
      · rw [e2, va_up_self, if_pos ⟨rfl, rfl⟩]
      · rw [va_up_ne _ _ e2, if_neg (fun q => e2 q.2)]
    · rw [va_up_ne _ _ e, if_neg (fun q => e q.1)]
  have old : ∀ m, m < T.1 → (uR (newJ T (cnt r)) q p T.1).2.1 m = T.2.1 m := fun m hm => va_up_ne T.2.1 _ (Nat.ne_of_lt hm)
  have new : (uR (newJ T (cnt r)) q p T.1).2.1 T.1 = (101, cnt r) := va_up_self _ _ _
  have hR : R T.1 = 30 := h.1.2.1.2 T.1 hBT
  have rows := h.2.2.2.2.2.1
  have zold : ∀ m j, isRW (R m) = true → ¬ (m = q ∧ j = p) → zr T m j = zr (uR (newJ T (cnt r)) q p T.1) m j := fun m j hm e => by
    unfold zr
    rw [key, if_neg e]
    cases ey : T.2.2.2.2 m j with
    | none => rfl
    | some y =>
      have hs : sta R B m := iv_sta h rfl (by intro q; rw [q] at hm; exact absurd hm (by decide)) (by intro q; rw [q] at hm; exact absurd hm (by decide))
      show (if (T.2.1 y).2 = 0 then 1 else 0) = if ((uR (newJ T (cnt r)) q p T.1).2.1 y).2 = 0 then 1 else 0
      rw [old y (rows m j y hs hm ey).1]
  have z0 : zr T q p = zr (uR (newJ T (cnt r)) q p T.1) q p + 1 := by
    unfold zr
    rw [key, if_pos ⟨rfl, rfl⟩, ex]
    show (if (T.2.1 x).2 = 0 then 1 else 0) = (if ((uR (newJ T (cnt r)) q p T.1).2.1 T.1).2 = 0 then 1 else 0) + 1
    rw [new, if_pos hx, if_neg (by show ¬ cnt r = 0; omega)]
  have hRW : isRW (R q) = true := by rw [hq]; exact w8
  have zd : ∀ w, zt R T w B = zt R (uR (newJ T (cnt r)) q p T.1) w B + w (R q) := fun w => by
    rw [zt_dec (w := w) hRW hp z0 (fun j e => zold q j hRW (fun z => e z.2)) (fun n e hn j => zold n j hn (fun z => e z.1)) B, if_pos hqs.1]
  refine ⟨⟨h.1.1, h.1.2.1, ?_⟩, fun m hs => ?_, fun m j hs hj => ?_, h.2.2.2.1, fun m hs hWm y hy j hj => ?_, fun m j y hs hm hy => ?_, ?_, ?_⟩
  · show B ≤ T.1 + 1
    omega
  · rw [old m (Nat.lt_of_lt_of_le hs.1 hBT)]
    exact h.2.1 m hs
  · rw [key]
    by_cases e : m = q ∧ j = p
    · rw [if_pos e]
      refine ⟨T.1, rfl, Nat.lt_succ_self _, ?_⟩
      obtain ⟨y, y1, y2, y3⟩ := h.2.2.1 m j hs hj
      rw [hR, e.1, e.2]
      have b : Nat.blt p 40 = true := Nat.ble_eq_true_of_le hp
      unfold rtg
      rw [hq, w13, w8, b]
      rfl
    · rw [if_neg e]
      obtain ⟨y, y1, y2, y3⟩ := h.2.2.1 m j hs hj
      exact ⟨y, y1, Nat.lt_succ_of_lt y2, y3⟩
  · have hmq : m ≠ q := fun e => by rw [e, hq, w13] at hWm; cases hWm
    rw [key, if_neg (fun z => hmq z.1)] at hy
    obtain ⟨y2, a1, a2⟩ := h.2.2.2.2.1 m hs hWm y hy j hj
    rw [key]
    by_cases e : y = q ∧ j = p
    · rw [if_pos e]
      refine ⟨T.1, rfl, ?_⟩
      rw [new]
      have := isW_f hWm
      obtain ⟨z, z1, z2, z3⟩ := h.2.2.1 m 1 hs (by rw [this.1.2.2]; exact this.2.1.1.1)
      rw [hy] at z1
      cases z1
      rw [this.1.2.2, e.1, hq] at z3
      rw [show R m = r by omega]
    · rw [if_neg e]
      have hyR : isRW (R y) = true ∧ sta R B y := by
        have t := isW_f hWm
        obtain ⟨z, z1, z2, z3⟩ := h.2.2.1 m 1 hs (by rw [t.1.2.2]; exact t.2.1.1.1)
        rw [hy] at z1
        cases z1
        rw [t.1.2.2] at z3
        exact ⟨by rw [z3]; exact t.2.1.2.2, iv_sta h z3 t.2.1.1.1 t.2.1.1.2⟩
      exact ⟨y2, a1, by rw [old y2 (rows y j y2 hyR.2 hyR.1 a1).1]; exact a2⟩
  · rw [key] at hy
    by_cases e : m = q ∧ j = p
    · rw [if_pos e] at hy
      cases hy
      rw [new, e.1, hq, w12]
      exact ⟨Nat.lt_succ_self _, rfl, .inr rfl⟩
    · rw [if_neg e] at hy
      have := rows m j y hs hm hy
      rw [old y this.1]
      exact ⟨Nat.lt_succ_of_lt this.1, this.2⟩
  · have := zd w1
    have k := h.2.2.2.2.2.2.1
    have one : w1 (R q) = 1 := rfl
    show T.1 + 1 + _ = K1
    omega
  · have := zd wC
    have k := h.2.2.2.2.2.2.2
    have s : sg (uR (newJ T (cnt r)) q p T.1) = sg T + cnt r := by
      show sgA (va_up T.2.1 T.1 (101, cnt r)) T.1 + (va_up T.2.1 T.1 (101, cnt r) T.1).2 = sgA T.2.1 T.1 + cnt r
      have c : ∀ N, N ≤ T.1 → sgA (va_up T.2.1 T.1 (101, cnt r)) N = sgA T.2.1 N := by
        intro N
        induction N with
        | zero => intro _; rfl
        | succ N ih =>
          intro hN
          show sgA _ N + (va_up T.2.1 T.1 (101, cnt r) N).2 = sgA T.2.1 N + (T.2.1 N).2
          rw [ih (by omega), va_up_ne T.2.1 _ (show N ≠ T.1 by omega)]
      rw [va_up_self, c T.1 (Nat.le_refl _)]
    rw [hq, w12] at this
    rw [s]
    omega
/-- to a row -/
theorem tw_q {γ : Type} {P : γ → Prop} {f : Nat → Option γ} {o r : Nat} (h : IV R B K1 K2 T) (hr : R o = r) (hW : isW r = true) (kk : ∀ q, R q = r + 10 → T.2.2.2.2 o 1 = some q → Tot (f q) P) : Tot (oif (oO T o 10 = true) <| obind (T.2.2.2.2 o 1) f) P := by
  have w := isW_f hW
  refine tot_oif (iv_oO h hr w.1.1.1 w.1.1.2 w.1.2.1) ?_
  exact tot_ref h hr w.1.1.1 w.1.1.2 w.1.2.2 w.2.1.1.1 kk
theorem tw_p {γ : Type} {P : γ → Prop} {x : Option γ} {q r : Nat} {p : Int32} (h : IV R B K1 K2 T) (hq : R q = r + 10) (hW : isW r = true) (hp : 0 ≤ p.toInt ∧ p.toInt < 40) (kk : Tot x P) : Tot (oif (aA T q 107 = true) <| oif (inb p (T.2.1 q).2 = true) <| x) P := by
  have w := isW_f hW
  refine tot_oif (iv_aA h hq w.2.1.1.1 w.2.1.1.2 w.2.1.2.1 (by decide)) (tot_oif ?_ kk)
  rw [iv_len h hq w.2.1.1.1 w.2.1.1.2 w.2.1.2.1]
  exact i_inb hp.1 (by omega)
theorem tw_r {γ : Type} {P : γ → Prop} {f : Nat → Option γ} {o q r : Nat} {p : Int32} (h : IV R B K1 K2 T) (hr : R o = r) (hW : isW r = true) (e : T.2.2.2.2 o 1 = some q) (hp : 0 ≤ p.toInt ∧ p.toInt < (T.2.2.1 o 2).toInt) (kk : ∀ x, T.2.1 x = (101, cnt r) → T.2.2.2.2 q p.toNatClampNeg = some x → x < T.1 → Tot (f x) P) : Tot (obind (T.2.2.2.2 q p.toNatClampNeg) f) P := by
  have w := isW_f hW
  have hs := iv_sta h hr w.1.1.1 w.1.1.2
  have c := i_cl hp.1
  obtain ⟨x, x1, x2⟩ := h.2.2.2.2.1 o hs (by rw [hr]; exact hW) q e p.toNatClampNeg (by omega)
  rw [hr] at x2
  obtain ⟨q', a1, a2, a3⟩ := h.2.2.1 o 1 hs (by rw [hr, w.1.2.2]; exact w.2.1.1.1)
  rw [e] at a1
  cases a1
  rw [hr, w.1.2.2] at a3
  have := h.2.2.2.2.2.1 q p.toNatClampNeg x (iv_sta h a3 w.2.1.1.1 w.2.1.1.2) (by rw [a3]; exact w.2.1.2.2) x1
  rw [x1]
  exact kk x x2 x1 this.1
theorem tw_i {γ : Type} {P : γ → Prop} {z : Option γ} {x c : Nat} {i : Int32} (hs : T.2.1 x = (101, c)) (hc : c ≤ 7200) (hl : x < T.1) (hi : 0 ≤ i.toInt ∧ i.toInt < c) (kk : Tot z P) : Tot (oif (aA T x 101 = true) <| oif (inb i (T.2.1 x).2 = true) <| z) P := by
  refine tot_oif ?_ (tot_oif ?_ kk)
  · unfold aA
    rw [hs, show Nat.blt x T.1 = true from Nat.ble_eq_true_of_le hl]
    show (true && (decide (101 = 101) && Nat.blt c (2 ^ 31))) = true
    rw [decide_eq_true rfl, show Nat.blt c (2 ^ 31) = true from Nat.ble_eq_true_of_le (by omega)]
    rfl
  · rw [hs]
    exact i_inb hi.1 hi.2
theorem w_used (h : IV R B K1 K2 T) {o r : Nat} (hr : R o = r) (hW : isW r = true) : 1 ≤ (T.2.2.1 o 2).toInt ∧ (T.2.2.1 o 2).toInt ≤ 40 := iv_int h hr (isW_f hW).1.1.1 (isW_f hW).1.1.2 rfl (isW_f hW).2.2.1.2
theorem w_cnt (h : IV R B K1 K2 T) {o r : Nat} (hr : R o = r) (hW : isW r = true) : (T.2.2.1 o 0).toInt = cnt r := by
  have := iv_int h hr (isW_f hW).1.1.1 (isW_f hW).1.1.2 rfl (isW_f hW).2.2.1.1
  omega
theorem w_oO (h : IV R B K1 K2 T) {o r : Nat} (hr : R o = r) (hW : isW r = true) : oO T o 10 = true := iv_oO h hr (isW_f hW).1.1.1 (isW_f hW).1.1.2 (isW_f hW).1.2.1
end
/-- of ints, how many parts o has alone -/
def WX (o : Nat) (T T1 : AT) : Prop := (∀ m k, m ≠ o ∨ k ≠ 2 → T1.2.2.1 m k = T.2.2.1 m k) ∧ (T.2.2.1 o 2).toInt ≤ (T1.2.2.1 o 2).toInt
theorem WX.rf {o : Nat} {T : AT} : WX o T T := ⟨fun _ _ _ => rfl, Int.le_refl _⟩
theorem WX.tr {o : Nat} {T T1 T2 : AT} (h : WX o T T1) (k : WX o T1 T2) : WX o T T2 := ⟨fun m j e => (k.1 m j e).trans (h.1 m j e), Int.le_trans h.2 k.2⟩
theorem WX.of {o : Nat} {T T1 : AT} (e : T1.2.2.1 = T.2.2.1) : WX o T T1 := ⟨fun _ _ _ => by rw [e], by rw [e]; exact Int.le_refl _⟩
/-- which ints may have changed: by role and field -/
def wc (r k : Nat) : Nat := bif isW r then 3200 + k else bif Nat.ble r 20 then 32 * r + k else 32 * r
def FW (R : Nat → Nat) (W : List Nat) (T T1 : AT) : Prop := ∀ m k, W.contains (wc (R m) k) = false → T1.2.2.1 m k = T.2.2.1 m k
theorem FW.rf {R : Nat → Nat} {W : List Nat} {T : AT} : FW R W T T := fun _ _ _ => rfl
theorem FW.tr {R : Nat → Nat} {W : List Nat} {T T1 T2 : AT} (h : FW R W T T1) (k : FW R W T1 T2) : FW R W T T2 := fun m j e => (k m j e).trans (h m j e)
theorem FW.w {R : Nat → Nat} {W V : List Nat} {T T1 : AT} (h : FW R W T T1) (c : (W.all fun x => V.contains x) = true) : FW R V T T1 := fun m j e => h m j (con_w c e)
theorem fw_uI {R : Nat → Nat} {W : List Nat} {T T1 : AT} {n k r : Nat} {v : Int32} (e : T1 = uI T n k v) (hr : R n = r) (c : W.contains (wc r k) = true) : FW R W T T1 := by
  intro m j hm
  rw [e]
  show va_up T.2.2.1 n (upd (T.2.2.1 n) k v) m j = _
  by_cases a : m = n
  · subst a
    rw [va_up_self]
    unfold upd
    by_cases b : j = k
    · rw [hr, b, c] at hm
      cases hm
    · rw [if_neg b]
  · rw [va_up_ne _ _ a]
/-- at an array, any place -/
theorem fw_uA {R : Nat → Nat} {W : List Nat} {T T1 : AT} {n k r : Nat} {v : Int32} (e : T1 = uI T n k v) (hr : R n = r) (hw : isW r = false) (hb : Nat.ble r 20 = false) (c : W.contains (32 * r) = true) : FW R W T T1 := fw_uI e hr (by unfold wc; rw [hw, hb]; exact c)
theorem fw_of {R : Nat → Nat} {W : List Nat} {T T1 : AT} (e : T1.2.2.1 = T.2.2.1) : FW R W T T1 := fun _ _ _ => by rw [e]
theorem fw_wx {R : Nat → Nat} {W : List Nat} {T T1 : AT} {o r : Nat} (h : WX o T T1) (hr : R o = r) (hW : isW r = true) (c : W.contains 3202 = true) : FW R W T T1 := fun m j e => h.1 m j (by
  by_cases a : m = o
  · refine .inr (fun b => ?_)
    rw [a, b, hr] at e
    unfold wc at e
    rw [hW] at e
    rw [show (bif true then 3200 + 2 else bif Nat.ble r 20 then 32 * r + 2 else 32 * r) = 3202 from rfl, c] at e
    cases e
  · exact .inl a)
theorem tot_bindq {σ β γ : Type} {S : σ} {x : Option (β × σ)} {f : β → σ → Option γ} {R : β → Prop} {P : γ → Prop} (hx : Tot x (fun r => r.2 = S ∧ R r.1)) (h : ∀ r, R r → Tot (f r S) P) : Tot (obind2 x f) P := by
  obtain ⟨⟨a, b⟩, e, e2, q⟩ := hx
  have e2 : b = S := e2
  subst e2
  rw [e]
  exact h a q
end
section
/-! 13c.wm.lean.txt -/
theorem c_narrow {R : Nat → Nat} {B K1 K2 : Nat} {T : AT} {o ro : Nat} (hT : IV R B K1 K2 T) (k_o : R o = ro) (w_o : isW ro = true) : Tot (g_X10_narrow T o) (fun T1 => IV R B K1 K2 T1 ∧ ((∀ m k, m ≠ o ∨ k ≠ 2 → T1.2.2.1 m k = T.2.2.1 m k) ∧ (T1.2.2.1 o 2).toInt = 1) ∧ FW R [3202] T T1) := by
  have z1 : (1 : Int32).toInt = 1 := by decide
  unfold g_X10_narrow
  refine tot_oif (w_oO hT k_o w_o) ?_
  refine tot_let (fun T3 e => ?_)
  have u := w_used hT k_o w_o
  have key : ∀ m j, T3.2.2.1 m j = if m = o ∧ j = 2 then 1 else T.2.2.1 m j := fun m j => by
    rw [e]
    show va_up T.2.2.1 o (upd (T.2.2.1 o) 2 1) m j = _
    by_cases e : m = o
    · subst e
      rw [va_up_self]
      unfold upd
      by_cases e2 : j = 2
      · rw [if_pos e2, if_pos ⟨rfl, e2⟩]
      · rw [if_neg e2, if_neg (fun q => e2 q.2)]
    · rw [va_up_ne _ _ e, if_neg (fun q => e q.1)]
  refine tot_some ⟨?_, ⟨fun m k h => ?_, ?_⟩, ?_⟩
  · rw [e]
    refine iv_used hT k_o w_o (by omega) (fun q hq p hp => ?_)
    have w := isW_f w_o
    obtain ⟨x, x1, x2⟩ := hT.2.2.2.2.1 o (iv_sta hT k_o w.1.1.1 w.1.1.2) (by rw [k_o]; exact w_o) q hq p (by omega)
    exact ⟨x, x1, by rw [← k_o]; exact x2⟩
  · rw [key, if_neg (fun q => by rcases h with h | h; exact h q.1; exact h q.2)]
  · rw [key, if_pos ⟨rfl, rfl⟩]; exact z1
  · exact fw_uI e k_o (by unfold wc; rw [w_o]; rfl)
theorem c_clear_b2 {R : Nat → Nat} {B K1 K2 : Nat} {l0 ro : Nat} {l1 : Int32} (k_o : R l0 = ro) (w_o : isW ro = true) (g1 : 0 ≤ l1.toInt ∧ l1.toInt < cnt ro) : ∀ (n : Nat) (T : AT) (l2 : Int32), IV R B K1 K2 T → (0 ≤ l2.toInt ∧ l2.toInt ≤ 40) → 40 - l2.toInt < (n : Int) → Tot (g_X10_clear_b2 n T l0 l1 l2) (fun T1 => IV R B K1 K2 T1 ∧ T1.2.2.1 = T.2.2.1) := by
  have z0 : (0 : Int32).toInt = 0 := by decide
  have z1 : (1 : Int32).toInt = 1 := by decide
  have z2 : (2 : Int32).toInt = 2 := by decide
  have z40 : (40 : Int32).toInt = 40 := by decide
  have zi : (Int32.ofInt (1) : Int32).toInt = 1 := by decide
  have zm : (Int32.ofInt (-1) : Int32).toInt = -1 := by decide
  intro n
  induction n with
  | zero =>
    intro T l2 hT g2 hm
    exfalso
    omega
  | succ n ih =>
    intro T l2 hT g2 hm
    unfold g_X10_clear_b2
    refine tot_oif (w_oO hT k_o w_o) ?_
    refine tot_let (fun v3 e_v3 => ?_)
    have q_v3 := i_eq e_v3
    have u_v3 := w_used hT k_o w_o
    refine tot_if (fun c => tot_some ⟨hT, rfl⟩) (fun c => ?_)
    replace c := i_nle c
    refine tw_q hT k_o w_o (fun qx9 k_qx9 e_qx9 => ?_)
    refine tw_p hT k_qx9 w_o (by omega) ?_
    refine tw_r (p := l2) hT k_o w_o e_qx9 (by omega) (fun x9 s_x9 x_x9 l_x9 => ?_)
    refine tw_i s_x9 (isW_f w_o).2.2.2.1.2 l_x9 (by omega) ?_
    refine tot_let (fun T12 e_T12 => ?_)
    have hT12 : IV R B K1 K2 T12 := by rw [e_T12]; exact iv_uJ hT _ _ _
    have tT12 : T12.2.2.1 = T.2.2.1 := by rw [e_T12]; rfl
    refine tot_let (fun v13 e_v13 => ?_)
    have q_v13 := i_add e_v13 (by omega) (by omega)
    exact tot_w (ih T12 v13 hT12 (by omega) (by omega)) (fun T1 q => ⟨q.1, q.2.trans tT12⟩)
theorem c_clear {R : Nat → Nat} {B K1 K2 : Nat} {T : AT} {o ro : Nat} {a0 : Int32} (hT : IV R B K1 K2 T) (k_o : R o = ro) (w_o : isW ro = true) (g0 : 0 ≤ a0.toInt ∧ a0.toInt < cnt ro) : Tot (g_X10_clear T o a0) (fun T1 => IV R B K1 K2 T1 ∧ T1.2.2.1 = T.2.2.1) := by
  have z0 : (0 : Int32).toInt = 0 := by decide
  unfold g_X10_clear
  exact c_clear_b2 k_o w_o g0 16384 T 0 hT (by omega) (by omega)
theorem c_beyond (a0 : Int64) : Tot (g_X10_isBeyondPart a0) (fun _ => True) := by
  have h0 : Tot (g_X10_isBeyondPart_b23) (fun _ => True) := by
    unfold g_X10_isBeyondPart_b23 g_X10_isBeyondPart_b24
    exact tot_oif (.inl rfl) (tot_some trivial)
  unfold g_X10_isBeyondPart
  refine tot_let (fun v2 _ => tot_let (fun v3 _ => tot_if (fun _ => h0) (fun _ => tot_let (fun v5 _ => tot_if (fun _ => h0) (fun _ => ?_)))))
  unfold g_X10_isBeyondPart_b24
  exact tot_oif (.inr rfl) (tot_some trivial)
/-- the row at p is there, in full length -/
def FR1 (T : AT) (o ro : Nat) (p : Int32) : Prop := ∀ q, T.2.2.2.2 o 1 = some q → ∃ x, T.2.2.2.2 q p.toNatClampNeg = some x ∧ T.2.1 x = (101, cnt ro) ∧ x < T.1
theorem tw_f {γ : Type} {P : γ → Prop} {T : AT} {f : Nat → Option γ} {o q r : Nat} {p : Int32} (h : FR1 T o r p) (e : T.2.2.2.2 o 1 = some q) (kk : ∀ x, T.2.1 x = (101, cnt r) → T.2.2.2.2 q p.toNatClampNeg = some x → x < T.1 → Tot (f x) P) : Tot (obind (T.2.2.2.2 q p.toNatClampNeg) f) P := by
  obtain ⟨x, x1, x2, x3⟩ := h q e
  rw [x1]
  exact kk x x2 x1 x3
theorem c_used1 {R : Nat → Nat} {B K1 K2 : Nat} {T T7 : AT} {o r : Nat} {p v : Int32} (h : IV R B K1 K2 T) (k_o : R o = r) (w_o : isW r = true) (e : T7 = uI T o 2 v) (hv : v.toInt = p.toInt + 1) (hp : 0 ≤ p.toInt ∧ p.toInt < 40) (hu : (T.2.2.1 o 2).toInt = p.toInt) (hf : FR1 T o r p) : IV R B K1 K2 T7 ∧ WX o T T7 ∧ (T7.2.2.1 o 2).toInt = p.toInt + 1 := by
  have key : ∀ m j, T7.2.2.1 m j = if m = o ∧ j = 2 then v else T.2.2.1 m j := fun m j => by
    rw [e]
    show va_up T.2.2.1 o (upd (T.2.2.1 o) 2 v) m j = _
    by_cases e : m = o
    · subst e
      rw [va_up_self]
      unfold upd
      by_cases e2 : j = 2
      · rw [if_pos e2, if_pos ⟨rfl, e2⟩]
      · rw [if_neg e2, if_neg (fun q => e2 q.2)]
    · rw [va_up_ne _ _ e, if_neg (fun q => e q.1)]
  have k2 : (T7.2.2.1 o 2).toInt = p.toInt + 1 := by rw [key, if_pos ⟨rfl, rfl⟩]; exact hv
  refine ⟨?_, ⟨fun m k h => by rw [key, if_neg (fun q => by rcases h with h | h; exact h q.1; exact h q.2)], by omega⟩, k2⟩
  rw [e]
  refine iv_used h k_o w_o (by omega) (fun q hq j hj => ?_)
  have w := isW_f w_o
  have c := i_cl hp.1
  by_cases ej : j = p.toNatClampNeg
  · obtain ⟨x, x1, x2, _⟩ := hf q hq
    exact ⟨x, by rw [ej]; exact x1, x2⟩
  · obtain ⟨x, x1, x2⟩ := h.2.2.2.2.1 o (iv_sta h k_o w.1.1.1 w.1.1.2) (by rw [k_o]; exact w_o) q hq j (by omega)
    exact ⟨x, x1, by rw [← k_o]; exact x2⟩
set_option maxHeartbeats 2000000 in
theorem c_widenTo_b40 {R : Nat → Nat} {B K1 K2 : Nat} {Q : AT → Prop} {k5 : AT → Nat → Int32 → Int32 → Option AT} {l1 l2 : Int32} {l0 r_l0 : Nat} (k_l0 : R l0 = r_l0) (w_l0 : isW r_l0 = true) (g2 : 1 ≤ l2.toInt ∧ l2.toInt < 40) (T0 : AT) (hq : ∀ (T7 : AT) (v : Int32), IV R B K1 K2 T7 → WX l0 T0 T7 → (T7.2.2.1 l0 2).toInt = l2.toInt + 1 → v.toInt = l2.toInt + 1 → Tot (k5 T7 l0 l1 v) Q) : ∀ (n : Nat) (T : AT) (l3 : Int32), IV R B K1 K2 T → WX l0 T0 T → (T.2.2.1 l0 2).toInt = l2.toInt → FR1 T l0 r_l0 l2 → (0 ≤ l3.toInt ∧ l3.toInt ≤ cnt r_l0) → 7200 - l3.toInt < (n : Int) → Tot (g_X10_widenTo_b40 k5 n T l0 l1 l2 l3) Q := by
  have z0 : (0 : Int32).toInt = 0 := by decide
  have z1 : (1 : Int32).toInt = 1 := by decide
  have z2 : (2 : Int32).toInt = 2 := by decide
  have z40 : (40 : Int32).toInt = 40 := by decide
  have zi : (Int32.ofInt (1) : Int32).toInt = 1 := by decide
  have zm : (Int32.ofInt (-1) : Int32).toInt = -1 := by decide
  have c7 := (isW_f w_l0).2.2.2.1
  intro n
  induction n with
  | zero =>
    intro T l3 h_T w_T hu fr_T g3 hm
    exfalso
    omega
  | succ n ih =>
    intro T l3 h_T w_T hu fr_T g3 hm
    unfold g_X10_widenTo_b40
    refine tot_oif (w_oO h_T k_l0 w_l0) ?_
    refine tot_let (fun v3 e3 => ?_)
    have q3 := i_eq e3
    have r3 := w_cnt h_T k_l0 w_l0
    refine tot_if (fun c => ?_) (fun c => ?_)
    · refine tot_let (fun v5 e5 => ?_)
      have q5 := i_add e5 (by omega) (by omega)
      refine tot_oif (w_oO h_T k_l0 w_l0) ?_
      refine tot_let (fun T7 e7 => ?_)
      have e40 := c_used1 h_T k_l0 w_l0 e7 (p := l2) (by omega) (by omega) (by omega) fr_T
      refine tot_let (fun v8 e8 => ?_)
      have q8 := i_add e8 (by omega) (by omega)
      exact hq T7 v8 e40.1 (w_T.tr e40.2.1) e40.2.2 (by omega)
    · replace c := i_nle c
      refine tw_q h_T k_l0 w_l0 (fun n10 k_n10 e_n10 => ?_)
      refine tot_let (fun v11 e11 => ?_)
      have q11 := i_sub e11 (by omega) (by omega)
      refine tw_p h_T k_n10 w_l0 (by omega) ?_
      refine tw_r (p := v11) h_T k_l0 w_l0 e_n10 (by omega) (fun n14 s_n14 x_n14 l_n14 => ?_)
      refine tw_i s_n14 c7.2 l_n14 (by omega) ?_
      refine tot_let (fun v17 e17 => ?_)
      refine tw_q h_T k_l0 w_l0 (fun n19 k_n19 e_n19 => ?_)
      refine tot_let (fun v20 e20 => ?_)
      have q20 := i_sub e20 (by omega) (by omega)
      refine tw_p h_T k_n19 w_l0 (by omega) ?_
      refine tw_r (p := v20) h_T k_l0 w_l0 e_n19 (by omega) (fun n23 s_n23 x_n23 l_n23 => ?_)
      refine tot_let (fun v24 e24 => ?_)
      refine tw_i s_n23 c7.2 l_n23 (by omega) ?_
      refine tot_let (fun T27 e27 => ?_)
      have h_T27 : IV R B K1 K2 T27 := by rw [e27]; exact iv_uJ h_T _ _ _
      have t_T27 : T27.2.2.1 = T.2.2.1 := by rw [e27]; rfl
      have fr_T27 : FR1 T27 l0 r_l0 l2 := by rw [e27]; exact fr_T
      refine tw_q h_T27 k_l0 w_l0 (fun n29 k_n29 e_n29 => ?_)
      refine tw_p h_T27 k_n29 w_l0 (by omega) ?_
      refine tw_f (p := l2) fr_T27 e_n29 (fun n32 s_n32 x_n32 l_n32 => ?_)
      refine tot_let (fun v33 e33 => ?_)
      refine tw_i s_n32 c7.2 l_n32 (by omega) ?_
      refine tot_let (fun T36 e36 => ?_)
      have h_T36 : IV R B K1 K2 T36 := by rw [e36]; exact iv_uJ h_T27 _ _ _
      have t_T36 : T36.2.2.1 = T.2.2.1 := by rw [← t_T27, e36]; rfl
      have fr_T36 : FR1 T36 l0 r_l0 l2 := by rw [e36]; exact fr_T27
      refine tot_let (fun v37 e37 => ?_)
      have q37 := i_add e37 (by omega) (by omega)
      exact ih T36 v37 h_T36 (w_T.tr (WX.of t_T36)) (by rw [t_T36]; exact hu) fr_T36 (by omega) (by omega)
theorem nI_cnt {r : Nat} (h : isW r = true) : ¬ nI (cnt r) = 0 := by
  rcases isW_c h with e | e | e | e | e <;> subst e <;> decide
set_option maxHeartbeats 2000000 in
theorem c_widenTo_b5 {R : Nat → Nat} {B K1 K2 : Nat} {l1 : Int32} {l0 r_l0 : Nat} (k_l0 : R l0 = r_l0) (w_l0 : isW r_l0 = true) (T0 : AT) : ∀ (n : Nat) (T : AT) (l2 : Int32), IV R B K1 K2 T → WX l0 T0 T → (T.2.2.1 l0 2).toInt = l2.toInt → 40 - l2.toInt < (n : Int) → Tot (g_X10_widenTo_b5 n T l0 l1 l2) (fun T1 => IV R B K1 K2 T1 ∧ WX l0 T0 T1 ∧ (l1.toInt ≤ (T1.2.2.1 l0 2).toInt ∨ 40 ≤ (T1.2.2.1 l0 2).toInt)) := by
  have z0 : (0 : Int32).toInt = 0 := by decide
  have z1 : (1 : Int32).toInt = 1 := by decide
  have z2 : (2 : Int32).toInt = 2 := by decide
  have z40 : (40 : Int32).toInt = 40 := by decide
  have zi : (Int32.ofInt (1) : Int32).toInt = 1 := by decide
  have zm : (Int32.ofInt (-1) : Int32).toInt = -1 := by decide
  intro n
  induction n with
  | zero =>
    intro T l2 h_T w_T hu hm
    have u := w_used h_T k_l0 w_l0
    exfalso
    omega
  | succ n ih =>
    intro T l2 h_T w_T hu hm
    have u := w_used h_T k_l0 w_l0
    have w := isW_f w_l0
    unfold g_X10_widenTo_b5
    refine tot_if (fun c => ?_) (fun c => ?_)
    · replace c := i_le c
      exact tot_some ⟨h_T, w_T, .inl (by omega)⟩
    · refine tot_if (fun c2 => ?_) (fun c2 => ?_)
      · replace c2 := i_le c2
        exact tot_some ⟨h_T, w_T, .inr (by omega)⟩
      · replace c2 := i_nle c2
        have go : ∀ U : AT, IV R B K1 K2 U → WX l0 T0 U → (U.2.2.1 l0 2).toInt = l2.toInt → FR1 U l0 r_l0 l2 → Tot (g_X10_widenTo_b38 (g_X10_widenTo_b5 n) U l0 l1 l2) (fun T1 => IV R B K1 K2 T1 ∧ WX l0 T0 T1 ∧ (l1.toInt ≤ (T1.2.2.1 l0 2).toInt ∨ 40 ≤ (T1.2.2.1 l0 2).toInt)) := fun U hU wU uU fU => by
          unfold g_X10_widenTo_b38
          exact c_widenTo_b40 k_l0 w_l0 (by omega) T0 (fun T7 v h7 w7 u7 hv => ih T7 v h7 w7 (by omega) (by omega)) 16384 U 0 hU wU uU fU (by omega) (by omega)
        refine tw_q h_T k_l0 w_l0 (fun n5 k_n5 e_n5 => ?_)
        refine tw_p h_T k_n5 w_l0 (by omega) ?_
        have c5 := i_cl (i := l2) (by omega)
        have n5s := iv_sta h_T k_n5 w.2.1.1.1 w.2.1.1.2
        obtain ⟨n8, x8, l8, R8⟩ := h_T.2.2.1 n5 l2.toNatClampNeg n5s (by
          rw [k_n5]
          unfold rtg
          rw [w.2.2.2.2.2, w.2.1.2.2, show Nat.blt l2.toNatClampNeg 40 = true from Nat.ble_eq_true_of_le (by omega)]
          show (30 : Nat) ≠ 99
          decide)
        have row := h_T.2.2.2.2.2.1 n5 l2.toNatClampNeg n8 n5s (by rw [k_n5]; exact w.2.1.2.2) x8
        rw [k_n5, w.2.2.2.2.1] at row
        refine tot_ref1 x8 ?_
        have a8 : aA T n8 101 = true := by
          unfold aA
          rw [row.2.1, show Nat.blt n8 T.1 = true from Nat.ble_eq_true_of_le l8, show Nat.blt (T.2.1 n8).2 (2 ^ 31) = true from Nat.ble_eq_true_of_le (by omega)]
          rfl
        refine tot_oif a8 ?_
        refine tot_let (fun v10 e10 => ?_)
        refine tot_if (fun c3 => ?_) (fun c3 => ?_)
        · have len0 : (T.2.1 n8).2 = 0 := by
            rcases row.2.2 with z | z
            · exact z
            · rw [e10, z] at c3
              exact absurd c3 (nI_cnt w_l0)
          refine tw_q h_T k_l0 w_l0 (fun n13 k_n13 e_n13 => ?_)
          rw [e_n5] at e_n13
          cases e_n13
          refine tot_oif (w_oO h_T k_l0 w_l0) ?_
          refine tot_let (fun v15 e15 => ?_)
          have q15 := i_eq e15
          have r15 := w_cnt h_T k_l0 w_l0
          have c15 := i_cl (i := v15) (by omega)
          refine tot_oif (i_inb (by omega) (by omega)) ?_
          refine tot_let (fun T17 e17 => ?_)
          rw [show v15.toNatClampNeg = cnt r_l0 from by omega] at e17
          unfold g_X10_widenTo_b37
          have n5l := iv_lt h_T n5s
          have s5 : T17.2.1 n5 = (107, 40) := by
            rw [e17]
            exact (va_up_ne T.2.1 _ (Nat.ne_of_lt n5l)).trans (by rw [h_T.2.1 n5 n5s, k_n5]; exact w.2.1.2.1)
          have st : T17.2.1 T.1 = (101, cnt r_l0) := by rw [e17]; exact va_up_self _ _ _
          have l17 : T17.1 = T.1 + 1 := by rw [e17]; rfl
          refine tot_oif ?_ (tot_oif ?_ (tot_oif ?_ ?_))
          · unfold aA
            rw [s5, show Nat.blt n5 T17.1 = true from Nat.ble_eq_true_of_le (by omega)]
            rfl
          · rw [s5]
            exact i_inb (by omega) (by show l2.toInt < ((40 : Nat) : Int); omega)
          · unfold aA
            rw [st, show Nat.blt T.1 T17.1 = true from Nat.ble_eq_true_of_le (by omega), show Nat.blt (cnt r_l0) (2 ^ 31) = true from Nat.ble_eq_true_of_le (by omega)]
            rfl
          · refine tot_let (fun T5 e5 => ?_)
            rw [e17] at e5
            have h5 : IV R B K1 K2 T5 := by rw [e5]; exact iv_new h_T k_l0 w_l0 k_n5 e_n5 (by omega) x8 len0
            have t5 : T5.2.2.1 = T.2.2.1 := by rw [e5]; rfl
            refine go T5 h5 (w_T.tr (WX.of t5)) (by rw [t5]; exact hu) (fun q hq => ?_)
            have hne : l0 ≠ n5 := fun e => by rw [e, k_n5] at k_l0; omega
            have hq2 : T.2.2.2.2 l0 1 = some q := by
              rw [e5] at hq
              exact (congrFun (va_up_ne T.2.2.2.2 _ hne) 1).symm.trans hq
            rw [e_n5] at hq2
            cases hq2
            refine ⟨T.1, ?_, ?_, ?_⟩
            · rw [e5]
              show va_up T.2.2.2.2 n5 (va_up (T.2.2.2.2 n5) l2.toNatClampNeg (some T.1)) n5 l2.toNatClampNeg = _
              rw [va_up_self, va_up_self]
            · rw [e5]
              exact va_up_self _ _ _
            · rw [e5]
              exact Nat.lt_succ_self _
        · refine go T h_T w_T hu (fun q hq => ?_)
          rw [e_n5] at hq
          cases hq
          rcases row.2.2 with z | z
          · rw [e10, z] at c3
            exact absurd (by decide) c3
          · exact ⟨n8, x8, by rw [← z, ← row.2.1], l8⟩
theorem c_widenTo {R : Nat → Nat} {B K1 K2 : Nat} {T : AT} {a0 : Int32} {o r_o : Nat} (k_o : R o = r_o) (w_o : isW r_o = true) (h_T : IV R B K1 K2 T) : Tot (g_X10_widenTo T o a0) (fun T1 => IV R B K1 K2 T1 ∧ WX o T T1 ∧ (a0.toInt ≤ (T1.2.2.1 o 2).toInt ∨ 40 ≤ (T1.2.2.1 o 2).toInt)) := by
  unfold g_X10_widenTo
  refine tot_oif (w_oO h_T k_o w_o) ?_
  refine tot_let (fun v3 e3 => ?_)
  have u := w_used h_T k_o w_o
  have q3 := i_eq e3
  exact c_widenTo_b5 k_o w_o T 16384 T v3 h_T WX.rf (by omega) (by omega)
set_option maxHeartbeats 2000000 in
theorem c_settle_b64 {R : Nat → Nat} {B K1 K2 : Nat} {l1 : Int32} {l0 r_l0 : Nat} (k_l0 : R l0 = r_l0) (w_l0 : isW r_l0 = true) (g1 : (0 ≤ l1.toInt ∧ l1.toInt < cnt r_l0)) (T0 : AT) : ∀ (n : Nat) (T : AT) (l2 : Int32), IV R B K1 K2 T → WX l0 T0 T → (0 ≤ l2.toInt ∧ l2.toInt < (T.2.2.1 l0 2).toInt) → 40 - l2.toInt < (n : Int) → Tot (g_X10_settle_b64 n T l0 l1 l2) (fun T1 => IV R B K1 K2 T1 ∧ WX l0 T0 T1) := by
  have z0 : (0 : Int32).toInt = 0 := by decide
  have z1 : (1 : Int32).toInt = 1 := by decide
  have z2 : (2 : Int32).toInt = 2 := by decide
  have z40 : (40 : Int32).toInt = 40 := by decide
  have zi : (Int32.ofInt (1) : Int32).toInt = 1 := by decide
  have zm : (Int32.ofInt (-1) : Int32).toInt = -1 := by decide
  intro n
  induction n with
  | zero =>
    intro T l2 h_T w_T g2 hm
    have u_T := w_used h_T k_l0 w_l0
    exfalso
    omega
  | succ n ih =>
    intro T l2 h_T w_T g2 hm
    have u_T := w_used h_T k_l0 w_l0
    unfold g_X10_settle_b64
    refine tot_let (fun v_19 e_v_19 => ?_)
    have q_v_19 := i_add e_v_19 (by omega) (by omega)
    refine tot_if (fun c_26 => ?_) (fun c_26 => ?_)
    · replace c_26 := i_le c_26
      unfold g_X10_settle_b99
      exact tot_some ⟨h_T, w_T⟩
    · replace c_26 := i_nle c_26
      refine tw_q h_T k_l0 w_l0 (fun n_20 k_n_20 e_n_20 => ?_)
      refine tw_p h_T k_n_20 w_l0 (by omega) ?_
      refine tw_r (p := l2) h_T k_l0 w_l0 e_n_20 (by omega) (fun n_21 s_n_21 x_n_21 l_n_21 => ?_)
      refine tw_i s_n_21 (isW_f w_l0).2.2.2.1.2 l_n_21 (by omega) ?_
      refine tot_let (fun v_22 e_v_22 => ?_)
      refine tot_bind (c_beyond v_22) (fun r_23 _ => ?_)
      refine tot_if (fun c_27 => ?_) (fun c_27 => ?_)
      · replace c_27 := i_eq c_27
        unfold g_X10_settle_b99
        exact tot_some ⟨h_T, w_T⟩
      · replace c_27 := i_ne c_27
        refine tot_let (fun v_24 e_v_24 => ?_)
        have q_v_24 := i_add e_v_24 (by omega) (by omega)
        refine tot_oif (w_oO h_T k_l0 w_l0) ?_
        refine tot_bind (c_widenTo (a0 := v_24) k_l0 w_l0 h_T) (fun T_25 d_T_25 => ?_)
        have h_T_25 : IV R B K1 K2 T_25 := d_T_25.1
        have x_T_25 : WX l0 T T_25 := d_T_25.2.1
        have v_T_25 : v_24.toInt ≤ (T_25.2.2.1 l0 2).toInt ∨ 40 ≤ (T_25.2.2.1 l0 2).toInt := d_T_25.2.2
        have w_T_25 := w_T.tr x_T_25
        unfold g_X10_settle_b93
        refine tot_let (fun v_28 e_v_28 => ?_)
        have q_v_28 := i_add e_v_28 (by omega) (by omega)
        exact ih T_25 v_28 h_T_25 w_T_25 (by have := w_used h_T_25 k_l0 w_l0; omega) (by omega)
set_option maxHeartbeats 2000000 in
theorem c_settle_b2 {R : Nat → Nat} {B K1 K2 : Nat} {l1 : Int32} {l0 r_l0 : Nat} (k_l0 : R l0 = r_l0) (w_l0 : isW r_l0 = true) (g1 : (0 ≤ l1.toInt ∧ l1.toInt < cnt r_l0)) (T0 : AT) : ∀ (n : Nat) (T : AT) (l2 : Int32), IV R B K1 K2 T → WX l0 T0 T → (0 ≤ l2.toInt ∧ l2.toInt ≤ 40) → 40 - l2.toInt < (n : Int) → Tot (g_X10_settle_b2 n T l0 l1 l2) (fun T1 => IV R B K1 K2 T1 ∧ WX l0 T0 T1) := by
  have z0 : (0 : Int32).toInt = 0 := by decide
  have z1 : (1 : Int32).toInt = 1 := by decide
  have z2 : (2 : Int32).toInt = 2 := by decide
  have z40 : (40 : Int32).toInt = 40 := by decide
  have zi : (Int32.ofInt (1) : Int32).toInt = 1 := by decide
  have zm : (Int32.ofInt (-1) : Int32).toInt = -1 := by decide
  intro n
  induction n with
  | zero =>
    intro T l2 h_T w_T g2 hm
    exfalso
    omega
  | succ n ih =>
    intro T l2 h_T w_T g2 hm
    unfold g_X10_settle_b2
    refine tot_let (fun v_29 e_v_29 => ?_)
    have q_v_29 := i_add e_v_29 (by omega) (by omega)
    refine tot_oif (w_oO h_T k_l0 w_l0) ?_
    refine tot_let (fun v_30 e_v_30 => ?_)
    have q_v_30 := i_eq e_v_30
    have r_v_30 := w_used h_T k_l0 w_l0
    refine tot_if (fun c_48 => ?_) (fun c_48 => ?_)
    · replace c_48 := i_le c_48
      refine tot_oif (w_oO h_T k_l0 w_l0) ?_
      refine tot_let (fun v_31 e_v_31 => ?_)
      have q_v_31 := i_eq e_v_31
      have r_v_31 := w_used h_T k_l0 w_l0
      refine tot_let (fun v_32 e_v_32 => ?_)
      have q_v_32 := i_sub e_v_32 (by omega) (by omega)
      exact c_settle_b64 k_l0 w_l0 g1 T0 16384 T v_32 h_T w_T (by omega) (by omega)
    · replace c_48 := i_nle c_48
      refine tw_q h_T k_l0 w_l0 (fun n_33 k_n_33 e_n_33 => ?_)
      refine tw_p h_T k_n_33 w_l0 (by omega) ?_
      refine tw_r (p := l2) h_T k_l0 w_l0 e_n_33 (by omega) (fun n_34 s_n_34 x_n_34 l_n_34 => ?_)
      refine tw_i s_n_34 (isW_f w_l0).2.2.2.1.2 l_n_34 (by omega) ?_
      refine tot_let (fun v_35 e_v_35 => ?_)
      refine tw_q h_T k_l0 w_l0 (fun n_36 k_n_36 e_n_36 => ?_)
      refine tw_p h_T k_n_36 w_l0 (by omega) ?_
      refine tw_r (p := l2) h_T k_l0 w_l0 e_n_36 (by omega) (fun n_37 s_n_37 x_n_37 l_n_37 => ?_)
      refine tot_let (fun v_38 e_v_38 => ?_)
      refine tw_i s_n_37 (isW_f w_l0).2.2.2.1.2 l_n_37 (by omega) ?_
      refine tot_let (fun T_39 e_T_39 => ?_)
      have h_T_39 : IV R B K1 K2 T_39 := by rw [e_T_39]; exact iv_uJ h_T _ _ _
      have t_T_39 : T_39.2.2.1 = T.2.2.1 := by rw [e_T_39]; rfl
      have w_T_39 := w_T.tr (WX.of (o := l0) t_T_39)
      have u_T_39_l0 : (T_39.2.2.1 l0 2).toInt = (T.2.2.1 l0 2).toInt := by rw [t_T_39]
      refine tw_q h_T_39 k_l0 w_l0 (fun n_40 k_n_40 e_n_40 => ?_)
      refine tot_let (fun v_41 e_v_41 => ?_)
      have q_v_41 := i_add e_v_41 (by omega) (by omega)
      refine tw_p h_T_39 k_n_40 w_l0 (by omega) ?_
      refine tw_r (p := v_41) h_T_39 k_l0 w_l0 e_n_40 (by omega) (fun n_42 s_n_42 x_n_42 l_n_42 => ?_)
      refine tw_i s_n_42 (isW_f w_l0).2.2.2.1.2 l_n_42 (by omega) ?_
      refine tot_let (fun v_43 e_v_43 => ?_)
      refine tot_let (fun v_44 e_v_44 => ?_)
      refine tot_let (fun v_45 e_v_45 => ?_)
      refine tw_i s_n_42 (isW_f w_l0).2.2.2.1.2 l_n_42 (by omega) ?_
      refine tot_let (fun T_46 e_T_46 => ?_)
      have h_T_46 : IV R B K1 K2 T_46 := by rw [e_T_46]; exact iv_uJ h_T_39 _ _ _
      have t_T_46 : T_46.2.2.1 = T_39.2.2.1 := by rw [e_T_46]; rfl
      have w_T_46 := w_T_39.tr (WX.of (o := l0) t_T_46)
      have u_T_46_l0 : (T_46.2.2.1 l0 2).toInt = (T_39.2.2.1 l0 2).toInt := by rw [t_T_46]
      refine tot_let (fun v_47 e_v_47 => ?_)
      have q_v_47 := i_add e_v_47 (by omega) (by omega)
      exact ih T_46 v_47 h_T_46 w_T_46 (by omega) (by omega)
theorem c_settle {R : Nat → Nat} {B K1 K2 : Nat} {T : AT} {a0 : Int32} {o r_o : Nat} (k_o : R o = r_o) (w_o : isW r_o = true) (h_T : IV R B K1 K2 T) (g0 : (0 ≤ a0.toInt ∧ a0.toInt < cnt r_o)) : Tot (g_X10_settle T o a0) (fun T1 => IV R B K1 K2 T1 ∧ WX o T T1) := by
  have z0 : (0 : Int32).toInt = 0 := by decide
  unfold g_X10_settle
  exact c_settle_b2 k_o w_o g0 T 16384 T 0 h_T WX.rf (by omega) (by omega)
set_option maxHeartbeats 2000000 in
theorem c_multiply_b2 {R : Nat → Nat} {B K1 K2 : Nat} {l1 l2 : Int32} {l0 r_l0 : Nat} (k_l0 : R l0 = r_l0) (w_l0 : isW r_l0 = true) (g1 : (0 ≤ l1.toInt ∧ l1.toInt < cnt r_l0)) (T0 : AT) : ∀ (n : Nat) (T : AT) (l3 : Int32), IV R B K1 K2 T → WX l0 T0 T → (0 ≤ l3.toInt ∧ l3.toInt ≤ 40) → 40 - l3.toInt < (n : Int) → Tot (g_X10_multiply_b2 n T l0 l1 l2 l3) (fun T1 => IV R B K1 K2 T1 ∧ WX l0 T0 T1) := by
  have z0 : (0 : Int32).toInt = 0 := by decide
  have z1 : (1 : Int32).toInt = 1 := by decide
  have z2 : (2 : Int32).toInt = 2 := by decide
  have z40 : (40 : Int32).toInt = 40 := by decide
  have zi : (Int32.ofInt (1) : Int32).toInt = 1 := by decide
  have zm : (Int32.ofInt (-1) : Int32).toInt = -1 := by decide
  intro n
  induction n with
  | zero =>
    intro T l3 h_T w_T g3 hm
    exfalso
    omega
  | succ n ih =>
    intro T l3 h_T w_T g3 hm
    unfold g_X10_multiply_b2
    refine tot_oif (w_oO h_T k_l0 w_l0) ?_
    refine tot_let (fun v_49 e_v_49 => ?_)
    have q_v_49 := i_eq e_v_49
    have r_v_49 := w_used h_T k_l0 w_l0
    refine tot_if (fun c_58 => ?_) (fun c_58 => ?_)
    · replace c_58 := i_le c_58
      refine tot_oif (w_oO h_T k_l0 w_l0) ?_
      refine tot_bind (c_settle (a0 := l1) k_l0 w_l0 h_T (by omega)) (fun T_50 d_T_50 => ?_)
      have h_T_50 : IV R B K1 K2 T_50 := d_T_50.1
      have w_T_50 := w_T.tr d_T_50.2
      unfold g_X10_multiply_b34
      exact tot_some ⟨h_T_50, w_T_50⟩
    · replace c_58 := i_nle c_58
      refine tw_q h_T k_l0 w_l0 (fun n_51 k_n_51 e_n_51 => ?_)
      refine tw_p h_T k_n_51 w_l0 (by omega) ?_
      refine tw_r (p := l3) h_T k_l0 w_l0 e_n_51 (by omega) (fun n_52 s_n_52 x_n_52 l_n_52 => ?_)
      refine tw_i s_n_52 (isW_f w_l0).2.2.2.1.2 l_n_52 (by omega) ?_
      refine tot_let (fun v_53 e_v_53 => ?_)
      refine tot_let (fun v_54 e_v_54 => ?_)
      refine tot_let (fun v_55 e_v_55 => ?_)
      refine tw_i s_n_52 (isW_f w_l0).2.2.2.1.2 l_n_52 (by omega) ?_
      refine tot_let (fun T_56 e_T_56 => ?_)
      have h_T_56 : IV R B K1 K2 T_56 := by rw [e_T_56]; exact iv_uJ h_T _ _ _
      have t_T_56 : T_56.2.2.1 = T.2.2.1 := by rw [e_T_56]; rfl
      have w_T_56 := w_T.tr (WX.of (o := l0) t_T_56)
      have u_T_56_l0 : (T_56.2.2.1 l0 2).toInt = (T.2.2.1 l0 2).toInt := by rw [t_T_56]
      refine tot_let (fun v_57 e_v_57 => ?_)
      have q_v_57 := i_add e_v_57 (by omega) (by omega)
      exact ih T_56 v_57 h_T_56 w_T_56 (by omega) (by omega)
theorem c_multiply {R : Nat → Nat} {B K1 K2 : Nat} {T : AT} {a0 a1 : Int32} {o r_o : Nat} (k_o : R o = r_o) (w_o : isW r_o = true) (h_T : IV R B K1 K2 T) (g0 : (0 ≤ a0.toInt ∧ a0.toInt < cnt r_o)) : Tot (g_X10_multiply T o a0 a1) (fun T1 => IV R B K1 K2 T1 ∧ WX o T T1) := by
  have z0 : (0 : Int32).toInt = 0 := by decide
  unfold g_X10_multiply
  exact c_multiply_b2 k_o w_o g0 T 16384 T 0 h_T WX.rf (by omega) (by omega)
set_option maxHeartbeats 2000000 in
theorem c_putN {R : Nat → Nat} {B K1 K2 : Nat} {T : AT} {a0 a1 : Int32} {o r_o : Nat} (k_o : R o = r_o) (w_o : isW r_o = true) (h_T : IV R B K1 K2 T) (g0 : (0 ≤ a0.toInt ∧ a0.toInt < cnt r_o)) : Tot (g_X10_put T o a0 a1) (fun T1 => IV R B K1 K2 T1 ∧ WX o T T1) := by
  have z0 : (0 : Int32).toInt = 0 := by decide
  have z1 : (1 : Int32).toInt = 1 := by decide
  have z2 : (2 : Int32).toInt = 2 := by decide
  have z40 : (40 : Int32).toInt = 40 := by decide
  have zi : (Int32.ofInt (1) : Int32).toInt = 1 := by decide
  have zm : (Int32.ofInt (-1) : Int32).toInt = -1 := by decide
  have w_T : WX o T T := WX.rf
  unfold g_X10_put
  refine tot_oif (w_oO h_T k_o w_o) ?_
  refine tot_bind (c_clear (a0 := a0) h_T k_o w_o (by omega)) (fun T_59 d_T_59 => ?_)
  have h_T_59 : IV R B K1 K2 T_59 := d_T_59.1
  have w_T_59 := w_T.tr (WX.of (o := o) d_T_59.2)
  have u_T_59_o := w_used h_T_59 k_o w_o
  refine tw_q h_T_59 k_o w_o (fun n_60 k_n_60 e_n_60 => ?_)
  refine tw_p h_T_59 k_n_60 w_o (by omega) ?_
  refine tw_r (p := (0 : Int32)) h_T_59 k_o w_o e_n_60 (by omega) (fun n_61 s_n_61 x_n_61 l_n_61 => ?_)
  refine tot_let (fun v_62 e_v_62 => ?_)
  refine tw_i s_n_61 (isW_f w_o).2.2.2.1.2 l_n_61 (by omega) ?_
  refine tot_let (fun T_63 e_T_63 => ?_)
  have h_T_63 : IV R B K1 K2 T_63 := by rw [e_T_63]; exact iv_uJ h_T_59 _ _ _
  have t_T_63 : T_63.2.2.1 = T_59.2.2.1 := by rw [e_T_63]; rfl
  have w_T_63 := w_T_59.tr (WX.of (o := o) t_T_63)
  have u_T_63_o : (T_63.2.2.1 o 2).toInt = (T_59.2.2.1 o 2).toInt := by rw [t_T_63]
  refine tot_oif (w_oO h_T_63 k_o w_o) ?_
  refine tot_bind (c_settle (a0 := a0) k_o w_o h_T_63 (by omega)) (fun T_64 d_T_64 => ?_)
  have h_T_64 : IV R B K1 K2 T_64 := d_T_64.1
  have w_T_64 := w_T_63.tr d_T_64.2
  unfold g_X10_put_b20
  exact tot_some ⟨h_T_64, w_T_64⟩
theorem c_floorDiv (a0 a1 : Int64) (h : ¬ a1 = 0) : Tot (g_J9_floorDiv_f86c9 a0 a1) (fun _ => True) := by
  unfold g_J9_floorDiv_f86c9 g_J9_floorDiv_f86c9_b27
  exact tot_oif h (tot_let fun _ _ => tot_let fun _ _ => tot_let fun _ _ => tot_if (fun _ => tot_some trivial) (fun _ => tot_let fun _ _ => tot_let fun _ _ => tot_if (fun _ => tot_some trivial) (fun _ => tot_let fun _ _ => tot_some trivial)))
theorem c_floorMod (a0 a1 : Int64) (h : ¬ a1 = 0) : Tot (g_J9_floorMod_f86c9 a0 a1) (fun _ => True) := by
  unfold g_J9_floorMod_f86c9 g_J9_floorMod_f86c9_b25
  exact tot_oif h (tot_let fun _ _ => tot_let fun _ _ => tot_let fun _ _ => tot_if (fun _ => tot_some trivial) (fun _ => tot_let fun _ _ => tot_if (fun _ => tot_some trivial) (fun _ => tot_let fun _ _ => tot_some trivial)))
theorem c_compareL (a0 a1 : Int64) : Tot (g_J13_compare_74951 a0 a1) (fun _ => True) := by
  unfold g_J13_compare_74951 g_J13_compare_74951_b21
  exact tot_let fun _ _ => tot_if (fun _ => tot_let fun _ _ => tot_if (fun _ => tot_some trivial) (fun _ => tot_some trivial)) (fun _ => tot_some trivial)
set_option maxHeartbeats 2000000 in
theorem c_divide_b40 {R : Nat → Nat} {B K1 K2 : Nat} {l1 l2 l3 : Int32} {l0 r_l0 : Nat} (k_l0 : R l0 = r_l0) (w_l0 : isW r_l0 = true) (g1 : (0 ≤ l1.toInt ∧ l1.toInt < cnt r_l0)) (g2 : 1 ≤ l2.toInt) (T0 : AT) : ∀ (n : Nat) (T : AT) (l4 : Int64) (l6 : Int32), IV R B K1 K2 T → WX l0 T0 T → (-1 ≤ l6.toInt ∧ l6.toInt < (T.2.2.1 l0 2).toInt) → l6.toInt + 1 < (n : Int) → Tot (g_X10_divide_b40 n T l0 l1 l2 l3 l4 l6) (fun T1 => IV R B K1 K2 T1 ∧ WX l0 T0 T1) := by
  have z0 : (0 : Int32).toInt = 0 := by decide
  have z1 : (1 : Int32).toInt = 1 := by decide
  have z2 : (2 : Int32).toInt = 2 := by decide
  have z40 : (40 : Int32).toInt = 40 := by decide
  have zi : (Int32.ofInt (1) : Int32).toInt = 1 := by decide
  have zm : (Int32.ofInt (-1) : Int32).toInt = -1 := by decide
  intro n
  induction n with
  | zero =>
    intro T l4 l6 h_T w_T g6 hm
    have u_T := w_used h_T k_l0 w_l0
    exfalso
    omega
  | succ n ih =>
    intro T l4 l6 h_T w_T g6 hm
    have u_T := w_used h_T k_l0 w_l0
    unfold g_X10_divide_b40
    refine tot_if (fun c_85 => ?_) (fun c_85 => ?_)
    · replace c_85 := i_lt c_85
      refine tot_if (fun c_86 => ?_) (fun c_86 => ?_)
      · replace c_86 := i_eq c_86
        unfold g_X10_divide_b121
        exact tot_some ⟨h_T, w_T⟩
      · replace c_86 := i_ne c_86
        refine tot_let (fun v_65 e_v_65 => ?_)
        refine tot_if (fun c_87 => ?_) (fun c_87 => ?_)
        · replace c_87 := i_le c_87
          unfold g_X10_divide_b121
          exact tot_some ⟨h_T, w_T⟩
        · replace c_87 := i_nle c_87
          refine tw_q h_T k_l0 w_l0 (fun n_66 k_n_66 e_n_66 => ?_)
          refine tw_p h_T k_n_66 w_l0 (by omega) ?_
          refine tw_r (p := (0 : Int32)) h_T k_l0 w_l0 e_n_66 (by omega) (fun n_67 s_n_67 x_n_67 l_n_67 => ?_)
          refine tw_i s_n_67 (isW_f w_l0).2.2.2.1.2 l_n_67 (by omega) ?_
          refine tot_let (fun v_68 e_v_68 => ?_)
          refine tot_let (fun v_69 e_v_69 => ?_)
          refine tw_i s_n_67 (isW_f w_l0).2.2.2.1.2 l_n_67 (by omega) ?_
          refine tot_let (fun T_70 e_T_70 => ?_)
          have h_T_70 : IV R B K1 K2 T_70 := by rw [e_T_70]; exact iv_uJ h_T _ _ _
          have t_T_70 : T_70.2.2.1 = T.2.2.1 := by rw [e_T_70]; rfl
          have w_T_70 := w_T.tr (WX.of (o := l0) t_T_70)
          have u_T_70_l0 : (T_70.2.2.1 l0 2).toInt = (T.2.2.1 l0 2).toInt := by rw [t_T_70]
          refine tot_oif (w_oO h_T_70 k_l0 w_l0) ?_
          refine tot_bind (c_settle (a0 := l1) k_l0 w_l0 h_T_70 (by omega)) (fun T_71 d_T_71 => ?_)
          have h_T_71 : IV R B K1 K2 T_71 := d_T_71.1
          have w_T_71 := w_T_70.tr d_T_71.2
          unfold g_X10_divide_b121
          exact tot_some ⟨h_T_71, w_T_71⟩
    · replace c_85 := i_nlt c_85
      refine tot_let (fun v_72 e_v_72 => ?_)
      refine tw_q h_T k_l0 w_l0 (fun n_73 k_n_73 e_n_73 => ?_)
      refine tw_p h_T k_n_73 w_l0 (by omega) ?_
      refine tw_r (p := l6) h_T k_l0 w_l0 e_n_73 (by omega) (fun n_74 s_n_74 x_n_74 l_n_74 => ?_)
      refine tw_i s_n_74 (isW_f w_l0).2.2.2.1.2 l_n_74 (by omega) ?_
      refine tot_let (fun v_75 e_v_75 => ?_)
      refine tot_let (fun v_76 e_v_76 => ?_)
      refine tw_q h_T k_l0 w_l0 (fun n_77 k_n_77 e_n_77 => ?_)
      refine tw_p h_T k_n_77 w_l0 (by omega) ?_
      refine tw_r (p := l6) h_T k_l0 w_l0 e_n_77 (by omega) (fun n_78 s_n_78 x_n_78 l_n_78 => ?_)
      refine tot_let (fun v_79 e_v_79 => ?_)
      refine tot_bind (c_floorDiv v_76 v_79 (by rw [e_v_79]; exact i_nz64 (by omega))) (fun r_80 _ => ?_)
      refine tw_i s_n_78 (isW_f w_l0).2.2.2.1.2 l_n_78 (by omega) ?_
      refine tot_let (fun T_81 e_T_81 => ?_)
      have h_T_81 : IV R B K1 K2 T_81 := by rw [e_T_81]; exact iv_uJ h_T _ _ _
      have t_T_81 : T_81.2.2.1 = T.2.2.1 := by rw [e_T_81]; rfl
      have w_T_81 := w_T.tr (WX.of (o := l0) t_T_81)
      have u_T_81_l0 : (T_81.2.2.1 l0 2).toInt = (T.2.2.1 l0 2).toInt := by rw [t_T_81]
      refine tot_let (fun v_82 e_v_82 => ?_)
      refine tot_bind (c_floorMod v_76 v_82 (by rw [e_v_82]; exact i_nz64 (by omega))) (fun r_83 _ => ?_)
      refine tot_let (fun v_84 e_v_84 => ?_)
      have q_v_84 := i_add e_v_84 (by omega) (by omega)
      exact ih T_81 r_83 v_84 h_T_81 w_T_81 (by omega) (by omega)
set_option maxHeartbeats 2000000 in
theorem c_divide {R : Nat → Nat} {B K1 K2 : Nat} {T : AT} {a0 a1 : Int32} {o r_o : Nat} (k_o : R o = r_o) (w_o : isW r_o = true) (h_T : IV R B K1 K2 T) (g0 : (0 ≤ a0.toInt ∧ a0.toInt < cnt r_o)) : Tot (g_X10_divide T o a0 a1) (fun T1 => IV R B K1 K2 T1 ∧ WX o T T1) := by
  have z0 : (0 : Int32).toInt = 0 := by decide
  have z1 : (1 : Int32).toInt = 1 := by decide
  have z2 : (2 : Int32).toInt = 2 := by decide
  have z40 : (40 : Int32).toInt = 40 := by decide
  have zi : (Int32.ofInt (1) : Int32).toInt = 1 := by decide
  have zm : (Int32.ofInt (-1) : Int32).toInt = -1 := by decide
  have w_T : WX o T T := WX.rf
  unfold g_X10_divide
  refine tot_if (fun c_94 => ?_) (fun c_94 => ?_)
  · replace c_94 := i_lt c_94
    refine tw_q h_T k_o w_o (fun n_88 k_n_88 e_n_88 => ?_)
    refine tot_oif (w_oO h_T k_o w_o) ?_
    refine tot_let (fun v_89 e_v_89 => ?_)
    have q_v_89 := i_eq e_v_89
    have r_v_89 := w_used h_T k_o w_o
    refine tot_let (fun v_90 e_v_90 => ?_)
    have q_v_90 := i_sub e_v_90 (by omega) (by omega)
    refine tw_p h_T k_n_88 w_o (by omega) ?_
    refine tw_r (p := v_90) h_T k_o w_o e_n_88 (by omega) (fun n_91 s_n_91 x_n_91 l_n_91 => ?_)
    refine tw_i s_n_91 (isW_f w_o).2.2.2.1.2 l_n_91 (by omega) ?_
    refine tot_let (fun v_92 e_v_92 => ?_)
    refine tot_let (fun v_93 e_v_93 => ?_)
    refine tot_if (fun c_95 => ?_) (fun c_95 => ?_)
    · replace c_95 := i_le c_95
      unfold g_X10_divide_b28
      refine tot_oif (w_oO h_T k_o w_o) ?_
      refine tot_let (fun v_96 e_v_96 => ?_)
      have q_v_96 := i_eq e_v_96
      have r_v_96 := w_used h_T k_o w_o
      refine tot_let (fun v_97 e_v_97 => ?_)
      have q_v_97 := i_sub e_v_97 (by omega) (by omega)
      exact c_divide_b40 k_o w_o g0 (by omega) T 16384 T _ v_97 h_T w_T (by omega) (by omega)
    · replace c_95 := i_nle c_95
      unfold g_X10_divide_b28
      refine tot_oif (w_oO h_T k_o w_o) ?_
      refine tot_let (fun v_98 e_v_98 => ?_)
      have q_v_98 := i_eq e_v_98
      have r_v_98 := w_used h_T k_o w_o
      refine tot_let (fun v_99 e_v_99 => ?_)
      have q_v_99 := i_sub e_v_99 (by omega) (by omega)
      exact c_divide_b40 k_o w_o g0 (by omega) T 16384 T _ v_99 h_T w_T (by omega) (by omega)
  · replace c_94 := i_nlt c_94
    exact tot_some ⟨h_T, w_T⟩
set_option maxHeartbeats 2000000 in
theorem c_compare_b10 {R : Nat → Nat} {B K1 K2 : Nat} {T : AT} {l1 l2 : Int32} {l0 r_l0 : Nat} (k_l0 : R l0 = r_l0) (w_l0 : isW r_l0 = true) (h_T : IV R B K1 K2 T) (g1 : (0 ≤ l1.toInt ∧ l1.toInt < cnt r_l0)) (g2 : (0 ≤ l2.toInt ∧ l2.toInt < cnt r_l0)) : ∀ (n : Nat) (l3 l4 : Int32), (-1 ≤ l4.toInt ∧ l4.toInt < (T.2.2.1 l0 2).toInt) → l4.toInt + 1 < (n : Int) → Tot (g_X10_compare_b10 n T l0 l1 l2 l3 l4) (fun r => r.2 = T ∧ True) := by
  have z0 : (0 : Int32).toInt = 0 := by decide
  have z1 : (1 : Int32).toInt = 1 := by decide
  have z2 : (2 : Int32).toInt = 2 := by decide
  have z40 : (40 : Int32).toInt = 40 := by decide
  have zi : (Int32.ofInt (1) : Int32).toInt = 1 := by decide
  have zm : (Int32.ofInt (-1) : Int32).toInt = -1 := by decide
  intro n
  induction n with
  | zero =>
    intro l3 l4 g4 hm
    have u_T := w_used h_T k_l0 w_l0
    exfalso
    omega
  | succ n ih =>
    intro l3 l4 g4 hm
    have u_T := w_used h_T k_l0 w_l0
    unfold g_X10_compare_b10
    refine tot_if (fun c_108 => ?_) (fun c_108 => ?_)
    · replace c_108 := i_lt c_108
      unfold g_X10_compare_b47
      exact tot_some ⟨rfl, trivial⟩
    · replace c_108 := i_nlt c_108
      refine tot_if (fun c_109 => ?_) (fun c_109 => ?_)
      · replace c_109 := i_eq c_109
        refine tw_q h_T k_l0 w_l0 (fun n_100 k_n_100 e_n_100 => ?_)
        refine tw_p h_T k_n_100 w_l0 (by omega) ?_
        refine tw_r (p := l4) h_T k_l0 w_l0 e_n_100 (by omega) (fun n_101 s_n_101 x_n_101 l_n_101 => ?_)
        refine tw_i s_n_101 (isW_f w_l0).2.2.2.1.2 l_n_101 (by omega) ?_
        refine tot_let (fun v_102 e_v_102 => ?_)
        refine tw_q h_T k_l0 w_l0 (fun n_103 k_n_103 e_n_103 => ?_)
        refine tw_p h_T k_n_103 w_l0 (by omega) ?_
        refine tw_r (p := l4) h_T k_l0 w_l0 e_n_103 (by omega) (fun n_104 s_n_104 x_n_104 l_n_104 => ?_)
        refine tw_i s_n_104 (isW_f w_l0).2.2.2.1.2 l_n_104 (by omega) ?_
        refine tot_let (fun v_105 e_v_105 => ?_)
        refine tot_bind (c_compareL v_102 v_105) (fun r_106 _ => ?_)
        refine tot_let (fun v_107 e_v_107 => ?_)
        have q_v_107 := i_add e_v_107 (by omega) (by omega)
        exact ih r_106 v_107 (by omega) (by omega)
      · replace c_109 := i_ne c_109
        unfold g_X10_compare_b47
        exact tot_some ⟨rfl, trivial⟩
set_option maxHeartbeats 2000000 in
theorem c_compare {R : Nat → Nat} {B K1 K2 : Nat} {T : AT} {a0 a1 : Int32} {o r_o : Nat} (k_o : R o = r_o) (w_o : isW r_o = true) (h_T : IV R B K1 K2 T) (g0 : (0 ≤ a0.toInt ∧ a0.toInt < cnt r_o)) (g1 : (0 ≤ a1.toInt ∧ a1.toInt < cnt r_o)) : Tot (g_X10_compare T o a0 a1) (fun r => r.2 = T ∧ True) := by
  have z0 : (0 : Int32).toInt = 0 := by decide
  have z1 : (1 : Int32).toInt = 1 := by decide
  have z2 : (2 : Int32).toInt = 2 := by decide
  have z40 : (40 : Int32).toInt = 40 := by decide
  have zi : (Int32.ofInt (1) : Int32).toInt = 1 := by decide
  have zm : (Int32.ofInt (-1) : Int32).toInt = -1 := by decide
  unfold g_X10_compare
  refine tot_oif (w_oO h_T k_o w_o) ?_
  refine tot_let (fun v_110 e_v_110 => ?_)
  have q_v_110 := i_eq e_v_110
  have r_v_110 := w_used h_T k_o w_o
  refine tot_let (fun v_111 e_v_111 => ?_)
  have q_v_111 := i_sub e_v_111 (by omega) (by omega)
  exact c_compare_b10 k_o w_o h_T g0 g1 16384 0 v_111 (by omega) (by omega)
set_option maxHeartbeats 2000000 in
theorem c_isZero_b5 {R : Nat → Nat} {B K1 K2 : Nat} {T : AT} {l1 : Int32} {l0 r_l0 : Nat} (k_l0 : R l0 = r_l0) (w_l0 : isW r_l0 = true) (h_T : IV R B K1 K2 T) (g1 : (0 ≤ l1.toInt ∧ l1.toInt < cnt r_l0)) : ∀ (n : Nat) (l2 : Int64) (l4 : Int32), (0 ≤ l4.toInt ∧ l4.toInt ≤ 40) → 40 - l4.toInt < (n : Int) → Tot (g_X10_isZero_b5 n T l0 l1 l2 l4) (fun r => r.2 = T ∧ (r.1.toInt = 0 ∨ r.1.toInt = 1)) := by
  have z0 : (0 : Int32).toInt = 0 := by decide
  have z1 : (1 : Int32).toInt = 1 := by decide
  have z2 : (2 : Int32).toInt = 2 := by decide
  have z40 : (40 : Int32).toInt = 40 := by decide
  have zi : (Int32.ofInt (1) : Int32).toInt = 1 := by decide
  have zm : (Int32.ofInt (-1) : Int32).toInt = -1 := by decide
  intro n
  induction n with
  | zero =>
    intro l2 l4 g4 hm
    exfalso
    omega
  | succ n ih =>
    intro l2 l4 g4 hm
    unfold g_X10_isZero_b5
    refine tot_oif (w_oO h_T k_l0 w_l0) ?_
    refine tot_let (fun v_112 e_v_112 => ?_)
    have q_v_112 := i_eq e_v_112
    have r_v_112 := w_used h_T k_l0 w_l0
    refine tot_if (fun c_119 => ?_) (fun c_119 => ?_)
    · replace c_119 := i_le c_119
      refine tot_let (fun v_113 e_v_113 => ?_)
      refine tot_if (fun c_120 => ?_) (fun c_120 => ?_)
      · replace c_120 := i_eq c_120
        unfold g_X10_isZero_b43
        refine tot_oif (i_b01 (by omega)) ?_
        exact tot_some ⟨rfl, show (1 : Int32).toInt = 0 ∨ (1 : Int32).toInt = 1 from by omega⟩
      · replace c_120 := i_ne c_120
        unfold g_X10_isZero_b43
        refine tot_oif (i_b01 (by omega)) ?_
        exact tot_some ⟨rfl, show (0 : Int32).toInt = 0 ∨ (0 : Int32).toInt = 1 from by omega⟩
    · replace c_119 := i_nle c_119
      refine tw_q h_T k_l0 w_l0 (fun n_114 k_n_114 e_n_114 => ?_)
      refine tw_p h_T k_n_114 w_l0 (by omega) ?_
      refine tw_r (p := l4) h_T k_l0 w_l0 e_n_114 (by omega) (fun n_115 s_n_115 x_n_115 l_n_115 => ?_)
      refine tw_i s_n_115 (isW_f w_l0).2.2.2.1.2 l_n_115 (by omega) ?_
      refine tot_let (fun v_116 e_v_116 => ?_)
      refine tot_let (fun v_117 e_v_117 => ?_)
      refine tot_let (fun v_118 e_v_118 => ?_)
      have q_v_118 := i_add e_v_118 (by omega) (by omega)
      exact ih v_117 v_118 (by omega) (by omega)
theorem c_isZero {R : Nat → Nat} {B K1 K2 : Nat} {T : AT} {a0 : Int32} {o r_o : Nat} (k_o : R o = r_o) (w_o : isW r_o = true) (h_T : IV R B K1 K2 T) (g0 : (0 ≤ a0.toInt ∧ a0.toInt < cnt r_o)) : Tot (g_X10_isZero T o a0) (fun r => r.2 = T ∧ (r.1.toInt = 0 ∨ r.1.toInt = 1)) := by
  have z0 : (0 : Int32).toInt = 0 := by decide
  unfold g_X10_isZero
  exact c_isZero_b5 k_o w_o h_T g0 16384 0 0 (by omega) (by omega)
set_option maxHeartbeats 2000000 in
theorem c_value_b10 {R : Nat → Nat} {B K1 K2 : Nat} {T : AT} {l1 : Int32} {l0 r_l0 : Nat} (k_l0 : R l0 = r_l0) (w_l0 : isW r_l0 = true) (h_T : IV R B K1 K2 T) (g1 : (0 ≤ l1.toInt ∧ l1.toInt < cnt r_l0)) : ∀ (n : Nat) (l2 : Int64) (l4 : Int32), (-1 ≤ l4.toInt ∧ l4.toInt < (T.2.2.1 l0 2).toInt) → l4.toInt + 1 < (n : Int) → Tot (g_X10_value_b10 n T l0 l1 l2 l4) (fun r => r.2 = T ∧ True) := by
  have z0 : (0 : Int32).toInt = 0 := by decide
  have z1 : (1 : Int32).toInt = 1 := by decide
  have z2 : (2 : Int32).toInt = 2 := by decide
  have z40 : (40 : Int32).toInt = 40 := by decide
  have zi : (Int32.ofInt (1) : Int32).toInt = 1 := by decide
  have zm : (Int32.ofInt (-1) : Int32).toInt = -1 := by decide
  intro n
  induction n with
  | zero =>
    intro l2 l4 g4 hm
    have u_T := w_used h_T k_l0 w_l0
    exfalso
    omega
  | succ n ih =>
    intro l2 l4 g4 hm
    have u_T := w_used h_T k_l0 w_l0
    unfold g_X10_value_b10
    refine tot_if (fun c_127 => ?_) (fun c_127 => ?_)
    · replace c_127 := i_lt c_127
      exact tot_some ⟨rfl, trivial⟩
    · replace c_127 := i_nlt c_127
      refine tot_let (fun v_121 e_v_121 => ?_)
      refine tw_q h_T k_l0 w_l0 (fun n_122 k_n_122 e_n_122 => ?_)
      refine tw_p h_T k_n_122 w_l0 (by omega) ?_
      refine tw_r (p := l4) h_T k_l0 w_l0 e_n_122 (by omega) (fun n_123 s_n_123 x_n_123 l_n_123 => ?_)
      refine tw_i s_n_123 (isW_f w_l0).2.2.2.1.2 l_n_123 (by omega) ?_
      refine tot_let (fun v_124 e_v_124 => ?_)
      refine tot_let (fun v_125 e_v_125 => ?_)
      refine tot_let (fun v_126 e_v_126 => ?_)
      have q_v_126 := i_add e_v_126 (by omega) (by omega)
      exact ih v_125 v_126 (by omega) (by omega)
set_option maxHeartbeats 2000000 in
theorem c_value {R : Nat → Nat} {B K1 K2 : Nat} {T : AT} {a0 : Int32} {o r_o : Nat} (k_o : R o = r_o) (w_o : isW r_o = true) (h_T : IV R B K1 K2 T) (g0 : (0 ≤ a0.toInt ∧ a0.toInt < cnt r_o)) : Tot (g_X10_value T o a0) (fun r => r.2 = T ∧ True) := by
  have z0 : (0 : Int32).toInt = 0 := by decide
  have z1 : (1 : Int32).toInt = 1 := by decide
  have z2 : (2 : Int32).toInt = 2 := by decide
  have z40 : (40 : Int32).toInt = 40 := by decide
  have zi : (Int32.ofInt (1) : Int32).toInt = 1 := by decide
  have zm : (Int32.ofInt (-1) : Int32).toInt = -1 := by decide
  unfold g_X10_value
  refine tot_oif (w_oO h_T k_o w_o) ?_
  refine tot_let (fun v_128 e_v_128 => ?_)
  have q_v_128 := i_eq e_v_128
  have r_v_128 := w_used h_T k_o w_o
  refine tot_let (fun v_129 e_v_129 => ?_)
  have q_v_129 := i_sub e_v_129 (by omega) (by omega)
  exact c_value_b10 k_o w_o h_T g0 16384 _ v_129 (by omega) (by omega)
set_option maxHeartbeats 2000000 in
theorem c_partsBelow_b7 {R : Nat → Nat} {B K1 K2 : Nat} {T : AT} {l1 : Int32} {l0 r_l0 : Nat} (k_l0 : R l0 = r_l0) (w_l0 : isW r_l0 = true) (h_T : IV R B K1 K2 T) (g1 : (0 ≤ l1.toInt ∧ l1.toInt < cnt r_l0)) : ∀ (n : Nat) (l2 : Int32), (0 ≤ l2.toInt ∧ l2.toInt < (T.2.2.1 l0 2).toInt) → l2.toInt < (n : Int) → Tot (g_X10_partsBelow_b7 n T l0 l1 l2) (fun r => r.2 = T ∧ (0 ≤ r.1.toInt ∧ r.1.toInt < (T.2.2.1 l0 2).toInt)) := by
  have z0 : (0 : Int32).toInt = 0 := by decide
  have z1 : (1 : Int32).toInt = 1 := by decide
  have z2 : (2 : Int32).toInt = 2 := by decide
  have z40 : (40 : Int32).toInt = 40 := by decide
  have zi : (Int32.ofInt (1) : Int32).toInt = 1 := by decide
  have zm : (Int32.ofInt (-1) : Int32).toInt = -1 := by decide
  intro n
  induction n with
  | zero =>
    intro l2 g2 hm
    have u_T := w_used h_T k_l0 w_l0
    exfalso
    omega
  | succ n ih =>
    intro l2 g2 hm
    have u_T := w_used h_T k_l0 w_l0
    unfold g_X10_partsBelow_b7
    refine tot_if (fun c_136 => ?_) (fun c_136 => ?_)
    · replace c_136 := i_le c_136
      exact tot_some ⟨rfl, show 0 ≤ (0 : Int32).toInt ∧ (0 : Int32).toInt < (T.2.2.1 l0 2).toInt from by omega⟩
    · replace c_136 := i_nle c_136
      refine tw_q h_T k_l0 w_l0 (fun n_130 k_n_130 e_n_130 => ?_)
      refine tw_p h_T k_n_130 w_l0 (by omega) ?_
      refine tw_r (p := l2) h_T k_l0 w_l0 e_n_130 (by omega) (fun n_131 s_n_131 x_n_131 l_n_131 => ?_)
      refine tw_i s_n_131 (isW_f w_l0).2.2.2.1.2 l_n_131 (by omega) ?_
      refine tot_let (fun v_132 e_v_132 => ?_)
      refine tot_let (fun v_133 e_v_133 => ?_)
      refine tot_if (fun c_137 => ?_) (fun c_137 => ?_)
      · replace c_137 := i_eq c_137
        refine tot_let (fun v_134 e_v_134 => ?_)
        have q_v_134 := i_add e_v_134 (by omega) (by omega)
        exact ih v_134 (by omega) (by omega)
      · replace c_137 := i_ne c_137
        refine tot_let (fun v_135 e_v_135 => ?_)
        have q_v_135 := i_sub e_v_135 (by omega) (by omega)
        exact tot_some ⟨rfl, show 0 ≤ (v_135 : Int32).toInt ∧ (v_135 : Int32).toInt < (T.2.2.1 l0 2).toInt from by omega⟩
set_option maxHeartbeats 2000000 in
theorem c_partsBelow {R : Nat → Nat} {B K1 K2 : Nat} {T : AT} {a0 : Int32} {o r_o : Nat} (k_o : R o = r_o) (w_o : isW r_o = true) (h_T : IV R B K1 K2 T) (g0 : (0 ≤ a0.toInt ∧ a0.toInt < cnt r_o)) : Tot (g_X10_partsBelow T o a0) (fun r => r.2 = T ∧ (0 ≤ r.1.toInt ∧ r.1.toInt < (T.2.2.1 o 2).toInt)) := by
  have z0 : (0 : Int32).toInt = 0 := by decide
  have z1 : (1 : Int32).toInt = 1 := by decide
  have z2 : (2 : Int32).toInt = 2 := by decide
  have z40 : (40 : Int32).toInt = 40 := by decide
  have zi : (Int32.ofInt (1) : Int32).toInt = 1 := by decide
  have zm : (Int32.ofInt (-1) : Int32).toInt = -1 := by decide
  unfold g_X10_partsBelow
  refine tot_oif (w_oO h_T k_o w_o) ?_
  refine tot_let (fun v_138 e_v_138 => ?_)
  have q_v_138 := i_eq e_v_138
  have r_v_138 := w_used h_T k_o w_o
  refine tot_let (fun v_139 e_v_139 => ?_)
  have q_v_139 := i_sub e_v_139 (by omega) (by omega)
  exact c_partsBelow_b7 k_o w_o h_T g0 16384 v_139 (by omega) (by omega)
/-- behind widenTo: no fewer parts than the other one has -/
theorem wx_le {o a : Nat} {T U : AT} {v : Int32} (x : WX o T U) (q : v.toInt = (T.2.2.1 a 2).toInt) (h : v.toInt ≤ (U.2.2.1 o 2).toInt ∨ 40 ≤ (U.2.2.1 o 2).toInt) (hv : v.toInt ≤ 40) : (U.2.2.1 a 2).toInt ≤ (U.2.2.1 o 2).toInt := by
  by_cases e : a = o
  · rw [e]; exact Int.le_refl _
  · rw [x.1 a 2 (.inl e)]
    omega
set_option maxHeartbeats 2000000 in
theorem c_add_b11 {R : Nat → Nat} {B K1 K2 : Nat} {l1 l3 l4 : Int32} {l0 r_l0 : Nat} (k_l0 : R l0 = r_l0) (w_l0 : isW r_l0 = true) {l2 r_l2 : Nat} (k_l2 : R l2 = r_l2) (w_l2 : isW r_l2 = true) (g1 : (0 ≤ l1.toInt ∧ l1.toInt < cnt r_l0)) (g3 : (0 ≤ l3.toInt ∧ l3.toInt < cnt r_l2)) (T0 : AT) : ∀ (n : Nat) (T : AT) (l5 : Int32), IV R B K1 K2 T → WX l0 T0 T → (T.2.2.1 l2 2).toInt ≤ (T.2.2.1 l0 2).toInt → (0 ≤ l5.toInt ∧ l5.toInt ≤ 40) → 40 - l5.toInt < (n : Int) → Tot (g_X10_add_b11 n T l0 l1 l2 l3 l4 l5) (fun T1 => IV R B K1 K2 T1 ∧ WX l0 T0 T1) := by
  have z0 : (0 : Int32).toInt = 0 := by decide
  have z1 : (1 : Int32).toInt = 1 := by decide
  have z2 : (2 : Int32).toInt = 2 := by decide
  have z40 : (40 : Int32).toInt = 40 := by decide
  have zi : (Int32.ofInt (1) : Int32).toInt = 1 := by decide
  have zm : (Int32.ofInt (-1) : Int32).toInt = -1 := by decide
  intro n
  induction n with
  | zero =>
    intro T l5 h_T w_T hu g5 hm
    have u_T := w_used h_T k_l0 w_l0
    exfalso
    omega
  | succ n ih =>
    intro T l5 h_T w_T hu g5 hm
    have u_T := w_used h_T k_l0 w_l0
    unfold g_X10_add_b11
    refine tot_oif (w_oO h_T k_l2 w_l2) ?_
    refine tot_let (fun v_140 e_v_140 => ?_)
    have q_v_140 := i_eq e_v_140
    have r_v_140 := w_used h_T k_l2 w_l2
    refine tot_if (fun c_153 => ?_) (fun c_153 => ?_)
    · replace c_153 := i_le c_153
      refine tot_oif (w_oO h_T k_l0 w_l0) ?_
      refine tot_bind (c_settle (a0 := l1) k_l0 w_l0 h_T (by omega)) (fun T_141 d_T_141 => ?_)
      have h_T_141 : IV R B K1 K2 T_141 := d_T_141.1
      have w_T_141 := w_T.tr d_T_141.2
      unfold g_X10_add_b56
      exact tot_some ⟨h_T_141, w_T_141⟩
    · replace c_153 := i_nle c_153
      refine tw_q h_T k_l0 w_l0 (fun n_142 k_n_142 e_n_142 => ?_)
      refine tw_p h_T k_n_142 w_l0 (by omega) ?_
      refine tw_r (p := l5) h_T k_l0 w_l0 e_n_142 (by omega) (fun n_143 s_n_143 x_n_143 l_n_143 => ?_)
      refine tw_i s_n_143 (isW_f w_l0).2.2.2.1.2 l_n_143 (by omega) ?_
      refine tot_let (fun v_144 e_v_144 => ?_)
      refine tot_let (fun v_145 e_v_145 => ?_)
      refine tw_q h_T k_l2 w_l2 (fun n_146 k_n_146 e_n_146 => ?_)
      refine tw_p h_T k_n_146 w_l2 (by omega) ?_
      refine tw_r (p := l5) h_T k_l2 w_l2 e_n_146 (by omega) (fun n_147 s_n_147 x_n_147 l_n_147 => ?_)
      refine tw_i s_n_147 (isW_f w_l2).2.2.2.1.2 l_n_147 (by omega) ?_
      refine tot_let (fun v_148 e_v_148 => ?_)
      refine tot_let (fun v_149 e_v_149 => ?_)
      refine tot_let (fun v_150 e_v_150 => ?_)
      refine tw_i s_n_143 (isW_f w_l0).2.2.2.1.2 l_n_143 (by omega) ?_
      refine tot_let (fun T_151 e_T_151 => ?_)
      have h_T_151 : IV R B K1 K2 T_151 := by rw [e_T_151]; exact iv_uJ h_T _ _ _
      have t_T_151 : T_151.2.2.1 = T.2.2.1 := by rw [e_T_151]; rfl
      have w_T_151 := w_T.tr (WX.of (o := l0) t_T_151)
      have u_T_151_l0 : (T_151.2.2.1 l0 2).toInt = (T.2.2.1 l0 2).toInt := by rw [t_T_151]
      have u_T_151_l2 : (T_151.2.2.1 l2 2).toInt = (T.2.2.1 l2 2).toInt := by rw [t_T_151]
      refine tot_let (fun v_152 e_v_152 => ?_)
      have q_v_152 := i_add e_v_152 (by omega) (by omega)
      exact ih T_151 v_152 h_T_151 w_T_151 (by omega) (by omega) (by omega)
set_option maxHeartbeats 2000000 in
theorem c_add {R : Nat → Nat} {B K1 K2 : Nat} {T : AT} {a0 a2 a3 : Int32} {o r_o : Nat} (k_o : R o = r_o) (w_o : isW r_o = true) {a1 r_a1 : Nat} (k_a1 : R a1 = r_a1) (w_a1 : isW r_a1 = true) (h_T : IV R B K1 K2 T) (g0 : (0 ≤ a0.toInt ∧ a0.toInt < cnt r_o)) (g2 : (0 ≤ a2.toInt ∧ a2.toInt < cnt r_a1)) : Tot (g_X10_add T o a0 a1 a2 a3) (fun T1 => IV R B K1 K2 T1 ∧ WX o T T1) := by
  have z0 : (0 : Int32).toInt = 0 := by decide
  have z1 : (1 : Int32).toInt = 1 := by decide
  have z2 : (2 : Int32).toInt = 2 := by decide
  have z40 : (40 : Int32).toInt = 40 := by decide
  have zi : (Int32.ofInt (1) : Int32).toInt = 1 := by decide
  have zm : (Int32.ofInt (-1) : Int32).toInt = -1 := by decide
  have w_T : WX o T T := WX.rf
  unfold g_X10_add
  refine tot_oif (w_oO h_T k_a1 w_a1) ?_
  refine tot_let (fun v_154 e_v_154 => ?_)
  have q_v_154 := i_eq e_v_154
  have r_v_154 := w_used h_T k_a1 w_a1
  refine tot_oif (w_oO h_T k_o w_o) ?_
  refine tot_bind (c_widenTo (a0 := v_154) k_o w_o h_T) (fun T_155 d_T_155 => ?_)
  have h_T_155 : IV R B K1 K2 T_155 := d_T_155.1
  have x_T_155 : WX o T T_155 := d_T_155.2.1
  have v_T_155 : v_154.toInt ≤ (T_155.2.2.1 o 2).toInt ∨ 40 ≤ (T_155.2.2.1 o 2).toInt := d_T_155.2.2
  have w_T_155 := w_T.tr x_T_155
  unfold g_X10_add_b8
  exact c_add_b11 k_o w_o k_a1 w_a1 g0 g2 T 16384 T_155 0 h_T_155 w_T_155 (wx_le x_T_155 q_v_154 (by omega) (by omega)) (by omega) (by omega)
set_option maxHeartbeats 2000000 in
theorem c_set {R : Nat → Nat} {B K1 K2 : Nat} {T : AT} {a0 a2 : Int32} {o r_o : Nat} (k_o : R o = r_o) (w_o : isW r_o = true) {a1 r_a1 : Nat} (k_a1 : R a1 = r_a1) (w_a1 : isW r_a1 = true) (h_T : IV R B K1 K2 T) (g0 : (0 ≤ a0.toInt ∧ a0.toInt < cnt r_o)) (g2 : (0 ≤ a2.toInt ∧ a2.toInt < cnt r_a1)) : Tot (g_X10_set T o a0 a1 a2) (fun T1 => IV R B K1 K2 T1 ∧ WX o T T1) := by
  have z0 : (0 : Int32).toInt = 0 := by decide
  have z1 : (1 : Int32).toInt = 1 := by decide
  have z2 : (2 : Int32).toInt = 2 := by decide
  have z40 : (40 : Int32).toInt = 40 := by decide
  have zi : (Int32.ofInt (1) : Int32).toInt = 1 := by decide
  have zm : (Int32.ofInt (-1) : Int32).toInt = -1 := by decide
  have w_T : WX o T T := WX.rf
  unfold g_X10_set
  refine tot_oif (w_oO h_T k_o w_o) ?_
  refine tot_bind (c_clear (a0 := a0) h_T k_o w_o (by omega)) (fun T_156 d_T_156 => ?_)
  have h_T_156 : IV R B K1 K2 T_156 := d_T_156.1
  have w_T_156 := w_T.tr (WX.of (o := o) d_T_156.2)
  have u_T_156_a1 := w_used h_T_156 k_a1 w_a1
  have u_T_156_o := w_used h_T_156 k_o w_o
  refine tot_oif (w_oO h_T_156 k_o w_o) ?_
  refine tot_bind (c_add (a0 := a0) (a2 := a2) (a3 := (1 : Int32)) k_o w_o k_a1 w_a1 h_T_156 (by omega) (by omega)) (fun T_157 d_T_157 => ?_)
  have h_T_157 : IV R B K1 K2 T_157 := d_T_157.1
  have w_T_157 := w_T_156.tr d_T_157.2
  unfold g_X10_set_b13
  exact tot_some ⟨h_T_157, w_T_157⟩
set_option maxHeartbeats 2000000 in
theorem c_addProduct_b62 {R : Nat → Nat} {B K1 K2 : Nat} {Q : AT → Prop} {k17 : AT → Nat → Int32 → Nat → Int32 → Nat → Int32 → Int32 → Option AT} {T : AT} {l1 l3 l5 l6 : Int32} {l0 r_l0 : Nat} (k_l0 : R l0 = r_l0) (w_l0 : isW r_l0 = true) {l2 r_l2 : Nat} (k_l2 : R l2 = r_l2) (w_l2 : isW r_l2 = true) {l4 r_l4 : Nat} (k_l4 : R l4 = r_l4) (w_l4 : isW r_l4 = true) (h_T : IV R B K1 K2 T) (g3 : (0 ≤ l3.toInt ∧ l3.toInt < cnt r_l2)) (g5 : (0 ≤ l5.toInt ∧ l5.toInt < cnt r_l4)) (g6 : 0 ≤ l6.toInt ∧ l6.toInt ≤ 40) (hx : ∀ s : Int64, Tot (g_X10_addProduct_b113 k17 T l0 l1 l2 l3 l4 l5 l6 s) Q) : ∀ (n : Nat) (l7 : Int64) (l9 : Int32), (0 ≤ l9.toInt ∧ l6.toInt - l9.toInt < (T.2.2.1 l4 2).toInt ∧ l9.toInt ≤ 41) → 41 - l9.toInt < (n : Int) → Tot (g_X10_addProduct_b62 k17 n T l0 l1 l2 l3 l4 l5 l6 l7 l9) Q := by
  have z0 : (0 : Int32).toInt = 0 := by decide
  have z1 : (1 : Int32).toInt = 1 := by decide
  have z2 : (2 : Int32).toInt = 2 := by decide
  have z40 : (40 : Int32).toInt = 40 := by decide
  have zi : (Int32.ofInt (1) : Int32).toInt = 1 := by decide
  have zm : (Int32.ofInt (-1) : Int32).toInt = -1 := by decide
  intro n
  induction n with
  | zero =>
    intro l7 l9 g9 hm
    have u2 := w_used h_T k_l2 w_l2
    have u4 := w_used h_T k_l4 w_l4
    exfalso
    omega
  | succ n ih =>
    intro l7 l9 g9 hm
    have u2 := w_used h_T k_l2 w_l2
    have u4 := w_used h_T k_l4 w_l4
    unfold g_X10_addProduct_b62
    refine tot_if (fun c_169 => ?_) (fun c_169 => ?_)
    · replace c_169 := i_lt c_169
      exact hx l7
    · replace c_169 := i_nlt c_169
      refine tot_oif (w_oO h_T k_l2 w_l2) ?_
      refine tot_let (fun v_158 e_v_158 => ?_)
      have q_v_158 := i_eq e_v_158
      have r_v_158 := w_used h_T k_l2 w_l2
      refine tot_if (fun c_170 => ?_) (fun c_170 => ?_)
      · replace c_170 := i_le c_170
        exact hx l7
      · replace c_170 := i_nle c_170
        refine tw_q h_T k_l2 w_l2 (fun n_159 k_n_159 e_n_159 => ?_)
        refine tw_p h_T k_n_159 w_l2 (by omega) ?_
        refine tw_r (p := l9) h_T k_l2 w_l2 e_n_159 (by omega) (fun n_160 s_n_160 x_n_160 l_n_160 => ?_)
        refine tw_i s_n_160 (isW_f w_l2).2.2.2.1.2 l_n_160 (by omega) ?_
        refine tot_let (fun v_161 e_v_161 => ?_)
        refine tw_q h_T k_l4 w_l4 (fun n_162 k_n_162 e_n_162 => ?_)
        refine tot_let (fun v_163 e_v_163 => ?_)
        have q_v_163 := i_sub e_v_163 (by omega) (by omega)
        refine tw_p h_T k_n_162 w_l4 (by omega) ?_
        refine tw_r (p := v_163) h_T k_l4 w_l4 e_n_162 (by omega) (fun n_164 s_n_164 x_n_164 l_n_164 => ?_)
        refine tw_i s_n_164 (isW_f w_l4).2.2.2.1.2 l_n_164 (by omega) ?_
        refine tot_let (fun v_165 e_v_165 => ?_)
        refine tot_let (fun v_166 e_v_166 => ?_)
        refine tot_let (fun v_167 e_v_167 => ?_)
        refine tot_let (fun v_168 e_v_168 => ?_)
        have q_v_168 := i_add e_v_168 (by omega) (by omega)
        exact ih v_167 v_168 (by omega) (by omega)
set_option maxHeartbeats 2000000 in
theorem c_addProduct_b17 {R : Nat → Nat} {B K1 K2 : Nat} {l1 l3 l5 : Int32} {l0 r_l0 : Nat} (k_l0 : R l0 = r_l0) (w_l0 : isW r_l0 = true) {l2 r_l2 : Nat} (k_l2 : R l2 = r_l2) (w_l2 : isW r_l2 = true) {l4 r_l4 : Nat} (k_l4 : R l4 = r_l4) (w_l4 : isW r_l4 = true) (g1 : (0 ≤ l1.toInt ∧ l1.toInt < cnt r_l0)) (g3 : (0 ≤ l3.toInt ∧ l3.toInt < cnt r_l2)) (g5 : (0 ≤ l5.toInt ∧ l5.toInt < cnt r_l4)) (T0 : AT) : ∀ (n : Nat) (T : AT) (l6 : Int32), IV R B K1 K2 T → WX l0 T0 T → (0 ≤ l6.toInt ∧ l6.toInt ≤ 40) → 40 - l6.toInt < (n : Int) → Tot (g_X10_addProduct_b17 n T l0 l1 l2 l3 l4 l5 l6) (fun T1 => IV R B K1 K2 T1 ∧ WX l0 T0 T1) := by
  have z0 : (0 : Int32).toInt = 0 := by decide
  have z1 : (1 : Int32).toInt = 1 := by decide
  have z2 : (2 : Int32).toInt = 2 := by decide
  have z40 : (40 : Int32).toInt = 40 := by decide
  have zi : (Int32.ofInt (1) : Int32).toInt = 1 := by decide
  have zm : (Int32.ofInt (-1) : Int32).toInt = -1 := by decide
  intro n
  induction n with
  | zero =>
    intro T l6 h_T w_T g6 hm
    have u4_T := w_used h_T k_l4 w_l4
    exfalso
    omega
  | succ n ih =>
    intro T l6 h_T w_T g6 hm
    have u4_T := w_used h_T k_l4 w_l4
    unfold g_X10_addProduct_b17
    refine tot_oif (w_oO h_T k_l0 w_l0) ?_
    refine tot_let (fun v_171 e_v_171 => ?_)
    have q_v_171 := i_eq e_v_171
    have r_v_171 := w_used h_T k_l0 w_l0
    refine tot_if (fun c_180 => ?_) (fun c_180 => ?_)
    · replace c_180 := i_le c_180
      unfold g_X10_addProduct_b133
      refine tot_oif (w_oO h_T k_l0 w_l0) ?_
      refine tot_bind (c_settle (a0 := l1) k_l0 w_l0 h_T (by omega)) (fun T_181 d_T_181 => ?_)
      have h_T_181 : IV R B K1 K2 T_181 := d_T_181.1
      have w_T_181 := w_T.tr d_T_181.2
      unfold g_X10_addProduct_b138
      exact tot_some ⟨h_T_181, w_T_181⟩
    · replace c_180 := i_nle c_180
      refine tot_oif (w_oO h_T k_l2 w_l2) ?_
      refine tot_let (fun v_172 e_v_172 => ?_)
      have q_v_172 := i_eq e_v_172
      have r_v_172 := w_used h_T k_l2 w_l2
      refine tot_oif (w_oO h_T k_l4 w_l4) ?_
      refine tot_let (fun v_173 e_v_173 => ?_)
      have q_v_173 := i_eq e_v_173
      have r_v_173 := w_used h_T k_l4 w_l4
      refine tot_let (fun v_174 e_v_174 => ?_)
      have q_v_174 := i_add e_v_174 (by omega) (by omega)
      refine tot_let (fun v_175 e_v_175 => ?_)
      have q_v_175 := i_sub e_v_175 (by omega) (by omega)
      refine tot_if (fun c_182 => ?_) (fun c_182 => ?_)
      · replace c_182 := i_le c_182
        unfold g_X10_addProduct_b133
        refine tot_oif (w_oO h_T k_l0 w_l0) ?_
        refine tot_bind (c_settle (a0 := l1) k_l0 w_l0 h_T (by omega)) (fun T_183 d_T_183 => ?_)
        have h_T_183 : IV R B K1 K2 T_183 := d_T_183.1
        have w_T_183 := w_T.tr d_T_183.2
        unfold g_X10_addProduct_b138
        exact tot_some ⟨h_T_183, w_T_183⟩
      · replace c_182 := i_nle c_182
        refine tot_oif (w_oO h_T k_l4 w_l4) ?_
        refine tot_let (fun v_176 e_v_176 => ?_)
        have q_v_176 := i_eq e_v_176
        have r_v_176 := w_used h_T k_l4 w_l4
        refine tot_let (fun v_177 e_v_177 => ?_)
        have q_v_177 := i_sub e_v_177 (by omega) (by omega)
        refine tot_let (fun v_178 e_v_178 => ?_)
        have q_v_178 := i_add e_v_178 (by omega) (by omega)
        refine tot_let (fun v_179 e_v_179 => ?_)
        have q_v_179 := i_ilt e_v_179
        refine c_addProduct_b62 k_l0 w_l0 k_l2 w_l2 k_l4 w_l4 h_T g3 g5 (by omega) (fun s_ => ?_) 16384 _ v_179 (by omega) (by omega)
        unfold g_X10_addProduct_b113
        refine tw_q h_T k_l0 w_l0 (fun n_184 k_n_184 e_n_184 => ?_)
        refine tw_p h_T k_n_184 w_l0 (by omega) ?_
        refine tw_r (p := l6) h_T k_l0 w_l0 e_n_184 (by omega) (fun n_185 s_n_185 x_n_185 l_n_185 => ?_)
        refine tw_i s_n_185 (isW_f w_l0).2.2.2.1.2 l_n_185 (by omega) ?_
        refine tot_let (fun v_186 e_v_186 => ?_)
        refine tot_let (fun v_187 e_v_187 => ?_)
        refine tw_i s_n_185 (isW_f w_l0).2.2.2.1.2 l_n_185 (by omega) ?_
        refine tot_let (fun T_188 e_T_188 => ?_)
        have h_T_188 : IV R B K1 K2 T_188 := by rw [e_T_188]; exact iv_uJ h_T _ _ _
        have t_T_188 : T_188.2.2.1 = T.2.2.1 := by rw [e_T_188]; rfl
        have w_T_188 := w_T.tr (WX.of (o := l0) t_T_188)
        have u_T_188_l0 : (T_188.2.2.1 l0 2).toInt = (T.2.2.1 l0 2).toInt := by rw [t_T_188]
        have u_T_188_l2 : (T_188.2.2.1 l2 2).toInt = (T.2.2.1 l2 2).toInt := by rw [t_T_188]
        have u_T_188_l4 : (T_188.2.2.1 l4 2).toInt = (T.2.2.1 l4 2).toInt := by rw [t_T_188]
        refine tot_let (fun v_189 e_v_189 => ?_)
        have q_v_189 := i_add e_v_189 (by omega) (by omega)
        exact ih T_188 v_189 h_T_188 w_T_188 (by omega) (by omega)
set_option maxHeartbeats 2000000 in
theorem c_addProduct {R : Nat → Nat} {B K1 K2 : Nat} {T : AT} {a0 a2 a4 : Int32} {o r_o : Nat} (k_o : R o = r_o) (w_o : isW r_o = true) {a1 r_a1 : Nat} (k_a1 : R a1 = r_a1) (w_a1 : isW r_a1 = true) {a3 r_a3 : Nat} (k_a3 : R a3 = r_a3) (w_a3 : isW r_a3 = true) (h_T : IV R B K1 K2 T) (g0 : (0 ≤ a0.toInt ∧ a0.toInt < cnt r_o)) (g2 : (0 ≤ a2.toInt ∧ a2.toInt < cnt r_a1)) (g4 : (0 ≤ a4.toInt ∧ a4.toInt < cnt r_a3)) : Tot (g_X10_addProduct T o a0 a1 a2 a3 a4) (fun T1 => IV R B K1 K2 T1 ∧ WX o T T1) := by
  have z0 : (0 : Int32).toInt = 0 := by decide
  have z1 : (1 : Int32).toInt = 1 := by decide
  have z2 : (2 : Int32).toInt = 2 := by decide
  have z40 : (40 : Int32).toInt = 40 := by decide
  have zi : (Int32.ofInt (1) : Int32).toInt = 1 := by decide
  have zm : (Int32.ofInt (-1) : Int32).toInt = -1 := by decide
  have w_T : WX o T T := WX.rf
  unfold g_X10_addProduct
  refine tot_oif (w_oO h_T k_a1 w_a1) ?_
  refine tot_let (fun v_190 e_v_190 => ?_)
  have q_v_190 := i_eq e_v_190
  have r_v_190 := w_used h_T k_a1 w_a1
  refine tot_oif (w_oO h_T k_a3 w_a3) ?_
  refine tot_let (fun v_191 e_v_191 => ?_)
  have q_v_191 := i_eq e_v_191
  have r_v_191 := w_used h_T k_a3 w_a3
  refine tot_let (fun v_192 e_v_192 => ?_)
  have q_v_192 := i_add e_v_192 (by omega) (by omega)
  refine tot_oif (w_oO h_T k_o w_o) ?_
  refine tot_bind (c_widenTo (a0 := v_192) k_o w_o h_T) (fun T_193 d_T_193 => ?_)
  have h_T_193 : IV R B K1 K2 T_193 := d_T_193.1
  have x_T_193 : WX o T T_193 := d_T_193.2.1
  have v_T_193 : v_192.toInt ≤ (T_193.2.2.1 o 2).toInt ∨ 40 ≤ (T_193.2.2.1 o 2).toInt := d_T_193.2.2
  have w_T_193 := w_T.tr x_T_193
  unfold g_X10_addProduct_b14
  exact c_addProduct_b17 k_o w_o k_a1 w_a1 k_a3 w_a3 g0 g2 g4 T 16384 T_193 0 h_T_193 w_T_193 (by omega) (by omega)
set_option maxHeartbeats 2000000 in
theorem c_ranked_b13 {R : Nat → Nat} {B K1 K2 : Nat} {Q : Int32 × AT → Prop} {k2 : AT → Nat → Int32 → Int32 → Int32 → Option (Int32 × AT)} {T : AT} {l1 l2 l3 : Int32} {l0 r_l0 : Nat} (k_l0 : R l0 = r_l0) (w_l0 : isW r_l0 = true) (h_T : IV R B K1 K2 T) (g1 : l1.toInt ≤ cnt r_l0) (g3 : 0 ≤ l3.toInt ∧ l3.toInt < l1.toInt) (hs : Tot (some (l3, T)) Q) (hk : ∀ v : Int32, v.toInt = l3.toInt + 1 → Tot (k2 T l0 l1 l2 v) Q) : ∀ (n : Nat) (l4 l5 : Int32), (0 ≤ l5.toInt ∧ l5.toInt ≤ l1.toInt ∧ 0 ≤ l4.toInt ∧ l4.toInt ≤ l5.toInt) → 7200 - l5.toInt < (n : Int) → Tot (g_X10_ranked_b13 k2 n T l0 l1 l2 l3 l4 l5) Q := by
  have z0 : (0 : Int32).toInt = 0 := by decide
  have z1 : (1 : Int32).toInt = 1 := by decide
  have z2 : (2 : Int32).toInt = 2 := by decide
  have z40 : (40 : Int32).toInt = 40 := by decide
  have zi : (Int32.ofInt (1) : Int32).toInt = 1 := by decide
  have zm : (Int32.ofInt (-1) : Int32).toInt = -1 := by decide
  intro n
  induction n with
  | zero =>
    intro l4 l5 g5 hm
    have c7 := (isW_f w_l0).2.2.2.1
    exfalso
    omega
  | succ n ih =>
    intro l4 l5 g5 hm
    have c7 := (isW_f w_l0).2.2.2.1
    unfold g_X10_ranked_b13
    refine tot_if (fun c_197 => ?_) (fun c_197 => ?_)
    · replace c_197 := i_le c_197
      refine tot_if (fun c_198 => ?_) (fun c_198 => ?_)
      · replace c_198 := i_eq c_198
        exact hs
      · replace c_198 := i_ne c_198
        refine tot_let (fun v_194 e_v_194 => ?_)
        have q_v_194 := i_add e_v_194 (by omega) (by omega)
        exact hk v_194 (by omega)
    · replace c_197 := i_nle c_197
      refine tot_oif (w_oO h_T k_l0 w_l0) ?_
      refine tot_bindq (R := fun r_ : Int32 => True) (c_compare (a0 := l5) (a1 := l3) k_l0 w_l0 h_T (by omega) (by omega)) (fun r_195 _ => ?_)
      refine tot_if (fun c_199 => ?_) (fun c_199 => ?_)
      · replace c_199 := i_lt c_199
        unfold g_X10_ranked_b44
        refine tot_let (fun v_200 e_v_200 => ?_)
        have q_v_200 := i_add e_v_200 (by omega) (by omega)
        unfold g_X10_ranked_b47
        refine tot_let (fun v_201 e_v_201 => ?_)
        have q_v_201 := i_add e_v_201 (by omega) (by omega)
        exact ih v_200 v_201 (by omega) (by omega)
      · replace c_199 := i_nlt c_199
        refine tot_if (fun c_202 => ?_) (fun c_202 => ?_)
        · replace c_202 := i_eq c_202
          refine tot_if (fun c_203 => ?_) (fun c_203 => ?_)
          · replace c_203 := i_le c_203
            unfold g_X10_ranked_b47
            refine tot_let (fun v_204 e_v_204 => ?_)
            have q_v_204 := i_add e_v_204 (by omega) (by omega)
            exact ih l4 v_204 (by omega) (by omega)
          · replace c_203 := i_nle c_203
            unfold g_X10_ranked_b44
            refine tot_let (fun v_205 e_v_205 => ?_)
            have q_v_205 := i_add e_v_205 (by omega) (by omega)
            unfold g_X10_ranked_b47
            refine tot_let (fun v_206 e_v_206 => ?_)
            have q_v_206 := i_add e_v_206 (by omega) (by omega)
            exact ih v_205 v_206 (by omega) (by omega)
        · replace c_202 := i_ne c_202
          unfold g_X10_ranked_b47
          refine tot_let (fun v_207 e_v_207 => ?_)
          have q_v_207 := i_add e_v_207 (by omega) (by omega)
          exact ih l4 v_207 (by omega) (by omega)
theorem c_ranked_b2 {R : Nat → Nat} {B K1 K2 : Nat} {T : AT} {l1 l2 : Int32} {l0 r_l0 : Nat} (k_l0 : R l0 = r_l0) (w_l0 : isW r_l0 = true) (h_T : IV R B K1 K2 T) (g1 : 0 ≤ l1.toInt ∧ l1.toInt ≤ cnt r_l0) : ∀ (n : Nat) (l3 : Int32), (0 ≤ l3.toInt ∧ l3.toInt ≤ l1.toInt) → 7200 - l3.toInt < (n : Int) → Tot (g_X10_ranked_b2 n T l0 l1 l2 l3) (fun r => r.2 = T ∧ (r.1.toInt = -1 ∨ 0 ≤ r.1.toInt ∧ r.1.toInt < l1.toInt)) := by
  have z0 : (0 : Int32).toInt = 0 := by decide
  have z1 : (1 : Int32).toInt = 1 := by decide
  have z2 : (2 : Int32).toInt = 2 := by decide
  have z40 : (40 : Int32).toInt = 40 := by decide
  have zi : (Int32.ofInt (1) : Int32).toInt = 1 := by decide
  have zm : (Int32.ofInt (-1) : Int32).toInt = -1 := by decide
  have c7 := (isW_f w_l0).2.2.2.1
  have zn : (-1 : Int32).toInt = -1 := by decide
  intro n
  induction n with
  | zero =>
    intro l3 g3 hm
    exfalso
    omega
  | succ n ih =>
    intro l3 g3 hm
    unfold g_X10_ranked_b2
    refine tot_if (fun c => ?_) (fun c => ?_)
    · exact tot_some ⟨rfl, .inl zn⟩
    · replace c := i_nle c
      exact c_ranked_b13 k_l0 w_l0 h_T (by omega) (by omega) (tot_some ⟨rfl, .inr (by show 0 ≤ l3.toInt ∧ l3.toInt < l1.toInt; omega)⟩) (fun v hv => ih v (by omega) (by omega)) 16384 0 0 (by omega) (by omega)
theorem c_ranked {R : Nat → Nat} {B K1 K2 : Nat} {T : AT} {a0 a1 : Int32} {o r_o : Nat} (k_o : R o = r_o) (w_o : isW r_o = true) (h_T : IV R B K1 K2 T) (g0 : 0 ≤ a0.toInt ∧ a0.toInt ≤ cnt r_o) : Tot (g_X10_ranked T o a0 a1) (fun r => r.2 = T ∧ (r.1.toInt = -1 ∨ 0 ≤ r.1.toInt ∧ r.1.toInt < a0.toInt)) := by
  have z0 : (0 : Int32).toInt = 0 := by decide
  have z1 : (1 : Int32).toInt = 1 := by decide
  have z2 : (2 : Int32).toInt = 2 := by decide
  have z40 : (40 : Int32).toInt = 40 := by decide
  have zi : (Int32.ofInt (1) : Int32).toInt = 1 := by decide
  have zm : (Int32.ofInt (-1) : Int32).toInt = -1 := by decide
  have c7 := (isW_f w_o).2.2.2.1
  unfold g_X10_ranked
  exact c_ranked_b2 k_o w_o h_T g0 16384 0 (by omega) (by omega)
def WY (o : Nat) (T T1 : AT) : Prop := ∀ m k, m ≠ o ∨ k ≠ 2 → T1.2.2.1 m k = T.2.2.1 m k
set_option maxHeartbeats 2000000 in
theorem c_copyFrom_b18 {R : Nat → Nat} {B K1 K2 : Nat} {l0 r_l0 : Nat} (k_l0 : R l0 = r_l0) (w_l0 : isW r_l0 = true) {l1 r_l1 : Nat} (k_l1 : R l1 = r_l1) (w_l1 : isW r_l1 = true) (T0 : AT) : ∀ (n : Nat) (T : AT) (l2 : Int32), IV R B K1 K2 T → WY l0 T0 T → (T.2.2.1 l0 2).toInt ≤ (T.2.2.1 l1 2).toInt → (0 ≤ l2.toInt ∧ l2.toInt ≤ 40) → 40 - l2.toInt < (n : Int) → Tot (g_X10_copyFrom_b18 n T l0 l1 l2) (fun T1 => IV R B K1 K2 T1 ∧ WY l0 T0 T1) := by
  have z0 : (0 : Int32).toInt = 0 := by decide
  have z1 : (1 : Int32).toInt = 1 := by decide
  have z2 : (2 : Int32).toInt = 2 := by decide
  have z40 : (40 : Int32).toInt = 40 := by decide
  have zi : (Int32.ofInt (1) : Int32).toInt = 1 := by decide
  have zm : (Int32.ofInt (-1) : Int32).toInt = -1 := by decide
  have c70 := (isW_f w_l0).2.2.2.1
  have c71 := (isW_f w_l1).2.2.2.1
  intro n
  induction n with
  | zero =>
    intro T l2 h_T w_T hu g2 hm
    exfalso
    omega
  | succ n ih =>
    intro T l2 h_T w_T hu g2 hm
    unfold g_X10_copyFrom_b18
    refine tot_oif (w_oO h_T k_l0 w_l0) ?_
    refine tot_let (fun v3 e3 => ?_)
    have q3 := i_eq e3
    have u0 := w_used h_T k_l0 w_l0
    refine tot_if (fun c => tot_some ⟨h_T, w_T⟩) (fun c => ?_)
    replace c := i_nle c
    refine tw_q h_T k_l1 w_l1 (fun n6 k_n6 e_n6 => ?_)
    refine tw_p h_T k_n6 w_l1 (by omega) ?_
    refine tw_r (p := l2) h_T k_l1 w_l1 e_n6 (by omega) (fun n9 s_n9 x_n9 l_n9 => ?_)
    refine tw_q h_T k_l0 w_l0 (fun n11 k_n11 e_n11 => ?_)
    refine tw_p h_T k_n11 w_l0 (by omega) ?_
    refine tw_r (p := l2) h_T k_l0 w_l0 e_n11 (by omega) (fun n14 s_n14 x_n14 l_n14 => ?_)
    refine tot_oif (w_oO h_T k_l0 w_l0) ?_
    refine tot_let (fun v16 e16 => ?_)
    have q16 := i_eq e16
    have r16 := w_cnt h_T k_l0 w_l0
    refine tot_oif (w_oO h_T k_l1 w_l1) ?_
    refine tot_let (fun v18 e18 => ?_)
    have q18 := i_eq e18
    have r18 := w_cnt h_T k_l1 w_l1
    refine tot_let (fun v19 e19 => ?_)
    have q19 := i_ilt e19
    have aa : ∀ (x c : Nat), T.2.1 x = (101, c) → c ≤ 7200 → x < T.1 → aA T x 101 = true := fun x c s hc hl => by
      unfold aA
      rw [s, show Nat.blt x T.1 = true from Nat.ble_eq_true_of_le hl]
      show (true && (decide (101 = 101) && Nat.blt c (2 ^ 31))) = true
      rw [decide_eq_true rfl, show Nat.blt c (2 ^ 31) = true from Nat.ble_eq_true_of_le (by omega)]
      rfl
    refine tot_oif (aa n9 _ s_n9 c71.2 l_n9) (tot_oif (aa n14 _ s_n14 c70.2 l_n14) (tot_oif ?_ ?_))
    · have x19 := i_cl (i := v19) (by omega)
      rw [s_n9, s_n14]
      exact ⟨Int32.le_iff_toInt_le.mpr (by omega), by show v19.toNatClampNeg ≤ cnt r_l1; omega, by show v19.toNatClampNeg ≤ cnt r_l0; omega⟩
    · refine tot_let (fun T23 e23 => ?_)
      have h_T23 : IV R B K1 K2 T23 := by rw [e23]; exact iv_uC h_T _ _ _
      have t_T23 : T23.2.2.1 = T.2.2.1 := by rw [e23]; rfl
      refine tot_let (fun v24 e24 => ?_)
      have q24 := i_add e24 (by omega) (by omega)
      exact ih T23 v24 h_T23 (fun m k hk => by rw [t_T23]; exact w_T m k hk) (by rw [t_T23]; exact hu) (by omega) (by omega)
theorem c_copyFrom {R : Nat → Nat} {B K1 K2 : Nat} {T : AT} {o r_o : Nat} (k_o : R o = r_o) (w_o : isW r_o = true) {a0 r_a0 : Nat} (k_a0 : R a0 = r_a0) (w_a0 : isW r_a0 = true) (h_T : IV R B K1 K2 T) : Tot (g_X10_copyFrom T o a0) (fun T1 => IV R B K1 K2 T1 ∧ WY o T T1) := by
  have z0 : (0 : Int32).toInt = 0 := by decide
  have z1 : (1 : Int32).toInt = 1 := by decide
  have z2 : (2 : Int32).toInt = 2 := by decide
  have z40 : (40 : Int32).toInt = 40 := by decide
  have zi : (Int32.ofInt (1) : Int32).toInt = 1 := by decide
  have zm : (Int32.ofInt (-1) : Int32).toInt = -1 := by decide
  unfold g_X10_copyFrom
  refine tot_oif (w_oO h_T k_a0 w_a0) ?_
  refine tot_let (fun v3 e3 => ?_)
  have q3 := i_eq e3
  have u3 := w_used h_T k_a0 w_a0
  refine tot_oif (w_oO h_T k_o w_o) ?_
  refine tot_bind (c_widenTo (a0 := v3) k_o w_o h_T) (fun T5 d5 => ?_)
  have h5 := d5.1
  have le := wx_le d5.2.1 q3 d5.2.2 (by omega)
  unfold g_X10_copyFrom_b8
  refine tot_oif (w_oO h5 k_a0 w_a0) ?_
  refine tot_let (fun v6 e6 => ?_)
  have q6 := i_eq e6
  have u6 := w_used h5 k_a0 w_a0
  refine tot_oif (w_oO h5 k_o w_o) ?_
  refine tot_let (fun T7 e7 => ?_)
  have key : ∀ m j, T7.2.2.1 m j = if m = o ∧ j = 2 then v6 else T5.2.2.1 m j := fun m j => by
    rw [e7]
    show va_up T5.2.2.1 o (upd (T5.2.2.1 o) 2 v6) m j = _
    by_cases e : m = o
    · subst e
      rw [va_up_self]
      unfold upd
      by_cases e2 : j = 2
      · rw [if_pos e2, if_pos ⟨rfl, e2⟩]
      · rw [if_neg e2, if_neg (fun q => e2 q.2)]
    · rw [va_up_ne _ _ e, if_neg (fun q => e q.1)]
  have w := isW_f w_o
  have h7 : IV R B K1 K2 T7 := by
    rw [e7]
    refine iv_used h5 k_o w_o (by omega) (fun q hq p hp => ?_)
    obtain ⟨x, x1, x2⟩ := h5.2.2.2.2.1 o (iv_sta h5 k_o w.1.1.1 w.1.1.2) (by rw [k_o]; exact w_o) q hq p (by omega)
    exact ⟨x, x1, by rw [← k_o]; exact x2⟩
  refine c_copyFrom_b18 k_o w_o k_a0 w_a0 T 16384 T7 0 h7 (fun m k hk => ?_) ?_ (by omega) (by omega)
  · rw [key, if_neg (fun q => by rcases hk with hk | hk; exact hk q.1; exact hk q.2)]
    exact d5.2.1.1 m k hk
  · rw [key, key, if_pos ⟨rfl, rfl⟩]
    by_cases e : a0 = o
    · rw [if_pos ⟨e, rfl⟩]; exact Int.le_refl _
    · rw [if_neg (fun q => e q.1)]; omega
theorem fp_bits (a : UInt32) : a &&& 0x7fffffff ≤ 0x7f800000 ↔ FP.Core.val32 a ≠ .nan := by
  rw [FP.Core.ne_nan32, UInt32.le_iff_toNat_le, UInt32.toNat_and]
  have h3 : (0x7fffffff : UInt32).toNat = 2 ^ 31 - 1 := by decide
  have h4 : (0x7f800000 : UInt32).toNat = 2139095040 := by decide
  rw [h3, h4, Nat.and_two_pow_sub_one_eq_mod]
theorem fp_mul (a : UInt32) (h : a &&& 0x7fffffff ≤ 0x7f800000) : FP.fmul a (1300234240 : UInt32) &&& 0x7fffffff ≤ 0x7f800000 := by
  rw [fp_bits] at h ⊢
  show FP.Core.val32 (FP.Core.fmul a 1300234240) ≠ .nan
  rw [FP.Core.val32_fmul]
  have c : ∃ d q, FP.Core.val32 (1300234240 : UInt32) = .fin false (d + 1) q := ⟨8388607, 5, by decide⟩
  obtain ⟨d, q, c⟩ := c
  rw [c]
  cases e : FP.Core.val32 a with
  | nan => exact absurd e h
  | inf s => exact fun z => by cases z
  | fin s k r => exact FP.Core.roundRatio_ne_nan _ _ _ _ _
theorem c_leading_b73 {T : AT} (l3 l5 : Int64) : Tot (g_X10_leading_b73 T l3 l5) (fun r => r.2 = T ∧ ∃ x : Int64, r.1 = FP.l2f x) := by
  have h : ∀ v : Int64, Tot (g_X10_leading_b88 T v) (fun r => r.2 = T ∧ ∃ x : Int64, r.1 = FP.l2f x) := fun v => by
    unfold g_X10_leading_b88
    exact tot_let fun w e => tot_some ⟨rfl, v, e⟩
  unfold g_X10_leading_b73
  exact tot_let fun _ _ => tot_if (fun _ => h _) (fun _ => tot_let fun _ _ => h _)
set_option maxHeartbeats 2000000 in
theorem c_leading_b11 {R : Nat → Nat} {B K1 K2 : Nat} {T : AT} {l1 l2 : Int32} {l0 r_l0 : Nat} (k_l0 : R l0 = r_l0) (w_l0 : isW r_l0 = true) (h_T : IV R B K1 K2 T) (g1 : (0 ≤ l1.toInt ∧ l1.toInt < cnt r_l0)) (g2 : 0 ≤ l2.toInt ∧ l2.toInt < (T.2.2.1 l0 2).toInt) : ∀ (n : Nat) (l3 : Int64) (l5 : Int32), (0 ≤ l5.toInt ∧ l5.toInt ≤ 40) → 40 - l5.toInt < (n : Int) → Tot (g_X10_leading_b11 n T l0 l1 l2 l3 l5) (fun r => r.2 = T ∧ ∃ x : Int64, r.1 = FP.l2f x) := by
  have z0 : (0 : Int32).toInt = 0 := by decide
  have z1 : (1 : Int32).toInt = 1 := by decide
  have z2 : (2 : Int32).toInt = 2 := by decide
  have z40 : (40 : Int32).toInt = 40 := by decide
  have zi : (Int32.ofInt (1) : Int32).toInt = 1 := by decide
  have zm : (Int32.ofInt (-1) : Int32).toInt = -1 := by decide
  intro n
  induction n with
  | zero =>
    intro l3 l5 g5 hm
    have u_T := w_used h_T k_l0 w_l0
    exfalso
    omega
  | succ n ih =>
    intro l3 l5 g5 hm
    have u_T := w_used h_T k_l0 w_l0
    unfold g_X10_leading_b11
    refine tot_if (fun c_224 => ?_) (fun c_224 => ?_)
    · replace c_224 := i_le c_224
      refine tw_q h_T k_l0 w_l0 (fun n_208 k_n_208 e_n_208 => ?_)
      refine tw_p h_T k_n_208 w_l0 (by omega) ?_
      refine tw_r (p := l2) h_T k_l0 w_l0 e_n_208 (by omega) (fun n_209 s_n_209 x_n_209 l_n_209 => ?_)
      refine tw_i s_n_209 (isW_f w_l0).2.2.2.1.2 l_n_209 (by omega) ?_
      refine tot_let (fun v_210 e_v_210 => ?_)
      refine tot_let (fun v_211 e_v_211 => ?_)
      have q_v_211 := i_add e_v_211 (by omega) (by omega)
      refine tot_oif (w_oO h_T k_l0 w_l0) ?_
      refine tot_let (fun v_212 e_v_212 => ?_)
      have q_v_212 := i_eq e_v_212
      have r_v_212 := w_used h_T k_l0 w_l0
      refine tot_if (fun c_225 => ?_) (fun c_225 => ?_)
      · replace c_225 := i_le c_225
        exact c_leading_b73 l3 v_210
      · replace c_225 := i_nle c_225
        refine tw_q h_T k_l0 w_l0 (fun n_213 k_n_213 e_n_213 => ?_)
        refine tot_let (fun v_214 e_v_214 => ?_)
        have q_v_214 := i_add e_v_214 (by omega) (by omega)
        refine tw_p h_T k_n_213 w_l0 (by omega) ?_
        refine tw_r (p := v_214) h_T k_l0 w_l0 e_n_213 (by omega) (fun n_215 s_n_215 x_n_215 l_n_215 => ?_)
        refine tw_i s_n_215 (isW_f w_l0).2.2.2.1.2 l_n_215 (by omega) ?_
        refine tot_let (fun v_216 e_v_216 => ?_)
        refine tot_let (fun v_217 e_v_217 => ?_)
        refine tot_let (fun v_218 e_v_218 => ?_)
        exact c_leading_b73 l3 v_218
    · replace c_224 := i_nle c_224
      refine tw_q h_T k_l0 w_l0 (fun n_219 k_n_219 e_n_219 => ?_)
      refine tw_p h_T k_n_219 w_l0 (by omega) ?_
      refine tw_r (p := l5) h_T k_l0 w_l0 e_n_219 (by omega) (fun n_220 s_n_220 x_n_220 l_n_220 => ?_)
      refine tw_i s_n_220 (isW_f w_l0).2.2.2.1.2 l_n_220 (by omega) ?_
      refine tot_let (fun v_221 e_v_221 => ?_)
      refine tot_let (fun v_222 e_v_222 => ?_)
      refine tot_let (fun v_223 e_v_223 => ?_)
      have q_v_223 := i_add e_v_223 (by omega) (by omega)
      exact ih v_222 v_223 (by omega) (by omega)
theorem c_leading {R : Nat → Nat} {B K1 K2 : Nat} {T : AT} {a0 : Int32} {o r_o : Nat} (k_o : R o = r_o) (w_o : isW r_o = true) (h_T : IV R B K1 K2 T) (g0 : (0 ≤ a0.toInt ∧ a0.toInt < cnt r_o)) : Tot (g_X10_leading T o a0) (fun r => r.2 = T ∧ ∃ x : Int64, r.1 = FP.l2f x) := by
  have z0 : (0 : Int32).toInt = 0 := by decide
  have z1 : (1 : Int32).toInt = 1 := by decide
  have z2 : (2 : Int32).toInt = 2 := by decide
  have z40 : (40 : Int32).toInt = 40 := by decide
  have zi : (Int32.ofInt (1) : Int32).toInt = 1 := by decide
  have zm : (Int32.ofInt (-1) : Int32).toInt = -1 := by decide
  unfold g_X10_leading
  refine tot_oif (w_oO h_T k_o w_o) ?_
  refine tot_bindq (R := fun r : Int32 => 0 ≤ r.toInt ∧ r.toInt < (T.2.2.1 o 2).toInt) (c_partsBelow k_o w_o h_T g0) (fun r5 d5 => ?_)
  exact c_leading_b11 k_o w_o h_T g0 d5 16384 0 0 (by omega) (by omega)
theorem c_ratio_b30 {R : Nat → Nat} {B K1 K2 : Nat} {T : AT} {l1 : Int32} {l0 r_l0 : Nat} (k_l0 : R l0 = r_l0) (w_l0 : isW r_l0 = true) (h_T : IV R B K1 K2 T) (g1 : (0 ≤ l1.toInt ∧ l1.toInt < cnt r_l0)) : ∀ (n : Nat) (l4 : UInt32) (l5 : Int32), l4 &&& 0x7fffffff ≤ 0x7f800000 → (0 ≤ l5.toInt ∧ l5.toInt ≤ 40) → 40 - l5.toInt < (n : Int) → Tot (g_X10_ratio_b30 n T l0 l1 l4 l5) (fun r => r.2 = T ∧ True) := by
  have z0 : (0 : Int32).toInt = 0 := by decide
  have z1 : (1 : Int32).toInt = 1 := by decide
  have z2 : (2 : Int32).toInt = 2 := by decide
  have z40 : (40 : Int32).toInt = 40 := by decide
  have zi : (Int32.ofInt (1) : Int32).toInt = 1 := by decide
  have zm : (Int32.ofInt (-1) : Int32).toInt = -1 := by decide
  have u := w_used h_T k_l0 w_l0
  intro n
  induction n with
  | zero =>
    intro l4 l5 h4 g5 hm
    exfalso
    omega
  | succ n ih =>
    intro l4 l5 h4 g5 hm
    unfold g_X10_ratio_b30
    refine tot_oif (w_oO h_T k_l0 w_l0) ?_
    refine tot_bindq (R := fun r : Int32 => 0 ≤ r.toInt ∧ r.toInt < (T.2.2.1 l0 2).toInt) (c_partsBelow k_l0 w_l0 h_T g1) (fun r5 d5 => ?_)
    refine tot_if (fun c => tot_some ⟨rfl, trivial⟩) (fun c => ?_)
    replace c := i_nle c
    replace d5 : 0 ≤ r5.toInt ∧ r5.toInt < (T.2.2.1 l0 2).toInt := d5
    refine tot_oif (fp_mul l4 h4) ?_
    refine tot_let (fun v9 e9 => ?_)
    refine tot_let (fun v10 e10 => ?_)
    have q10 := i_add e10 (by omega) (by omega)
    exact ih v9 v10 (by rw [e9]; exact fp_mul l4 h4) (by omega) (by omega)
theorem c_ratio {R : Nat → Nat} {B K1 K2 : Nat} {T : AT} {a0 a1 : Int32} {o r_o : Nat} (k_o : R o = r_o) (w_o : isW r_o = true) (h_T : IV R B K1 K2 T) (g0 : (0 ≤ a0.toInt ∧ a0.toInt < cnt r_o)) (g1 : (0 ≤ a1.toInt ∧ a1.toInt < cnt r_o)) : Tot (g_X10_ratio T o a0 a1) (fun r => r.2 = T ∧ True) := by
  have z0 : (0 : Int32).toInt = 0 := by decide
  have z1 : (1 : Int32).toInt = 1 := by decide
  have z2 : (2 : Int32).toInt = 2 := by decide
  have z40 : (40 : Int32).toInt = 40 := by decide
  have zi : (Int32.ofInt (1) : Int32).toInt = 1 := by decide
  have zm : (Int32.ofInt (-1) : Int32).toInt = -1 := by decide
  have u := w_used h_T k_o w_o
  unfold g_X10_ratio
  refine tot_oif (w_oO h_T k_o w_o) ?_
  refine tot_bindq (R := fun r : UInt32 => ∃ x : Int64, r = FP.l2f x) (c_leading k_o w_o h_T g1) (fun r5 d5 => ?_)
  obtain ⟨y, ey⟩ := d5
  refine tot_let (fun v7 e7 => ?_)
  refine tot_if (fun c => tot_some ⟨rfl, trivial⟩) (fun c => ?_)
  have hy : ¬ y = 0 := fun z => c (by rw [e7, ey, z]; decide)
  refine tot_oif (w_oO h_T k_o w_o) ?_
  refine tot_bindq (R := fun r : UInt32 => ∃ x : Int64, r = FP.l2f x) (c_leading k_o w_o h_T g0) (fun r12 d12 => ?_)
  obtain ⟨x, ex⟩ := d12
  have hd : FP.fdiv r12 r5 &&& 0x7fffffff ≤ 0x7f800000 := by rw [ex, ey]; exact fp_ok x y hy
  refine tot_oif hd ?_
  refine tot_let (fun v15 e15 => ?_)
  refine tot_oif (w_oO h_T k_o w_o) ?_
  refine tot_bindq (R := fun r : Int32 => 0 ≤ r.toInt ∧ r.toInt < (T.2.2.1 o 2).toInt) (c_partsBelow k_o w_o h_T g1) (fun r19 d19 => ?_)
  replace d19 : 0 ≤ r19.toInt ∧ r19.toInt < (T.2.2.1 o 2).toInt := d19
  exact c_ratio_b30 k_o w_o h_T g0 16384 v15 r19 (by rw [e15]; exact hd) (by omega) (by omega)
end
section
/-! 13c2.ch.lean.txt -/
/-! Ground for the class's methods -/
theorem tot_thrp {α β : Type} {x : Option (Nat × α × AT)} {z : β} {f : α → AT → Option (Nat × β × AT)} {T : AT} {Q : α → Prop} {P : Nat × β × AT → Prop} (hx : Tot x (fun r => r.2.2 = T ∧ (r.1 = 0 → Q r.2.1))) (h : ∀ r, Q r → Tot (f r T) P) (ht : ∀ k, P (k + 1, z, T)) : Tot (othr x z f) P := by
  obtain ⟨⟨k, r, U⟩, e, e2, q⟩ := hx
  have e2 : U = T := e2
  subst e2
  rw [e]
  match k, q with
  | 0, q => exact h r (q rfl)
  | k + 1, q => exact ⟨_, rfl, ht k⟩
theorem tot_thri {α β : Type} {R : Nat → Nat} {B K1 K2 : Nat} {W : List Nat} {x : Option (Nat × α × AT)} {z : β} {f : α → AT → Option (Nat × β × AT)} {T : AT} {Q : α → Prop} {P : Nat × β × AT → Prop} (hx : Tot x (fun r => (IV R B K1 K2 r.2.2 ∧ FW R W T r.2.2) ∧ (r.1 = 0 → Q r.2.1))) (h : ∀ r U, IV R B K1 K2 U → FW R W T U → Q r → Tot (f r U) P) (ht : ∀ k U, IV R B K1 K2 U → FW R W T U → P (k + 1, z, U)) : Tot (othr x z f) P := by
  obtain ⟨⟨k, r, U⟩, e, ⟨i, y⟩, q⟩ := hx
  rw [e]
  match k, q with
  | 0, q => exact h r U i y (q rfl)
  | k + 1, q => exact ⟨_, rfl, ht k U i y⟩
theorem fw_wy {R : Nat → Nat} {W : List Nat} {T T1 : AT} {o r : Nat} (h : WY o T T1) (hr : R o = r) (hW : isW r = true) (c : W.contains 3202 = true) : FW R W T T1 := fun m j e => h m j (by
  by_cases a : m = o
  · refine .inr (fun b => ?_)
    rw [a, b, hr] at e
    unfold wc at e
    rw [hW] at e
    rw [show (bif true then 3200 + 2 else bif Nat.ble r 20 then 32 * r + 2 else 32 * r) = 3202 from rfl, c] at e
    cases e
  · exact .inl a)
theorem uI_at (T : AT) (n k : Nat) (v : Int32) : (uI T n k v).2.2.1 n k = v := by
  show va_up T.2.2.1 n (upd (T.2.2.1 n) k v) n k = v
  rw [va_up_self]
  unfold upd
  rw [if_pos rfl]
theorem i_kb {i : Int32} {n : Nat} (h0 : 0 ≤ i.toInt) (h : i.toInt < n) : Nat.blt i.toNatClampNeg n = true := Nat.ble_eq_true_of_le (by have := i_cl h0; omega)
theorem rt_45 {i : Int32} (h0 : 0 ≤ i.toInt) (h : i.toInt < 12) : rtg 45 i.toNatClampNeg = 46 := by unfold rtg; rw [i_kb (n := 12) h0 h]; rfl
theorem rt_47 {i : Int32} (h0 : 0 ≤ i.toInt) (h : i.toInt < 6) : rtg 47 i.toNatClampNeg = 8 := by unfold rtg; rw [i_kb (n := 6) h0 h]; rfl
theorem rt_48 {i : Int32} (h0 : 0 ≤ i.toInt) (h : i.toInt < 2) : rtg 48 i.toNatClampNeg = 8 := by unfold rtg; rw [i_kb (n := 2) h0 h]; rfl
theorem rt_51 {i : Int32} (h0 : 0 ≤ i.toInt) (h : i.toInt < 144) : rtg 51 i.toNatClampNeg = 50 := by unfold rtg; rw [i_kb (n := 144) h0 h]; rfl
theorem rt_53 {i : Int32} (h0 : 0 ≤ i.toInt) (h : i.toInt < 12) : rtg 53 i.toNatClampNeg = 2 := by unfold rtg; rw [i_kb (n := 12) h0 h]; rfl
theorem rt_54 {i : Int32} (h0 : 0 ≤ i.toInt) (h : i.toInt < 6) : rtg 54 i.toNatClampNeg = 7 := by unfold rtg; rw [i_kb (n := 6) h0 h]; rfl
theorem rt_60 {i : Int32} (h0 : 0 ≤ i.toInt) (h : i.toInt < 4) : rtg 60 i.toNatClampNeg = 59 := by unfold rtg; rw [i_kb (n := 4) h0 h]; rfl
theorem q64 {x : Int32} {y : Int32} (hx : 0 ≤ x.toInt) (hy : 0 ≤ y.toInt) : (x.toInt64 / y.toInt64).toInt32.toInt = x.toInt / y.toInt := by
  have x2 := Int32.toInt_lt x
  have b0 := Int.ediv_nonneg hx hy
  have b1 := Int.ediv_le_self y.toInt hx
  rw [Int64.toInt_toInt32, Int64.toInt_div, Int32.toInt_toInt64, Int32.toInt_toInt64, Int.tdiv_eq_ediv_of_nonneg hx, bm64 (by omega) (by omega), bm32 (by omega) (by omega)]
theorem cs_X11_quotient2 (a0 a1 : Int64) : Tot (g_X11_quotient a0 a1) (fun r => ∀ x y : Int32, a0 = x.toInt64 → a1 = y.toInt64 → 0 ≤ x.toInt → 0 ≤ y.toInt → r.toInt32.toInt = x.toInt / y.toInt) := by
  unfold g_X11_quotient g_X11_quotient_b13
  refine tot_let (fun v2 e_v2 => ?_)
  refine tot_if (fun c => ?_) (fun c => ?_)
  · refine tot_some (fun x y _ e2 hx hy => ?_)
    have : y.toInt = 0 := by
      rw [e_v2, lg_cmp_eq] at c
      rw [← Int32.toInt_toInt64, ← e2, c]
      rfl
    rw [this, Int.ediv_zero]
    rfl
  · refine tot_oif (fun q => c (by rw [e_v2, q]; rfl)) ?_
    refine tot_let (fun v5 e => tot_some (fun x y e1 e2 hx hy => ?_))
    rw [e, e1, e2]
    exact q64 hx hy
theorem cs_X11_quotient (a0 a1 : Int64) : Tot (g_X11_quotient a0 a1) (fun r => ∀ x y : Int32, a0 = x.toInt64 → a1 = y.toInt64 → 0 ≤ x.toInt → 0 ≤ y.toInt → 0 ≤ r.toInt32.toInt ∧ r.toInt32.toInt ≤ x.toInt) := by
  obtain ⟨r, e, h⟩ := cs_X11_quotient2 a0 a1
  refine ⟨r, e, fun x y e1 e2 hx hy => ?_⟩
  rw [h x y e1 e2 hx hy]
  exact ⟨Int.ediv_nonneg hx hy, Int.ediv_le_self _ hx⟩
theorem i_rem2 {v x y : Int32} (e : v = x - x / y * y) (hx : 0 ≤ x.toInt) (hy : 1 ≤ y.toInt) : v.toInt ≤ x.toInt := by
  have x2 := Int32.toInt_lt x
  have b0 := Int.ediv_nonneg hx (by omega : 0 ≤ y.toInt)
  have b1 := Int.ediv_le_self y.toInt hx
  have b2 := Int.ediv_mul_le x.toInt (by omega : y.toInt ≠ 0)
  have b3 := Int.mul_nonneg b0 (by omega : 0 ≤ y.toInt)
  have d : (x / y).toInt = x.toInt / y.toInt := by rw [Int32.toInt_div, Int.tdiv_eq_ediv_of_nonneg hx, bm32 (by omega) (by omega)]
  have m : (x / y * y).toInt = x.toInt / y.toInt * y.toInt := by rw [Int32.toInt_mul, d, bm32 (by omega) (by omega)]
  rw [e, Int32.toInt_sub, m, bm32 (by omega) (by omega)]
  omega
theorem i_shr {v x : Int32} (e : v = x >>> (1 &&& 31)) : v.toInt = x.toInt / 2 := by
  rw [e]
  show (x.toBitVec.sshiftRight' ((1 &&& 31 : Int32).toBitVec.smod 32)).toInt = _
  rw [show ((1 &&& 31 : Int32).toBitVec.smod 32) = 1#32 by decide]
  show (x.toBitVec.sshiftRight 1).toInt = _
  rw [BitVec.toInt_sshiftRight, Int.shiftRight_eq_div_pow]
  rfl
theorem i_remn {v x y : Int32} (e : v = x - x / y * y) (hx : x.toInt < 0) (hy : 1 ≤ y.toInt) : -y.toInt < v.toInt ∧ v.toInt ≤ 0 := by
  have x2 := Int32.le_toInt x
  obtain ⟨m, hm⟩ : ∃ m : Int, x.toInt = -m := ⟨-x.toInt, by omega⟩
  have h0 : 0 ≤ m := by omega
  have b0 := Int.ediv_nonneg h0 (by omega : 0 ≤ y.toInt)
  have b1 := Int.ediv_le_self y.toInt h0
  have b2 := Int.ediv_mul_le m (by omega : y.toInt ≠ 0)
  have b3 := Int.mul_nonneg b0 (by omega : 0 ≤ y.toInt)
  have b4 := Int.emod_nonneg m (by omega : y.toInt ≠ 0)
  have b5 := Int.emod_lt_of_pos m (by omega : 0 < y.toInt)
  rw [Int.emod_def, Int.mul_comm] at b4 b5
  have d : (x / y).toInt = -(m / y.toInt) := by rw [Int32.toInt_div, hm, Int.neg_tdiv, Int.tdiv_eq_ediv_of_nonneg h0, bm32 (by omega) (by omega)]
  have q : (x / y * y).toInt = -(m / y.toInt * y.toInt) := by rw [Int32.toInt_mul, d, Int.neg_mul, bm32 (by omega) (by omega)]
  rw [e, Int32.toInt_sub, q, hm, bm32 (by omega) (by omega)]
  omega
theorem cs_X11_remainder (a0 a1 : Int32) : Tot (g_X11_remainder a0 a1) (fun r => (0 ≤ a0.toInt ∧ 0 ≤ a1.toInt → 0 ≤ r.toInt ∧ r.toInt ≤ a0.toInt) ∧ (1 ≤ a1.toInt → -a1.toInt < r.toInt ∧ r.toInt < a1.toInt) ∧ (a1.toInt = 0 → r.toInt = 0)) := by
  have z0 : (0 : Int32).toInt = 0 := by decide
  unfold g_X11_remainder g_X11_remainder_b11
  refine tot_if (fun c => ?_) (fun c => ?_)
  · replace c := i_eq c
    exact tot_some (by omega)
  · refine tot_oif c ?_
    replace c := i_ne c
    refine tot_let (fun v4 e_v4 => tot_some ?_)
    by_cases hx : 0 ≤ a0.toInt
    · by_cases hy : 1 ≤ a1.toInt
      · have q := i_rem e_v4 hx hy
        have q2 := i_rem2 e_v4 hx hy
        omega
      · omega
    · by_cases hy : 1 ≤ a1.toInt
      · have q := i_remn e_v4 (by omega) hy
        omega
      · omega
theorem root_any (l0 : Int32) : ∀ (n : Nat) (l1 l2 : Int32), (l2.toInt ≤ 0 ∧ 1 ≤ n) ∨ (1 ≤ l2.toInt ∧ l2.toInt / 2 + 2 ≤ n) → Tot (g_X11_root_b6 n l0 l1 l2) (fun _ => True) := by
  intro n
  induction n with
  | zero => intro l1 l2 h; omega
  | succ n ih =>
    intro l1 l2 h
    have z0 : (0 : Int32).toInt = 0 := by decide
    have z2 : (2 : Int32).toInt = 2 := by decide
    have st : 1 ≤ l2.toInt → ∀ x, Tot (g_X11_root_b23 (g_X11_root_b6 n) l0 x l2) (fun _ => True) := fun h1 x => by
      unfold g_X11_root_b23
      refine tot_let (fun v e_v => ?_)
      have q_v := i_shr e_v
      exact ih x v (by omega)
    unfold g_X11_root_b6
    refine tot_if (fun c => ?_) (fun c => ?_)
    · exact tot_some trivial
    · replace c := i_nle c
      refine tot_let (fun v3 _ => tot_let (fun v4 _ => ?_))
      exact tot_if (fun _ => st (by omega) _) (fun _ => st (by omega) _)
theorem cs_X11_root (a0 : Int32) : Tot (g_X11_root a0) (fun _ => True) := root_any a0 16384 0 16384 (by decide)
/-- the first row of an area, times the columns, and its first column -/
def AO (o : Nat) (T : AT) (a : Nat) : Prop := (T.2.2.1 a 1).toInt * (T.2.2.1 o 3).toInt + (T.2.2.1 a 0).toInt ≤ 143
theorem uI_g (T : AT) (n k m j : Nat) (v : Int32) : (uI T n k v).2.2.1 m j = if m = n ∧ j = k then v else T.2.2.1 m j := by
  show va_up T.2.2.1 n (upd (T.2.2.1 n) k v) m j = _
  by_cases e : m = n
  · subst e
    rw [va_up_self]
    unfold upd
    by_cases e2 : j = k
    · rw [if_pos e2, if_pos ⟨rfl, e2⟩]
    · rw [if_neg e2, if_neg (fun q => e2 q.2)]
  · rw [va_up_ne _ _ e, if_neg (fun q => e q.1)]
section
variable {R : Nat → Nat} {B K1 K2 : Nat}
theorem col_of (T : AT) (o : Nat) (a0 : Int32) (h_T : IV R B K1 K2 T) (k_o : R o = 1) (g0 : 0 ≤ a0.toInt ∧ a0.toInt ≤ 143) : Tot (g_X1_columnOf T o a0) (fun r => r.2 = T ∧ (0 ≤ r.1.toInt ∧ r.1.toInt ≤ 11 ∧ r.1.toInt ≤ a0.toInt ∧ (1 ≤ (T.2.2.1 o 3).toInt → r.1.toInt < (T.2.2.1 o 3).toInt) ∧ ((T.2.2.1 o 3).toInt = 0 → r.1.toInt = 0))) := by
  unfold g_X1_columnOf
  refine tot_oif (iv_oO h_T k_o (by decide) (by decide) rfl) ?_
  refine tot_let (fun v_1 e_v_1 => ?_)
  have r_v_1 : 0 ≤ v_1.toInt ∧ v_1.toInt ≤ 12 := iv_int h_T k_o (by decide) (by decide) e_v_1 rfl
  have q := i_eq e_v_1
  refine tot_bind (cs_X11_remainder a0 v_1) (fun r d => ?_)
  refine tot_some ⟨rfl, ?_⟩
  show 0 ≤ r.toInt ∧ r.toInt ≤ 11 ∧ r.toInt ≤ a0.toInt ∧ (1 ≤ (T.2.2.1 o 3).toInt → r.toInt < (T.2.2.1 o 3).toInt) ∧ ((T.2.2.1 o 3).toInt = 0 → r.toInt = 0)
  omega
theorem row_of (T : AT) (o : Nat) (a0 : Int32) (h_T : IV R B K1 K2 T) (k_o : R o = 1) (g0 : 0 ≤ a0.toInt ∧ a0.toInt ≤ 143) : Tot (g_X1_rowOf T o a0) (fun r => r.2 = T ∧ (0 ≤ r.1.toInt ∧ r.1.toInt ≤ 143 ∧ r.1.toInt * (T.2.2.1 o 3).toInt ≤ a0.toInt)) := by
  unfold g_X1_rowOf
  refine tot_let (fun v_1 e_v_1 => ?_)
  refine tot_oif (iv_oO h_T k_o (by decide) (by decide) rfl) ?_
  refine tot_let (fun v_2 e_v_2 => ?_)
  have r_v_2 : 0 ≤ v_2.toInt ∧ v_2.toInt ≤ 12 := iv_int h_T k_o (by decide) (by decide) e_v_2 rfl
  refine tot_let (fun v_3 e_v_3 => ?_)
  refine tot_bind (cs_X11_quotient2 v_1 v_3) (fun r d => ?_)
  refine tot_let (fun v_5 e_v_5 => tot_some ⟨rfl, ?_⟩)
  have d := d a0 v_2 e_v_1 e_v_3 g0.1 r_v_2.1
  rw [← e_v_5, e_v_2] at d
  rw [e_v_2] at r_v_2
  show 0 ≤ v_5.toInt ∧ v_5.toInt ≤ 143 ∧ v_5.toInt * (T.2.2.1 o 3).toInt ≤ a0.toInt
  refine ⟨by rw [d]; exact Int.ediv_nonneg g0.1 r_v_2.1, by rw [d]; exact Int.le_trans (Int.ediv_le_self _ g0.1) g0.2, ?_⟩
  rw [d]
  by_cases z : (T.2.2.1 o 3).toInt = 0
  · rw [z, Int.mul_zero]; exact g0.1
  · exact Int.ediv_mul_le _ z
set_option maxHeartbeats 4000000 in
theorem cs_X1_areaAround (T : AT) (o : Nat) (a0 : Int32) (h_T : IV R B K1 K2 T) (k_o : R o = 1) (g0 : 0 ≤ a0.toInt ∧ a0.toInt ≤ 143) : Tot (g_X1_areaAround T o a0) (fun r => (IV R B K1 K2 r.2 ∧ FW R [1952] T r.2) ∧ R r.1 = 61 ∧ AO o r.2 r.1) := by
  have z0 : (1 : Int32).toInt = 1 := by decide
  have z1 : (0 : Int32).toInt = 0 := by decide
  have z2 : (2 : Int32).toInt = 2 := by decide
  have z3 : (3 : Int32).toInt = 3 := by decide
  have x_T : FW R [1952] T T := FW.rf
  unfold g_X1_areaAround
  refine tot_oif (iv_oO h_T k_o (by decide) (by decide) rfl) ?_
  refine tot_bindq (R := fun r : Int32 => (0 ≤ r.toInt ∧ r.toInt ≤ 11 ∧ r.toInt ≤ a0.toInt ∧ (1 ≤ (T.2.2.1 o 3).toInt → r.toInt < (T.2.2.1 o 3).toInt) ∧ ((T.2.2.1 o 3).toInt = 0 → r.toInt = 0))) (col_of T o a0 h_T k_o g0) (fun r_1 d_r_1 => ?_)
  refine tot_oif (iv_oO h_T k_o (by decide) (by decide) rfl) ?_
  refine tot_bindq (R := fun r : Int32 => (0 ≤ r.toInt ∧ r.toInt ≤ 143 ∧ r.toInt * (T.2.2.1 o 3).toInt ≤ a0.toInt)) (row_of T o a0 h_T k_o g0) (fun r_3 d_r_3 => ?_)
  refine tot_oif (iv_oO h_T k_o (by decide) (by decide) rfl) ?_
  refine tot_ref h_T k_o (by decide) (by decide) (r2 := 61) (rfl : rtg 1 8 = 61) (by decide) (fun n k_n e_n => ?_)
  have ne : ¬ o = n := fun q => by rw [q, k_n] at k_o; cases k_o
  refine tot_let (fun v_6 e_v_6 => ?_)
  have q_v_6 := i_sub e_v_6 (by omega) (by omega)
  refine tot_let (fun v_7 e_v_7 => ?_)
  have q_v_7 := i_ilt e_v_7
  refine tot_oif (iv_aA h_T k_n (by decide) (by decide) rfl rfl) ?_
  refine tot_oif (by rw [iv_len h_T k_n (by decide) (by decide) (rfl : shp 61 = (100, 4))]; exact i_inb (by omega) (by omega)) ?_
  refine tot_let (fun T_8 e_T_8 => ?_)
  have h_T_8 : IV R B K1 K2 T_8 := by rw [e_T_8]; exact iv_uI (a := 0) (b := 143) h_T k_n (by decide) (by decide) (by decide) (by omega) (.inl rfl)
  have x_T_8 := x_T.tr (fw_uA e_T_8 k_n rfl rfl (by decide))
  refine tot_oif (iv_oO h_T_8 k_o (by decide) (by decide) rfl) ?_
  have e_n8 : T_8.2.2.2.2 o 8 = some n := by rw [e_T_8]; exact e_n
  refine tot_ref1 e_n8 ?_
  refine tot_let (fun v_10 e_v_10 => ?_)
  have q_v_10 := i_sub e_v_10 (by omega) (by omega)
  refine tot_let (fun v_11 e_v_11 => ?_)
  have q_v_11 := i_ilt e_v_11
  refine tot_oif (iv_aA h_T_8 k_n (by decide) (by decide) rfl rfl) ?_
  refine tot_oif (by rw [iv_len h_T_8 k_n (by decide) (by decide) (rfl : shp 61 = (100, 4))]; exact i_inb (by omega) (by omega)) ?_
  refine tot_let (fun T_12 e_T_12 => ?_)
  have h_T_12 : IV R B K1 K2 T_12 := by rw [e_T_12]; exact iv_uI (a := 0) (b := 143) h_T_8 k_n (by decide) (by decide) (by decide) (by omega) (.inl rfl)
  have x_T_12 := x_T_8.tr (fw_uA e_T_12 k_n rfl rfl (by decide))
  refine tot_oif (iv_oO h_T_12 k_o (by decide) (by decide) rfl) ?_
  have e_n12 : T_12.2.2.2.2 o 8 = some n := by rw [e_T_12]; exact e_n8
  refine tot_ref1 e_n12 ?_
  refine tot_let (fun v_14 e_v_14 => ?_)
  have q_v_14 := i_add e_v_14 (by omega) (by omega)
  refine tot_oif (iv_oO h_T_12 k_o (by decide) (by decide) rfl) ?_
  refine tot_let (fun v_15 e_v_15 => ?_)
  have r_v_15 : 0 ≤ v_15.toInt ∧ v_15.toInt ≤ 12 := iv_int h_T_12 k_o (by decide) (by decide) e_v_15 rfl
  refine tot_let (fun v_16 e_v_16 => ?_)
  have q_v_16 := i_sub e_v_16 (by omega) (by omega)
  refine tot_let (fun v_17 e_v_17 => ?_)
  have q_v_17 := i_ilt e_v_17
  refine tot_oif (iv_aA h_T_12 k_n (by decide) (by decide) rfl rfl) ?_
  refine tot_oif (by rw [iv_len h_T_12 k_n (by decide) (by decide) (rfl : shp 61 = (100, 4))]; exact i_inb (by omega) (by omega)) ?_
  refine tot_let (fun T_18 e_T_18 => ?_)
  have h_T_18 : IV R B K1 K2 T_18 := by rw [e_T_18]; exact iv_uI (a := -1) (b := 11) h_T_12 k_n (by decide) (by decide) (by decide) (by omega) (.inl rfl)
  have x_T_18 := x_T_12.tr (fw_uA e_T_18 k_n rfl rfl (by decide))
  refine tot_oif (iv_oO h_T_18 k_o (by decide) (by decide) rfl) ?_
  have e_n18 : T_18.2.2.2.2 o 8 = some n := by rw [e_T_18]; exact e_n12
  refine tot_ref1 e_n18 ?_
  refine tot_let (fun v_20 e_v_20 => ?_)
  have q_v_20 := i_add e_v_20 (by omega) (by omega)
  refine tot_oif (iv_oO h_T_18 k_o (by decide) (by decide) rfl) ?_
  refine tot_let (fun v_21 e_v_21 => ?_)
  have r_v_21 : 0 ≤ v_21.toInt ∧ v_21.toInt ≤ 12 := iv_int h_T_18 k_o (by decide) (by decide) e_v_21 rfl
  refine tot_let (fun v_22 e_v_22 => ?_)
  have q_v_22 := i_sub e_v_22 (by omega) (by omega)
  refine tot_let (fun v_23 e_v_23 => ?_)
  have q_v_23 := i_ilt e_v_23
  refine tot_oif (iv_aA h_T_18 k_n (by decide) (by decide) rfl rfl) ?_
  refine tot_oif (by rw [iv_len h_T_18 k_n (by decide) (by decide) (rfl : shp 61 = (100, 4))]; exact i_inb (by omega) (by omega)) ?_
  refine tot_let (fun T_24 e_T_24 => ?_)
  have h_T_24 : IV R B K1 K2 T_24 := by rw [e_T_24]; exact iv_uI (a := -1) (b := 11) h_T_18 k_n (by decide) (by decide) (by decide) (by omega) (.inl rfl)
  have x_T_24 := x_T_18.tr (fw_uA e_T_24 k_n rfl rfl (by decide))
  refine tot_oif (iv_oO h_T_24 k_o (by decide) (by decide) rfl) ?_
  have e_n24 : T_24.2.2.2.2 o 8 = some n := by rw [e_T_24]; exact e_n18
  refine tot_ref1 e_n24 ?_
  refine tot_some ⟨⟨h_T_24, x_T_24⟩, k_n, ?_⟩
  have f1 : T_24.2.2.1 n 1 = v_11 := by
    rw [e_T_24, uI_g, if_neg (fun q => absurd q.2 (by decide)), e_T_18, uI_g, if_neg (fun q => absurd q.2 (by decide)), e_T_12, uI_g, if_pos ⟨rfl, by decide⟩]
  have f0 : T_24.2.2.1 n 0 = v_7 := by
    rw [e_T_24, uI_g, if_neg (fun q => absurd q.2 (by decide)), e_T_18, uI_g, if_neg (fun q => absurd q.2 (by decide)), e_T_12, uI_g, if_neg (fun q => absurd q.2 (by decide)), e_T_8, uI_g, if_pos ⟨rfl, by decide⟩]
  have f3 : T_24.2.2.1 o 3 = T.2.2.1 o 3 := x_T_24 o 3 (by rw [k_o]; decide)
  show (T_24.2.2.1 n 1).toInt * (T_24.2.2.1 o 3).toInt + (T_24.2.2.1 n 0).toInt ≤ 143
  rw [f1, f0, f3]
  have c0 : 0 ≤ (T.2.2.1 o 3).toInt ∧ (T.2.2.1 o 3).toInt ≤ 12 := iv_int h_T k_o (by decide) (by decide) rfl rfl
  generalize (T.2.2.1 o 3).toInt = c at d_r_1 d_r_3 c0
  rcases (by omega : v_11.toInt = 0 ∨ v_11.toInt = r_3.toInt - 1) with h | h
  · rw [h, Int.zero_mul]; omega
  · rw [h, Int.sub_mul, Int.one_mul]; omega
set_option maxHeartbeats 4000000 in
theorem best_in {T : AT} {o a0 a1 : Nat} {a2 : Int32} (h_T : IV R B K1 K2 T) (k_o : R o = 1) (hA : aA T a0 100 = true) (hL : (T.2.1 a0).2 = 4) (f0 : 0 ≤ (T.2.2.1 a0 0).toInt) (f1 : 0 ≤ (T.2.2.1 a0 1).toInt) (f2 : (T.2.2.1 a0 2).toInt ≤ 11) (f3 : (T.2.2.1 a0 3).toInt ≤ 11) (f4 : (T.2.2.1 a0 0).toInt ≤ 143 ∧ (T.2.2.1 a0 1).toInt ≤ 143) (ao : AO o T a0) {r_a1 : Nat} (k_a1 : R a1 = r_a1) (w_a1 : isW r_a1 = true) (g0 : 0 ≤ a2.toInt ∧ a2.toInt + 144 ≤ cnt r_a1) : Tot (g_X1_bestIn T o a0 a1 a2) (fun r => r.2 = T ∧ (0 ≤ r.1.toInt ∧ r.1.toInt ≤ 143)) := by
  have z0 : (0 : Int32).toInt = 0 := by decide
  have z1 : (1 : Int32).toInt = 1 := by decide
  have z2 : (2 : Int32).toInt = 2 := by decide
  have z3 : (3 : Int32).toInt = 3 := by decide
  have zi : (Int32.ofInt (1) : Int32).toInt = 1 := by decide
  have c7 := (isW_f w_a1).2.2.2.1
  have inn : ∀ {k19 : AT → Nat → Nat → Nat → Int32 → Int32 → Int32 → Option (Int32 × AT)} {row : Int32}, (0 ≤ row.toInt ∧ row.toInt ≤ 11) → (∀ b v : Int32, 0 ≤ b.toInt ∧ b.toInt ≤ 143 → v.toInt = row.toInt + 1 → Tot (k19 T o a0 a1 a2 b v) (fun r => r.2 = T ∧ (0 ≤ r.1.toInt ∧ r.1.toInt ≤ 143))) → ∀ (n : Nat) (b col : Int32), (0 ≤ b.toInt ∧ b.toInt ≤ 143) → (0 ≤ col.toInt ∧ col.toInt ≤ 143) → 200 - col.toInt < (n : Int) → Tot (g_X1_bestIn_b32 k19 n T o a0 a1 a2 b row col) (fun r => r.2 = T ∧ (0 ≤ r.1.toInt ∧ r.1.toInt ≤ 143)) := by
    intro k19 row hr hk n
    induction n with
    | zero => intro b col hb hc hm; exfalso; omega
    | succ n ih =>
      intro b col hb hc hm
      unfold g_X1_bestIn_b32
      refine tot_oif hA (tot_oif (by rw [hL]; exact i_inb (by omega) (by omega)) ?_)
      refine tot_let (fun v4 e4 => ?_)
      have q4 : v4.toInt ≤ 11 := by rw [e4]; exact f2
      refine tot_if (fun c => ?_) (fun c => ?_)
      · refine tot_let (fun v6 e6 => ?_)
        have q6 := i_add e6 (by omega) (by omega)
        exact hk b v6 hb (by omega)
      · replace c := i_nlt c
        refine tot_oif (iv_oO h_T k_o (by decide) (by decide) rfl) ?_
        refine tot_let (fun v8 e8 => ?_)
        have r8 : 0 ≤ v8.toInt ∧ v8.toInt ≤ 12 := iv_int h_T k_o (by decide) (by decide) e8 rfl
        refine tot_let (fun v9 e9 => ?_)
        have q9 := i_mulp (a := 0) (b := 11) (c := 0) (d := 12) e9 (by omega) (by omega) (by omega) (by omega) (by decide)
        refine tot_let (fun v10 e10 => ?_)
        have q10 := i_add e10 (by omega) (by omega)
        refine tot_let (fun v11 e11 => ?_)
        have q11 := i_add e11 (by omega) (by omega)
        refine tot_let (fun v12 e12 => ?_)
        have q12 := i_add e12 (by omega) (by omega)
        refine tot_oif (w_oO h_T k_a1 w_a1) ?_
        refine tot_bindq (R := fun r : Int32 => True) (c_compare (a0 := v11) (a1 := v12) k_a1 w_a1 h_T (by omega) (by omega)) (fun r16 _ => ?_)
        have st : ∀ b2 : Int32, (0 ≤ b2.toInt ∧ b2.toInt ≤ 143) → Tot (g_X1_bestIn_b71 k19 (g_X1_bestIn_b32 k19 n) T o a0 a1 a2 b2 row col) (fun r => r.2 = T ∧ (0 ≤ r.1.toInt ∧ r.1.toInt ≤ 143)) := fun b2 hb2 => by
          unfold g_X1_bestIn_b71
          refine tot_let (fun v e => ?_)
          have q := i_add e (by omega) (by omega)
          exact ih b2 v hb2 (by omega) (by omega)
        exact tot_if (fun _ => st b hb) (fun _ => st v10 (by omega))
  have out : ∀ (n : Nat) (b row : Int32), (0 ≤ b.toInt ∧ b.toInt ≤ 143) → (0 ≤ row.toInt ∧ row.toInt ≤ 143) → 200 - row.toInt < (n : Int) → Tot (g_X1_bestIn_b19 n T o a0 a1 a2 b row) (fun r => r.2 = T ∧ (0 ≤ r.1.toInt ∧ r.1.toInt ≤ 143)) := by
    intro n
    induction n with
    | zero => intro b row hb hr hm; exfalso; omega
    | succ n ih =>
      intro b row hb hr hm
      unfold g_X1_bestIn_b19
      refine tot_oif hA (tot_oif (by rw [hL]; exact i_inb (by omega) (by omega)) ?_)
      refine tot_let (fun v4 e4 => ?_)
      have q4 : v4.toInt ≤ 11 := by rw [e4]; exact f3
      refine tot_if (fun c => tot_some ⟨rfl, hb⟩) (fun c => ?_)
      replace c := i_nlt c
      refine tot_oif hA (tot_oif (by rw [hL]; exact i_inb (by omega) (by omega)) ?_)
      refine tot_let (fun v8 e8 => ?_)
      have q8 : 0 ≤ v8.toInt ∧ v8.toInt ≤ 143 := by rw [e8]; exact ⟨f0, f4.1⟩
      exact inn (by omega) (fun b2 v hb2 hv => ih b2 v hb2 (by omega) (by omega)) 16384 b v8 hb q8 (by omega)
  unfold g_X1_bestIn
  refine tot_oif hA (tot_oif (by rw [hL]; exact i_inb (by omega) (by omega)) ?_)
  refine tot_let (fun v4 e4 => ?_)
  refine tot_oif (iv_oO h_T k_o (by decide) (by decide) rfl) ?_
  refine tot_let (fun v6 e6 => ?_)
  have r6 : 0 ≤ v6.toInt ∧ v6.toInt ≤ 12 := iv_int h_T k_o (by decide) (by decide) e6 rfl
  have r4 : 0 ≤ v4.toInt ∧ v4.toInt ≤ 143 := by rw [e4]; exact ⟨f1, f4.2⟩
  refine tot_let (fun v7 e7 => ?_)
  have p7 : v7.toInt = v4.toInt * v6.toInt := by
    have a1 := Int.mul_nonneg r4.1 r6.1
    have a2 : v4.toInt * v6.toInt ≤ 143 * 12 := Int.mul_le_mul r4.2 r6.2 r6.1 (by decide)
    rw [e7, Int32.toInt_mul, bm32 (by omega) (by omega)]
  have p7p := Int.mul_nonneg r4.1 r6.1
  have ao2 : v4.toInt * v6.toInt + (T.2.2.1 a0 0).toInt ≤ 143 := by rw [e4, e6]; exact ao
  refine tot_oif hA (tot_oif (by rw [hL]; exact i_inb (by omega) (by omega)) ?_)
  refine tot_let (fun v10 e10 => ?_)
  have r10 : v10.toInt = (T.2.2.1 a0 0).toInt := by rw [e10]; rfl
  refine tot_let (fun v11 e11 => ?_)
  have q11 := i_add e11 (by omega) (by omega)
  refine tot_oif hA (tot_oif (by rw [hL]; exact i_inb (by omega) (by omega)) ?_)
  refine tot_let (fun v14 e14 => ?_)
  have r14 : 0 ≤ v14.toInt ∧ v14.toInt ≤ 143 := by rw [e14]; exact ⟨f1, f4.2⟩
  exact out 16384 v11 v14 (by omega) r14 (by omega)
theorem cs_X1_bestIn61 (T : AT) (o : Nat) (a0 : Nat) (a1 : Nat) (a2 : Int32) (h_T : IV R B K1 K2 T) (k_o : R o = 1) (k_a0 : R a0 = 61) {r_a1 : Nat} (k_a1 : R a1 = r_a1) (w_a1 : isW r_a1 = true) (ao : AO o T a0) (g0 : 0 ≤ a2.toInt ∧ a2.toInt + 144 ≤ cnt r_a1) : Tot (g_X1_bestIn T o a0 a1 a2) (fun r => r.2 = T ∧ (0 ≤ r.1.toInt ∧ r.1.toInt ≤ 143)) := by
  have f0 := iv_int h_T k_a0 (by decide) (by decide) (rfl : T.2.2.1 a0 0 = T.2.2.1 a0 0) (rfl : iR 61 0 = (0, 143))
  have f1 := iv_int h_T k_a0 (by decide) (by decide) (rfl : T.2.2.1 a0 1 = T.2.2.1 a0 1) (rfl : iR 61 1 = (0, 143))
  have f2 := iv_int h_T k_a0 (by decide) (by decide) (rfl : T.2.2.1 a0 2 = T.2.2.1 a0 2) (rfl : iR 61 2 = (-1, 11))
  have f3 := iv_int h_T k_a0 (by decide) (by decide) (rfl : T.2.2.1 a0 3 = T.2.2.1 a0 3) (rfl : iR 61 3 = (-1, 11))
  exact best_in h_T k_o (iv_aA h_T k_a0 (by decide) (by decide) rfl rfl) (iv_len h_T k_a0 (by decide) (by decide) (rfl : shp 61 = (100, 4))) f0.1 f1.1 f2.2 f3.2 ⟨f0.2, f1.2⟩ ao k_a1 w_a1 g0
theorem cs_X1_bestIn59 (T : AT) (o : Nat) (a0 : Nat) (a1 : Nat) (a2 : Int32) (h_T : IV R B K1 K2 T) (k_o : R o = 1) (k_a0 : R a0 = 59) {r_a1 : Nat} (k_a1 : R a1 = r_a1) (w_a1 : isW r_a1 = true) (g0 : 0 ≤ a2.toInt ∧ a2.toInt + 144 ≤ cnt r_a1) : Tot (g_X1_bestIn T o a0 a1 a2) (fun r => r.2 = T ∧ (0 ≤ r.1.toInt ∧ r.1.toInt ≤ 143)) := by
  have f0 := iv_int h_T k_a0 (by decide) (by decide) (rfl : T.2.2.1 a0 0 = T.2.2.1 a0 0) (rfl : iR 59 0 = (0, 11))
  have f1 := iv_int h_T k_a0 (by decide) (by decide) (rfl : T.2.2.1 a0 1 = T.2.2.1 a0 1) (rfl : iR 59 1 = (0, 11))
  have f2 := iv_int h_T k_a0 (by decide) (by decide) (rfl : T.2.2.1 a0 2 = T.2.2.1 a0 2) (rfl : iR 59 2 = (0, 11))
  have f3 := iv_int h_T k_a0 (by decide) (by decide) (rfl : T.2.2.1 a0 3 = T.2.2.1 a0 3) (rfl : iR 59 3 = (0, 11))
  have c0 : 0 ≤ (T.2.2.1 o 3).toInt ∧ (T.2.2.1 o 3).toInt ≤ 12 := iv_int h_T k_o (by decide) (by decide) rfl rfl
  refine best_in h_T k_o (iv_aA h_T k_a0 (by decide) (by decide) rfl rfl) (iv_len h_T k_a0 (by decide) (by decide) (rfl : shp 59 = (100, 4))) f0.1 f1.1 f2.2 f3.2 ⟨by omega, by omega⟩ ?_ k_a1 w_a1 g0
  have a2 : (T.2.2.1 a0 1).toInt * (T.2.2.1 o 3).toInt ≤ 11 * 12 := Int.mul_le_mul f1.2 c0.2 c0.1 (by decide)
  show (T.2.2.1 a0 1).toInt * (T.2.2.1 o 3).toInt + (T.2.2.1 a0 0).toInt ≤ 143
  omega
end
/-! where references may have changed: the rows of one number alone -/
def PF (q : Nat) (T0 T : AT) : Prop := ∀ m k, m ≠ q → T.2.2.2.2 m k = T0.2.2.2.2 m k
theorem wf_b40 {q l0 : Nat} {T0 : AT} {l1 : Int32} {k5 : AT → Nat → Int32 → Int32 → Option AT} (hk : ∀ T v T1, PF q T0 T → k5 T l0 l1 v = some T1 → PF q T0 T1) : ∀ (n : Nat) (T : AT) (l2 l3 : Int32) (T1 : AT), PF q T0 T → g_X10_widenTo_b40 k5 n T l0 l1 l2 l3 = some T1 → PF q T0 T1 := by
  intro n
  induction n with
  | zero => intro T l2 l3 T1 _ h; cases h
  | succ n ih =>
    intro T l2 l3 T1 p h
    unfold g_X10_widenTo_b40 at h
    obtain ⟨_, h⟩ := oif_some h
    obtain ⟨v3, _, h⟩ := elet_some h
    by_cases c : v3 ≤ l3
    · rw [if_pos c] at h
      obtain ⟨v5, _, h⟩ := elet_some h
      obtain ⟨_, h⟩ := oif_some h
      obtain ⟨T7, e7, h⟩ := elet_some h
      obtain ⟨v8, _, h⟩ := elet_some h
      exact hk T7 v8 T1 (by rw [e7]; exact p) h
    · rw [if_neg c] at h
      obtain ⟨_, h⟩ := oif_some h
      obtain ⟨n10, _, h⟩ := obind_some h
      obtain ⟨v11, _, h⟩ := elet_some h
      obtain ⟨_, h⟩ := oif_some h
      obtain ⟨_, h⟩ := oif_some h
      obtain ⟨n14, _, h⟩ := obind_some h
      obtain ⟨_, h⟩ := oif_some h
      obtain ⟨_, h⟩ := oif_some h
      obtain ⟨v17, _, h⟩ := elet_some h
      obtain ⟨_, h⟩ := oif_some h
      obtain ⟨n19, _, h⟩ := obind_some h
      obtain ⟨v20, _, h⟩ := elet_some h
      obtain ⟨_, h⟩ := oif_some h
      obtain ⟨_, h⟩ := oif_some h
      obtain ⟨n23, _, h⟩ := obind_some h
      obtain ⟨v24, _, h⟩ := elet_some h
      obtain ⟨_, h⟩ := oif_some h
      obtain ⟨_, h⟩ := oif_some h
      obtain ⟨T27, e27, h⟩ := elet_some h
      obtain ⟨_, h⟩ := oif_some h
      obtain ⟨n29, _, h⟩ := obind_some h
      obtain ⟨_, h⟩ := oif_some h
      obtain ⟨_, h⟩ := oif_some h
      obtain ⟨n32, _, h⟩ := obind_some h
      obtain ⟨v33, _, h⟩ := elet_some h
      obtain ⟨_, h⟩ := oif_some h
      obtain ⟨_, h⟩ := oif_some h
      obtain ⟨T36, e36, h⟩ := elet_some h
      obtain ⟨v37, _, h⟩ := elet_some h
      exact ih T36 l2 v37 T1 (by rw [e36, e27]; exact p) h
theorem wf_b5 {q l0 : Nat} {T0 : AT} {l1 : Int32} (hq : T0.2.2.2.2 l0 1 = some q) (hn : l0 ≠ q) : ∀ (n : Nat) (T : AT) (l2 : Int32) (T1 : AT), PF q T0 T → g_X10_widenTo_b5 n T l0 l1 l2 = some T1 → PF q T0 T1 := by
  intro n
  induction n with
  | zero => intro T l2 T1 _ h; cases h
  | succ n ih =>
    intro T l2 T1 p h
    have st : ∀ T l2 T1, PF q T0 T → g_X10_widenTo_b38 (g_X10_widenTo_b5 n) T l0 l1 l2 = some T1 → PF q T0 T1 := fun T l2 T1 p h => by
      unfold g_X10_widenTo_b38 at h
      exact wf_b40 (fun T v T1 p h => ih T v T1 p h) 16384 T l2 0 T1 p h
    unfold g_X10_widenTo_b5 g_X10_widenTo_b108 at h
    by_cases c : l1 ≤ l2
    · rw [if_pos c] at h; cases h; exact p
    rw [if_neg c] at h
    by_cases c : 40 ≤ l2
    · rw [if_pos c] at h; cases h; exact p
    rw [if_neg c] at h
    obtain ⟨_, h⟩ := oif_some h
    obtain ⟨n5, _, h⟩ := obind_some h
    obtain ⟨_, h⟩ := oif_some h
    obtain ⟨_, h⟩ := oif_some h
    obtain ⟨n8, _, h⟩ := obind_some h
    obtain ⟨_, h⟩ := oif_some h
    obtain ⟨v10, _, h⟩ := elet_some h
    by_cases c : v10 = 0
    · rw [if_pos c] at h
      obtain ⟨_, h⟩ := oif_some h
      obtain ⟨n13, e13, h⟩ := obind_some h
      obtain ⟨_, h⟩ := oif_some h
      obtain ⟨v15, _, h⟩ := elet_some h
      obtain ⟨_, h⟩ := oif_some h
      obtain ⟨T17, e17, h⟩ := elet_some h
      unfold g_X10_widenTo_b37 at h
      obtain ⟨_, h⟩ := oif_some h
      obtain ⟨_, h⟩ := oif_some h
      obtain ⟨_, h⟩ := oif_some h
      obtain ⟨T5, e5, h⟩ := elet_some h
      have e : n13 = q := by
        rw [p l0 1 hn, hq] at e13
        exact (Option.some.inj e13).symm
      refine st T5 l2 T1 (fun m k hm => ?_) h
      rw [e5, ← p m k hm]
      show va_up T17.2.2.2.2 n13 _ m k = _
      rw [va_up_ne _ _ (fun a => hm (a.trans e)), e17]
      rfl
    · rw [if_neg c] at h
      exact st T l2 T1 p h
theorem wf_widenTo {q o : Nat} {T T1 : AT} {a0 : Int32} (hq : T.2.2.2.2 o 1 = some q) (hn : o ≠ q) (h : g_X10_widenTo T o a0 = some T1) : PF q T T1 := by
  unfold g_X10_widenTo at h
  obtain ⟨_, h⟩ := oif_some h
  obtain ⟨v3, _, h⟩ := elet_some h
  exact wf_b5 hq hn 16384 T v3 T1 (fun _ _ _ => rfl) h
theorem wf_narrow {o : Nat} {T T1 : AT} (h : g_X10_narrow T o = some T1) : T1.2.2.2.2 = T.2.2.2.2 := by
  unfold g_X10_narrow at h
  obtain ⟨_, h⟩ := oif_some h
  obtain ⟨T3, e3, h⟩ := elet_some h
  cases h
  rw [e3]
  rfl
theorem tot_fact {α : Type} {x : Option α} {P F : α → Prop} (h : Tot x P) (k : ∀ y, x = some y → F y) : Tot x (fun y => P y ∧ F y) := by
  obtain ⟨y, e, p⟩ := h
  exact ⟨y, e, p, k y e⟩
section
variable {R : Nat → Nat} {B K1 K2 : Nat}
theorem tot_place (a0 a1 : Int32) (g0 : 0 ≤ a0.toInt ∧ a0.toInt ≤ 11) (g1 : 0 ≤ a1.toInt ∧ a1.toInt ≤ 199) : Tot (g_X8_placeOf a0 a1) (fun r => (0 ≤ r.toInt ∧ r.toInt ≤ 2399)) := by
  have z0 : (200 : Int32).toInt = 200 := by decide
  unfold g_X8_placeOf
  refine tot_let (fun v_1 e_v_1 => ?_)
  have q_v_1 := i_mulk2 e_v_1 z0 (by omega) (by omega)
  refine tot_let (fun v_2 e_v_2 => ?_)
  have q_v_2 := i_add e_v_2 (by omega) (by omega)
  exact tot_some (show (0 ≤ v_2.toInt ∧ v_2.toInt ≤ 2399) from by omega)
set_option maxHeartbeats 4000000 in
theorem tot_weighted (T : AT) (o a0 a1 : Nat) (a2 : Int32) (h_T : IV R B K1 K2 T) (k_o : R o = 8) (s_a0 : T.2.1 a0 = (101, cnt 104)) (l_a0 : a0 < T.1) (k_a1 : R a1 = 50) : Tot (g_X8_weighted T o a0 a1 a2) (fun r => r.2 = T ∧ True) := by
  have z0 : (0 : Int32).toInt = 0 := by decide
  have zi : (Int32.ofInt (1) : Int32).toInt = 1 := by decide
  have c4 : cnt 104 = 2400 := rfl
  have lp : ∀ (n : Nat) (l4 : Int64) (l6 : Int32), (0 ≤ l6.toInt ∧ l6.toInt ≤ 12) → 12 - l6.toInt < (n : Int) → Tot (g_X8_weighted_b6 n T o a0 a1 a2 l4 l6) (fun r => r.2 = T ∧ True) := by
    intro n
    induction n with
    | zero => intro l4 l6 h6 hm; exfalso; omega
    | succ n ih =>
      intro l4 l6 h6 hm
      have st : l6.toInt ≤ 11 → ∀ l4, Tot (g_X8_weighted_b70 (g_X8_weighted_b6 n) T o a0 a1 a2 l4 l6) (fun r => r.2 = T ∧ True) := fun h11 l4 => by
        unfold g_X8_weighted_b70
        refine tot_let (fun v e => ?_)
        have q := i_add e (by omega) (by omega)
        exact ih l4 v (by omega) (by omega)
      unfold g_X8_weighted_b6
      refine tot_oif (iv_oO h_T k_o (by decide) (by decide) rfl) ?_
      refine tot_let (fun v3 e3 => ?_)
      have r3 : 0 ≤ v3.toInt ∧ v3.toInt ≤ 12 := iv_int h_T k_o (by decide) (by decide) e3 rfl
      refine tot_if (fun c => tot_some ⟨rfl, trivial⟩) (fun c => ?_)
      replace c := i_nle c
      refine tot_oif (iv_aA h_T k_a1 (by decide) (by decide) rfl rfl) ?_
      refine tot_oif (by rw [iv_len h_T k_a1 (by decide) (by decide) (rfl : shp 50 = (100, 12))]; exact i_inb (by omega) (by omega)) ?_
      refine tot_let (fun v7 e7 => ?_)
      refine tot_let (fun v8 e8 => ?_)
      refine tot_oif (iv_oO h_T k_o (by decide) (by decide) rfl) ?_
      refine tot_ref h_T k_o (by decide) (by decide) (r2 := 62) (rfl : rtg 8 3 = 62) (by decide) (fun n10 k10 e10 => ?_)
      refine tot_oif (iv_aA h_T k10 (by decide) (by decide) rfl rfl) ?_
      refine tot_oif (by rw [iv_len h_T k10 (by decide) (by decide) (rfl : shp 62 = (102, 12))]; exact i_inb (by omega) (by omega)) ?_
      refine tot_let (fun v13 e13 => ?_)
      refine tot_if (fun c13 => ?_) (fun c13 => st (by omega) _)
      refine tot_if (fun c8 => st (by omega) _) (fun c8 => ?_)
      replace c8 := i_nlt c8
      refine tot_oif (iv_oO h_T k_o (by decide) (by decide) rfl) ?_
      refine tot_let (fun v17 e17 => ?_)
      have r17 : 0 ≤ v17.toInt ∧ v17.toInt ≤ 200 := iv_int h_T k_o (by decide) (by decide) e17 rfl
      refine tot_if (fun c17 => st (by omega) _) (fun c17 => ?_)
      replace c17 := i_nle c17
      refine tot_oif (iv_oO h_T k_o (by decide) (by decide) rfl) ?_
      refine tot_ref h_T k_o (by decide) (by decide) (r2 := 63) (rfl : rtg 8 4 = 63) (by decide) (fun n20 k20 e20 => ?_)
      refine tot_oif (iv_aA h_T k20 (by decide) (by decide) rfl rfl) ?_
      refine tot_oif (by rw [iv_len h_T k20 (by decide) (by decide) (rfl : shp 63 = (100, 12))]; exact i_inb (by omega) (by omega)) ?_
      refine tot_let (fun v23 e23 => tot_let (fun v24 e24 => ?_))
      refine tot_bind (tot_place l6 v8 (by omega) (by omega)) (fun r25 d25 => ?_)
      refine tw_i s_a0 (by omega) l_a0 (by omega) ?_
      exact tot_let (fun v29 _ => tot_let (fun v30 _ => tot_let (fun v31 _ => st (by omega) _)))
  exact lp 16384 0 0 (by decide) (by decide)
set_option maxHeartbeats 4000000 in
theorem cs_X8_focus (T : AT) (o : Nat) (a0 : Nat) (a1 : Int32) (h_T : IV R B K1 K2 T) (k_o : R o = 8) (k_a0 : R a0 = 50) : Tot (g_X8_focus T o a0 a1) (fun T1 => IV R B K1 K2 T1 ∧ FW R [3202] T T1) := by
  have z0 : (0 : Int32).toInt = 0 := by decide
  have zi : (Int32.ofInt (1) : Int32).toInt = 1 := by decide
  have wb : isW 101 = true := rfl
  have ws : isW 104 = true := rfl
  have cb : cnt 101 = 1 := rfl
  have lp : ∀ {nb ns : Nat}, R nb = 101 → R ns = 104 → ∀ (n : Nat) (T1 : AT) (l3 : Int32), IV R B K1 K2 T1 → FW R [3202] T T1 → T1.2.2.2.2 o 11 = some nb → T1.2.2.2.2 o 10 = some ns → ((T1.2.2.1 ns 2).toInt ≤ (T1.2.2.1 nb 2).toInt) → (0 ≤ l3.toInt ∧ l3.toInt ≤ 40) → 40 - l3.toInt < (n : Int) → Tot (g_X8_focus_b23 n T1 o a0 a1 l3) (fun T9 => IV R B K1 K2 T9 ∧ FW R [3202] T T9) := by
    intro nb ns k_nb k_ns n
    induction n with
    | zero => intro T1 l3 h x e11 e10 hu h3 hm; exfalso; omega
    | succ n ih =>
      intro T1 l3 h x e11 e10 hu h3 hm
      unfold g_X8_focus_b23
      refine tot_oif (iv_oO h k_o (by decide) (by decide) rfl) ?_
      refine tot_ref1 e10 ?_
      refine tot_oif (w_oO h k_ns ws) ?_
      refine tot_let (fun v5 e5 => ?_)
      have q5 : v5.toInt = (T1.2.2.1 ns 2).toInt := by rw [e5]
      have u5 := w_used h k_ns ws
      refine tot_if (fun c => ?_) (fun c => ?_)
      · refine tot_oif (iv_oO h k_o (by decide) (by decide) rfl) ?_
        refine tot_ref1 e11 ?_
        refine tot_oif (w_oO h k_nb wb) ?_
        refine tot_bind (c_settle (a0 := (0 : Int32)) k_nb wb h (by omega)) (fun T10 d => ?_)
        unfold g_X8_focus_b74
        exact tot_some ⟨d.1, x.tr (fw_wx d.2 k_nb wb (by decide))⟩
      · replace c := i_nle c
        refine tot_oif (iv_oO h k_o (by decide) (by decide) rfl) ?_
        refine tot_ref1 e11 ?_
        refine tw_q h k_nb wb (fun n15 k15 e15 => ?_)
        refine tw_p h k15 wb (by omega) ?_
        refine tw_r (p := l3) h k_nb wb e15 (by omega) (fun n18 s18 x18 l18 => ?_)
        refine tot_oif (iv_oO h k_o (by decide) (by decide) rfl) ?_
        refine tot_ref1 e10 ?_
        refine tw_q h k_ns ws (fun n22 k22 e22 => ?_)
        refine tw_p h k22 ws (by omega) ?_
        refine tw_r (p := l3) h k_ns ws e22 (by omega) (fun n25 s25 x25 l25 => ?_)
        refine tot_oif (iv_oO h k_o (by decide) (by decide) rfl) ?_
        refine tot_bindq (R := fun _ : Int64 => True) (tot_weighted T1 o n25 a0 a1 h k_o s25 l25 k_a0) (fun r29 _ => ?_)
        refine tw_i s18 (by decide) l18 (by omega) ?_
        refine tot_let (fun T33 e33 => ?_)
        have h33 : IV R B K1 K2 T33 := by rw [e33]; exact iv_uJ h _ _ _
        have x33 : FW R [3202] T T33 := x.tr (fw_of (by rw [e33]; rfl))
        refine tot_let (fun v34 e34 => ?_)
        have q34 := i_add e34 (by omega) (by omega)
        exact ih T33 v34 h33 x33 (by rw [e33]; exact e11) (by rw [e33]; exact e10) (by rw [e33]; exact hu) (by omega) (by omega)
  unfold g_X8_focus
  refine tot_oif (iv_oO h_T k_o (by decide) (by decide) rfl) ?_
  refine tot_ref h_T k_o (by decide) (by decide) (r2 := 101) (rfl : rtg 8 11 = 101) (by decide) (fun nb k_nb e11 => ?_)
  obtain ⟨ns, e10, _, k_ns⟩ := h_T.2.2.1 o 10 (iv_sta h_T k_o (by decide) (by decide)) (by rw [k_o]; decide)
  have k_ns : R ns = 104 := by rw [k_ns, k_o]; rfl
  have nbs : nb ≠ ns := fun q => by rw [q, k_ns] at k_nb; cases k_nb
  refine tot_oif (w_oO h_T k_nb wb) ?_
  refine tot_bind (tot_fact (c_narrow h_T k_nb wb) (fun y e => wf_narrow e)) (fun T5 d5 => ?_)
  have h5 := d5.1.1
  have r5 := d5.2
  have x5 : FW R [3202] T T5 := d5.1.2.2
  have e115 : T5.2.2.2.2 o 11 = some nb := by rw [r5]; exact e11
  have e105 : T5.2.2.2.2 o 10 = some ns := by rw [r5]; exact e10
  refine tot_oif (iv_oO h5 k_o (by decide) (by decide) rfl) ?_
  refine tot_ref1 e115 ?_
  refine tot_oif (iv_oO h5 k_o (by decide) (by decide) rfl) ?_
  refine tot_ref1 e105 ?_
  refine tot_oif (w_oO h5 k_ns ws) ?_
  refine tot_let (fun v12 e12 => ?_)
  have q12 := i_eq e12
  have u12 := w_used h5 k_ns ws
  refine tot_oif (w_oO h5 k_nb wb) ?_
  obtain ⟨q, e1, _, kq⟩ := h5.2.2.1 nb 1 (iv_sta h5 k_nb (by decide) (by decide)) (by rw [k_nb]; decide)
  have kq : R q = 111 := by rw [kq, k_nb]; rfl
  refine tot_bind (tot_fact (c_widenTo (a0 := v12) k_nb wb h5) (fun y e => wf_widenTo e1 (fun a => by rw [a, kq] at k_nb; cases k_nb) e)) (fun T14 d14 => ?_)
  have h14 := d14.1.1
  have noq : o ≠ q := fun a => by rw [a, kq] at k_o; cases k_o
  have w14 := d14.1.2.1.1 ns 2 (.inl (Ne.symm nbs))
  unfold g_X8_focus_b21
  have u14 := w_used h14 k_ns ws
  exact lp k_nb k_ns 16384 T14 0 h14 (x5.tr (fw_wx d14.1.2.1 k_nb wb (by decide))) ((d14.2 o 11 noq).trans e115) ((d14.2 o 10 noq).trans e105) (by have := d14.1.2.2; rw [w14] at u14 ⊢; omega) (by decide) (by decide)
end
end
section
/-! 13d.ca0.lean.txt -/
set_option maxHeartbeats 4000000 in
set_option maxRecDepth 10000 in
theorem cs_X1_cells {R : Nat → Nat} {B K1 K2 : Nat} (T : AT) (o : Nat) (h_T : IV R B K1 K2 T) (k_o : R o = 1) : Tot (g_X1_cells T o) (fun r => r.2 = T ∧ (0 ≤ r.1.toInt ∧ r.1.toInt ≤ 144)) := by
  have cc_101 : cnt 101 = 1 := rfl
  have cc_102 : cnt 102 = 12 := rfl
  have cc_103 : cnt 103 = 144 := rfl
  have cc_104 : cnt 104 = 2400 := rfl
  have cc_105 : cnt 105 = 7200 := rfl
  unfold g_X1_cells
  refine tot_oif (iv_oO h_T k_o (by decide) (by decide) rfl) ?_
  refine tot_let (fun v_1 e_v_1 => ?_)
  have r_v_1 : 0 ≤ v_1.toInt ∧ v_1.toInt ≤ 12 := iv_int h_T k_o (by decide) (by decide) e_v_1 rfl
  refine tot_oif (iv_oO h_T k_o (by decide) (by decide) rfl) ?_
  refine tot_let (fun v_2 e_v_2 => ?_)
  have r_v_2 : 0 ≤ v_2.toInt ∧ v_2.toInt ≤ 12 := iv_int h_T k_o (by decide) (by decide) e_v_2 rfl
  refine tot_let (fun v_3 e_v_3 => ?_)
  have q_v_3 := i_mulp (a := 0) (b := 12) (c := 0) (d := 12) e_v_3 (by omega) (by omega) (by omega) (by omega) (by decide)
  exact tot_some ⟨rfl, (show (0 ≤ v_3.toInt ∧ v_3.toInt ≤ 144) from by omega)⟩
set_option maxHeartbeats 4000000 in
set_option maxRecDepth 10000 in
theorem cs_X0_rowStart (a0 : Int32) (g0 : 0 ≤ a0.toInt ∧ a0.toInt ≤ 49) : Tot (g_X0_rowStart a0) (fun r => (0 ≤ r.toInt ∧ r.toInt ≤ 7056)) := by
  have z0 : (144 : Int32).toInt = 144 := by decide
  have cc_101 : cnt 101 = 1 := rfl
  have cc_102 : cnt 102 = 12 := rfl
  have cc_103 : cnt 103 = 144 := rfl
  have cc_104 : cnt 104 = 2400 := rfl
  have cc_105 : cnt 105 = 7200 := rfl
  have j_a0 := i_any a0
  unfold g_X0_rowStart
  refine tot_let (fun v_1 e_v_1 => ?_)
  have q_v_1 := i_mulk2 e_v_1 z0 (by omega) (by omega)
  exact tot_some (show (0 ≤ v_1.toInt ∧ v_1.toInt ≤ 7056) from by omega)
set_option maxHeartbeats 4000000 in
set_option maxRecDepth 10000 in
theorem cl_X8_greatestDelay_b4 {R : Nat → Nat} {B K1 K2 : Nat} {Q : Int32 × AT → Prop} (T : AT) (l0 : Nat) (l1 : Nat) (h_T : IV R B K1 K2 T) (k_l0 : R l0 = 8) (k_l1 : R l1 = 50) (hx0 : ∀ (l2 : Int32), (0 ≤ l2.toInt ∧ l2.toInt ≤ 2147483647) → Tot (some (l2, T)) Q) : ∀ (n : Nat) (l2 : Int32) (l3 : Int32), (0 ≤ l2.toInt ∧ l2.toInt ≤ 2147483647) → (0 ≤ l3.toInt ∧ l3.toInt ≤ 12) → 12 - l3.toInt < (n : Int) → Tot (g_X8_greatestDelay_b4 n T l0 l1 l2 l3) Q := by
  have z0 : (0 : Int32).toInt = 0 := by decide
  have z1 : (Int32.ofInt (1) : Int32).toInt = 1 := by decide
  have cc_101 : cnt 101 = 1 := rfl
  have cc_102 : cnt 102 = 12 := rfl
  have cc_103 : cnt 103 = 144 := rfl
  have cc_104 : cnt 104 = 2400 := rfl
  have cc_105 : cnt 105 = 7200 := rfl
  intro n
  induction n with
  | zero =>
    intro l2 l3 g_l2 g_l3 hm
    exfalso
    omega
  | succ n ih =>
    intro l2 l3 g_l2 g_l3 hm
    unfold g_X8_greatestDelay_b4
    refine tot_oif (iv_oO h_T k_l0 (by decide) (by decide) rfl) ?_
    refine tot_let (fun v_15 e_v_15 => ?_)
    have r_v_15 : 0 ≤ v_15.toInt ∧ v_15.toInt ≤ 12 := iv_int h_T k_l0 (by decide) (by decide) e_v_15 rfl
    refine tot_if (fun c_20 => ?_) (fun c_20 => ?_)
    · replace c_20 := i_le c_20
      exact hx0 l2 (by omega)
    · replace c_20 := i_nle c_20
      refine tot_oif (iv_oO h_T k_l0 (by decide) (by decide) rfl) ?_
      refine tot_ref h_T k_l0 (by decide) (by decide) (r2 := 62) (rfl : rtg 8 3 = 62) (by decide) (fun n_16 k_n_16 e_n_16 => ?_)
      refine tot_oif (iv_aA h_T k_n_16 (by decide) (by decide) rfl rfl) ?_
      refine tot_oif (by rw [iv_len h_T k_n_16 (by decide) (by decide) (rfl : shp 62 = (102, 12))]; exact i_inb (by omega) (by omega)) ?_
      refine tot_let (fun v_17 e_v_17 => ?_)
      have r_v_17 : 0 ≤ v_17.toInt ∧ v_17.toInt ≤ 1 := iv_int h_T k_n_16 (by decide) (by decide) e_v_17 rfl
      refine tot_if (fun c_21 => ?_) (fun c_21 => ?_)
      · replace c_21 := i_eq c_21
        refine tot_oif (iv_aA h_T k_l1 (by decide) (by decide) rfl rfl) ?_
        refine tot_oif (by rw [iv_len h_T k_l1 (by decide) (by decide) (rfl : shp 50 = (100, 12))]; exact i_inb (by omega) (by omega)) ?_
        refine tot_let (fun v_18 e_v_18 => ?_)
        have r_v_18 := i_any v_18
        refine tot_let (fun v_19 e_v_19 => ?_)
        have q_v_19 := i_ilt e_v_19
        unfold g_X8_greatestDelay_b29
        refine tot_let (fun v_22 e_v_22 => ?_)
        have q_v_22 := i_add e_v_22 (by omega) (by omega)
        exact ih v_19 v_22 (by omega) (by omega) (by omega)
      · replace c_21 := i_ne c_21
        unfold g_X8_greatestDelay_b29
        refine tot_let (fun v_23 e_v_23 => ?_)
        have q_v_23 := i_add e_v_23 (by omega) (by omega)
        exact ih l2 v_23 (by omega) (by omega) (by omega)
set_option maxHeartbeats 4000000 in
set_option maxRecDepth 10000 in
theorem cs_X8_greatestDelay {R : Nat → Nat} {B K1 K2 : Nat} (T : AT) (o : Nat) (a0 : Nat) (h_T : IV R B K1 K2 T) (k_o : R o = 8) (k_a0 : R a0 = 50) : Tot (g_X8_greatestDelay T o a0) (fun r => r.2 = T ∧ (0 ≤ r.1.toInt ∧ r.1.toInt ≤ 2147483647)) := by
  have z0 : (0 : Int32).toInt = 0 := by decide
  have cc_101 : cnt 101 = 1 := rfl
  have cc_102 : cnt 102 = 12 := rfl
  have cc_103 : cnt 103 = 144 := rfl
  have cc_104 : cnt 104 = 2400 := rfl
  have cc_105 : cnt 105 = 7200 := rfl
  unfold g_X8_greatestDelay
  refine cl_X8_greatestDelay_b4 T o a0 h_T k_o k_a0 ?_ 16384 0 0 (by omega) (by omega) (by omega)
  · intro l_24 g_l_24
    exact tot_some ⟨rfl, (show (0 ≤ l_24.toInt ∧ l_24.toInt ≤ 2147483647) from by omega)⟩
set_option maxHeartbeats 4000000 in
set_option maxRecDepth 10000 in
theorem cs_X8_windowOf {R : Nat → Nat} {B K1 K2 : Nat} (T : AT) (o : Nat) (a0 : Nat) (h_T : IV R B K1 K2 T) (k_o : R o = 8) (k_a0 : R a0 = 50) : Tot (g_X8_windowOf T o a0) (fun r => r.2 = T ∧ (0 ≤ r.1.toInt ∧ r.1.toInt ≤ 200)) := by
  have z0 : (0 : Int32).toInt = 0 := by decide
  have cc_101 : cnt 101 = 1 := rfl
  have cc_102 : cnt 102 = 12 := rfl
  have cc_103 : cnt 103 = 144 := rfl
  have cc_104 : cnt 104 = 2400 := rfl
  have cc_105 : cnt 105 = 7200 := rfl
  unfold g_X8_windowOf
  refine tot_oif (iv_oO h_T k_o (by decide) (by decide) rfl) ?_
  refine tot_let (fun v_1 e_v_1 => ?_)
  have r_v_1 : 0 ≤ v_1.toInt ∧ v_1.toInt ≤ 200 := iv_int h_T k_o (by decide) (by decide) e_v_1 rfl
  refine tot_oif (iv_oO h_T k_o (by decide) (by decide) rfl) ?_
  refine tot_bindq (R := fun r_2 : Int32 => (0 ≤ r_2.toInt ∧ r_2.toInt ≤ 2147483647)) (cs_X8_greatestDelay T o a0 h_T k_o k_a0 ) (fun r_2 d_r_2 => ?_)
  replace d_r_2 : (0 ≤ r_2.toInt ∧ r_2.toInt ≤ 2147483647) := d_r_2
  refine tot_let (fun v_4 e_v_4 => ?_)
  have q_v_4 := i_sub e_v_4 (by omega) (by omega)
  refine tot_let (fun v_5 e_v_5 => ?_)
  have q_v_5 := i_ilt e_v_5
  exact tot_some ⟨rfl, (show (0 ≤ v_5.toInt ∧ v_5.toInt ≤ 200) from by omega)⟩
set_option maxHeartbeats 4000000 in
set_option maxRecDepth 10000 in
theorem cs_X8_placeOf (a0 : Int32) (a1 : Int32) (g0 : 0 ≤ a0.toInt ∧ a0.toInt ≤ 11) (g1 : 0 ≤ a1.toInt ∧ a1.toInt ≤ 199) : Tot (g_X8_placeOf a0 a1) (fun r => (0 ≤ r.toInt ∧ r.toInt ≤ 2399)) := by
  have z0 : (200 : Int32).toInt = 200 := by decide
  have cc_101 : cnt 101 = 1 := rfl
  have cc_102 : cnt 102 = 12 := rfl
  have cc_103 : cnt 103 = 144 := rfl
  have cc_104 : cnt 104 = 2400 := rfl
  have cc_105 : cnt 105 = 7200 := rfl
  have j_a0 := i_any a0
  have j_a1 := i_any a1
  unfold g_X8_placeOf
  refine tot_let (fun v_1 e_v_1 => ?_)
  have q_v_1 := i_mulk2 e_v_1 z0 (by omega) (by omega)
  refine tot_let (fun v_2 e_v_2 => ?_)
  have q_v_2 := i_add e_v_2 (by omega) (by omega)
  exact tot_some (show (0 ≤ v_2.toInt ∧ v_2.toInt ≤ 2399) from by omega)
set_option maxHeartbeats 4000000 in
set_option maxRecDepth 10000 in
theorem cl_X8_blockPowerOf_b23 {R : Nat → Nat} {B K1 K2 : Nat} {Q : AT → Prop} (l0 : Nat) (l1 : Nat) (l3 : Int32) (l4 : Nat) (l5 : Int32) (l6 : Int32) (T00 : AT) (k_l0 : R l0 = 8) (k_l1 : R l1 = 50) {r_l4 : Nat} (k_l4 : R l4 = r_l4) (w_l4 : isW r_l4 = true) (g0 : 0 ≤ l3.toInt ∧ l3.toInt ≤ 200) (g1 : 0 ≤ l5.toInt ∧ l5.toInt ≤ 7199) (g2 : 0 ≤ l6.toInt ∧ l6.toInt ≤ 200) (g3 : 0 ≤ l5.toInt ∧ l5.toInt < cnt r_l4) (hx0 : ∀ (T : AT), (IV R B K1 K2 T) → (FW R [3202] T00 T) → Tot (oif (oO T l4 10 = true) <| obind (g_X10_divide T l4 l5 l3) fun T_18 => g_X8_blockPowerOf_b68 T_18) Q) : ∀ (n : Nat) (T : AT) (l7 : Int32), (IV R B K1 K2 T) → (FW R [3202] T00 T) → (0 ≤ l7.toInt ∧ l7.toInt ≤ 9800) → 9800 - l7.toInt < (n : Int) → Tot (g_X8_blockPowerOf_b23 n T l0 l1 l3 l4 l5 l6 l7) Q := by
  have z0 : ((0 : Int32) : Int32).toInt = 0 := by decide
  have z1 : (Int32.ofInt (1) : Int32).toInt = 1 := by decide
  have cc_101 : cnt 101 = 1 := rfl
  have cc_102 : cnt 102 = 12 := rfl
  have cc_103 : cnt 103 = 144 := rfl
  have cc_104 : cnt 104 = 2400 := rfl
  have cc_105 : cnt 105 = 7200 := rfl
  have j_l3 := i_any l3
  have c7_l4 := (isW_f w_l4).2.2.2.1
  have j_l5 := i_any l5
  have j_l6 := i_any l6
  intro n
  induction n with
  | zero =>
    intro T l7 h_T x_T g_l7 hm
    exfalso
    omega
  | succ n ih =>
    intro T l7 h_T x_T g_l7 hm
    unfold g_X8_blockPowerOf_b23
    refine tot_if (fun c_20 => ?_) (fun c_20 => ?_)
    · replace c_20 := i_le c_20
      exact hx0 T h_T x_T
    · replace c_20 := i_nle c_20
      refine tot_oif (iv_oO h_T k_l0 (by decide) (by decide) rfl) ?_
      refine tot_bind (cs_X8_focus T l0 l1 l7 h_T k_l0 k_l1 ) (fun T_19 d_T_19 => ?_)
      have h_T_19 : IV R B K1 K2 T_19 := d_T_19.1
      have y_T_19 : FW R [3202] T T_19 := d_T_19.2
      have x_T_19 := x_T.tr (y_T_19.w (by decide))
      unfold g_X8_blockPowerOf_b37
      refine tot_oif (iv_oO h_T_19 k_l0 (by decide) (by decide) rfl) ?_
      refine tot_ref h_T_19 k_l0 (by decide) (by decide) (r2 := 101) (rfl : rtg 8 11 = 101) (by decide) (fun n_21 k_n_21 e_n_21 => ?_)
      refine tot_oif (iv_oO h_T_19 k_l0 (by decide) (by decide) rfl) ?_
      refine tot_ref1 e_n_21 ?_
      refine tot_oif (w_oO h_T_19 k_l4 w_l4) ?_
      refine tot_bind (c_addProduct (a0 := l5) (a2 := (0 : Int32)) (a4 := (0 : Int32)) k_l4 w_l4 k_n_21 (rfl : isW 101 = true) k_n_21 (rfl : isW 101 = true) h_T_19 (by omega) (by omega) (by omega)) (fun T_23 d_T_23 => ?_)
      have h_T_23 : IV R B K1 K2 T_23 := d_T_23.1
      have y_T_23 : FW R [3202] T_19 T_23 := (fw_wx d_T_23.2 k_l4 w_l4 (by decide))
      have x_T_23 := x_T_19.tr (y_T_23.w (by decide))
      unfold g_X8_blockPowerOf_b54
      refine tot_let (fun v_24 e_v_24 => ?_)
      have q_v_24 := i_add e_v_24 (by omega) (by omega)
      exact ih T_23 v_24 h_T_23 x_T_23 (by omega) (by omega)
set_option maxHeartbeats 4000000 in
set_option maxRecDepth 10000 in
theorem cs_X8_blockPowerOf {R : Nat → Nat} {B K1 K2 : Nat} (T : AT) (o : Nat) (a0 : Nat) (a1 : Int32) (a2 : Int32) (a3 : Nat) (a4 : Int32) (h_T : IV R B K1 K2 T) (k_o : R o = 8) (k_a0 : R a0 = 50) {r_a3 : Nat} (k_a3 : R a3 = r_a3) (w_a3 : isW r_a3 = true) (g0 : 0 ≤ a1.toInt ∧ a1.toInt ≤ 9800) (g1 : 0 ≤ a2.toInt ∧ a2.toInt ≤ 200) (g2 : 0 ≤ a4.toInt ∧ a4.toInt ≤ 7199) (g3 : 0 ≤ a4.toInt ∧ a4.toInt < cnt r_a3) : Tot (g_X8_blockPowerOf T o a0 a1 a2 a3 a4) (fun T1 => IV R B K1 K2 T1 ∧ FW R [3202] T T1) := by
  have cc_101 : cnt 101 = 1 := rfl
  have cc_102 : cnt 102 = 12 := rfl
  have cc_103 : cnt 103 = 144 := rfl
  have cc_104 : cnt 104 = 2400 := rfl
  have cc_105 : cnt 105 = 7200 := rfl
  have x_T : FW R [3202] T T := FW.rf
  have j_a1 := i_any a1
  have j_a2 := i_any a2
  have j_a4 := i_any a4
  have c7_a3 := (isW_f w_a3).2.2.2.1
  unfold g_X8_blockPowerOf
  refine tot_let (fun v_1 e_v_1 => ?_)
  have q_v_1 := i_add e_v_1 (by omega) (by omega)
  refine tot_oif (iv_oO h_T k_o (by decide) (by decide) rfl) ?_
  refine tot_bindq (R := fun r_2 : Int32 => (0 ≤ r_2.toInt ∧ r_2.toInt ≤ 200)) (cs_X8_windowOf T o a0 h_T k_o k_a0 ) (fun r_2 d_r_2 => ?_)
  replace d_r_2 : (0 ≤ r_2.toInt ∧ r_2.toInt ≤ 200) := d_r_2
  refine tot_let (fun v_4 e_v_4 => ?_)
  have q_v_4 := i_ilt e_v_4
  refine tot_oif (w_oO h_T k_a3 w_a3) ?_
  refine tot_bind (c_clear (a0 := a4) h_T k_a3 w_a3 (by omega)) (fun T_5 d_T_5 => ?_)
  have h_T_5 : IV R B K1 K2 T_5 := d_T_5.1
  have y_T_5 : FW R [3202] T T_5 := (fw_of d_T_5.2)
  have x_T_5 := x_T.tr (y_T_5.w (by decide))
  refine cl_X8_blockPowerOf_b23 o a0 a2 a3 a4 v_4 T k_o k_a0 k_a3 w_a3 (by omega) (by omega) (by omega) (by omega) ?_ 16384 T_5 a1 h_T_5 x_T_5 (by omega) (by omega)
  · intro T_25 h_T_25 x_T_25
    refine tot_oif (w_oO h_T_25 k_a3 w_a3) ?_
    refine tot_bind (c_divide (a0 := a4) (a1 := a2) k_a3 w_a3 h_T_25 (by omega)) (fun T_26 d_T_26 => ?_)
    have h_T_26 : IV R B K1 K2 T_26 := d_T_26.1
    have y_T_26 : FW R [3202] T_25 T_26 := (fw_wx d_T_26.2 k_a3 w_a3 (by decide))
    have x_T_26 := x_T_25.tr (y_T_26.w (by decide))
    unfold g_X8_blockPowerOf_b68
    exact tot_some ⟨h_T_26, x_T_26⟩
set_option maxHeartbeats 4000000 in
set_option maxRecDepth 10000 in
theorem cl_X0_measure_b3 {R : Nat → Nat} {B K1 K2 : Nat} {Q : AT → Prop} (l0 : Nat) (l1 : Nat) (l2 : Nat) (l3 : Int32) (l4 : Int32) (l5 : Int32) (T00 : AT) (k_l0 : R l0 = 20) (k_l1 : R l1 = 6) (k_l2 : R l2 = 8) (g0 : 0 ≤ l3.toInt ∧ l3.toInt ≤ 9800) (g1 : 1 ≤ l4.toInt ∧ l4.toInt ≤ 200) (g2 : 0 ≤ l5.toInt ∧ l5.toInt ≤ 49) (hx0 : ∀ (T : AT), (IV R B K1 K2 T) → (FW R [3202] T00 T) → Tot (some (T)) Q) : ∀ (n : Nat) (T : AT) (l6 : Int32), (IV R B K1 K2 T) → (FW R [3202] T00 T) → (0 ≤ l6.toInt ∧ l6.toInt ≤ 144) → 144 - l6.toInt < (n : Int) → Tot (g_X0_measure_b3 n T l0 l1 l2 l3 l4 l5 l6) Q := by
  have z0 : (Int32.ofInt (1) : Int32).toInt = 1 := by decide
  have cc_101 : cnt 101 = 1 := rfl
  have cc_102 : cnt 102 = 12 := rfl
  have cc_103 : cnt 103 = 144 := rfl
  have cc_104 : cnt 104 = 2400 := rfl
  have cc_105 : cnt 105 = 7200 := rfl
  have j_l3 := i_any l3
  have j_l4 := i_any l4
  have j_l5 := i_any l5
  intro n
  induction n with
  | zero =>
    intro T l6 h_T x_T g_l6 hm
    exfalso
    omega
  | succ n ih =>
    intro T l6 h_T x_T g_l6 hm
    unfold g_X0_measure_b3
    refine tot_oif (iv_oO h_T k_l1 (by decide) (by decide) rfl) ?_
    refine tot_ref h_T k_l1 (by decide) (by decide) (r2 := 1) (rfl : rtg 6 6 = 1) (by decide) (fun n_21 k_n_21 e_n_21 => ?_)
    refine tot_oif (iv_oO h_T k_n_21 (by decide) (by decide) rfl) ?_
    refine tot_bindq (R := fun r_22 : Int32 => (0 ≤ r_22.toInt ∧ r_22.toInt ≤ 144)) (cs_X1_cells T n_21 h_T k_n_21 ) (fun r_22 d_r_22 => ?_)
    replace d_r_22 : (0 ≤ r_22.toInt ∧ r_22.toInt ≤ 144) := d_r_22
    refine tot_if (fun c_30 => ?_) (fun c_30 => ?_)
    · replace c_30 := i_le c_30
      exact hx0 T h_T x_T
    · replace c_30 := i_nle c_30
      refine tot_oif (iv_oO h_T k_l1 (by decide) (by decide) rfl) ?_
      refine tot_ref h_T k_l1 (by decide) (by decide) (r2 := 51) (rfl : rtg 6 17 = 51) (by decide) (fun n_24 k_n_24 e_n_24 => ?_)
      refine tot_oif (iv_aA h_T k_n_24 (by decide) (by decide) rfl rfl) ?_
      refine tot_oif (by rw [iv_len h_T k_n_24 (by decide) (by decide) (rfl : shp 51 = (106, 144))]; exact i_inb (by omega) (by omega)) ?_
      refine tot_ref h_T k_n_24 (by decide) (by decide) (r2 := 50) (rt_51 (by omega) (by omega)) (by decide) (fun n_25 k_n_25 e_n_25 => ?_)
      refine tot_oif (iv_oO h_T k_l0 (by decide) (by decide) rfl) ?_
      refine tot_ref h_T k_l0 (by decide) (by decide) (r2 := 105) (rfl : rtg 20 0 = 105) (by decide) (fun n_26 k_n_26 e_n_26 => ?_)
      refine tot_bind (cs_X0_rowStart l5 (by omega)) (fun r_27 d_r_27 => ?_)
      replace d_r_27 : (0 ≤ r_27.toInt ∧ r_27.toInt ≤ 7056) := d_r_27
      refine tot_let (fun v_28 e_v_28 => ?_)
      have q_v_28 := i_add e_v_28 (by omega) (by omega)
      refine tot_oif (iv_oO h_T k_l2 (by decide) (by decide) rfl) ?_
      refine tot_bind (cs_X8_blockPowerOf T l2 n_25 l3 l4 n_26 v_28 h_T k_l2 k_n_25 k_n_26 (rfl : isW 105 = true) (by omega) (by omega) (by omega) (by omega)) (fun T_29 d_T_29 => ?_)
      have h_T_29 : IV R B K1 K2 T_29 := d_T_29.1
      have y_T_29 : FW R [3202] T T_29 := d_T_29.2
      have x_T_29 := x_T.tr (y_T_29.w (by decide))
      unfold g_X0_measure_b41
      refine tot_let (fun v_31 e_v_31 => ?_)
      have q_v_31 := i_add e_v_31 (by omega) (by omega)
      exact ih T_29 v_31 h_T_29 x_T_29 (by omega) (by omega)
set_option maxHeartbeats 4000000 in
set_option maxRecDepth 10000 in
theorem cs_X0_measure {R : Nat → Nat} {B K1 K2 : Nat} (T : AT) (o : Nat) (a0 : Nat) (a1 : Nat) (a2 : Int32) (a3 : Int32) (a4 : Int32) (h_T : IV R B K1 K2 T) (k_o : R o = 20) (k_a0 : R a0 = 6) (k_a1 : R a1 = 8) (g0 : 0 ≤ a2.toInt ∧ a2.toInt ≤ 9800) (g1 : 1 ≤ a3.toInt ∧ a3.toInt ≤ 200) (g2 : 0 ≤ a4.toInt ∧ a4.toInt ≤ 49) : Tot (g_X0_measure T o a0 a1 a2 a3 a4) (fun T1 => IV R B K1 K2 T1 ∧ FW R [3202] T T1) := by
  have z0 : (0 : Int32).toInt = 0 := by decide
  have cc_101 : cnt 101 = 1 := rfl
  have cc_102 : cnt 102 = 12 := rfl
  have cc_103 : cnt 103 = 144 := rfl
  have cc_104 : cnt 104 = 2400 := rfl
  have cc_105 : cnt 105 = 7200 := rfl
  have x_T : FW R [3202] T T := FW.rf
  have j_a2 := i_any a2
  have j_a3 := i_any a3
  have j_a4 := i_any a4
  unfold g_X0_measure
  refine cl_X0_measure_b3 o a0 a1 a2 a3 a4 T k_o k_a0 k_a1 (by omega) (by omega) (by omega) ?_ 16384 T 0 h_T x_T (by omega) (by omega)
  · intro T_32 h_T_32 x_T_32
    exact tot_some ⟨h_T_32, x_T_32⟩
set_option maxHeartbeats 4000000 in
set_option maxRecDepth 10000 in
theorem cs_X0_bestOf {R : Nat → Nat} {B K1 K2 : Nat} (T : AT) (o : Nat) (a0 : Nat) (a1 : Nat) (a2 : Int32) (a3 : Int32) (h_T : IV R B K1 K2 T) (k_o : R o = 20) (k_a0 : R a0 = 6) (k_a1 : R a1 = 8) (g0 : 0 ≤ a2.toInt ∧ a2.toInt ≤ 199) (g1 : 1 ≤ a3.toInt ∧ a3.toInt ≤ 200) : Tot (g_X0_bestOf T o a0 a1 a2 a3) (fun r => (IV R B K1 K2 r.2 ∧ FW R [3202] T r.2) ∧ (0 ≤ r.1.toInt ∧ r.1.toInt ≤ 143)) := by
  have z0 : ((0 : Int32) : Int32).toInt = 0 := by decide
  have cc_101 : cnt 101 = 1 := rfl
  have cc_102 : cnt 102 = 12 := rfl
  have cc_103 : cnt 103 = 144 := rfl
  have cc_104 : cnt 104 = 2400 := rfl
  have cc_105 : cnt 105 = 7200 := rfl
  have x_T : FW R [3202] T T := FW.rf
  have j_a2 := i_any a2
  have j_a3 := i_any a3
  unfold g_X0_bestOf
  refine tot_oif (iv_oO h_T k_o (by decide) (by decide) rfl) ?_
  refine tot_ref h_T k_o (by decide) (by decide) (r2 := 105) (rfl : rtg 20 0 = 105) (by decide) (fun n_1 k_n_1 e_n_1 => ?_)
  refine tot_oif (w_oO h_T k_n_1 (rfl : isW 105 = true)) ?_
  refine tot_bind (c_narrow h_T k_n_1 (rfl : isW 105 = true)) (fun T_2 d_T_2 => ?_)
  have h_T_2 : IV R B K1 K2 T_2 := d_T_2.1
  have y_T_2 : FW R [3202] T T_2 := d_T_2.2.2
  have x_T_2 := x_T.tr (y_T_2.w (by decide))
  refine tot_oif (iv_oO h_T_2 k_o (by decide) (by decide) rfl) ?_
  refine tot_bind (cs_X0_measure T_2 o a0 a1 a2 a3 (0 : Int32) h_T_2 k_o k_a0 k_a1 (by omega) (by omega) (by omega)) (fun T_3 d_T_3 => ?_)
  have h_T_3 : IV R B K1 K2 T_3 := d_T_3.1
  have y_T_3 : FW R [3202] T_2 T_3 := d_T_3.2
  have x_T_3 := x_T_2.tr (y_T_3.w (by decide))
  unfold g_X0_bestOf_b17
  refine tot_oif (iv_oO h_T_3 k_a0 (by decide) (by decide) rfl) ?_
  refine tot_ref h_T_3 k_a0 (by decide) (by decide) (r2 := 1) (rfl : rtg 6 6 = 1) (by decide) (fun n_4 k_n_4 e_n_4 => ?_)
  refine tot_oif (iv_oO h_T_3 k_a0 (by decide) (by decide) rfl) ?_
  refine tot_ref1 e_n_4 ?_
  refine tot_oif (iv_oO h_T_3 k_n_4 (by decide) (by decide) rfl) ?_
  refine tot_ref h_T_3 k_n_4 (by decide) (by decide) (r2 := 59) (rfl : rtg 1 5 = 59) (by decide) (fun n_6 k_n_6 e_n_6 => ?_)
  refine tot_oif (iv_oO h_T_3 k_o (by decide) (by decide) rfl) ?_
  refine tot_ref h_T_3 k_o (by decide) (by decide) (r2 := 105) (rfl : rtg 20 0 = 105) (by decide) (fun n_7 k_n_7 e_n_7 => ?_)
  refine tot_oif (iv_oO h_T_3 k_n_4 (by decide) (by decide) rfl) ?_
  refine tot_bindq (R := fun r_8 : Int32 => (0 ≤ r_8.toInt ∧ r_8.toInt ≤ 143)) (cs_X1_bestIn59 T_3 n_4 n_6 n_7 (0 : Int32) h_T_3 k_n_4 k_n_6 k_n_7 (rfl : isW 105 = true) (by omega)) (fun r_8 d_r_8 => ?_)
  replace d_r_8 : (0 ≤ r_8.toInt ∧ r_8.toInt ≤ 143) := d_r_8
  exact tot_some ⟨⟨h_T_3, x_T_3⟩, (show (0 ≤ r_8.toInt ∧ r_8.toInt ≤ 143) from by omega)⟩
set_option maxHeartbeats 4000000 in
set_option maxRecDepth 10000 in
theorem cs_X1_columnOf {R : Nat → Nat} {B K1 K2 : Nat} (T : AT) (o : Nat) (a0 : Int32) (h_T : IV R B K1 K2 T) (k_o : R o = 1) (g0 : 0 ≤ a0.toInt ∧ a0.toInt ≤ 143) : Tot (g_X1_columnOf T o a0) (fun r => r.2 = T ∧ (0 ≤ r.1.toInt ∧ r.1.toInt ≤ 11)) := by
  have cc_101 : cnt 101 = 1 := rfl
  have cc_102 : cnt 102 = 12 := rfl
  have cc_103 : cnt 103 = 144 := rfl
  have cc_104 : cnt 104 = 2400 := rfl
  have cc_105 : cnt 105 = 7200 := rfl
  have j_a0 := i_any a0
  unfold g_X1_columnOf
  refine tot_oif (iv_oO h_T k_o (by decide) (by decide) rfl) ?_
  refine tot_let (fun v_1 e_v_1 => ?_)
  have r_v_1 : 0 ≤ v_1.toInt ∧ v_1.toInt ≤ 12 := iv_int h_T k_o (by decide) (by decide) e_v_1 rfl
  refine tot_bind (cs_X11_remainder a0 v_1 ) (fun r_2 d_r_2 => ?_)
  replace d_r_2 : ((0 ≤ a0.toInt ∧ 0 ≤ v_1.toInt → 0 ≤ r_2.toInt ∧ r_2.toInt ≤ a0.toInt) ∧ (1 ≤ v_1.toInt → -v_1.toInt < r_2.toInt ∧ r_2.toInt < v_1.toInt) ∧ (v_1.toInt = 0 → r_2.toInt = 0)) := d_r_2
  exact tot_some ⟨rfl, (show (0 ≤ r_2.toInt ∧ r_2.toInt ≤ 11) from by omega)⟩
set_option maxHeartbeats 4000000 in
set_option maxRecDepth 10000 in
theorem cs_X1_rowOf {R : Nat → Nat} {B K1 K2 : Nat} (T : AT) (o : Nat) (a0 : Int32) (h_T : IV R B K1 K2 T) (k_o : R o = 1) (g0 : 0 ≤ a0.toInt ∧ a0.toInt ≤ 143) : Tot (g_X1_rowOf T o a0) (fun r => r.2 = T ∧ (0 ≤ r.1.toInt ∧ r.1.toInt ≤ 143)) := by
  have cc_101 : cnt 101 = 1 := rfl
  have cc_102 : cnt 102 = 12 := rfl
  have cc_103 : cnt 103 = 144 := rfl
  have cc_104 : cnt 104 = 2400 := rfl
  have cc_105 : cnt 105 = 7200 := rfl
  have j_a0 := i_any a0
  unfold g_X1_rowOf
  refine tot_let (fun v_1 e_v_1 => ?_)
  refine tot_oif (iv_oO h_T k_o (by decide) (by decide) rfl) ?_
  refine tot_let (fun v_2 e_v_2 => ?_)
  have r_v_2 : 0 ≤ v_2.toInt ∧ v_2.toInt ≤ 12 := iv_int h_T k_o (by decide) (by decide) e_v_2 rfl
  refine tot_let (fun v_3 e_v_3 => ?_)
  refine tot_bind (cs_X11_quotient v_1 v_3) (fun r_4 d_r_4 => ?_)
  refine tot_let (fun v_5 e_v_5 => ?_)
  have q_v_5 : 0 ≤ v_5.toInt ∧ v_5.toInt ≤ a0.toInt := by rw [e_v_5]; exact d_r_4 _ _ e_v_1 e_v_3 (by omega) (by omega)
  exact tot_some ⟨rfl, (show (0 ≤ v_5.toInt ∧ v_5.toInt ≤ 143) from by omega)⟩
set_option maxHeartbeats 4000000 in
set_option maxRecDepth 10000 in
theorem cl_X0_score_b52 {R : Nat → Nat} {B K1 K2 : Nat} {Q : AT → Prop} {k31 : AT → Nat → Nat → Nat → Int32 → Int32 → Int32 → Option (AT)} (l0 : Nat) (l1 : Nat) (l2 : Nat) (l3 : Int32) (l4 : Int32) (l5 : Int32) (T00 : AT) (k_l0 : R l0 = 20) (k_l1 : R l1 = 6) (k_l2 : R l2 = 8) (g0 : 4 ≤ l3.toInt ∧ l3.toInt ≤ 200) (g1 : 0 ≤ l4.toInt ∧ l4.toInt ≤ 50) (g2 : 0 ≤ l5.toInt ∧ l5.toInt ≤ 49) (hx0 : ∀ (T : AT), (IV R B K1 K2 T) → (FW R [1952, 3202] T00 T) → Tot (g_X0_score_b137 k31 T l0 l1 l2 l3 l4 l5) Q) : ∀ (n : Nat) (T : AT) (l6 : Int32), (IV R B K1 K2 T) → (FW R [1952, 3202] T00 T) → (0 ≤ l6.toInt ∧ l6.toInt ≤ 144) → 144 - l6.toInt < (n : Int) → Tot (g_X0_score_b52 k31 n T l0 l1 l2 l3 l4 l5 l6) Q := by
  have z0 : (1 : Int32).toInt = 1 := by decide
  have z1 : ((1 : Int32) : Int32).toInt = 1 := by decide
  have z2 : (Int32.ofInt (1) : Int32).toInt = 1 := by decide
  have cc_101 : cnt 101 = 1 := rfl
  have cc_102 : cnt 102 = 12 := rfl
  have cc_103 : cnt 103 = 144 := rfl
  have cc_104 : cnt 104 = 2400 := rfl
  have cc_105 : cnt 105 = 7200 := rfl
  have j_l3 := i_any l3
  have j_l4 := i_any l4
  have j_l5 := i_any l5
  intro n
  induction n with
  | zero =>
    intro T l6 h_T x_T g_l6 hm
    exfalso
    omega
  | succ n ih =>
    intro T l6 h_T x_T g_l6 hm
    unfold g_X0_score_b52
    refine tot_oif (iv_oO h_T k_l1 (by decide) (by decide) rfl) ?_
    refine tot_ref h_T k_l1 (by decide) (by decide) (r2 := 1) (rfl : rtg 6 6 = 1) (by decide) (fun n_109 k_n_109 e_n_109 => ?_)
    refine tot_oif (iv_oO h_T k_n_109 (by decide) (by decide) rfl) ?_
    refine tot_bindq (R := fun r_110 : Int32 => (0 ≤ r_110.toInt ∧ r_110.toInt ≤ 144)) (cs_X1_cells T n_109 h_T k_n_109 ) (fun r_110 d_r_110 => ?_)
    replace d_r_110 : (0 ≤ r_110.toInt ∧ r_110.toInt ≤ 144) := d_r_110
    refine tot_if (fun c_128 => ?_) (fun c_128 => ?_)
    · replace c_128 := i_le c_128
      exact hx0 T h_T x_T
    · replace c_128 := i_nle c_128
      refine tot_let (fun v_112 e_v_112 => ?_)
      have q_v_112 := i_add e_v_112 (by omega) (by omega)
      refine tot_if (fun c_129 => ?_) (fun c_129 => ?_)
      · replace c_129 := i_le c_129
        exact hx0 T h_T x_T
      · replace c_129 := i_nle c_129
        refine tot_let (fun v_113 e_v_113 => ?_)
        have q_v_113 := i_add e_v_113 (by omega) (by omega)
        refine tot_bind (cs_X0_rowStart v_113 (by omega)) (fun r_114 d_r_114 => ?_)
        replace d_r_114 : (0 ≤ r_114.toInt ∧ r_114.toInt ≤ 7056) := d_r_114
        refine tot_oif (iv_oO h_T k_l1 (by decide) (by decide) rfl) ?_
        refine tot_ref1 e_n_109 ?_
        refine tot_oif (iv_oO h_T k_l1 (by decide) (by decide) rfl) ?_
        refine tot_ref1 e_n_109 ?_
        refine tot_oif (iv_oO h_T k_n_109 (by decide) (by decide) rfl) ?_
        refine tot_bind2 (cs_X1_areaAround T n_109 l6 h_T k_n_109 (by omega)) (fun n_117 T_118 d_n_117 => ?_)
        have h_T_118 : IV R B K1 K2 T_118 := d_n_117.1.1
        have y_T_118 : FW R [1952] T T_118 := d_n_117.1.2
        have x_T_118 := x_T.tr (y_T_118.w (by decide))
        have k_n_117 : R n_117 = 61 := d_n_117.2.1
        have ao_n_117 : AO n_109 T_118 n_117 := d_n_117.2.2
        refine tot_oif (Nat.ble_eq_true_of_le (iv_lt h_T_118 (iv_sta h_T_118 k_n_117 (by decide) (by decide)))) ?_
        refine tot_oif (iv_oO h_T_118 k_l0 (by decide) (by decide) rfl) ?_
        refine tot_ref h_T_118 k_l0 (by decide) (by decide) (r2 := 105) (rfl : rtg 20 0 = 105) (by decide) (fun n_119 k_n_119 e_n_119 => ?_)
        refine tot_oif (iv_oO h_T_118 k_n_109 (by decide) (by decide) rfl) ?_
        refine tot_bindq (R := fun r_120 : Int32 => (0 ≤ r_120.toInt ∧ r_120.toInt ≤ 143)) (cs_X1_bestIn61 T_118 n_109 n_117 n_119 r_114 h_T_118 k_n_109 k_n_117 k_n_119 (rfl : isW 105 = true) ao_n_117 (by omega)) (fun r_120 d_r_120 => ?_)
        replace d_r_120 : (0 ≤ r_120.toInt ∧ r_120.toInt ≤ 143) := d_r_120
        refine tot_oif (iv_oO h_T_118 k_l0 (by decide) (by decide) rfl) ?_
        refine tot_ref1 e_n_119 ?_
        refine tot_bind (cs_X0_rowStart l5 (by omega)) (fun r_123 d_r_123 => ?_)
        replace d_r_123 : (0 ≤ r_123.toInt ∧ r_123.toInt ≤ 7056) := d_r_123
        refine tot_let (fun v_124 e_v_124 => ?_)
        have q_v_124 := i_add e_v_124 (by omega) (by omega)
        refine tot_oif (iv_oO h_T_118 k_l0 (by decide) (by decide) rfl) ?_
        refine tot_ref1 e_n_119 ?_
        refine tot_let (fun v_126 e_v_126 => ?_)
        have q_v_126 := i_add e_v_126 (by omega) (by omega)
        refine tot_oif (w_oO h_T_118 k_n_119 (rfl : isW 105 = true)) ?_
        refine tot_bind (c_add (a0 := v_124) (a2 := v_126) (a3 := (1 : Int32)) k_n_119 (rfl : isW 105 = true) k_n_119 (rfl : isW 105 = true) h_T_118 (by omega) (by omega)) (fun T_127 d_T_127 => ?_)
        have h_T_127 : IV R B K1 K2 T_127 := d_T_127.1
        have y_T_127 : FW R [3202] T_118 T_127 := (fw_wx d_T_127.2 k_n_119 (rfl : isW 105 = true) (by decide))
        have x_T_127 := x_T_118.tr (y_T_127.w (by decide))
        unfold g_X0_score_b131
        refine tot_let (fun v_130 e_v_130 => ?_)
        have q_v_130 := i_add e_v_130 (by omega) (by omega)
        exact ih T_127 v_130 h_T_127 x_T_127 (by omega) (by omega)
set_option maxHeartbeats 4000000 in
set_option maxRecDepth 10000 in
theorem cl_X0_score_b31 {R : Nat → Nat} {B K1 K2 : Nat} {Q : AT → Prop} (l0 : Nat) (l1 : Nat) (l2 : Nat) (l3 : Int32) (l4 : Int32) (T00 : AT) (k_l0 : R l0 = 20) (k_l1 : R l1 = 6) (k_l2 : R l2 = 8) (g0 : 4 ≤ l3.toInt ∧ l3.toInt ≤ 200) (g1 : 0 ≤ l4.toInt ∧ l4.toInt ≤ 50) (hx0 : ∀ (T : AT), (IV R B K1 K2 T) → (FW R [1952, 3202] T00 T) → Tot (some (T)) Q) : ∀ (n : Nat) (T : AT) (l5 : Int32), (IV R B K1 K2 T) → (FW R [1952, 3202] T00 T) → (-1 ≤ l5.toInt ∧ l5.toInt ≤ 49) → l5.toInt - (-1) < (n : Int) → Tot (g_X0_score_b31 n T l0 l1 l2 l3 l4 l5) Q := by
  have z0 : (0 : Int32).toInt = 0 := by decide
  have z1 : (Int32.ofInt (-1) : Int32).toInt = -1 := by decide
  have cc_101 : cnt 101 = 1 := rfl
  have cc_102 : cnt 102 = 12 := rfl
  have cc_103 : cnt 103 = 144 := rfl
  have cc_104 : cnt 104 = 2400 := rfl
  have cc_105 : cnt 105 = 7200 := rfl
  have j_l3 := i_any l3
  have j_l4 := i_any l4
  intro n
  induction n with
  | zero =>
    intro T l5 h_T x_T g_l5 hm
    exfalso
    omega
  | succ n ih =>
    intro T l5 h_T x_T g_l5 hm
    unfold g_X0_score_b31
    refine tot_if (fun c_86 => ?_) (fun c_86 => ?_)
    · replace c_86 := i_lt c_86
      exact hx0 T h_T x_T
    · replace c_86 := i_nlt c_86
      refine tot_let (fun v_84 e_v_84 => ?_)
      have q_v_84 := i_mulp (a := 0) (b := 49) (c := 4) (d := 200) e_v_84 (by omega) (by omega) (by omega) (by omega) (by decide)
      refine tot_oif (iv_oO h_T k_l0 (by decide) (by decide) rfl) ?_
      refine tot_bind (cs_X0_measure T l0 l1 l2 v_84 l3 l5 h_T k_l0 k_l1 k_l2 (by omega) (by omega) (by omega)) (fun T_85 d_T_85 => ?_)
      have h_T_85 : IV R B K1 K2 T_85 := d_T_85.1
      have y_T_85 : FW R [3202] T T_85 := d_T_85.2
      have x_T_85 := x_T.tr (y_T_85.w (by decide))
      unfold g_X0_score_b49
      refine cl_X0_score_b52 l0 l1 l2 l3 l4 l5 T00 k_l0 k_l1 k_l2 (by omega) (by omega) (by omega) ?_ 16384 T_85 0 h_T_85 x_T_85 (by omega) (by omega)
      · intro T_131 h_T_131 x_T_131
        unfold g_X0_score_b137
        refine tot_let (fun v_132 e_v_132 => ?_)
        have q_v_132 := i_add e_v_132 (by omega) (by omega)
        exact ih T_131 v_132 h_T_131 x_T_131 (by omega) (by omega)
set_option maxHeartbeats 4000000 in
set_option maxRecDepth 10000 in
theorem cs_X0_score {R : Nat → Nat} {B K1 K2 : Nat} (T : AT) (o : Nat) (a0 : Nat) (a1 : Nat) (a2 : Int32) (h_T : IV R B K1 K2 T) (k_o : R o = 20) (k_a0 : R a0 = 6) (k_a1 : R a1 = 8) (g0 : 4 ≤ a2.toInt ∧ a2.toInt ≤ 200) : Tot (g_X0_score T o a0 a1 a2) (fun T1 => IV R B K1 K2 T1 ∧ FW R [1952, 3202] T T1) := by
  have z0 : (50 : Int32).toInt = 50 := by decide
  have z1 : (1 : Int32).toInt = 1 := by decide
  have cc_101 : cnt 101 = 1 := rfl
  have cc_102 : cnt 102 = 12 := rfl
  have cc_103 : cnt 103 = 144 := rfl
  have cc_104 : cnt 104 = 2400 := rfl
  have cc_105 : cnt 105 = 7200 := rfl
  have x_T : FW R [1952, 3202] T T := FW.rf
  have j_a2 := i_any a2
  unfold g_X0_score
  refine tot_oif (iv_oO h_T k_a0 (by decide) (by decide) rfl) ?_
  refine tot_let (fun v_1 e_v_1 => ?_)
  have r_v_1 : 0 ≤ v_1.toInt ∧ v_1.toInt ≤ 200 := iv_int h_T k_a0 (by decide) (by decide) e_v_1 rfl
  refine tot_let (fun v_2 e_v_2 => ?_)
  refine tot_let (fun v_3 e_v_3 => ?_)
  refine tot_bind (cs_X11_quotient v_2 v_3) (fun r_4 d_r_4 => ?_)
  refine tot_let (fun v_5 e_v_5 => ?_)
  have q_v_5 : 0 ≤ v_5.toInt ∧ v_5.toInt ≤ v_1.toInt := by rw [e_v_5]; exact d_r_4 _ _ e_v_2 e_v_3 (by omega) (by omega)
  refine tot_let (fun v_6 e_v_6 => ?_)
  have q_v_6 := i_ilt e_v_6
  refine tot_oif (iv_oO h_T k_o (by decide) (by decide) rfl) ?_
  refine tot_ref h_T k_o (by decide) (by decide) (r2 := 105) (rfl : rtg 20 0 = 105) (by decide) (fun n_7 k_n_7 e_n_7 => ?_)
  refine tot_oif (w_oO h_T k_n_7 (rfl : isW 105 = true)) ?_
  refine tot_bind (c_narrow h_T k_n_7 (rfl : isW 105 = true)) (fun T_8 d_T_8 => ?_)
  have h_T_8 : IV R B K1 K2 T_8 := d_T_8.1
  have y_T_8 : FW R [3202] T T_8 := d_T_8.2.2
  have x_T_8 := x_T.tr (y_T_8.w (by decide))
  refine tot_let (fun v_9 e_v_9 => ?_)
  have q_v_9 := i_sub e_v_9 (by omega) (by omega)
  refine cl_X0_score_b31 o a0 a1 a2 v_6 T k_o k_a0 k_a1 (by omega) (by omega) ?_ 16384 T_8 v_9 h_T_8 x_T_8 (by omega) (by omega)
  · intro T_133 h_T_133 x_T_133
    exact tot_some ⟨h_T_133, x_T_133⟩
set_option maxHeartbeats 4000000 in
set_option maxRecDepth 10000 in
theorem cl_X0_trackCellIn_b17 {R : Nat → Nat} {B K1 K2 : Nat} {Q : Int32 × AT → Prop} (l0 : Nat) (l1 : Nat) (l2 : Int32) (T00 : AT) (k_l0 : R l0 = 20) (k_l1 : R l1 = 1) (hx0 : ∀ (T : AT) (l3 : Int32), (IV R B K1 K2 T) → (FW R [1952] T00 T) → (0 ≤ l3.toInt ∧ l3.toInt ≤ 143) → Tot (g_X0_trackCellIn_b55 T l3) Q) : ∀ (n : Nat) (T : AT) (l3 : Int32) (l4 : Int32), (IV R B K1 K2 T) → (FW R [1952] T00 T) → (0 ≤ l3.toInt ∧ l3.toInt ≤ 143) → (1 ≤ l4.toInt ∧ l4.toInt ≤ 50) → 50 - l4.toInt < (n : Int) → Tot (g_X0_trackCellIn_b17 n T l0 l1 l2 l3 l4) Q := by
  have z0 : (50 : Int32).toInt = 50 := by decide
  have z1 : (Int32.ofInt (1) : Int32).toInt = 1 := by decide
  have cc_101 : cnt 101 = 1 := rfl
  have cc_102 : cnt 102 = 12 := rfl
  have cc_103 : cnt 103 = 144 := rfl
  have cc_104 : cnt 104 = 2400 := rfl
  have cc_105 : cnt 105 = 7200 := rfl
  have j_l2 := i_any l2
  intro n
  induction n with
  | zero =>
    intro T l3 l4 h_T x_T g_l3 g_l4 hm
    exfalso
    omega
  | succ n ih =>
    intro T l3 l4 h_T x_T g_l3 g_l4 hm
    unfold g_X0_trackCellIn_b17
    refine tot_if (fun c_26 => ?_) (fun c_26 => ?_)
    · replace c_26 := i_lt c_26
      exact hx0 T l3 h_T x_T (by omega)
    · replace c_26 := i_nlt c_26
      refine tot_if (fun c_27 => ?_) (fun c_27 => ?_)
      · replace c_27 := i_le c_27
        exact hx0 T l3 h_T x_T (by omega)
      · replace c_27 := i_nle c_27
        refine tot_oif (iv_oO h_T k_l1 (by decide) (by decide) rfl) ?_
        refine tot_bind2 (cs_X1_areaAround T l1 l3 h_T k_l1 (by omega)) (fun n_19 T_20 d_n_19 => ?_)
        have h_T_20 : IV R B K1 K2 T_20 := d_n_19.1.1
        have y_T_20 : FW R [1952] T T_20 := d_n_19.1.2
        have x_T_20 := x_T.tr (y_T_20.w (by decide))
        have k_n_19 : R n_19 = 61 := d_n_19.2.1
        have ao_n_19 : AO l1 T_20 n_19 := d_n_19.2.2
        refine tot_oif (iv_oO h_T_20 k_l0 (by decide) (by decide) rfl) ?_
        refine tot_ref h_T_20 k_l0 (by decide) (by decide) (r2 := 105) (rfl : rtg 20 0 = 105) (by decide) (fun n_21 k_n_21 e_n_21 => ?_)
        refine tot_bind (cs_X0_rowStart l4 (by omega)) (fun r_22 d_r_22 => ?_)
        replace d_r_22 : (0 ≤ r_22.toInt ∧ r_22.toInt ≤ 7056) := d_r_22
        refine tot_oif (iv_oO h_T_20 k_l1 (by decide) (by decide) rfl) ?_
        refine tot_bindq (R := fun r_23 : Int32 => (0 ≤ r_23.toInt ∧ r_23.toInt ≤ 143)) (cs_X1_bestIn61 T_20 l1 n_19 n_21 r_22 h_T_20 k_l1 k_n_19 k_n_21 (rfl : isW 105 = true) ao_n_19 (by omega)) (fun r_23 d_r_23 => ?_)
        replace d_r_23 : (0 ≤ r_23.toInt ∧ r_23.toInt ≤ 143) := d_r_23
        refine tot_let (fun v_25 e_v_25 => ?_)
        have q_v_25 := i_add e_v_25 (by omega) (by omega)
        exact ih T_20 r_23 v_25 h_T_20 x_T_20 (by omega) (by omega) (by omega)
set_option maxHeartbeats 4000000 in
set_option maxRecDepth 10000 in
theorem cs_X0_trackCellIn {R : Nat → Nat} {B K1 K2 : Nat} (T : AT) (o : Nat) (a0 : Nat) (a1 : Int32) (h_T : IV R B K1 K2 T) (k_o : R o = 20) (k_a0 : R a0 = 1) : Tot (g_X0_trackCellIn T o a0 a1) (fun r => (IV R B K1 K2 r.2 ∧ FW R [1952] T r.2) ∧ (0 ≤ r.1.toInt ∧ r.1.toInt ≤ 143)) := by
  have z0 : ((0 : Int32) : Int32).toInt = 0 := by decide
  have z1 : (1 : Int32).toInt = 1 := by decide
  have cc_101 : cnt 101 = 1 := rfl
  have cc_102 : cnt 102 = 12 := rfl
  have cc_103 : cnt 103 = 144 := rfl
  have cc_104 : cnt 104 = 2400 := rfl
  have cc_105 : cnt 105 = 7200 := rfl
  have x_T : FW R [1952] T T := FW.rf
  have j_a1 := i_any a1
  unfold g_X0_trackCellIn
  refine tot_oif (iv_oO h_T k_a0 (by decide) (by decide) rfl) ?_
  refine tot_ref h_T k_a0 (by decide) (by decide) (r2 := 59) (rfl : rtg 1 5 = 59) (by decide) (fun n_1 k_n_1 e_n_1 => ?_)
  refine tot_oif (iv_oO h_T k_o (by decide) (by decide) rfl) ?_
  refine tot_ref h_T k_o (by decide) (by decide) (r2 := 105) (rfl : rtg 20 0 = 105) (by decide) (fun n_2 k_n_2 e_n_2 => ?_)
  refine tot_oif (iv_oO h_T k_a0 (by decide) (by decide) rfl) ?_
  refine tot_bindq (R := fun r_3 : Int32 => (0 ≤ r_3.toInt ∧ r_3.toInt ≤ 143)) (cs_X1_bestIn59 T a0 n_1 n_2 (0 : Int32) h_T k_a0 k_n_1 k_n_2 (rfl : isW 105 = true) (by omega)) (fun r_3 d_r_3 => ?_)
  replace d_r_3 : (0 ≤ r_3.toInt ∧ r_3.toInt ≤ 143) := d_r_3
  refine cl_X0_trackCellIn_b17 o a0 a1 T k_o k_a0 ?_ 16384 T r_3 1 h_T x_T (by omega) (by omega) (by omega)
  · intro T_28 l_29 h_T_28 x_T_28 g_l_29
    unfold g_X0_trackCellIn_b55
    exact tot_some ⟨⟨h_T_28, x_T_28⟩, (show (0 ≤ l_29.toInt ∧ l_29.toInt ≤ 143) from by omega)⟩
set_option maxHeartbeats 4000000 in
set_option maxRecDepth 10000 in
theorem cs_X1_clear {R : Nat → Nat} {B K1 K2 : Nat} (T : AT) (o : Nat) (h_T : IV R B K1 K2 T) (k_o : R o = 1) : Tot (g_X1_clear T o) (fun T1 => IV R B K1 K2 T1 ∧ FW R [35, 36, 39] T T1) := by
  have z0 : (0 : Int32).toInt = 0 := by decide
  have cc_101 : cnt 101 = 1 := rfl
  have cc_102 : cnt 102 = 12 := rfl
  have cc_103 : cnt 103 = 144 := rfl
  have cc_104 : cnt 104 = 2400 := rfl
  have cc_105 : cnt 105 = 7200 := rfl
  have x_T : FW R [35, 36, 39] T T := FW.rf
  unfold g_X1_clear
  refine tot_oif (iv_oO h_T k_o (by decide) (by decide) rfl) ?_
  refine tot_let (fun T_1 e_T_1 => ?_)
  have h_T_1 : IV R B K1 K2 T_1 := by rw [e_T_1]; exact iv_uI (a := 0) (b := 12) h_T k_o (by decide) (by decide) rfl (by omega) (.inl rfl)
  have x_T_1 := x_T.tr (fw_uI e_T_1 k_o (by decide))
  refine tot_oif (iv_oO h_T_1 k_o (by decide) (by decide) rfl) ?_
  refine tot_let (fun T_2 e_T_2 => ?_)
  have h_T_2 : IV R B K1 K2 T_2 := by rw [e_T_2]; exact iv_uI (a := 0) (b := 12) h_T_1 k_o (by decide) (by decide) rfl (by omega) (.inl rfl)
  have x_T_2 := x_T_1.tr (fw_uI e_T_2 k_o (by decide))
  refine tot_oif (iv_oO h_T_2 k_o (by decide) (by decide) rfl) ?_
  refine tot_let (fun T_3 e_T_3 => ?_)
  have h_T_3 : IV R B K1 K2 T_3 := by rw [e_T_3]; exact iv_uI (a := 0) (b := 4) h_T_2 k_o (by decide) (by decide) rfl (by omega) (.inl rfl)
  have x_T_3 := x_T_2.tr (fw_uI e_T_3 k_o (by decide))
  exact tot_some ⟨h_T_3, x_T_3⟩
set_option maxHeartbeats 4000000 in
set_option maxRecDepth 10000 in
theorem cs_X1_open {R : Nat → Nat} {B K1 K2 : Nat} (T : AT) (o : Nat) (a0 : Int32) (a1 : Int32) (h_T : IV R B K1 K2 T) (k_o : R o = 1) (g0 : 1 ≤ a0.toInt ∧ a0.toInt ≤ 12) (g1 : 1 ≤ a1.toInt ∧ a1.toInt ≤ 12) : Tot (g_X1_open T o a0 a1) (fun T1 => IV R B K1 K2 T1 ∧ FW R [35, 36, 1888] T T1) := by
  have z0 : (1 : Int32).toInt = 1 := by decide
  have z1 : (2 : Int32).toInt = 2 := by decide
  have z2 : (3 : Int32).toInt = 3 := by decide
  have cc_101 : cnt 101 = 1 := rfl
  have cc_102 : cnt 102 = 12 := rfl
  have cc_103 : cnt 103 = 144 := rfl
  have cc_104 : cnt 104 = 2400 := rfl
  have cc_105 : cnt 105 = 7200 := rfl
  have x_T : FW R [35, 36, 1888] T T := FW.rf
  have j_a0 := i_any a0
  have j_a1 := i_any a1
  unfold g_X1_open
  refine tot_oif (iv_oO h_T k_o (by decide) (by decide) rfl) ?_
  refine tot_let (fun T_1 e_T_1 => ?_)
  have h_T_1 : IV R B K1 K2 T_1 := by rw [e_T_1]; exact iv_uI (a := 0) (b := 12) h_T k_o (by decide) (by decide) rfl (by omega) (.inl rfl)
  have x_T_1 := x_T.tr (fw_uI e_T_1 k_o (by decide))
  refine tot_oif (iv_oO h_T_1 k_o (by decide) (by decide) rfl) ?_
  refine tot_let (fun T_2 e_T_2 => ?_)
  have h_T_2 : IV R B K1 K2 T_2 := by rw [e_T_2]; exact iv_uI (a := 0) (b := 12) h_T_1 k_o (by decide) (by decide) rfl (by omega) (.inl rfl)
  have x_T_2 := x_T_1.tr (fw_uI e_T_2 k_o (by decide))
  refine tot_oif (iv_oO h_T_2 k_o (by decide) (by decide) rfl) ?_
  refine tot_ref h_T_2 k_o (by decide) (by decide) (r2 := 59) (rfl : rtg 1 5 = 59) (by decide) (fun n_3 k_n_3 e_n_3 => ?_)
  refine tot_let (fun v_4 e_v_4 => ?_)
  have q_v_4 := i_sub e_v_4 (by omega) (by omega)
  refine tot_oif (iv_aA h_T_2 k_n_3 (by decide) (by decide) rfl rfl) ?_
  refine tot_oif (by rw [iv_len h_T_2 k_n_3 (by decide) (by decide) (rfl : shp 59 = (100, 4))]; exact i_inb (by omega) (by omega)) ?_
  refine tot_let (fun T_5 e_T_5 => ?_)
  have h_T_5 : IV R B K1 K2 T_5 := by rw [e_T_5]; exact iv_uI (a := 0) (b := 11) h_T_2 k_n_3 (by decide) (by decide) rfl (by omega) (.inl rfl)
  have x_T_5 := x_T_2.tr (fw_uA e_T_5 k_n_3 rfl rfl (by decide))
  refine tot_oif (iv_oO h_T_5 k_o (by decide) (by decide) rfl) ?_
  refine tot_ref h_T_5 k_o (by decide) (by decide) (r2 := 59) (rfl : rtg 1 5 = 59) (by decide) (fun n_6 k_n_6 e_n_6 => ?_)
  refine tot_let (fun v_7 e_v_7 => ?_)
  have q_v_7 := i_sub e_v_7 (by omega) (by omega)
  refine tot_oif (iv_aA h_T_5 k_n_6 (by decide) (by decide) rfl rfl) ?_
  refine tot_oif (by rw [iv_len h_T_5 k_n_6 (by decide) (by decide) (rfl : shp 59 = (100, 4))]; exact i_inb (by omega) (by omega)) ?_
  refine tot_let (fun T_8 e_T_8 => ?_)
  have h_T_8 : IV R B K1 K2 T_8 := by rw [e_T_8]; exact iv_uI (a := 0) (b := 11) h_T_5 k_n_6 (by decide) (by decide) rfl (by omega) (.inl rfl)
  have x_T_8 := x_T_5.tr (fw_uA e_T_8 k_n_6 rfl rfl (by decide))
  exact tot_some ⟨h_T_8, x_T_8⟩
set_option maxHeartbeats 4000000 in
set_option maxRecDepth 10000 in
theorem cs_X1_centreX {R : Nat → Nat} {B K1 K2 : Nat} (T : AT) (o : Nat) (a0 : Int32) (h_T : IV R B K1 K2 T) (k_o : R o = 1) (g0 : 0 ≤ a0.toInt ∧ a0.toInt ≤ 143) : Tot (g_X1_centreX T o a0) (fun r => r.2 = T ∧ (-999 ≤ r.1.toInt ∧ r.1.toInt ≤ 2088)) := by
  have cc_101 : cnt 101 = 1 := rfl
  have cc_102 : cnt 102 = 12 := rfl
  have cc_103 : cnt 103 = 144 := rfl
  have cc_104 : cnt 104 = 2400 := rfl
  have cc_105 : cnt 105 = 7200 := rfl
  have j_a0 := i_any a0
  unfold g_X1_centreX
  refine tot_oif (iv_oO h_T k_o (by decide) (by decide) rfl) ?_
  refine tot_let (fun v_1 e_v_1 => ?_)
  have r_v_1 : -999 ≤ v_1.toInt ∧ v_1.toInt ≤ 999 := iv_int h_T k_o (by decide) (by decide) e_v_1 rfl
  refine tot_oif (iv_oO h_T k_o (by decide) (by decide) rfl) ?_
  refine tot_let (fun v_2 e_v_2 => ?_)
  have r_v_2 : 0 ≤ v_2.toInt ∧ v_2.toInt ≤ 99 := iv_int h_T k_o (by decide) (by decide) e_v_2 rfl
  refine tot_oif (iv_oO h_T k_o (by decide) (by decide) rfl) ?_
  refine tot_bindq (R := fun r_3 : Int32 => (0 ≤ r_3.toInt ∧ r_3.toInt ≤ 11)) (cs_X1_columnOf T o a0 h_T k_o (by omega)) (fun r_3 d_r_3 => ?_)
  replace d_r_3 : (0 ≤ r_3.toInt ∧ r_3.toInt ≤ 11) := d_r_3
  refine tot_let (fun v_5 e_v_5 => ?_)
  have q_v_5 := i_mulp (a := 0) (b := 99) (c := 0) (d := 11) e_v_5 (by omega) (by omega) (by omega) (by omega) (by decide)
  refine tot_let (fun v_6 e_v_6 => ?_)
  have q_v_6 := i_add e_v_6 (by omega) (by omega)
  exact tot_some ⟨rfl, (show (-999 ≤ v_6.toInt ∧ v_6.toInt ≤ 2088) from by omega)⟩
set_option maxHeartbeats 4000000 in
set_option maxRecDepth 10000 in
theorem cs_X1_centreY {R : Nat → Nat} {B K1 K2 : Nat} (T : AT) (o : Nat) (a0 : Int32) (h_T : IV R B K1 K2 T) (k_o : R o = 1) (g0 : 0 ≤ a0.toInt ∧ a0.toInt ≤ 143) : Tot (g_X1_centreY T o a0) (fun r => r.2 = T ∧ (-999 ≤ r.1.toInt ∧ r.1.toInt ≤ 15156)) := by
  have cc_101 : cnt 101 = 1 := rfl
  have cc_102 : cnt 102 = 12 := rfl
  have cc_103 : cnt 103 = 144 := rfl
  have cc_104 : cnt 104 = 2400 := rfl
  have cc_105 : cnt 105 = 7200 := rfl
  have j_a0 := i_any a0
  unfold g_X1_centreY
  refine tot_oif (iv_oO h_T k_o (by decide) (by decide) rfl) ?_
  refine tot_let (fun v_1 e_v_1 => ?_)
  have r_v_1 : -999 ≤ v_1.toInt ∧ v_1.toInt ≤ 999 := iv_int h_T k_o (by decide) (by decide) e_v_1 rfl
  refine tot_oif (iv_oO h_T k_o (by decide) (by decide) rfl) ?_
  refine tot_let (fun v_2 e_v_2 => ?_)
  have r_v_2 : 0 ≤ v_2.toInt ∧ v_2.toInt ≤ 99 := iv_int h_T k_o (by decide) (by decide) e_v_2 rfl
  refine tot_oif (iv_oO h_T k_o (by decide) (by decide) rfl) ?_
  refine tot_bindq (R := fun r_3 : Int32 => (0 ≤ r_3.toInt ∧ r_3.toInt ≤ 143)) (cs_X1_rowOf T o a0 h_T k_o (by omega)) (fun r_3 d_r_3 => ?_)
  replace d_r_3 : (0 ≤ r_3.toInt ∧ r_3.toInt ≤ 143) := d_r_3
  refine tot_let (fun v_5 e_v_5 => ?_)
  have q_v_5 := i_mulp (a := 0) (b := 99) (c := 0) (d := 143) e_v_5 (by omega) (by omega) (by omega) (by omega) (by decide)
  refine tot_let (fun v_6 e_v_6 => ?_)
  have q_v_6 := i_add e_v_6 (by omega) (by omega)
  exact tot_some ⟨rfl, (show (-999 ≤ v_6.toInt ∧ v_6.toInt ≤ 15156) from by omega)⟩
set_option maxHeartbeats 4000000 in
set_option maxRecDepth 10000 in
theorem cl_X9_runEnd_b3 {R : Nat → Nat} {B K1 K2 : Nat} {Q : Int32 × AT → Prop} (T : AT) (l0 : Nat) (l1 : Int32) (l3 : Int32) (l4 : Int32) (h_T : IV R B K1 K2 T) (k_l0 : R l0 = 9) (g0 : 1 ≤ l1.toInt ∧ l1.toInt ≤ 1000) (g1 : 48 ≤ l3.toInt ∧ l3.toInt ≤ 97) (g2 : 57 ≤ l4.toInt ∧ l4.toInt ≤ 122) (hx0 : ∀ (_ : Unit), Tot (some (l1, T)) Q) (hx1 : ∀ (l5 : Int32), (0 ≤ l5.toInt ∧ l5.toInt ≤ 999) → Tot (g_X9_runEnd_b32 T l5) Q) : ∀ (n : Nat) (l5 : Int32), (0 ≤ l5.toInt ∧ l5.toInt ≤ 1000) → 1000 - l5.toInt < (n : Int) → Tot (g_X9_runEnd_b3 n T l0 l1 l3 l4 l5) Q := by
  have z0 : (Int32.ofInt (1) : Int32).toInt = 1 := by decide
  have cc_101 : cnt 101 = 1 := rfl
  have cc_102 : cnt 102 = 12 := rfl
  have cc_103 : cnt 103 = 144 := rfl
  have cc_104 : cnt 104 = 2400 := rfl
  have cc_105 : cnt 105 = 7200 := rfl
  have j_l1 := i_any l1
  have j_l3 := i_any l3
  have j_l4 := i_any l4
  intro n
  induction n with
  | zero =>
    intro l5 g_l5 hm
    exfalso
    omega
  | succ n ih =>
    intro l5 g_l5 hm
    unfold g_X9_runEnd_b3
    refine tot_if (fun c_16 => ?_) (fun c_16 => ?_)
    · replace c_16 := i_le c_16
      exact hx0 () 
    · replace c_16 := i_nle c_16
      refine tot_oif (iv_oO h_T k_l0 (by decide) (by decide) rfl) ?_
      refine tot_ref h_T k_l0 (by decide) (by decide) (r2 := 41) (rfl : rtg 9 0 = 41) (by decide) (fun n_11 k_n_11 e_n_11 => ?_)
      refine tot_oif (iv_aA h_T k_n_11 (by decide) (by decide) rfl rfl) ?_
      refine tot_oif (by rw [iv_len h_T k_n_11 (by decide) (by decide) (rfl : shp 41 = (100, 1000))]; exact i_inb (by omega) (by omega)) ?_
      refine tot_let (fun v_12 e_v_12 => ?_)
      have r_v_12 := i_any v_12
      refine tot_if (fun c_17 => ?_) (fun c_17 => ?_)
      · replace c_17 := i_lt c_17
        exact hx1 l5 (by omega)
      · replace c_17 := i_nlt c_17
        refine tot_oif (iv_oO h_T k_l0 (by decide) (by decide) rfl) ?_
        refine tot_ref1 e_n_11 ?_
        refine tot_oif (iv_aA h_T k_n_11 (by decide) (by decide) rfl rfl) ?_
        refine tot_oif (by rw [iv_len h_T k_n_11 (by decide) (by decide) (rfl : shp 41 = (100, 1000))]; exact i_inb (by omega) (by omega)) ?_
        refine tot_let (fun v_14 e_v_14 => ?_)
        have u_v_14 : v_14.toInt = v_12.toInt := by rw [e_v_14, e_v_12]
        have r_v_14 := i_any v_14
        refine tot_if (fun c_18 => ?_) (fun c_18 => ?_)
        · replace c_18 := i_le c_18
          refine tot_let (fun v_15 e_v_15 => ?_)
          have q_v_15 := i_add e_v_15 (by omega) (by omega)
          exact ih v_15 (by omega) (by omega)
        · replace c_18 := i_nle c_18
          exact hx1 l5 (by omega)
set_option maxHeartbeats 4000000 in
set_option maxRecDepth 10000 in
theorem cs_X9_runEnd {R : Nat → Nat} {B K1 K2 : Nat} (T : AT) (o : Nat) (a0 : Int32) (a1 : Int32) (a2 : Int32) (a3 : Int32) (h_T : IV R B K1 K2 T) (k_o : R o = 9) (g0 : 1 ≤ a0.toInt ∧ a0.toInt ≤ 1000) (g1 : 0 ≤ a1.toInt ∧ a1.toInt ≤ 999) (g2 : 48 ≤ a2.toInt ∧ a2.toInt ≤ 97) (g3 : 57 ≤ a3.toInt ∧ a3.toInt ≤ 122) : Tot (g_X9_runEnd T o a0 a1 a2 a3) (fun r => r.2 = T ∧ (0 ≤ r.1.toInt ∧ r.1.toInt ≤ 1000)) := by
  have cc_101 : cnt 101 = 1 := rfl
  have cc_102 : cnt 102 = 12 := rfl
  have cc_103 : cnt 103 = 144 := rfl
  have cc_104 : cnt 104 = 2400 := rfl
  have cc_105 : cnt 105 = 7200 := rfl
  have j_a0 := i_any a0
  have j_a1 := i_any a1
  have j_a2 := i_any a2
  have j_a3 := i_any a3
  unfold g_X9_runEnd
  refine cl_X9_runEnd_b3 T o a0 a2 a3 h_T k_o (by omega) (by omega) (by omega) ?_ ?_ 16384 a1 (by omega) (by omega)
  · intro _
    exact tot_some ⟨rfl, (show (0 ≤ a0.toInt ∧ a0.toInt ≤ 1000) from by omega)⟩
  · intro l_19 g_l_19
    unfold g_X9_runEnd_b32
    exact tot_some ⟨rfl, (show (0 ≤ l_19.toInt ∧ l_19.toInt ≤ 1000) from by omega)⟩
set_option maxHeartbeats 4000000 in
set_option maxRecDepth 10000 in
theorem cs_X9_add {R : Nat → Nat} {B K1 K2 : Nat} (T : AT) (o : Nat) (a0 : Int32) (a1 : Int32) (a2 : Int32) (h_T : IV R B K1 K2 T) (k_o : R o = 9) (g0 : 1 ≤ a0.toInt ∧ a0.toInt ≤ 6) (g1 : 0 ≤ a1.toInt ∧ a1.toInt ≤ 1000) (g2 : 0 ≤ a2.toInt ∧ a2.toInt ≤ 1000) : Tot (g_X9_add T o a0 a1 a2) (fun T1 => IV R B K1 K2 T1 ∧ FW R [293, 1344, 1376, 1408] T T1) := by
  have z0 : (1 : Int32).toInt = 1 := by decide
  have cc_101 : cnt 101 = 1 := rfl
  have cc_102 : cnt 102 = 12 := rfl
  have cc_103 : cnt 103 = 144 := rfl
  have cc_104 : cnt 104 = 2400 := rfl
  have cc_105 : cnt 105 = 7200 := rfl
  have x_T : FW R [293, 1344, 1376, 1408] T T := FW.rf
  have j_a0 := i_any a0
  have j_a1 := i_any a1
  have j_a2 := i_any a2
  unfold g_X9_add
  refine tot_oif (iv_oO h_T k_o (by decide) (by decide) rfl) ?_
  refine tot_let (fun v_1 e_v_1 => ?_)
  have q_v_1 := i_eq e_v_1
  have r_v_1 : 0 ≤ v_1.toInt ∧ v_1.toInt ≤ 1001 := iv_int h_T k_o (by decide) (by decide) e_v_1 rfl
  refine tot_oif (iv_oO h_T k_o (by decide) (by decide) rfl) ?_
  refine tot_ref h_T k_o (by decide) (by decide) (r2 := 42) (rfl : rtg 9 2 = 42) (by decide) (fun n_2 k_n_2 e_n_2 => ?_)
  refine tot_oif (iv_aA h_T k_n_2 (by decide) (by decide) rfl rfl) ?_
  refine tot_let (fun v_3 e_v_3 => ?_)
  have q_v_3 : v_3.toInt = 1001 := by rw [e_v_3, iv_len h_T k_n_2 (by decide) (by decide) (rfl : shp 42 = (100, 1001))]; decide
  refine tot_if (fun c_16 => ?_) (fun c_16 => ?_)
  · replace c_16 := i_le c_16
    unfold g_X9_add_b52
    exact tot_some ⟨h_T, x_T⟩
  · replace c_16 := i_nle c_16
    refine tot_oif (iv_oO h_T k_o (by decide) (by decide) rfl) ?_
    refine tot_ref1 e_n_2 ?_
    refine tot_oif (iv_oO h_T k_o (by decide) (by decide) rfl) ?_
    refine tot_let (fun v_5 e_v_5 => ?_)
    have u_v_5 : v_5.toInt = v_1.toInt := by rw [e_v_5, e_v_1]
    have q_v_5 := i_eq e_v_5
    have r_v_5 : 0 ≤ v_5.toInt ∧ v_5.toInt ≤ 1001 := iv_int h_T k_o (by decide) (by decide) e_v_5 rfl
    refine tot_oif (iv_aA h_T k_n_2 (by decide) (by decide) rfl rfl) ?_
    refine tot_oif (by rw [iv_len h_T k_n_2 (by decide) (by decide) (rfl : shp 42 = (100, 1001))]; exact i_inb (by omega) (by omega)) ?_
    refine tot_let (fun T_6 e_T_6 => ?_)
    have ja_T_6 := i_any a0
    have h_T_6 : IV R B K1 K2 T_6 := by rw [e_T_6]; exact iv_uI (a := -2147483648) (b := 2147483647) h_T k_n_2 (by decide) (by decide) rfl (by omega) (.inl rfl)
    have x_T_6 := x_T.tr (fw_uA e_T_6 k_n_2 rfl rfl (by decide))
    have f_T_6_o_5 : (T_6.2.2.1 o 5).toInt = (T.2.2.1 o 5).toInt := congrArg Int32.toInt ((fw_uA (W := [1344]) e_T_6 k_n_2 rfl rfl (by decide)) o 5 (by rw [k_o]; decide))
    refine tot_oif (iv_oO h_T_6 k_o (by decide) (by decide) rfl) ?_
    refine tot_ref h_T_6 k_o (by decide) (by decide) (r2 := 43) (rfl : rtg 9 3 = 43) (by decide) (fun n_7 k_n_7 e_n_7 => ?_)
    refine tot_oif (iv_oO h_T_6 k_o (by decide) (by decide) rfl) ?_
    refine tot_let (fun v_8 e_v_8 => ?_)
    have q_v_8 := i_eq e_v_8
    have r_v_8 : 0 ≤ v_8.toInt ∧ v_8.toInt ≤ 1001 := iv_int h_T_6 k_o (by decide) (by decide) e_v_8 rfl
    refine tot_oif (iv_aA h_T_6 k_n_7 (by decide) (by decide) rfl rfl) ?_
    refine tot_oif (by rw [iv_len h_T_6 k_n_7 (by decide) (by decide) (rfl : shp 43 = (100, 1001))]; exact i_inb (by omega) (by omega)) ?_
    refine tot_let (fun T_9 e_T_9 => ?_)
    have h_T_9 : IV R B K1 K2 T_9 := by rw [e_T_9]; exact iv_uI (a := 0) (b := 1000) h_T_6 k_n_7 (by decide) (by decide) rfl (by omega) (.inl rfl)
    have x_T_9 := x_T_6.tr (fw_uA e_T_9 k_n_7 rfl rfl (by decide))
    have f_T_9_o_5 : (T_9.2.2.1 o 5).toInt = (T_6.2.2.1 o 5).toInt := congrArg Int32.toInt ((fw_uA (W := [1376]) e_T_9 k_n_7 rfl rfl (by decide)) o 5 (by rw [k_o]; decide))
    refine tot_oif (iv_oO h_T_9 k_o (by decide) (by decide) rfl) ?_
    refine tot_ref h_T_9 k_o (by decide) (by decide) (r2 := 44) (rfl : rtg 9 4 = 44) (by decide) (fun n_10 k_n_10 e_n_10 => ?_)
    refine tot_oif (iv_oO h_T_9 k_o (by decide) (by decide) rfl) ?_
    refine tot_let (fun v_11 e_v_11 => ?_)
    have q_v_11 := i_eq e_v_11
    have r_v_11 : 0 ≤ v_11.toInt ∧ v_11.toInt ≤ 1001 := iv_int h_T_9 k_o (by decide) (by decide) e_v_11 rfl
    refine tot_oif (iv_aA h_T_9 k_n_10 (by decide) (by decide) rfl rfl) ?_
    refine tot_oif (by rw [iv_len h_T_9 k_n_10 (by decide) (by decide) (rfl : shp 44 = (100, 1001))]; exact i_inb (by omega) (by omega)) ?_
    refine tot_let (fun T_12 e_T_12 => ?_)
    have h_T_12 : IV R B K1 K2 T_12 := by rw [e_T_12]; exact iv_uI (a := 0) (b := 1000) h_T_9 k_n_10 (by decide) (by decide) rfl (by omega) (.inl rfl)
    have x_T_12 := x_T_9.tr (fw_uA e_T_12 k_n_10 rfl rfl (by decide))
    have f_T_12_o_5 : (T_12.2.2.1 o 5).toInt = (T_9.2.2.1 o 5).toInt := congrArg Int32.toInt ((fw_uA (W := [1408]) e_T_12 k_n_10 rfl rfl (by decide)) o 5 (by rw [k_o]; decide))
    refine tot_oif (iv_oO h_T_12 k_o (by decide) (by decide) rfl) ?_
    refine tot_let (fun v_13 e_v_13 => ?_)
    have q_v_13 := i_eq e_v_13
    have r_v_13 : 0 ≤ v_13.toInt ∧ v_13.toInt ≤ 1001 := iv_int h_T_12 k_o (by decide) (by decide) e_v_13 rfl
    refine tot_let (fun v_14 e_v_14 => ?_)
    have q_v_14 := i_add e_v_14 (by omega) (by omega)
    refine tot_oif (iv_oO h_T_12 k_o (by decide) (by decide) rfl) ?_
    refine tot_let (fun T_15 e_T_15 => ?_)
    have h_T_15 : IV R B K1 K2 T_15 := by rw [e_T_15]; exact iv_uI (a := 0) (b := 1001) h_T_12 k_o (by decide) (by decide) rfl (by omega) (.inl rfl)
    have x_T_15 := x_T_12.tr (fw_uI e_T_15 k_o (by decide))
    have f_T_15_o_5 : (T_15.2.2.1 o 5).toInt = (v_14 : Int32).toInt := by rw [e_T_15]; exact congrArg Int32.toInt (uI_at _ _ _ _)
    unfold g_X9_add_b52
    exact tot_some ⟨h_T_15, x_T_15⟩
set_option maxHeartbeats 4000000 in
set_option maxRecDepth 10000 in
theorem cs_X9_cutOne {R : Nat → Nat} {B K1 K2 : Nat} (T : AT) (o : Nat) (a0 : Int32) (a1 : Int32) (h_T : IV R B K1 K2 T) (k_o : R o = 9) (g0 : 1 ≤ a0.toInt ∧ a0.toInt ≤ 1000) (g1 : 0 ≤ a1.toInt ∧ a1.toInt ≤ 999) : Tot (g_X9_cutOne T o a0 a1) (fun r => (IV R B K1 K2 r.2 ∧ FW R [293, 1344, 1376, 1408] T r.2) ∧ (0 ≤ r.1.toInt ∧ r.1.toInt ≤ 1000)) := by
  have z0 : (1 : Int32).toInt = 1 := by decide
  have z1 : (97 : Int32).toInt = 97 := by decide
  have z2 : (48 : Int32).toInt = 48 := by decide
  have z3 : (45 : Int32).toInt = 45 := by decide
  have z4 : ((3 : Int32) : Int32).toInt = 3 := by decide
  have z5 : (59 : Int32).toInt = 59 := by decide
  have z6 : (32 : Int32).toInt = 32 := by decide
  have z7 : ((6 : Int32) : Int32).toInt = 6 := by decide
  have z8 : (57 : Int32).toInt = 57 := by decide
  have z9 : ((4 : Int32) : Int32).toInt = 4 := by decide
  have z10 : ((48 : Int32) : Int32).toInt = 48 := by decide
  have z11 : ((57 : Int32) : Int32).toInt = 57 := by decide
  have z12 : (4 : Int32).toInt = 4 := by decide
  have z13 : (6 : Int32).toInt = 6 := by decide
  have z14 : (2 : Int32).toInt = 2 := by decide
  have z15 : (122 : Int32).toInt = 122 := by decide
  have z16 : ((97 : Int32) : Int32).toInt = 97 := by decide
  have z17 : ((122 : Int32) : Int32).toInt = 122 := by decide
  have z18 : (8 : Int32).toInt = 8 := by decide
  have cc_101 : cnt 101 = 1 := rfl
  have cc_102 : cnt 102 = 12 := rfl
  have cc_103 : cnt 103 = 144 := rfl
  have cc_104 : cnt 104 = 2400 := rfl
  have cc_105 : cnt 105 = 7200 := rfl
  have x_T : FW R [293, 1344, 1376, 1408] T T := FW.rf
  have j_a0 := i_any a0
  have j_a1 := i_any a1
  unfold g_X9_cutOne
  refine tot_oif (iv_oO h_T k_o (by decide) (by decide) rfl) ?_
  refine tot_ref h_T k_o (by decide) (by decide) (r2 := 41) (rfl : rtg 9 0 = 41) (by decide) (fun n_1 k_n_1 e_n_1 => ?_)
  refine tot_oif (iv_aA h_T k_n_1 (by decide) (by decide) rfl rfl) ?_
  refine tot_oif (by rw [iv_len h_T k_n_1 (by decide) (by decide) (rfl : shp 41 = (100, 1000))]; exact i_inb (by omega) (by omega)) ?_
  refine tot_let (fun v_2 e_v_2 => ?_)
  have r_v_2 := i_any v_2
  refine tot_let (fun v_3 e_v_3 => ?_)
  have q_v_3 := i_add e_v_3 (by omega) (by omega)
  refine tot_if (fun c_7 => ?_) (fun c_7 => ?_)
  · replace c_7 := i_lt c_7
    unfold g_X9_cutOne_b61
    refine tot_if (fun c_11 => ?_) (fun c_11 => ?_)
    · replace c_11 := i_lt c_11
      unfold g_X9_cutOne_b109
      refine tot_if (fun c_15 => ?_) (fun c_15 => ?_)
      · replace c_15 := i_eq c_15
        refine tot_oif (iv_oO h_T k_o (by decide) (by decide) rfl) ?_
        refine tot_bind (cs_X9_add T o (3 : Int32) a1 v_3 h_T k_o (by omega) (by omega) (by omega)) (fun T_12 d_T_12 => ?_)
        have h_T_12 : IV R B K1 K2 T_12 := d_T_12.1
        have y_T_12 : FW R [293, 1344, 1376, 1408] T T_12 := d_T_12.2
        have x_T_12 := x_T.tr (y_T_12.w (by decide))
        unfold g_X9_cutOne_b158
        exact tot_some ⟨⟨h_T_12, x_T_12⟩, (show (0 ≤ v_3.toInt ∧ v_3.toInt ≤ 1000) from by omega)⟩
      · replace c_15 := i_ne c_15
        refine tot_if (fun c_16 => ?_) (fun c_16 => ?_)
        · replace c_16 := i_eq c_16
          exfalso
          omega
        · replace c_16 := i_ne c_16
          refine tot_if (fun c_17 => ?_) (fun c_17 => ?_)
          · replace c_17 := i_eq c_17
            unfold g_X9_cutOne_b158
            exact tot_some ⟨⟨h_T, x_T⟩, (show (0 ≤ v_3.toInt ∧ v_3.toInt ≤ 1000) from by omega)⟩
          · replace c_17 := i_ne c_17
            refine tot_oif (iv_oO h_T k_o (by decide) (by decide) rfl) ?_
            refine tot_bind (cs_X9_add T o (6 : Int32) a1 v_3 h_T k_o (by omega) (by omega) (by omega)) (fun T_14 d_T_14 => ?_)
            have h_T_14 : IV R B K1 K2 T_14 := d_T_14.1
            have y_T_14 : FW R [293, 1344, 1376, 1408] T T_14 := d_T_14.2
            have x_T_14 := x_T.tr (y_T_14.w (by decide))
            unfold g_X9_cutOne_b158
            exact tot_some ⟨⟨h_T_14, x_T_14⟩, (show (0 ≤ v_3.toInt ∧ v_3.toInt ≤ 1000) from by omega)⟩
    · replace c_11 := i_nlt c_11
      refine tot_if (fun c_18 => ?_) (fun c_18 => ?_)
      · replace c_18 := i_lt c_18
        unfold g_X9_cutOne_b109
        refine tot_if (fun c_22 => ?_) (fun c_22 => ?_)
        · replace c_22 := i_eq c_22
          exfalso
          omega
        · replace c_22 := i_ne c_22
          refine tot_if (fun c_23 => ?_) (fun c_23 => ?_)
          · replace c_23 := i_eq c_23
            refine tot_oif (iv_oO h_T k_o (by decide) (by decide) rfl) ?_
            refine tot_bind (cs_X9_add T o (4 : Int32) a1 v_3 h_T k_o (by omega) (by omega) (by omega)) (fun T_20 d_T_20 => ?_)
            have h_T_20 : IV R B K1 K2 T_20 := d_T_20.1
            have y_T_20 : FW R [293, 1344, 1376, 1408] T T_20 := d_T_20.2
            have x_T_20 := x_T.tr (y_T_20.w (by decide))
            unfold g_X9_cutOne_b158
            exact tot_some ⟨⟨h_T_20, x_T_20⟩, (show (0 ≤ v_3.toInt ∧ v_3.toInt ≤ 1000) from by omega)⟩
          · replace c_23 := i_ne c_23
            refine tot_if (fun c_24 => ?_) (fun c_24 => ?_)
            · replace c_24 := i_eq c_24
              exfalso
              omega
            · replace c_24 := i_ne c_24
              refine tot_oif (iv_oO h_T k_o (by decide) (by decide) rfl) ?_
              refine tot_bind (cs_X9_add T o (6 : Int32) a1 v_3 h_T k_o (by omega) (by omega) (by omega)) (fun T_21 d_T_21 => ?_)
              have h_T_21 : IV R B K1 K2 T_21 := d_T_21.1
              have y_T_21 : FW R [293, 1344, 1376, 1408] T T_21 := d_T_21.2
              have x_T_21 := x_T.tr (y_T_21.w (by decide))
              unfold g_X9_cutOne_b158
              exact tot_some ⟨⟨h_T_21, x_T_21⟩, (show (0 ≤ v_3.toInt ∧ v_3.toInt ≤ 1000) from by omega)⟩
      · replace c_18 := i_nlt c_18
        refine tot_oif (iv_oO h_T k_o (by decide) (by decide) rfl) ?_
        refine tot_bindq (R := fun r_8 : Int32 => (0 ≤ r_8.toInt ∧ r_8.toInt ≤ 1000)) (cs_X9_runEnd T o a0 a1 (48 : Int32) (57 : Int32) h_T k_o (by omega) (by omega) (by omega) (by omega)) (fun r_8 d_r_8 => ?_)
        replace d_r_8 : (0 ≤ r_8.toInt ∧ r_8.toInt ≤ 1000) := d_r_8
        refine tot_let (fun v_10 e_v_10 => ?_)
        have q_v_10 := i_sub e_v_10 (by omega) (by omega)
        refine tot_if (fun c_25 => ?_) (fun c_25 => ?_)
        · replace c_25 := i_lt c_25
          unfold g_X9_cutOne_b100
          refine tot_oif (iv_oO h_T k_o (by decide) (by decide) rfl) ?_
          refine tot_bind (cs_X9_add T o 6 a1 r_8 h_T k_o (by omega) (by omega) (by omega)) (fun T_26 d_T_26 => ?_)
          have h_T_26 : IV R B K1 K2 T_26 := d_T_26.1
          have y_T_26 : FW R [293, 1344, 1376, 1408] T T_26 := d_T_26.2
          have x_T_26 := x_T.tr (y_T_26.w (by decide))
          unfold g_X9_cutOne_b158
          exact tot_some ⟨⟨h_T_26, x_T_26⟩, (show (0 ≤ r_8.toInt ∧ r_8.toInt ≤ 1000) from by omega)⟩
        · replace c_25 := i_nlt c_25
          unfold g_X9_cutOne_b100
          refine tot_oif (iv_oO h_T k_o (by decide) (by decide) rfl) ?_
          refine tot_bind (cs_X9_add T o 2 a1 r_8 h_T k_o (by omega) (by omega) (by omega)) (fun T_27 d_T_27 => ?_)
          have h_T_27 : IV R B K1 K2 T_27 := d_T_27.1
          have y_T_27 : FW R [293, 1344, 1376, 1408] T T_27 := d_T_27.2
          have x_T_27 := x_T.tr (y_T_27.w (by decide))
          unfold g_X9_cutOne_b158
          exact tot_some ⟨⟨h_T_27, x_T_27⟩, (show (0 ≤ r_8.toInt ∧ r_8.toInt ≤ 1000) from by omega)⟩
  · replace c_7 := i_nlt c_7
    refine tot_if (fun c_28 => ?_) (fun c_28 => ?_)
    · replace c_28 := i_lt c_28
      unfold g_X9_cutOne_b61
      refine tot_if (fun c_32 => ?_) (fun c_32 => ?_)
      · replace c_32 := i_lt c_32
        exfalso
        omega
      · replace c_32 := i_nlt c_32
        refine tot_if (fun c_33 => ?_) (fun c_33 => ?_)
        · replace c_33 := i_lt c_33
          unfold g_X9_cutOne_b109
          refine tot_if (fun c_37 => ?_) (fun c_37 => ?_)
          · replace c_37 := i_eq c_37
            exfalso
            omega
          · replace c_37 := i_ne c_37
            refine tot_if (fun c_38 => ?_) (fun c_38 => ?_)
            · replace c_38 := i_eq c_38
              exfalso
              omega
            · replace c_38 := i_ne c_38
              refine tot_if (fun c_39 => ?_) (fun c_39 => ?_)
              · replace c_39 := i_eq c_39
                exfalso
                omega
              · replace c_39 := i_ne c_39
                refine tot_oif (iv_oO h_T k_o (by decide) (by decide) rfl) ?_
                refine tot_bind (cs_X9_add T o (6 : Int32) a1 v_3 h_T k_o (by omega) (by omega) (by omega)) (fun T_36 d_T_36 => ?_)
                have h_T_36 : IV R B K1 K2 T_36 := d_T_36.1
                have y_T_36 : FW R [293, 1344, 1376, 1408] T T_36 := d_T_36.2
                have x_T_36 := x_T.tr (y_T_36.w (by decide))
                unfold g_X9_cutOne_b158
                exact tot_some ⟨⟨h_T_36, x_T_36⟩, (show (0 ≤ v_3.toInt ∧ v_3.toInt ≤ 1000) from by omega)⟩
        · replace c_33 := i_nlt c_33
          exfalso
          omega
    · replace c_28 := i_nlt c_28
      refine tot_oif (iv_oO h_T k_o (by decide) (by decide) rfl) ?_
      refine tot_bindq (R := fun r_4 : Int32 => (0 ≤ r_4.toInt ∧ r_4.toInt ≤ 1000)) (cs_X9_runEnd T o a0 a1 (97 : Int32) (122 : Int32) h_T k_o (by omega) (by omega) (by omega) (by omega)) (fun r_4 d_r_4 => ?_)
      replace d_r_4 : (0 ≤ r_4.toInt ∧ r_4.toInt ≤ 1000) := d_r_4
      refine tot_let (fun v_6 e_v_6 => ?_)
      have q_v_6 := i_sub e_v_6 (by omega) (by omega)
      refine tot_if (fun c_40 => ?_) (fun c_40 => ?_)
      · replace c_40 := i_lt c_40
        unfold g_X9_cutOne_b52
        refine tot_oif (iv_oO h_T k_o (by decide) (by decide) rfl) ?_
        refine tot_bind (cs_X9_add T o 6 a1 r_4 h_T k_o (by omega) (by omega) (by omega)) (fun T_41 d_T_41 => ?_)
        have h_T_41 : IV R B K1 K2 T_41 := d_T_41.1
        have y_T_41 : FW R [293, 1344, 1376, 1408] T T_41 := d_T_41.2
        have x_T_41 := x_T.tr (y_T_41.w (by decide))
        unfold g_X9_cutOne_b158
        exact tot_some ⟨⟨h_T_41, x_T_41⟩, (show (0 ≤ r_4.toInt ∧ r_4.toInt ≤ 1000) from by omega)⟩
      · replace c_40 := i_nlt c_40
        unfold g_X9_cutOne_b52
        refine tot_oif (iv_oO h_T k_o (by decide) (by decide) rfl) ?_
        refine tot_bind (cs_X9_add T o 1 a1 r_4 h_T k_o (by omega) (by omega) (by omega)) (fun T_42 d_T_42 => ?_)
        have h_T_42 : IV R B K1 K2 T_42 := d_T_42.1
        have y_T_42 : FW R [293, 1344, 1376, 1408] T T_42 := d_T_42.2
        have x_T_42 := x_T.tr (y_T_42.w (by decide))
        unfold g_X9_cutOne_b158
        exact tot_some ⟨⟨h_T_42, x_T_42⟩, (show (0 ≤ r_4.toInt ∧ r_4.toInt ≤ 1000) from by omega)⟩
end
section
/-! 13d.cb1.lean.txt -/
set_option maxHeartbeats 4000000 in
set_option maxRecDepth 10000 in
theorem cl_X9_cut_b9 {R : Nat → Nat} {B K1 K2 : Nat} {Q : AT → Prop} (l0 : Nat) (l1 : Int32) (T00 : AT) (k_l0 : R l0 = 9) (g0 : 0 ≤ l1.toInt ∧ l1.toInt ≤ 1000) (hx0 : ∀ (T : AT), (IV R B K1 K2 T) → (FW R [293, 1344, 1376, 1408] T00 T) → Tot (g_X9_cut_b32 T l0 l1) Q) : ∀ (n : Nat) (T : AT) (l2 : Int32) (l3 : Int32), (IV R B K1 K2 T) → (FW R [293, 1344, 1376, 1408] T00 T) → (0 ≤ l2.toInt ∧ l2.toInt ≤ 1000) → (0 ≤ l3.toInt ∧ l3.toInt ≤ 1000) → 1000 - l3.toInt < (n : Int) → Tot (g_X9_cut_b9 n T l0 l1 l2 l3) Q := by
  have z0 : (Int32.ofInt (1) : Int32).toInt = 1 := by decide
  have cc_101 : cnt 101 = 1 := rfl
  have cc_102 : cnt 102 = 12 := rfl
  have cc_103 : cnt 103 = 144 := rfl
  have cc_104 : cnt 104 = 2400 := rfl
  have cc_105 : cnt 105 = 7200 := rfl
  have j_l1 := i_any l1
  intro n
  induction n with
  | zero =>
    intro T l2 l3 h_T x_T g_l2 g_l3 hm
    exfalso
    omega
  | succ n ih =>
    intro T l2 l3 h_T x_T g_l2 g_l3 hm
    unfold g_X9_cut_b9
    refine tot_if (fun c_15 => ?_) (fun c_15 => ?_)
    · replace c_15 := i_le c_15
      exact hx0 T h_T x_T
    · replace c_15 := i_nle c_15
      refine tot_if (fun c_16 => ?_) (fun c_16 => ?_)
      · replace c_16 := i_le c_16
        exact hx0 T h_T x_T
      · replace c_16 := i_nle c_16
        refine tot_oif (iv_oO h_T k_l0 (by decide) (by decide) rfl) ?_
        refine tot_bind2 (cs_X9_cutOne T l0 l1 l2 h_T k_l0 (by omega) (by omega)) (fun r_12 T_13 d_r_12 => ?_)
        have h_T_13 : IV R B K1 K2 T_13 := d_r_12.1.1
        have y_T_13 : FW R [293, 1344, 1376, 1408] T T_13 := d_r_12.1.2
        have x_T_13 := x_T.tr (y_T_13.w (by decide))
        replace d_r_12 : (0 ≤ r_12.toInt ∧ r_12.toInt ≤ 1000) := d_r_12.2
        refine tot_let (fun v_14 e_v_14 => ?_)
        have q_v_14 := i_add e_v_14 (by omega) (by omega)
        exact ih T_13 r_12 v_14 h_T_13 x_T_13 (by omega) (by omega) (by omega)
set_option maxHeartbeats 4000000 in
set_option maxRecDepth 10000 in
theorem cs_X9_cut {R : Nat → Nat} {B K1 K2 : Nat} (T : AT) (o : Nat) (a0 : Int32) (h_T : IV R B K1 K2 T) (k_o : R o = 9) (g0 : 0 ≤ a0.toInt ∧ a0.toInt ≤ 1000) : Tot (g_X9_cut T o a0) (fun T1 => IV R B K1 K2 T1 ∧ FW R [293, 1344, 1376, 1408] T T1) := by
  have z0 : (0 : Int32).toInt = 0 := by decide
  have z1 : ((5 : Int32) : Int32).toInt = 5 := by decide
  have cc_101 : cnt 101 = 1 := rfl
  have cc_102 : cnt 102 = 12 := rfl
  have cc_103 : cnt 103 = 144 := rfl
  have cc_104 : cnt 104 = 2400 := rfl
  have cc_105 : cnt 105 = 7200 := rfl
  have x_T : FW R [293, 1344, 1376, 1408] T T := FW.rf
  have j_a0 := i_any a0
  unfold g_X9_cut
  refine tot_oif (iv_oO h_T k_o (by decide) (by decide) rfl) ?_
  refine tot_let (fun T_1 e_T_1 => ?_)
  have h_T_1 : IV R B K1 K2 T_1 := by rw [e_T_1]; exact iv_uI (a := 0) (b := 1001) h_T k_o (by decide) (by decide) rfl (by omega) (.inl rfl)
  have x_T_1 := x_T.tr (fw_uI e_T_1 k_o (by decide))
  refine cl_X9_cut_b9 o a0 T k_o (by omega) ?_ 16384 T_1 0 0 h_T_1 x_T_1 (by omega) (by omega) (by omega)
  · intro T_17 h_T_17 x_T_17
    unfold g_X9_cut_b32
    refine tot_oif (iv_oO h_T_17 k_o (by decide) (by decide) rfl) ?_
    refine tot_bind (cs_X9_add T_17 o (5 : Int32) a0 a0 h_T_17 k_o (by omega) (by omega) (by omega)) (fun T_18 d_T_18 => ?_)
    have h_T_18 : IV R B K1 K2 T_18 := d_T_18.1
    have y_T_18 : FW R [293, 1344, 1376, 1408] T_17 T_18 := d_T_18.2
    have x_T_18 := x_T_17.tr (y_T_18.w (by decide))
    exact tot_some ⟨h_T_18, x_T_18⟩
set_option maxHeartbeats 4000000 in
set_option maxRecDepth 10000 in
theorem cs_X6_clear {R : Nat → Nat} {B K1 K2 : Nat} (T : AT) (o : Nat) (h_T : IV R B K1 K2 T) (k_o : R o = 6) : Tot (g_X6_clear T o) (fun T1 => IV R B K1 K2 T1 ∧ FW R [35, 36, 39, 197, 200, 203, 204, 206, 208] T T1) := by
  have z0 : (0 : Int32).toInt = 0 := by decide
  have cc_101 : cnt 101 = 1 := rfl
  have cc_102 : cnt 102 = 12 := rfl
  have cc_103 : cnt 103 = 144 := rfl
  have cc_104 : cnt 104 = 2400 := rfl
  have cc_105 : cnt 105 = 7200 := rfl
  have x_T : FW R [35, 36, 39, 197, 200, 203, 204, 206, 208] T T := FW.rf
  unfold g_X6_clear
  refine tot_oif (iv_oO h_T k_o (by decide) (by decide) rfl) ?_
  refine tot_ref h_T k_o (by decide) (by decide) (r2 := 1) (rfl : rtg 6 6 = 1) (by decide) (fun n_1 k_n_1 e_n_1 => ?_)
  refine tot_oif (iv_oO h_T k_n_1 (by decide) (by decide) rfl) ?_
  refine tot_bind (cs_X1_clear T n_1 h_T k_n_1 ) (fun T_2 d_T_2 => ?_)
  have h_T_2 : IV R B K1 K2 T_2 := d_T_2.1
  have y_T_2 : FW R [35, 36, 39] T T_2 := d_T_2.2
  have x_T_2 := x_T.tr (y_T_2.w (by decide))
  refine tot_oif (iv_oO h_T_2 k_o (by decide) (by decide) rfl) ?_
  refine tot_let (fun T_3 e_T_3 => ?_)
  have h_T_3 : IV R B K1 K2 T_3 := by rw [e_T_3]; exact iv_uI (a := 0) (b := 12) h_T_2 k_o (by decide) (by decide) rfl (by omega) (.inl rfl)
  have x_T_3 := x_T_2.tr (fw_uI e_T_3 k_o (by decide))
  refine tot_oif (iv_oO h_T_3 k_o (by decide) (by decide) rfl) ?_
  refine tot_let (fun T_4 e_T_4 => ?_)
  have h_T_4 : IV R B K1 K2 T_4 := by rw [e_T_4]; exact iv_uI (a := 0) (b := 6) h_T_3 k_o (by decide) (by decide) rfl (by omega) (.inl rfl)
  have x_T_4 := x_T_3.tr (fw_uI e_T_4 k_o (by decide))
  refine tot_oif (iv_oO h_T_4 k_o (by decide) (by decide) rfl) ?_
  refine tot_let (fun T_5 e_T_5 => ?_)
  have h_T_5 : IV R B K1 K2 T_5 := by rw [e_T_5]; exact iv_uI (a := 0) (b := 2) h_T_4 k_o (by decide) (by decide) rfl (by omega) (.inl rfl)
  have x_T_5 := x_T_4.tr (fw_uI e_T_5 k_o (by decide))
  refine tot_oif (iv_oO h_T_5 k_o (by decide) (by decide) rfl) ?_
  refine tot_let (fun T_6 e_T_6 => ?_)
  have h_T_6 : IV R B K1 K2 T_6 := by rw [e_T_6]; exact iv_uI (a := 0) (b := 999) h_T_5 k_o (by decide) (by decide) rfl (by omega) (.inl rfl)
  have x_T_6 := x_T_5.tr (fw_uI e_T_6 k_o (by decide))
  refine tot_oif (iv_oO h_T_6 k_o (by decide) (by decide) rfl) ?_
  refine tot_let (fun T_7 e_T_7 => ?_)
  have h_T_7 : IV R B K1 K2 T_7 := by rw [e_T_7]; exact iv_uI (a := 0) (b := 5) h_T_6 k_o (by decide) (by decide) rfl (by omega) (.inl rfl)
  have x_T_7 := x_T_6.tr (fw_uI e_T_7 k_o (by decide))
  refine tot_oif (iv_oO h_T_7 k_o (by decide) (by decide) rfl) ?_
  refine tot_let (fun T_8 e_T_8 => ?_)
  have h_T_8 : IV R B K1 K2 T_8 := by rw [e_T_8]; exact iv_uI (a := 0) (b := 12) h_T_7 k_o (by decide) (by decide) rfl (by omega) (.inl rfl)
  have x_T_8 := x_T_7.tr (fw_uI e_T_8 k_o (by decide))
  exact tot_some ⟨h_T_8, x_T_8⟩
set_option maxHeartbeats 4000000 in
set_option maxRecDepth 10000 in
theorem cs_X3_kind {R : Nat → Nat} {B K1 K2 : Nat} (T : AT) (o : Nat) (h_T : IV R B K1 K2 T) (k_o : R o = 3) : Tot (g_X3_kind T o) (fun r => r.2 = T ∧ (r.1.toInt = 5 ∨ (T.2.2.1 o 1).toInt ≤ 1000)) := by
  have z0 : (5 : Int32).toInt = 5 := by decide
  have cc_101 : cnt 101 = 1 := rfl
  have cc_102 : cnt 102 = 12 := rfl
  have cc_103 : cnt 103 = 144 := rfl
  have cc_104 : cnt 104 = 2400 := rfl
  have cc_105 : cnt 105 = 7200 := rfl
  unfold g_X3_kind
  refine tot_oif (iv_oO h_T k_o (by decide) (by decide) rfl) ?_
  refine tot_let (fun v_1 e_v_1 => ?_)
  have q_v_1 := i_eq e_v_1
  have r_v_1 : 0 ≤ v_1.toInt ∧ v_1.toInt ≤ 1001 := iv_int h_T k_o (by decide) (by decide) e_v_1 rfl
  refine tot_oif (iv_oO h_T k_o (by decide) (by decide) rfl) ?_
  refine tot_ref h_T k_o (by decide) (by decide) (r2 := 9) (rfl : rtg 3 0 = 9) (by decide) (fun n_2 k_n_2 e_n_2 => ?_)
  refine tot_oif (iv_oO h_T k_n_2 (by decide) (by decide) rfl) ?_
  refine tot_let (fun v_3 e_v_3 => ?_)
  have r_v_3 : 0 ≤ v_3.toInt ∧ v_3.toInt ≤ 1001 := iv_int h_T k_n_2 (by decide) (by decide) e_v_3 rfl
  refine tot_if (fun c_8 => ?_) (fun c_8 => ?_)
  · replace c_8 := i_le c_8
    unfold g_X3_kind_b30
    exact tot_some ⟨rfl, (show ((5 : Int32).toInt = 5 ∨ (T.2.2.1 o 1).toInt ≤ 1000) from by omega)⟩
  · replace c_8 := i_nle c_8
    refine tot_oif (iv_oO h_T k_o (by decide) (by decide) rfl) ?_
    refine tot_ref1 e_n_2 ?_
    refine tot_oif (iv_oO h_T k_n_2 (by decide) (by decide) rfl) ?_
    refine tot_ref h_T k_n_2 (by decide) (by decide) (r2 := 42) (rfl : rtg 9 2 = 42) (by decide) (fun n_5 k_n_5 e_n_5 => ?_)
    refine tot_oif (iv_oO h_T k_o (by decide) (by decide) rfl) ?_
    refine tot_let (fun v_6 e_v_6 => ?_)
    have u_v_6 : v_6.toInt = v_1.toInt := by rw [e_v_6, e_v_1]
    have q_v_6 := i_eq e_v_6
    have r_v_6 : 0 ≤ v_6.toInt ∧ v_6.toInt ≤ 1001 := iv_int h_T k_o (by decide) (by decide) e_v_6 rfl
    refine tot_oif (iv_aA h_T k_n_5 (by decide) (by decide) rfl rfl) ?_
    refine tot_oif (by rw [iv_len h_T k_n_5 (by decide) (by decide) (rfl : shp 42 = (100, 1001))]; exact i_inb (by omega) (by omega)) ?_
    refine tot_let (fun v_7 e_v_7 => ?_)
    have r_v_7 := i_any v_7
    unfold g_X3_kind_b30
    exact tot_some ⟨rfl, (show (v_7.toInt = 5 ∨ (T.2.2.1 o 1).toInt ≤ 1000) from by omega)⟩
set_option maxHeartbeats 4000000 in
set_option maxRecDepth 10000 in
theorem cl_X3_isWord_b51 {R : Nat → Nat} {B K1 K2 : Nat} {Q : Int32 × AT → Prop} {tx : Nat × (Nat → Int32)} (T : AT) (l0 : Nat) (l2 : Int32) (l3 : Int32) (h_T : IV R B K1 K2 T) (k_l0 : R l0 = 3) (g0 : 0 ≤ l2.toInt ∧ l2.toInt ≤ 1000) (g1 : -1000 ≤ l3.toInt ∧ l3.toInt ≤ 1000) (g2 : (l3.toInt = tx.1 ∧ tx.1 ≤ 20) ∧ l2.toInt + l3.toInt ≤ 1000) (hx0 : ∀ (_ : Unit), Tot (some (1, T)) Q) (hx1 : ∀ (_ : Unit), Tot (some (0, T)) Q) : ∀ (n : Nat) (l4 : Int32), (0 ≤ l4.toInt ∧ l4.toInt ≤ 1000) → 1000 - l4.toInt < (n : Int) → Tot (g_X3_isWord_b51 tx n T l0 l2 l3 l4) Q := by
  have z0 : (Int32.ofInt (1) : Int32).toInt = 1 := by decide
  have cc_101 : cnt 101 = 1 := rfl
  have cc_102 : cnt 102 = 12 := rfl
  have cc_103 : cnt 103 = 144 := rfl
  have cc_104 : cnt 104 = 2400 := rfl
  have cc_105 : cnt 105 = 7200 := rfl
  have j_l2 := i_any l2
  have j_l3 := i_any l3
  intro n
  induction n with
  | zero =>
    intro l4 g_l4 hm
    exfalso
    omega
  | succ n ih =>
    intro l4 g_l4 hm
    unfold g_X3_isWord_b51
    refine tot_if (fun c_33 => ?_) (fun c_33 => ?_)
    · replace c_33 := i_le c_33
      exact hx0 () 
    · replace c_33 := i_nle c_33
      refine tot_oif (iv_oO h_T k_l0 (by decide) (by decide) rfl) ?_
      refine tot_ref h_T k_l0 (by decide) (by decide) (r2 := 9) (rfl : rtg 3 0 = 9) (by decide) (fun n_27 k_n_27 e_n_27 => ?_)
      refine tot_oif (iv_oO h_T k_n_27 (by decide) (by decide) rfl) ?_
      refine tot_ref h_T k_n_27 (by decide) (by decide) (r2 := 41) (rfl : rtg 9 0 = 41) (by decide) (fun n_28 k_n_28 e_n_28 => ?_)
      refine tot_let (fun v_29 e_v_29 => ?_)
      have q_v_29 := i_add e_v_29 (by omega) (by omega)
      refine tot_oif (iv_aA h_T k_n_28 (by decide) (by decide) rfl rfl) ?_
      refine tot_oif (by rw [iv_len h_T k_n_28 (by decide) (by decide) (rfl : shp 41 = (100, 1000))]; exact i_inb (by omega) (by omega)) ?_
      refine tot_let (fun v_30 e_v_30 => ?_)
      have r_v_30 := i_any v_30
      refine tot_oif (i_inb (by omega) (by omega)) ?_
      refine tot_let (fun v_31 e_v_31 => ?_)
      have r_v_31 := i_any v_31
      refine tot_if (fun c_34 => ?_) (fun c_34 => ?_)
      · replace c_34 := i_eq c_34
        refine tot_let (fun v_32 e_v_32 => ?_)
        have q_v_32 := i_add e_v_32 (by omega) (by omega)
        exact ih v_32 (by omega) (by omega)
      · replace c_34 := i_ne c_34
        exact hx1 () 
set_option maxHeartbeats 4000000 in
set_option maxRecDepth 10000 in
theorem cs_X3_isWord {R : Nat → Nat} {B K1 K2 : Nat} (T : AT) (tx : Nat × (Nat → Int32)) (o : Nat) (h_T : IV R B K1 K2 T) (k_o : R o = 3) (g0 : (nI tx.1 >>> (0 &&& 31)).toInt = tx.1 ∧ tx.1 ≤ 20) : Tot (g_X3_isWord T tx o) (fun r => r.2 = T ∧ (0 ≤ r.1.toInt ∧ r.1.toInt ≤ 1 ∧ (r.1.toInt = 0 ∨ (T.2.2.1 o 1).toInt ≤ 1000))) := by
  have z0 : (1 : Int32).toInt = 1 := by decide
  have z1 : (0 : Int32).toInt = 0 := by decide
  have cc_101 : cnt 101 = 1 := rfl
  have cc_102 : cnt 102 = 12 := rfl
  have cc_103 : cnt 103 = 144 := rfl
  have cc_104 : cnt 104 = 2400 := rfl
  have cc_105 : cnt 105 = 7200 := rfl
  unfold g_X3_isWord
  refine tot_oif (iv_oO h_T k_o (by decide) (by decide) rfl) ?_
  refine tot_bindq (R := fun r_1 : Int32 => (r_1.toInt = 5 ∨ (T.2.2.1 o 1).toInt ≤ 1000)) (cs_X3_kind T o h_T k_o ) (fun r_1 d_r_1 => ?_)
  replace d_r_1 : (r_1.toInt = 5 ∨ (T.2.2.1 o 1).toInt ≤ 1000) := d_r_1
  refine tot_if (fun c_13 => ?_) (fun c_13 => ?_)
  · replace c_13 := i_eq c_13
    refine tot_oif (iv_oO h_T k_o (by decide) (by decide) rfl) ?_
    refine tot_ref h_T k_o (by decide) (by decide) (r2 := 9) (rfl : rtg 3 0 = 9) (by decide) (fun n_3 k_n_3 e_n_3 => ?_)
    refine tot_oif (iv_oO h_T k_n_3 (by decide) (by decide) rfl) ?_
    refine tot_ref h_T k_n_3 (by decide) (by decide) (r2 := 43) (rfl : rtg 9 3 = 43) (by decide) (fun n_4 k_n_4 e_n_4 => ?_)
    refine tot_oif (iv_oO h_T k_o (by decide) (by decide) rfl) ?_
    refine tot_let (fun v_5 e_v_5 => ?_)
    have q_v_5 := i_eq e_v_5
    have r_v_5 : 0 ≤ v_5.toInt ∧ v_5.toInt ≤ 1001 := iv_int h_T k_o (by decide) (by decide) e_v_5 rfl
    refine tot_oif (iv_aA h_T k_n_4 (by decide) (by decide) rfl rfl) ?_
    refine tot_oif (by rw [iv_len h_T k_n_4 (by decide) (by decide) (rfl : shp 43 = (100, 1001))]; exact i_inb (by omega) (by omega)) ?_
    refine tot_let (fun v_6 e_v_6 => ?_)
    have r_v_6 : 0 ≤ v_6.toInt ∧ v_6.toInt ≤ 1000 := iv_int h_T k_n_4 (by decide) (by decide) e_v_6 rfl
    refine tot_oif (iv_oO h_T k_o (by decide) (by decide) rfl) ?_
    refine tot_ref1 e_n_3 ?_
    refine tot_oif (iv_oO h_T k_n_3 (by decide) (by decide) rfl) ?_
    refine tot_ref h_T k_n_3 (by decide) (by decide) (r2 := 44) (rfl : rtg 9 4 = 44) (by decide) (fun n_8 k_n_8 e_n_8 => ?_)
    refine tot_oif (iv_oO h_T k_o (by decide) (by decide) rfl) ?_
    refine tot_let (fun v_9 e_v_9 => ?_)
    have u_v_9 : v_9.toInt = v_5.toInt := by rw [e_v_9, e_v_5]
    have q_v_9 := i_eq e_v_9
    have r_v_9 : 0 ≤ v_9.toInt ∧ v_9.toInt ≤ 1001 := iv_int h_T k_o (by decide) (by decide) e_v_9 rfl
    refine tot_oif (iv_aA h_T k_n_8 (by decide) (by decide) rfl rfl) ?_
    refine tot_oif (by rw [iv_len h_T k_n_8 (by decide) (by decide) (rfl : shp 44 = (100, 1001))]; exact i_inb (by omega) (by omega)) ?_
    refine tot_let (fun v_10 e_v_10 => ?_)
    have r_v_10 : 0 ≤ v_10.toInt ∧ v_10.toInt ≤ 1000 := iv_int h_T k_n_8 (by decide) (by decide) e_v_10 rfl
    refine tot_let (fun v_11 e_v_11 => ?_)
    have q_v_11 := i_sub e_v_11 (by omega) (by omega)
    refine tot_let (fun v_12 e_v_12 => ?_)
    have q_v_12 : v_12.toInt = tx.1 := by rw [e_v_12]; exact g0.1
    refine tot_if (fun c_14 => ?_) (fun c_14 => ?_)
    · replace c_14 := i_eq c_14
      refine cl_X3_isWord_b51 T o v_6 v_11 h_T k_o (by omega) (by omega) (by omega) ?_ ?_ 16384 0 (by omega) (by omega)
      · intro _
        exact tot_some ⟨rfl, (show (0 ≤ (1 : Int32).toInt ∧ (1 : Int32).toInt ≤ 1 ∧ ((1 : Int32).toInt = 0 ∨ (T.2.2.1 o 1).toInt ≤ 1000)) from by omega)⟩
      · intro _
        exact tot_some ⟨rfl, (show (0 ≤ (0 : Int32).toInt ∧ (0 : Int32).toInt ≤ 1 ∧ ((0 : Int32).toInt = 0 ∨ (T.2.2.1 o 1).toInt ≤ 1000)) from by omega)⟩
    · replace c_14 := i_ne c_14
      exact tot_some ⟨rfl, (show (0 ≤ (0 : Int32).toInt ∧ (0 : Int32).toInt ≤ 1 ∧ ((0 : Int32).toInt = 0 ∨ (T.2.2.1 o 1).toInt ≤ 1000)) from by omega)⟩
  · replace c_13 := i_ne c_13
    exact tot_some ⟨rfl, (show (0 ≤ (0 : Int32).toInt ∧ (0 : Int32).toInt ≤ 1 ∧ ((0 : Int32).toInt = 0 ∨ (T.2.2.1 o 1).toInt ≤ 1000)) from by omega)⟩
set_option maxHeartbeats 4000000 in
set_option maxRecDepth 10000 in
theorem cs_X3_failAt {R : Nat → Nat} {B K1 K2 : Nat} (T : AT) (o : Nat) (a0 : Int32) (a1 : Int32) (h_T : IV R B K1 K2 T) (k_o : R o = 3) (g0 : -1 ≤ a0.toInt ∧ a0.toInt ≤ 1001) (g1 : 1 ≤ a1.toInt ∧ a1.toInt ≤ 5) : Tot (g_X3_failAt T o a0 a1) (fun r => (IV R B K1 K2 r.2.2 ∧ FW R [98, 99] T r.2.2) ∧ (r.1 = 0 → (False))) := by
  have z0 : (0 : Int32).toInt = 0 := by decide
  have cc_101 : cnt 101 = 1 := rfl
  have cc_102 : cnt 102 = 12 := rfl
  have cc_103 : cnt 103 = 144 := rfl
  have cc_104 : cnt 104 = 2400 := rfl
  have cc_105 : cnt 105 = 7200 := rfl
  have x_T : FW R [98, 99] T T := FW.rf
  have j_a0 := i_any a0
  have j_a1 := i_any a1
  unfold g_X3_failAt
  refine tot_oif (iv_oO h_T k_o (by decide) (by decide) rfl) ?_
  refine tot_let (fun T_1 e_T_1 => ?_)
  have h_T_1 : IV R B K1 K2 T_1 := by rw [e_T_1]; exact iv_uI (a := 0) (b := 6) h_T k_o (by decide) (by decide) rfl (by omega) (.inl rfl)
  have x_T_1 := x_T.tr (fw_uI e_T_1 k_o (by decide))
  have f_T_1_o_1 : (T_1.2.2.1 o 1).toInt = (T.2.2.1 o 1).toInt := congrArg Int32.toInt ((fw_uI (W := [98]) e_T_1 k_o (by decide)) o 1 (by rw [k_o]; decide))
  refine tot_if (fun c_7 => ?_) (fun c_7 => ?_)
  · replace c_7 := i_lt c_7
    unfold g_X3_failAt_b33
    unfold g_X3_failAt_b34
    refine tot_oif (iv_oO h_T_1 k_o (by decide) (by decide) rfl) ?_
    refine tot_let (fun T_8 e_T_8 => ?_)
    have h_T_8 : IV R B K1 K2 T_8 := by rw [e_T_8]; exact iv_uI (a := -2147483648) (b := 2147483647) h_T_1 k_o (by decide) (by decide) rfl (by omega) (.inl rfl)
    have x_T_8 := x_T_1.tr (fw_uI e_T_8 k_o (by decide))
    have f_T_8_o_1 : (T_8.2.2.1 o 1).toInt = (T_1.2.2.1 o 1).toInt := congrArg Int32.toInt ((fw_uI (W := [99]) e_T_8 k_o (by decide)) o 1 (by rw [k_o]; decide))
    exact tot_some ⟨⟨h_T_8, x_T_8⟩, fun q_ => absurd q_ (Nat.succ_ne_zero _)⟩
  · replace c_7 := i_nlt c_7
    refine tot_oif (iv_oO h_T_1 k_o (by decide) (by decide) rfl) ?_
    refine tot_ref h_T_1 k_o (by decide) (by decide) (r2 := 9) (rfl : rtg 3 0 = 9) (by decide) (fun n_2 k_n_2 e_n_2 => ?_)
    refine tot_oif (iv_oO h_T_1 k_n_2 (by decide) (by decide) rfl) ?_
    refine tot_let (fun v_3 e_v_3 => ?_)
    have r_v_3 : 0 ≤ v_3.toInt ∧ v_3.toInt ≤ 1001 := iv_int h_T_1 k_n_2 (by decide) (by decide) e_v_3 rfl
    refine tot_if (fun c_9 => ?_) (fun c_9 => ?_)
    · replace c_9 := i_le c_9
      unfold g_X3_failAt_b33
      unfold g_X3_failAt_b34
      refine tot_oif (iv_oO h_T_1 k_o (by decide) (by decide) rfl) ?_
      refine tot_let (fun T_10 e_T_10 => ?_)
      have h_T_10 : IV R B K1 K2 T_10 := by rw [e_T_10]; exact iv_uI (a := -2147483648) (b := 2147483647) h_T_1 k_o (by decide) (by decide) rfl (by omega) (.inl rfl)
      have x_T_10 := x_T_1.tr (fw_uI e_T_10 k_o (by decide))
      have f_T_10_o_1 : (T_10.2.2.1 o 1).toInt = (T_1.2.2.1 o 1).toInt := congrArg Int32.toInt ((fw_uI (W := [99]) e_T_10 k_o (by decide)) o 1 (by rw [k_o]; decide))
      exact tot_some ⟨⟨h_T_10, x_T_10⟩, fun q_ => absurd q_ (Nat.succ_ne_zero _)⟩
    · replace c_9 := i_nle c_9
      refine tot_oif (iv_oO h_T_1 k_o (by decide) (by decide) rfl) ?_
      refine tot_ref1 e_n_2 ?_
      refine tot_oif (iv_oO h_T_1 k_n_2 (by decide) (by decide) rfl) ?_
      refine tot_ref h_T_1 k_n_2 (by decide) (by decide) (r2 := 43) (rfl : rtg 9 3 = 43) (by decide) (fun n_5 k_n_5 e_n_5 => ?_)
      refine tot_oif (iv_aA h_T_1 k_n_5 (by decide) (by decide) rfl rfl) ?_
      refine tot_oif (by rw [iv_len h_T_1 k_n_5 (by decide) (by decide) (rfl : shp 43 = (100, 1001))]; exact i_inb (by omega) (by omega)) ?_
      refine tot_let (fun v_6 e_v_6 => ?_)
      have r_v_6 : 0 ≤ v_6.toInt ∧ v_6.toInt ≤ 1000 := iv_int h_T_1 k_n_5 (by decide) (by decide) e_v_6 rfl
      unfold g_X3_failAt_b34
      refine tot_oif (iv_oO h_T_1 k_o (by decide) (by decide) rfl) ?_
      refine tot_let (fun T_11 e_T_11 => ?_)
      have ja_T_11 := i_any v_6
      have h_T_11 : IV R B K1 K2 T_11 := by rw [e_T_11]; exact iv_uI (a := -2147483648) (b := 2147483647) h_T_1 k_o (by decide) (by decide) rfl (by omega) (.inl rfl)
      have x_T_11 := x_T_1.tr (fw_uI e_T_11 k_o (by decide))
      have f_T_11_o_1 : (T_11.2.2.1 o 1).toInt = (T_1.2.2.1 o 1).toInt := congrArg Int32.toInt ((fw_uI (W := [99]) e_T_11 k_o (by decide)) o 1 (by rw [k_o]; decide))
      exact tot_some ⟨⟨h_T_11, x_T_11⟩, fun q_ => absurd q_ (Nat.succ_ne_zero _)⟩
set_option maxHeartbeats 4000000 in
set_option maxRecDepth 10000 in
theorem cs_X3_takeWord {R : Nat → Nat} {B K1 K2 : Nat} (T : AT) (tx : Nat × (Nat → Int32)) (o : Nat) (h_T : IV R B K1 K2 T) (k_o : R o = 3) (g0 : (nI tx.1 >>> (0 &&& 31)).toInt = tx.1 ∧ tx.1 ≤ 20) : Tot (g_X3_takeWord T tx o) (fun r => (IV R B K1 K2 r.2.2 ∧ FW R [97, 98, 99] T r.2.2) ∧ (r.1 = 0 → (0 ≤ r.2.1.toInt ∧ r.2.1.toInt ≤ 0))) := by
  have z0 : (0 : Int32).toInt = 0 := by decide
  have z1 : ((1 : Int32) : Int32).toInt = 1 := by decide
  have z2 : (1 : Int32).toInt = 1 := by decide
  have cc_101 : cnt 101 = 1 := rfl
  have cc_102 : cnt 102 = 12 := rfl
  have cc_103 : cnt 103 = 144 := rfl
  have cc_104 : cnt 104 = 2400 := rfl
  have cc_105 : cnt 105 = 7200 := rfl
  have x_T : FW R [97, 98, 99] T T := FW.rf
  unfold g_X3_takeWord
  refine tot_oif (iv_oO h_T k_o (by decide) (by decide) rfl) ?_
  refine tot_bindq (R := fun r_1 : Int32 => (0 ≤ r_1.toInt ∧ r_1.toInt ≤ 1 ∧ (r_1.toInt = 0 ∨ (T.2.2.1 o 1).toInt ≤ 1000))) (cs_X3_isWord T tx o h_T k_o g0) (fun r_1 d_r_1 => ?_)
  replace d_r_1 : (0 ≤ r_1.toInt ∧ r_1.toInt ≤ 1 ∧ (r_1.toInt = 0 ∨ (T.2.2.1 o 1).toInt ≤ 1000)) := d_r_1
  refine tot_if (fun c_6 => ?_) (fun c_6 => ?_)
  · replace c_6 := i_eq c_6
    refine tot_oif (iv_oO h_T k_o (by decide) (by decide) rfl) ?_
    refine tot_let (fun v_3 e_v_3 => ?_)
    have q_v_3 := i_eq e_v_3
    have r_v_3 : 0 ≤ v_3.toInt ∧ v_3.toInt ≤ 1001 := iv_int h_T k_o (by decide) (by decide) e_v_3 rfl
    refine tot_oif (iv_oO h_T k_o (by decide) (by decide) rfl) ?_
    refine tot_thri (R := R) (W := [98, 99]) (Q := fun r_4 : Int32 => (False)) (cs_X3_failAt T o v_3 (1 : Int32) h_T k_o (by omega) (by omega)) (fun r_4 T_5 i_T_5 y_T_5 d_r_4 => ?_) (fun k_ U_ i_ y_ => ⟨⟨i_, x_T.tr (y_.w (by decide))⟩, fun q_ => absurd q_ (Nat.succ_ne_zero k_)⟩)
    have h_T_5 : IV R B K1 K2 T_5 := i_T_5
    have x_T_5 := x_T.tr (y_T_5.w (by decide))
    have f_T_5_o_1 : (T_5.2.2.1 o 1).toInt = (T.2.2.1 o 1).toInt := congrArg Int32.toInt (y_T_5 o 1 (by rw [k_o]; decide))
    replace d_r_4 : (False) := d_r_4
    exact d_r_4.elim
  · replace c_6 := i_ne c_6
    unfold g_X3_takeWord_b17
    refine tot_oif (iv_oO h_T k_o (by decide) (by decide) rfl) ?_
    refine tot_let (fun v_7 e_v_7 => ?_)
    have q_v_7 := i_eq e_v_7
    have r_v_7 : 0 ≤ v_7.toInt ∧ v_7.toInt ≤ 1001 := iv_int h_T k_o (by decide) (by decide) e_v_7 rfl
    refine tot_let (fun v_8 e_v_8 => ?_)
    have q_v_8 := i_add e_v_8 (by omega) (by omega)
    refine tot_oif (iv_oO h_T k_o (by decide) (by decide) rfl) ?_
    refine tot_let (fun T_9 e_T_9 => ?_)
    have h_T_9 : IV R B K1 K2 T_9 := by rw [e_T_9]; exact iv_uI (a := 0) (b := 1001) h_T k_o (by decide) (by decide) rfl (by omega) (.inl rfl)
    have x_T_9 := x_T.tr (fw_uI e_T_9 k_o (by decide))
    have f_T_9_o_1 : (T_9.2.2.1 o 1).toInt = (v_8 : Int32).toInt := by rw [e_T_9]; exact congrArg Int32.toInt (uI_at _ _ _ _)
    exact tot_some ⟨⟨h_T_9, x_T_9⟩, fun _ => (show (0 ≤ (0 : Int32).toInt ∧ (0 : Int32).toInt ≤ 0) from by omega)⟩
set_option maxHeartbeats 4000000 in
set_option maxRecDepth 10000 in
theorem cl_X3_value_b15 {R : Nat → Nat} {B K1 K2 : Nat} {Q : Int32 × AT → Prop} (T : AT) (l0 : Nat) (h_T : IV R B K1 K2 T) (k_l0 : R l0 = 3) (g0 : (T.2.2.1 l0 1).toInt ≤ 1000) (hx0 : ∀ (l1 : Int32), Tot (some (l1, T)) Q) : ∀ (n : Nat) (l1 : Int32) (l2 : Int32), (0 ≤ l2.toInt ∧ l2.toInt ≤ 1000) → 1000 - l2.toInt < (n : Int) → Tot (g_X3_value_b15 n T l0 l1 l2) Q := by
  have z0 : (10 : Int32).toInt = 10 := by decide
  have z1 : (48 : Int32).toInt = 48 := by decide
  have z2 : (Int32.ofInt (1) : Int32).toInt = 1 := by decide
  have cc_101 : cnt 101 = 1 := rfl
  have cc_102 : cnt 102 = 12 := rfl
  have cc_103 : cnt 103 = 144 := rfl
  have cc_104 : cnt 104 = 2400 := rfl
  have cc_105 : cnt 105 = 7200 := rfl
  intro n
  induction n with
  | zero =>
    intro l1 l2 g_l2 hm
    exfalso
    omega
  | succ n ih =>
    intro l1 l2 g_l2 hm
    unfold g_X3_value_b15
    refine tot_oif (iv_oO h_T k_l0 (by decide) (by decide) rfl) ?_
    refine tot_ref h_T k_l0 (by decide) (by decide) (r2 := 9) (rfl : rtg 3 0 = 9) (by decide) (fun n_27 k_n_27 e_n_27 => ?_)
    refine tot_oif (iv_oO h_T k_n_27 (by decide) (by decide) rfl) ?_
    refine tot_ref h_T k_n_27 (by decide) (by decide) (r2 := 44) (rfl : rtg 9 4 = 44) (by decide) (fun n_28 k_n_28 e_n_28 => ?_)
    refine tot_oif (iv_oO h_T k_l0 (by decide) (by decide) rfl) ?_
    refine tot_let (fun v_29 e_v_29 => ?_)
    have q_v_29 := i_eq e_v_29
    have r_v_29 : 0 ≤ v_29.toInt ∧ v_29.toInt ≤ 1001 := iv_int h_T k_l0 (by decide) (by decide) e_v_29 rfl
    refine tot_oif (iv_aA h_T k_n_28 (by decide) (by decide) rfl rfl) ?_
    refine tot_oif (by rw [iv_len h_T k_n_28 (by decide) (by decide) (rfl : shp 44 = (100, 1001))]; exact i_inb (by omega) (by omega)) ?_
    refine tot_let (fun v_30 e_v_30 => ?_)
    have r_v_30 : 0 ≤ v_30.toInt ∧ v_30.toInt ≤ 1000 := iv_int h_T k_n_28 (by decide) (by decide) e_v_30 rfl
    refine tot_if (fun c_38 => ?_) (fun c_38 => ?_)
    · replace c_38 := i_le c_38
      exact hx0 l1 
    · replace c_38 := i_nle c_38
      refine tot_let (fun v_31 e_v_31 => ?_)
      have r_v_31 := i_any v_31
      refine tot_oif (iv_oO h_T k_l0 (by decide) (by decide) rfl) ?_
      refine tot_ref1 e_n_27 ?_
      refine tot_oif (iv_oO h_T k_n_27 (by decide) (by decide) rfl) ?_
      refine tot_ref h_T k_n_27 (by decide) (by decide) (r2 := 41) (rfl : rtg 9 0 = 41) (by decide) (fun n_33 k_n_33 e_n_33 => ?_)
      refine tot_oif (iv_aA h_T k_n_33 (by decide) (by decide) rfl rfl) ?_
      refine tot_oif (by rw [iv_len h_T k_n_33 (by decide) (by decide) (rfl : shp 41 = (100, 1000))]; exact i_inb (by omega) (by omega)) ?_
      refine tot_let (fun v_34 e_v_34 => ?_)
      have r_v_34 := i_any v_34
      refine tot_let (fun v_35 e_v_35 => ?_)
      have r_v_35 := i_any v_35
      refine tot_let (fun v_36 e_v_36 => ?_)
      have r_v_36 := i_any v_36
      refine tot_let (fun v_37 e_v_37 => ?_)
      have q_v_37 := i_add e_v_37 (by omega) (by omega)
      exact ih v_36 v_37 (by omega) (by omega)
set_option maxHeartbeats 4000000 in
set_option maxRecDepth 10000 in
theorem cs_X3_value {R : Nat → Nat} {B K1 K2 : Nat} (T : AT) (o : Nat) (h_T : IV R B K1 K2 T) (k_o : R o = 3) (g0 : (T.2.2.1 o 1).toInt ≤ 1000) : Tot (g_X3_value T o) (fun r => r.2 = T ∧ True) := by
  have z0 : (0 : Int32).toInt = 0 := by decide
  have cc_101 : cnt 101 = 1 := rfl
  have cc_102 : cnt 102 = 12 := rfl
  have cc_103 : cnt 103 = 144 := rfl
  have cc_104 : cnt 104 = 2400 := rfl
  have cc_105 : cnt 105 = 7200 := rfl
  unfold g_X3_value
  refine tot_oif (iv_oO h_T k_o (by decide) (by decide) rfl) ?_
  refine tot_ref h_T k_o (by decide) (by decide) (r2 := 9) (rfl : rtg 3 0 = 9) (by decide) (fun n_1 k_n_1 e_n_1 => ?_)
  refine tot_oif (iv_oO h_T k_n_1 (by decide) (by decide) rfl) ?_
  refine tot_ref h_T k_n_1 (by decide) (by decide) (r2 := 43) (rfl : rtg 9 3 = 43) (by decide) (fun n_2 k_n_2 e_n_2 => ?_)
  refine tot_oif (iv_oO h_T k_o (by decide) (by decide) rfl) ?_
  refine tot_let (fun v_3 e_v_3 => ?_)
  have q_v_3 := i_eq e_v_3
  have r_v_3 : 0 ≤ v_3.toInt ∧ v_3.toInt ≤ 1001 := iv_int h_T k_o (by decide) (by decide) e_v_3 rfl
  refine tot_oif (iv_aA h_T k_n_2 (by decide) (by decide) rfl rfl) ?_
  refine tot_oif (by rw [iv_len h_T k_n_2 (by decide) (by decide) (rfl : shp 43 = (100, 1001))]; exact i_inb (by omega) (by omega)) ?_
  refine tot_let (fun v_4 e_v_4 => ?_)
  have r_v_4 : 0 ≤ v_4.toInt ∧ v_4.toInt ≤ 1000 := iv_int h_T k_n_2 (by decide) (by decide) e_v_4 rfl
  refine cl_X3_value_b15 T o h_T k_o (by omega) ?_ 16384 0 v_4 (by omega) (by omega)
  · intro l_39
    have j_l_39 := i_any l_39
    exact tot_some ⟨rfl, trivial⟩
set_option maxHeartbeats 4000000 in
set_option maxRecDepth 10000 in
theorem cs_X3_number {R : Nat → Nat} {B K1 K2 : Nat} (T : AT) (o : Nat) (a0 : Int32) (a1 : Int32) (h_T : IV R B K1 K2 T) (k_o : R o = 3) : Tot (g_X3_number T o a0 a1) (fun r => (IV R B K1 K2 r.2.2 ∧ FW R [97, 98, 99] T r.2.2) ∧ (r.1 = 0 → (a0.toInt ≤ r.2.1.toInt ∧ r.2.1.toInt ≤ a1.toInt))) := by
  have z0 : (2 : Int32).toInt = 2 := by decide
  have z1 : ((2 : Int32) : Int32).toInt = 2 := by decide
  have z2 : (1 : Int32).toInt = 1 := by decide
  have z3 : ((1 : Int32) : Int32).toInt = 1 := by decide
  have cc_101 : cnt 101 = 1 := rfl
  have cc_102 : cnt 102 = 12 := rfl
  have cc_103 : cnt 103 = 144 := rfl
  have cc_104 : cnt 104 = 2400 := rfl
  have cc_105 : cnt 105 = 7200 := rfl
  have x_T : FW R [97, 98, 99] T T := FW.rf
  have j_a0 := i_any a0
  have j_a1 := i_any a1
  unfold g_X3_number
  refine tot_oif (iv_oO h_T k_o (by decide) (by decide) rfl) ?_
  refine tot_bindq (R := fun r_1 : Int32 => (r_1.toInt = 5 ∨ (T.2.2.1 o 1).toInt ≤ 1000)) (cs_X3_kind T o h_T k_o ) (fun r_1 d_r_1 => ?_)
  replace d_r_1 : (r_1.toInt = 5 ∨ (T.2.2.1 o 1).toInt ≤ 1000) := d_r_1
  refine tot_if (fun c_6 => ?_) (fun c_6 => ?_)
  · replace c_6 := i_eq c_6
    unfold g_X3_number_b17
    refine tot_oif (iv_oO h_T k_o (by decide) (by decide) rfl) ?_
    refine tot_bindq (R := fun r_7 : Int32 => True) (cs_X3_value T o h_T k_o (by omega)) (fun r_7 d_r_7 => ?_)
    have r_r_7 := i_any r_7
    refine tot_if (fun c_9 => ?_) (fun c_9 => ?_)
    · replace c_9 := i_lt c_9
      unfold g_X3_number_b32
      refine tot_oif (iv_oO h_T k_o (by decide) (by decide) rfl) ?_
      refine tot_let (fun v_10 e_v_10 => ?_)
      have q_v_10 := i_eq e_v_10
      have r_v_10 : 0 ≤ v_10.toInt ∧ v_10.toInt ≤ 1001 := iv_int h_T k_o (by decide) (by decide) e_v_10 rfl
      refine tot_oif (iv_oO h_T k_o (by decide) (by decide) rfl) ?_
      refine tot_thri (R := R) (W := [98, 99]) (Q := fun r_11 : Int32 => (False)) (cs_X3_failAt T o v_10 (2 : Int32) h_T k_o (by omega) (by omega)) (fun r_11 T_12 i_T_12 y_T_12 d_r_11 => ?_) (fun k_ U_ i_ y_ => ⟨⟨i_, x_T.tr (y_.w (by decide))⟩, fun q_ => absurd q_ (Nat.succ_ne_zero k_)⟩)
      have h_T_12 : IV R B K1 K2 T_12 := i_T_12
      have x_T_12 := x_T.tr (y_T_12.w (by decide))
      have f_T_12_o_1 : (T_12.2.2.1 o 1).toInt = (T.2.2.1 o 1).toInt := congrArg Int32.toInt (y_T_12 o 1 (by rw [k_o]; decide))
      replace d_r_11 : (False) := d_r_11
      exact d_r_11.elim
    · replace c_9 := i_nlt c_9
      refine tot_if (fun c_13 => ?_) (fun c_13 => ?_)
      · replace c_13 := i_le c_13
        unfold g_X3_number_b41
        refine tot_oif (iv_oO h_T k_o (by decide) (by decide) rfl) ?_
        refine tot_let (fun v_14 e_v_14 => ?_)
        have q_v_14 := i_eq e_v_14
        have r_v_14 : 0 ≤ v_14.toInt ∧ v_14.toInt ≤ 1001 := iv_int h_T k_o (by decide) (by decide) e_v_14 rfl
        refine tot_let (fun v_15 e_v_15 => ?_)
        have q_v_15 := i_add e_v_15 (by omega) (by omega)
        refine tot_oif (iv_oO h_T k_o (by decide) (by decide) rfl) ?_
        refine tot_let (fun T_16 e_T_16 => ?_)
        have h_T_16 : IV R B K1 K2 T_16 := by rw [e_T_16]; exact iv_uI (a := 0) (b := 1001) h_T k_o (by decide) (by decide) rfl (by omega) (.inl rfl)
        have x_T_16 := x_T.tr (fw_uI e_T_16 k_o (by decide))
        have f_T_16_o_1 : (T_16.2.2.1 o 1).toInt = (v_15 : Int32).toInt := by rw [e_T_16]; exact congrArg Int32.toInt (uI_at _ _ _ _)
        exact tot_some ⟨⟨h_T_16, x_T_16⟩, fun _ => (show (a0.toInt ≤ r_7.toInt ∧ r_7.toInt ≤ a1.toInt) from by omega)⟩
      · replace c_13 := i_nle c_13
        unfold g_X3_number_b32
        refine tot_oif (iv_oO h_T k_o (by decide) (by decide) rfl) ?_
        refine tot_let (fun v_17 e_v_17 => ?_)
        have q_v_17 := i_eq e_v_17
        have r_v_17 : 0 ≤ v_17.toInt ∧ v_17.toInt ≤ 1001 := iv_int h_T k_o (by decide) (by decide) e_v_17 rfl
        refine tot_oif (iv_oO h_T k_o (by decide) (by decide) rfl) ?_
        refine tot_thri (R := R) (W := [98, 99]) (Q := fun r_18 : Int32 => (False)) (cs_X3_failAt T o v_17 (2 : Int32) h_T k_o (by omega) (by omega)) (fun r_18 T_19 i_T_19 y_T_19 d_r_18 => ?_) (fun k_ U_ i_ y_ => ⟨⟨i_, x_T.tr (y_.w (by decide))⟩, fun q_ => absurd q_ (Nat.succ_ne_zero k_)⟩)
        have h_T_19 : IV R B K1 K2 T_19 := i_T_19
        have x_T_19 := x_T.tr (y_T_19.w (by decide))
        have f_T_19_o_1 : (T_19.2.2.1 o 1).toInt = (T.2.2.1 o 1).toInt := congrArg Int32.toInt (y_T_19 o 1 (by rw [k_o]; decide))
        replace d_r_18 : (False) := d_r_18
        exact d_r_18.elim
  · replace c_6 := i_ne c_6
    refine tot_oif (iv_oO h_T k_o (by decide) (by decide) rfl) ?_
    refine tot_let (fun v_3 e_v_3 => ?_)
    have q_v_3 := i_eq e_v_3
    have r_v_3 : 0 ≤ v_3.toInt ∧ v_3.toInt ≤ 1001 := iv_int h_T k_o (by decide) (by decide) e_v_3 rfl
    refine tot_oif (iv_oO h_T k_o (by decide) (by decide) rfl) ?_
    refine tot_thri (R := R) (W := [98, 99]) (Q := fun r_4 : Int32 => (False)) (cs_X3_failAt T o v_3 (1 : Int32) h_T k_o (by omega) (by omega)) (fun r_4 T_5 i_T_5 y_T_5 d_r_4 => ?_) (fun k_ U_ i_ y_ => ⟨⟨i_, x_T.tr (y_.w (by decide))⟩, fun q_ => absurd q_ (Nat.succ_ne_zero k_)⟩)
    have h_T_5 : IV R B K1 K2 T_5 := i_T_5
    have x_T_5 := x_T.tr (y_T_5.w (by decide))
    have f_T_5_o_1 : (T_5.2.2.1 o 1).toInt = (T.2.2.1 o 1).toInt := congrArg Int32.toInt (y_T_5 o 1 (by rw [k_o]; decide))
    replace d_r_4 : (False) := d_r_4
    exact d_r_4.elim
set_option maxHeartbeats 4000000 in
set_option maxRecDepth 10000 in
theorem cs_X3_parseHead {R : Nat → Nat} {B K1 K2 : Nat} (T : AT) (o : Nat) (a0 : Nat) (h_T : IV R B K1 K2 T) (k_o : R o = 3) (k_a0 : R a0 = 6) : Tot (g_X3_parseHead T o a0) (fun r => (IV R B K1 K2 r.2.2 ∧ FW R [97, 98, 99, 192, 193, 194, 195] T r.2.2) ∧ (r.1 = 0 → (0 ≤ r.2.1.toInt ∧ r.2.1.toInt ≤ 0))) := by
  have z0 : ((100 : Int32) : Int32).toInt = 100 := by decide
  have z1 : ((5000 : Int32) : Int32).toInt = 5000 := by decide
  have z2 : ((1 : Int32) : Int32).toInt = 1 := by decide
  have z3 : ((99 : Int32) : Int32).toInt = 99 := by decide
  have z4 : ((32 : Int32) : Int32).toInt = 32 := by decide
  have z5 : ((200 : Int32) : Int32).toInt = 200 := by decide
  have z6 : ((9999 : Int32) : Int32).toInt = 9999 := by decide
  have z7 : (0 : Int32).toInt = 0 := by decide
  have cc_101 : cnt 101 = 1 := rfl
  have cc_102 : cnt 102 = 12 := rfl
  have cc_103 : cnt 103 = 144 := rfl
  have cc_104 : cnt 104 = 2400 := rfl
  have cc_105 : cnt 105 = 7200 := rfl
  have x_T : FW R [97, 98, 99, 192, 193, 194, 195] T T := FW.rf
  unfold g_X3_parseHead
  refine tot_oif (iv_oO h_T k_o (by decide) (by decide) rfl) ?_
  refine tot_thri (R := R) (W := [97, 98, 99]) (Q := fun r_1 : Int32 => (0 ≤ r_1.toInt ∧ r_1.toInt ≤ 0)) (cs_X3_takeWord T (sTx "camera") o h_T k_o (by decide)) (fun r_1 T_2 i_T_2 y_T_2 d_r_1 => ?_) (fun k_ U_ i_ y_ => ⟨⟨i_, x_T.tr (y_.w (by decide))⟩, fun q_ => absurd q_ (Nat.succ_ne_zero k_)⟩)
  have h_T_2 : IV R B K1 K2 T_2 := i_T_2
  have x_T_2 := x_T.tr (y_T_2.w (by decide))
  replace d_r_1 : (0 ≤ r_1.toInt ∧ r_1.toInt ≤ 0) := d_r_1
  refine tot_oif (iv_oO h_T_2 k_o (by decide) (by decide) rfl) ?_
  refine tot_thri (R := R) (W := [97, 98, 99]) (Q := fun r_3 : Int32 => (0 ≤ r_3.toInt ∧ r_3.toInt ≤ 0)) (cs_X3_takeWord T_2 (sTx "distance") o h_T_2 k_o (by decide)) (fun r_3 T_4 i_T_4 y_T_4 d_r_3 => ?_) (fun k_ U_ i_ y_ => ⟨⟨i_, x_T_2.tr (y_.w (by decide))⟩, fun q_ => absurd q_ (Nat.succ_ne_zero k_)⟩)
  have h_T_4 : IV R B K1 K2 T_4 := i_T_4
  have x_T_4 := x_T_2.tr (y_T_4.w (by decide))
  replace d_r_3 : (0 ≤ r_3.toInt ∧ r_3.toInt ≤ 0) := d_r_3
  refine tot_oif (iv_oO h_T_4 k_o (by decide) (by decide) rfl) ?_
  refine tot_thri (R := R) (W := [97, 98, 99]) (Q := fun r_5 : Int32 => (((100 : Int32) : Int32).toInt ≤ r_5.toInt ∧ r_5.toInt ≤ ((5000 : Int32) : Int32).toInt)) (cs_X3_number T_4 o (100 : Int32) (5000 : Int32) h_T_4 k_o ) (fun r_5 T_6 i_T_6 y_T_6 d_r_5 => ?_) (fun k_ U_ i_ y_ => ⟨⟨i_, x_T_4.tr (y_.w (by decide))⟩, fun q_ => absurd q_ (Nat.succ_ne_zero k_)⟩)
  have h_T_6 : IV R B K1 K2 T_6 := i_T_6
  have x_T_6 := x_T_4.tr (y_T_6.w (by decide))
  replace d_r_5 : (((100 : Int32) : Int32).toInt ≤ r_5.toInt ∧ r_5.toInt ≤ ((5000 : Int32) : Int32).toInt) := d_r_5
  refine tot_oif (iv_oO h_T_6 k_a0 (by decide) (by decide) rfl) ?_
  refine tot_let (fun T_7 e_T_7 => ?_)
  have h_T_7 : IV R B K1 K2 T_7 := by rw [e_T_7]; exact iv_uI (a := 0) (b := 5000) h_T_6 k_a0 (by decide) (by decide) rfl (by omega) (.inl rfl)
  have x_T_7 := x_T_6.tr (fw_uI e_T_7 k_a0 (by decide))
  have f_T_7_o_1 : (T_7.2.2.1 o 1).toInt = (T_6.2.2.1 o 1).toInt := congrArg Int32.toInt ((fw_uI (W := [192]) e_T_7 k_a0 (by decide)) o 1 (by rw [k_o]; decide))
  refine tot_oif (iv_oO h_T_7 k_o (by decide) (by decide) rfl) ?_
  refine tot_thri (R := R) (W := [97, 98, 99]) (Q := fun r_8 : Int32 => (0 ≤ r_8.toInt ∧ r_8.toInt ≤ 0)) (cs_X3_takeWord T_7 (sTx "step") o h_T_7 k_o (by decide)) (fun r_8 T_9 i_T_9 y_T_9 d_r_8 => ?_) (fun k_ U_ i_ y_ => ⟨⟨i_, x_T_7.tr (y_.w (by decide))⟩, fun q_ => absurd q_ (Nat.succ_ne_zero k_)⟩)
  have h_T_9 : IV R B K1 K2 T_9 := i_T_9
  have x_T_9 := x_T_7.tr (y_T_9.w (by decide))
  replace d_r_8 : (0 ≤ r_8.toInt ∧ r_8.toInt ≤ 0) := d_r_8
  refine tot_oif (iv_oO h_T_9 k_o (by decide) (by decide) rfl) ?_
  refine tot_thri (R := R) (W := [97, 98, 99]) (Q := fun r_10 : Int32 => (((1 : Int32) : Int32).toInt ≤ r_10.toInt ∧ r_10.toInt ≤ ((99 : Int32) : Int32).toInt)) (cs_X3_number T_9 o (1 : Int32) (99 : Int32) h_T_9 k_o ) (fun r_10 T_11 i_T_11 y_T_11 d_r_10 => ?_) (fun k_ U_ i_ y_ => ⟨⟨i_, x_T_9.tr (y_.w (by decide))⟩, fun q_ => absurd q_ (Nat.succ_ne_zero k_)⟩)
  have h_T_11 : IV R B K1 K2 T_11 := i_T_11
  have x_T_11 := x_T_9.tr (y_T_11.w (by decide))
  replace d_r_10 : (((1 : Int32) : Int32).toInt ≤ r_10.toInt ∧ r_10.toInt ≤ ((99 : Int32) : Int32).toInt) := d_r_10
  refine tot_oif (iv_oO h_T_11 k_a0 (by decide) (by decide) rfl) ?_
  refine tot_let (fun T_12 e_T_12 => ?_)
  have h_T_12 : IV R B K1 K2 T_12 := by rw [e_T_12]; exact iv_uI (a := 0) (b := 99) h_T_11 k_a0 (by decide) (by decide) rfl (by omega) (.inl rfl)
  have x_T_12 := x_T_11.tr (fw_uI e_T_12 k_a0 (by decide))
  have f_T_12_o_1 : (T_12.2.2.1 o 1).toInt = (T_11.2.2.1 o 1).toInt := congrArg Int32.toInt ((fw_uI (W := [193]) e_T_12 k_a0 (by decide)) o 1 (by rw [k_o]; decide))
  refine tot_oif (iv_oO h_T_12 k_o (by decide) (by decide) rfl) ?_
  refine tot_thri (R := R) (W := [97, 98, 99]) (Q := fun r_13 : Int32 => (0 ≤ r_13.toInt ∧ r_13.toInt ≤ 0)) (cs_X3_takeWord T_12 (sTx "samples") o h_T_12 k_o (by decide)) (fun r_13 T_14 i_T_14 y_T_14 d_r_13 => ?_) (fun k_ U_ i_ y_ => ⟨⟨i_, x_T_12.tr (y_.w (by decide))⟩, fun q_ => absurd q_ (Nat.succ_ne_zero k_)⟩)
  have h_T_14 : IV R B K1 K2 T_14 := i_T_14
  have x_T_14 := x_T_12.tr (y_T_14.w (by decide))
  replace d_r_13 : (0 ≤ r_13.toInt ∧ r_13.toInt ≤ 0) := d_r_13
  refine tot_oif (iv_oO h_T_14 k_o (by decide) (by decide) rfl) ?_
  refine tot_thri (R := R) (W := [97, 98, 99]) (Q := fun r_15 : Int32 => (((32 : Int32) : Int32).toInt ≤ r_15.toInt ∧ r_15.toInt ≤ ((200 : Int32) : Int32).toInt)) (cs_X3_number T_14 o (32 : Int32) (200 : Int32) h_T_14 k_o ) (fun r_15 T_16 i_T_16 y_T_16 d_r_15 => ?_) (fun k_ U_ i_ y_ => ⟨⟨i_, x_T_14.tr (y_.w (by decide))⟩, fun q_ => absurd q_ (Nat.succ_ne_zero k_)⟩)
  have h_T_16 : IV R B K1 K2 T_16 := i_T_16
  have x_T_16 := x_T_14.tr (y_T_16.w (by decide))
  replace d_r_15 : (((32 : Int32) : Int32).toInt ≤ r_15.toInt ∧ r_15.toInt ≤ ((200 : Int32) : Int32).toInt) := d_r_15
  refine tot_oif (iv_oO h_T_16 k_a0 (by decide) (by decide) rfl) ?_
  refine tot_let (fun T_17 e_T_17 => ?_)
  have h_T_17 : IV R B K1 K2 T_17 := by rw [e_T_17]; exact iv_uI (a := 0) (b := 200) h_T_16 k_a0 (by decide) (by decide) rfl (by omega) (.inl rfl)
  have x_T_17 := x_T_16.tr (fw_uI e_T_17 k_a0 (by decide))
  have f_T_17_o_1 : (T_17.2.2.1 o 1).toInt = (T_16.2.2.1 o 1).toInt := congrArg Int32.toInt ((fw_uI (W := [194]) e_T_17 k_a0 (by decide)) o 1 (by rw [k_o]; decide))
  refine tot_oif (iv_oO h_T_17 k_o (by decide) (by decide) rfl) ?_
  refine tot_thri (R := R) (W := [97, 98, 99]) (Q := fun r_18 : Int32 => (0 ≤ r_18.toInt ∧ r_18.toInt ≤ 0)) (cs_X3_takeWord T_17 (sTx "limit") o h_T_17 k_o (by decide)) (fun r_18 T_19 i_T_19 y_T_19 d_r_18 => ?_) (fun k_ U_ i_ y_ => ⟨⟨i_, x_T_17.tr (y_.w (by decide))⟩, fun q_ => absurd q_ (Nat.succ_ne_zero k_)⟩)
  have h_T_19 : IV R B K1 K2 T_19 := i_T_19
  have x_T_19 := x_T_17.tr (y_T_19.w (by decide))
  replace d_r_18 : (0 ≤ r_18.toInt ∧ r_18.toInt ≤ 0) := d_r_18
  refine tot_oif (iv_oO h_T_19 k_o (by decide) (by decide) rfl) ?_
  refine tot_thri (R := R) (W := [97, 98, 99]) (Q := fun r_20 : Int32 => (((1 : Int32) : Int32).toInt ≤ r_20.toInt ∧ r_20.toInt ≤ ((9999 : Int32) : Int32).toInt)) (cs_X3_number T_19 o (1 : Int32) (9999 : Int32) h_T_19 k_o ) (fun r_20 T_21 i_T_21 y_T_21 d_r_20 => ?_) (fun k_ U_ i_ y_ => ⟨⟨i_, x_T_19.tr (y_.w (by decide))⟩, fun q_ => absurd q_ (Nat.succ_ne_zero k_)⟩)
  have h_T_21 : IV R B K1 K2 T_21 := i_T_21
  have x_T_21 := x_T_19.tr (y_T_21.w (by decide))
  replace d_r_20 : (((1 : Int32) : Int32).toInt ≤ r_20.toInt ∧ r_20.toInt ≤ ((9999 : Int32) : Int32).toInt) := d_r_20
  refine tot_oif (iv_oO h_T_21 k_a0 (by decide) (by decide) rfl) ?_
  refine tot_let (fun T_22 e_T_22 => ?_)
  have h_T_22 : IV R B K1 K2 T_22 := by rw [e_T_22]; exact iv_uI (a := 0) (b := 9999) h_T_21 k_a0 (by decide) (by decide) rfl (by omega) (.inl rfl)
  have x_T_22 := x_T_21.tr (fw_uI e_T_22 k_a0 (by decide))
  have f_T_22_o_1 : (T_22.2.2.1 o 1).toInt = (T_21.2.2.1 o 1).toInt := congrArg Int32.toInt ((fw_uI (W := [195]) e_T_22 k_a0 (by decide)) o 1 (by rw [k_o]; decide))
  exact tot_some ⟨⟨h_T_22, x_T_22⟩, fun _ => (show (0 ≤ (0 : Int32).toInt ∧ (0 : Int32).toInt ≤ 0) from by omega)⟩
set_option maxHeartbeats 4000000 in
set_option maxRecDepth 10000 in
theorem cs_X3_startLine {R : Nat → Nat} {B K1 K2 : Nat} (T : AT) (o : Nat) (a0 : Int32) (a1 : Int32) (h_T : IV R B K1 K2 T) (k_o : R o = 3) (g0 : 0 ≤ a0.toInt ∧ a0.toInt ≤ 1) (g1 : 3 ≤ a1.toInt ∧ a1.toInt ≤ 4) (g2 : (T.2.2.1 o 1).toInt ≤ 1000) : Tot (g_X3_startLine T o a0 a1) (fun r => (IV R B K1 K2 r.2.2 ∧ FW R [97, 98, 99] T r.2.2) ∧ (r.1 = 0 → (a0.toInt = 0))) := by
  have z0 : (0 : Int32).toInt = 0 := by decide
  have z1 : (1 : Int32).toInt = 1 := by decide
  have cc_101 : cnt 101 = 1 := rfl
  have cc_102 : cnt 102 = 12 := rfl
  have cc_103 : cnt 103 = 144 := rfl
  have cc_104 : cnt 104 = 2400 := rfl
  have cc_105 : cnt 105 = 7200 := rfl
  have x_T : FW R [97, 98, 99] T T := FW.rf
  have j_a0 := i_any a0
  have j_a1 := i_any a1
  unfold g_X3_startLine
  refine tot_if (fun c_4 => ?_) (fun c_4 => ?_)
  · replace c_4 := i_eq c_4
    unfold g_X3_startLine_b13
    refine tot_oif (iv_oO h_T k_o (by decide) (by decide) rfl) ?_
    refine tot_let (fun v_5 e_v_5 => ?_)
    have q_v_5 := i_eq e_v_5
    have r_v_5 : 0 ≤ v_5.toInt ∧ v_5.toInt ≤ 1001 := iv_int h_T k_o (by decide) (by decide) e_v_5 rfl
    refine tot_let (fun v_6 e_v_6 => ?_)
    have q_v_6 := i_add e_v_6 (by omega) (by omega)
    refine tot_oif (iv_oO h_T k_o (by decide) (by decide) rfl) ?_
    refine tot_let (fun T_7 e_T_7 => ?_)
    have h_T_7 : IV R B K1 K2 T_7 := by rw [e_T_7]; exact iv_uI (a := 0) (b := 1001) h_T k_o (by decide) (by decide) rfl (by omega) (.inl rfl)
    have x_T_7 := x_T.tr (fw_uI e_T_7 k_o (by decide))
    have f_T_7_o_1 : (T_7.2.2.1 o 1).toInt = (v_6 : Int32).toInt := by rw [e_T_7]; exact congrArg Int32.toInt (uI_at _ _ _ _)
    exact tot_some ⟨⟨h_T_7, x_T_7⟩, fun _ => (show (a0.toInt = 0) from by omega)⟩
  · replace c_4 := i_ne c_4
    refine tot_oif (iv_oO h_T k_o (by decide) (by decide) rfl) ?_
    refine tot_let (fun v_1 e_v_1 => ?_)
    have q_v_1 := i_eq e_v_1
    have r_v_1 : 0 ≤ v_1.toInt ∧ v_1.toInt ≤ 1001 := iv_int h_T k_o (by decide) (by decide) e_v_1 rfl
    refine tot_oif (iv_oO h_T k_o (by decide) (by decide) rfl) ?_
    refine tot_thri (R := R) (W := [98, 99]) (Q := fun r_2 : Int32 => (False)) (cs_X3_failAt T o v_1 a1 h_T k_o (by omega) (by omega)) (fun r_2 T_3 i_T_3 y_T_3 d_r_2 => ?_) (fun k_ U_ i_ y_ => ⟨⟨i_, x_T.tr (y_.w (by decide))⟩, fun q_ => absurd q_ (Nat.succ_ne_zero k_)⟩)
    have h_T_3 : IV R B K1 K2 T_3 := i_T_3
    have x_T_3 := x_T.tr (y_T_3.w (by decide))
    have f_T_3_o_1 : (T_3.2.2.1 o 1).toInt = (T.2.2.1 o 1).toInt := congrArg Int32.toInt (y_T_3 o 1 (by rw [k_o]; decide))
    replace d_r_2 : (False) := d_r_2
    exact d_r_2.elim
set_option maxHeartbeats 4000000 in
set_option maxRecDepth 10000 in
theorem cs_X3_parseOff {R : Nat → Nat} {B K1 K2 : Nat} (T : AT) (o : Nat) (a0 : Nat) (h_T : IV R B K1 K2 T) (k_o : R o = 3) (k_a0 : R a0 = 6) (g0 : (T.2.2.1 o 1).toInt ≤ 1000) : Tot (g_X3_parseOff T o a0) (fun r => (IV R B K1 K2 r.2.2 ∧ FW R [97, 98, 99, 233] T r.2.2) ∧ (r.1 = 0 → (0 ≤ r.2.1.toInt ∧ r.2.1.toInt ≤ 0))) := by
  have z0 : ((0 : Int32) : Int32).toInt = 0 := by decide
  have z1 : ((3 : Int32) : Int32).toInt = 3 := by decide
  have z2 : (1 : Int32).toInt = 1 := by decide
  have z3 : (0 : Int32).toInt = 0 := by decide
  have cc_101 : cnt 101 = 1 := rfl
  have cc_102 : cnt 102 = 12 := rfl
  have cc_103 : cnt 103 = 144 := rfl
  have cc_104 : cnt 104 = 2400 := rfl
  have cc_105 : cnt 105 = 7200 := rfl
  have x_T : FW R [97, 98, 99, 233] T T := FW.rf
  unfold g_X3_parseOff
  refine tot_oif (iv_oO h_T k_o (by decide) (by decide) rfl) ?_
  refine tot_thri (R := R) (W := [97, 98, 99]) (Q := fun r_1 : Int32 => (((0 : Int32) : Int32).toInt = 0)) (cs_X3_startLine T o (0 : Int32) (3 : Int32) h_T k_o (by omega) (by omega) (by omega)) (fun r_1 T_2 i_T_2 y_T_2 d_r_1 => ?_) (fun k_ U_ i_ y_ => ⟨⟨i_, x_T.tr (y_.w (by decide))⟩, fun q_ => absurd q_ (Nat.succ_ne_zero k_)⟩)
  have h_T_2 : IV R B K1 K2 T_2 := i_T_2
  have x_T_2 := x_T.tr (y_T_2.w (by decide))
  replace d_r_1 : (((0 : Int32) : Int32).toInt = 0) := d_r_1
  refine tot_oif (iv_oO h_T_2 k_a0 (by decide) (by decide) rfl) ?_
  refine tot_let (fun v_3 e_v_3 => ?_)
  have r_v_3 : 0 ≤ v_3.toInt ∧ v_3.toInt ≤ 6 := iv_int h_T_2 k_a0 (by decide) (by decide) e_v_3 rfl
  refine tot_let (fun v_4 e_v_4 => ?_)
  have q_v_4 := i_sub e_v_4 (by omega) (by omega)
  refine tot_oif (iv_oO h_T_2 k_o (by decide) (by decide) rfl) ?_
  refine tot_thri (R := R) (W := [97, 98, 99]) (Q := fun r_5 : Int32 => (((0 : Int32) : Int32).toInt ≤ r_5.toInt ∧ r_5.toInt ≤ v_4.toInt)) (cs_X3_number T_2 o (0 : Int32) v_4 h_T_2 k_o ) (fun r_5 T_6 i_T_6 y_T_6 d_r_5 => ?_) (fun k_ U_ i_ y_ => ⟨⟨i_, x_T_2.tr (y_.w (by decide))⟩, fun q_ => absurd q_ (Nat.succ_ne_zero k_)⟩)
  have h_T_6 : IV R B K1 K2 T_6 := i_T_6
  have x_T_6 := x_T_2.tr (y_T_6.w (by decide))
  replace d_r_5 : (((0 : Int32) : Int32).toInt ≤ r_5.toInt ∧ r_5.toInt ≤ v_4.toInt) := d_r_5
  refine tot_oif (iv_oO h_T_6 k_a0 (by decide) (by decide) rfl) ?_
  refine tot_ref h_T_6 k_a0 (by decide) (by decide) (r2 := 54) (rfl : rtg 6 7 = 54) (by decide) (fun n_7 k_n_7 e_n_7 => ?_)
  refine tot_oif (iv_aA h_T_6 k_n_7 (by decide) (by decide) rfl rfl) ?_
  refine tot_oif (by rw [iv_len h_T_6 k_n_7 (by decide) (by decide) (rfl : shp 54 = (104, 6))]; exact i_inb (by omega) (by omega)) ?_
  refine tot_ref h_T_6 k_n_7 (by decide) (by decide) (r2 := 7) (rt_54 (by omega) (by omega)) (by decide) (fun n_8 k_n_8 e_n_8 => ?_)
  refine tot_oif (iv_oO h_T_6 k_n_8 (by decide) (by decide) rfl) ?_
  refine tot_let (fun v_9 e_v_9 => ?_)
  have r_v_9 : 0 ≤ v_9.toInt ∧ v_9.toInt ≤ 1 := iv_int h_T_6 k_n_8 (by decide) (by decide) e_v_9 rfl
  refine tot_if (fun c_14 => ?_) (fun c_14 => ?_)
  · replace c_14 := i_eq c_14
    unfold g_X3_parseOff_b41
    refine tot_oif (iv_oO h_T_6 k_a0 (by decide) (by decide) rfl) ?_
    refine tot_ref1 e_n_7 ?_
    refine tot_oif (iv_aA h_T_6 k_n_7 (by decide) (by decide) rfl rfl) ?_
    refine tot_oif (by rw [iv_len h_T_6 k_n_7 (by decide) (by decide) (rfl : shp 54 = (104, 6))]; exact i_inb (by omega) (by omega)) ?_
    refine tot_ref1 e_n_8 ?_
    refine tot_oif (iv_oO h_T_6 k_n_8 (by decide) (by decide) rfl) ?_
    refine tot_let (fun T_17 e_T_17 => ?_)
    have h_T_17 : IV R B K1 K2 T_17 := by rw [e_T_17]; exact iv_uI (a := 0) (b := 1) h_T_6 k_n_8 (by decide) (by decide) rfl (by omega) (.inl rfl)
    have x_T_17 := x_T_6.tr (fw_uI e_T_17 k_n_8 (by decide))
    have f_T_17_o_1 : (T_17.2.2.1 o 1).toInt = (T_6.2.2.1 o 1).toInt := congrArg Int32.toInt ((fw_uI (W := [233]) e_T_17 k_n_8 (by decide)) o 1 (by rw [k_o]; decide))
    exact tot_some ⟨⟨h_T_17, x_T_17⟩, fun _ => (show (0 ≤ (0 : Int32).toInt ∧ (0 : Int32).toInt ≤ 0) from by omega)⟩
  · replace c_14 := i_ne c_14
    refine tot_oif (iv_oO h_T_6 k_o (by decide) (by decide) rfl) ?_
    refine tot_let (fun v_10 e_v_10 => ?_)
    have q_v_10 := i_eq e_v_10
    have r_v_10 : 0 ≤ v_10.toInt ∧ v_10.toInt ≤ 1001 := iv_int h_T_6 k_o (by decide) (by decide) e_v_10 rfl
    refine tot_let (fun v_11 e_v_11 => ?_)
    have q_v_11 := i_sub e_v_11 (by omega) (by omega)
    refine tot_oif (iv_oO h_T_6 k_o (by decide) (by decide) rfl) ?_
    refine tot_thri (R := R) (W := [98, 99]) (Q := fun r_12 : Int32 => (False)) (cs_X3_failAt T_6 o v_11 (3 : Int32) h_T_6 k_o (by omega) (by omega)) (fun r_12 T_13 i_T_13 y_T_13 d_r_12 => ?_) (fun k_ U_ i_ y_ => ⟨⟨i_, x_T_6.tr (y_.w (by decide))⟩, fun q_ => absurd q_ (Nat.succ_ne_zero k_)⟩)
    have h_T_13 : IV R B K1 K2 T_13 := i_T_13
    have x_T_13 := x_T_6.tr (y_T_13.w (by decide))
    have f_T_13_o_1 : (T_13.2.2.1 o 1).toInt = (T_6.2.2.1 o 1).toInt := congrArg Int32.toInt (y_T_13 o 1 (by rw [k_o]; decide))
    replace d_r_12 : (False) := d_r_12
    exact d_r_12.elim
set_option maxHeartbeats 4000000 in
set_option maxRecDepth 10000 in
theorem cs_X6_addShade {R : Nat → Nat} {B K1 K2 : Nat} (T : AT) (o : Nat) (a0 : Int32) (h_T : IV R B K1 K2 T) (k_o : R o = 6) (g0 : 0 ≤ a0.toInt ∧ a0.toInt ≤ 9) : Tot (g_X6_addShade T o a0) (fun T1 => IV R B K1 K2 T1 ∧ FW R [208, 1856] T T1) := by
  have z0 : (12 : Int32).toInt = 12 := by decide
  have z1 : (1 : Int32).toInt = 1 := by decide
  have cc_101 : cnt 101 = 1 := rfl
  have cc_102 : cnt 102 = 12 := rfl
  have cc_103 : cnt 103 = 144 := rfl
  have cc_104 : cnt 104 = 2400 := rfl
  have cc_105 : cnt 105 = 7200 := rfl
  have x_T : FW R [208, 1856] T T := FW.rf
  have j_a0 := i_any a0
  unfold g_X6_addShade
  refine tot_oif (iv_oO h_T k_o (by decide) (by decide) rfl) ?_
  refine tot_let (fun v_1 e_v_1 => ?_)
  have q_v_1 := i_eq e_v_1
  have r_v_1 : 0 ≤ v_1.toInt ∧ v_1.toInt ≤ 12 := iv_int h_T k_o (by decide) (by decide) e_v_1 rfl
  refine tot_if (fun c_8 => ?_) (fun c_8 => ?_)
  · replace c_8 := i_le c_8
    unfold g_X6_addShade_b29
    exact tot_some ⟨h_T, x_T⟩
  · replace c_8 := i_nle c_8
    refine tot_oif (iv_oO h_T k_o (by decide) (by decide) rfl) ?_
    refine tot_ref h_T k_o (by decide) (by decide) (r2 := 58) (rfl : rtg 6 15 = 58) (by decide) (fun n_2 k_n_2 e_n_2 => ?_)
    refine tot_oif (iv_oO h_T k_o (by decide) (by decide) rfl) ?_
    refine tot_let (fun v_3 e_v_3 => ?_)
    have u_v_3 : v_3.toInt = v_1.toInt := by rw [e_v_3, e_v_1]
    have q_v_3 := i_eq e_v_3
    have r_v_3 : 0 ≤ v_3.toInt ∧ v_3.toInt ≤ 12 := iv_int h_T k_o (by decide) (by decide) e_v_3 rfl
    refine tot_oif (iv_aA h_T k_n_2 (by decide) (by decide) rfl rfl) ?_
    refine tot_oif (by rw [iv_len h_T k_n_2 (by decide) (by decide) (rfl : shp 58 = (100, 12))]; exact i_inb (by omega) (by omega)) ?_
    refine tot_let (fun T_4 e_T_4 => ?_)
    have h_T_4 : IV R B K1 K2 T_4 := by rw [e_T_4]; exact iv_uI (a := 0) (b := 9) h_T k_n_2 (by decide) (by decide) rfl (by omega) (.inl rfl)
    have x_T_4 := x_T.tr (fw_uA e_T_4 k_n_2 rfl rfl (by decide))
    have f_T_4_o_16 : (T_4.2.2.1 o 16).toInt = (T.2.2.1 o 16).toInt := congrArg Int32.toInt ((fw_uA (W := [1856]) e_T_4 k_n_2 rfl rfl (by decide)) o 16 (by rw [k_o]; decide))
    refine tot_oif (iv_oO h_T_4 k_o (by decide) (by decide) rfl) ?_
    refine tot_let (fun v_5 e_v_5 => ?_)
    have q_v_5 := i_eq e_v_5
    have r_v_5 : 0 ≤ v_5.toInt ∧ v_5.toInt ≤ 12 := iv_int h_T_4 k_o (by decide) (by decide) e_v_5 rfl
    refine tot_let (fun v_6 e_v_6 => ?_)
    have q_v_6 := i_add e_v_6 (by omega) (by omega)
    refine tot_oif (iv_oO h_T_4 k_o (by decide) (by decide) rfl) ?_
    refine tot_let (fun T_7 e_T_7 => ?_)
    have h_T_7 : IV R B K1 K2 T_7 := by rw [e_T_7]; exact iv_uI (a := 0) (b := 12) h_T_4 k_o (by decide) (by decide) rfl (by omega) (.inl rfl)
    have x_T_7 := x_T_4.tr (fw_uI e_T_7 k_o (by decide))
    have f_T_7_o_16 : (T_7.2.2.1 o 16).toInt = (v_6 : Int32).toInt := by rw [e_T_7]; exact congrArg Int32.toInt (uI_at _ _ _ _)
    unfold g_X6_addShade_b29
    exact tot_some ⟨h_T_7, x_T_7⟩
set_option maxHeartbeats 4000000 in
set_option maxRecDepth 10000 in
theorem cs_X3_failAsTooMany {R : Nat → Nat} {B K1 K2 : Nat} (T : AT) (o : Nat) (a0 : Int32) (h_T : IV R B K1 K2 T) (k_o : R o = 3) (g0 : 9 ≤ a0.toInt ∧ a0.toInt ≤ 9) : Tot (g_X3_failAsTooMany T o a0) (fun r => (IV R B K1 K2 r.2.2 ∧ FW R [98, 99] T r.2.2) ∧ (r.1 = 0 → (False))) := by
  have z0 : (2 : Int32).toInt = 2 := by decide
  have z1 : (4 : Int32).toInt = 4 := by decide
  have cc_101 : cnt 101 = 1 := rfl
  have cc_102 : cnt 102 = 12 := rfl
  have cc_103 : cnt 103 = 144 := rfl
  have cc_104 : cnt 104 = 2400 := rfl
  have cc_105 : cnt 105 = 7200 := rfl
  have x_T : FW R [98, 99] T T := FW.rf
  have j_a0 := i_any a0
  unfold g_X3_failAsTooMany
  refine tot_oif (iv_oO h_T k_o (by decide) (by decide) rfl) ?_
  refine tot_let (fun v_1 e_v_1 => ?_)
  have q_v_1 := i_eq e_v_1
  have r_v_1 : 0 ≤ v_1.toInt ∧ v_1.toInt ≤ 1001 := iv_int h_T k_o (by decide) (by decide) e_v_1 rfl
  refine tot_oif (iv_oO h_T k_o (by decide) (by decide) rfl) ?_
  refine tot_bindq (R := fun r_2 : Int32 => (r_2.toInt = 5 ∨ (T.2.2.1 o 1).toInt ≤ 1000)) (cs_X3_kind T o h_T k_o ) (fun r_2 d_r_2 => ?_)
  replace d_r_2 : (r_2.toInt = 5 ∨ (T.2.2.1 o 1).toInt ≤ 1000) := d_r_2
  refine tot_if (fun c_6 => ?_) (fun c_6 => ?_)
  · replace c_6 := i_eq c_6
    refine tot_oif (iv_oO h_T k_o (by decide) (by decide) rfl) ?_
    refine tot_bindq (R := fun r_4 : Int32 => True) (cs_X3_value T o h_T k_o (by omega)) (fun r_4 d_r_4 => ?_)
    have r_r_4 := i_any r_4
    refine tot_if (fun c_7 => ?_) (fun c_7 => ?_)
    · replace c_7 := i_le c_7
      unfold g_X3_failAsTooMany_b25
      unfold g_X3_failAsTooMany_b26
      refine tot_oif (iv_oO h_T k_o (by decide) (by decide) rfl) ?_
      refine tot_thri (R := R) (W := [98, 99]) (Q := fun r_8 : Int32 => (False)) (cs_X3_failAt T o v_1 4 h_T k_o (by omega) (by omega)) (fun r_8 T_9 i_T_9 y_T_9 d_r_8 => ?_) (fun k_ U_ i_ y_ => ⟨⟨i_, x_T.tr (y_.w (by decide))⟩, fun q_ => absurd q_ (Nat.succ_ne_zero k_)⟩)
      have h_T_9 : IV R B K1 K2 T_9 := i_T_9
      have x_T_9 := x_T.tr (y_T_9.w (by decide))
      have f_T_9_o_1 : (T_9.2.2.1 o 1).toInt = (T.2.2.1 o 1).toInt := congrArg Int32.toInt (y_T_9 o 1 (by rw [k_o]; decide))
      replace d_r_8 : (False) := d_r_8
      exact d_r_8.elim
    · replace c_7 := i_nle c_7
      unfold g_X3_failAsTooMany_b26
      refine tot_oif (iv_oO h_T k_o (by decide) (by decide) rfl) ?_
      refine tot_thri (R := R) (W := [98, 99]) (Q := fun r_10 : Int32 => (False)) (cs_X3_failAt T o v_1 2 h_T k_o (by omega) (by omega)) (fun r_10 T_11 i_T_11 y_T_11 d_r_10 => ?_) (fun k_ U_ i_ y_ => ⟨⟨i_, x_T.tr (y_.w (by decide))⟩, fun q_ => absurd q_ (Nat.succ_ne_zero k_)⟩)
      have h_T_11 : IV R B K1 K2 T_11 := i_T_11
      have x_T_11 := x_T.tr (y_T_11.w (by decide))
      have f_T_11_o_1 : (T_11.2.2.1 o 1).toInt = (T.2.2.1 o 1).toInt := congrArg Int32.toInt (y_T_11 o 1 (by rw [k_o]; decide))
      replace d_r_10 : (False) := d_r_10
      exact d_r_10.elim
  · replace c_6 := i_ne c_6
    unfold g_X3_failAsTooMany_b25
    unfold g_X3_failAsTooMany_b26
    refine tot_oif (iv_oO h_T k_o (by decide) (by decide) rfl) ?_
    refine tot_thri (R := R) (W := [98, 99]) (Q := fun r_12 : Int32 => (False)) (cs_X3_failAt T o v_1 4 h_T k_o (by omega) (by omega)) (fun r_12 T_13 i_T_13 y_T_13 d_r_12 => ?_) (fun k_ U_ i_ y_ => ⟨⟨i_, x_T.tr (y_.w (by decide))⟩, fun q_ => absurd q_ (Nat.succ_ne_zero k_)⟩)
    have h_T_13 : IV R B K1 K2 T_13 := i_T_13
    have x_T_13 := x_T.tr (y_T_13.w (by decide))
    have f_T_13_o_1 : (T_13.2.2.1 o 1).toInt = (T.2.2.1 o 1).toInt := congrArg Int32.toInt (y_T_13 o 1 (by rw [k_o]; decide))
    replace d_r_12 : (False) := d_r_12
    exact d_r_12.elim
set_option maxHeartbeats 4000000 in
set_option maxRecDepth 10000 in
theorem cl_X3_parseShade_b30 {R : Nat → Nat} {B K1 K2 : Nat} {Q : Nat × Int32 × AT → Prop} (l0 : Nat) (l1 : Nat) (T00 : AT) (k_l0 : R l0 = 3) (k_l1 : R l1 = 6) (hthr : ∀ (k : Nat) (U : AT), IV R B K1 K2 U → FW R [97, 98, 99, 208, 1856] T00 U → Q (k + 1, 0, U)) (hx0 : ∀ (T : AT), (IV R B K1 K2 T) → (FW R [97, 98, 99, 208, 1856] T00 T) → Tot (g_X3_parseShade_b73 T) Q) : ∀ (n : Nat) (T : AT) (l2 : Int32), (IV R B K1 K2 T) → (FW R [97, 98, 99, 208, 1856] T00 T) → (1 ≤ l2.toInt ∧ l2.toInt ≤ 12) → 12 - l2.toInt < (n : Int) → Tot (g_X3_parseShade_b30 n T l0 l1 l2) Q := by
  have z0 : (12 : Int32).toInt = 12 := by decide
  have z1 : (2 : Int32).toInt = 2 := by decide
  have z2 : ((9 : Int32) : Int32).toInt = 9 := by decide
  have z3 : ((0 : Int32) : Int32).toInt = 0 := by decide
  have z4 : (Int32.ofInt (1) : Int32).toInt = 1 := by decide
  have cc_101 : cnt 101 = 1 := rfl
  have cc_102 : cnt 102 = 12 := rfl
  have cc_103 : cnt 103 = 144 := rfl
  have cc_104 : cnt 104 = 2400 := rfl
  have cc_105 : cnt 105 = 7200 := rfl
  intro n
  induction n with
  | zero =>
    intro T l2 h_T x_T g_l2 hm
    exfalso
    omega
  | succ n ih =>
    intro T l2 h_T x_T g_l2 hm
    unfold g_X3_parseShade_b30
    refine tot_if (fun c_36 => ?_) (fun c_36 => ?_)
    · replace c_36 := i_lt c_36
      exfalso
      omega
    · replace c_36 := i_nlt c_36
      refine tot_oif (iv_oO h_T k_l0 (by decide) (by decide) rfl) ?_
      refine tot_bindq (R := fun r_32 : Int32 => (r_32.toInt = 5 ∨ (T.2.2.1 l0 1).toInt ≤ 1000)) (cs_X3_kind T l0 h_T k_l0 ) (fun r_32 d_r_32 => ?_)
      replace d_r_32 : (r_32.toInt = 5 ∨ (T.2.2.1 l0 1).toInt ≤ 1000) := d_r_32
      refine tot_if (fun c_37 => ?_) (fun c_37 => ?_)
      · replace c_37 := i_eq c_37
        refine tot_if (fun c_38 => ?_) (fun c_38 => ?_)
        · replace c_38 := i_eq c_38
          refine tot_oif (iv_oO h_T k_l0 (by decide) (by decide) rfl) ?_
          refine tot_thri (R := R) (W := [98, 99]) (Q := fun r_34 : Int32 => (False)) (cs_X3_failAsTooMany T l0 (9 : Int32) h_T k_l0 (by omega)) (fun r_34 T_35 i_T_35 y_T_35 d_r_34 => ?_) (fun k_ U_ i_ y_ => hthr _ _ i_ (x_T.tr (y_.w (by decide))))
          have h_T_35 : IV R B K1 K2 T_35 := i_T_35
          have x_T_35 := x_T.tr (y_T_35.w (by decide))
          have f_T_35_l0_1 : (T_35.2.2.1 l0 1).toInt = (T.2.2.1 l0 1).toInt := congrArg Int32.toInt (y_T_35 l0 1 (by rw [k_l0]; decide))
          replace d_r_34 : (False) := d_r_34
          exact d_r_34.elim
        · replace c_38 := i_ne c_38
          unfold g_X3_parseShade_b56
          refine tot_oif (iv_oO h_T k_l0 (by decide) (by decide) rfl) ?_
          refine tot_thri (R := R) (W := [97, 98, 99]) (Q := fun r_39 : Int32 => (((0 : Int32) : Int32).toInt ≤ r_39.toInt ∧ r_39.toInt ≤ ((9 : Int32) : Int32).toInt)) (cs_X3_number T l0 (0 : Int32) (9 : Int32) h_T k_l0 ) (fun r_39 T_40 i_T_40 y_T_40 d_r_39 => ?_) (fun k_ U_ i_ y_ => hthr _ _ i_ (x_T.tr (y_.w (by decide))))
          have h_T_40 : IV R B K1 K2 T_40 := i_T_40
          have x_T_40 := x_T.tr (y_T_40.w (by decide))
          replace d_r_39 : (((0 : Int32) : Int32).toInt ≤ r_39.toInt ∧ r_39.toInt ≤ ((9 : Int32) : Int32).toInt) := d_r_39
          refine tot_oif (iv_oO h_T_40 k_l1 (by decide) (by decide) rfl) ?_
          refine tot_bind (cs_X6_addShade T_40 l1 r_39 h_T_40 k_l1 (by omega)) (fun T_41 d_T_41 => ?_)
          have h_T_41 : IV R B K1 K2 T_41 := d_T_41.1
          have y_T_41 : FW R [208, 1856] T_40 T_41 := d_T_41.2
          have x_T_41 := x_T_40.tr (y_T_41.w (by decide))
          have f_T_41_l0_1 : (T_41.2.2.1 l0 1).toInt = (T_40.2.2.1 l0 1).toInt := congrArg Int32.toInt (y_T_41 l0 1 (by rw [k_l0]; decide))
          refine tot_let (fun v_42 e_v_42 => ?_)
          have q_v_42 := i_add e_v_42 (by omega) (by omega)
          exact ih T_41 v_42 h_T_41 x_T_41 (by omega) (by omega)
      · replace c_37 := i_ne c_37
        exact hx0 T h_T x_T
set_option maxHeartbeats 4000000 in
set_option maxRecDepth 10000 in
theorem cs_X3_parseShade {R : Nat → Nat} {B K1 K2 : Nat} (T : AT) (o : Nat) (a0 : Nat) (h_T : IV R B K1 K2 T) (k_o : R o = 3) (k_a0 : R a0 = 6) (g0 : (T.2.2.1 o 1).toInt ≤ 1000) : Tot (g_X3_parseShade T o a0) (fun r => (IV R B K1 K2 r.2.2 ∧ FW R [97, 98, 99, 208, 1856] T r.2.2) ∧ (r.1 = 0 → (0 ≤ r.2.1.toInt ∧ r.2.1.toInt ≤ 0))) := by
  have z0 : (0 : Int32).toInt = 0 := by decide
  have z1 : ((3 : Int32) : Int32).toInt = 3 := by decide
  have z2 : ((0 : Int32) : Int32).toInt = 0 := by decide
  have z3 : ((9 : Int32) : Int32).toInt = 9 := by decide
  have z4 : (1 : Int32).toInt = 1 := by decide
  have cc_101 : cnt 101 = 1 := rfl
  have cc_102 : cnt 102 = 12 := rfl
  have cc_103 : cnt 103 = 144 := rfl
  have cc_104 : cnt 104 = 2400 := rfl
  have cc_105 : cnt 105 = 7200 := rfl
  have x_T : FW R [97, 98, 99, 208, 1856] T T := FW.rf
  unfold g_X3_parseShade
  refine tot_oif (iv_oO h_T k_a0 (by decide) (by decide) rfl) ?_
  refine tot_let (fun v_1 e_v_1 => ?_)
  have r_v_1 : 0 ≤ v_1.toInt ∧ v_1.toInt ≤ 12 := iv_int h_T k_a0 (by decide) (by decide) e_v_1 rfl
  refine tot_if (fun c_2 => ?_) (fun c_2 => ?_)
  · replace c_2 := i_le c_2
    unfold g_X3_parseShade_b13
    refine tot_oif (iv_oO h_T k_o (by decide) (by decide) rfl) ?_
    refine tot_thri (R := R) (W := [97, 98, 99]) (Q := fun r_3 : Int32 => ((0 : Int32).toInt = 0)) (cs_X3_startLine T o 0 (3 : Int32) h_T k_o (by omega) (by omega) (by omega)) (fun r_3 T_4 i_T_4 y_T_4 d_r_3 => ?_) (fun k_ U_ i_ y_ => ⟨⟨i_, x_T.tr (y_.w (by decide))⟩, fun q_ => absurd q_ (Nat.succ_ne_zero k_)⟩)
    have h_T_4 : IV R B K1 K2 T_4 := i_T_4
    have x_T_4 := x_T.tr (y_T_4.w (by decide))
    replace d_r_3 : ((0 : Int32).toInt = 0) := d_r_3
    refine tot_oif (iv_oO h_T_4 k_o (by decide) (by decide) rfl) ?_
    refine tot_thri (R := R) (W := [97, 98, 99]) (Q := fun r_5 : Int32 => (((0 : Int32) : Int32).toInt ≤ r_5.toInt ∧ r_5.toInt ≤ ((9 : Int32) : Int32).toInt)) (cs_X3_number T_4 o (0 : Int32) (9 : Int32) h_T_4 k_o ) (fun r_5 T_6 i_T_6 y_T_6 d_r_5 => ?_) (fun k_ U_ i_ y_ => ⟨⟨i_, x_T_4.tr (y_.w (by decide))⟩, fun q_ => absurd q_ (Nat.succ_ne_zero k_)⟩)
    have h_T_6 : IV R B K1 K2 T_6 := i_T_6
    have x_T_6 := x_T_4.tr (y_T_6.w (by decide))
    replace d_r_5 : (((0 : Int32) : Int32).toInt ≤ r_5.toInt ∧ r_5.toInt ≤ ((9 : Int32) : Int32).toInt) := d_r_5
    refine tot_oif (iv_oO h_T_6 k_a0 (by decide) (by decide) rfl) ?_
    refine tot_bind (cs_X6_addShade T_6 a0 r_5 h_T_6 k_a0 (by omega)) (fun T_7 d_T_7 => ?_)
    have h_T_7 : IV R B K1 K2 T_7 := d_T_7.1
    have y_T_7 : FW R [208, 1856] T_6 T_7 := d_T_7.2
    have x_T_7 := x_T_6.tr (y_T_7.w (by decide))
    have f_T_7_o_1 : (T_7.2.2.1 o 1).toInt = (T_6.2.2.1 o 1).toInt := congrArg Int32.toInt (y_T_7 o 1 (by rw [k_o]; decide))
    refine cl_X3_parseShade_b30 o a0 T k_o k_a0 (fun k_ U_ i_ x_ => ⟨⟨i_, x_⟩, fun q_ => absurd q_ (Nat.succ_ne_zero k_)⟩) ?_ 16384 T_7 1 h_T_7 x_T_7 (by omega) (by omega)
    · intro T_43 h_T_43 x_T_43
      unfold g_X3_parseShade_b73
      exact tot_some ⟨⟨h_T_43, x_T_43⟩, fun _ => (show (0 ≤ (0 : Int32).toInt ∧ (0 : Int32).toInt ≤ 0) from by omega)⟩
  · replace c_2 := i_nle c_2
    unfold g_X3_parseShade_b13
    refine tot_oif (iv_oO h_T k_o (by decide) (by decide) rfl) ?_
    refine tot_thri (R := R) (W := [97, 98, 99]) (Q := fun r_44 : Int32 => ((1 : Int32).toInt = 0)) (cs_X3_startLine T o 1 (3 : Int32) h_T k_o (by omega) (by omega) (by omega)) (fun r_44 T_45 i_T_45 y_T_45 d_r_44 => ?_) (fun k_ U_ i_ y_ => ⟨⟨i_, x_T.tr (y_.w (by decide))⟩, fun q_ => absurd q_ (Nat.succ_ne_zero k_)⟩)
    have h_T_45 : IV R B K1 K2 T_45 := i_T_45
    have x_T_45 := x_T.tr (y_T_45.w (by decide))
    replace d_r_44 : ((1 : Int32).toInt = 0) := d_r_44
    refine tot_oif (iv_oO h_T_45 k_o (by decide) (by decide) rfl) ?_
    refine tot_thri (R := R) (W := [97, 98, 99]) (Q := fun r_46 : Int32 => (((0 : Int32) : Int32).toInt ≤ r_46.toInt ∧ r_46.toInt ≤ ((9 : Int32) : Int32).toInt)) (cs_X3_number T_45 o (0 : Int32) (9 : Int32) h_T_45 k_o ) (fun r_46 T_47 i_T_47 y_T_47 d_r_46 => ?_) (fun k_ U_ i_ y_ => ⟨⟨i_, x_T_45.tr (y_.w (by decide))⟩, fun q_ => absurd q_ (Nat.succ_ne_zero k_)⟩)
    have h_T_47 : IV R B K1 K2 T_47 := i_T_47
    have x_T_47 := x_T_45.tr (y_T_47.w (by decide))
    replace d_r_46 : (((0 : Int32) : Int32).toInt ≤ r_46.toInt ∧ r_46.toInt ≤ ((9 : Int32) : Int32).toInt) := d_r_46
    refine tot_oif (iv_oO h_T_47 k_a0 (by decide) (by decide) rfl) ?_
    refine tot_bind (cs_X6_addShade T_47 a0 r_46 h_T_47 k_a0 (by omega)) (fun T_48 d_T_48 => ?_)
    have h_T_48 : IV R B K1 K2 T_48 := d_T_48.1
    have y_T_48 : FW R [208, 1856] T_47 T_48 := d_T_48.2
    have x_T_48 := x_T_47.tr (y_T_48.w (by decide))
    have f_T_48_o_1 : (T_48.2.2.1 o 1).toInt = (T_47.2.2.1 o 1).toInt := congrArg Int32.toInt (y_T_48 o 1 (by rw [k_o]; decide))
    refine cl_X3_parseShade_b30 o a0 T k_o k_a0 (fun k_ U_ i_ x_ => ⟨⟨i_, x_⟩, fun q_ => absurd q_ (Nat.succ_ne_zero k_)⟩) ?_ 16384 T_48 1 h_T_48 x_T_48 (by omega) (by omega)
    · intro T_49 h_T_49 x_T_49
      unfold g_X3_parseShade_b73
      exact tot_some ⟨⟨h_T_49, x_T_49⟩, fun _ => (show (0 ≤ (0 : Int32).toInt ∧ (0 : Int32).toInt ≤ 0) from by omega)⟩
end
section
/-! 13d.cc2.lean.txt -/
set_option maxHeartbeats 4000000 in
set_option maxRecDepth 10000 in
theorem cs_X3_parseZone {R : Nat → Nat} {B K1 K2 : Nat} (T : AT) (o : Nat) (a0 : Nat) (h_T : IV R B K1 K2 T) (k_o : R o = 3) (k_a0 : R a0 = 1) (g0 : (T.2.2.1 o 1).toInt ≤ 1000) : Tot (g_X3_parseZone T o a0) (fun r => (IV R B K1 K2 r.2.2 ∧ FW R [39, 97, 98, 99, 1888] T r.2.2) ∧ (r.1 = 0 → (0 ≤ r.2.1.toInt ∧ r.2.1.toInt ≤ 0))) := by
  have z0 : (4 : Int32).toInt = 4 := by decide
  have z1 : (0 : Int32).toInt = 0 := by decide
  have z2 : ((4 : Int32) : Int32).toInt = 4 := by decide
  have z3 : (1 : Int32).toInt = 1 := by decide
  have z4 : ((0 : Int32) : Int32).toInt = 0 := by decide
  have z5 : (2 : Int32).toInt = 2 := by decide
  have z6 : (3 : Int32).toInt = 3 := by decide
  have cc_101 : cnt 101 = 1 := rfl
  have cc_102 : cnt 102 = 12 := rfl
  have cc_103 : cnt 103 = 144 := rfl
  have cc_104 : cnt 104 = 2400 := rfl
  have cc_105 : cnt 105 = 7200 := rfl
  have x_T : FW R [39, 97, 98, 99, 1888] T T := FW.rf
  unfold g_X3_parseZone
  refine tot_oif (iv_oO h_T k_a0 (by decide) (by decide) rfl) ?_
  refine tot_let (fun v_1 e_v_1 => ?_)
  have q_v_1 := i_eq e_v_1
  have r_v_1 : 0 ≤ v_1.toInt ∧ v_1.toInt ≤ 4 := iv_int h_T k_a0 (by decide) (by decide) e_v_1 rfl
  refine tot_if (fun c_2 => ?_) (fun c_2 => ?_)
  · replace c_2 := i_lt c_2
    unfold g_X3_parseZone_b14
    refine tot_oif (iv_oO h_T k_o (by decide) (by decide) rfl) ?_
    refine tot_thri (R := R) (W := [97, 98, 99]) (Q := fun r_3 : Int32 => ((0 : Int32).toInt = 0)) (cs_X3_startLine T o 0 (4 : Int32) h_T k_o (by omega) (by omega) (by omega)) (fun r_3 T_4 i_T_4 y_T_4 d_r_3 => ?_) (fun k_ U_ i_ y_ => ⟨⟨i_, x_T.tr (y_.w (by decide))⟩, fun q_ => absurd q_ (Nat.succ_ne_zero k_)⟩)
    have h_T_4 : IV R B K1 K2 T_4 := i_T_4
    have x_T_4 := x_T.tr (y_T_4.w (by decide))
    have f_T_4_a0_7 : (T_4.2.2.1 a0 7).toInt = (T.2.2.1 a0 7).toInt := congrArg Int32.toInt (y_T_4 a0 7 (by rw [k_a0]; decide))
    replace d_r_3 : ((0 : Int32).toInt = 0) := d_r_3
    refine tot_oif (iv_oO h_T_4 k_a0 (by decide) (by decide) rfl) ?_
    refine tot_ref h_T_4 k_a0 (by decide) (by decide) (r2 := 60) (rfl : rtg 1 6 = 60) (by decide) (fun n_5 k_n_5 e_n_5 => ?_)
    refine tot_oif (iv_oO h_T_4 k_a0 (by decide) (by decide) rfl) ?_
    refine tot_let (fun v_6 e_v_6 => ?_)
    have q_v_6 := i_eq e_v_6
    have r_v_6 : 0 ≤ v_6.toInt ∧ v_6.toInt ≤ 4 := iv_int h_T_4 k_a0 (by decide) (by decide) e_v_6 rfl
    refine tot_oif (iv_aA h_T_4 k_n_5 (by decide) (by decide) rfl rfl) ?_
    refine tot_oif (by rw [iv_len h_T_4 k_n_5 (by decide) (by decide) (rfl : shp 60 = (106, 4))]; exact i_inb (by omega) (by omega)) ?_
    refine tot_ref h_T_4 k_n_5 (by decide) (by decide) (r2 := 59) (rt_60 (by omega) (by omega)) (by decide) (fun n_7 k_n_7 e_n_7 => ?_)
    refine tot_oif (iv_oO h_T_4 k_a0 (by decide) (by decide) rfl) ?_
    refine tot_let (fun v_8 e_v_8 => ?_)
    have r_v_8 : 0 ≤ v_8.toInt ∧ v_8.toInt ≤ 12 := iv_int h_T_4 k_a0 (by decide) (by decide) e_v_8 rfl
    refine tot_let (fun v_9 e_v_9 => ?_)
    have q_v_9 := i_sub e_v_9 (by omega) (by omega)
    refine tot_oif (iv_oO h_T_4 k_o (by decide) (by decide) rfl) ?_
    refine tot_thri (R := R) (W := [97, 98, 99]) (Q := fun r_10 : Int32 => (((0 : Int32) : Int32).toInt ≤ r_10.toInt ∧ r_10.toInt ≤ v_9.toInt)) (cs_X3_number T_4 o (0 : Int32) v_9 h_T_4 k_o ) (fun r_10 T_11 i_T_11 y_T_11 d_r_10 => ?_) (fun k_ U_ i_ y_ => ⟨⟨i_, x_T_4.tr (y_.w (by decide))⟩, fun q_ => absurd q_ (Nat.succ_ne_zero k_)⟩)
    have h_T_11 : IV R B K1 K2 T_11 := i_T_11
    have x_T_11 := x_T_4.tr (y_T_11.w (by decide))
    have f_T_11_a0_7 : (T_11.2.2.1 a0 7).toInt = (T_4.2.2.1 a0 7).toInt := congrArg Int32.toInt (y_T_11 a0 7 (by rw [k_a0]; decide))
    replace d_r_10 : (((0 : Int32) : Int32).toInt ≤ r_10.toInt ∧ r_10.toInt ≤ v_9.toInt) := d_r_10
    refine tot_oif (iv_aA h_T_11 k_n_7 (by decide) (by decide) rfl rfl) ?_
    refine tot_oif (by rw [iv_len h_T_11 k_n_7 (by decide) (by decide) (rfl : shp 59 = (100, 4))]; exact i_inb (by omega) (by omega)) ?_
    refine tot_let (fun T_12 e_T_12 => ?_)
    have h_T_12 : IV R B K1 K2 T_12 := by rw [e_T_12]; exact iv_uI (a := 0) (b := 11) h_T_11 k_n_7 (by decide) (by decide) rfl (by omega) (.inl rfl)
    have x_T_12 := x_T_11.tr (fw_uA e_T_12 k_n_7 rfl rfl (by decide))
    have f_T_12_o_1 : (T_12.2.2.1 o 1).toInt = (T_11.2.2.1 o 1).toInt := congrArg Int32.toInt ((fw_uA (W := [1888]) e_T_12 k_n_7 rfl rfl (by decide)) o 1 (by rw [k_o]; decide))
    have f_T_12_a0_7 : (T_12.2.2.1 a0 7).toInt = (T_11.2.2.1 a0 7).toInt := congrArg Int32.toInt ((fw_uA (W := [1888]) e_T_12 k_n_7 rfl rfl (by decide)) a0 7 (by rw [k_a0]; decide))
    refine tot_oif (iv_oO h_T_12 k_a0 (by decide) (by decide) rfl) ?_
    refine tot_let (fun v_13 e_v_13 => ?_)
    have r_v_13 : 0 ≤ v_13.toInt ∧ v_13.toInt ≤ 12 := iv_int h_T_12 k_a0 (by decide) (by decide) e_v_13 rfl
    refine tot_let (fun v_14 e_v_14 => ?_)
    have q_v_14 := i_sub e_v_14 (by omega) (by omega)
    refine tot_oif (iv_oO h_T_12 k_o (by decide) (by decide) rfl) ?_
    refine tot_thri (R := R) (W := [97, 98, 99]) (Q := fun r_15 : Int32 => (((0 : Int32) : Int32).toInt ≤ r_15.toInt ∧ r_15.toInt ≤ v_14.toInt)) (cs_X3_number T_12 o (0 : Int32) v_14 h_T_12 k_o ) (fun r_15 T_16 i_T_16 y_T_16 d_r_15 => ?_) (fun k_ U_ i_ y_ => ⟨⟨i_, x_T_12.tr (y_.w (by decide))⟩, fun q_ => absurd q_ (Nat.succ_ne_zero k_)⟩)
    have h_T_16 : IV R B K1 K2 T_16 := i_T_16
    have x_T_16 := x_T_12.tr (y_T_16.w (by decide))
    have f_T_16_a0_7 : (T_16.2.2.1 a0 7).toInt = (T_12.2.2.1 a0 7).toInt := congrArg Int32.toInt (y_T_16 a0 7 (by rw [k_a0]; decide))
    replace d_r_15 : (((0 : Int32) : Int32).toInt ≤ r_15.toInt ∧ r_15.toInt ≤ v_14.toInt) := d_r_15
    refine tot_oif (iv_aA h_T_16 k_n_7 (by decide) (by decide) rfl rfl) ?_
    refine tot_oif (by rw [iv_len h_T_16 k_n_7 (by decide) (by decide) (rfl : shp 59 = (100, 4))]; exact i_inb (by omega) (by omega)) ?_
    refine tot_let (fun T_17 e_T_17 => ?_)
    have h_T_17 : IV R B K1 K2 T_17 := by rw [e_T_17]; exact iv_uI (a := 0) (b := 11) h_T_16 k_n_7 (by decide) (by decide) rfl (by omega) (.inl rfl)
    have x_T_17 := x_T_16.tr (fw_uA e_T_17 k_n_7 rfl rfl (by decide))
    have f_T_17_o_1 : (T_17.2.2.1 o 1).toInt = (T_16.2.2.1 o 1).toInt := congrArg Int32.toInt ((fw_uA (W := [1888]) e_T_17 k_n_7 rfl rfl (by decide)) o 1 (by rw [k_o]; decide))
    have f_T_17_a0_7 : (T_17.2.2.1 a0 7).toInt = (T_16.2.2.1 a0 7).toInt := congrArg Int32.toInt ((fw_uA (W := [1888]) e_T_17 k_n_7 rfl rfl (by decide)) a0 7 (by rw [k_a0]; decide))
    refine tot_oif (iv_aA h_T_17 k_n_7 (by decide) (by decide) rfl rfl) ?_
    refine tot_oif (by rw [iv_len h_T_17 k_n_7 (by decide) (by decide) (rfl : shp 59 = (100, 4))]; exact i_inb (by omega) (by omega)) ?_
    refine tot_let (fun v_18 e_v_18 => ?_)
    have r_v_18 : 0 ≤ v_18.toInt ∧ v_18.toInt ≤ 11 := iv_int h_T_17 k_n_7 (by decide) (by decide) e_v_18 rfl
    refine tot_oif (iv_oO h_T_17 k_a0 (by decide) (by decide) rfl) ?_
    refine tot_let (fun v_19 e_v_19 => ?_)
    have r_v_19 : 0 ≤ v_19.toInt ∧ v_19.toInt ≤ 12 := iv_int h_T_17 k_a0 (by decide) (by decide) e_v_19 rfl
    refine tot_let (fun v_20 e_v_20 => ?_)
    have q_v_20 := i_sub e_v_20 (by omega) (by omega)
    refine tot_oif (iv_oO h_T_17 k_o (by decide) (by decide) rfl) ?_
    refine tot_thri (R := R) (W := [97, 98, 99]) (Q := fun r_21 : Int32 => (v_18.toInt ≤ r_21.toInt ∧ r_21.toInt ≤ v_20.toInt)) (cs_X3_number T_17 o v_18 v_20 h_T_17 k_o ) (fun r_21 T_22 i_T_22 y_T_22 d_r_21 => ?_) (fun k_ U_ i_ y_ => ⟨⟨i_, x_T_17.tr (y_.w (by decide))⟩, fun q_ => absurd q_ (Nat.succ_ne_zero k_)⟩)
    have h_T_22 : IV R B K1 K2 T_22 := i_T_22
    have x_T_22 := x_T_17.tr (y_T_22.w (by decide))
    have f_T_22_a0_7 : (T_22.2.2.1 a0 7).toInt = (T_17.2.2.1 a0 7).toInt := congrArg Int32.toInt (y_T_22 a0 7 (by rw [k_a0]; decide))
    replace d_r_21 : (v_18.toInt ≤ r_21.toInt ∧ r_21.toInt ≤ v_20.toInt) := d_r_21
    refine tot_oif (iv_aA h_T_22 k_n_7 (by decide) (by decide) rfl rfl) ?_
    refine tot_oif (by rw [iv_len h_T_22 k_n_7 (by decide) (by decide) (rfl : shp 59 = (100, 4))]; exact i_inb (by omega) (by omega)) ?_
    refine tot_let (fun T_23 e_T_23 => ?_)
    have h_T_23 : IV R B K1 K2 T_23 := by rw [e_T_23]; exact iv_uI (a := 0) (b := 11) h_T_22 k_n_7 (by decide) (by decide) rfl (by omega) (.inl rfl)
    have x_T_23 := x_T_22.tr (fw_uA e_T_23 k_n_7 rfl rfl (by decide))
    have f_T_23_o_1 : (T_23.2.2.1 o 1).toInt = (T_22.2.2.1 o 1).toInt := congrArg Int32.toInt ((fw_uA (W := [1888]) e_T_23 k_n_7 rfl rfl (by decide)) o 1 (by rw [k_o]; decide))
    have f_T_23_a0_7 : (T_23.2.2.1 a0 7).toInt = (T_22.2.2.1 a0 7).toInt := congrArg Int32.toInt ((fw_uA (W := [1888]) e_T_23 k_n_7 rfl rfl (by decide)) a0 7 (by rw [k_a0]; decide))
    refine tot_oif (iv_aA h_T_23 k_n_7 (by decide) (by decide) rfl rfl) ?_
    refine tot_oif (by rw [iv_len h_T_23 k_n_7 (by decide) (by decide) (rfl : shp 59 = (100, 4))]; exact i_inb (by omega) (by omega)) ?_
    refine tot_let (fun v_24 e_v_24 => ?_)
    have r_v_24 : 0 ≤ v_24.toInt ∧ v_24.toInt ≤ 11 := iv_int h_T_23 k_n_7 (by decide) (by decide) e_v_24 rfl
    refine tot_oif (iv_oO h_T_23 k_a0 (by decide) (by decide) rfl) ?_
    refine tot_let (fun v_25 e_v_25 => ?_)
    have r_v_25 : 0 ≤ v_25.toInt ∧ v_25.toInt ≤ 12 := iv_int h_T_23 k_a0 (by decide) (by decide) e_v_25 rfl
    refine tot_let (fun v_26 e_v_26 => ?_)
    have q_v_26 := i_sub e_v_26 (by omega) (by omega)
    refine tot_oif (iv_oO h_T_23 k_o (by decide) (by decide) rfl) ?_
    refine tot_thri (R := R) (W := [97, 98, 99]) (Q := fun r_27 : Int32 => (v_24.toInt ≤ r_27.toInt ∧ r_27.toInt ≤ v_26.toInt)) (cs_X3_number T_23 o v_24 v_26 h_T_23 k_o ) (fun r_27 T_28 i_T_28 y_T_28 d_r_27 => ?_) (fun k_ U_ i_ y_ => ⟨⟨i_, x_T_23.tr (y_.w (by decide))⟩, fun q_ => absurd q_ (Nat.succ_ne_zero k_)⟩)
    have h_T_28 : IV R B K1 K2 T_28 := i_T_28
    have x_T_28 := x_T_23.tr (y_T_28.w (by decide))
    have f_T_28_a0_7 : (T_28.2.2.1 a0 7).toInt = (T_23.2.2.1 a0 7).toInt := congrArg Int32.toInt (y_T_28 a0 7 (by rw [k_a0]; decide))
    replace d_r_27 : (v_24.toInt ≤ r_27.toInt ∧ r_27.toInt ≤ v_26.toInt) := d_r_27
    refine tot_oif (iv_aA h_T_28 k_n_7 (by decide) (by decide) rfl rfl) ?_
    refine tot_oif (by rw [iv_len h_T_28 k_n_7 (by decide) (by decide) (rfl : shp 59 = (100, 4))]; exact i_inb (by omega) (by omega)) ?_
    refine tot_let (fun T_29 e_T_29 => ?_)
    have h_T_29 : IV R B K1 K2 T_29 := by rw [e_T_29]; exact iv_uI (a := 0) (b := 11) h_T_28 k_n_7 (by decide) (by decide) rfl (by omega) (.inl rfl)
    have x_T_29 := x_T_28.tr (fw_uA e_T_29 k_n_7 rfl rfl (by decide))
    have f_T_29_o_1 : (T_29.2.2.1 o 1).toInt = (T_28.2.2.1 o 1).toInt := congrArg Int32.toInt ((fw_uA (W := [1888]) e_T_29 k_n_7 rfl rfl (by decide)) o 1 (by rw [k_o]; decide))
    have f_T_29_a0_7 : (T_29.2.2.1 a0 7).toInt = (T_28.2.2.1 a0 7).toInt := congrArg Int32.toInt ((fw_uA (W := [1888]) e_T_29 k_n_7 rfl rfl (by decide)) a0 7 (by rw [k_a0]; decide))
    refine tot_oif (iv_oO h_T_29 k_a0 (by decide) (by decide) rfl) ?_
    refine tot_let (fun v_30 e_v_30 => ?_)
    have q_v_30 := i_eq e_v_30
    have r_v_30 : 0 ≤ v_30.toInt ∧ v_30.toInt ≤ 4 := iv_int h_T_29 k_a0 (by decide) (by decide) e_v_30 rfl
    refine tot_let (fun v_31 e_v_31 => ?_)
    have q_v_31 := i_add e_v_31 (by omega) (by omega)
    refine tot_oif (iv_oO h_T_29 k_a0 (by decide) (by decide) rfl) ?_
    refine tot_let (fun T_32 e_T_32 => ?_)
    have h_T_32 : IV R B K1 K2 T_32 := by rw [e_T_32]; exact iv_uI (a := 0) (b := 4) h_T_29 k_a0 (by decide) (by decide) rfl (by omega) (.inl rfl)
    have x_T_32 := x_T_29.tr (fw_uI e_T_32 k_a0 (by decide))
    have f_T_32_o_1 : (T_32.2.2.1 o 1).toInt = (T_29.2.2.1 o 1).toInt := congrArg Int32.toInt ((fw_uI (W := [39]) e_T_32 k_a0 (by decide)) o 1 (by rw [k_o]; decide))
    have f_T_32_a0_7 : (T_32.2.2.1 a0 7).toInt = (v_31 : Int32).toInt := by rw [e_T_32]; exact congrArg Int32.toInt (uI_at _ _ _ _)
    exact tot_some ⟨⟨h_T_32, x_T_32⟩, fun _ => (show (0 ≤ (0 : Int32).toInt ∧ (0 : Int32).toInt ≤ 0) from by omega)⟩
  · replace c_2 := i_nlt c_2
    unfold g_X3_parseZone_b14
    refine tot_oif (iv_oO h_T k_o (by decide) (by decide) rfl) ?_
    refine tot_thri (R := R) (W := [97, 98, 99]) (Q := fun r_33 : Int32 => ((1 : Int32).toInt = 0)) (cs_X3_startLine T o 1 (4 : Int32) h_T k_o (by omega) (by omega) (by omega)) (fun r_33 T_34 i_T_34 y_T_34 d_r_33 => ?_) (fun k_ U_ i_ y_ => ⟨⟨i_, x_T.tr (y_.w (by decide))⟩, fun q_ => absurd q_ (Nat.succ_ne_zero k_)⟩)
    have h_T_34 : IV R B K1 K2 T_34 := i_T_34
    have x_T_34 := x_T.tr (y_T_34.w (by decide))
    have f_T_34_a0_7 : (T_34.2.2.1 a0 7).toInt = (T.2.2.1 a0 7).toInt := congrArg Int32.toInt (y_T_34 a0 7 (by rw [k_a0]; decide))
    replace d_r_33 : ((1 : Int32).toInt = 0) := d_r_33
    refine tot_oif (iv_oO h_T_34 k_a0 (by decide) (by decide) rfl) ?_
    refine tot_ref h_T_34 k_a0 (by decide) (by decide) (r2 := 60) (rfl : rtg 1 6 = 60) (by decide) (fun n_35 k_n_35 e_n_35 => ?_)
    refine tot_oif (iv_oO h_T_34 k_a0 (by decide) (by decide) rfl) ?_
    refine tot_let (fun v_36 e_v_36 => ?_)
    have q_v_36 := i_eq e_v_36
    have r_v_36 : 0 ≤ v_36.toInt ∧ v_36.toInt ≤ 4 := iv_int h_T_34 k_a0 (by decide) (by decide) e_v_36 rfl
    refine tot_oif (iv_aA h_T_34 k_n_35 (by decide) (by decide) rfl rfl) ?_
    refine tot_oif (by rw [iv_len h_T_34 k_n_35 (by decide) (by decide) (rfl : shp 60 = (106, 4))]; exact i_inb (by omega) (by omega)) ?_
    refine tot_ref h_T_34 k_n_35 (by decide) (by decide) (r2 := 59) (rt_60 (by omega) (by omega)) (by decide) (fun n_37 k_n_37 e_n_37 => ?_)
    refine tot_oif (iv_oO h_T_34 k_a0 (by decide) (by decide) rfl) ?_
    refine tot_let (fun v_38 e_v_38 => ?_)
    have r_v_38 : 0 ≤ v_38.toInt ∧ v_38.toInt ≤ 12 := iv_int h_T_34 k_a0 (by decide) (by decide) e_v_38 rfl
    refine tot_let (fun v_39 e_v_39 => ?_)
    have q_v_39 := i_sub e_v_39 (by omega) (by omega)
    refine tot_oif (iv_oO h_T_34 k_o (by decide) (by decide) rfl) ?_
    refine tot_thri (R := R) (W := [97, 98, 99]) (Q := fun r_40 : Int32 => (((0 : Int32) : Int32).toInt ≤ r_40.toInt ∧ r_40.toInt ≤ v_39.toInt)) (cs_X3_number T_34 o (0 : Int32) v_39 h_T_34 k_o ) (fun r_40 T_41 i_T_41 y_T_41 d_r_40 => ?_) (fun k_ U_ i_ y_ => ⟨⟨i_, x_T_34.tr (y_.w (by decide))⟩, fun q_ => absurd q_ (Nat.succ_ne_zero k_)⟩)
    have h_T_41 : IV R B K1 K2 T_41 := i_T_41
    have x_T_41 := x_T_34.tr (y_T_41.w (by decide))
    have f_T_41_a0_7 : (T_41.2.2.1 a0 7).toInt = (T_34.2.2.1 a0 7).toInt := congrArg Int32.toInt (y_T_41 a0 7 (by rw [k_a0]; decide))
    replace d_r_40 : (((0 : Int32) : Int32).toInt ≤ r_40.toInt ∧ r_40.toInt ≤ v_39.toInt) := d_r_40
    refine tot_oif (iv_aA h_T_41 k_n_37 (by decide) (by decide) rfl rfl) ?_
    refine tot_oif (by rw [iv_len h_T_41 k_n_37 (by decide) (by decide) (rfl : shp 59 = (100, 4))]; exact i_inb (by omega) (by omega)) ?_
    refine tot_let (fun T_42 e_T_42 => ?_)
    have h_T_42 : IV R B K1 K2 T_42 := by rw [e_T_42]; exact iv_uI (a := 0) (b := 11) h_T_41 k_n_37 (by decide) (by decide) rfl (by omega) (.inl rfl)
    have x_T_42 := x_T_41.tr (fw_uA e_T_42 k_n_37 rfl rfl (by decide))
    have f_T_42_o_1 : (T_42.2.2.1 o 1).toInt = (T_41.2.2.1 o 1).toInt := congrArg Int32.toInt ((fw_uA (W := [1888]) e_T_42 k_n_37 rfl rfl (by decide)) o 1 (by rw [k_o]; decide))
    have f_T_42_a0_7 : (T_42.2.2.1 a0 7).toInt = (T_41.2.2.1 a0 7).toInt := congrArg Int32.toInt ((fw_uA (W := [1888]) e_T_42 k_n_37 rfl rfl (by decide)) a0 7 (by rw [k_a0]; decide))
    refine tot_oif (iv_oO h_T_42 k_a0 (by decide) (by decide) rfl) ?_
    refine tot_let (fun v_43 e_v_43 => ?_)
    have r_v_43 : 0 ≤ v_43.toInt ∧ v_43.toInt ≤ 12 := iv_int h_T_42 k_a0 (by decide) (by decide) e_v_43 rfl
    refine tot_let (fun v_44 e_v_44 => ?_)
    have q_v_44 := i_sub e_v_44 (by omega) (by omega)
    refine tot_oif (iv_oO h_T_42 k_o (by decide) (by decide) rfl) ?_
    refine tot_thri (R := R) (W := [97, 98, 99]) (Q := fun r_45 : Int32 => (((0 : Int32) : Int32).toInt ≤ r_45.toInt ∧ r_45.toInt ≤ v_44.toInt)) (cs_X3_number T_42 o (0 : Int32) v_44 h_T_42 k_o ) (fun r_45 T_46 i_T_46 y_T_46 d_r_45 => ?_) (fun k_ U_ i_ y_ => ⟨⟨i_, x_T_42.tr (y_.w (by decide))⟩, fun q_ => absurd q_ (Nat.succ_ne_zero k_)⟩)
    have h_T_46 : IV R B K1 K2 T_46 := i_T_46
    have x_T_46 := x_T_42.tr (y_T_46.w (by decide))
    have f_T_46_a0_7 : (T_46.2.2.1 a0 7).toInt = (T_42.2.2.1 a0 7).toInt := congrArg Int32.toInt (y_T_46 a0 7 (by rw [k_a0]; decide))
    replace d_r_45 : (((0 : Int32) : Int32).toInt ≤ r_45.toInt ∧ r_45.toInt ≤ v_44.toInt) := d_r_45
    refine tot_oif (iv_aA h_T_46 k_n_37 (by decide) (by decide) rfl rfl) ?_
    refine tot_oif (by rw [iv_len h_T_46 k_n_37 (by decide) (by decide) (rfl : shp 59 = (100, 4))]; exact i_inb (by omega) (by omega)) ?_
    refine tot_let (fun T_47 e_T_47 => ?_)
    have h_T_47 : IV R B K1 K2 T_47 := by rw [e_T_47]; exact iv_uI (a := 0) (b := 11) h_T_46 k_n_37 (by decide) (by decide) rfl (by omega) (.inl rfl)
    have x_T_47 := x_T_46.tr (fw_uA e_T_47 k_n_37 rfl rfl (by decide))
    have f_T_47_o_1 : (T_47.2.2.1 o 1).toInt = (T_46.2.2.1 o 1).toInt := congrArg Int32.toInt ((fw_uA (W := [1888]) e_T_47 k_n_37 rfl rfl (by decide)) o 1 (by rw [k_o]; decide))
    have f_T_47_a0_7 : (T_47.2.2.1 a0 7).toInt = (T_46.2.2.1 a0 7).toInt := congrArg Int32.toInt ((fw_uA (W := [1888]) e_T_47 k_n_37 rfl rfl (by decide)) a0 7 (by rw [k_a0]; decide))
    refine tot_oif (iv_aA h_T_47 k_n_37 (by decide) (by decide) rfl rfl) ?_
    refine tot_oif (by rw [iv_len h_T_47 k_n_37 (by decide) (by decide) (rfl : shp 59 = (100, 4))]; exact i_inb (by omega) (by omega)) ?_
    refine tot_let (fun v_48 e_v_48 => ?_)
    have r_v_48 : 0 ≤ v_48.toInt ∧ v_48.toInt ≤ 11 := iv_int h_T_47 k_n_37 (by decide) (by decide) e_v_48 rfl
    refine tot_oif (iv_oO h_T_47 k_a0 (by decide) (by decide) rfl) ?_
    refine tot_let (fun v_49 e_v_49 => ?_)
    have r_v_49 : 0 ≤ v_49.toInt ∧ v_49.toInt ≤ 12 := iv_int h_T_47 k_a0 (by decide) (by decide) e_v_49 rfl
    refine tot_let (fun v_50 e_v_50 => ?_)
    have q_v_50 := i_sub e_v_50 (by omega) (by omega)
    refine tot_oif (iv_oO h_T_47 k_o (by decide) (by decide) rfl) ?_
    refine tot_thri (R := R) (W := [97, 98, 99]) (Q := fun r_51 : Int32 => (v_48.toInt ≤ r_51.toInt ∧ r_51.toInt ≤ v_50.toInt)) (cs_X3_number T_47 o v_48 v_50 h_T_47 k_o ) (fun r_51 T_52 i_T_52 y_T_52 d_r_51 => ?_) (fun k_ U_ i_ y_ => ⟨⟨i_, x_T_47.tr (y_.w (by decide))⟩, fun q_ => absurd q_ (Nat.succ_ne_zero k_)⟩)
    have h_T_52 : IV R B K1 K2 T_52 := i_T_52
    have x_T_52 := x_T_47.tr (y_T_52.w (by decide))
    have f_T_52_a0_7 : (T_52.2.2.1 a0 7).toInt = (T_47.2.2.1 a0 7).toInt := congrArg Int32.toInt (y_T_52 a0 7 (by rw [k_a0]; decide))
    replace d_r_51 : (v_48.toInt ≤ r_51.toInt ∧ r_51.toInt ≤ v_50.toInt) := d_r_51
    refine tot_oif (iv_aA h_T_52 k_n_37 (by decide) (by decide) rfl rfl) ?_
    refine tot_oif (by rw [iv_len h_T_52 k_n_37 (by decide) (by decide) (rfl : shp 59 = (100, 4))]; exact i_inb (by omega) (by omega)) ?_
    refine tot_let (fun T_53 e_T_53 => ?_)
    have h_T_53 : IV R B K1 K2 T_53 := by rw [e_T_53]; exact iv_uI (a := 0) (b := 11) h_T_52 k_n_37 (by decide) (by decide) rfl (by omega) (.inl rfl)
    have x_T_53 := x_T_52.tr (fw_uA e_T_53 k_n_37 rfl rfl (by decide))
    have f_T_53_o_1 : (T_53.2.2.1 o 1).toInt = (T_52.2.2.1 o 1).toInt := congrArg Int32.toInt ((fw_uA (W := [1888]) e_T_53 k_n_37 rfl rfl (by decide)) o 1 (by rw [k_o]; decide))
    have f_T_53_a0_7 : (T_53.2.2.1 a0 7).toInt = (T_52.2.2.1 a0 7).toInt := congrArg Int32.toInt ((fw_uA (W := [1888]) e_T_53 k_n_37 rfl rfl (by decide)) a0 7 (by rw [k_a0]; decide))
    refine tot_oif (iv_aA h_T_53 k_n_37 (by decide) (by decide) rfl rfl) ?_
    refine tot_oif (by rw [iv_len h_T_53 k_n_37 (by decide) (by decide) (rfl : shp 59 = (100, 4))]; exact i_inb (by omega) (by omega)) ?_
    refine tot_let (fun v_54 e_v_54 => ?_)
    have r_v_54 : 0 ≤ v_54.toInt ∧ v_54.toInt ≤ 11 := iv_int h_T_53 k_n_37 (by decide) (by decide) e_v_54 rfl
    refine tot_oif (iv_oO h_T_53 k_a0 (by decide) (by decide) rfl) ?_
    refine tot_let (fun v_55 e_v_55 => ?_)
    have r_v_55 : 0 ≤ v_55.toInt ∧ v_55.toInt ≤ 12 := iv_int h_T_53 k_a0 (by decide) (by decide) e_v_55 rfl
    refine tot_let (fun v_56 e_v_56 => ?_)
    have q_v_56 := i_sub e_v_56 (by omega) (by omega)
    refine tot_oif (iv_oO h_T_53 k_o (by decide) (by decide) rfl) ?_
    refine tot_thri (R := R) (W := [97, 98, 99]) (Q := fun r_57 : Int32 => (v_54.toInt ≤ r_57.toInt ∧ r_57.toInt ≤ v_56.toInt)) (cs_X3_number T_53 o v_54 v_56 h_T_53 k_o ) (fun r_57 T_58 i_T_58 y_T_58 d_r_57 => ?_) (fun k_ U_ i_ y_ => ⟨⟨i_, x_T_53.tr (y_.w (by decide))⟩, fun q_ => absurd q_ (Nat.succ_ne_zero k_)⟩)
    have h_T_58 : IV R B K1 K2 T_58 := i_T_58
    have x_T_58 := x_T_53.tr (y_T_58.w (by decide))
    have f_T_58_a0_7 : (T_58.2.2.1 a0 7).toInt = (T_53.2.2.1 a0 7).toInt := congrArg Int32.toInt (y_T_58 a0 7 (by rw [k_a0]; decide))
    replace d_r_57 : (v_54.toInt ≤ r_57.toInt ∧ r_57.toInt ≤ v_56.toInt) := d_r_57
    refine tot_oif (iv_aA h_T_58 k_n_37 (by decide) (by decide) rfl rfl) ?_
    refine tot_oif (by rw [iv_len h_T_58 k_n_37 (by decide) (by decide) (rfl : shp 59 = (100, 4))]; exact i_inb (by omega) (by omega)) ?_
    refine tot_let (fun T_59 e_T_59 => ?_)
    have h_T_59 : IV R B K1 K2 T_59 := by rw [e_T_59]; exact iv_uI (a := 0) (b := 11) h_T_58 k_n_37 (by decide) (by decide) rfl (by omega) (.inl rfl)
    have x_T_59 := x_T_58.tr (fw_uA e_T_59 k_n_37 rfl rfl (by decide))
    have f_T_59_o_1 : (T_59.2.2.1 o 1).toInt = (T_58.2.2.1 o 1).toInt := congrArg Int32.toInt ((fw_uA (W := [1888]) e_T_59 k_n_37 rfl rfl (by decide)) o 1 (by rw [k_o]; decide))
    have f_T_59_a0_7 : (T_59.2.2.1 a0 7).toInt = (T_58.2.2.1 a0 7).toInt := congrArg Int32.toInt ((fw_uA (W := [1888]) e_T_59 k_n_37 rfl rfl (by decide)) a0 7 (by rw [k_a0]; decide))
    refine tot_oif (iv_oO h_T_59 k_a0 (by decide) (by decide) rfl) ?_
    refine tot_let (fun v_60 e_v_60 => ?_)
    have q_v_60 := i_eq e_v_60
    have r_v_60 : 0 ≤ v_60.toInt ∧ v_60.toInt ≤ 4 := iv_int h_T_59 k_a0 (by decide) (by decide) e_v_60 rfl
    refine tot_let (fun v_61 e_v_61 => ?_)
    have q_v_61 := i_add e_v_61 (by omega) (by omega)
    refine tot_oif (iv_oO h_T_59 k_a0 (by decide) (by decide) rfl) ?_
    refine tot_let (fun T_62 e_T_62 => ?_)
    have h_T_62 : IV R B K1 K2 T_62 := by rw [e_T_62]; exact iv_uI (a := 0) (b := 4) h_T_59 k_a0 (by decide) (by decide) rfl (by omega) (.inl rfl)
    have x_T_62 := x_T_59.tr (fw_uI e_T_62 k_a0 (by decide))
    have f_T_62_o_1 : (T_62.2.2.1 o 1).toInt = (T_59.2.2.1 o 1).toInt := congrArg Int32.toInt ((fw_uI (W := [39]) e_T_62 k_a0 (by decide)) o 1 (by rw [k_o]; decide))
    have f_T_62_a0_7 : (T_62.2.2.1 a0 7).toInt = (v_61 : Int32).toInt := by rw [e_T_62]; exact congrArg Int32.toInt (uI_at _ _ _ _)
    exact tot_some ⟨⟨h_T_62, x_T_62⟩, fun _ => (show (0 ≤ (0 : Int32).toInt ∧ (0 : Int32).toInt ≤ 0) from by omega)⟩
set_option maxHeartbeats 4000000 in
set_option maxRecDepth 10000 in
theorem cs_X3_parseClock {R : Nat → Nat} {B K1 K2 : Nat} (T : AT) (o : Nat) (a0 : Nat) (h_T : IV R B K1 K2 T) (k_o : R o = 3) (k_a0 : R a0 = 6) (g0 : (T.2.2.1 o 1).toInt ≤ 1000) : Tot (g_X3_parseClock T o a0) (fun r => (IV R B K1 K2 r.2.2 ∧ FW R [67, 97, 98, 99] T r.2.2) ∧ (r.1 = 0 → (0 ≤ r.2.1.toInt ∧ r.2.1.toInt ≤ 0))) := by
  have z0 : ((0 : Int32) : Int32).toInt = 0 := by decide
  have z1 : ((3 : Int32) : Int32).toInt = 3 := by decide
  have z2 : (1 : Int32).toInt = 1 := by decide
  have z3 : (0 : Int32).toInt = 0 := by decide
  have z4 : ((1 : Int32) : Int32).toInt = 1 := by decide
  have z5 : ((31 : Int32) : Int32).toInt = 31 := by decide
  have cc_101 : cnt 101 = 1 := rfl
  have cc_102 : cnt 102 = 12 := rfl
  have cc_103 : cnt 103 = 144 := rfl
  have cc_104 : cnt 104 = 2400 := rfl
  have cc_105 : cnt 105 = 7200 := rfl
  have x_T : FW R [67, 97, 98, 99] T T := FW.rf
  unfold g_X3_parseClock
  refine tot_oif (iv_oO h_T k_o (by decide) (by decide) rfl) ?_
  refine tot_thri (R := R) (W := [97, 98, 99]) (Q := fun r_1 : Int32 => (((0 : Int32) : Int32).toInt = 0)) (cs_X3_startLine T o (0 : Int32) (3 : Int32) h_T k_o (by omega) (by omega) (by omega)) (fun r_1 T_2 i_T_2 y_T_2 d_r_1 => ?_) (fun k_ U_ i_ y_ => ⟨⟨i_, x_T.tr (y_.w (by decide))⟩, fun q_ => absurd q_ (Nat.succ_ne_zero k_)⟩)
  have h_T_2 : IV R B K1 K2 T_2 := i_T_2
  have x_T_2 := x_T.tr (y_T_2.w (by decide))
  replace d_r_1 : (((0 : Int32) : Int32).toInt = 0) := d_r_1
  refine tot_oif (iv_oO h_T_2 k_a0 (by decide) (by decide) rfl) ?_
  refine tot_let (fun v_3 e_v_3 => ?_)
  have r_v_3 : 0 ≤ v_3.toInt ∧ v_3.toInt ≤ 12 := iv_int h_T_2 k_a0 (by decide) (by decide) e_v_3 rfl
  refine tot_let (fun v_4 e_v_4 => ?_)
  have q_v_4 := i_sub e_v_4 (by omega) (by omega)
  refine tot_oif (iv_oO h_T_2 k_o (by decide) (by decide) rfl) ?_
  refine tot_thri (R := R) (W := [97, 98, 99]) (Q := fun r_5 : Int32 => (((0 : Int32) : Int32).toInt ≤ r_5.toInt ∧ r_5.toInt ≤ v_4.toInt)) (cs_X3_number T_2 o (0 : Int32) v_4 h_T_2 k_o ) (fun r_5 T_6 i_T_6 y_T_6 d_r_5 => ?_) (fun k_ U_ i_ y_ => ⟨⟨i_, x_T_2.tr (y_.w (by decide))⟩, fun q_ => absurd q_ (Nat.succ_ne_zero k_)⟩)
  have h_T_6 : IV R B K1 K2 T_6 := i_T_6
  have x_T_6 := x_T_2.tr (y_T_6.w (by decide))
  replace d_r_5 : (((0 : Int32) : Int32).toInt ≤ r_5.toInt ∧ r_5.toInt ≤ v_4.toInt) := d_r_5
  refine tot_oif (iv_oO h_T_6 k_a0 (by decide) (by decide) rfl) ?_
  refine tot_ref h_T_6 k_a0 (by decide) (by decide) (r2 := 53) (rfl : rtg 6 4 = 53) (by decide) (fun n_7 k_n_7 e_n_7 => ?_)
  refine tot_oif (iv_aA h_T_6 k_n_7 (by decide) (by decide) rfl rfl) ?_
  refine tot_oif (by rw [iv_len h_T_6 k_n_7 (by decide) (by decide) (rfl : shp 53 = (103, 12))]; exact i_inb (by omega) (by omega)) ?_
  refine tot_ref h_T_6 k_n_7 (by decide) (by decide) (r2 := 2) (rt_53 (by omega) (by omega)) (by decide) (fun n_8 k_n_8 e_n_8 => ?_)
  refine tot_oif (iv_oO h_T_6 k_n_8 (by decide) (by decide) rfl) ?_
  refine tot_let (fun v_9 e_v_9 => ?_)
  have r_v_9 : 0 ≤ v_9.toInt ∧ v_9.toInt ≤ 31 := iv_int h_T_6 k_n_8 (by decide) (by decide) e_v_9 rfl
  refine tot_if (fun c_14 => ?_) (fun c_14 => ?_)
  · replace c_14 := i_le c_14
    unfold g_X3_parseClock_b41
    refine tot_oif (iv_oO h_T_6 k_a0 (by decide) (by decide) rfl) ?_
    refine tot_ref1 e_n_7 ?_
    refine tot_oif (iv_aA h_T_6 k_n_7 (by decide) (by decide) rfl rfl) ?_
    refine tot_oif (by rw [iv_len h_T_6 k_n_7 (by decide) (by decide) (rfl : shp 53 = (103, 12))]; exact i_inb (by omega) (by omega)) ?_
    refine tot_ref1 e_n_8 ?_
    refine tot_oif (iv_oO h_T_6 k_o (by decide) (by decide) rfl) ?_
    refine tot_thri (R := R) (W := [97, 98, 99]) (Q := fun r_17 : Int32 => (((1 : Int32) : Int32).toInt ≤ r_17.toInt ∧ r_17.toInt ≤ ((31 : Int32) : Int32).toInt)) (cs_X3_number T_6 o (1 : Int32) (31 : Int32) h_T_6 k_o ) (fun r_17 T_18 i_T_18 y_T_18 d_r_17 => ?_) (fun k_ U_ i_ y_ => ⟨⟨i_, x_T_6.tr (y_.w (by decide))⟩, fun q_ => absurd q_ (Nat.succ_ne_zero k_)⟩)
    have h_T_18 : IV R B K1 K2 T_18 := i_T_18
    have x_T_18 := x_T_6.tr (y_T_18.w (by decide))
    replace d_r_17 : (((1 : Int32) : Int32).toInt ≤ r_17.toInt ∧ r_17.toInt ≤ ((31 : Int32) : Int32).toInt) := d_r_17
    refine tot_oif (iv_oO h_T_18 k_n_8 (by decide) (by decide) rfl) ?_
    refine tot_let (fun T_19 e_T_19 => ?_)
    have h_T_19 : IV R B K1 K2 T_19 := by rw [e_T_19]; exact iv_uI (a := 0) (b := 31) h_T_18 k_n_8 (by decide) (by decide) rfl (by omega) (.inl rfl)
    have x_T_19 := x_T_18.tr (fw_uI e_T_19 k_n_8 (by decide))
    have f_T_19_o_1 : (T_19.2.2.1 o 1).toInt = (T_18.2.2.1 o 1).toInt := congrArg Int32.toInt ((fw_uI (W := [67]) e_T_19 k_n_8 (by decide)) o 1 (by rw [k_o]; decide))
    exact tot_some ⟨⟨h_T_19, x_T_19⟩, fun _ => (show (0 ≤ (0 : Int32).toInt ∧ (0 : Int32).toInt ≤ 0) from by omega)⟩
  · replace c_14 := i_nle c_14
    refine tot_oif (iv_oO h_T_6 k_o (by decide) (by decide) rfl) ?_
    refine tot_let (fun v_10 e_v_10 => ?_)
    have q_v_10 := i_eq e_v_10
    have r_v_10 : 0 ≤ v_10.toInt ∧ v_10.toInt ≤ 1001 := iv_int h_T_6 k_o (by decide) (by decide) e_v_10 rfl
    refine tot_let (fun v_11 e_v_11 => ?_)
    have q_v_11 := i_sub e_v_11 (by omega) (by omega)
    refine tot_oif (iv_oO h_T_6 k_o (by decide) (by decide) rfl) ?_
    refine tot_thri (R := R) (W := [98, 99]) (Q := fun r_12 : Int32 => (False)) (cs_X3_failAt T_6 o v_11 (3 : Int32) h_T_6 k_o (by omega) (by omega)) (fun r_12 T_13 i_T_13 y_T_13 d_r_12 => ?_) (fun k_ U_ i_ y_ => ⟨⟨i_, x_T_6.tr (y_.w (by decide))⟩, fun q_ => absurd q_ (Nat.succ_ne_zero k_)⟩)
    have h_T_13 : IV R B K1 K2 T_13 := i_T_13
    have x_T_13 := x_T_6.tr (y_T_13.w (by decide))
    have f_T_13_o_1 : (T_13.2.2.1 o 1).toInt = (T_6.2.2.1 o 1).toInt := congrArg Int32.toInt (y_T_13 o 1 (by rw [k_o]; decide))
    replace d_r_12 : (False) := d_r_12
    exact d_r_12.elim
set_option maxHeartbeats 4000000 in
set_option maxRecDepth 10000 in
theorem cs_X3_signed {R : Nat → Nat} {B K1 K2 : Nat} (T : AT) (o : Nat) (a0 : Int32) (a1 : Int32) (h_T : IV R B K1 K2 T) (k_o : R o = 3) (g0 : -2000 ≤ a0.toInt ∧ a0.toInt ≤ -9) (g1 : 9 ≤ a1.toInt ∧ a1.toInt ≤ 2000) : Tot (g_X3_signed T o a0 a1) (fun r => (IV R B K1 K2 r.2.2 ∧ FW R [97, 98, 99] T r.2.2) ∧ (r.1 = 0 → (a0.toInt ≤ r.2.1.toInt ∧ r.2.1.toInt ≤ a1.toInt))) := by
  have z0 : (3 : Int32).toInt = 3 := by decide
  have z1 : (1 : Int32).toInt = 1 := by decide
  have cc_101 : cnt 101 = 1 := rfl
  have cc_102 : cnt 102 = 12 := rfl
  have cc_103 : cnt 103 = 144 := rfl
  have cc_104 : cnt 104 = 2400 := rfl
  have cc_105 : cnt 105 = 7200 := rfl
  have x_T : FW R [97, 98, 99] T T := FW.rf
  have j_a0 := i_any a0
  have j_a1 := i_any a1
  unfold g_X3_signed
  refine tot_oif (iv_oO h_T k_o (by decide) (by decide) rfl) ?_
  refine tot_bindq (R := fun r_1 : Int32 => (r_1.toInt = 5 ∨ (T.2.2.1 o 1).toInt ≤ 1000)) (cs_X3_kind T o h_T k_o ) (fun r_1 d_r_1 => ?_)
  replace d_r_1 : (r_1.toInt = 5 ∨ (T.2.2.1 o 1).toInt ≤ 1000) := d_r_1
  refine tot_if (fun c_13 => ?_) (fun c_13 => ?_)
  · replace c_13 := i_eq c_13
    refine tot_oif (iv_oO h_T k_o (by decide) (by decide) rfl) ?_
    refine tot_let (fun v_3 e_v_3 => ?_)
    have q_v_3 := i_eq e_v_3
    have r_v_3 : 0 ≤ v_3.toInt ∧ v_3.toInt ≤ 1001 := iv_int h_T k_o (by decide) (by decide) e_v_3 rfl
    refine tot_let (fun v_4 e_v_4 => ?_)
    have q_v_4 := i_add e_v_4 (by omega) (by omega)
    refine tot_oif (iv_oO h_T k_o (by decide) (by decide) rfl) ?_
    refine tot_let (fun T_5 e_T_5 => ?_)
    have h_T_5 : IV R B K1 K2 T_5 := by rw [e_T_5]; exact iv_uI (a := 0) (b := 1001) h_T k_o (by decide) (by decide) rfl (by omega) (.inl rfl)
    have x_T_5 := x_T.tr (fw_uI e_T_5 k_o (by decide))
    have f_T_5_o_1 : (T_5.2.2.1 o 1).toInt = (v_4 : Int32).toInt := by rw [e_T_5]; exact congrArg Int32.toInt (uI_at _ _ _ _)
    refine tot_let (fun v_6 e_v_6 => ?_)
    have q_v_6 := i_neg e_v_6 (by omega)
    refine tot_let (fun v_7 e_v_7 => ?_)
    have q_v_7 := i_neg e_v_7 (by omega)
    refine tot_oif (iv_oO h_T_5 k_o (by decide) (by decide) rfl) ?_
    refine tot_thri (R := R) (W := [97, 98, 99]) (Q := fun r_8 : Int32 => (v_6.toInt ≤ r_8.toInt ∧ r_8.toInt ≤ v_7.toInt)) (cs_X3_number T_5 o v_6 v_7 h_T_5 k_o ) (fun r_8 T_9 i_T_9 y_T_9 d_r_8 => ?_) (fun k_ U_ i_ y_ => ⟨⟨i_, x_T_5.tr (y_.w (by decide))⟩, fun q_ => absurd q_ (Nat.succ_ne_zero k_)⟩)
    have h_T_9 : IV R B K1 K2 T_9 := i_T_9
    have x_T_9 := x_T_5.tr (y_T_9.w (by decide))
    replace d_r_8 : (v_6.toInt ≤ r_8.toInt ∧ r_8.toInt ≤ v_7.toInt) := d_r_8
    refine tot_let (fun v_10 e_v_10 => ?_)
    have q_v_10 := i_neg e_v_10 (by omega)
    exact tot_some ⟨⟨h_T_9, x_T_9⟩, fun _ => (show (a0.toInt ≤ v_10.toInt ∧ v_10.toInt ≤ a1.toInt) from by omega)⟩
  · replace c_13 := i_ne c_13
    refine tot_oif (iv_oO h_T k_o (by decide) (by decide) rfl) ?_
    refine tot_thri (R := R) (W := [97, 98, 99]) (Q := fun r_11 : Int32 => (a0.toInt ≤ r_11.toInt ∧ r_11.toInt ≤ a1.toInt)) (cs_X3_number T o a0 a1 h_T k_o ) (fun r_11 T_12 i_T_12 y_T_12 d_r_11 => ?_) (fun k_ U_ i_ y_ => ⟨⟨i_, x_T.tr (y_.w (by decide))⟩, fun q_ => absurd q_ (Nat.succ_ne_zero k_)⟩)
    have h_T_12 : IV R B K1 K2 T_12 := i_T_12
    have x_T_12 := x_T.tr (y_T_12.w (by decide))
    replace d_r_11 : (a0.toInt ≤ r_11.toInt ∧ r_11.toInt ≤ a1.toInt) := d_r_11
    exact tot_some ⟨⟨h_T_12, x_T_12⟩, fun _ => (show (a0.toInt ≤ r_11.toInt ∧ r_11.toInt ≤ a1.toInt) from by omega)⟩
set_option maxHeartbeats 4000000 in
set_option maxRecDepth 10000 in
theorem cs_X6_addTap {R : Nat → Nat} {B K1 K2 : Nat} (T : AT) (o : Nat) (a0 : Int32) (h_T : IV R B K1 K2 T) (k_o : R o = 6) (g0 : -9 ≤ a0.toInt ∧ a0.toInt ≤ 9) : Tot (g_X6_addTap T o a0) (fun T1 => IV R B K1 K2 T1 ∧ FW R [206, 1824] T T1) := by
  have z0 : (5 : Int32).toInt = 5 := by decide
  have z1 : (1 : Int32).toInt = 1 := by decide
  have cc_101 : cnt 101 = 1 := rfl
  have cc_102 : cnt 102 = 12 := rfl
  have cc_103 : cnt 103 = 144 := rfl
  have cc_104 : cnt 104 = 2400 := rfl
  have cc_105 : cnt 105 = 7200 := rfl
  have x_T : FW R [206, 1824] T T := FW.rf
  have j_a0 := i_any a0
  unfold g_X6_addTap
  refine tot_oif (iv_oO h_T k_o (by decide) (by decide) rfl) ?_
  refine tot_let (fun v_1 e_v_1 => ?_)
  have q_v_1 := i_eq e_v_1
  have r_v_1 : 0 ≤ v_1.toInt ∧ v_1.toInt ≤ 5 := iv_int h_T k_o (by decide) (by decide) e_v_1 rfl
  refine tot_if (fun c_8 => ?_) (fun c_8 => ?_)
  · replace c_8 := i_le c_8
    unfold g_X6_addTap_b28
    exact tot_some ⟨h_T, x_T⟩
  · replace c_8 := i_nle c_8
    refine tot_oif (iv_oO h_T k_o (by decide) (by decide) rfl) ?_
    refine tot_ref h_T k_o (by decide) (by decide) (r2 := 57) (rfl : rtg 6 13 = 57) (by decide) (fun n_2 k_n_2 e_n_2 => ?_)
    refine tot_oif (iv_oO h_T k_o (by decide) (by decide) rfl) ?_
    refine tot_let (fun v_3 e_v_3 => ?_)
    have u_v_3 : v_3.toInt = v_1.toInt := by rw [e_v_3, e_v_1]
    have q_v_3 := i_eq e_v_3
    have r_v_3 : 0 ≤ v_3.toInt ∧ v_3.toInt ≤ 5 := iv_int h_T k_o (by decide) (by decide) e_v_3 rfl
    refine tot_oif (iv_aA h_T k_n_2 (by decide) (by decide) rfl rfl) ?_
    refine tot_oif (by rw [iv_len h_T k_n_2 (by decide) (by decide) (rfl : shp 57 = (100, 5))]; exact i_inb (by omega) (by omega)) ?_
    refine tot_let (fun T_4 e_T_4 => ?_)
    have h_T_4 : IV R B K1 K2 T_4 := by rw [e_T_4]; exact iv_uI (a := -9) (b := 9) h_T k_n_2 (by decide) (by decide) rfl (by omega) (.inl rfl)
    have x_T_4 := x_T.tr (fw_uA e_T_4 k_n_2 rfl rfl (by decide))
    have f_T_4_o_14 : (T_4.2.2.1 o 14).toInt = (T.2.2.1 o 14).toInt := congrArg Int32.toInt ((fw_uA (W := [1824]) e_T_4 k_n_2 rfl rfl (by decide)) o 14 (by rw [k_o]; decide))
    refine tot_oif (iv_oO h_T_4 k_o (by decide) (by decide) rfl) ?_
    refine tot_let (fun v_5 e_v_5 => ?_)
    have q_v_5 := i_eq e_v_5
    have r_v_5 : 0 ≤ v_5.toInt ∧ v_5.toInt ≤ 5 := iv_int h_T_4 k_o (by decide) (by decide) e_v_5 rfl
    refine tot_let (fun v_6 e_v_6 => ?_)
    have q_v_6 := i_add e_v_6 (by omega) (by omega)
    refine tot_oif (iv_oO h_T_4 k_o (by decide) (by decide) rfl) ?_
    refine tot_let (fun T_7 e_T_7 => ?_)
    have h_T_7 : IV R B K1 K2 T_7 := by rw [e_T_7]; exact iv_uI (a := 0) (b := 5) h_T_4 k_o (by decide) (by decide) rfl (by omega) (.inl rfl)
    have x_T_7 := x_T_4.tr (fw_uI e_T_7 k_o (by decide))
    have f_T_7_o_14 : (T_7.2.2.1 o 14).toInt = (v_6 : Int32).toInt := by rw [e_T_7]; exact congrArg Int32.toInt (uI_at _ _ _ _)
    unfold g_X6_addTap_b28
    exact tot_some ⟨h_T_7, x_T_7⟩
set_option maxHeartbeats 4000000 in
set_option maxRecDepth 10000 in
theorem cl_X3_parseFilter_b31 {R : Nat → Nat} {B K1 K2 : Nat} {Q : Nat × Int32 × AT → Prop} (l0 : Nat) (l1 : Nat) (T00 : AT) (k_l0 : R l0 = 3) (k_l1 : R l1 = 6) (hthr : ∀ (k : Nat) (U : AT), IV R B K1 K2 U → FW R [97, 98, 99, 206, 1824] T00 U → Q (k + 1, 0, U)) (hx0 : ∀ (T : AT), (IV R B K1 K2 T) → (FW R [97, 98, 99, 206, 1824] T00 T) → Tot (g_X3_parseFilter_b81 T) Q) : ∀ (n : Nat) (T : AT) (l2 : Int32), (IV R B K1 K2 T) → (FW R [97, 98, 99, 206, 1824] T00 T) → (1 ≤ l2.toInt ∧ l2.toInt ≤ 5) → 5 - l2.toInt < (n : Int) → Tot (g_X3_parseFilter_b31 n T l0 l1 l2) Q := by
  have z0 : (5 : Int32).toInt = 5 := by decide
  have z1 : (2 : Int32).toInt = 2 := by decide
  have z2 : ((9 : Int32) : Int32).toInt = 9 := by decide
  have z3 : (((-9) : Int32) : Int32).toInt = -9 := by decide
  have z4 : (Int32.ofInt (1) : Int32).toInt = 1 := by decide
  have z5 : (3 : Int32).toInt = 3 := by decide
  have cc_101 : cnt 101 = 1 := rfl
  have cc_102 : cnt 102 = 12 := rfl
  have cc_103 : cnt 103 = 144 := rfl
  have cc_104 : cnt 104 = 2400 := rfl
  have cc_105 : cnt 105 = 7200 := rfl
  intro n
  induction n with
  | zero =>
    intro T l2 h_T x_T g_l2 hm
    exfalso
    omega
  | succ n ih =>
    intro T l2 h_T x_T g_l2 hm
    unfold g_X3_parseFilter_b31
    refine tot_if (fun c_60 => ?_) (fun c_60 => ?_)
    · replace c_60 := i_lt c_60
      exfalso
      omega
    · replace c_60 := i_nlt c_60
      refine tot_oif (iv_oO h_T k_l0 (by decide) (by decide) rfl) ?_
      refine tot_bindq (R := fun r_56 : Int32 => (r_56.toInt = 5 ∨ (T.2.2.1 l0 1).toInt ≤ 1000)) (cs_X3_kind T l0 h_T k_l0 ) (fun r_56 d_r_56 => ?_)
      replace d_r_56 : (r_56.toInt = 5 ∨ (T.2.2.1 l0 1).toInt ≤ 1000) := d_r_56
      refine tot_if (fun c_61 => ?_) (fun c_61 => ?_)
      · replace c_61 := i_eq c_61
        unfold g_X3_parseFilter_b52
        refine tot_if (fun c_64 => ?_) (fun c_64 => ?_)
        · replace c_64 := i_eq c_64
          refine tot_oif (iv_oO h_T k_l0 (by decide) (by decide) rfl) ?_
          refine tot_thri (R := R) (W := [98, 99]) (Q := fun r_62 : Int32 => (False)) (cs_X3_failAsTooMany T l0 (9 : Int32) h_T k_l0 (by omega)) (fun r_62 T_63 i_T_63 y_T_63 d_r_62 => ?_) (fun k_ U_ i_ y_ => hthr _ _ i_ (x_T.tr (y_.w (by decide))))
          have h_T_63 : IV R B K1 K2 T_63 := i_T_63
          have x_T_63 := x_T.tr (y_T_63.w (by decide))
          have f_T_63_l0_1 : (T_63.2.2.1 l0 1).toInt = (T.2.2.1 l0 1).toInt := congrArg Int32.toInt (y_T_63 l0 1 (by rw [k_l0]; decide))
          replace d_r_62 : (False) := d_r_62
          exact d_r_62.elim
        · replace c_64 := i_ne c_64
          unfold g_X3_parseFilter_b63
          refine tot_oif (iv_oO h_T k_l0 (by decide) (by decide) rfl) ?_
          refine tot_thri (R := R) (W := [97, 98, 99]) (Q := fun r_65 : Int32 => ((((-9) : Int32) : Int32).toInt ≤ r_65.toInt ∧ r_65.toInt ≤ ((9 : Int32) : Int32).toInt)) (cs_X3_signed T l0 ((-9) : Int32) (9 : Int32) h_T k_l0 (by omega) (by omega)) (fun r_65 T_66 i_T_66 y_T_66 d_r_65 => ?_) (fun k_ U_ i_ y_ => hthr _ _ i_ (x_T.tr (y_.w (by decide))))
          have h_T_66 : IV R B K1 K2 T_66 := i_T_66
          have x_T_66 := x_T.tr (y_T_66.w (by decide))
          replace d_r_65 : ((((-9) : Int32) : Int32).toInt ≤ r_65.toInt ∧ r_65.toInt ≤ ((9 : Int32) : Int32).toInt) := d_r_65
          refine tot_oif (iv_oO h_T_66 k_l1 (by decide) (by decide) rfl) ?_
          refine tot_bind (cs_X6_addTap T_66 l1 r_65 h_T_66 k_l1 (by omega)) (fun T_67 d_T_67 => ?_)
          have h_T_67 : IV R B K1 K2 T_67 := d_T_67.1
          have y_T_67 : FW R [206, 1824] T_66 T_67 := d_T_67.2
          have x_T_67 := x_T_66.tr (y_T_67.w (by decide))
          have f_T_67_l0_1 : (T_67.2.2.1 l0 1).toInt = (T_66.2.2.1 l0 1).toInt := congrArg Int32.toInt (y_T_67 l0 1 (by rw [k_l0]; decide))
          refine tot_let (fun v_68 e_v_68 => ?_)
          have q_v_68 := i_add e_v_68 (by omega) (by omega)
          exact ih T_67 v_68 h_T_67 x_T_67 (by omega) (by omega)
      · replace c_61 := i_ne c_61
        refine tot_oif (iv_oO h_T k_l0 (by decide) (by decide) rfl) ?_
        refine tot_bindq (R := fun r_58 : Int32 => (r_58.toInt = 5 ∨ (T.2.2.1 l0 1).toInt ≤ 1000)) (cs_X3_kind T l0 h_T k_l0 ) (fun r_58 d_r_58 => ?_)
        replace d_r_58 : (r_58.toInt = 5 ∨ (T.2.2.1 l0 1).toInt ≤ 1000) := d_r_58
        refine tot_if (fun c_69 => ?_) (fun c_69 => ?_)
        · replace c_69 := i_eq c_69
          unfold g_X3_parseFilter_b52
          refine tot_if (fun c_72 => ?_) (fun c_72 => ?_)
          · replace c_72 := i_eq c_72
            refine tot_oif (iv_oO h_T k_l0 (by decide) (by decide) rfl) ?_
            refine tot_thri (R := R) (W := [98, 99]) (Q := fun r_70 : Int32 => (False)) (cs_X3_failAsTooMany T l0 (9 : Int32) h_T k_l0 (by omega)) (fun r_70 T_71 i_T_71 y_T_71 d_r_70 => ?_) (fun k_ U_ i_ y_ => hthr _ _ i_ (x_T.tr (y_.w (by decide))))
            have h_T_71 : IV R B K1 K2 T_71 := i_T_71
            have x_T_71 := x_T.tr (y_T_71.w (by decide))
            have f_T_71_l0_1 : (T_71.2.2.1 l0 1).toInt = (T.2.2.1 l0 1).toInt := congrArg Int32.toInt (y_T_71 l0 1 (by rw [k_l0]; decide))
            replace d_r_70 : (False) := d_r_70
            exact d_r_70.elim
          · replace c_72 := i_ne c_72
            unfold g_X3_parseFilter_b63
            refine tot_oif (iv_oO h_T k_l0 (by decide) (by decide) rfl) ?_
            refine tot_thri (R := R) (W := [97, 98, 99]) (Q := fun r_73 : Int32 => ((((-9) : Int32) : Int32).toInt ≤ r_73.toInt ∧ r_73.toInt ≤ ((9 : Int32) : Int32).toInt)) (cs_X3_signed T l0 ((-9) : Int32) (9 : Int32) h_T k_l0 (by omega) (by omega)) (fun r_73 T_74 i_T_74 y_T_74 d_r_73 => ?_) (fun k_ U_ i_ y_ => hthr _ _ i_ (x_T.tr (y_.w (by decide))))
            have h_T_74 : IV R B K1 K2 T_74 := i_T_74
            have x_T_74 := x_T.tr (y_T_74.w (by decide))
            replace d_r_73 : ((((-9) : Int32) : Int32).toInt ≤ r_73.toInt ∧ r_73.toInt ≤ ((9 : Int32) : Int32).toInt) := d_r_73
            refine tot_oif (iv_oO h_T_74 k_l1 (by decide) (by decide) rfl) ?_
            refine tot_bind (cs_X6_addTap T_74 l1 r_73 h_T_74 k_l1 (by omega)) (fun T_75 d_T_75 => ?_)
            have h_T_75 : IV R B K1 K2 T_75 := d_T_75.1
            have y_T_75 : FW R [206, 1824] T_74 T_75 := d_T_75.2
            have x_T_75 := x_T_74.tr (y_T_75.w (by decide))
            have f_T_75_l0_1 : (T_75.2.2.1 l0 1).toInt = (T_74.2.2.1 l0 1).toInt := congrArg Int32.toInt (y_T_75 l0 1 (by rw [k_l0]; decide))
            refine tot_let (fun v_76 e_v_76 => ?_)
            have q_v_76 := i_add e_v_76 (by omega) (by omega)
            exact ih T_75 v_76 h_T_75 x_T_75 (by omega) (by omega)
        · replace c_69 := i_ne c_69
          exact hx0 T h_T x_T
set_option maxHeartbeats 4000000 in
set_option maxRecDepth 10000 in
theorem cs_X3_parseFilter {R : Nat → Nat} {B K1 K2 : Nat} (T : AT) (o : Nat) (a0 : Nat) (h_T : IV R B K1 K2 T) (k_o : R o = 3) (k_a0 : R a0 = 6) (g0 : (T.2.2.1 o 1).toInt ≤ 1000) : Tot (g_X3_parseFilter T o a0) (fun r => (IV R B K1 K2 r.2.2 ∧ FW R [97, 98, 99, 206, 1824] T r.2.2) ∧ (r.1 = 0 → (0 ≤ r.2.1.toInt ∧ r.2.1.toInt ≤ 0))) := by
  have z0 : (0 : Int32).toInt = 0 := by decide
  have z1 : ((3 : Int32) : Int32).toInt = 3 := by decide
  have z2 : (((-9) : Int32) : Int32).toInt = -9 := by decide
  have z3 : ((9 : Int32) : Int32).toInt = 9 := by decide
  have z4 : (1 : Int32).toInt = 1 := by decide
  have cc_101 : cnt 101 = 1 := rfl
  have cc_102 : cnt 102 = 12 := rfl
  have cc_103 : cnt 103 = 144 := rfl
  have cc_104 : cnt 104 = 2400 := rfl
  have cc_105 : cnt 105 = 7200 := rfl
  have x_T : FW R [97, 98, 99, 206, 1824] T T := FW.rf
  unfold g_X3_parseFilter
  refine tot_oif (iv_oO h_T k_a0 (by decide) (by decide) rfl) ?_
  refine tot_let (fun v_1 e_v_1 => ?_)
  have r_v_1 : 0 ≤ v_1.toInt ∧ v_1.toInt ≤ 5 := iv_int h_T k_a0 (by decide) (by decide) e_v_1 rfl
  refine tot_if (fun c_2 => ?_) (fun c_2 => ?_)
  · replace c_2 := i_le c_2
    unfold g_X3_parseFilter_b13
    refine tot_oif (iv_oO h_T k_o (by decide) (by decide) rfl) ?_
    refine tot_thri (R := R) (W := [97, 98, 99]) (Q := fun r_3 : Int32 => ((0 : Int32).toInt = 0)) (cs_X3_startLine T o 0 (3 : Int32) h_T k_o (by omega) (by omega) (by omega)) (fun r_3 T_4 i_T_4 y_T_4 d_r_3 => ?_) (fun k_ U_ i_ y_ => ⟨⟨i_, x_T.tr (y_.w (by decide))⟩, fun q_ => absurd q_ (Nat.succ_ne_zero k_)⟩)
    have h_T_4 : IV R B K1 K2 T_4 := i_T_4
    have x_T_4 := x_T.tr (y_T_4.w (by decide))
    replace d_r_3 : ((0 : Int32).toInt = 0) := d_r_3
    refine tot_oif (iv_oO h_T_4 k_o (by decide) (by decide) rfl) ?_
    refine tot_thri (R := R) (W := [97, 98, 99]) (Q := fun r_5 : Int32 => ((((-9) : Int32) : Int32).toInt ≤ r_5.toInt ∧ r_5.toInt ≤ ((9 : Int32) : Int32).toInt)) (cs_X3_signed T_4 o ((-9) : Int32) (9 : Int32) h_T_4 k_o (by omega) (by omega)) (fun r_5 T_6 i_T_6 y_T_6 d_r_5 => ?_) (fun k_ U_ i_ y_ => ⟨⟨i_, x_T_4.tr (y_.w (by decide))⟩, fun q_ => absurd q_ (Nat.succ_ne_zero k_)⟩)
    have h_T_6 : IV R B K1 K2 T_6 := i_T_6
    have x_T_6 := x_T_4.tr (y_T_6.w (by decide))
    replace d_r_5 : ((((-9) : Int32) : Int32).toInt ≤ r_5.toInt ∧ r_5.toInt ≤ ((9 : Int32) : Int32).toInt) := d_r_5
    refine tot_oif (iv_oO h_T_6 k_a0 (by decide) (by decide) rfl) ?_
    refine tot_bind (cs_X6_addTap T_6 a0 r_5 h_T_6 k_a0 (by omega)) (fun T_7 d_T_7 => ?_)
    have h_T_7 : IV R B K1 K2 T_7 := d_T_7.1
    have y_T_7 : FW R [206, 1824] T_6 T_7 := d_T_7.2
    have x_T_7 := x_T_6.tr (y_T_7.w (by decide))
    have f_T_7_o_1 : (T_7.2.2.1 o 1).toInt = (T_6.2.2.1 o 1).toInt := congrArg Int32.toInt (y_T_7 o 1 (by rw [k_o]; decide))
    refine cl_X3_parseFilter_b31 o a0 T k_o k_a0 (fun k_ U_ i_ x_ => ⟨⟨i_, x_⟩, fun q_ => absurd q_ (Nat.succ_ne_zero k_)⟩) ?_ 16384 T_7 1 h_T_7 x_T_7 (by omega) (by omega)
    · intro T_77 h_T_77 x_T_77
      unfold g_X3_parseFilter_b81
      exact tot_some ⟨⟨h_T_77, x_T_77⟩, fun _ => (show (0 ≤ (0 : Int32).toInt ∧ (0 : Int32).toInt ≤ 0) from by omega)⟩
  · replace c_2 := i_nle c_2
    unfold g_X3_parseFilter_b13
    refine tot_oif (iv_oO h_T k_o (by decide) (by decide) rfl) ?_
    refine tot_thri (R := R) (W := [97, 98, 99]) (Q := fun r_78 : Int32 => ((1 : Int32).toInt = 0)) (cs_X3_startLine T o 1 (3 : Int32) h_T k_o (by omega) (by omega) (by omega)) (fun r_78 T_79 i_T_79 y_T_79 d_r_78 => ?_) (fun k_ U_ i_ y_ => ⟨⟨i_, x_T.tr (y_.w (by decide))⟩, fun q_ => absurd q_ (Nat.succ_ne_zero k_)⟩)
    have h_T_79 : IV R B K1 K2 T_79 := i_T_79
    have x_T_79 := x_T.tr (y_T_79.w (by decide))
    replace d_r_78 : ((1 : Int32).toInt = 0) := d_r_78
    refine tot_oif (iv_oO h_T_79 k_o (by decide) (by decide) rfl) ?_
    refine tot_thri (R := R) (W := [97, 98, 99]) (Q := fun r_80 : Int32 => ((((-9) : Int32) : Int32).toInt ≤ r_80.toInt ∧ r_80.toInt ≤ ((9 : Int32) : Int32).toInt)) (cs_X3_signed T_79 o ((-9) : Int32) (9 : Int32) h_T_79 k_o (by omega) (by omega)) (fun r_80 T_81 i_T_81 y_T_81 d_r_80 => ?_) (fun k_ U_ i_ y_ => ⟨⟨i_, x_T_79.tr (y_.w (by decide))⟩, fun q_ => absurd q_ (Nat.succ_ne_zero k_)⟩)
    have h_T_81 : IV R B K1 K2 T_81 := i_T_81
    have x_T_81 := x_T_79.tr (y_T_81.w (by decide))
    replace d_r_80 : ((((-9) : Int32) : Int32).toInt ≤ r_80.toInt ∧ r_80.toInt ≤ ((9 : Int32) : Int32).toInt) := d_r_80
    refine tot_oif (iv_oO h_T_81 k_a0 (by decide) (by decide) rfl) ?_
    refine tot_bind (cs_X6_addTap T_81 a0 r_80 h_T_81 k_a0 (by omega)) (fun T_82 d_T_82 => ?_)
    have h_T_82 : IV R B K1 K2 T_82 := d_T_82.1
    have y_T_82 : FW R [206, 1824] T_81 T_82 := d_T_82.2
    have x_T_82 := x_T_81.tr (y_T_82.w (by decide))
    have f_T_82_o_1 : (T_82.2.2.1 o 1).toInt = (T_81.2.2.1 o 1).toInt := congrArg Int32.toInt (y_T_82 o 1 (by rw [k_o]; decide))
    refine cl_X3_parseFilter_b31 o a0 T k_o k_a0 (fun k_ U_ i_ x_ => ⟨⟨i_, x_⟩, fun q_ => absurd q_ (Nat.succ_ne_zero k_)⟩) ?_ 16384 T_82 1 h_T_82 x_T_82 (by omega) (by omega)
    · intro T_83 h_T_83 x_T_83
      unfold g_X3_parseFilter_b81
      exact tot_some ⟨⟨h_T_83, x_T_83⟩, fun _ => (show (0 ≤ (0 : Int32).toInt ∧ (0 : Int32).toInt ≤ 0) from by omega)⟩
set_option maxHeartbeats 4000000 in
set_option maxRecDepth 10000 in
theorem cs_X3_parseWall {R : Nat → Nat} {B K1 K2 : Nat} (T : AT) (o : Nat) (a0 : Nat) (h_T : IV R B K1 K2 T) (k_o : R o = 3) (k_a0 : R a0 = 6) (g0 : (T.2.2.1 o 1).toInt ≤ 1000) : Tot (g_X3_parseWall T o a0) (fun r => (IV R B K1 K2 r.2.2 ∧ FW R [97, 98, 99, 203, 1760, 1792] T r.2.2) ∧ (r.1 = 0 → (0 ≤ r.2.1.toInt ∧ r.2.1.toInt ≤ 0))) := by
  have z0 : (2 : Int32).toInt = 2 := by decide
  have z1 : (0 : Int32).toInt = 0 := by decide
  have z2 : ((4 : Int32) : Int32).toInt = 4 := by decide
  have z3 : (((-2000) : Int32) : Int32).toInt = -2000 := by decide
  have z4 : ((2000 : Int32) : Int32).toInt = 2000 := by decide
  have z5 : ((1 : Int32) : Int32).toInt = 1 := by decide
  have z6 : ((100 : Int32) : Int32).toInt = 100 := by decide
  have z7 : (1 : Int32).toInt = 1 := by decide
  have cc_101 : cnt 101 = 1 := rfl
  have cc_102 : cnt 102 = 12 := rfl
  have cc_103 : cnt 103 = 144 := rfl
  have cc_104 : cnt 104 = 2400 := rfl
  have cc_105 : cnt 105 = 7200 := rfl
  have x_T : FW R [97, 98, 99, 203, 1760, 1792] T T := FW.rf
  unfold g_X3_parseWall
  refine tot_oif (iv_oO h_T k_a0 (by decide) (by decide) rfl) ?_
  refine tot_let (fun v_1 e_v_1 => ?_)
  have q_v_1 := i_eq e_v_1
  have r_v_1 : 0 ≤ v_1.toInt ∧ v_1.toInt ≤ 2 := iv_int h_T k_a0 (by decide) (by decide) e_v_1 rfl
  refine tot_if (fun c_2 => ?_) (fun c_2 => ?_)
  · replace c_2 := i_lt c_2
    unfold g_X3_parseWall_b14
    refine tot_oif (iv_oO h_T k_o (by decide) (by decide) rfl) ?_
    refine tot_thri (R := R) (W := [97, 98, 99]) (Q := fun r_3 : Int32 => ((0 : Int32).toInt = 0)) (cs_X3_startLine T o 0 (4 : Int32) h_T k_o (by omega) (by omega) (by omega)) (fun r_3 T_4 i_T_4 y_T_4 d_r_3 => ?_) (fun k_ U_ i_ y_ => ⟨⟨i_, x_T.tr (y_.w (by decide))⟩, fun q_ => absurd q_ (Nat.succ_ne_zero k_)⟩)
    have h_T_4 : IV R B K1 K2 T_4 := i_T_4
    have x_T_4 := x_T.tr (y_T_4.w (by decide))
    have f_T_4_a0_11 : (T_4.2.2.1 a0 11).toInt = (T.2.2.1 a0 11).toInt := congrArg Int32.toInt (y_T_4 a0 11 (by rw [k_a0]; decide))
    replace d_r_3 : ((0 : Int32).toInt = 0) := d_r_3
    refine tot_oif (iv_oO h_T_4 k_a0 (by decide) (by decide) rfl) ?_
    refine tot_ref h_T_4 k_a0 (by decide) (by decide) (r2 := 55) (rfl : rtg 6 9 = 55) (by decide) (fun n_5 k_n_5 e_n_5 => ?_)
    refine tot_oif (iv_oO h_T_4 k_a0 (by decide) (by decide) rfl) ?_
    refine tot_let (fun v_6 e_v_6 => ?_)
    have q_v_6 := i_eq e_v_6
    have r_v_6 : 0 ≤ v_6.toInt ∧ v_6.toInt ≤ 2 := iv_int h_T_4 k_a0 (by decide) (by decide) e_v_6 rfl
    refine tot_oif (iv_oO h_T_4 k_o (by decide) (by decide) rfl) ?_
    refine tot_thri (R := R) (W := [97, 98, 99]) (Q := fun r_7 : Int32 => ((((-2000) : Int32) : Int32).toInt ≤ r_7.toInt ∧ r_7.toInt ≤ ((2000 : Int32) : Int32).toInt)) (cs_X3_signed T_4 o ((-2000) : Int32) (2000 : Int32) h_T_4 k_o (by omega) (by omega)) (fun r_7 T_8 i_T_8 y_T_8 d_r_7 => ?_) (fun k_ U_ i_ y_ => ⟨⟨i_, x_T_4.tr (y_.w (by decide))⟩, fun q_ => absurd q_ (Nat.succ_ne_zero k_)⟩)
    have h_T_8 : IV R B K1 K2 T_8 := i_T_8
    have x_T_8 := x_T_4.tr (y_T_8.w (by decide))
    have f_T_8_a0_11 : (T_8.2.2.1 a0 11).toInt = (T_4.2.2.1 a0 11).toInt := congrArg Int32.toInt (y_T_8 a0 11 (by rw [k_a0]; decide))
    replace d_r_7 : ((((-2000) : Int32) : Int32).toInt ≤ r_7.toInt ∧ r_7.toInt ≤ ((2000 : Int32) : Int32).toInt) := d_r_7
    refine tot_oif (iv_aA h_T_8 k_n_5 (by decide) (by decide) rfl rfl) ?_
    refine tot_oif (by rw [iv_len h_T_8 k_n_5 (by decide) (by decide) (rfl : shp 55 = (100, 2))]; exact i_inb (by omega) (by omega)) ?_
    refine tot_let (fun T_9 e_T_9 => ?_)
    have h_T_9 : IV R B K1 K2 T_9 := by rw [e_T_9]; exact iv_uI (a := -2000) (b := 2000) h_T_8 k_n_5 (by decide) (by decide) rfl (by omega) (.inl rfl)
    have x_T_9 := x_T_8.tr (fw_uA e_T_9 k_n_5 rfl rfl (by decide))
    have f_T_9_o_1 : (T_9.2.2.1 o 1).toInt = (T_8.2.2.1 o 1).toInt := congrArg Int32.toInt ((fw_uA (W := [1760]) e_T_9 k_n_5 rfl rfl (by decide)) o 1 (by rw [k_o]; decide))
    have f_T_9_a0_11 : (T_9.2.2.1 a0 11).toInt = (T_8.2.2.1 a0 11).toInt := congrArg Int32.toInt ((fw_uA (W := [1760]) e_T_9 k_n_5 rfl rfl (by decide)) a0 11 (by rw [k_a0]; decide))
    refine tot_oif (iv_oO h_T_9 k_a0 (by decide) (by decide) rfl) ?_
    refine tot_ref h_T_9 k_a0 (by decide) (by decide) (r2 := 56) (rfl : rtg 6 10 = 56) (by decide) (fun n_10 k_n_10 e_n_10 => ?_)
    refine tot_oif (iv_oO h_T_9 k_a0 (by decide) (by decide) rfl) ?_
    refine tot_let (fun v_11 e_v_11 => ?_)
    have q_v_11 := i_eq e_v_11
    have r_v_11 : 0 ≤ v_11.toInt ∧ v_11.toInt ≤ 2 := iv_int h_T_9 k_a0 (by decide) (by decide) e_v_11 rfl
    refine tot_oif (iv_oO h_T_9 k_o (by decide) (by decide) rfl) ?_
    refine tot_thri (R := R) (W := [97, 98, 99]) (Q := fun r_12 : Int32 => (((1 : Int32) : Int32).toInt ≤ r_12.toInt ∧ r_12.toInt ≤ ((100 : Int32) : Int32).toInt)) (cs_X3_number T_9 o (1 : Int32) (100 : Int32) h_T_9 k_o ) (fun r_12 T_13 i_T_13 y_T_13 d_r_12 => ?_) (fun k_ U_ i_ y_ => ⟨⟨i_, x_T_9.tr (y_.w (by decide))⟩, fun q_ => absurd q_ (Nat.succ_ne_zero k_)⟩)
    have h_T_13 : IV R B K1 K2 T_13 := i_T_13
    have x_T_13 := x_T_9.tr (y_T_13.w (by decide))
    have f_T_13_a0_11 : (T_13.2.2.1 a0 11).toInt = (T_9.2.2.1 a0 11).toInt := congrArg Int32.toInt (y_T_13 a0 11 (by rw [k_a0]; decide))
    replace d_r_12 : (((1 : Int32) : Int32).toInt ≤ r_12.toInt ∧ r_12.toInt ≤ ((100 : Int32) : Int32).toInt) := d_r_12
    refine tot_oif (iv_aA h_T_13 k_n_10 (by decide) (by decide) rfl rfl) ?_
    refine tot_oif (by rw [iv_len h_T_13 k_n_10 (by decide) (by decide) (rfl : shp 56 = (100, 2))]; exact i_inb (by omega) (by omega)) ?_
    refine tot_let (fun T_14 e_T_14 => ?_)
    have h_T_14 : IV R B K1 K2 T_14 := by rw [e_T_14]; exact iv_uI (a := 0) (b := 100) h_T_13 k_n_10 (by decide) (by decide) rfl (by omega) (.inl rfl)
    have x_T_14 := x_T_13.tr (fw_uA e_T_14 k_n_10 rfl rfl (by decide))
    have f_T_14_o_1 : (T_14.2.2.1 o 1).toInt = (T_13.2.2.1 o 1).toInt := congrArg Int32.toInt ((fw_uA (W := [1792]) e_T_14 k_n_10 rfl rfl (by decide)) o 1 (by rw [k_o]; decide))
    have f_T_14_a0_11 : (T_14.2.2.1 a0 11).toInt = (T_13.2.2.1 a0 11).toInt := congrArg Int32.toInt ((fw_uA (W := [1792]) e_T_14 k_n_10 rfl rfl (by decide)) a0 11 (by rw [k_a0]; decide))
    refine tot_oif (iv_oO h_T_14 k_a0 (by decide) (by decide) rfl) ?_
    refine tot_let (fun v_15 e_v_15 => ?_)
    have q_v_15 := i_eq e_v_15
    have r_v_15 : 0 ≤ v_15.toInt ∧ v_15.toInt ≤ 2 := iv_int h_T_14 k_a0 (by decide) (by decide) e_v_15 rfl
    refine tot_let (fun v_16 e_v_16 => ?_)
    have q_v_16 := i_add e_v_16 (by omega) (by omega)
    refine tot_oif (iv_oO h_T_14 k_a0 (by decide) (by decide) rfl) ?_
    refine tot_let (fun T_17 e_T_17 => ?_)
    have h_T_17 : IV R B K1 K2 T_17 := by rw [e_T_17]; exact iv_uI (a := 0) (b := 2) h_T_14 k_a0 (by decide) (by decide) rfl (by omega) (.inl rfl)
    have x_T_17 := x_T_14.tr (fw_uI e_T_17 k_a0 (by decide))
    have f_T_17_o_1 : (T_17.2.2.1 o 1).toInt = (T_14.2.2.1 o 1).toInt := congrArg Int32.toInt ((fw_uI (W := [203]) e_T_17 k_a0 (by decide)) o 1 (by rw [k_o]; decide))
    have f_T_17_a0_11 : (T_17.2.2.1 a0 11).toInt = (v_16 : Int32).toInt := by rw [e_T_17]; exact congrArg Int32.toInt (uI_at _ _ _ _)
    exact tot_some ⟨⟨h_T_17, x_T_17⟩, fun _ => (show (0 ≤ (0 : Int32).toInt ∧ (0 : Int32).toInt ≤ 0) from by omega)⟩
  · replace c_2 := i_nlt c_2
    unfold g_X3_parseWall_b14
    refine tot_oif (iv_oO h_T k_o (by decide) (by decide) rfl) ?_
    refine tot_thri (R := R) (W := [97, 98, 99]) (Q := fun r_18 : Int32 => ((1 : Int32).toInt = 0)) (cs_X3_startLine T o 1 (4 : Int32) h_T k_o (by omega) (by omega) (by omega)) (fun r_18 T_19 i_T_19 y_T_19 d_r_18 => ?_) (fun k_ U_ i_ y_ => ⟨⟨i_, x_T.tr (y_.w (by decide))⟩, fun q_ => absurd q_ (Nat.succ_ne_zero k_)⟩)
    have h_T_19 : IV R B K1 K2 T_19 := i_T_19
    have x_T_19 := x_T.tr (y_T_19.w (by decide))
    have f_T_19_a0_11 : (T_19.2.2.1 a0 11).toInt = (T.2.2.1 a0 11).toInt := congrArg Int32.toInt (y_T_19 a0 11 (by rw [k_a0]; decide))
    replace d_r_18 : ((1 : Int32).toInt = 0) := d_r_18
    refine tot_oif (iv_oO h_T_19 k_a0 (by decide) (by decide) rfl) ?_
    refine tot_ref h_T_19 k_a0 (by decide) (by decide) (r2 := 55) (rfl : rtg 6 9 = 55) (by decide) (fun n_20 k_n_20 e_n_20 => ?_)
    refine tot_oif (iv_oO h_T_19 k_a0 (by decide) (by decide) rfl) ?_
    refine tot_let (fun v_21 e_v_21 => ?_)
    have q_v_21 := i_eq e_v_21
    have r_v_21 : 0 ≤ v_21.toInt ∧ v_21.toInt ≤ 2 := iv_int h_T_19 k_a0 (by decide) (by decide) e_v_21 rfl
    refine tot_oif (iv_oO h_T_19 k_o (by decide) (by decide) rfl) ?_
    refine tot_thri (R := R) (W := [97, 98, 99]) (Q := fun r_22 : Int32 => ((((-2000) : Int32) : Int32).toInt ≤ r_22.toInt ∧ r_22.toInt ≤ ((2000 : Int32) : Int32).toInt)) (cs_X3_signed T_19 o ((-2000) : Int32) (2000 : Int32) h_T_19 k_o (by omega) (by omega)) (fun r_22 T_23 i_T_23 y_T_23 d_r_22 => ?_) (fun k_ U_ i_ y_ => ⟨⟨i_, x_T_19.tr (y_.w (by decide))⟩, fun q_ => absurd q_ (Nat.succ_ne_zero k_)⟩)
    have h_T_23 : IV R B K1 K2 T_23 := i_T_23
    have x_T_23 := x_T_19.tr (y_T_23.w (by decide))
    have f_T_23_a0_11 : (T_23.2.2.1 a0 11).toInt = (T_19.2.2.1 a0 11).toInt := congrArg Int32.toInt (y_T_23 a0 11 (by rw [k_a0]; decide))
    replace d_r_22 : ((((-2000) : Int32) : Int32).toInt ≤ r_22.toInt ∧ r_22.toInt ≤ ((2000 : Int32) : Int32).toInt) := d_r_22
    refine tot_oif (iv_aA h_T_23 k_n_20 (by decide) (by decide) rfl rfl) ?_
    refine tot_oif (by rw [iv_len h_T_23 k_n_20 (by decide) (by decide) (rfl : shp 55 = (100, 2))]; exact i_inb (by omega) (by omega)) ?_
    refine tot_let (fun T_24 e_T_24 => ?_)
    have h_T_24 : IV R B K1 K2 T_24 := by rw [e_T_24]; exact iv_uI (a := -2000) (b := 2000) h_T_23 k_n_20 (by decide) (by decide) rfl (by omega) (.inl rfl)
    have x_T_24 := x_T_23.tr (fw_uA e_T_24 k_n_20 rfl rfl (by decide))
    have f_T_24_o_1 : (T_24.2.2.1 o 1).toInt = (T_23.2.2.1 o 1).toInt := congrArg Int32.toInt ((fw_uA (W := [1760]) e_T_24 k_n_20 rfl rfl (by decide)) o 1 (by rw [k_o]; decide))
    have f_T_24_a0_11 : (T_24.2.2.1 a0 11).toInt = (T_23.2.2.1 a0 11).toInt := congrArg Int32.toInt ((fw_uA (W := [1760]) e_T_24 k_n_20 rfl rfl (by decide)) a0 11 (by rw [k_a0]; decide))
    refine tot_oif (iv_oO h_T_24 k_a0 (by decide) (by decide) rfl) ?_
    refine tot_ref h_T_24 k_a0 (by decide) (by decide) (r2 := 56) (rfl : rtg 6 10 = 56) (by decide) (fun n_25 k_n_25 e_n_25 => ?_)
    refine tot_oif (iv_oO h_T_24 k_a0 (by decide) (by decide) rfl) ?_
    refine tot_let (fun v_26 e_v_26 => ?_)
    have q_v_26 := i_eq e_v_26
    have r_v_26 : 0 ≤ v_26.toInt ∧ v_26.toInt ≤ 2 := iv_int h_T_24 k_a0 (by decide) (by decide) e_v_26 rfl
    refine tot_oif (iv_oO h_T_24 k_o (by decide) (by decide) rfl) ?_
    refine tot_thri (R := R) (W := [97, 98, 99]) (Q := fun r_27 : Int32 => (((1 : Int32) : Int32).toInt ≤ r_27.toInt ∧ r_27.toInt ≤ ((100 : Int32) : Int32).toInt)) (cs_X3_number T_24 o (1 : Int32) (100 : Int32) h_T_24 k_o ) (fun r_27 T_28 i_T_28 y_T_28 d_r_27 => ?_) (fun k_ U_ i_ y_ => ⟨⟨i_, x_T_24.tr (y_.w (by decide))⟩, fun q_ => absurd q_ (Nat.succ_ne_zero k_)⟩)
    have h_T_28 : IV R B K1 K2 T_28 := i_T_28
    have x_T_28 := x_T_24.tr (y_T_28.w (by decide))
    have f_T_28_a0_11 : (T_28.2.2.1 a0 11).toInt = (T_24.2.2.1 a0 11).toInt := congrArg Int32.toInt (y_T_28 a0 11 (by rw [k_a0]; decide))
    replace d_r_27 : (((1 : Int32) : Int32).toInt ≤ r_27.toInt ∧ r_27.toInt ≤ ((100 : Int32) : Int32).toInt) := d_r_27
    refine tot_oif (iv_aA h_T_28 k_n_25 (by decide) (by decide) rfl rfl) ?_
    refine tot_oif (by rw [iv_len h_T_28 k_n_25 (by decide) (by decide) (rfl : shp 56 = (100, 2))]; exact i_inb (by omega) (by omega)) ?_
    refine tot_let (fun T_29 e_T_29 => ?_)
    have h_T_29 : IV R B K1 K2 T_29 := by rw [e_T_29]; exact iv_uI (a := 0) (b := 100) h_T_28 k_n_25 (by decide) (by decide) rfl (by omega) (.inl rfl)
    have x_T_29 := x_T_28.tr (fw_uA e_T_29 k_n_25 rfl rfl (by decide))
    have f_T_29_o_1 : (T_29.2.2.1 o 1).toInt = (T_28.2.2.1 o 1).toInt := congrArg Int32.toInt ((fw_uA (W := [1792]) e_T_29 k_n_25 rfl rfl (by decide)) o 1 (by rw [k_o]; decide))
    have f_T_29_a0_11 : (T_29.2.2.1 a0 11).toInt = (T_28.2.2.1 a0 11).toInt := congrArg Int32.toInt ((fw_uA (W := [1792]) e_T_29 k_n_25 rfl rfl (by decide)) a0 11 (by rw [k_a0]; decide))
    refine tot_oif (iv_oO h_T_29 k_a0 (by decide) (by decide) rfl) ?_
    refine tot_let (fun v_30 e_v_30 => ?_)
    have q_v_30 := i_eq e_v_30
    have r_v_30 : 0 ≤ v_30.toInt ∧ v_30.toInt ≤ 2 := iv_int h_T_29 k_a0 (by decide) (by decide) e_v_30 rfl
    refine tot_let (fun v_31 e_v_31 => ?_)
    have q_v_31 := i_add e_v_31 (by omega) (by omega)
    refine tot_oif (iv_oO h_T_29 k_a0 (by decide) (by decide) rfl) ?_
    refine tot_let (fun T_32 e_T_32 => ?_)
    have h_T_32 : IV R B K1 K2 T_32 := by rw [e_T_32]; exact iv_uI (a := 0) (b := 2) h_T_29 k_a0 (by decide) (by decide) rfl (by omega) (.inl rfl)
    have x_T_32 := x_T_29.tr (fw_uI e_T_32 k_a0 (by decide))
    have f_T_32_o_1 : (T_32.2.2.1 o 1).toInt = (T_29.2.2.1 o 1).toInt := congrArg Int32.toInt ((fw_uI (W := [203]) e_T_32 k_a0 (by decide)) o 1 (by rw [k_o]; decide))
    have f_T_32_a0_11 : (T_32.2.2.1 a0 11).toInt = (v_31 : Int32).toInt := by rw [e_T_32]; exact congrArg Int32.toInt (uI_at _ _ _ _)
    exact tot_some ⟨⟨h_T_32, x_T_32⟩, fun _ => (show (0 ≤ (0 : Int32).toInt ∧ (0 : Int32).toInt ≤ 0) from by omega)⟩
end
