set_option maxHeartbeats 4000000 in
set_option maxRecDepth 10000 in
theorem sf_columns {P : Nat → Int32} (hP : PL P) (S : MS) (h_S : IC P S) : Tot (fr_columns S) (fun r => IC P r.2 ∧ (0 ≤ r.1.toInt ∧ r.1.toInt ≤ 200)) := by
  have p_9 := pl_9 hP
  have p_cells := pl_cells hP
  unfold fr_columns
  refine tot_let (fun v_1 e_v_1 => ?_)
  have q_v_1 := ic_p h_S e_v_1
  refine tot_bind2 (sf_told hP S v_1 h_S (by omega)) (fun r_2 S_3 d_r_2 => ?_)
  have h_S_3 : IC P S_3 := d_r_2.1
  replace d_r_2 : (0 ≤ r_2.toInt ∧ r_2.toInt ≤ 200) := d_r_2.2
  exact tot_some ⟨h_S_3, (show (0 ≤ r_2.toInt ∧ r_2.toInt ≤ 200) from by omega)⟩
set_option maxHeartbeats 4000000 in
set_option maxRecDepth 10000 in
theorem sf_rows {P : Nat → Int32} (hP : PL P) (S : MS) (h_S : IC P S) : Tot (fr_rows S) (fun r => IC P r.2 ∧ (0 ≤ r.1.toInt ∧ r.1.toInt ≤ 200)) := by
  have p_10 := pl_10 hP
  unfold fr_rows
  refine tot_let (fun v_1 e_v_1 => ?_)
  have q_v_1 := ic_p h_S e_v_1
  refine tot_bind2 (sf_told hP S v_1 h_S (by omega)) (fun r_2 S_3 d_r_2 => ?_)
  have h_S_3 : IC P S_3 := d_r_2.1
  replace d_r_2 : (0 ≤ r_2.toInt ∧ r_2.toInt ≤ 200) := d_r_2.2
  exact tot_some ⟨h_S_3, (show (0 ≤ r_2.toInt ∧ r_2.toInt ≤ 200) from by omega)⟩
set_option maxHeartbeats 4000000 in
set_option maxRecDepth 10000 in
theorem sf_cellAt {P : Nat → Int32} (hP : PL P) (S : MS) (a0 : Int32) (a1 : Int32) (h_S : IC P S) : Tot (fr_cellAt S a0 a1) (fun r => IC P r.2 ∧ (-999 ≤ r.1.toInt ∧ r.1.toInt ≤ 15156)) := by
  have z0 : (0 : Int32).toInt = 0 := by decide
  have z1 : (1 : Int32).toInt = 1 := by decide
  have z2 : (3 : Int32).toInt = 3 := by decide
  have p_9 := pl_9 hP
  have p_10 := pl_10 hP
  have p_cells := pl_cells hP
  have j_a0 := i_any a0
  have j_a1 := i_any a1
  unfold fr_cellAt
  refine tot_bindp (R := fun r_1 : Int32 => (r_1.toInt = 0 ∨ r_1.toInt = 1 ∧ (0 ≤ a0.toInt ∧ a0.toInt ≤ 143) ∧ a0.toInt < (P 9).toInt * (P 10).toInt)) (sf_isCell hP S a0 h_S ) (fun r_1 d_r_1 => ?_)
  replace d_r_1 : (r_1.toInt = 0 ∨ r_1.toInt = 1 ∧ (0 ≤ a0.toInt ∧ a0.toInt ≤ 143) ∧ a0.toInt < (P 9).toInt * (P 10).toInt) := d_r_1
  refine tot_bind2 (sf_mayAsk hP S r_1 h_S (by omega)) (fun r_3 S_4 d_r_3 => ?_)
  have h_S_4 : IC P S_4 := d_r_3.1
  replace d_r_3 : (r_3.toInt = 0 ∨ r_3.toInt = 1 ∧ ¬ r_1.toInt = 0) := d_r_3.2
  refine tot_if (fun c_10 => ?_) (fun c_10 => ?_)
  · replace c_10 := i_eq c_10
    exact tot_some ⟨h_S_4, (show (-999 ≤ (0 : Int32).toInt ∧ (0 : Int32).toInt ≤ 15156) from by omega)⟩
  · replace c_10 := i_ne c_10
    refine tot_bind (sf_in hP a1 0 1  ) (fun r_5 d_r_5 => ?_)
    replace d_r_5 : (r_5.toInt = 0 ∧ (a1.toInt < (0 : Int32).toInt ∨ (1 : Int32).toInt < a1.toInt) ∨ r_5.toInt = 1 ∧ (0 : Int32).toInt ≤ a1.toInt ∧ a1.toInt ≤ (1 : Int32).toInt) := d_r_5
    refine tot_if (fun c_11 => ?_) (fun c_11 => ?_)
    · replace c_11 := i_eq c_11
      refine tot_bind2 (sf_throwsAt hP S_4 3 h_S_4 ) (fun r_6 S_7 d_r_6 => ?_)
      have h_S_7 : IC P S_7 := d_r_6.1
      replace d_r_6 : (0 ≤ r_6.toInt ∧ r_6.toInt ≤ 0) := d_r_6.2
      unfold fr_cellAt_b37
      exact tot_some ⟨h_S_7, (show (-999 ≤ r_6.toInt ∧ r_6.toInt ≤ 15156) from by omega)⟩
    · replace c_11 := i_ne c_11
      refine tot_bindp (R := fun r_8 : Int32 => (-999 ≤ r_8.toInt ∧ r_8.toInt ≤ 15156)) (sf_centre hP S_4 a0 a1 h_S_4 (by omega) (by omega)) (fun r_8 d_r_8 => ?_)
      replace d_r_8 : (-999 ≤ r_8.toInt ∧ r_8.toInt ≤ 15156) := d_r_8
      unfold fr_cellAt_b37
      exact tot_some ⟨h_S_4, (show (-999 ≤ r_8.toInt ∧ r_8.toInt ≤ 15156) from by omega)⟩
set_option maxHeartbeats 4000000 in
set_option maxRecDepth 10000 in
theorem sf_sources {P : Nat → Int32} (hP : PL P) (S : MS) (h_S : IC P S) : Tot (fr_sources S) (fun r => IC P r.2 ∧ (0 ≤ r.1.toInt ∧ r.1.toInt ≤ 200)) := by
  have p_5 := pl_5 hP
  unfold fr_sources
  refine tot_let (fun v_1 e_v_1 => ?_)
  have q_v_1 := ic_p h_S e_v_1
  refine tot_bind2 (sf_told hP S v_1 h_S (by omega)) (fun r_2 S_3 d_r_2 => ?_)
  have h_S_3 : IC P S_3 := d_r_2.1
  replace d_r_2 : (0 ≤ r_2.toInt ∧ r_2.toInt ≤ 200) := d_r_2.2
  exact tot_some ⟨h_S_3, (show (0 ≤ r_2.toInt ∧ r_2.toInt ≤ 200) from by omega)⟩
set_option maxHeartbeats 4000000 in
set_option maxRecDepth 10000 in
theorem sf_sourceAt {P : Nat → Int32} (hP : PL P) (S : MS) (a0 : Int32) (a1 : Int32) (a2 : Int32) (h_S : IC P S) : Tot (fr_sourceAt S a0 a1 a2) (fun r => IC P r.2 ∧ (-3988 ≤ r.1.toInt ∧ r.1.toInt ≤ 3988)) := by
  have z0 : (0 : Int32).toInt = 0 := by decide
  have z1 : (1 : Int32).toInt = 1 := by decide
  have z2 : (3 : Int32).toInt = 3 := by decide
  have p_2 := pl_2 hP
  have p_5 := pl_5 hP
  have j_a0 := i_any a0
  have j_a1 := i_any a1
  have j_a2 := i_any a2
  unfold fr_sourceAt
  refine tot_bindp (R := fun r_1 : Int32 => (r_1.toInt = 0 ∨ r_1.toInt = 1 ∧ 0 ≤ a0.toInt ∧ a0.toInt < (P 5).toInt)) (sf_isSource hP S a0 h_S ) (fun r_1 d_r_1 => ?_)
  replace d_r_1 : (r_1.toInt = 0 ∨ r_1.toInt = 1 ∧ 0 ≤ a0.toInt ∧ a0.toInt < (P 5).toInt) := d_r_1
  refine tot_bind2 (sf_mayAsk hP S r_1 h_S (by omega)) (fun r_3 S_4 d_r_3 => ?_)
  have h_S_4 : IC P S_4 := d_r_3.1
  replace d_r_3 : (r_3.toInt = 0 ∨ r_3.toInt = 1 ∧ ¬ r_1.toInt = 0) := d_r_3.2
  refine tot_if (fun c_10 => ?_) (fun c_10 => ?_)
  · replace c_10 := i_eq c_10
    exact tot_some ⟨h_S_4, (show (-3988 ≤ (0 : Int32).toInt ∧ (0 : Int32).toInt ≤ 3988) from by omega)⟩
  · replace c_10 := i_ne c_10
    refine tot_bind (sf_in hP a1 0 1  ) (fun r_5 d_r_5 => ?_)
    replace d_r_5 : (r_5.toInt = 0 ∧ (a1.toInt < (0 : Int32).toInt ∨ (1 : Int32).toInt < a1.toInt) ∨ r_5.toInt = 1 ∧ (0 : Int32).toInt ≤ a1.toInt ∧ a1.toInt ≤ (1 : Int32).toInt) := d_r_5
    refine tot_if (fun c_11 => ?_) (fun c_11 => ?_)
    · replace c_11 := i_eq c_11
      unfold fr_sourceAt_b45
      refine tot_bind2 (sf_throwsAt hP S_4 3 h_S_4 ) (fun r_12 S_13 d_r_12 => ?_)
      have h_S_13 : IC P S_13 := d_r_12.1
      replace d_r_12 : (0 ≤ r_12.toInt ∧ r_12.toInt ≤ 0) := d_r_12.2
      unfold fr_sourceAt_b50
      exact tot_some ⟨h_S_13, (show (-3988 ≤ r_12.toInt ∧ r_12.toInt ≤ 3988) from by omega)⟩
    · replace c_11 := i_ne c_11
      refine tot_bindp (R := fun r_6 : Int32 => (r_6.toInt = 0 ∨ r_6.toInt = 1 ∧ 0 ≤ a2.toInt ∧ a2.toInt < (P 2).toInt)) (sf_isTime hP S_4 a2 h_S_4 ) (fun r_6 d_r_6 => ?_)
      replace d_r_6 : (r_6.toInt = 0 ∨ r_6.toInt = 1 ∧ 0 ≤ a2.toInt ∧ a2.toInt < (P 2).toInt) := d_r_6
      refine tot_if (fun c_14 => ?_) (fun c_14 => ?_)
      · replace c_14 := i_eq c_14
        unfold fr_sourceAt_b45
        refine tot_bind2 (sf_throwsAt hP S_4 3 h_S_4 ) (fun r_15 S_16 d_r_15 => ?_)
        have h_S_16 : IC P S_16 := d_r_15.1
        replace d_r_15 : (0 ≤ r_15.toInt ∧ r_15.toInt ≤ 0) := d_r_15.2
        unfold fr_sourceAt_b50
        exact tot_some ⟨h_S_16, (show (-3988 ≤ r_15.toInt ∧ r_15.toInt ≤ 3988) from by omega)⟩
      · replace c_14 := i_ne c_14
        refine tot_bindp (R := fun r_8 : Int32 => (-3988 ≤ r_8.toInt ∧ r_8.toInt ≤ 3988)) (sf_sourcePlace_12 hP S_4 a0 a1 a2 h_S_4 (by omega) (by omega) (by omega)) (fun r_8 d_r_8 => ?_)
        replace d_r_8 : (-3988 ≤ r_8.toInt ∧ r_8.toInt ≤ 3988) := d_r_8
        unfold fr_sourceAt_b50
        exact tot_some ⟨h_S_4, (show (-3988 ≤ r_8.toInt ∧ r_8.toInt ≤ 3988) from by omega)⟩
set_option maxHeartbeats 4000000 in
set_option maxRecDepth 10000 in
theorem sf_isOn {P : Nat → Int32} (hP : PL P) (S : MS) (a0 : Int32) (h_S : IC P S) : Tot (fr_isOn S a0) (fun r => IC P r.2 ∧ (0 ≤ r.1.toInt ∧ r.1.toInt ≤ 1)) := by
  have z0 : (0 : Int32).toInt = 0 := by decide
  have z1 : (25 : Int32).toInt = 25 := by decide
  have z2 : (1 : Int32).toInt = 1 := by decide
  have p_5 := pl_5 hP
  have j_a0 := i_any a0
  unfold fr_isOn
  refine tot_bindp (R := fun r_1 : Int32 => (r_1.toInt = 0 ∨ r_1.toInt = 1 ∧ 0 ≤ a0.toInt ∧ a0.toInt < (P 5).toInt)) (sf_isSource hP S a0 h_S ) (fun r_1 d_r_1 => ?_)
  replace d_r_1 : (r_1.toInt = 0 ∨ r_1.toInt = 1 ∧ 0 ≤ a0.toInt ∧ a0.toInt < (P 5).toInt) := d_r_1
  refine tot_bind2 (sf_mayAsk hP S r_1 h_S (by omega)) (fun r_3 S_4 d_r_3 => ?_)
  have h_S_4 : IC P S_4 := d_r_3.1
  replace d_r_3 : (r_3.toInt = 0 ∨ r_3.toInt = 1 ∧ ¬ r_1.toInt = 0) := d_r_3.2
  refine tot_if (fun c_7 => ?_) (fun c_7 => ?_)
  · replace c_7 := i_eq c_7
    unfold fr_isOn_b29
    unfold fr_isOn_b30
    refine tot_oif (i_b01 (by omega)) ?_
    exact tot_some ⟨h_S_4, (show (0 ≤ (0 : Int32).toInt ∧ (0 : Int32).toInt ≤ 1) from by omega)⟩
  · replace c_7 := i_ne c_7
    refine tot_let (fun v_5 e_v_5 => ?_)
    have q_v_5 := i_add e_v_5 (by omega) (by omega)
    refine tot_oif (i_inb (by omega) (by omega)) ?_
    refine tot_let (fun v_6 e_v_6 => ?_)
    have r_v_6 := nR_25 (ic_12 h_S_4 e_v_6) (by omega) (by omega)
    refine tot_if (fun c_8 => ?_) (fun c_8 => ?_)
    · replace c_8 := i_eq c_8
      unfold fr_isOn_b30
      refine tot_oif (i_b01 (by omega)) ?_
      exact tot_some ⟨h_S_4, (show (0 ≤ (1 : Int32).toInt ∧ (1 : Int32).toInt ≤ 1) from by omega)⟩
    · replace c_8 := i_ne c_8
      unfold fr_isOn_b29
      unfold fr_isOn_b30
      refine tot_oif (i_b01 (by omega)) ?_
      exact tot_some ⟨h_S_4, (show (0 ≤ (0 : Int32).toInt ∧ (0 : Int32).toInt ≤ 1) from by omega)⟩
set_option maxHeartbeats 4000000 in
set_option maxRecDepth 10000 in
theorem sf_waveAt {P : Nat → Int32} (hP : PL P) (S : MS) (a0 : Int32) (a1 : Int32) (h_S : IC P S) : Tot (fr_waveAt S a0 a1) (fun r => IC P r.2 ∧ (-385614 ≤ r.1.toInt ∧ r.1.toInt ≤ 385614)) := by
  have z0 : (0 : Int32).toInt = 0 := by decide
  have z1 : (3 : Int32).toInt = 3 := by decide
  have p_2 := pl_2 hP
  have p_5 := pl_5 hP
  have j_a0 := i_any a0
  have j_a1 := i_any a1
  unfold fr_waveAt
  refine tot_bindp (R := fun r_1 : Int32 => (r_1.toInt = 0 ∨ r_1.toInt = 1 ∧ 0 ≤ a0.toInt ∧ a0.toInt < (P 5).toInt)) (sf_isSource hP S a0 h_S ) (fun r_1 d_r_1 => ?_)
  replace d_r_1 : (r_1.toInt = 0 ∨ r_1.toInt = 1 ∧ 0 ≤ a0.toInt ∧ a0.toInt < (P 5).toInt) := d_r_1
  refine tot_bind2 (sf_mayAsk hP S r_1 h_S (by omega)) (fun r_3 S_4 d_r_3 => ?_)
  have h_S_4 : IC P S_4 := d_r_3.1
  replace d_r_3 : (r_3.toInt = 0 ∨ r_3.toInt = 1 ∧ ¬ r_1.toInt = 0) := d_r_3.2
  refine tot_if (fun c_11 => ?_) (fun c_11 => ?_)
  · replace c_11 := i_eq c_11
    exact tot_some ⟨h_S_4, (show (-385614 ≤ (0 : Int32).toInt ∧ (0 : Int32).toInt ≤ 385614) from by omega)⟩
  · replace c_11 := i_ne c_11
    refine tot_bindp (R := fun r_5 : Int32 => (r_5.toInt = 0 ∨ r_5.toInt = 1 ∧ 0 ≤ a1.toInt ∧ a1.toInt < (P 2).toInt)) (sf_isTime hP S_4 a1 h_S_4 ) (fun r_5 d_r_5 => ?_)
    replace d_r_5 : (r_5.toInt = 0 ∨ r_5.toInt = 1 ∧ 0 ≤ a1.toInt ∧ a1.toInt < (P 2).toInt) := d_r_5
    refine tot_if (fun c_12 => ?_) (fun c_12 => ?_)
    · replace c_12 := i_eq c_12
      refine tot_bind2 (sf_throwsAt hP S_4 3 h_S_4 ) (fun r_7 S_8 d_r_7 => ?_)
      have h_S_8 : IC P S_8 := d_r_7.1
      replace d_r_7 : (0 ≤ r_7.toInt ∧ r_7.toInt ≤ 0) := d_r_7.2
      unfold fr_waveAt_b36
      exact tot_some ⟨h_S_8, (show (-385614 ≤ r_7.toInt ∧ r_7.toInt ≤ 385614) from by omega)⟩
    · replace c_12 := i_ne c_12
      refine tot_bindp (R := fun r_9 : Int32 => (-385614 ≤ r_9.toInt ∧ r_9.toInt ≤ 385614)) (sf_wave hP S_4 a0 a1 h_S_4 (by omega) (by omega) (by omega)) (fun r_9 d_r_9 => ?_)
      replace d_r_9 : (-385614 ≤ r_9.toInt ∧ r_9.toInt ≤ 385614) := d_r_9
      unfold fr_waveAt_b36
      exact tot_some ⟨h_S_4, (show (-385614 ≤ r_9.toInt ∧ r_9.toInt ≤ 385614) from by omega)⟩
set_option maxHeartbeats 4000000 in
set_option maxRecDepth 10000 in
theorem sf_samples {P : Nat → Int32} (hP : PL P) (S : MS) (h_S : IC P S) : Tot (fr_samples S) (fun r => IC P r.2 ∧ (0 ≤ r.1.toInt ∧ r.1.toInt ≤ 200)) := by
  have p_2 := pl_2 hP
  unfold fr_samples
  refine tot_let (fun v_1 e_v_1 => ?_)
  have q_v_1 := ic_p h_S e_v_1
  refine tot_bind2 (sf_told hP S v_1 h_S (by omega)) (fun r_2 S_3 d_r_2 => ?_)
  have h_S_3 : IC P S_3 := d_r_2.1
  replace d_r_2 : (0 ≤ r_2.toInt ∧ r_2.toInt ≤ 200) := d_r_2.2
  exact tot_some ⟨h_S_3, (show (0 ≤ r_2.toInt ∧ r_2.toInt ≤ 200) from by omega)⟩
set_option maxHeartbeats 4000000 in
set_option maxRecDepth 10000 in
theorem sf_delay {P : Nat → Int32} (hP : PL P) (S : MS) (a0 : Int32) (a1 : Int32) (h_S : IC P S) : Tot (fr_delay S a0 a1) (fun r => IC P r.2 ∧ (0 ≤ r.1.toInt ∧ r.1.toInt ≤ 65535)) := by
  have z0 : (0 : Int32).toInt = 0 := by decide
  have z1 : (1 : Int32).toInt = 1 := by decide
  have z2 : (12 : Int32).toInt = 12 := by decide
  have p_4 := pl_4 hP
  have p_9 := pl_9 hP
  have p_10 := pl_10 hP
  have p_cells := pl_cells hP
  have j_a0 := i_any a0
  have j_a1 := i_any a1
  unfold fr_delay
  refine tot_bindp (R := fun r_1 : Int32 => (r_1.toInt = 0 ∨ r_1.toInt = 1 ∧ 0 ≤ a0.toInt ∧ a0.toInt < (P 4).toInt)) (sf_isMic hP S a0 h_S ) (fun r_1 d_r_1 => ?_)
  replace d_r_1 : (r_1.toInt = 0 ∨ r_1.toInt = 1 ∧ 0 ≤ a0.toInt ∧ a0.toInt < (P 4).toInt) := d_r_1
  refine tot_if (fun c_5 => ?_) (fun c_5 => ?_)
  · replace c_5 := i_eq c_5
    unfold fr_delay_b21
    unfold fr_delay_b22
    refine tot_bind2 (sf_mayAsk hP S 0 h_S (by omega)) (fun r_6 S_7 d_r_6 => ?_)
    have h_S_7 : IC P S_7 := d_r_6.1
    replace d_r_6 : (r_6.toInt = 0 ∨ r_6.toInt = 1 ∧ ¬ (0 : Int32).toInt = 0) := d_r_6.2
    refine tot_if (fun c_11 => ?_) (fun c_11 => ?_)
    · replace c_11 := i_eq c_11
      unfold fr_delay_b43
      exact tot_some ⟨h_S_7, (show (0 ≤ (0 : Int32).toInt ∧ (0 : Int32).toInt ≤ 65535) from by omega)⟩
    · replace c_11 := i_ne c_11
      exfalso
      omega
  · replace c_5 := i_ne c_5
    refine tot_bindp (R := fun r_3 : Int32 => (r_3.toInt = 0 ∨ r_3.toInt = 1 ∧ (0 ≤ a1.toInt ∧ a1.toInt ≤ 143) ∧ a1.toInt < (P 9).toInt * (P 10).toInt)) (sf_isCell hP S a1 h_S ) (fun r_3 d_r_3 => ?_)
    replace d_r_3 : (r_3.toInt = 0 ∨ r_3.toInt = 1 ∧ (0 ≤ a1.toInt ∧ a1.toInt ≤ 143) ∧ a1.toInt < (P 9).toInt * (P 10).toInt) := d_r_3
    refine tot_if (fun c_12 => ?_) (fun c_12 => ?_)
    · replace c_12 := i_eq c_12
      unfold fr_delay_b21
      unfold fr_delay_b22
      refine tot_bind2 (sf_mayAsk hP S 0 h_S (by omega)) (fun r_13 S_14 d_r_13 => ?_)
      have h_S_14 : IC P S_14 := d_r_13.1
      replace d_r_13 : (r_13.toInt = 0 ∨ r_13.toInt = 1 ∧ ¬ (0 : Int32).toInt = 0) := d_r_13.2
      refine tot_if (fun c_18 => ?_) (fun c_18 => ?_)
      · replace c_18 := i_eq c_18
        unfold fr_delay_b43
        exact tot_some ⟨h_S_14, (show (0 ≤ (0 : Int32).toInt ∧ (0 : Int32).toInt ≤ 65535) from by omega)⟩
      · replace c_18 := i_ne c_18
        exfalso
        omega
    · replace c_12 := i_ne c_12
      unfold fr_delay_b22
      refine tot_bind2 (sf_mayAsk hP S 1 h_S (by omega)) (fun r_19 S_20 d_r_19 => ?_)
      have h_S_20 : IC P S_20 := d_r_19.1
      replace d_r_19 : (r_19.toInt = 0 ∨ r_19.toInt = 1 ∧ ¬ (1 : Int32).toInt = 0) := d_r_19.2
      refine tot_if (fun c_24 => ?_) (fun c_24 => ?_)
      · replace c_24 := i_eq c_24
        unfold fr_delay_b43
        exact tot_some ⟨h_S_20, (show (0 ≤ (0 : Int32).toInt ∧ (0 : Int32).toInt ≤ 65535) from by omega)⟩
      · replace c_24 := i_ne c_24
        refine tot_let (fun v_21 e_v_21 => ?_)
        have q_v_21 := i_mulk e_v_21 z2 (by omega) (by omega)
        refine tot_let (fun v_22 e_v_22 => ?_)
        have q_v_22 := i_add e_v_22 (by omega) (by omega)
        refine tot_oif (i_inb (by omega) (by omega)) ?_
        refine tot_let (fun v_23 e_v_23 => ?_)
        have r_v_23 := ic_17 h_S_20 e_v_23
        unfold fr_delay_b43
        exact tot_some ⟨h_S_20, (show (0 ≤ v_23.toInt ∧ v_23.toInt ≤ 65535) from by omega)⟩
set_option maxHeartbeats 4000000 in
set_option maxRecDepth 10000 in
theorem sf_isPoint {P : Nat → Int32} (hP : PL P) (a0 : Int32) (a1 : Int32) : Tot (fr_isPoint a0 a1) (fun r => (r.toInt = 0 ∨ r.toInt = 1 ∧ (-9999 ≤ a0.toInt ∧ a0.toInt ≤ 9999) ∧ -9999 ≤ a1.toInt ∧ a1.toInt ≤ 9999)) := by
  have z0 : ((-9999) : Int32).toInt = -9999 := by decide
  have z1 : (9999 : Int32).toInt = 9999 := by decide
  have z2 : (0 : Int32).toInt = 0 := by decide
  have z3 : (1 : Int32).toInt = 1 := by decide
  have j_a0 := i_any a0
  have j_a1 := i_any a1
  unfold fr_isPoint
  refine tot_bind (sf_in hP a0 (-9999) 9999  ) (fun r_1 d_r_1 => ?_)
  replace d_r_1 : (r_1.toInt = 0 ∧ (a0.toInt < ((-9999) : Int32).toInt ∨ (9999 : Int32).toInt < a0.toInt) ∨ r_1.toInt = 1 ∧ ((-9999) : Int32).toInt ≤ a0.toInt ∧ a0.toInt ≤ (9999 : Int32).toInt) := d_r_1
  refine tot_if (fun c_3 => ?_) (fun c_3 => ?_)
  · replace c_3 := i_eq c_3
    unfold fr_isPoint_b30
    unfold fr_isPoint_b31
    refine tot_oif (i_b01 (by omega)) ?_
    exact tot_some (show ((0 : Int32).toInt = 0 ∨ (0 : Int32).toInt = 1 ∧ (-9999 ≤ a0.toInt ∧ a0.toInt ≤ 9999) ∧ -9999 ≤ a1.toInt ∧ a1.toInt ≤ 9999) from by omega)
  · replace c_3 := i_ne c_3
    refine tot_bind (sf_in hP a1 (-9999) 9999  ) (fun r_2 d_r_2 => ?_)
    replace d_r_2 : (r_2.toInt = 0 ∧ (a1.toInt < ((-9999) : Int32).toInt ∨ (9999 : Int32).toInt < a1.toInt) ∨ r_2.toInt = 1 ∧ ((-9999) : Int32).toInt ≤ a1.toInt ∧ a1.toInt ≤ (9999 : Int32).toInt) := d_r_2
    refine tot_if (fun c_4 => ?_) (fun c_4 => ?_)
    · replace c_4 := i_eq c_4
      unfold fr_isPoint_b30
      unfold fr_isPoint_b31
      refine tot_oif (i_b01 (by omega)) ?_
      exact tot_some (show ((0 : Int32).toInt = 0 ∨ (0 : Int32).toInt = 1 ∧ (-9999 ≤ a0.toInt ∧ a0.toInt ≤ 9999) ∧ -9999 ≤ a1.toInt ∧ a1.toInt ≤ 9999) from by omega)
    · replace c_4 := i_ne c_4
      unfold fr_isPoint_b31
      refine tot_oif (i_b01 (by omega)) ?_
      exact tot_some (show ((1 : Int32).toInt = 0 ∨ (1 : Int32).toInt = 1 ∧ (-9999 ≤ a0.toInt ∧ a0.toInt ≤ 9999) ∧ -9999 ≤ a1.toInt ∧ a1.toInt ≤ 9999) from by omega)
set_option maxHeartbeats 4000000 in
set_option maxRecDepth 10000 in
theorem sf_delayTo {P : Nat → Int32} (hP : PL P) (S : MS) (a0 : Int32) (a1 : Int32) (a2 : Int32) (h_S : IC P S) : Tot (fr_delayTo S a0 a1 a2) (fun r => IC P r.2 ∧ (0 ≤ r.1.toInt ∧ r.1.toInt ≤ 65535)) := by
  have z0 : (0 : Int32).toInt = 0 := by decide
  have z1 : (3 : Int32).toInt = 3 := by decide
  have p_4 := pl_4 hP
  have j_a0 := i_any a0
  have j_a1 := i_any a1
  have j_a2 := i_any a2
  unfold fr_delayTo
  refine tot_bindp (R := fun r_1 : Int32 => (r_1.toInt = 0 ∨ r_1.toInt = 1 ∧ 0 ≤ a0.toInt ∧ a0.toInt < (P 4).toInt)) (sf_isMic hP S a0 h_S ) (fun r_1 d_r_1 => ?_)
  replace d_r_1 : (r_1.toInt = 0 ∨ r_1.toInt = 1 ∧ 0 ≤ a0.toInt ∧ a0.toInt < (P 4).toInt) := d_r_1
  refine tot_bind2 (sf_mayAsk hP S r_1 h_S (by omega)) (fun r_3 S_4 d_r_3 => ?_)
  have h_S_4 : IC P S_4 := d_r_3.1
  replace d_r_3 : (r_3.toInt = 0 ∨ r_3.toInt = 1 ∧ ¬ r_1.toInt = 0) := d_r_3.2
  refine tot_if (fun c_10 => ?_) (fun c_10 => ?_)
  · replace c_10 := i_eq c_10
    exact tot_some ⟨h_S_4, (show (0 ≤ (0 : Int32).toInt ∧ (0 : Int32).toInt ≤ 65535) from by omega)⟩
  · replace c_10 := i_ne c_10
    refine tot_bind (sf_isPoint hP a1 a2  ) (fun r_5 d_r_5 => ?_)
    replace d_r_5 : (r_5.toInt = 0 ∨ r_5.toInt = 1 ∧ (-9999 ≤ a1.toInt ∧ a1.toInt ≤ 9999) ∧ -9999 ≤ a2.toInt ∧ a2.toInt ≤ 9999) := d_r_5
    refine tot_if (fun c_11 => ?_) (fun c_11 => ?_)
    · replace c_11 := i_eq c_11
      refine tot_bind2 (sf_throwsAt hP S_4 3 h_S_4 ) (fun r_6 S_7 d_r_6 => ?_)
      have h_S_7 : IC P S_7 := d_r_6.1
      replace d_r_6 : (0 ≤ r_6.toInt ∧ r_6.toInt ≤ 0) := d_r_6.2
      unfold fr_delayTo_b37
      exact tot_some ⟨h_S_7, (show (0 ≤ r_6.toInt ∧ r_6.toInt ≤ 65535) from by omega)⟩
    · replace c_11 := i_ne c_11
      refine tot_bindp (R := fun r_8 : Int32 => (0 ≤ r_8.toInt ∧ r_8.toInt ≤ 65535)) (sf_delayFrom hP S_4 a0 a1 a2 h_S_4 (by omega) (by omega) (by omega)) (fun r_8 d_r_8 => ?_)
      replace d_r_8 : (0 ≤ r_8.toInt ∧ r_8.toInt ≤ 65535) := d_r_8
      unfold fr_delayTo_b37
      exact tot_some ⟨h_S_4, (show (0 ≤ r_8.toInt ∧ r_8.toInt ≤ 65535) from by omega)⟩
set_option maxHeartbeats 4000000 in
set_option maxRecDepth 10000 in
theorem lf_activeCount_b4 {P : Nat → Int32} (hP : PL P) {Q : Int32 × MS → Prop} (S : MS) (h_S : IC P S) (hx0 : ∀ (l1 : Int32), Tot (some (l1, S)) Q) : ∀ (n : Nat) (l1 : Int32) (l2 : Int32), (0 ≤ l2.toInt ∧ l2.toInt ≤ 12) → 12 - l2.toInt < (n : Int) → Tot (fr_activeCount_b4 n S l1 l2) Q := by
  have z0 : (0 : Int32).toInt = 0 := by decide
  have z1 : (Int32.ofInt (1) : Int32).toInt = 1 := by decide
  have z2 : (1 : Int32).toInt = 1 := by decide
  have p_4 := pl_4 hP
  intro n
  induction n with
  | zero =>
    intro l1 l2 g_l2 hm
    exfalso
    omega
  | succ n ih =>
    intro l1 l2 g_l2 hm
    unfold fr_activeCount_b4
    refine tot_let (fun v_8 e_v_8 => ?_)
    have q_v_8 := ic_p h_S e_v_8
    refine tot_if (fun c_18 => ?_) (fun c_18 => ?_)
    · replace c_18 := i_le c_18
      exact hx0 l1 
    · replace c_18 := i_nle c_18
      refine tot_bindp (R := fun r_9 : Int32 => (0 ≤ r_9.toInt ∧ r_9.toInt ≤ 1)) (sf_hears_12 hP S l2 h_S (by omega)) (fun r_9 d_r_9 => ?_)
      replace d_r_9 : (0 ≤ r_9.toInt ∧ r_9.toInt ≤ 1) := d_r_9
      refine tot_if (fun c_19 => ?_) (fun c_19 => ?_)
      · replace c_19 := i_eq c_19
        unfold fr_activeCount_b32
        refine tot_let (fun v_20 e_v_20 => ?_)
        have r_v_20 := i_any v_20
        refine tot_let (fun v_21 e_v_21 => ?_)
        have q_v_21 := i_add e_v_21 (by omega) (by omega)
        exact ih v_20 v_21 (by omega) (by omega)
      · replace c_19 := i_ne c_19
        unfold fr_activeCount_b32
        refine tot_let (fun v_22 e_v_22 => ?_)
        have r_v_22 := i_any v_22
        refine tot_let (fun v_23 e_v_23 => ?_)
        have q_v_23 := i_add e_v_23 (by omega) (by omega)
        exact ih v_22 v_23 (by omega) (by omega)
set_option maxHeartbeats 4000000 in
set_option maxRecDepth 10000 in
theorem sf_activeCount {P : Nat → Int32} (hP : PL P) (S : MS) (h_S : IC P S) : Tot (fr_activeCount S) (fun r => r.2 = S ∧ True) := by
  have z0 : (0 : Int32).toInt = 0 := by decide
  unfold fr_activeCount
  refine lf_activeCount_b4 hP S h_S ?_ 16384 0 0 (by omega) (by omega)
  · intro l_24
    have j_l_24 := i_any l_24
    exact tot_some ⟨rfl, trivial⟩
set_option maxHeartbeats 4000000 in
set_option maxRecDepth 10000 in
theorem lf_spread_b30 {P : Nat → Int32} (hP : PL P) {Q : Int32 × MS → Prop} (l1 : Int32) (g0 : 0 ≤ l1.toInt ∧ l1.toInt ≤ 143) (hx0 : ∀ (S : MS) (l2 : Int32) (l3 : Int32), (IC P S) → (0 ≤ l2.toInt ∧ l2.toInt ≤ 2147483647) → (0 ≤ l3.toInt ∧ l3.toInt ≤ 65535) → Tot (elet (l3 - l2) fun v_24 => some (v_24, S)) Q) : ∀ (n : Nat) (S : MS) (l2 : Int32) (l3 : Int32) (l4 : Int32), (IC P S) → (0 ≤ l2.toInt ∧ l2.toInt ≤ 2147483647) → (0 ≤ l3.toInt ∧ l3.toInt ≤ 65535) → (0 ≤ l4.toInt ∧ l4.toInt ≤ 12) → 12 - l4.toInt < (n : Int) → Tot (fr_spread_b30 n S l1 l2 l3 l4) Q := by
  have z0 : (0 : Int32).toInt = 0 := by decide
  have z1 : (Int32.ofInt (1) : Int32).toInt = 1 := by decide
  have z2 : (12 : Int32).toInt = 12 := by decide
  have p_4 := pl_4 hP
  have j_l1 := i_any l1
  intro n
  induction n with
  | zero =>
    intro S l2 l3 l4 h_S g_l2 g_l3 g_l4 hm
    exfalso
    omega
  | succ n ih =>
    intro S l2 l3 l4 h_S g_l2 g_l3 g_l4 hm
    unfold fr_spread_b30
    refine tot_let (fun v_23 e_v_23 => ?_)
    have q_v_23 := ic_p h_S e_v_23
    refine tot_if (fun c_49 => ?_) (fun c_49 => ?_)
    · replace c_49 := i_le c_49
      exact hx0 S l2 l3 h_S (by omega) (by omega)
    · replace c_49 := i_nle c_49
      refine tot_bindp (R := fun r_25 : Int32 => (0 ≤ r_25.toInt ∧ r_25.toInt ≤ 1)) (sf_hears_12 hP S l4 h_S (by omega)) (fun r_25 d_r_25 => ?_)
      replace d_r_25 : (0 ≤ r_25.toInt ∧ r_25.toInt ≤ 1) := d_r_25
      refine tot_if (fun c_50 => ?_) (fun c_50 => ?_)
      · replace c_50 := i_eq c_50
        unfold fr_spread_b91
        refine tot_let (fun v_51 e_v_51 => ?_)
        have q_v_51 := i_add e_v_51 (by omega) (by omega)
        exact ih S l2 l3 v_51 h_S (by omega) (by omega) (by omega) (by omega)
      · replace c_50 := i_ne c_50
        refine tot_let (fun v_27 e_v_27 => ?_)
        have q_v_27 := i_mulk e_v_27 z2 (by omega) (by omega)
        refine tot_let (fun v_28 e_v_28 => ?_)
        have q_v_28 := i_add e_v_28 (by omega) (by omega)
        refine tot_oif (i_inb (by omega) (by omega)) ?_
        refine tot_let (fun v_29 e_v_29 => ?_)
        have r_v_29 := ic_17 h_S e_v_29
        refine tot_let (fun v_30 e_v_30 => ?_)
        have q_v_30 := i_ilt e_v_30
        refine tot_let (fun v_31 e_v_31 => ?_)
        have q_v_31 := i_mulk e_v_31 z2 (by omega) (by omega)
        refine tot_let (fun v_32 e_v_32 => ?_)
        have q_v_32 := i_add e_v_32 (by omega) (by omega)
        refine tot_oif (i_inb (by omega) (by omega)) ?_
        refine tot_let (fun v_33 e_v_33 => ?_)
        have r_v_33 := ic_17 h_S e_v_33
        refine tot_let (fun v_34 e_v_34 => ?_)
        have q_v_34 := i_ilt e_v_34
        unfold fr_spread_b91
        refine tot_let (fun v_52 e_v_52 => ?_)
        have q_v_52 := i_add e_v_52 (by omega) (by omega)
        exact ih S v_30 v_34 v_52 h_S (by omega) (by omega) (by omega) (by omega)
set_option maxHeartbeats 4000000 in
set_option maxRecDepth 10000 in
theorem sf_spread {P : Nat → Int32} (hP : PL P) (S : MS) (a0 : Int32) (h_S : IC P S) : Tot (fr_spread S a0) (fun r => IC P r.2 ∧ (-2147483647 ≤ r.1.toInt ∧ r.1.toInt ≤ 65535)) := by
  have z0 : (0 : Int32).toInt = 0 := by decide
  have z1 : (2147483647 : Int32).toInt = 2147483647 := by decide
  have p_9 := pl_9 hP
  have p_10 := pl_10 hP
  have p_cells := pl_cells hP
  have j_a0 := i_any a0
  unfold fr_spread
  refine tot_bindp (R := fun r_1 : Int32 => (r_1.toInt = 0 ∨ r_1.toInt = 1 ∧ (0 ≤ a0.toInt ∧ a0.toInt ≤ 143) ∧ a0.toInt < (P 9).toInt * (P 10).toInt)) (sf_isCell hP S a0 h_S ) (fun r_1 d_r_1 => ?_)
  replace d_r_1 : (r_1.toInt = 0 ∨ r_1.toInt = 1 ∧ (0 ≤ a0.toInt ∧ a0.toInt ≤ 143) ∧ a0.toInt < (P 9).toInt * (P 10).toInt) := d_r_1
  refine tot_bind2 (sf_mayAsk hP S r_1 h_S (by omega)) (fun r_3 S_4 d_r_3 => ?_)
  have h_S_4 : IC P S_4 := d_r_3.1
  replace d_r_3 : (r_3.toInt = 0 ∨ r_3.toInt = 1 ∧ ¬ r_1.toInt = 0) := d_r_3.2
  refine tot_if (fun c_7 => ?_) (fun c_7 => ?_)
  · replace c_7 := i_eq c_7
    unfold fr_spread_b19
    exact tot_some ⟨h_S_4, (show (-2147483647 ≤ (0 : Int32).toInt ∧ (0 : Int32).toInt ≤ 65535) from by omega)⟩
  · replace c_7 := i_ne c_7
    refine tot_bindp (R := fun r_5 : Int32 => True) (sf_activeCount hP S_4 h_S_4 ) (fun r_5 d_r_5 => ?_)
    refine tot_if (fun c_8 => ?_) (fun c_8 => ?_)
    · replace c_8 := i_eq c_8
      unfold fr_spread_b19
      exact tot_some ⟨h_S_4, (show (-2147483647 ≤ (0 : Int32).toInt ∧ (0 : Int32).toInt ≤ 65535) from by omega)⟩
    · replace c_8 := i_ne c_8
      refine lf_spread_b30 hP a0 (by omega) ?_ 16384 S_4 2147483647 0 0 h_S_4 (by omega) (by omega) (by omega) (by omega)
      · intro S_53 l_54 l_55 h_S_53 g_l_54 g_l_55
        refine tot_let (fun v__56 e_v__56 => ?_)
        have q_v__56 := i_sub e_v__56 (by omega) (by omega)
        exact tot_some ⟨h_S_53, (show (-2147483647 ≤ v__56.toInt ∧ v__56.toInt ≤ 65535) from by omega)⟩
set_option maxHeartbeats 4000000 in
set_option maxRecDepth 10000 in
theorem lf_windowOf_12_b4 {P : Nat → Int32} (hP : PL P) {Q : Int32 × MS → Prop} (S : MS) (h_S : IC P S) (hx0 : ∀ (l2 : Int32), (0 ≤ l2.toInt ∧ l2.toInt ≤ 65535) → Tot (elet (S.2.1 10 2) fun v_12 => elet (v_12 - l2) fun v_13 => elet (if 0 < v_13 then v_13 else 0) fun v_14 => some (v_14, S)) Q) : ∀ (n : Nat) (l2 : Int32) (l3 : Int32), (0 ≤ l2.toInt ∧ l2.toInt ≤ 65535) → (0 ≤ l3.toInt ∧ l3.toInt ≤ 12) → 12 - l3.toInt < (n : Int) → Tot (fr_windowOf_12_b4 n S l2 l3) Q := by
  have z0 : (0 : Int32).toInt = 0 := by decide
  have z1 : (Int32.ofInt (1) : Int32).toInt = 1 := by decide
  have p_4 := pl_4 hP
  intro n
  induction n with
  | zero =>
    intro l2 l3 g_l2 g_l3 hm
    exfalso
    omega
  | succ n ih =>
    intro l2 l3 g_l2 g_l3 hm
    unfold fr_windowOf_12_b4
    refine tot_let (fun v_11 e_v_11 => ?_)
    have q_v_11 := ic_p h_S e_v_11
    refine tot_if (fun c_29 => ?_) (fun c_29 => ?_)
    · replace c_29 := i_le c_29
      exact hx0 l2 (by omega)
    · replace c_29 := i_nle c_29
      refine tot_bindp (R := fun r_15 : Int32 => (0 ≤ r_15.toInt ∧ r_15.toInt ≤ 1)) (sf_hears_12 hP S l3 h_S (by omega)) (fun r_15 d_r_15 => ?_)
      replace d_r_15 : (0 ≤ r_15.toInt ∧ r_15.toInt ≤ 1) := d_r_15
      refine tot_if (fun c_30 => ?_) (fun c_30 => ?_)
      · replace c_30 := i_eq c_30
        unfold fr_windowOf_12_b37
        refine tot_let (fun v_31 e_v_31 => ?_)
        have q_v_31 := i_add e_v_31 (by omega) (by omega)
        exact ih l2 v_31 (by omega) (by omega) (by omega)
      · replace c_30 := i_ne c_30
        refine tot_oif (i_inb (by omega) (by omega)) ?_
        refine tot_let (fun v_17 e_v_17 => ?_)
        have r_v_17 := ic_24 h_S e_v_17
        refine tot_let (fun v_18 e_v_18 => ?_)
        have q_v_18 := i_ilt e_v_18
        unfold fr_windowOf_12_b37
        refine tot_let (fun v_32 e_v_32 => ?_)
        have q_v_32 := i_add e_v_32 (by omega) (by omega)
        exact ih v_18 v_32 (by omega) (by omega) (by omega)
set_option maxHeartbeats 4000000 in
set_option maxRecDepth 10000 in
theorem sf_windowOf_12 {P : Nat → Int32} (hP : PL P) (S : MS) (h_S : IC P S) : Tot (fr_windowOf_12 S) (fun r => r.2 = S ∧ (0 ≤ r.1.toInt ∧ r.1.toInt ≤ 200)) := by
  have z0 : (0 : Int32).toInt = 0 := by decide
  have p_2 := pl_2 hP
  unfold fr_windowOf_12
  refine lf_windowOf_12_b4 hP S h_S ?_ 16384 0 0 (by omega) (by omega) (by omega)
  · intro l_33 g_l_33
    refine tot_let (fun v__34 e_v__34 => ?_)
    have q_v__34 := ic_p h_S e_v__34
    refine tot_let (fun v__35 e_v__35 => ?_)
    have q_v__35 := i_sub e_v__35 (by omega) (by omega)
    refine tot_let (fun v__36 e_v__36 => ?_)
    have q_v__36 := i_ilt e_v__36
    exact tot_some ⟨rfl, (show (0 ≤ v__36.toInt ∧ v__36.toInt ≤ 200) from by omega)⟩
set_option maxHeartbeats 4000000 in
set_option maxRecDepth 10000 in
theorem sf_window {P : Nat → Int32} (hP : PL P) (S : MS) (a0 : Int32) (h_S : IC P S) : Tot (fr_window S a0) (fun r => IC P r.2 ∧ (0 ≤ r.1.toInt ∧ r.1.toInt ≤ 200)) := by
  have z0 : (0 : Int32).toInt = 0 := by decide
  have p_9 := pl_9 hP
  have p_10 := pl_10 hP
  have p_cells := pl_cells hP
  have j_a0 := i_any a0
  unfold fr_window
  refine tot_bindp (R := fun r_1 : Int32 => (r_1.toInt = 0 ∨ r_1.toInt = 1 ∧ (0 ≤ a0.toInt ∧ a0.toInt ≤ 143) ∧ a0.toInt < (P 9).toInt * (P 10).toInt)) (sf_isCell hP S a0 h_S ) (fun r_1 d_r_1 => ?_)
  replace d_r_1 : (r_1.toInt = 0 ∨ r_1.toInt = 1 ∧ (0 ≤ a0.toInt ∧ a0.toInt ≤ 143) ∧ a0.toInt < (P 9).toInt * (P 10).toInt) := d_r_1
  refine tot_bind2 (sf_mayAsk hP S r_1 h_S (by omega)) (fun r_3 S_4 d_r_3 => ?_)
  have h_S_4 : IC P S_4 := d_r_3.1
  replace d_r_3 : (r_3.toInt = 0 ∨ r_3.toInt = 1 ∧ ¬ r_1.toInt = 0) := d_r_3.2
  refine tot_if (fun c_8 => ?_) (fun c_8 => ?_)
  · replace c_8 := i_eq c_8
    exact tot_some ⟨h_S_4, (show (0 ≤ (0 : Int32).toInt ∧ (0 : Int32).toInt ≤ 200) from by omega)⟩
  · replace c_8 := i_ne c_8
    refine tot_bind (sf_laysCell hP S_4 a0 h_S_4 (by omega)) (fun S_5 d_S_5 => ?_)
    have h_S_5 : IC P S_5 := d_S_5.1
    refine tot_bindp (R := fun r_6 : Int32 => (0 ≤ r_6.toInt ∧ r_6.toInt ≤ 200)) (sf_windowOf_12 hP S_5 h_S_5 ) (fun r_6 d_r_6 => ?_)
    replace d_r_6 : (0 ≤ r_6.toInt ∧ r_6.toInt ≤ 200) := d_r_6
    exact tot_some ⟨h_S_5, (show (0 ≤ r_6.toInt ∧ r_6.toInt ≤ 200) from by omega)⟩
set_option maxHeartbeats 4000000 in
set_option maxRecDepth 10000 in
theorem sf_sample {P : Nat → Int32} (hP : PL P) (S : MS) (a0 : Int32) (a1 : Int32) (h_S : IC P S) : Tot (fr_sample S a0 a1) (fun r => IC P r.2 ∧ True) := by
  have z0 : (0 : Int32).toInt = 0 := by decide
  have z1 : (3 : Int32).toInt = 3 := by decide
  have z2 : (200 : Int32).toInt = 200 := by decide
  have z3 : (55 : Int32).toInt = 55 := by decide
  have p_2 := pl_2 hP
  have p_4 := pl_4 hP
  have j_a0 := i_any a0
  have j_a1 := i_any a1
  unfold fr_sample
  refine tot_bindp (R := fun r_1 : Int32 => (r_1.toInt = 0 ∨ r_1.toInt = 1 ∧ 0 ≤ a0.toInt ∧ a0.toInt < (P 4).toInt)) (sf_isMic hP S a0 h_S ) (fun r_1 d_r_1 => ?_)
  replace d_r_1 : (r_1.toInt = 0 ∨ r_1.toInt = 1 ∧ 0 ≤ a0.toInt ∧ a0.toInt < (P 4).toInt) := d_r_1
  refine tot_bind2 (sf_mayAsk hP S r_1 h_S (by omega)) (fun r_3 S_4 d_r_3 => ?_)
  have h_S_4 : IC P S_4 := d_r_3.1
  replace d_r_3 : (r_3.toInt = 0 ∨ r_3.toInt = 1 ∧ ¬ r_1.toInt = 0) := d_r_3.2
  refine tot_if (fun c_13 => ?_) (fun c_13 => ?_)
  · replace c_13 := i_eq c_13
    exact tot_some ⟨h_S_4, trivial⟩
  · replace c_13 := i_ne c_13
    refine tot_bindp (R := fun r_5 : Int32 => (r_5.toInt = 0 ∨ r_5.toInt = 1 ∧ 0 ≤ a1.toInt ∧ a1.toInt < (P 2).toInt)) (sf_isTime hP S_4 a1 h_S_4 ) (fun r_5 d_r_5 => ?_)
    replace d_r_5 : (r_5.toInt = 0 ∨ r_5.toInt = 1 ∧ 0 ≤ a1.toInt ∧ a1.toInt < (P 2).toInt) := d_r_5
    refine tot_if (fun c_14 => ?_) (fun c_14 => ?_)
    · replace c_14 := i_eq c_14
      refine tot_bind2 (sf_throwsAt hP S_4 3 h_S_4 ) (fun r_7 S_8 d_r_7 => ?_)
      have h_S_8 : IC P S_8 := d_r_7.1
      replace d_r_7 : (0 ≤ r_7.toInt ∧ r_7.toInt ≤ 0) := d_r_7.2
      unfold fr_sample_b45
      exact tot_some ⟨h_S_8, trivial⟩
    · replace c_14 := i_ne c_14
      refine tot_let (fun v_9 e_v_9 => ?_)
      have q_v_9 := i_mulk e_v_9 z2 (by omega) (by omega)
      refine tot_let (fun v_10 e_v_10 => ?_)
      have q_v_10 := i_add e_v_10 (by omega) (by omega)
      refine tot_let (fun v_11 e_v_11 => ?_)
      have q_v_11 := i_add e_v_11 (by omega) (by omega)
      refine tot_oif (i_inb (by omega) (by omega)) ?_
      refine tot_let (fun v_12 e_v_12 => ?_)
      have r_v_12 := i_any v_12
      unfold fr_sample_b45
      exact tot_some ⟨h_S_4, trivial⟩
set_option maxHeartbeats 4000000 in
set_option maxRecDepth 10000 in
theorem lf_beamAt_12_b5 {P : Nat → Int32} (hP : PL P) {Q : Int32 × MS → Prop} (S : MS) (l2 : Int32) (h_S : IC P S) (g0 : 0 ≤ l2.toInt ∧ l2.toInt ≤ 199) (hx0 : ∀ (l3 : Int32), Tot (some (l3, S)) Q) : ∀ (n : Nat) (l3 : Int32) (l4 : Int32), (0 ≤ l4.toInt ∧ l4.toInt ≤ 12) → 12 - l4.toInt < (n : Int) → Tot (fr_beamAt_12_b5 n S l2 l3 l4) Q := by
  have z0 : (0 : Int32).toInt = 0 := by decide
  have z1 : (Int32.ofInt (1) : Int32).toInt = 1 := by decide
  have z2 : (13 : Int32).toInt = 13 := by decide
  have z3 : (200 : Int32).toInt = 200 := by decide
  have z4 : (55 : Int32).toInt = 55 := by decide
  have p_2 := pl_2 hP
  have p_4 := pl_4 hP
  have j_l2 := i_any l2
  intro n
  induction n with
  | zero =>
    intro l3 l4 g_l4 hm
    exfalso
    omega
  | succ n ih =>
    intro l3 l4 g_l4 hm
    unfold fr_beamAt_12_b5
    refine tot_let (fun v_22 e_v_22 => ?_)
    have q_v_22 := ic_p h_S e_v_22
    refine tot_if (fun c_58 => ?_) (fun c_58 => ?_)
    · replace c_58 := i_le c_58
      exact hx0 l3 
    · replace c_58 := i_nle c_58
      refine tot_bindp (R := fun r_23 : Int32 => (0 ≤ r_23.toInt ∧ r_23.toInt ≤ 1)) (sf_hears_12 hP S l4 h_S (by omega)) (fun r_23 d_r_23 => ?_)
      replace d_r_23 : (0 ≤ r_23.toInt ∧ r_23.toInt ≤ 1) := d_r_23
      refine tot_if (fun c_59 => ?_) (fun c_59 => ?_)
      · replace c_59 := i_eq c_59
        unfold fr_beamAt_12_b77
        unfold fr_beamAt_12_b78
        refine tot_let (fun v_60 e_v_60 => ?_)
        have r_v_60 := i_any v_60
        refine tot_let (fun v_61 e_v_61 => ?_)
        have q_v_61 := i_add e_v_61 (by omega) (by omega)
        exact ih v_60 v_61 (by omega) (by omega)
      · replace c_59 := i_ne c_59
        refine tot_oif (i_inb (by omega) (by omega)) ?_
        refine tot_let (fun v_25 e_v_25 => ?_)
        have r_v_25 := ic_24 h_S e_v_25
        refine tot_let (fun v_26 e_v_26 => ?_)
        have q_v_26 := i_add e_v_26 (by omega) (by omega)
        refine tot_let (fun v_27 e_v_27 => ?_)
        have q_v_27 := ic_p h_S e_v_27
        refine tot_if (fun c_62 => ?_) (fun c_62 => ?_)
        · replace c_62 := i_le c_62
          unfold fr_beamAt_12_b77
          unfold fr_beamAt_12_b78
          refine tot_let (fun v_63 e_v_63 => ?_)
          have r_v_63 := i_any v_63
          refine tot_let (fun v_64 e_v_64 => ?_)
          have q_v_64 := i_add e_v_64 (by omega) (by omega)
          exact ih v_63 v_64 (by omega) (by omega)
        · replace c_62 := i_nle c_62
          refine tot_let (fun v_28 e_v_28 => ?_)
          have q_v_28 := i_add e_v_28 (by omega) (by omega)
          refine tot_oif (i_inb (by omega) (by omega)) ?_
          refine tot_let (fun v_29 e_v_29 => ?_)
          have r_v_29 := nR_13 (ic_12 h_S e_v_29) (by omega) (by omega)
          refine tot_let (fun v_30 e_v_30 => ?_)
          have q_v_30 := i_mulk e_v_30 z3 (by omega) (by omega)
          refine tot_let (fun v_31 e_v_31 => ?_)
          have q_v_31 := i_add e_v_31 (by omega) (by omega)
          refine tot_let (fun v_32 e_v_32 => ?_)
          have q_v_32 := i_add e_v_32 (by omega) (by omega)
          refine tot_oif (i_inb (by omega) (by omega)) ?_
          refine tot_let (fun v_33 e_v_33 => ?_)
          have r_v_33 := ic_24 h_S e_v_33
          have u_v_33 : v_33.toInt = v_25.toInt := by rw [e_v_33, e_v_25]
          refine tot_let (fun v_34 e_v_34 => ?_)
          have q_v_34 := i_add e_v_34 (by omega) (by omega)
          refine tot_oif (i_inb (by omega) (by omega)) ?_
          refine tot_let (fun v_35 e_v_35 => ?_)
          have r_v_35 := i_any v_35
          refine tot_let (fun v_36 e_v_36 => ?_)
          have r_v_36 := i_any v_36
          unfold fr_beamAt_12_b78
          refine tot_let (fun v_65 e_v_65 => ?_)
          have r_v_65 := i_any v_65
          refine tot_let (fun v_66 e_v_66 => ?_)
          have q_v_66 := i_add e_v_66 (by omega) (by omega)
          exact ih v_65 v_66 (by omega) (by omega)
set_option maxHeartbeats 4000000 in
set_option maxRecDepth 10000 in
theorem sf_beamAt_12 {P : Nat → Int32} (hP : PL P) (S : MS) (a1 : Int32) (h_S : IC P S) (g0 : 0 ≤ a1.toInt ∧ a1.toInt ≤ 199) : Tot (fr_beamAt_12 S a1) (fun r => r.2 = S ∧ True) := by
  have z0 : (0 : Int32).toInt = 0 := by decide
  have j_a1 := i_any a1
  unfold fr_beamAt_12
  refine lf_beamAt_12_b5 hP S a1 h_S (by omega) ?_ 16384 0 0 (by omega) (by omega)
  · intro l_67
    have j_l_67 := i_any l_67
    exact tot_some ⟨rfl, trivial⟩
set_option maxHeartbeats 4000000 in
set_option maxRecDepth 10000 in
theorem sf_beam {P : Nat → Int32} (hP : PL P) (S : MS) (a0 : Int32) (a1 : Int32) (h_S : IC P S) : Tot (fr_beam S a0 a1) (fun r => IC P r.2 ∧ True) := by
  have z0 : (0 : Int32).toInt = 0 := by decide
  have z1 : (1 : Int32).toInt = 1 := by decide
  have z2 : (3 : Int32).toInt = 3 := by decide
  have p_9 := pl_9 hP
  have p_10 := pl_10 hP
  have p_cells := pl_cells hP
  have j_a0 := i_any a0
  have j_a1 := i_any a1
  unfold fr_beam
  refine tot_bindp (R := fun r_1 : Int32 => (r_1.toInt = 0 ∨ r_1.toInt = 1 ∧ (0 ≤ a0.toInt ∧ a0.toInt ≤ 143) ∧ a0.toInt < (P 9).toInt * (P 10).toInt)) (sf_isCell hP S a0 h_S ) (fun r_1 d_r_1 => ?_)
  replace d_r_1 : (r_1.toInt = 0 ∨ r_1.toInt = 1 ∧ (0 ≤ a0.toInt ∧ a0.toInt ≤ 143) ∧ a0.toInt < (P 9).toInt * (P 10).toInt) := d_r_1
  refine tot_bind2 (sf_mayAsk hP S r_1 h_S (by omega)) (fun r_3 S_4 d_r_3 => ?_)
  have h_S_4 : IC P S_4 := d_r_3.1
  replace d_r_3 : (r_3.toInt = 0 ∨ r_3.toInt = 1 ∧ ¬ r_1.toInt = 0) := d_r_3.2
  refine tot_if (fun c_14 => ?_) (fun c_14 => ?_)
  · replace c_14 := i_eq c_14
    exact tot_some ⟨h_S_4, trivial⟩
  · replace c_14 := i_ne c_14
    refine tot_bind (sf_laysCell hP S_4 a0 h_S_4 (by omega)) (fun S_5 d_S_5 => ?_)
    have h_S_5 : IC P S_5 := d_S_5.1
    refine tot_bindp (R := fun r_6 : Int32 => (0 ≤ r_6.toInt ∧ r_6.toInt ≤ 200)) (sf_windowOf_12 hP S_5 h_S_5 ) (fun r_6 d_r_6 => ?_)
    replace d_r_6 : (0 ≤ r_6.toInt ∧ r_6.toInt ≤ 200) := d_r_6
    refine tot_let (fun v_8 e_v_8 => ?_)
    have q_v_8 := i_sub e_v_8 (by omega) (by omega)
    refine tot_bind (sf_in hP a1 0 v_8  ) (fun r_9 d_r_9 => ?_)
    replace d_r_9 : (r_9.toInt = 0 ∧ (a1.toInt < (0 : Int32).toInt ∨ v_8.toInt < a1.toInt) ∨ r_9.toInt = 1 ∧ (0 : Int32).toInt ≤ a1.toInt ∧ a1.toInt ≤ v_8.toInt) := d_r_9
    refine tot_if (fun c_15 => ?_) (fun c_15 => ?_)
    · replace c_15 := i_eq c_15
      refine tot_bind2 (sf_throwsAt hP S_5 3 h_S_5 ) (fun r_10 S_11 d_r_10 => ?_)
      have h_S_11 : IC P S_11 := d_r_10.1
      replace d_r_10 : (0 ≤ r_10.toInt ∧ r_10.toInt ≤ 0) := d_r_10.2
      unfold fr_beam_b54
      exact tot_some ⟨h_S_11, trivial⟩
    · replace c_15 := i_ne c_15
      refine tot_bindp (R := fun r_12 : Int32 => True) (sf_beamAt_12 hP S_5 a1 h_S_5 (by omega)) (fun r_12 d_r_12 => ?_)
      unfold fr_beam_b54
      exact tot_some ⟨h_S_5, trivial⟩
set_option maxHeartbeats 4000000 in
set_option maxRecDepth 10000 in
theorem lf_energy_12_b6 {P : Nat → Int32} (hP : PL P) {Q : Int64 × MS → Prop} (S : MS) (l3 : Int32) (h_S : IC P S) (g0 : 0 ≤ l3.toInt ∧ l3.toInt ≤ 200) (hx0 : ∀ (l4 : Int64), Tot (some (l4, S)) Q) : ∀ (n : Nat) (l4 : Int64) (l6 : Int32), (0 ≤ l6.toInt ∧ l6.toInt ≤ 9800) → 9800 - l6.toInt < (n : Int) → Tot (fr_energy_12_b6 n S l3 l4 l6) Q := by
  have z0 : (Int32.ofInt (1) : Int32).toInt = 1 := by decide
  have j_l3 := i_any l3
  intro n
  induction n with
  | zero =>
    intro l4 l6 g_l6 hm
    exfalso
    omega
  | succ n ih =>
    intro l4 l6 g_l6 hm
    unfold fr_energy_12_b6
    refine tot_if (fun c_19 => ?_) (fun c_19 => ?_)
    · replace c_19 := i_le c_19
      exact hx0 l4 
    · replace c_19 := i_nle c_19
      refine tot_bindp (R := fun r_7 : Int32 => True) (sf_beamAt_12 hP S l6 h_S (by omega)) (fun r_7 d_r_7 => ?_)
      refine tot_let (fun v_9 e_v_9 => ?_)
      refine tot_let (fun v_10 e_v_10 => ?_)
      refine tot_let (fun v_11 e_v_11 => ?_)
      refine tot_let (fun v_12 e_v_12 => ?_)
      have q_v_12 := i_add e_v_12 (by omega) (by omega)
      exact ih v_11 v_12 (by omega) (by omega)
set_option maxHeartbeats 4000000 in
set_option maxRecDepth 10000 in
theorem sf_energy_12 {P : Nat → Int32} (hP : PL P) (S : MS) (a1 : Int32) (a2 : Int32) (h_S : IC P S) (g0 : 0 ≤ a1.toInt ∧ a1.toInt ≤ 9800) (g1 : 0 ≤ a2.toInt ∧ a2.toInt ≤ 200) : Tot (fr_energy_12 S a1 a2) (fun r => r.2 = S ∧ True) := by
  have j_a1 := i_any a1
  have j_a2 := i_any a2
  unfold fr_energy_12
  refine lf_energy_12_b6 hP S a2 h_S (by omega) ?_ 16384 (0 : Int64) a1 (by omega) (by omega)
  · intro l_20
    exact tot_some ⟨rfl, trivial⟩
set_option maxHeartbeats 4000000 in
set_option maxRecDepth 10000 in
theorem sf_powerHere_12 {P : Nat → Int32} (hP : PL P) (S : MS) (h_S : IC P S) : Tot (fr_powerHere_12 S) (fun r => r.2 = S ∧ True) := by
  have z0 : (0 : Int32).toInt = 0 := by decide
  unfold fr_powerHere_12
  refine tot_bindp (R := fun r_1 : Int32 => (0 ≤ r_1.toInt ∧ r_1.toInt ≤ 200)) (sf_windowOf_12 hP S h_S ) (fun r_1 d_r_1 => ?_)
  replace d_r_1 : (0 ≤ r_1.toInt ∧ r_1.toInt ≤ 200) := d_r_1
  refine tot_if (fun c_7 => ?_) (fun c_7 => ?_)
  · replace c_7 := i_eq c_7
    unfold fr_powerHere_12_b24
    exact tot_some ⟨rfl, trivial⟩
  · replace c_7 := i_ne c_7
    refine tot_bindp (R := fun r_3 : Int64 => True) (sf_energy_12 hP S 0 r_1 h_S (by omega) (by omega)) (fun r_3 d_r_3 => ?_)
    refine tot_let (fun v_5 e_v_5 => ?_)
    refine tot_oif (by rw [e_v_5]; exact i_nz64 (by omega)) ?_
    refine tot_let (fun v_6 e_v_6 => ?_)
    unfold fr_powerHere_12_b24
    exact tot_some ⟨rfl, trivial⟩
set_option maxHeartbeats 4000000 in
set_option maxRecDepth 10000 in
theorem sf_powerOf_12 {P : Nat → Int32} (hP : PL P) (S : MS) (a1 : Int32) (h_S : IC P S) (g0 : 0 ≤ a1.toInt ∧ a1.toInt ≤ 143) : Tot (fr_powerOf_12 S a1) (fun r => IC P r.2 ∧ True) := by
  have j_a1 := i_any a1
  unfold fr_powerOf_12
  refine tot_bind (sf_laysCell hP S a1 h_S (by omega)) (fun S_1 d_S_1 => ?_)
  have h_S_1 : IC P S_1 := d_S_1.1
  refine tot_bindp (R := fun r_2 : Int64 => True) (sf_powerHere_12 hP S_1 h_S_1 ) (fun r_2 d_r_2 => ?_)
  exact tot_some ⟨h_S_1, trivial⟩
set_option maxHeartbeats 4000000 in
set_option maxRecDepth 10000 in
theorem sf_power {P : Nat → Int32} (hP : PL P) (S : MS) (a0 : Int32) (h_S : IC P S) : Tot (fr_power S a0) (fun r => IC P r.2 ∧ True) := by
  have z0 : (0 : Int32).toInt = 0 := by decide
  have p_9 := pl_9 hP
  have p_10 := pl_10 hP
  have p_cells := pl_cells hP
  have j_a0 := i_any a0
  unfold fr_power
  refine tot_bindp (R := fun r_1 : Int32 => (r_1.toInt = 0 ∨ r_1.toInt = 1 ∧ (0 ≤ a0.toInt ∧ a0.toInt ≤ 143) ∧ a0.toInt < (P 9).toInt * (P 10).toInt)) (sf_isCell hP S a0 h_S ) (fun r_1 d_r_1 => ?_)
  replace d_r_1 : (r_1.toInt = 0 ∨ r_1.toInt = 1 ∧ (0 ≤ a0.toInt ∧ a0.toInt ≤ 143) ∧ a0.toInt < (P 9).toInt * (P 10).toInt) := d_r_1
  refine tot_bind2 (sf_mayAsk hP S r_1 h_S (by omega)) (fun r_3 S_4 d_r_3 => ?_)
  have h_S_4 : IC P S_4 := d_r_3.1
  replace d_r_3 : (r_3.toInt = 0 ∨ r_3.toInt = 1 ∧ ¬ r_1.toInt = 0) := d_r_3.2
  refine tot_if (fun c_7 => ?_) (fun c_7 => ?_)
  · replace c_7 := i_eq c_7
    unfold fr_power_b25
    exact tot_some ⟨h_S_4, trivial⟩
  · replace c_7 := i_ne c_7
    refine tot_bind2 (sf_powerOf_12 hP S_4 a0 h_S_4 (by omega)) (fun r_5 S_6 d_r_5 => ?_)
    have h_S_6 : IC P S_6 := d_r_5.1
    unfold fr_power_b25
    exact tot_some ⟨h_S_6, trivial⟩
set_option maxHeartbeats 4000000 in
set_option maxRecDepth 10000 in
theorem sf_powerAt {P : Nat → Int32} (hP : PL P) (S : MS) (a0 : Int32) (a1 : Int32) (h_S : IC P S) : Tot (fr_powerAt S a0 a1) (fun r => IC P r.2 ∧ True) := by
  have z0 : (0 : Int32).toInt = 0 := by decide
  have j_a0 := i_any a0
  have j_a1 := i_any a1
  unfold fr_powerAt
  refine tot_bind (sf_isPoint hP a0 a1  ) (fun r_1 d_r_1 => ?_)
  replace d_r_1 : (r_1.toInt = 0 ∨ r_1.toInt = 1 ∧ (-9999 ≤ a0.toInt ∧ a0.toInt ≤ 9999) ∧ -9999 ≤ a1.toInt ∧ a1.toInt ≤ 9999) := d_r_1
  refine tot_bind2 (sf_mayAsk hP S r_1 h_S (by omega)) (fun r_2 S_3 d_r_2 => ?_)
  have h_S_3 : IC P S_3 := d_r_2.1
  replace d_r_2 : (r_2.toInt = 0 ∨ r_2.toInt = 1 ∧ ¬ r_1.toInt = 0) := d_r_2.2
  refine tot_if (fun c_7 => ?_) (fun c_7 => ?_)
  · replace c_7 := i_eq c_7
    exact tot_some ⟨h_S_3, trivial⟩
  · replace c_7 := i_ne c_7
    refine tot_bind (sf_laysPoint hP S_3 a0 a1 h_S_3 (by omega) (by omega)) (fun S_4 d_S_4 => ?_)
    have h_S_4 : IC P S_4 := d_S_4.1
    refine tot_bindp (R := fun r_5 : Int64 => True) (sf_powerHere_12 hP S_4 h_S_4 ) (fun r_5 d_r_5 => ?_)
    exact tot_some ⟨h_S_4, trivial⟩
set_option maxHeartbeats 4000000 in
set_option maxRecDepth 10000 in
theorem lf_laysPowers_12_b2 {P : Nat → Int32} (hP : PL P) {Q : MS → Prop} (hx0 : ∀ (S : MS), (IC P S) → Tot (some (S)) Q) : ∀ (n : Nat) (S : MS) (l2 : Int32), (IC P S) → (0 ≤ l2.toInt ∧ l2.toInt ≤ 144) → 144 - l2.toInt < (n : Int) → Tot (fr_laysPowers_12_b2 n S l2) Q := by
  have z0 : (Int32.ofInt (1) : Int32).toInt = 1 := by decide
  have p_9 := pl_9 hP
  have p_10 := pl_10 hP
  have p_cells := pl_cells hP
  intro n
  induction n with
  | zero =>
    intro S l2 h_S g_l2 hm
    exfalso
    omega
  | succ n ih =>
    intro S l2 h_S g_l2 hm
    unfold fr_laysPowers_12_b2
    refine tot_bindp (R := fun r_7 : Int32 => ((1 ≤ r_7.toInt ∧ r_7.toInt ≤ 144) ∧ r_7.toInt = (P 9).toInt * (P 10).toInt)) (sf_cellCount hP S h_S ) (fun r_7 d_r_7 => ?_)
    replace d_r_7 : ((1 ≤ r_7.toInt ∧ r_7.toInt ≤ 144) ∧ r_7.toInt = (P 9).toInt * (P 10).toInt) := d_r_7
    refine tot_if (fun c_19 => ?_) (fun c_19 => ?_)
    · replace c_19 := i_le c_19
      exact hx0 S h_S
    · replace c_19 := i_nle c_19
      refine tot_bind2 (sf_powerOf_12 hP S l2 h_S (by omega)) (fun r_9 S_10 d_r_9 => ?_)
      have h_S_10 : IC P S_10 := d_r_9.1
      refine tot_oif (i_inb (by omega) (by omega)) ?_
      refine tot_let (fun S_11 e_S_11 => ?_)
      have h_S_11 : IC P S_11 := by rw [e_S_11]; exact ic_mg25 h_S_10 _
      refine tot_let (fun v_12 e_v_12 => ?_)
      have q_v_12 := i_add e_v_12 (by omega) (by omega)
      exact ih S_11 v_12 h_S_11 (by omega) (by omega)
set_option maxHeartbeats 4000000 in
set_option maxRecDepth 10000 in
theorem sf_laysPowers_12 {P : Nat → Int32} (hP : PL P) (S : MS) (h_S : IC P S) : Tot (fr_laysPowers_12 S) (fun S1 => IC P S1 ∧ True) := by
  have z0 : (0 : Int32).toInt = 0 := by decide
  unfold fr_laysPowers_12
  refine lf_laysPowers_12_b2 hP  ?_ 16384 S 0 h_S (by omega) (by omega)
  · intro S_20 h_S_20
    exact tot_some ⟨h_S_20, trivial⟩
set_option maxHeartbeats 4000000 in
set_option maxRecDepth 10000 in
theorem lf_bestIn_12_b9 {P : Nat → Int32} (hP : PL P) {Q : Int32 × MS → Prop} (hx0 : ∀ (S : MS) (l2 : Int32), (IC P S) → (0 ≤ l2.toInt ∧ l2.toInt ≤ 143) → Tot (some (l2, S)) Q) : ∀ (n : Nat) (S : MS) (l2 : Int32) (l3 : Int32), (IC P S) → (0 ≤ l2.toInt ∧ l2.toInt ≤ 143) → (1 ≤ l3.toInt ∧ l3.toInt ≤ 144) → 144 - l3.toInt < (n : Int) → Tot (fr_bestIn_12_b9 n S l2 l3) Q := by
  have z0 : (0 : Int32).toInt = 0 := by decide
  have z1 : (Int32.ofInt (1) : Int32).toInt = 1 := by decide
  have p_9 := pl_9 hP
  have p_10 := pl_10 hP
  have p_cells := pl_cells hP
  intro n
  induction n with
  | zero =>
    intro S l2 l3 h_S g_l2 g_l3 hm
    exfalso
    omega
  | succ n ih =>
    intro S l2 l3 h_S g_l2 g_l3 hm
    unfold fr_bestIn_12_b9
    refine tot_bindp (R := fun r_9 : Int32 => ((1 ≤ r_9.toInt ∧ r_9.toInt ≤ 144) ∧ r_9.toInt = (P 9).toInt * (P 10).toInt)) (sf_cellCount hP S h_S ) (fun r_9 d_r_9 => ?_)
    replace d_r_9 : ((1 ≤ r_9.toInt ∧ r_9.toInt ≤ 144) ∧ r_9.toInt = (P 9).toInt * (P 10).toInt) := d_r_9
    refine tot_if (fun c_21 => ?_) (fun c_21 => ?_)
    · replace c_21 := i_le c_21
      exact hx0 S l2 h_S (by omega)
    · replace c_21 := i_nle c_21
      refine tot_oif (i_inb (by omega) (by omega)) ?_
      refine tot_let (fun v_11 e_v_11 => ?_)
      refine tot_oif (i_inb (by omega) (by omega)) ?_
      refine tot_let (fun v_12 e_v_12 => ?_)
      refine tot_let (fun v_13 e_v_13 => ?_)
      have r_v_13 := i_any v_13
      refine tot_if (fun c_22 => ?_) (fun c_22 => ?_)
      · replace c_22 := i_le c_22
        unfold fr_bestIn_12_b38
        refine tot_let (fun v_23 e_v_23 => ?_)
        have q_v_23 := i_add e_v_23 (by omega) (by omega)
        exact ih S l2 v_23 h_S (by omega) (by omega) (by omega)
      · replace c_22 := i_nle c_22
        unfold fr_bestIn_12_b38
        refine tot_let (fun v_24 e_v_24 => ?_)
        have q_v_24 := i_add e_v_24 (by omega) (by omega)
        exact ih S l3 v_24 h_S (by omega) (by omega) (by omega)
set_option maxHeartbeats 4000000 in
set_option maxRecDepth 10000 in
theorem sf_bestIn_12 {P : Nat → Int32} (hP : PL P) (S : MS) (h_S : IC P S) : Tot (fr_bestIn_12 S) (fun r => IC P r.2 ∧ (0 ≤ r.1.toInt ∧ r.1.toInt ≤ 143)) := by
  have z0 : (0 : Int32).toInt = 0 := by decide
  have z1 : (1 : Int32).toInt = 1 := by decide
  unfold fr_bestIn_12
  refine tot_bind (sf_laysPowers_12 hP S h_S ) (fun S_1 d_S_1 => ?_)
  have h_S_1 : IC P S_1 := d_S_1.1
  refine lf_bestIn_12_b9 hP  ?_ 16384 S_1 0 1 h_S_1 (by omega) (by omega) (by omega)
  · intro S_25 l_26 h_S_25 g_l_26
    exact tot_some ⟨h_S_25, (show (0 ≤ l_26.toInt ∧ l_26.toInt ≤ 143) from by omega)⟩
set_option maxHeartbeats 4000000 in
set_option maxRecDepth 10000 in
theorem sf_best {P : Nat → Int32} (hP : PL P) (S : MS) (h_S : IC P S) : Tot (fr_best S) (fun r => IC P r.2 ∧ (0 ≤ r.1.toInt ∧ r.1.toInt ≤ 143)) := by
  have z0 : (1 : Int32).toInt = 1 := by decide
  have z1 : (0 : Int32).toInt = 0 := by decide
  unfold fr_best
  refine tot_bind2 (sf_mayAsk hP S 1 h_S (by omega)) (fun r_1 S_2 d_r_1 => ?_)
  have h_S_2 : IC P S_2 := d_r_1.1
  replace d_r_1 : (r_1.toInt = 0 ∨ r_1.toInt = 1 ∧ ¬ (1 : Int32).toInt = 0) := d_r_1.2
  refine tot_if (fun c_5 => ?_) (fun c_5 => ?_)
  · replace c_5 := i_eq c_5
    unfold fr_best_b20
    exact tot_some ⟨h_S_2, (show (0 ≤ (0 : Int32).toInt ∧ (0 : Int32).toInt ≤ 143) from by omega)⟩
  · replace c_5 := i_ne c_5
    refine tot_bind2 (sf_bestIn_12 hP S_2 h_S_2 ) (fun r_3 S_4 d_r_3 => ?_)
    have h_S_4 : IC P S_4 := d_r_3.1
    replace d_r_3 : (0 ≤ r_3.toInt ∧ r_3.toInt ≤ 143) := d_r_3.2
    unfold fr_best_b20
    exact tot_some ⟨h_S_4, (show (0 ≤ r_3.toInt ∧ r_3.toInt ≤ 143) from by omega)⟩
set_option maxHeartbeats 4000000 in
set_option maxRecDepth 10000 in
theorem sf_bestPower {P : Nat → Int32} (hP : PL P) (S : MS) (h_S : IC P S) : Tot (fr_bestPower S) (fun r => IC P r.2 ∧ True) := by
  have z0 : (1 : Int32).toInt = 1 := by decide
  have z1 : (0 : Int32).toInt = 0 := by decide
  unfold fr_bestPower
  refine tot_bind2 (sf_mayAsk hP S 1 h_S (by omega)) (fun r_1 S_2 d_r_1 => ?_)
  have h_S_2 : IC P S_2 := d_r_1.1
  replace d_r_1 : (r_1.toInt = 0 ∨ r_1.toInt = 1 ∧ ¬ (1 : Int32).toInt = 0) := d_r_1.2
  refine tot_if (fun c_6 => ?_) (fun c_6 => ?_)
  · replace c_6 := i_eq c_6
    unfold fr_bestPower_b25
    exact tot_some ⟨h_S_2, trivial⟩
  · replace c_6 := i_ne c_6
    refine tot_bind2 (sf_bestIn_12 hP S_2 h_S_2 ) (fun r_3 S_4 d_r_3 => ?_)
    have h_S_4 : IC P S_4 := d_r_3.1
    replace d_r_3 : (0 ≤ r_3.toInt ∧ r_3.toInt ≤ 143) := d_r_3.2
    refine tot_oif (i_inb (by omega) (by omega)) ?_
    refine tot_let (fun v_5 e_v_5 => ?_)
    unfold fr_bestPower_b25
    exact tot_some ⟨h_S_4, trivial⟩
set_option maxHeartbeats 4000000 in
set_option maxRecDepth 10000 in
theorem lf_meanPower_b22 {P : Nat → Int32} (hP : PL P) {Q : Int64 × MS → Prop} (hx0 : ∀ (S : MS) (l1 : Int64), (IC P S) → Tot (obind2 (fr_cellCount S) fun r_16 S_17 => elet (r_16.toInt64) fun v_18 => oif (¬ v_18 = 0) <| elet (l1 / v_18) fun v_19 => some (v_19, S_17)) Q) : ∀ (n : Nat) (S : MS) (l1 : Int64) (l3 : Int32), (IC P S) → (0 ≤ l3.toInt ∧ l3.toInt ≤ 144) → 144 - l3.toInt < (n : Int) → Tot (fr_meanPower_b22 n S l1 l3) Q := by
  have z0 : (Int32.ofInt (1) : Int32).toInt = 1 := by decide
  have p_9 := pl_9 hP
  have p_10 := pl_10 hP
  have p_cells := pl_cells hP
  intro n
  induction n with
  | zero =>
    intro S l1 l3 h_S g_l3 hm
    exfalso
    omega
  | succ n ih =>
    intro S l1 l3 h_S g_l3 hm
    unfold fr_meanPower_b22
    refine tot_bindp (R := fun r_14 : Int32 => ((1 ≤ r_14.toInt ∧ r_14.toInt ≤ 144) ∧ r_14.toInt = (P 9).toInt * (P 10).toInt)) (sf_cellCount hP S h_S ) (fun r_14 d_r_14 => ?_)
    replace d_r_14 : ((1 ≤ r_14.toInt ∧ r_14.toInt ≤ 144) ∧ r_14.toInt = (P 9).toInt * (P 10).toInt) := d_r_14
    refine tot_if (fun c_32 => ?_) (fun c_32 => ?_)
    · replace c_32 := i_le c_32
      exact hx0 S l1 h_S
    · replace c_32 := i_nle c_32
      refine tot_oif (i_inb (by omega) (by omega)) ?_
      refine tot_let (fun v_20 e_v_20 => ?_)
      refine tot_let (fun v_21 e_v_21 => ?_)
      refine tot_let (fun v_22 e_v_22 => ?_)
      have q_v_22 := i_add e_v_22 (by omega) (by omega)
      exact ih S v_21 v_22 h_S (by omega) (by omega)
set_option maxHeartbeats 4000000 in
set_option maxRecDepth 10000 in
theorem sf_meanPower {P : Nat → Int32} (hP : PL P) (S : MS) (h_S : IC P S) : Tot (fr_meanPower S) (fun r => IC P r.2 ∧ True) := by
  have z0 : (1 : Int32).toInt = 1 := by decide
  have z1 : (0 : Int32).toInt = 0 := by decide
  have p_9 := pl_9 hP
  have p_10 := pl_10 hP
  have p_cells := pl_cells hP
  unfold fr_meanPower
  refine tot_bind2 (sf_mayAsk hP S 1 h_S (by omega)) (fun r_1 S_2 d_r_1 => ?_)
  have h_S_2 : IC P S_2 := d_r_1.1
  replace d_r_1 : (r_1.toInt = 0 ∨ r_1.toInt = 1 ∧ ¬ (1 : Int32).toInt = 0) := d_r_1.2
  refine tot_if (fun c_4 => ?_) (fun c_4 => ?_)
  · replace c_4 := i_eq c_4
    exact tot_some ⟨h_S_2, trivial⟩
  · replace c_4 := i_ne c_4
    refine tot_bind (sf_laysPowers_12 hP S_2 h_S_2 ) (fun S_3 d_S_3 => ?_)
    have h_S_3 : IC P S_3 := d_S_3.1
    refine lf_meanPower_b22 hP  ?_ 16384 S_3 (0 : Int64) 0 h_S_3 (by omega) (by omega)
    · intro S_33 l_34 h_S_33
      refine tot_bindp (R := fun r__35 : Int32 => ((1 ≤ r__35.toInt ∧ r__35.toInt ≤ 144) ∧ r__35.toInt = (P 9).toInt * (P 10).toInt)) (sf_cellCount hP S_33 h_S_33 ) (fun r__35 d_r__35 => ?_)
      replace d_r__35 : ((1 ≤ r__35.toInt ∧ r__35.toInt ≤ 144) ∧ r__35.toInt = (P 9).toInt * (P 10).toInt) := d_r__35
      refine tot_let (fun v__37 e_v__37 => ?_)
      refine tot_oif (by rw [e_v__37]; exact i_nz64 (by omega)) ?_
      refine tot_let (fun v__38 e_v__38 => ?_)
      exact tot_some ⟨h_S_33, trivial⟩
set_option maxHeartbeats 4000000 in
set_option maxRecDepth 10000 in
theorem lf_isTop_b58 {P : Nat → Int32} (hP : PL P) {Q : Int32 × MS → Prop} {k29 : MS → Int32 → Int32 → Int32 → Int32 → Option (Int32 × MS)} (S : MS) (l1 : Int32) (l2 : Int32) (l3 : Int32) (l4 : Int32) (h_S : IC P S) (g0 : 0 ≤ l1.toInt ∧ l1.toInt ≤ 143) (g1 : 0 ≤ l2.toInt ∧ l2.toInt ≤ 11) (g2 : 0 ≤ l3.toInt ∧ l3.toInt ≤ 143) (g3 : 0 ≤ l4.toInt ∧ l4.toInt ≤ 11) (hx0 : ∀ (_ : Unit), Tot (elet (l4 + Int32.ofInt (1)) fun v_71 => k29 S l1 l2 l3 v_71) Q) (hx1 : ∀ (_ : Unit), Tot (some (0, S)) Q) : ∀ (n : Nat) (l5 : Int32), (0 ≤ l5.toInt ∧ l5.toInt ≤ 12) → 12 - l5.toInt < (n : Int) → Tot (fr_isTop_b58 k29 n S l1 l2 l3 l4 l5) Q := by
  have z0 : (1 : Int32).toInt = 1 := by decide
  have z1 : (Int32.ofInt (1) : Int32).toInt = 1 := by decide
  have z2 : (0 : Int32).toInt = 0 := by decide
  have p_9 := pl_9 hP
  have p_cells := pl_cells hP
  have j_l1 := i_any l1
  have j_l2 := i_any l2
  have j_l3 := i_any l3
  have j_l4 := i_any l4
  intro n
  induction n with
  | zero =>
    intro l5 g_l5 hm
    exfalso
    omega
  | succ n ih =>
    intro l5 g_l5 hm
    unfold fr_isTop_b58
    refine tot_let (fun v_67 e_v_67 => ?_)
    have q_v_67 := ic_p h_S e_v_67
    refine tot_let (fun v_68 e_v_68 => ?_)
    have q_v_68 := i_sub e_v_68 (by omega) (by omega)
    refine tot_let (fun v_69 e_v_69 => ?_)
    have q_v_69 := i_add e_v_69 (by omega) (by omega)
    refine tot_let (fun v_70 e_v_70 => ?_)
    have q_v_70 := i_ilt e_v_70
    refine tot_if (fun c_91 => ?_) (fun c_91 => ?_)
    · replace c_91 := i_lt c_91
      exact hx0 () 
    · replace c_91 := i_nlt c_91
      refine tot_let (fun v_72 e_v_72 => ?_)
      have q_v_72 := ic_p h_S e_v_72
      refine tot_let (fun v_73 e_v_73 => ?_)
      have q_v_73 := i_mulp (a := 1) (b := 12) (c := 0) (d := 11) e_v_73 (by omega) (by omega) (by omega) (by omega) (by decide)
      refine tot_let (fun v_74 e_v_74 => ?_)
      have q_v_74 := i_add e_v_74 (by omega) (by omega)
      refine tot_if (fun c_92 => ?_) (fun c_92 => ?_)
      · replace c_92 := i_eq c_92
        unfold fr_isTop_b118
        refine tot_let (fun v_93 e_v_93 => ?_)
        have q_v_93 := i_add e_v_93 (by omega) (by omega)
        exact ih v_93 (by omega) (by omega)
      · replace c_92 := i_ne c_92
        refine tot_oif (i_inb (by omega) (by omega)) ?_
        refine tot_let (fun v_75 e_v_75 => ?_)
        refine tot_oif (i_inb (by omega) (by omega)) ?_
        refine tot_let (fun v_76 e_v_76 => ?_)
        refine tot_let (fun v_77 e_v_77 => ?_)
        have r_v_77 := i_any v_77
        refine tot_if (fun c_94 => ?_) (fun c_94 => ?_)
        · replace c_94 := i_lt c_94
          unfold fr_isTop_b118
          refine tot_let (fun v_95 e_v_95 => ?_)
          have q_v_95 := i_add e_v_95 (by omega) (by omega)
          exact ih v_95 (by omega) (by omega)
        · replace c_94 := i_nlt c_94
          exact hx1 () 
set_option maxHeartbeats 4000000 in
set_option maxRecDepth 10000 in
theorem lf_isTop_b29 {P : Nat → Int32} (hP : PL P) {Q : Int32 × MS → Prop} (S : MS) (l1 : Int32) (l2 : Int32) (l3 : Int32) (h_S : IC P S) (g0 : 0 ≤ l1.toInt ∧ l1.toInt ≤ 143) (g1 : 0 ≤ l2.toInt ∧ l2.toInt ≤ 11) (g2 : 0 ≤ l3.toInt ∧ l3.toInt ≤ 143) (hx0 : ∀ (_ : Unit), Tot (some (1, S)) Q) (hx1 : ∀ (_ : Unit), Tot (some (0, S)) Q) : ∀ (n : Nat) (l4 : Int32), (0 ≤ l4.toInt ∧ l4.toInt ≤ 142) → 142 - l4.toInt < (n : Int) → Tot (fr_isTop_b29 n S l1 l2 l3 l4) Q := by
  have z0 : (1 : Int32).toInt = 1 := by decide
  have z1 : (0 : Int32).toInt = 0 := by decide
  have z2 : (Int32.ofInt (1) : Int32).toInt = 1 := by decide
  have p_10 := pl_10 hP
  have j_l1 := i_any l1
  have j_l2 := i_any l2
  have j_l3 := i_any l3
  intro n
  induction n with
  | zero =>
    intro l4 g_l4 hm
    exfalso
    omega
  | succ n ih =>
    intro l4 g_l4 hm
    unfold fr_isTop_b29
    refine tot_let (fun v_40 e_v_40 => ?_)
    have q_v_40 := ic_p h_S e_v_40
    refine tot_let (fun v_41 e_v_41 => ?_)
    have q_v_41 := i_sub e_v_41 (by omega) (by omega)
    refine tot_let (fun v_42 e_v_42 => ?_)
    have q_v_42 := i_add e_v_42 (by omega) (by omega)
    refine tot_let (fun v_43 e_v_43 => ?_)
    have q_v_43 := i_ilt e_v_43
    refine tot_if (fun c_66 => ?_) (fun c_66 => ?_)
    · replace c_66 := i_lt c_66
      exact hx0 () 
    · replace c_66 := i_nlt c_66
      refine tot_let (fun v_44 e_v_44 => ?_)
      have q_v_44 := i_sub e_v_44 (by omega) (by omega)
      refine tot_let (fun v_45 e_v_45 => ?_)
      have q_v_45 := i_ilt e_v_45
      refine lf_isTop_b58 hP S l1 l2 l3 l4 h_S (by omega) (by omega) (by omega) (by omega) ?_ ?_ 16384 v_45 (by omega) (by omega)
      · intro _
        refine tot_let (fun v__96 e_v__96 => ?_)
        have q_v__96 := i_add e_v__96 (by omega) (by omega)
        exact ih v__96 (by omega) (by omega)
      · intro _
        exact hx1 () 
set_option maxHeartbeats 4000000 in
set_option maxRecDepth 10000 in
theorem sf_isTop {P : Nat → Int32} (hP : PL P) (S : MS) (a0 : Int32) (h_S : IC P S) (g0 : 0 ≤ a0.toInt ∧ a0.toInt ≤ 143) : Tot (fr_isTop S a0) (fun r => r.2 = S ∧ (0 ≤ r.1.toInt ∧ r.1.toInt ≤ 1)) := by
  have z0 : (0 : Int32).toInt = 0 := by decide
  have z1 : (1 : Int32).toInt = 1 := by decide
  have p_9 := pl_9 hP
  have p_cells := pl_cells hP
  have j_a0 := i_any a0
  unfold fr_isTop
  refine tot_let (fun v_1 e_v_1 => ?_)
  have q_v_1 := ic_p h_S e_v_1
  refine tot_oif (i_nz (by omega)) ?_
  refine tot_let (fun v_2 e_v_2 => ?_)
  have q_v_2 := i_rem e_v_2 (by omega) (by omega)
  refine tot_let (fun v_3 e_v_3 => ?_)
  have q_v_3 := ic_p h_S e_v_3
  refine tot_oif (i_nz (by omega)) ?_
  refine tot_let (fun v_4 e_v_4 => ?_)
  have q_v_4 := i_div (c := 1) e_v_4 (by omega) (by omega) (by decide)
  refine tot_let (fun v_5 e_v_5 => ?_)
  have q_v_5 := i_sub e_v_5 (by omega) (by omega)
  refine tot_let (fun v_6 e_v_6 => ?_)
  have q_v_6 := i_ilt e_v_6
  refine lf_isTop_b29 hP S a0 v_2 v_4 h_S (by omega) (by omega) (by omega) ?_ ?_ 16384 v_6 (by omega) (by omega)
  · intro _
    exact tot_some ⟨rfl, (show (0 ≤ (1 : Int32).toInt ∧ (1 : Int32).toInt ≤ 1) from by omega)⟩
  · intro _
    exact tot_some ⟨rfl, (show (0 ≤ (0 : Int32).toInt ∧ (0 : Int32).toInt ≤ 1) from by omega)⟩
