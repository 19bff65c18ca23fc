set_option maxHeartbeats 4000000 in
set_option maxRecDepth 10000 in
theorem sf_in {P : Nat → Int32} (hP : PL P) (a0 : Int32) (a1 : Int32) (a2 : Int32) : Tot (fr_in a0 a1 a2) (fun r => (r.toInt = 0 ∧ (a0.toInt < a1.toInt ∨ a2.toInt < a0.toInt) ∨ r.toInt = 1 ∧ a1.toInt ≤ a0.toInt ∧ a0.toInt ≤ a2.toInt)) := by
  have z0 : (0 : Int32).toInt = 0 := by decide
  have z1 : (1 : Int32).toInt = 1 := by decide
  have j_a0 := i_any a0
  have j_a1 := i_any a1
  have j_a2 := i_any a2
  unfold fr_in
  refine tot_if (fun c_1 => ?_) (fun c_1 => ?_)
  · replace c_1 := i_lt c_1
    unfold fr_in_b14
    unfold fr_in_b15
    refine tot_oif (i_b01 (by omega)) ?_
    exact tot_some (show ((0 : Int32).toInt = 0 ∧ (a0.toInt < a1.toInt ∨ a2.toInt < a0.toInt) ∨ (0 : Int32).toInt = 1 ∧ a1.toInt ≤ a0.toInt ∧ a0.toInt ≤ a2.toInt) from by omega)
  · replace c_1 := i_nlt c_1
    refine tot_if (fun c_2 => ?_) (fun c_2 => ?_)
    · replace c_2 := i_lt c_2
      unfold fr_in_b14
      unfold fr_in_b15
      refine tot_oif (i_b01 (by omega)) ?_
      exact tot_some (show ((0 : Int32).toInt = 0 ∧ (a0.toInt < a1.toInt ∨ a2.toInt < a0.toInt) ∨ (0 : Int32).toInt = 1 ∧ a1.toInt ≤ a0.toInt ∧ a0.toInt ≤ a2.toInt) from by omega)
    · replace c_2 := i_nlt c_2
      unfold fr_in_b15
      refine tot_oif (i_b01 (by omega)) ?_
      exact tot_some (show ((1 : Int32).toInt = 0 ∧ (a0.toInt < a1.toInt ∨ a2.toInt < a0.toInt) ∨ (1 : Int32).toInt = 1 ∧ a1.toInt ≤ a0.toInt ∧ a0.toInt ≤ a2.toInt) from by omega)
set_option maxHeartbeats 4000000 in
set_option maxRecDepth 10000 in
theorem sf_throwsAt {P : Nat → Int32} (hP : PL P) (S : MS) (a0 : Int32) (h_S : IC P S) : Tot (fr_throwsAt S a0) (fun r => IC P r.2 ∧ (0 ≤ r.1.toInt ∧ r.1.toInt ≤ 0)) := by
  have z0 : (0 : Int32).toInt = 0 := by decide
  have j_a0 := i_any a0
  unfold fr_throwsAt
  refine tot_let (fun S_1 e_S_1 => ?_)
  have h_S_1 : IC P S_1 := by rw [e_S_1]; exact ic_mi0 h_S _
  exact tot_some ⟨h_S_1, (show (0 ≤ (0 : Int32).toInt ∧ (0 : Int32).toInt ≤ 0) from by omega)⟩
set_option maxHeartbeats 4000000 in
set_option maxRecDepth 10000 in
theorem sf_buffered {P : Nat → Int32} (hP : PL P) (S : MS) (h_S : IC P S) : Tot (fr_buffered S) (fun r => IC P r.2 ∧ (0 ≤ r.1.toInt ∧ r.1.toInt ≤ 1000)) := by
  have z0 : (0 : Int32).toInt = 0 := by decide
  unfold fr_buffered
  refine tot_let (fun S_1 e_S_1 => ?_)
  have h_S_1 : IC P S_1 := by rw [e_S_1]; exact ic_mi0 h_S _
  refine tot_let (fun v_2 e_v_2 => ?_)
  have q_v_2 := i_eq e_v_2
  have r_v_2 := ic_2 h_S_1
  exact tot_some ⟨h_S_1, (show (0 ≤ v_2.toInt ∧ v_2.toInt ≤ 1000) from by omega)⟩
set_option maxHeartbeats 4000000 in
set_option maxRecDepth 10000 in
theorem sf_parseError {P : Nat → Int32} (hP : PL P) (S : MS) (h_S : IC P S) : Tot (fr_parseError S) (fun r => IC P r.2 ∧ True) := by
  have z0 : (0 : Int32).toInt = 0 := by decide
  unfold fr_parseError
  refine tot_let (fun S_1 e_S_1 => ?_)
  have h_S_1 : IC P S_1 := by rw [e_S_1]; exact ic_mi0 h_S _
  refine tot_let (fun v_2 e_v_2 => ?_)
  have q_v_2 := i_eq e_v_2
  have r_v_2 := i_any v_2
  exact tot_some ⟨h_S_1, trivial⟩
set_option maxHeartbeats 4000000 in
set_option maxRecDepth 10000 in
theorem sf_errorPosition {P : Nat → Int32} (hP : PL P) (S : MS) (h_S : IC P S) : Tot (fr_errorPosition S) (fun r => IC P r.2 ∧ True) := by
  have z0 : (0 : Int32).toInt = 0 := by decide
  unfold fr_errorPosition
  refine tot_let (fun S_1 e_S_1 => ?_)
  have h_S_1 : IC P S_1 := by rw [e_S_1]; exact ic_mi0 h_S _
  refine tot_let (fun v_2 e_v_2 => ?_)
  have q_v_2 := i_eq e_v_2
  have r_v_2 := i_any v_2
  exact tot_some ⟨h_S_1, trivial⟩
set_option maxHeartbeats 4000000 in
set_option maxRecDepth 10000 in
theorem sf_centre {P : Nat → Int32} (hP : PL P) (S : MS) (a0 : Int32) (a1 : Int32) (h_S : IC P S) (g0 : 0 ≤ a0.toInt ∧ a0.toInt ≤ 143) (g1 : 0 ≤ a1.toInt ∧ a1.toInt ≤ 1) : Tot (fr_centre S a0 a1) (fun r => r.2 = S ∧ (-999 ≤ r.1.toInt ∧ r.1.toInt ≤ 15156)) := by
  have z0 : (0 : Int32).toInt = 0 := by decide
  have p_6 := pl_6 hP
  have p_7 := pl_7 hP
  have p_8 := pl_8 hP
  have p_9 := pl_9 hP
  have p_cells := pl_cells hP
  have j_a0 := i_any a0
  have j_a1 := i_any a1
  unfold fr_centre
  refine tot_if (fun c_13 => ?_) (fun c_13 => ?_)
  · replace c_13 := i_eq c_13
    refine tot_let (fun v_1 e_v_1 => ?_)
    have q_v_1 := ic_p h_S e_v_1
    refine tot_let (fun v_2 e_v_2 => ?_)
    have q_v_2 := ic_p h_S e_v_2
    refine tot_let (fun v_3 e_v_3 => ?_)
    have q_v_3 := ic_p h_S e_v_3
    refine tot_oif (i_nz (by omega)) ?_
    refine tot_let (fun v_4 e_v_4 => ?_)
    have q_v_4 := i_rem e_v_4 (by omega) (by omega)
    refine tot_let (fun v_5 e_v_5 => ?_)
    have q_v_5 := i_mulp (a := 1) (b := 99) (c := 0) (d := 11) e_v_5 (by omega) (by omega) (by omega) (by omega) (by decide)
    refine tot_let (fun v_6 e_v_6 => ?_)
    have q_v_6 := i_add e_v_6 (by omega) (by omega)
    unfold fr_centre_b57
    exact tot_some ⟨rfl, (show (-999 ≤ v_6.toInt ∧ v_6.toInt ≤ 15156) from by omega)⟩
  · replace c_13 := i_ne c_13
    refine tot_let (fun v_7 e_v_7 => ?_)
    have q_v_7 := ic_p h_S e_v_7
    refine tot_let (fun v_8 e_v_8 => ?_)
    have q_v_8 := ic_p h_S e_v_8
    refine tot_let (fun v_9 e_v_9 => ?_)
    have q_v_9 := ic_p h_S e_v_9
    refine tot_oif (i_nz (by omega)) ?_
    refine tot_let (fun v_10 e_v_10 => ?_)
    have q_v_10 := i_div (c := 1) e_v_10 (by omega) (by omega) (by decide)
    refine tot_let (fun v_11 e_v_11 => ?_)
    have q_v_11 := i_mulp (a := 1) (b := 99) (c := 0) (d := 143) e_v_11 (by omega) (by omega) (by omega) (by omega) (by decide)
    refine tot_let (fun v_12 e_v_12 => ?_)
    have q_v_12 := i_add e_v_12 (by omega) (by omega)
    unfold fr_centre_b57
    exact tot_some ⟨rfl, (show (-999 ≤ v_12.toInt ∧ v_12.toInt ≤ 15156) from by omega)⟩
set_option maxHeartbeats 4000000 in
set_option maxRecDepth 10000 in
theorem sf_wave {P : Nat → Int32} (hP : PL P) (S : MS) (a0 : Int32) (a1 : Int32) (h_S : IC P S) (g0 : 0 ≤ a0.toInt ∧ a0.toInt ≤ 5) (g1 : 0 ≤ a1.toInt ∧ a1.toInt ≤ 199) (g2 : a0.toInt < (P 5).toInt) : Tot (fr_wave S a0 a1) (fun r => r.2 = S ∧ (-385614 ≤ r.1.toInt ∧ r.1.toInt ≤ 385614)) := by
  have z0 : (53 : Int32).toInt = 53 := by decide
  have z1 : (59 : Int32).toInt = 59 := by decide
  have z2 : (95 : Int32).toInt = 95 := by decide
  have z3 : (65 : Int32).toInt = 65 := by decide
  have z4 : (0 : Int32).toInt = 0 := by decide
  have z5 : (47 : Int32).toInt = 47 := by decide
  have z6 : (2 : Int32).toInt = 2 := by decide
  have z7 : (1 : Int32).toInt = 1 := by decide
  have z8 : (4 : Int32).toInt = 4 := by decide
  have z9 : (31 : Int32).toInt = 31 := by decide
  have z10 : (7919 : Int32).toInt = 7919 := by decide
  have z11 : (104729 : Int32).toInt = 104729 := by decide
  have p_5 := pl_5 hP
  have j_a0 := i_any a0
  have j_a1 := i_any a1
  unfold fr_wave
  refine tot_let (fun v_1 e_v_1 => ?_)
  have q_v_1 := i_add e_v_1 (by omega) (by omega)
  refine tot_oif (i_inb (by omega) (by omega)) ?_
  refine tot_let (fun v_2 e_v_2 => ?_)
  have q_v_2 := ic_p h_S e_v_2
  have r_v_2 := pr_53 hP v_1 (by omega) (by omega)
  refine tot_let (fun v_3 e_v_3 => ?_)
  have q_v_3 := i_add e_v_3 (by omega) (by omega)
  refine tot_oif (i_inb (by omega) (by omega)) ?_
  refine tot_let (fun v_4 e_v_4 => ?_)
  have q_v_4 := ic_p h_S e_v_4
  have r_v_4 := pr_59 hP v_3 (by omega) (by omega)
  have y_v_4 := pr_per hP v_3 (by omega) (by omega)
  refine tot_let (fun v_5 e_v_5 => ?_)
  have q_v_5 := i_add e_v_5 (by omega) (by omega)
  refine tot_oif (i_inb (by omega) (by omega)) ?_
  refine tot_let (fun v_6 e_v_6 => ?_)
  have q_v_6 := ic_p h_S e_v_6
  have r_v_6 := pr_95 hP v_5 (by omega) (by omega)
  refine tot_if (fun c_34 => ?_) (fun c_34 => ?_)
  · replace c_34 := i_le c_34
    refine tot_let (fun v_7 e_v_7 => ?_)
    have q_v_7 := i_add e_v_7 (by omega) (by omega)
    refine tot_oif (i_inb (by omega) (by omega)) ?_
    refine tot_let (fun v_8 e_v_8 => ?_)
    have q_v_8 := ic_p h_S e_v_8
    have r_v_8 := pr_65 hP v_7 (by omega) (by omega)
    refine tot_let (fun v_9 e_v_9 => ?_)
    have q_v_9 := i_add e_v_9 (by omega) (by omega)
    refine tot_oif (i_nz (by omega)) ?_
    refine tot_let (fun v_10 e_v_10 => ?_)
    have q_v_10 := i_rem e_v_10 (by omega) (by omega)
    refine tot_let (fun v_11 e_v_11 => ?_)
    have q_v_11 := i_add e_v_11 (by omega) (by omega)
    refine tot_oif (i_inb (by omega) (by omega)) ?_
    refine tot_let (fun v_12 e_v_12 => ?_)
    have q_v_12 := ic_p h_S e_v_12
    have r_v_12 := pr_47 hP v_11 (by omega) (by omega)
    refine tot_if (fun c_35 => ?_) (fun c_35 => ?_)
    · replace c_35 := i_eq c_35
      refine tot_let (fun v_13 e_v_13 => ?_)
      have q_v_13 := i_divk e_v_13 z6 (by decide)
      refine tot_if (fun c_36 => ?_) (fun c_36 => ?_)
      · replace c_36 := i_le c_36
        refine tot_let (fun v_14 e_v_14 => ?_)
        have q_v_14 := i_neg e_v_14 (by omega)
        unfold fr_wave_b103
        exact tot_some ⟨rfl, (show (-385614 ≤ v_14.toInt ∧ v_14.toInt ≤ 385614) from by omega)⟩
      · replace c_36 := i_nle c_36
        unfold fr_wave_b103
        exact tot_some ⟨rfl, (show (-385614 ≤ v_2.toInt ∧ v_2.toInt ≤ 385614) from by omega)⟩
    · replace c_35 := i_ne c_35
      refine tot_if (fun c_37 => ?_) (fun c_37 => ?_)
      · replace c_37 := i_eq c_37
        refine tot_let (fun v_15 e_v_15 => ?_)
        have q_v_15 := i_divk e_v_15 z6 (by decide)
        refine tot_let (fun v_16 e_v_16 => ?_)
        have q_v_16 := i_sub e_v_16 (by omega) (by omega)
        refine tot_let (fun v_17 e_v_17 => ?_)
        have q_v_17 := i_abs e_v_17 (by omega)
        refine tot_let (fun v_18 e_v_18 => ?_)
        have q_v_18 := i_mulk e_v_18 z8 (by omega) (by omega)
        refine tot_let (fun v_19 e_v_19 => ?_)
        have q_v_19 := i_sub e_v_19 (by omega) (by omega)
        refine tot_let (fun v_20 e_v_20 => ?_)
        have q_v_20 := i_mulm2 (a := -99) (b := 386) (d := 999) e_v_20 (by omega) (by omega) (by omega) (by omega) (by decide)
        refine tot_oif (i_nz (by omega)) ?_
        refine tot_let (fun v_21 e_v_21 => ?_)
        have q_v_21 := i_divs (b := 385614) e_v_21 (by omega) (by omega) (by omega) (by decide)
        exact tot_some ⟨rfl, (show (-385614 ≤ v_21.toInt ∧ v_21.toInt ≤ 385614) from by omega)⟩
      · replace c_37 := i_ne c_37
        refine tot_if (fun c_38 => ?_) (fun c_38 => ?_)
        · replace c_38 := i_eq c_38
          refine tot_if (fun c_39 => ?_) (fun c_39 => ?_)
          · replace c_39 := i_eq c_39
            unfold fr_wave_b135
            exact tot_some ⟨rfl, (show (-385614 ≤ v_2.toInt ∧ v_2.toInt ≤ 385614) from by omega)⟩
          · replace c_39 := i_ne c_39
            unfold fr_wave_b135
            exact tot_some ⟨rfl, (show (-385614 ≤ (0 : Int32).toInt ∧ (0 : Int32).toInt ≤ 385614) from by omega)⟩
        · replace c_38 := i_ne c_38
          refine tot_let (fun v_22 e_v_22 => ?_)
          have q_v_22 := i_mulk e_v_22 z9 (by omega) (by omega)
          refine tot_let (fun v_23 e_v_23 => ?_)
          have q_v_23 := i_mulp (a := 0) (b := 6169) (c := 0) (d := 199) e_v_23 (by omega) (by omega) (by omega) (by omega) (by decide)
          refine tot_let (fun v_24 e_v_24 => ?_)
          have q_v_24 := i_mulk e_v_24 z10 (by omega) (by omega)
          refine tot_let (fun v_25 e_v_25 => ?_)
          have q_v_25 := i_add e_v_25 (by omega) (by omega)
          refine tot_let (fun v_26 e_v_26 => ?_)
          have q_v_26 := i_add e_v_26 (by omega) (by omega)
          refine tot_oif (i_inb (by omega) (by omega)) ?_
          refine tot_let (fun v_27 e_v_27 => ?_)
          have q_v_27 := ic_p h_S e_v_27
          have r_v_27 := pr_65 hP v_26 (by omega) (by omega)
          refine tot_let (fun v_28 e_v_28 => ?_)
          have q_v_28 := i_mulk e_v_28 z11 (by omega) (by omega)
          refine tot_let (fun v_29 e_v_29 => ?_)
          have q_v_29 := i_add e_v_29 (by omega) (by omega)
          refine tot_let (fun v_30 e_v_30 => ?_)
          have q_v_30 := i_mulk e_v_30 z6 (by omega) (by omega)
          refine tot_let (fun v_31 e_v_31 => ?_)
          have q_v_31 := i_add e_v_31 (by omega) (by omega)
          refine tot_oif (i_nz (by omega)) ?_
          refine tot_let (fun v_32 e_v_32 => ?_)
          have q_v_32 := i_rem e_v_32 (by omega) (by omega)
          refine tot_let (fun v_33 e_v_33 => ?_)
          have q_v_33 := i_sub e_v_33 (by omega) (by omega)
          exact tot_some ⟨rfl, (show (-385614 ≤ v_33.toInt ∧ v_33.toInt ≤ 385614) from by omega)⟩
  · replace c_34 := i_nle c_34
    exact tot_some ⟨rfl, (show (-385614 ≤ (0 : Int32).toInt ∧ (0 : Int32).toInt ≤ 385614) from by omega)⟩
set_option maxHeartbeats 4000000 in
set_option maxRecDepth 10000 in
theorem sf_waveNow {P : Nat → Int32} (hP : PL P) (S : MS) (a0 : Int32) (a1 : Int32) (h_S : IC P S) (g0 : 0 ≤ a0.toInt ∧ a0.toInt ≤ 5) (g1 : 0 ≤ a1.toInt ∧ a1.toInt ≤ 199) (g2 : (S.1 21).toInt = -1 → a0.toInt < (P 5).toInt) : Tot (fr_waveNow S a0 a1) (fun r => r.2 = S ∧ (-385614 ≤ r.1.toInt ∧ r.1.toInt ≤ 385614)) := by
  have z0 : ((-1) : Int32).toInt = -1 := by decide
  have z1 : (0 : Int32).toInt = 0 := by decide
  have z2 : (2 : Int32).toInt = 2 := by decide
  have z3 : ((-100) : Int32).toInt = -100 := by decide
  have z4 : (100 : Int32).toInt = 100 := by decide
  have p_5 := pl_5 hP
  have j_a0 := i_any a0
  have j_a1 := i_any a1
  unfold fr_waveNow
  refine tot_let (fun v_1 e_v_1 => ?_)
  have q_v_1 := i_eq e_v_1
  have r_v_1 := ic_21 h_S
  refine tot_if (fun c_8 => ?_) (fun c_8 => ?_)
  · replace c_8 := i_eq c_8
    refine tot_bindp (R := fun r_2 : Int32 => (-385614 ≤ r_2.toInt ∧ r_2.toInt ≤ 385614)) (sf_wave hP S a0 a1 h_S (by omega) (by omega) (by omega)) (fun r_2 d_r_2 => ?_)
    replace d_r_2 : (-385614 ≤ r_2.toInt ∧ r_2.toInt ≤ 385614) := d_r_2
    unfold fr_waveNow_b39
    exact tot_some ⟨rfl, (show (-385614 ≤ r_2.toInt ∧ r_2.toInt ≤ 385614) from by omega)⟩
  · replace c_8 := i_ne c_8
    refine tot_let (fun v_4 e_v_4 => ?_)
    have q_v_4 := i_eq e_v_4
    have r_v_4 := ic_21 h_S
    refine tot_oif (i_nz (by omega)) ?_
    refine tot_let (fun v_5 e_v_5 => ?_)
    have r_v_5 := i_any v_5
    refine tot_let (fun v_6 e_v_6 => ?_)
    have q_v_6 := i_eq e_v_6
    have r_v_6 := ic_21 h_S
    refine tot_let (fun v_7 e_v_7 => ?_)
    have q_v_7 := i_divk e_v_7 z2 (by decide)
    refine tot_if (fun c_9 => ?_) (fun c_9 => ?_)
    · replace c_9 := i_le c_9
      unfold fr_waveNow_b39
      exact tot_some ⟨rfl, (show (-385614 ≤ ((-100) : Int32).toInt ∧ ((-100) : Int32).toInt ≤ 385614) from by omega)⟩
    · replace c_9 := i_nle c_9
      unfold fr_waveNow_b39
      exact tot_some ⟨rfl, (show (-385614 ≤ (100 : Int32).toInt ∧ (100 : Int32).toInt ≤ 385614) from by omega)⟩
set_option maxHeartbeats 4000000 in
set_option maxRecDepth 10000 in
theorem sf_heardFrom {P : Nat → Int32} (hP : PL P) (S : MS) (a0 : Int32) (a1 : Int32) (a2 : Int32) (a3 : Int32) (a4 : Int32) (h_S : IC P S) (g0 : 0 ≤ a0.toInt ∧ a0.toInt ≤ 11) (g1 : -19156 ≤ a1.toInt ∧ a1.toInt ≤ 15156) (g2 : -3988 ≤ a2.toInt ∧ a2.toInt ≤ 15156) (g3 : 0 ≤ a3.toInt ∧ a3.toInt ≤ 5) (g4 : 0 ≤ a4.toInt ∧ a4.toInt ≤ 199) (g5 : (S.1 21).toInt = -1 → a3.toInt < (P 5).toInt) : Tot (fr_heardFrom S a0 a1 a2 a3 a4) (fun r => r.2 = S ∧ (-385228386 ≤ r.1.toInt ∧ r.1.toInt ≤ 385228386)) := by
  have z0 : (0 : Int32).toInt = 0 := by decide
  have p_5 := pl_5 hP
  have p_76 := pl_76 hP
  have j_a0 := i_any a0
  have j_a1 := i_any a1
  have j_a2 := i_any a2
  have j_a3 := i_any a3
  have j_a4 := i_any a4
  unfold fr_heardFrom
  refine tot_bindp (R := fun r_1 : Int32 => (0 ≤ r_1.toInt ∧ r_1.toInt ≤ 65535)) (sf_delayFrom hP S a0 a1 a2 h_S (by omega) (by omega) (by omega)) (fun r_1 d_r_1 => ?_)
  replace d_r_1 : (0 ≤ r_1.toInt ∧ r_1.toInt ≤ 65535) := d_r_1
  refine tot_if (fun c_6 => ?_) (fun c_6 => ?_)
  · replace c_6 := i_le c_6
    refine tot_let (fun v_3 e_v_3 => ?_)
    have q_v_3 := i_sub e_v_3 (by omega) (by omega)
    refine tot_bindp (R := fun r_4 : Int32 => (-385614 ≤ r_4.toInt ∧ r_4.toInt ≤ 385614)) (sf_waveNow hP S a3 v_3 h_S (by omega) (by omega) (by omega)) (fun r_4 d_r_4 => ?_)
    replace d_r_4 : (-385614 ≤ r_4.toInt ∧ r_4.toInt ≤ 385614) := d_r_4
    unfold fr_heardFrom_b31
    refine tot_let (fun v_7 e_v_7 => ?_)
    have q_v_7 := ic_p h_S e_v_7
    refine tot_if (fun c_13 => ?_) (fun c_13 => ?_)
    · replace c_13 := i_eq c_13
      unfold fr_heardFrom_b69
      exact tot_some ⟨rfl, (show (-385228386 ≤ r_4.toInt ∧ r_4.toInt ≤ 385228386) from by omega)⟩
    · replace c_13 := i_ne c_13
      refine tot_let (fun v_8 e_v_8 => ?_)
      have q_v_8 := ic_p h_S e_v_8
      refine tot_let (fun v_9 e_v_9 => ?_)
      have q_v_9 := i_mulm (a := -385614) (b := 385614) (d := 999) e_v_9 (by omega) (by omega) (by omega) (by omega) (by decide)
      refine tot_let (fun v_10 e_v_10 => ?_)
      have q_v_10 := ic_p h_S e_v_10
      refine tot_let (fun v_11 e_v_11 => ?_)
      have q_v_11 := i_add e_v_11 (by omega) (by omega)
      refine tot_oif (i_nz (by omega)) ?_
      refine tot_let (fun v_12 e_v_12 => ?_)
      have q_v_12 := i_divs (b := 385228386) e_v_12 (by omega) (by omega) (by omega) (by decide)
      unfold fr_heardFrom_b69
      exact tot_some ⟨rfl, (show (-385228386 ≤ v_12.toInt ∧ v_12.toInt ≤ 385228386) from by omega)⟩
  · replace c_6 := i_nle c_6
    unfold fr_heardFrom_b31
    refine tot_let (fun v_14 e_v_14 => ?_)
    have q_v_14 := ic_p h_S e_v_14
    refine tot_if (fun c_20 => ?_) (fun c_20 => ?_)
    · replace c_20 := i_eq c_20
      unfold fr_heardFrom_b69
      exact tot_some ⟨rfl, (show (-385228386 ≤ (0 : Int32).toInt ∧ (0 : Int32).toInt ≤ 385228386) from by omega)⟩
    · replace c_20 := i_ne c_20
      refine tot_let (fun v_15 e_v_15 => ?_)
      have q_v_15 := ic_p h_S e_v_15
      refine tot_let (fun v_16 e_v_16 => ?_)
      have q_v_16 := i_mulk e_v_16 z0 (by omega) (by omega)
      refine tot_let (fun v_17 e_v_17 => ?_)
      have q_v_17 := ic_p h_S e_v_17
      refine tot_let (fun v_18 e_v_18 => ?_)
      have q_v_18 := i_add e_v_18 (by omega) (by omega)
      refine tot_oif (i_nz (by omega)) ?_
      refine tot_let (fun v_19 e_v_19 => ?_)
      have q_v_19 := i_div (c := 2) e_v_19 (by omega) (by omega) (by decide)
      unfold fr_heardFrom_b69
      exact tot_some ⟨rfl, (show (-385228386 ≤ v_19.toInt ∧ v_19.toInt ≤ 385228386) from by omega)⟩
set_option maxHeartbeats 4000000 in
set_option maxRecDepth 10000 in
theorem lf_heardOf_b16 {P : Nat → Int32} (hP : PL P) {Q : Int32 × MS → Prop} (S : MS) (l1 : Int32) (l2 : Int32) (l3 : Int32) (l4 : Int32) (l5 : Int32) (h_S : IC P S) (g0 : 0 ≤ l1.toInt ∧ l1.toInt ≤ 11) (g1 : -3988 ≤ l2.toInt ∧ l2.toInt ≤ 15156) (g2 : -3988 ≤ l3.toInt ∧ l3.toInt ≤ 15156) (g3 : 0 ≤ l4.toInt ∧ l4.toInt ≤ 5) (g4 : 0 ≤ l5.toInt ∧ l5.toInt ≤ 199) (g5 : (S.1 21).toInt = -1 → l4.toInt < (P 5).toInt) (hx0 : ∀ (l6 : Int32), Tot (some (l6, S)) Q) : ∀ (n : Nat) (l6 : Int32) (l7 : Int32), (0 ≤ l7.toInt ∧ l7.toInt ≤ 2) → 2 - l7.toInt < (n : Int) → Tot (fr_heardOf_b16 n S l1 l2 l3 l4 l5 l6 l7) Q := by
  have z0 : (72 : Int32).toInt = 72 := by decide
  have z1 : (2 : Int32).toInt = 2 := by decide
  have z2 : (74 : Int32).toInt = 74 := by decide
  have z3 : (100 : Int32).toInt = 100 := by decide
  have z4 : (Int32.ofInt (1) : Int32).toInt = 1 := by decide
  have p_5 := pl_5 hP
  have p_71 := pl_71 hP
  have j_l1 := i_any l1
  have j_l2 := i_any l2
  have j_l3 := i_any l3
  have j_l4 := i_any l4
  have j_l5 := i_any l5
  intro n
  induction n with
  | zero =>
    intro l6 l7 g_l7 hm
    exfalso
    omega
  | succ n ih =>
    intro l6 l7 g_l7 hm
    unfold fr_heardOf_b16
    refine tot_let (fun v_16 e_v_16 => ?_)
    have q_v_16 := ic_p h_S e_v_16
    refine tot_if (fun c_42 => ?_) (fun c_42 => ?_)
    · replace c_42 := i_le c_42
      exact hx0 l6 
    · replace c_42 := i_nle c_42
      refine tot_let (fun v_17 e_v_17 => ?_)
      have q_v_17 := i_add e_v_17 (by omega) (by omega)
      refine tot_oif (i_inb (by omega) (by omega)) ?_
      refine tot_let (fun v_18 e_v_18 => ?_)
      have q_v_18 := ic_p h_S e_v_18
      have r_v_18 := pr_72 hP v_17 (by omega) (by omega)
      refine tot_let (fun v_19 e_v_19 => ?_)
      have q_v_19 := i_mulk e_v_19 z1 (by omega) (by omega)
      refine tot_let (fun v_20 e_v_20 => ?_)
      have q_v_20 := i_sub e_v_20 (by omega) (by omega)
      refine tot_bindp (R := fun r_21 : Int32 => (-385228386 ≤ r_21.toInt ∧ r_21.toInt ≤ 385228386)) (sf_heardFrom hP S l1 v_20 l3 l4 l5 h_S (by omega) (by omega) (by omega) (by omega) (by omega) (by omega)) (fun r_21 d_r_21 => ?_)
      replace d_r_21 : (-385228386 ≤ r_21.toInt ∧ r_21.toInt ≤ 385228386) := d_r_21
      refine tot_let (fun v_23 e_v_23 => ?_)
      have q_v_23 := i_add e_v_23 (by omega) (by omega)
      refine tot_oif (i_inb (by omega) (by omega)) ?_
      refine tot_let (fun v_24 e_v_24 => ?_)
      have q_v_24 := ic_p h_S e_v_24
      have r_v_24 := pr_74 hP v_23 (by omega) (by omega)
      refine tot_let (fun v_25 e_v_25 => ?_)
      have r_v_25 := i_any v_25
      refine tot_let (fun v_26 e_v_26 => ?_)
      have q_v_26 := i_divk e_v_26 z3 (by decide)
      refine tot_let (fun v_27 e_v_27 => ?_)
      have r_v_27 := i_any v_27
      refine tot_let (fun v_28 e_v_28 => ?_)
      have q_v_28 := i_add e_v_28 (by omega) (by omega)
      exact ih v_27 v_28 (by omega) (by omega)
set_option maxHeartbeats 4000000 in
set_option maxRecDepth 10000 in
theorem sf_heardOf {P : Nat → Int32} (hP : PL P) (S : MS) (a0 : Int32) (a1 : Int32) (a2 : Int32) (a3 : Int32) (a4 : Int32) (h_S : IC P S) (g0 : 0 ≤ a0.toInt ∧ a0.toInt ≤ 11) (g1 : -3988 ≤ a1.toInt ∧ a1.toInt ≤ 15156) (g2 : -3988 ≤ a2.toInt ∧ a2.toInt ≤ 15156) (g3 : 0 ≤ a3.toInt ∧ a3.toInt ≤ 5) (g4 : 0 ≤ a4.toInt ∧ a4.toInt ≤ 199) (g5 : (S.1 21).toInt = -1 → a3.toInt < (P 5).toInt) : Tot (fr_heardOf S a0 a1 a2 a3 a4) (fun r => r.2 = S ∧ True) := by
  have z0 : (0 : Int32).toInt = 0 := by decide
  have p_5 := pl_5 hP
  have j_a0 := i_any a0
  have j_a1 := i_any a1
  have j_a2 := i_any a2
  have j_a3 := i_any a3
  have j_a4 := i_any a4
  unfold fr_heardOf
  refine tot_bindp (R := fun r_1 : Int32 => (-385228386 ≤ r_1.toInt ∧ r_1.toInt ≤ 385228386)) (sf_heardFrom hP S a0 a1 a2 a3 a4 h_S (by omega) (by omega) (by omega) (by omega) (by omega) (by omega)) (fun r_1 d_r_1 => ?_)
  replace d_r_1 : (-385228386 ≤ r_1.toInt ∧ r_1.toInt ≤ 385228386) := d_r_1
  refine lf_heardOf_b16 hP S a0 a1 a2 a3 a4 h_S (by omega) (by omega) (by omega) (by omega) (by omega) (by omega) ?_ 16384 r_1 0 (by omega) (by omega)
  · intro l_43
    have j_l_43 := i_any l_43
    exact tot_some ⟨rfl, trivial⟩
set_option maxHeartbeats 4000000 in
set_option maxRecDepth 10000 in
theorem sf_sourcePlace_12 {P : Nat → Int32} (hP : PL P) (S : MS) (a1 : Int32) (a2 : Int32) (a3 : Int32) (h_S : IC P S) (g0 : 0 ≤ a1.toInt ∧ a1.toInt ≤ 5) (g1 : 0 ≤ a2.toInt ∧ a2.toInt ≤ 1) (g2 : 0 ≤ a3.toInt ∧ a3.toInt ≤ 199) : Tot (fr_sourcePlace_12 S a1 a2 a3) (fun r => r.2 = S ∧ (-3988 ≤ r.1.toInt ∧ r.1.toInt ≤ 3988)) := by
  have z0 : (0 : Int32).toInt = 0 := by decide
  have z1 : (31 : Int32).toInt = 31 := by decide
  have z2 : (43 : Int32).toInt = 43 := by decide
  have z3 : (100 : Int32).toInt = 100 := by decide
  have z4 : (37 : Int32).toInt = 37 := by decide
  have z5 : (49 : Int32).toInt = 49 := by decide
  have j_a1 := i_any a1
  have j_a2 := i_any a2
  have j_a3 := i_any a3
  unfold fr_sourcePlace_12
  refine tot_if (fun c_15 => ?_) (fun c_15 => ?_)
  · replace c_15 := i_eq c_15
    refine tot_let (fun v_1 e_v_1 => ?_)
    have q_v_1 := i_add e_v_1 (by omega) (by omega)
    refine tot_oif (i_inb (by omega) (by omega)) ?_
    refine tot_let (fun v_2 e_v_2 => ?_)
    have r_v_2 := nR_31 (ic_12 h_S e_v_2) (by omega) (by omega)
    refine tot_let (fun v_3 e_v_3 => ?_)
    have q_v_3 := i_add e_v_3 (by omega) (by omega)
    refine tot_oif (i_inb (by omega) (by omega)) ?_
    refine tot_let (fun v_4 e_v_4 => ?_)
    have r_v_4 := nR_43 (ic_12 h_S e_v_4) (by omega) (by omega)
    refine tot_let (fun v_5 e_v_5 => ?_)
    have q_v_5 := i_mulm (a := -999) (b := 999) (d := 199) e_v_5 (by omega) (by omega) (by omega) (by omega) (by decide)
    refine tot_let (fun v_6 e_v_6 => ?_)
    have q_v_6 := i_divk e_v_6 z3 (by decide)
    refine tot_let (fun v_7 e_v_7 => ?_)
    have q_v_7 := i_add e_v_7 (by omega) (by omega)
    unfold fr_sourcePlace_12_b45
    exact tot_some ⟨rfl, (show (-3988 ≤ v_7.toInt ∧ v_7.toInt ≤ 3988) from by omega)⟩
  · replace c_15 := i_ne c_15
    refine tot_let (fun v_8 e_v_8 => ?_)
    have q_v_8 := i_add e_v_8 (by omega) (by omega)
    refine tot_oif (i_inb (by omega) (by omega)) ?_
    refine tot_let (fun v_9 e_v_9 => ?_)
    have r_v_9 := nR_31 (ic_12 h_S e_v_9) (by omega) (by omega)
    refine tot_let (fun v_10 e_v_10 => ?_)
    have q_v_10 := i_add e_v_10 (by omega) (by omega)
    refine tot_oif (i_inb (by omega) (by omega)) ?_
    refine tot_let (fun v_11 e_v_11 => ?_)
    have r_v_11 := nR_43 (ic_12 h_S e_v_11) (by omega) (by omega)
    refine tot_let (fun v_12 e_v_12 => ?_)
    have q_v_12 := i_mulm (a := -999) (b := 999) (d := 199) e_v_12 (by omega) (by omega) (by omega) (by omega) (by decide)
    refine tot_let (fun v_13 e_v_13 => ?_)
    have q_v_13 := i_divk e_v_13 z3 (by decide)
    refine tot_let (fun v_14 e_v_14 => ?_)
    have q_v_14 := i_add e_v_14 (by omega) (by omega)
    unfold fr_sourcePlace_12_b45
    exact tot_some ⟨rfl, (show (-3988 ≤ v_14.toInt ∧ v_14.toInt ≤ 3988) from by omega)⟩
set_option maxHeartbeats 4000000 in
set_option maxRecDepth 10000 in
theorem lf_rawAt_12_b71 {P : Nat → Int32} (hP : PL P) {Q : Int32 × MS → Prop} (S : MS) (l2 : Int32) (l4 : Int32) (h_S : IC P S) (g0 : 0 ≤ l2.toInt ∧ l2.toInt ≤ 11) (g1 : 0 ≤ l4.toInt ∧ l4.toInt ≤ 199) (hx0 : ∀ (l5 : Int32), Tot (elet (35 + l2) fun v_35 => oif (inb v_35 131 = true) <| elet (S.2.1 10 v_35.toNatClampNeg) fun v_36 => elet (v_36 * l5) fun v_37 => some (v_37, S)) Q) : ∀ (n : Nat) (l5 : Int32) (l6 : Int32), (0 ≤ l6.toInt ∧ l6.toInt ≤ 6) → 6 - l6.toInt < (n : Int) → Tot (fr_rawAt_12_b71 n S l2 l4 l5 l6) Q := by
  have z0 : (25 : Int32).toInt = 25 := by decide
  have z1 : (0 : Int32).toInt = 0 := by decide
  have z2 : (Int32.ofInt (1) : Int32).toInt = 1 := by decide
  have z3 : (1 : Int32).toInt = 1 := by decide
  have p_5 := pl_5 hP
  have j_l2 := i_any l2
  have j_l4 := i_any l4
  intro n
  induction n with
  | zero =>
    intro l5 l6 g_l6 hm
    exfalso
    omega
  | succ n ih =>
    intro l5 l6 g_l6 hm
    unfold fr_rawAt_12_b71
    refine tot_let (fun v_34 e_v_34 => ?_)
    have q_v_34 := ic_p h_S e_v_34
    refine tot_if (fun c_62 => ?_) (fun c_62 => ?_)
    · replace c_62 := i_le c_62
      exact hx0 l5 
    · replace c_62 := i_nle c_62
      refine tot_let (fun v_38 e_v_38 => ?_)
      have q_v_38 := i_add e_v_38 (by omega) (by omega)
      refine tot_oif (i_inb (by omega) (by omega)) ?_
      refine tot_let (fun v_39 e_v_39 => ?_)
      have r_v_39 := nR_25 (ic_12 h_S e_v_39) (by omega) (by omega)
      refine tot_if (fun c_63 => ?_) (fun c_63 => ?_)
      · replace c_63 := i_eq c_63
        unfold fr_rawAt_12_b127
        refine tot_let (fun v_64 e_v_64 => ?_)
        have r_v_64 := i_any v_64
        refine tot_let (fun v_65 e_v_65 => ?_)
        have q_v_65 := i_add e_v_65 (by omega) (by omega)
        exact ih v_64 v_65 (by omega) (by omega)
      · replace c_63 := i_ne c_63
        refine tot_bindp (R := fun r_40 : Int32 => (-3988 ≤ r_40.toInt ∧ r_40.toInt ≤ 3988)) (sf_sourcePlace_12 hP S l6 0 l4 h_S (by omega) (by omega) (by omega)) (fun r_40 d_r_40 => ?_)
        replace d_r_40 : (-3988 ≤ r_40.toInt ∧ r_40.toInt ≤ 3988) := d_r_40
        refine tot_bindp (R := fun r_42 : Int32 => (-3988 ≤ r_42.toInt ∧ r_42.toInt ≤ 3988)) (sf_sourcePlace_12 hP S l6 1 l4 h_S (by omega) (by omega) (by omega)) (fun r_42 d_r_42 => ?_)
        replace d_r_42 : (-3988 ≤ r_42.toInt ∧ r_42.toInt ≤ 3988) := d_r_42
        refine tot_bindp (R := fun r_44 : Int32 => True) (sf_heardOf hP S l2 r_40 r_42 l6 l4 h_S (by omega) (by omega) (by omega) (by omega) (by omega) (by omega)) (fun r_44 d_r_44 => ?_)
        unfold fr_rawAt_12_b127
        refine tot_let (fun v_66 e_v_66 => ?_)
        have r_v_66 := i_any v_66
        refine tot_let (fun v_67 e_v_67 => ?_)
        have q_v_67 := i_add e_v_67 (by omega) (by omega)
        exact ih v_66 v_67 (by omega) (by omega)
set_option maxHeartbeats 4000000 in
set_option maxRecDepth 10000 in
theorem sf_rawAt_12 {P : Nat → Int32} (hP : PL P) (S : MS) (a1 : Int32) (a2 : Int32) (h_S : IC P S) (g0 : 0 ≤ a1.toInt ∧ a1.toInt ≤ 11) (g1 : 0 ≤ a2.toInt ∧ a2.toInt ≤ 199) : Tot (fr_rawAt_12 S a1 a2) (fun r => r.2 = S ∧ True) := by
  have z0 : (83 : Int32).toInt = 83 := by decide
  have z1 : (0 : Int32).toInt = 0 := by decide
  have z2 : ((-1) : Int32).toInt = -1 := by decide
  have z3 : (35 : Int32).toInt = 35 := by decide
  have z4 : (1 : Int32).toInt = 1 := by decide
  have p_5 := pl_5 hP
  have j_a1 := i_any a1
  have j_a2 := i_any a2
  unfold fr_rawAt_12
  refine tot_let (fun v_1 e_v_1 => ?_)
  have q_v_1 := i_add e_v_1 (by omega) (by omega)
  refine tot_oif (i_inb (by omega) (by omega)) ?_
  refine tot_let (fun v_2 e_v_2 => ?_)
  have q_v_2 := ic_p h_S e_v_2
  have r_v_2 := pr_83 hP v_1 (by omega) (by omega)
  refine tot_let (fun v_3 e_v_3 => ?_)
  have q_v_3 := i_sub e_v_3 (by omega) (by omega)
  refine tot_if (fun c_16 => ?_) (fun c_16 => ?_)
  · replace c_16 := i_le c_16
    refine tot_let (fun v_4 e_v_4 => ?_)
    have q_v_4 := i_eq e_v_4
    have r_v_4 := ic_21 h_S
    refine tot_if (fun c_17 => ?_) (fun c_17 => ?_)
    · replace c_17 := i_eq c_17
      refine lf_rawAt_12_b71 hP S a1 v_3 h_S (by omega) (by omega) ?_ 16384 0 0 (by omega) (by omega)
      · intro l_68
        have j_l_68 := i_any l_68
        refine tot_let (fun v__69 e_v__69 => ?_)
        have q_v__69 := i_add e_v__69 (by omega) (by omega)
        refine tot_oif (i_inb (by omega) (by omega)) ?_
        refine tot_let (fun v__70 e_v__70 => ?_)
        have q_v__70 := ic_p h_S e_v__70
        have r_v__70 := pr_35 hP v__69 (by omega) (by omega)
        refine tot_let (fun v__71 e_v__71 => ?_)
        have r_v__71 := i_any v__71
        exact tot_some ⟨rfl, trivial⟩
    · replace c_17 := i_ne c_17
      refine tot_let (fun v_5 e_v_5 => ?_)
      have q_v_5 := i_add e_v_5 (by omega) (by omega)
      refine tot_oif (i_inb (by omega) (by omega)) ?_
      refine tot_let (fun v_6 e_v_6 => ?_)
      have q_v_6 := ic_p h_S e_v_6
      have r_v_6 := pr_35 hP v_5 (by omega) (by omega)
      refine tot_let (fun v_7 e_v_7 => ?_)
      have q_v_7 := i_eq e_v_7
      have r_v_7 := ic_21 h_S
      refine tot_bindp (R := fun r_8 : Int32 => (-999 ≤ r_8.toInt ∧ r_8.toInt ≤ 15156)) (sf_centre hP S v_7 0 h_S (by omega) (by omega)) (fun r_8 d_r_8 => ?_)
      replace d_r_8 : (-999 ≤ r_8.toInt ∧ r_8.toInt ≤ 15156) := d_r_8
      refine tot_let (fun v_10 e_v_10 => ?_)
      have q_v_10 := i_eq e_v_10
      have r_v_10 := ic_21 h_S
      refine tot_bindp (R := fun r_11 : Int32 => (-999 ≤ r_11.toInt ∧ r_11.toInt ≤ 15156)) (sf_centre hP S v_10 1 h_S (by omega) (by omega)) (fun r_11 d_r_11 => ?_)
      replace d_r_11 : (-999 ≤ r_11.toInt ∧ r_11.toInt ≤ 15156) := d_r_11
      refine tot_bindp (R := fun r_13 : Int32 => True) (sf_heardOf hP S a1 r_8 r_11 0 v_3 h_S (by omega) (by omega) (by omega) (by omega) (by omega) (by omega)) (fun r_13 d_r_13 => ?_)
      refine tot_let (fun v_15 e_v_15 => ?_)
      have r_v_15 := i_any v_15
      exact tot_some ⟨rfl, trivial⟩
  · replace c_16 := i_nle c_16
    exact tot_some ⟨rfl, trivial⟩
set_option maxHeartbeats 4000000 in
set_option maxRecDepth 10000 in
theorem lf_filtered_b21 {P : Nat → Int32} (hP : PL P) {Q : Int32 × MS → Prop} (S : MS) (l1 : Int32) (h_S : IC P S) (g0 : 0 ≤ l1.toInt ∧ l1.toInt ≤ 199) (hx0 : ∀ (l2 : Int32), Tot (fr_filtered_b64 S l2) Q) : ∀ (n : Nat) (l2 : Int32) (l3 : Int32), (0 ≤ l3.toInt ∧ l3.toInt ≤ 5) → 5 - l3.toInt < (n : Int) → Tot (fr_filtered_b21 n S l1 l2 l3) Q := by
  have z0 : (78 : Int32).toInt = 78 := by decide
  have z1 : (Int32.ofInt (1) : Int32).toInt = 1 := by decide
  have p_77 := pl_77 hP
  have j_l1 := i_any l1
  intro n
  induction n with
  | zero =>
    intro l2 l3 g_l3 hm
    exfalso
    omega
  | succ n ih =>
    intro l2 l3 g_l3 hm
    unfold fr_filtered_b21
    refine tot_let (fun v_12 e_v_12 => ?_)
    have q_v_12 := ic_p h_S e_v_12
    refine tot_if (fun c_28 => ?_) (fun c_28 => ?_)
    · replace c_28 := i_le c_28
      exact hx0 l2 
    · replace c_28 := i_nle c_28
      refine tot_if (fun c_29 => ?_) (fun c_29 => ?_)
      · replace c_29 := i_lt c_29
        exact hx0 l2 
      · replace c_29 := i_nlt c_29
        refine tot_let (fun v_13 e_v_13 => ?_)
        have q_v_13 := i_add e_v_13 (by omega) (by omega)
        refine tot_oif (i_inb (by omega) (by omega)) ?_
        refine tot_let (fun v_14 e_v_14 => ?_)
        have q_v_14 := ic_p h_S e_v_14
        have r_v_14 := pr_78 hP v_13 (by omega) (by omega)
        refine tot_let (fun v_15 e_v_15 => ?_)
        have q_v_15 := i_sub e_v_15 (by omega) (by omega)
        refine tot_oif (i_inb (by omega) (by omega)) ?_
        refine tot_let (fun v_16 e_v_16 => ?_)
        have r_v_16 := i_any v_16
        refine tot_let (fun v_17 e_v_17 => ?_)
        have r_v_17 := i_any v_17
        refine tot_let (fun v_18 e_v_18 => ?_)
        have r_v_18 := i_any v_18
        refine tot_let (fun v_19 e_v_19 => ?_)
        have q_v_19 := i_add e_v_19 (by omega) (by omega)
        exact ih v_18 v_19 (by omega) (by omega)
set_option maxHeartbeats 4000000 in
set_option maxRecDepth 10000 in
theorem sf_filtered {P : Nat → Int32} (hP : PL P) (S : MS) (a0 : Int32) (h_S : IC P S) (g0 : 0 ≤ a0.toInt ∧ a0.toInt ≤ 199) : Tot (fr_filtered S a0) (fun r => r.2 = S ∧ True) := by
  have z0 : (0 : Int32).toInt = 0 := by decide
  have p_77 := pl_77 hP
  have j_a0 := i_any a0
  unfold fr_filtered
  refine tot_let (fun v_1 e_v_1 => ?_)
  have q_v_1 := ic_p h_S e_v_1
  refine tot_if (fun c_3 => ?_) (fun c_3 => ?_)
  · replace c_3 := i_eq c_3
    refine tot_oif (i_inb (by omega) (by omega)) ?_
    refine tot_let (fun v_2 e_v_2 => ?_)
    have r_v_2 := i_any v_2
    exact tot_some ⟨rfl, trivial⟩
  · replace c_3 := i_ne c_3
    refine lf_filtered_b21 hP S a0 h_S (by omega) ?_ 16384 0 0 (by omega) (by omega)
    · intro l_30
      have j_l_30 := i_any l_30
      unfold fr_filtered_b64
      exact tot_some ⟨rfl, trivial⟩
set_option maxHeartbeats 4000000 in
set_option maxRecDepth 10000 in
theorem sf_bounded {P : Nat → Int32} (hP : PL P) (S : MS) (a0 : Int32) (h_S : IC P S) : Tot (fr_bounded S a0) (fun r => r.2 = S ∧ (-9999 ≤ r.1.toInt ∧ r.1.toInt ≤ 9999)) := by
  have p_3 := pl_3 hP
  have j_a0 := i_any a0
  unfold fr_bounded
  refine tot_let (fun v_1 e_v_1 => ?_)
  have q_v_1 := ic_p h_S e_v_1
  refine tot_let (fun v_2 e_v_2 => ?_)
  have q_v_2 := i_neg e_v_2 (by omega)
  refine tot_let (fun v_3 e_v_3 => ?_)
  have q_v_3 := ic_p h_S e_v_3
  refine tot_let (fun v_4 e_v_4 => ?_)
  have q_v_4 := i_ilt e_v_4
  refine tot_let (fun v_5 e_v_5 => ?_)
  have q_v_5 := i_ilt e_v_5
  exact tot_some ⟨rfl, (show (-9999 ≤ v_5.toInt ∧ v_5.toInt ≤ 9999) from by omega)⟩
set_option maxHeartbeats 4000000 in
set_option maxRecDepth 10000 in
theorem lf_records_12_b18 {P : Nat → Int32} (hP : PL P) {Q : MS → Prop} {k6 : MS → Int32 → Option (MS)} (l2 : Int32) (g0 : 0 ≤ l2.toInt ∧ l2.toInt ≤ 11) (hx0 : ∀ (S : MS), (IC P S) → Tot (fr_records_12_b49 k6 16384 S l2 0) Q) : ∀ (n : Nat) (S : MS) (l3 : Int32), (IC P S) → (0 ≤ l3.toInt ∧ l3.toInt ≤ 200) → 200 - l3.toInt < (n : Int) → Tot (fr_records_12_b18 k6 n S l2 l3) Q := by
  have z0 : (Int32.ofInt (1) : Int32).toInt = 1 := by decide
  have p_2 := pl_2 hP
  have j_l2 := i_any l2
  intro n
  induction n with
  | zero =>
    intro S l3 h_S g_l3 hm
    exfalso
    omega
  | succ n ih =>
    intro S l3 h_S g_l3 hm
    unfold fr_records_12_b18
    refine tot_let (fun v_75 e_v_75 => ?_)
    have q_v_75 := ic_p h_S e_v_75
    refine tot_if (fun c_98 => ?_) (fun c_98 => ?_)
    · replace c_98 := i_le c_98
      exact hx0 S h_S
    · replace c_98 := i_nle c_98
      refine tot_bindp (R := fun r_76 : Int32 => True) (sf_rawAt_12 hP S l2 l3 h_S (by omega) (by omega)) (fun r_76 d_r_76 => ?_)
      refine tot_oif (i_inb (by omega) (by omega)) ?_
      refine tot_let (fun S_78 e_S_78 => ?_)
      have h_S_78 : IC P S_78 := by rw [e_S_78]; exact ic_mf23 h_S _
      refine tot_let (fun v_79 e_v_79 => ?_)
      have q_v_79 := i_add e_v_79 (by omega) (by omega)
      exact ih S_78 v_79 h_S_78 (by omega) (by omega)
set_option maxHeartbeats 4000000 in
set_option maxRecDepth 10000 in
theorem lf_records_12_b49 {P : Nat → Int32} (hP : PL P) {Q : MS → Prop} {k6 : MS → Int32 → Option (MS)} (l2 : Int32) (g0 : 0 ≤ l2.toInt ∧ l2.toInt ≤ 11) (hx0 : ∀ (S : MS), (IC P S) → Tot (elet (l2 + Int32.ofInt (1)) fun v_101 => k6 S v_101) Q) : ∀ (n : Nat) (S : MS) (l3 : Int32), (IC P S) → (0 ≤ l3.toInt ∧ l3.toInt ≤ 200) → 200 - l3.toInt < (n : Int) → Tot (fr_records_12_b49 k6 n S l2 l3) Q := by
  have z0 : (200 : Int32).toInt = 200 := by decide
  have z1 : (55 : Int32).toInt = 55 := by decide
  have z2 : (Int32.ofInt (1) : Int32).toInt = 1 := by decide
  have p_2 := pl_2 hP
  have j_l2 := i_any l2
  intro n
  induction n with
  | zero =>
    intro S l3 h_S g_l3 hm
    exfalso
    omega
  | succ n ih =>
    intro S l3 h_S g_l3 hm
    unfold fr_records_12_b49
    refine tot_let (fun v_100 e_v_100 => ?_)
    have q_v_100 := ic_p h_S e_v_100
    refine tot_if (fun c_122 => ?_) (fun c_122 => ?_)
    · replace c_122 := i_le c_122
      exact hx0 S h_S
    · replace c_122 := i_nle c_122
      refine tot_let (fun v_102 e_v_102 => ?_)
      have q_v_102 := i_mulk e_v_102 z0 (by omega) (by omega)
      refine tot_let (fun v_103 e_v_103 => ?_)
      have q_v_103 := i_add e_v_103 (by omega) (by omega)
      refine tot_let (fun v_104 e_v_104 => ?_)
      have q_v_104 := i_add e_v_104 (by omega) (by omega)
      refine tot_bindp (R := fun r_105 : Int32 => True) (sf_filtered hP S l3 h_S (by omega)) (fun r_105 d_r_105 => ?_)
      refine tot_bindp (R := fun r_107 : Int32 => (-9999 ≤ r_107.toInt ∧ r_107.toInt ≤ 9999)) (sf_bounded hP S r_105 h_S ) (fun r_107 d_r_107 => ?_)
      replace d_r_107 : (-9999 ≤ r_107.toInt ∧ r_107.toInt ≤ 9999) := d_r_107
      refine tot_oif (i_inb (by omega) (by omega)) ?_
      refine tot_let (fun S_109 e_S_109 => ?_)
      have h_S_109 : IC P S_109 := by rw [e_S_109]; exact ic_mf12 h_S (nR_w (by omega) (by omega))
      refine tot_let (fun v_110 e_v_110 => ?_)
      have q_v_110 := i_add e_v_110 (by omega) (by omega)
      exact ih S_109 v_110 h_S_109 (by omega) (by omega)
set_option maxHeartbeats 4000000 in
set_option maxRecDepth 10000 in
theorem lf_records_12_b6 {P : Nat → Int32} (hP : PL P) {Q : MS → Prop} (hx0 : ∀ (S : MS), (IC P S) → Tot (some (S)) Q) : ∀ (n : Nat) (S : MS) (l2 : Int32), (IC P S) → (0 ≤ l2.toInt ∧ l2.toInt ≤ 12) → 12 - l2.toInt < (n : Int) → Tot (fr_records_12_b6 n S l2) Q := by
  have z0 : (0 : Int32).toInt = 0 := by decide
  have z1 : (Int32.ofInt (1) : Int32).toInt = 1 := by decide
  have p_4 := pl_4 hP
  intro n
  induction n with
  | zero =>
    intro S l2 h_S g_l2 hm
    exfalso
    omega
  | succ n ih =>
    intro S l2 h_S g_l2 hm
    unfold fr_records_12_b6
    refine tot_let (fun v_52 e_v_52 => ?_)
    have q_v_52 := ic_p h_S e_v_52
    refine tot_if (fun c_74 => ?_) (fun c_74 => ?_)
    · replace c_74 := i_le c_74
      exact hx0 S h_S
    · replace c_74 := i_nle c_74
      refine lf_records_12_b18 hP l2 (by omega) ?_ 16384 S 0 h_S (by omega) (by omega)
      · intro S_99 h_S_99
        refine lf_records_12_b49 hP l2 (by omega) ?_ 16384 S_99 0 h_S_99 (by omega) (by omega)
        · intro S_123 h_S_123
          refine tot_let (fun v__124 e_v__124 => ?_)
          have q_v__124 := i_add e_v__124 (by omega) (by omega)
          exact ih S_123 v__124 h_S_123 (by omega) (by omega)
set_option maxHeartbeats 4000000 in
set_option maxRecDepth 10000 in
theorem sf_records_12 {P : Nat → Int32} (hP : PL P) (S : MS) (h_S : IC P S) : Tot (fr_records_12 S) (fun S1 => IC P S1 ∧ True) := by
  have z0 : (0 : Int32).toInt = 0 := by decide
  unfold fr_records_12
  refine tot_let (fun S_1 e_S_1 => ?_)
  have h_S_1 : IC P S_1 := by rw [e_S_1]; exact ic_mf12 h_S (nR_0 _)
  refine lf_records_12_b6 hP  ?_ 16384 S_1 0 h_S_1 (by omega) (by omega)
  · intro S_125 h_S_125
    exact tot_some ⟨h_S_125, trivial⟩
set_option maxHeartbeats 4000000 in
set_option maxRecDepth 10000 in
theorem lf_laysCell_b2 {P : Nat → Int32} (hP : PL P) {Q : MS → Prop} (l1 : Int32) (g0 : 0 ≤ l1.toInt ∧ l1.toInt ≤ 143) (hx0 : ∀ (S : MS), (IC P S) → Tot (some (S)) Q) : ∀ (n : Nat) (S : MS) (l2 : Int32), (IC P S) → (0 ≤ l2.toInt ∧ l2.toInt ≤ 12) → 12 - l2.toInt < (n : Int) → Tot (fr_laysCell_b2 n S l1 l2) Q := by
  have z0 : (12 : Int32).toInt = 12 := by decide
  have z1 : (Int32.ofInt (1) : Int32).toInt = 1 := by decide
  have p_4 := pl_4 hP
  have j_l1 := i_any l1
  intro n
  induction n with
  | zero =>
    intro S l2 h_S g_l2 hm
    exfalso
    omega
  | succ n ih =>
    intro S l2 h_S g_l2 hm
    unfold fr_laysCell_b2
    refine tot_let (fun v_7 e_v_7 => ?_)
    have q_v_7 := ic_p h_S e_v_7
    refine tot_if (fun c_19 => ?_) (fun c_19 => ?_)
    · replace c_19 := i_le c_19
      exact hx0 S h_S
    · replace c_19 := i_nle c_19
      refine tot_let (fun v_8 e_v_8 => ?_)
      have q_v_8 := i_mulk e_v_8 z0 (by omega) (by omega)
      refine tot_let (fun v_9 e_v_9 => ?_)
      have q_v_9 := i_add e_v_9 (by omega) (by omega)
      refine tot_oif (i_inb (by omega) (by omega)) ?_
      refine tot_let (fun v_10 e_v_10 => ?_)
      have r_v_10 := ic_17 h_S e_v_10
      refine tot_oif (i_inb (by omega) (by omega)) ?_
      refine tot_let (fun S_11 e_S_11 => ?_)
      have h_S_11 : IC P S_11 := by rw [e_S_11]; exact ic_mf24 h_S (by omega)
      refine tot_let (fun v_12 e_v_12 => ?_)
      have q_v_12 := i_add e_v_12 (by omega) (by omega)
      exact ih S_11 v_12 h_S_11 (by omega) (by omega)
set_option maxHeartbeats 4000000 in
set_option maxRecDepth 10000 in
theorem sf_laysCell {P : Nat → Int32} (hP : PL P) (S : MS) (a0 : Int32) (h_S : IC P S) (g0 : 0 ≤ a0.toInt ∧ a0.toInt ≤ 143) : Tot (fr_laysCell S a0) (fun S1 => IC P S1 ∧ True) := by
  have z0 : (0 : Int32).toInt = 0 := by decide
  have j_a0 := i_any a0
  unfold fr_laysCell
  refine lf_laysCell_b2 hP a0 (by omega) ?_ 16384 S 0 h_S (by omega) (by omega)
  · intro S_20 h_S_20
    exact tot_some ⟨h_S_20, trivial⟩
set_option maxHeartbeats 4000000 in
set_option maxRecDepth 10000 in
theorem lf_laysPoint_b2 {P : Nat → Int32} (hP : PL P) {Q : MS → Prop} (l1 : Int32) (l2 : Int32) (g0 : -9999 ≤ l1.toInt ∧ l1.toInt ≤ 17144) (g1 : -9999 ≤ l2.toInt ∧ l2.toInt ≤ 17144) (hx0 : ∀ (S : MS), (IC P S) → Tot (some (S)) Q) : ∀ (n : Nat) (S : MS) (l3 : Int32), (IC P S) → (0 ≤ l3.toInt ∧ l3.toInt ≤ 12) → 12 - l3.toInt < (n : Int) → Tot (fr_laysPoint_b2 n S l1 l2 l3) Q := by
  have z0 : (Int32.ofInt (1) : Int32).toInt = 1 := by decide
  have p_4 := pl_4 hP
  have j_l1 := i_any l1
  have j_l2 := i_any l2
  intro n
  induction n with
  | zero =>
    intro S l3 h_S g_l3 hm
    exfalso
    omega
  | succ n ih =>
    intro S l3 h_S g_l3 hm
    unfold fr_laysPoint_b2
    refine tot_let (fun v_6 e_v_6 => ?_)
    have q_v_6 := ic_p h_S e_v_6
    refine tot_if (fun c_16 => ?_) (fun c_16 => ?_)
    · replace c_16 := i_le c_16
      exact hx0 S h_S
    · replace c_16 := i_nle c_16
      refine tot_bindp (R := fun r_7 : Int32 => (0 ≤ r_7.toInt ∧ r_7.toInt ≤ 65535)) (sf_delayFrom hP S l3 l1 l2 h_S (by omega) (by omega) (by omega)) (fun r_7 d_r_7 => ?_)
      replace d_r_7 : (0 ≤ r_7.toInt ∧ r_7.toInt ≤ 65535) := d_r_7
      refine tot_oif (i_inb (by omega) (by omega)) ?_
      refine tot_let (fun S_9 e_S_9 => ?_)
      have h_S_9 : IC P S_9 := by rw [e_S_9]; exact ic_mf24 h_S (by omega)
      refine tot_let (fun v_10 e_v_10 => ?_)
      have q_v_10 := i_add e_v_10 (by omega) (by omega)
      exact ih S_9 v_10 h_S_9 (by omega) (by omega)
set_option maxHeartbeats 4000000 in
set_option maxRecDepth 10000 in
theorem sf_laysPoint {P : Nat → Int32} (hP : PL P) (S : MS) (a0 : Int32) (a1 : Int32) (h_S : IC P S) (g0 : -9999 ≤ a0.toInt ∧ a0.toInt ≤ 17144) (g1 : -9999 ≤ a1.toInt ∧ a1.toInt ≤ 17144) : Tot (fr_laysPoint S a0 a1) (fun S1 => IC P S1 ∧ True) := by
  have z0 : (0 : Int32).toInt = 0 := by decide
  have j_a0 := i_any a0
  have j_a1 := i_any a1
  unfold fr_laysPoint
  refine lf_laysPoint_b2 hP a0 a1 (by omega) (by omega) ?_ 16384 S 0 h_S (by omega) (by omega)
  · intro S_17 h_S_17
    exact tot_some ⟨h_S_17, trivial⟩
set_option maxHeartbeats 4000000 in
set_option maxRecDepth 10000 in
theorem sf_mayAsk {P : Nat → Int32} (hP : PL P) (S : MS) (a0 : Int32) (h_S : IC P S) (g0 : 0 ≤ a0.toInt ∧ a0.toInt ≤ 1) : Tot (fr_mayAsk S a0) (fun r => IC P r.2 ∧ (r.1.toInt = 0 ∨ r.1.toInt = 1 ∧ ¬ a0.toInt = 0)) := by
  have z0 : (0 : Int32).toInt = 0 := by decide
  have z1 : (1 : Int32).toInt = 1 := by decide
  have z2 : (2 : Int32).toInt = 2 := by decide
  have j_a0 := i_any a0
  unfold fr_mayAsk
  refine tot_let (fun v_1 e_v_1 => ?_)
  have q_v_1 := i_eq e_v_1
  have r_v_1 := i_any v_1
  refine tot_if (fun c_2 => ?_) (fun c_2 => ?_)
  · replace c_2 := i_eq c_2
    unfold fr_mayAsk_b21
    refine tot_let (fun S_3 e_S_3 => ?_)
    have h_S_3 : IC P S_3 := by rw [e_S_3]; exact ic_mi0 h_S _
    have f_S_3_0 : (S_3.1 0).toInt = (1 : Int32).toInt := by rw [e_S_3]; rfl
    refine tot_let (fun v_4 e_v_4 => ?_)
    have q_v_4 := i_eq e_v_4
    have r_v_4 := i_any v_4
    refine tot_if (fun c_5 => ?_) (fun c_5 => ?_)
    · replace c_5 := i_eq c_5
      exfalso
      omega
    · replace c_5 := i_ne c_5
      unfold fr_mayAsk_b36
      refine tot_oif (i_b01 (by omega)) ?_
      exact tot_some ⟨h_S_3, (show ((0 : Int32).toInt = 0 ∨ (0 : Int32).toInt = 1 ∧ ¬ a0.toInt = 0) from by omega)⟩
  · replace c_2 := i_ne c_2
    refine tot_if (fun c_6 => ?_) (fun c_6 => ?_)
    · replace c_6 := i_eq c_6
      unfold fr_mayAsk_b21
      refine tot_let (fun S_7 e_S_7 => ?_)
      have h_S_7 : IC P S_7 := by rw [e_S_7]; exact ic_mi0 h_S _
      have f_S_7_0 : (S_7.1 0).toInt = (2 : Int32).toInt := by rw [e_S_7]; rfl
      refine tot_let (fun v_8 e_v_8 => ?_)
      have q_v_8 := i_eq e_v_8
      have r_v_8 := i_any v_8
      refine tot_if (fun c_9 => ?_) (fun c_9 => ?_)
      · replace c_9 := i_eq c_9
        exfalso
        omega
      · replace c_9 := i_ne c_9
        unfold fr_mayAsk_b36
        refine tot_oif (i_b01 (by omega)) ?_
        exact tot_some ⟨h_S_7, (show ((0 : Int32).toInt = 0 ∨ (0 : Int32).toInt = 1 ∧ ¬ a0.toInt = 0) from by omega)⟩
    · replace c_6 := i_ne c_6
      unfold fr_mayAsk_b21
      refine tot_let (fun S_10 e_S_10 => ?_)
      have h_S_10 : IC P S_10 := by rw [e_S_10]; exact ic_mi0 h_S _
      have f_S_10_0 : (S_10.1 0).toInt = (0 : Int32).toInt := by rw [e_S_10]; rfl
      refine tot_let (fun v_11 e_v_11 => ?_)
      have q_v_11 := i_eq e_v_11
      have r_v_11 := i_any v_11
      refine tot_if (fun c_12 => ?_) (fun c_12 => ?_)
      · replace c_12 := i_eq c_12
        unfold fr_mayAsk_b36
        refine tot_oif (i_b01 (by omega)) ?_
        exact tot_some ⟨h_S_10, (show ((1 : Int32).toInt = 0 ∨ (1 : Int32).toInt = 1 ∧ ¬ a0.toInt = 0) from by omega)⟩
      · replace c_12 := i_ne c_12
        exfalso
        omega
set_option maxHeartbeats 4000000 in
set_option maxRecDepth 10000 in
theorem sf_told {P : Nat → Int32} (hP : PL P) (S : MS) (a0 : Int32) (h_S : IC P S) (g0 : 0 ≤ a0.toInt ∧ a0.toInt ≤ 200) : Tot (fr_told S a0) (fun r => IC P r.2 ∧ (0 ≤ r.1.toInt ∧ r.1.toInt ≤ 200)) := by
  have z0 : (0 : Int32).toInt = 0 := by decide
  have j_a0 := i_any a0
  unfold fr_told
  refine tot_let (fun S_1 e_S_1 => ?_)
  have h_S_1 : IC P S_1 := by rw [e_S_1]; exact ic_mi0 h_S _
  refine tot_let (fun v_2 e_v_2 => ?_)
  have q_v_2 := i_eq e_v_2
  have r_v_2 := i_any v_2
  refine tot_if (fun c_3 => ?_) (fun c_3 => ?_)
  · replace c_3 := i_eq c_3
    unfold fr_told_b17
    exact tot_some ⟨h_S_1, (show (0 ≤ (0 : Int32).toInt ∧ (0 : Int32).toInt ≤ 200) from by omega)⟩
  · replace c_3 := i_ne c_3
    unfold fr_told_b17
    exact tot_some ⟨h_S_1, (show (0 ≤ a0.toInt ∧ a0.toInt ≤ 200) from by omega)⟩
set_option maxHeartbeats 4000000 in
set_option maxRecDepth 10000 in
theorem sf_isMic {P : Nat → Int32} (hP : PL P) (S : MS) (a0 : Int32) (h_S : IC P S) : Tot (fr_isMic S a0) (fun r => r.2 = S ∧ (r.1.toInt = 0 ∨ r.1.toInt = 1 ∧ 0 ≤ a0.toInt ∧ a0.toInt < (P 4).toInt)) := by
  have z0 : (1 : Int32).toInt = 1 := by decide
  have z1 : (0 : Int32).toInt = 0 := by decide
  have p_4 := pl_4 hP
  have j_a0 := i_any a0
  unfold fr_isMic
  refine tot_let (fun v_1 e_v_1 => ?_)
  have q_v_1 := ic_p h_S e_v_1
  refine tot_let (fun v_2 e_v_2 => ?_)
  have q_v_2 := i_sub e_v_2 (by omega) (by omega)
  refine tot_bind (sf_in hP a0 0 v_2  ) (fun r_3 d_r_3 => ?_)
  replace d_r_3 : (r_3.toInt = 0 ∧ (a0.toInt < (0 : Int32).toInt ∨ v_2.toInt < a0.toInt) ∨ r_3.toInt = 1 ∧ (0 : Int32).toInt ≤ a0.toInt ∧ a0.toInt ≤ v_2.toInt) := d_r_3
  refine tot_oif (i_b01 (by omega)) ?_
  exact tot_some ⟨rfl, (show (r_3.toInt = 0 ∨ r_3.toInt = 1 ∧ 0 ≤ a0.toInt ∧ a0.toInt < (P 4).toInt) from by omega)⟩
set_option maxHeartbeats 4000000 in
set_option maxRecDepth 10000 in
theorem sf_isCell {P : Nat → Int32} (hP : PL P) (S : MS) (a0 : Int32) (h_S : IC P S) : Tot (fr_isCell S a0) (fun r => r.2 = S ∧ (r.1.toInt = 0 ∨ r.1.toInt = 1 ∧ (0 ≤ a0.toInt ∧ a0.toInt ≤ 143) ∧ a0.toInt < (P 9).toInt * (P 10).toInt)) := by
  have z0 : (1 : Int32).toInt = 1 := by decide
  have z1 : (0 : Int32).toInt = 0 := by decide
  have p_9 := pl_9 hP
  have p_10 := pl_10 hP
  have p_cells := pl_cells hP
  have j_a0 := i_any a0
  unfold fr_isCell
  refine tot_bindp (R := fun r_1 : Int32 => ((1 ≤ r_1.toInt ∧ r_1.toInt ≤ 144) ∧ r_1.toInt = (P 9).toInt * (P 10).toInt)) (sf_cellCount hP S h_S ) (fun r_1 d_r_1 => ?_)
  replace d_r_1 : ((1 ≤ r_1.toInt ∧ r_1.toInt ≤ 144) ∧ r_1.toInt = (P 9).toInt * (P 10).toInt) := d_r_1
  refine tot_let (fun v_3 e_v_3 => ?_)
  have q_v_3 := i_sub e_v_3 (by omega) (by omega)
  refine tot_bind (sf_in hP a0 0 v_3  ) (fun r_4 d_r_4 => ?_)
  replace d_r_4 : (r_4.toInt = 0 ∧ (a0.toInt < (0 : Int32).toInt ∨ v_3.toInt < a0.toInt) ∨ r_4.toInt = 1 ∧ (0 : Int32).toInt ≤ a0.toInt ∧ a0.toInt ≤ v_3.toInt) := d_r_4
  refine tot_oif (i_b01 (by omega)) ?_
  exact tot_some ⟨rfl, (show (r_4.toInt = 0 ∨ r_4.toInt = 1 ∧ (0 ≤ a0.toInt ∧ a0.toInt ≤ 143) ∧ a0.toInt < (P 9).toInt * (P 10).toInt) from by omega)⟩
set_option maxHeartbeats 4000000 in
set_option maxRecDepth 10000 in
theorem sf_isSource {P : Nat → Int32} (hP : PL P) (S : MS) (a0 : Int32) (h_S : IC P S) : Tot (fr_isSource S a0) (fun r => r.2 = S ∧ (r.1.toInt = 0 ∨ r.1.toInt = 1 ∧ 0 ≤ a0.toInt ∧ a0.toInt < (P 5).toInt)) := by
  have z0 : (1 : Int32).toInt = 1 := by decide
  have z1 : (0 : Int32).toInt = 0 := by decide
  have p_5 := pl_5 hP
  have j_a0 := i_any a0
  unfold fr_isSource
  refine tot_let (fun v_1 e_v_1 => ?_)
  have q_v_1 := ic_p h_S e_v_1
  refine tot_let (fun v_2 e_v_2 => ?_)
  have q_v_2 := i_sub e_v_2 (by omega) (by omega)
  refine tot_bind (sf_in hP a0 0 v_2  ) (fun r_3 d_r_3 => ?_)
  replace d_r_3 : (r_3.toInt = 0 ∧ (a0.toInt < (0 : Int32).toInt ∨ v_2.toInt < a0.toInt) ∨ r_3.toInt = 1 ∧ (0 : Int32).toInt ≤ a0.toInt ∧ a0.toInt ≤ v_2.toInt) := d_r_3
  refine tot_oif (i_b01 (by omega)) ?_
  exact tot_some ⟨rfl, (show (r_3.toInt = 0 ∨ r_3.toInt = 1 ∧ 0 ≤ a0.toInt ∧ a0.toInt < (P 5).toInt) from by omega)⟩
set_option maxHeartbeats 4000000 in
set_option maxRecDepth 10000 in
theorem sf_isTime {P : Nat → Int32} (hP : PL P) (S : MS) (a0 : Int32) (h_S : IC P S) : Tot (fr_isTime S a0) (fun r => r.2 = S ∧ (r.1.toInt = 0 ∨ r.1.toInt = 1 ∧ 0 ≤ a0.toInt ∧ a0.toInt < (P 2).toInt)) := by
  have z0 : (1 : Int32).toInt = 1 := by decide
  have z1 : (0 : Int32).toInt = 0 := by decide
  have p_2 := pl_2 hP
  have j_a0 := i_any a0
  unfold fr_isTime
  refine tot_let (fun v_1 e_v_1 => ?_)
  have q_v_1 := ic_p h_S e_v_1
  refine tot_let (fun v_2 e_v_2 => ?_)
  have q_v_2 := i_sub e_v_2 (by omega) (by omega)
  refine tot_bind (sf_in hP a0 0 v_2  ) (fun r_3 d_r_3 => ?_)
  replace d_r_3 : (r_3.toInt = 0 ∧ (a0.toInt < (0 : Int32).toInt ∨ v_2.toInt < a0.toInt) ∨ r_3.toInt = 1 ∧ (0 : Int32).toInt ≤ a0.toInt ∧ a0.toInt ≤ v_2.toInt) := d_r_3
  refine tot_oif (i_b01 (by omega)) ?_
  exact tot_some ⟨rfl, (show (r_3.toInt = 0 ∨ r_3.toInt = 1 ∧ 0 ≤ a0.toInt ∧ a0.toInt < (P 2).toInt) from by omega)⟩
set_option maxHeartbeats 4000000 in
set_option maxRecDepth 10000 in
theorem sf_isPeriod {P : Nat → Int32} (hP : PL P) (a0 : Int32) : Tot (fr_isPeriod a0) (fun r => (r.toInt = 0 ∨ r.toInt = 1 ∧ 2 ≤ a0.toInt ∧ a0.toInt ≤ 99)) := by
  have z0 : (2 : Int32).toInt = 2 := by decide
  have z1 : (99 : Int32).toInt = 99 := by decide
  have j_a0 := i_any a0
  unfold fr_isPeriod
  refine tot_bind (sf_in hP a0 2 99  ) (fun r_1 d_r_1 => ?_)
  replace d_r_1 : (r_1.toInt = 0 ∧ (a0.toInt < (2 : Int32).toInt ∨ (99 : Int32).toInt < a0.toInt) ∨ r_1.toInt = 1 ∧ (2 : Int32).toInt ≤ a0.toInt ∧ a0.toInt ≤ (99 : Int32).toInt) := d_r_1
  refine tot_oif (i_b01 (by omega)) ?_
  exact tot_some (show (r_1.toInt = 0 ∨ r_1.toInt = 1 ∧ 2 ≤ a0.toInt ∧ a0.toInt ≤ 99) from by omega)
set_option maxHeartbeats 4000000 in
set_option maxRecDepth 10000 in
theorem sf_mics {P : Nat → Int32} (hP : PL P) (S : MS) (h_S : IC P S) : Tot (fr_mics S) (fun r => IC P r.2 ∧ (0 ≤ r.1.toInt ∧ r.1.toInt ≤ 200)) := by
  have p_4 := pl_4 hP
  unfold fr_mics
  refine tot_let (fun v_1 e_v_1 => ?_)
  have q_v_1 := ic_p h_S e_v_1
  refine tot_bind2 (sf_told hP S v_1 h_S (by omega)) (fun r_2 S_3 d_r_2 => ?_)
  have h_S_3 : IC P S_3 := d_r_2.1
  replace d_r_2 : (0 ≤ r_2.toInt ∧ r_2.toInt ≤ 200) := d_r_2.2
  exact tot_some ⟨h_S_3, (show (0 ≤ r_2.toInt ∧ r_2.toInt ≤ 200) from by omega)⟩
set_option maxHeartbeats 4000000 in
set_option maxRecDepth 10000 in
theorem sf_micAt {P : Nat → Int32} (hP : PL P) (S : MS) (a0 : Int32) (a1 : Int32) (h_S : IC P S) : Tot (fr_micAt S a0 a1) (fun r => IC P r.2 ∧ (-500 ≤ r.1.toInt ∧ r.1.toInt ≤ 500)) := by
  have z0 : (0 : Int32).toInt = 0 := by decide
  have z1 : (11 : Int32).toInt = 11 := by decide
  have z2 : (1 : Int32).toInt = 1 := by decide
  have z3 : (23 : Int32).toInt = 23 := by decide
  have z4 : (2 : Int32).toInt = 2 := by decide
  have z5 : (35 : Int32).toInt = 35 := by decide
  have z6 : (3 : Int32).toInt = 3 := by decide
  have z7 : (13 : Int32).toInt = 13 := by decide
  have p_4 := pl_4 hP
  have j_a0 := i_any a0
  have j_a1 := i_any a1
  unfold fr_micAt
  refine tot_bindp (R := fun r_1 : Int32 => (r_1.toInt = 0 ∨ r_1.toInt = 1 ∧ 0 ≤ a0.toInt ∧ a0.toInt < (P 4).toInt)) (sf_isMic hP S a0 h_S ) (fun r_1 d_r_1 => ?_)
  replace d_r_1 : (r_1.toInt = 0 ∨ r_1.toInt = 1 ∧ 0 ≤ a0.toInt ∧ a0.toInt < (P 4).toInt) := d_r_1
  refine tot_bind2 (sf_mayAsk hP S r_1 h_S (by omega)) (fun r_3 S_4 d_r_3 => ?_)
  have h_S_4 : IC P S_4 := d_r_3.1
  replace d_r_3 : (r_3.toInt = 0 ∨ r_3.toInt = 1 ∧ ¬ r_1.toInt = 0) := d_r_3.2
  refine tot_if (fun c_15 => ?_) (fun c_15 => ?_)
  · replace c_15 := i_eq c_15
    exact tot_some ⟨h_S_4, (show (-500 ≤ (0 : Int32).toInt ∧ (0 : Int32).toInt ≤ 500) from by omega)⟩
  · replace c_15 := i_ne c_15
    refine tot_if (fun c_16 => ?_) (fun c_16 => ?_)
    · replace c_16 := i_eq c_16
      refine tot_let (fun v_5 e_v_5 => ?_)
      have q_v_5 := i_add e_v_5 (by omega) (by omega)
      refine tot_oif (i_inb (by omega) (by omega)) ?_
      refine tot_let (fun v_6 e_v_6 => ?_)
      have q_v_6 := ic_p h_S_4 e_v_6
      have r_v_6 := pr_11 hP v_5 (by omega) (by omega)
      exact tot_some ⟨h_S_4, (show (-500 ≤ v_6.toInt ∧ v_6.toInt ≤ 500) from by omega)⟩
    · replace c_16 := i_ne c_16
      refine tot_if (fun c_17 => ?_) (fun c_17 => ?_)
      · replace c_17 := i_eq c_17
        refine tot_let (fun v_7 e_v_7 => ?_)
        have q_v_7 := i_add e_v_7 (by omega) (by omega)
        refine tot_oif (i_inb (by omega) (by omega)) ?_
        refine tot_let (fun v_8 e_v_8 => ?_)
        have q_v_8 := ic_p h_S_4 e_v_8
        have r_v_8 := pr_11 hP v_7 (by omega) (by omega)
        exact tot_some ⟨h_S_4, (show (-500 ≤ v_8.toInt ∧ v_8.toInt ≤ 500) from by omega)⟩
      · replace c_17 := i_ne c_17
        refine tot_if (fun c_18 => ?_) (fun c_18 => ?_)
        · replace c_18 := i_eq c_18
          refine tot_let (fun v_9 e_v_9 => ?_)
          have q_v_9 := i_add e_v_9 (by omega) (by omega)
          refine tot_oif (i_inb (by omega) (by omega)) ?_
          refine tot_let (fun v_10 e_v_10 => ?_)
          have q_v_10 := ic_p h_S_4 e_v_10
          have r_v_10 := pr_35 hP v_9 (by omega) (by omega)
          exact tot_some ⟨h_S_4, (show (-500 ≤ v_10.toInt ∧ v_10.toInt ≤ 500) from by omega)⟩
        · replace c_18 := i_ne c_18
          refine tot_if (fun c_19 => ?_) (fun c_19 => ?_)
          · replace c_19 := i_eq c_19
            refine tot_let (fun v_11 e_v_11 => ?_)
            have q_v_11 := i_add e_v_11 (by omega) (by omega)
            refine tot_oif (i_inb (by omega) (by omega)) ?_
            refine tot_let (fun v_12 e_v_12 => ?_)
            have r_v_12 := nR_13 (ic_12 h_S_4 e_v_12) (by omega) (by omega)
            exact tot_some ⟨h_S_4, (show (-500 ≤ v_12.toInt ∧ v_12.toInt ≤ 500) from by omega)⟩
          · replace c_19 := i_ne c_19
            refine tot_bind2 (sf_throwsAt hP S_4 3 h_S_4 ) (fun r_13 S_14 d_r_13 => ?_)
            have h_S_14 : IC P S_14 := d_r_13.1
            replace d_r_13 : (0 ≤ r_13.toInt ∧ r_13.toInt ≤ 0) := d_r_13.2
            exact tot_some ⟨h_S_14, (show (-500 ≤ r_13.toInt ∧ r_13.toInt ≤ 500) from by omega)⟩
set_option maxHeartbeats 4000000 in
set_option maxRecDepth 10000 in
theorem sf_hears_12 {P : Nat → Int32} (hP : PL P) (S : MS) (a1 : Int32) (h_S : IC P S) (g0 : 0 ≤ a1.toInt ∧ a1.toInt ≤ 11) : Tot (fr_hears_12 S a1) (fun r => r.2 = S ∧ (0 ≤ r.1.toInt ∧ r.1.toInt ≤ 1)) := by
  have z0 : (1 : Int32).toInt = 1 := by decide
  have z1 : (0 : Int32).toInt = 0 := by decide
  have j_a1 := i_any a1
  unfold fr_hears_12
  refine tot_let (fun v_1 e_v_1 => ?_)
  have q_v_1 := i_add e_v_1 (by omega) (by omega)
  refine tot_oif (i_inb (by omega) (by omega)) ?_
  refine tot_let (fun v_2 e_v_2 => ?_)
  have r_v_2 := nR_1 (ic_12 h_S e_v_2) (by omega) (by omega)
  refine tot_if (fun c_3 => ?_) (fun c_3 => ?_)
  · replace c_3 := i_eq c_3
    unfold fr_hears_12_b13
    refine tot_oif (i_b01 (by omega)) ?_
    exact tot_some ⟨rfl, (show (0 ≤ (1 : Int32).toInt ∧ (1 : Int32).toInt ≤ 1) from by omega)⟩
  · replace c_3 := i_ne c_3
    unfold fr_hears_12_b13
    refine tot_oif (i_b01 (by omega)) ?_
    exact tot_some ⟨rfl, (show (0 ≤ (0 : Int32).toInt ∧ (0 : Int32).toInt ≤ 1) from by omega)⟩
set_option maxHeartbeats 4000000 in
set_option maxRecDepth 10000 in
theorem sf_isMuted {P : Nat → Int32} (hP : PL P) (S : MS) (a0 : Int32) (h_S : IC P S) : Tot (fr_isMuted S a0) (fun r => IC P r.2 ∧ (0 ≤ r.1.toInt ∧ r.1.toInt ≤ 1)) := by
  have z0 : (0 : Int32).toInt = 0 := by decide
  have z1 : (1 : Int32).toInt = 1 := by decide
  have p_4 := pl_4 hP
  have j_a0 := i_any a0
  unfold fr_isMuted
  refine tot_bindp (R := fun r_1 : Int32 => (r_1.toInt = 0 ∨ r_1.toInt = 1 ∧ 0 ≤ a0.toInt ∧ a0.toInt < (P 4).toInt)) (sf_isMic hP S a0 h_S ) (fun r_1 d_r_1 => ?_)
  replace d_r_1 : (r_1.toInt = 0 ∨ r_1.toInt = 1 ∧ 0 ≤ a0.toInt ∧ a0.toInt < (P 4).toInt) := d_r_1
  refine tot_bind2 (sf_mayAsk hP S r_1 h_S (by omega)) (fun r_3 S_4 d_r_3 => ?_)
  have h_S_4 : IC P S_4 := d_r_3.1
  replace d_r_3 : (r_3.toInt = 0 ∨ r_3.toInt = 1 ∧ ¬ r_1.toInt = 0) := d_r_3.2
  refine tot_if (fun c_7 => ?_) (fun c_7 => ?_)
  · replace c_7 := i_eq c_7
    unfold fr_isMuted_b28
    unfold fr_isMuted_b29
    refine tot_oif (i_b01 (by omega)) ?_
    exact tot_some ⟨h_S_4, (show (0 ≤ (0 : Int32).toInt ∧ (0 : Int32).toInt ≤ 1) from by omega)⟩
  · replace c_7 := i_ne c_7
    refine tot_bindp (R := fun r_5 : Int32 => (0 ≤ r_5.toInt ∧ r_5.toInt ≤ 1)) (sf_hears_12 hP S_4 a0 h_S_4 (by omega)) (fun r_5 d_r_5 => ?_)
    replace d_r_5 : (0 ≤ r_5.toInt ∧ r_5.toInt ≤ 1) := d_r_5
    refine tot_if (fun c_8 => ?_) (fun c_8 => ?_)
    · replace c_8 := i_eq c_8
      unfold fr_isMuted_b29
      refine tot_oif (i_b01 (by omega)) ?_
      exact tot_some ⟨h_S_4, (show (0 ≤ (1 : Int32).toInt ∧ (1 : Int32).toInt ≤ 1) from by omega)⟩
    · replace c_8 := i_ne c_8
      unfold fr_isMuted_b28
      unfold fr_isMuted_b29
      refine tot_oif (i_b01 (by omega)) ?_
      exact tot_some ⟨h_S_4, (show (0 ≤ (0 : Int32).toInt ∧ (0 : Int32).toInt ≤ 1) from by omega)⟩
