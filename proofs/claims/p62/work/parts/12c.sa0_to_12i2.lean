section
/-! 12c.sa0.lean.txt -/
set_option maxHeartbeats 4000000 in
set_option maxRecDepth 10000 in
theorem sf_in {P : Nat → Int32} (hP : PL P) (a0 : Int32) (a1 : Int32) (a2 : Int32) : Tot (fr_in a0 a1 a2) (fun r => (r.toInt = 0 ∧ (a0.toInt < a1.toInt ∨ a2.toInt < a0.toInt) ∨ r.toInt = 1 ∧ a1.toInt ≤ a0.toInt ∧ a0.toInt ≤ a2.toInt)) := by
  have z0 : (0 : Int32).toInt = 0 := by decide
  have z1 : (1 : Int32).toInt = 1 := by decide
  have j_a0 := i_any a0
  have j_a1 := i_any a1
  have j_a2 := i_any a2
  unfold fr_in
  refine tot_if (fun c_1 => ?_) (fun c_1 => ?_)
  · replace c_1 := i_lt c_1
    unfold fr_in_b14
    unfold fr_in_b15
    refine tot_oif (i_b01 (by omega)) ?_
    exact tot_some (show ((0 : Int32).toInt = 0 ∧ (a0.toInt < a1.toInt ∨ a2.toInt < a0.toInt) ∨ (0 : Int32).toInt = 1 ∧ a1.toInt ≤ a0.toInt ∧ a0.toInt ≤ a2.toInt) from by omega)
  · replace c_1 := i_nlt c_1
    refine tot_if (fun c_2 => ?_) (fun c_2 => ?_)
    · replace c_2 := i_lt c_2
      unfold fr_in_b14
      unfold fr_in_b15
      refine tot_oif (i_b01 (by omega)) ?_
      exact tot_some (show ((0 : Int32).toInt = 0 ∧ (a0.toInt < a1.toInt ∨ a2.toInt < a0.toInt) ∨ (0 : Int32).toInt = 1 ∧ a1.toInt ≤ a0.toInt ∧ a0.toInt ≤ a2.toInt) from by omega)
    · replace c_2 := i_nlt c_2
      unfold fr_in_b15
      refine tot_oif (i_b01 (by omega)) ?_
      exact tot_some (show ((1 : Int32).toInt = 0 ∧ (a0.toInt < a1.toInt ∨ a2.toInt < a0.toInt) ∨ (1 : Int32).toInt = 1 ∧ a1.toInt ≤ a0.toInt ∧ a0.toInt ≤ a2.toInt) from by omega)
set_option maxHeartbeats 4000000 in
set_option maxRecDepth 10000 in
theorem sf_throwsAt {P : Nat → Int32} (hP : PL P) (S : MS) (a0 : Int32) (h_S : IC P S) : Tot (fr_throwsAt S a0) (fun r => IC P r.2 ∧ (0 ≤ r.1.toInt ∧ r.1.toInt ≤ 0)) := by
  have z0 : (0 : Int32).toInt = 0 := by decide
  have j_a0 := i_any a0
  unfold fr_throwsAt
  refine tot_let (fun S_1 e_S_1 => ?_)
  have h_S_1 : IC P S_1 := by rw [e_S_1]; exact ic_mi0 h_S _
  exact tot_some ⟨h_S_1, (show (0 ≤ (0 : Int32).toInt ∧ (0 : Int32).toInt ≤ 0) from by omega)⟩
set_option maxHeartbeats 4000000 in
set_option maxRecDepth 10000 in
theorem sf_buffered {P : Nat → Int32} (hP : PL P) (S : MS) (h_S : IC P S) : Tot (fr_buffered S) (fun r => IC P r.2 ∧ (0 ≤ r.1.toInt ∧ r.1.toInt ≤ 1000)) := by
  have z0 : (0 : Int32).toInt = 0 := by decide
  unfold fr_buffered
  refine tot_let (fun S_1 e_S_1 => ?_)
  have h_S_1 : IC P S_1 := by rw [e_S_1]; exact ic_mi0 h_S _
  refine tot_let (fun v_2 e_v_2 => ?_)
  have q_v_2 := i_eq e_v_2
  have r_v_2 := ic_2 h_S_1
  exact tot_some ⟨h_S_1, (show (0 ≤ v_2.toInt ∧ v_2.toInt ≤ 1000) from by omega)⟩
set_option maxHeartbeats 4000000 in
set_option maxRecDepth 10000 in
theorem sf_parseError {P : Nat → Int32} (hP : PL P) (S : MS) (h_S : IC P S) : Tot (fr_parseError S) (fun r => IC P r.2 ∧ True) := by
  have z0 : (0 : Int32).toInt = 0 := by decide
  unfold fr_parseError
  refine tot_let (fun S_1 e_S_1 => ?_)
  have h_S_1 : IC P S_1 := by rw [e_S_1]; exact ic_mi0 h_S _
  refine tot_let (fun v_2 e_v_2 => ?_)
  have q_v_2 := i_eq e_v_2
  have r_v_2 := i_any v_2
  exact tot_some ⟨h_S_1, trivial⟩
set_option maxHeartbeats 4000000 in
set_option maxRecDepth 10000 in
theorem sf_errorPosition {P : Nat → Int32} (hP : PL P) (S : MS) (h_S : IC P S) : Tot (fr_errorPosition S) (fun r => IC P r.2 ∧ True) := by
  have z0 : (0 : Int32).toInt = 0 := by decide
  unfold fr_errorPosition
  refine tot_let (fun S_1 e_S_1 => ?_)
  have h_S_1 : IC P S_1 := by rw [e_S_1]; exact ic_mi0 h_S _
  refine tot_let (fun v_2 e_v_2 => ?_)
  have q_v_2 := i_eq e_v_2
  have r_v_2 := i_any v_2
  exact tot_some ⟨h_S_1, trivial⟩
set_option maxHeartbeats 4000000 in
set_option maxRecDepth 10000 in
theorem sf_centre {P : Nat → Int32} (hP : PL P) (S : MS) (a0 : Int32) (a1 : Int32) (h_S : IC P S) (g0 : 0 ≤ a0.toInt ∧ a0.toInt ≤ 143) (g1 : 0 ≤ a1.toInt ∧ a1.toInt ≤ 1) : Tot (fr_centre S a0 a1) (fun r => r.2 = S ∧ (-999 ≤ r.1.toInt ∧ r.1.toInt ≤ 15156)) := by
  have z0 : (0 : Int32).toInt = 0 := by decide
  have p_6 := pl_6 hP
  have p_7 := pl_7 hP
  have p_8 := pl_8 hP
  have p_9 := pl_9 hP
  have p_cells := pl_cells hP
  have j_a0 := i_any a0
  have j_a1 := i_any a1
  unfold fr_centre
  refine tot_if (fun c_13 => ?_) (fun c_13 => ?_)
  · replace c_13 := i_eq c_13
    refine tot_let (fun v_1 e_v_1 => ?_)
    have q_v_1 := ic_p h_S e_v_1
    refine tot_let (fun v_2 e_v_2 => ?_)
    have q_v_2 := ic_p h_S e_v_2
    refine tot_let (fun v_3 e_v_3 => ?_)
    have q_v_3 := ic_p h_S e_v_3
    refine tot_oif (i_nz (by omega)) ?_
    refine tot_let (fun v_4 e_v_4 => ?_)
    have q_v_4 := i_rem e_v_4 (by omega) (by omega)
    refine tot_let (fun v_5 e_v_5 => ?_)
    have q_v_5 := i_mulp (a := 1) (b := 99) (c := 0) (d := 11) e_v_5 (by omega) (by omega) (by omega) (by omega) (by decide)
    refine tot_let (fun v_6 e_v_6 => ?_)
    have q_v_6 := i_add e_v_6 (by omega) (by omega)
    unfold fr_centre_b57
    exact tot_some ⟨rfl, (show (-999 ≤ v_6.toInt ∧ v_6.toInt ≤ 15156) from by omega)⟩
  · replace c_13 := i_ne c_13
    refine tot_let (fun v_7 e_v_7 => ?_)
    have q_v_7 := ic_p h_S e_v_7
    refine tot_let (fun v_8 e_v_8 => ?_)
    have q_v_8 := ic_p h_S e_v_8
    refine tot_let (fun v_9 e_v_9 => ?_)
    have q_v_9 := ic_p h_S e_v_9
    refine tot_oif (i_nz (by omega)) ?_
    refine tot_let (fun v_10 e_v_10 => ?_)
    have q_v_10 := i_div (c := 1) e_v_10 (by omega) (by omega) (by decide)
    refine tot_let (fun v_11 e_v_11 => ?_)
    have q_v_11 := i_mulp (a := 1) (b := 99) (c := 0) (d := 143) e_v_11 (by omega) (by omega) (by omega) (by omega) (by decide)
    refine tot_let (fun v_12 e_v_12 => ?_)
    have q_v_12 := i_add e_v_12 (by omega) (by omega)
    unfold fr_centre_b57
    exact tot_some ⟨rfl, (show (-999 ≤ v_12.toInt ∧ v_12.toInt ≤ 15156) from by omega)⟩
set_option maxHeartbeats 4000000 in
set_option maxRecDepth 10000 in
theorem sf_wave {P : Nat → Int32} (hP : PL P) (S : MS) (a0 : Int32) (a1 : Int32) (h_S : IC P S) (g0 : 0 ≤ a0.toInt ∧ a0.toInt ≤ 5) (g1 : 0 ≤ a1.toInt ∧ a1.toInt ≤ 199) (g2 : a0.toInt < (P 5).toInt) : Tot (fr_wave S a0 a1) (fun r => r.2 = S ∧ (-385614 ≤ r.1.toInt ∧ r.1.toInt ≤ 385614)) := by
  have z0 : (53 : Int32).toInt = 53 := by decide
  have z1 : (59 : Int32).toInt = 59 := by decide
  have z2 : (95 : Int32).toInt = 95 := by decide
  have z3 : (65 : Int32).toInt = 65 := by decide
  have z4 : (0 : Int32).toInt = 0 := by decide
  have z5 : (47 : Int32).toInt = 47 := by decide
  have z6 : (2 : Int32).toInt = 2 := by decide
  have z7 : (1 : Int32).toInt = 1 := by decide
  have z8 : (4 : Int32).toInt = 4 := by decide
  have z9 : (31 : Int32).toInt = 31 := by decide
  have z10 : (7919 : Int32).toInt = 7919 := by decide
  have z11 : (104729 : Int32).toInt = 104729 := by decide
  have p_5 := pl_5 hP
  have j_a0 := i_any a0
  have j_a1 := i_any a1
  unfold fr_wave
  refine tot_let (fun v_1 e_v_1 => ?_)
  have q_v_1 := i_add e_v_1 (by omega) (by omega)
  refine tot_oif (i_inb (by omega) (by omega)) ?_
  refine tot_let (fun v_2 e_v_2 => ?_)
  have q_v_2 := ic_p h_S e_v_2
  have r_v_2 := pr_53 hP v_1 (by omega) (by omega)
  refine tot_let (fun v_3 e_v_3 => ?_)
  have q_v_3 := i_add e_v_3 (by omega) (by omega)
  refine tot_oif (i_inb (by omega) (by omega)) ?_
  refine tot_let (fun v_4 e_v_4 => ?_)
  have q_v_4 := ic_p h_S e_v_4
  have r_v_4 := pr_59 hP v_3 (by omega) (by omega)
  have y_v_4 := pr_per hP v_3 (by omega) (by omega)
  refine tot_let (fun v_5 e_v_5 => ?_)
  have q_v_5 := i_add e_v_5 (by omega) (by omega)
  refine tot_oif (i_inb (by omega) (by omega)) ?_
  refine tot_let (fun v_6 e_v_6 => ?_)
  have q_v_6 := ic_p h_S e_v_6
  have r_v_6 := pr_95 hP v_5 (by omega) (by omega)
  refine tot_if (fun c_34 => ?_) (fun c_34 => ?_)
  · replace c_34 := i_le c_34
    refine tot_let (fun v_7 e_v_7 => ?_)
    have q_v_7 := i_add e_v_7 (by omega) (by omega)
    refine tot_oif (i_inb (by omega) (by omega)) ?_
    refine tot_let (fun v_8 e_v_8 => ?_)
    have q_v_8 := ic_p h_S e_v_8
    have r_v_8 := pr_65 hP v_7 (by omega) (by omega)
    refine tot_let (fun v_9 e_v_9 => ?_)
    have q_v_9 := i_add e_v_9 (by omega) (by omega)
    refine tot_oif (i_nz (by omega)) ?_
    refine tot_let (fun v_10 e_v_10 => ?_)
    have q_v_10 := i_rem e_v_10 (by omega) (by omega)
    refine tot_let (fun v_11 e_v_11 => ?_)
    have q_v_11 := i_add e_v_11 (by omega) (by omega)
    refine tot_oif (i_inb (by omega) (by omega)) ?_
    refine tot_let (fun v_12 e_v_12 => ?_)
    have q_v_12 := ic_p h_S e_v_12
    have r_v_12 := pr_47 hP v_11 (by omega) (by omega)
    refine tot_if (fun c_35 => ?_) (fun c_35 => ?_)
    · replace c_35 := i_eq c_35
      refine tot_let (fun v_13 e_v_13 => ?_)
      have q_v_13 := i_divk e_v_13 z6 (by decide)
      refine tot_if (fun c_36 => ?_) (fun c_36 => ?_)
      · replace c_36 := i_le c_36
        refine tot_let (fun v_14 e_v_14 => ?_)
        have q_v_14 := i_neg e_v_14 (by omega)
        unfold fr_wave_b103
        exact tot_some ⟨rfl, (show (-385614 ≤ v_14.toInt ∧ v_14.toInt ≤ 385614) from by omega)⟩
      · replace c_36 := i_nle c_36
        unfold fr_wave_b103
        exact tot_some ⟨rfl, (show (-385614 ≤ v_2.toInt ∧ v_2.toInt ≤ 385614) from by omega)⟩
    · replace c_35 := i_ne c_35
      refine tot_if (fun c_37 => ?_) (fun c_37 => ?_)
      · replace c_37 := i_eq c_37
        refine tot_let (fun v_15 e_v_15 => ?_)
        have q_v_15 := i_divk e_v_15 z6 (by decide)
        refine tot_let (fun v_16 e_v_16 => ?_)
        have q_v_16 := i_sub e_v_16 (by omega) (by omega)
        refine tot_let (fun v_17 e_v_17 => ?_)
        have q_v_17 := i_abs e_v_17 (by omega)
        refine tot_let (fun v_18 e_v_18 => ?_)
        have q_v_18 := i_mulk e_v_18 z8 (by omega) (by omega)
        refine tot_let (fun v_19 e_v_19 => ?_)
        have q_v_19 := i_sub e_v_19 (by omega) (by omega)
        refine tot_let (fun v_20 e_v_20 => ?_)
        have q_v_20 := i_mulm2 (a := -99) (b := 386) (d := 999) e_v_20 (by omega) (by omega) (by omega) (by omega) (by decide)
        refine tot_oif (i_nz (by omega)) ?_
        refine tot_let (fun v_21 e_v_21 => ?_)
        have q_v_21 := i_divs (b := 385614) e_v_21 (by omega) (by omega) (by omega) (by decide)
        exact tot_some ⟨rfl, (show (-385614 ≤ v_21.toInt ∧ v_21.toInt ≤ 385614) from by omega)⟩
      · replace c_37 := i_ne c_37
        refine tot_if (fun c_38 => ?_) (fun c_38 => ?_)
        · replace c_38 := i_eq c_38
          refine tot_if (fun c_39 => ?_) (fun c_39 => ?_)
          · replace c_39 := i_eq c_39
            unfold fr_wave_b135
            exact tot_some ⟨rfl, (show (-385614 ≤ v_2.toInt ∧ v_2.toInt ≤ 385614) from by omega)⟩
          · replace c_39 := i_ne c_39
            unfold fr_wave_b135
            exact tot_some ⟨rfl, (show (-385614 ≤ (0 : Int32).toInt ∧ (0 : Int32).toInt ≤ 385614) from by omega)⟩
        · replace c_38 := i_ne c_38
          refine tot_let (fun v_22 e_v_22 => ?_)
          have q_v_22 := i_mulk e_v_22 z9 (by omega) (by omega)
          refine tot_let (fun v_23 e_v_23 => ?_)
          have q_v_23 := i_mulp (a := 0) (b := 6169) (c := 0) (d := 199) e_v_23 (by omega) (by omega) (by omega) (by omega) (by decide)
          refine tot_let (fun v_24 e_v_24 => ?_)
          have q_v_24 := i_mulk e_v_24 z10 (by omega) (by omega)
          refine tot_let (fun v_25 e_v_25 => ?_)
          have q_v_25 := i_add e_v_25 (by omega) (by omega)
          refine tot_let (fun v_26 e_v_26 => ?_)
          have q_v_26 := i_add e_v_26 (by omega) (by omega)
          refine tot_oif (i_inb (by omega) (by omega)) ?_
          refine tot_let (fun v_27 e_v_27 => ?_)
          have q_v_27 := ic_p h_S e_v_27
          have r_v_27 := pr_65 hP v_26 (by omega) (by omega)
          refine tot_let (fun v_28 e_v_28 => ?_)
          have q_v_28 := i_mulk e_v_28 z11 (by omega) (by omega)
          refine tot_let (fun v_29 e_v_29 => ?_)
          have q_v_29 := i_add e_v_29 (by omega) (by omega)
          refine tot_let (fun v_30 e_v_30 => ?_)
          have q_v_30 := i_mulk e_v_30 z6 (by omega) (by omega)
          refine tot_let (fun v_31 e_v_31 => ?_)
          have q_v_31 := i_add e_v_31 (by omega) (by omega)
          refine tot_oif (i_nz (by omega)) ?_
          refine tot_let (fun v_32 e_v_32 => ?_)
          have q_v_32 := i_rem e_v_32 (by omega) (by omega)
          refine tot_let (fun v_33 e_v_33 => ?_)
          have q_v_33 := i_sub e_v_33 (by omega) (by omega)
          exact tot_some ⟨rfl, (show (-385614 ≤ v_33.toInt ∧ v_33.toInt ≤ 385614) from by omega)⟩
  · replace c_34 := i_nle c_34
    exact tot_some ⟨rfl, (show (-385614 ≤ (0 : Int32).toInt ∧ (0 : Int32).toInt ≤ 385614) from by omega)⟩
set_option maxHeartbeats 4000000 in
set_option maxRecDepth 10000 in
theorem sf_waveNow {P : Nat → Int32} (hP : PL P) (S : MS) (a0 : Int32) (a1 : Int32) (h_S : IC P S) (g0 : 0 ≤ a0.toInt ∧ a0.toInt ≤ 5) (g1 : 0 ≤ a1.toInt ∧ a1.toInt ≤ 199) (g2 : (S.1 21).toInt = -1 → a0.toInt < (P 5).toInt) : Tot (fr_waveNow S a0 a1) (fun r => r.2 = S ∧ (-385614 ≤ r.1.toInt ∧ r.1.toInt ≤ 385614)) := by
  have z0 : ((-1) : Int32).toInt = -1 := by decide
  have z1 : (0 : Int32).toInt = 0 := by decide
  have z2 : (2 : Int32).toInt = 2 := by decide
  have z3 : ((-100) : Int32).toInt = -100 := by decide
  have z4 : (100 : Int32).toInt = 100 := by decide
  have p_5 := pl_5 hP
  have j_a0 := i_any a0
  have j_a1 := i_any a1
  unfold fr_waveNow
  refine tot_let (fun v_1 e_v_1 => ?_)
  have q_v_1 := i_eq e_v_1
  have r_v_1 := ic_21 h_S
  refine tot_if (fun c_8 => ?_) (fun c_8 => ?_)
  · replace c_8 := i_eq c_8
    refine tot_bindp (R := fun r_2 : Int32 => (-385614 ≤ r_2.toInt ∧ r_2.toInt ≤ 385614)) (sf_wave hP S a0 a1 h_S (by omega) (by omega) (by omega)) (fun r_2 d_r_2 => ?_)
    replace d_r_2 : (-385614 ≤ r_2.toInt ∧ r_2.toInt ≤ 385614) := d_r_2
    unfold fr_waveNow_b39
    exact tot_some ⟨rfl, (show (-385614 ≤ r_2.toInt ∧ r_2.toInt ≤ 385614) from by omega)⟩
  · replace c_8 := i_ne c_8
    refine tot_let (fun v_4 e_v_4 => ?_)
    have q_v_4 := i_eq e_v_4
    have r_v_4 := ic_21 h_S
    refine tot_oif (i_nz (by omega)) ?_
    refine tot_let (fun v_5 e_v_5 => ?_)
    have r_v_5 := i_any v_5
    refine tot_let (fun v_6 e_v_6 => ?_)
    have q_v_6 := i_eq e_v_6
    have r_v_6 := ic_21 h_S
    refine tot_let (fun v_7 e_v_7 => ?_)
    have q_v_7 := i_divk e_v_7 z2 (by decide)
    refine tot_if (fun c_9 => ?_) (fun c_9 => ?_)
    · replace c_9 := i_le c_9
      unfold fr_waveNow_b39
      exact tot_some ⟨rfl, (show (-385614 ≤ ((-100) : Int32).toInt ∧ ((-100) : Int32).toInt ≤ 385614) from by omega)⟩
    · replace c_9 := i_nle c_9
      unfold fr_waveNow_b39
      exact tot_some ⟨rfl, (show (-385614 ≤ (100 : Int32).toInt ∧ (100 : Int32).toInt ≤ 385614) from by omega)⟩
set_option maxHeartbeats 4000000 in
set_option maxRecDepth 10000 in
theorem sf_heardFrom {P : Nat → Int32} (hP : PL P) (S : MS) (a0 : Int32) (a1 : Int32) (a2 : Int32) (a3 : Int32) (a4 : Int32) (h_S : IC P S) (g0 : 0 ≤ a0.toInt ∧ a0.toInt ≤ 11) (g1 : -19156 ≤ a1.toInt ∧ a1.toInt ≤ 15156) (g2 : -3988 ≤ a2.toInt ∧ a2.toInt ≤ 15156) (g3 : 0 ≤ a3.toInt ∧ a3.toInt ≤ 5) (g4 : 0 ≤ a4.toInt ∧ a4.toInt ≤ 199) (g5 : (S.1 21).toInt = -1 → a3.toInt < (P 5).toInt) : Tot (fr_heardFrom S a0 a1 a2 a3 a4) (fun r => r.2 = S ∧ (-385228386 ≤ r.1.toInt ∧ r.1.toInt ≤ 385228386)) := by
  have z0 : (0 : Int32).toInt = 0 := by decide
  have p_5 := pl_5 hP
  have p_76 := pl_76 hP
  have j_a0 := i_any a0
  have j_a1 := i_any a1
  have j_a2 := i_any a2
  have j_a3 := i_any a3
  have j_a4 := i_any a4
  unfold fr_heardFrom
  refine tot_bindp (R := fun r_1 : Int32 => (0 ≤ r_1.toInt ∧ r_1.toInt ≤ 65535)) (sf_delayFrom hP S a0 a1 a2 h_S (by omega) (by omega) (by omega)) (fun r_1 d_r_1 => ?_)
  replace d_r_1 : (0 ≤ r_1.toInt ∧ r_1.toInt ≤ 65535) := d_r_1
  refine tot_if (fun c_6 => ?_) (fun c_6 => ?_)
  · replace c_6 := i_le c_6
    refine tot_let (fun v_3 e_v_3 => ?_)
    have q_v_3 := i_sub e_v_3 (by omega) (by omega)
    refine tot_bindp (R := fun r_4 : Int32 => (-385614 ≤ r_4.toInt ∧ r_4.toInt ≤ 385614)) (sf_waveNow hP S a3 v_3 h_S (by omega) (by omega) (by omega)) (fun r_4 d_r_4 => ?_)
    replace d_r_4 : (-385614 ≤ r_4.toInt ∧ r_4.toInt ≤ 385614) := d_r_4
    unfold fr_heardFrom_b31
    refine tot_let (fun v_7 e_v_7 => ?_)
    have q_v_7 := ic_p h_S e_v_7
    refine tot_if (fun c_13 => ?_) (fun c_13 => ?_)
    · replace c_13 := i_eq c_13
      unfold fr_heardFrom_b69
      exact tot_some ⟨rfl, (show (-385228386 ≤ r_4.toInt ∧ r_4.toInt ≤ 385228386) from by omega)⟩
    · replace c_13 := i_ne c_13
      refine tot_let (fun v_8 e_v_8 => ?_)
      have q_v_8 := ic_p h_S e_v_8
      refine tot_let (fun v_9 e_v_9 => ?_)
      have q_v_9 := i_mulm (a := -385614) (b := 385614) (d := 999) e_v_9 (by omega) (by omega) (by omega) (by omega) (by decide)
      refine tot_let (fun v_10 e_v_10 => ?_)
      have q_v_10 := ic_p h_S e_v_10
      refine tot_let (fun v_11 e_v_11 => ?_)
      have q_v_11 := i_add e_v_11 (by omega) (by omega)
      refine tot_oif (i_nz (by omega)) ?_
      refine tot_let (fun v_12 e_v_12 => ?_)
      have q_v_12 := i_divs (b := 385228386) e_v_12 (by omega) (by omega) (by omega) (by decide)
      unfold fr_heardFrom_b69
      exact tot_some ⟨rfl, (show (-385228386 ≤ v_12.toInt ∧ v_12.toInt ≤ 385228386) from by omega)⟩
  · replace c_6 := i_nle c_6
    unfold fr_heardFrom_b31
    refine tot_let (fun v_14 e_v_14 => ?_)
    have q_v_14 := ic_p h_S e_v_14
    refine tot_if (fun c_20 => ?_) (fun c_20 => ?_)
    · replace c_20 := i_eq c_20
      unfold fr_heardFrom_b69
      exact tot_some ⟨rfl, (show (-385228386 ≤ (0 : Int32).toInt ∧ (0 : Int32).toInt ≤ 385228386) from by omega)⟩
    · replace c_20 := i_ne c_20
      refine tot_let (fun v_15 e_v_15 => ?_)
      have q_v_15 := ic_p h_S e_v_15
      refine tot_let (fun v_16 e_v_16 => ?_)
      have q_v_16 := i_mulk e_v_16 z0 (by omega) (by omega)
      refine tot_let (fun v_17 e_v_17 => ?_)
      have q_v_17 := ic_p h_S e_v_17
      refine tot_let (fun v_18 e_v_18 => ?_)
      have q_v_18 := i_add e_v_18 (by omega) (by omega)
      refine tot_oif (i_nz (by omega)) ?_
      refine tot_let (fun v_19 e_v_19 => ?_)
      have q_v_19 := i_div (c := 2) e_v_19 (by omega) (by omega) (by decide)
      unfold fr_heardFrom_b69
      exact tot_some ⟨rfl, (show (-385228386 ≤ v_19.toInt ∧ v_19.toInt ≤ 385228386) from by omega)⟩
set_option maxHeartbeats 4000000 in
set_option maxRecDepth 10000 in
theorem lf_heardOf_b16 {P : Nat → Int32} (hP : PL P) {Q : Int32 × MS → Prop} (S : MS) (l1 : Int32) (l2 : Int32) (l3 : Int32) (l4 : Int32) (l5 : Int32) (h_S : IC P S) (g0 : 0 ≤ l1.toInt ∧ l1.toInt ≤ 11) (g1 : -3988 ≤ l2.toInt ∧ l2.toInt ≤ 15156) (g2 : -3988 ≤ l3.toInt ∧ l3.toInt ≤ 15156) (g3 : 0 ≤ l4.toInt ∧ l4.toInt ≤ 5) (g4 : 0 ≤ l5.toInt ∧ l5.toInt ≤ 199) (g5 : (S.1 21).toInt = -1 → l4.toInt < (P 5).toInt) (hx0 : ∀ (l6 : Int32), Tot (some (l6, S)) Q) : ∀ (n : Nat) (l6 : Int32) (l7 : Int32), (0 ≤ l7.toInt ∧ l7.toInt ≤ 2) → 2 - l7.toInt < (n : Int) → Tot (fr_heardOf_b16 n S l1 l2 l3 l4 l5 l6 l7) Q := by
  have z0 : (72 : Int32).toInt = 72 := by decide
  have z1 : (2 : Int32).toInt = 2 := by decide
  have z2 : (74 : Int32).toInt = 74 := by decide
  have z3 : (100 : Int32).toInt = 100 := by decide
  have z4 : (Int32.ofInt (1) : Int32).toInt = 1 := by decide
  have p_5 := pl_5 hP
  have p_71 := pl_71 hP
  have j_l1 := i_any l1
  have j_l2 := i_any l2
  have j_l3 := i_any l3
  have j_l4 := i_any l4
  have j_l5 := i_any l5
  intro n
  induction n with
  | zero =>
    intro l6 l7 g_l7 hm
    exfalso
    omega
  | succ n ih =>
    intro l6 l7 g_l7 hm
    unfold fr_heardOf_b16
    refine tot_let (fun v_16 e_v_16 => ?_)
    have q_v_16 := ic_p h_S e_v_16
    refine tot_if (fun c_42 => ?_) (fun c_42 => ?_)
    · replace c_42 := i_le c_42
      exact hx0 l6 
    · replace c_42 := i_nle c_42
      refine tot_let (fun v_17 e_v_17 => ?_)
      have q_v_17 := i_add e_v_17 (by omega) (by omega)
      refine tot_oif (i_inb (by omega) (by omega)) ?_
      refine tot_let (fun v_18 e_v_18 => ?_)
      have q_v_18 := ic_p h_S e_v_18
      have r_v_18 := pr_72 hP v_17 (by omega) (by omega)
      refine tot_let (fun v_19 e_v_19 => ?_)
      have q_v_19 := i_mulk e_v_19 z1 (by omega) (by omega)
      refine tot_let (fun v_20 e_v_20 => ?_)
      have q_v_20 := i_sub e_v_20 (by omega) (by omega)
      refine tot_bindp (R := fun r_21 : Int32 => (-385228386 ≤ r_21.toInt ∧ r_21.toInt ≤ 385228386)) (sf_heardFrom hP S l1 v_20 l3 l4 l5 h_S (by omega) (by omega) (by omega) (by omega) (by omega) (by omega)) (fun r_21 d_r_21 => ?_)
      replace d_r_21 : (-385228386 ≤ r_21.toInt ∧ r_21.toInt ≤ 385228386) := d_r_21
      refine tot_let (fun v_23 e_v_23 => ?_)
      have q_v_23 := i_add e_v_23 (by omega) (by omega)
      refine tot_oif (i_inb (by omega) (by omega)) ?_
      refine tot_let (fun v_24 e_v_24 => ?_)
      have q_v_24 := ic_p h_S e_v_24
      have r_v_24 := pr_74 hP v_23 (by omega) (by omega)
      refine tot_let (fun v_25 e_v_25 => ?_)
      have r_v_25 := i_any v_25
      refine tot_let (fun v_26 e_v_26 => ?_)
      have q_v_26 := i_divk e_v_26 z3 (by decide)
      refine tot_let (fun v_27 e_v_27 => ?_)
      have r_v_27 := i_any v_27
      refine tot_let (fun v_28 e_v_28 => ?_)
      have q_v_28 := i_add e_v_28 (by omega) (by omega)
      exact ih v_27 v_28 (by omega) (by omega)
set_option maxHeartbeats 4000000 in
set_option maxRecDepth 10000 in
theorem sf_heardOf {P : Nat → Int32} (hP : PL P) (S : MS) (a0 : Int32) (a1 : Int32) (a2 : Int32) (a3 : Int32) (a4 : Int32) (h_S : IC P S) (g0 : 0 ≤ a0.toInt ∧ a0.toInt ≤ 11) (g1 : -3988 ≤ a1.toInt ∧ a1.toInt ≤ 15156) (g2 : -3988 ≤ a2.toInt ∧ a2.toInt ≤ 15156) (g3 : 0 ≤ a3.toInt ∧ a3.toInt ≤ 5) (g4 : 0 ≤ a4.toInt ∧ a4.toInt ≤ 199) (g5 : (S.1 21).toInt = -1 → a3.toInt < (P 5).toInt) : Tot (fr_heardOf S a0 a1 a2 a3 a4) (fun r => r.2 = S ∧ True) := by
  have z0 : (0 : Int32).toInt = 0 := by decide
  have p_5 := pl_5 hP
  have j_a0 := i_any a0
  have j_a1 := i_any a1
  have j_a2 := i_any a2
  have j_a3 := i_any a3
  have j_a4 := i_any a4
  unfold fr_heardOf
  refine tot_bindp (R := fun r_1 : Int32 => (-385228386 ≤ r_1.toInt ∧ r_1.toInt ≤ 385228386)) (sf_heardFrom hP S a0 a1 a2 a3 a4 h_S (by omega) (by omega) (by omega) (by omega) (by omega) (by omega)) (fun r_1 d_r_1 => ?_)
  replace d_r_1 : (-385228386 ≤ r_1.toInt ∧ r_1.toInt ≤ 385228386) := d_r_1
  refine lf_heardOf_b16 hP S a0 a1 a2 a3 a4 h_S (by omega) (by omega) (by omega) (by omega) (by omega) (by omega) ?_ 16384 r_1 0 (by omega) (by omega)
  · intro l_43
    have j_l_43 := i_any l_43
    exact tot_some ⟨rfl, trivial⟩
set_option maxHeartbeats 4000000 in
set_option maxRecDepth 10000 in
theorem sf_sourcePlace_12 {P : Nat → Int32} (hP : PL P) (S : MS) (a1 : Int32) (a2 : Int32) (a3 : Int32) (h_S : IC P S) (g0 : 0 ≤ a1.toInt ∧ a1.toInt ≤ 5) (g1 : 0 ≤ a2.toInt ∧ a2.toInt ≤ 1) (g2 : 0 ≤ a3.toInt ∧ a3.toInt ≤ 199) : Tot (fr_sourcePlace_12 S a1 a2 a3) (fun r => r.2 = S ∧ (-3988 ≤ r.1.toInt ∧ r.1.toInt ≤ 3988)) := by
  have z0 : (0 : Int32).toInt = 0 := by decide
  have z1 : (31 : Int32).toInt = 31 := by decide
  have z2 : (43 : Int32).toInt = 43 := by decide
  have z3 : (100 : Int32).toInt = 100 := by decide
  have z4 : (37 : Int32).toInt = 37 := by decide
  have z5 : (49 : Int32).toInt = 49 := by decide
  have j_a1 := i_any a1
  have j_a2 := i_any a2
  have j_a3 := i_any a3
  unfold fr_sourcePlace_12
  refine tot_if (fun c_15 => ?_) (fun c_15 => ?_)
  · replace c_15 := i_eq c_15
    refine tot_let (fun v_1 e_v_1 => ?_)
    have q_v_1 := i_add e_v_1 (by omega) (by omega)
    refine tot_oif (i_inb (by omega) (by omega)) ?_
    refine tot_let (fun v_2 e_v_2 => ?_)
    have r_v_2 := nR_31 (ic_12 h_S e_v_2) (by omega) (by omega)
    refine tot_let (fun v_3 e_v_3 => ?_)
    have q_v_3 := i_add e_v_3 (by omega) (by omega)
    refine tot_oif (i_inb (by omega) (by omega)) ?_
    refine tot_let (fun v_4 e_v_4 => ?_)
    have r_v_4 := nR_43 (ic_12 h_S e_v_4) (by omega) (by omega)
    refine tot_let (fun v_5 e_v_5 => ?_)
    have q_v_5 := i_mulm (a := -999) (b := 999) (d := 199) e_v_5 (by omega) (by omega) (by omega) (by omega) (by decide)
    refine tot_let (fun v_6 e_v_6 => ?_)
    have q_v_6 := i_divk e_v_6 z3 (by decide)
    refine tot_let (fun v_7 e_v_7 => ?_)
    have q_v_7 := i_add e_v_7 (by omega) (by omega)
    unfold fr_sourcePlace_12_b45
    exact tot_some ⟨rfl, (show (-3988 ≤ v_7.toInt ∧ v_7.toInt ≤ 3988) from by omega)⟩
  · replace c_15 := i_ne c_15
    refine tot_let (fun v_8 e_v_8 => ?_)
    have q_v_8 := i_add e_v_8 (by omega) (by omega)
    refine tot_oif (i_inb (by omega) (by omega)) ?_
    refine tot_let (fun v_9 e_v_9 => ?_)
    have r_v_9 := nR_31 (ic_12 h_S e_v_9) (by omega) (by omega)
    refine tot_let (fun v_10 e_v_10 => ?_)
    have q_v_10 := i_add e_v_10 (by omega) (by omega)
    refine tot_oif (i_inb (by omega) (by omega)) ?_
    refine tot_let (fun v_11 e_v_11 => ?_)
    have r_v_11 := nR_43 (ic_12 h_S e_v_11) (by omega) (by omega)
    refine tot_let (fun v_12 e_v_12 => ?_)
    have q_v_12 := i_mulm (a := -999) (b := 999) (d := 199) e_v_12 (by omega) (by omega) (by omega) (by omega) (by decide)
    refine tot_let (fun v_13 e_v_13 => ?_)
    have q_v_13 := i_divk e_v_13 z3 (by decide)
    refine tot_let (fun v_14 e_v_14 => ?_)
    have q_v_14 := i_add e_v_14 (by omega) (by omega)
    unfold fr_sourcePlace_12_b45
    exact tot_some ⟨rfl, (show (-3988 ≤ v_14.toInt ∧ v_14.toInt ≤ 3988) from by omega)⟩
set_option maxHeartbeats 4000000 in
set_option maxRecDepth 10000 in
theorem lf_rawAt_12_b71 {P : Nat → Int32} (hP : PL P) {Q : Int32 × MS → Prop} (S : MS) (l2 : Int32) (l4 : Int32) (h_S : IC P S) (g0 : 0 ≤ l2.toInt ∧ l2.toInt ≤ 11) (g1 : 0 ≤ l4.toInt ∧ l4.toInt ≤ 199) (hx0 : ∀ (l5 : Int32), Tot (elet (35 + l2) fun v_35 => oif (inb v_35 131 = true) <| elet (S.2.1 10 v_35.toNatClampNeg) fun v_36 => elet (v_36 * l5) fun v_37 => some (v_37, S)) Q) : ∀ (n : Nat) (l5 : Int32) (l6 : Int32), (0 ≤ l6.toInt ∧ l6.toInt ≤ 6) → 6 - l6.toInt < (n : Int) → Tot (fr_rawAt_12_b71 n S l2 l4 l5 l6) Q := by
  have z0 : (25 : Int32).toInt = 25 := by decide
  have z1 : (0 : Int32).toInt = 0 := by decide
  have z2 : (Int32.ofInt (1) : Int32).toInt = 1 := by decide
  have z3 : (1 : Int32).toInt = 1 := by decide
  have p_5 := pl_5 hP
  have j_l2 := i_any l2
  have j_l4 := i_any l4
  intro n
  induction n with
  | zero =>
    intro l5 l6 g_l6 hm
    exfalso
    omega
  | succ n ih =>
    intro l5 l6 g_l6 hm
    unfold fr_rawAt_12_b71
    refine tot_let (fun v_34 e_v_34 => ?_)
    have q_v_34 := ic_p h_S e_v_34
    refine tot_if (fun c_62 => ?_) (fun c_62 => ?_)
    · replace c_62 := i_le c_62
      exact hx0 l5 
    · replace c_62 := i_nle c_62
      refine tot_let (fun v_38 e_v_38 => ?_)
      have q_v_38 := i_add e_v_38 (by omega) (by omega)
      refine tot_oif (i_inb (by omega) (by omega)) ?_
      refine tot_let (fun v_39 e_v_39 => ?_)
      have r_v_39 := nR_25 (ic_12 h_S e_v_39) (by omega) (by omega)
      refine tot_if (fun c_63 => ?_) (fun c_63 => ?_)
      · replace c_63 := i_eq c_63
        unfold fr_rawAt_12_b127
        refine tot_let (fun v_64 e_v_64 => ?_)
        have r_v_64 := i_any v_64
        refine tot_let (fun v_65 e_v_65 => ?_)
        have q_v_65 := i_add e_v_65 (by omega) (by omega)
        exact ih v_64 v_65 (by omega) (by omega)
      · replace c_63 := i_ne c_63
        refine tot_bindp (R := fun r_40 : Int32 => (-3988 ≤ r_40.toInt ∧ r_40.toInt ≤ 3988)) (sf_sourcePlace_12 hP S l6 0 l4 h_S (by omega) (by omega) (by omega)) (fun r_40 d_r_40 => ?_)
        replace d_r_40 : (-3988 ≤ r_40.toInt ∧ r_40.toInt ≤ 3988) := d_r_40
        refine tot_bindp (R := fun r_42 : Int32 => (-3988 ≤ r_42.toInt ∧ r_42.toInt ≤ 3988)) (sf_sourcePlace_12 hP S l6 1 l4 h_S (by omega) (by omega) (by omega)) (fun r_42 d_r_42 => ?_)
        replace d_r_42 : (-3988 ≤ r_42.toInt ∧ r_42.toInt ≤ 3988) := d_r_42
        refine tot_bindp (R := fun r_44 : Int32 => True) (sf_heardOf hP S l2 r_40 r_42 l6 l4 h_S (by omega) (by omega) (by omega) (by omega) (by omega) (by omega)) (fun r_44 d_r_44 => ?_)
        unfold fr_rawAt_12_b127
        refine tot_let (fun v_66 e_v_66 => ?_)
        have r_v_66 := i_any v_66
        refine tot_let (fun v_67 e_v_67 => ?_)
        have q_v_67 := i_add e_v_67 (by omega) (by omega)
        exact ih v_66 v_67 (by omega) (by omega)
set_option maxHeartbeats 4000000 in
set_option maxRecDepth 10000 in
theorem sf_rawAt_12 {P : Nat → Int32} (hP : PL P) (S : MS) (a1 : Int32) (a2 : Int32) (h_S : IC P S) (g0 : 0 ≤ a1.toInt ∧ a1.toInt ≤ 11) (g1 : 0 ≤ a2.toInt ∧ a2.toInt ≤ 199) : Tot (fr_rawAt_12 S a1 a2) (fun r => r.2 = S ∧ True) := by
  have z0 : (83 : Int32).toInt = 83 := by decide
  have z1 : (0 : Int32).toInt = 0 := by decide
  have z2 : ((-1) : Int32).toInt = -1 := by decide
  have z3 : (35 : Int32).toInt = 35 := by decide
  have z4 : (1 : Int32).toInt = 1 := by decide
  have p_5 := pl_5 hP
  have j_a1 := i_any a1
  have j_a2 := i_any a2
  unfold fr_rawAt_12
  refine tot_let (fun v_1 e_v_1 => ?_)
  have q_v_1 := i_add e_v_1 (by omega) (by omega)
  refine tot_oif (i_inb (by omega) (by omega)) ?_
  refine tot_let (fun v_2 e_v_2 => ?_)
  have q_v_2 := ic_p h_S e_v_2
  have r_v_2 := pr_83 hP v_1 (by omega) (by omega)
  refine tot_let (fun v_3 e_v_3 => ?_)
  have q_v_3 := i_sub e_v_3 (by omega) (by omega)
  refine tot_if (fun c_16 => ?_) (fun c_16 => ?_)
  · replace c_16 := i_le c_16
    refine tot_let (fun v_4 e_v_4 => ?_)
    have q_v_4 := i_eq e_v_4
    have r_v_4 := ic_21 h_S
    refine tot_if (fun c_17 => ?_) (fun c_17 => ?_)
    · replace c_17 := i_eq c_17
      refine lf_rawAt_12_b71 hP S a1 v_3 h_S (by omega) (by omega) ?_ 16384 0 0 (by omega) (by omega)
      · intro l_68
        have j_l_68 := i_any l_68
        refine tot_let (fun v__69 e_v__69 => ?_)
        have q_v__69 := i_add e_v__69 (by omega) (by omega)
        refine tot_oif (i_inb (by omega) (by omega)) ?_
        refine tot_let (fun v__70 e_v__70 => ?_)
        have q_v__70 := ic_p h_S e_v__70
        have r_v__70 := pr_35 hP v__69 (by omega) (by omega)
        refine tot_let (fun v__71 e_v__71 => ?_)
        have r_v__71 := i_any v__71
        exact tot_some ⟨rfl, trivial⟩
    · replace c_17 := i_ne c_17
      refine tot_let (fun v_5 e_v_5 => ?_)
      have q_v_5 := i_add e_v_5 (by omega) (by omega)
      refine tot_oif (i_inb (by omega) (by omega)) ?_
      refine tot_let (fun v_6 e_v_6 => ?_)
      have q_v_6 := ic_p h_S e_v_6
      have r_v_6 := pr_35 hP v_5 (by omega) (by omega)
      refine tot_let (fun v_7 e_v_7 => ?_)
      have q_v_7 := i_eq e_v_7
      have r_v_7 := ic_21 h_S
      refine tot_bindp (R := fun r_8 : Int32 => (-999 ≤ r_8.toInt ∧ r_8.toInt ≤ 15156)) (sf_centre hP S v_7 0 h_S (by omega) (by omega)) (fun r_8 d_r_8 => ?_)
      replace d_r_8 : (-999 ≤ r_8.toInt ∧ r_8.toInt ≤ 15156) := d_r_8
      refine tot_let (fun v_10 e_v_10 => ?_)
      have q_v_10 := i_eq e_v_10
      have r_v_10 := ic_21 h_S
      refine tot_bindp (R := fun r_11 : Int32 => (-999 ≤ r_11.toInt ∧ r_11.toInt ≤ 15156)) (sf_centre hP S v_10 1 h_S (by omega) (by omega)) (fun r_11 d_r_11 => ?_)
      replace d_r_11 : (-999 ≤ r_11.toInt ∧ r_11.toInt ≤ 15156) := d_r_11
      refine tot_bindp (R := fun r_13 : Int32 => True) (sf_heardOf hP S a1 r_8 r_11 0 v_3 h_S (by omega) (by omega) (by omega) (by omega) (by omega) (by omega)) (fun r_13 d_r_13 => ?_)
      refine tot_let (fun v_15 e_v_15 => ?_)
      have r_v_15 := i_any v_15
      exact tot_some ⟨rfl, trivial⟩
  · replace c_16 := i_nle c_16
    exact tot_some ⟨rfl, trivial⟩
set_option maxHeartbeats 4000000 in
set_option maxRecDepth 10000 in
theorem lf_filtered_b21 {P : Nat → Int32} (hP : PL P) {Q : Int32 × MS → Prop} (S : MS) (l1 : Int32) (h_S : IC P S) (g0 : 0 ≤ l1.toInt ∧ l1.toInt ≤ 199) (hx0 : ∀ (l2 : Int32), Tot (fr_filtered_b64 S l2) Q) : ∀ (n : Nat) (l2 : Int32) (l3 : Int32), (0 ≤ l3.toInt ∧ l3.toInt ≤ 5) → 5 - l3.toInt < (n : Int) → Tot (fr_filtered_b21 n S l1 l2 l3) Q := by
  have z0 : (78 : Int32).toInt = 78 := by decide
  have z1 : (Int32.ofInt (1) : Int32).toInt = 1 := by decide
  have p_77 := pl_77 hP
  have j_l1 := i_any l1
  intro n
  induction n with
  | zero =>
    intro l2 l3 g_l3 hm
    exfalso
    omega
  | succ n ih =>
    intro l2 l3 g_l3 hm
    unfold fr_filtered_b21
    refine tot_let (fun v_12 e_v_12 => ?_)
    have q_v_12 := ic_p h_S e_v_12
    refine tot_if (fun c_28 => ?_) (fun c_28 => ?_)
    · replace c_28 := i_le c_28
      exact hx0 l2 
    · replace c_28 := i_nle c_28
      refine tot_if (fun c_29 => ?_) (fun c_29 => ?_)
      · replace c_29 := i_lt c_29
        exact hx0 l2 
      · replace c_29 := i_nlt c_29
        refine tot_let (fun v_13 e_v_13 => ?_)
        have q_v_13 := i_add e_v_13 (by omega) (by omega)
        refine tot_oif (i_inb (by omega) (by omega)) ?_
        refine tot_let (fun v_14 e_v_14 => ?_)
        have q_v_14 := ic_p h_S e_v_14
        have r_v_14 := pr_78 hP v_13 (by omega) (by omega)
        refine tot_let (fun v_15 e_v_15 => ?_)
        have q_v_15 := i_sub e_v_15 (by omega) (by omega)
        refine tot_oif (i_inb (by omega) (by omega)) ?_
        refine tot_let (fun v_16 e_v_16 => ?_)
        have r_v_16 := i_any v_16
        refine tot_let (fun v_17 e_v_17 => ?_)
        have r_v_17 := i_any v_17
        refine tot_let (fun v_18 e_v_18 => ?_)
        have r_v_18 := i_any v_18
        refine tot_let (fun v_19 e_v_19 => ?_)
        have q_v_19 := i_add e_v_19 (by omega) (by omega)
        exact ih v_18 v_19 (by omega) (by omega)
set_option maxHeartbeats 4000000 in
set_option maxRecDepth 10000 in
theorem sf_filtered {P : Nat → Int32} (hP : PL P) (S : MS) (a0 : Int32) (h_S : IC P S) (g0 : 0 ≤ a0.toInt ∧ a0.toInt ≤ 199) : Tot (fr_filtered S a0) (fun r => r.2 = S ∧ True) := by
  have z0 : (0 : Int32).toInt = 0 := by decide
  have p_77 := pl_77 hP
  have j_a0 := i_any a0
  unfold fr_filtered
  refine tot_let (fun v_1 e_v_1 => ?_)
  have q_v_1 := ic_p h_S e_v_1
  refine tot_if (fun c_3 => ?_) (fun c_3 => ?_)
  · replace c_3 := i_eq c_3
    refine tot_oif (i_inb (by omega) (by omega)) ?_
    refine tot_let (fun v_2 e_v_2 => ?_)
    have r_v_2 := i_any v_2
    exact tot_some ⟨rfl, trivial⟩
  · replace c_3 := i_ne c_3
    refine lf_filtered_b21 hP S a0 h_S (by omega) ?_ 16384 0 0 (by omega) (by omega)
    · intro l_30
      have j_l_30 := i_any l_30
      unfold fr_filtered_b64
      exact tot_some ⟨rfl, trivial⟩
set_option maxHeartbeats 4000000 in
set_option maxRecDepth 10000 in
theorem sf_bounded {P : Nat → Int32} (hP : PL P) (S : MS) (a0 : Int32) (h_S : IC P S) : Tot (fr_bounded S a0) (fun r => r.2 = S ∧ (-9999 ≤ r.1.toInt ∧ r.1.toInt ≤ 9999)) := by
  have p_3 := pl_3 hP
  have j_a0 := i_any a0
  unfold fr_bounded
  refine tot_let (fun v_1 e_v_1 => ?_)
  have q_v_1 := ic_p h_S e_v_1
  refine tot_let (fun v_2 e_v_2 => ?_)
  have q_v_2 := i_neg e_v_2 (by omega)
  refine tot_let (fun v_3 e_v_3 => ?_)
  have q_v_3 := ic_p h_S e_v_3
  refine tot_let (fun v_4 e_v_4 => ?_)
  have q_v_4 := i_ilt e_v_4
  refine tot_let (fun v_5 e_v_5 => ?_)
  have q_v_5 := i_ilt e_v_5
  exact tot_some ⟨rfl, (show (-9999 ≤ v_5.toInt ∧ v_5.toInt ≤ 9999) from by omega)⟩
set_option maxHeartbeats 4000000 in
set_option maxRecDepth 10000 in
theorem lf_records_12_b18 {P : Nat → Int32} (hP : PL P) {Q : MS → Prop} {k6 : MS → Int32 → Option (MS)} (l2 : Int32) (g0 : 0 ≤ l2.toInt ∧ l2.toInt ≤ 11) (hx0 : ∀ (S : MS), (IC P S) → Tot (fr_records_12_b49 k6 16384 S l2 0) Q) : ∀ (n : Nat) (S : MS) (l3 : Int32), (IC P S) → (0 ≤ l3.toInt ∧ l3.toInt ≤ 200) → 200 - l3.toInt < (n : Int) → Tot (fr_records_12_b18 k6 n S l2 l3) Q := by
  have z0 : (Int32.ofInt (1) : Int32).toInt = 1 := by decide
  have p_2 := pl_2 hP
  have j_l2 := i_any l2
  intro n
  induction n with
  | zero =>
    intro S l3 h_S g_l3 hm
    exfalso
    omega
  | succ n ih =>
    intro S l3 h_S g_l3 hm
    unfold fr_records_12_b18
    refine tot_let (fun v_75 e_v_75 => ?_)
    have q_v_75 := ic_p h_S e_v_75
    refine tot_if (fun c_98 => ?_) (fun c_98 => ?_)
    · replace c_98 := i_le c_98
      exact hx0 S h_S
    · replace c_98 := i_nle c_98
      refine tot_bindp (R := fun r_76 : Int32 => True) (sf_rawAt_12 hP S l2 l3 h_S (by omega) (by omega)) (fun r_76 d_r_76 => ?_)
      refine tot_oif (i_inb (by omega) (by omega)) ?_
      refine tot_let (fun S_78 e_S_78 => ?_)
      have h_S_78 : IC P S_78 := by rw [e_S_78]; exact ic_mf23 h_S _
      refine tot_let (fun v_79 e_v_79 => ?_)
      have q_v_79 := i_add e_v_79 (by omega) (by omega)
      exact ih S_78 v_79 h_S_78 (by omega) (by omega)
set_option maxHeartbeats 4000000 in
set_option maxRecDepth 10000 in
theorem lf_records_12_b49 {P : Nat → Int32} (hP : PL P) {Q : MS → Prop} {k6 : MS → Int32 → Option (MS)} (l2 : Int32) (g0 : 0 ≤ l2.toInt ∧ l2.toInt ≤ 11) (hx0 : ∀ (S : MS), (IC P S) → Tot (elet (l2 + Int32.ofInt (1)) fun v_101 => k6 S v_101) Q) : ∀ (n : Nat) (S : MS) (l3 : Int32), (IC P S) → (0 ≤ l3.toInt ∧ l3.toInt ≤ 200) → 200 - l3.toInt < (n : Int) → Tot (fr_records_12_b49 k6 n S l2 l3) Q := by
  have z0 : (200 : Int32).toInt = 200 := by decide
  have z1 : (55 : Int32).toInt = 55 := by decide
  have z2 : (Int32.ofInt (1) : Int32).toInt = 1 := by decide
  have p_2 := pl_2 hP
  have j_l2 := i_any l2
  intro n
  induction n with
  | zero =>
    intro S l3 h_S g_l3 hm
    exfalso
    omega
  | succ n ih =>
    intro S l3 h_S g_l3 hm
    unfold fr_records_12_b49
    refine tot_let (fun v_100 e_v_100 => ?_)
    have q_v_100 := ic_p h_S e_v_100
    refine tot_if (fun c_122 => ?_) (fun c_122 => ?_)
    · replace c_122 := i_le c_122
      exact hx0 S h_S
    · replace c_122 := i_nle c_122
      refine tot_let (fun v_102 e_v_102 => ?_)
      have q_v_102 := i_mulk e_v_102 z0 (by omega) (by omega)
      refine tot_let (fun v_103 e_v_103 => ?_)
      have q_v_103 := i_add e_v_103 (by omega) (by omega)
      refine tot_let (fun v_104 e_v_104 => ?_)
      have q_v_104 := i_add e_v_104 (by omega) (by omega)
      refine tot_bindp (R := fun r_105 : Int32 => True) (sf_filtered hP S l3 h_S (by omega)) (fun r_105 d_r_105 => ?_)
      refine tot_bindp (R := fun r_107 : Int32 => (-9999 ≤ r_107.toInt ∧ r_107.toInt ≤ 9999)) (sf_bounded hP S r_105 h_S ) (fun r_107 d_r_107 => ?_)
      replace d_r_107 : (-9999 ≤ r_107.toInt ∧ r_107.toInt ≤ 9999) := d_r_107
      refine tot_oif (i_inb (by omega) (by omega)) ?_
      refine tot_let (fun S_109 e_S_109 => ?_)
      have h_S_109 : IC P S_109 := by rw [e_S_109]; exact ic_mf12 h_S (nR_w (by omega) (by omega))
      refine tot_let (fun v_110 e_v_110 => ?_)
      have q_v_110 := i_add e_v_110 (by omega) (by omega)
      exact ih S_109 v_110 h_S_109 (by omega) (by omega)
set_option maxHeartbeats 4000000 in
set_option maxRecDepth 10000 in
theorem lf_records_12_b6 {P : Nat → Int32} (hP : PL P) {Q : MS → Prop} (hx0 : ∀ (S : MS), (IC P S) → Tot (some (S)) Q) : ∀ (n : Nat) (S : MS) (l2 : Int32), (IC P S) → (0 ≤ l2.toInt ∧ l2.toInt ≤ 12) → 12 - l2.toInt < (n : Int) → Tot (fr_records_12_b6 n S l2) Q := by
  have z0 : (0 : Int32).toInt = 0 := by decide
  have z1 : (Int32.ofInt (1) : Int32).toInt = 1 := by decide
  have p_4 := pl_4 hP
  intro n
  induction n with
  | zero =>
    intro S l2 h_S g_l2 hm
    exfalso
    omega
  | succ n ih =>
    intro S l2 h_S g_l2 hm
    unfold fr_records_12_b6
    refine tot_let (fun v_52 e_v_52 => ?_)
    have q_v_52 := ic_p h_S e_v_52
    refine tot_if (fun c_74 => ?_) (fun c_74 => ?_)
    · replace c_74 := i_le c_74
      exact hx0 S h_S
    · replace c_74 := i_nle c_74
      refine lf_records_12_b18 hP l2 (by omega) ?_ 16384 S 0 h_S (by omega) (by omega)
      · intro S_99 h_S_99
        refine lf_records_12_b49 hP l2 (by omega) ?_ 16384 S_99 0 h_S_99 (by omega) (by omega)
        · intro S_123 h_S_123
          refine tot_let (fun v__124 e_v__124 => ?_)
          have q_v__124 := i_add e_v__124 (by omega) (by omega)
          exact ih S_123 v__124 h_S_123 (by omega) (by omega)
set_option maxHeartbeats 4000000 in
set_option maxRecDepth 10000 in
theorem sf_records_12 {P : Nat → Int32} (hP : PL P) (S : MS) (h_S : IC P S) : Tot (fr_records_12 S) (fun S1 => IC P S1 ∧ True) := by
  have z0 : (0 : Int32).toInt = 0 := by decide
  unfold fr_records_12
  refine tot_let (fun S_1 e_S_1 => ?_)
  have h_S_1 : IC P S_1 := by rw [e_S_1]; exact ic_mf12 h_S (nR_0 _)
  refine lf_records_12_b6 hP  ?_ 16384 S_1 0 h_S_1 (by omega) (by omega)
  · intro S_125 h_S_125
    exact tot_some ⟨h_S_125, trivial⟩
set_option maxHeartbeats 4000000 in
set_option maxRecDepth 10000 in
theorem lf_laysCell_b2 {P : Nat → Int32} (hP : PL P) {Q : MS → Prop} (l1 : Int32) (g0 : 0 ≤ l1.toInt ∧ l1.toInt ≤ 143) (hx0 : ∀ (S : MS), (IC P S) → Tot (some (S)) Q) : ∀ (n : Nat) (S : MS) (l2 : Int32), (IC P S) → (0 ≤ l2.toInt ∧ l2.toInt ≤ 12) → 12 - l2.toInt < (n : Int) → Tot (fr_laysCell_b2 n S l1 l2) Q := by
  have z0 : (12 : Int32).toInt = 12 := by decide
  have z1 : (Int32.ofInt (1) : Int32).toInt = 1 := by decide
  have p_4 := pl_4 hP
  have j_l1 := i_any l1
  intro n
  induction n with
  | zero =>
    intro S l2 h_S g_l2 hm
    exfalso
    omega
  | succ n ih =>
    intro S l2 h_S g_l2 hm
    unfold fr_laysCell_b2
    refine tot_let (fun v_7 e_v_7 => ?_)
    have q_v_7 := ic_p h_S e_v_7
    refine tot_if (fun c_19 => ?_) (fun c_19 => ?_)
    · replace c_19 := i_le c_19
      exact hx0 S h_S
    · replace c_19 := i_nle c_19
      refine tot_let (fun v_8 e_v_8 => ?_)
      have q_v_8 := i_mulk e_v_8 z0 (by omega) (by omega)
      refine tot_let (fun v_9 e_v_9 => ?_)
      have q_v_9 := i_add e_v_9 (by omega) (by omega)
      refine tot_oif (i_inb (by omega) (by omega)) ?_
      refine tot_let (fun v_10 e_v_10 => ?_)
      have r_v_10 := ic_17 h_S e_v_10
      refine tot_oif (i_inb (by omega) (by omega)) ?_
      refine tot_let (fun S_11 e_S_11 => ?_)
      have h_S_11 : IC P S_11 := by rw [e_S_11]; exact ic_mf24 h_S (by omega)
      refine tot_let (fun v_12 e_v_12 => ?_)
      have q_v_12 := i_add e_v_12 (by omega) (by omega)
      exact ih S_11 v_12 h_S_11 (by omega) (by omega)
set_option maxHeartbeats 4000000 in
set_option maxRecDepth 10000 in
theorem sf_laysCell {P : Nat → Int32} (hP : PL P) (S : MS) (a0 : Int32) (h_S : IC P S) (g0 : 0 ≤ a0.toInt ∧ a0.toInt ≤ 143) : Tot (fr_laysCell S a0) (fun S1 => IC P S1 ∧ True) := by
  have z0 : (0 : Int32).toInt = 0 := by decide
  have j_a0 := i_any a0
  unfold fr_laysCell
  refine lf_laysCell_b2 hP a0 (by omega) ?_ 16384 S 0 h_S (by omega) (by omega)
  · intro S_20 h_S_20
    exact tot_some ⟨h_S_20, trivial⟩
set_option maxHeartbeats 4000000 in
set_option maxRecDepth 10000 in
theorem lf_laysPoint_b2 {P : Nat → Int32} (hP : PL P) {Q : MS → Prop} (l1 : Int32) (l2 : Int32) (g0 : -9999 ≤ l1.toInt ∧ l1.toInt ≤ 17144) (g1 : -9999 ≤ l2.toInt ∧ l2.toInt ≤ 17144) (hx0 : ∀ (S : MS), (IC P S) → Tot (some (S)) Q) : ∀ (n : Nat) (S : MS) (l3 : Int32), (IC P S) → (0 ≤ l3.toInt ∧ l3.toInt ≤ 12) → 12 - l3.toInt < (n : Int) → Tot (fr_laysPoint_b2 n S l1 l2 l3) Q := by
  have z0 : (Int32.ofInt (1) : Int32).toInt = 1 := by decide
  have p_4 := pl_4 hP
  have j_l1 := i_any l1
  have j_l2 := i_any l2
  intro n
  induction n with
  | zero =>
    intro S l3 h_S g_l3 hm
    exfalso
    omega
  | succ n ih =>
    intro S l3 h_S g_l3 hm
    unfold fr_laysPoint_b2
    refine tot_let (fun v_6 e_v_6 => ?_)
    have q_v_6 := ic_p h_S e_v_6
    refine tot_if (fun c_16 => ?_) (fun c_16 => ?_)
    · replace c_16 := i_le c_16
      exact hx0 S h_S
    · replace c_16 := i_nle c_16
      refine tot_bindp (R := fun r_7 : Int32 => (0 ≤ r_7.toInt ∧ r_7.toInt ≤ 65535)) (sf_delayFrom hP S l3 l1 l2 h_S (by omega) (by omega) (by omega)) (fun r_7 d_r_7 => ?_)
      replace d_r_7 : (0 ≤ r_7.toInt ∧ r_7.toInt ≤ 65535) := d_r_7
      refine tot_oif (i_inb (by omega) (by omega)) ?_
      refine tot_let (fun S_9 e_S_9 => ?_)
      have h_S_9 : IC P S_9 := by rw [e_S_9]; exact ic_mf24 h_S (by omega)
      refine tot_let (fun v_10 e_v_10 => ?_)
      have q_v_10 := i_add e_v_10 (by omega) (by omega)
      exact ih S_9 v_10 h_S_9 (by omega) (by omega)
set_option maxHeartbeats 4000000 in
set_option maxRecDepth 10000 in
theorem sf_laysPoint {P : Nat → Int32} (hP : PL P) (S : MS) (a0 : Int32) (a1 : Int32) (h_S : IC P S) (g0 : -9999 ≤ a0.toInt ∧ a0.toInt ≤ 17144) (g1 : -9999 ≤ a1.toInt ∧ a1.toInt ≤ 17144) : Tot (fr_laysPoint S a0 a1) (fun S1 => IC P S1 ∧ True) := by
  have z0 : (0 : Int32).toInt = 0 := by decide
  have j_a0 := i_any a0
  have j_a1 := i_any a1
  unfold fr_laysPoint
  refine lf_laysPoint_b2 hP a0 a1 (by omega) (by omega) ?_ 16384 S 0 h_S (by omega) (by omega)
  · intro S_17 h_S_17
    exact tot_some ⟨h_S_17, trivial⟩
set_option maxHeartbeats 4000000 in
set_option maxRecDepth 10000 in
theorem sf_mayAsk {P : Nat → Int32} (hP : PL P) (S : MS) (a0 : Int32) (h_S : IC P S) (g0 : 0 ≤ a0.toInt ∧ a0.toInt ≤ 1) : Tot (fr_mayAsk S a0) (fun r => IC P r.2 ∧ (r.1.toInt = 0 ∨ r.1.toInt = 1 ∧ ¬ a0.toInt = 0)) := by
  have z0 : (0 : Int32).toInt = 0 := by decide
  have z1 : (1 : Int32).toInt = 1 := by decide
  have z2 : (2 : Int32).toInt = 2 := by decide
  have j_a0 := i_any a0
  unfold fr_mayAsk
  refine tot_let (fun v_1 e_v_1 => ?_)
  have q_v_1 := i_eq e_v_1
  have r_v_1 := i_any v_1
  refine tot_if (fun c_2 => ?_) (fun c_2 => ?_)
  · replace c_2 := i_eq c_2
    unfold fr_mayAsk_b21
    refine tot_let (fun S_3 e_S_3 => ?_)
    have h_S_3 : IC P S_3 := by rw [e_S_3]; exact ic_mi0 h_S _
    have f_S_3_0 : (S_3.1 0).toInt = (1 : Int32).toInt := by rw [e_S_3]; rfl
    refine tot_let (fun v_4 e_v_4 => ?_)
    have q_v_4 := i_eq e_v_4
    have r_v_4 := i_any v_4
    refine tot_if (fun c_5 => ?_) (fun c_5 => ?_)
    · replace c_5 := i_eq c_5
      exfalso
      omega
    · replace c_5 := i_ne c_5
      unfold fr_mayAsk_b36
      refine tot_oif (i_b01 (by omega)) ?_
      exact tot_some ⟨h_S_3, (show ((0 : Int32).toInt = 0 ∨ (0 : Int32).toInt = 1 ∧ ¬ a0.toInt = 0) from by omega)⟩
  · replace c_2 := i_ne c_2
    refine tot_if (fun c_6 => ?_) (fun c_6 => ?_)
    · replace c_6 := i_eq c_6
      unfold fr_mayAsk_b21
      refine tot_let (fun S_7 e_S_7 => ?_)
      have h_S_7 : IC P S_7 := by rw [e_S_7]; exact ic_mi0 h_S _
      have f_S_7_0 : (S_7.1 0).toInt = (2 : Int32).toInt := by rw [e_S_7]; rfl
      refine tot_let (fun v_8 e_v_8 => ?_)
      have q_v_8 := i_eq e_v_8
      have r_v_8 := i_any v_8
      refine tot_if (fun c_9 => ?_) (fun c_9 => ?_)
      · replace c_9 := i_eq c_9
        exfalso
        omega
      · replace c_9 := i_ne c_9
        unfold fr_mayAsk_b36
        refine tot_oif (i_b01 (by omega)) ?_
        exact tot_some ⟨h_S_7, (show ((0 : Int32).toInt = 0 ∨ (0 : Int32).toInt = 1 ∧ ¬ a0.toInt = 0) from by omega)⟩
    · replace c_6 := i_ne c_6
      unfold fr_mayAsk_b21
      refine tot_let (fun S_10 e_S_10 => ?_)
      have h_S_10 : IC P S_10 := by rw [e_S_10]; exact ic_mi0 h_S _
      have f_S_10_0 : (S_10.1 0).toInt = (0 : Int32).toInt := by rw [e_S_10]; rfl
      refine tot_let (fun v_11 e_v_11 => ?_)
      have q_v_11 := i_eq e_v_11
      have r_v_11 := i_any v_11
      refine tot_if (fun c_12 => ?_) (fun c_12 => ?_)
      · replace c_12 := i_eq c_12
        unfold fr_mayAsk_b36
        refine tot_oif (i_b01 (by omega)) ?_
        exact tot_some ⟨h_S_10, (show ((1 : Int32).toInt = 0 ∨ (1 : Int32).toInt = 1 ∧ ¬ a0.toInt = 0) from by omega)⟩
      · replace c_12 := i_ne c_12
        exfalso
        omega
set_option maxHeartbeats 4000000 in
set_option maxRecDepth 10000 in
theorem sf_told {P : Nat → Int32} (hP : PL P) (S : MS) (a0 : Int32) (h_S : IC P S) (g0 : 0 ≤ a0.toInt ∧ a0.toInt ≤ 200) : Tot (fr_told S a0) (fun r => IC P r.2 ∧ (0 ≤ r.1.toInt ∧ r.1.toInt ≤ 200)) := by
  have z0 : (0 : Int32).toInt = 0 := by decide
  have j_a0 := i_any a0
  unfold fr_told
  refine tot_let (fun S_1 e_S_1 => ?_)
  have h_S_1 : IC P S_1 := by rw [e_S_1]; exact ic_mi0 h_S _
  refine tot_let (fun v_2 e_v_2 => ?_)
  have q_v_2 := i_eq e_v_2
  have r_v_2 := i_any v_2
  refine tot_if (fun c_3 => ?_) (fun c_3 => ?_)
  · replace c_3 := i_eq c_3
    unfold fr_told_b17
    exact tot_some ⟨h_S_1, (show (0 ≤ (0 : Int32).toInt ∧ (0 : Int32).toInt ≤ 200) from by omega)⟩
  · replace c_3 := i_ne c_3
    unfold fr_told_b17
    exact tot_some ⟨h_S_1, (show (0 ≤ a0.toInt ∧ a0.toInt ≤ 200) from by omega)⟩
set_option maxHeartbeats 4000000 in
set_option maxRecDepth 10000 in
theorem sf_isMic {P : Nat → Int32} (hP : PL P) (S : MS) (a0 : Int32) (h_S : IC P S) : Tot (fr_isMic S a0) (fun r => r.2 = S ∧ (r.1.toInt = 0 ∨ r.1.toInt = 1 ∧ 0 ≤ a0.toInt ∧ a0.toInt < (P 4).toInt)) := by
  have z0 : (1 : Int32).toInt = 1 := by decide
  have z1 : (0 : Int32).toInt = 0 := by decide
  have p_4 := pl_4 hP
  have j_a0 := i_any a0
  unfold fr_isMic
  refine tot_let (fun v_1 e_v_1 => ?_)
  have q_v_1 := ic_p h_S e_v_1
  refine tot_let (fun v_2 e_v_2 => ?_)
  have q_v_2 := i_sub e_v_2 (by omega) (by omega)
  refine tot_bind (sf_in hP a0 0 v_2  ) (fun r_3 d_r_3 => ?_)
  replace d_r_3 : (r_3.toInt = 0 ∧ (a0.toInt < (0 : Int32).toInt ∨ v_2.toInt < a0.toInt) ∨ r_3.toInt = 1 ∧ (0 : Int32).toInt ≤ a0.toInt ∧ a0.toInt ≤ v_2.toInt) := d_r_3
  refine tot_oif (i_b01 (by omega)) ?_
  exact tot_some ⟨rfl, (show (r_3.toInt = 0 ∨ r_3.toInt = 1 ∧ 0 ≤ a0.toInt ∧ a0.toInt < (P 4).toInt) from by omega)⟩
set_option maxHeartbeats 4000000 in
set_option maxRecDepth 10000 in
theorem sf_isCell {P : Nat → Int32} (hP : PL P) (S : MS) (a0 : Int32) (h_S : IC P S) : Tot (fr_isCell S a0) (fun r => r.2 = S ∧ (r.1.toInt = 0 ∨ r.1.toInt = 1 ∧ (0 ≤ a0.toInt ∧ a0.toInt ≤ 143) ∧ a0.toInt < (P 9).toInt * (P 10).toInt)) := by
  have z0 : (1 : Int32).toInt = 1 := by decide
  have z1 : (0 : Int32).toInt = 0 := by decide
  have p_9 := pl_9 hP
  have p_10 := pl_10 hP
  have p_cells := pl_cells hP
  have j_a0 := i_any a0
  unfold fr_isCell
  refine tot_bindp (R := fun r_1 : Int32 => ((1 ≤ r_1.toInt ∧ r_1.toInt ≤ 144) ∧ r_1.toInt = (P 9).toInt * (P 10).toInt)) (sf_cellCount hP S h_S ) (fun r_1 d_r_1 => ?_)
  replace d_r_1 : ((1 ≤ r_1.toInt ∧ r_1.toInt ≤ 144) ∧ r_1.toInt = (P 9).toInt * (P 10).toInt) := d_r_1
  refine tot_let (fun v_3 e_v_3 => ?_)
  have q_v_3 := i_sub e_v_3 (by omega) (by omega)
  refine tot_bind (sf_in hP a0 0 v_3  ) (fun r_4 d_r_4 => ?_)
  replace d_r_4 : (r_4.toInt = 0 ∧ (a0.toInt < (0 : Int32).toInt ∨ v_3.toInt < a0.toInt) ∨ r_4.toInt = 1 ∧ (0 : Int32).toInt ≤ a0.toInt ∧ a0.toInt ≤ v_3.toInt) := d_r_4
  refine tot_oif (i_b01 (by omega)) ?_
  exact tot_some ⟨rfl, (show (r_4.toInt = 0 ∨ r_4.toInt = 1 ∧ (0 ≤ a0.toInt ∧ a0.toInt ≤ 143) ∧ a0.toInt < (P 9).toInt * (P 10).toInt) from by omega)⟩
set_option maxHeartbeats 4000000 in
set_option maxRecDepth 10000 in
theorem sf_isSource {P : Nat → Int32} (hP : PL P) (S : MS) (a0 : Int32) (h_S : IC P S) : Tot (fr_isSource S a0) (fun r => r.2 = S ∧ (r.1.toInt = 0 ∨ r.1.toInt = 1 ∧ 0 ≤ a0.toInt ∧ a0.toInt < (P 5).toInt)) := by
  have z0 : (1 : Int32).toInt = 1 := by decide
  have z1 : (0 : Int32).toInt = 0 := by decide
  have p_5 := pl_5 hP
  have j_a0 := i_any a0
  unfold fr_isSource
  refine tot_let (fun v_1 e_v_1 => ?_)
  have q_v_1 := ic_p h_S e_v_1
  refine tot_let (fun v_2 e_v_2 => ?_)
  have q_v_2 := i_sub e_v_2 (by omega) (by omega)
  refine tot_bind (sf_in hP a0 0 v_2  ) (fun r_3 d_r_3 => ?_)
  replace d_r_3 : (r_3.toInt = 0 ∧ (a0.toInt < (0 : Int32).toInt ∨ v_2.toInt < a0.toInt) ∨ r_3.toInt = 1 ∧ (0 : Int32).toInt ≤ a0.toInt ∧ a0.toInt ≤ v_2.toInt) := d_r_3
  refine tot_oif (i_b01 (by omega)) ?_
  exact tot_some ⟨rfl, (show (r_3.toInt = 0 ∨ r_3.toInt = 1 ∧ 0 ≤ a0.toInt ∧ a0.toInt < (P 5).toInt) from by omega)⟩
set_option maxHeartbeats 4000000 in
set_option maxRecDepth 10000 in
theorem sf_isTime {P : Nat → Int32} (hP : PL P) (S : MS) (a0 : Int32) (h_S : IC P S) : Tot (fr_isTime S a0) (fun r => r.2 = S ∧ (r.1.toInt = 0 ∨ r.1.toInt = 1 ∧ 0 ≤ a0.toInt ∧ a0.toInt < (P 2).toInt)) := by
  have z0 : (1 : Int32).toInt = 1 := by decide
  have z1 : (0 : Int32).toInt = 0 := by decide
  have p_2 := pl_2 hP
  have j_a0 := i_any a0
  unfold fr_isTime
  refine tot_let (fun v_1 e_v_1 => ?_)
  have q_v_1 := ic_p h_S e_v_1
  refine tot_let (fun v_2 e_v_2 => ?_)
  have q_v_2 := i_sub e_v_2 (by omega) (by omega)
  refine tot_bind (sf_in hP a0 0 v_2  ) (fun r_3 d_r_3 => ?_)
  replace d_r_3 : (r_3.toInt = 0 ∧ (a0.toInt < (0 : Int32).toInt ∨ v_2.toInt < a0.toInt) ∨ r_3.toInt = 1 ∧ (0 : Int32).toInt ≤ a0.toInt ∧ a0.toInt ≤ v_2.toInt) := d_r_3
  refine tot_oif (i_b01 (by omega)) ?_
  exact tot_some ⟨rfl, (show (r_3.toInt = 0 ∨ r_3.toInt = 1 ∧ 0 ≤ a0.toInt ∧ a0.toInt < (P 2).toInt) from by omega)⟩
set_option maxHeartbeats 4000000 in
set_option maxRecDepth 10000 in
theorem sf_isPeriod {P : Nat → Int32} (hP : PL P) (a0 : Int32) : Tot (fr_isPeriod a0) (fun r => (r.toInt = 0 ∨ r.toInt = 1 ∧ 2 ≤ a0.toInt ∧ a0.toInt ≤ 99)) := by
  have z0 : (2 : Int32).toInt = 2 := by decide
  have z1 : (99 : Int32).toInt = 99 := by decide
  have j_a0 := i_any a0
  unfold fr_isPeriod
  refine tot_bind (sf_in hP a0 2 99  ) (fun r_1 d_r_1 => ?_)
  replace d_r_1 : (r_1.toInt = 0 ∧ (a0.toInt < (2 : Int32).toInt ∨ (99 : Int32).toInt < a0.toInt) ∨ r_1.toInt = 1 ∧ (2 : Int32).toInt ≤ a0.toInt ∧ a0.toInt ≤ (99 : Int32).toInt) := d_r_1
  refine tot_oif (i_b01 (by omega)) ?_
  exact tot_some (show (r_1.toInt = 0 ∨ r_1.toInt = 1 ∧ 2 ≤ a0.toInt ∧ a0.toInt ≤ 99) from by omega)
set_option maxHeartbeats 4000000 in
set_option maxRecDepth 10000 in
theorem sf_mics {P : Nat → Int32} (hP : PL P) (S : MS) (h_S : IC P S) : Tot (fr_mics S) (fun r => IC P r.2 ∧ (0 ≤ r.1.toInt ∧ r.1.toInt ≤ 200)) := by
  have p_4 := pl_4 hP
  unfold fr_mics
  refine tot_let (fun v_1 e_v_1 => ?_)
  have q_v_1 := ic_p h_S e_v_1
  refine tot_bind2 (sf_told hP S v_1 h_S (by omega)) (fun r_2 S_3 d_r_2 => ?_)
  have h_S_3 : IC P S_3 := d_r_2.1
  replace d_r_2 : (0 ≤ r_2.toInt ∧ r_2.toInt ≤ 200) := d_r_2.2
  exact tot_some ⟨h_S_3, (show (0 ≤ r_2.toInt ∧ r_2.toInt ≤ 200) from by omega)⟩
set_option maxHeartbeats 4000000 in
set_option maxRecDepth 10000 in
theorem sf_micAt {P : Nat → Int32} (hP : PL P) (S : MS) (a0 : Int32) (a1 : Int32) (h_S : IC P S) : Tot (fr_micAt S a0 a1) (fun r => IC P r.2 ∧ (-500 ≤ r.1.toInt ∧ r.1.toInt ≤ 500)) := by
  have z0 : (0 : Int32).toInt = 0 := by decide
  have z1 : (11 : Int32).toInt = 11 := by decide
  have z2 : (1 : Int32).toInt = 1 := by decide
  have z3 : (23 : Int32).toInt = 23 := by decide
  have z4 : (2 : Int32).toInt = 2 := by decide
  have z5 : (35 : Int32).toInt = 35 := by decide
  have z6 : (3 : Int32).toInt = 3 := by decide
  have z7 : (13 : Int32).toInt = 13 := by decide
  have p_4 := pl_4 hP
  have j_a0 := i_any a0
  have j_a1 := i_any a1
  unfold fr_micAt
  refine tot_bindp (R := fun r_1 : Int32 => (r_1.toInt = 0 ∨ r_1.toInt = 1 ∧ 0 ≤ a0.toInt ∧ a0.toInt < (P 4).toInt)) (sf_isMic hP S a0 h_S ) (fun r_1 d_r_1 => ?_)
  replace d_r_1 : (r_1.toInt = 0 ∨ r_1.toInt = 1 ∧ 0 ≤ a0.toInt ∧ a0.toInt < (P 4).toInt) := d_r_1
  refine tot_bind2 (sf_mayAsk hP S r_1 h_S (by omega)) (fun r_3 S_4 d_r_3 => ?_)
  have h_S_4 : IC P S_4 := d_r_3.1
  replace d_r_3 : (r_3.toInt = 0 ∨ r_3.toInt = 1 ∧ ¬ r_1.toInt = 0) := d_r_3.2
  refine tot_if (fun c_15 => ?_) (fun c_15 => ?_)
  · replace c_15 := i_eq c_15
    exact tot_some ⟨h_S_4, (show (-500 ≤ (0 : Int32).toInt ∧ (0 : Int32).toInt ≤ 500) from by omega)⟩
  · replace c_15 := i_ne c_15
    refine tot_if (fun c_16 => ?_) (fun c_16 => ?_)
    · replace c_16 := i_eq c_16
      refine tot_let (fun v_5 e_v_5 => ?_)
      have q_v_5 := i_add e_v_5 (by omega) (by omega)
      refine tot_oif (i_inb (by omega) (by omega)) ?_
      refine tot_let (fun v_6 e_v_6 => ?_)
      have q_v_6 := ic_p h_S_4 e_v_6
      have r_v_6 := pr_11 hP v_5 (by omega) (by omega)
      exact tot_some ⟨h_S_4, (show (-500 ≤ v_6.toInt ∧ v_6.toInt ≤ 500) from by omega)⟩
    · replace c_16 := i_ne c_16
      refine tot_if (fun c_17 => ?_) (fun c_17 => ?_)
      · replace c_17 := i_eq c_17
        refine tot_let (fun v_7 e_v_7 => ?_)
        have q_v_7 := i_add e_v_7 (by omega) (by omega)
        refine tot_oif (i_inb (by omega) (by omega)) ?_
        refine tot_let (fun v_8 e_v_8 => ?_)
        have q_v_8 := ic_p h_S_4 e_v_8
        have r_v_8 := pr_11 hP v_7 (by omega) (by omega)
        exact tot_some ⟨h_S_4, (show (-500 ≤ v_8.toInt ∧ v_8.toInt ≤ 500) from by omega)⟩
      · replace c_17 := i_ne c_17
        refine tot_if (fun c_18 => ?_) (fun c_18 => ?_)
        · replace c_18 := i_eq c_18
          refine tot_let (fun v_9 e_v_9 => ?_)
          have q_v_9 := i_add e_v_9 (by omega) (by omega)
          refine tot_oif (i_inb (by omega) (by omega)) ?_
          refine tot_let (fun v_10 e_v_10 => ?_)
          have q_v_10 := ic_p h_S_4 e_v_10
          have r_v_10 := pr_35 hP v_9 (by omega) (by omega)
          exact tot_some ⟨h_S_4, (show (-500 ≤ v_10.toInt ∧ v_10.toInt ≤ 500) from by omega)⟩
        · replace c_18 := i_ne c_18
          refine tot_if (fun c_19 => ?_) (fun c_19 => ?_)
          · replace c_19 := i_eq c_19
            refine tot_let (fun v_11 e_v_11 => ?_)
            have q_v_11 := i_add e_v_11 (by omega) (by omega)
            refine tot_oif (i_inb (by omega) (by omega)) ?_
            refine tot_let (fun v_12 e_v_12 => ?_)
            have r_v_12 := nR_13 (ic_12 h_S_4 e_v_12) (by omega) (by omega)
            exact tot_some ⟨h_S_4, (show (-500 ≤ v_12.toInt ∧ v_12.toInt ≤ 500) from by omega)⟩
          · replace c_19 := i_ne c_19
            refine tot_bind2 (sf_throwsAt hP S_4 3 h_S_4 ) (fun r_13 S_14 d_r_13 => ?_)
            have h_S_14 : IC P S_14 := d_r_13.1
            replace d_r_13 : (0 ≤ r_13.toInt ∧ r_13.toInt ≤ 0) := d_r_13.2
            exact tot_some ⟨h_S_14, (show (-500 ≤ r_13.toInt ∧ r_13.toInt ≤ 500) from by omega)⟩
set_option maxHeartbeats 4000000 in
set_option maxRecDepth 10000 in
theorem sf_hears_12 {P : Nat → Int32} (hP : PL P) (S : MS) (a1 : Int32) (h_S : IC P S) (g0 : 0 ≤ a1.toInt ∧ a1.toInt ≤ 11) : Tot (fr_hears_12 S a1) (fun r => r.2 = S ∧ (0 ≤ r.1.toInt ∧ r.1.toInt ≤ 1)) := by
  have z0 : (1 : Int32).toInt = 1 := by decide
  have z1 : (0 : Int32).toInt = 0 := by decide
  have j_a1 := i_any a1
  unfold fr_hears_12
  refine tot_let (fun v_1 e_v_1 => ?_)
  have q_v_1 := i_add e_v_1 (by omega) (by omega)
  refine tot_oif (i_inb (by omega) (by omega)) ?_
  refine tot_let (fun v_2 e_v_2 => ?_)
  have r_v_2 := nR_1 (ic_12 h_S e_v_2) (by omega) (by omega)
  refine tot_if (fun c_3 => ?_) (fun c_3 => ?_)
  · replace c_3 := i_eq c_3
    unfold fr_hears_12_b13
    refine tot_oif (i_b01 (by omega)) ?_
    exact tot_some ⟨rfl, (show (0 ≤ (1 : Int32).toInt ∧ (1 : Int32).toInt ≤ 1) from by omega)⟩
  · replace c_3 := i_ne c_3
    unfold fr_hears_12_b13
    refine tot_oif (i_b01 (by omega)) ?_
    exact tot_some ⟨rfl, (show (0 ≤ (0 : Int32).toInt ∧ (0 : Int32).toInt ≤ 1) from by omega)⟩
set_option maxHeartbeats 4000000 in
set_option maxRecDepth 10000 in
theorem sf_isMuted {P : Nat → Int32} (hP : PL P) (S : MS) (a0 : Int32) (h_S : IC P S) : Tot (fr_isMuted S a0) (fun r => IC P r.2 ∧ (0 ≤ r.1.toInt ∧ r.1.toInt ≤ 1)) := by
  have z0 : (0 : Int32).toInt = 0 := by decide
  have z1 : (1 : Int32).toInt = 1 := by decide
  have p_4 := pl_4 hP
  have j_a0 := i_any a0
  unfold fr_isMuted
  refine tot_bindp (R := fun r_1 : Int32 => (r_1.toInt = 0 ∨ r_1.toInt = 1 ∧ 0 ≤ a0.toInt ∧ a0.toInt < (P 4).toInt)) (sf_isMic hP S a0 h_S ) (fun r_1 d_r_1 => ?_)
  replace d_r_1 : (r_1.toInt = 0 ∨ r_1.toInt = 1 ∧ 0 ≤ a0.toInt ∧ a0.toInt < (P 4).toInt) := d_r_1
  refine tot_bind2 (sf_mayAsk hP S r_1 h_S (by omega)) (fun r_3 S_4 d_r_3 => ?_)
  have h_S_4 : IC P S_4 := d_r_3.1
  replace d_r_3 : (r_3.toInt = 0 ∨ r_3.toInt = 1 ∧ ¬ r_1.toInt = 0) := d_r_3.2
  refine tot_if (fun c_7 => ?_) (fun c_7 => ?_)
  · replace c_7 := i_eq c_7
    unfold fr_isMuted_b28
    unfold fr_isMuted_b29
    refine tot_oif (i_b01 (by omega)) ?_
    exact tot_some ⟨h_S_4, (show (0 ≤ (0 : Int32).toInt ∧ (0 : Int32).toInt ≤ 1) from by omega)⟩
  · replace c_7 := i_ne c_7
    refine tot_bindp (R := fun r_5 : Int32 => (0 ≤ r_5.toInt ∧ r_5.toInt ≤ 1)) (sf_hears_12 hP S_4 a0 h_S_4 (by omega)) (fun r_5 d_r_5 => ?_)
    replace d_r_5 : (0 ≤ r_5.toInt ∧ r_5.toInt ≤ 1) := d_r_5
    refine tot_if (fun c_8 => ?_) (fun c_8 => ?_)
    · replace c_8 := i_eq c_8
      unfold fr_isMuted_b29
      refine tot_oif (i_b01 (by omega)) ?_
      exact tot_some ⟨h_S_4, (show (0 ≤ (1 : Int32).toInt ∧ (1 : Int32).toInt ≤ 1) from by omega)⟩
    · replace c_8 := i_ne c_8
      unfold fr_isMuted_b28
      unfold fr_isMuted_b29
      refine tot_oif (i_b01 (by omega)) ?_
      exact tot_some ⟨h_S_4, (show (0 ≤ (0 : Int32).toInt ∧ (0 : Int32).toInt ≤ 1) from by omega)⟩
end
section
/-! 12c.sb1.lean.txt -/
set_option maxHeartbeats 4000000 in
set_option maxRecDepth 10000 in
theorem sf_columns {P : Nat → Int32} (hP : PL P) (S : MS) (h_S : IC P S) : Tot (fr_columns S) (fun r => IC P r.2 ∧ (0 ≤ r.1.toInt ∧ r.1.toInt ≤ 200)) := by
  have p_9 := pl_9 hP
  have p_cells := pl_cells hP
  unfold fr_columns
  refine tot_let (fun v_1 e_v_1 => ?_)
  have q_v_1 := ic_p h_S e_v_1
  refine tot_bind2 (sf_told hP S v_1 h_S (by omega)) (fun r_2 S_3 d_r_2 => ?_)
  have h_S_3 : IC P S_3 := d_r_2.1
  replace d_r_2 : (0 ≤ r_2.toInt ∧ r_2.toInt ≤ 200) := d_r_2.2
  exact tot_some ⟨h_S_3, (show (0 ≤ r_2.toInt ∧ r_2.toInt ≤ 200) from by omega)⟩
set_option maxHeartbeats 4000000 in
set_option maxRecDepth 10000 in
theorem sf_rows {P : Nat → Int32} (hP : PL P) (S : MS) (h_S : IC P S) : Tot (fr_rows S) (fun r => IC P r.2 ∧ (0 ≤ r.1.toInt ∧ r.1.toInt ≤ 200)) := by
  have p_10 := pl_10 hP
  unfold fr_rows
  refine tot_let (fun v_1 e_v_1 => ?_)
  have q_v_1 := ic_p h_S e_v_1
  refine tot_bind2 (sf_told hP S v_1 h_S (by omega)) (fun r_2 S_3 d_r_2 => ?_)
  have h_S_3 : IC P S_3 := d_r_2.1
  replace d_r_2 : (0 ≤ r_2.toInt ∧ r_2.toInt ≤ 200) := d_r_2.2
  exact tot_some ⟨h_S_3, (show (0 ≤ r_2.toInt ∧ r_2.toInt ≤ 200) from by omega)⟩
set_option maxHeartbeats 4000000 in
set_option maxRecDepth 10000 in
theorem sf_cellAt {P : Nat → Int32} (hP : PL P) (S : MS) (a0 : Int32) (a1 : Int32) (h_S : IC P S) : Tot (fr_cellAt S a0 a1) (fun r => IC P r.2 ∧ (-999 ≤ r.1.toInt ∧ r.1.toInt ≤ 15156)) := by
  have z0 : (0 : Int32).toInt = 0 := by decide
  have z1 : (1 : Int32).toInt = 1 := by decide
  have z2 : (3 : Int32).toInt = 3 := by decide
  have p_9 := pl_9 hP
  have p_10 := pl_10 hP
  have p_cells := pl_cells hP
  have j_a0 := i_any a0
  have j_a1 := i_any a1
  unfold fr_cellAt
  refine tot_bindp (R := fun r_1 : Int32 => (r_1.toInt = 0 ∨ r_1.toInt = 1 ∧ (0 ≤ a0.toInt ∧ a0.toInt ≤ 143) ∧ a0.toInt < (P 9).toInt * (P 10).toInt)) (sf_isCell hP S a0 h_S ) (fun r_1 d_r_1 => ?_)
  replace d_r_1 : (r_1.toInt = 0 ∨ r_1.toInt = 1 ∧ (0 ≤ a0.toInt ∧ a0.toInt ≤ 143) ∧ a0.toInt < (P 9).toInt * (P 10).toInt) := d_r_1
  refine tot_bind2 (sf_mayAsk hP S r_1 h_S (by omega)) (fun r_3 S_4 d_r_3 => ?_)
  have h_S_4 : IC P S_4 := d_r_3.1
  replace d_r_3 : (r_3.toInt = 0 ∨ r_3.toInt = 1 ∧ ¬ r_1.toInt = 0) := d_r_3.2
  refine tot_if (fun c_10 => ?_) (fun c_10 => ?_)
  · replace c_10 := i_eq c_10
    exact tot_some ⟨h_S_4, (show (-999 ≤ (0 : Int32).toInt ∧ (0 : Int32).toInt ≤ 15156) from by omega)⟩
  · replace c_10 := i_ne c_10
    refine tot_bind (sf_in hP a1 0 1  ) (fun r_5 d_r_5 => ?_)
    replace d_r_5 : (r_5.toInt = 0 ∧ (a1.toInt < (0 : Int32).toInt ∨ (1 : Int32).toInt < a1.toInt) ∨ r_5.toInt = 1 ∧ (0 : Int32).toInt ≤ a1.toInt ∧ a1.toInt ≤ (1 : Int32).toInt) := d_r_5
    refine tot_if (fun c_11 => ?_) (fun c_11 => ?_)
    · replace c_11 := i_eq c_11
      refine tot_bind2 (sf_throwsAt hP S_4 3 h_S_4 ) (fun r_6 S_7 d_r_6 => ?_)
      have h_S_7 : IC P S_7 := d_r_6.1
      replace d_r_6 : (0 ≤ r_6.toInt ∧ r_6.toInt ≤ 0) := d_r_6.2
      unfold fr_cellAt_b37
      exact tot_some ⟨h_S_7, (show (-999 ≤ r_6.toInt ∧ r_6.toInt ≤ 15156) from by omega)⟩
    · replace c_11 := i_ne c_11
      refine tot_bindp (R := fun r_8 : Int32 => (-999 ≤ r_8.toInt ∧ r_8.toInt ≤ 15156)) (sf_centre hP S_4 a0 a1 h_S_4 (by omega) (by omega)) (fun r_8 d_r_8 => ?_)
      replace d_r_8 : (-999 ≤ r_8.toInt ∧ r_8.toInt ≤ 15156) := d_r_8
      unfold fr_cellAt_b37
      exact tot_some ⟨h_S_4, (show (-999 ≤ r_8.toInt ∧ r_8.toInt ≤ 15156) from by omega)⟩
set_option maxHeartbeats 4000000 in
set_option maxRecDepth 10000 in
theorem sf_sources {P : Nat → Int32} (hP : PL P) (S : MS) (h_S : IC P S) : Tot (fr_sources S) (fun r => IC P r.2 ∧ (0 ≤ r.1.toInt ∧ r.1.toInt ≤ 200)) := by
  have p_5 := pl_5 hP
  unfold fr_sources
  refine tot_let (fun v_1 e_v_1 => ?_)
  have q_v_1 := ic_p h_S e_v_1
  refine tot_bind2 (sf_told hP S v_1 h_S (by omega)) (fun r_2 S_3 d_r_2 => ?_)
  have h_S_3 : IC P S_3 := d_r_2.1
  replace d_r_2 : (0 ≤ r_2.toInt ∧ r_2.toInt ≤ 200) := d_r_2.2
  exact tot_some ⟨h_S_3, (show (0 ≤ r_2.toInt ∧ r_2.toInt ≤ 200) from by omega)⟩
set_option maxHeartbeats 4000000 in
set_option maxRecDepth 10000 in
theorem sf_sourceAt {P : Nat → Int32} (hP : PL P) (S : MS) (a0 : Int32) (a1 : Int32) (a2 : Int32) (h_S : IC P S) : Tot (fr_sourceAt S a0 a1 a2) (fun r => IC P r.2 ∧ (-3988 ≤ r.1.toInt ∧ r.1.toInt ≤ 3988)) := by
  have z0 : (0 : Int32).toInt = 0 := by decide
  have z1 : (1 : Int32).toInt = 1 := by decide
  have z2 : (3 : Int32).toInt = 3 := by decide
  have p_2 := pl_2 hP
  have p_5 := pl_5 hP
  have j_a0 := i_any a0
  have j_a1 := i_any a1
  have j_a2 := i_any a2
  unfold fr_sourceAt
  refine tot_bindp (R := fun r_1 : Int32 => (r_1.toInt = 0 ∨ r_1.toInt = 1 ∧ 0 ≤ a0.toInt ∧ a0.toInt < (P 5).toInt)) (sf_isSource hP S a0 h_S ) (fun r_1 d_r_1 => ?_)
  replace d_r_1 : (r_1.toInt = 0 ∨ r_1.toInt = 1 ∧ 0 ≤ a0.toInt ∧ a0.toInt < (P 5).toInt) := d_r_1
  refine tot_bind2 (sf_mayAsk hP S r_1 h_S (by omega)) (fun r_3 S_4 d_r_3 => ?_)
  have h_S_4 : IC P S_4 := d_r_3.1
  replace d_r_3 : (r_3.toInt = 0 ∨ r_3.toInt = 1 ∧ ¬ r_1.toInt = 0) := d_r_3.2
  refine tot_if (fun c_10 => ?_) (fun c_10 => ?_)
  · replace c_10 := i_eq c_10
    exact tot_some ⟨h_S_4, (show (-3988 ≤ (0 : Int32).toInt ∧ (0 : Int32).toInt ≤ 3988) from by omega)⟩
  · replace c_10 := i_ne c_10
    refine tot_bind (sf_in hP a1 0 1  ) (fun r_5 d_r_5 => ?_)
    replace d_r_5 : (r_5.toInt = 0 ∧ (a1.toInt < (0 : Int32).toInt ∨ (1 : Int32).toInt < a1.toInt) ∨ r_5.toInt = 1 ∧ (0 : Int32).toInt ≤ a1.toInt ∧ a1.toInt ≤ (1 : Int32).toInt) := d_r_5
    refine tot_if (fun c_11 => ?_) (fun c_11 => ?_)
    · replace c_11 := i_eq c_11
      unfold fr_sourceAt_b45
      refine tot_bind2 (sf_throwsAt hP S_4 3 h_S_4 ) (fun r_12 S_13 d_r_12 => ?_)
      have h_S_13 : IC P S_13 := d_r_12.1
      replace d_r_12 : (0 ≤ r_12.toInt ∧ r_12.toInt ≤ 0) := d_r_12.2
      unfold fr_sourceAt_b50
      exact tot_some ⟨h_S_13, (show (-3988 ≤ r_12.toInt ∧ r_12.toInt ≤ 3988) from by omega)⟩
    · replace c_11 := i_ne c_11
      refine tot_bindp (R := fun r_6 : Int32 => (r_6.toInt = 0 ∨ r_6.toInt = 1 ∧ 0 ≤ a2.toInt ∧ a2.toInt < (P 2).toInt)) (sf_isTime hP S_4 a2 h_S_4 ) (fun r_6 d_r_6 => ?_)
      replace d_r_6 : (r_6.toInt = 0 ∨ r_6.toInt = 1 ∧ 0 ≤ a2.toInt ∧ a2.toInt < (P 2).toInt) := d_r_6
      refine tot_if (fun c_14 => ?_) (fun c_14 => ?_)
      · replace c_14 := i_eq c_14
        unfold fr_sourceAt_b45
        refine tot_bind2 (sf_throwsAt hP S_4 3 h_S_4 ) (fun r_15 S_16 d_r_15 => ?_)
        have h_S_16 : IC P S_16 := d_r_15.1
        replace d_r_15 : (0 ≤ r_15.toInt ∧ r_15.toInt ≤ 0) := d_r_15.2
        unfold fr_sourceAt_b50
        exact tot_some ⟨h_S_16, (show (-3988 ≤ r_15.toInt ∧ r_15.toInt ≤ 3988) from by omega)⟩
      · replace c_14 := i_ne c_14
        refine tot_bindp (R := fun r_8 : Int32 => (-3988 ≤ r_8.toInt ∧ r_8.toInt ≤ 3988)) (sf_sourcePlace_12 hP S_4 a0 a1 a2 h_S_4 (by omega) (by omega) (by omega)) (fun r_8 d_r_8 => ?_)
        replace d_r_8 : (-3988 ≤ r_8.toInt ∧ r_8.toInt ≤ 3988) := d_r_8
        unfold fr_sourceAt_b50
        exact tot_some ⟨h_S_4, (show (-3988 ≤ r_8.toInt ∧ r_8.toInt ≤ 3988) from by omega)⟩
set_option maxHeartbeats 4000000 in
set_option maxRecDepth 10000 in
theorem sf_isOn {P : Nat → Int32} (hP : PL P) (S : MS) (a0 : Int32) (h_S : IC P S) : Tot (fr_isOn S a0) (fun r => IC P r.2 ∧ (0 ≤ r.1.toInt ∧ r.1.toInt ≤ 1)) := by
  have z0 : (0 : Int32).toInt = 0 := by decide
  have z1 : (25 : Int32).toInt = 25 := by decide
  have z2 : (1 : Int32).toInt = 1 := by decide
  have p_5 := pl_5 hP
  have j_a0 := i_any a0
  unfold fr_isOn
  refine tot_bindp (R := fun r_1 : Int32 => (r_1.toInt = 0 ∨ r_1.toInt = 1 ∧ 0 ≤ a0.toInt ∧ a0.toInt < (P 5).toInt)) (sf_isSource hP S a0 h_S ) (fun r_1 d_r_1 => ?_)
  replace d_r_1 : (r_1.toInt = 0 ∨ r_1.toInt = 1 ∧ 0 ≤ a0.toInt ∧ a0.toInt < (P 5).toInt) := d_r_1
  refine tot_bind2 (sf_mayAsk hP S r_1 h_S (by omega)) (fun r_3 S_4 d_r_3 => ?_)
  have h_S_4 : IC P S_4 := d_r_3.1
  replace d_r_3 : (r_3.toInt = 0 ∨ r_3.toInt = 1 ∧ ¬ r_1.toInt = 0) := d_r_3.2
  refine tot_if (fun c_7 => ?_) (fun c_7 => ?_)
  · replace c_7 := i_eq c_7
    unfold fr_isOn_b29
    unfold fr_isOn_b30
    refine tot_oif (i_b01 (by omega)) ?_
    exact tot_some ⟨h_S_4, (show (0 ≤ (0 : Int32).toInt ∧ (0 : Int32).toInt ≤ 1) from by omega)⟩
  · replace c_7 := i_ne c_7
    refine tot_let (fun v_5 e_v_5 => ?_)
    have q_v_5 := i_add e_v_5 (by omega) (by omega)
    refine tot_oif (i_inb (by omega) (by omega)) ?_
    refine tot_let (fun v_6 e_v_6 => ?_)
    have r_v_6 := nR_25 (ic_12 h_S_4 e_v_6) (by omega) (by omega)
    refine tot_if (fun c_8 => ?_) (fun c_8 => ?_)
    · replace c_8 := i_eq c_8
      unfold fr_isOn_b30
      refine tot_oif (i_b01 (by omega)) ?_
      exact tot_some ⟨h_S_4, (show (0 ≤ (1 : Int32).toInt ∧ (1 : Int32).toInt ≤ 1) from by omega)⟩
    · replace c_8 := i_ne c_8
      unfold fr_isOn_b29
      unfold fr_isOn_b30
      refine tot_oif (i_b01 (by omega)) ?_
      exact tot_some ⟨h_S_4, (show (0 ≤ (0 : Int32).toInt ∧ (0 : Int32).toInt ≤ 1) from by omega)⟩
set_option maxHeartbeats 4000000 in
set_option maxRecDepth 10000 in
theorem sf_waveAt {P : Nat → Int32} (hP : PL P) (S : MS) (a0 : Int32) (a1 : Int32) (h_S : IC P S) : Tot (fr_waveAt S a0 a1) (fun r => IC P r.2 ∧ (-385614 ≤ r.1.toInt ∧ r.1.toInt ≤ 385614)) := by
  have z0 : (0 : Int32).toInt = 0 := by decide
  have z1 : (3 : Int32).toInt = 3 := by decide
  have p_2 := pl_2 hP
  have p_5 := pl_5 hP
  have j_a0 := i_any a0
  have j_a1 := i_any a1
  unfold fr_waveAt
  refine tot_bindp (R := fun r_1 : Int32 => (r_1.toInt = 0 ∨ r_1.toInt = 1 ∧ 0 ≤ a0.toInt ∧ a0.toInt < (P 5).toInt)) (sf_isSource hP S a0 h_S ) (fun r_1 d_r_1 => ?_)
  replace d_r_1 : (r_1.toInt = 0 ∨ r_1.toInt = 1 ∧ 0 ≤ a0.toInt ∧ a0.toInt < (P 5).toInt) := d_r_1
  refine tot_bind2 (sf_mayAsk hP S r_1 h_S (by omega)) (fun r_3 S_4 d_r_3 => ?_)
  have h_S_4 : IC P S_4 := d_r_3.1
  replace d_r_3 : (r_3.toInt = 0 ∨ r_3.toInt = 1 ∧ ¬ r_1.toInt = 0) := d_r_3.2
  refine tot_if (fun c_11 => ?_) (fun c_11 => ?_)
  · replace c_11 := i_eq c_11
    exact tot_some ⟨h_S_4, (show (-385614 ≤ (0 : Int32).toInt ∧ (0 : Int32).toInt ≤ 385614) from by omega)⟩
  · replace c_11 := i_ne c_11
    refine tot_bindp (R := fun r_5 : Int32 => (r_5.toInt = 0 ∨ r_5.toInt = 1 ∧ 0 ≤ a1.toInt ∧ a1.toInt < (P 2).toInt)) (sf_isTime hP S_4 a1 h_S_4 ) (fun r_5 d_r_5 => ?_)
    replace d_r_5 : (r_5.toInt = 0 ∨ r_5.toInt = 1 ∧ 0 ≤ a1.toInt ∧ a1.toInt < (P 2).toInt) := d_r_5
    refine tot_if (fun c_12 => ?_) (fun c_12 => ?_)
    · replace c_12 := i_eq c_12
      refine tot_bind2 (sf_throwsAt hP S_4 3 h_S_4 ) (fun r_7 S_8 d_r_7 => ?_)
      have h_S_8 : IC P S_8 := d_r_7.1
      replace d_r_7 : (0 ≤ r_7.toInt ∧ r_7.toInt ≤ 0) := d_r_7.2
      unfold fr_waveAt_b36
      exact tot_some ⟨h_S_8, (show (-385614 ≤ r_7.toInt ∧ r_7.toInt ≤ 385614) from by omega)⟩
    · replace c_12 := i_ne c_12
      refine tot_bindp (R := fun r_9 : Int32 => (-385614 ≤ r_9.toInt ∧ r_9.toInt ≤ 385614)) (sf_wave hP S_4 a0 a1 h_S_4 (by omega) (by omega) (by omega)) (fun r_9 d_r_9 => ?_)
      replace d_r_9 : (-385614 ≤ r_9.toInt ∧ r_9.toInt ≤ 385614) := d_r_9
      unfold fr_waveAt_b36
      exact tot_some ⟨h_S_4, (show (-385614 ≤ r_9.toInt ∧ r_9.toInt ≤ 385614) from by omega)⟩
set_option maxHeartbeats 4000000 in
set_option maxRecDepth 10000 in
theorem sf_samples {P : Nat → Int32} (hP : PL P) (S : MS) (h_S : IC P S) : Tot (fr_samples S) (fun r => IC P r.2 ∧ (0 ≤ r.1.toInt ∧ r.1.toInt ≤ 200)) := by
  have p_2 := pl_2 hP
  unfold fr_samples
  refine tot_let (fun v_1 e_v_1 => ?_)
  have q_v_1 := ic_p h_S e_v_1
  refine tot_bind2 (sf_told hP S v_1 h_S (by omega)) (fun r_2 S_3 d_r_2 => ?_)
  have h_S_3 : IC P S_3 := d_r_2.1
  replace d_r_2 : (0 ≤ r_2.toInt ∧ r_2.toInt ≤ 200) := d_r_2.2
  exact tot_some ⟨h_S_3, (show (0 ≤ r_2.toInt ∧ r_2.toInt ≤ 200) from by omega)⟩
set_option maxHeartbeats 4000000 in
set_option maxRecDepth 10000 in
theorem sf_delay {P : Nat → Int32} (hP : PL P) (S : MS) (a0 : Int32) (a1 : Int32) (h_S : IC P S) : Tot (fr_delay S a0 a1) (fun r => IC P r.2 ∧ (0 ≤ r.1.toInt ∧ r.1.toInt ≤ 65535)) := by
  have z0 : (0 : Int32).toInt = 0 := by decide
  have z1 : (1 : Int32).toInt = 1 := by decide
  have z2 : (12 : Int32).toInt = 12 := by decide
  have p_4 := pl_4 hP
  have p_9 := pl_9 hP
  have p_10 := pl_10 hP
  have p_cells := pl_cells hP
  have j_a0 := i_any a0
  have j_a1 := i_any a1
  unfold fr_delay
  refine tot_bindp (R := fun r_1 : Int32 => (r_1.toInt = 0 ∨ r_1.toInt = 1 ∧ 0 ≤ a0.toInt ∧ a0.toInt < (P 4).toInt)) (sf_isMic hP S a0 h_S ) (fun r_1 d_r_1 => ?_)
  replace d_r_1 : (r_1.toInt = 0 ∨ r_1.toInt = 1 ∧ 0 ≤ a0.toInt ∧ a0.toInt < (P 4).toInt) := d_r_1
  refine tot_if (fun c_5 => ?_) (fun c_5 => ?_)
  · replace c_5 := i_eq c_5
    unfold fr_delay_b21
    unfold fr_delay_b22
    refine tot_bind2 (sf_mayAsk hP S 0 h_S (by omega)) (fun r_6 S_7 d_r_6 => ?_)
    have h_S_7 : IC P S_7 := d_r_6.1
    replace d_r_6 : (r_6.toInt = 0 ∨ r_6.toInt = 1 ∧ ¬ (0 : Int32).toInt = 0) := d_r_6.2
    refine tot_if (fun c_11 => ?_) (fun c_11 => ?_)
    · replace c_11 := i_eq c_11
      unfold fr_delay_b43
      exact tot_some ⟨h_S_7, (show (0 ≤ (0 : Int32).toInt ∧ (0 : Int32).toInt ≤ 65535) from by omega)⟩
    · replace c_11 := i_ne c_11
      exfalso
      omega
  · replace c_5 := i_ne c_5
    refine tot_bindp (R := fun r_3 : Int32 => (r_3.toInt = 0 ∨ r_3.toInt = 1 ∧ (0 ≤ a1.toInt ∧ a1.toInt ≤ 143) ∧ a1.toInt < (P 9).toInt * (P 10).toInt)) (sf_isCell hP S a1 h_S ) (fun r_3 d_r_3 => ?_)
    replace d_r_3 : (r_3.toInt = 0 ∨ r_3.toInt = 1 ∧ (0 ≤ a1.toInt ∧ a1.toInt ≤ 143) ∧ a1.toInt < (P 9).toInt * (P 10).toInt) := d_r_3
    refine tot_if (fun c_12 => ?_) (fun c_12 => ?_)
    · replace c_12 := i_eq c_12
      unfold fr_delay_b21
      unfold fr_delay_b22
      refine tot_bind2 (sf_mayAsk hP S 0 h_S (by omega)) (fun r_13 S_14 d_r_13 => ?_)
      have h_S_14 : IC P S_14 := d_r_13.1
      replace d_r_13 : (r_13.toInt = 0 ∨ r_13.toInt = 1 ∧ ¬ (0 : Int32).toInt = 0) := d_r_13.2
      refine tot_if (fun c_18 => ?_) (fun c_18 => ?_)
      · replace c_18 := i_eq c_18
        unfold fr_delay_b43
        exact tot_some ⟨h_S_14, (show (0 ≤ (0 : Int32).toInt ∧ (0 : Int32).toInt ≤ 65535) from by omega)⟩
      · replace c_18 := i_ne c_18
        exfalso
        omega
    · replace c_12 := i_ne c_12
      unfold fr_delay_b22
      refine tot_bind2 (sf_mayAsk hP S 1 h_S (by omega)) (fun r_19 S_20 d_r_19 => ?_)
      have h_S_20 : IC P S_20 := d_r_19.1
      replace d_r_19 : (r_19.toInt = 0 ∨ r_19.toInt = 1 ∧ ¬ (1 : Int32).toInt = 0) := d_r_19.2
      refine tot_if (fun c_24 => ?_) (fun c_24 => ?_)
      · replace c_24 := i_eq c_24
        unfold fr_delay_b43
        exact tot_some ⟨h_S_20, (show (0 ≤ (0 : Int32).toInt ∧ (0 : Int32).toInt ≤ 65535) from by omega)⟩
      · replace c_24 := i_ne c_24
        refine tot_let (fun v_21 e_v_21 => ?_)
        have q_v_21 := i_mulk e_v_21 z2 (by omega) (by omega)
        refine tot_let (fun v_22 e_v_22 => ?_)
        have q_v_22 := i_add e_v_22 (by omega) (by omega)
        refine tot_oif (i_inb (by omega) (by omega)) ?_
        refine tot_let (fun v_23 e_v_23 => ?_)
        have r_v_23 := ic_17 h_S_20 e_v_23
        unfold fr_delay_b43
        exact tot_some ⟨h_S_20, (show (0 ≤ v_23.toInt ∧ v_23.toInt ≤ 65535) from by omega)⟩
set_option maxHeartbeats 4000000 in
set_option maxRecDepth 10000 in
theorem sf_isPoint {P : Nat → Int32} (hP : PL P) (a0 : Int32) (a1 : Int32) : Tot (fr_isPoint a0 a1) (fun r => (r.toInt = 0 ∨ r.toInt = 1 ∧ (-9999 ≤ a0.toInt ∧ a0.toInt ≤ 9999) ∧ -9999 ≤ a1.toInt ∧ a1.toInt ≤ 9999)) := by
  have z0 : ((-9999) : Int32).toInt = -9999 := by decide
  have z1 : (9999 : Int32).toInt = 9999 := by decide
  have z2 : (0 : Int32).toInt = 0 := by decide
  have z3 : (1 : Int32).toInt = 1 := by decide
  have j_a0 := i_any a0
  have j_a1 := i_any a1
  unfold fr_isPoint
  refine tot_bind (sf_in hP a0 (-9999) 9999  ) (fun r_1 d_r_1 => ?_)
  replace d_r_1 : (r_1.toInt = 0 ∧ (a0.toInt < ((-9999) : Int32).toInt ∨ (9999 : Int32).toInt < a0.toInt) ∨ r_1.toInt = 1 ∧ ((-9999) : Int32).toInt ≤ a0.toInt ∧ a0.toInt ≤ (9999 : Int32).toInt) := d_r_1
  refine tot_if (fun c_3 => ?_) (fun c_3 => ?_)
  · replace c_3 := i_eq c_3
    unfold fr_isPoint_b30
    unfold fr_isPoint_b31
    refine tot_oif (i_b01 (by omega)) ?_
    exact tot_some (show ((0 : Int32).toInt = 0 ∨ (0 : Int32).toInt = 1 ∧ (-9999 ≤ a0.toInt ∧ a0.toInt ≤ 9999) ∧ -9999 ≤ a1.toInt ∧ a1.toInt ≤ 9999) from by omega)
  · replace c_3 := i_ne c_3
    refine tot_bind (sf_in hP a1 (-9999) 9999  ) (fun r_2 d_r_2 => ?_)
    replace d_r_2 : (r_2.toInt = 0 ∧ (a1.toInt < ((-9999) : Int32).toInt ∨ (9999 : Int32).toInt < a1.toInt) ∨ r_2.toInt = 1 ∧ ((-9999) : Int32).toInt ≤ a1.toInt ∧ a1.toInt ≤ (9999 : Int32).toInt) := d_r_2
    refine tot_if (fun c_4 => ?_) (fun c_4 => ?_)
    · replace c_4 := i_eq c_4
      unfold fr_isPoint_b30
      unfold fr_isPoint_b31
      refine tot_oif (i_b01 (by omega)) ?_
      exact tot_some (show ((0 : Int32).toInt = 0 ∨ (0 : Int32).toInt = 1 ∧ (-9999 ≤ a0.toInt ∧ a0.toInt ≤ 9999) ∧ -9999 ≤ a1.toInt ∧ a1.toInt ≤ 9999) from by omega)
    · replace c_4 := i_ne c_4
      unfold fr_isPoint_b31
      refine tot_oif (i_b01 (by omega)) ?_
      exact tot_some (show ((1 : Int32).toInt = 0 ∨ (1 : Int32).toInt = 1 ∧ (-9999 ≤ a0.toInt ∧ a0.toInt ≤ 9999) ∧ -9999 ≤ a1.toInt ∧ a1.toInt ≤ 9999) from by omega)
set_option maxHeartbeats 4000000 in
set_option maxRecDepth 10000 in
theorem sf_delayTo {P : Nat → Int32} (hP : PL P) (S : MS) (a0 : Int32) (a1 : Int32) (a2 : Int32) (h_S : IC P S) : Tot (fr_delayTo S a0 a1 a2) (fun r => IC P r.2 ∧ (0 ≤ r.1.toInt ∧ r.1.toInt ≤ 65535)) := by
  have z0 : (0 : Int32).toInt = 0 := by decide
  have z1 : (3 : Int32).toInt = 3 := by decide
  have p_4 := pl_4 hP
  have j_a0 := i_any a0
  have j_a1 := i_any a1
  have j_a2 := i_any a2
  unfold fr_delayTo
  refine tot_bindp (R := fun r_1 : Int32 => (r_1.toInt = 0 ∨ r_1.toInt = 1 ∧ 0 ≤ a0.toInt ∧ a0.toInt < (P 4).toInt)) (sf_isMic hP S a0 h_S ) (fun r_1 d_r_1 => ?_)
  replace d_r_1 : (r_1.toInt = 0 ∨ r_1.toInt = 1 ∧ 0 ≤ a0.toInt ∧ a0.toInt < (P 4).toInt) := d_r_1
  refine tot_bind2 (sf_mayAsk hP S r_1 h_S (by omega)) (fun r_3 S_4 d_r_3 => ?_)
  have h_S_4 : IC P S_4 := d_r_3.1
  replace d_r_3 : (r_3.toInt = 0 ∨ r_3.toInt = 1 ∧ ¬ r_1.toInt = 0) := d_r_3.2
  refine tot_if (fun c_10 => ?_) (fun c_10 => ?_)
  · replace c_10 := i_eq c_10
    exact tot_some ⟨h_S_4, (show (0 ≤ (0 : Int32).toInt ∧ (0 : Int32).toInt ≤ 65535) from by omega)⟩
  · replace c_10 := i_ne c_10
    refine tot_bind (sf_isPoint hP a1 a2  ) (fun r_5 d_r_5 => ?_)
    replace d_r_5 : (r_5.toInt = 0 ∨ r_5.toInt = 1 ∧ (-9999 ≤ a1.toInt ∧ a1.toInt ≤ 9999) ∧ -9999 ≤ a2.toInt ∧ a2.toInt ≤ 9999) := d_r_5
    refine tot_if (fun c_11 => ?_) (fun c_11 => ?_)
    · replace c_11 := i_eq c_11
      refine tot_bind2 (sf_throwsAt hP S_4 3 h_S_4 ) (fun r_6 S_7 d_r_6 => ?_)
      have h_S_7 : IC P S_7 := d_r_6.1
      replace d_r_6 : (0 ≤ r_6.toInt ∧ r_6.toInt ≤ 0) := d_r_6.2
      unfold fr_delayTo_b37
      exact tot_some ⟨h_S_7, (show (0 ≤ r_6.toInt ∧ r_6.toInt ≤ 65535) from by omega)⟩
    · replace c_11 := i_ne c_11
      refine tot_bindp (R := fun r_8 : Int32 => (0 ≤ r_8.toInt ∧ r_8.toInt ≤ 65535)) (sf_delayFrom hP S_4 a0 a1 a2 h_S_4 (by omega) (by omega) (by omega)) (fun r_8 d_r_8 => ?_)
      replace d_r_8 : (0 ≤ r_8.toInt ∧ r_8.toInt ≤ 65535) := d_r_8
      unfold fr_delayTo_b37
      exact tot_some ⟨h_S_4, (show (0 ≤ r_8.toInt ∧ r_8.toInt ≤ 65535) from by omega)⟩
set_option maxHeartbeats 4000000 in
set_option maxRecDepth 10000 in
theorem lf_activeCount_b4 {P : Nat → Int32} (hP : PL P) {Q : Int32 × MS → Prop} (S : MS) (h_S : IC P S) (hx0 : ∀ (l1 : Int32), Tot (some (l1, S)) Q) : ∀ (n : Nat) (l1 : Int32) (l2 : Int32), (0 ≤ l2.toInt ∧ l2.toInt ≤ 12) → 12 - l2.toInt < (n : Int) → Tot (fr_activeCount_b4 n S l1 l2) Q := by
  have z0 : (0 : Int32).toInt = 0 := by decide
  have z1 : (Int32.ofInt (1) : Int32).toInt = 1 := by decide
  have z2 : (1 : Int32).toInt = 1 := by decide
  have p_4 := pl_4 hP
  intro n
  induction n with
  | zero =>
    intro l1 l2 g_l2 hm
    exfalso
    omega
  | succ n ih =>
    intro l1 l2 g_l2 hm
    unfold fr_activeCount_b4
    refine tot_let (fun v_8 e_v_8 => ?_)
    have q_v_8 := ic_p h_S e_v_8
    refine tot_if (fun c_18 => ?_) (fun c_18 => ?_)
    · replace c_18 := i_le c_18
      exact hx0 l1 
    · replace c_18 := i_nle c_18
      refine tot_bindp (R := fun r_9 : Int32 => (0 ≤ r_9.toInt ∧ r_9.toInt ≤ 1)) (sf_hears_12 hP S l2 h_S (by omega)) (fun r_9 d_r_9 => ?_)
      replace d_r_9 : (0 ≤ r_9.toInt ∧ r_9.toInt ≤ 1) := d_r_9
      refine tot_if (fun c_19 => ?_) (fun c_19 => ?_)
      · replace c_19 := i_eq c_19
        unfold fr_activeCount_b32
        refine tot_let (fun v_20 e_v_20 => ?_)
        have r_v_20 := i_any v_20
        refine tot_let (fun v_21 e_v_21 => ?_)
        have q_v_21 := i_add e_v_21 (by omega) (by omega)
        exact ih v_20 v_21 (by omega) (by omega)
      · replace c_19 := i_ne c_19
        unfold fr_activeCount_b32
        refine tot_let (fun v_22 e_v_22 => ?_)
        have r_v_22 := i_any v_22
        refine tot_let (fun v_23 e_v_23 => ?_)
        have q_v_23 := i_add e_v_23 (by omega) (by omega)
        exact ih v_22 v_23 (by omega) (by omega)
set_option maxHeartbeats 4000000 in
set_option maxRecDepth 10000 in
theorem sf_activeCount {P : Nat → Int32} (hP : PL P) (S : MS) (h_S : IC P S) : Tot (fr_activeCount S) (fun r => r.2 = S ∧ True) := by
  have z0 : (0 : Int32).toInt = 0 := by decide
  unfold fr_activeCount
  refine lf_activeCount_b4 hP S h_S ?_ 16384 0 0 (by omega) (by omega)
  · intro l_24
    have j_l_24 := i_any l_24
    exact tot_some ⟨rfl, trivial⟩
set_option maxHeartbeats 4000000 in
set_option maxRecDepth 10000 in
theorem lf_spread_b30 {P : Nat → Int32} (hP : PL P) {Q : Int32 × MS → Prop} (l1 : Int32) (g0 : 0 ≤ l1.toInt ∧ l1.toInt ≤ 143) (hx0 : ∀ (S : MS) (l2 : Int32) (l3 : Int32), (IC P S) → (0 ≤ l2.toInt ∧ l2.toInt ≤ 2147483647) → (0 ≤ l3.toInt ∧ l3.toInt ≤ 65535) → Tot (elet (l3 - l2) fun v_24 => some (v_24, S)) Q) : ∀ (n : Nat) (S : MS) (l2 : Int32) (l3 : Int32) (l4 : Int32), (IC P S) → (0 ≤ l2.toInt ∧ l2.toInt ≤ 2147483647) → (0 ≤ l3.toInt ∧ l3.toInt ≤ 65535) → (0 ≤ l4.toInt ∧ l4.toInt ≤ 12) → 12 - l4.toInt < (n : Int) → Tot (fr_spread_b30 n S l1 l2 l3 l4) Q := by
  have z0 : (0 : Int32).toInt = 0 := by decide
  have z1 : (Int32.ofInt (1) : Int32).toInt = 1 := by decide
  have z2 : (12 : Int32).toInt = 12 := by decide
  have p_4 := pl_4 hP
  have j_l1 := i_any l1
  intro n
  induction n with
  | zero =>
    intro S l2 l3 l4 h_S g_l2 g_l3 g_l4 hm
    exfalso
    omega
  | succ n ih =>
    intro S l2 l3 l4 h_S g_l2 g_l3 g_l4 hm
    unfold fr_spread_b30
    refine tot_let (fun v_23 e_v_23 => ?_)
    have q_v_23 := ic_p h_S e_v_23
    refine tot_if (fun c_49 => ?_) (fun c_49 => ?_)
    · replace c_49 := i_le c_49
      exact hx0 S l2 l3 h_S (by omega) (by omega)
    · replace c_49 := i_nle c_49
      refine tot_bindp (R := fun r_25 : Int32 => (0 ≤ r_25.toInt ∧ r_25.toInt ≤ 1)) (sf_hears_12 hP S l4 h_S (by omega)) (fun r_25 d_r_25 => ?_)
      replace d_r_25 : (0 ≤ r_25.toInt ∧ r_25.toInt ≤ 1) := d_r_25
      refine tot_if (fun c_50 => ?_) (fun c_50 => ?_)
      · replace c_50 := i_eq c_50
        unfold fr_spread_b91
        refine tot_let (fun v_51 e_v_51 => ?_)
        have q_v_51 := i_add e_v_51 (by omega) (by omega)
        exact ih S l2 l3 v_51 h_S (by omega) (by omega) (by omega) (by omega)
      · replace c_50 := i_ne c_50
        refine tot_let (fun v_27 e_v_27 => ?_)
        have q_v_27 := i_mulk e_v_27 z2 (by omega) (by omega)
        refine tot_let (fun v_28 e_v_28 => ?_)
        have q_v_28 := i_add e_v_28 (by omega) (by omega)
        refine tot_oif (i_inb (by omega) (by omega)) ?_
        refine tot_let (fun v_29 e_v_29 => ?_)
        have r_v_29 := ic_17 h_S e_v_29
        refine tot_let (fun v_30 e_v_30 => ?_)
        have q_v_30 := i_ilt e_v_30
        refine tot_let (fun v_31 e_v_31 => ?_)
        have q_v_31 := i_mulk e_v_31 z2 (by omega) (by omega)
        refine tot_let (fun v_32 e_v_32 => ?_)
        have q_v_32 := i_add e_v_32 (by omega) (by omega)
        refine tot_oif (i_inb (by omega) (by omega)) ?_
        refine tot_let (fun v_33 e_v_33 => ?_)
        have r_v_33 := ic_17 h_S e_v_33
        refine tot_let (fun v_34 e_v_34 => ?_)
        have q_v_34 := i_ilt e_v_34
        unfold fr_spread_b91
        refine tot_let (fun v_52 e_v_52 => ?_)
        have q_v_52 := i_add e_v_52 (by omega) (by omega)
        exact ih S v_30 v_34 v_52 h_S (by omega) (by omega) (by omega) (by omega)
set_option maxHeartbeats 4000000 in
set_option maxRecDepth 10000 in
theorem sf_spread {P : Nat → Int32} (hP : PL P) (S : MS) (a0 : Int32) (h_S : IC P S) : Tot (fr_spread S a0) (fun r => IC P r.2 ∧ (-2147483647 ≤ r.1.toInt ∧ r.1.toInt ≤ 65535)) := by
  have z0 : (0 : Int32).toInt = 0 := by decide
  have z1 : (2147483647 : Int32).toInt = 2147483647 := by decide
  have p_9 := pl_9 hP
  have p_10 := pl_10 hP
  have p_cells := pl_cells hP
  have j_a0 := i_any a0
  unfold fr_spread
  refine tot_bindp (R := fun r_1 : Int32 => (r_1.toInt = 0 ∨ r_1.toInt = 1 ∧ (0 ≤ a0.toInt ∧ a0.toInt ≤ 143) ∧ a0.toInt < (P 9).toInt * (P 10).toInt)) (sf_isCell hP S a0 h_S ) (fun r_1 d_r_1 => ?_)
  replace d_r_1 : (r_1.toInt = 0 ∨ r_1.toInt = 1 ∧ (0 ≤ a0.toInt ∧ a0.toInt ≤ 143) ∧ a0.toInt < (P 9).toInt * (P 10).toInt) := d_r_1
  refine tot_bind2 (sf_mayAsk hP S r_1 h_S (by omega)) (fun r_3 S_4 d_r_3 => ?_)
  have h_S_4 : IC P S_4 := d_r_3.1
  replace d_r_3 : (r_3.toInt = 0 ∨ r_3.toInt = 1 ∧ ¬ r_1.toInt = 0) := d_r_3.2
  refine tot_if (fun c_7 => ?_) (fun c_7 => ?_)
  · replace c_7 := i_eq c_7
    unfold fr_spread_b19
    exact tot_some ⟨h_S_4, (show (-2147483647 ≤ (0 : Int32).toInt ∧ (0 : Int32).toInt ≤ 65535) from by omega)⟩
  · replace c_7 := i_ne c_7
    refine tot_bindp (R := fun r_5 : Int32 => True) (sf_activeCount hP S_4 h_S_4 ) (fun r_5 d_r_5 => ?_)
    refine tot_if (fun c_8 => ?_) (fun c_8 => ?_)
    · replace c_8 := i_eq c_8
      unfold fr_spread_b19
      exact tot_some ⟨h_S_4, (show (-2147483647 ≤ (0 : Int32).toInt ∧ (0 : Int32).toInt ≤ 65535) from by omega)⟩
    · replace c_8 := i_ne c_8
      refine lf_spread_b30 hP a0 (by omega) ?_ 16384 S_4 2147483647 0 0 h_S_4 (by omega) (by omega) (by omega) (by omega)
      · intro S_53 l_54 l_55 h_S_53 g_l_54 g_l_55
        refine tot_let (fun v__56 e_v__56 => ?_)
        have q_v__56 := i_sub e_v__56 (by omega) (by omega)
        exact tot_some ⟨h_S_53, (show (-2147483647 ≤ v__56.toInt ∧ v__56.toInt ≤ 65535) from by omega)⟩
set_option maxHeartbeats 4000000 in
set_option maxRecDepth 10000 in
theorem lf_windowOf_12_b4 {P : Nat → Int32} (hP : PL P) {Q : Int32 × MS → Prop} (S : MS) (h_S : IC P S) (hx0 : ∀ (l2 : Int32), (0 ≤ l2.toInt ∧ l2.toInt ≤ 65535) → Tot (elet (S.2.1 10 2) fun v_12 => elet (v_12 - l2) fun v_13 => elet (if 0 < v_13 then v_13 else 0) fun v_14 => some (v_14, S)) Q) : ∀ (n : Nat) (l2 : Int32) (l3 : Int32), (0 ≤ l2.toInt ∧ l2.toInt ≤ 65535) → (0 ≤ l3.toInt ∧ l3.toInt ≤ 12) → 12 - l3.toInt < (n : Int) → Tot (fr_windowOf_12_b4 n S l2 l3) Q := by
  have z0 : (0 : Int32).toInt = 0 := by decide
  have z1 : (Int32.ofInt (1) : Int32).toInt = 1 := by decide
  have p_4 := pl_4 hP
  intro n
  induction n with
  | zero =>
    intro l2 l3 g_l2 g_l3 hm
    exfalso
    omega
  | succ n ih =>
    intro l2 l3 g_l2 g_l3 hm
    unfold fr_windowOf_12_b4
    refine tot_let (fun v_11 e_v_11 => ?_)
    have q_v_11 := ic_p h_S e_v_11
    refine tot_if (fun c_29 => ?_) (fun c_29 => ?_)
    · replace c_29 := i_le c_29
      exact hx0 l2 (by omega)
    · replace c_29 := i_nle c_29
      refine tot_bindp (R := fun r_15 : Int32 => (0 ≤ r_15.toInt ∧ r_15.toInt ≤ 1)) (sf_hears_12 hP S l3 h_S (by omega)) (fun r_15 d_r_15 => ?_)
      replace d_r_15 : (0 ≤ r_15.toInt ∧ r_15.toInt ≤ 1) := d_r_15
      refine tot_if (fun c_30 => ?_) (fun c_30 => ?_)
      · replace c_30 := i_eq c_30
        unfold fr_windowOf_12_b37
        refine tot_let (fun v_31 e_v_31 => ?_)
        have q_v_31 := i_add e_v_31 (by omega) (by omega)
        exact ih l2 v_31 (by omega) (by omega) (by omega)
      · replace c_30 := i_ne c_30
        refine tot_oif (i_inb (by omega) (by omega)) ?_
        refine tot_let (fun v_17 e_v_17 => ?_)
        have r_v_17 := ic_24 h_S e_v_17
        refine tot_let (fun v_18 e_v_18 => ?_)
        have q_v_18 := i_ilt e_v_18
        unfold fr_windowOf_12_b37
        refine tot_let (fun v_32 e_v_32 => ?_)
        have q_v_32 := i_add e_v_32 (by omega) (by omega)
        exact ih v_18 v_32 (by omega) (by omega) (by omega)
set_option maxHeartbeats 4000000 in
set_option maxRecDepth 10000 in
theorem sf_windowOf_12 {P : Nat → Int32} (hP : PL P) (S : MS) (h_S : IC P S) : Tot (fr_windowOf_12 S) (fun r => r.2 = S ∧ (0 ≤ r.1.toInt ∧ r.1.toInt ≤ 200)) := by
  have z0 : (0 : Int32).toInt = 0 := by decide
  have p_2 := pl_2 hP
  unfold fr_windowOf_12
  refine lf_windowOf_12_b4 hP S h_S ?_ 16384 0 0 (by omega) (by omega) (by omega)
  · intro l_33 g_l_33
    refine tot_let (fun v__34 e_v__34 => ?_)
    have q_v__34 := ic_p h_S e_v__34
    refine tot_let (fun v__35 e_v__35 => ?_)
    have q_v__35 := i_sub e_v__35 (by omega) (by omega)
    refine tot_let (fun v__36 e_v__36 => ?_)
    have q_v__36 := i_ilt e_v__36
    exact tot_some ⟨rfl, (show (0 ≤ v__36.toInt ∧ v__36.toInt ≤ 200) from by omega)⟩
set_option maxHeartbeats 4000000 in
set_option maxRecDepth 10000 in
theorem sf_window {P : Nat → Int32} (hP : PL P) (S : MS) (a0 : Int32) (h_S : IC P S) : Tot (fr_window S a0) (fun r => IC P r.2 ∧ (0 ≤ r.1.toInt ∧ r.1.toInt ≤ 200)) := by
  have z0 : (0 : Int32).toInt = 0 := by decide
  have p_9 := pl_9 hP
  have p_10 := pl_10 hP
  have p_cells := pl_cells hP
  have j_a0 := i_any a0
  unfold fr_window
  refine tot_bindp (R := fun r_1 : Int32 => (r_1.toInt = 0 ∨ r_1.toInt = 1 ∧ (0 ≤ a0.toInt ∧ a0.toInt ≤ 143) ∧ a0.toInt < (P 9).toInt * (P 10).toInt)) (sf_isCell hP S a0 h_S ) (fun r_1 d_r_1 => ?_)
  replace d_r_1 : (r_1.toInt = 0 ∨ r_1.toInt = 1 ∧ (0 ≤ a0.toInt ∧ a0.toInt ≤ 143) ∧ a0.toInt < (P 9).toInt * (P 10).toInt) := d_r_1
  refine tot_bind2 (sf_mayAsk hP S r_1 h_S (by omega)) (fun r_3 S_4 d_r_3 => ?_)
  have h_S_4 : IC P S_4 := d_r_3.1
  replace d_r_3 : (r_3.toInt = 0 ∨ r_3.toInt = 1 ∧ ¬ r_1.toInt = 0) := d_r_3.2
  refine tot_if (fun c_8 => ?_) (fun c_8 => ?_)
  · replace c_8 := i_eq c_8
    exact tot_some ⟨h_S_4, (show (0 ≤ (0 : Int32).toInt ∧ (0 : Int32).toInt ≤ 200) from by omega)⟩
  · replace c_8 := i_ne c_8
    refine tot_bind (sf_laysCell hP S_4 a0 h_S_4 (by omega)) (fun S_5 d_S_5 => ?_)
    have h_S_5 : IC P S_5 := d_S_5.1
    refine tot_bindp (R := fun r_6 : Int32 => (0 ≤ r_6.toInt ∧ r_6.toInt ≤ 200)) (sf_windowOf_12 hP S_5 h_S_5 ) (fun r_6 d_r_6 => ?_)
    replace d_r_6 : (0 ≤ r_6.toInt ∧ r_6.toInt ≤ 200) := d_r_6
    exact tot_some ⟨h_S_5, (show (0 ≤ r_6.toInt ∧ r_6.toInt ≤ 200) from by omega)⟩
set_option maxHeartbeats 4000000 in
set_option maxRecDepth 10000 in
theorem sf_sample {P : Nat → Int32} (hP : PL P) (S : MS) (a0 : Int32) (a1 : Int32) (h_S : IC P S) : Tot (fr_sample S a0 a1) (fun r => IC P r.2 ∧ True) := by
  have z0 : (0 : Int32).toInt = 0 := by decide
  have z1 : (3 : Int32).toInt = 3 := by decide
  have z2 : (200 : Int32).toInt = 200 := by decide
  have z3 : (55 : Int32).toInt = 55 := by decide
  have p_2 := pl_2 hP
  have p_4 := pl_4 hP
  have j_a0 := i_any a0
  have j_a1 := i_any a1
  unfold fr_sample
  refine tot_bindp (R := fun r_1 : Int32 => (r_1.toInt = 0 ∨ r_1.toInt = 1 ∧ 0 ≤ a0.toInt ∧ a0.toInt < (P 4).toInt)) (sf_isMic hP S a0 h_S ) (fun r_1 d_r_1 => ?_)
  replace d_r_1 : (r_1.toInt = 0 ∨ r_1.toInt = 1 ∧ 0 ≤ a0.toInt ∧ a0.toInt < (P 4).toInt) := d_r_1
  refine tot_bind2 (sf_mayAsk hP S r_1 h_S (by omega)) (fun r_3 S_4 d_r_3 => ?_)
  have h_S_4 : IC P S_4 := d_r_3.1
  replace d_r_3 : (r_3.toInt = 0 ∨ r_3.toInt = 1 ∧ ¬ r_1.toInt = 0) := d_r_3.2
  refine tot_if (fun c_13 => ?_) (fun c_13 => ?_)
  · replace c_13 := i_eq c_13
    exact tot_some ⟨h_S_4, trivial⟩
  · replace c_13 := i_ne c_13
    refine tot_bindp (R := fun r_5 : Int32 => (r_5.toInt = 0 ∨ r_5.toInt = 1 ∧ 0 ≤ a1.toInt ∧ a1.toInt < (P 2).toInt)) (sf_isTime hP S_4 a1 h_S_4 ) (fun r_5 d_r_5 => ?_)
    replace d_r_5 : (r_5.toInt = 0 ∨ r_5.toInt = 1 ∧ 0 ≤ a1.toInt ∧ a1.toInt < (P 2).toInt) := d_r_5
    refine tot_if (fun c_14 => ?_) (fun c_14 => ?_)
    · replace c_14 := i_eq c_14
      refine tot_bind2 (sf_throwsAt hP S_4 3 h_S_4 ) (fun r_7 S_8 d_r_7 => ?_)
      have h_S_8 : IC P S_8 := d_r_7.1
      replace d_r_7 : (0 ≤ r_7.toInt ∧ r_7.toInt ≤ 0) := d_r_7.2
      unfold fr_sample_b45
      exact tot_some ⟨h_S_8, trivial⟩
    · replace c_14 := i_ne c_14
      refine tot_let (fun v_9 e_v_9 => ?_)
      have q_v_9 := i_mulk e_v_9 z2 (by omega) (by omega)
      refine tot_let (fun v_10 e_v_10 => ?_)
      have q_v_10 := i_add e_v_10 (by omega) (by omega)
      refine tot_let (fun v_11 e_v_11 => ?_)
      have q_v_11 := i_add e_v_11 (by omega) (by omega)
      refine tot_oif (i_inb (by omega) (by omega)) ?_
      refine tot_let (fun v_12 e_v_12 => ?_)
      have r_v_12 := i_any v_12
      unfold fr_sample_b45
      exact tot_some ⟨h_S_4, trivial⟩
set_option maxHeartbeats 4000000 in
set_option maxRecDepth 10000 in
theorem lf_beamAt_12_b5 {P : Nat → Int32} (hP : PL P) {Q : Int32 × MS → Prop} (S : MS) (l2 : Int32) (h_S : IC P S) (g0 : 0 ≤ l2.toInt ∧ l2.toInt ≤ 199) (hx0 : ∀ (l3 : Int32), Tot (some (l3, S)) Q) : ∀ (n : Nat) (l3 : Int32) (l4 : Int32), (0 ≤ l4.toInt ∧ l4.toInt ≤ 12) → 12 - l4.toInt < (n : Int) → Tot (fr_beamAt_12_b5 n S l2 l3 l4) Q := by
  have z0 : (0 : Int32).toInt = 0 := by decide
  have z1 : (Int32.ofInt (1) : Int32).toInt = 1 := by decide
  have z2 : (13 : Int32).toInt = 13 := by decide
  have z3 : (200 : Int32).toInt = 200 := by decide
  have z4 : (55 : Int32).toInt = 55 := by decide
  have p_2 := pl_2 hP
  have p_4 := pl_4 hP
  have j_l2 := i_any l2
  intro n
  induction n with
  | zero =>
    intro l3 l4 g_l4 hm
    exfalso
    omega
  | succ n ih =>
    intro l3 l4 g_l4 hm
    unfold fr_beamAt_12_b5
    refine tot_let (fun v_22 e_v_22 => ?_)
    have q_v_22 := ic_p h_S e_v_22
    refine tot_if (fun c_58 => ?_) (fun c_58 => ?_)
    · replace c_58 := i_le c_58
      exact hx0 l3 
    · replace c_58 := i_nle c_58
      refine tot_bindp (R := fun r_23 : Int32 => (0 ≤ r_23.toInt ∧ r_23.toInt ≤ 1)) (sf_hears_12 hP S l4 h_S (by omega)) (fun r_23 d_r_23 => ?_)
      replace d_r_23 : (0 ≤ r_23.toInt ∧ r_23.toInt ≤ 1) := d_r_23
      refine tot_if (fun c_59 => ?_) (fun c_59 => ?_)
      · replace c_59 := i_eq c_59
        unfold fr_beamAt_12_b77
        unfold fr_beamAt_12_b78
        refine tot_let (fun v_60 e_v_60 => ?_)
        have r_v_60 := i_any v_60
        refine tot_let (fun v_61 e_v_61 => ?_)
        have q_v_61 := i_add e_v_61 (by omega) (by omega)
        exact ih v_60 v_61 (by omega) (by omega)
      · replace c_59 := i_ne c_59
        refine tot_oif (i_inb (by omega) (by omega)) ?_
        refine tot_let (fun v_25 e_v_25 => ?_)
        have r_v_25 := ic_24 h_S e_v_25
        refine tot_let (fun v_26 e_v_26 => ?_)
        have q_v_26 := i_add e_v_26 (by omega) (by omega)
        refine tot_let (fun v_27 e_v_27 => ?_)
        have q_v_27 := ic_p h_S e_v_27
        refine tot_if (fun c_62 => ?_) (fun c_62 => ?_)
        · replace c_62 := i_le c_62
          unfold fr_beamAt_12_b77
          unfold fr_beamAt_12_b78
          refine tot_let (fun v_63 e_v_63 => ?_)
          have r_v_63 := i_any v_63
          refine tot_let (fun v_64 e_v_64 => ?_)
          have q_v_64 := i_add e_v_64 (by omega) (by omega)
          exact ih v_63 v_64 (by omega) (by omega)
        · replace c_62 := i_nle c_62
          refine tot_let (fun v_28 e_v_28 => ?_)
          have q_v_28 := i_add e_v_28 (by omega) (by omega)
          refine tot_oif (i_inb (by omega) (by omega)) ?_
          refine tot_let (fun v_29 e_v_29 => ?_)
          have r_v_29 := nR_13 (ic_12 h_S e_v_29) (by omega) (by omega)
          refine tot_let (fun v_30 e_v_30 => ?_)
          have q_v_30 := i_mulk e_v_30 z3 (by omega) (by omega)
          refine tot_let (fun v_31 e_v_31 => ?_)
          have q_v_31 := i_add e_v_31 (by omega) (by omega)
          refine tot_let (fun v_32 e_v_32 => ?_)
          have q_v_32 := i_add e_v_32 (by omega) (by omega)
          refine tot_oif (i_inb (by omega) (by omega)) ?_
          refine tot_let (fun v_33 e_v_33 => ?_)
          have r_v_33 := ic_24 h_S e_v_33
          have u_v_33 : v_33.toInt = v_25.toInt := by rw [e_v_33, e_v_25]
          refine tot_let (fun v_34 e_v_34 => ?_)
          have q_v_34 := i_add e_v_34 (by omega) (by omega)
          refine tot_oif (i_inb (by omega) (by omega)) ?_
          refine tot_let (fun v_35 e_v_35 => ?_)
          have r_v_35 := i_any v_35
          refine tot_let (fun v_36 e_v_36 => ?_)
          have r_v_36 := i_any v_36
          unfold fr_beamAt_12_b78
          refine tot_let (fun v_65 e_v_65 => ?_)
          have r_v_65 := i_any v_65
          refine tot_let (fun v_66 e_v_66 => ?_)
          have q_v_66 := i_add e_v_66 (by omega) (by omega)
          exact ih v_65 v_66 (by omega) (by omega)
set_option maxHeartbeats 4000000 in
set_option maxRecDepth 10000 in
theorem sf_beamAt_12 {P : Nat → Int32} (hP : PL P) (S : MS) (a1 : Int32) (h_S : IC P S) (g0 : 0 ≤ a1.toInt ∧ a1.toInt ≤ 199) : Tot (fr_beamAt_12 S a1) (fun r => r.2 = S ∧ True) := by
  have z0 : (0 : Int32).toInt = 0 := by decide
  have j_a1 := i_any a1
  unfold fr_beamAt_12
  refine lf_beamAt_12_b5 hP S a1 h_S (by omega) ?_ 16384 0 0 (by omega) (by omega)
  · intro l_67
    have j_l_67 := i_any l_67
    exact tot_some ⟨rfl, trivial⟩
set_option maxHeartbeats 4000000 in
set_option maxRecDepth 10000 in
theorem sf_beam {P : Nat → Int32} (hP : PL P) (S : MS) (a0 : Int32) (a1 : Int32) (h_S : IC P S) : Tot (fr_beam S a0 a1) (fun r => IC P r.2 ∧ True) := by
  have z0 : (0 : Int32).toInt = 0 := by decide
  have z1 : (1 : Int32).toInt = 1 := by decide
  have z2 : (3 : Int32).toInt = 3 := by decide
  have p_9 := pl_9 hP
  have p_10 := pl_10 hP
  have p_cells := pl_cells hP
  have j_a0 := i_any a0
  have j_a1 := i_any a1
  unfold fr_beam
  refine tot_bindp (R := fun r_1 : Int32 => (r_1.toInt = 0 ∨ r_1.toInt = 1 ∧ (0 ≤ a0.toInt ∧ a0.toInt ≤ 143) ∧ a0.toInt < (P 9).toInt * (P 10).toInt)) (sf_isCell hP S a0 h_S ) (fun r_1 d_r_1 => ?_)
  replace d_r_1 : (r_1.toInt = 0 ∨ r_1.toInt = 1 ∧ (0 ≤ a0.toInt ∧ a0.toInt ≤ 143) ∧ a0.toInt < (P 9).toInt * (P 10).toInt) := d_r_1
  refine tot_bind2 (sf_mayAsk hP S r_1 h_S (by omega)) (fun r_3 S_4 d_r_3 => ?_)
  have h_S_4 : IC P S_4 := d_r_3.1
  replace d_r_3 : (r_3.toInt = 0 ∨ r_3.toInt = 1 ∧ ¬ r_1.toInt = 0) := d_r_3.2
  refine tot_if (fun c_14 => ?_) (fun c_14 => ?_)
  · replace c_14 := i_eq c_14
    exact tot_some ⟨h_S_4, trivial⟩
  · replace c_14 := i_ne c_14
    refine tot_bind (sf_laysCell hP S_4 a0 h_S_4 (by omega)) (fun S_5 d_S_5 => ?_)
    have h_S_5 : IC P S_5 := d_S_5.1
    refine tot_bindp (R := fun r_6 : Int32 => (0 ≤ r_6.toInt ∧ r_6.toInt ≤ 200)) (sf_windowOf_12 hP S_5 h_S_5 ) (fun r_6 d_r_6 => ?_)
    replace d_r_6 : (0 ≤ r_6.toInt ∧ r_6.toInt ≤ 200) := d_r_6
    refine tot_let (fun v_8 e_v_8 => ?_)
    have q_v_8 := i_sub e_v_8 (by omega) (by omega)
    refine tot_bind (sf_in hP a1 0 v_8  ) (fun r_9 d_r_9 => ?_)
    replace d_r_9 : (r_9.toInt = 0 ∧ (a1.toInt < (0 : Int32).toInt ∨ v_8.toInt < a1.toInt) ∨ r_9.toInt = 1 ∧ (0 : Int32).toInt ≤ a1.toInt ∧ a1.toInt ≤ v_8.toInt) := d_r_9
    refine tot_if (fun c_15 => ?_) (fun c_15 => ?_)
    · replace c_15 := i_eq c_15
      refine tot_bind2 (sf_throwsAt hP S_5 3 h_S_5 ) (fun r_10 S_11 d_r_10 => ?_)
      have h_S_11 : IC P S_11 := d_r_10.1
      replace d_r_10 : (0 ≤ r_10.toInt ∧ r_10.toInt ≤ 0) := d_r_10.2
      unfold fr_beam_b54
      exact tot_some ⟨h_S_11, trivial⟩
    · replace c_15 := i_ne c_15
      refine tot_bindp (R := fun r_12 : Int32 => True) (sf_beamAt_12 hP S_5 a1 h_S_5 (by omega)) (fun r_12 d_r_12 => ?_)
      unfold fr_beam_b54
      exact tot_some ⟨h_S_5, trivial⟩
set_option maxHeartbeats 4000000 in
set_option maxRecDepth 10000 in
theorem lf_energy_12_b6 {P : Nat → Int32} (hP : PL P) {Q : Int64 × MS → Prop} (S : MS) (l3 : Int32) (h_S : IC P S) (g0 : 0 ≤ l3.toInt ∧ l3.toInt ≤ 200) (hx0 : ∀ (l4 : Int64), Tot (some (l4, S)) Q) : ∀ (n : Nat) (l4 : Int64) (l6 : Int32), (0 ≤ l6.toInt ∧ l6.toInt ≤ 9800) → 9800 - l6.toInt < (n : Int) → Tot (fr_energy_12_b6 n S l3 l4 l6) Q := by
  have z0 : (Int32.ofInt (1) : Int32).toInt = 1 := by decide
  have j_l3 := i_any l3
  intro n
  induction n with
  | zero =>
    intro l4 l6 g_l6 hm
    exfalso
    omega
  | succ n ih =>
    intro l4 l6 g_l6 hm
    unfold fr_energy_12_b6
    refine tot_if (fun c_19 => ?_) (fun c_19 => ?_)
    · replace c_19 := i_le c_19
      exact hx0 l4 
    · replace c_19 := i_nle c_19
      refine tot_bindp (R := fun r_7 : Int32 => True) (sf_beamAt_12 hP S l6 h_S (by omega)) (fun r_7 d_r_7 => ?_)
      refine tot_let (fun v_9 e_v_9 => ?_)
      refine tot_let (fun v_10 e_v_10 => ?_)
      refine tot_let (fun v_11 e_v_11 => ?_)
      refine tot_let (fun v_12 e_v_12 => ?_)
      have q_v_12 := i_add e_v_12 (by omega) (by omega)
      exact ih v_11 v_12 (by omega) (by omega)
set_option maxHeartbeats 4000000 in
set_option maxRecDepth 10000 in
theorem sf_energy_12 {P : Nat → Int32} (hP : PL P) (S : MS) (a1 : Int32) (a2 : Int32) (h_S : IC P S) (g0 : 0 ≤ a1.toInt ∧ a1.toInt ≤ 9800) (g1 : 0 ≤ a2.toInt ∧ a2.toInt ≤ 200) : Tot (fr_energy_12 S a1 a2) (fun r => r.2 = S ∧ True) := by
  have j_a1 := i_any a1
  have j_a2 := i_any a2
  unfold fr_energy_12
  refine lf_energy_12_b6 hP S a2 h_S (by omega) ?_ 16384 (0 : Int64) a1 (by omega) (by omega)
  · intro l_20
    exact tot_some ⟨rfl, trivial⟩
set_option maxHeartbeats 4000000 in
set_option maxRecDepth 10000 in
theorem sf_powerHere_12 {P : Nat → Int32} (hP : PL P) (S : MS) (h_S : IC P S) : Tot (fr_powerHere_12 S) (fun r => r.2 = S ∧ True) := by
  have z0 : (0 : Int32).toInt = 0 := by decide
  unfold fr_powerHere_12
  refine tot_bindp (R := fun r_1 : Int32 => (0 ≤ r_1.toInt ∧ r_1.toInt ≤ 200)) (sf_windowOf_12 hP S h_S ) (fun r_1 d_r_1 => ?_)
  replace d_r_1 : (0 ≤ r_1.toInt ∧ r_1.toInt ≤ 200) := d_r_1
  refine tot_if (fun c_7 => ?_) (fun c_7 => ?_)
  · replace c_7 := i_eq c_7
    unfold fr_powerHere_12_b24
    exact tot_some ⟨rfl, trivial⟩
  · replace c_7 := i_ne c_7
    refine tot_bindp (R := fun r_3 : Int64 => True) (sf_energy_12 hP S 0 r_1 h_S (by omega) (by omega)) (fun r_3 d_r_3 => ?_)
    refine tot_let (fun v_5 e_v_5 => ?_)
    refine tot_oif (by rw [e_v_5]; exact i_nz64 (by omega)) ?_
    refine tot_let (fun v_6 e_v_6 => ?_)
    unfold fr_powerHere_12_b24
    exact tot_some ⟨rfl, trivial⟩
set_option maxHeartbeats 4000000 in
set_option maxRecDepth 10000 in
theorem sf_powerOf_12 {P : Nat → Int32} (hP : PL P) (S : MS) (a1 : Int32) (h_S : IC P S) (g0 : 0 ≤ a1.toInt ∧ a1.toInt ≤ 143) : Tot (fr_powerOf_12 S a1) (fun r => IC P r.2 ∧ True) := by
  have j_a1 := i_any a1
  unfold fr_powerOf_12
  refine tot_bind (sf_laysCell hP S a1 h_S (by omega)) (fun S_1 d_S_1 => ?_)
  have h_S_1 : IC P S_1 := d_S_1.1
  refine tot_bindp (R := fun r_2 : Int64 => True) (sf_powerHere_12 hP S_1 h_S_1 ) (fun r_2 d_r_2 => ?_)
  exact tot_some ⟨h_S_1, trivial⟩
set_option maxHeartbeats 4000000 in
set_option maxRecDepth 10000 in
theorem sf_power {P : Nat → Int32} (hP : PL P) (S : MS) (a0 : Int32) (h_S : IC P S) : Tot (fr_power S a0) (fun r => IC P r.2 ∧ True) := by
  have z0 : (0 : Int32).toInt = 0 := by decide
  have p_9 := pl_9 hP
  have p_10 := pl_10 hP
  have p_cells := pl_cells hP
  have j_a0 := i_any a0
  unfold fr_power
  refine tot_bindp (R := fun r_1 : Int32 => (r_1.toInt = 0 ∨ r_1.toInt = 1 ∧ (0 ≤ a0.toInt ∧ a0.toInt ≤ 143) ∧ a0.toInt < (P 9).toInt * (P 10).toInt)) (sf_isCell hP S a0 h_S ) (fun r_1 d_r_1 => ?_)
  replace d_r_1 : (r_1.toInt = 0 ∨ r_1.toInt = 1 ∧ (0 ≤ a0.toInt ∧ a0.toInt ≤ 143) ∧ a0.toInt < (P 9).toInt * (P 10).toInt) := d_r_1
  refine tot_bind2 (sf_mayAsk hP S r_1 h_S (by omega)) (fun r_3 S_4 d_r_3 => ?_)
  have h_S_4 : IC P S_4 := d_r_3.1
  replace d_r_3 : (r_3.toInt = 0 ∨ r_3.toInt = 1 ∧ ¬ r_1.toInt = 0) := d_r_3.2
  refine tot_if (fun c_7 => ?_) (fun c_7 => ?_)
  · replace c_7 := i_eq c_7
    unfold fr_power_b25
    exact tot_some ⟨h_S_4, trivial⟩
  · replace c_7 := i_ne c_7
    refine tot_bind2 (sf_powerOf_12 hP S_4 a0 h_S_4 (by omega)) (fun r_5 S_6 d_r_5 => ?_)
    have h_S_6 : IC P S_6 := d_r_5.1
    unfold fr_power_b25
    exact tot_some ⟨h_S_6, trivial⟩
set_option maxHeartbeats 4000000 in
set_option maxRecDepth 10000 in
theorem sf_powerAt {P : Nat → Int32} (hP : PL P) (S : MS) (a0 : Int32) (a1 : Int32) (h_S : IC P S) : Tot (fr_powerAt S a0 a1) (fun r => IC P r.2 ∧ True) := by
  have z0 : (0 : Int32).toInt = 0 := by decide
  have j_a0 := i_any a0
  have j_a1 := i_any a1
  unfold fr_powerAt
  refine tot_bind (sf_isPoint hP a0 a1  ) (fun r_1 d_r_1 => ?_)
  replace d_r_1 : (r_1.toInt = 0 ∨ r_1.toInt = 1 ∧ (-9999 ≤ a0.toInt ∧ a0.toInt ≤ 9999) ∧ -9999 ≤ a1.toInt ∧ a1.toInt ≤ 9999) := d_r_1
  refine tot_bind2 (sf_mayAsk hP S r_1 h_S (by omega)) (fun r_2 S_3 d_r_2 => ?_)
  have h_S_3 : IC P S_3 := d_r_2.1
  replace d_r_2 : (r_2.toInt = 0 ∨ r_2.toInt = 1 ∧ ¬ r_1.toInt = 0) := d_r_2.2
  refine tot_if (fun c_7 => ?_) (fun c_7 => ?_)
  · replace c_7 := i_eq c_7
    exact tot_some ⟨h_S_3, trivial⟩
  · replace c_7 := i_ne c_7
    refine tot_bind (sf_laysPoint hP S_3 a0 a1 h_S_3 (by omega) (by omega)) (fun S_4 d_S_4 => ?_)
    have h_S_4 : IC P S_4 := d_S_4.1
    refine tot_bindp (R := fun r_5 : Int64 => True) (sf_powerHere_12 hP S_4 h_S_4 ) (fun r_5 d_r_5 => ?_)
    exact tot_some ⟨h_S_4, trivial⟩
set_option maxHeartbeats 4000000 in
set_option maxRecDepth 10000 in
theorem lf_laysPowers_12_b2 {P : Nat → Int32} (hP : PL P) {Q : MS → Prop} (hx0 : ∀ (S : MS), (IC P S) → Tot (some (S)) Q) : ∀ (n : Nat) (S : MS) (l2 : Int32), (IC P S) → (0 ≤ l2.toInt ∧ l2.toInt ≤ 144) → 144 - l2.toInt < (n : Int) → Tot (fr_laysPowers_12_b2 n S l2) Q := by
  have z0 : (Int32.ofInt (1) : Int32).toInt = 1 := by decide
  have p_9 := pl_9 hP
  have p_10 := pl_10 hP
  have p_cells := pl_cells hP
  intro n
  induction n with
  | zero =>
    intro S l2 h_S g_l2 hm
    exfalso
    omega
  | succ n ih =>
    intro S l2 h_S g_l2 hm
    unfold fr_laysPowers_12_b2
    refine tot_bindp (R := fun r_7 : Int32 => ((1 ≤ r_7.toInt ∧ r_7.toInt ≤ 144) ∧ r_7.toInt = (P 9).toInt * (P 10).toInt)) (sf_cellCount hP S h_S ) (fun r_7 d_r_7 => ?_)
    replace d_r_7 : ((1 ≤ r_7.toInt ∧ r_7.toInt ≤ 144) ∧ r_7.toInt = (P 9).toInt * (P 10).toInt) := d_r_7
    refine tot_if (fun c_19 => ?_) (fun c_19 => ?_)
    · replace c_19 := i_le c_19
      exact hx0 S h_S
    · replace c_19 := i_nle c_19
      refine tot_bind2 (sf_powerOf_12 hP S l2 h_S (by omega)) (fun r_9 S_10 d_r_9 => ?_)
      have h_S_10 : IC P S_10 := d_r_9.1
      refine tot_oif (i_inb (by omega) (by omega)) ?_
      refine tot_let (fun S_11 e_S_11 => ?_)
      have h_S_11 : IC P S_11 := by rw [e_S_11]; exact ic_mg25 h_S_10 _
      refine tot_let (fun v_12 e_v_12 => ?_)
      have q_v_12 := i_add e_v_12 (by omega) (by omega)
      exact ih S_11 v_12 h_S_11 (by omega) (by omega)
set_option maxHeartbeats 4000000 in
set_option maxRecDepth 10000 in
theorem sf_laysPowers_12 {P : Nat → Int32} (hP : PL P) (S : MS) (h_S : IC P S) : Tot (fr_laysPowers_12 S) (fun S1 => IC P S1 ∧ True) := by
  have z0 : (0 : Int32).toInt = 0 := by decide
  unfold fr_laysPowers_12
  refine lf_laysPowers_12_b2 hP  ?_ 16384 S 0 h_S (by omega) (by omega)
  · intro S_20 h_S_20
    exact tot_some ⟨h_S_20, trivial⟩
set_option maxHeartbeats 4000000 in
set_option maxRecDepth 10000 in
theorem lf_bestIn_12_b9 {P : Nat → Int32} (hP : PL P) {Q : Int32 × MS → Prop} (hx0 : ∀ (S : MS) (l2 : Int32), (IC P S) → (0 ≤ l2.toInt ∧ l2.toInt ≤ 143) → Tot (some (l2, S)) Q) : ∀ (n : Nat) (S : MS) (l2 : Int32) (l3 : Int32), (IC P S) → (0 ≤ l2.toInt ∧ l2.toInt ≤ 143) → (1 ≤ l3.toInt ∧ l3.toInt ≤ 144) → 144 - l3.toInt < (n : Int) → Tot (fr_bestIn_12_b9 n S l2 l3) Q := by
  have z0 : (0 : Int32).toInt = 0 := by decide
  have z1 : (Int32.ofInt (1) : Int32).toInt = 1 := by decide
  have p_9 := pl_9 hP
  have p_10 := pl_10 hP
  have p_cells := pl_cells hP
  intro n
  induction n with
  | zero =>
    intro S l2 l3 h_S g_l2 g_l3 hm
    exfalso
    omega
  | succ n ih =>
    intro S l2 l3 h_S g_l2 g_l3 hm
    unfold fr_bestIn_12_b9
    refine tot_bindp (R := fun r_9 : Int32 => ((1 ≤ r_9.toInt ∧ r_9.toInt ≤ 144) ∧ r_9.toInt = (P 9).toInt * (P 10).toInt)) (sf_cellCount hP S h_S ) (fun r_9 d_r_9 => ?_)
    replace d_r_9 : ((1 ≤ r_9.toInt ∧ r_9.toInt ≤ 144) ∧ r_9.toInt = (P 9).toInt * (P 10).toInt) := d_r_9
    refine tot_if (fun c_21 => ?_) (fun c_21 => ?_)
    · replace c_21 := i_le c_21
      exact hx0 S l2 h_S (by omega)
    · replace c_21 := i_nle c_21
      refine tot_oif (i_inb (by omega) (by omega)) ?_
      refine tot_let (fun v_11 e_v_11 => ?_)
      refine tot_oif (i_inb (by omega) (by omega)) ?_
      refine tot_let (fun v_12 e_v_12 => ?_)
      refine tot_let (fun v_13 e_v_13 => ?_)
      have r_v_13 := i_any v_13
      refine tot_if (fun c_22 => ?_) (fun c_22 => ?_)
      · replace c_22 := i_le c_22
        unfold fr_bestIn_12_b38
        refine tot_let (fun v_23 e_v_23 => ?_)
        have q_v_23 := i_add e_v_23 (by omega) (by omega)
        exact ih S l2 v_23 h_S (by omega) (by omega) (by omega)
      · replace c_22 := i_nle c_22
        unfold fr_bestIn_12_b38
        refine tot_let (fun v_24 e_v_24 => ?_)
        have q_v_24 := i_add e_v_24 (by omega) (by omega)
        exact ih S l3 v_24 h_S (by omega) (by omega) (by omega)
set_option maxHeartbeats 4000000 in
set_option maxRecDepth 10000 in
theorem sf_bestIn_12 {P : Nat → Int32} (hP : PL P) (S : MS) (h_S : IC P S) : Tot (fr_bestIn_12 S) (fun r => IC P r.2 ∧ (0 ≤ r.1.toInt ∧ r.1.toInt ≤ 143)) := by
  have z0 : (0 : Int32).toInt = 0 := by decide
  have z1 : (1 : Int32).toInt = 1 := by decide
  unfold fr_bestIn_12
  refine tot_bind (sf_laysPowers_12 hP S h_S ) (fun S_1 d_S_1 => ?_)
  have h_S_1 : IC P S_1 := d_S_1.1
  refine lf_bestIn_12_b9 hP  ?_ 16384 S_1 0 1 h_S_1 (by omega) (by omega) (by omega)
  · intro S_25 l_26 h_S_25 g_l_26
    exact tot_some ⟨h_S_25, (show (0 ≤ l_26.toInt ∧ l_26.toInt ≤ 143) from by omega)⟩
set_option maxHeartbeats 4000000 in
set_option maxRecDepth 10000 in
theorem sf_best {P : Nat → Int32} (hP : PL P) (S : MS) (h_S : IC P S) : Tot (fr_best S) (fun r => IC P r.2 ∧ (0 ≤ r.1.toInt ∧ r.1.toInt ≤ 143)) := by
  have z0 : (1 : Int32).toInt = 1 := by decide
  have z1 : (0 : Int32).toInt = 0 := by decide
  unfold fr_best
  refine tot_bind2 (sf_mayAsk hP S 1 h_S (by omega)) (fun r_1 S_2 d_r_1 => ?_)
  have h_S_2 : IC P S_2 := d_r_1.1
  replace d_r_1 : (r_1.toInt = 0 ∨ r_1.toInt = 1 ∧ ¬ (1 : Int32).toInt = 0) := d_r_1.2
  refine tot_if (fun c_5 => ?_) (fun c_5 => ?_)
  · replace c_5 := i_eq c_5
    unfold fr_best_b20
    exact tot_some ⟨h_S_2, (show (0 ≤ (0 : Int32).toInt ∧ (0 : Int32).toInt ≤ 143) from by omega)⟩
  · replace c_5 := i_ne c_5
    refine tot_bind2 (sf_bestIn_12 hP S_2 h_S_2 ) (fun r_3 S_4 d_r_3 => ?_)
    have h_S_4 : IC P S_4 := d_r_3.1
    replace d_r_3 : (0 ≤ r_3.toInt ∧ r_3.toInt ≤ 143) := d_r_3.2
    unfold fr_best_b20
    exact tot_some ⟨h_S_4, (show (0 ≤ r_3.toInt ∧ r_3.toInt ≤ 143) from by omega)⟩
set_option maxHeartbeats 4000000 in
set_option maxRecDepth 10000 in
theorem sf_bestPower {P : Nat → Int32} (hP : PL P) (S : MS) (h_S : IC P S) : Tot (fr_bestPower S) (fun r => IC P r.2 ∧ True) := by
  have z0 : (1 : Int32).toInt = 1 := by decide
  have z1 : (0 : Int32).toInt = 0 := by decide
  unfold fr_bestPower
  refine tot_bind2 (sf_mayAsk hP S 1 h_S (by omega)) (fun r_1 S_2 d_r_1 => ?_)
  have h_S_2 : IC P S_2 := d_r_1.1
  replace d_r_1 : (r_1.toInt = 0 ∨ r_1.toInt = 1 ∧ ¬ (1 : Int32).toInt = 0) := d_r_1.2
  refine tot_if (fun c_6 => ?_) (fun c_6 => ?_)
  · replace c_6 := i_eq c_6
    unfold fr_bestPower_b25
    exact tot_some ⟨h_S_2, trivial⟩
  · replace c_6 := i_ne c_6
    refine tot_bind2 (sf_bestIn_12 hP S_2 h_S_2 ) (fun r_3 S_4 d_r_3 => ?_)
    have h_S_4 : IC P S_4 := d_r_3.1
    replace d_r_3 : (0 ≤ r_3.toInt ∧ r_3.toInt ≤ 143) := d_r_3.2
    refine tot_oif (i_inb (by omega) (by omega)) ?_
    refine tot_let (fun v_5 e_v_5 => ?_)
    unfold fr_bestPower_b25
    exact tot_some ⟨h_S_4, trivial⟩
set_option maxHeartbeats 4000000 in
set_option maxRecDepth 10000 in
theorem lf_meanPower_b22 {P : Nat → Int32} (hP : PL P) {Q : Int64 × MS → Prop} (hx0 : ∀ (S : MS) (l1 : Int64), (IC P S) → Tot (obind2 (fr_cellCount S) fun r_16 S_17 => elet (r_16.toInt64) fun v_18 => oif (¬ v_18 = 0) <| elet (l1 / v_18) fun v_19 => some (v_19, S_17)) Q) : ∀ (n : Nat) (S : MS) (l1 : Int64) (l3 : Int32), (IC P S) → (0 ≤ l3.toInt ∧ l3.toInt ≤ 144) → 144 - l3.toInt < (n : Int) → Tot (fr_meanPower_b22 n S l1 l3) Q := by
  have z0 : (Int32.ofInt (1) : Int32).toInt = 1 := by decide
  have p_9 := pl_9 hP
  have p_10 := pl_10 hP
  have p_cells := pl_cells hP
  intro n
  induction n with
  | zero =>
    intro S l1 l3 h_S g_l3 hm
    exfalso
    omega
  | succ n ih =>
    intro S l1 l3 h_S g_l3 hm
    unfold fr_meanPower_b22
    refine tot_bindp (R := fun r_14 : Int32 => ((1 ≤ r_14.toInt ∧ r_14.toInt ≤ 144) ∧ r_14.toInt = (P 9).toInt * (P 10).toInt)) (sf_cellCount hP S h_S ) (fun r_14 d_r_14 => ?_)
    replace d_r_14 : ((1 ≤ r_14.toInt ∧ r_14.toInt ≤ 144) ∧ r_14.toInt = (P 9).toInt * (P 10).toInt) := d_r_14
    refine tot_if (fun c_32 => ?_) (fun c_32 => ?_)
    · replace c_32 := i_le c_32
      exact hx0 S l1 h_S
    · replace c_32 := i_nle c_32
      refine tot_oif (i_inb (by omega) (by omega)) ?_
      refine tot_let (fun v_20 e_v_20 => ?_)
      refine tot_let (fun v_21 e_v_21 => ?_)
      refine tot_let (fun v_22 e_v_22 => ?_)
      have q_v_22 := i_add e_v_22 (by omega) (by omega)
      exact ih S v_21 v_22 h_S (by omega) (by omega)
set_option maxHeartbeats 4000000 in
set_option maxRecDepth 10000 in
theorem sf_meanPower {P : Nat → Int32} (hP : PL P) (S : MS) (h_S : IC P S) : Tot (fr_meanPower S) (fun r => IC P r.2 ∧ True) := by
  have z0 : (1 : Int32).toInt = 1 := by decide
  have z1 : (0 : Int32).toInt = 0 := by decide
  have p_9 := pl_9 hP
  have p_10 := pl_10 hP
  have p_cells := pl_cells hP
  unfold fr_meanPower
  refine tot_bind2 (sf_mayAsk hP S 1 h_S (by omega)) (fun r_1 S_2 d_r_1 => ?_)
  have h_S_2 : IC P S_2 := d_r_1.1
  replace d_r_1 : (r_1.toInt = 0 ∨ r_1.toInt = 1 ∧ ¬ (1 : Int32).toInt = 0) := d_r_1.2
  refine tot_if (fun c_4 => ?_) (fun c_4 => ?_)
  · replace c_4 := i_eq c_4
    exact tot_some ⟨h_S_2, trivial⟩
  · replace c_4 := i_ne c_4
    refine tot_bind (sf_laysPowers_12 hP S_2 h_S_2 ) (fun S_3 d_S_3 => ?_)
    have h_S_3 : IC P S_3 := d_S_3.1
    refine lf_meanPower_b22 hP  ?_ 16384 S_3 (0 : Int64) 0 h_S_3 (by omega) (by omega)
    · intro S_33 l_34 h_S_33
      refine tot_bindp (R := fun r__35 : Int32 => ((1 ≤ r__35.toInt ∧ r__35.toInt ≤ 144) ∧ r__35.toInt = (P 9).toInt * (P 10).toInt)) (sf_cellCount hP S_33 h_S_33 ) (fun r__35 d_r__35 => ?_)
      replace d_r__35 : ((1 ≤ r__35.toInt ∧ r__35.toInt ≤ 144) ∧ r__35.toInt = (P 9).toInt * (P 10).toInt) := d_r__35
      refine tot_let (fun v__37 e_v__37 => ?_)
      refine tot_oif (by rw [e_v__37]; exact i_nz64 (by omega)) ?_
      refine tot_let (fun v__38 e_v__38 => ?_)
      exact tot_some ⟨h_S_33, trivial⟩
set_option maxHeartbeats 4000000 in
set_option maxRecDepth 10000 in
theorem lf_isTop_b58 {P : Nat → Int32} (hP : PL P) {Q : Int32 × MS → Prop} {k29 : MS → Int32 → Int32 → Int32 → Int32 → Option (Int32 × MS)} (S : MS) (l1 : Int32) (l2 : Int32) (l3 : Int32) (l4 : Int32) (h_S : IC P S) (g0 : 0 ≤ l1.toInt ∧ l1.toInt ≤ 143) (g1 : 0 ≤ l2.toInt ∧ l2.toInt ≤ 11) (g2 : 0 ≤ l3.toInt ∧ l3.toInt ≤ 143) (g3 : 0 ≤ l4.toInt ∧ l4.toInt ≤ 11) (hx0 : ∀ (_ : Unit), Tot (elet (l4 + Int32.ofInt (1)) fun v_71 => k29 S l1 l2 l3 v_71) Q) (hx1 : ∀ (_ : Unit), Tot (some (0, S)) Q) : ∀ (n : Nat) (l5 : Int32), (0 ≤ l5.toInt ∧ l5.toInt ≤ 12) → 12 - l5.toInt < (n : Int) → Tot (fr_isTop_b58 k29 n S l1 l2 l3 l4 l5) Q := by
  have z0 : (1 : Int32).toInt = 1 := by decide
  have z1 : (Int32.ofInt (1) : Int32).toInt = 1 := by decide
  have z2 : (0 : Int32).toInt = 0 := by decide
  have p_9 := pl_9 hP
  have p_cells := pl_cells hP
  have j_l1 := i_any l1
  have j_l2 := i_any l2
  have j_l3 := i_any l3
  have j_l4 := i_any l4
  intro n
  induction n with
  | zero =>
    intro l5 g_l5 hm
    exfalso
    omega
  | succ n ih =>
    intro l5 g_l5 hm
    unfold fr_isTop_b58
    refine tot_let (fun v_67 e_v_67 => ?_)
    have q_v_67 := ic_p h_S e_v_67
    refine tot_let (fun v_68 e_v_68 => ?_)
    have q_v_68 := i_sub e_v_68 (by omega) (by omega)
    refine tot_let (fun v_69 e_v_69 => ?_)
    have q_v_69 := i_add e_v_69 (by omega) (by omega)
    refine tot_let (fun v_70 e_v_70 => ?_)
    have q_v_70 := i_ilt e_v_70
    refine tot_if (fun c_91 => ?_) (fun c_91 => ?_)
    · replace c_91 := i_lt c_91
      exact hx0 () 
    · replace c_91 := i_nlt c_91
      refine tot_let (fun v_72 e_v_72 => ?_)
      have q_v_72 := ic_p h_S e_v_72
      refine tot_let (fun v_73 e_v_73 => ?_)
      have q_v_73 := i_mulp (a := 1) (b := 12) (c := 0) (d := 11) e_v_73 (by omega) (by omega) (by omega) (by omega) (by decide)
      refine tot_let (fun v_74 e_v_74 => ?_)
      have q_v_74 := i_add e_v_74 (by omega) (by omega)
      refine tot_if (fun c_92 => ?_) (fun c_92 => ?_)
      · replace c_92 := i_eq c_92
        unfold fr_isTop_b118
        refine tot_let (fun v_93 e_v_93 => ?_)
        have q_v_93 := i_add e_v_93 (by omega) (by omega)
        exact ih v_93 (by omega) (by omega)
      · replace c_92 := i_ne c_92
        refine tot_oif (i_inb (by omega) (by omega)) ?_
        refine tot_let (fun v_75 e_v_75 => ?_)
        refine tot_oif (i_inb (by omega) (by omega)) ?_
        refine tot_let (fun v_76 e_v_76 => ?_)
        refine tot_let (fun v_77 e_v_77 => ?_)
        have r_v_77 := i_any v_77
        refine tot_if (fun c_94 => ?_) (fun c_94 => ?_)
        · replace c_94 := i_lt c_94
          unfold fr_isTop_b118
          refine tot_let (fun v_95 e_v_95 => ?_)
          have q_v_95 := i_add e_v_95 (by omega) (by omega)
          exact ih v_95 (by omega) (by omega)
        · replace c_94 := i_nlt c_94
          exact hx1 () 
set_option maxHeartbeats 4000000 in
set_option maxRecDepth 10000 in
theorem lf_isTop_b29 {P : Nat → Int32} (hP : PL P) {Q : Int32 × MS → Prop} (S : MS) (l1 : Int32) (l2 : Int32) (l3 : Int32) (h_S : IC P S) (g0 : 0 ≤ l1.toInt ∧ l1.toInt ≤ 143) (g1 : 0 ≤ l2.toInt ∧ l2.toInt ≤ 11) (g2 : 0 ≤ l3.toInt ∧ l3.toInt ≤ 143) (hx0 : ∀ (_ : Unit), Tot (some (1, S)) Q) (hx1 : ∀ (_ : Unit), Tot (some (0, S)) Q) : ∀ (n : Nat) (l4 : Int32), (0 ≤ l4.toInt ∧ l4.toInt ≤ 142) → 142 - l4.toInt < (n : Int) → Tot (fr_isTop_b29 n S l1 l2 l3 l4) Q := by
  have z0 : (1 : Int32).toInt = 1 := by decide
  have z1 : (0 : Int32).toInt = 0 := by decide
  have z2 : (Int32.ofInt (1) : Int32).toInt = 1 := by decide
  have p_10 := pl_10 hP
  have j_l1 := i_any l1
  have j_l2 := i_any l2
  have j_l3 := i_any l3
  intro n
  induction n with
  | zero =>
    intro l4 g_l4 hm
    exfalso
    omega
  | succ n ih =>
    intro l4 g_l4 hm
    unfold fr_isTop_b29
    refine tot_let (fun v_40 e_v_40 => ?_)
    have q_v_40 := ic_p h_S e_v_40
    refine tot_let (fun v_41 e_v_41 => ?_)
    have q_v_41 := i_sub e_v_41 (by omega) (by omega)
    refine tot_let (fun v_42 e_v_42 => ?_)
    have q_v_42 := i_add e_v_42 (by omega) (by omega)
    refine tot_let (fun v_43 e_v_43 => ?_)
    have q_v_43 := i_ilt e_v_43
    refine tot_if (fun c_66 => ?_) (fun c_66 => ?_)
    · replace c_66 := i_lt c_66
      exact hx0 () 
    · replace c_66 := i_nlt c_66
      refine tot_let (fun v_44 e_v_44 => ?_)
      have q_v_44 := i_sub e_v_44 (by omega) (by omega)
      refine tot_let (fun v_45 e_v_45 => ?_)
      have q_v_45 := i_ilt e_v_45
      refine lf_isTop_b58 hP S l1 l2 l3 l4 h_S (by omega) (by omega) (by omega) (by omega) ?_ ?_ 16384 v_45 (by omega) (by omega)
      · intro _
        refine tot_let (fun v__96 e_v__96 => ?_)
        have q_v__96 := i_add e_v__96 (by omega) (by omega)
        exact ih v__96 (by omega) (by omega)
      · intro _
        exact hx1 () 
set_option maxHeartbeats 4000000 in
set_option maxRecDepth 10000 in
theorem sf_isTop {P : Nat → Int32} (hP : PL P) (S : MS) (a0 : Int32) (h_S : IC P S) (g0 : 0 ≤ a0.toInt ∧ a0.toInt ≤ 143) : Tot (fr_isTop S a0) (fun r => r.2 = S ∧ (0 ≤ r.1.toInt ∧ r.1.toInt ≤ 1)) := by
  have z0 : (0 : Int32).toInt = 0 := by decide
  have z1 : (1 : Int32).toInt = 1 := by decide
  have p_9 := pl_9 hP
  have p_cells := pl_cells hP
  have j_a0 := i_any a0
  unfold fr_isTop
  refine tot_let (fun v_1 e_v_1 => ?_)
  have q_v_1 := ic_p h_S e_v_1
  refine tot_oif (i_nz (by omega)) ?_
  refine tot_let (fun v_2 e_v_2 => ?_)
  have q_v_2 := i_rem e_v_2 (by omega) (by omega)
  refine tot_let (fun v_3 e_v_3 => ?_)
  have q_v_3 := ic_p h_S e_v_3
  refine tot_oif (i_nz (by omega)) ?_
  refine tot_let (fun v_4 e_v_4 => ?_)
  have q_v_4 := i_div (c := 1) e_v_4 (by omega) (by omega) (by decide)
  refine tot_let (fun v_5 e_v_5 => ?_)
  have q_v_5 := i_sub e_v_5 (by omega) (by omega)
  refine tot_let (fun v_6 e_v_6 => ?_)
  have q_v_6 := i_ilt e_v_6
  refine lf_isTop_b29 hP S a0 v_2 v_4 h_S (by omega) (by omega) (by omega) ?_ ?_ 16384 v_6 (by omega) (by omega)
  · intro _
    exact tot_some ⟨rfl, (show (0 ≤ (1 : Int32).toInt ∧ (1 : Int32).toInt ≤ 1) from by omega)⟩
  · intro _
    exact tot_some ⟨rfl, (show (0 ≤ (0 : Int32).toInt ∧ (0 : Int32).toInt ≤ 1) from by omega)⟩
end
section
/-! 12c.sc2.lean.txt -/
set_option maxHeartbeats 4000000 in
set_option maxRecDepth 10000 in
theorem lf_peaks_b22 {P : Nat → Int32} (hP : PL P) {Q : Int32 × MS → Prop} (hx0 : ∀ (S : MS) (l1 : Int32), (IC P S) → Tot (some (l1, S)) Q) : ∀ (n : Nat) (S : MS) (l1 : Int32) (l2 : Int32), (IC P S) → (0 ≤ l2.toInt ∧ l2.toInt ≤ 144) → 144 - l2.toInt < (n : Int) → Tot (fr_peaks_b22 n S l1 l2) Q := by
  have z0 : (0 : Int32).toInt = 0 := by decide
  have z1 : (Int32.ofInt (1) : Int32).toInt = 1 := by decide
  have z2 : (1 : Int32).toInt = 1 := by decide
  have p_9 := pl_9 hP
  have p_10 := pl_10 hP
  have p_cells := pl_cells hP
  intro n
  induction n with
  | zero =>
    intro S l1 l2 h_S g_l2 hm
    exfalso
    omega
  | succ n ih =>
    intro S l1 l2 h_S g_l2 hm
    unfold fr_peaks_b22
    refine tot_bindp (R := fun r_13 : Int32 => ((1 ≤ r_13.toInt ∧ r_13.toInt ≤ 144) ∧ r_13.toInt = (P 9).toInt * (P 10).toInt)) (sf_cellCount hP S h_S ) (fun r_13 d_r_13 => ?_)
    replace d_r_13 : ((1 ≤ r_13.toInt ∧ r_13.toInt ≤ 144) ∧ r_13.toInt = (P 9).toInt * (P 10).toInt) := d_r_13
    refine tot_if (fun c_25 => ?_) (fun c_25 => ?_)
    · replace c_25 := i_le c_25
      exact hx0 S l1 h_S
    · replace c_25 := i_nle c_25
      refine tot_bindp (R := fun r_15 : Int32 => (0 ≤ r_15.toInt ∧ r_15.toInt ≤ 1)) (sf_isTop hP S l2 h_S (by omega)) (fun r_15 d_r_15 => ?_)
      replace d_r_15 : (0 ≤ r_15.toInt ∧ r_15.toInt ≤ 1) := d_r_15
      refine tot_if (fun c_26 => ?_) (fun c_26 => ?_)
      · replace c_26 := i_eq c_26
        unfold fr_peaks_b44
        refine tot_let (fun v_27 e_v_27 => ?_)
        have r_v_27 := i_any v_27
        refine tot_let (fun v_28 e_v_28 => ?_)
        have q_v_28 := i_add e_v_28 (by omega) (by omega)
        exact ih S v_27 v_28 h_S (by omega) (by omega)
      · replace c_26 := i_ne c_26
        unfold fr_peaks_b44
        refine tot_let (fun v_29 e_v_29 => ?_)
        have r_v_29 := i_any v_29
        refine tot_let (fun v_30 e_v_30 => ?_)
        have q_v_30 := i_add e_v_30 (by omega) (by omega)
        exact ih S v_29 v_30 h_S (by omega) (by omega)
set_option maxHeartbeats 4000000 in
set_option maxRecDepth 10000 in
theorem sf_peaks {P : Nat → Int32} (hP : PL P) (S : MS) (h_S : IC P S) : Tot (fr_peaks S) (fun r => IC P r.2 ∧ True) := by
  have z0 : (1 : Int32).toInt = 1 := by decide
  have z1 : (0 : Int32).toInt = 0 := by decide
  unfold fr_peaks
  refine tot_bind2 (sf_mayAsk hP S 1 h_S (by omega)) (fun r_1 S_2 d_r_1 => ?_)
  have h_S_2 : IC P S_2 := d_r_1.1
  replace d_r_1 : (r_1.toInt = 0 ∨ r_1.toInt = 1 ∧ ¬ (1 : Int32).toInt = 0) := d_r_1.2
  refine tot_if (fun c_4 => ?_) (fun c_4 => ?_)
  · replace c_4 := i_eq c_4
    exact tot_some ⟨h_S_2, trivial⟩
  · replace c_4 := i_ne c_4
    refine tot_bind (sf_laysPowers_12 hP S_2 h_S_2 ) (fun S_3 d_S_3 => ?_)
    have h_S_3 : IC P S_3 := d_S_3.1
    refine lf_peaks_b22 hP  ?_ 16384 S_3 0 0 h_S_3 (by omega) (by omega)
    · intro S_31 l_32 h_S_31
      have j_l_32 := i_any l_32
      exact tot_some ⟨h_S_31, trivial⟩
set_option maxHeartbeats 4000000 in
set_option maxRecDepth 10000 in
theorem sf_isGreater {P : Nat → Int32} (hP : PL P) (S : MS) (a0 : Int32) (a1 : Int32) (h_S : IC P S) (g0 : 0 ≤ a0.toInt ∧ a0.toInt ≤ 143) (g1 : 0 ≤ a1.toInt ∧ a1.toInt ≤ 143) : Tot (fr_isGreater S a0 a1) (fun r => r.2 = S ∧ (0 ≤ r.1.toInt ∧ r.1.toInt ≤ 1)) := by
  have z0 : (0 : Int32).toInt = 0 := by decide
  have z1 : (1 : Int32).toInt = 1 := by decide
  have j_a0 := i_any a0
  have j_a1 := i_any a1
  unfold fr_isGreater
  refine tot_oif (i_inb (by omega) (by omega)) ?_
  refine tot_let (fun v_1 e_v_1 => ?_)
  refine tot_oif (i_inb (by omega) (by omega)) ?_
  refine tot_let (fun v_2 e_v_2 => ?_)
  refine tot_let (fun v_3 e_v_3 => ?_)
  have r_v_3 := i_any v_3
  refine tot_if (fun c_7 => ?_) (fun c_7 => ?_)
  · replace c_7 := i_lt c_7
    unfold fr_isGreater_b37
    unfold fr_isGreater_b42
    refine tot_oif (i_b01 (by omega)) ?_
    exact tot_some ⟨rfl, (show (0 ≤ (1 : Int32).toInt ∧ (1 : Int32).toInt ≤ 1) from by omega)⟩
  · replace c_7 := i_nlt c_7
    refine tot_oif (i_inb (by omega) (by omega)) ?_
    refine tot_let (fun v_4 e_v_4 => ?_)
    refine tot_oif (i_inb (by omega) (by omega)) ?_
    refine tot_let (fun v_5 e_v_5 => ?_)
    refine tot_let (fun v_6 e_v_6 => ?_)
    have r_v_6 := i_any v_6
    refine tot_if (fun c_8 => ?_) (fun c_8 => ?_)
    · replace c_8 := i_eq c_8
      refine tot_if (fun c_9 => ?_) (fun c_9 => ?_)
      · replace c_9 := i_le c_9
        unfold fr_isGreater_b41
        unfold fr_isGreater_b42
        refine tot_oif (i_b01 (by omega)) ?_
        exact tot_some ⟨rfl, (show (0 ≤ (0 : Int32).toInt ∧ (0 : Int32).toInt ≤ 1) from by omega)⟩
      · replace c_9 := i_nle c_9
        unfold fr_isGreater_b37
        unfold fr_isGreater_b42
        refine tot_oif (i_b01 (by omega)) ?_
        exact tot_some ⟨rfl, (show (0 ≤ (1 : Int32).toInt ∧ (1 : Int32).toInt ≤ 1) from by omega)⟩
    · replace c_8 := i_ne c_8
      unfold fr_isGreater_b41
      unfold fr_isGreater_b42
      refine tot_oif (i_b01 (by omega)) ?_
      exact tot_some ⟨rfl, (show (0 ≤ (0 : Int32).toInt ∧ (0 : Int32).toInt ≤ 1) from by omega)⟩
set_option maxHeartbeats 4000000 in
set_option maxRecDepth 10000 in
theorem lf_peakAt_b44 {P : Nat → Int32} (hP : PL P) {Q : Int32 × MS → Prop} {k20 : MS → Int32 → Int32 → Option (Int32 × MS)} (l1 : Int32) (l2 : Int32) (g0 : 0 ≤ l2.toInt ∧ l2.toInt ≤ 143) (hx0 : ∀ (S : MS) (l3 : Int32), (IC P S) → Tot (if l3 = l1 then (some (l2, S)) else (fr_peakAt_b99 k20 S l1 l2)) Q) : ∀ (n : Nat) (S : MS) (l3 : Int32) (l4 : Int32), (IC P S) → (0 ≤ l4.toInt ∧ l4.toInt ≤ 144) → 144 - l4.toInt < (n : Int) → Tot (fr_peakAt_b44 k20 n S l1 l2 l3 l4) Q := by
  have z0 : (0 : Int32).toInt = 0 := by decide
  have z1 : (Int32.ofInt (1) : Int32).toInt = 1 := by decide
  have z2 : (1 : Int32).toInt = 1 := by decide
  have p_9 := pl_9 hP
  have p_10 := pl_10 hP
  have p_cells := pl_cells hP
  have j_l1 := i_any l1
  have j_l2 := i_any l2
  intro n
  induction n with
  | zero =>
    intro S l3 l4 h_S g_l4 hm
    exfalso
    omega
  | succ n ih =>
    intro S l3 l4 h_S g_l4 hm
    unfold fr_peakAt_b44
    refine tot_bindp (R := fun r_79 : Int32 => ((1 ≤ r_79.toInt ∧ r_79.toInt ≤ 144) ∧ r_79.toInt = (P 9).toInt * (P 10).toInt)) (sf_cellCount hP S h_S ) (fun r_79 d_r_79 => ?_)
    replace d_r_79 : ((1 ≤ r_79.toInt ∧ r_79.toInt ≤ 144) ∧ r_79.toInt = (P 9).toInt * (P 10).toInt) := d_r_79
    refine tot_if (fun c_100 => ?_) (fun c_100 => ?_)
    · replace c_100 := i_le c_100
      exact hx0 S l3 h_S
    · replace c_100 := i_nle c_100
      refine tot_if (fun c_101 => ?_) (fun c_101 => ?_)
      · replace c_101 := i_eq c_101
        unfold fr_peakAt_b83
        unfold fr_peakAt_b84
        refine tot_let (fun v_102 e_v_102 => ?_)
        have r_v_102 := i_any v_102
        refine tot_let (fun v_103 e_v_103 => ?_)
        have q_v_103 := i_add e_v_103 (by omega) (by omega)
        exact ih S v_102 v_103 h_S (by omega) (by omega)
      · replace c_101 := i_ne c_101
        refine tot_bindp (R := fun r_81 : Int32 => (0 ≤ r_81.toInt ∧ r_81.toInt ≤ 1)) (sf_isTop hP S l4 h_S (by omega)) (fun r_81 d_r_81 => ?_)
        replace d_r_81 : (0 ≤ r_81.toInt ∧ r_81.toInt ≤ 1) := d_r_81
        refine tot_if (fun c_104 => ?_) (fun c_104 => ?_)
        · replace c_104 := i_eq c_104
          unfold fr_peakAt_b83
          unfold fr_peakAt_b84
          refine tot_let (fun v_105 e_v_105 => ?_)
          have r_v_105 := i_any v_105
          refine tot_let (fun v_106 e_v_106 => ?_)
          have q_v_106 := i_add e_v_106 (by omega) (by omega)
          exact ih S v_105 v_106 h_S (by omega) (by omega)
        · replace c_104 := i_ne c_104
          refine tot_bindp (R := fun r_83 : Int32 => (0 ≤ r_83.toInt ∧ r_83.toInt ≤ 1)) (sf_isGreater hP S l4 l2 h_S (by omega) (by omega)) (fun r_83 d_r_83 => ?_)
          replace d_r_83 : (0 ≤ r_83.toInt ∧ r_83.toInt ≤ 1) := d_r_83
          refine tot_if (fun c_107 => ?_) (fun c_107 => ?_)
          · replace c_107 := i_eq c_107
            unfold fr_peakAt_b83
            unfold fr_peakAt_b84
            refine tot_let (fun v_108 e_v_108 => ?_)
            have r_v_108 := i_any v_108
            refine tot_let (fun v_109 e_v_109 => ?_)
            have q_v_109 := i_add e_v_109 (by omega) (by omega)
            exact ih S v_108 v_109 h_S (by omega) (by omega)
          · replace c_107 := i_ne c_107
            unfold fr_peakAt_b84
            refine tot_let (fun v_110 e_v_110 => ?_)
            have r_v_110 := i_any v_110
            refine tot_let (fun v_111 e_v_111 => ?_)
            have q_v_111 := i_add e_v_111 (by omega) (by omega)
            exact ih S v_110 v_111 h_S (by omega) (by omega)
set_option maxHeartbeats 4000000 in
set_option maxRecDepth 10000 in
theorem lf_peakAt_b20 {P : Nat → Int32} (hP : PL P) {Q : Int32 × MS → Prop} (l1 : Int32) (hx0 : ∀ (S : MS), (IC P S) → Tot (obind2 (fr_throwsAt S 2) fun r_47 S_48 => some (r_47, S_48)) Q) (hx1 : ∀ (S_112 : MS) (l2 : Int32), (IC P S_112) → (0 ≤ l2.toInt ∧ l2.toInt ≤ 143) → Tot (some (l2, S_112)) Q) : ∀ (n : Nat) (S : MS) (l2 : Int32), (IC P S) → (0 ≤ l2.toInt ∧ l2.toInt ≤ 144) → 144 - l2.toInt < (n : Int) → Tot (fr_peakAt_b20 n S l1 l2) Q := by
  have z0 : (0 : Int32).toInt = 0 := by decide
  have z1 : (Int32.ofInt (1) : Int32).toInt = 1 := by decide
  have p_9 := pl_9 hP
  have p_10 := pl_10 hP
  have p_cells := pl_cells hP
  have j_l1 := i_any l1
  intro n
  induction n with
  | zero =>
    intro S l2 h_S g_l2 hm
    exfalso
    omega
  | succ n ih =>
    intro S l2 h_S g_l2 hm
    unfold fr_peakAt_b20
    refine tot_bindp (R := fun r_45 : Int32 => ((1 ≤ r_45.toInt ∧ r_45.toInt ≤ 144) ∧ r_45.toInt = (P 9).toInt * (P 10).toInt)) (sf_cellCount hP S h_S ) (fun r_45 d_r_45 => ?_)
    replace d_r_45 : ((1 ≤ r_45.toInt ∧ r_45.toInt ≤ 144) ∧ r_45.toInt = (P 9).toInt * (P 10).toInt) := d_r_45
    refine tot_if (fun c_76 => ?_) (fun c_76 => ?_)
    · replace c_76 := i_le c_76
      exact hx0 S h_S
    · replace c_76 := i_nle c_76
      refine tot_bindp (R := fun r_49 : Int32 => (0 ≤ r_49.toInt ∧ r_49.toInt ≤ 1)) (sf_isTop hP S l2 h_S (by omega)) (fun r_49 d_r_49 => ?_)
      replace d_r_49 : (0 ≤ r_49.toInt ∧ r_49.toInt ≤ 1) := d_r_49
      refine tot_if (fun c_77 => ?_) (fun c_77 => ?_)
      · replace c_77 := i_eq c_77
        unfold fr_peakAt_b99
        refine tot_let (fun v_78 e_v_78 => ?_)
        have q_v_78 := i_add e_v_78 (by omega) (by omega)
        exact ih S v_78 h_S (by omega) (by omega)
      · replace c_77 := i_ne c_77
        refine lf_peakAt_b44 hP l1 l2 (by omega) ?_ 16384 S 0 0 h_S (by omega) (by omega)
        · intro S_112 l_113 h_S_112
          have j_l_113 := i_any l_113
          refine tot_if (fun c_114 => ?_) (fun c_114 => ?_)
          · replace c_114 := i_eq c_114
            exact hx1 S_112 l2 h_S_112 (by omega)
          · replace c_114 := i_ne c_114
            unfold fr_peakAt_b99
            refine tot_let (fun v_115 e_v_115 => ?_)
            have q_v_115 := i_add e_v_115 (by omega) (by omega)
            exact ih S_112 v_115 h_S_112 (by omega) (by omega)
set_option maxHeartbeats 4000000 in
set_option maxRecDepth 10000 in
theorem sf_peakAt {P : Nat → Int32} (hP : PL P) (S : MS) (a0 : Int32) (h_S : IC P S) : Tot (fr_peakAt S a0) (fun r => IC P r.2 ∧ (0 ≤ r.1.toInt ∧ r.1.toInt ≤ 143)) := by
  have z0 : (1 : Int32).toInt = 1 := by decide
  have z1 : (0 : Int32).toInt = 0 := by decide
  have z2 : (2 : Int32).toInt = 2 := by decide
  have j_a0 := i_any a0
  unfold fr_peakAt
  refine tot_bind2 (sf_mayAsk hP S 1 h_S (by omega)) (fun r_1 S_2 d_r_1 => ?_)
  have h_S_2 : IC P S_2 := d_r_1.1
  replace d_r_1 : (r_1.toInt = 0 ∨ r_1.toInt = 1 ∧ ¬ (1 : Int32).toInt = 0) := d_r_1.2
  refine tot_if (fun c_4 => ?_) (fun c_4 => ?_)
  · replace c_4 := i_eq c_4
    exact tot_some ⟨h_S_2, (show (0 ≤ (0 : Int32).toInt ∧ (0 : Int32).toInt ≤ 143) from by omega)⟩
  · replace c_4 := i_ne c_4
    refine tot_bind (sf_laysPowers_12 hP S_2 h_S_2 ) (fun S_3 d_S_3 => ?_)
    have h_S_3 : IC P S_3 := d_S_3.1
    refine lf_peakAt_b20 hP a0 ?_ ?_ 16384 S_3 0 h_S_3 (by omega) (by omega)
    · intro S_116 h_S_116
      refine tot_bind2 (sf_throwsAt hP S_116 2 h_S_116 ) (fun r__117 S__118 d_r__117 => ?_)
      have h_S__118 : IC P S__118 := d_r__117.1
      replace d_r__117 : (0 ≤ r__117.toInt ∧ r__117.toInt ≤ 0) := d_r__117.2
      exact tot_some ⟨h_S__118, (show (0 ≤ r__117.toInt ∧ r__117.toInt ≤ 143) from by omega)⟩
    · intro S_119 l_120 h_S_119 g_l_120
      exact tot_some ⟨h_S_119, (show (0 ≤ l_120.toInt ∧ l_120.toInt ≤ 143) from by omega)⟩
set_option maxHeartbeats 4000000 in
set_option maxRecDepth 10000 in
theorem sf_isPeak {P : Nat → Int32} (hP : PL P) (S : MS) (a0 : Int32) (h_S : IC P S) : Tot (fr_isPeak S a0) (fun r => IC P r.2 ∧ (0 ≤ r.1.toInt ∧ r.1.toInt ≤ 1)) := by
  have z0 : (0 : Int32).toInt = 0 := by decide
  have p_9 := pl_9 hP
  have p_10 := pl_10 hP
  have p_cells := pl_cells hP
  have j_a0 := i_any a0
  unfold fr_isPeak
  refine tot_bindp (R := fun r_1 : Int32 => (r_1.toInt = 0 ∨ r_1.toInt = 1 ∧ (0 ≤ a0.toInt ∧ a0.toInt ≤ 143) ∧ a0.toInt < (P 9).toInt * (P 10).toInt)) (sf_isCell hP S a0 h_S ) (fun r_1 d_r_1 => ?_)
  replace d_r_1 : (r_1.toInt = 0 ∨ r_1.toInt = 1 ∧ (0 ≤ a0.toInt ∧ a0.toInt ≤ 143) ∧ a0.toInt < (P 9).toInt * (P 10).toInt) := d_r_1
  refine tot_bind2 (sf_mayAsk hP S r_1 h_S (by omega)) (fun r_3 S_4 d_r_3 => ?_)
  have h_S_4 : IC P S_4 := d_r_3.1
  replace d_r_3 : (r_3.toInt = 0 ∨ r_3.toInt = 1 ∧ ¬ r_1.toInt = 0) := d_r_3.2
  refine tot_if (fun c_8 => ?_) (fun c_8 => ?_)
  · replace c_8 := i_eq c_8
    exact tot_some ⟨h_S_4, (show (0 ≤ (0 : Int32).toInt ∧ (0 : Int32).toInt ≤ 1) from by omega)⟩
  · replace c_8 := i_ne c_8
    refine tot_bind (sf_laysPowers_12 hP S_4 h_S_4 ) (fun S_5 d_S_5 => ?_)
    have h_S_5 : IC P S_5 := d_S_5.1
    refine tot_bindp (R := fun r_6 : Int32 => (0 ≤ r_6.toInt ∧ r_6.toInt ≤ 1)) (sf_isTop hP S_5 a0 h_S_5 (by omega)) (fun r_6 d_r_6 => ?_)
    replace d_r_6 : (0 ≤ r_6.toInt ∧ r_6.toInt ≤ 1) := d_r_6
    refine tot_oif (i_b01 (by omega)) ?_
    exact tot_some ⟨h_S_5, (show (0 ≤ r_6.toInt ∧ r_6.toInt ≤ 1) from by omega)⟩
set_option maxHeartbeats 4000000 in
set_option maxRecDepth 10000 in
theorem lf_contrast_b24 {P : Nat → Int32} (hP : PL P) {Q : UInt32 × MS → Prop} (l1 : Int32) (g0 : 0 ≤ l1.toInt ∧ l1.toInt ≤ 143) (hx0 : ∀ (S : MS) (l2 : Int64), (IC P S) → Tot (elet (lg_cmp l2 (0 : Int64)) fun v_19 => if v_19 = 0 then (fr_contrast_b81 S FP.fconst0) else (oif (inb l1 144 = true) <| elet (S.2.2 25 l1.toNatClampNeg) fun v_20 => elet (FP.l2f v_20) fun v_21 => elet (FP.l2f l2) fun v_22 => oif (FP.fdiv v_21 v_22 &&& 0x7fffffff ≤ 0x7f800000) <| elet (FP.fdiv v_21 v_22) fun v_23 => fr_contrast_b81 S v_23)) Q) : ∀ (n : Nat) (S : MS) (l2 : Int64) (l4 : Int32), (IC P S) → (0 ≤ l4.toInt ∧ l4.toInt ≤ 144) → 144 - l4.toInt < (n : Int) → Tot (fr_contrast_b24 n S l1 l2 l4) Q := by
  have z0 : (Int32.ofInt (1) : Int32).toInt = 1 := by decide
  have p_9 := pl_9 hP
  have p_10 := pl_10 hP
  have p_cells := pl_cells hP
  have j_l1 := i_any l1
  intro n
  induction n with
  | zero =>
    intro S l2 l4 h_S g_l4 hm
    exfalso
    omega
  | succ n ih =>
    intro S l2 l4 h_S g_l4 hm
    unfold fr_contrast_b24
    refine tot_bindp (R := fun r_17 : Int32 => ((1 ≤ r_17.toInt ∧ r_17.toInt ≤ 144) ∧ r_17.toInt = (P 9).toInt * (P 10).toInt)) (sf_cellCount hP S h_S ) (fun r_17 d_r_17 => ?_)
    replace d_r_17 : ((1 ≤ r_17.toInt ∧ r_17.toInt ≤ 144) ∧ r_17.toInt = (P 9).toInt * (P 10).toInt) := d_r_17
    refine tot_if (fun c_37 => ?_) (fun c_37 => ?_)
    · replace c_37 := i_le c_37
      exact hx0 S l2 h_S
    · replace c_37 := i_nle c_37
      refine tot_if (fun c_38 => ?_) (fun c_38 => ?_)
      · replace c_38 := i_eq c_38
        unfold fr_contrast_b54
        refine tot_let (fun v_39 e_v_39 => ?_)
        have q_v_39 := i_add e_v_39 (by omega) (by omega)
        exact ih S l2 v_39 h_S (by omega) (by omega)
      · replace c_38 := i_ne c_38
        refine tot_oif (i_inb (by omega) (by omega)) ?_
        refine tot_let (fun v_24 e_v_24 => ?_)
        refine tot_let (fun v_25 e_v_25 => ?_)
        unfold fr_contrast_b54
        refine tot_let (fun v_40 e_v_40 => ?_)
        have q_v_40 := i_add e_v_40 (by omega) (by omega)
        exact ih S v_25 v_40 h_S (by omega) (by omega)
set_option maxHeartbeats 4000000 in
set_option maxRecDepth 10000 in
theorem sf_contrast {P : Nat → Int32} (hP : PL P) (S : MS) (h_S : IC P S) : Tot (fr_contrast S) (fun r => IC P r.2 ∧ True) := by
  have z0 : (1 : Int32).toInt = 1 := by decide
  have z1 : (0 : Int32).toInt = 0 := by decide
  unfold fr_contrast
  refine tot_bind2 (sf_mayAsk hP S 1 h_S (by omega)) (fun r_1 S_2 d_r_1 => ?_)
  have h_S_2 : IC P S_2 := d_r_1.1
  replace d_r_1 : (r_1.toInt = 0 ∨ r_1.toInt = 1 ∧ ¬ (1 : Int32).toInt = 0) := d_r_1.2
  refine tot_if (fun c_5 => ?_) (fun c_5 => ?_)
  · replace c_5 := i_eq c_5
    exact tot_some ⟨h_S_2, trivial⟩
  · replace c_5 := i_ne c_5
    refine tot_bind2 (sf_bestIn_12 hP S_2 h_S_2 ) (fun r_3 S_4 d_r_3 => ?_)
    have h_S_4 : IC P S_4 := d_r_3.1
    replace d_r_3 : (0 ≤ r_3.toInt ∧ r_3.toInt ≤ 143) := d_r_3.2
    refine lf_contrast_b24 hP r_3 (by omega) ?_ 16384 S_4 (0 : Int64) 0 h_S_4 (by omega) (by omega)
    · intro S_41 l_42 h_S_41
      refine tot_let (fun v__43 e_v__43 => ?_)
      have r_v__43 := i_any v__43
      refine tot_if (fun c_48 => ?_) (fun c_48 => ?_)
      · replace c_48 := i_eq c_48
        unfold fr_contrast_b81
        exact tot_some ⟨h_S_41, trivial⟩
      · have c_48_ := c_48
        replace c_48 := i_ne c_48
        refine tot_oif (i_inb (by omega) (by omega)) ?_
        refine tot_let (fun v__44 e_v__44 => ?_)
        refine tot_let (fun v__45 e_v__45 => ?_)
        refine tot_let (fun v__46 e_v__46 => ?_)
        refine tot_oif (by rw [e_v__45, e_v__46]; exact fp_ok _ _ (fun q_ => c_48_ (by rw [e_v__43, q_]; rfl))) ?_
        refine tot_let (fun v__47 e_v__47 => ?_)
        unfold fr_contrast_b81
        exact tot_some ⟨h_S_41, trivial⟩
set_option maxHeartbeats 4000000 in
set_option maxRecDepth 10000 in
theorem sf_shift {P : Nat → Int32} (hP : PL P) (S : MS) (a0 : Int32) (a1 : Int32) (a2 : Int32) (h_S : IC P S) (g0 : 0 ≤ a0.toInt ∧ a0.toInt ≤ 143) (g1 : 0 ≤ a1.toInt ∧ a1.toInt ≤ 143) (g2 : 0 ≤ a2.toInt ∧ a2.toInt ≤ 11) : Tot (fr_shift S a0 a1 a2) (fun r => r.2 = S ∧ (-65535 ≤ r.1.toInt ∧ r.1.toInt ≤ 65535)) := by
  have z0 : (12 : Int32).toInt = 12 := by decide
  have j_a0 := i_any a0
  have j_a1 := i_any a1
  have j_a2 := i_any a2
  unfold fr_shift
  refine tot_let (fun v_1 e_v_1 => ?_)
  have q_v_1 := i_mulk e_v_1 z0 (by omega) (by omega)
  refine tot_let (fun v_2 e_v_2 => ?_)
  have q_v_2 := i_add e_v_2 (by omega) (by omega)
  refine tot_oif (i_inb (by omega) (by omega)) ?_
  refine tot_let (fun v_3 e_v_3 => ?_)
  have r_v_3 := ic_17 h_S e_v_3
  refine tot_let (fun v_4 e_v_4 => ?_)
  have q_v_4 := i_mulk e_v_4 z0 (by omega) (by omega)
  refine tot_let (fun v_5 e_v_5 => ?_)
  have q_v_5 := i_add e_v_5 (by omega) (by omega)
  refine tot_oif (i_inb (by omega) (by omega)) ?_
  refine tot_let (fun v_6 e_v_6 => ?_)
  have r_v_6 := ic_17 h_S e_v_6
  refine tot_let (fun v_7 e_v_7 => ?_)
  have q_v_7 := i_sub e_v_7 (by omega) (by omega)
  exact tot_some ⟨rfl, (show (-65535 ≤ v_7.toInt ∧ v_7.toInt ≤ 65535) from by omega)⟩
set_option maxHeartbeats 4000000 in
set_option maxRecDepth 10000 in
theorem lf_confusion_b23 {P : Nat → Int32} (hP : PL P) {Q : Int32 × MS → Prop} {k6 : MS → Int32 → Int32 → Int32 → Int32 → Int32 → Option (Int32 × MS)} (S : MS) (l1 : Int32) (l2 : Int32) (l3 : Int32) (l4 : Int32) (l5 : Int32) (h_S : IC P S) (g0 : 0 ≤ l1.toInt ∧ l1.toInt ≤ 143) (g1 : 0 ≤ l2.toInt ∧ l2.toInt ≤ 143) (g2 : 2 ≤ l3.toInt ∧ l3.toInt ≤ 99) (g3 : 0 ≤ l4.toInt ∧ l4.toInt ≤ 2147483647) (g4 : 0 ≤ l5.toInt ∧ l5.toInt ≤ 11) (hx0 : ∀ (l6 : Int32), Tot (obind2 (fr_hears_12 S l5) fun r_70 S_71 => if r_70 = 0 then (fr_confusion_b110 k6 S_71 l4 l1 l2 l3 l5) else (elet (if l4 < l6 then l6 else l4) fun v_72 => fr_confusion_b110 k6 S_71 v_72 l1 l2 l3 l5)) Q) : ∀ (n : Nat) (l6 : Int32) (l7 : Int32), (0 ≤ l7.toInt ∧ l7.toInt ≤ 12) → 12 - l7.toInt < (n : Int) → Tot (fr_confusion_b23 k6 n S l1 l2 l3 l4 l5 l6 l7) Q := by
  have z0 : (0 : Int32).toInt = 0 := by decide
  have z1 : (Int32.ofInt (1) : Int32).toInt = 1 := by decide
  have z2 : (1 : Int32).toInt = 1 := by decide
  have p_4 := pl_4 hP
  have j_l1 := i_any l1
  have j_l2 := i_any l2
  have j_l3 := i_any l3
  have j_l4 := i_any l4
  have j_l5 := i_any l5
  intro n
  induction n with
  | zero =>
    intro l6 l7 g_l7 hm
    exfalso
    omega
  | succ n ih =>
    intro l6 l7 g_l7 hm
    unfold fr_confusion_b23
    refine tot_let (fun v_69 e_v_69 => ?_)
    have q_v_69 := ic_p h_S e_v_69
    refine tot_if (fun c_101 => ?_) (fun c_101 => ?_)
    · replace c_101 := i_le c_101
      exact hx0 l6 
    · replace c_101 := i_nle c_101
      refine tot_bindp (R := fun r_73 : Int32 => (0 ≤ r_73.toInt ∧ r_73.toInt ≤ 1)) (sf_hears_12 hP S l7 h_S (by omega)) (fun r_73 d_r_73 => ?_)
      replace d_r_73 : (0 ≤ r_73.toInt ∧ r_73.toInt ≤ 1) := d_r_73
      refine tot_if (fun c_102 => ?_) (fun c_102 => ?_)
      · replace c_102 := i_eq c_102
        unfold fr_confusion_b75
        unfold fr_confusion_b76
        refine tot_let (fun v_103 e_v_103 => ?_)
        have r_v_103 := i_any v_103
        refine tot_let (fun v_104 e_v_104 => ?_)
        have q_v_104 := i_add e_v_104 (by omega) (by omega)
        exact ih v_103 v_104 (by omega) (by omega)
      · replace c_102 := i_ne c_102
        refine tot_bindp (R := fun r_75 : Int32 => (-65535 ≤ r_75.toInt ∧ r_75.toInt ≤ 65535)) (sf_shift hP S l1 l2 l7 h_S (by omega) (by omega) (by omega)) (fun r_75 d_r_75 => ?_)
        replace d_r_75 : (-65535 ≤ r_75.toInt ∧ r_75.toInt ≤ 65535) := d_r_75
        refine tot_bindp (R := fun r_77 : Int32 => (-65535 ≤ r_77.toInt ∧ r_77.toInt ≤ 65535)) (sf_shift hP S l1 l2 l5 h_S (by omega) (by omega) (by omega)) (fun r_77 d_r_77 => ?_)
        replace d_r_77 : (-65535 ≤ r_77.toInt ∧ r_77.toInt ≤ 65535) := d_r_77
        refine tot_let (fun v_79 e_v_79 => ?_)
        have q_v_79 := i_sub e_v_79 (by omega) (by omega)
        refine tot_oif (i_nz (by omega)) ?_
        refine tot_let (fun v_80 e_v_80 => ?_)
        have q_v_80 := i_rems (b := 2147483647) e_v_80 (by omega) (by omega) (by omega) (by decide)
        refine tot_if (fun c_105 => ?_) (fun c_105 => ?_)
        · replace c_105 := i_eq c_105
          unfold fr_confusion_b76
          refine tot_let (fun v_106 e_v_106 => ?_)
          have r_v_106 := i_any v_106
          refine tot_let (fun v_107 e_v_107 => ?_)
          have q_v_107 := i_add e_v_107 (by omega) (by omega)
          exact ih v_106 v_107 (by omega) (by omega)
        · replace c_105 := i_ne c_105
          unfold fr_confusion_b75
          unfold fr_confusion_b76
          refine tot_let (fun v_108 e_v_108 => ?_)
          have r_v_108 := i_any v_108
          refine tot_let (fun v_109 e_v_109 => ?_)
          have q_v_109 := i_add e_v_109 (by omega) (by omega)
          exact ih v_108 v_109 (by omega) (by omega)
set_option maxHeartbeats 4000000 in
set_option maxRecDepth 10000 in
theorem lf_confusion_b6 {P : Nat → Int32} (hP : PL P) {Q : Int32 × MS → Prop} (S : MS) (l1 : Int32) (l2 : Int32) (l3 : Int32) (h_S : IC P S) (g0 : 0 ≤ l1.toInt ∧ l1.toInt ≤ 143) (g1 : 0 ≤ l2.toInt ∧ l2.toInt ≤ 143) (g2 : 2 ≤ l3.toInt ∧ l3.toInt ≤ 99) (hx0 : ∀ (l4 : Int32), (0 ≤ l4.toInt ∧ l4.toInt ≤ 2147483647) → Tot (some (l4, S)) Q) : ∀ (n : Nat) (l4 : Int32) (l5 : Int32), (0 ≤ l4.toInt ∧ l4.toInt ≤ 2147483647) → (0 ≤ l5.toInt ∧ l5.toInt ≤ 12) → 12 - l5.toInt < (n : Int) → Tot (fr_confusion_b6 n S l1 l2 l3 l4 l5) Q := by
  have z0 : (0 : Int32).toInt = 0 := by decide
  have z1 : (Int32.ofInt (1) : Int32).toInt = 1 := by decide
  have p_4 := pl_4 hP
  have j_l1 := i_any l1
  have j_l2 := i_any l2
  have j_l3 := i_any l3
  intro n
  induction n with
  | zero =>
    intro l4 l5 g_l4 g_l5 hm
    exfalso
    omega
  | succ n ih =>
    intro l4 l5 g_l4 g_l5 hm
    unfold fr_confusion_b6
    refine tot_let (fun v_44 e_v_44 => ?_)
    have q_v_44 := ic_p h_S e_v_44
    refine tot_if (fun c_68 => ?_) (fun c_68 => ?_)
    · replace c_68 := i_le c_68
      exact hx0 l4 (by omega)
    · replace c_68 := i_nle c_68
      refine lf_confusion_b23 hP S l1 l2 l3 l4 l5 h_S (by omega) (by omega) (by omega) (by omega) (by omega) ?_ 16384 0 0 (by omega) (by omega)
      · intro l_110
        have j_l_110 := i_any l_110
        refine tot_bindp (R := fun r__111 : Int32 => (0 ≤ r__111.toInt ∧ r__111.toInt ≤ 1)) (sf_hears_12 hP S l5 h_S (by omega)) (fun r__111 d_r__111 => ?_)
        replace d_r__111 : (0 ≤ r__111.toInt ∧ r__111.toInt ≤ 1) := d_r__111
        refine tot_if (fun c_114 => ?_) (fun c_114 => ?_)
        · replace c_114 := i_eq c_114
          unfold fr_confusion_b110
          refine tot_let (fun v_115 e_v_115 => ?_)
          have q_v_115 := i_add e_v_115 (by omega) (by omega)
          exact ih l4 v_115 (by omega) (by omega) (by omega)
        · replace c_114 := i_ne c_114
          refine tot_let (fun v__113 e_v__113 => ?_)
          have q_v__113 := i_ilt e_v__113
          unfold fr_confusion_b110
          refine tot_let (fun v_116 e_v_116 => ?_)
          have q_v_116 := i_add e_v_116 (by omega) (by omega)
          exact ih v__113 v_116 (by omega) (by omega) (by omega)
set_option maxHeartbeats 4000000 in
set_option maxRecDepth 10000 in
theorem sf_confusion {P : Nat → Int32} (hP : PL P) (S : MS) (a0 : Int32) (a1 : Int32) (a2 : Int32) (h_S : IC P S) (g0 : 0 ≤ a0.toInt ∧ a0.toInt ≤ 143) (g1 : 0 ≤ a1.toInt ∧ a1.toInt ≤ 143) (g2 : 2 ≤ a2.toInt ∧ a2.toInt ≤ 99) : Tot (fr_confusion S a0 a1 a2) (fun r => r.2 = S ∧ (0 ≤ r.1.toInt ∧ r.1.toInt ≤ 2147483647)) := by
  have z0 : (0 : Int32).toInt = 0 := by decide
  have j_a0 := i_any a0
  have j_a1 := i_any a1
  have j_a2 := i_any a2
  unfold fr_confusion
  refine lf_confusion_b6 hP S a0 a1 a2 h_S (by omega) (by omega) (by omega) ?_ 16384 0 0 (by omega) (by omega) (by omega)
  · intro l_117 g_l_117
    exact tot_some ⟨rfl, (show (0 ≤ l_117.toInt ∧ l_117.toInt ≤ 2147483647) from by omega)⟩
set_option maxHeartbeats 4000000 in
set_option maxRecDepth 10000 in
theorem sf_alias {P : Nat → Int32} (hP : PL P) (S : MS) (a0 : Int32) (a1 : Int32) (a2 : Int32) (h_S : IC P S) : Tot (fr_alias S a0 a1 a2) (fun r => IC P r.2 ∧ (0 ≤ r.1.toInt ∧ r.1.toInt ≤ 2147483647)) := by
  have z0 : (0 : Int32).toInt = 0 := by decide
  have z1 : (1 : Int32).toInt = 1 := by decide
  have z2 : (3 : Int32).toInt = 3 := by decide
  have p_9 := pl_9 hP
  have p_10 := pl_10 hP
  have p_cells := pl_cells hP
  have j_a0 := i_any a0
  have j_a1 := i_any a1
  have j_a2 := i_any a2
  unfold fr_alias
  refine tot_bindp (R := fun r_1 : Int32 => (r_1.toInt = 0 ∨ r_1.toInt = 1 ∧ (0 ≤ a0.toInt ∧ a0.toInt ≤ 143) ∧ a0.toInt < (P 9).toInt * (P 10).toInt)) (sf_isCell hP S a0 h_S ) (fun r_1 d_r_1 => ?_)
  replace d_r_1 : (r_1.toInt = 0 ∨ r_1.toInt = 1 ∧ (0 ≤ a0.toInt ∧ a0.toInt ≤ 143) ∧ a0.toInt < (P 9).toInt * (P 10).toInt) := d_r_1
  refine tot_if (fun c_5 => ?_) (fun c_5 => ?_)
  · replace c_5 := i_eq c_5
    unfold fr_alias_b21
    unfold fr_alias_b22
    refine tot_bind2 (sf_mayAsk hP S 0 h_S (by omega)) (fun r_6 S_7 d_r_6 => ?_)
    have h_S_7 : IC P S_7 := d_r_6.1
    replace d_r_6 : (r_6.toInt = 0 ∨ r_6.toInt = 1 ∧ ¬ (0 : Int32).toInt = 0) := d_r_6.2
    refine tot_if (fun c_13 => ?_) (fun c_13 => ?_)
    · replace c_13 := i_eq c_13
      exact tot_some ⟨h_S_7, (show (0 ≤ (0 : Int32).toInt ∧ (0 : Int32).toInt ≤ 2147483647) from by omega)⟩
    · replace c_13 := i_ne c_13
      exfalso
      omega
  · replace c_5 := i_ne c_5
    refine tot_bindp (R := fun r_3 : Int32 => (r_3.toInt = 0 ∨ r_3.toInt = 1 ∧ (0 ≤ a1.toInt ∧ a1.toInt ≤ 143) ∧ a1.toInt < (P 9).toInt * (P 10).toInt)) (sf_isCell hP S a1 h_S ) (fun r_3 d_r_3 => ?_)
    replace d_r_3 : (r_3.toInt = 0 ∨ r_3.toInt = 1 ∧ (0 ≤ a1.toInt ∧ a1.toInt ≤ 143) ∧ a1.toInt < (P 9).toInt * (P 10).toInt) := d_r_3
    refine tot_if (fun c_14 => ?_) (fun c_14 => ?_)
    · replace c_14 := i_eq c_14
      unfold fr_alias_b21
      unfold fr_alias_b22
      refine tot_bind2 (sf_mayAsk hP S 0 h_S (by omega)) (fun r_15 S_16 d_r_15 => ?_)
      have h_S_16 : IC P S_16 := d_r_15.1
      replace d_r_15 : (r_15.toInt = 0 ∨ r_15.toInt = 1 ∧ ¬ (0 : Int32).toInt = 0) := d_r_15.2
      refine tot_if (fun c_22 => ?_) (fun c_22 => ?_)
      · replace c_22 := i_eq c_22
        exact tot_some ⟨h_S_16, (show (0 ≤ (0 : Int32).toInt ∧ (0 : Int32).toInt ≤ 2147483647) from by omega)⟩
      · replace c_22 := i_ne c_22
        exfalso
        omega
    · replace c_14 := i_ne c_14
      unfold fr_alias_b22
      refine tot_bind2 (sf_mayAsk hP S 1 h_S (by omega)) (fun r_23 S_24 d_r_23 => ?_)
      have h_S_24 : IC P S_24 := d_r_23.1
      replace d_r_23 : (r_23.toInt = 0 ∨ r_23.toInt = 1 ∧ ¬ (1 : Int32).toInt = 0) := d_r_23.2
      refine tot_if (fun c_30 => ?_) (fun c_30 => ?_)
      · replace c_30 := i_eq c_30
        exact tot_some ⟨h_S_24, (show (0 ≤ (0 : Int32).toInt ∧ (0 : Int32).toInt ≤ 2147483647) from by omega)⟩
      · replace c_30 := i_ne c_30
        refine tot_bind (sf_isPeriod hP a2  ) (fun r_25 d_r_25 => ?_)
        replace d_r_25 : (r_25.toInt = 0 ∨ r_25.toInt = 1 ∧ 2 ≤ a2.toInt ∧ a2.toInt ≤ 99) := d_r_25
        refine tot_if (fun c_31 => ?_) (fun c_31 => ?_)
        · replace c_31 := i_eq c_31
          refine tot_bind2 (sf_throwsAt hP S_24 3 h_S_24 ) (fun r_26 S_27 d_r_26 => ?_)
          have h_S_27 : IC P S_27 := d_r_26.1
          replace d_r_26 : (0 ≤ r_26.toInt ∧ r_26.toInt ≤ 0) := d_r_26.2
          unfold fr_alias_b52
          exact tot_some ⟨h_S_27, (show (0 ≤ r_26.toInt ∧ r_26.toInt ≤ 2147483647) from by omega)⟩
        · replace c_31 := i_ne c_31
          refine tot_bindp (R := fun r_28 : Int32 => (0 ≤ r_28.toInt ∧ r_28.toInt ≤ 2147483647)) (sf_confusion hP S_24 a0 a1 a2 h_S_24 (by omega) (by omega) (by omega)) (fun r_28 d_r_28 => ?_)
          replace d_r_28 : (0 ≤ r_28.toInt ∧ r_28.toInt ≤ 2147483647) := d_r_28
          unfold fr_alias_b52
          exact tot_some ⟨h_S_24, (show (0 ≤ r_28.toInt ∧ r_28.toInt ≤ 2147483647) from by omega)⟩
set_option maxHeartbeats 4000000 in
set_option maxRecDepth 10000 in
theorem sf_isMark {P : Nat → Int32} (hP : PL P) (S : MS) (a0 : Int32) (a1 : Int32) (a2 : Int32) (a3 : Int32) (h_S : IC P S) (g0 : 0 ≤ a0.toInt ∧ a0.toInt ≤ 143) (g1 : 0 ≤ a1.toInt ∧ a1.toInt ≤ 143) (g2 : 2 ≤ a2.toInt ∧ a2.toInt ≤ 99) (g3 : 1 ≤ a3.toInt ∧ a3.toInt ≤ 100) : Tot (fr_isMark S a0 a1 a2 a3) (fun r => r.2 = S ∧ (0 ≤ r.1.toInt ∧ r.1.toInt ≤ 1)) := by
  have z0 : (0 : Int32).toInt = 0 := by decide
  have z1 : (100 : Int32).toInt = 100 := by decide
  have z2 : (1 : Int32).toInt = 1 := by decide
  have j_a0 := i_any a0
  have j_a1 := i_any a1
  have j_a2 := i_any a2
  have j_a3 := i_any a3
  unfold fr_isMark
  refine tot_if (fun c_11 => ?_) (fun c_11 => ?_)
  · replace c_11 := i_eq c_11
    unfold fr_isMark_b44
    unfold fr_isMark_b45
    refine tot_oif (i_b01 (by omega)) ?_
    exact tot_some ⟨rfl, (show (0 ≤ (0 : Int32).toInt ∧ (0 : Int32).toInt ≤ 1) from by omega)⟩
  · replace c_11 := i_ne c_11
    refine tot_bindp (R := fun r_1 : Int32 => (0 ≤ r_1.toInt ∧ r_1.toInt ≤ 1)) (sf_isTop hP S a0 h_S (by omega)) (fun r_1 d_r_1 => ?_)
    replace d_r_1 : (0 ≤ r_1.toInt ∧ r_1.toInt ≤ 1) := d_r_1
    refine tot_if (fun c_12 => ?_) (fun c_12 => ?_)
    · replace c_12 := i_eq c_12
      unfold fr_isMark_b44
      unfold fr_isMark_b45
      refine tot_oif (i_b01 (by omega)) ?_
      exact tot_some ⟨rfl, (show (0 ≤ (0 : Int32).toInt ∧ (0 : Int32).toInt ≤ 1) from by omega)⟩
    · replace c_12 := i_ne c_12
      refine tot_bindp (R := fun r_3 : Int32 => True) (sf_activeCount hP S h_S ) (fun r_3 d_r_3 => ?_)
      refine tot_if (fun c_13 => ?_) (fun c_13 => ?_)
      · replace c_13 := i_le c_13
        unfold fr_isMark_b44
        unfold fr_isMark_b45
        refine tot_oif (i_b01 (by omega)) ?_
        exact tot_some ⟨rfl, (show (0 ≤ (0 : Int32).toInt ∧ (0 : Int32).toInt ≤ 1) from by omega)⟩
      · replace c_13 := i_nle c_13
        refine tot_bindp (R := fun r_5 : Int32 => (0 ≤ r_5.toInt ∧ r_5.toInt ≤ 2147483647)) (sf_confusion hP S a0 a1 a2 h_S (by omega) (by omega) (by omega)) (fun r_5 d_r_5 => ?_)
        replace d_r_5 : (0 ≤ r_5.toInt ∧ r_5.toInt ≤ 2147483647) := d_r_5
        refine tot_let (fun v_7 e_v_7 => ?_)
        have r_v_7 := i_any v_7
        refine tot_bindp (R := fun r_8 : Int32 => True) (sf_activeCount hP S h_S ) (fun r_8 d_r_8 => ?_)
        refine tot_let (fun v_10 e_v_10 => ?_)
        have r_v_10 := i_any v_10
        refine tot_if (fun c_14 => ?_) (fun c_14 => ?_)
        · replace c_14 := i_lt c_14
          unfold fr_isMark_b44
          unfold fr_isMark_b45
          refine tot_oif (i_b01 (by omega)) ?_
          exact tot_some ⟨rfl, (show (0 ≤ (0 : Int32).toInt ∧ (0 : Int32).toInt ≤ 1) from by omega)⟩
        · replace c_14 := i_nlt c_14
          unfold fr_isMark_b45
          refine tot_oif (i_b01 (by omega)) ?_
          exact tot_some ⟨rfl, (show (0 ≤ (1 : Int32).toInt ∧ (1 : Int32).toInt ≤ 1) from by omega)⟩
set_option maxHeartbeats 4000000 in
set_option maxRecDepth 10000 in
theorem sf_isShare {P : Nat → Int32} (hP : PL P) (a0 : Int32) : Tot (fr_isShare a0) (fun r => (r.toInt = 0 ∨ r.toInt = 1 ∧ 1 ≤ a0.toInt ∧ a0.toInt ≤ 100)) := by
  have z0 : (1 : Int32).toInt = 1 := by decide
  have z1 : (100 : Int32).toInt = 100 := by decide
  have j_a0 := i_any a0
  unfold fr_isShare
  refine tot_bind (sf_in hP a0 1 100  ) (fun r_1 d_r_1 => ?_)
  replace d_r_1 : (r_1.toInt = 0 ∧ (a0.toInt < (1 : Int32).toInt ∨ (100 : Int32).toInt < a0.toInt) ∨ r_1.toInt = 1 ∧ (1 : Int32).toInt ≤ a0.toInt ∧ a0.toInt ≤ (100 : Int32).toInt) := d_r_1
  refine tot_oif (i_b01 (by omega)) ?_
  exact tot_some (show (r_1.toInt = 0 ∨ r_1.toInt = 1 ∧ 1 ≤ a0.toInt ∧ a0.toInt ≤ 100) from by omega)
set_option maxHeartbeats 4000000 in
set_option maxRecDepth 10000 in
theorem sf_isAlias {P : Nat → Int32} (hP : PL P) (S : MS) (a0 : Int32) (a1 : Int32) (a2 : Int32) (h_S : IC P S) : Tot (fr_isAlias S a0 a1 a2) (fun r => IC P r.2 ∧ (0 ≤ r.1.toInt ∧ r.1.toInt ≤ 1)) := by
  have z0 : (0 : Int32).toInt = 0 := by decide
  have z1 : (3 : Int32).toInt = 3 := by decide
  have z2 : (1 : Int32).toInt = 1 := by decide
  have p_9 := pl_9 hP
  have p_10 := pl_10 hP
  have p_cells := pl_cells hP
  have j_a0 := i_any a0
  have j_a1 := i_any a1
  have j_a2 := i_any a2
  unfold fr_isAlias
  refine tot_bindp (R := fun r_1 : Int32 => (r_1.toInt = 0 ∨ r_1.toInt = 1 ∧ (0 ≤ a0.toInt ∧ a0.toInt ≤ 143) ∧ a0.toInt < (P 9).toInt * (P 10).toInt)) (sf_isCell hP S a0 h_S ) (fun r_1 d_r_1 => ?_)
  replace d_r_1 : (r_1.toInt = 0 ∨ r_1.toInt = 1 ∧ (0 ≤ a0.toInt ∧ a0.toInt ≤ 143) ∧ a0.toInt < (P 9).toInt * (P 10).toInt) := d_r_1
  refine tot_bind2 (sf_mayAsk hP S r_1 h_S (by omega)) (fun r_3 S_4 d_r_3 => ?_)
  have h_S_4 : IC P S_4 := d_r_3.1
  replace d_r_3 : (r_3.toInt = 0 ∨ r_3.toInt = 1 ∧ ¬ r_1.toInt = 0) := d_r_3.2
  refine tot_if (fun c_7 => ?_) (fun c_7 => ?_)
  · replace c_7 := i_eq c_7
    exact tot_some ⟨h_S_4, (show (0 ≤ (0 : Int32).toInt ∧ (0 : Int32).toInt ≤ 1) from by omega)⟩
  · replace c_7 := i_ne c_7
    refine tot_bind (sf_isPeriod hP a1  ) (fun r_5 d_r_5 => ?_)
    replace d_r_5 : (r_5.toInt = 0 ∨ r_5.toInt = 1 ∧ 2 ≤ a1.toInt ∧ a1.toInt ≤ 99) := d_r_5
    refine tot_if (fun c_8 => ?_) (fun c_8 => ?_)
    · replace c_8 := i_eq c_8
      unfold fr_isAlias_b33
      unfold fr_isAlias_b34
      refine tot_let (fun S_9 e_S_9 => ?_)
      have h_S_9 : IC P S_9 := by rw [e_S_9]; exact ic_mi0 h_S_4 _
      have f_S_9_0 : (S_9.1 0).toInt = (3 : Int32).toInt := by rw [e_S_9]; rfl
      refine tot_let (fun v_10 e_v_10 => ?_)
      have q_v_10 := i_eq e_v_10
      have r_v_10 := i_any v_10
      refine tot_if (fun c_15 => ?_) (fun c_15 => ?_)
      · replace c_15 := i_eq c_15
        exfalso
        omega
      · replace c_15 := i_ne c_15
        unfold fr_isAlias_b66
        unfold fr_isAlias_b67
        refine tot_oif (i_b01 (by omega)) ?_
        exact tot_some ⟨h_S_9, (show (0 ≤ (0 : Int32).toInt ∧ (0 : Int32).toInt ≤ 1) from by omega)⟩
    · replace c_8 := i_ne c_8
      refine tot_bind (sf_isShare hP a2  ) (fun r_6 d_r_6 => ?_)
      replace d_r_6 : (r_6.toInt = 0 ∨ r_6.toInt = 1 ∧ 1 ≤ a2.toInt ∧ a2.toInt ≤ 100) := d_r_6
      refine tot_if (fun c_16 => ?_) (fun c_16 => ?_)
      · replace c_16 := i_eq c_16
        unfold fr_isAlias_b33
        unfold fr_isAlias_b34
        refine tot_let (fun S_17 e_S_17 => ?_)
        have h_S_17 : IC P S_17 := by rw [e_S_17]; exact ic_mi0 h_S_4 _
        have f_S_17_0 : (S_17.1 0).toInt = (3 : Int32).toInt := by rw [e_S_17]; rfl
        refine tot_let (fun v_18 e_v_18 => ?_)
        have q_v_18 := i_eq e_v_18
        have r_v_18 := i_any v_18
        refine tot_if (fun c_23 => ?_) (fun c_23 => ?_)
        · replace c_23 := i_eq c_23
          exfalso
          omega
        · replace c_23 := i_ne c_23
          unfold fr_isAlias_b66
          unfold fr_isAlias_b67
          refine tot_oif (i_b01 (by omega)) ?_
          exact tot_some ⟨h_S_17, (show (0 ≤ (0 : Int32).toInt ∧ (0 : Int32).toInt ≤ 1) from by omega)⟩
      · replace c_16 := i_ne c_16
        unfold fr_isAlias_b34
        refine tot_let (fun S_24 e_S_24 => ?_)
        have h_S_24 : IC P S_24 := by rw [e_S_24]; exact ic_mi0 h_S_4 _
        have f_S_24_0 : (S_24.1 0).toInt = (0 : Int32).toInt := by rw [e_S_24]; rfl
        refine tot_let (fun v_25 e_v_25 => ?_)
        have q_v_25 := i_eq e_v_25
        have r_v_25 := i_any v_25
        refine tot_if (fun c_30 => ?_) (fun c_30 => ?_)
        · replace c_30 := i_eq c_30
          refine tot_bind2 (sf_bestIn_12 hP S_24 h_S_24 ) (fun r_26 S_27 d_r_26 => ?_)
          have h_S_27 : IC P S_27 := d_r_26.1
          replace d_r_26 : (0 ≤ r_26.toInt ∧ r_26.toInt ≤ 143) := d_r_26.2
          refine tot_bindp (R := fun r_28 : Int32 => (0 ≤ r_28.toInt ∧ r_28.toInt ≤ 1)) (sf_isMark hP S_27 a0 r_26 a1 a2 h_S_27 (by omega) (by omega) (by omega) (by omega)) (fun r_28 d_r_28 => ?_)
          replace d_r_28 : (0 ≤ r_28.toInt ∧ r_28.toInt ≤ 1) := d_r_28
          refine tot_if (fun c_31 => ?_) (fun c_31 => ?_)
          · replace c_31 := i_eq c_31
            unfold fr_isAlias_b66
            unfold fr_isAlias_b67
            refine tot_oif (i_b01 (by omega)) ?_
            exact tot_some ⟨h_S_27, (show (0 ≤ (0 : Int32).toInt ∧ (0 : Int32).toInt ≤ 1) from by omega)⟩
          · replace c_31 := i_ne c_31
            unfold fr_isAlias_b67
            refine tot_oif (i_b01 (by omega)) ?_
            exact tot_some ⟨h_S_27, (show (0 ≤ (1 : Int32).toInt ∧ (1 : Int32).toInt ≤ 1) from by omega)⟩
        · replace c_30 := i_ne c_30
          exfalso
          omega
set_option maxHeartbeats 4000000 in
set_option maxRecDepth 10000 in
theorem lf_aliases_b43 {P : Nat → Int32} (hP : PL P) {Q : Int32 × MS → Prop} (l1 : Int32) (l2 : Int32) (l3 : Int32) (g0 : 2 ≤ l1.toInt ∧ l1.toInt ≤ 99) (g1 : 1 ≤ l2.toInt ∧ l2.toInt ≤ 100) (g2 : 0 ≤ l3.toInt ∧ l3.toInt ≤ 143) (hx0 : ∀ (S : MS) (l4 : Int32), (IC P S) → Tot (some (l4, S)) Q) : ∀ (n : Nat) (S : MS) (l4 : Int32) (l5 : Int32), (IC P S) → (0 ≤ l5.toInt ∧ l5.toInt ≤ 144) → 144 - l5.toInt < (n : Int) → Tot (fr_aliases_b43 n S l1 l2 l3 l4 l5) Q := by
  have z0 : (0 : Int32).toInt = 0 := by decide
  have z1 : (Int32.ofInt (1) : Int32).toInt = 1 := by decide
  have z2 : (1 : Int32).toInt = 1 := by decide
  have p_9 := pl_9 hP
  have p_10 := pl_10 hP
  have p_cells := pl_cells hP
  have j_l1 := i_any l1
  have j_l2 := i_any l2
  have j_l3 := i_any l3
  intro n
  induction n with
  | zero =>
    intro S l4 l5 h_S g_l5 hm
    exfalso
    omega
  | succ n ih =>
    intro S l4 l5 h_S g_l5 hm
    unfold fr_aliases_b43
    refine tot_bindp (R := fun r_28 : Int32 => ((1 ≤ r_28.toInt ∧ r_28.toInt ≤ 144) ∧ r_28.toInt = (P 9).toInt * (P 10).toInt)) (sf_cellCount hP S h_S ) (fun r_28 d_r_28 => ?_)
    replace d_r_28 : ((1 ≤ r_28.toInt ∧ r_28.toInt ≤ 144) ∧ r_28.toInt = (P 9).toInt * (P 10).toInt) := d_r_28
    refine tot_if (fun c_40 => ?_) (fun c_40 => ?_)
    · replace c_40 := i_le c_40
      exact hx0 S l4 h_S
    · replace c_40 := i_nle c_40
      refine tot_bindp (R := fun r_30 : Int32 => (0 ≤ r_30.toInt ∧ r_30.toInt ≤ 1)) (sf_isMark hP S l5 l3 l1 l2 h_S (by omega) (by omega) (by omega) (by omega)) (fun r_30 d_r_30 => ?_)
      replace d_r_30 : (0 ≤ r_30.toInt ∧ r_30.toInt ≤ 1) := d_r_30
      refine tot_if (fun c_41 => ?_) (fun c_41 => ?_)
      · replace c_41 := i_eq c_41
        unfold fr_aliases_b71
        refine tot_let (fun v_42 e_v_42 => ?_)
        have r_v_42 := i_any v_42
        refine tot_let (fun v_43 e_v_43 => ?_)
        have q_v_43 := i_add e_v_43 (by omega) (by omega)
        exact ih S v_42 v_43 h_S (by omega) (by omega)
      · replace c_41 := i_ne c_41
        unfold fr_aliases_b71
        refine tot_let (fun v_44 e_v_44 => ?_)
        have r_v_44 := i_any v_44
        refine tot_let (fun v_45 e_v_45 => ?_)
        have q_v_45 := i_add e_v_45 (by omega) (by omega)
        exact ih S v_44 v_45 h_S (by omega) (by omega)
set_option maxHeartbeats 4000000 in
set_option maxRecDepth 10000 in
theorem sf_aliases {P : Nat → Int32} (hP : PL P) (S : MS) (a0 : Int32) (a1 : Int32) (h_S : IC P S) : Tot (fr_aliases S a0 a1) (fun r => IC P r.2 ∧ True) := by
  have z0 : (0 : Int32).toInt = 0 := by decide
  have z1 : (1 : Int32).toInt = 1 := by decide
  have j_a0 := i_any a0
  have j_a1 := i_any a1
  unfold fr_aliases
  refine tot_bind (sf_isPeriod hP a0  ) (fun r_1 d_r_1 => ?_)
  replace d_r_1 : (r_1.toInt = 0 ∨ r_1.toInt = 1 ∧ 2 ≤ a0.toInt ∧ a0.toInt ≤ 99) := d_r_1
  refine tot_if (fun c_3 => ?_) (fun c_3 => ?_)
  · replace c_3 := i_eq c_3
    unfold fr_aliases_b19
    unfold fr_aliases_b20
    refine tot_bind2 (sf_mayAsk hP S 0 h_S (by omega)) (fun r_4 S_5 d_r_4 => ?_)
    have h_S_5 : IC P S_5 := d_r_4.1
    replace d_r_4 : (r_4.toInt = 0 ∨ r_4.toInt = 1 ∧ ¬ (0 : Int32).toInt = 0) := d_r_4.2
    refine tot_if (fun c_8 => ?_) (fun c_8 => ?_)
    · replace c_8 := i_eq c_8
      exact tot_some ⟨h_S_5, trivial⟩
    · replace c_8 := i_ne c_8
      exfalso
      omega
  · replace c_3 := i_ne c_3
    refine tot_bind (sf_isShare hP a1  ) (fun r_2 d_r_2 => ?_)
    replace d_r_2 : (r_2.toInt = 0 ∨ r_2.toInt = 1 ∧ 1 ≤ a1.toInt ∧ a1.toInt ≤ 100) := d_r_2
    refine tot_if (fun c_9 => ?_) (fun c_9 => ?_)
    · replace c_9 := i_eq c_9
      unfold fr_aliases_b19
      unfold fr_aliases_b20
      refine tot_bind2 (sf_mayAsk hP S 0 h_S (by omega)) (fun r_10 S_11 d_r_10 => ?_)
      have h_S_11 : IC P S_11 := d_r_10.1
      replace d_r_10 : (r_10.toInt = 0 ∨ r_10.toInt = 1 ∧ ¬ (0 : Int32).toInt = 0) := d_r_10.2
      refine tot_if (fun c_14 => ?_) (fun c_14 => ?_)
      · replace c_14 := i_eq c_14
        exact tot_some ⟨h_S_11, trivial⟩
      · replace c_14 := i_ne c_14
        exfalso
        omega
    · replace c_9 := i_ne c_9
      unfold fr_aliases_b20
      refine tot_bind2 (sf_mayAsk hP S 1 h_S (by omega)) (fun r_15 S_16 d_r_15 => ?_)
      have h_S_16 : IC P S_16 := d_r_15.1
      replace d_r_15 : (r_15.toInt = 0 ∨ r_15.toInt = 1 ∧ ¬ (1 : Int32).toInt = 0) := d_r_15.2
      refine tot_if (fun c_19 => ?_) (fun c_19 => ?_)
      · replace c_19 := i_eq c_19
        exact tot_some ⟨h_S_16, trivial⟩
      · replace c_19 := i_ne c_19
        refine tot_bind2 (sf_bestIn_12 hP S_16 h_S_16 ) (fun r_17 S_18 d_r_17 => ?_)
        have h_S_18 : IC P S_18 := d_r_17.1
        replace d_r_17 : (0 ≤ r_17.toInt ∧ r_17.toInt ≤ 143) := d_r_17.2
        refine lf_aliases_b43 hP a0 a1 r_17 (by omega) (by omega) (by omega) ?_ 16384 S_18 0 0 h_S_18 (by omega) (by omega)
        · intro S_46 l_47 h_S_46
          have j_l_47 := i_any l_47
          exact tot_some ⟨h_S_46, trivial⟩
set_option maxHeartbeats 4000000 in
set_option maxRecDepth 10000 in
theorem sf_blockOf {P : Nat → Int32} (hP : PL P) (S : MS) (a0 : Int32) (a1 : Int32) (a2 : Int32) (h_S : IC P S) (g0 : 0 ≤ a0.toInt ∧ a0.toInt ≤ 143) (g1 : 0 ≤ a1.toInt ∧ a1.toInt ≤ 9800) (g2 : 1 ≤ a2.toInt ∧ a2.toInt ≤ 200) : Tot (fr_blockOf S a0 a1 a2) (fun r => IC P r.2 ∧ True) := by
  have j_a0 := i_any a0
  have j_a1 := i_any a1
  have j_a2 := i_any a2
  unfold fr_blockOf
  refine tot_bind (sf_laysCell hP S a0 h_S (by omega)) (fun S_1 d_S_1 => ?_)
  have h_S_1 : IC P S_1 := d_S_1.1
  refine tot_bindp (R := fun r_2 : Int32 => (0 ≤ r_2.toInt ∧ r_2.toInt ≤ 200)) (sf_windowOf_12 hP S_1 h_S_1 ) (fun r_2 d_r_2 => ?_)
  replace d_r_2 : (0 ≤ r_2.toInt ∧ r_2.toInt ≤ 200) := d_r_2
  refine tot_let (fun v_4 e_v_4 => ?_)
  have q_v_4 := i_add e_v_4 (by omega) (by omega)
  refine tot_let (fun v_5 e_v_5 => ?_)
  have q_v_5 := i_ilt e_v_5
  refine tot_bindp (R := fun r_6 : Int64 => True) (sf_energy_12 hP S_1 a1 v_5 h_S_1 (by omega) (by omega)) (fun r_6 d_r_6 => ?_)
  refine tot_let (fun v_8 e_v_8 => ?_)
  refine tot_oif (by rw [e_v_8]; exact i_nz64 (by omega)) ?_
  refine tot_let (fun v_9 e_v_9 => ?_)
  exact tot_some ⟨h_S_1, trivial⟩
set_option maxHeartbeats 4000000 in
set_option maxRecDepth 10000 in
theorem sf_isBlock {P : Nat → Int32} (hP : PL P) (S : MS) (a0 : Int32) (a1 : Int32) (h_S : IC P S) : Tot (fr_isBlock S a0 a1) (fun r => r.2 = S ∧ (r.1.toInt = 0 ∨ r.1.toInt = 1 ∧ (0 ≤ a0.toInt ∧ a0.toInt < (P 2).toInt) ∧ 1 ≤ a1.toInt ∧ a1.toInt ≤ (P 2).toInt)) := by
  have z0 : (0 : Int32).toInt = 0 := by decide
  have z1 : (1 : Int32).toInt = 1 := by decide
  have p_2 := pl_2 hP
  have j_a0 := i_any a0
  have j_a1 := i_any a1
  unfold fr_isBlock
  refine tot_bindp (R := fun r_1 : Int32 => (r_1.toInt = 0 ∨ r_1.toInt = 1 ∧ 0 ≤ a0.toInt ∧ a0.toInt < (P 2).toInt)) (sf_isTime hP S a0 h_S ) (fun r_1 d_r_1 => ?_)
  replace d_r_1 : (r_1.toInt = 0 ∨ r_1.toInt = 1 ∧ 0 ≤ a0.toInt ∧ a0.toInt < (P 2).toInt) := d_r_1
  refine tot_if (fun c_5 => ?_) (fun c_5 => ?_)
  · replace c_5 := i_eq c_5
    unfold fr_isBlock_b26
    unfold fr_isBlock_b27
    refine tot_oif (i_b01 (by omega)) ?_
    exact tot_some ⟨rfl, (show ((0 : Int32).toInt = 0 ∨ (0 : Int32).toInt = 1 ∧ (0 ≤ a0.toInt ∧ a0.toInt < (P 2).toInt) ∧ 1 ≤ a1.toInt ∧ a1.toInt ≤ (P 2).toInt) from by omega)⟩
  · replace c_5 := i_ne c_5
    refine tot_let (fun v_3 e_v_3 => ?_)
    have q_v_3 := ic_p h_S e_v_3
    refine tot_bind (sf_in hP a1 1 v_3  ) (fun r_4 d_r_4 => ?_)
    replace d_r_4 : (r_4.toInt = 0 ∧ (a1.toInt < (1 : Int32).toInt ∨ v_3.toInt < a1.toInt) ∨ r_4.toInt = 1 ∧ (1 : Int32).toInt ≤ a1.toInt ∧ a1.toInt ≤ v_3.toInt) := d_r_4
    refine tot_if (fun c_6 => ?_) (fun c_6 => ?_)
    · replace c_6 := i_eq c_6
      unfold fr_isBlock_b26
      unfold fr_isBlock_b27
      refine tot_oif (i_b01 (by omega)) ?_
      exact tot_some ⟨rfl, (show ((0 : Int32).toInt = 0 ∨ (0 : Int32).toInt = 1 ∧ (0 ≤ a0.toInt ∧ a0.toInt < (P 2).toInt) ∧ 1 ≤ a1.toInt ∧ a1.toInt ≤ (P 2).toInt) from by omega)⟩
    · replace c_6 := i_ne c_6
      unfold fr_isBlock_b27
      refine tot_oif (i_b01 (by omega)) ?_
      exact tot_some ⟨rfl, (show ((1 : Int32).toInt = 0 ∨ (1 : Int32).toInt = 1 ∧ (0 ≤ a0.toInt ∧ a0.toInt < (P 2).toInt) ∧ 1 ≤ a1.toInt ∧ a1.toInt ≤ (P 2).toInt) from by omega)⟩
set_option maxHeartbeats 4000000 in
set_option maxRecDepth 10000 in
theorem sf_blockPower {P : Nat → Int32} (hP : PL P) (S : MS) (a0 : Int32) (a1 : Int32) (a2 : Int32) (h_S : IC P S) : Tot (fr_blockPower S a0 a1 a2) (fun r => IC P r.2 ∧ True) := by
  have z0 : (0 : Int32).toInt = 0 := by decide
  have z1 : (3 : Int32).toInt = 3 := by decide
  have p_2 := pl_2 hP
  have p_9 := pl_9 hP
  have p_10 := pl_10 hP
  have p_cells := pl_cells hP
  have j_a0 := i_any a0
  have j_a1 := i_any a1
  have j_a2 := i_any a2
  unfold fr_blockPower
  refine tot_bindp (R := fun r_1 : Int32 => (r_1.toInt = 0 ∨ r_1.toInt = 1 ∧ (0 ≤ a0.toInt ∧ a0.toInt ≤ 143) ∧ a0.toInt < (P 9).toInt * (P 10).toInt)) (sf_isCell hP S a0 h_S ) (fun r_1 d_r_1 => ?_)
  replace d_r_1 : (r_1.toInt = 0 ∨ r_1.toInt = 1 ∧ (0 ≤ a0.toInt ∧ a0.toInt ≤ 143) ∧ a0.toInt < (P 9).toInt * (P 10).toInt) := d_r_1
  refine tot_bind2 (sf_mayAsk hP S r_1 h_S (by omega)) (fun r_3 S_4 d_r_3 => ?_)
  have h_S_4 : IC P S_4 := d_r_3.1
  replace d_r_3 : (r_3.toInt = 0 ∨ r_3.toInt = 1 ∧ ¬ r_1.toInt = 0) := d_r_3.2
  refine tot_if (fun c_12 => ?_) (fun c_12 => ?_)
  · replace c_12 := i_eq c_12
    exact tot_some ⟨h_S_4, trivial⟩
  · replace c_12 := i_ne c_12
    refine tot_bindp (R := fun r_5 : Int32 => (r_5.toInt = 0 ∨ r_5.toInt = 1 ∧ (0 ≤ a1.toInt ∧ a1.toInt < (P 2).toInt) ∧ 1 ≤ a2.toInt ∧ a2.toInt ≤ (P 2).toInt)) (sf_isBlock hP S_4 a1 a2 h_S_4 ) (fun r_5 d_r_5 => ?_)
    replace d_r_5 : (r_5.toInt = 0 ∨ r_5.toInt = 1 ∧ (0 ≤ a1.toInt ∧ a1.toInt < (P 2).toInt) ∧ 1 ≤ a2.toInt ∧ a2.toInt ≤ (P 2).toInt) := d_r_5
    refine tot_if (fun c_13 => ?_) (fun c_13 => ?_)
    · replace c_13 := i_eq c_13
      refine tot_bind2 (sf_throwsAt hP S_4 3 h_S_4 ) (fun r_7 S_8 d_r_7 => ?_)
      have h_S_8 : IC P S_8 := d_r_7.1
      replace d_r_7 : (0 ≤ r_7.toInt ∧ r_7.toInt ≤ 0) := d_r_7.2
      refine tot_let (fun v_9 e_v_9 => ?_)
      unfold fr_blockPower_b39
      exact tot_some ⟨h_S_8, trivial⟩
    · replace c_13 := i_ne c_13
      refine tot_bind2 (sf_blockOf hP S_4 a0 a1 a2 h_S_4 (by omega) (by omega) (by omega)) (fun r_10 S_11 d_r_10 => ?_)
      have h_S_11 : IC P S_11 := d_r_10.1
      unfold fr_blockPower_b39
      exact tot_some ⟨h_S_11, trivial⟩
set_option maxHeartbeats 4000000 in
set_option maxRecDepth 10000 in
theorem lf_bestOfBlock_b14 {P : Nat → Int32} (hP : PL P) {Q : Int32 × MS → Prop} (l1 : Int32) (l2 : Int32) (g0 : 0 ≤ l1.toInt ∧ l1.toInt ≤ 199) (g1 : 1 ≤ l2.toInt ∧ l2.toInt ≤ 200) (hx0 : ∀ (S : MS) (l3 : Int32), (IC P S) → (0 ≤ l3.toInt ∧ l3.toInt ≤ 143) → Tot (some (l3, S)) Q) : ∀ (n : Nat) (S : MS) (l3 : Int32) (l4 : Int64) (l6 : Int32), (IC P S) → (0 ≤ l3.toInt ∧ l3.toInt ≤ 143) → (1 ≤ l6.toInt ∧ l6.toInt ≤ 144) → 144 - l6.toInt < (n : Int) → Tot (fr_bestOfBlock_b14 n S l1 l2 l3 l4 l6) Q := by
  have z0 : (0 : Int32).toInt = 0 := by decide
  have z1 : (Int32.ofInt (1) : Int32).toInt = 1 := by decide
  have p_9 := pl_9 hP
  have p_10 := pl_10 hP
  have p_cells := pl_cells hP
  have j_l1 := i_any l1
  have j_l2 := i_any l2
  intro n
  induction n with
  | zero =>
    intro S l3 l4 l6 h_S g_l3 g_l6 hm
    exfalso
    omega
  | succ n ih =>
    intro S l3 l4 l6 h_S g_l3 g_l6 hm
    unfold fr_bestOfBlock_b14
    refine tot_bindp (R := fun r_10 : Int32 => ((1 ≤ r_10.toInt ∧ r_10.toInt ≤ 144) ∧ r_10.toInt = (P 9).toInt * (P 10).toInt)) (sf_cellCount hP S h_S ) (fun r_10 d_r_10 => ?_)
    replace d_r_10 : ((1 ≤ r_10.toInt ∧ r_10.toInt ≤ 144) ∧ r_10.toInt = (P 9).toInt * (P 10).toInt) := d_r_10
    refine tot_if (fun c_22 => ?_) (fun c_22 => ?_)
    · replace c_22 := i_le c_22
      exact hx0 S l3 h_S (by omega)
    · replace c_22 := i_nle c_22
      refine tot_bind2 (sf_blockOf hP S l6 l1 l2 h_S (by omega) (by omega) (by omega)) (fun r_12 S_13 d_r_12 => ?_)
      have h_S_13 : IC P S_13 := d_r_12.1
      refine tot_let (fun v_14 e_v_14 => ?_)
      have r_v_14 := i_any v_14
      refine tot_if (fun c_23 => ?_) (fun c_23 => ?_)
      · replace c_23 := i_lt c_23
        unfold fr_bestOfBlock_b51
        refine tot_let (fun v_24 e_v_24 => ?_)
        have q_v_24 := i_add e_v_24 (by omega) (by omega)
        exact ih S_13 l6 r_12 v_24 h_S_13 (by omega) (by omega) (by omega)
      · replace c_23 := i_nlt c_23
        unfold fr_bestOfBlock_b51
        refine tot_let (fun v_25 e_v_25 => ?_)
        have q_v_25 := i_add e_v_25 (by omega) (by omega)
        exact ih S_13 l3 l4 v_25 h_S_13 (by omega) (by omega) (by omega)
set_option maxHeartbeats 4000000 in
set_option maxRecDepth 10000 in
theorem sf_bestOfBlock {P : Nat → Int32} (hP : PL P) (S : MS) (a0 : Int32) (a1 : Int32) (h_S : IC P S) (g0 : 0 ≤ a0.toInt ∧ a0.toInt ≤ 199) (g1 : 1 ≤ a1.toInt ∧ a1.toInt ≤ 200) : Tot (fr_bestOfBlock S a0 a1) (fun r => IC P r.2 ∧ (0 ≤ r.1.toInt ∧ r.1.toInt ≤ 143)) := by
  have z0 : (0 : Int32).toInt = 0 := by decide
  have z1 : (1 : Int32).toInt = 1 := by decide
  have j_a0 := i_any a0
  have j_a1 := i_any a1
  unfold fr_bestOfBlock
  refine tot_bind2 (sf_blockOf hP S 0 a0 a1 h_S (by omega) (by omega) (by omega)) (fun r_1 S_2 d_r_1 => ?_)
  have h_S_2 : IC P S_2 := d_r_1.1
  refine lf_bestOfBlock_b14 hP a0 a1 (by omega) (by omega) ?_ 16384 S_2 0 r_1 1 h_S_2 (by omega) (by omega) (by omega)
  · intro S_26 l_27 h_S_26 g_l_27
    exact tot_some ⟨h_S_26, (show (0 ≤ l_27.toInt ∧ l_27.toInt ≤ 143) from by omega)⟩
set_option maxHeartbeats 4000000 in
set_option maxRecDepth 10000 in
theorem sf_blockBest {P : Nat → Int32} (hP : PL P) (S : MS) (a0 : Int32) (a1 : Int32) (h_S : IC P S) : Tot (fr_blockBest S a0 a1) (fun r => IC P r.2 ∧ (0 ≤ r.1.toInt ∧ r.1.toInt ≤ 143)) := by
  have z0 : (0 : Int32).toInt = 0 := by decide
  have p_2 := pl_2 hP
  have j_a0 := i_any a0
  have j_a1 := i_any a1
  unfold fr_blockBest
  refine tot_bindp (R := fun r_1 : Int32 => (r_1.toInt = 0 ∨ r_1.toInt = 1 ∧ (0 ≤ a0.toInt ∧ a0.toInt < (P 2).toInt) ∧ 1 ≤ a1.toInt ∧ a1.toInt ≤ (P 2).toInt)) (sf_isBlock hP S a0 a1 h_S ) (fun r_1 d_r_1 => ?_)
  replace d_r_1 : (r_1.toInt = 0 ∨ r_1.toInt = 1 ∧ (0 ≤ a0.toInt ∧ a0.toInt < (P 2).toInt) ∧ 1 ≤ a1.toInt ∧ a1.toInt ≤ (P 2).toInt) := d_r_1
  refine tot_bind2 (sf_mayAsk hP S r_1 h_S (by omega)) (fun r_3 S_4 d_r_3 => ?_)
  have h_S_4 : IC P S_4 := d_r_3.1
  replace d_r_3 : (r_3.toInt = 0 ∨ r_3.toInt = 1 ∧ ¬ r_1.toInt = 0) := d_r_3.2
  refine tot_if (fun c_7 => ?_) (fun c_7 => ?_)
  · replace c_7 := i_eq c_7
    unfold fr_blockBest_b23
    exact tot_some ⟨h_S_4, (show (0 ≤ (0 : Int32).toInt ∧ (0 : Int32).toInt ≤ 143) from by omega)⟩
  · replace c_7 := i_ne c_7
    refine tot_bind2 (sf_bestOfBlock hP S_4 a0 a1 h_S_4 (by omega) (by omega)) (fun r_5 S_6 d_r_5 => ?_)
    have h_S_6 : IC P S_6 := d_r_5.1
    replace d_r_5 : (0 ≤ r_5.toInt ∧ r_5.toInt ≤ 143) := d_r_5.2
    unfold fr_blockBest_b23
    exact tot_some ⟨h_S_6, (show (0 ≤ r_5.toInt ∧ r_5.toInt ≤ 143) from by omega)⟩
set_option maxHeartbeats 4000000 in
set_option maxRecDepth 10000 in
theorem lf_path_b32 {P : Nat → Int32} (hP : PL P) {Q : Int32 × MS → Prop} (l1 : Int32) (g0 : 4 ≤ l1.toInt ∧ l1.toInt ≤ 200) (hx0 : ∀ (S : MS) (l2 : Int32), (IC P S) → Tot (some (l2, S)) Q) : ∀ (n : Nat) (S : MS) (l2 : Int32) (l3 : Int32) (l4 : Int32), (IC P S) → (0 ≤ l3.toInt ∧ l3.toInt ≤ 143) → (4 ≤ l4.toInt ∧ l4.toInt ≤ 200) → 200 - l4.toInt < (n : Int) → Tot (fr_path_b32 n S l1 l2 l3 l4) Q := by
  have z0 : (0 : Int32).toInt = 0 := by decide
  have z1 : (1 : Int32).toInt = 1 := by decide
  have p_2 := pl_2 hP
  have j_l1 := i_any l1
  intro n
  induction n with
  | zero =>
    intro S l2 l3 l4 h_S g_l3 g_l4 hm
    exfalso
    omega
  | succ n ih =>
    intro S l2 l3 l4 h_S g_l3 g_l4 hm
    unfold fr_path_b32
    refine tot_let (fun v_16 e_v_16 => ?_)
    have q_v_16 := i_add e_v_16 (by omega) (by omega)
    refine tot_let (fun v_17 e_v_17 => ?_)
    have q_v_17 := ic_p h_S e_v_17
    refine tot_if (fun c_28 => ?_) (fun c_28 => ?_)
    · replace c_28 := i_lt c_28
      exact hx0 S l2 h_S
    · replace c_28 := i_nlt c_28
      refine tot_bind2 (sf_bestOfBlock hP S l4 l1 h_S (by omega) (by omega)) (fun r_18 S_19 d_r_18 => ?_)
      have h_S_19 : IC P S_19 := d_r_18.1
      replace d_r_18 : (0 ≤ r_18.toInt ∧ r_18.toInt ≤ 143) := d_r_18.2
      refine tot_if (fun c_29 => ?_) (fun c_29 => ?_)
      · replace c_29 := i_eq c_29
        unfold fr_path_b66
        refine tot_let (fun v_30 e_v_30 => ?_)
        have r_v_30 := i_any v_30
        refine tot_let (fun v_31 e_v_31 => ?_)
        have q_v_31 := i_add e_v_31 (by omega) (by omega)
        exact ih S_19 v_30 r_18 v_31 h_S_19 (by omega) (by omega) (by omega)
      · replace c_29 := i_ne c_29
        unfold fr_path_b66
        refine tot_let (fun v_32 e_v_32 => ?_)
        have r_v_32 := i_any v_32
        refine tot_let (fun v_33 e_v_33 => ?_)
        have q_v_33 := i_add e_v_33 (by omega) (by omega)
        exact ih S_19 v_32 r_18 v_33 h_S_19 (by omega) (by omega) (by omega)
set_option maxHeartbeats 4000000 in
set_option maxRecDepth 10000 in
theorem sf_path {P : Nat → Int32} (hP : PL P) (S : MS) (a0 : Int32) (h_S : IC P S) : Tot (fr_path S a0) (fun r => IC P r.2 ∧ True) := by
  have z0 : (4 : Int32).toInt = 4 := by decide
  have z1 : (0 : Int32).toInt = 0 := by decide
  have p_2 := pl_2 hP
  have j_a0 := i_any a0
  unfold fr_path
  refine tot_let (fun v_1 e_v_1 => ?_)
  have q_v_1 := ic_p h_S e_v_1
  refine tot_bind (sf_in hP a0 4 v_1  ) (fun r_2 d_r_2 => ?_)
  replace d_r_2 : (r_2.toInt = 0 ∧ (a0.toInt < (4 : Int32).toInt ∨ v_1.toInt < a0.toInt) ∨ r_2.toInt = 1 ∧ (4 : Int32).toInt ≤ a0.toInt ∧ a0.toInt ≤ v_1.toInt) := d_r_2
  refine tot_bind2 (sf_mayAsk hP S r_2 h_S (by omega)) (fun r_3 S_4 d_r_3 => ?_)
  have h_S_4 : IC P S_4 := d_r_3.1
  replace d_r_3 : (r_3.toInt = 0 ∨ r_3.toInt = 1 ∧ ¬ r_2.toInt = 0) := d_r_3.2
  refine tot_if (fun c_7 => ?_) (fun c_7 => ?_)
  · replace c_7 := i_eq c_7
    exact tot_some ⟨h_S_4, trivial⟩
  · replace c_7 := i_ne c_7
    refine tot_bind2 (sf_bestOfBlock hP S_4 0 a0 h_S_4 (by omega) (by omega)) (fun r_5 S_6 d_r_5 => ?_)
    have h_S_6 : IC P S_6 := d_r_5.1
    replace d_r_5 : (0 ≤ r_5.toInt ∧ r_5.toInt ≤ 143) := d_r_5.2
    refine lf_path_b32 hP a0 (by omega) ?_ 16384 S_6 0 r_5 a0 h_S_6 (by omega) (by omega) (by omega)
    · intro S_34 l_35 h_S_34
      have j_l_35 := i_any l_35
      exact tot_some ⟨h_S_34, trivial⟩
set_option maxHeartbeats 4000000 in
set_option maxRecDepth 10000 in
theorem sf_areNear_w {P : Nat → Int32} (hP : PL P) (S : MS) (a0 : Int32) (a1 : Int32) (h_S : IC P S) (g0 : 0 ≤ a0.toInt ∧ a0.toInt ≤ 143) (g1 : 0 ≤ a1.toInt ∧ a1.toInt ≤ 143) : Tot (fr_areNear S a0 a1) (fun r => r.2 = S ∧ (r.1.toInt = 0 ∨ r.1.toInt = 1)) := by
  have z0 : (0 : Int32).toInt = 0 := by decide
  have z1 : (1 : Int32).toInt = 1 := by decide
  have p_9 := pl_9 hP
  have p_cells := pl_cells hP
  have j_a0 := i_any a0
  have j_a1 := i_any a1
  unfold fr_areNear
  refine tot_let (fun v_1 e_v_1 => ?_)
  have q_v_1 := ic_p h_S e_v_1
  refine tot_oif (i_nz (by omega)) ?_
  refine tot_let (fun v_2 e_v_2 => ?_)
  have q_v_2 := i_rem e_v_2 (by omega) (by omega)
  have x_v_2 := i_remq e_v_2 (by omega) (by omega)
  rw [q_v_1] at x_v_2
  refine tot_let (fun v_3 e_v_3 => ?_)
  have q_v_3 := ic_p h_S e_v_3
  refine tot_oif (i_nz (by omega)) ?_
  refine tot_let (fun v_4 e_v_4 => ?_)
  have q_v_4 := i_rem e_v_4 (by omega) (by omega)
  have x_v_4 := i_remq e_v_4 (by omega) (by omega)
  rw [q_v_3] at x_v_4
  refine tot_let (fun v_5 e_v_5 => ?_)
  have q_v_5 := i_sub e_v_5 (by omega) (by omega)
  refine tot_let (fun v_6 e_v_6 => ?_)
  have q_v_6 := i_abs e_v_6 (by omega)
  refine tot_if (fun c_13 => ?_) (fun c_13 => ?_)
  · replace c_13 := i_lt c_13
    unfold fr_areNear_b56
    unfold fr_areNear_b57
    refine tot_oif (i_b01 (by omega)) ?_
    exact tot_some ⟨rfl, (show ((0 : Int32).toInt = 0 ∨ (0 : Int32).toInt = 1) from by omega)⟩
  · replace c_13 := i_nlt c_13
    refine tot_let (fun v_7 e_v_7 => ?_)
    have q_v_7 := ic_p h_S e_v_7
    refine tot_oif (i_nz (by omega)) ?_
    refine tot_let (fun v_8 e_v_8 => ?_)
    have q_v_8 := i_div (c := 1) e_v_8 (by omega) (by omega) (by decide)
    have x_v_8 := i_divq e_v_8 (by omega) (by omega)
    rw [q_v_7] at x_v_8
    refine tot_let (fun v_9 e_v_9 => ?_)
    have q_v_9 := ic_p h_S e_v_9
    refine tot_oif (i_nz (by omega)) ?_
    refine tot_let (fun v_10 e_v_10 => ?_)
    have q_v_10 := i_div (c := 1) e_v_10 (by omega) (by omega) (by decide)
    have x_v_10 := i_divq e_v_10 (by omega) (by omega)
    rw [q_v_9] at x_v_10
    refine tot_let (fun v_11 e_v_11 => ?_)
    have q_v_11 := i_sub e_v_11 (by omega) (by omega)
    refine tot_let (fun v_12 e_v_12 => ?_)
    have q_v_12 := i_abs e_v_12 (by omega)
    refine tot_if (fun c_14 => ?_) (fun c_14 => ?_)
    · replace c_14 := i_lt c_14
      unfold fr_areNear_b56
      unfold fr_areNear_b57
      refine tot_oif (i_b01 (by omega)) ?_
      exact tot_some ⟨rfl, (show ((0 : Int32).toInt = 0 ∨ (0 : Int32).toInt = 1) from by omega)⟩
    · replace c_14 := i_nlt c_14
      unfold fr_areNear_b57
      refine tot_oif (i_b01 (by omega)) ?_
      exact tot_some ⟨rfl, (show ((1 : Int32).toInt = 0 ∨ (1 : Int32).toInt = 1) from by omega)⟩
set_option maxHeartbeats 4000000 in
set_option maxRecDepth 10000 in
theorem sf_areNear_s {P : Nat → Int32} (hP : PL P) (S : MS) (a0 : Int32) (a1 : Int32) (h_S : IC P S) (g0 : 0 ≤ a0.toInt ∧ a0.toInt ≤ 143) (g1 : 0 ≤ a1.toInt ∧ a1.toInt ≤ 143) : Tot (fr_areNear S a0 a0) (fun r => r.2 = S ∧ (r.1.toInt = 1)) := by
  have z0 : (0 : Int32).toInt = 0 := by decide
  have z1 : (1 : Int32).toInt = 1 := by decide
  have p_9 := pl_9 hP
  have p_cells := pl_cells hP
  have j_a0 := i_any a0
  have j_a1 := i_any a1
  unfold fr_areNear
  refine tot_let (fun v_1 e_v_1 => ?_)
  have q_v_1 := ic_p h_S e_v_1
  refine tot_oif (i_nz (by omega)) ?_
  refine tot_let (fun v_2 e_v_2 => ?_)
  have q_v_2 := i_rem e_v_2 (by omega) (by omega)
  have x_v_2 := i_remq e_v_2 (by omega) (by omega)
  rw [q_v_1] at x_v_2
  refine tot_let (fun v_3 e_v_3 => ?_)
  have q_v_3 := ic_p h_S e_v_3
  refine tot_oif (i_nz (by omega)) ?_
  refine tot_let (fun v_4 e_v_4 => ?_)
  have q_v_4 := i_rem e_v_4 (by omega) (by omega)
  have x_v_4 := i_remq e_v_4 (by omega) (by omega)
  rw [q_v_3] at x_v_4
  refine tot_let (fun v_5 e_v_5 => ?_)
  have q_v_5 := i_sub e_v_5 (by omega) (by omega)
  refine tot_let (fun v_6 e_v_6 => ?_)
  have q_v_6 := i_abs e_v_6 (by omega)
  refine tot_if (fun c_13 => ?_) (fun c_13 => ?_)
  · replace c_13 := i_lt c_13
    unfold fr_areNear_b56
    unfold fr_areNear_b57
    refine tot_oif (i_b01 (by omega)) ?_
    exact tot_some ⟨rfl, (show ((0 : Int32).toInt = 1) from by omega)⟩
  · replace c_13 := i_nlt c_13
    refine tot_let (fun v_7 e_v_7 => ?_)
    have q_v_7 := ic_p h_S e_v_7
    refine tot_oif (i_nz (by omega)) ?_
    refine tot_let (fun v_8 e_v_8 => ?_)
    have q_v_8 := i_div (c := 1) e_v_8 (by omega) (by omega) (by decide)
    have x_v_8 := i_divq e_v_8 (by omega) (by omega)
    rw [q_v_7] at x_v_8
    refine tot_let (fun v_9 e_v_9 => ?_)
    have q_v_9 := ic_p h_S e_v_9
    refine tot_oif (i_nz (by omega)) ?_
    refine tot_let (fun v_10 e_v_10 => ?_)
    have q_v_10 := i_div (c := 1) e_v_10 (by omega) (by omega) (by decide)
    have x_v_10 := i_divq e_v_10 (by omega) (by omega)
    rw [q_v_9] at x_v_10
    refine tot_let (fun v_11 e_v_11 => ?_)
    have q_v_11 := i_sub e_v_11 (by omega) (by omega)
    refine tot_let (fun v_12 e_v_12 => ?_)
    have q_v_12 := i_abs e_v_12 (by omega)
    refine tot_if (fun c_14 => ?_) (fun c_14 => ?_)
    · replace c_14 := i_lt c_14
      unfold fr_areNear_b56
      unfold fr_areNear_b57
      refine tot_oif (i_b01 (by omega)) ?_
      exact tot_some ⟨rfl, (show ((0 : Int32).toInt = 1) from by omega)⟩
    · replace c_14 := i_nlt c_14
      unfold fr_areNear_b57
      refine tot_oif (i_b01 (by omega)) ?_
      exact tot_some ⟨rfl, (show ((1 : Int32).toInt = 1) from by omega)⟩
theorem sf_areNear {P : Nat → Int32} (hP : PL P) (S : MS) (a0 : Int32) (a1 : Int32) (h_S : IC P S) (g0 : 0 ≤ a0.toInt ∧ a0.toInt ≤ 143) (g1 : 0 ≤ a1.toInt ∧ a1.toInt ≤ 143) : Tot (fr_areNear S a0 a1) (fun r => r.2 = S ∧ ((r.1.toInt = 0 ∨ r.1.toInt = 1) ∧ (a0.toInt = a1.toInt → r.1.toInt = 1))) := by
  by_cases e : a0 = a1
  · subst e
    exact tot_w (sf_areNear_s hP S a0 a0 h_S g0 g1) (fun r q => ⟨q.1, .inr q.2, fun _ => q.2⟩)
  · exact tot_w (sf_areNear_w hP S a0 a1 h_S g0 g1) (fun r q => ⟨q.1, q.2, fun h => absurd (Int32.toInt_inj.mp h) e⟩)
end
section
/-! 12c.sd3.lean.txt -/
set_option maxHeartbeats 4000000 in
set_option maxRecDepth 10000 in
theorem lf_bestBehind_b5 {P : Nat → Int32} (hP : PL P) {Q : Int32 × MS → Prop} (S : MS) (l1 : Int32) (l2 : Int32) (h_S : IC P S) (g0 : 0 ≤ l1.toInt ∧ l1.toInt ≤ 49) (g1 : -1 ≤ l2.toInt ∧ l2.toInt ≤ 143) (g2 : l2.toInt = -1 ∨ l2.toInt < (P 9).toInt * (P 10).toInt) (hx0 : ∀ (l3 : Int32), (0 ≤ l3.toInt ∧ l3.toInt ≤ 143) → (l3.toInt < (P 9).toInt * (P 10).toInt) → Tot (some (l3, S)) Q) : ∀ (n : Nat) (l3 : Int32) (l4 : Int32), (-1 ≤ l3.toInt ∧ l3.toInt ≤ 143) → (0 ≤ l4.toInt ∧ l4.toInt ≤ 144) → (l3.toInt = -1 → (l4.toInt = 0 ∨ (¬ l2.toInt = -1 ∧ l4.toInt ≤ l2.toInt))) → (l3.toInt < (P 9).toInt * (P 10).toInt) → 144 - l4.toInt < (n : Int) → Tot (fr_bestBehind_b5 n S l1 l2 l3 l4) Q := by
  have z0 : ((-1) : Int32).toInt = -1 := by decide
  have z1 : (Int32.ofInt (1) : Int32).toInt = 1 := by decide
  have z2 : (144 : Int32).toInt = 144 := by decide
  have z3 : (0 : Int32).toInt = 0 := by decide
  have p_9 := pl_9 hP
  have p_10 := pl_10 hP
  have p_cells := pl_cells hP
  have j_l1 := i_any l1
  have j_l2 := i_any l2
  intro n
  induction n with
  | zero =>
    intro l3 l4 g_l3 g_l4 gi_0 gi_1 hm
    exfalso
    omega
  | succ n ih =>
    intro l3 l4 g_l3 g_l4 gi_0 gi_1 hm
    unfold fr_bestBehind_b5
    refine tot_bindp (R := fun r_26 : Int32 => ((1 ≤ r_26.toInt ∧ r_26.toInt ≤ 144) ∧ r_26.toInt = (P 9).toInt * (P 10).toInt)) (sf_cellCount hP S h_S ) (fun r_26 d_r_26 => ?_)
    replace d_r_26 : ((1 ≤ r_26.toInt ∧ r_26.toInt ≤ 144) ∧ r_26.toInt = (P 9).toInt * (P 10).toInt) := d_r_26
    refine tot_if (fun c_55 => ?_) (fun c_55 => ?_)
    · replace c_55 := i_le c_55
      exact hx0 l3 (by omega) (by omega)
    · replace c_55 := i_nle c_55
      refine tot_if (fun c_56 => ?_) (fun c_56 => ?_)
      · replace c_56 := i_eq c_56
        unfold fr_bestBehind_b29
        refine tot_if (fun c_64 => ?_) (fun c_64 => ?_)
        · replace c_64 := i_eq c_64
          unfold fr_bestBehind_b66
          unfold fr_bestBehind_b69
          refine tot_let (fun v_65 e_v_65 => ?_)
          have q_v_65 := i_add e_v_65 (by omega) (by omega)
          exact ih l4 v_65 (by omega) (by omega) (by omega) (by omega) (by omega)
        · replace c_64 := i_ne c_64
          refine tot_let (fun v_57 e_v_57 => ?_)
          have q_v_57 := i_mulk e_v_57 z2 (by omega) (by omega)
          refine tot_let (fun v_58 e_v_58 => ?_)
          have q_v_58 := i_add e_v_58 (by omega) (by omega)
          refine tot_oif (i_inb (by omega) (by omega)) ?_
          refine tot_let (fun v_59 e_v_59 => ?_)
          refine tot_let (fun v_60 e_v_60 => ?_)
          have q_v_60 := i_mulk e_v_60 z2 (by omega) (by omega)
          refine tot_let (fun v_61 e_v_61 => ?_)
          have q_v_61 := i_add e_v_61 (by omega) (by omega)
          refine tot_oif (i_inb (by omega) (by omega)) ?_
          refine tot_let (fun v_62 e_v_62 => ?_)
          refine tot_let (fun v_63 e_v_63 => ?_)
          have r_v_63 := i_any v_63
          refine tot_if (fun c_66 => ?_) (fun c_66 => ?_)
          · replace c_66 := i_lt c_66
            unfold fr_bestBehind_b66
            unfold fr_bestBehind_b69
            refine tot_let (fun v_67 e_v_67 => ?_)
            have q_v_67 := i_add e_v_67 (by omega) (by omega)
            exact ih l4 v_67 (by omega) (by omega) (by omega) (by omega) (by omega)
          · replace c_66 := i_nlt c_66
            unfold fr_bestBehind_b69
            refine tot_let (fun v_68 e_v_68 => ?_)
            have q_v_68 := i_add e_v_68 (by omega) (by omega)
            exact ih l3 v_68 (by omega) (by omega) (by omega) (by omega) (by omega)
      · replace c_56 := i_ne c_56
        refine tot_bindp (R := fun r_28 : Int32 => ((r_28.toInt = 0 ∨ r_28.toInt = 1) ∧ (l2.toInt = l4.toInt → r_28.toInt = 1))) (sf_areNear hP S l2 l4 h_S (by omega) (by omega)) (fun r_28 d_r_28 => ?_)
        replace d_r_28 : ((r_28.toInt = 0 ∨ r_28.toInt = 1) ∧ (l2.toInt = l4.toInt → r_28.toInt = 1)) := d_r_28
        refine tot_if (fun c_69 => ?_) (fun c_69 => ?_)
        · replace c_69 := i_eq c_69
          unfold fr_bestBehind_b69
          refine tot_let (fun v_70 e_v_70 => ?_)
          have q_v_70 := i_add e_v_70 (by omega) (by omega)
          exact ih l3 v_70 (by omega) (by omega) (by omega) (by omega) (by omega)
        · replace c_69 := i_ne c_69
          unfold fr_bestBehind_b29
          refine tot_if (fun c_78 => ?_) (fun c_78 => ?_)
          · replace c_78 := i_eq c_78
            unfold fr_bestBehind_b66
            unfold fr_bestBehind_b69
            refine tot_let (fun v_79 e_v_79 => ?_)
            have q_v_79 := i_add e_v_79 (by omega) (by omega)
            exact ih l4 v_79 (by omega) (by omega) (by omega) (by omega) (by omega)
          · replace c_78 := i_ne c_78
            refine tot_let (fun v_71 e_v_71 => ?_)
            have q_v_71 := i_mulk e_v_71 z2 (by omega) (by omega)
            refine tot_let (fun v_72 e_v_72 => ?_)
            have q_v_72 := i_add e_v_72 (by omega) (by omega)
            refine tot_oif (i_inb (by omega) (by omega)) ?_
            refine tot_let (fun v_73 e_v_73 => ?_)
            refine tot_let (fun v_74 e_v_74 => ?_)
            have q_v_74 := i_mulk e_v_74 z2 (by omega) (by omega)
            refine tot_let (fun v_75 e_v_75 => ?_)
            have q_v_75 := i_add e_v_75 (by omega) (by omega)
            refine tot_oif (i_inb (by omega) (by omega)) ?_
            refine tot_let (fun v_76 e_v_76 => ?_)
            refine tot_let (fun v_77 e_v_77 => ?_)
            have r_v_77 := i_any v_77
            refine tot_if (fun c_80 => ?_) (fun c_80 => ?_)
            · replace c_80 := i_lt c_80
              unfold fr_bestBehind_b66
              unfold fr_bestBehind_b69
              refine tot_let (fun v_81 e_v_81 => ?_)
              have q_v_81 := i_add e_v_81 (by omega) (by omega)
              exact ih l4 v_81 (by omega) (by omega) (by omega) (by omega) (by omega)
            · replace c_80 := i_nlt c_80
              unfold fr_bestBehind_b69
              refine tot_let (fun v_82 e_v_82 => ?_)
              have q_v_82 := i_add e_v_82 (by omega) (by omega)
              exact ih l3 v_82 (by omega) (by omega) (by omega) (by omega) (by omega)
set_option maxHeartbeats 4000000 in
set_option maxRecDepth 10000 in
theorem sf_bestBehind {P : Nat → Int32} (hP : PL P) (S : MS) (a0 : Int32) (a1 : Int32) (h_S : IC P S) (g0 : 0 ≤ a0.toInt ∧ a0.toInt ≤ 49) (g1 : -1 ≤ a1.toInt ∧ a1.toInt ≤ 143) (g2 : a1.toInt = -1 ∨ a1.toInt < (P 9).toInt * (P 10).toInt) : Tot (fr_bestBehind S a0 a1) (fun r => r.2 = S ∧ ((0 ≤ r.1.toInt ∧ r.1.toInt ≤ 143) ∧ r.1.toInt < (P 9).toInt * (P 10).toInt)) := by
  have z0 : ((-1) : Int32).toInt = -1 := by decide
  have z1 : (0 : Int32).toInt = 0 := by decide
  have p_cells := pl_cells hP
  have j_a0 := i_any a0
  have j_a1 := i_any a1
  unfold fr_bestBehind
  refine lf_bestBehind_b5 hP S a0 a1 h_S (by omega) (by omega) (by omega) ?_ 16384 (-1) 0 (by omega) (by omega) (by omega) (by omega) (by omega)
  · intro l_83 g_l_83 gr_84
    exact tot_some ⟨rfl, (show ((0 ≤ l_83.toInt ∧ l_83.toInt ≤ 143) ∧ l_83.toInt < (P 9).toInt * (P 10).toInt) from by omega)⟩
set_option maxHeartbeats 4000000 in
set_option maxRecDepth 10000 in
theorem lf_laysScores_b32 {P : Nat → Int32} (hP : PL P) {Q : MS → Prop} {k8 : MS → Int32 → Int32 → Option (MS)} (l1 : Int32) (l2 : Int32) (l3 : Int32) (g0 : 4 ≤ l1.toInt ∧ l1.toInt ≤ 200) (g1 : 0 ≤ l2.toInt ∧ l2.toInt ≤ 49) (g2 : 0 ≤ l3.toInt ∧ l3.toInt ≤ 1) (g3 : l3.toInt = 0 → l2.toInt ≤ 48) (hx0 : ∀ (S : MS), (IC P S) → Tot (elet (l2 + Int32.ofInt (-1)) fun v_130 => k8 S l1 v_130) Q) : ∀ (n : Nat) (S : MS) (l4 : Int32), (IC P S) → (0 ≤ l4.toInt ∧ l4.toInt ≤ 144) → 144 - l4.toInt < (n : Int) → Tot (fr_laysScores_b32 k8 n S l1 l2 l3 l4) Q := by
  have z0 : (144 : Int32).toInt = 144 := by decide
  have z1 : (0 : Int32).toInt = 0 := by decide
  have z2 : (1 : Int32).toInt = 1 := by decide
  have z3 : (Int32.ofInt (1) : Int32).toInt = 1 := by decide
  have p_9 := pl_9 hP
  have p_10 := pl_10 hP
  have p_cells := pl_cells hP
  have j_l1 := i_any l1
  have j_l2 := i_any l2
  have j_l3 := i_any l3
  intro n
  induction n with
  | zero =>
    intro S l4 h_S g_l4 hm
    exfalso
    omega
  | succ n ih =>
    intro S l4 h_S g_l4 hm
    unfold fr_laysScores_b32
    refine tot_bindp (R := fun r_128 : Int32 => ((1 ≤ r_128.toInt ∧ r_128.toInt ≤ 144) ∧ r_128.toInt = (P 9).toInt * (P 10).toInt)) (sf_cellCount hP S h_S ) (fun r_128 d_r_128 => ?_)
    replace d_r_128 : ((1 ≤ r_128.toInt ∧ r_128.toInt ≤ 144) ∧ r_128.toInt = (P 9).toInt * (P 10).toInt) := d_r_128
    refine tot_if (fun c_164 => ?_) (fun c_164 => ?_)
    · replace c_164 := i_le c_164
      exact hx0 S h_S
    · replace c_164 := i_nle c_164
      refine tot_let (fun v_131 e_v_131 => ?_)
      have q_v_131 := i_mulk e_v_131 z0 (by omega) (by omega)
      refine tot_let (fun v_132 e_v_132 => ?_)
      have q_v_132 := i_add e_v_132 (by omega) (by omega)
      refine tot_let (fun v_133 e_v_133 => ?_)
      have q_v_133 := i_mulp (a := 4) (b := 200) (c := 0) (d := 49) e_v_133 (by omega) (by omega) (by omega) (by omega) (by decide)
      refine tot_bind2 (sf_blockOf hP S l4 v_133 l1 h_S (by omega) (by omega) (by omega)) (fun r_134 S_135 d_r_134 => ?_)
      have h_S_135 : IC P S_135 := d_r_134.1
      refine tot_if (fun c_165 => ?_) (fun c_165 => ?_)
      · replace c_165 := i_eq c_165
        refine tot_let (fun v_136 e_v_136 => ?_)
        have q_v_136 := i_add e_v_136 (by omega) (by omega)
        refine tot_let (fun v_137 e_v_137 => ?_)
        have q_v_137 := i_mulk e_v_137 z0 (by omega) (by omega)
        refine tot_let (fun v_138 e_v_138 => ?_)
        have q_v_138 := i_add e_v_138 (by omega) (by omega)
        refine tot_bindp (R := fun r_139 : Int32 => ((0 ≤ r_139.toInt ∧ r_139.toInt ≤ 143) ∧ r_139.toInt < (P 9).toInt * (P 10).toInt)) (sf_bestBehind hP S_135 v_138 l4 h_S_135 (by omega) (by omega) (by omega)) (fun r_139 d_r_139 => ?_)
        replace d_r_139 : ((0 ≤ r_139.toInt ∧ r_139.toInt ≤ 143) ∧ r_139.toInt < (P 9).toInt * (P 10).toInt) := d_r_139
        refine tot_let (fun v_141 e_v_141 => ?_)
        have q_v_141 := i_add e_v_141 (by omega) (by omega)
        refine tot_oif (i_inb (by omega) (by omega)) ?_
        refine tot_let (fun v_142 e_v_142 => ?_)
        unfold fr_laysScores_b93
        refine tot_let (fun v_166 e_v_166 => ?_)
        refine tot_oif (i_inb (by omega) (by omega)) ?_
        refine tot_let (fun S_167 e_S_167 => ?_)
        have h_S_167 : IC P S_167 := by rw [e_S_167]; exact ic_mg26 h_S_135 _
        refine tot_let (fun v_168 e_v_168 => ?_)
        have q_v_168 := i_add e_v_168 (by omega) (by omega)
        exact ih S_167 v_168 h_S_167 (by omega) (by omega)
      · replace c_165 := i_ne c_165
        unfold fr_laysScores_b93
        refine tot_let (fun v_169 e_v_169 => ?_)
        refine tot_oif (i_inb (by omega) (by omega)) ?_
        refine tot_let (fun S_170 e_S_170 => ?_)
        have h_S_170 : IC P S_170 := by rw [e_S_170]; exact ic_mg26 h_S_135 _
        refine tot_let (fun v_171 e_v_171 => ?_)
        have q_v_171 := i_add e_v_171 (by omega) (by omega)
        exact ih S_170 v_171 h_S_170 (by omega) (by omega)
set_option maxHeartbeats 4000000 in
set_option maxRecDepth 10000 in
theorem lf_laysScores_b8 {P : Nat → Int32} (hP : PL P) {Q : MS → Prop} (l1 : Int32) (g0 : 4 ≤ l1.toInt ∧ l1.toInt ≤ 200) (hx0 : ∀ (S : MS), (IC P S) → Tot (some (S)) Q) : ∀ (n : Nat) (S : MS) (l2 : Int32), (IC P S) → (-1 ≤ l2.toInt ∧ l2.toInt ≤ 49) → (l2.toInt < (P 2).toInt / l1.toInt) → l2.toInt - (-1) < (n : Int) → Tot (fr_laysScores_b8 n S l1 l2) Q := by
  have z0 : (0 : Int32).toInt = 0 := by decide
  have z1 : (1 : Int32).toInt = 1 := by decide
  have z2 : (Int32.ofInt (-1) : Int32).toInt = -1 := by decide
  have p_2 := pl_2 hP
  have p_cells := pl_cells hP
  have j_l1 := i_any l1
  intro n
  induction n with
  | zero =>
    intro S l2 h_S g_l2 gi_0 hm
    exfalso
    omega
  | succ n ih =>
    intro S l2 h_S g_l2 gi_0 hm
    unfold fr_laysScores_b8
    refine tot_if (fun c_126 => ?_) (fun c_126 => ?_)
    · replace c_126 := i_lt c_126
      exact hx0 S h_S
    · replace c_126 := i_nlt c_126
      refine tot_bindp (R := fun r_74 : Int32 => ((0 ≤ r_74.toInt ∧ r_74.toInt ≤ 50) ∧ r_74.toInt = (P 2).toInt / l1.toInt)) (sf_blockCount hP S l1 h_S (by omega)) (fun r_74 d_r_74 => ?_)
      replace d_r_74 : ((0 ≤ r_74.toInt ∧ r_74.toInt ≤ 50) ∧ r_74.toInt = (P 2).toInt / l1.toInt) := d_r_74
      refine tot_let (fun v_76 e_v_76 => ?_)
      have q_v_76 := i_sub e_v_76 (by omega) (by omega)
      refine tot_if (fun c_127 => ?_) (fun c_127 => ?_)
      · replace c_127 := i_eq c_127
        unfold fr_laysScores_b28
        refine lf_laysScores_b32 hP l1 l2 1 (by omega) (by omega) (by omega) (by omega) ?_ 16384 S 0 h_S (by omega) (by omega)
        · intro S_172 h_S_172
          refine tot_let (fun v__173 e_v__173 => ?_)
          have q_v__173 := i_add e_v__173 (by omega) (by omega)
          exact ih S_172 v__173 h_S_172 (by omega) (by omega) (by omega)
      · replace c_127 := i_ne c_127
        unfold fr_laysScores_b28
        refine lf_laysScores_b32 hP l1 l2 0 (by omega) (by omega) (by omega) (by omega) ?_ 16384 S 0 h_S (by omega) (by omega)
        · intro S_174 h_S_174
          refine tot_let (fun v__175 e_v__175 => ?_)
          have q_v__175 := i_add e_v__175 (by omega) (by omega)
          exact ih S_174 v__175 h_S_174 (by omega) (by omega) (by omega)
set_option maxHeartbeats 4000000 in
set_option maxRecDepth 10000 in
theorem sf_laysScores {P : Nat → Int32} (hP : PL P) (S : MS) (a0 : Int32) (h_S : IC P S) (g0 : 4 ≤ a0.toInt ∧ a0.toInt ≤ 200) : Tot (fr_laysScores S a0) (fun S1 => IC P S1 ∧ True) := by
  have z0 : (1 : Int32).toInt = 1 := by decide
  have p_2 := pl_2 hP
  have p_cells := pl_cells hP
  have j_a0 := i_any a0
  unfold fr_laysScores
  refine tot_bindp (R := fun r_1 : Int32 => ((0 ≤ r_1.toInt ∧ r_1.toInt ≤ 50) ∧ r_1.toInt = (P 2).toInt / a0.toInt)) (sf_blockCount hP S a0 h_S (by omega)) (fun r_1 d_r_1 => ?_)
  replace d_r_1 : ((0 ≤ r_1.toInt ∧ r_1.toInt ≤ 50) ∧ r_1.toInt = (P 2).toInt / a0.toInt) := d_r_1
  refine tot_let (fun v_3 e_v_3 => ?_)
  have q_v_3 := i_sub e_v_3 (by omega) (by omega)
  refine lf_laysScores_b8 hP a0 (by omega) ?_ 16384 S v_3 h_S (by omega) (by omega) (by omega)
  · intro S_176 h_S_176
    exact tot_some ⟨h_S_176, trivial⟩
set_option maxHeartbeats 4000000 in
set_option maxRecDepth 10000 in
theorem sf_isLength {P : Nat → Int32} (hP : PL P) (S : MS) (a0 : Int32) (h_S : IC P S) : Tot (fr_isLength S a0) (fun r => r.2 = S ∧ (r.1.toInt = 0 ∧ (a0.toInt < 4 ∨ (P 2).toInt < a0.toInt) ∨ r.1.toInt = 1 ∧ 4 ≤ a0.toInt ∧ a0.toInt ≤ (P 2).toInt)) := by
  have z0 : (4 : Int32).toInt = 4 := by decide
  have p_2 := pl_2 hP
  have j_a0 := i_any a0
  unfold fr_isLength
  refine tot_let (fun v_1 e_v_1 => ?_)
  have q_v_1 := ic_p h_S e_v_1
  refine tot_bind (sf_in hP a0 4 v_1  ) (fun r_2 d_r_2 => ?_)
  replace d_r_2 : (r_2.toInt = 0 ∧ (a0.toInt < (4 : Int32).toInt ∨ v_1.toInt < a0.toInt) ∨ r_2.toInt = 1 ∧ (4 : Int32).toInt ≤ a0.toInt ∧ a0.toInt ≤ v_1.toInt) := d_r_2
  refine tot_oif (i_b01 (by omega)) ?_
  exact tot_some ⟨rfl, (show (r_2.toInt = 0 ∧ (a0.toInt < 4 ∨ (P 2).toInt < a0.toInt) ∨ r_2.toInt = 1 ∧ 4 ≤ a0.toInt ∧ a0.toInt ≤ (P 2).toInt) from by omega)⟩
set_option maxHeartbeats 4000000 in
set_option maxRecDepth 10000 in
theorem sf_trackScore {P : Nat → Int32} (hP : PL P) (S : MS) (a0 : Int32) (h_S : IC P S) : Tot (fr_trackScore S a0) (fun r => IC P r.2 ∧ True) := by
  have z0 : (0 : Int32).toInt = 0 := by decide
  have z1 : ((-1) : Int32).toInt = -1 := by decide
  have p_2 := pl_2 hP
  have p_9 := pl_9 hP
  have p_10 := pl_10 hP
  have p_cells := pl_cells hP
  have j_a0 := i_any a0
  unfold fr_trackScore
  refine tot_bindp (R := fun r_1 : Int32 => (r_1.toInt = 0 ∧ (a0.toInt < 4 ∨ (P 2).toInt < a0.toInt) ∨ r_1.toInt = 1 ∧ 4 ≤ a0.toInt ∧ a0.toInt ≤ (P 2).toInt)) (sf_isLength hP S a0 h_S ) (fun r_1 d_r_1 => ?_)
  replace d_r_1 : (r_1.toInt = 0 ∧ (a0.toInt < 4 ∨ (P 2).toInt < a0.toInt) ∨ r_1.toInt = 1 ∧ 4 ≤ a0.toInt ∧ a0.toInt ≤ (P 2).toInt) := d_r_1
  refine tot_bind2 (sf_mayAsk hP S r_1 h_S (by omega)) (fun r_3 S_4 d_r_3 => ?_)
  have h_S_4 : IC P S_4 := d_r_3.1
  replace d_r_3 : (r_3.toInt = 0 ∨ r_3.toInt = 1 ∧ ¬ r_1.toInt = 0) := d_r_3.2
  refine tot_if (fun c_9 => ?_) (fun c_9 => ?_)
  · replace c_9 := i_eq c_9
    exact tot_some ⟨h_S_4, trivial⟩
  · replace c_9 := i_ne c_9
    refine tot_bind (sf_laysScores hP S_4 a0 h_S_4 (by omega)) (fun S_5 d_S_5 => ?_)
    have h_S_5 : IC P S_5 := d_S_5.1
    refine tot_bindp (R := fun r_6 : Int32 => ((0 ≤ r_6.toInt ∧ r_6.toInt ≤ 143) ∧ r_6.toInt < (P 9).toInt * (P 10).toInt)) (sf_bestBehind hP S_5 0 (-1) h_S_5 (by omega) (by omega) (by omega)) (fun r_6 d_r_6 => ?_)
    replace d_r_6 : ((0 ≤ r_6.toInt ∧ r_6.toInt ≤ 143) ∧ r_6.toInt < (P 9).toInt * (P 10).toInt) := d_r_6
    refine tot_oif (i_inb (by omega) (by omega)) ?_
    refine tot_let (fun v_8 e_v_8 => ?_)
    exact tot_some ⟨h_S_5, trivial⟩
set_option maxHeartbeats 4000000 in
set_option maxRecDepth 10000 in
theorem lf_trackCell_b61 {P : Nat → Int32} (hP : PL P) {Q : Int32 × MS → Prop} (l2 : Int32) (g0 : 0 ≤ l2.toInt ∧ l2.toInt ≤ 49) (hx0 : ∀ (S : MS) (l3 : Int32), (IC P S) → (-1 ≤ l3.toInt ∧ l3.toInt ≤ 143) → Tot (some (l3, S)) Q) : ∀ (n : Nat) (S : MS) (l3 : Int32) (l4 : Int32), (IC P S) → (-1 ≤ l3.toInt ∧ l3.toInt ≤ 143) → (0 ≤ l4.toInt ∧ l4.toInt ≤ 50) → (l3.toInt = -1 ∨ l3.toInt < (P 9).toInt * (P 10).toInt) → 50 - l4.toInt < (n : Int) → Tot (fr_trackCell_b61 n S l2 l3 l4) Q := by
  have z0 : (Int32.ofInt (1) : Int32).toInt = 1 := by decide
  have p_9 := pl_9 hP
  have p_10 := pl_10 hP
  have p_cells := pl_cells hP
  have j_l2 := i_any l2
  intro n
  induction n with
  | zero =>
    intro S l3 l4 h_S g_l3 g_l4 gi_0 hm
    exfalso
    omega
  | succ n ih =>
    intro S l3 l4 h_S g_l3 g_l4 gi_0 hm
    unfold fr_trackCell_b61
    refine tot_if (fun c_44 => ?_) (fun c_44 => ?_)
    · replace c_44 := i_lt c_44
      exact hx0 S l3 h_S (by omega)
    · replace c_44 := i_nlt c_44
      refine tot_bindp (R := fun r_38 : Int32 => ((0 ≤ r_38.toInt ∧ r_38.toInt ≤ 143) ∧ r_38.toInt < (P 9).toInt * (P 10).toInt)) (sf_bestBehind hP S l4 l3 h_S (by omega) (by omega) (by omega)) (fun r_38 d_r_38 => ?_)
      replace d_r_38 : ((0 ≤ r_38.toInt ∧ r_38.toInt ≤ 143) ∧ r_38.toInt < (P 9).toInt * (P 10).toInt) := d_r_38
      refine tot_let (fun v_40 e_v_40 => ?_)
      have q_v_40 := i_add e_v_40 (by omega) (by omega)
      exact ih S r_38 v_40 h_S (by omega) (by omega) (by omega) (by omega)
set_option maxHeartbeats 4000000 in
set_option maxRecDepth 10000 in
theorem sf_trackCell {P : Nat → Int32} (hP : PL P) (S : MS) (a0 : Int32) (a1 : Int32) (h_S : IC P S) : Tot (fr_trackCell S a0 a1) (fun r => IC P r.2 ∧ (-1 ≤ r.1.toInt ∧ r.1.toInt ≤ 143)) := by
  have z0 : (0 : Int32).toInt = 0 := by decide
  have z1 : (1 : Int32).toInt = 1 := by decide
  have z2 : (3 : Int32).toInt = 3 := by decide
  have z3 : ((-1) : Int32).toInt = -1 := by decide
  have p_2 := pl_2 hP
  have p_cells := pl_cells hP
  have j_a0 := i_any a0
  have j_a1 := i_any a1
  unfold fr_trackCell
  refine tot_bindp (R := fun r_1 : Int32 => (r_1.toInt = 0 ∧ (a0.toInt < 4 ∨ (P 2).toInt < a0.toInt) ∨ r_1.toInt = 1 ∧ 4 ≤ a0.toInt ∧ a0.toInt ≤ (P 2).toInt)) (sf_isLength hP S a0 h_S ) (fun r_1 d_r_1 => ?_)
  replace d_r_1 : (r_1.toInt = 0 ∧ (a0.toInt < 4 ∨ (P 2).toInt < a0.toInt) ∨ r_1.toInt = 1 ∧ 4 ≤ a0.toInt ∧ a0.toInt ≤ (P 2).toInt) := d_r_1
  refine tot_if (fun c_7 => ?_) (fun c_7 => ?_)
  · replace c_7 := i_eq c_7
    unfold fr_trackCell_b24
    unfold fr_trackCell_b29
    refine tot_bind2 (sf_mayAsk hP S 1 h_S (by omega)) (fun r_8 S_9 d_r_8 => ?_)
    have h_S_9 : IC P S_9 := d_r_8.1
    replace d_r_8 : (r_8.toInt = 0 ∨ r_8.toInt = 1 ∧ ¬ (1 : Int32).toInt = 0) := d_r_8.2
    refine tot_if (fun c_15 => ?_) (fun c_15 => ?_)
    · replace c_15 := i_eq c_15
      exact tot_some ⟨h_S_9, (show (-1 ≤ (0 : Int32).toInt ∧ (0 : Int32).toInt ≤ 143) from by omega)⟩
    · replace c_15 := i_ne c_15
      refine tot_bindp (R := fun r_10 : Int32 => (r_10.toInt = 0 ∧ (a0.toInt < 4 ∨ (P 2).toInt < a0.toInt) ∨ r_10.toInt = 1 ∧ 4 ≤ a0.toInt ∧ a0.toInt ≤ (P 2).toInt)) (sf_isLength hP S_9 a0 h_S_9 ) (fun r_10 d_r_10 => ?_)
      replace d_r_10 : (r_10.toInt = 0 ∧ (a0.toInt < 4 ∨ (P 2).toInt < a0.toInt) ∨ r_10.toInt = 1 ∧ 4 ≤ a0.toInt ∧ a0.toInt ≤ (P 2).toInt) := d_r_10
      refine tot_if (fun c_16 => ?_) (fun c_16 => ?_)
      · replace c_16 := i_eq c_16
        refine tot_bind2 (sf_throwsAt hP S_9 3 h_S_9 ) (fun r_12 S_13 d_r_12 => ?_)
        have h_S_13 : IC P S_13 := d_r_12.1
        replace d_r_12 : (0 ≤ r_12.toInt ∧ r_12.toInt ≤ 0) := d_r_12.2
        exact tot_some ⟨h_S_13, (show (-1 ≤ r_12.toInt ∧ r_12.toInt ≤ 143) from by omega)⟩
      · replace c_16 := i_ne c_16
        exfalso
        omega
  · replace c_7 := i_ne c_7
    refine tot_bindp (R := fun r_3 : Int32 => ((0 ≤ r_3.toInt ∧ r_3.toInt ≤ 50) ∧ r_3.toInt = (P 2).toInt / a0.toInt)) (sf_blockCount hP S a0 h_S (by omega)) (fun r_3 d_r_3 => ?_)
    replace d_r_3 : ((0 ≤ r_3.toInt ∧ r_3.toInt ≤ 50) ∧ r_3.toInt = (P 2).toInt / a0.toInt) := d_r_3
    refine tot_let (fun v_5 e_v_5 => ?_)
    have q_v_5 := i_sub e_v_5 (by omega) (by omega)
    refine tot_bind (sf_in hP a1 0 v_5  ) (fun r_6 d_r_6 => ?_)
    replace d_r_6 : (r_6.toInt = 0 ∧ (a1.toInt < (0 : Int32).toInt ∨ v_5.toInt < a1.toInt) ∨ r_6.toInt = 1 ∧ (0 : Int32).toInt ≤ a1.toInt ∧ a1.toInt ≤ v_5.toInt) := d_r_6
    refine tot_if (fun c_17 => ?_) (fun c_17 => ?_)
    · replace c_17 := i_eq c_17
      unfold fr_trackCell_b29
      refine tot_bind2 (sf_mayAsk hP S 0 h_S (by omega)) (fun r_18 S_19 d_r_18 => ?_)
      have h_S_19 : IC P S_19 := d_r_18.1
      replace d_r_18 : (r_18.toInt = 0 ∨ r_18.toInt = 1 ∧ ¬ (0 : Int32).toInt = 0) := d_r_18.2
      refine tot_if (fun c_25 => ?_) (fun c_25 => ?_)
      · replace c_25 := i_eq c_25
        exact tot_some ⟨h_S_19, (show (-1 ≤ (0 : Int32).toInt ∧ (0 : Int32).toInt ≤ 143) from by omega)⟩
      · replace c_25 := i_ne c_25
        exfalso
        omega
    · replace c_17 := i_ne c_17
      unfold fr_trackCell_b24
      unfold fr_trackCell_b29
      refine tot_bind2 (sf_mayAsk hP S 1 h_S (by omega)) (fun r_26 S_27 d_r_26 => ?_)
      have h_S_27 : IC P S_27 := d_r_26.1
      replace d_r_26 : (r_26.toInt = 0 ∨ r_26.toInt = 1 ∧ ¬ (1 : Int32).toInt = 0) := d_r_26.2
      refine tot_if (fun c_33 => ?_) (fun c_33 => ?_)
      · replace c_33 := i_eq c_33
        exact tot_some ⟨h_S_27, (show (-1 ≤ (0 : Int32).toInt ∧ (0 : Int32).toInt ≤ 143) from by omega)⟩
      · replace c_33 := i_ne c_33
        refine tot_bindp (R := fun r_28 : Int32 => (r_28.toInt = 0 ∧ (a0.toInt < 4 ∨ (P 2).toInt < a0.toInt) ∨ r_28.toInt = 1 ∧ 4 ≤ a0.toInt ∧ a0.toInt ≤ (P 2).toInt)) (sf_isLength hP S_27 a0 h_S_27 ) (fun r_28 d_r_28 => ?_)
        replace d_r_28 : (r_28.toInt = 0 ∧ (a0.toInt < 4 ∨ (P 2).toInt < a0.toInt) ∨ r_28.toInt = 1 ∧ 4 ≤ a0.toInt ∧ a0.toInt ≤ (P 2).toInt) := d_r_28
        refine tot_if (fun c_34 => ?_) (fun c_34 => ?_)
        · replace c_34 := i_eq c_34
          exfalso
          omega
        · replace c_34 := i_ne c_34
          refine tot_bind (sf_laysScores hP S_27 a0 h_S_27 (by omega)) (fun S_32 d_S_32 => ?_)
          have h_S_32 : IC P S_32 := d_S_32.1
          refine lf_trackCell_b61 hP a1 (by omega) ?_ 16384 S_32 (-1) 0 h_S_32 (by omega) (by omega) (by omega) (by omega)
          · intro S_45 l_46 h_S_45 g_l_46
            exact tot_some ⟨h_S_45, (show (-1 ≤ l_46.toInt ∧ l_46.toInt ≤ 143) from by omega)⟩
set_option maxHeartbeats 4000000 in
set_option maxRecDepth 10000 in
theorem sf_isZone {P : Nat → Int32} (hP : PL P) (S : MS) (a0 : Int32) (h_S : IC P S) : Tot (fr_isZone S a0) (fun r => r.2 = S ∧ (r.1.toInt = 0 ∨ r.1.toInt = 1 ∧ 0 ≤ a0.toInt ∧ a0.toInt < (P 101).toInt)) := by
  have z0 : (1 : Int32).toInt = 1 := by decide
  have z1 : (0 : Int32).toInt = 0 := by decide
  have p_101 := pl_101 hP
  have j_a0 := i_any a0
  unfold fr_isZone
  refine tot_let (fun v_1 e_v_1 => ?_)
  have q_v_1 := ic_p h_S e_v_1
  refine tot_let (fun v_2 e_v_2 => ?_)
  have q_v_2 := i_sub e_v_2 (by omega) (by omega)
  refine tot_bind (sf_in hP a0 0 v_2  ) (fun r_3 d_r_3 => ?_)
  replace d_r_3 : (r_3.toInt = 0 ∧ (a0.toInt < (0 : Int32).toInt ∨ v_2.toInt < a0.toInt) ∨ r_3.toInt = 1 ∧ (0 : Int32).toInt ≤ a0.toInt ∧ a0.toInt ≤ v_2.toInt) := d_r_3
  refine tot_oif (i_b01 (by omega)) ?_
  exact tot_some ⟨rfl, (show (r_3.toInt = 0 ∨ r_3.toInt = 1 ∧ 0 ≤ a0.toInt ∧ a0.toInt < (P 101).toInt) from by omega)⟩
set_option maxHeartbeats 4000000 in
set_option maxRecDepth 10000 in
theorem sf_isInZone {P : Nat → Int32} (hP : PL P) (S : MS) (a0 : Int32) (a1 : Int32) (h_S : IC P S) (g0 : 0 ≤ a0.toInt ∧ a0.toInt ≤ 3) (g1 : 0 ≤ a1.toInt ∧ a1.toInt ≤ 143) : Tot (fr_isInZone S a0 a1) (fun r => r.2 = S ∧ (0 ≤ r.1.toInt ∧ r.1.toInt ≤ 1)) := by
  have z0 : (4 : Int32).toInt = 4 := by decide
  have z1 : (102 : Int32).toInt = 102 := by decide
  have z2 : (0 : Int32).toInt = 0 := by decide
  have z3 : (2 : Int32).toInt = 2 := by decide
  have z4 : (1 : Int32).toInt = 1 := by decide
  have z5 : (3 : Int32).toInt = 3 := by decide
  have p_9 := pl_9 hP
  have p_cells := pl_cells hP
  have j_a0 := i_any a0
  have j_a1 := i_any a1
  unfold fr_isInZone
  refine tot_let (fun v_1 e_v_1 => ?_)
  have q_v_1 := i_mulk e_v_1 z0 (by omega) (by omega)
  refine tot_let (fun v_2 e_v_2 => ?_)
  have q_v_2 := i_add e_v_2 (by omega) (by omega)
  refine tot_let (fun v_3 e_v_3 => ?_)
  have q_v_3 := ic_p h_S e_v_3
  refine tot_oif (i_nz (by omega)) ?_
  refine tot_let (fun v_4 e_v_4 => ?_)
  have q_v_4 := i_rem e_v_4 (by omega) (by omega)
  refine tot_oif (i_inb (by omega) (by omega)) ?_
  refine tot_let (fun v_5 e_v_5 => ?_)
  have q_v_5 := ic_p h_S e_v_5
  have r_v_5 := pr_102 hP v_2 (by omega) (by omega)
  refine tot_let (fun v_6 e_v_6 => ?_)
  have q_v_6 := i_add e_v_6 (by omega) (by omega)
  refine tot_oif (i_inb (by omega) (by omega)) ?_
  refine tot_let (fun v_7 e_v_7 => ?_)
  have q_v_7 := ic_p h_S e_v_7
  have r_v_7 := pr_102 hP v_6 (by omega) (by omega)
  refine tot_bind (sf_in hP v_4 v_5 v_7  ) (fun r_8 d_r_8 => ?_)
  replace d_r_8 : (r_8.toInt = 0 ∧ (v_4.toInt < v_5.toInt ∨ v_7.toInt < v_4.toInt) ∨ r_8.toInt = 1 ∧ v_5.toInt ≤ v_4.toInt ∧ v_4.toInt ≤ v_7.toInt) := d_r_8
  refine tot_if (fun c_16 => ?_) (fun c_16 => ?_)
  · replace c_16 := i_eq c_16
    unfold fr_isInZone_b71
    unfold fr_isInZone_b72
    refine tot_oif (i_b01 (by omega)) ?_
    exact tot_some ⟨rfl, (show (0 ≤ (0 : Int32).toInt ∧ (0 : Int32).toInt ≤ 1) from by omega)⟩
  · replace c_16 := i_ne c_16
    refine tot_let (fun v_9 e_v_9 => ?_)
    have q_v_9 := ic_p h_S e_v_9
    refine tot_oif (i_nz (by omega)) ?_
    refine tot_let (fun v_10 e_v_10 => ?_)
    have q_v_10 := i_div (c := 1) e_v_10 (by omega) (by omega) (by decide)
    refine tot_let (fun v_11 e_v_11 => ?_)
    have q_v_11 := i_add e_v_11 (by omega) (by omega)
    refine tot_oif (i_inb (by omega) (by omega)) ?_
    refine tot_let (fun v_12 e_v_12 => ?_)
    have q_v_12 := ic_p h_S e_v_12
    have r_v_12 := pr_102 hP v_11 (by omega) (by omega)
    refine tot_let (fun v_13 e_v_13 => ?_)
    have q_v_13 := i_add e_v_13 (by omega) (by omega)
    refine tot_oif (i_inb (by omega) (by omega)) ?_
    refine tot_let (fun v_14 e_v_14 => ?_)
    have q_v_14 := ic_p h_S e_v_14
    have r_v_14 := pr_102 hP v_13 (by omega) (by omega)
    refine tot_bind (sf_in hP v_10 v_12 v_14  ) (fun r_15 d_r_15 => ?_)
    replace d_r_15 : (r_15.toInt = 0 ∧ (v_10.toInt < v_12.toInt ∨ v_14.toInt < v_10.toInt) ∨ r_15.toInt = 1 ∧ v_12.toInt ≤ v_10.toInt ∧ v_10.toInt ≤ v_14.toInt) := d_r_15
    refine tot_if (fun c_17 => ?_) (fun c_17 => ?_)
    · replace c_17 := i_eq c_17
      unfold fr_isInZone_b71
      unfold fr_isInZone_b72
      refine tot_oif (i_b01 (by omega)) ?_
      exact tot_some ⟨rfl, (show (0 ≤ (0 : Int32).toInt ∧ (0 : Int32).toInt ≤ 1) from by omega)⟩
    · replace c_17 := i_ne c_17
      unfold fr_isInZone_b72
      refine tot_oif (i_b01 (by omega)) ?_
      exact tot_some ⟨rfl, (show (0 ≤ (1 : Int32).toInt ∧ (1 : Int32).toInt ≤ 1) from by omega)⟩
set_option maxHeartbeats 4000000 in
set_option maxRecDepth 10000 in
theorem lf_zonePower_b19 {P : Nat → Int32} (hP : PL P) {Q : Int64 × MS → Prop} (l1 : Int32) (g0 : 0 ≤ l1.toInt ∧ l1.toInt ≤ 3) (hx0 : ∀ (S : MS) (l2 : Int64), (IC P S) → Tot (some (l2, S)) Q) : ∀ (n : Nat) (S : MS) (l2 : Int64) (l4 : Int32), (IC P S) → (0 ≤ l4.toInt ∧ l4.toInt ≤ 144) → 144 - l4.toInt < (n : Int) → Tot (fr_zonePower_b19 n S l1 l2 l4) Q := by
  have z0 : (0 : Int32).toInt = 0 := by decide
  have z1 : (Int32.ofInt (1) : Int32).toInt = 1 := by decide
  have p_9 := pl_9 hP
  have p_10 := pl_10 hP
  have p_cells := pl_cells hP
  have j_l1 := i_any l1
  intro n
  induction n with
  | zero =>
    intro S l2 l4 h_S g_l4 hm
    exfalso
    omega
  | succ n ih =>
    intro S l2 l4 h_S g_l4 hm
    unfold fr_zonePower_b19
    refine tot_bindp (R := fun r_16 : Int32 => ((1 ≤ r_16.toInt ∧ r_16.toInt ≤ 144) ∧ r_16.toInt = (P 9).toInt * (P 10).toInt)) (sf_cellCount hP S h_S ) (fun r_16 d_r_16 => ?_)
    replace d_r_16 : ((1 ≤ r_16.toInt ∧ r_16.toInt ≤ 144) ∧ r_16.toInt = (P 9).toInt * (P 10).toInt) := d_r_16
    refine tot_if (fun c_32 => ?_) (fun c_32 => ?_)
    · replace c_32 := i_le c_32
      exact hx0 S l2 h_S
    · replace c_32 := i_nle c_32
      refine tot_bindp (R := fun r_18 : Int32 => (0 ≤ r_18.toInt ∧ r_18.toInt ≤ 1)) (sf_isInZone hP S l1 l4 h_S (by omega) (by omega)) (fun r_18 d_r_18 => ?_)
      replace d_r_18 : (0 ≤ r_18.toInt ∧ r_18.toInt ≤ 1) := d_r_18
      refine tot_if (fun c_33 => ?_) (fun c_33 => ?_)
      · replace c_33 := i_eq c_33
        unfold fr_zonePower_b53
        refine tot_let (fun v_34 e_v_34 => ?_)
        refine tot_let (fun v_35 e_v_35 => ?_)
        have q_v_35 := i_add e_v_35 (by omega) (by omega)
        exact ih S v_34 v_35 h_S (by omega) (by omega)
      · replace c_33 := i_ne c_33
        refine tot_bind2 (sf_powerOf_12 hP S l4 h_S (by omega)) (fun r_20 S_21 d_r_20 => ?_)
        have h_S_21 : IC P S_21 := d_r_20.1
        unfold fr_zonePower_b53
        refine tot_let (fun v_36 e_v_36 => ?_)
        refine tot_let (fun v_37 e_v_37 => ?_)
        have q_v_37 := i_add e_v_37 (by omega) (by omega)
        exact ih S_21 v_36 v_37 h_S_21 (by omega) (by omega)
set_option maxHeartbeats 4000000 in
set_option maxRecDepth 10000 in
theorem sf_zonePower {P : Nat → Int32} (hP : PL P) (S : MS) (a0 : Int32) (h_S : IC P S) : Tot (fr_zonePower S a0) (fun r => IC P r.2 ∧ True) := by
  have z0 : (0 : Int32).toInt = 0 := by decide
  have p_101 := pl_101 hP
  have j_a0 := i_any a0
  unfold fr_zonePower
  refine tot_bindp (R := fun r_1 : Int32 => (r_1.toInt = 0 ∨ r_1.toInt = 1 ∧ 0 ≤ a0.toInt ∧ a0.toInt < (P 101).toInt)) (sf_isZone hP S a0 h_S ) (fun r_1 d_r_1 => ?_)
  replace d_r_1 : (r_1.toInt = 0 ∨ r_1.toInt = 1 ∧ 0 ≤ a0.toInt ∧ a0.toInt < (P 101).toInt) := d_r_1
  refine tot_bind2 (sf_mayAsk hP S r_1 h_S (by omega)) (fun r_3 S_4 d_r_3 => ?_)
  have h_S_4 : IC P S_4 := d_r_3.1
  replace d_r_3 : (r_3.toInt = 0 ∨ r_3.toInt = 1 ∧ ¬ r_1.toInt = 0) := d_r_3.2
  refine tot_if (fun c_5 => ?_) (fun c_5 => ?_)
  · replace c_5 := i_eq c_5
    exact tot_some ⟨h_S_4, trivial⟩
  · replace c_5 := i_ne c_5
    refine lf_zonePower_b19 hP a0 (by omega) ?_ 16384 S_4 (0 : Int64) 0 h_S_4 (by omega) (by omega)
    · intro S_38 l_39 h_S_38
      exact tot_some ⟨h_S_38, trivial⟩
set_option maxHeartbeats 4000000 in
set_option maxRecDepth 10000 in
theorem lf_zoneBest_b26 {P : Nat → Int32} (hP : PL P) {Q : Int32 × MS → Prop} (l1 : Int32) (g0 : 0 ≤ l1.toInt ∧ l1.toInt ≤ 3) (hx0 : ∀ (S : MS) (l2 : Int32), (IC P S) → (-1 ≤ l2.toInt ∧ l2.toInt ≤ 143) → Tot (some (l2, S)) Q) : ∀ (n : Nat) (S : MS) (l2 : Int32) (l3 : Int32), (IC P S) → (-1 ≤ l2.toInt ∧ l2.toInt ≤ 143) → (0 ≤ l3.toInt ∧ l3.toInt ≤ 144) → 144 - l3.toInt < (n : Int) → Tot (fr_zoneBest_b26 n S l1 l2 l3) Q := by
  have z0 : (0 : Int32).toInt = 0 := by decide
  have z1 : (Int32.ofInt (1) : Int32).toInt = 1 := by decide
  have z2 : ((-1) : Int32).toInt = -1 := by decide
  have p_9 := pl_9 hP
  have p_10 := pl_10 hP
  have p_cells := pl_cells hP
  have j_l1 := i_any l1
  intro n
  induction n with
  | zero =>
    intro S l2 l3 h_S g_l2 g_l3 hm
    exfalso
    omega
  | succ n ih =>
    intro S l2 l3 h_S g_l2 g_l3 hm
    unfold fr_zoneBest_b26
    refine tot_bindp (R := fun r_18 : Int32 => ((1 ≤ r_18.toInt ∧ r_18.toInt ≤ 144) ∧ r_18.toInt = (P 9).toInt * (P 10).toInt)) (sf_cellCount hP S h_S ) (fun r_18 d_r_18 => ?_)
    replace d_r_18 : ((1 ≤ r_18.toInt ∧ r_18.toInt ≤ 144) ∧ r_18.toInt = (P 9).toInt * (P 10).toInt) := d_r_18
    refine tot_if (fun c_36 => ?_) (fun c_36 => ?_)
    · replace c_36 := i_le c_36
      exact hx0 S l2 h_S (by omega)
    · replace c_36 := i_nle c_36
      refine tot_bindp (R := fun r_20 : Int32 => (0 ≤ r_20.toInt ∧ r_20.toInt ≤ 1)) (sf_isInZone hP S l1 l3 h_S (by omega) (by omega)) (fun r_20 d_r_20 => ?_)
      replace d_r_20 : (0 ≤ r_20.toInt ∧ r_20.toInt ≤ 1) := d_r_20
      refine tot_if (fun c_37 => ?_) (fun c_37 => ?_)
      · replace c_37 := i_eq c_37
        unfold fr_zoneBest_b66
        refine tot_let (fun v_38 e_v_38 => ?_)
        have q_v_38 := i_add e_v_38 (by omega) (by omega)
        exact ih S l2 v_38 h_S (by omega) (by omega) (by omega)
      · replace c_37 := i_ne c_37
        refine tot_if (fun c_39 => ?_) (fun c_39 => ?_)
        · replace c_39 := i_eq c_39
          unfold fr_zoneBest_b64
          unfold fr_zoneBest_b66
          refine tot_let (fun v_40 e_v_40 => ?_)
          have q_v_40 := i_add e_v_40 (by omega) (by omega)
          exact ih S l3 v_40 h_S (by omega) (by omega) (by omega)
        · replace c_39 := i_ne c_39
          refine tot_oif (i_inb (by omega) (by omega)) ?_
          refine tot_let (fun v_22 e_v_22 => ?_)
          refine tot_oif (i_inb (by omega) (by omega)) ?_
          refine tot_let (fun v_23 e_v_23 => ?_)
          refine tot_let (fun v_24 e_v_24 => ?_)
          have r_v_24 := i_any v_24
          refine tot_if (fun c_41 => ?_) (fun c_41 => ?_)
          · replace c_41 := i_le c_41
            unfold fr_zoneBest_b66
            refine tot_let (fun v_42 e_v_42 => ?_)
            have q_v_42 := i_add e_v_42 (by omega) (by omega)
            exact ih S l2 v_42 h_S (by omega) (by omega) (by omega)
          · replace c_41 := i_nle c_41
            unfold fr_zoneBest_b64
            unfold fr_zoneBest_b66
            refine tot_let (fun v_43 e_v_43 => ?_)
            have q_v_43 := i_add e_v_43 (by omega) (by omega)
            exact ih S l3 v_43 h_S (by omega) (by omega) (by omega)
set_option maxHeartbeats 4000000 in
set_option maxRecDepth 10000 in
theorem sf_zoneBest {P : Nat → Int32} (hP : PL P) (S : MS) (a0 : Int32) (h_S : IC P S) : Tot (fr_zoneBest S a0) (fun r => IC P r.2 ∧ (-1 ≤ r.1.toInt ∧ r.1.toInt ≤ 143)) := by
  have z0 : (0 : Int32).toInt = 0 := by decide
  have z1 : ((-1) : Int32).toInt = -1 := by decide
  have p_101 := pl_101 hP
  have j_a0 := i_any a0
  unfold fr_zoneBest
  refine tot_bindp (R := fun r_1 : Int32 => (r_1.toInt = 0 ∨ r_1.toInt = 1 ∧ 0 ≤ a0.toInt ∧ a0.toInt < (P 101).toInt)) (sf_isZone hP S a0 h_S ) (fun r_1 d_r_1 => ?_)
  replace d_r_1 : (r_1.toInt = 0 ∨ r_1.toInt = 1 ∧ 0 ≤ a0.toInt ∧ a0.toInt < (P 101).toInt) := d_r_1
  refine tot_bind2 (sf_mayAsk hP S r_1 h_S (by omega)) (fun r_3 S_4 d_r_3 => ?_)
  have h_S_4 : IC P S_4 := d_r_3.1
  replace d_r_3 : (r_3.toInt = 0 ∨ r_3.toInt = 1 ∧ ¬ r_1.toInt = 0) := d_r_3.2
  refine tot_if (fun c_6 => ?_) (fun c_6 => ?_)
  · replace c_6 := i_eq c_6
    exact tot_some ⟨h_S_4, (show (-1 ≤ (0 : Int32).toInt ∧ (0 : Int32).toInt ≤ 143) from by omega)⟩
  · replace c_6 := i_ne c_6
    refine tot_bind (sf_laysPowers_12 hP S_4 h_S_4 ) (fun S_5 d_S_5 => ?_)
    have h_S_5 : IC P S_5 := d_S_5.1
    refine lf_zoneBest_b26 hP a0 (by omega) ?_ 16384 S_5 (-1) 0 h_S_5 (by omega) (by omega) (by omega)
    · intro S_44 l_45 h_S_44 g_l_45
      exact tot_some ⟨h_S_44, (show (-1 ≤ l_45.toInt ∧ l_45.toInt ≤ 143) from by omega)⟩
set_option maxHeartbeats 4000000 in
set_option maxRecDepth 10000 in
theorem lf_movingOf_b6 {P : Nat → Int32} (hP : PL P) {Q : Int64 × MS → Prop} (l1 : Int32) (l2 : Int32) (l3 : Int32) (g0 : 0 ≤ l1.toInt ∧ l1.toInt ≤ 143) (g1 : -999 ≤ l2.toInt ∧ l2.toInt ≤ 999) (g2 : -999 ≤ l3.toInt ∧ l3.toInt ≤ 999) (hx0 : ∀ (S : MS) (l4 : Int64), (IC P S) → Tot (elet (S.2.1 10 2) fun v_23 => elet (v_23.toInt64) fun v_24 => oif (¬ v_24 = 0) <| elet (l4 / v_24) fun v_25 => some (v_25, S)) Q) : ∀ (n : Nat) (S : MS) (l4 : Int64) (l6 : Int32), (IC P S) → (0 ≤ l6.toInt ∧ l6.toInt ≤ 200) → 200 - l6.toInt < (n : Int) → Tot (fr_movingOf_b6 n S l1 l2 l3 l4 l6) Q := by
  have z0 : (0 : Int32).toInt = 0 := by decide
  have z1 : (100 : Int32).toInt = 100 := by decide
  have z2 : (1 : Int32).toInt = 1 := by decide
  have z3 : (Int32.ofInt (1) : Int32).toInt = 1 := by decide
  have p_2 := pl_2 hP
  have j_l1 := i_any l1
  have j_l2 := i_any l2
  have j_l3 := i_any l3
  intro n
  induction n with
  | zero =>
    intro S l4 l6 h_S g_l6 hm
    exfalso
    omega
  | succ n ih =>
    intro S l4 l6 h_S g_l6 hm
    unfold fr_movingOf_b6
    refine tot_let (fun v_22 e_v_22 => ?_)
    have q_v_22 := ic_p h_S e_v_22
    refine tot_if (fun c_64 => ?_) (fun c_64 => ?_)
    · replace c_64 := i_le c_64
      exact hx0 S l4 h_S
    · replace c_64 := i_nle c_64
      refine tot_bindp (R := fun r_26 : Int32 => (-999 ≤ r_26.toInt ∧ r_26.toInt ≤ 15156)) (sf_centre hP S l1 0 h_S (by omega) (by omega)) (fun r_26 d_r_26 => ?_)
      replace d_r_26 : (-999 ≤ r_26.toInt ∧ r_26.toInt ≤ 15156) := d_r_26
      refine tot_let (fun v_28 e_v_28 => ?_)
      have q_v_28 := i_mulm (a := -999) (b := 999) (d := 199) e_v_28 (by omega) (by omega) (by omega) (by omega) (by decide)
      refine tot_let (fun v_29 e_v_29 => ?_)
      have q_v_29 := i_divk e_v_29 z1 (by decide)
      refine tot_let (fun v_30 e_v_30 => ?_)
      have q_v_30 := i_add e_v_30 (by omega) (by omega)
      refine tot_bindp (R := fun r_31 : Int32 => (-999 ≤ r_31.toInt ∧ r_31.toInt ≤ 15156)) (sf_centre hP S l1 1 h_S (by omega) (by omega)) (fun r_31 d_r_31 => ?_)
      replace d_r_31 : (-999 ≤ r_31.toInt ∧ r_31.toInt ≤ 15156) := d_r_31
      refine tot_let (fun v_33 e_v_33 => ?_)
      have q_v_33 := i_mulm (a := -999) (b := 999) (d := 199) e_v_33 (by omega) (by omega) (by omega) (by omega) (by decide)
      refine tot_let (fun v_34 e_v_34 => ?_)
      have q_v_34 := i_divk e_v_34 z1 (by decide)
      refine tot_let (fun v_35 e_v_35 => ?_)
      have q_v_35 := i_add e_v_35 (by omega) (by omega)
      refine tot_bind (sf_laysPoint hP S v_30 v_35 h_S (by omega) (by omega)) (fun S_36 d_S_36 => ?_)
      have h_S_36 : IC P S_36 := d_S_36.1
      refine tot_bindp (R := fun r_37 : Int32 => True) (sf_beamAt_12 hP S_36 l6 h_S_36 (by omega)) (fun r_37 d_r_37 => ?_)
      refine tot_let (fun v_39 e_v_39 => ?_)
      refine tot_let (fun v_40 e_v_40 => ?_)
      refine tot_let (fun v_41 e_v_41 => ?_)
      refine tot_let (fun v_42 e_v_42 => ?_)
      have q_v_42 := i_add e_v_42 (by omega) (by omega)
      exact ih S_36 v_41 v_42 h_S_36 (by omega) (by omega)
set_option maxHeartbeats 4000000 in
set_option maxRecDepth 10000 in
theorem sf_movingOf {P : Nat → Int32} (hP : PL P) (S : MS) (a0 : Int32) (a1 : Int32) (a2 : Int32) (h_S : IC P S) (g0 : 0 ≤ a0.toInt ∧ a0.toInt ≤ 143) (g1 : -999 ≤ a1.toInt ∧ a1.toInt ≤ 999) (g2 : -999 ≤ a2.toInt ∧ a2.toInt ≤ 999) : Tot (fr_movingOf S a0 a1 a2) (fun r => IC P r.2 ∧ True) := by
  have z0 : (0 : Int32).toInt = 0 := by decide
  have p_2 := pl_2 hP
  have j_a0 := i_any a0
  have j_a1 := i_any a1
  have j_a2 := i_any a2
  unfold fr_movingOf
  refine lf_movingOf_b6 hP a0 a1 a2 (by omega) (by omega) (by omega) ?_ 16384 S (0 : Int64) 0 h_S (by omega) (by omega)
  · intro S_65 l_66 h_S_65
    refine tot_let (fun v__67 e_v__67 => ?_)
    have q_v__67 := ic_p h_S_65 e_v__67
    refine tot_let (fun v__68 e_v__68 => ?_)
    refine tot_oif (by rw [e_v__68]; exact i_nz64 (by omega)) ?_
    refine tot_let (fun v__69 e_v__69 => ?_)
    exact tot_some ⟨h_S_65, trivial⟩
set_option maxHeartbeats 4000000 in
set_option maxRecDepth 10000 in
theorem sf_isVelocity {P : Nat → Int32} (hP : PL P) (a0 : Int32) (a1 : Int32) : Tot (fr_isVelocity a0 a1) (fun r => (r.toInt = 0 ∨ r.toInt = 1 ∧ (-999 ≤ a0.toInt ∧ a0.toInt ≤ 999) ∧ -999 ≤ a1.toInt ∧ a1.toInt ≤ 999)) := by
  have z0 : ((-999) : Int32).toInt = -999 := by decide
  have z1 : (999 : Int32).toInt = 999 := by decide
  have z2 : (0 : Int32).toInt = 0 := by decide
  have z3 : (1 : Int32).toInt = 1 := by decide
  have j_a0 := i_any a0
  have j_a1 := i_any a1
  unfold fr_isVelocity
  refine tot_bind (sf_in hP a0 (-999) 999  ) (fun r_1 d_r_1 => ?_)
  replace d_r_1 : (r_1.toInt = 0 ∧ (a0.toInt < ((-999) : Int32).toInt ∨ (999 : Int32).toInt < a0.toInt) ∨ r_1.toInt = 1 ∧ ((-999) : Int32).toInt ≤ a0.toInt ∧ a0.toInt ≤ (999 : Int32).toInt) := d_r_1
  refine tot_if (fun c_3 => ?_) (fun c_3 => ?_)
  · replace c_3 := i_eq c_3
    unfold fr_isVelocity_b30
    unfold fr_isVelocity_b31
    refine tot_oif (i_b01 (by omega)) ?_
    exact tot_some (show ((0 : Int32).toInt = 0 ∨ (0 : Int32).toInt = 1 ∧ (-999 ≤ a0.toInt ∧ a0.toInt ≤ 999) ∧ -999 ≤ a1.toInt ∧ a1.toInt ≤ 999) from by omega)
  · replace c_3 := i_ne c_3
    refine tot_bind (sf_in hP a1 (-999) 999  ) (fun r_2 d_r_2 => ?_)
    replace d_r_2 : (r_2.toInt = 0 ∧ (a1.toInt < ((-999) : Int32).toInt ∨ (999 : Int32).toInt < a1.toInt) ∨ r_2.toInt = 1 ∧ ((-999) : Int32).toInt ≤ a1.toInt ∧ a1.toInt ≤ (999 : Int32).toInt) := d_r_2
    refine tot_if (fun c_4 => ?_) (fun c_4 => ?_)
    · replace c_4 := i_eq c_4
      unfold fr_isVelocity_b30
      unfold fr_isVelocity_b31
      refine tot_oif (i_b01 (by omega)) ?_
      exact tot_some (show ((0 : Int32).toInt = 0 ∨ (0 : Int32).toInt = 1 ∧ (-999 ≤ a0.toInt ∧ a0.toInt ≤ 999) ∧ -999 ≤ a1.toInt ∧ a1.toInt ≤ 999) from by omega)
    · replace c_4 := i_ne c_4
      unfold fr_isVelocity_b31
      refine tot_oif (i_b01 (by omega)) ?_
      exact tot_some (show ((1 : Int32).toInt = 0 ∨ (1 : Int32).toInt = 1 ∧ (-999 ≤ a0.toInt ∧ a0.toInt ≤ 999) ∧ -999 ≤ a1.toInt ∧ a1.toInt ≤ 999) from by omega)
set_option maxHeartbeats 4000000 in
set_option maxRecDepth 10000 in
theorem sf_movingPower {P : Nat → Int32} (hP : PL P) (S : MS) (a0 : Int32) (a1 : Int32) (a2 : Int32) (h_S : IC P S) : Tot (fr_movingPower S a0 a1 a2) (fun r => IC P r.2 ∧ True) := by
  have z0 : (0 : Int32).toInt = 0 := by decide
  have z1 : (3 : Int32).toInt = 3 := by decide
  have p_9 := pl_9 hP
  have p_10 := pl_10 hP
  have p_cells := pl_cells hP
  have j_a0 := i_any a0
  have j_a1 := i_any a1
  have j_a2 := i_any a2
  unfold fr_movingPower
  refine tot_bindp (R := fun r_1 : Int32 => (r_1.toInt = 0 ∨ r_1.toInt = 1 ∧ (0 ≤ a0.toInt ∧ a0.toInt ≤ 143) ∧ a0.toInt < (P 9).toInt * (P 10).toInt)) (sf_isCell hP S a0 h_S ) (fun r_1 d_r_1 => ?_)
  replace d_r_1 : (r_1.toInt = 0 ∨ r_1.toInt = 1 ∧ (0 ≤ a0.toInt ∧ a0.toInt ≤ 143) ∧ a0.toInt < (P 9).toInt * (P 10).toInt) := d_r_1
  refine tot_bind2 (sf_mayAsk hP S r_1 h_S (by omega)) (fun r_3 S_4 d_r_3 => ?_)
  have h_S_4 : IC P S_4 := d_r_3.1
  replace d_r_3 : (r_3.toInt = 0 ∨ r_3.toInt = 1 ∧ ¬ r_1.toInt = 0) := d_r_3.2
  refine tot_if (fun c_11 => ?_) (fun c_11 => ?_)
  · replace c_11 := i_eq c_11
    exact tot_some ⟨h_S_4, trivial⟩
  · replace c_11 := i_ne c_11
    refine tot_bind (sf_isVelocity hP a1 a2  ) (fun r_5 d_r_5 => ?_)
    replace d_r_5 : (r_5.toInt = 0 ∨ r_5.toInt = 1 ∧ (-999 ≤ a1.toInt ∧ a1.toInt ≤ 999) ∧ -999 ≤ a2.toInt ∧ a2.toInt ≤ 999) := d_r_5
    refine tot_if (fun c_12 => ?_) (fun c_12 => ?_)
    · replace c_12 := i_eq c_12
      refine tot_bind2 (sf_throwsAt hP S_4 3 h_S_4 ) (fun r_6 S_7 d_r_6 => ?_)
      have h_S_7 : IC P S_7 := d_r_6.1
      replace d_r_6 : (0 ≤ r_6.toInt ∧ r_6.toInt ≤ 0) := d_r_6.2
      refine tot_let (fun v_8 e_v_8 => ?_)
      unfold fr_movingPower_b38
      exact tot_some ⟨h_S_7, trivial⟩
    · replace c_12 := i_ne c_12
      refine tot_bind2 (sf_movingOf hP S_4 a0 a1 a2 h_S_4 (by omega) (by omega) (by omega)) (fun r_9 S_10 d_r_9 => ?_)
      have h_S_10 : IC P S_10 := d_r_9.1
      unfold fr_movingPower_b38
      exact tot_some ⟨h_S_10, trivial⟩
set_option maxHeartbeats 4000000 in
set_option maxRecDepth 10000 in
theorem lf_bestVelocity_b59 {P : Nat → Int32} (hP : PL P) {Q : Int32 × MS → Prop} {k49 : MS → Int32 → Int32 → Int32 → Int32 → Int64 → Int32 → Option (Int32 × MS)} (l1 : Int32) (l2 : Int32) (l3 : Int32) (l7 : Int32) (g0 : 0 ≤ l1.toInt ∧ l1.toInt ≤ 143) (g1 : 1 ≤ l2.toInt ∧ l2.toInt ≤ 99) (g2 : 0 ≤ l3.toInt ∧ l3.toInt ≤ 4) (g3 : -4 ≤ l7.toInt ∧ l7.toInt ≤ 4) (hx0 : ∀ (S : MS) (l4 : Int32) (l5 : Int64), (IC P S) → (-404 ≤ l4.toInt ∧ l4.toInt ≤ 999) → Tot (elet (l7 + Int32.ofInt (1)) fun v_78 => k49 S l1 l2 l3 l4 l5 v_78) Q) : ∀ (n : Nat) (S : MS) (l4 : Int32) (l5 : Int64) (l8 : Int32), (IC P S) → (-404 ≤ l4.toInt ∧ l4.toInt ≤ 999) → (-4 ≤ l8.toInt ∧ l8.toInt ≤ 5) → 5 - l8.toInt < (n : Int) → Tot (fr_bestVelocity_b59 k49 n S l1 l2 l3 l4 l5 l7 l8) Q := by
  have z0 : ((-1) : Int32).toInt = -1 := by decide
  have z1 : (100 : Int32).toInt = 100 := by decide
  have z2 : (Int32.ofInt (1) : Int32).toInt = 1 := by decide
  have z3 : (0 : Int32).toInt = 0 := by decide
  have j_l1 := i_any l1
  have j_l2 := i_any l2
  have j_l3 := i_any l3
  have j_l7 := i_any l7
  intro n
  induction n with
  | zero =>
    intro S l4 l5 l8 h_S g_l4 g_l8 hm
    exfalso
    omega
  | succ n ih =>
    intro S l4 l5 l8 h_S g_l4 g_l8 hm
    unfold fr_bestVelocity_b59
    refine tot_if (fun c_101 => ?_) (fun c_101 => ?_)
    · replace c_101 := i_lt c_101
      exact hx0 S l4 l5 h_S (by omega)
    · replace c_101 := i_nlt c_101
      refine tot_let (fun v_79 e_v_79 => ?_)
      have q_v_79 := i_mulm2 (a := -4) (b := 4) (d := 99) e_v_79 (by omega) (by omega) (by omega) (by omega) (by decide)
      refine tot_let (fun v_80 e_v_80 => ?_)
      have q_v_80 := i_mulm2 (a := -4) (b := 4) (d := 99) e_v_80 (by omega) (by omega) (by omega) (by omega) (by decide)
      refine tot_bind2 (sf_movingOf hP S l1 v_79 v_80 h_S (by omega) (by omega) (by omega)) (fun r_81 S_82 d_r_81 => ?_)
      have h_S_82 : IC P S_82 := d_r_81.1
      refine tot_if (fun c_102 => ?_) (fun c_102 => ?_)
      · replace c_102 := i_eq c_102
        unfold fr_bestVelocity_b97
        refine tot_let (fun v_103 e_v_103 => ?_)
        have q_v_103 := i_add e_v_103 (by omega) (by omega)
        refine tot_let (fun v_104 e_v_104 => ?_)
        have q_v_104 := i_mulk e_v_104 z1 (by omega) (by omega)
        refine tot_let (fun v_105 e_v_105 => ?_)
        have q_v_105 := i_add e_v_105 (by omega) (by omega)
        refine tot_let (fun v_106 e_v_106 => ?_)
        have q_v_106 := i_add e_v_106 (by omega) (by omega)
        unfold fr_bestVelocity_b115
        refine tot_let (fun v_107 e_v_107 => ?_)
        have q_v_107 := i_add e_v_107 (by omega) (by omega)
        exact ih S_82 v_106 r_81 v_107 h_S_82 (by omega) (by omega) (by omega)
      · replace c_102 := i_ne c_102
        refine tot_let (fun v_83 e_v_83 => ?_)
        have r_v_83 := i_any v_83
        refine tot_if (fun c_108 => ?_) (fun c_108 => ?_)
        · replace c_108 := i_lt c_108
          unfold fr_bestVelocity_b97
          refine tot_let (fun v_109 e_v_109 => ?_)
          have q_v_109 := i_add e_v_109 (by omega) (by omega)
          refine tot_let (fun v_110 e_v_110 => ?_)
          have q_v_110 := i_mulk e_v_110 z1 (by omega) (by omega)
          refine tot_let (fun v_111 e_v_111 => ?_)
          have q_v_111 := i_add e_v_111 (by omega) (by omega)
          refine tot_let (fun v_112 e_v_112 => ?_)
          have q_v_112 := i_add e_v_112 (by omega) (by omega)
          unfold fr_bestVelocity_b115
          refine tot_let (fun v_113 e_v_113 => ?_)
          have q_v_113 := i_add e_v_113 (by omega) (by omega)
          exact ih S_82 v_112 r_81 v_113 h_S_82 (by omega) (by omega) (by omega)
        · replace c_108 := i_nlt c_108
          unfold fr_bestVelocity_b115
          refine tot_let (fun v_114 e_v_114 => ?_)
          have q_v_114 := i_add e_v_114 (by omega) (by omega)
          exact ih S_82 l4 l5 v_114 h_S_82 (by omega) (by omega) (by omega)
set_option maxHeartbeats 4000000 in
set_option maxRecDepth 10000 in
theorem lf_bestVelocity_b49 {P : Nat → Int32} (hP : PL P) {Q : Int32 × MS → Prop} (l1 : Int32) (l2 : Int32) (l3 : Int32) (g0 : 0 ≤ l1.toInt ∧ l1.toInt ≤ 143) (g1 : 1 ≤ l2.toInt ∧ l2.toInt ≤ 99) (g2 : 0 ≤ l3.toInt ∧ l3.toInt ≤ 4) (hx0 : ∀ (S : MS) (l4 : Int32), (IC P S) → (-404 ≤ l4.toInt ∧ l4.toInt ≤ 999) → Tot (some (l4, S)) Q) : ∀ (n : Nat) (S : MS) (l4 : Int32) (l5 : Int64) (l7 : Int32), (IC P S) → (-404 ≤ l4.toInt ∧ l4.toInt ≤ 999) → (-4 ≤ l7.toInt ∧ l7.toInt ≤ 5) → 5 - l7.toInt < (n : Int) → Tot (fr_bestVelocity_b49 n S l1 l2 l3 l4 l5 l7) Q := by
  have z0 : (Int32.ofInt (1) : Int32).toInt = 1 := by decide
  have j_l1 := i_any l1
  have j_l2 := i_any l2
  have j_l3 := i_any l3
  intro n
  induction n with
  | zero =>
    intro S l4 l5 l7 h_S g_l4 g_l7 hm
    exfalso
    omega
  | succ n ih =>
    intro S l4 l5 l7 h_S g_l4 g_l7 hm
    unfold fr_bestVelocity_b49
    refine tot_if (fun c_77 => ?_) (fun c_77 => ?_)
    · replace c_77 := i_lt c_77
      exact hx0 S l4 h_S (by omega)
    · replace c_77 := i_nlt c_77
      refine tot_let (fun v_54 e_v_54 => ?_)
      have q_v_54 := i_neg e_v_54 (by omega)
      refine lf_bestVelocity_b59 hP l1 l2 l3 l7 (by omega) (by omega) (by omega) (by omega) ?_ 16384 S l4 l5 v_54 h_S (by omega) (by omega) (by omega)
      · intro S_115 l_116 l_117 h_S_115 g_l_116
        refine tot_let (fun v__118 e_v__118 => ?_)
        have q_v__118 := i_add e_v__118 (by omega) (by omega)
        exact ih S_115 l_116 l_117 v__118 h_S_115 (by omega) (by omega) (by omega)
set_option maxHeartbeats 4000000 in
set_option maxRecDepth 10000 in
theorem sf_bestVelocity {P : Nat → Int32} (hP : PL P) (S : MS) (a0 : Int32) (a1 : Int32) (a2 : Int32) (h_S : IC P S) : Tot (fr_bestVelocity S a0 a1 a2) (fun r => IC P r.2 ∧ (-404 ≤ r.1.toInt ∧ r.1.toInt ≤ 999)) := by
  have z0 : (0 : Int32).toInt = 0 := by decide
  have z1 : (1 : Int32).toInt = 1 := by decide
  have z2 : (99 : Int32).toInt = 99 := by decide
  have z3 : (3 : Int32).toInt = 3 := by decide
  have z4 : (4 : Int32).toInt = 4 := by decide
  have z5 : ((-1) : Int32).toInt = -1 := by decide
  have p_9 := pl_9 hP
  have p_10 := pl_10 hP
  have p_cells := pl_cells hP
  have j_a0 := i_any a0
  have j_a1 := i_any a1
  have j_a2 := i_any a2
  unfold fr_bestVelocity
  refine tot_bindp (R := fun r_1 : Int32 => (r_1.toInt = 0 ∨ r_1.toInt = 1 ∧ (0 ≤ a0.toInt ∧ a0.toInt ≤ 143) ∧ a0.toInt < (P 9).toInt * (P 10).toInt)) (sf_isCell hP S a0 h_S ) (fun r_1 d_r_1 => ?_)
  replace d_r_1 : (r_1.toInt = 0 ∨ r_1.toInt = 1 ∧ (0 ≤ a0.toInt ∧ a0.toInt ≤ 143) ∧ a0.toInt < (P 9).toInt * (P 10).toInt) := d_r_1
  refine tot_bind2 (sf_mayAsk hP S r_1 h_S (by omega)) (fun r_3 S_4 d_r_3 => ?_)
  have h_S_4 : IC P S_4 := d_r_3.1
  replace d_r_3 : (r_3.toInt = 0 ∨ r_3.toInt = 1 ∧ ¬ r_1.toInt = 0) := d_r_3.2
  refine tot_if (fun c_8 => ?_) (fun c_8 => ?_)
  · replace c_8 := i_eq c_8
    exact tot_some ⟨h_S_4, (show (-404 ≤ (0 : Int32).toInt ∧ (0 : Int32).toInt ≤ 999) from by omega)⟩
  · replace c_8 := i_ne c_8
    refine tot_bind (sf_in hP a1 1 99  ) (fun r_5 d_r_5 => ?_)
    replace d_r_5 : (r_5.toInt = 0 ∧ (a1.toInt < (1 : Int32).toInt ∨ (99 : Int32).toInt < a1.toInt) ∨ r_5.toInt = 1 ∧ (1 : Int32).toInt ≤ a1.toInt ∧ a1.toInt ≤ (99 : Int32).toInt) := d_r_5
    refine tot_if (fun c_9 => ?_) (fun c_9 => ?_)
    · replace c_9 := i_eq c_9
      unfold fr_bestVelocity_b33
      refine tot_bind2 (sf_throwsAt hP S_4 3 h_S_4 ) (fun r_10 S_11 d_r_10 => ?_)
      have h_S_11 : IC P S_11 := d_r_10.1
      replace d_r_10 : (0 ≤ r_10.toInt ∧ r_10.toInt ≤ 0) := d_r_10.2
      exact tot_some ⟨h_S_11, (show (-404 ≤ r_10.toInt ∧ r_10.toInt ≤ 999) from by omega)⟩
    · replace c_9 := i_ne c_9
      refine tot_bind (sf_in hP a2 0 4  ) (fun r_6 d_r_6 => ?_)
      replace d_r_6 : (r_6.toInt = 0 ∧ (a2.toInt < (0 : Int32).toInt ∨ (4 : Int32).toInt < a2.toInt) ∨ r_6.toInt = 1 ∧ (0 : Int32).toInt ≤ a2.toInt ∧ a2.toInt ≤ (4 : Int32).toInt) := d_r_6
      refine tot_if (fun c_12 => ?_) (fun c_12 => ?_)
      · replace c_12 := i_eq c_12
        unfold fr_bestVelocity_b33
        refine tot_bind2 (sf_throwsAt hP S_4 3 h_S_4 ) (fun r_13 S_14 d_r_13 => ?_)
        have h_S_14 : IC P S_14 := d_r_13.1
        replace d_r_13 : (0 ≤ r_13.toInt ∧ r_13.toInt ≤ 0) := d_r_13.2
        exact tot_some ⟨h_S_14, (show (-404 ≤ r_13.toInt ∧ r_13.toInt ≤ 999) from by omega)⟩
      · replace c_12 := i_ne c_12
        refine tot_let (fun v_7 e_v_7 => ?_)
        have q_v_7 := i_neg e_v_7 (by omega)
        refine lf_bestVelocity_b49 hP a0 a1 a2 (by omega) (by omega) (by omega) ?_ 16384 S_4 (-1) (0 : Int64) v_7 h_S_4 (by omega) (by omega) (by omega)
        · intro S_119 l_120 h_S_119 g_l_120
          exact tot_some ⟨h_S_119, (show (-404 ≤ l_120.toInt ∧ l_120.toInt ≤ 999) from by omega)⟩
set_option maxHeartbeats 4000000 in
set_option maxRecDepth 10000 in
theorem lf_together_b6 {P : Nat → Int32} (hP : PL P) {Q : Int64 × MS → Prop} (S : MS) (l1 : Int32) (l2 : Int32) (l3 : Int32) (h_S : IC P S) (g0 : 0 ≤ l1.toInt ∧ l1.toInt ≤ 11) (g1 : 0 ≤ l2.toInt ∧ l2.toInt ≤ 11) (g2 : 0 ≤ l3.toInt ∧ l3.toInt ≤ 199) (hx0 : ∀ (l4 : Int64), Tot (some (l4, S)) Q) : ∀ (n : Nat) (l4 : Int64) (l6 : Int32), (0 ≤ l6.toInt ∧ l6.toInt ≤ 200) → 200 - l6.toInt < (n : Int) → Tot (fr_together_b6 n S l1 l2 l3 l4 l6) Q := by
  have z0 : (200 : Int32).toInt = 200 := by decide
  have z1 : (55 : Int32).toInt = 55 := by decide
  have z2 : (Int32.ofInt (1) : Int32).toInt = 1 := by decide
  have p_2 := pl_2 hP
  have j_l1 := i_any l1
  have j_l2 := i_any l2
  have j_l3 := i_any l3
  intro n
  induction n with
  | zero =>
    intro l4 l6 g_l6 hm
    exfalso
    omega
  | succ n ih =>
    intro l4 l6 g_l6 hm
    unfold fr_together_b6
    refine tot_let (fun v_17 e_v_17 => ?_)
    have q_v_17 := i_add e_v_17 (by omega) (by omega)
    refine tot_let (fun v_18 e_v_18 => ?_)
    have q_v_18 := ic_p h_S e_v_18
    refine tot_if (fun c_49 => ?_) (fun c_49 => ?_)
    · replace c_49 := i_le c_49
      exact hx0 l4 
    · replace c_49 := i_nle c_49
      refine tot_let (fun v_19 e_v_19 => ?_)
      have q_v_19 := i_mulk e_v_19 z0 (by omega) (by omega)
      refine tot_let (fun v_20 e_v_20 => ?_)
      have q_v_20 := i_add e_v_20 (by omega) (by omega)
      refine tot_let (fun v_21 e_v_21 => ?_)
      have q_v_21 := i_add e_v_21 (by omega) (by omega)
      refine tot_oif (i_inb (by omega) (by omega)) ?_
      refine tot_let (fun v_22 e_v_22 => ?_)
      have r_v_22 := i_any v_22
      refine tot_let (fun v_23 e_v_23 => ?_)
      refine tot_let (fun v_24 e_v_24 => ?_)
      have q_v_24 := i_mulk e_v_24 z0 (by omega) (by omega)
      refine tot_let (fun v_25 e_v_25 => ?_)
      have q_v_25 := i_add e_v_25 (by omega) (by omega)
      refine tot_let (fun v_26 e_v_26 => ?_)
      have q_v_26 := i_add e_v_26 (by omega) (by omega)
      refine tot_let (fun v_27 e_v_27 => ?_)
      have q_v_27 := i_add e_v_27 (by omega) (by omega)
      refine tot_oif (i_inb (by omega) (by omega)) ?_
      refine tot_let (fun v_28 e_v_28 => ?_)
      have r_v_28 := i_any v_28
      refine tot_let (fun v_29 e_v_29 => ?_)
      refine tot_let (fun v_30 e_v_30 => ?_)
      refine tot_let (fun v_31 e_v_31 => ?_)
      refine tot_let (fun v_32 e_v_32 => ?_)
      have q_v_32 := i_add e_v_32 (by omega) (by omega)
      exact ih v_31 v_32 (by omega) (by omega)
set_option maxHeartbeats 4000000 in
set_option maxRecDepth 10000 in
theorem sf_together {P : Nat → Int32} (hP : PL P) (S : MS) (a0 : Int32) (a1 : Int32) (a2 : Int32) (h_S : IC P S) (g0 : 0 ≤ a0.toInt ∧ a0.toInt ≤ 11) (g1 : 0 ≤ a1.toInt ∧ a1.toInt ≤ 11) (g2 : 0 ≤ a2.toInt ∧ a2.toInt ≤ 199) : Tot (fr_together S a0 a1 a2) (fun r => r.2 = S ∧ True) := by
  have z0 : (0 : Int32).toInt = 0 := by decide
  have j_a0 := i_any a0
  have j_a1 := i_any a1
  have j_a2 := i_any a2
  unfold fr_together
  refine lf_together_b6 hP S a0 a1 a2 h_S (by omega) (by omega) (by omega) ?_ 16384 (0 : Int64) 0 (by omega) (by omega)
  · intro l_50
    exact tot_some ⟨rfl, trivial⟩
set_option maxHeartbeats 4000000 in
set_option maxRecDepth 10000 in
theorem sf_correlation {P : Nat → Int32} (hP : PL P) (S : MS) (a0 : Int32) (a1 : Int32) (a2 : Int32) (h_S : IC P S) : Tot (fr_correlation S a0 a1 a2) (fun r => IC P r.2 ∧ True) := by
  have z0 : (0 : Int32).toInt = 0 := by decide
  have z1 : (1 : Int32).toInt = 1 := by decide
  have z2 : (3 : Int32).toInt = 3 := by decide
  have p_2 := pl_2 hP
  have p_4 := pl_4 hP
  have j_a0 := i_any a0
  have j_a1 := i_any a1
  have j_a2 := i_any a2
  unfold fr_correlation
  refine tot_bindp (R := fun r_1 : Int32 => (r_1.toInt = 0 ∨ r_1.toInt = 1 ∧ 0 ≤ a0.toInt ∧ a0.toInt < (P 4).toInt)) (sf_isMic hP S a0 h_S ) (fun r_1 d_r_1 => ?_)
  replace d_r_1 : (r_1.toInt = 0 ∨ r_1.toInt = 1 ∧ 0 ≤ a0.toInt ∧ a0.toInt < (P 4).toInt) := d_r_1
  refine tot_if (fun c_5 => ?_) (fun c_5 => ?_)
  · replace c_5 := i_eq c_5
    unfold fr_correlation_b21
    unfold fr_correlation_b22
    refine tot_bind2 (sf_mayAsk hP S 0 h_S (by omega)) (fun r_6 S_7 d_r_6 => ?_)
    have h_S_7 : IC P S_7 := d_r_6.1
    replace d_r_6 : (r_6.toInt = 0 ∨ r_6.toInt = 1 ∧ ¬ (0 : Int32).toInt = 0) := d_r_6.2
    refine tot_if (fun c_15 => ?_) (fun c_15 => ?_)
    · replace c_15 := i_eq c_15
      exact tot_some ⟨h_S_7, trivial⟩
    · replace c_15 := i_ne c_15
      exfalso
      omega
  · replace c_5 := i_ne c_5
    refine tot_bindp (R := fun r_3 : Int32 => (r_3.toInt = 0 ∨ r_3.toInt = 1 ∧ 0 ≤ a1.toInt ∧ a1.toInt < (P 4).toInt)) (sf_isMic hP S a1 h_S ) (fun r_3 d_r_3 => ?_)
    replace d_r_3 : (r_3.toInt = 0 ∨ r_3.toInt = 1 ∧ 0 ≤ a1.toInt ∧ a1.toInt < (P 4).toInt) := d_r_3
    refine tot_if (fun c_16 => ?_) (fun c_16 => ?_)
    · replace c_16 := i_eq c_16
      unfold fr_correlation_b21
      unfold fr_correlation_b22
      refine tot_bind2 (sf_mayAsk hP S 0 h_S (by omega)) (fun r_17 S_18 d_r_17 => ?_)
      have h_S_18 : IC P S_18 := d_r_17.1
      replace d_r_17 : (r_17.toInt = 0 ∨ r_17.toInt = 1 ∧ ¬ (0 : Int32).toInt = 0) := d_r_17.2
      refine tot_if (fun c_26 => ?_) (fun c_26 => ?_)
      · replace c_26 := i_eq c_26
        exact tot_some ⟨h_S_18, trivial⟩
      · replace c_26 := i_ne c_26
        exfalso
        omega
    · replace c_16 := i_ne c_16
      unfold fr_correlation_b22
      refine tot_bind2 (sf_mayAsk hP S 1 h_S (by omega)) (fun r_27 S_28 d_r_27 => ?_)
      have h_S_28 : IC P S_28 := d_r_27.1
      replace d_r_27 : (r_27.toInt = 0 ∨ r_27.toInt = 1 ∧ ¬ (1 : Int32).toInt = 0) := d_r_27.2
      refine tot_if (fun c_36 => ?_) (fun c_36 => ?_)
      · replace c_36 := i_eq c_36
        exact tot_some ⟨h_S_28, trivial⟩
      · replace c_36 := i_ne c_36
        refine tot_bindp (R := fun r_29 : Int32 => (r_29.toInt = 0 ∨ r_29.toInt = 1 ∧ 0 ≤ a2.toInt ∧ a2.toInt < (P 2).toInt)) (sf_isTime hP S_28 a2 h_S_28 ) (fun r_29 d_r_29 => ?_)
        replace d_r_29 : (r_29.toInt = 0 ∨ r_29.toInt = 1 ∧ 0 ≤ a2.toInt ∧ a2.toInt < (P 2).toInt) := d_r_29
        refine tot_if (fun c_37 => ?_) (fun c_37 => ?_)
        · replace c_37 := i_eq c_37
          refine tot_bind2 (sf_throwsAt hP S_28 3 h_S_28 ) (fun r_31 S_32 d_r_31 => ?_)
          have h_S_32 : IC P S_32 := d_r_31.1
          replace d_r_31 : (0 ≤ r_31.toInt ∧ r_31.toInt ≤ 0) := d_r_31.2
          refine tot_let (fun v_33 e_v_33 => ?_)
          unfold fr_correlation_b54
          exact tot_some ⟨h_S_32, trivial⟩
        · replace c_37 := i_ne c_37
          refine tot_bindp (R := fun r_34 : Int64 => True) (sf_together hP S_28 a0 a1 a2 h_S_28 (by omega) (by omega) (by omega)) (fun r_34 d_r_34 => ?_)
          unfold fr_correlation_b54
          exact tot_some ⟨h_S_28, trivial⟩
set_option maxHeartbeats 4000000 in
set_option maxRecDepth 10000 in
theorem lf_bestLag_b50 {P : Nat → Int32} (hP : PL P) {Q : Int32 × MS → Prop} (l1 : Int32) (l2 : Int32) (l3 : Int32) (g0 : 0 ≤ l1.toInt ∧ l1.toInt ≤ 11) (g1 : 0 ≤ l2.toInt ∧ l2.toInt ≤ 11) (g2 : 0 ≤ l3.toInt ∧ l3.toInt ≤ 199) (hx0 : ∀ (S : MS) (l4 : Int32), (IC P S) → (0 ≤ l4.toInt ∧ l4.toInt ≤ 199) → Tot (some (l4, S)) Q) : ∀ (n : Nat) (S : MS) (l4 : Int32) (l5 : Int32), (IC P S) → (0 ≤ l4.toInt ∧ l4.toInt ≤ 199) → (1 ≤ l5.toInt ∧ l5.toInt ≤ 200) → 200 - l5.toInt < (n : Int) → Tot (fr_bestLag_b50 n S l1 l2 l3 l4 l5) Q := by
  have z0 : (0 : Int32).toInt = 0 := by decide
  have z1 : (Int32.ofInt (1) : Int32).toInt = 1 := by decide
  have j_l1 := i_any l1
  have j_l2 := i_any l2
  have j_l3 := i_any l3
  intro n
  induction n with
  | zero =>
    intro S l4 l5 h_S g_l4 g_l5 hm
    exfalso
    omega
  | succ n ih =>
    intro S l4 l5 h_S g_l4 g_l5 hm
    unfold fr_bestLag_b50
    refine tot_if (fun c_48 => ?_) (fun c_48 => ?_)
    · replace c_48 := i_lt c_48
      exact hx0 S l4 h_S (by omega)
    · replace c_48 := i_nlt c_48
      refine tot_bindp (R := fun r_36 : Int64 => True) (sf_together hP S l1 l2 l5 h_S (by omega) (by omega) (by omega)) (fun r_36 d_r_36 => ?_)
      refine tot_bindp (R := fun r_38 : Int64 => True) (sf_together hP S l1 l2 l4 h_S (by omega) (by omega) (by omega)) (fun r_38 d_r_38 => ?_)
      refine tot_let (fun v_40 e_v_40 => ?_)
      have r_v_40 := i_any v_40
      refine tot_if (fun c_49 => ?_) (fun c_49 => ?_)
      · replace c_49 := i_le c_49
        unfold fr_bestLag_b83
        refine tot_let (fun v_50 e_v_50 => ?_)
        have q_v_50 := i_add e_v_50 (by omega) (by omega)
        exact ih S l4 v_50 h_S (by omega) (by omega) (by omega)
      · replace c_49 := i_nle c_49
        unfold fr_bestLag_b83
        refine tot_let (fun v_51 e_v_51 => ?_)
        have q_v_51 := i_add e_v_51 (by omega) (by omega)
        exact ih S l5 v_51 h_S (by omega) (by omega) (by omega)
set_option maxHeartbeats 4000000 in
set_option maxRecDepth 10000 in
theorem sf_bestLag {P : Nat → Int32} (hP : PL P) (S : MS) (a0 : Int32) (a1 : Int32) (a2 : Int32) (h_S : IC P S) : Tot (fr_bestLag S a0 a1 a2) (fun r => IC P r.2 ∧ (0 ≤ r.1.toInt ∧ r.1.toInt ≤ 199)) := by
  have z0 : (0 : Int32).toInt = 0 := by decide
  have z1 : (1 : Int32).toInt = 1 := by decide
  have z2 : (3 : Int32).toInt = 3 := by decide
  have p_2 := pl_2 hP
  have p_4 := pl_4 hP
  have j_a0 := i_any a0
  have j_a1 := i_any a1
  have j_a2 := i_any a2
  unfold fr_bestLag
  refine tot_bindp (R := fun r_1 : Int32 => (r_1.toInt = 0 ∨ r_1.toInt = 1 ∧ 0 ≤ a0.toInt ∧ a0.toInt < (P 4).toInt)) (sf_isMic hP S a0 h_S ) (fun r_1 d_r_1 => ?_)
  replace d_r_1 : (r_1.toInt = 0 ∨ r_1.toInt = 1 ∧ 0 ≤ a0.toInt ∧ a0.toInt < (P 4).toInt) := d_r_1
  refine tot_if (fun c_5 => ?_) (fun c_5 => ?_)
  · replace c_5 := i_eq c_5
    unfold fr_bestLag_b21
    unfold fr_bestLag_b22
    refine tot_bind2 (sf_mayAsk hP S 0 h_S (by omega)) (fun r_6 S_7 d_r_6 => ?_)
    have h_S_7 : IC P S_7 := d_r_6.1
    replace d_r_6 : (r_6.toInt = 0 ∨ r_6.toInt = 1 ∧ ¬ (0 : Int32).toInt = 0) := d_r_6.2
    refine tot_if (fun c_12 => ?_) (fun c_12 => ?_)
    · replace c_12 := i_eq c_12
      exact tot_some ⟨h_S_7, (show (0 ≤ (0 : Int32).toInt ∧ (0 : Int32).toInt ≤ 199) from by omega)⟩
    · replace c_12 := i_ne c_12
      exfalso
      omega
  · replace c_5 := i_ne c_5
    refine tot_bindp (R := fun r_3 : Int32 => (r_3.toInt = 0 ∨ r_3.toInt = 1 ∧ 0 ≤ a1.toInt ∧ a1.toInt < (P 4).toInt)) (sf_isMic hP S a1 h_S ) (fun r_3 d_r_3 => ?_)
    replace d_r_3 : (r_3.toInt = 0 ∨ r_3.toInt = 1 ∧ 0 ≤ a1.toInt ∧ a1.toInt < (P 4).toInt) := d_r_3
    refine tot_if (fun c_13 => ?_) (fun c_13 => ?_)
    · replace c_13 := i_eq c_13
      unfold fr_bestLag_b21
      unfold fr_bestLag_b22
      refine tot_bind2 (sf_mayAsk hP S 0 h_S (by omega)) (fun r_14 S_15 d_r_14 => ?_)
      have h_S_15 : IC P S_15 := d_r_14.1
      replace d_r_14 : (r_14.toInt = 0 ∨ r_14.toInt = 1 ∧ ¬ (0 : Int32).toInt = 0) := d_r_14.2
      refine tot_if (fun c_20 => ?_) (fun c_20 => ?_)
      · replace c_20 := i_eq c_20
        exact tot_some ⟨h_S_15, (show (0 ≤ (0 : Int32).toInt ∧ (0 : Int32).toInt ≤ 199) from by omega)⟩
      · replace c_20 := i_ne c_20
        exfalso
        omega
    · replace c_13 := i_ne c_13
      unfold fr_bestLag_b22
      refine tot_bind2 (sf_mayAsk hP S 1 h_S (by omega)) (fun r_21 S_22 d_r_21 => ?_)
      have h_S_22 : IC P S_22 := d_r_21.1
      replace d_r_21 : (r_21.toInt = 0 ∨ r_21.toInt = 1 ∧ ¬ (1 : Int32).toInt = 0) := d_r_21.2
      refine tot_if (fun c_27 => ?_) (fun c_27 => ?_)
      · replace c_27 := i_eq c_27
        exact tot_some ⟨h_S_22, (show (0 ≤ (0 : Int32).toInt ∧ (0 : Int32).toInt ≤ 199) from by omega)⟩
      · replace c_27 := i_ne c_27
        refine tot_bindp (R := fun r_23 : Int32 => (r_23.toInt = 0 ∨ r_23.toInt = 1 ∧ 0 ≤ a2.toInt ∧ a2.toInt < (P 2).toInt)) (sf_isTime hP S_22 a2 h_S_22 ) (fun r_23 d_r_23 => ?_)
        replace d_r_23 : (r_23.toInt = 0 ∨ r_23.toInt = 1 ∧ 0 ≤ a2.toInt ∧ a2.toInt < (P 2).toInt) := d_r_23
        refine tot_if (fun c_28 => ?_) (fun c_28 => ?_)
        · replace c_28 := i_eq c_28
          refine tot_bind2 (sf_throwsAt hP S_22 3 h_S_22 ) (fun r_25 S_26 d_r_25 => ?_)
          have h_S_26 : IC P S_26 := d_r_25.1
          replace d_r_25 : (0 ≤ r_25.toInt ∧ r_25.toInt ≤ 0) := d_r_25.2
          exact tot_some ⟨h_S_26, (show (0 ≤ r_25.toInt ∧ r_25.toInt ≤ 199) from by omega)⟩
        · replace c_28 := i_ne c_28
          refine lf_bestLag_b50 hP a0 a1 a2 (by omega) (by omega) (by omega) ?_ 16384 S_22 0 1 h_S_22 (by omega) (by omega) (by omega)
          · intro S_52 l_53 h_S_52 g_l_53
            exact tot_some ⟨h_S_52, (show (0 ≤ l_53.toInt ∧ l_53.toInt ≤ 199) from by omega)⟩
end
section
/-! 12c.se4.lean.txt -/
set_option maxHeartbeats 4000000 in
set_option maxRecDepth 10000 in
theorem sf_levelOf {P : Nat → Int32} (hP : PL P) (S : MS) (a0 : Int32) (h_S : IC P S) (g0 : 0 ≤ a0.toInt ∧ a0.toInt ≤ 11) : Tot (fr_levelOf S a0) (fun r => r.2 = S ∧ True) := by
  have z0 : (0 : Int32).toInt = 0 := by decide
  have p_2 := pl_2 hP
  have j_a0 := i_any a0
  unfold fr_levelOf
  refine tot_bindp (R := fun r_1 : Int64 => True) (sf_together hP S a0 a0 0 h_S (by omega) (by omega) (by omega)) (fun r_1 d_r_1 => ?_)
  refine tot_let (fun v_3 e_v_3 => ?_)
  have q_v_3 := ic_p h_S e_v_3
  refine tot_let (fun v_4 e_v_4 => ?_)
  refine tot_oif (by rw [e_v_4]; exact i_nz64 (by omega)) ?_
  refine tot_let (fun v_5 e_v_5 => ?_)
  exact tot_some ⟨rfl, trivial⟩
set_option maxHeartbeats 4000000 in
set_option maxRecDepth 10000 in
theorem sf_level {P : Nat → Int32} (hP : PL P) (S : MS) (a0 : Int32) (h_S : IC P S) : Tot (fr_level S a0) (fun r => IC P r.2 ∧ True) := by
  have z0 : (0 : Int32).toInt = 0 := by decide
  have p_4 := pl_4 hP
  have j_a0 := i_any a0
  unfold fr_level
  refine tot_bindp (R := fun r_1 : Int32 => (r_1.toInt = 0 ∨ r_1.toInt = 1 ∧ 0 ≤ a0.toInt ∧ a0.toInt < (P 4).toInt)) (sf_isMic hP S a0 h_S ) (fun r_1 d_r_1 => ?_)
  replace d_r_1 : (r_1.toInt = 0 ∨ r_1.toInt = 1 ∧ 0 ≤ a0.toInt ∧ a0.toInt < (P 4).toInt) := d_r_1
  refine tot_bind2 (sf_mayAsk hP S r_1 h_S (by omega)) (fun r_3 S_4 d_r_3 => ?_)
  have h_S_4 : IC P S_4 := d_r_3.1
  replace d_r_3 : (r_3.toInt = 0 ∨ r_3.toInt = 1 ∧ ¬ r_1.toInt = 0) := d_r_3.2
  refine tot_if (fun c_7 => ?_) (fun c_7 => ?_)
  · replace c_7 := i_eq c_7
    unfold fr_level_b21
    exact tot_some ⟨h_S_4, trivial⟩
  · replace c_7 := i_ne c_7
    refine tot_bindp (R := fun r_5 : Int64 => True) (sf_levelOf hP S_4 a0 h_S_4 (by omega)) (fun r_5 d_r_5 => ?_)
    unfold fr_level_b21
    exact tot_some ⟨h_S_4, trivial⟩
set_option maxHeartbeats 4000000 in
set_option maxRecDepth 10000 in
theorem lf_loudest_b31 {P : Nat → Int32} (hP : PL P) {Q : Int32 × MS → Prop} {k16 : MS → Int32 → Int32 → Option (Int32 × MS)} (l1 : Int32) (l2 : Int32) (g0 : 0 ≤ l1.toInt ∧ l1.toInt ≤ 11) (g1 : 0 ≤ l2.toInt ∧ l2.toInt ≤ 11) (hx0 : ∀ (S : MS) (l3 : Int32), (IC P S) → Tot (if l3 = l1 then (some (l2, S)) else (elet (l2 + Int32.ofInt (1)) fun v_77 => k16 S l1 v_77)) Q) : ∀ (n : Nat) (S : MS) (l3 : Int32) (l4 : Int32), (IC P S) → (0 ≤ l4.toInt ∧ l4.toInt ≤ 12) → 12 - l4.toInt < (n : Int) → Tot (fr_loudest_b31 k16 n S l1 l2 l3 l4) Q := by
  have z0 : (0 : Int32).toInt = 0 := by decide
  have z1 : (1 : Int32).toInt = 1 := by decide
  have z2 : (Int32.ofInt (1) : Int32).toInt = 1 := by decide
  have p_4 := pl_4 hP
  have j_l1 := i_any l1
  have j_l2 := i_any l2
  intro n
  induction n with
  | zero =>
    intro S l3 l4 h_S g_l4 hm
    exfalso
    omega
  | succ n ih =>
    intro S l3 l4 h_S g_l4 hm
    unfold fr_loudest_b31
    refine tot_let (fun v_76 e_v_76 => ?_)
    have q_v_76 := ic_p h_S e_v_76
    refine tot_if (fun c_108 => ?_) (fun c_108 => ?_)
    · replace c_108 := i_le c_108
      exact hx0 S l3 h_S
    · replace c_108 := i_nle c_108
      refine tot_bindp (R := fun r_78 : Int64 => True) (sf_levelOf hP S l4 h_S (by omega)) (fun r_78 d_r_78 => ?_)
      refine tot_bindp (R := fun r_80 : Int64 => True) (sf_levelOf hP S l2 h_S (by omega)) (fun r_80 d_r_80 => ?_)
      refine tot_let (fun v_82 e_v_82 => ?_)
      have r_v_82 := i_any v_82
      refine tot_if (fun c_109 => ?_) (fun c_109 => ?_)
      · replace c_109 := i_lt c_109
        unfold fr_loudest_b79
        unfold fr_loudest_b84
        refine tot_let (fun v_110 e_v_110 => ?_)
        have r_v_110 := i_any v_110
        refine tot_let (fun v_111 e_v_111 => ?_)
        have q_v_111 := i_add e_v_111 (by omega) (by omega)
        exact ih S v_110 v_111 h_S (by omega) (by omega)
      · replace c_109 := i_nlt c_109
        refine tot_bindp (R := fun r_83 : Int64 => True) (sf_levelOf hP S l4 h_S (by omega)) (fun r_83 d_r_83 => ?_)
        refine tot_bindp (R := fun r_85 : Int64 => True) (sf_levelOf hP S l2 h_S (by omega)) (fun r_85 d_r_85 => ?_)
        refine tot_let (fun v_87 e_v_87 => ?_)
        have r_v_87 := i_any v_87
        refine tot_if (fun c_112 => ?_) (fun c_112 => ?_)
        · replace c_112 := i_eq c_112
          refine tot_if (fun c_113 => ?_) (fun c_113 => ?_)
          · replace c_113 := i_le c_113
            unfold fr_loudest_b83
            unfold fr_loudest_b84
            refine tot_let (fun v_114 e_v_114 => ?_)
            have r_v_114 := i_any v_114
            refine tot_let (fun v_115 e_v_115 => ?_)
            have q_v_115 := i_add e_v_115 (by omega) (by omega)
            exact ih S v_114 v_115 h_S (by omega) (by omega)
          · replace c_113 := i_nle c_113
            unfold fr_loudest_b79
            unfold fr_loudest_b84
            refine tot_let (fun v_116 e_v_116 => ?_)
            have r_v_116 := i_any v_116
            refine tot_let (fun v_117 e_v_117 => ?_)
            have q_v_117 := i_add e_v_117 (by omega) (by omega)
            exact ih S v_116 v_117 h_S (by omega) (by omega)
        · replace c_112 := i_ne c_112
          unfold fr_loudest_b83
          unfold fr_loudest_b84
          refine tot_let (fun v_118 e_v_118 => ?_)
          have r_v_118 := i_any v_118
          refine tot_let (fun v_119 e_v_119 => ?_)
          have q_v_119 := i_add e_v_119 (by omega) (by omega)
          exact ih S v_118 v_119 h_S (by omega) (by omega)
set_option maxHeartbeats 4000000 in
set_option maxRecDepth 10000 in
theorem lf_loudest_b16 {P : Nat → Int32} (hP : PL P) {Q : Int32 × MS → Prop} (l1 : Int32) (g0 : 0 ≤ l1.toInt ∧ l1.toInt ≤ 11) (hx0 : ∀ (S : MS), (IC P S) → Tot (some ((-1), S)) Q) (hx1 : ∀ (S_120 : MS) (l2 : Int32), (IC P S_120) → (0 ≤ l2.toInt ∧ l2.toInt ≤ 11) → Tot (some (l2, S_120)) Q) : ∀ (n : Nat) (S : MS) (l2 : Int32), (IC P S) → (0 ≤ l2.toInt ∧ l2.toInt ≤ 12) → 12 - l2.toInt < (n : Int) → Tot (fr_loudest_b16 n S l1 l2) Q := by
  have z0 : (0 : Int32).toInt = 0 := by decide
  have z1 : (Int32.ofInt (1) : Int32).toInt = 1 := by decide
  have p_4 := pl_4 hP
  have j_l1 := i_any l1
  intro n
  induction n with
  | zero =>
    intro S l2 h_S g_l2 hm
    exfalso
    omega
  | succ n ih =>
    intro S l2 h_S g_l2 hm
    unfold fr_loudest_b16
    refine tot_let (fun v_50 e_v_50 => ?_)
    have q_v_50 := ic_p h_S e_v_50
    refine tot_if (fun c_75 => ?_) (fun c_75 => ?_)
    · replace c_75 := i_le c_75
      exact hx0 S h_S
    · replace c_75 := i_nle c_75
      refine lf_loudest_b31 hP l1 l2 (by omega) (by omega) ?_ 16384 S 0 0 h_S (by omega) (by omega)
      · intro S_120 l_121 h_S_120
        have j_l_121 := i_any l_121
        refine tot_if (fun c_123 => ?_) (fun c_123 => ?_)
        · replace c_123 := i_eq c_123
          exact hx1 S_120 l2 h_S_120 (by omega)
        · replace c_123 := i_ne c_123
          refine tot_let (fun v__122 e_v__122 => ?_)
          have q_v__122 := i_add e_v__122 (by omega) (by omega)
          exact ih S_120 v__122 h_S_120 (by omega) (by omega)
set_option maxHeartbeats 4000000 in
set_option maxRecDepth 10000 in
theorem sf_loudest {P : Nat → Int32} (hP : PL P) (S : MS) (a0 : Int32) (h_S : IC P S) : Tot (fr_loudest S a0) (fun r => IC P r.2 ∧ (-1 ≤ r.1.toInt ∧ r.1.toInt ≤ 11)) := by
  have z0 : (0 : Int32).toInt = 0 := by decide
  have z1 : ((-1) : Int32).toInt = -1 := by decide
  have p_4 := pl_4 hP
  have j_a0 := i_any a0
  unfold fr_loudest
  refine tot_bindp (R := fun r_1 : Int32 => (r_1.toInt = 0 ∨ r_1.toInt = 1 ∧ 0 ≤ a0.toInt ∧ a0.toInt < (P 4).toInt)) (sf_isMic hP S a0 h_S ) (fun r_1 d_r_1 => ?_)
  replace d_r_1 : (r_1.toInt = 0 ∨ r_1.toInt = 1 ∧ 0 ≤ a0.toInt ∧ a0.toInt < (P 4).toInt) := d_r_1
  refine tot_bind2 (sf_mayAsk hP S r_1 h_S (by omega)) (fun r_3 S_4 d_r_3 => ?_)
  have h_S_4 : IC P S_4 := d_r_3.1
  replace d_r_3 : (r_3.toInt = 0 ∨ r_3.toInt = 1 ∧ ¬ r_1.toInt = 0) := d_r_3.2
  refine tot_if (fun c_5 => ?_) (fun c_5 => ?_)
  · replace c_5 := i_eq c_5
    exact tot_some ⟨h_S_4, (show (-1 ≤ (0 : Int32).toInt ∧ (0 : Int32).toInt ≤ 11) from by omega)⟩
  · replace c_5 := i_ne c_5
    refine lf_loudest_b16 hP a0 (by omega) ?_ ?_ 16384 S_4 0 h_S_4 (by omega) (by omega)
    · intro S_124 h_S_124
      exact tot_some ⟨h_S_124, (show (-1 ≤ ((-1) : Int32).toInt ∧ ((-1) : Int32).toInt ≤ 11) from by omega)⟩
    · intro S_125 l_126 h_S_125 g_l_126
      exact tot_some ⟨h_S_125, (show (-1 ≤ l_126.toInt ∧ l_126.toInt ≤ 11) from by omega)⟩
set_option maxHeartbeats 4000000 in
set_option maxRecDepth 10000 in
theorem lf_writeMap_b31 {P : Nat → Int32} (hP : PL P) {Q : Int32 × MS → Prop} (l1 : Int64) (hx0 : ∀ (S : MS), (IC P S) → Tot (elet (S.1 28) fun v_74 => some (v_74, S)) Q) : ∀ (n : Nat) (S : MS) (l3 : Int32), (IC P S) → (0 ≤ l3.toInt ∧ l3.toInt ≤ 144) → ((l3.toInt = 0 ∧ (S.1 28).toInt = 0) ∨ (1 ≤ l3.toInt ∧ (S.1 28).toInt ≤ l3.toInt + (l3.toInt - 1) / (P 9).toInt)) → 144 - l3.toInt < (n : Int) → Tot (fr_writeMap_b31 n S l1 l3) Q := by
  have z0 : (0 : Int32).toInt = 0 := by decide
  have z1 : (48 : Int32).toInt = 48 := by decide
  have z2 : (1 : Int32).toInt = 1 := by decide
  have z3 : (Int32.ofInt (1) : Int32).toInt = 1 := by decide
  have z4 : (59 : Int32).toInt = 59 := by decide
  have p_9 := pl_9 hP
  have p_10 := pl_10 hP
  have p_cells := pl_cells hP
  intro n
  induction n with
  | zero =>
    intro S l3 h_S g_l3 gi_0 hm
    exfalso
    omega
  | succ n ih =>
    intro S l3 h_S g_l3 gi_0 hm
    have y0 : 1 ≤ l3.toInt → _ := fun q => sep_step (l := l3.toInt) (c := (P 9).toInt) (by omega) q
    have y1 : l3.toInt < (P 9).toInt * (P 10).toInt → _ := fun q => sep_max (l := l3.toInt) (c := (P 9).toInt) (r := (P 10).toInt) (by omega) q
    have y2 := Int.ediv_nonneg (a := l3.toInt) (b := (P 9).toInt) (by omega) (by omega)
    have rr_28 := ic_28 h_S
    unfold fr_writeMap_b31
    refine tot_bindp (R := fun r_72 : Int32 => ((1 ≤ r_72.toInt ∧ r_72.toInt ≤ 144) ∧ r_72.toInt = (P 9).toInt * (P 10).toInt)) (sf_cellCount hP S h_S ) (fun r_72 d_r_72 => ?_)
    replace d_r_72 : ((1 ≤ r_72.toInt ∧ r_72.toInt ≤ 144) ∧ r_72.toInt = (P 9).toInt * (P 10).toInt) := d_r_72
    refine tot_if (fun c_146 => ?_) (fun c_146 => ?_)
    · replace c_146 := i_le c_146
      exact hx0 S h_S
    · replace c_146 := i_nle c_146
      refine tot_if (fun c_147 => ?_) (fun c_147 => ?_)
      · replace c_147 := i_le c_147
        unfold fr_writeMap_b76
        refine tot_let (fun v_148 e_v_148 => ?_)
        have q_v_148 := i_eq e_v_148
        have r_v_148 := ic_28 h_S
        refine tot_let (fun v_149 e_v_149 => ?_)
        have r_v_149 := i_any v_149
        refine tot_if (fun c_154 => ?_) (fun c_154 => ?_)
        · replace c_154 := i_eq c_154
          unfold fr_writeMap_b109
          refine tot_let (fun v_155 e_v_155 => ?_)
          have q_v_155 := i_add e_v_155 (by omega) (by omega)
          refine tot_oif (i_inb (by omega) (by omega)) ?_
          refine tot_let (fun S_156 e_S_156 => ?_)
          have h_S_156 : IC P S_156 := by rw [e_S_156]; exact ic_mf27 h_S _
          have f_S_156_28 : (S_156.1 28).toInt = (S.1 28).toInt := by rw [e_S_156]; rfl
          refine tot_let (fun v_157 e_v_157 => ?_)
          have q_v_157 := i_eq e_v_157
          have r_v_157 := ic_28 h_S_156
          refine tot_let (fun v_158 e_v_158 => ?_)
          have q_v_158 := i_add e_v_158 (by omega) (by omega)
          refine tot_let (fun S_159 e_S_159 => ?_)
          have h_S_159 : IC P S_159 := by rw [e_S_159]; exact ic_mi28 h_S_156 (by omega) (by omega)
          have f_S_159_28 : (S_159.1 28).toInt = (v_158 : Int32).toInt := by rw [e_S_159]; rfl
          refine tot_let (fun v_160 e_v_160 => ?_)
          have q_v_160 := i_add e_v_160 (by omega) (by omega)
          have w9 : (v_160.toInt - 1) / (P 9).toInt = l3.toInt / (P 9).toInt := by rw [show v_160.toInt - 1 = l3.toInt from by omega]
          exact ih S_159 v_160 h_S_159 (by omega) (by omega) (by omega)
        · have c_154_ := c_154
          replace c_154 := i_ne c_154
          refine tot_oif (i_inb (by omega) (by omega)) ?_
          refine tot_let (fun v_150 e_v_150 => ?_)
          refine tot_let (fun v_151 e_v_151 => ?_)
          refine tot_oif (fun q_ => c_154_ (by rw [e_v_149, q_]; rfl)) ?_
          refine tot_let (fun v_152 e_v_152 => ?_)
          refine tot_let (fun v_153 e_v_153 => ?_)
          have r_v_153 := i_any v_153
          unfold fr_writeMap_b109
          refine tot_let (fun v_161 e_v_161 => ?_)
          have r_v_161 := i_any v_161
          refine tot_oif (i_inb (by omega) (by omega)) ?_
          refine tot_let (fun S_162 e_S_162 => ?_)
          have h_S_162 : IC P S_162 := by rw [e_S_162]; exact ic_mf27 h_S _
          have f_S_162_28 : (S_162.1 28).toInt = (S.1 28).toInt := by rw [e_S_162]; rfl
          refine tot_let (fun v_163 e_v_163 => ?_)
          have q_v_163 := i_eq e_v_163
          have r_v_163 := ic_28 h_S_162
          refine tot_let (fun v_164 e_v_164 => ?_)
          have q_v_164 := i_add e_v_164 (by omega) (by omega)
          refine tot_let (fun S_165 e_S_165 => ?_)
          have h_S_165 : IC P S_165 := by rw [e_S_165]; exact ic_mi28 h_S_162 (by omega) (by omega)
          have f_S_165_28 : (S_165.1 28).toInt = (v_164 : Int32).toInt := by rw [e_S_165]; rfl
          refine tot_let (fun v_166 e_v_166 => ?_)
          have q_v_166 := i_add e_v_166 (by omega) (by omega)
          have w9 : (v_166.toInt - 1) / (P 9).toInt = l3.toInt / (P 9).toInt := by rw [show v_166.toInt - 1 = l3.toInt from by omega]
          exact ih S_165 v_166 h_S_165 (by omega) (by omega) (by omega)
      · replace c_147 := i_nle c_147
        refine tot_let (fun v_75 e_v_75 => ?_)
        have q_v_75 := ic_p h_S e_v_75
        refine tot_oif (i_nz (by omega)) ?_
        refine tot_let (fun v_76 e_v_76 => ?_)
        have q_v_76 := i_rem e_v_76 (by omega) (by omega)
        have x_v_76 := i_remq e_v_76 (by omega) (by omega)
        rw [q_v_75] at x_v_76
        refine tot_if (fun c_167 => ?_) (fun c_167 => ?_)
        · replace c_167 := i_eq c_167
          refine tot_let (fun v_77 e_v_77 => ?_)
          have q_v_77 := i_eq e_v_77
          have r_v_77 := ic_28 h_S
          refine tot_oif (i_inb (by omega) (by omega)) ?_
          refine tot_let (fun S_78 e_S_78 => ?_)
          have h_S_78 : IC P S_78 := by rw [e_S_78]; exact ic_mf27 h_S _
          have f_S_78_28 : (S_78.1 28).toInt = (S.1 28).toInt := by rw [e_S_78]; rfl
          refine tot_let (fun v_79 e_v_79 => ?_)
          have q_v_79 := i_eq e_v_79
          have r_v_79 := ic_28 h_S_78
          refine tot_let (fun v_80 e_v_80 => ?_)
          have q_v_80 := i_add e_v_80 (by omega) (by omega)
          refine tot_let (fun S_81 e_S_81 => ?_)
          have h_S_81 : IC P S_81 := by rw [e_S_81]; exact ic_mi28 h_S_78 (by omega) (by omega)
          have f_S_81_28 : (S_81.1 28).toInt = (v_80 : Int32).toInt := by rw [e_S_81]; rfl
          unfold fr_writeMap_b76
          refine tot_let (fun v_168 e_v_168 => ?_)
          have q_v_168 := i_eq e_v_168
          have r_v_168 := ic_28 h_S_81
          refine tot_let (fun v_169 e_v_169 => ?_)
          have r_v_169 := i_any v_169
          refine tot_if (fun c_174 => ?_) (fun c_174 => ?_)
          · replace c_174 := i_eq c_174
            unfold fr_writeMap_b109
            refine tot_let (fun v_175 e_v_175 => ?_)
            have q_v_175 := i_add e_v_175 (by omega) (by omega)
            refine tot_oif (i_inb (by omega) (by omega)) ?_
            refine tot_let (fun S_176 e_S_176 => ?_)
            have h_S_176 : IC P S_176 := by rw [e_S_176]; exact ic_mf27 h_S_81 _
            have f_S_176_28 : (S_176.1 28).toInt = (S_81.1 28).toInt := by rw [e_S_176]; rfl
            refine tot_let (fun v_177 e_v_177 => ?_)
            have q_v_177 := i_eq e_v_177
            have r_v_177 := ic_28 h_S_176
            refine tot_let (fun v_178 e_v_178 => ?_)
            have q_v_178 := i_add e_v_178 (by omega) (by omega)
            refine tot_let (fun S_179 e_S_179 => ?_)
            have h_S_179 : IC P S_179 := by rw [e_S_179]; exact ic_mi28 h_S_176 (by omega) (by omega)
            have f_S_179_28 : (S_179.1 28).toInt = (v_178 : Int32).toInt := by rw [e_S_179]; rfl
            refine tot_let (fun v_180 e_v_180 => ?_)
            have q_v_180 := i_add e_v_180 (by omega) (by omega)
            have w9 : (v_180.toInt - 1) / (P 9).toInt = l3.toInt / (P 9).toInt := by rw [show v_180.toInt - 1 = l3.toInt from by omega]
            exact ih S_179 v_180 h_S_179 (by omega) (by omega) (by omega)
          · have c_174_ := c_174
            replace c_174 := i_ne c_174
            refine tot_oif (i_inb (by omega) (by omega)) ?_
            refine tot_let (fun v_170 e_v_170 => ?_)
            refine tot_let (fun v_171 e_v_171 => ?_)
            refine tot_oif (fun q_ => c_174_ (by rw [e_v_169, q_]; rfl)) ?_
            refine tot_let (fun v_172 e_v_172 => ?_)
            refine tot_let (fun v_173 e_v_173 => ?_)
            have r_v_173 := i_any v_173
            unfold fr_writeMap_b109
            refine tot_let (fun v_181 e_v_181 => ?_)
            have r_v_181 := i_any v_181
            refine tot_oif (i_inb (by omega) (by omega)) ?_
            refine tot_let (fun S_182 e_S_182 => ?_)
            have h_S_182 : IC P S_182 := by rw [e_S_182]; exact ic_mf27 h_S_81 _
            have f_S_182_28 : (S_182.1 28).toInt = (S_81.1 28).toInt := by rw [e_S_182]; rfl
            refine tot_let (fun v_183 e_v_183 => ?_)
            have q_v_183 := i_eq e_v_183
            have r_v_183 := ic_28 h_S_182
            refine tot_let (fun v_184 e_v_184 => ?_)
            have q_v_184 := i_add e_v_184 (by omega) (by omega)
            refine tot_let (fun S_185 e_S_185 => ?_)
            have h_S_185 : IC P S_185 := by rw [e_S_185]; exact ic_mi28 h_S_182 (by omega) (by omega)
            have f_S_185_28 : (S_185.1 28).toInt = (v_184 : Int32).toInt := by rw [e_S_185]; rfl
            refine tot_let (fun v_186 e_v_186 => ?_)
            have q_v_186 := i_add e_v_186 (by omega) (by omega)
            have w9 : (v_186.toInt - 1) / (P 9).toInt = l3.toInt / (P 9).toInt := by rw [show v_186.toInt - 1 = l3.toInt from by omega]
            exact ih S_185 v_186 h_S_185 (by omega) (by omega) (by omega)
        · replace c_167 := i_ne c_167
          unfold fr_writeMap_b76
          refine tot_let (fun v_187 e_v_187 => ?_)
          have q_v_187 := i_eq e_v_187
          have r_v_187 := ic_28 h_S
          refine tot_let (fun v_188 e_v_188 => ?_)
          have r_v_188 := i_any v_188
          refine tot_if (fun c_193 => ?_) (fun c_193 => ?_)
          · replace c_193 := i_eq c_193
            unfold fr_writeMap_b109
            refine tot_let (fun v_194 e_v_194 => ?_)
            have q_v_194 := i_add e_v_194 (by omega) (by omega)
            refine tot_oif (i_inb (by omega) (by omega)) ?_
            refine tot_let (fun S_195 e_S_195 => ?_)
            have h_S_195 : IC P S_195 := by rw [e_S_195]; exact ic_mf27 h_S _
            have f_S_195_28 : (S_195.1 28).toInt = (S.1 28).toInt := by rw [e_S_195]; rfl
            refine tot_let (fun v_196 e_v_196 => ?_)
            have q_v_196 := i_eq e_v_196
            have r_v_196 := ic_28 h_S_195
            refine tot_let (fun v_197 e_v_197 => ?_)
            have q_v_197 := i_add e_v_197 (by omega) (by omega)
            refine tot_let (fun S_198 e_S_198 => ?_)
            have h_S_198 : IC P S_198 := by rw [e_S_198]; exact ic_mi28 h_S_195 (by omega) (by omega)
            have f_S_198_28 : (S_198.1 28).toInt = (v_197 : Int32).toInt := by rw [e_S_198]; rfl
            refine tot_let (fun v_199 e_v_199 => ?_)
            have q_v_199 := i_add e_v_199 (by omega) (by omega)
            have w9 : (v_199.toInt - 1) / (P 9).toInt = l3.toInt / (P 9).toInt := by rw [show v_199.toInt - 1 = l3.toInt from by omega]
            exact ih S_198 v_199 h_S_198 (by omega) (by omega) (by omega)
          · have c_193_ := c_193
            replace c_193 := i_ne c_193
            refine tot_oif (i_inb (by omega) (by omega)) ?_
            refine tot_let (fun v_189 e_v_189 => ?_)
            refine tot_let (fun v_190 e_v_190 => ?_)
            refine tot_oif (fun q_ => c_193_ (by rw [e_v_188, q_]; rfl)) ?_
            refine tot_let (fun v_191 e_v_191 => ?_)
            refine tot_let (fun v_192 e_v_192 => ?_)
            have r_v_192 := i_any v_192
            unfold fr_writeMap_b109
            refine tot_let (fun v_200 e_v_200 => ?_)
            have r_v_200 := i_any v_200
            refine tot_oif (i_inb (by omega) (by omega)) ?_
            refine tot_let (fun S_201 e_S_201 => ?_)
            have h_S_201 : IC P S_201 := by rw [e_S_201]; exact ic_mf27 h_S _
            have f_S_201_28 : (S_201.1 28).toInt = (S.1 28).toInt := by rw [e_S_201]; rfl
            refine tot_let (fun v_202 e_v_202 => ?_)
            have q_v_202 := i_eq e_v_202
            have r_v_202 := ic_28 h_S_201
            refine tot_let (fun v_203 e_v_203 => ?_)
            have q_v_203 := i_add e_v_203 (by omega) (by omega)
            refine tot_let (fun S_204 e_S_204 => ?_)
            have h_S_204 : IC P S_204 := by rw [e_S_204]; exact ic_mi28 h_S_201 (by omega) (by omega)
            have f_S_204_28 : (S_204.1 28).toInt = (v_203 : Int32).toInt := by rw [e_S_204]; rfl
            refine tot_let (fun v_205 e_v_205 => ?_)
            have q_v_205 := i_add e_v_205 (by omega) (by omega)
            have w9 : (v_205.toInt - 1) / (P 9).toInt = l3.toInt / (P 9).toInt := by rw [show v_205.toInt - 1 = l3.toInt from by omega]
            exact ih S_204 v_205 h_S_204 (by omega) (by omega) (by omega)
set_option maxHeartbeats 4000000 in
set_option maxRecDepth 10000 in
theorem sf_writeMap {P : Nat → Int32} (hP : PL P) (S : MS) (h_S : IC P S) : Tot (fr_writeMap S) (fun r => IC P r.2 ∧ (0 ≤ r.1.toInt ∧ r.1.toInt ≤ 160)) := by
  have z0 : (1 : Int32).toInt = 1 := by decide
  have z1 : (0 : Int32).toInt = 0 := by decide
  unfold fr_writeMap
  refine tot_bind2 (sf_mayAsk hP S 1 h_S (by omega)) (fun r_1 S_2 d_r_1 => ?_)
  have h_S_2 : IC P S_2 := d_r_1.1
  replace d_r_1 : (r_1.toInt = 0 ∨ r_1.toInt = 1 ∧ ¬ (1 : Int32).toInt = 0) := d_r_1.2
  refine tot_if (fun c_7 => ?_) (fun c_7 => ?_)
  · replace c_7 := i_eq c_7
    exact tot_some ⟨h_S_2, (show (0 ≤ (0 : Int32).toInt ∧ (0 : Int32).toInt ≤ 160) from by omega)⟩
  · replace c_7 := i_ne c_7
    refine tot_bind2 (sf_bestIn_12 hP S_2 h_S_2 ) (fun r_3 S_4 d_r_3 => ?_)
    have h_S_4 : IC P S_4 := d_r_3.1
    replace d_r_3 : (0 ≤ r_3.toInt ∧ r_3.toInt ≤ 143) := d_r_3.2
    refine tot_oif (i_inb (by omega) (by omega)) ?_
    refine tot_let (fun v_5 e_v_5 => ?_)
    refine tot_let (fun S_6 e_S_6 => ?_)
    have h_S_6 : IC P S_6 := by rw [e_S_6]; exact ic_mi28 h_S_4 (by omega) (by omega)
    have f_S_6_28 : (S_6.1 28).toInt = (0 : Int32).toInt := by rw [e_S_6]; rfl
    refine lf_writeMap_b31 hP v_5 ?_ 16384 S_6 0 h_S_6 (by omega) (by omega) (by omega)
    · intro S_206 h_S_206
      refine tot_let (fun v__207 e_v__207 => ?_)
      have q_v__207 := i_eq e_v__207
      have r_v__207 := ic_28 h_S_206
      exact tot_some ⟨h_S_206, (show (0 ≤ v__207.toInt ∧ v__207.toInt ≤ 160) from by omega)⟩
set_option maxHeartbeats 4000000 in
set_option maxRecDepth 10000 in
theorem sf_mapByte {P : Nat → Int32} (hP : PL P) (S : MS) (a0 : Int32) (h_S : IC P S) : Tot (fr_mapByte S a0) (fun r => IC P r.2 ∧ True) := by
  have z0 : (1 : Int32).toInt = 1 := by decide
  have z1 : (0 : Int32).toInt = 0 := by decide
  have j_a0 := i_any a0
  unfold fr_mapByte
  refine tot_let (fun v_1 e_v_1 => ?_)
  have q_v_1 := i_eq e_v_1
  have r_v_1 := ic_28 h_S
  refine tot_let (fun v_2 e_v_2 => ?_)
  have q_v_2 := i_sub e_v_2 (by omega) (by omega)
  refine tot_bind (sf_in hP a0 0 v_2  ) (fun r_3 d_r_3 => ?_)
  replace d_r_3 : (r_3.toInt = 0 ∧ (a0.toInt < (0 : Int32).toInt ∨ v_2.toInt < a0.toInt) ∨ r_3.toInt = 1 ∧ (0 : Int32).toInt ≤ a0.toInt ∧ a0.toInt ≤ v_2.toInt) := d_r_3
  refine tot_if (fun c_4 => ?_) (fun c_4 => ?_)
  · replace c_4 := i_eq c_4
    unfold fr_mapByte_b20
    refine tot_let (fun S_5 e_S_5 => ?_)
    have h_S_5 : IC P S_5 := by rw [e_S_5]; exact ic_mi0 h_S _
    have f_S_5_0 : (S_5.1 0).toInt = (1 : Int32).toInt := by rw [e_S_5]; rfl
    refine tot_let (fun v_6 e_v_6 => ?_)
    have q_v_6 := i_eq e_v_6
    have r_v_6 := i_any v_6
    refine tot_if (fun c_8 => ?_) (fun c_8 => ?_)
    · replace c_8 := i_eq c_8
      exfalso
      omega
    · replace c_8 := i_ne c_8
      unfold fr_mapByte_b40
      exact tot_some ⟨h_S_5, trivial⟩
  · replace c_4 := i_ne c_4
    unfold fr_mapByte_b20
    refine tot_let (fun S_9 e_S_9 => ?_)
    have h_S_9 : IC P S_9 := by rw [e_S_9]; exact ic_mi0 h_S _
    have f_S_9_0 : (S_9.1 0).toInt = (0 : Int32).toInt := by rw [e_S_9]; rfl
    refine tot_let (fun v_10 e_v_10 => ?_)
    have q_v_10 := i_eq e_v_10
    have r_v_10 := i_any v_10
    refine tot_if (fun c_12 => ?_) (fun c_12 => ?_)
    · replace c_12 := i_eq c_12
      refine tot_oif (i_inb (by omega) (by omega)) ?_
      refine tot_let (fun v_11 e_v_11 => ?_)
      have r_v_11 := i_any v_11
      unfold fr_mapByte_b40
      exact tot_some ⟨h_S_9, trivial⟩
    · replace c_12 := i_ne c_12
      exfalso
      omega
set_option maxHeartbeats 4000000 in
set_option maxRecDepth 10000 in
theorem sf_sourcePlace_14 {P : Nat → Int32} (hP : PL P) (S : MS) (a1 : Int32) (a2 : Int32) (a3 : Int32) (h_S : IC P S) (g0 : 0 ≤ a1.toInt ∧ a1.toInt ≤ 5) (g1 : 0 ≤ a2.toInt ∧ a2.toInt ≤ 1) (g2 : 0 ≤ a3.toInt ∧ a3.toInt ≤ 199) : Tot (fr_sourcePlace_14 S a1 a2 a3) (fun r => r.2 = S ∧ (-3988 ≤ r.1.toInt ∧ r.1.toInt ≤ 3988)) := by
  have z0 : (0 : Int32).toInt = 0 := by decide
  have z1 : (31 : Int32).toInt = 31 := by decide
  have z2 : (43 : Int32).toInt = 43 := by decide
  have z3 : (100 : Int32).toInt = 100 := by decide
  have z4 : (37 : Int32).toInt = 37 := by decide
  have z5 : (49 : Int32).toInt = 49 := by decide
  have j_a1 := i_any a1
  have j_a2 := i_any a2
  have j_a3 := i_any a3
  unfold fr_sourcePlace_14
  refine tot_if (fun c_15 => ?_) (fun c_15 => ?_)
  · replace c_15 := i_eq c_15
    refine tot_let (fun v_1 e_v_1 => ?_)
    have q_v_1 := i_add e_v_1 (by omega) (by omega)
    refine tot_oif (i_inb (by omega) (by omega)) ?_
    refine tot_let (fun v_2 e_v_2 => ?_)
    have r_v_2 := nR_31 (ic_14 h_S e_v_2) (by omega) (by omega)
    refine tot_let (fun v_3 e_v_3 => ?_)
    have q_v_3 := i_add e_v_3 (by omega) (by omega)
    refine tot_oif (i_inb (by omega) (by omega)) ?_
    refine tot_let (fun v_4 e_v_4 => ?_)
    have r_v_4 := nR_43 (ic_14 h_S e_v_4) (by omega) (by omega)
    refine tot_let (fun v_5 e_v_5 => ?_)
    have q_v_5 := i_mulm (a := -999) (b := 999) (d := 199) e_v_5 (by omega) (by omega) (by omega) (by omega) (by decide)
    refine tot_let (fun v_6 e_v_6 => ?_)
    have q_v_6 := i_divk e_v_6 z3 (by decide)
    refine tot_let (fun v_7 e_v_7 => ?_)
    have q_v_7 := i_add e_v_7 (by omega) (by omega)
    unfold fr_sourcePlace_14_b45
    exact tot_some ⟨rfl, (show (-3988 ≤ v_7.toInt ∧ v_7.toInt ≤ 3988) from by omega)⟩
  · replace c_15 := i_ne c_15
    refine tot_let (fun v_8 e_v_8 => ?_)
    have q_v_8 := i_add e_v_8 (by omega) (by omega)
    refine tot_oif (i_inb (by omega) (by omega)) ?_
    refine tot_let (fun v_9 e_v_9 => ?_)
    have r_v_9 := nR_31 (ic_14 h_S e_v_9) (by omega) (by omega)
    refine tot_let (fun v_10 e_v_10 => ?_)
    have q_v_10 := i_add e_v_10 (by omega) (by omega)
    refine tot_oif (i_inb (by omega) (by omega)) ?_
    refine tot_let (fun v_11 e_v_11 => ?_)
    have r_v_11 := nR_43 (ic_14 h_S e_v_11) (by omega) (by omega)
    refine tot_let (fun v_12 e_v_12 => ?_)
    have q_v_12 := i_mulm (a := -999) (b := 999) (d := 199) e_v_12 (by omega) (by omega) (by omega) (by omega) (by decide)
    refine tot_let (fun v_13 e_v_13 => ?_)
    have q_v_13 := i_divk e_v_13 z3 (by decide)
    refine tot_let (fun v_14 e_v_14 => ?_)
    have q_v_14 := i_add e_v_14 (by omega) (by omega)
    unfold fr_sourcePlace_14_b45
    exact tot_some ⟨rfl, (show (-3988 ≤ v_14.toInt ∧ v_14.toInt ≤ 3988) from by omega)⟩
set_option maxHeartbeats 4000000 in
set_option maxRecDepth 10000 in
theorem lf_rawAt_14_b71 {P : Nat → Int32} (hP : PL P) {Q : Int32 × MS → Prop} (S : MS) (l2 : Int32) (l4 : Int32) (h_S : IC P S) (g0 : 0 ≤ l2.toInt ∧ l2.toInt ≤ 11) (g1 : 0 ≤ l4.toInt ∧ l4.toInt ≤ 199) (hx0 : ∀ (l5 : Int32), Tot (elet (35 + l2) fun v_35 => oif (inb v_35 131 = true) <| elet (S.2.1 10 v_35.toNatClampNeg) fun v_36 => elet (v_36 * l5) fun v_37 => some (v_37, S)) Q) : ∀ (n : Nat) (l5 : Int32) (l6 : Int32), (0 ≤ l6.toInt ∧ l6.toInt ≤ 6) → 6 - l6.toInt < (n : Int) → Tot (fr_rawAt_14_b71 n S l2 l4 l5 l6) Q := by
  have z0 : (25 : Int32).toInt = 25 := by decide
  have z1 : (0 : Int32).toInt = 0 := by decide
  have z2 : (Int32.ofInt (1) : Int32).toInt = 1 := by decide
  have z3 : (1 : Int32).toInt = 1 := by decide
  have p_5 := pl_5 hP
  have j_l2 := i_any l2
  have j_l4 := i_any l4
  intro n
  induction n with
  | zero =>
    intro l5 l6 g_l6 hm
    exfalso
    omega
  | succ n ih =>
    intro l5 l6 g_l6 hm
    unfold fr_rawAt_14_b71
    refine tot_let (fun v_34 e_v_34 => ?_)
    have q_v_34 := ic_p h_S e_v_34
    refine tot_if (fun c_62 => ?_) (fun c_62 => ?_)
    · replace c_62 := i_le c_62
      exact hx0 l5 
    · replace c_62 := i_nle c_62
      refine tot_let (fun v_38 e_v_38 => ?_)
      have q_v_38 := i_add e_v_38 (by omega) (by omega)
      refine tot_oif (i_inb (by omega) (by omega)) ?_
      refine tot_let (fun v_39 e_v_39 => ?_)
      have r_v_39 := nR_25 (ic_14 h_S e_v_39) (by omega) (by omega)
      refine tot_if (fun c_63 => ?_) (fun c_63 => ?_)
      · replace c_63 := i_eq c_63
        unfold fr_rawAt_14_b127
        refine tot_let (fun v_64 e_v_64 => ?_)
        have r_v_64 := i_any v_64
        refine tot_let (fun v_65 e_v_65 => ?_)
        have q_v_65 := i_add e_v_65 (by omega) (by omega)
        exact ih v_64 v_65 (by omega) (by omega)
      · replace c_63 := i_ne c_63
        refine tot_bindp (R := fun r_40 : Int32 => (-3988 ≤ r_40.toInt ∧ r_40.toInt ≤ 3988)) (sf_sourcePlace_14 hP S l6 0 l4 h_S (by omega) (by omega) (by omega)) (fun r_40 d_r_40 => ?_)
        replace d_r_40 : (-3988 ≤ r_40.toInt ∧ r_40.toInt ≤ 3988) := d_r_40
        refine tot_bindp (R := fun r_42 : Int32 => (-3988 ≤ r_42.toInt ∧ r_42.toInt ≤ 3988)) (sf_sourcePlace_14 hP S l6 1 l4 h_S (by omega) (by omega) (by omega)) (fun r_42 d_r_42 => ?_)
        replace d_r_42 : (-3988 ≤ r_42.toInt ∧ r_42.toInt ≤ 3988) := d_r_42
        refine tot_bindp (R := fun r_44 : Int32 => True) (sf_heardOf hP S l2 r_40 r_42 l6 l4 h_S (by omega) (by omega) (by omega) (by omega) (by omega) (by omega)) (fun r_44 d_r_44 => ?_)
        unfold fr_rawAt_14_b127
        refine tot_let (fun v_66 e_v_66 => ?_)
        have r_v_66 := i_any v_66
        refine tot_let (fun v_67 e_v_67 => ?_)
        have q_v_67 := i_add e_v_67 (by omega) (by omega)
        exact ih v_66 v_67 (by omega) (by omega)
set_option maxHeartbeats 4000000 in
set_option maxRecDepth 10000 in
theorem sf_rawAt_14 {P : Nat → Int32} (hP : PL P) (S : MS) (a1 : Int32) (a2 : Int32) (h_S : IC P S) (g0 : 0 ≤ a1.toInt ∧ a1.toInt ≤ 11) (g1 : 0 ≤ a2.toInt ∧ a2.toInt ≤ 199) : Tot (fr_rawAt_14 S a1 a2) (fun r => r.2 = S ∧ True) := by
  have z0 : (83 : Int32).toInt = 83 := by decide
  have z1 : (0 : Int32).toInt = 0 := by decide
  have z2 : ((-1) : Int32).toInt = -1 := by decide
  have z3 : (35 : Int32).toInt = 35 := by decide
  have z4 : (1 : Int32).toInt = 1 := by decide
  have p_5 := pl_5 hP
  have j_a1 := i_any a1
  have j_a2 := i_any a2
  unfold fr_rawAt_14
  refine tot_let (fun v_1 e_v_1 => ?_)
  have q_v_1 := i_add e_v_1 (by omega) (by omega)
  refine tot_oif (i_inb (by omega) (by omega)) ?_
  refine tot_let (fun v_2 e_v_2 => ?_)
  have q_v_2 := ic_p h_S e_v_2
  have r_v_2 := pr_83 hP v_1 (by omega) (by omega)
  refine tot_let (fun v_3 e_v_3 => ?_)
  have q_v_3 := i_sub e_v_3 (by omega) (by omega)
  refine tot_if (fun c_16 => ?_) (fun c_16 => ?_)
  · replace c_16 := i_le c_16
    refine tot_let (fun v_4 e_v_4 => ?_)
    have q_v_4 := i_eq e_v_4
    have r_v_4 := ic_21 h_S
    refine tot_if (fun c_17 => ?_) (fun c_17 => ?_)
    · replace c_17 := i_eq c_17
      refine lf_rawAt_14_b71 hP S a1 v_3 h_S (by omega) (by omega) ?_ 16384 0 0 (by omega) (by omega)
      · intro l_68
        have j_l_68 := i_any l_68
        refine tot_let (fun v__69 e_v__69 => ?_)
        have q_v__69 := i_add e_v__69 (by omega) (by omega)
        refine tot_oif (i_inb (by omega) (by omega)) ?_
        refine tot_let (fun v__70 e_v__70 => ?_)
        have q_v__70 := ic_p h_S e_v__70
        have r_v__70 := pr_35 hP v__69 (by omega) (by omega)
        refine tot_let (fun v__71 e_v__71 => ?_)
        have r_v__71 := i_any v__71
        exact tot_some ⟨rfl, trivial⟩
    · replace c_17 := i_ne c_17
      refine tot_let (fun v_5 e_v_5 => ?_)
      have q_v_5 := i_add e_v_5 (by omega) (by omega)
      refine tot_oif (i_inb (by omega) (by omega)) ?_
      refine tot_let (fun v_6 e_v_6 => ?_)
      have q_v_6 := ic_p h_S e_v_6
      have r_v_6 := pr_35 hP v_5 (by omega) (by omega)
      refine tot_let (fun v_7 e_v_7 => ?_)
      have q_v_7 := i_eq e_v_7
      have r_v_7 := ic_21 h_S
      refine tot_bindp (R := fun r_8 : Int32 => (-999 ≤ r_8.toInt ∧ r_8.toInt ≤ 15156)) (sf_centre hP S v_7 0 h_S (by omega) (by omega)) (fun r_8 d_r_8 => ?_)
      replace d_r_8 : (-999 ≤ r_8.toInt ∧ r_8.toInt ≤ 15156) := d_r_8
      refine tot_let (fun v_10 e_v_10 => ?_)
      have q_v_10 := i_eq e_v_10
      have r_v_10 := ic_21 h_S
      refine tot_bindp (R := fun r_11 : Int32 => (-999 ≤ r_11.toInt ∧ r_11.toInt ≤ 15156)) (sf_centre hP S v_10 1 h_S (by omega) (by omega)) (fun r_11 d_r_11 => ?_)
      replace d_r_11 : (-999 ≤ r_11.toInt ∧ r_11.toInt ≤ 15156) := d_r_11
      refine tot_bindp (R := fun r_13 : Int32 => True) (sf_heardOf hP S a1 r_8 r_11 0 v_3 h_S (by omega) (by omega) (by omega) (by omega) (by omega) (by omega)) (fun r_13 d_r_13 => ?_)
      refine tot_let (fun v_15 e_v_15 => ?_)
      have r_v_15 := i_any v_15
      exact tot_some ⟨rfl, trivial⟩
  · replace c_16 := i_nle c_16
    exact tot_some ⟨rfl, trivial⟩
set_option maxHeartbeats 4000000 in
set_option maxRecDepth 10000 in
theorem lf_records_14_b18 {P : Nat → Int32} (hP : PL P) {Q : MS → Prop} {k6 : MS → Int32 → Option (MS)} (l2 : Int32) (g0 : 0 ≤ l2.toInt ∧ l2.toInt ≤ 11) (hx0 : ∀ (S : MS), (IC P S) → Tot (fr_records_14_b49 k6 16384 S l2 0) Q) : ∀ (n : Nat) (S : MS) (l3 : Int32), (IC P S) → (0 ≤ l3.toInt ∧ l3.toInt ≤ 200) → 200 - l3.toInt < (n : Int) → Tot (fr_records_14_b18 k6 n S l2 l3) Q := by
  have z0 : (Int32.ofInt (1) : Int32).toInt = 1 := by decide
  have p_2 := pl_2 hP
  have j_l2 := i_any l2
  intro n
  induction n with
  | zero =>
    intro S l3 h_S g_l3 hm
    exfalso
    omega
  | succ n ih =>
    intro S l3 h_S g_l3 hm
    unfold fr_records_14_b18
    refine tot_let (fun v_75 e_v_75 => ?_)
    have q_v_75 := ic_p h_S e_v_75
    refine tot_if (fun c_98 => ?_) (fun c_98 => ?_)
    · replace c_98 := i_le c_98
      exact hx0 S h_S
    · replace c_98 := i_nle c_98
      refine tot_bindp (R := fun r_76 : Int32 => True) (sf_rawAt_14 hP S l2 l3 h_S (by omega) (by omega)) (fun r_76 d_r_76 => ?_)
      refine tot_oif (i_inb (by omega) (by omega)) ?_
      refine tot_let (fun S_78 e_S_78 => ?_)
      have h_S_78 : IC P S_78 := by rw [e_S_78]; exact ic_mf23 h_S _
      refine tot_let (fun v_79 e_v_79 => ?_)
      have q_v_79 := i_add e_v_79 (by omega) (by omega)
      exact ih S_78 v_79 h_S_78 (by omega) (by omega)
set_option maxHeartbeats 4000000 in
set_option maxRecDepth 10000 in
theorem lf_records_14_b49 {P : Nat → Int32} (hP : PL P) {Q : MS → Prop} {k6 : MS → Int32 → Option (MS)} (l2 : Int32) (g0 : 0 ≤ l2.toInt ∧ l2.toInt ≤ 11) (hx0 : ∀ (S : MS), (IC P S) → Tot (elet (l2 + Int32.ofInt (1)) fun v_101 => k6 S v_101) Q) : ∀ (n : Nat) (S : MS) (l3 : Int32), (IC P S) → (0 ≤ l3.toInt ∧ l3.toInt ≤ 200) → 200 - l3.toInt < (n : Int) → Tot (fr_records_14_b49 k6 n S l2 l3) Q := by
  have z0 : (200 : Int32).toInt = 200 := by decide
  have z1 : (55 : Int32).toInt = 55 := by decide
  have z2 : (Int32.ofInt (1) : Int32).toInt = 1 := by decide
  have p_2 := pl_2 hP
  have j_l2 := i_any l2
  intro n
  induction n with
  | zero =>
    intro S l3 h_S g_l3 hm
    exfalso
    omega
  | succ n ih =>
    intro S l3 h_S g_l3 hm
    unfold fr_records_14_b49
    refine tot_let (fun v_100 e_v_100 => ?_)
    have q_v_100 := ic_p h_S e_v_100
    refine tot_if (fun c_122 => ?_) (fun c_122 => ?_)
    · replace c_122 := i_le c_122
      exact hx0 S h_S
    · replace c_122 := i_nle c_122
      refine tot_let (fun v_102 e_v_102 => ?_)
      have q_v_102 := i_mulk e_v_102 z0 (by omega) (by omega)
      refine tot_let (fun v_103 e_v_103 => ?_)
      have q_v_103 := i_add e_v_103 (by omega) (by omega)
      refine tot_let (fun v_104 e_v_104 => ?_)
      have q_v_104 := i_add e_v_104 (by omega) (by omega)
      refine tot_bindp (R := fun r_105 : Int32 => True) (sf_filtered hP S l3 h_S (by omega)) (fun r_105 d_r_105 => ?_)
      refine tot_bindp (R := fun r_107 : Int32 => (-9999 ≤ r_107.toInt ∧ r_107.toInt ≤ 9999)) (sf_bounded hP S r_105 h_S ) (fun r_107 d_r_107 => ?_)
      replace d_r_107 : (-9999 ≤ r_107.toInt ∧ r_107.toInt ≤ 9999) := d_r_107
      refine tot_oif (i_inb (by omega) (by omega)) ?_
      refine tot_let (fun S_109 e_S_109 => ?_)
      have h_S_109 : IC P S_109 := by rw [e_S_109]; exact ic_mf14 h_S (nR_w (by omega) (by omega))
      refine tot_let (fun v_110 e_v_110 => ?_)
      have q_v_110 := i_add e_v_110 (by omega) (by omega)
      exact ih S_109 v_110 h_S_109 (by omega) (by omega)
set_option maxHeartbeats 4000000 in
set_option maxRecDepth 10000 in
theorem lf_records_14_b6 {P : Nat → Int32} (hP : PL P) {Q : MS → Prop} (hx0 : ∀ (S : MS), (IC P S) → Tot (some (S)) Q) : ∀ (n : Nat) (S : MS) (l2 : Int32), (IC P S) → (0 ≤ l2.toInt ∧ l2.toInt ≤ 12) → 12 - l2.toInt < (n : Int) → Tot (fr_records_14_b6 n S l2) Q := by
  have z0 : (0 : Int32).toInt = 0 := by decide
  have z1 : (Int32.ofInt (1) : Int32).toInt = 1 := by decide
  have p_4 := pl_4 hP
  intro n
  induction n with
  | zero =>
    intro S l2 h_S g_l2 hm
    exfalso
    omega
  | succ n ih =>
    intro S l2 h_S g_l2 hm
    unfold fr_records_14_b6
    refine tot_let (fun v_52 e_v_52 => ?_)
    have q_v_52 := ic_p h_S e_v_52
    refine tot_if (fun c_74 => ?_) (fun c_74 => ?_)
    · replace c_74 := i_le c_74
      exact hx0 S h_S
    · replace c_74 := i_nle c_74
      refine lf_records_14_b18 hP l2 (by omega) ?_ 16384 S 0 h_S (by omega) (by omega)
      · intro S_99 h_S_99
        refine lf_records_14_b49 hP l2 (by omega) ?_ 16384 S_99 0 h_S_99 (by omega) (by omega)
        · intro S_123 h_S_123
          refine tot_let (fun v__124 e_v__124 => ?_)
          have q_v__124 := i_add e_v__124 (by omega) (by omega)
          exact ih S_123 v__124 h_S_123 (by omega) (by omega)
set_option maxHeartbeats 4000000 in
set_option maxRecDepth 10000 in
theorem sf_records_14 {P : Nat → Int32} (hP : PL P) (S : MS) (h_S : IC P S) : Tot (fr_records_14 S) (fun S1 => IC P S1 ∧ True) := by
  have z0 : (0 : Int32).toInt = 0 := by decide
  unfold fr_records_14
  refine tot_let (fun S_1 e_S_1 => ?_)
  have h_S_1 : IC P S_1 := by rw [e_S_1]; exact ic_mf14 h_S (nR_0 _)
  refine lf_records_14_b6 hP  ?_ 16384 S_1 0 h_S_1 (by omega) (by omega)
  · intro S_125 h_S_125
    exact tot_some ⟨h_S_125, trivial⟩
set_option maxHeartbeats 4000000 in
set_option maxRecDepth 10000 in
theorem sf_recordsPoint_14 {P : Nat → Int32} (hP : PL P) (S : MS) (a1 : Int32) (a2 : Int32) (h_S : IC P S) (g0 : 0 ≤ a1.toInt ∧ a1.toInt ≤ 143) (g1 : 2 ≤ a2.toInt ∧ a2.toInt ≤ 99) : Tot (fr_recordsPoint_14 S a1 a2) (fun S1 => IC P S1 ∧ True) := by
  have z0 : ((-1) : Int32).toInt = -1 := by decide
  have j_a1 := i_any a1
  have j_a2 := i_any a2
  unfold fr_recordsPoint_14
  refine tot_let (fun S_1 e_S_1 => ?_)
  refine tot_let (fun S_2 e_S_2 => ?_)
  have h_S_2 : IC P S_2 := by rw [e_S_2, e_S_1]; exact ic_mi21_22 h_S (by omega)
  refine tot_bind (sf_records_14 hP S_2 h_S_2 ) (fun S_3 d_S_3 => ?_)
  have h_S_3 : IC P S_3 := d_S_3.1
  refine tot_let (fun S_4 e_S_4 => ?_)
  have h_S_4 : IC P S_4 := by rw [e_S_4]; exact ic_mi21 h_S_3 (by omega)
  exact tot_some ⟨h_S_4, trivial⟩
set_option maxHeartbeats 4000000 in
set_option maxRecDepth 10000 in
theorem sf_hears_14 {P : Nat → Int32} (hP : PL P) (S : MS) (a1 : Int32) (h_S : IC P S) (g0 : 0 ≤ a1.toInt ∧ a1.toInt ≤ 11) : Tot (fr_hears_14 S a1) (fun r => r.2 = S ∧ (0 ≤ r.1.toInt ∧ r.1.toInt ≤ 1)) := by
  have z0 : (1 : Int32).toInt = 1 := by decide
  have z1 : (0 : Int32).toInt = 0 := by decide
  have j_a1 := i_any a1
  unfold fr_hears_14
  refine tot_let (fun v_1 e_v_1 => ?_)
  have q_v_1 := i_add e_v_1 (by omega) (by omega)
  refine tot_oif (i_inb (by omega) (by omega)) ?_
  refine tot_let (fun v_2 e_v_2 => ?_)
  have r_v_2 := nR_1 (ic_14 h_S e_v_2) (by omega) (by omega)
  refine tot_if (fun c_3 => ?_) (fun c_3 => ?_)
  · replace c_3 := i_eq c_3
    unfold fr_hears_14_b13
    refine tot_oif (i_b01 (by omega)) ?_
    exact tot_some ⟨rfl, (show (0 ≤ (1 : Int32).toInt ∧ (1 : Int32).toInt ≤ 1) from by omega)⟩
  · replace c_3 := i_ne c_3
    unfold fr_hears_14_b13
    refine tot_oif (i_b01 (by omega)) ?_
    exact tot_some ⟨rfl, (show (0 ≤ (0 : Int32).toInt ∧ (0 : Int32).toInt ≤ 1) from by omega)⟩
set_option maxHeartbeats 4000000 in
set_option maxRecDepth 10000 in
theorem lf_windowOf_14_b4 {P : Nat → Int32} (hP : PL P) {Q : Int32 × MS → Prop} (S : MS) (h_S : IC P S) (hx0 : ∀ (l2 : Int32), (0 ≤ l2.toInt ∧ l2.toInt ≤ 65535) → Tot (elet (S.2.1 10 2) fun v_12 => elet (v_12 - l2) fun v_13 => elet (if 0 < v_13 then v_13 else 0) fun v_14 => some (v_14, S)) Q) : ∀ (n : Nat) (l2 : Int32) (l3 : Int32), (0 ≤ l2.toInt ∧ l2.toInt ≤ 65535) → (0 ≤ l3.toInt ∧ l3.toInt ≤ 12) → 12 - l3.toInt < (n : Int) → Tot (fr_windowOf_14_b4 n S l2 l3) Q := by
  have z0 : (0 : Int32).toInt = 0 := by decide
  have z1 : (Int32.ofInt (1) : Int32).toInt = 1 := by decide
  have p_4 := pl_4 hP
  intro n
  induction n with
  | zero =>
    intro l2 l3 g_l2 g_l3 hm
    exfalso
    omega
  | succ n ih =>
    intro l2 l3 g_l2 g_l3 hm
    unfold fr_windowOf_14_b4
    refine tot_let (fun v_11 e_v_11 => ?_)
    have q_v_11 := ic_p h_S e_v_11
    refine tot_if (fun c_29 => ?_) (fun c_29 => ?_)
    · replace c_29 := i_le c_29
      exact hx0 l2 (by omega)
    · replace c_29 := i_nle c_29
      refine tot_bindp (R := fun r_15 : Int32 => (0 ≤ r_15.toInt ∧ r_15.toInt ≤ 1)) (sf_hears_14 hP S l3 h_S (by omega)) (fun r_15 d_r_15 => ?_)
      replace d_r_15 : (0 ≤ r_15.toInt ∧ r_15.toInt ≤ 1) := d_r_15
      refine tot_if (fun c_30 => ?_) (fun c_30 => ?_)
      · replace c_30 := i_eq c_30
        unfold fr_windowOf_14_b37
        refine tot_let (fun v_31 e_v_31 => ?_)
        have q_v_31 := i_add e_v_31 (by omega) (by omega)
        exact ih l2 v_31 (by omega) (by omega) (by omega)
      · replace c_30 := i_ne c_30
        refine tot_oif (i_inb (by omega) (by omega)) ?_
        refine tot_let (fun v_17 e_v_17 => ?_)
        have r_v_17 := ic_24 h_S e_v_17
        refine tot_let (fun v_18 e_v_18 => ?_)
        have q_v_18 := i_ilt e_v_18
        unfold fr_windowOf_14_b37
        refine tot_let (fun v_32 e_v_32 => ?_)
        have q_v_32 := i_add e_v_32 (by omega) (by omega)
        exact ih v_18 v_32 (by omega) (by omega) (by omega)
set_option maxHeartbeats 4000000 in
set_option maxRecDepth 10000 in
theorem sf_windowOf_14 {P : Nat → Int32} (hP : PL P) (S : MS) (h_S : IC P S) : Tot (fr_windowOf_14 S) (fun r => r.2 = S ∧ (0 ≤ r.1.toInt ∧ r.1.toInt ≤ 200)) := by
  have z0 : (0 : Int32).toInt = 0 := by decide
  have p_2 := pl_2 hP
  unfold fr_windowOf_14
  refine lf_windowOf_14_b4 hP S h_S ?_ 16384 0 0 (by omega) (by omega) (by omega)
  · intro l_33 g_l_33
    refine tot_let (fun v__34 e_v__34 => ?_)
    have q_v__34 := ic_p h_S e_v__34
    refine tot_let (fun v__35 e_v__35 => ?_)
    have q_v__35 := i_sub e_v__35 (by omega) (by omega)
    refine tot_let (fun v__36 e_v__36 => ?_)
    have q_v__36 := i_ilt e_v__36
    exact tot_some ⟨rfl, (show (0 ≤ v__36.toInt ∧ v__36.toInt ≤ 200) from by omega)⟩
set_option maxHeartbeats 4000000 in
set_option maxRecDepth 10000 in
theorem lf_beamAt_14_b5 {P : Nat → Int32} (hP : PL P) {Q : Int32 × MS → Prop} (S : MS) (l2 : Int32) (h_S : IC P S) (g0 : 0 ≤ l2.toInt ∧ l2.toInt ≤ 199) (hx0 : ∀ (l3 : Int32), Tot (some (l3, S)) Q) : ∀ (n : Nat) (l3 : Int32) (l4 : Int32), (0 ≤ l4.toInt ∧ l4.toInt ≤ 12) → 12 - l4.toInt < (n : Int) → Tot (fr_beamAt_14_b5 n S l2 l3 l4) Q := by
  have z0 : (0 : Int32).toInt = 0 := by decide
  have z1 : (Int32.ofInt (1) : Int32).toInt = 1 := by decide
  have z2 : (13 : Int32).toInt = 13 := by decide
  have z3 : (200 : Int32).toInt = 200 := by decide
  have z4 : (55 : Int32).toInt = 55 := by decide
  have p_2 := pl_2 hP
  have p_4 := pl_4 hP
  have j_l2 := i_any l2
  intro n
  induction n with
  | zero =>
    intro l3 l4 g_l4 hm
    exfalso
    omega
  | succ n ih =>
    intro l3 l4 g_l4 hm
    unfold fr_beamAt_14_b5
    refine tot_let (fun v_22 e_v_22 => ?_)
    have q_v_22 := ic_p h_S e_v_22
    refine tot_if (fun c_58 => ?_) (fun c_58 => ?_)
    · replace c_58 := i_le c_58
      exact hx0 l3 
    · replace c_58 := i_nle c_58
      refine tot_bindp (R := fun r_23 : Int32 => (0 ≤ r_23.toInt ∧ r_23.toInt ≤ 1)) (sf_hears_14 hP S l4 h_S (by omega)) (fun r_23 d_r_23 => ?_)
      replace d_r_23 : (0 ≤ r_23.toInt ∧ r_23.toInt ≤ 1) := d_r_23
      refine tot_if (fun c_59 => ?_) (fun c_59 => ?_)
      · replace c_59 := i_eq c_59
        unfold fr_beamAt_14_b77
        unfold fr_beamAt_14_b78
        refine tot_let (fun v_60 e_v_60 => ?_)
        have r_v_60 := i_any v_60
        refine tot_let (fun v_61 e_v_61 => ?_)
        have q_v_61 := i_add e_v_61 (by omega) (by omega)
        exact ih v_60 v_61 (by omega) (by omega)
      · replace c_59 := i_ne c_59
        refine tot_oif (i_inb (by omega) (by omega)) ?_
        refine tot_let (fun v_25 e_v_25 => ?_)
        have r_v_25 := ic_24 h_S e_v_25
        refine tot_let (fun v_26 e_v_26 => ?_)
        have q_v_26 := i_add e_v_26 (by omega) (by omega)
        refine tot_let (fun v_27 e_v_27 => ?_)
        have q_v_27 := ic_p h_S e_v_27
        refine tot_if (fun c_62 => ?_) (fun c_62 => ?_)
        · replace c_62 := i_le c_62
          unfold fr_beamAt_14_b77
          unfold fr_beamAt_14_b78
          refine tot_let (fun v_63 e_v_63 => ?_)
          have r_v_63 := i_any v_63
          refine tot_let (fun v_64 e_v_64 => ?_)
          have q_v_64 := i_add e_v_64 (by omega) (by omega)
          exact ih v_63 v_64 (by omega) (by omega)
        · replace c_62 := i_nle c_62
          refine tot_let (fun v_28 e_v_28 => ?_)
          have q_v_28 := i_add e_v_28 (by omega) (by omega)
          refine tot_oif (i_inb (by omega) (by omega)) ?_
          refine tot_let (fun v_29 e_v_29 => ?_)
          have r_v_29 := nR_13 (ic_14 h_S e_v_29) (by omega) (by omega)
          refine tot_let (fun v_30 e_v_30 => ?_)
          have q_v_30 := i_mulk e_v_30 z3 (by omega) (by omega)
          refine tot_let (fun v_31 e_v_31 => ?_)
          have q_v_31 := i_add e_v_31 (by omega) (by omega)
          refine tot_let (fun v_32 e_v_32 => ?_)
          have q_v_32 := i_add e_v_32 (by omega) (by omega)
          refine tot_oif (i_inb (by omega) (by omega)) ?_
          refine tot_let (fun v_33 e_v_33 => ?_)
          have r_v_33 := ic_24 h_S e_v_33
          have u_v_33 : v_33.toInt = v_25.toInt := by rw [e_v_33, e_v_25]
          refine tot_let (fun v_34 e_v_34 => ?_)
          have q_v_34 := i_add e_v_34 (by omega) (by omega)
          refine tot_oif (i_inb (by omega) (by omega)) ?_
          refine tot_let (fun v_35 e_v_35 => ?_)
          have r_v_35 := i_any v_35
          refine tot_let (fun v_36 e_v_36 => ?_)
          have r_v_36 := i_any v_36
          unfold fr_beamAt_14_b78
          refine tot_let (fun v_65 e_v_65 => ?_)
          have r_v_65 := i_any v_65
          refine tot_let (fun v_66 e_v_66 => ?_)
          have q_v_66 := i_add e_v_66 (by omega) (by omega)
          exact ih v_65 v_66 (by omega) (by omega)
set_option maxHeartbeats 4000000 in
set_option maxRecDepth 10000 in
theorem sf_beamAt_14 {P : Nat → Int32} (hP : PL P) (S : MS) (a1 : Int32) (h_S : IC P S) (g0 : 0 ≤ a1.toInt ∧ a1.toInt ≤ 199) : Tot (fr_beamAt_14 S a1) (fun r => r.2 = S ∧ True) := by
  have z0 : (0 : Int32).toInt = 0 := by decide
  have j_a1 := i_any a1
  unfold fr_beamAt_14
  refine lf_beamAt_14_b5 hP S a1 h_S (by omega) ?_ 16384 0 0 (by omega) (by omega)
  · intro l_67
    have j_l_67 := i_any l_67
    exact tot_some ⟨rfl, trivial⟩
set_option maxHeartbeats 4000000 in
set_option maxRecDepth 10000 in
theorem lf_energy_14_b6 {P : Nat → Int32} (hP : PL P) {Q : Int64 × MS → Prop} (S : MS) (l3 : Int32) (h_S : IC P S) (g0 : 1 ≤ l3.toInt ∧ l3.toInt ≤ 200) (hx0 : ∀ (l4 : Int64), Tot (some (l4, S)) Q) : ∀ (n : Nat) (l4 : Int64) (l6 : Int32), (0 ≤ l6.toInt ∧ l6.toInt ≤ 200) → 200 - l6.toInt < (n : Int) → Tot (fr_energy_14_b6 n S l3 l4 l6) Q := by
  have z0 : (Int32.ofInt (1) : Int32).toInt = 1 := by decide
  have j_l3 := i_any l3
  intro n
  induction n with
  | zero =>
    intro l4 l6 g_l6 hm
    exfalso
    omega
  | succ n ih =>
    intro l4 l6 g_l6 hm
    unfold fr_energy_14_b6
    refine tot_if (fun c_19 => ?_) (fun c_19 => ?_)
    · replace c_19 := i_le c_19
      exact hx0 l4 
    · replace c_19 := i_nle c_19
      refine tot_bindp (R := fun r_7 : Int32 => True) (sf_beamAt_14 hP S l6 h_S (by omega)) (fun r_7 d_r_7 => ?_)
      refine tot_let (fun v_9 e_v_9 => ?_)
      refine tot_let (fun v_10 e_v_10 => ?_)
      refine tot_let (fun v_11 e_v_11 => ?_)
      refine tot_let (fun v_12 e_v_12 => ?_)
      have q_v_12 := i_add e_v_12 (by omega) (by omega)
      exact ih v_11 v_12 (by omega) (by omega)
set_option maxHeartbeats 4000000 in
set_option maxRecDepth 10000 in
theorem sf_energy_14 {P : Nat → Int32} (hP : PL P) (S : MS) (a1 : Int32) (a2 : Int32) (h_S : IC P S) (g0 : 0 ≤ a1.toInt ∧ a1.toInt ≤ 0) (g1 : 1 ≤ a2.toInt ∧ a2.toInt ≤ 200) : Tot (fr_energy_14 S a1 a2) (fun r => r.2 = S ∧ True) := by
  have j_a1 := i_any a1
  have j_a2 := i_any a2
  unfold fr_energy_14
  refine lf_energy_14_b6 hP S a2 h_S (by omega) ?_ 16384 (0 : Int64) a1 (by omega) (by omega)
  · intro l_20
    exact tot_some ⟨rfl, trivial⟩
set_option maxHeartbeats 4000000 in
set_option maxRecDepth 10000 in
theorem sf_powerHere_14 {P : Nat → Int32} (hP : PL P) (S : MS) (h_S : IC P S) : Tot (fr_powerHere_14 S) (fun r => r.2 = S ∧ True) := by
  have z0 : (0 : Int32).toInt = 0 := by decide
  unfold fr_powerHere_14
  refine tot_bindp (R := fun r_1 : Int32 => (0 ≤ r_1.toInt ∧ r_1.toInt ≤ 200)) (sf_windowOf_14 hP S h_S ) (fun r_1 d_r_1 => ?_)
  replace d_r_1 : (0 ≤ r_1.toInt ∧ r_1.toInt ≤ 200) := d_r_1
  refine tot_if (fun c_7 => ?_) (fun c_7 => ?_)
  · replace c_7 := i_eq c_7
    unfold fr_powerHere_14_b24
    exact tot_some ⟨rfl, trivial⟩
  · replace c_7 := i_ne c_7
    refine tot_bindp (R := fun r_3 : Int64 => True) (sf_energy_14 hP S 0 r_1 h_S (by omega) (by omega)) (fun r_3 d_r_3 => ?_)
    refine tot_let (fun v_5 e_v_5 => ?_)
    refine tot_oif (by rw [e_v_5]; exact i_nz64 (by omega)) ?_
    refine tot_let (fun v_6 e_v_6 => ?_)
    unfold fr_powerHere_14_b24
    exact tot_some ⟨rfl, trivial⟩
set_option maxHeartbeats 4000000 in
set_option maxRecDepth 10000 in
theorem sf_powerOf_14 {P : Nat → Int32} (hP : PL P) (S : MS) (a1 : Int32) (h_S : IC P S) (g0 : 0 ≤ a1.toInt ∧ a1.toInt ≤ 143) : Tot (fr_powerOf_14 S a1) (fun r => IC P r.2 ∧ True) := by
  have j_a1 := i_any a1
  unfold fr_powerOf_14
  refine tot_bind (sf_laysCell hP S a1 h_S (by omega)) (fun S_1 d_S_1 => ?_)
  have h_S_1 : IC P S_1 := d_S_1.1
  refine tot_bindp (R := fun r_2 : Int64 => True) (sf_powerHere_14 hP S_1 h_S_1 ) (fun r_2 d_r_2 => ?_)
  exact tot_some ⟨h_S_1, trivial⟩
set_option maxHeartbeats 4000000 in
set_option maxRecDepth 10000 in
theorem lf_laysPowers_14_b2 {P : Nat → Int32} (hP : PL P) {Q : MS → Prop} (hx0 : ∀ (S : MS), (IC P S) → Tot (some (S)) Q) : ∀ (n : Nat) (S : MS) (l2 : Int32), (IC P S) → (0 ≤ l2.toInt ∧ l2.toInt ≤ 144) → 144 - l2.toInt < (n : Int) → Tot (fr_laysPowers_14_b2 n S l2) Q := by
  have z0 : (Int32.ofInt (1) : Int32).toInt = 1 := by decide
  have p_9 := pl_9 hP
  have p_10 := pl_10 hP
  have p_cells := pl_cells hP
  intro n
  induction n with
  | zero =>
    intro S l2 h_S g_l2 hm
    exfalso
    omega
  | succ n ih =>
    intro S l2 h_S g_l2 hm
    unfold fr_laysPowers_14_b2
    refine tot_bindp (R := fun r_7 : Int32 => ((1 ≤ r_7.toInt ∧ r_7.toInt ≤ 144) ∧ r_7.toInt = (P 9).toInt * (P 10).toInt)) (sf_cellCount hP S h_S ) (fun r_7 d_r_7 => ?_)
    replace d_r_7 : ((1 ≤ r_7.toInt ∧ r_7.toInt ≤ 144) ∧ r_7.toInt = (P 9).toInt * (P 10).toInt) := d_r_7
    refine tot_if (fun c_19 => ?_) (fun c_19 => ?_)
    · replace c_19 := i_le c_19
      exact hx0 S h_S
    · replace c_19 := i_nle c_19
      refine tot_bind2 (sf_powerOf_14 hP S l2 h_S (by omega)) (fun r_9 S_10 d_r_9 => ?_)
      have h_S_10 : IC P S_10 := d_r_9.1
      refine tot_oif (i_inb (by omega) (by omega)) ?_
      refine tot_let (fun S_11 e_S_11 => ?_)
      have h_S_11 : IC P S_11 := by rw [e_S_11]; exact ic_mg25 h_S_10 _
      refine tot_let (fun v_12 e_v_12 => ?_)
      have q_v_12 := i_add e_v_12 (by omega) (by omega)
      exact ih S_11 v_12 h_S_11 (by omega) (by omega)
set_option maxHeartbeats 4000000 in
set_option maxRecDepth 10000 in
theorem sf_laysPowers_14 {P : Nat → Int32} (hP : PL P) (S : MS) (h_S : IC P S) : Tot (fr_laysPowers_14 S) (fun S1 => IC P S1 ∧ True) := by
  have z0 : (0 : Int32).toInt = 0 := by decide
  unfold fr_laysPowers_14
  refine lf_laysPowers_14_b2 hP  ?_ 16384 S 0 h_S (by omega) (by omega)
  · intro S_20 h_S_20
    exact tot_some ⟨h_S_20, trivial⟩
set_option maxHeartbeats 4000000 in
set_option maxRecDepth 10000 in
theorem lf_bestIn_14_b9 {P : Nat → Int32} (hP : PL P) {Q : Int32 × MS → Prop} (hx0 : ∀ (S : MS) (l2 : Int32), (IC P S) → (0 ≤ l2.toInt ∧ l2.toInt ≤ 143) → Tot (some (l2, S)) Q) : ∀ (n : Nat) (S : MS) (l2 : Int32) (l3 : Int32), (IC P S) → (0 ≤ l2.toInt ∧ l2.toInt ≤ 143) → (1 ≤ l3.toInt ∧ l3.toInt ≤ 144) → 144 - l3.toInt < (n : Int) → Tot (fr_bestIn_14_b9 n S l2 l3) Q := by
  have z0 : (0 : Int32).toInt = 0 := by decide
  have z1 : (Int32.ofInt (1) : Int32).toInt = 1 := by decide
  have p_9 := pl_9 hP
  have p_10 := pl_10 hP
  have p_cells := pl_cells hP
  intro n
  induction n with
  | zero =>
    intro S l2 l3 h_S g_l2 g_l3 hm
    exfalso
    omega
  | succ n ih =>
    intro S l2 l3 h_S g_l2 g_l3 hm
    unfold fr_bestIn_14_b9
    refine tot_bindp (R := fun r_9 : Int32 => ((1 ≤ r_9.toInt ∧ r_9.toInt ≤ 144) ∧ r_9.toInt = (P 9).toInt * (P 10).toInt)) (sf_cellCount hP S h_S ) (fun r_9 d_r_9 => ?_)
    replace d_r_9 : ((1 ≤ r_9.toInt ∧ r_9.toInt ≤ 144) ∧ r_9.toInt = (P 9).toInt * (P 10).toInt) := d_r_9
    refine tot_if (fun c_21 => ?_) (fun c_21 => ?_)
    · replace c_21 := i_le c_21
      exact hx0 S l2 h_S (by omega)
    · replace c_21 := i_nle c_21
      refine tot_oif (i_inb (by omega) (by omega)) ?_
      refine tot_let (fun v_11 e_v_11 => ?_)
      refine tot_oif (i_inb (by omega) (by omega)) ?_
      refine tot_let (fun v_12 e_v_12 => ?_)
      refine tot_let (fun v_13 e_v_13 => ?_)
      have r_v_13 := i_any v_13
      refine tot_if (fun c_22 => ?_) (fun c_22 => ?_)
      · replace c_22 := i_le c_22
        unfold fr_bestIn_14_b38
        refine tot_let (fun v_23 e_v_23 => ?_)
        have q_v_23 := i_add e_v_23 (by omega) (by omega)
        exact ih S l2 v_23 h_S (by omega) (by omega) (by omega)
      · replace c_22 := i_nle c_22
        unfold fr_bestIn_14_b38
        refine tot_let (fun v_24 e_v_24 => ?_)
        have q_v_24 := i_add e_v_24 (by omega) (by omega)
        exact ih S l3 v_24 h_S (by omega) (by omega) (by omega)
set_option maxHeartbeats 4000000 in
set_option maxRecDepth 10000 in
theorem sf_bestIn_14 {P : Nat → Int32} (hP : PL P) (S : MS) (h_S : IC P S) : Tot (fr_bestIn_14 S) (fun r => IC P r.2 ∧ (0 ≤ r.1.toInt ∧ r.1.toInt ≤ 143)) := by
  have z0 : (0 : Int32).toInt = 0 := by decide
  have z1 : (1 : Int32).toInt = 1 := by decide
  unfold fr_bestIn_14
  refine tot_bind (sf_laysPowers_14 hP S h_S ) (fun S_1 d_S_1 => ?_)
  have h_S_1 : IC P S_1 := d_S_1.1
  refine lf_bestIn_14_b9 hP  ?_ 16384 S_1 0 1 h_S_1 (by omega) (by omega) (by omega)
  · intro S_25 l_26 h_S_25 g_l_26
    exact tot_some ⟨h_S_25, (show (0 ≤ l_26.toInt ∧ l_26.toInt ≤ 143) from by omega)⟩
set_option maxHeartbeats 4000000 in
set_option maxRecDepth 10000 in
theorem sf_pointBest {P : Nat → Int32} (hP : PL P) (S : MS) (a0 : Int32) (a1 : Int32) (h_S : IC P S) : Tot (fr_pointBest S a0 a1) (fun r => IC P r.2 ∧ (0 ≤ r.1.toInt ∧ r.1.toInt ≤ 143)) := by
  have z0 : (0 : Int32).toInt = 0 := by decide
  have z1 : (3 : Int32).toInt = 3 := by decide
  have p_9 := pl_9 hP
  have p_10 := pl_10 hP
  have p_cells := pl_cells hP
  have j_a0 := i_any a0
  have j_a1 := i_any a1
  unfold fr_pointBest
  refine tot_bindp (R := fun r_1 : Int32 => (r_1.toInt = 0 ∨ r_1.toInt = 1 ∧ (0 ≤ a0.toInt ∧ a0.toInt ≤ 143) ∧ a0.toInt < (P 9).toInt * (P 10).toInt)) (sf_isCell hP S a0 h_S ) (fun r_1 d_r_1 => ?_)
  replace d_r_1 : (r_1.toInt = 0 ∨ r_1.toInt = 1 ∧ (0 ≤ a0.toInt ∧ a0.toInt ≤ 143) ∧ a0.toInt < (P 9).toInt * (P 10).toInt) := d_r_1
  refine tot_bind2 (sf_mayAsk hP S r_1 h_S (by omega)) (fun r_3 S_4 d_r_3 => ?_)
  have h_S_4 : IC P S_4 := d_r_3.1
  replace d_r_3 : (r_3.toInt = 0 ∨ r_3.toInt = 1 ∧ ¬ r_1.toInt = 0) := d_r_3.2
  refine tot_if (fun c_12 => ?_) (fun c_12 => ?_)
  · replace c_12 := i_eq c_12
    exact tot_some ⟨h_S_4, (show (0 ≤ (0 : Int32).toInt ∧ (0 : Int32).toInt ≤ 143) from by omega)⟩
  · replace c_12 := i_ne c_12
    refine tot_bind (sf_isPeriod hP a1  ) (fun r_5 d_r_5 => ?_)
    replace d_r_5 : (r_5.toInt = 0 ∨ r_5.toInt = 1 ∧ 2 ≤ a1.toInt ∧ a1.toInt ≤ 99) := d_r_5
    refine tot_if (fun c_13 => ?_) (fun c_13 => ?_)
    · replace c_13 := i_eq c_13
      refine tot_bind2 (sf_throwsAt hP S_4 3 h_S_4 ) (fun r_6 S_7 d_r_6 => ?_)
      have h_S_7 : IC P S_7 := d_r_6.1
      replace d_r_6 : (0 ≤ r_6.toInt ∧ r_6.toInt ≤ 0) := d_r_6.2
      exact tot_some ⟨h_S_7, (show (0 ≤ r_6.toInt ∧ r_6.toInt ≤ 143) from by omega)⟩
    · replace c_13 := i_ne c_13
      refine tot_bind (sf_copy_12_14 hP S_4 0 0 h_S_4 (by omega) (by omega)) (fun S_8 d_S_8 => ?_)
      have h_S_8 : IC P S_8 := d_S_8.1
      refine tot_bind (sf_recordsPoint_14 hP S_8 a0 a1 h_S_8 (by omega) (by omega)) (fun S_9 d_S_9 => ?_)
      have h_S_9 : IC P S_9 := d_S_9.1
      refine tot_bind2 (sf_bestIn_14 hP S_9 h_S_9 ) (fun r_10 S_11 d_r_10 => ?_)
      have h_S_11 : IC P S_11 := d_r_10.1
      replace d_r_10 : (0 ≤ r_10.toInt ∧ r_10.toInt ≤ 143) := d_r_10.2
      exact tot_some ⟨h_S_11, (show (0 ≤ r_10.toInt ∧ r_10.toInt ≤ 143) from by omega)⟩
set_option maxHeartbeats 4000000 in
set_option maxRecDepth 10000 in
theorem sf_pointPower {P : Nat → Int32} (hP : PL P) (S : MS) (a0 : Int32) (a1 : Int32) (a2 : Int32) (h_S : IC P S) : Tot (fr_pointPower S a0 a1 a2) (fun r => IC P r.2 ∧ True) := by
  have z0 : (0 : Int32).toInt = 0 := by decide
  have z1 : (1 : Int32).toInt = 1 := by decide
  have z2 : (3 : Int32).toInt = 3 := by decide
  have p_9 := pl_9 hP
  have p_10 := pl_10 hP
  have p_cells := pl_cells hP
  have j_a0 := i_any a0
  have j_a1 := i_any a1
  have j_a2 := i_any a2
  unfold fr_pointPower
  refine tot_bindp (R := fun r_1 : Int32 => (r_1.toInt = 0 ∨ r_1.toInt = 1 ∧ (0 ≤ a0.toInt ∧ a0.toInt ≤ 143) ∧ a0.toInt < (P 9).toInt * (P 10).toInt)) (sf_isCell hP S a0 h_S ) (fun r_1 d_r_1 => ?_)
  replace d_r_1 : (r_1.toInt = 0 ∨ r_1.toInt = 1 ∧ (0 ≤ a0.toInt ∧ a0.toInt ≤ 143) ∧ a0.toInt < (P 9).toInt * (P 10).toInt) := d_r_1
  refine tot_if (fun c_5 => ?_) (fun c_5 => ?_)
  · replace c_5 := i_eq c_5
    unfold fr_pointPower_b21
    unfold fr_pointPower_b22
    refine tot_bind2 (sf_mayAsk hP S 0 h_S (by omega)) (fun r_6 S_7 d_r_6 => ?_)
    have h_S_7 : IC P S_7 := d_r_6.1
    replace d_r_6 : (r_6.toInt = 0 ∨ r_6.toInt = 1 ∧ ¬ (0 : Int32).toInt = 0) := d_r_6.2
    refine tot_if (fun c_16 => ?_) (fun c_16 => ?_)
    · replace c_16 := i_eq c_16
      exact tot_some ⟨h_S_7, trivial⟩
    · replace c_16 := i_ne c_16
      exfalso
      omega
  · replace c_5 := i_ne c_5
    refine tot_bindp (R := fun r_3 : Int32 => (r_3.toInt = 0 ∨ r_3.toInt = 1 ∧ (0 ≤ a1.toInt ∧ a1.toInt ≤ 143) ∧ a1.toInt < (P 9).toInt * (P 10).toInt)) (sf_isCell hP S a1 h_S ) (fun r_3 d_r_3 => ?_)
    replace d_r_3 : (r_3.toInt = 0 ∨ r_3.toInt = 1 ∧ (0 ≤ a1.toInt ∧ a1.toInt ≤ 143) ∧ a1.toInt < (P 9).toInt * (P 10).toInt) := d_r_3
    refine tot_if (fun c_17 => ?_) (fun c_17 => ?_)
    · replace c_17 := i_eq c_17
      unfold fr_pointPower_b21
      unfold fr_pointPower_b22
      refine tot_bind2 (sf_mayAsk hP S 0 h_S (by omega)) (fun r_18 S_19 d_r_18 => ?_)
      have h_S_19 : IC P S_19 := d_r_18.1
      replace d_r_18 : (r_18.toInt = 0 ∨ r_18.toInt = 1 ∧ ¬ (0 : Int32).toInt = 0) := d_r_18.2
      refine tot_if (fun c_28 => ?_) (fun c_28 => ?_)
      · replace c_28 := i_eq c_28
        exact tot_some ⟨h_S_19, trivial⟩
      · replace c_28 := i_ne c_28
        exfalso
        omega
    · replace c_17 := i_ne c_17
      unfold fr_pointPower_b22
      refine tot_bind2 (sf_mayAsk hP S 1 h_S (by omega)) (fun r_29 S_30 d_r_29 => ?_)
      have h_S_30 : IC P S_30 := d_r_29.1
      replace d_r_29 : (r_29.toInt = 0 ∨ r_29.toInt = 1 ∧ ¬ (1 : Int32).toInt = 0) := d_r_29.2
      refine tot_if (fun c_39 => ?_) (fun c_39 => ?_)
      · replace c_39 := i_eq c_39
        exact tot_some ⟨h_S_30, trivial⟩
      · replace c_39 := i_ne c_39
        refine tot_bind (sf_isPeriod hP a2  ) (fun r_31 d_r_31 => ?_)
        replace d_r_31 : (r_31.toInt = 0 ∨ r_31.toInt = 1 ∧ 2 ≤ a2.toInt ∧ a2.toInt ≤ 99) := d_r_31
        refine tot_if (fun c_40 => ?_) (fun c_40 => ?_)
        · replace c_40 := i_eq c_40
          refine tot_bind2 (sf_throwsAt hP S_30 3 h_S_30 ) (fun r_32 S_33 d_r_32 => ?_)
          have h_S_33 : IC P S_33 := d_r_32.1
          replace d_r_32 : (0 ≤ r_32.toInt ∧ r_32.toInt ≤ 0) := d_r_32.2
          refine tot_let (fun v_34 e_v_34 => ?_)
          exact tot_some ⟨h_S_33, trivial⟩
        · replace c_40 := i_ne c_40
          refine tot_bind (sf_copy_12_14 hP S_30 0 0 h_S_30 (by omega) (by omega)) (fun S_35 d_S_35 => ?_)
          have h_S_35 : IC P S_35 := d_S_35.1
          refine tot_bind (sf_recordsPoint_14 hP S_35 a0 a2 h_S_35 (by omega) (by omega)) (fun S_36 d_S_36 => ?_)
          have h_S_36 : IC P S_36 := d_S_36.1
          refine tot_bind2 (sf_powerOf_14 hP S_36 a1 h_S_36 (by omega)) (fun r_37 S_38 d_r_37 => ?_)
          have h_S_38 : IC P S_38 := d_r_37.1
          exact tot_some ⟨h_S_38, trivial⟩
end
section
/-! 12c.sf5.lean.txt -/
set_option maxHeartbeats 4000000 in
set_option maxRecDepth 10000 in
theorem sf_bestWithout {P : Nat → Int32} (hP : PL P) (S : MS) (a0 : Int32) (h_S : IC P S) : Tot (fr_bestWithout S a0) (fun r => IC P r.2 ∧ (0 ≤ r.1.toInt ∧ r.1.toInt ≤ 143)) := by
  have z0 : (0 : Int32).toInt = 0 := by decide
  have z1 : (1 : Int32).toInt = 1 := by decide
  have p_4 := pl_4 hP
  have j_a0 := i_any a0
  unfold fr_bestWithout
  refine tot_bindp (R := fun r_1 : Int32 => (r_1.toInt = 0 ∨ r_1.toInt = 1 ∧ 0 ≤ a0.toInt ∧ a0.toInt < (P 4).toInt)) (sf_isMic hP S a0 h_S ) (fun r_1 d_r_1 => ?_)
  replace d_r_1 : (r_1.toInt = 0 ∨ r_1.toInt = 1 ∧ 0 ≤ a0.toInt ∧ a0.toInt < (P 4).toInt) := d_r_1
  refine tot_bind2 (sf_mayAsk hP S r_1 h_S (by omega)) (fun r_3 S_4 d_r_3 => ?_)
  have h_S_4 : IC P S_4 := d_r_3.1
  replace d_r_3 : (r_3.toInt = 0 ∨ r_3.toInt = 1 ∧ ¬ r_1.toInt = 0) := d_r_3.2
  refine tot_if (fun c_10 => ?_) (fun c_10 => ?_)
  · replace c_10 := i_eq c_10
    exact tot_some ⟨h_S_4, (show (0 ≤ (0 : Int32).toInt ∧ (0 : Int32).toInt ≤ 143) from by omega)⟩
  · replace c_10 := i_ne c_10
    refine tot_bind (sf_copy_12_14 hP S_4 0 0 h_S_4 (by omega) (by omega)) (fun S_5 d_S_5 => ?_)
    have h_S_5 : IC P S_5 := d_S_5.1
    refine tot_let (fun v_6 e_v_6 => ?_)
    have q_v_6 := i_add e_v_6 (by omega) (by omega)
    refine tot_oif (i_inb (by omega) (by omega)) ?_
    refine tot_let (fun S_7 e_S_7 => ?_)
    have h_S_7 : IC P S_7 := by rw [e_S_7]; exact ic_mf14 h_S_5 (nR_w (by omega) (by omega))
    refine tot_bind2 (sf_bestIn_14 hP S_7 h_S_7 ) (fun r_8 S_9 d_r_8 => ?_)
    have h_S_9 : IC P S_9 := d_r_8.1
    replace d_r_8 : (0 ≤ r_8.toInt ∧ r_8.toInt ≤ 143) := d_r_8.2
    exact tot_some ⟨h_S_9, (show (0 ≤ r_8.toInt ∧ r_8.toInt ≤ 143) from by omega)⟩
set_option maxHeartbeats 4000000 in
set_option maxRecDepth 10000 in
theorem sf_bestIfOff {P : Nat → Int32} (hP : PL P) (S : MS) (a0 : Int32) (h_S : IC P S) : Tot (fr_bestIfOff S a0) (fun r => IC P r.2 ∧ (0 ≤ r.1.toInt ∧ r.1.toInt ≤ 143)) := by
  have z0 : (0 : Int32).toInt = 0 := by decide
  have z1 : (25 : Int32).toInt = 25 := by decide
  have p_5 := pl_5 hP
  have j_a0 := i_any a0
  unfold fr_bestIfOff
  refine tot_bindp (R := fun r_1 : Int32 => (r_1.toInt = 0 ∨ r_1.toInt = 1 ∧ 0 ≤ a0.toInt ∧ a0.toInt < (P 5).toInt)) (sf_isSource hP S a0 h_S ) (fun r_1 d_r_1 => ?_)
  replace d_r_1 : (r_1.toInt = 0 ∨ r_1.toInt = 1 ∧ 0 ≤ a0.toInt ∧ a0.toInt < (P 5).toInt) := d_r_1
  refine tot_bind2 (sf_mayAsk hP S r_1 h_S (by omega)) (fun r_3 S_4 d_r_3 => ?_)
  have h_S_4 : IC P S_4 := d_r_3.1
  replace d_r_3 : (r_3.toInt = 0 ∨ r_3.toInt = 1 ∧ ¬ r_1.toInt = 0) := d_r_3.2
  refine tot_if (fun c_11 => ?_) (fun c_11 => ?_)
  · replace c_11 := i_eq c_11
    exact tot_some ⟨h_S_4, (show (0 ≤ (0 : Int32).toInt ∧ (0 : Int32).toInt ≤ 143) from by omega)⟩
  · replace c_11 := i_ne c_11
    refine tot_bind (sf_copy_12_14 hP S_4 0 0 h_S_4 (by omega) (by omega)) (fun S_5 d_S_5 => ?_)
    have h_S_5 : IC P S_5 := d_S_5.1
    refine tot_let (fun v_6 e_v_6 => ?_)
    have q_v_6 := i_add e_v_6 (by omega) (by omega)
    refine tot_oif (i_inb (by omega) (by omega)) ?_
    refine tot_let (fun S_7 e_S_7 => ?_)
    have h_S_7 : IC P S_7 := by rw [e_S_7]; exact ic_mf14 h_S_5 (nR_w (by omega) (by omega))
    refine tot_bind (sf_records_14 hP S_7 h_S_7 ) (fun S_8 d_S_8 => ?_)
    have h_S_8 : IC P S_8 := d_S_8.1
    refine tot_bind2 (sf_bestIn_14 hP S_8 h_S_8 ) (fun r_9 S_10 d_r_9 => ?_)
    have h_S_10 : IC P S_10 := d_r_9.1
    replace d_r_9 : (0 ≤ r_9.toInt ∧ r_9.toInt ≤ 143) := d_r_9.2
    exact tot_some ⟨h_S_10, (show (0 ≤ r_9.toInt ∧ r_9.toInt ≤ 143) from by omega)⟩
set_option maxHeartbeats 4000000 in
set_option maxRecDepth 10000 in
theorem sf_sets {P : Nat → Int32} (hP : PL P) (S : MS) (a0 : Int32) (a1 : Int32) (h_S : IC P S) (g0 : 1 ≤ a0.toInt ∧ a0.toInt ≤ 48) (g1 : -2000 ≤ a1.toInt ∧ a1.toInt ≤ 2000) (g2 : (1 ≤ a0.toInt → a0.toInt < 13 → 0 ≤ a1.toInt ∧ a1.toInt ≤ 1) ∧ (13 ≤ a0.toInt → a0.toInt < 25 → 0 ≤ a1.toInt ∧ a1.toInt ≤ 9) ∧ (25 ≤ a0.toInt → a0.toInt < 31 → 0 ≤ a1.toInt ∧ a1.toInt ≤ 1) ∧ (31 ≤ a0.toInt → a0.toInt < 43 → -2000 ≤ a1.toInt ∧ a1.toInt ≤ 2000) ∧ (43 ≤ a0.toInt → a0.toInt < 55 → -999 ≤ a1.toInt ∧ a1.toInt ≤ 999)) : Tot (fr_sets S a0 a1) (fun r => IC P r.2 ∧ True) := by
  have j_a0 := i_any a0
  have j_a1 := i_any a1
  unfold fr_sets
  refine tot_bind (sf_remember hP S h_S ) (fun S_1 d_S_1 => ?_)
  have h_S_1 : IC P S_1 := d_S_1.1
  refine tot_oif (i_inb (by omega) (by omega)) ?_
  refine tot_let (fun v_2 e_v_2 => ?_)
  have r_v_2 := i_any v_2
  refine tot_oif (i_inb (by omega) (by omega)) ?_
  refine tot_let (fun S_3 e_S_3 => ?_)
  have h_S_3 : IC P S_3 := by rw [e_S_3]; exact ic_mf12 h_S_1 (nR_w (by omega) (by omega))
  exact tot_some ⟨h_S_3, trivial⟩
set_option maxHeartbeats 4000000 in
set_option maxRecDepth 10000 in
theorem sf_mute {P : Nat → Int32} (hP : PL P) (S : MS) (a0 : Int32) (a1 : Int32) (h_S : IC P S) : Tot (fr_mute S a0 a1) (fun r => IC P r.2 ∧ (0 ≤ r.1.toInt ∧ r.1.toInt ≤ 1)) := by
  have z0 : (0 : Int32).toInt = 0 := by decide
  have z1 : (1 : Int32).toInt = 1 := by decide
  have p_4 := pl_4 hP
  have j_a0 := i_any a0
  have j_a1 := i_any a1
  unfold fr_mute
  refine tot_bindp (R := fun r_1 : Int32 => (r_1.toInt = 0 ∨ r_1.toInt = 1 ∧ 0 ≤ a0.toInt ∧ a0.toInt < (P 4).toInt)) (sf_isMic hP S a0 h_S ) (fun r_1 d_r_1 => ?_)
  replace d_r_1 : (r_1.toInt = 0 ∨ r_1.toInt = 1 ∧ 0 ≤ a0.toInt ∧ a0.toInt < (P 4).toInt) := d_r_1
  refine tot_bind2 (sf_mayAsk hP S r_1 h_S (by omega)) (fun r_3 S_4 d_r_3 => ?_)
  have h_S_4 : IC P S_4 := d_r_3.1
  replace d_r_3 : (r_3.toInt = 0 ∨ r_3.toInt = 1 ∧ ¬ r_1.toInt = 0) := d_r_3.2
  refine tot_if (fun c_6 => ?_) (fun c_6 => ?_)
  · replace c_6 := i_eq c_6
    unfold fr_mute_b36
    unfold fr_mute_b37
    refine tot_oif (i_b01 (by omega)) ?_
    exact tot_some ⟨h_S_4, (show (0 ≤ (0 : Int32).toInt ∧ (0 : Int32).toInt ≤ 1) from by omega)⟩
  · replace c_6 := i_ne c_6
    refine tot_let (fun v_5 e_v_5 => ?_)
    have q_v_5 := i_add e_v_5 (by omega) (by omega)
    refine tot_if (fun c_7 => ?_) (fun c_7 => ?_)
    · replace c_7 := i_eq c_7
      unfold fr_mute_b25
      refine tot_bind2 (sf_sets hP S_4 v_5 0 h_S_4 (by omega) (by omega) (by omega)) (fun r_8 S_9 d_r_8 => ?_)
      have h_S_9 : IC P S_9 := d_r_8.1
      refine tot_if (fun c_10 => ?_) (fun c_10 => ?_)
      · replace c_10 := i_eq c_10
        unfold fr_mute_b37
        refine tot_oif (i_b01 (by omega)) ?_
        exact tot_some ⟨h_S_9, (show (0 ≤ (1 : Int32).toInt ∧ (1 : Int32).toInt ≤ 1) from by omega)⟩
      · replace c_10 := i_ne c_10
        unfold fr_mute_b36
        unfold fr_mute_b37
        refine tot_oif (i_b01 (by omega)) ?_
        exact tot_some ⟨h_S_9, (show (0 ≤ (0 : Int32).toInt ∧ (0 : Int32).toInt ≤ 1) from by omega)⟩
    · replace c_7 := i_ne c_7
      unfold fr_mute_b25
      refine tot_bind2 (sf_sets hP S_4 v_5 1 h_S_4 (by omega) (by omega) (by omega)) (fun r_11 S_12 d_r_11 => ?_)
      have h_S_12 : IC P S_12 := d_r_11.1
      refine tot_if (fun c_13 => ?_) (fun c_13 => ?_)
      · replace c_13 := i_eq c_13
        unfold fr_mute_b37
        refine tot_oif (i_b01 (by omega)) ?_
        exact tot_some ⟨h_S_12, (show (0 ≤ (1 : Int32).toInt ∧ (1 : Int32).toInt ≤ 1) from by omega)⟩
      · replace c_13 := i_ne c_13
        unfold fr_mute_b36
        unfold fr_mute_b37
        refine tot_oif (i_b01 (by omega)) ?_
        exact tot_some ⟨h_S_12, (show (0 ≤ (0 : Int32).toInt ∧ (0 : Int32).toInt ≤ 1) from by omega)⟩
set_option maxHeartbeats 4000000 in
set_option maxRecDepth 10000 in
theorem sf_setWeight {P : Nat → Int32} (hP : PL P) (S : MS) (a0 : Int32) (a1 : Int32) (h_S : IC P S) : Tot (fr_setWeight S a0 a1) (fun r => IC P r.2 ∧ True) := by
  have z0 : (0 : Int32).toInt = 0 := by decide
  have z1 : (9 : Int32).toInt = 9 := by decide
  have z2 : (3 : Int32).toInt = 3 := by decide
  have z3 : (13 : Int32).toInt = 13 := by decide
  have p_4 := pl_4 hP
  have j_a0 := i_any a0
  have j_a1 := i_any a1
  unfold fr_setWeight
  refine tot_bindp (R := fun r_1 : Int32 => (r_1.toInt = 0 ∨ r_1.toInt = 1 ∧ 0 ≤ a0.toInt ∧ a0.toInt < (P 4).toInt)) (sf_isMic hP S a0 h_S ) (fun r_1 d_r_1 => ?_)
  replace d_r_1 : (r_1.toInt = 0 ∨ r_1.toInt = 1 ∧ 0 ≤ a0.toInt ∧ a0.toInt < (P 4).toInt) := d_r_1
  refine tot_bind2 (sf_mayAsk hP S r_1 h_S (by omega)) (fun r_3 S_4 d_r_3 => ?_)
  have h_S_4 : IC P S_4 := d_r_3.1
  replace d_r_3 : (r_3.toInt = 0 ∨ r_3.toInt = 1 ∧ ¬ r_1.toInt = 0) := d_r_3.2
  refine tot_if (fun c_11 => ?_) (fun c_11 => ?_)
  · replace c_11 := i_eq c_11
    exact tot_some ⟨h_S_4, trivial⟩
  · replace c_11 := i_ne c_11
    refine tot_bind (sf_in hP a1 0 9  ) (fun r_5 d_r_5 => ?_)
    replace d_r_5 : (r_5.toInt = 0 ∧ (a1.toInt < (0 : Int32).toInt ∨ (9 : Int32).toInt < a1.toInt) ∨ r_5.toInt = 1 ∧ (0 : Int32).toInt ≤ a1.toInt ∧ a1.toInt ≤ (9 : Int32).toInt) := d_r_5
    refine tot_if (fun c_12 => ?_) (fun c_12 => ?_)
    · replace c_12 := i_eq c_12
      refine tot_bind2 (sf_throwsAt hP S_4 3 h_S_4 ) (fun r_6 S_7 d_r_6 => ?_)
      have h_S_7 : IC P S_7 := d_r_6.1
      replace d_r_6 : (0 ≤ r_6.toInt ∧ r_6.toInt ≤ 0) := d_r_6.2
      unfold fr_setWeight_b41
      exact tot_some ⟨h_S_7, trivial⟩
    · replace c_12 := i_ne c_12
      refine tot_let (fun v_8 e_v_8 => ?_)
      have q_v_8 := i_add e_v_8 (by omega) (by omega)
      refine tot_bind2 (sf_sets hP S_4 v_8 a1 h_S_4 (by omega) (by omega) (by omega)) (fun r_9 S_10 d_r_9 => ?_)
      have h_S_10 : IC P S_10 := d_r_9.1
      unfold fr_setWeight_b41
      exact tot_some ⟨h_S_10, trivial⟩
set_option maxHeartbeats 4000000 in
set_option maxRecDepth 10000 in
theorem sf_setOn {P : Nat → Int32} (hP : PL P) (S : MS) (a0 : Int32) (a1 : Int32) (h_S : IC P S) : Tot (fr_setOn S a0 a1) (fun r => IC P r.2 ∧ (0 ≤ r.1.toInt ∧ r.1.toInt ≤ 1)) := by
  have z0 : (0 : Int32).toInt = 0 := by decide
  have z1 : (25 : Int32).toInt = 25 := by decide
  have z2 : (1 : Int32).toInt = 1 := by decide
  have p_5 := pl_5 hP
  have j_a0 := i_any a0
  have j_a1 := i_any a1
  unfold fr_setOn
  refine tot_bindp (R := fun r_1 : Int32 => (r_1.toInt = 0 ∨ r_1.toInt = 1 ∧ 0 ≤ a0.toInt ∧ a0.toInt < (P 5).toInt)) (sf_isSource hP S a0 h_S ) (fun r_1 d_r_1 => ?_)
  replace d_r_1 : (r_1.toInt = 0 ∨ r_1.toInt = 1 ∧ 0 ≤ a0.toInt ∧ a0.toInt < (P 5).toInt) := d_r_1
  refine tot_bind2 (sf_mayAsk hP S r_1 h_S (by omega)) (fun r_3 S_4 d_r_3 => ?_)
  have h_S_4 : IC P S_4 := d_r_3.1
  replace d_r_3 : (r_3.toInt = 0 ∨ r_3.toInt = 1 ∧ ¬ r_1.toInt = 0) := d_r_3.2
  refine tot_if (fun c_6 => ?_) (fun c_6 => ?_)
  · replace c_6 := i_eq c_6
    exact tot_some ⟨h_S_4, (show (0 ≤ (0 : Int32).toInt ∧ (0 : Int32).toInt ≤ 1) from by omega)⟩
  · replace c_6 := i_ne c_6
    refine tot_let (fun v_5 e_v_5 => ?_)
    have q_v_5 := i_add e_v_5 (by omega) (by omega)
    refine tot_if (fun c_7 => ?_) (fun c_7 => ?_)
    · replace c_7 := i_eq c_7
      unfold fr_setOn_b28
      refine tot_bind2 (sf_sets hP S_4 v_5 0 h_S_4 (by omega) (by omega) (by omega)) (fun r_8 S_9 d_r_8 => ?_)
      have h_S_9 : IC P S_9 := d_r_8.1
      refine tot_bind (sf_records_12 hP S_9 h_S_9 ) (fun S_10 d_S_10 => ?_)
      have h_S_10 : IC P S_10 := d_S_10.1
      refine tot_if (fun c_11 => ?_) (fun c_11 => ?_)
      · replace c_11 := i_eq c_11
        unfold fr_setOn_b50
        refine tot_oif (i_b01 (by omega)) ?_
        exact tot_some ⟨h_S_10, (show (0 ≤ (1 : Int32).toInt ∧ (1 : Int32).toInt ≤ 1) from by omega)⟩
      · replace c_11 := i_ne c_11
        unfold fr_setOn_b50
        refine tot_oif (i_b01 (by omega)) ?_
        exact tot_some ⟨h_S_10, (show (0 ≤ (0 : Int32).toInt ∧ (0 : Int32).toInt ≤ 1) from by omega)⟩
    · replace c_7 := i_ne c_7
      unfold fr_setOn_b28
      refine tot_bind2 (sf_sets hP S_4 v_5 1 h_S_4 (by omega) (by omega) (by omega)) (fun r_12 S_13 d_r_12 => ?_)
      have h_S_13 : IC P S_13 := d_r_12.1
      refine tot_bind (sf_records_12 hP S_13 h_S_13 ) (fun S_14 d_S_14 => ?_)
      have h_S_14 : IC P S_14 := d_S_14.1
      refine tot_if (fun c_15 => ?_) (fun c_15 => ?_)
      · replace c_15 := i_eq c_15
        unfold fr_setOn_b50
        refine tot_oif (i_b01 (by omega)) ?_
        exact tot_some ⟨h_S_14, (show (0 ≤ (1 : Int32).toInt ∧ (1 : Int32).toInt ≤ 1) from by omega)⟩
      · replace c_15 := i_ne c_15
        unfold fr_setOn_b50
        refine tot_oif (i_b01 (by omega)) ?_
        exact tot_some ⟨h_S_14, (show (0 ≤ (0 : Int32).toInt ∧ (0 : Int32).toInt ≤ 1) from by omega)⟩
set_option maxHeartbeats 4000000 in
set_option maxRecDepth 10000 in
theorem sf_setsTwo {P : Nat → Int32} (hP : PL P) (S : MS) (a0 : Int32) (a1 : Int32) (a2 : Int32) (h_S : IC P S) (g0 : 31 ≤ a0.toInt ∧ a0.toInt ≤ 48) (g1 : -2000 ≤ a1.toInt ∧ a1.toInt ≤ 2000) (g2 : -2000 ≤ a2.toInt ∧ a2.toInt ≤ 2000) (g3 : (31 ≤ a0.toInt ∧ a0.toInt < 37 ∧ (-2000 ≤ a1.toInt ∧ a1.toInt ≤ 2000) ∧ -2000 ≤ a2.toInt ∧ a2.toInt ≤ 2000) ∨ (43 ≤ a0.toInt ∧ a0.toInt < 49 ∧ (-999 ≤ a1.toInt ∧ a1.toInt ≤ 999) ∧ -999 ≤ a2.toInt ∧ a2.toInt ≤ 999)) : Tot (fr_setsTwo S a0 a1 a2) (fun r => IC P r.2 ∧ (0 ≤ r.1.toInt ∧ r.1.toInt ≤ 143)) := by
  have z0 : (6 : Int32).toInt = 6 := by decide
  have j_a0 := i_any a0
  have j_a1 := i_any a1
  have j_a2 := i_any a2
  unfold fr_setsTwo
  refine tot_bind2 (sf_sets hP S a0 a1 h_S (by omega) (by omega) (by omega)) (fun r_1 S_2 d_r_1 => ?_)
  have h_S_2 : IC P S_2 := d_r_1.1
  refine tot_let (fun v_3 e_v_3 => ?_)
  have q_v_3 := i_add e_v_3 (by omega) (by omega)
  refine tot_oif (i_inb (by omega) (by omega)) ?_
  refine tot_let (fun S_4 e_S_4 => ?_)
  have h_S_4 : IC P S_4 := by rw [e_S_4]; exact ic_mf12 h_S_2 (nR_w (by omega) (by omega))
  refine tot_bind (sf_records_12 hP S_4 h_S_4 ) (fun S_5 d_S_5 => ?_)
  have h_S_5 : IC P S_5 := d_S_5.1
  refine tot_bind2 (sf_bestIn_12 hP S_5 h_S_5 ) (fun r_6 S_7 d_r_6 => ?_)
  have h_S_7 : IC P S_7 := d_r_6.1
  replace d_r_6 : (0 ≤ r_6.toInt ∧ r_6.toInt ≤ 143) := d_r_6.2
  exact tot_some ⟨h_S_7, (show (0 ≤ r_6.toInt ∧ r_6.toInt ≤ 143) from by omega)⟩
set_option maxHeartbeats 4000000 in
set_option maxRecDepth 10000 in
theorem sf_moveSource {P : Nat → Int32} (hP : PL P) (S : MS) (a0 : Int32) (a1 : Int32) (a2 : Int32) (h_S : IC P S) : Tot (fr_moveSource S a0 a1 a2) (fun r => IC P r.2 ∧ (0 ≤ r.1.toInt ∧ r.1.toInt ≤ 143)) := by
  have z0 : (0 : Int32).toInt = 0 := by decide
  have z1 : ((-2000) : Int32).toInt = -2000 := by decide
  have z2 : (2000 : Int32).toInt = 2000 := by decide
  have z3 : (3 : Int32).toInt = 3 := by decide
  have z4 : (31 : Int32).toInt = 31 := by decide
  have p_5 := pl_5 hP
  have j_a0 := i_any a0
  have j_a1 := i_any a1
  have j_a2 := i_any a2
  unfold fr_moveSource
  refine tot_bindp (R := fun r_1 : Int32 => (r_1.toInt = 0 ∨ r_1.toInt = 1 ∧ 0 ≤ a0.toInt ∧ a0.toInt < (P 5).toInt)) (sf_isSource hP S a0 h_S ) (fun r_1 d_r_1 => ?_)
  replace d_r_1 : (r_1.toInt = 0 ∨ r_1.toInt = 1 ∧ 0 ≤ a0.toInt ∧ a0.toInt < (P 5).toInt) := d_r_1
  refine tot_bind2 (sf_mayAsk hP S r_1 h_S (by omega)) (fun r_3 S_4 d_r_3 => ?_)
  have h_S_4 : IC P S_4 := d_r_3.1
  replace d_r_3 : (r_3.toInt = 0 ∨ r_3.toInt = 1 ∧ ¬ r_1.toInt = 0) := d_r_3.2
  refine tot_if (fun c_10 => ?_) (fun c_10 => ?_)
  · replace c_10 := i_eq c_10
    exact tot_some ⟨h_S_4, (show (0 ≤ (0 : Int32).toInt ∧ (0 : Int32).toInt ≤ 143) from by omega)⟩
  · replace c_10 := i_ne c_10
    refine tot_bind (sf_in hP a1 (-2000) 2000  ) (fun r_5 d_r_5 => ?_)
    replace d_r_5 : (r_5.toInt = 0 ∧ (a1.toInt < ((-2000) : Int32).toInt ∨ (2000 : Int32).toInt < a1.toInt) ∨ r_5.toInt = 1 ∧ ((-2000) : Int32).toInt ≤ a1.toInt ∧ a1.toInt ≤ (2000 : Int32).toInt) := d_r_5
    refine tot_if (fun c_11 => ?_) (fun c_11 => ?_)
    · replace c_11 := i_eq c_11
      unfold fr_moveSource_b53
      refine tot_bind2 (sf_throwsAt hP S_4 3 h_S_4 ) (fun r_12 S_13 d_r_12 => ?_)
      have h_S_13 : IC P S_13 := d_r_12.1
      replace d_r_12 : (0 ≤ r_12.toInt ∧ r_12.toInt ≤ 0) := d_r_12.2
      unfold fr_moveSource_b58
      exact tot_some ⟨h_S_13, (show (0 ≤ r_12.toInt ∧ r_12.toInt ≤ 143) from by omega)⟩
    · replace c_11 := i_ne c_11
      refine tot_bind (sf_in hP a2 (-2000) 2000  ) (fun r_6 d_r_6 => ?_)
      replace d_r_6 : (r_6.toInt = 0 ∧ (a2.toInt < ((-2000) : Int32).toInt ∨ (2000 : Int32).toInt < a2.toInt) ∨ r_6.toInt = 1 ∧ ((-2000) : Int32).toInt ≤ a2.toInt ∧ a2.toInt ≤ (2000 : Int32).toInt) := d_r_6
      refine tot_if (fun c_14 => ?_) (fun c_14 => ?_)
      · replace c_14 := i_eq c_14
        unfold fr_moveSource_b53
        refine tot_bind2 (sf_throwsAt hP S_4 3 h_S_4 ) (fun r_15 S_16 d_r_15 => ?_)
        have h_S_16 : IC P S_16 := d_r_15.1
        replace d_r_15 : (0 ≤ r_15.toInt ∧ r_15.toInt ≤ 0) := d_r_15.2
        unfold fr_moveSource_b58
        exact tot_some ⟨h_S_16, (show (0 ≤ r_15.toInt ∧ r_15.toInt ≤ 143) from by omega)⟩
      · replace c_14 := i_ne c_14
        refine tot_let (fun v_7 e_v_7 => ?_)
        have q_v_7 := i_add e_v_7 (by omega) (by omega)
        refine tot_bind2 (sf_setsTwo hP S_4 v_7 a1 a2 h_S_4 (by omega) (by omega) (by omega) (by omega)) (fun r_8 S_9 d_r_8 => ?_)
        have h_S_9 : IC P S_9 := d_r_8.1
        replace d_r_8 : (0 ≤ r_8.toInt ∧ r_8.toInt ≤ 143) := d_r_8.2
        unfold fr_moveSource_b58
        exact tot_some ⟨h_S_9, (show (0 ≤ r_8.toInt ∧ r_8.toInt ≤ 143) from by omega)⟩
set_option maxHeartbeats 4000000 in
set_option maxRecDepth 10000 in
theorem sf_setVelocity {P : Nat → Int32} (hP : PL P) (S : MS) (a0 : Int32) (a1 : Int32) (a2 : Int32) (h_S : IC P S) : Tot (fr_setVelocity S a0 a1 a2) (fun r => IC P r.2 ∧ (0 ≤ r.1.toInt ∧ r.1.toInt ≤ 143)) := by
  have z0 : (0 : Int32).toInt = 0 := by decide
  have z1 : (3 : Int32).toInt = 3 := by decide
  have z2 : (43 : Int32).toInt = 43 := by decide
  have p_5 := pl_5 hP
  have j_a0 := i_any a0
  have j_a1 := i_any a1
  have j_a2 := i_any a2
  unfold fr_setVelocity
  refine tot_bindp (R := fun r_1 : Int32 => (r_1.toInt = 0 ∨ r_1.toInt = 1 ∧ 0 ≤ a0.toInt ∧ a0.toInt < (P 5).toInt)) (sf_isSource hP S a0 h_S ) (fun r_1 d_r_1 => ?_)
  replace d_r_1 : (r_1.toInt = 0 ∨ r_1.toInt = 1 ∧ 0 ≤ a0.toInt ∧ a0.toInt < (P 5).toInt) := d_r_1
  refine tot_bind2 (sf_mayAsk hP S r_1 h_S (by omega)) (fun r_3 S_4 d_r_3 => ?_)
  have h_S_4 : IC P S_4 := d_r_3.1
  replace d_r_3 : (r_3.toInt = 0 ∨ r_3.toInt = 1 ∧ ¬ r_1.toInt = 0) := d_r_3.2
  refine tot_if (fun c_11 => ?_) (fun c_11 => ?_)
  · replace c_11 := i_eq c_11
    exact tot_some ⟨h_S_4, (show (0 ≤ (0 : Int32).toInt ∧ (0 : Int32).toInt ≤ 143) from by omega)⟩
  · replace c_11 := i_ne c_11
    refine tot_bind (sf_isVelocity hP a1 a2  ) (fun r_5 d_r_5 => ?_)
    replace d_r_5 : (r_5.toInt = 0 ∨ r_5.toInt = 1 ∧ (-999 ≤ a1.toInt ∧ a1.toInt ≤ 999) ∧ -999 ≤ a2.toInt ∧ a2.toInt ≤ 999) := d_r_5
    refine tot_if (fun c_12 => ?_) (fun c_12 => ?_)
    · replace c_12 := i_eq c_12
      refine tot_bind2 (sf_throwsAt hP S_4 3 h_S_4 ) (fun r_6 S_7 d_r_6 => ?_)
      have h_S_7 : IC P S_7 := d_r_6.1
      replace d_r_6 : (0 ≤ r_6.toInt ∧ r_6.toInt ≤ 0) := d_r_6.2
      unfold fr_setVelocity_b40
      exact tot_some ⟨h_S_7, (show (0 ≤ r_6.toInt ∧ r_6.toInt ≤ 143) from by omega)⟩
    · replace c_12 := i_ne c_12
      refine tot_let (fun v_8 e_v_8 => ?_)
      have q_v_8 := i_add e_v_8 (by omega) (by omega)
      refine tot_bind2 (sf_setsTwo hP S_4 v_8 a1 a2 h_S_4 (by omega) (by omega) (by omega) (by omega)) (fun r_9 S_10 d_r_9 => ?_)
      have h_S_10 : IC P S_10 := d_r_9.1
      replace d_r_9 : (0 ≤ r_9.toInt ∧ r_9.toInt ≤ 143) := d_r_9.2
      unfold fr_setVelocity_b40
      exact tot_some ⟨h_S_10, (show (0 ≤ r_9.toInt ∧ r_9.toInt ≤ 143) from by omega)⟩
set_option maxHeartbeats 4000000 in
set_option maxRecDepth 10000 in
theorem sf_cleaned {P : Nat → Int32} (hP : PL P) (S : MS) (h_S : IC P S) : Tot (fr_cleaned S) (fun r => IC P r.2 ∧ True) := by
  have z0 : (1 : Int32).toInt = 1 := by decide
  have z1 : (0 : Int32).toInt = 0 := by decide
  unfold fr_cleaned
  refine tot_bind2 (sf_mayAsk hP S 1 h_S (by omega)) (fun r_1 S_2 d_r_1 => ?_)
  have h_S_2 : IC P S_2 := d_r_1.1
  replace d_r_1 : (r_1.toInt = 0 ∨ r_1.toInt = 1 ∧ ¬ (1 : Int32).toInt = 0) := d_r_1.2
  refine tot_if (fun c_4 => ?_) (fun c_4 => ?_)
  · replace c_4 := i_eq c_4
    unfold fr_cleaned_b18
    exact tot_some ⟨h_S_2, trivial⟩
  · replace c_4 := i_ne c_4
    refine tot_let (fun v_3 e_v_3 => ?_)
    have r_v_3 := i_any v_3
    unfold fr_cleaned_b18
    exact tot_some ⟨h_S_2, trivial⟩
set_option maxHeartbeats 4000000 in
set_option maxRecDepth 10000 in
theorem sf_undo {P : Nat → Int32} (hP : PL P) (S : MS) (h_S : IC P S) : Tot (fr_undo S) (fun r => IC P r.2 ∧ (0 ≤ r.1.toInt ∧ r.1.toInt ≤ 6)) := by
  have z0 : (0 : Int32).toInt = 0 := by decide
  have z1 : (1 : Int32).toInt = 1 := by decide
  have z2 : (2455 : Int32).toInt = 2455 := by decide
  unfold fr_undo
  refine tot_let (fun v_1 e_v_1 => ?_)
  have q_v_1 := i_eq e_v_1
  have r_v_1 := ic_19 h_S
  refine tot_if (fun c_2 => ?_) (fun c_2 => ?_)
  · replace c_2 := i_eq c_2
    unfold fr_undo_b13
    refine tot_let (fun S_3 e_S_3 => ?_)
    have h_S_3 : IC P S_3 := by rw [e_S_3]; exact ic_mi0 h_S _
    have f_S_3_0 : (S_3.1 0).toInt = (1 : Int32).toInt := by rw [e_S_3]; rfl
    have f_S_3_19 : (S_3.1 19).toInt = (S.1 19).toInt := by rw [e_S_3]; rfl
    refine tot_let (fun v_4 e_v_4 => ?_)
    have q_v_4 := i_eq e_v_4
    have r_v_4 := i_any v_4
    refine tot_if (fun c_12 => ?_) (fun c_12 => ?_)
    · replace c_12 := i_le c_12
      exfalso
      omega
    · replace c_12 := i_nle c_12
      exact tot_some ⟨h_S_3, (show (0 ≤ (0 : Int32).toInt ∧ (0 : Int32).toInt ≤ 6) from by omega)⟩
  · replace c_2 := i_ne c_2
    unfold fr_undo_b13
    refine tot_let (fun S_13 e_S_13 => ?_)
    have h_S_13 : IC P S_13 := by rw [e_S_13]; exact ic_mi0 h_S _
    have f_S_13_0 : (S_13.1 0).toInt = (0 : Int32).toInt := by rw [e_S_13]; rfl
    have f_S_13_19 : (S_13.1 19).toInt = (S.1 19).toInt := by rw [e_S_13]; rfl
    refine tot_let (fun v_14 e_v_14 => ?_)
    have q_v_14 := i_eq e_v_14
    have r_v_14 := i_any v_14
    refine tot_if (fun c_22 => ?_) (fun c_22 => ?_)
    · replace c_22 := i_le c_22
      refine tot_let (fun v_15 e_v_15 => ?_)
      have q_v_15 := i_eq e_v_15
      have r_v_15 := ic_19 h_S_13
      refine tot_let (fun v_16 e_v_16 => ?_)
      have q_v_16 := i_sub e_v_16 (by omega) (by omega)
      refine tot_let (fun S_17 e_S_17 => ?_)
      have h_S_17 : IC P S_17 := by rw [e_S_17]; exact ic_mi19 h_S_13 (by omega) (by omega)
      have f_S_17_0 : (S_17.1 0).toInt = (S_13.1 0).toInt := by rw [e_S_17]; rfl
      have f_S_17_19 : (S_17.1 19).toInt = (v_16 : Int32).toInt := by rw [e_S_17]; rfl
      refine tot_let (fun v_18 e_v_18 => ?_)
      have q_v_18 := i_eq e_v_18
      have r_v_18 := ic_19 h_S_17
      refine tot_let (fun v_19 e_v_19 => ?_)
      have q_v_19 := i_mulk e_v_19 z2 (by omega) (by omega)
      refine tot_bind (sf_copy_15_12 hP S_17 v_19 0 h_S_17 (by omega) (by omega)) (fun S_20 d_S_20 => ?_)
      have h_S_20 : IC P S_20 := d_S_20.1
      refine tot_let (fun v_21 e_v_21 => ?_)
      have q_v_21 := i_eq e_v_21
      have r_v_21 := ic_19 h_S_20
      exact tot_some ⟨h_S_20, (show (0 ≤ v_21.toInt ∧ v_21.toInt ≤ 6) from by omega)⟩
    · replace c_22 := i_nle c_22
      exfalso
      omega
set_option maxHeartbeats 4000000 in
set_option maxRecDepth 10000 in
theorem sf_undoable {P : Nat → Int32} (hP : PL P) (S : MS) (h_S : IC P S) : Tot (fr_undoable S) (fun r => IC P r.2 ∧ (0 ≤ r.1.toInt ∧ r.1.toInt ≤ 6)) := by
  have z0 : (0 : Int32).toInt = 0 := by decide
  unfold fr_undoable
  refine tot_let (fun S_1 e_S_1 => ?_)
  have h_S_1 : IC P S_1 := by rw [e_S_1]; exact ic_mi0 h_S _
  refine tot_let (fun v_2 e_v_2 => ?_)
  have q_v_2 := i_eq e_v_2
  have r_v_2 := ic_19 h_S_1
  exact tot_some ⟨h_S_1, (show (0 ≤ v_2.toInt ∧ v_2.toInt ≤ 6) from by omega)⟩
set_option maxHeartbeats 4000000 in
set_option maxRecDepth 10000 in
theorem sf_save {P : Nat → Int32} (hP : PL P) (S : MS) (a0 : Int32) (h_S : IC P S) : Tot (fr_save S a0) (fun r => IC P r.2 ∧ (0 ≤ r.1.toInt ∧ r.1.toInt ≤ 143)) := by
  have z0 : (0 : Int32).toInt = 0 := by decide
  have z1 : (1 : Int32).toInt = 1 := by decide
  have z2 : (2455 : Int32).toInt = 2455 := by decide
  have j_a0 := i_any a0
  unfold fr_save
  refine tot_bind (sf_in hP a0 0 1  ) (fun r_1 d_r_1 => ?_)
  replace d_r_1 : (r_1.toInt = 0 ∧ (a0.toInt < (0 : Int32).toInt ∨ (1 : Int32).toInt < a0.toInt) ∨ r_1.toInt = 1 ∧ (0 : Int32).toInt ≤ a0.toInt ∧ a0.toInt ≤ (1 : Int32).toInt) := d_r_1
  refine tot_bind2 (sf_mayAsk hP S r_1 h_S (by omega)) (fun r_2 S_3 d_r_2 => ?_)
  have h_S_3 : IC P S_3 := d_r_2.1
  replace d_r_2 : (r_2.toInt = 0 ∨ r_2.toInt = 1 ∧ ¬ r_1.toInt = 0) := d_r_2.2
  refine tot_if (fun c_9 => ?_) (fun c_9 => ?_)
  · replace c_9 := i_eq c_9
    exact tot_some ⟨h_S_3, (show (0 ≤ (0 : Int32).toInt ∧ (0 : Int32).toInt ≤ 143) from by omega)⟩
  · replace c_9 := i_ne c_9
    refine tot_let (fun v_4 e_v_4 => ?_)
    have q_v_4 := i_mulk e_v_4 z2 (by omega) (by omega)
    refine tot_bind (sf_copy_12_16 hP S_3 0 v_4 h_S_3 (by omega) (by omega)) (fun S_5 d_S_5 => ?_)
    have h_S_5 : IC P S_5 := d_S_5.1
    refine tot_oif (i_inb (by omega) (by omega)) ?_
    refine tot_let (fun S_6 e_S_6 => ?_)
    have h_S_6 : IC P S_6 := by rw [e_S_6]; exact ic_mf18 h_S_5 (by omega)
    refine tot_bind2 (sf_bestIn_12 hP S_6 h_S_6 ) (fun r_7 S_8 d_r_7 => ?_)
    have h_S_8 : IC P S_8 := d_r_7.1
    replace d_r_7 : (0 ≤ r_7.toInt ∧ r_7.toInt ≤ 143) := d_r_7.2
    exact tot_some ⟨h_S_8, (show (0 ≤ r_7.toInt ∧ r_7.toInt ≤ 143) from by omega)⟩
set_option maxHeartbeats 4000000 in
set_option maxRecDepth 10000 in
theorem sf_restore {P : Nat → Int32} (hP : PL P) (S : MS) (a0 : Int32) (h_S : IC P S) : Tot (fr_restore S a0) (fun r => IC P r.2 ∧ (0 ≤ r.1.toInt ∧ r.1.toInt ≤ 143)) := by
  have z0 : (0 : Int32).toInt = 0 := by decide
  have z1 : (1 : Int32).toInt = 1 := by decide
  have z2 : (2 : Int32).toInt = 2 := by decide
  have z3 : (2455 : Int32).toInt = 2455 := by decide
  have j_a0 := i_any a0
  unfold fr_restore
  refine tot_bind (sf_in hP a0 0 1  ) (fun r_1 d_r_1 => ?_)
  replace d_r_1 : (r_1.toInt = 0 ∧ (a0.toInt < (0 : Int32).toInt ∨ (1 : Int32).toInt < a0.toInt) ∨ r_1.toInt = 1 ∧ (0 : Int32).toInt ≤ a0.toInt ∧ a0.toInt ≤ (1 : Int32).toInt) := d_r_1
  refine tot_if (fun c_3 => ?_) (fun c_3 => ?_)
  · replace c_3 := i_eq c_3
    unfold fr_restore_b28
    refine tot_let (fun S_4 e_S_4 => ?_)
    have h_S_4 : IC P S_4 := by rw [e_S_4]; exact ic_mi0 h_S _
    have f_S_4_0 : (S_4.1 0).toInt = (1 : Int32).toInt := by rw [e_S_4]; rfl
    refine tot_let (fun v_5 e_v_5 => ?_)
    have q_v_5 := i_eq e_v_5
    have r_v_5 := i_any v_5
    refine tot_if (fun c_11 => ?_) (fun c_11 => ?_)
    · replace c_11 := i_le c_11
      exfalso
      omega
    · replace c_11 := i_nle c_11
      exact tot_some ⟨h_S_4, (show (0 ≤ (0 : Int32).toInt ∧ (0 : Int32).toInt ≤ 143) from by omega)⟩
  · replace c_3 := i_ne c_3
    refine tot_oif (i_inb (by omega) (by omega)) ?_
    refine tot_let (fun v_2 e_v_2 => ?_)
    have r_v_2 := ic_18 h_S e_v_2
    refine tot_if (fun c_12 => ?_) (fun c_12 => ?_)
    · replace c_12 := i_eq c_12
      unfold fr_restore_b28
      refine tot_let (fun S_13 e_S_13 => ?_)
      have h_S_13 : IC P S_13 := by rw [e_S_13]; exact ic_mi0 h_S _
      have f_S_13_0 : (S_13.1 0).toInt = (2 : Int32).toInt := by rw [e_S_13]; rfl
      refine tot_let (fun v_14 e_v_14 => ?_)
      have q_v_14 := i_eq e_v_14
      have r_v_14 := i_any v_14
      refine tot_if (fun c_20 => ?_) (fun c_20 => ?_)
      · replace c_20 := i_le c_20
        exfalso
        omega
      · replace c_20 := i_nle c_20
        exact tot_some ⟨h_S_13, (show (0 ≤ (0 : Int32).toInt ∧ (0 : Int32).toInt ≤ 143) from by omega)⟩
    · replace c_12 := i_ne c_12
      unfold fr_restore_b28
      refine tot_let (fun S_21 e_S_21 => ?_)
      have h_S_21 : IC P S_21 := by rw [e_S_21]; exact ic_mi0 h_S _
      have f_S_21_0 : (S_21.1 0).toInt = (0 : Int32).toInt := by rw [e_S_21]; rfl
      refine tot_let (fun v_22 e_v_22 => ?_)
      have q_v_22 := i_eq e_v_22
      have r_v_22 := i_any v_22
      refine tot_if (fun c_28 => ?_) (fun c_28 => ?_)
      · replace c_28 := i_le c_28
        refine tot_let (fun v_23 e_v_23 => ?_)
        have q_v_23 := i_mulk e_v_23 z3 (by omega) (by omega)
        refine tot_bind (sf_copy_16_12 hP S_21 v_23 0 h_S_21 (by omega) (by omega)) (fun S_24 d_S_24 => ?_)
        have h_S_24 : IC P S_24 := d_S_24.1
        refine tot_let (fun S_25 e_S_25 => ?_)
        have h_S_25 : IC P S_25 := by rw [e_S_25]; exact ic_mi19 h_S_24 (by omega) (by omega)
        have f_S_25_0 : (S_25.1 0).toInt = (S_24.1 0).toInt := by rw [e_S_25]; rfl
        refine tot_bind2 (sf_bestIn_12 hP S_25 h_S_25 ) (fun r_26 S_27 d_r_26 => ?_)
        have h_S_27 : IC P S_27 := d_r_26.1
        replace d_r_26 : (0 ≤ r_26.toInt ∧ r_26.toInt ≤ 143) := d_r_26.2
        exact tot_some ⟨h_S_27, (show (0 ≤ r_26.toInt ∧ r_26.toInt ≤ 143) from by omega)⟩
      · replace c_28 := i_nle c_28
        exfalso
        omega
set_option maxHeartbeats 4000000 in
set_option maxRecDepth 10000 in
theorem lf_load_b107 {P : Nat → Int32} (hP : PL P) {Q : Int32 × MS → Prop} (hx0 : ∀ (S : MS), (IC P S) → Tot (fr_load_b158 16384 S 0) Q) : ∀ (n : Nat) (S : MS) (l2 : Int32), (IC P S) → (0 ≤ l2.toInt ∧ l2.toInt ≤ 12) → 12 - l2.toInt < (n : Int) → Tot (fr_load_b107 n S l2) Q := by
  have z0 : (13 : Int32).toInt = 13 := by decide
  have z1 : (1 : Int32).toInt = 1 := by decide
  have z2 : (Int32.ofInt (1) : Int32).toInt = 1 := by decide
  have z3 : (119 : Int32).toInt = 119 := by decide
  have p_4 := pl_4 hP
  have p_118 := pl_118 hP
  intro n
  induction n with
  | zero =>
    intro S l2 h_S g_l2 hm
    exfalso
    omega
  | succ n ih =>
    intro S l2 h_S g_l2 hm
    unfold fr_load_b107
    refine tot_let (fun v_70 e_v_70 => ?_)
    have q_v_70 := ic_p h_S e_v_70
    refine tot_if (fun c_109 => ?_) (fun c_109 => ?_)
    · replace c_109 := i_le c_109
      exact hx0 S h_S
    · replace c_109 := i_nle c_109
      refine tot_let (fun v_71 e_v_71 => ?_)
      have q_v_71 := i_add e_v_71 (by omega) (by omega)
      refine tot_let (fun v_72 e_v_72 => ?_)
      have q_v_72 := ic_p h_S e_v_72
      refine tot_if (fun c_110 => ?_) (fun c_110 => ?_)
      · replace c_110 := i_le c_110
        unfold fr_load_b149
        refine tot_oif (i_inb (by omega) (by omega)) ?_
        refine tot_let (fun S_111 e_S_111 => ?_)
        have h_S_111 : IC P S_111 := by rw [e_S_111]; exact ic_mf12 h_S (nR_w (by omega) (by omega))
        refine tot_let (fun v_112 e_v_112 => ?_)
        have q_v_112 := i_add e_v_112 (by omega) (by omega)
        exact ih S_111 v_112 h_S_111 (by omega) (by omega)
      · replace c_110 := i_nle c_110
        refine tot_let (fun v_73 e_v_73 => ?_)
        have q_v_73 := i_add e_v_73 (by omega) (by omega)
        refine tot_oif (i_inb (by omega) (by omega)) ?_
        refine tot_let (fun v_74 e_v_74 => ?_)
        have q_v_74 := ic_p h_S e_v_74
        have r_v_74 := pr_119 hP v_73 (by omega) (by omega)
        unfold fr_load_b149
        refine tot_oif (i_inb (by omega) (by omega)) ?_
        refine tot_let (fun S_113 e_S_113 => ?_)
        have h_S_113 : IC P S_113 := by rw [e_S_113]; exact ic_mf12 h_S (nR_w (by omega) (by omega))
        refine tot_let (fun v_114 e_v_114 => ?_)
        have q_v_114 := i_add e_v_114 (by omega) (by omega)
        exact ih S_113 v_114 h_S_113 (by omega) (by omega)
set_option maxHeartbeats 4000000 in
set_option maxRecDepth 10000 in
theorem lf_load_b168 {P : Nat → Int32} (hP : PL P) {Q : Int32 × MS → Prop} {k158 : MS → Int32 → Option (Int32 × MS)} (l2 : Int32) (g0 : 0 ≤ l2.toInt ∧ l2.toInt ≤ 143) (hx0 : ∀ (S : MS), (IC P S) → Tot (elet (l2 + Int32.ofInt (1)) fun v_150 => k158 S v_150) Q) : ∀ (n : Nat) (S : MS) (l3 : Int32), (IC P S) → (0 ≤ l3.toInt ∧ l3.toInt ≤ 12) → 12 - l3.toInt < (n : Int) → Tot (fr_load_b168 k158 n S l2 l3) Q := by
  have z0 : (12 : Int32).toInt = 12 := by decide
  have z1 : (0 : Int32).toInt = 0 := by decide
  have z2 : (1 : Int32).toInt = 1 := by decide
  have z3 : (Int32.ofInt (1) : Int32).toInt = 1 := by decide
  have p_4 := pl_4 hP
  have j_l2 := i_any l2
  intro n
  induction n with
  | zero =>
    intro S l3 h_S g_l3 hm
    exfalso
    omega
  | succ n ih =>
    intro S l3 h_S g_l3 hm
    unfold fr_load_b168
    refine tot_let (fun v_149 e_v_149 => ?_)
    have q_v_149 := ic_p h_S e_v_149
    refine tot_if (fun c_173 => ?_) (fun c_173 => ?_)
    · replace c_173 := i_le c_173
      exact hx0 S h_S
    · replace c_173 := i_nle c_173
      refine tot_let (fun v_151 e_v_151 => ?_)
      have q_v_151 := i_mulk e_v_151 z0 (by omega) (by omega)
      refine tot_let (fun v_152 e_v_152 => ?_)
      have q_v_152 := i_add e_v_152 (by omega) (by omega)
      refine tot_bindp (R := fun r_153 : Int32 => (-999 ≤ r_153.toInt ∧ r_153.toInt ≤ 15156)) (sf_centre hP S l2 0 h_S (by omega) (by omega)) (fun r_153 d_r_153 => ?_)
      replace d_r_153 : (-999 ≤ r_153.toInt ∧ r_153.toInt ≤ 15156) := d_r_153
      refine tot_bindp (R := fun r_155 : Int32 => (-999 ≤ r_155.toInt ∧ r_155.toInt ≤ 15156)) (sf_centre hP S l2 1 h_S (by omega) (by omega)) (fun r_155 d_r_155 => ?_)
      replace d_r_155 : (-999 ≤ r_155.toInt ∧ r_155.toInt ≤ 15156) := d_r_155
      refine tot_bindp (R := fun r_157 : Int32 => (0 ≤ r_157.toInt ∧ r_157.toInt ≤ 65535)) (sf_delayFrom hP S l3 r_153 r_155 h_S (by omega) (by omega) (by omega)) (fun r_157 d_r_157 => ?_)
      replace d_r_157 : (0 ≤ r_157.toInt ∧ r_157.toInt ≤ 65535) := d_r_157
      refine tot_oif (i_inb (by omega) (by omega)) ?_
      refine tot_let (fun S_159 e_S_159 => ?_)
      have h_S_159 : IC P S_159 := by rw [e_S_159]; exact ic_mf17 h_S (by omega)
      refine tot_let (fun v_160 e_v_160 => ?_)
      have q_v_160 := i_add e_v_160 (by omega) (by omega)
      exact ih S_159 v_160 h_S_159 (by omega) (by omega)
set_option maxHeartbeats 4000000 in
set_option maxRecDepth 10000 in
theorem lf_load_b158 {P : Nat → Int32} (hP : PL P) {Q : Int32 × MS → Prop} (hx0 : ∀ (S : MS), (IC P S) → Tot (obind (fr_records_12 S) fun S_118 => elet (mi S_118 20 1) fun S_119 => elet (mf S_119 18 (upd (S_119.2.1 18) 0 0)) fun S_120 => elet (mf S_120 18 (upd (S_120.2.1 18) 1 0)) fun S_121 => elet (mi S_121 19 0) fun S_122 => obind2 (fr_cellCount S_122) fun r_123 S_124 => some (r_123, S_124)) Q) : ∀ (n : Nat) (S : MS) (l2 : Int32), (IC P S) → (0 ≤ l2.toInt ∧ l2.toInt ≤ 144) → 144 - l2.toInt < (n : Int) → Tot (fr_load_b158 n S l2) Q := by
  have z0 : (0 : Int32).toInt = 0 := by decide
  have z1 : (Int32.ofInt (1) : Int32).toInt = 1 := by decide
  have p_9 := pl_9 hP
  have p_10 := pl_10 hP
  have p_cells := pl_cells hP
  intro n
  induction n with
  | zero =>
    intro S l2 h_S g_l2 hm
    exfalso
    omega
  | succ n ih =>
    intro S l2 h_S g_l2 hm
    unfold fr_load_b158
    refine tot_bindp (R := fun r_116 : Int32 => ((1 ≤ r_116.toInt ∧ r_116.toInt ≤ 144) ∧ r_116.toInt = (P 9).toInt * (P 10).toInt)) (sf_cellCount hP S h_S ) (fun r_116 d_r_116 => ?_)
    replace d_r_116 : ((1 ≤ r_116.toInt ∧ r_116.toInt ≤ 144) ∧ r_116.toInt = (P 9).toInt * (P 10).toInt) := d_r_116
    refine tot_if (fun c_148 => ?_) (fun c_148 => ?_)
    · replace c_148 := i_le c_148
      exact hx0 S h_S
    · replace c_148 := i_nle c_148
      refine lf_load_b168 hP l2 (by omega) ?_ 16384 S 0 h_S (by omega) (by omega)
      · intro S_174 h_S_174
        refine tot_let (fun v__175 e_v__175 => ?_)
        have q_v__175 := i_add e_v__175 (by omega) (by omega)
        exact ih S_174 v__175 h_S_174 (by omega) (by omega)
set_option maxHeartbeats 4000000 in
set_option maxRecDepth 10000 in
theorem lcam {P : Nat → Int32} (hP : PL P) (S : MS) (h_S : IC P S) : Tot (fr_load_b107 16384 S 0) (fun r => IC P r.2 ∧ (1 ≤ r.1.toInt ∧ r.1.toInt ≤ 144)) := by
  have z0 : (0 : Int32).toInt = 0 := by decide
  have z1 : (1 : Int32).toInt = 1 := by decide
  have p_9 := pl_9 hP
  have p_10 := pl_10 hP
  have p_cells := pl_cells hP
  refine lf_load_b107 hP  ?_ 16384 S 0 h_S (by omega) (by omega)
  · intro S_115 h_S_115
    refine lf_load_b158 hP  ?_ 16384 S_115 0 h_S_115 (by omega) (by omega)
    · intro S_176 h_S_176
      refine tot_bind (sf_records_12 hP S_176 h_S_176 ) (fun S__177 d_S__177 => ?_)
      have h_S__177 : IC P S__177 := d_S__177.1
      refine tot_let (fun S__178 e_S__178 => ?_)
      have h_S__178 : IC P S__178 := by rw [e_S__178]; exact ic_mi20 h_S__177 _
      refine tot_let (fun S__179 e_S__179 => ?_)
      have h_S__179 : IC P S__179 := by rw [e_S__179]; exact ic_mf18 h_S__178 (by omega)
      refine tot_let (fun S__180 e_S__180 => ?_)
      have h_S__180 : IC P S__180 := by rw [e_S__180]; exact ic_mf18 h_S__179 (by omega)
      refine tot_let (fun S__181 e_S__181 => ?_)
      have h_S__181 : IC P S__181 := by rw [e_S__181]; exact ic_mi19 h_S__180 (by omega) (by omega)
      refine tot_bindp (R := fun r__182 : Int32 => ((1 ≤ r__182.toInt ∧ r__182.toInt ≤ 144) ∧ r__182.toInt = (P 9).toInt * (P 10).toInt)) (sf_cellCount hP S__181 h_S__181 ) (fun r__182 d_r__182 => ?_)
      replace d_r__182 : ((1 ≤ r__182.toInt ∧ r__182.toInt ≤ 144) ∧ r__182.toInt = (P 9).toInt * (P 10).toInt) := d_r__182
      exact tot_some ⟨h_S__181, (show (1 ≤ r__182.toInt ∧ r__182.toInt ≤ 144) from by omega)⟩
end
section
/-! 12d.clean.lean.txt -/
/-! Safety by hand: clean -/
/-- some microphone that hears has a weight -/
def HW (P : Nat → Int32) (S : MS) : Prop := ∃ m : Nat, (m : Int) < (P 4).toInt ∧ (S.2.1 12 (1 + m)).toInt = 0 ∧ 1 ≤ (S.2.1 12 (13 + m)).toInt
/-- the window leaves room for the delay of each microphone that hears -/
def DW (P : Nat → Int32) (S : MS) (w : Int32) : Prop := ∀ m : Nat, (m : Int) < (P 4).toInt → (S.2.1 12 (1 + m)).toInt = 0 → 0 < w.toInt → (S.2.1 24 m).toInt + w.toInt ≤ 200
theorem sfh_12 {P : Nat → Int32} (hP : PL P) (S : MS) (a1 : Int32) (h_S : IC P S) (g0 : 0 ≤ a1.toInt ∧ a1.toInt ≤ 11) : Tot (fr_hears_12 S a1) (fun r => r.2 = S ∧ ((r.1.toInt = 0 ∧ ¬ (S.2.1 12 (1 + a1.toNatClampNeg)).toInt = 0) ∨ (r.1.toInt = 1 ∧ (S.2.1 12 (1 + a1.toNatClampNeg)).toInt = 0))) := by
  have z0 : (0 : Int32).toInt = 0 := by decide
  have z1 : (1 : Int32).toInt = 1 := by decide
  unfold fr_hears_12
  refine tot_let (fun v2 e2 => ?_)
  have q2 := i_add e2 (by omega) (by omega)
  refine tot_oif (i_inb (by omega) (by omega)) ?_
  have x2 := i_cl (i := v2) (by omega)
  have x1 := i_cl (i := a1) (by omega)
  refine tot_let (fun v4 e4 => ?_)
  rw [show v2.toNatClampNeg = 1 + a1.toNatClampNeg from by omega] at e4
  rw [← e4]
  refine tot_if (fun c => ?_) (fun c => ?_)
  · replace c := i_eq c
    unfold fr_hears_12_b13
    refine tot_oif (i_b01 (by omega)) ?_
    exact tot_some ⟨rfl, .inr ⟨z1, by omega⟩⟩
  · replace c := i_ne c
    unfold fr_hears_12_b13
    refine tot_oif (i_b01 (by omega)) ?_
    exact tot_some ⟨rfl, .inl ⟨z0, by omega⟩⟩
theorem lfW {P : Nat → Int32} (hP : PL P) (S : MS) (h_S : IC P S) : ∀ (n : Nat) (l1 : Int32) (l2 : Int32), (0 ≤ l1.toInt ∧ l1.toInt ≤ 9 * l2.toInt) → (0 ≤ l2.toInt ∧ l2.toInt ≤ 12) → (¬ l1.toInt = 0 → HW P S) → (∀ m : Nat, (m : Int) < l2.toInt → (S.2.1 12 (1 + m)).toInt = 0 → 1 ≤ (S.2.1 12 (13 + m)).toInt → 1 ≤ l1.toInt) → 12 - l2.toInt < (n : Int) → Tot (fr_weightOf_b4 n S l1 l2) (fun r => r.2 = S ∧ (0 ≤ r.1.toInt ∧ r.1.toInt ≤ 108) ∧ (¬ r.1.toInt = 0 → HW P S) ∧ (HW P S → 1 ≤ r.1.toInt)) := by
  have z0 : (0 : Int32).toInt = 0 := by decide
  have z1 : (Int32.ofInt (1) : Int32).toInt = 1 := by decide
  have z2 : (13 : Int32).toInt = 13 := by decide
  have p_4 := pl_4 hP
  intro n
  induction n with
  | zero =>
    intro l1 l2 g1 g2 _ _ hm
    exfalso
    omega
  | succ n ih =>
    intro l1 l2 g1 g2 h1 h2 hm
    unfold fr_weightOf_b4
    refine tot_let (fun v_10 e_v_10 => ?_)
    have q_v_10 := ic_p h_S e_v_10
    refine tot_if (fun c_24 => ?_) (fun c_24 => ?_)
    · replace c_24 := i_le c_24
      refine tot_some ⟨rfl, ⟨g1.1, ?_⟩, h1, ?_⟩
      · show l1.toInt ≤ 108
        omega
      · rintro ⟨m, m1, m2, m3⟩
        exact h2 m (by omega) m2 m3
    · replace c_24 := i_nle c_24
      have x2 := i_cl (i := l2) (by omega)
      refine tot_bindp (R := fun r : Int32 => (r.toInt = 0 ∧ ¬ (S.2.1 12 (1 + l2.toNatClampNeg)).toInt = 0) ∨ (r.toInt = 1 ∧ (S.2.1 12 (1 + l2.toNatClampNeg)).toInt = 0)) (sfh_12 hP S l2 h_S (by omega)) (fun r d => ?_)
      replace d : (r.toInt = 0 ∧ ¬ (S.2.1 12 (1 + l2.toNatClampNeg)).toInt = 0) ∨ (r.toInt = 1 ∧ (S.2.1 12 (1 + l2.toNatClampNeg)).toInt = 0) := d
      refine tot_if (fun c => ?_) (fun c => ?_)
      · replace c := i_eq c
        unfold fr_weightOf_b40
        refine tot_let (fun v_26 e_v_26 => ?_)
        have q_v_26 := i_add e_v_26 (by omega) (by omega)
        refine tot_let (fun v_27 e_v_27 => ?_)
        have q_v_27 := i_add e_v_27 (by omega) (by omega)
        refine ih v_26 v_27 (by omega) (by omega) (fun q => h1 (by omega)) (fun m m1 m2 m3 => ?_) (by omega)
        by_cases e : m = l2.toNatClampNeg
        · subst e
          omega
        · have := h2 m (by omega) m2 m3
          omega
      · replace c := i_ne c
        refine tot_let (fun v_13 e_v_13 => ?_)
        have q_v_13 := i_add e_v_13 (by omega) (by omega)
        refine tot_oif (i_inb (by omega) (by omega)) ?_
        have x3 := i_cl (i := v_13) (by omega)
        refine tot_let (fun v_14 e_v_14 => ?_)
        have r_v_14 := nR_13 (ic_12 h_S e_v_14) (by omega) (by omega)
        rw [show v_13.toNatClampNeg = 13 + l2.toNatClampNeg from by omega] at e_v_14
        unfold fr_weightOf_b40
        refine tot_let (fun v_28 e_v_28 => ?_)
        have q_v_28 := i_add e_v_28 (by omega) (by omega)
        refine tot_let (fun v_29 e_v_29 => ?_)
        have q_v_29 := i_add e_v_29 (by omega) (by omega)
        refine ih v_28 v_29 (by omega) (by omega) (fun q => ?_) (fun m m1 m2 m3 => ?_) (by omega)
        · by_cases e : l1.toInt = 0
          · exact ⟨l2.toNatClampNeg, by omega, by omega, by rw [← e_v_14]; omega⟩
          · exact h1 e
        · by_cases e : m = l2.toNatClampNeg
          · subst e
            rw [← e_v_14] at m3
            omega
          · have := h2 m (by omega) m2 m3
            omega
theorem sfW {P : Nat → Int32} (hP : PL P) (S : MS) (h_S : IC P S) : Tot (fr_weightOf S) (fun r => r.2 = S ∧ (0 ≤ r.1.toInt ∧ r.1.toInt ≤ 108) ∧ (¬ r.1.toInt = 0 → HW P S) ∧ (HW P S → 1 ≤ r.1.toInt)) := by
  have z0 : (0 : Int32).toInt = 0 := by decide
  unfold fr_weightOf
  exact lfW hP S h_S 16384 0 0 (by omega) (by omega) (fun q => absurd z0 q) (fun m m1 _ _ => by omega) (by omega)
theorem lfD {P : Nat → Int32} (hP : PL P) (S : MS) (h_S : IC P S) : ∀ (n : Nat) (l2 : Int32) (l3 : Int32), (0 ≤ l2.toInt ∧ l2.toInt ≤ 65535) → (0 ≤ l3.toInt ∧ l3.toInt ≤ 12) → (∀ m : Nat, (m : Int) < l3.toInt → (S.2.1 12 (1 + m)).toInt = 0 → (S.2.1 24 m).toInt ≤ l2.toInt) → 12 - l3.toInt < (n : Int) → Tot (fr_windowOf_12_b4 n S l2 l3) (fun r => r.2 = S ∧ (0 ≤ r.1.toInt ∧ r.1.toInt ≤ 200) ∧ DW P S r.1) := by
  have z0 : (0 : Int32).toInt = 0 := by decide
  have z1 : (Int32.ofInt (1) : Int32).toInt = 1 := by decide
  have p_4 := pl_4 hP
  have p_2 := pl_2 hP
  intro n
  induction n with
  | zero =>
    intro l2 l3 g_l2 g_l3 _ hm
    exfalso
    omega
  | succ n ih =>
    intro l2 l3 g_l2 g_l3 h hm
    unfold fr_windowOf_12_b4
    refine tot_let (fun v_11 e_v_11 => ?_)
    have q_v_11 := ic_p h_S e_v_11
    refine tot_if (fun c_29 => ?_) (fun c_29 => ?_)
    · replace c_29 := i_le c_29
      refine tot_let (fun v4 e4 => ?_)
      have q4 := ic_p h_S e4
      refine tot_let (fun v5 e5 => ?_)
      have q5 := i_sub e5 (by omega) (by omega)
      refine tot_let (fun v6 e6 => ?_)
      have q6 := i_ilt e6
      refine tot_some ⟨rfl, ?_, ?_⟩
      · show 0 ≤ v6.toInt ∧ v6.toInt ≤ 200
        omega
      · intro m m1 m2 m3
        have m3 : 0 < v6.toInt := m3
        have := h m (by omega) m2
        show (S.2.1 24 m).toInt + v6.toInt ≤ 200
        omega
    · replace c_29 := i_nle c_29
      have x2 := i_cl (i := l3) (by omega)
      refine tot_bindp (R := fun r : Int32 => (r.toInt = 0 ∧ ¬ (S.2.1 12 (1 + l3.toNatClampNeg)).toInt = 0) ∨ (r.toInt = 1 ∧ (S.2.1 12 (1 + l3.toNatClampNeg)).toInt = 0)) (sfh_12 hP S l3 h_S (by omega)) (fun r d => ?_)
      replace d : (r.toInt = 0 ∧ ¬ (S.2.1 12 (1 + l3.toNatClampNeg)).toInt = 0) ∨ (r.toInt = 1 ∧ (S.2.1 12 (1 + l3.toNatClampNeg)).toInt = 0) := d
      refine tot_if (fun c_30 => ?_) (fun c_30 => ?_)
      · replace c_30 := i_eq c_30
        unfold fr_windowOf_12_b37
        refine tot_let (fun v_31 e_v_31 => ?_)
        have q_v_31 := i_add e_v_31 (by omega) (by omega)
        refine ih l2 v_31 (by omega) (by omega) (fun m m1 m2 => ?_) (by omega)
        by_cases e : m = l3.toNatClampNeg
        · subst e
          omega
        · exact h m (by omega) m2
      · replace c_30 := i_ne c_30
        refine tot_oif (i_inb (by omega) (by omega)) ?_
        refine tot_let (fun v_17 e_v_17 => ?_)
        have r_v_17 := ic_24 h_S e_v_17
        refine tot_let (fun v_18 e_v_18 => ?_)
        have q_v_18 := i_ilt e_v_18
        unfold fr_windowOf_12_b37
        refine tot_let (fun v_32 e_v_32 => ?_)
        have q_v_32 := i_add e_v_32 (by omega) (by omega)
        refine ih v_18 v_32 (by omega) (by omega) (fun m m1 m2 => ?_) (by omega)
        by_cases e : m = l3.toNatClampNeg
        · subst e
          rw [← e_v_17]
          omega
        · have := h m (by omega) m2
          omega
theorem sfD {P : Nat → Int32} (hP : PL P) (S : MS) (h_S : IC P S) : Tot (fr_windowOf_12 S) (fun r => r.2 = S ∧ (0 ≤ r.1.toInt ∧ r.1.toInt ≤ 200) ∧ DW P S r.1) := by
  have z0 : (0 : Int32).toInt = 0 := by decide
  unfold fr_windowOf_12
  exact lfD hP S h_S 16384 0 0 (by omega) (by omega) (fun m m1 _ => by omega) (by omega)
def CI (P : Nat → Int32) (S : MS) (w : Int32) : Prop := IC P S ∧ HW P S ∧ DW P S w
theorem ci_12 {P : Nat → Int32} (hP : PL P) {S : MS} {w k v : Int32} (h : CI P S w) (hk : 55 ≤ k.toInt) : CI P (mf S 12 (upd (S.2.1 12) k.toNatClampNeg v)) w := by
  have x := i_cl (i := k) (by omega)
  have p_4 := pl_4 hP
  have e : ∀ j, j < 55 → (mf S 12 (upd (S.2.1 12) k.toNatClampNeg v)).2.1 12 j = S.2.1 12 j := fun j hj => by
    rw [mf_at]
    unfold upd
    rw [if_neg (by omega)]
  refine ⟨ic_mf12 h.1 (by unfold nR; omega), ?_, ?_⟩
  · obtain ⟨m, m1, m2, m3⟩ := h.2.1
    exact ⟨m, m1, by rw [e _ (by omega)]; exact m2, by rw [e _ (by omega)]; exact m3⟩
  · intro m m1 m2 m3
    exact h.2.2 m m1 (by rw [e _ (by omega)] at m2; exact m2) m3
theorem ci_29 {P : Nat → Int32} {S : MS} {w : Int32} {f : Nat → Int32} (h : CI P S w) : CI P (mf S 29 f) w := ⟨ic_mf29 h.1 f, h.2.1, h.2.2⟩
theorem lf_clean_b122 {P : Nat → Int32} (hP : PL P) {Q : Int32 × MS → Prop} {k108 : MS → Int32 → Int32 → Int32 → Int32 → Option (Int32 × MS)} (l1 l2 l3 l4 : Int32) (g3 : 0 ≤ l3.toInt ∧ l3.toInt ≤ 200) (g4 : 0 ≤ l4.toInt ∧ l4.toInt < (P 4).toInt) (hx : ∀ S : MS, CI P S l3 → Tot (fr_clean_b196 k108 S l1 l2 l3 l4) Q) : ∀ (n : Nat) (S : MS) (l5 : Int32), CI P S l3 → (0 ≤ l5.toInt ∧ l5.toInt ≤ 200) → 200 - l5.toInt < (n : Int) → Tot (fr_clean_b122 k108 n S l1 l2 l3 l4 l5) Q := by
  have z0 : (0 : Int32).toInt = 0 := by decide
  have z1 : (Int32.ofInt (1) : Int32).toInt = 1 := by decide
  have z200 : (200 : Int32).toInt = 200 := by decide
  have z55 : (55 : Int32).toInt = 55 := by decide
  have z100 : (100 : Int32).toInt = 100 := by decide
  have p_4 := pl_4 hP
  intro n
  induction n with
  | zero =>
    intro S l5 h g5 hm
    exfalso
    omega
  | succ n ih =>
    intro S l5 h g5 hm
    unfold fr_clean_b122
    refine tot_if (fun c => ?_) (fun c => ?_)
    · exact hx S h
    · replace c := i_nle c
      have x4 := i_cl (i := l4) (by omega)
      refine tot_bindp (R := fun r : Int32 => (r.toInt = 0 ∧ ¬ (S.2.1 12 (1 + l4.toNatClampNeg)).toInt = 0) ∨ (r.toInt = 1 ∧ (S.2.1 12 (1 + l4.toNatClampNeg)).toInt = 0)) (sfh_12 hP S l4 h.1 (by omega)) (fun r d => ?_)
      replace d : (r.toInt = 0 ∧ ¬ (S.2.1 12 (1 + l4.toNatClampNeg)).toInt = 0) ∨ (r.toInt = 1 ∧ (S.2.1 12 (1 + l4.toNatClampNeg)).toInt = 0) := d
      refine tot_if (fun c2 => ?_) (fun c2 => ?_)
      · exact hx S h
      · replace c2 := i_ne c2
        have dl := h.2.2 l4.toNatClampNeg (by omega) (by omega) (by omega)
        refine tot_let (fun v8 e8 => ?_)
        have q8 := i_mulk e8 z200 (by omega) (by omega)
        refine tot_let (fun v9 e9 => ?_)
        have q9 := i_add e9 (by omega) (by omega)
        refine tot_let (fun v10 e10 => ?_)
        have q10 := i_add e10 (by omega) (by omega)
        refine tot_oif (i_inb (by omega) (by omega)) ?_
        refine tot_let (fun v12 e12 => ?_)
        have r12 := ic_24 h.1 e12
        rw [← e12] at dl
        refine tot_let (fun v13 e13 => ?_)
        have q13 := i_add e13 (by omega) (by omega)
        refine tot_oif (i_inb (by omega) (by omega)) ?_
        refine tot_let (fun v15 e15 => ?_)
        refine tot_oif (i_inb (by omega) (by omega)) ?_
        refine tot_let (fun v17 e17 => ?_)
        refine tot_let (fun v18 e18 => ?_)
        refine tot_let (fun v19 e19 => ?_)
        refine tot_let (fun v20 e20 => ?_)
        refine tot_bindp (R := fun r : Int32 => (0 ≤ r.toInt ∧ r.toInt ≤ 108) ∧ (¬ r.toInt = 0 → HW P S) ∧ (HW P S → 1 ≤ r.toInt)) (sfW hP S h.1) (fun r24 d24 => ?_)
        have w1 : 1 ≤ r24.toInt := d24.2.2 h.2.1
        have w2 : r24.toInt ≤ 108 := d24.1.2
        refine tot_let (fun v25 e25 => ?_)
        have q25 := i_mulk e25 z100 (by omega) (by omega)
        refine tot_let (fun v26 e26 => ?_)
        refine tot_oif (by rw [e26]; exact i_nz64 (by omega)) ?_
        refine tot_let (fun v28 e28 => ?_)
        refine tot_let (fun v29 e29 => ?_)
        refine tot_let (fun v30 e30 => ?_)
        refine tot_oif (i_inb (by omega) (by omega)) ?_
        refine tot_let (fun S32 e32 => ?_)
        have h32 : CI P S32 l3 := by rw [e32]; exact ci_12 hP h (by omega)
        refine tot_let (fun v33 e33 => ?_)
        have q33 := i_add e33 (by omega) (by omega)
        exact ih S32 v33 h32 (by omega) (by omega)
theorem lf_clean_b108 {P : Nat → Int32} (hP : PL P) (l1 l2 l3 : Int32) (g2 : 0 ≤ l2.toInt ∧ l2.toInt ≤ 143) (g3 : 0 ≤ l3.toInt ∧ l3.toInt ≤ 200) : ∀ (n : Nat) (S : MS) (l4 : Int32), CI P S l3 → (0 ≤ l4.toInt ∧ l4.toInt ≤ 12) → 12 - l4.toInt < (n : Int) → Tot (fr_clean_b108 n S l1 l2 l3 l4) (fun r => IC P r.2 ∧ (0 ≤ r.1.toInt ∧ r.1.toInt ≤ 143)) := by
  have z0 : (0 : Int32).toInt = 0 := by decide
  have z1 : (Int32.ofInt (1) : Int32).toInt = 1 := by decide
  have p_4 := pl_4 hP
  intro n
  induction n with
  | zero =>
    intro S l4 h g4 hm
    exfalso
    omega
  | succ n ih =>
    intro S l4 h g4 hm
    unfold fr_clean_b108
    refine tot_let (fun v2 e2 => ?_)
    have q2 := ic_p h.1 e2
    refine tot_if (fun c => ?_) (fun c => ?_)
    · refine tot_let (fun v4 e4 => ?_)
      refine tot_let (fun v5 e5 => ?_)
      refine tot_let (fun S6 e6 => ?_)
      have h6 : IC P S6 := by rw [e6]; exact ic_mf12 h.1 (nR_0 _)
      exact tot_some ⟨h6, g2⟩
    · replace c := i_nle c
      refine lf_clean_b122 hP l1 l2 l3 l4 g3 (by omega) (fun S1 h1 => ?_) 16384 S 0 h (by omega) (by omega)
      unfold fr_clean_b196
      refine tot_let (fun v3 e3 => ?_)
      have q3 := i_add e3 (by omega) (by omega)
      exact ih S1 v3 h1 (by omega) (by omega)
theorem lf_clean_b76 {P : Nat → Int32} (hP : PL P) (l1 l2 l3 : Int32) (g2 : 0 ≤ l2.toInt ∧ l2.toInt ≤ 143) (g3 : 0 ≤ l3.toInt ∧ l3.toInt ≤ 200) : ∀ (n : Nat) (S : MS) (l4 : Int32), CI P S l3 → (0 ≤ l4.toInt ∧ l4.toInt ≤ 200) → 200 - l4.toInt < (n : Int) → Tot (fr_clean_b76 n S l1 l2 l3 l4) (fun r => IC P r.2 ∧ (0 ≤ r.1.toInt ∧ r.1.toInt ≤ 143)) := by
  have z0 : (0 : Int32).toInt = 0 := by decide
  have z1 : (Int32.ofInt (1) : Int32).toInt = 1 := by decide
  intro n
  induction n with
  | zero =>
    intro S l4 h g4 hm
    exfalso
    omega
  | succ n ih =>
    intro S l4 h g4 hm
    unfold fr_clean_b76
    refine tot_if (fun c => ?_) (fun c => ?_)
    · exact lf_clean_b108 hP l1 l2 l3 g2 g3 16384 S 0 h (by omega) (by omega)
    · replace c := i_nle c
      refine tot_bindp (R := fun r : Int32 => True) (sf_beamAt_12 hP S l4 h.1 (by omega)) (fun r6 _ => ?_)
      refine tot_oif (i_inb (by omega) (by omega)) ?_
      refine tot_let (fun S8 e8 => ?_)
      have h8 : CI P S8 l3 := by rw [e8]; exact ci_29 h
      refine tot_let (fun v9 e9 => ?_)
      have q9 := i_add e9 (by omega) (by omega)
      exact ih S8 v9 h8 (by omega) (by omega)
theorem sf_clean_b34 {P : Nat → Int32} (hP : PL P) (S : MS) (s0 l1 : Int32) (h_S : IC P S) (hw : s0.toInt ≤ 0 → HW P S) : Tot (fr_clean_b34 S s0 l1) (fun r => IC P r.2 ∧ (0 ≤ r.1.toInt ∧ r.1.toInt ≤ 143)) := by
  have z0 : (0 : Int32).toInt = 0 := by decide
  unfold fr_clean_b34
  refine tot_let (fun S2 e2 => ?_)
  have h2 : IC P S2 := by rw [e2]; exact ic_mi0 h_S _
  have f2 : (S2.1 0).toInt = s0.toInt := by rw [e2]; rfl
  have a2 : S2.2.1 12 = S.2.1 12 := by rw [e2]; rfl
  refine tot_let (fun v3 e3 => ?_)
  have q3 := i_eq e3
  refine tot_if (fun c => ?_) (fun c => ?_)
  · replace c := i_le c
    have w := hw (by omega)
    refine tot_bind (tot_and (sf_remember hP S2 h2) (fun S5 e => w_fr_remember e)) (fun S5 d5 => ?_)
    have h5 : IC P S5 := d5.1.1
    have a5 : S5.2.1 12 = S.2.1 12 := (d5.2.2 12 (by decide)).trans a2
    refine tot_bind2 (tot_and (sf_bestIn_12 hP S5 h5) (fun r e => w_fr_bestIn_12 (r1 := r.1) (S1 := r.2) e)) (fun r11 S8 d8 => ?_)
    have h8 : IC P S8 := d8.1.1
    have g8 : 0 ≤ r11.toInt ∧ r11.toInt ≤ 143 := d8.1.2
    have a8 : S8.2.1 12 = S.2.1 12 := (d8.2.2 12 (by decide)).trans a5
    refine tot_bind (tot_and (sf_laysCell hP S8 r11 h8 (by omega)) (fun S5 e => w_fr_laysCell e)) (fun S12 d12 => ?_)
    have h12 : IC P S12 := d12.1.1
    have a12 : S12.2.1 12 = S.2.1 12 := (d12.2.2 12 (by decide)).trans a8
    refine tot_bindp (R := fun r : Int32 => (0 ≤ r.toInt ∧ r.toInt ≤ 200) ∧ DW P S12 r) (sfD hP S12 h12) (fun r18 d18 => ?_)
    refine lf_clean_b76 hP l1 r11 r18 g8 d18.1 16384 S12 0 ⟨h12, ?_, d18.2⟩ (by omega) (by have := d18.1; omega)
    unfold HW
    rw [a12]
    exact w
  · exact tot_some ⟨h2, show 0 ≤ (0 : Int32).toInt ∧ (0 : Int32).toInt ≤ 143 from by omega⟩
theorem sf_clean {P : Nat → Int32} (hP : PL P) (S : MS) (a0 : Int32) (h_S : IC P S) : Tot (fr_clean S a0) (fun r => IC P r.2 ∧ (0 ≤ r.1.toInt ∧ r.1.toInt ≤ 143)) := by
  have z0 : (0 : Int32).toInt = 0 := by decide
  have z1 : (1 : Int32).toInt = 1 := by decide
  have z2 : (2 : Int32).toInt = 2 := by decide
  have z100 : (100 : Int32).toInt = 100 := by decide
  unfold fr_clean
  refine tot_let (fun v2 e2 => ?_)
  refine tot_if (fun c => ?_) (fun c => ?_)
  · unfold fr_clean_b15
    exact sf_clean_b34 hP S 1 a0 h_S (fun q => by omega)
  · refine tot_bindp (R := fun r : Int32 => (0 ≤ r.toInt ∧ r.toInt ≤ 108) ∧ (¬ r.toInt = 0 → HW P S) ∧ (HW P S → 1 ≤ r.toInt)) (sfW hP S h_S) (fun r7 d7 => ?_)
    refine tot_if (fun c => ?_) (fun c => ?_)
    · unfold fr_clean_b15
      exact sf_clean_b34 hP S 1 a0 h_S (fun q => by omega)
    · replace c := i_ne c
      refine tot_bind (sf_in hP a0 1 100) (fun r9 _ => ?_)
      refine tot_if (fun c => ?_) (fun c => ?_)
      · exact sf_clean_b34 hP S 2 a0 h_S (fun q => by omega)
      · exact sf_clean_b34 hP S 0 a0 h_S (fun _ => d7.2.1 (by omega))
end
section
/-! 12e.tok.lean.txt -/
/-! Safety of the reference's tokens -/
def TK (S : MS) : Prop := ((0 ≤ (S.1 3).toInt ∧ (S.1 3).toInt ≤ 1000) ∧ 0 ≤ (S.1 4).toInt ∧ (S.1 4).toInt ≤ (S.1 3).toInt) ∧ (0 ≤ (S.1 5).toInt ∧ (S.1 5).toInt ≤ 5) ∧ (0 ≤ (S.1 7).toInt ∧ (S.1 7).toInt ≤ 4) ∧ 0 ≤ (S.1 8).toInt ∧ (S.1 8).toInt ≤ (S.1 4).toInt
def TKa (S : MS) : Prop := ((0 ≤ (S.1 3).toInt ∧ (S.1 3).toInt ≤ 1000) ∧ 0 ≤ (S.1 4).toInt ∧ (S.1 4).toInt ≤ (S.1 3).toInt) ∧ (0 ≤ (S.1 5).toInt ∧ (S.1 5).toInt ≤ 5) ∧ (0 ≤ (S.1 7).toInt ∧ (S.1 7).toInt ≤ 4)
theorem TK.a {S : MS} (h : TK S) : TKa S := ⟨h.1, h.2.1, h.2.2.1⟩
/-- what reading a token leaves: the scalars alone -/
def KS (S S1 : MS) : Prop := TK S1 ∧ ((0 < (S.1 5).toInt → 0 < (S1.1 5).toInt) ∧ (S.1 4).toInt ≤ (S1.1 4).toInt ∧ ((S1.1 7).toInt = 4 → (S.1 7).toInt = 4 ∨ (S.1 4).toInt < (S1.1 4).toInt))
def KP (S S1 : MS) : Prop := KS S S1 ∧ S1.2 = S.2
theorem KS.tr {S S1 S2 : MS} (h : KS S S1) (k : KS S1 S2) : KS S S2 := ⟨k.1, by
  have h1 := h.2
  have k1 := k.2
  omega⟩
theorem KP.tr {S S1 S2 : MS} (h : KP S S1) (k : KP S1 S2) : KP S S2 := ⟨h.1.tr k.1, k.2.trans h.2⟩
theorem KS.rf {S : MS} (h : TK S) : KS S S := ⟨h, by omega⟩
theorem KP.rf {S : MS} (h : TK S) : KP S S := ⟨KS.rf h, rfl⟩
theorem tin (a0 a1 a2 : Int32) : Tot (fr_in a0 a1 a2) (fun r => r.toInt = 0 ∧ (a0.toInt < a1.toInt ∨ a2.toInt < a0.toInt) ∨ r.toInt = 1 ∧ a1.toInt ≤ a0.toInt ∧ a0.toInt ≤ a2.toInt) := by
  have z0 : (0 : Int32).toInt = 0 := by decide
  have z1 : (1 : Int32).toInt = 1 := by decide
  unfold fr_in fr_in_b14 fr_in_b15
  refine tot_if (fun c => ?_) (fun c => ?_)
  · replace c := i_lt c
    exact tot_oif (.inl rfl) (tot_some (by omega))
  · replace c := i_nlt c
    refine tot_if (fun c2 => ?_) (fun c2 => ?_)
    · replace c2 := i_lt c2
      exact tot_oif (.inl rfl) (tot_some (by omega))
    · replace c2 := i_nlt c2
      exact tot_oif (.inr rfl) (tot_some (by omega))
theorem tsign (a0 : Int32) : Tot (fr_isSign a0) (fun _ => True) := by
  have h1 : Tot (fr_isSign_b42) (fun _ => True) := by
    unfold fr_isSign_b42 fr_isSign_b47
    exact tot_oif (.inr rfl) (tot_some trivial)
  unfold fr_isSign
  refine tot_if (fun _ => h1) (fun _ => tot_if (fun _ => h1) (fun _ => tot_if (fun _ => h1) (fun _ => tot_if (fun _ => h1) (fun _ => tot_if (fun _ => h1) (fun _ => tot_if (fun _ => h1) (fun _ => tot_if (fun _ => h1) (fun _ => ?_)))))))
  unfold fr_isSign_b47
  exact tot_oif (.inl rfl) (tot_some trivial)
theorem tbytea {S : MS} (a0 : Int32) (h : TKa S) (g : 0 ≤ a0.toInt ∧ a0.toInt ≤ 1000) : Tot (fr_byteAt S a0) (fun r => r.2 = S ∧ ((S.1 3).toInt ≤ a0.toInt ∧ r.1.toInt = -1 ∨ a0.toInt < (S.1 3).toInt)) := by
  have z1 : (-1 : Int32).toInt = -1 := by decide
  unfold TKa at h
  unfold fr_byteAt
  refine tot_let (fun v2 e2 => ?_)
  have q2 := i_eq e2
  refine tot_if (fun c => ?_) (fun c => ?_)
  · replace c := i_le c
    exact tot_some ⟨rfl, .inl ⟨by omega, z1⟩⟩
  · replace c := i_nle c
    refine tot_oif (i_inb (by omega) (by omega)) ?_
    refine tot_let (fun v5 e5 => ?_)
    exact tot_some ⟨rfl, .inr (by omega)⟩
theorem tbyte {S : MS} (a0 : Int32) (h : TK S) (g : 0 ≤ a0.toInt ∧ a0.toInt ≤ 1000) : Tot (fr_byteAt S a0) (fun r => r.2 = S ∧ ((S.1 3).toInt ≤ a0.toInt ∧ r.1.toInt = -1 ∨ a0.toInt < (S.1 3).toInt)) := tbytea a0 h.a g
/-- as numbers -/
def TQ (S S1 : MS) (x4 x5 x7 x8 : Int) : Prop := (((S1.1 3).toInt = (S.1 3).toInt ∧ (S1.1 4).toInt = x4 ∧ (S1.1 5).toInt = x5) ∧ (S1.1 7).toInt = x7 ∧ (S1.1 8).toInt = x8) ∧ S1.2 = S.2
theorem tq_4 {S S1 : MS} {v : Int32} (e : S1 = mi S 4 v) : TQ S S1 v.toInt (S.1 5).toInt (S.1 7).toInt (S.1 8).toInt := by rw [e]; exact ⟨⟨⟨rfl, rfl, rfl⟩, rfl, rfl⟩, rfl⟩
theorem tq_5 {S S1 : MS} {v : Int32} (e : S1 = mi S 5 v) : TQ S S1 (S.1 4).toInt v.toInt (S.1 7).toInt (S.1 8).toInt := by rw [e]; exact ⟨⟨⟨rfl, rfl, rfl⟩, rfl, rfl⟩, rfl⟩
theorem tq_6 {S S1 : MS} {v : Int32} (e : S1 = mi S 6 v) : TQ S S1 (S.1 4).toInt (S.1 5).toInt (S.1 7).toInt (S.1 8).toInt := by rw [e]; exact ⟨⟨⟨rfl, rfl, rfl⟩, rfl, rfl⟩, rfl⟩
theorem tq_7 {S S1 : MS} {v : Int32} (e : S1 = mi S 7 v) : TQ S S1 (S.1 4).toInt (S.1 5).toInt v.toInt (S.1 8).toInt := by rw [e]; exact ⟨⟨⟨rfl, rfl, rfl⟩, rfl, rfl⟩, rfl⟩
theorem tq_8 {S S1 : MS} {v : Int32} (e : S1 = mi S 8 v) : TQ S S1 (S.1 4).toInt (S.1 5).toInt (S.1 7).toInt v.toInt := by rw [e]; exact ⟨⟨⟨rfl, rfl, rfl⟩, rfl, rfl⟩, rfl⟩
theorem tq_9 {S S1 : MS} {v : Int32} (e : S1 = mi S 9 v) : TQ S S1 (S.1 4).toInt (S.1 5).toInt (S.1 7).toInt (S.1 8).toInt := by rw [e]; exact ⟨⟨⟨rfl, rfl, rfl⟩, rfl, rfl⟩, rfl⟩
/-- what nextToken gives where it works: the code stays, a sign costs a byte -/
def NX (S S1 : MS) : Prop := KP S S1 ∧ (S1.1 5).toInt = (S.1 5).toInt ∧ ((S1.1 7).toInt = 4 → (S.1 4).toInt < (S1.1 4).toInt)
theorem tfaults {S : MS} (a0 : Int32) (h : TK S) (g : 1 ≤ a0.toInt ∧ a0.toInt ≤ 5) : Tot (fr_faults S a0) (fun S1 => KP S S1 ∧ 0 < (S1.1 5).toInt) := by
  have z0 : (0 : Int32).toInt = 0 := by decide
  unfold fr_faults
  refine tot_let (fun v2 e2 => ?_)
  have q2 := i_eq e2
  refine tot_if (fun c => ?_) (fun c => ?_)
  · replace c := i_le c
    refine tot_let (fun S4 e4 => ?_)
    have q4 := tq_5 e4
    refine tot_let (fun v5 e5 => ?_)
    refine tot_let (fun S6 e6 => ?_)
    have q6 := tq_6 e6
    unfold TQ at q4 q6
    refine tot_some ⟨⟨⟨?_, ?_⟩, q6.2.trans q4.2⟩, ?_⟩
    · unfold TK at *; omega
    · omega
    · omega
  · replace c := i_nle c
    exact tot_some ⟨KP.rf h, by omega⟩
theorem tword : ∀ (n : Nat) (S : MS), TK S → 1000 - (S.1 4).toInt < (n : Int) → Tot (fr_nextToken_b79 n S) (fun S1 => NX S S1) := by
  have z0 : (0 : Int32).toInt = 0 := by decide
  have z1 : (1 : Int32).toInt = 1 := by decide
  have z2 : (2 : Int32).toInt = 2 := by decide
  have z8 : (8 : Int32).toInt = 8 := by decide
  have z97 : (97 : Int32).toInt = 97 := by decide
  have z122 : (122 : Int32).toInt = 122 := by decide
  intro n
  induction n with
  | zero =>
    intro S h hm
    unfold TK at h
    exfalso
    omega
  | succ n ih =>
    intro S h hm
    have h' := h
    unfold TK at h'
    unfold fr_nextToken_b79
    refine tot_let (fun v2 e2 => ?_)
    have q2 := i_eq e2
    refine tot_bindp (R := fun r : Int32 => (S.1 3).toInt ≤ v2.toInt ∧ r.toInt = -1 ∨ v2.toInt < (S.1 3).toInt) (tbyte v2 h (by omega)) (fun r6 d6 => ?_)
    replace d6 : (S.1 3).toInt ≤ v2.toInt ∧ r6.toInt = -1 ∨ v2.toInt < (S.1 3).toInt := d6
    refine tot_bind (tin r6 97 122) (fun r7 d7 => ?_)
    refine tot_if (fun c => ?_) (fun c => ?_)
    · refine tot_let (fun v10 e10 => ?_)
      refine tot_let (fun v11 e11 => ?_)
      refine tot_let (fun v12 e12 => ?_)
      refine tot_if (fun c => ?_) (fun c => ?_)
      · unfold fr_nextToken_b130 fr_nextToken_b292
        refine tot_let (fun S2 e => ?_)
        have q := tq_7 e
        unfold TQ at q
        refine tot_some ⟨⟨⟨?_, ?_⟩, q.2⟩, ?_⟩
        · unfold TK; omega
        · omega
        · omega
      · unfold fr_nextToken_b130 fr_nextToken_b292
        refine tot_let (fun S2 e => ?_)
        have q := tq_7 e
        unfold TQ at q
        refine tot_some ⟨⟨⟨?_, ?_⟩, q.2⟩, ?_⟩
        · unfold TK; omega
        · omega
        · omega
    · replace c := i_ne c
      refine tot_let (fun v14 e14 => ?_)
      have q14 := i_eq e14
      refine tot_let (fun v15 e15 => ?_)
      have q15 := i_add e15 (by omega) (by omega)
      refine tot_let (fun S16 e16 => ?_)
      have q16 := tq_4 e16
      unfold TQ at q16
      have h16 : TK S16 := by unfold TK; omega
      refine tot_w (ih S16 h16 (by omega)) (fun S1 k => ?_)
      refine ⟨KP.tr (S1 := S16) ⟨⟨h16, by omega⟩, q16.2⟩ k.1, ?_⟩
      have k1 := k.2
      omega
theorem tnum : ∀ (n : Nat) (S : MS), TK S → 1000 - (S.1 4).toInt < (n : Int) → Tot (fr_nextToken_b159 n S) (fun S1 => NX S S1) := by
  have z0 : (0 : Int32).toInt = 0 := by decide
  have z1 : (1 : Int32).toInt = 1 := by decide
  have z3 : (3 : Int32).toInt = 3 := by decide
  have z48 : (48 : Int32).toInt = 48 := by decide
  have z57 : (57 : Int32).toInt = 57 := by decide
  intro n
  induction n with
  | zero =>
    intro S h hm
    unfold TK at h
    exfalso
    omega
  | succ n ih =>
    intro S h hm
    have step : ∀ T : MS, TQ S T (S.1 4).toInt (S.1 5).toInt (S.1 7).toInt (S.1 8).toInt → (S.1 4).toInt < (S.1 3).toInt → Tot (fr_nextToken_b213 (fr_nextToken_b159 n) T) (fun S1 => NX S S1) := by
      intro T hT hlt
      unfold TK at h
      unfold TQ at hT
      unfold fr_nextToken_b213
      refine tot_let (fun v14 e14 => ?_)
      have q14 := i_eq e14
      refine tot_let (fun v15 e15 => ?_)
      have q15 := i_add e15 (by omega) (by omega)
      refine tot_let (fun S16 e16 => ?_)
      have q16 := tq_4 e16
      unfold TQ at q16
      have h16 : TK S16 := by unfold TK; omega
      refine tot_w (ih S16 h16 (by omega)) (fun S1 k => ?_)
      refine ⟨KP.tr (S1 := S16) ⟨⟨h16, by omega⟩, q16.2.trans hT.2⟩ k.1, ?_⟩
      have k1 := k.2
      omega
    have h' := h
    unfold TK at h'
    unfold fr_nextToken_b159
    refine tot_let (fun v2 e2 => ?_)
    have q2 := i_eq e2
    refine tot_bindp (R := fun r : Int32 => (S.1 3).toInt ≤ v2.toInt ∧ r.toInt = -1 ∨ v2.toInt < (S.1 3).toInt) (tbyte v2 h (by omega)) (fun r6 d6 => ?_)
    replace d6 : (S.1 3).toInt ≤ v2.toInt ∧ r6.toInt = -1 ∨ v2.toInt < (S.1 3).toInt := d6
    refine tot_bind (tin r6 48 57) (fun r7 d7 => ?_)
    refine tot_if (fun c => ?_) (fun c => ?_)
    · refine tot_let (fun v10 e10 => ?_)
      refine tot_let (fun v11 e11 => ?_)
      refine tot_let (fun v12 e12 => ?_)
      refine tot_if (fun c => ?_) (fun c => ?_)
      · unfold fr_nextToken_b245 fr_nextToken_b292
        refine tot_let (fun S2 e => ?_)
        have q := tq_7 e
        unfold TQ at q
        refine tot_some ⟨⟨⟨?_, ?_⟩, q.2⟩, ?_⟩
        · unfold TK; omega
        · omega
        · omega
      · unfold fr_nextToken_b245 fr_nextToken_b292
        refine tot_let (fun S2 e => ?_)
        have q := tq_7 e
        unfold TQ at q
        refine tot_some ⟨⟨⟨?_, ?_⟩, q.2⟩, ?_⟩
        · unfold TK; omega
        · omega
        · omega
    · replace c := i_ne c
      have hlt : (S.1 4).toInt < (S.1 3).toInt := by omega
      refine tot_let (fun v14 e14 => ?_)
      refine tot_let (fun v15 e15 => ?_)
      refine tot_let (fun v16 e16 => ?_)
      refine tot_if (fun c => ?_) (fun c => ?_)
      · exact step S ⟨⟨⟨rfl, rfl, rfl⟩, rfl, rfl⟩, rfl⟩ hlt
      · refine tot_let (fun v18 e18 => ?_)
        refine tot_let (fun v19 e19 => ?_)
        refine tot_let (fun v20 e20 => ?_)
        have q20 := i_eq e20
        refine tot_bindp (R := fun r : Int32 => True) (tot_w (tbyte v20 h (by omega)) (fun r q => ⟨q.1, trivial⟩)) (fun r24 d24 => ?_)
        refine tot_let (fun v25 e25 => ?_)
        refine tot_let (fun v26 e26 => ?_)
        refine tot_let (fun S27 e27 => ?_)
        exact step S27 (tq_9 e27) hlt
theorem tspace : ∀ (n : Nat) (S : MS), TKa S → 1000 - (S.1 4).toInt < (n : Int) → Tot (fr_nextToken_b8 n S) (fun S1 => NX S S1) := by
  have z0 : (0 : Int32).toInt = 0 := by decide
  have z1 : (1 : Int32).toInt = 1 := by decide
  have z4 : (4 : Int32).toInt = 4 := by decide
  have z32 : (32 : Int32).toInt = 32 := by decide
  intro n
  induction n with
  | zero =>
    intro S h hm
    unfold TKa at h
    exfalso
    omega
  | succ n ih =>
    intro S h hm
    have h' := h
    unfold TKa at h'
    unfold fr_nextToken_b8
    refine tot_let (fun v2 e2 => ?_)
    have q2 := i_eq e2
    refine tot_bindp (R := fun r : Int32 => (S.1 3).toInt ≤ v2.toInt ∧ r.toInt = -1 ∨ v2.toInt < (S.1 3).toInt) (tbytea v2 h (by omega)) (fun r6 d6 => ?_)
    replace d6 : (S.1 3).toInt ≤ v2.toInt ∧ r6.toInt = -1 ∨ v2.toInt < (S.1 3).toInt := d6
    refine tot_if (fun c => ?_) (fun c => ?_)
    · replace c := i_eq c
      refine tot_let (fun v14 e14 => ?_)
      have q14 := i_eq e14
      refine tot_let (fun v15 e15 => ?_)
      have q15 := i_add e15 (by omega) (by omega)
      refine tot_let (fun S16 e16 => ?_)
      have q16 := tq_4 e16
      unfold TQ at q16
      have h16 : TKa S16 := by unfold TKa; omega
      refine tot_w (ih S16 h16 (by omega)) (fun S1 k => ?_)
      have k1 := k.1.1.2
      have k2 := k.2
      exact ⟨⟨⟨k.1.1.1, by omega⟩, k.1.2.trans q16.2⟩, by omega, by omega⟩
    · refine tot_let (fun v11 e11 => ?_)
      have q11 := i_eq e11
      refine tot_let (fun S12 e12 => ?_)
      have q12 := tq_8 e12
      unfold TQ at q12
      have h12 : TK S12 := by unfold TK; omega
      have k12 : KP S S12 := ⟨⟨h12, by omega⟩, q12.2⟩
      refine tot_let (fun v13 e13 => ?_)
      have q13 := i_eq e13
      refine tot_let (fun v14 e14 => ?_)
      have q14 := i_eq e14
      refine tot_if (fun c => ?_) (fun c => ?_)
      · unfold fr_nextToken_b292
        refine tot_let (fun S16 e16 => ?_)
        have q := tq_7 e16
        unfold TQ at q
        refine tot_some ⟨⟨⟨?_, ?_⟩, q.2.trans q12.2⟩, ?_⟩
        · unfold TK; omega
        · omega
        · omega
      · replace c := i_ne c
        refine tot_let (fun v17 e17 => ?_)
        have q17 := i_eq e17
        refine tot_bindp (R := fun r : Int32 => True) (tot_w (tbyte v17 h12 (by omega)) (fun r q => ⟨q.1, trivial⟩)) (fun r21 _ => ?_)
        refine tot_bind (tin r21 97 122) (fun r22 d22 => ?_)
        refine tot_if (fun c => ?_) (fun c => ?_)
        · refine tot_let (fun v25 e25 => ?_)
          have q25 := i_eq e25
          refine tot_bindp (R := fun r : Int32 => True) (tot_w (tbyte v25 h12 (by omega)) (fun r q => ⟨q.1, trivial⟩)) (fun r29 _ => ?_)
          refine tot_bind (tin r29 48 57) (fun r30 d30 => ?_)
          refine tot_if (fun c => ?_) (fun c => ?_)
          · refine tot_let (fun v33 e33 => ?_)
            have q33 := i_eq e33
            refine tot_bindp (R := fun r : Int32 => True) (tot_w (tbyte v33 h12 (by omega)) (fun r q => ⟨q.1, trivial⟩)) (fun r37 _ => ?_)
            refine tot_let (fun S38 e38 => ?_)
            have q38 := tq_9 e38
            unfold TQ at q38
            refine tot_let (fun v39 e39 => ?_)
            refine tot_bind (tsign v39) (fun r40 _ => ?_)
            have last : ∀ s0 : Int32, 0 ≤ s0.toInt ∧ s0.toInt ≤ 4 → Tot (fr_nextToken_b279 S38 s0) (fun S1 => NX S S1) := by
              intro s0 g0
              unfold fr_nextToken_b279 fr_nextToken_b292
              refine tot_let (fun S2 e => ?_)
              have q2 := tq_7 e
              unfold TQ at q2
              refine tot_let (fun v3 e3 => ?_)
              have q3 := i_eq e3
              refine tot_let (fun v4 e4 => ?_)
              have q4 := i_add e4 (by omega) (by omega)
              refine tot_let (fun S5 e5 => ?_)
              have q5 := tq_4 e5
              unfold TQ at q5
              refine tot_some ⟨⟨⟨?_, ?_⟩, q5.2.trans (q2.2.trans (q38.2.trans q12.2))⟩, ?_⟩
              · unfold TK; omega
              · omega
              · omega
            refine tot_if (fun c => ?_) (fun c => ?_)
            · exact last 0 (by omega)
            · exact last 4 (by omega)
          · refine tot_let (fun S43 e43 => ?_)
            have q43 := tq_9 e43
            unfold TQ at q43
            have h43 : TK S43 := by unfold TK; omega
            refine tot_w (tnum 16384 S43 h43 (by omega)) (fun S1 k => ?_)
            refine ⟨(k12.tr (S2 := S43) ⟨⟨h43, by omega⟩, q43.2⟩).tr k.1, ?_⟩
            have k1 := k.2
            omega
        · refine tot_w (tword 16384 S12 h12 (by omega)) (fun S1 k => ?_)
          refine ⟨k12.tr k.1, ?_⟩
          have k1 := k.2
          omega
theorem tnext {S : MS} (h : TK S) : Tot (fr_nextToken S) (fun S1 => KP S S1 ∧ (S1.1 5).toInt = (S.1 5).toInt ∧ ((S.1 5).toInt ≤ 0 → (S1.1 7).toInt = 4 → (S.1 4).toInt < (S1.1 4).toInt)) := by
  have z0 : (0 : Int32).toInt = 0 := by decide
  unfold fr_nextToken
  refine tot_let (fun v2 e2 => ?_)
  have q2 := i_eq e2
  refine tot_if (fun c => ?_) (fun c => ?_)
  · exact tot_w (tspace 16384 S h.a (by unfold TK at h; omega)) (fun S1 k => ⟨k.1, k.2.1, fun _ => k.2.2⟩)
  · replace c := i_nle c
    exact tot_some ⟨KP.rf h, rfl, fun q => by omega⟩
theorem tnext0 {S : MS} (h : TKa S) (h5 : (S.1 5).toInt ≤ 0) : Tot (fr_nextToken S) (fun S1 => KP S S1) := by
  have z0 : (0 : Int32).toInt = 0 := by decide
  unfold fr_nextToken
  refine tot_let (fun v2 e2 => ?_)
  have q2 := i_eq e2
  refine tot_if (fun c => ?_) (fun c => ?_)
  · exact tot_w (tspace 16384 S h (by unfold TKa at h; omega)) (fun S1 k => k.1)
  · replace c := i_nle c
    exfalso
    omega
theorem tsignhere {S : MS} (a0 : Int32) : Tot (fr_isSignHere S a0) (fun r => r.2 = S ∧ (r.1.toInt = 0 ∨ r.1.toInt = 1 ∧ (S.1 5).toInt = 0 ∧ (S.1 7).toInt = 4)) := by
  have z0 : (0 : Int32).toInt = 0 := by decide
  have z1 : (1 : Int32).toInt = 1 := by decide
  have z4 : (4 : Int32).toInt = 4 := by decide
  have no : Tot (fr_isSignHere_b27 S) (fun r => r.2 = S ∧ (r.1.toInt = 0 ∨ r.1.toInt = 1 ∧ (S.1 5).toInt = 0 ∧ (S.1 7).toInt = 4)) := by
    unfold fr_isSignHere_b27 fr_isSignHere_b28
    exact tot_oif (.inl rfl) (tot_some ⟨rfl, .inl z0⟩)
  unfold fr_isSignHere
  refine tot_let (fun v2 e2 => ?_)
  have q2 := i_eq e2
  refine tot_if (fun c => ?_) (fun c => no)
  replace c := i_eq c
  refine tot_let (fun v4 e4 => ?_)
  have q4 := i_eq e4
  refine tot_if (fun c2 => ?_) (fun c => no)
  replace c2 := i_eq c2
  refine tot_let (fun v6 e6 => ?_)
  refine tot_if (fun c3 => ?_) (fun c => no)
  unfold fr_isSignHere_b28
  exact tot_oif (.inr rfl) (tot_some ⟨rfl, .inr ⟨z1, by omega, by omega⟩⟩)
theorem tisw {S : MS} (tx : Nat × (Nat → Int32)) (hl : (nI tx.1 >>> (0 &&& 31)).toInt = tx.1) (ht : tx.1 ≤ 20) (h : TK S) (hw : (S.1 4).toInt = (S.1 8).toInt + tx.1) : ∀ (n : Nat) (l2 : Int32), 0 ≤ l2.toInt ∧ l2.toInt ≤ tx.1 → 20 - l2.toInt < (n : Int) → Tot (fr_isWord_b35 tx n S l2) (fun r => r.2 = S ∧ (r.1.toInt = 0 ∨ r.1.toInt = 1)) := by
  have z0 : (0 : Int32).toInt = 0 := by decide
  have z1 : (1 : Int32).toInt = 1 := by decide
  have z2 : (Int32.ofInt (1) : Int32).toInt = 1 := by decide
  unfold TK at h
  intro n
  induction n with
  | zero =>
    intro l2 g hm
    exfalso
    omega
  | succ n ih =>
    intro l2 g hm
    unfold fr_isWord_b35
    refine tot_let (fun v3 e3 => ?_)
    have q3 := i_eq e3
    rw [hl] at q3
    refine tot_if (fun c => ?_) (fun c => ?_)
    · exact tot_some ⟨rfl, .inr z1⟩
    · replace c := i_nle c
      refine tot_let (fun v5 e5 => ?_)
      have q5 := i_eq e5
      refine tot_let (fun v6 e6 => ?_)
      have q6 := i_add e6 (by omega) (by omega)
      refine tot_oif (i_inb (by omega) (by omega)) ?_
      refine tot_let (fun v8 e8 => ?_)
      refine tot_oif (i_inb (by omega) (by omega)) ?_
      refine tot_let (fun v11 e11 => ?_)
      refine tot_if (fun c => ?_) (fun c => ?_)
      · refine tot_let (fun v13 e13 => ?_)
        have q13 := i_add e13 (by omega) (by omega)
        exact ih v13 (by omega) (by omega)
      · exact tot_some ⟨rfl, .inl z0⟩
theorem tword1 {S : MS} (tx : Nat × (Nat → Int32)) (hl : (nI tx.1 >>> (0 &&& 31)).toInt = tx.1) (ht : tx.1 ≤ 20) (h : TK S) : Tot (fr_isWord S tx) (fun r => r.2 = S ∧ (r.1.toInt = 0 ∨ r.1.toInt = 1 ∧ (S.1 5).toInt = 0 ∧ (S.1 7).toInt = 2)) := by
  have z0 : (0 : Int32).toInt = 0 := by decide
  have z2 : (2 : Int32).toInt = 2 := by decide
  have h' := h
  unfold TK at h'
  have no : Tot (fr_isWord_b31 tx S) (fun r => r.2 = S ∧ (r.1.toInt = 0 ∨ r.1.toInt = 1 ∧ (S.1 5).toInt = 0 ∧ (S.1 7).toInt = 2)) := by
    unfold fr_isWord_b31
    exact tot_some ⟨rfl, .inl z0⟩
  unfold fr_isWord
  refine tot_let (fun v2 e2 => ?_)
  have q2 := i_eq e2
  refine tot_if (fun c => no) (fun c => ?_)
  replace c := i_nlt c
  refine tot_let (fun v4 e4 => ?_)
  have q4 := i_eq e4
  refine tot_if (fun c2 => ?_) (fun c => no)
  replace c2 := i_eq c2
  refine tot_let (fun v6 e6 => ?_)
  have q6 := i_eq e6
  refine tot_let (fun v7 e7 => ?_)
  have q7 := i_eq e7
  refine tot_let (fun v8 e8 => ?_)
  have q8 := i_sub e8 (by omega) (by omega)
  refine tot_let (fun v10 e10 => ?_)
  have q10 := i_eq e10
  rw [hl] at q10
  refine tot_if (fun c3 => ?_) (fun c => no)
  replace c3 := i_eq c3
  refine tot_w (tisw tx hl ht h (by omega) 16384 0 (by omega) (by omega)) (fun r q => ⟨q.1, ?_⟩)
  have := q.2
  omega
theorem ttakes {S : MS} (tx : Nat × (Nat → Int32)) (hl : (nI tx.1 >>> (0 &&& 31)).toInt = tx.1) (ht : tx.1 ≤ 20) (h : TK S) : Tot (fr_takes S tx) (fun r => KP S r.2 ∧ (r.1.toInt = 0 ∨ r.1.toInt = 1)) := by
  unfold fr_takes
  refine tot_bindp (R := fun r : Int32 => r.toInt = 0 ∨ r.toInt = 1 ∧ (S.1 5).toInt = 0 ∧ (S.1 7).toInt = 2) (tword1 tx hl ht h) (fun r5 d5 => ?_)
  have d : r5.toInt = 0 ∨ r5.toInt = 1 := by
    replace d5 : r5.toInt = 0 ∨ r5.toInt = 1 ∧ (S.1 5).toInt = 0 ∧ (S.1 7).toInt = 2 := d5
    omega
  refine tot_if (fun c => ?_) (fun c => ?_)
  · unfold fr_takes_b14
    exact tot_oif (i_b01 d) (tot_some ⟨KP.rf h, d⟩)
  · refine tot_bind (tnext h) (fun S7 d7 => ?_)
    unfold fr_takes_b14
    exact tot_oif (i_b01 d) (tot_some ⟨d7.1, d⟩)
theorem tkeyword {S : MS} (tx : Nat × (Nat → Int32)) (hl : (nI tx.1 >>> (0 &&& 31)).toInt = tx.1) (ht : tx.1 ≤ 20) (h : TK S) : Tot (fr_keyword S tx) (fun S1 => KP S S1) := by
  have z1 : (1 : Int32).toInt = 1 := by decide
  unfold fr_keyword fr_keyword_b13
  refine tot_bind2 (ttakes tx hl ht h) (fun r5 S2 d5 => ?_)
  have k : KP S S2 := d5.1
  refine tot_if (fun c => ?_) (fun c => ?_)
  · refine tot_bind (tfaults 1 k.1.1 (by omega)) (fun S7 d7 => ?_)
    exact tot_some (k.tr d7.1)
  · exact tot_some k
/-- an answer that lies between, where there is anything between, or no fault is told -/
def BT (a b : Int32) (S1 : MS) (r : Int32) : Prop := (a.toInt ≤ b.toInt → a.toInt ≤ r.toInt ∧ r.toInt ≤ b.toInt) ∧ ((S1.1 5).toInt ≤ 0 → a.toInt ≤ r.toInt ∧ r.toInt ≤ b.toInt)
theorem tlook {S : MS} (a0 a1 : Int32) (h : TK S) : Tot (fr_look S a0 a1) (fun r => KP S r.2 ∧ BT a0 a1 r.2 r.1) := by
  have z0 : (0 : Int32).toInt = 0 := by decide
  have z1 : (1 : Int32).toInt = 1 := by decide
  have z2 : (2 : Int32).toInt = 2 := by decide
  have bad : ∀ S1 : MS, KP S S1 → 0 < (S1.1 5).toInt → Tot (fr_look_b42 S1 a0) (fun r => KP S r.2 ∧ BT a0 a1 r.2 r.1) := by
    intro S1 k q
    unfold fr_look_b42 fr_look_b57
    refine tot_let (fun v2 e2 => ?_)
    have q2 := i_eq e2
    refine tot_if (fun c => ?_) (fun c => ?_)
    · replace c := i_le c
      exfalso
      omega
    · exact tot_some ⟨k, fun q => ⟨Int.le_refl _, q⟩, fun w => by have w : (S1.1 5).toInt ≤ 0 := w; exfalso; omega⟩
  unfold fr_look
  refine tot_let (fun v2 e2 => ?_)
  have q2 := i_eq e2
  refine tot_if (fun c => ?_) (fun c => ?_)
  · replace c := i_le c
    refine tot_let (fun v4 e4 => ?_)
    refine tot_if (fun c2 => ?_) (fun c2 => ?_)
    · refine tot_let (fun v6 e6 => ?_)
      have q6 := i_eq e6
      refine tot_bind (tin v6 a0 a1) (fun r7 d7 => ?_)
      refine tot_if (fun c3 => ?_) (fun c3 => ?_)
      · refine tot_bind (tfaults 2 h (by omega)) (fun S7 d7 => ?_)
        exact bad S7 d7.1 d7.2
      · replace c3 := i_ne c3
        unfold fr_look_b42 fr_look_b57
        refine tot_let (fun v8 e8 => ?_)
        have q8 := i_eq e8
        refine tot_if (fun c => ?_) (fun c => ?_)
        · refine tot_let (fun v9 e9 => ?_)
          have q9 := i_eq e9
          have w : a0.toInt ≤ v9.toInt ∧ v9.toInt ≤ a1.toInt := by omega
          exact tot_some ⟨KP.rf h, fun _ => w, fun _ => w⟩
        · replace c := i_nle c
          exfalso
          omega
    · refine tot_bind (tfaults 1 h (by omega)) (fun S7 d7 => ?_)
      exact bad S7 d7.1 d7.2
  · replace c := i_nle c
    exact tot_some ⟨KP.rf h, fun q => ⟨Int.le_refl _, q⟩, fun w => by have w : (S.1 5).toInt ≤ 0 := w; exfalso; omega⟩
theorem tnumber {S : MS} (a0 a1 : Int32) (h : TK S) : Tot (fr_number S a0 a1) (fun r => KP S r.2 ∧ BT a0 a1 r.2 r.1) := by
  unfold fr_number
  refine tot_bind2 (tlook a0 a1 h) (fun r5 S2 d5 => ?_)
  have k : KP S S2 := d5.1
  have b : BT a0 a1 S2 r5 := d5.2
  refine tot_bind (tnext k.1.1) (fun S6 d6 => ?_)
  refine tot_some ⟨k.tr d6.1, b.1, fun w => b.2 ?_⟩
  have w : (S6.1 5).toInt ≤ 0 := w
  have := d6.2.1
  omega
theorem tgauge {S : MS} (tx : Nat × (Nat → Int32)) (hl : (nI tx.1 >>> (0 &&& 31)).toInt = tx.1) (ht : tx.1 ≤ 20) (a0 a1 : Int32) (h : TK S) : Tot (fr_gauge S tx a0 a1) (fun r => KP S r.2 ∧ BT a0 a1 r.2 r.1) := by
  unfold fr_gauge
  refine tot_bind (tkeyword tx hl ht h) (fun S2 k => ?_)
  refine tot_bind2 (tnumber a0 a1 k.1.1) (fun r5 S6 d5 => ?_)
  exact tot_some ⟨k.tr d5.1, d5.2⟩
theorem tsigned {S : MS} (a0 a1 : Int32) (g : -10000 ≤ a0.toInt ∧ a0.toInt ≤ a1.toInt ∧ a1.toInt ≤ 10000) (h : TK S) : Tot (fr_signed S a0 a1) (fun r => KP S r.2 ∧ (a0.toInt ≤ r.1.toInt ∧ r.1.toInt ≤ a1.toInt)) := by
  have z0 : (0 : Int32).toInt = 0 := by decide
  have go : ∀ (S1 : MS) (l3 : Int32), KP S S1 → Tot (fr_signed_b15 S1 a0 a1 l3) (fun r => KP S r.2 ∧ (a0.toInt ≤ r.1.toInt ∧ r.1.toInt ≤ a1.toInt)) := by
    intro S1 l3 k
    unfold fr_signed_b15 fr_signed_b37
    refine tot_if (fun c => ?_) (fun c => ?_)
    · refine tot_bind2 (tnumber a0 a1 k.1.1) (fun r5 S6 d5 => ?_)
      exact tot_some ⟨k.tr d5.1, d5.2.1 g.2.1⟩
    · refine tot_let (fun v7 e7 => ?_)
      have q7 := i_neg e7 (by omega)
      refine tot_let (fun v8 e8 => ?_)
      have q8 := i_neg e8 (by omega)
      refine tot_bind2 (tnumber v7 v8 k.1.1) (fun r5 S6 d5 => ?_)
      have b := d5.2.1 (by omega)
      have b1 : v7.toInt ≤ r5.toInt ∧ r5.toInt ≤ v8.toInt := b
      refine tot_let (fun v13 e13 => ?_)
      have q13 := i_neg e13 (by omega)
      exact tot_some ⟨k.tr d5.1, show a0.toInt ≤ v13.toInt ∧ v13.toInt ≤ a1.toInt from by omega⟩
  unfold fr_signed
  refine tot_bindp (R := fun r : Int32 => True) (tot_w (tsignhere 45) (fun r q => ⟨q.1, trivial⟩)) (fun r5 _ => ?_)
  refine tot_if (fun c => ?_) (fun c => ?_)
  · exact go S r5 (KP.rf h)
  · refine tot_bind (tnext h) (fun S7 d7 => ?_)
    exact go S7 r5 d7.1
end
section
/-! 12f.read.lean.txt -/
/-! Safety of the reference's reading of a text -/
def nP (k : Nat) (v : Int32) : Prop := ((k = 0 → 0 ≤ v.toInt ∧ v.toInt ≤ 5000) ∧ (k = 1 → 0 ≤ v.toInt ∧ v.toInt ≤ 99) ∧ (k = 2 → 0 ≤ v.toInt ∧ v.toInt ≤ 200) ∧ (k = 3 → 0 ≤ v.toInt ∧ v.toInt ≤ 9999) ∧ (k = 4 → 0 ≤ v.toInt ∧ v.toInt ≤ 12) ∧ (k = 5 → 0 ≤ v.toInt ∧ v.toInt ≤ 6))
  ∧ ((6 ≤ k → k < 8 → -999 ≤ v.toInt ∧ v.toInt ≤ 999) ∧ (k = 8 → 0 ≤ v.toInt ∧ v.toInt ≤ 99) ∧ (9 ≤ k → k < 11 → 0 ≤ v.toInt ∧ v.toInt ≤ 12) ∧ (11 ≤ k → k < 35 → -500 ≤ v.toInt ∧ v.toInt ≤ 500) ∧ (35 ≤ k → k < 47 → 0 ≤ v.toInt ∧ v.toInt ≤ 9) ∧ (47 ≤ k → k < 53 → 0 ≤ v.toInt ∧ v.toInt ≤ 3))
  ∧ ((53 ≤ k → k < 59 → 0 ≤ v.toInt ∧ v.toInt ≤ 999) ∧ (59 ≤ k → k < 71 → 0 ≤ v.toInt ∧ v.toInt ≤ 99) ∧ (k = 71 → 0 ≤ v.toInt ∧ v.toInt ≤ 2) ∧ (72 ≤ k → k < 74 → -2000 ≤ v.toInt ∧ v.toInt ≤ 2000) ∧ (74 ≤ k → k < 76 → 0 ≤ v.toInt ∧ v.toInt ≤ 100) ∧ (k = 76 → 0 ≤ v.toInt ∧ v.toInt ≤ 999))
  ∧ ((k = 77 → 0 ≤ v.toInt ∧ v.toInt ≤ 5) ∧ (78 ≤ k → k < 83 → -9 ≤ v.toInt ∧ v.toInt ≤ 9) ∧ (83 ≤ k → k < 95 → 0 ≤ v.toInt ∧ v.toInt ≤ 31) ∧ (95 ≤ k → k < 101 → 0 ≤ v.toInt ∧ v.toInt ≤ 199) ∧ (k = 101 → 0 ≤ v.toInt ∧ v.toInt ≤ 4) ∧ (102 ≤ k → k < 118 → 0 ≤ v.toInt ∧ v.toInt ≤ 11) ∧ (k = 118 → 0 ≤ v.toInt ∧ v.toInt ≤ 12) ∧ (119 ≤ k → k < 131 → 0 ≤ v.toInt ∧ v.toInt ≤ 9))
theorem nP_4 {v : Int32} (h : nP 4 v) : 0 ≤ v.toInt ∧ v.toInt ≤ 12 := h.1.2.2.2.2.1 rfl
theorem nP_5 {v : Int32} (h : nP 5 v) : 0 ≤ v.toInt ∧ v.toInt ≤ 6 := h.1.2.2.2.2.2 rfl
theorem nP_9 {v : Int32} (h : nP 9 v) : 0 ≤ v.toInt ∧ v.toInt ≤ 12 := h.2.1.2.2.1 (by decide) (by decide)
theorem nP_10 {v : Int32} (h : nP 10 v) : 0 ≤ v.toInt ∧ v.toInt ≤ 12 := h.2.1.2.2.1 (by decide) (by decide)
theorem nP_71 {v : Int32} (h : nP 71 v) : 0 ≤ v.toInt ∧ v.toInt ≤ 2 := h.2.2.1.2.2.1 rfl
theorem nP_77 {v : Int32} (h : nP 77 v) : 0 ≤ v.toInt ∧ v.toInt ≤ 5 := h.2.2.2.1 rfl
theorem nP_101 {v : Int32} (h : nP 101 v) : 0 ≤ v.toInt ∧ v.toInt ≤ 4 := h.2.2.2.2.2.2.2.1 rfl
theorem nP_118 {v : Int32} (h : nP 118 v) : 0 ≤ v.toInt ∧ v.toInt ≤ 12 := h.2.2.2.2.2.2.2.2.2.1 rfl
def rlN (N : Nat → Int32) : Prop := (1 ≤ (N 8).toInt → 1 ≤ (N 9).toInt ∧ 1 ≤ (N 10).toInt) ∧ ∀ k : Nat, 59 ≤ k → (k : Int) < 59 + (N 5).toInt → 2 ≤ (N k).toInt
def AP (N D : Nat → Int32) : Prop := (∀ k, nP k (N k)) ∧ (∀ k, nR k (D k)) ∧ rlN N
def F4 (N : Nat → Int32) : Prop := (100 ≤ (N 0).toInt ∧ 1 ≤ (N 1).toInt) ∧ 32 ≤ (N 2).toInt ∧ 1 ≤ (N 3).toInt
/-- the arrays of a text that is being read -/
def RY (S : MS) : Prop := AP (S.2.1 11) (S.2.1 13) ∧ F4 (S.2.1 11)
theorem ry_kp {S S1 : MS} (y : RY S) (k : KP S S1) : RY S1 := by
  unfold RY at *
  rw [k.2]
  exact y
theorem w11 {S S1 : MS} {k : Nat} {v : Int32} (e : S1 = mf S 11 (upd (S.2.1 11) k v)) : (∀ j, j ≠ k → S1.2.1 11 j = S.2.1 11 j) ∧ S1.2.1 11 k = v ∧ S1.2.1 13 = S.2.1 13 ∧ S1.1 = S.1 := by
  rw [e]
  refine ⟨fun j hj => ?_, ?_, rfl, rfl⟩
  · show upd (S.2.1 11) k v j = _
    unfold upd
    rw [if_neg hj]
  · show upd (S.2.1 11) k v k = _
    unfold upd
    rw [if_pos rfl]
theorem w13 {S S1 : MS} {k : Nat} {v : Int32} (e : S1 = mf S 13 (upd (S.2.1 13) k v)) : (∀ j, j ≠ k → S1.2.1 13 j = S.2.1 13 j) ∧ S1.2.1 13 k = v ∧ S1.2.1 11 = S.2.1 11 ∧ S1.1 = S.1 := by
  rw [e]
  refine ⟨fun j hj => ?_, ?_, rfl, rfl⟩
  · show upd (S.2.1 13) k v j = _
    unfold upd
    rw [if_neg hj]
  · show upd (S.2.1 13) k v k = _
    unfold upd
    rw [if_pos rfl]
theorem ks_w {S S1 : MS} (e : S1.1 = S.1) (h : TK S) : KS S S1 := by
  unfold KS TK at *
  rw [e]
  omega
/-- a place that nothing else hangs on -/
def fr_ok (k : Nat) : Prop := 4 ≤ k ∧ k ≠ 5 ∧ k ≠ 8 ∧ k ≠ 9 ∧ k ≠ 10 ∧ (k < 59 ∨ 65 ≤ k)
theorem ap_11 {S S1 : MS} {k : Nat} {v : Int32} (y : AP (S.2.1 11) (S.2.1 13)) (e : S1 = mf S 11 (upd (S.2.1 11) k v)) (hn : nP k v) (hk : fr_ok k) : AP (S1.2.1 11) (S1.2.1 13) := by
  obtain ⟨w1, w2, w3, w4⟩ := w11 e
  unfold fr_ok at hk
  refine ⟨fun j => ?_, by rw [w3]; exact y.2.1, ?_, fun j h1 h2 => ?_⟩
  · by_cases hj : j = k
    · rw [hj, w2]; exact hn
    · rw [w1 j hj]; exact y.1 j
  · rw [w1 8 (by omega), w1 9 (by omega), w1 10 (by omega)]; exact y.2.2.1
  · rw [w1 5 (by omega)] at h2
    have := nP_5 (y.1 5)
    rw [w1 j (by omega)]
    exact y.2.2.2 j h1 h2
theorem ry_11 {S S1 : MS} {k : Nat} {v : Int32} (y : RY S) (e : S1 = mf S 11 (upd (S.2.1 11) k v)) (hn : nP k v) (hk : fr_ok k) : RY S1 := by
  refine ⟨ap_11 y.1 e hn hk, ?_⟩
  obtain ⟨w1, w2, w3, w4⟩ := w11 e
  unfold fr_ok at hk
  unfold F4
  rw [w1 0 (by omega), w1 1 (by omega), w1 2 (by omega), w1 3 (by omega)]
  exact y.2
theorem ry_13 {S S1 : MS} {k : Nat} {v : Int32} (y : RY S) (e : S1 = mf S 13 (upd (S.2.1 13) k v)) (hn : nR k v) : RY S1 := by
  obtain ⟨w1, w2, w3, w4⟩ := w13 e
  refine ⟨⟨by rw [w3]; exact y.1.1, fun j => ?_, by rw [w3]; exact y.1.2.2⟩, by rw [w3]; exact y.2⟩
  by_cases hj : j = k
  · rw [hj, w2]; exact hn
  · rw [w1 j hj]; exact y.1.2.1 j
/-- reading goes on and leaves things in order -/
def RP (S S1 : MS) : Prop := KS S S1 ∧ RY S1
theorem rmic_b {S : MS} (h : TK S) (y : RY S) (l1 : Int32) (e1 : l1 = S.2.1 11 4) (g : l1.toInt = 12 → 0 < (S.1 5).toInt) : Tot (fr_readMic_b18 S l1) (fun S1 => RP S S1) := by
  have z0 : (0 : Int32).toInt = 0 := by decide
  have z1 : (1 : Int32).toInt = 1 := by decide
  have z9 : (9 : Int32).toInt = 9 := by decide
  have z11 : (11 : Int32).toInt = 11 := by decide
  have z23 : (23 : Int32).toInt = 23 := by decide
  have z35 : (35 : Int32).toInt = 35 := by decide
  have za : (-500 : Int32).toInt = -500 := by decide
  have zb : (500 : Int32).toInt = 500 := by decide
  have y4 := nP_4 (y.1.1 4)
  rw [← e1] at y4
  unfold fr_readMic_b18
  refine tot_bind (tnext h) (fun S2 d2 => ?_)
  have k2 : KP S S2 := d2.1
  refine tot_bind2 (tsigned (-500) 500 (by omega) k2.1.1) (fun r8 S5 d5 => ?_)
  have k5 : KP S S5 := k2.tr d5.1
  have b5 : (-500 : Int32).toInt ≤ r8.toInt ∧ r8.toInt ≤ (500 : Int32).toInt := d5.2
  refine tot_bind2 (tsigned (-500) 500 (by omega) k5.1.1) (fun r12 S9 d9 => ?_)
  have k9 : KP S S9 := k5.tr d9.1
  have b9 : (-500 : Int32).toInt ≤ r12.toInt ∧ r12.toInt ≤ (500 : Int32).toInt := d9.2
  refine tot_bind2 (tnumber 1 9 k9.1.1) (fun r16 S13 d13 => ?_)
  have k13 : KP S S13 := k9.tr d13.1
  have b13 : (1 : Int32).toInt ≤ r16.toInt ∧ r16.toInt ≤ (9 : Int32).toInt := d13.2.1 (by omega)
  have y13 := ry_kp y k13
  have m13 := k13.1.2
  refine tot_let (fun v17 e17 => ?_)
  have q17 := i_eq e17
  refine tot_if (fun c => ?_) (fun c => tot_some ⟨k13.1, y13⟩)
  replace c := i_le c
  have hl : l1.toInt ≤ 11 := by omega
  refine tot_let (fun v19 e19 => ?_)
  have q19 := i_add e19 (by omega) (by omega)
  have x19 := i_cl (i := v19) (by omega)
  refine tot_oif (i_inb (by omega) (by omega)) ?_
  refine tot_let (fun S21 e21 => ?_)
  have y21 := ry_11 y13 e21 (by unfold nP; omega) (by unfold fr_ok; omega)
  refine tot_let (fun v22 e22 => ?_)
  have q22 := i_add e22 (by omega) (by omega)
  have x22 := i_cl (i := v22) (by omega)
  refine tot_oif (i_inb (by omega) (by omega)) ?_
  refine tot_let (fun S24 e24 => ?_)
  have y24 := ry_11 y21 e24 (by unfold nP; omega) (by unfold fr_ok; omega)
  refine tot_let (fun v25 e25 => ?_)
  have q25 := i_add e25 (by omega) (by omega)
  have x25 := i_cl (i := v25) (by omega)
  refine tot_oif (i_inb (by omega) (by omega)) ?_
  refine tot_let (fun S27 e27 => ?_)
  have y27 := ry_11 y24 e27 (by unfold nP; omega) (by unfold fr_ok; omega)
  refine tot_let (fun v28 e28 => ?_)
  rw [(w11 e27).1 4 (by omega), (w11 e24).1 4 (by omega), (w11 e21).1 4 (by omega), k13.2, ← e1] at e28
  have q28 := i_eq e28
  refine tot_let (fun v29 e29 => ?_)
  have q29 := i_add e29 (by omega) (by omega)
  refine tot_let (fun S30 e30 => ?_)
  have y30 := ry_11 y27 e30 (by unfold nP; omega) (by unfold fr_ok; omega)
  exact tot_some ⟨k13.1.tr (ks_w ((w11 e30).2.2.2.trans ((w11 e27).2.2.2.trans ((w11 e24).2.2.2.trans (w11 e21).2.2.2))) k13.1.1), y30⟩
theorem rmic {S : MS} (h : TK S) (y : RY S) : Tot (fr_readMic S) (fun S1 => RP S S1) := by
  have z4 : (4 : Int32).toInt = 4 := by decide
  have z12 : (12 : Int32).toInt = 12 := by decide
  unfold fr_readMic
  refine tot_let (fun v2 e2 => ?_)
  refine tot_if (fun c => ?_) (fun c => ?_)
  · refine tot_bind (tfaults 4 h (by omega)) (fun S4 d4 => ?_)
    refine tot_w (rmic_b d4.1.1.1 (ry_kp y d4.1) v2 (by rw [d4.1.2]; exact e2) (fun _ => d4.2)) (fun S1 k => ⟨d4.1.1.tr k.1, k.2⟩)
  · replace c := i_ne c
    exact rmic_b h y v2 e2 (fun q => by omega)
end
section
/-! 12g.read2.lean.txt -/
theorem rwall_b {S : MS} (h : TK S) (y : RY S) (l1 : Int32) (e1 : l1 = S.2.1 11 71) (g : l1.toInt = 2 → 0 < (S.1 5).toInt) : Tot (fr_readWall_b18 S l1) (fun S1 => RP S S1) := by
  have z0 : (0 : Int32).toInt = 0 := by decide
  have z1 : (1 : Int32).toInt = 1 := by decide
  have z72 : (72 : Int32).toInt = 72 := by decide
  have z74 : (74 : Int32).toInt = 74 := by decide
  have z100 : (100 : Int32).toInt = 100 := by decide
  have z2000 : (2000 : Int32).toInt = 2000 := by decide
  have zm2000 : ((-2000) : Int32).toInt = -2000 := by decide
  have y4 := nP_71 (y.1.1 71)
  rw [← e1] at y4
  unfold fr_readWall_b18
  refine tot_bind (tnext h) (fun S2 d2 => ?_)
  have k2 : KP S S2 := d2.1
  refine tot_bind2 (tsigned (-2000) 2000 (by omega) k2.1.1) (fun r8 S5 d5 => ?_)
  have k5 : KP S S5 := k2.tr d5.1
  have b5 : (-2000 : Int32).toInt ≤ r8.toInt ∧ r8.toInt ≤ (2000 : Int32).toInt := d5.2
  refine tot_bind2 (tnumber 1 100 k5.1.1) (fun r12 S9 d9 => ?_)
  have k9 : KP S S9 := k5.tr d9.1
  have b9 : (1 : Int32).toInt ≤ r12.toInt ∧ r12.toInt ≤ (100 : Int32).toInt := d9.2.1 (by omega)
  have y9 := ry_kp y k9
  have m9 := k9.1.2
  refine tot_let (fun v13 e13 => ?_)
  have q13 := i_eq e13
  refine tot_if (fun c => ?_) (fun c => tot_some ⟨k9.1, y9⟩)
  replace c := i_le c
  have hl : l1.toInt ≤ 1 := by omega
  refine tot_let (fun v15 ev15 => ?_)
  have qv15 := i_add ev15 (by omega) (by omega)
  have xv15 := i_cl (i := v15) (by omega)
  refine tot_oif (i_inb (by omega) (by omega)) ?_
  refine tot_let (fun S17 e17 => ?_)
  have y17 := ry_11 y9 e17 (by unfold nP; omega) (by unfold fr_ok; omega)
  refine tot_let (fun v18 ev18 => ?_)
  have qv18 := i_add ev18 (by omega) (by omega)
  have xv18 := i_cl (i := v18) (by omega)
  refine tot_oif (i_inb (by omega) (by omega)) ?_
  refine tot_let (fun S20 e20 => ?_)
  have y20 := ry_11 y17 e20 (by unfold nP; omega) (by unfold fr_ok; omega)
  refine tot_let (fun v21 e21 => ?_)
  rw [(w11 e20).1 71 (by omega), (w11 e17).1 71 (by omega), k9.2, ← e1] at e21
  have q21 := i_eq e21
  refine tot_let (fun v22 e22 => ?_)
  have q22 := i_add e22 (by omega) (by omega)
  refine tot_let (fun S23 e23 => ?_)
  have y23 := ry_11 y20 e23 (by unfold nP; omega) (by unfold fr_ok; omega)
  exact tot_some ⟨k9.1.tr (ks_w ((w11 e23).2.2.2.trans ((w11 e20).2.2.2.trans (w11 e17).2.2.2)) k9.1.1), y23⟩
theorem rwall {S : MS} (h : TK S) (y : RY S) : Tot (fr_readWall S) (fun S1 => RP S S1) := by
  have z4 : (4 : Int32).toInt = 4 := by decide
  have z2 : (2 : Int32).toInt = 2 := by decide
  unfold fr_readWall
  refine tot_let (fun v2 e2 => ?_)
  refine tot_if (fun c => ?_) (fun c => ?_)
  · refine tot_bind (tfaults 4 h (by omega)) (fun S4 d4 => ?_)
    refine tot_w (rwall_b d4.1.1.1 (ry_kp y d4.1) v2 (by rw [d4.1.2]; exact e2) (fun _ => d4.2)) (fun S1 k => ⟨d4.1.1.tr k.1, k.2⟩)
  · replace c := i_ne c
    exact rwall_b h y v2 e2 (fun q => by omega)
theorem rfade_b {S : MS} (h : TK S) (y : RY S) : Tot (fr_readFade_b15 S) (fun S1 => RP S S1) := by
  have z0 : (0 : Int32).toInt = 0 := by decide
  have z1 : (1 : Int32).toInt = 1 := by decide
  have z999 : (999 : Int32).toInt = 999 := by decide
  unfold fr_readFade_b15 fr_readFade_b43
  refine tot_bind (tnext h) (fun S2 d2 => ?_)
  have k2 : KP S S2 := d2.1
  refine tot_bind2 (tnumber 1 999 k2.1.1) (fun r8 S5 d5 => ?_)
  have k5 : KP S S5 := k2.tr d5.1
  have b5 : (1 : Int32).toInt ≤ r8.toInt ∧ r8.toInt ≤ (999 : Int32).toInt := d5.2.1 (by omega)
  have y5 := ry_kp y k5
  refine tot_let (fun v9 e9 => ?_)
  refine tot_if (fun c => ?_) (fun c => tot_some ⟨k5.1, y5⟩)
  refine tot_let (fun S11 e11 => ?_)
  have y11 := ry_11 y5 e11 (by unfold nP; omega) (by unfold fr_ok; omega)
  exact tot_some ⟨k5.1.tr (ks_w (w11 e11).2.2.2 k5.1.1), y11⟩
theorem rfade {S : MS} (h : TK S) (y : RY S) : Tot (fr_readFade S) (fun S1 => RP S S1) := by
  have z3 : (3 : Int32).toInt = 3 := by decide
  unfold fr_readFade
  refine tot_let (fun v2 e2 => ?_)
  refine tot_if (fun c => rfade_b h y) (fun c => ?_)
  refine tot_bind (tfaults 3 h (by omega)) (fun S4 d4 => ?_)
  exact tot_w (rfade_b d4.1.1.1 (ry_kp y d4.1)) (fun S1 k => ⟨d4.1.1.tr k.1, k.2⟩)
theorem rfil : ∀ (n : Nat) (S : MS), TK S → RY S → 5 - (S.2.1 11 77).toInt < (n : Int) → Tot (fr_readFilter_b19 n S) (fun S1 => RP S S1) := by
  have z0 : (0 : Int32).toInt = 0 := by decide
  have z1 : (1 : Int32).toInt = 1 := by decide
  have z3 : (3 : Int32).toInt = 3 := by decide
  have z4 : (4 : Int32).toInt = 4 := by decide
  have z5 : (5 : Int32).toInt = 5 := by decide
  have z9 : (9 : Int32).toInt = 9 := by decide
  have z45 : (45 : Int32).toInt = 45 := by decide
  have z78 : (78 : Int32).toInt = 78 := by decide
  have zm9 : ((-9) : Int32).toInt = -9 := by decide
  intro n
  induction n with
  | zero =>
    intro S h y hm
    have y4 := nP_77 (y.1.1 77)
    exfalso
    omega
  | succ n ih =>
    intro S h y hm
    have y4 := nP_77 (y.1.1 77)
    have go : ∀ T : MS, KP S T → ((S.2.1 11 77).toInt = 5 → 0 < (T.1 5).toInt) → Tot (fr_readFilter_b65 (fr_readFilter_b19 n) T) (fun S1 => RP S S1) := by
      intro T k g
      unfold fr_readFilter_b65
      refine tot_bind2 (tsigned (-9) 9 (by omega) k.1.1) (fun r5 S2 d2 => ?_)
      have k2 : KP S S2 := k.tr d2.1
      have b2 : (-9 : Int32).toInt ≤ r5.toInt ∧ r5.toInt ≤ (9 : Int32).toInt := d2.2
      have y2 := ry_kp y k2
      have m2 := d2.1.1.2
      refine tot_let (fun v6 e6 => ?_)
      have q6 := i_eq e6
      refine tot_if (fun c => ?_) (fun c => tot_some ⟨k2.1, y2⟩)
      replace c := i_le c
      have m3 : (T.1 5).toInt ≤ 0 := by
        have q : (0 < (T.1 5).toInt → 0 < (S2.1 5).toInt) := m2.1
        omega
      have hl : (S.2.1 11 77).toInt ≤ 4 := by omega
      refine tot_let (fun v8 e8 => ?_)
      rw [k2.2] at e8
      have q8 := i_eq e8
      refine tot_let (fun v9 e9 => ?_)
      have q9 := i_add e9 (by omega) (by omega)
      have x9 := i_cl (i := v9) (by omega)
      refine tot_oif (i_inb (by omega) (by omega)) ?_
      refine tot_let (fun S11 e11 => ?_)
      have y11 := ry_11 y2 e11 (by unfold nP; omega) (by unfold fr_ok; omega)
      refine tot_let (fun v12 e12 => ?_)
      rw [(w11 e11).1 77 (by omega), k2.2] at e12
      have q12 := i_eq e12
      refine tot_let (fun v13 e13 => ?_)
      have q13 := i_add e13 (by omega) (by omega)
      refine tot_let (fun S14 e14 => ?_)
      have y14 := ry_11 y11 e14 (by unfold nP; omega) (by unfold fr_ok; omega)
      have k14 : KS S S14 := k2.1.tr (ks_w ((w11 e14).2.2.2.trans (w11 e11).2.2.2) k2.1.1)
      have n14 : (S14.2.1 11 77).toInt = v13.toInt := by rw [(w11 e14).2.1]
      have more : Tot (fr_readFilter_b19 n S14) (fun S1 => RP S S1) := tot_w (ih S14 k14.1 y14 (by omega)) (fun S1 k => ⟨k14.tr k.1, k.2⟩)
      refine tot_let (fun v15 e15 => ?_)
      refine tot_if (fun c => more) (fun c => ?_)
      refine tot_bindp (R := fun r : Int32 => True) (tot_w (tsignhere 45) (fun r q => ⟨q.1, trivial⟩)) (fun r20 _ => ?_)
      exact tot_if (fun c => tot_some ⟨k14, y14⟩) (fun c => more)
    unfold fr_readFilter_b19
    refine tot_let (fun v2 e2 => ?_)
    have q2 := i_eq e2
    have over : ∀ T : MS, KP S T → Tot (fr_readFilter_b56 (fr_readFilter_b19 n) T 1) (fun S1 => RP S S1) := by
      intro T k
      unfold fr_readFilter_b56
      refine tot_if (fun c => absurd (i_eq c) (by omega)) (fun c => ?_)
      refine tot_bind (tfaults 4 k.1.1 (by omega)) (fun S3 d3 => ?_)
      exact go S3 (k.tr d3.1) (fun _ => d3.2)
    refine tot_if (fun c => ?_) (fun c => ?_)
    · unfold fr_readFilter_b35
      refine tot_if (fun c => absurd (i_eq c) (by omega)) (fun c => ?_)
      refine tot_let (fun v3 e3 => ?_)
      refine tot_if (fun c => ?_) (fun c => over S (KP.rf h))
      refine tot_bind2 (tlook 0 9 h) (fun r8 S5 d5 => ?_)
      exact over S5 d5.1
    · replace c := i_ne c
      unfold fr_readFilter_b35
      refine tot_if (fun c => ?_) (fun c => absurd rfl c)
      unfold fr_readFilter_b56
      refine tot_if (fun c => ?_) (fun c => absurd rfl c)
      exact go S (KP.rf h) (fun q => by omega)
theorem rfilter {S : MS} (h : TK S) (y : RY S) : Tot (fr_readFilter S) (fun S1 => RP S S1) := by
  have z3 : (3 : Int32).toInt = 3 := by decide
  have go : ∀ T : MS, KP S T → Tot (fr_readFilter_b15 T) (fun S1 => RP S S1) := by
    intro T k
    unfold fr_readFilter_b15
    refine tot_bind (tnext k.1.1) (fun S2 d2 => ?_)
    have k2 := k.tr d2.1
    have y2 := ry_kp y k2
    have := nP_77 (y2.1.1 77)
    exact tot_w (rfil 16384 S2 k2.1.1 y2 (by omega)) (fun S1 k => ⟨k2.1.tr k.1, k.2⟩)
  unfold fr_readFilter
  refine tot_let (fun v2 e2 => ?_)
  refine tot_if (fun c => go S (KP.rf h)) (fun c => ?_)
  refine tot_bind (tfaults 3 h (by omega)) (fun S4 d4 => ?_)
  exact go S4 d4.1
theorem rclock_b {S : MS} (h : TK S) (y : RY S) (l1 : Int32) (g : (S.1 5).toInt ≤ 0 → 0 ≤ l1.toInt ∧ l1.toInt ≤ 11) : Tot (fr_readClock_b42 S l1) (fun S1 => RP S S1) := by
  have z0 : (0 : Int32).toInt = 0 := by decide
  have z1 : (1 : Int32).toInt = 1 := by decide
  have z31 : (31 : Int32).toInt = 31 := by decide
  have z83 : (83 : Int32).toInt = 83 := by decide
  unfold fr_readClock_b42 fr_readClock_b71
  refine tot_bind (tnext h) (fun S2 d2 => ?_)
  have k2 : KP S S2 := d2.1
  refine tot_bind2 (tnumber 1 31 k2.1.1) (fun r8 S5 d5 => ?_)
  have k5 : KP S S5 := k2.tr d5.1
  have b5 : (1 : Int32).toInt ≤ r8.toInt ∧ r8.toInt ≤ (31 : Int32).toInt := d5.2.1 (by omega)
  have y5 := ry_kp y k5
  have m5 := k5.1.2
  refine tot_let (fun v9 e9 => ?_)
  have q9 := i_eq e9
  refine tot_if (fun c => ?_) (fun c => tot_some ⟨k5.1, y5⟩)
  replace c := i_eq c
  have hl : 0 ≤ l1.toInt ∧ l1.toInt ≤ 11 := g (by omega)
  refine tot_let (fun v11 ev11 => ?_)
  have qv11 := i_add ev11 (by omega) (by omega)
  have xv11 := i_cl (i := v11) (by omega)
  refine tot_oif (i_inb (by omega) (by omega)) ?_
  refine tot_let (fun S13 e13 => ?_)
  have y13 := ry_11 y5 e13 (by unfold nP; omega) (by unfold fr_ok; omega)
  exact tot_some ⟨k5.1.tr (ks_w (w11 e13).2.2.2 k5.1.1), y13⟩
theorem rclock {S : MS} (h : TK S) (y : RY S) : Tot (fr_readClock S) (fun S1 => RP S S1) := by
  have z0 : (0 : Int32).toInt = 0 := by decide
  have z1 : (1 : Int32).toInt = 1 := by decide
  have z3 : (3 : Int32).toInt = 3 := by decide
  have z83 : (83 : Int32).toInt = 83 := by decide
  have y4 := nP_4 (y.1.1 4)
  unfold fr_readClock
  refine tot_bind (tnext h) (fun S2 d2 => ?_)
  have k2 : KP S S2 := d2.1
  refine tot_let (fun v5 e5 => ?_)
  rw [k2.2] at e5
  have q5 := i_eq e5
  refine tot_let (fun v6 e6 => ?_)
  have q6 := i_sub e6 (by omega) (by omega)
  refine tot_bind2 (tlook 0 v6 k2.1.1) (fun r10 S7 d7 => ?_)
  have k7 : KP S S7 := k2.tr d7.1
  have b7 : (S7.1 5).toInt ≤ 0 → (0 : Int32).toInt ≤ r10.toInt ∧ r10.toInt ≤ v6.toInt := d7.2.2
  have y7 := ry_kp y k7
  refine tot_let (fun v11 e11 => ?_)
  have q11 := i_eq e11
  have nxt : ∀ T : MS, KP S7 T → Tot (fr_readClock_b42 T r10) (fun S1 => RP S S1) := by
    intro T k
    have m := k.1.2
    have t := k7.1.1
    unfold TK at t
    have t2 := k.1.1
    unfold TK at t2
    exact tot_w (rclock_b k.1.1 (ry_kp y7 k) r10 (fun q => by omega)) (fun S1 k2 => ⟨k7.1.tr (k.1.tr k2.1), k2.2⟩)
  refine tot_if (fun c => ?_) (fun c => nxt S7 (KP.rf k7.1.1))
  replace c := i_eq c
  refine tot_let (fun v13 e13 => ?_)
  have q13 := i_add e13 (by omega) (by omega)
  refine tot_oif (i_inb (by omega) (by omega)) ?_
  refine tot_let (fun v15 e15 => ?_)
  refine tot_if (fun c => nxt S7 (KP.rf k7.1.1)) (fun c => ?_)
  refine tot_bind (tfaults 3 k7.1.1 (by omega)) (fun S17 d17 => ?_)
  exact nxt S17 d17.1
theorem roff_b {S : MS} (h : TK S) (y : RY S) (l1 : Int32) (g : (S.1 5).toInt ≤ 0 → 0 ≤ l1.toInt ∧ l1.toInt ≤ 5) : Tot (fr_readOff_b42 S l1) (fun S1 => RP S S1) := by
  have z0 : (0 : Int32).toInt = 0 := by decide
  have z25 : (25 : Int32).toInt = 25 := by decide
  unfold fr_readOff_b42 fr_readOff_b63
  refine tot_bind (tnext h) (fun S2 d2 => ?_)
  have k2 : KP S S2 := d2.1
  have y2 := ry_kp y k2
  have m2 := k2.1.2
  refine tot_let (fun v5 e5 => ?_)
  have q5 := i_eq e5
  refine tot_if (fun c => ?_) (fun c => tot_some ⟨k2.1, y2⟩)
  replace c := i_eq c
  have hl : 0 ≤ l1.toInt ∧ l1.toInt ≤ 5 := g (by omega)
  refine tot_let (fun v7 e7 => ?_)
  have q7 := i_add e7 (by omega) (by omega)
  have x7 := i_cl (i := v7) (by omega)
  refine tot_oif (i_inb (by omega) (by omega)) ?_
  refine tot_let (fun S9 e9 => ?_)
  have y9 := ry_13 y2 e9 (by unfold nR; omega)
  exact tot_some ⟨k2.1.tr (ks_w (w13 e9).2.2.2 k2.1.1), y9⟩
theorem roff {S : MS} (h : TK S) (y : RY S) : Tot (fr_readOff S) (fun S1 => RP S S1) := by
  have z0 : (0 : Int32).toInt = 0 := by decide
  have z1 : (1 : Int32).toInt = 1 := by decide
  have z3 : (3 : Int32).toInt = 3 := by decide
  have z25 : (25 : Int32).toInt = 25 := by decide
  have y4 := nP_5 (y.1.1 5)
  unfold fr_readOff
  refine tot_bind (tnext h) (fun S2 d2 => ?_)
  have k2 : KP S S2 := d2.1
  refine tot_let (fun v5 e5 => ?_)
  rw [k2.2] at e5
  have q5 := i_eq e5
  refine tot_let (fun v6 e6 => ?_)
  have q6 := i_sub e6 (by omega) (by omega)
  refine tot_bind2 (tlook 0 v6 k2.1.1) (fun r10 S7 d7 => ?_)
  have k7 : KP S S7 := k2.tr d7.1
  have b7 : (S7.1 5).toInt ≤ 0 → (0 : Int32).toInt ≤ r10.toInt ∧ r10.toInt ≤ v6.toInt := d7.2.2
  have y7 := ry_kp y k7
  refine tot_let (fun v11 e11 => ?_)
  have q11 := i_eq e11
  have nxt : ∀ T : MS, KP S7 T → Tot (fr_readOff_b42 T r10) (fun S1 => RP S S1) := by
    intro T k
    have m := k.1.2
    have t := k7.1.1
    unfold TK at t
    have t2 := k.1.1
    unfold TK at t2
    exact tot_w (roff_b k.1.1 (ry_kp y7 k) r10 (fun q => by omega)) (fun S1 k2 => ⟨k7.1.tr (k.1.tr k2.1), k2.2⟩)
  refine tot_if (fun c => ?_) (fun c => nxt S7 (KP.rf k7.1.1))
  replace c := i_eq c
  refine tot_let (fun v13 e13 => ?_)
  have q13 := i_add e13 (by omega) (by omega)
  refine tot_oif (i_inb (by omega) (by omega)) ?_
  refine tot_let (fun v15 e15 => ?_)
  refine tot_if (fun c => ?_) (fun c => nxt S7 (KP.rf k7.1.1))
  refine tot_bind (tfaults 3 k7.1.1 (by omega)) (fun S17 d17 => ?_)
  exact nxt S17 d17.1
theorem rsha : ∀ (n : Nat) (S : MS), TK S → RY S → 12 - (S.2.1 11 118).toInt < (n : Int) → Tot (fr_readShade_b19 n S) (fun S1 => RP S S1) := by
  have z0 : (0 : Int32).toInt = 0 := by decide
  have z1 : (1 : Int32).toInt = 1 := by decide
  have z3 : (3 : Int32).toInt = 3 := by decide
  have z4 : (4 : Int32).toInt = 4 := by decide
  have z9 : (9 : Int32).toInt = 9 := by decide
  have z12 : (12 : Int32).toInt = 12 := by decide
  have z119 : (119 : Int32).toInt = 119 := by decide
  intro n
  induction n with
  | zero =>
    intro S h y hm
    have y4 := nP_118 (y.1.1 118)
    exfalso
    omega
  | succ n ih =>
    intro S h y hm
    have y4 := nP_118 (y.1.1 118)
    unfold fr_readShade_b19
    refine tot_bind2 (tlook 0 9 h) (fun r5 S2 d2 => ?_)
    have k2 : KP S S2 := d2.1
    have b2 : (0 : Int32).toInt ≤ r5.toInt ∧ r5.toInt ≤ (9 : Int32).toInt := d2.2.1 (by omega)
    have go : ∀ T : MS, KP S T → ((S.2.1 11 118).toInt = 12 → 0 < (T.1 5).toInt) → Tot (fr_readShade_b44 (fr_readShade_b19 n) T r5) (fun S1 => RP S S1) := by
      intro T k g
      unfold fr_readShade_b44
      refine tot_bind (tnext k.1.1) (fun S3 d3 => ?_)
      have k3 : KP S S3 := k.tr d3.1
      have y3 := ry_kp y k3
      have m3 := d3.2.1
      refine tot_let (fun v6 e6 => ?_)
      have q6 := i_eq e6
      refine tot_if (fun c => ?_) (fun c => tot_some ⟨k3.1, y3⟩)
      replace c := i_le c
      have hl : (S.2.1 11 118).toInt ≤ 11 := by omega
      refine tot_let (fun v8 e8 => ?_)
      rw [k3.2] at e8
      have q8 := i_eq e8
      refine tot_let (fun v9 e9 => ?_)
      have q9 := i_add e9 (by omega) (by omega)
      have x9 := i_cl (i := v9) (by omega)
      refine tot_oif (i_inb (by omega) (by omega)) ?_
      refine tot_let (fun S11 e11 => ?_)
      have y11 := ry_11 y3 e11 (by unfold nP; omega) (by unfold fr_ok; omega)
      refine tot_let (fun v12 e12 => ?_)
      rw [(w11 e11).1 118 (by omega), k3.2] at e12
      have q12 := i_eq e12
      refine tot_let (fun v13 e13 => ?_)
      have q13 := i_add e13 (by omega) (by omega)
      refine tot_let (fun S14 e14 => ?_)
      have y14 := ry_11 y11 e14 (by unfold nP; omega) (by unfold fr_ok; omega)
      have k14 : KS S S14 := k3.1.tr (ks_w ((w11 e14).2.2.2.trans (w11 e11).2.2.2) k3.1.1)
      have n14 : (S14.2.1 11 118).toInt = v13.toInt := by rw [(w11 e14).2.1]
      refine tot_let (fun v15 e15 => ?_)
      refine tot_if (fun c => ?_) (fun c => tot_some ⟨k14, y14⟩)
      exact tot_w (ih S14 k14.1 y14 (by omega)) (fun S1 k => ⟨k14.tr k.1, k.2⟩)
    refine tot_let (fun v6 e6 => ?_)
    rw [k2.2] at e6
    have q6 := i_eq e6
    refine tot_if (fun c => ?_) (fun c => ?_)
    · refine tot_bind (tfaults 4 k2.1.1 (by omega)) (fun S8 d8 => ?_)
      exact go S8 (k2.tr d8.1) (fun _ => d8.2)
    · replace c := i_ne c
      exact go S2 k2 (fun q => by omega)
theorem rshade {S : MS} (h : TK S) (y : RY S) : Tot (fr_readShade S) (fun S1 => RP S S1) := by
  have z3 : (3 : Int32).toInt = 3 := by decide
  have go : ∀ T : MS, KP S T → Tot (fr_readShade_b15 T) (fun S1 => RP S S1) := by
    intro T k
    unfold fr_readShade_b15
    refine tot_bind (tnext k.1.1) (fun S2 d2 => ?_)
    have k2 := k.tr d2.1
    have y2 := ry_kp y k2
    have := nP_118 (y2.1.1 118)
    exact tot_w (rsha 16384 S2 k2.1.1 y2 (by omega)) (fun S1 k => ⟨k2.1.tr k.1, k.2⟩)
  unfold fr_readShade
  refine tot_let (fun v2 e2 => ?_)
  refine tot_if (fun c => go S (KP.rf h)) (fun c => ?_)
  refine tot_bind (tfaults 3 h (by omega)) (fun S4 d4 => ?_)
  exact go S4 d4.1
theorem rzone_b {S : MS} (h : TK S) (y : RY S) (l1 : Int32) (e1 : l1 = S.2.1 11 101) (g : l1.toInt = 4 → 0 < (S.1 5).toInt) : Tot (fr_readZone_b18 S l1) (fun S1 => RP S S1) := by
  have z0 : (0 : Int32).toInt = 0 := by decide
  have z1 : (1 : Int32).toInt = 1 := by decide
  have z2 : (2 : Int32).toInt = 2 := by decide
  have z3 : (3 : Int32).toInt = 3 := by decide
  have z4 : (4 : Int32).toInt = 4 := by decide
  have z102 : (102 : Int32).toInt = 102 := by decide
  have y4 := nP_101 (y.1.1 101)
  rw [← e1] at y4
  have y9 := nP_9 (y.1.1 9)
  have y10 := nP_10 (y.1.1 10)
  unfold fr_readZone_b18
  refine tot_bind (tnext h) (fun S2 d2 => ?_)
  have k2 : KP S S2 := d2.1
  refine tot_let (fun v7a e7a => ?_)
  rw [k2.2] at e7a
  have q7a := i_eq e7a
  refine tot_let (fun v7b e7b => ?_)
  have q7b := i_sub e7b (by omega) (by omega)
  refine tot_bind2 (tnumber 0 v7b k2.1.1) (fun r10 S7 d7 => ?_)
  have k7 : KP S S7 := k2.tr d7.1
  have b7 : (S7.1 5).toInt ≤ 0 → (0 : Int32).toInt ≤ r10.toInt ∧ r10.toInt ≤ v7b.toInt := d7.2.2
  have m7 : 0 < (S2.1 5).toInt → 0 < (S7.1 5).toInt := d7.1.1.2.1
  refine tot_let (fun v13a e13a => ?_)
  rw [k7.2] at e13a
  have q13a := i_eq e13a
  refine tot_let (fun v13b e13b => ?_)
  have q13b := i_sub e13b (by omega) (by omega)
  refine tot_bind2 (tnumber 0 v13b k7.1.1) (fun r16 S13 d13 => ?_)
  have k13 : KP S S13 := k7.tr d13.1
  have b13 : (S13.1 5).toInt ≤ 0 → (0 : Int32).toInt ≤ r16.toInt ∧ r16.toInt ≤ v13b.toInt := d13.2.2
  have m13 : 0 < (S7.1 5).toInt → 0 < (S13.1 5).toInt := d13.1.1.2.1
  refine tot_let (fun v19a e19a => ?_)
  rw [k13.2] at e19a
  have q19a := i_eq e19a
  refine tot_let (fun v19b e19b => ?_)
  have q19b := i_sub e19b (by omega) (by omega)
  refine tot_bind2 (tnumber r10 v19b k13.1.1) (fun r22 S19 d19 => ?_)
  have k19 : KP S S19 := k13.tr d19.1
  have b19 : (S19.1 5).toInt ≤ 0 → r10.toInt ≤ r22.toInt ∧ r22.toInt ≤ v19b.toInt := d19.2.2
  have m19 : 0 < (S13.1 5).toInt → 0 < (S19.1 5).toInt := d19.1.1.2.1
  refine tot_let (fun v25a e25a => ?_)
  rw [k19.2] at e25a
  have q25a := i_eq e25a
  refine tot_let (fun v25b e25b => ?_)
  have q25b := i_sub e25b (by omega) (by omega)
  refine tot_bind2 (tnumber r16 v25b k19.1.1) (fun r28 S25 d25 => ?_)
  have k25 : KP S S25 := k19.tr d25.1
  have b25 : (S25.1 5).toInt ≤ 0 → r16.toInt ≤ r28.toInt ∧ r28.toInt ≤ v25b.toInt := d25.2.2
  have m25 : 0 < (S19.1 5).toInt → 0 < (S25.1 5).toInt := d25.1.1.2.1
  have y25 := ry_kp y k25
  have m25s := k25.1.2
  have t7 := k7.1.1.2.1
  have t13 := k13.1.1.2.1
  have t19 := k19.1.1.2.1
  refine tot_let (fun v29 e29 => ?_)
  have q29 := i_eq e29
  refine tot_if (fun c => ?_) (fun c => tot_some ⟨k25.1, y25⟩)
  replace c := i_le c
  have c19 : (S19.1 5).toInt ≤ 0 := by omega
  have c13 : (S13.1 5).toInt ≤ 0 := by omega
  have c7 : (S7.1 5).toInt ≤ 0 := by omega
  have hl : l1.toInt ≤ 3 := by omega
  have b7 := b7 c7
  have b13 := b13 c13
  have b19 := b19 c19
  have b25 := b25 (by omega)
  clear m7 m13 m19 m25 t7 t13 t19
  refine tot_let (fun v31 e31 => ?_)
  have q31 := i_mulk e31 z4 (by omega) (by omega)
  refine tot_let (fun v32 e32 => ?_)
  have q32 := i_add e32 (by omega) (by omega)
  have x32 := i_cl (i := v32) (by omega)
  refine tot_oif (i_inb (by omega) (by omega)) ?_
  refine tot_let (fun S34 e34 => ?_)
  have y34 := ry_11 y25 e34 (by unfold nP; omega) (by unfold fr_ok; omega)
  refine tot_let (fun v35 ev35 => ?_)
  have qv35 := i_add ev35 (by omega) (by omega)
  have xv35 := i_cl (i := v35) (by omega)
  refine tot_oif (i_inb (by omega) (by omega)) ?_
  refine tot_let (fun S37 e37 => ?_)
  have y37 := ry_11 y34 e37 (by unfold nP; omega) (by unfold fr_ok; omega)
  refine tot_let (fun v38 ev38 => ?_)
  have qv38 := i_add ev38 (by omega) (by omega)
  have xv38 := i_cl (i := v38) (by omega)
  refine tot_oif (i_inb (by omega) (by omega)) ?_
  refine tot_let (fun S40 e40 => ?_)
  have y40 := ry_11 y37 e40 (by unfold nP; omega) (by unfold fr_ok; omega)
  refine tot_let (fun v41 ev41 => ?_)
  have qv41 := i_add ev41 (by omega) (by omega)
  have xv41 := i_cl (i := v41) (by omega)
  refine tot_oif (i_inb (by omega) (by omega)) ?_
  refine tot_let (fun S43 e43 => ?_)
  have y43 := ry_11 y40 e43 (by unfold nP; omega) (by unfold fr_ok; omega)
  refine tot_let (fun v44 e44 => ?_)
  rw [(w11 e43).1 101 (by omega), (w11 e40).1 101 (by omega), (w11 e37).1 101 (by omega), (w11 e34).1 101 (by omega), k25.2, ← e1] at e44
  have q44 := i_eq e44
  refine tot_let (fun v45 e45 => ?_)
  have q45 := i_add e45 (by omega) (by omega)
  refine tot_let (fun S46 e46 => ?_)
  have y46 := ry_11 y43 e46 (by unfold nP; omega) (by unfold fr_ok; omega)
  exact tot_some ⟨k25.1.tr (ks_w ((w11 e46).2.2.2.trans ((w11 e43).2.2.2.trans ((w11 e40).2.2.2.trans ((w11 e37).2.2.2.trans (w11 e34).2.2.2)))) k25.1.1), y46⟩
theorem rzone {S : MS} (h : TK S) (y : RY S) : Tot (fr_readZone S) (fun S1 => RP S S1) := by
  have z4 : (4 : Int32).toInt = 4 := by decide
  unfold fr_readZone
  refine tot_let (fun v2 e2 => ?_)
  refine tot_if (fun c => ?_) (fun c => ?_)
  · refine tot_bind (tfaults 4 h (by omega)) (fun S4 d4 => ?_)
    refine tot_w (rzone_b d4.1.1.1 (ry_kp y d4.1) v2 (by rw [d4.1.2]; exact e2) (fun _ => d4.2)) (fun S1 k => ⟨d4.1.1.tr k.1, k.2⟩)
  · replace c := i_ne c
    exact rzone_b h y v2 e2 (fun q => by omega)
end
section
/-! 12h.text.lean.txt -/
theorem np_11 {S S1 : MS} {k : Nat} {v : Int32} (y : ∀ j, nP j (S.2.1 11 j)) (e : S1 = mf S 11 (upd (S.2.1 11) k v)) (hn : nP k v) : ∀ j, nP j (S1.2.1 11 j) := by
  intro j
  by_cases hj : j = k
  · rw [hj, (w11 e).2.1]; exact hn
  · rw [(w11 e).1 j hj]; exact y j
theorem f4_11 {S S1 : MS} {k : Nat} {v : Int32} (y : F4 (S.2.1 11)) (e : S1 = mf S 11 (upd (S.2.1 11) k v)) (hk : 4 ≤ k) : F4 (S1.2.1 11) := by
  obtain ⟨w1, w2, w3, w4⟩ := w11 e
  unfold F4
  rw [w1 0 (by omega), w1 1 (by omega), w1 2 (by omega), w1 3 (by omega)]
  exact y
theorem ap_03 {S S1 : MS} {k : Nat} {v : Int32} (y : AP (S.2.1 11) (S.2.1 13)) (e : S1 = mf S 11 (upd (S.2.1 11) k v)) (hn : nP k v) (hk : k < 4) : AP (S1.2.1 11) (S1.2.1 13) := by
  obtain ⟨w1, w2, w3, w4⟩ := w11 e
  refine ⟨np_11 y.1 e hn, by rw [w3]; exact y.2.1, ?_, fun j h1 h2 => ?_⟩
  · rw [w1 8 (by omega), w1 9 (by omega), w1 10 (by omega)]; exact y.2.2.1
  · rw [w1 5 (by omega)] at h2
    rw [w1 j (by omega)]
    exact y.2.2.2 j h1 h2
theorem ry_per {S S1 : MS} {k : Nat} {v : Int32} (y : RY S) (e : S1 = mf S 11 (upd (S.2.1 11) k v)) (hn : nP k v) (h1 : 59 + (S.2.1 11 5).toInt ≤ (k : Int)) (h2 : k < 65) : RY S1 := by
  obtain ⟨w1, w2, w3, w4⟩ := w11 e
  have y5 := nP_5 (y.1.1 5)
  refine ⟨⟨np_11 y.1.1 e hn, by rw [w3]; exact y.1.2.1, ?_, fun j j1 j2 => ?_⟩, f4_11 y.2 e (by omega)⟩
  · rw [w1 8 (by omega), w1 9 (by omega), w1 10 (by omega)]; exact y.1.2.2.1
  · rw [w1 5 (by omega)] at j2
    rw [w1 j (by omega)]
    exact y.1.2.2.2 j j1 j2
theorem ry_cnt {S S1 : MS} {v : Int32} (y : RY S) (e : S1 = mf S 11 (upd (S.2.1 11) 5 v)) (hv : v.toInt = (S.2.1 11 5).toInt + 1 ∧ v.toInt ≤ 6) (hp : ∀ k : Nat, (k : Int) = 59 + (S.2.1 11 5).toInt → 2 ≤ (S.2.1 11 k).toInt) : RY S1 := by
  obtain ⟨w1, w2, w3, w4⟩ := w11 e
  have y5 := nP_5 (y.1.1 5)
  refine ⟨⟨np_11 y.1.1 e (by unfold nP; omega), by rw [w3]; exact y.1.2.1, ?_, fun j j1 j2 => ?_⟩, f4_11 y.2 e (by omega)⟩
  · rw [w1 8 (by omega), w1 9 (by omega), w1 10 (by omega)]; exact y.1.2.2.1
  · rw [w2] at j2
    rw [w1 j (by omega)]
    by_cases hj : (j : Int) = 59 + (S.2.1 11 5).toInt
    · exact hp j hj
    · exact y.1.2.2.2 j j1 (by omega)
theorem rmap_b {S : MS} (h : TK S) (y : RY S) : Tot (fr_readMap_b15 S) (fun S1 => RP S S1) := by
  have z0 : (0 : Int32).toInt = 0 := by decide
  have z1 : (1 : Int32).toInt = 1 := by decide
  have z12 : (12 : Int32).toInt = 12 := by decide
  have z99 : (99 : Int32).toInt = 99 := by decide
  have z999 : (999 : Int32).toInt = 999 := by decide
  have zm999 : ((-999) : Int32).toInt = -999 := by decide
  unfold fr_readMap_b15
  refine tot_bind (tnext h) (fun S2 d2 => ?_)
  have k2 : KP S S2 := d2.1
  refine tot_bind2 (tsigned (-999) 999 (by omega) k2.1.1) (fun r8 S5 d5 => ?_)
  have k5 : KP S S5 := k2.tr d5.1
  have b5 : (-999 : Int32).toInt ≤ r8.toInt ∧ r8.toInt ≤ (999 : Int32).toInt := d5.2
  refine tot_bind2 (tsigned (-999) 999 (by omega) k5.1.1) (fun r12 S9 d9 => ?_)
  have k9 : KP S S9 := k5.tr d9.1
  have b9 : (-999 : Int32).toInt ≤ r12.toInt ∧ r12.toInt ≤ (999 : Int32).toInt := d9.2
  refine tot_bind2 (tnumber 1 99 k9.1.1) (fun r16 S13 d13 => ?_)
  have k13 : KP S S13 := k9.tr d13.1
  have b13 : (1 : Int32).toInt ≤ r16.toInt ∧ r16.toInt ≤ (99 : Int32).toInt := d13.2.1 (by omega)
  refine tot_bind2 (tnumber 1 12 k13.1.1) (fun r20 S17 d17 => ?_)
  have k17 : KP S S17 := k13.tr d17.1
  have b17 : (1 : Int32).toInt ≤ r20.toInt ∧ r20.toInt ≤ (12 : Int32).toInt := d17.2.1 (by omega)
  refine tot_bind2 (tnumber 1 12 k17.1.1) (fun r24 S21 d21 => ?_)
  have k21 : KP S S21 := k17.tr d21.1
  have b21 : (1 : Int32).toInt ≤ r24.toInt ∧ r24.toInt ≤ (12 : Int32).toInt := d21.2.1 (by omega)
  have y21 := ry_kp y k21
  refine tot_let (fun v25 e25 => ?_)
  refine tot_if (fun c => ?_) (fun c => tot_some ⟨k21.1, y21⟩)
  refine tot_let (fun S27 e27 => ?_)
  have n27 := np_11 y21.1.1 e27 (by unfold nP; omega)
  have f27 := f4_11 y21.2 e27 (by decide)
  refine tot_let (fun S28 e28 => ?_)
  have n28 := np_11 n27 e28 (by unfold nP; omega)
  have f28 := f4_11 f27 e28 (by decide)
  refine tot_let (fun S29 e29 => ?_)
  have n29 := np_11 n28 e29 (by unfold nP; omega)
  have f29 := f4_11 f28 e29 (by decide)
  refine tot_let (fun S30 e30 => ?_)
  have n30 := np_11 n29 e30 (by unfold nP; omega)
  have f30 := f4_11 f29 e30 (by decide)
  refine tot_let (fun S31 e31 => ?_)
  have n31 := np_11 n30 e31 (by unfold nP; omega)
  have f31 := f4_11 f30 e31 (by decide)
  have ws : S31.1 = S21.1 := (w11 e31).2.2.2.trans ((w11 e30).2.2.2.trans ((w11 e29).2.2.2.trans ((w11 e28).2.2.2.trans (w11 e27).2.2.2)))
  have wd : S31.2.1 13 = S21.2.1 13 := (w11 e31).2.2.1.trans ((w11 e30).2.2.1.trans ((w11 e29).2.2.1.trans ((w11 e28).2.2.1.trans (w11 e27).2.2.1)))
  have wn : ∀ j, j < 6 ∨ 10 < j → S31.2.1 11 j = S21.2.1 11 j := fun j hj => by
    rw [(w11 e31).1 j (by omega), (w11 e30).1 j (by omega), (w11 e29).1 j (by omega), (w11 e28).1 j (by omega), (w11 e27).1 j (by omega)]
  refine tot_some ⟨k21.1.tr (ks_w ws k21.1.1), ⟨n31, by rw [wd]; exact y21.1.2.1, fun _ => ?_, fun j j1 j2 => ?_⟩, f31⟩
  · rw [(w11 e31).2.1, (w11 e31).1 9 (by decide), (w11 e30).2.1]
    omega
  · rw [wn 5 (by omega)] at j2
    rw [wn j (by omega)]
    exact y21.1.2.2.2 j j1 j2
theorem rmap {S : MS} (h : TK S) (y : RY S) : Tot (fr_readMap S) (fun S1 => RP S S1) := by
  have z3 : (3 : Int32).toInt = 3 := by decide
  unfold fr_readMap
  refine tot_let (fun v2 e2 => ?_)
  refine tot_if (fun c => rmap_b h y) (fun c => ?_)
  refine tot_bind (tfaults 3 h (by omega)) (fun S4 d4 => ?_)
  exact tot_w (rmap_b d4.1.1.1 (ry_kp y d4.1)) (fun S1 k => ⟨d4.1.1.tr k.1, k.2⟩)
set_option maxHeartbeats 8000000 in
theorem rsrc_c {S : MS} (h : TK S) (y : RY S) (s0 l1 l2 l3 l4 l5 l6 l7 l8 l9 : Int32) (e1 : l1 = S.2.1 11 5) (g : (S.1 5).toInt ≤ 0 → l1.toInt ≤ 5 ∧ 0 ≤ l2.toInt ∧ l2.toInt ≤ 3) (g0 : 0 ≤ s0.toInt ∧ s0.toInt ≤ 199) (g3 : -2000 ≤ l3.toInt ∧ l3.toInt ≤ 2000) (g4 : -2000 ≤ l4.toInt ∧ l4.toInt ≤ 2000) (g5 : -999 ≤ l5.toInt ∧ l5.toInt ≤ 999) (g6 : -999 ≤ l6.toInt ∧ l6.toInt ≤ 999) (g7 : 0 ≤ l7.toInt ∧ l7.toInt ≤ 999) (g8 : 2 ≤ l8.toInt ∧ l8.toInt ≤ 99) (g9 : 0 ≤ l9.toInt ∧ l9.toInt ≤ 99) : Tot (fr_readSource_b186 S s0 l1 l2 l3 l4 l5 l6 l7 l8 l9) (fun S1 => RP S S1) := by
  have z0 : (0 : Int32).toInt = 0 := by decide
  have z1 : (1 : Int32).toInt = 1 := by decide
  have z25 : (25 : Int32).toInt = 25 := by decide
  have z31 : (31 : Int32).toInt = 31 := by decide
  have z37 : (37 : Int32).toInt = 37 := by decide
  have z43 : (43 : Int32).toInt = 43 := by decide
  have z47 : (47 : Int32).toInt = 47 := by decide
  have z49 : (49 : Int32).toInt = 49 := by decide
  have z53 : (53 : Int32).toInt = 53 := by decide
  have z59 : (59 : Int32).toInt = 59 := by decide
  have z65 : (65 : Int32).toInt = 65 := by decide
  have z95 : (95 : Int32).toInt = 95 := by decide
  have y5 := nP_5 (y.1.1 5)
  rw [← e1] at y5
  unfold fr_readSource_b186
  refine tot_let (fun v2 e2 => ?_)
  have q2 := i_eq e2
  refine tot_if (fun c => ?_) (fun c => tot_some ⟨KS.rf h, y⟩)
  replace c := i_le c
  have hl := g (by omega)
  have y0 := y
  have s_0 : S.1 = S.1 := rfl
  have n_0 := e1.symm
  clear y0 e2 q2
  refine tot_let (fun v4 ev4 => ?_)
  have qv4 := i_add ev4 (by omega) (by omega)
  have xv4 := i_cl (i := v4) (by omega)
  refine tot_oif (i_inb (by omega) (by omega)) ?_
  refine tot_let (fun S6 e6 => ?_)
  have y6 := ry_11 y e6 (by unfold nP; omega) (by unfold fr_ok; omega)
  have n_6 : S6.2.1 11 5 = l1 := by rw [(w11 e6).1 5 (by omega)]; exact n_0
  have s_6 : S6.1 = S.1 := (w11 e6).2.2.2.trans s_0
  clear y n_0 s_0 e6 xv4 qv4 ev4
  refine tot_let (fun v7 ev7 => ?_)
  have qv7 := i_add ev7 (by omega) (by omega)
  have xv7 := i_cl (i := v7) (by omega)
  refine tot_oif (i_inb (by omega) (by omega)) ?_
  refine tot_let (fun S9 e9 => ?_)
  have y9 := ry_13 y6 e9 (by unfold nR; omega)
  have n_9 : S9.2.1 11 5 = l1 := by rw [(w13 e9).2.2.1]; exact n_6
  have s_9 : S9.1 = S.1 := (w13 e9).2.2.2.trans s_6
  clear y6 n_6 s_6 e9 xv7 qv7 ev7
  refine tot_let (fun v10 ev10 => ?_)
  have qv10 := i_add ev10 (by omega) (by omega)
  have xv10 := i_cl (i := v10) (by omega)
  refine tot_oif (i_inb (by omega) (by omega)) ?_
  refine tot_let (fun S12 e12 => ?_)
  have y12 := ry_13 y9 e12 (by unfold nR; omega)
  have n_12 : S12.2.1 11 5 = l1 := by rw [(w13 e12).2.2.1]; exact n_9
  have s_12 : S12.1 = S.1 := (w13 e12).2.2.2.trans s_9
  clear y9 n_9 s_9 e12 xv10 qv10 ev10
  refine tot_let (fun v13 ev13 => ?_)
  have qv13 := i_add ev13 (by omega) (by omega)
  have xv13 := i_cl (i := v13) (by omega)
  refine tot_oif (i_inb (by omega) (by omega)) ?_
  refine tot_let (fun S15 e15 => ?_)
  have y15 := ry_13 y12 e15 (by unfold nR; omega)
  have n_15 : S15.2.1 11 5 = l1 := by rw [(w13 e15).2.2.1]; exact n_12
  have s_15 : S15.1 = S.1 := (w13 e15).2.2.2.trans s_12
  clear y12 n_12 s_12 e15 xv13 qv13 ev13
  refine tot_let (fun v16 ev16 => ?_)
  have qv16 := i_add ev16 (by omega) (by omega)
  have xv16 := i_cl (i := v16) (by omega)
  refine tot_oif (i_inb (by omega) (by omega)) ?_
  refine tot_let (fun S18 e18 => ?_)
  have y18 := ry_13 y15 e18 (by unfold nR; omega)
  have n_18 : S18.2.1 11 5 = l1 := by rw [(w13 e18).2.2.1]; exact n_15
  have s_18 : S18.1 = S.1 := (w13 e18).2.2.2.trans s_15
  clear y15 n_15 s_15 e18 xv16 qv16 ev16
  refine tot_let (fun v19 ev19 => ?_)
  have qv19 := i_add ev19 (by omega) (by omega)
  have xv19 := i_cl (i := v19) (by omega)
  refine tot_oif (i_inb (by omega) (by omega)) ?_
  refine tot_let (fun S21 e21 => ?_)
  have y21 := ry_13 y18 e21 (by unfold nR; omega)
  have n_21 : S21.2.1 11 5 = l1 := by rw [(w13 e21).2.2.1]; exact n_18
  have s_21 : S21.1 = S.1 := (w13 e21).2.2.2.trans s_18
  clear y18 n_18 s_18 e21 xv19 qv19 ev19
  refine tot_let (fun v22 ev22 => ?_)
  have qv22 := i_add ev22 (by omega) (by omega)
  have xv22 := i_cl (i := v22) (by omega)
  refine tot_oif (i_inb (by omega) (by omega)) ?_
  refine tot_let (fun S24 e24 => ?_)
  have y24 := ry_11 y21 e24 (by unfold nP; omega) (by unfold fr_ok; omega)
  have n_24 : S24.2.1 11 5 = l1 := by rw [(w11 e24).1 5 (by omega)]; exact n_21
  have s_24 : S24.1 = S.1 := (w11 e24).2.2.2.trans s_21
  clear y21 n_21 s_21 e24 xv22 qv22 ev22
  refine tot_let (fun v25 ev25 => ?_)
  have qv25 := i_add ev25 (by omega) (by omega)
  have xv25 := i_cl (i := v25) (by omega)
  refine tot_oif (i_inb (by omega) (by omega)) ?_
  refine tot_let (fun S27 e27 => ?_)
  have y27 := ry_11 y24 e27 (by unfold nP; omega) (by unfold fr_ok; omega)
  have n_27 : S27.2.1 11 5 = l1 := by rw [(w11 e27).1 5 (by omega)]; exact n_24
  have s_27 : S27.1 = S.1 := (w11 e27).2.2.2.trans s_24
  clear y24 n_24 s_24 e27 xv25 qv25 ev25
  refine tot_let (fun v28 ev28 => ?_)
  have qv28 := i_add ev28 (by omega) (by omega)
  have xv28 := i_cl (i := v28) (by omega)
  refine tot_oif (i_inb (by omega) (by omega)) ?_
  refine tot_let (fun S30 e30 => ?_)
  have y30 := ry_per y27 e30 (by unfold nP; omega) (by rw [n_27]; omega) (by omega)
  have n_30 : S30.2.1 11 5 = l1 := by rw [(w11 e30).1 5 (by omega)]; exact n_27
  have s_30 : S30.1 = S.1 := (w11 e30).2.2.2.trans s_27
  have pp : S30.2.1 11 v28.toNatClampNeg = l8 := (w11 e30).2.1
  clear y27 n_27 s_27 e30 ev28
  refine tot_let (fun v31 ev31 => ?_)
  have qv31 := i_add ev31 (by omega) (by omega)
  have xv31 := i_cl (i := v31) (by omega)
  refine tot_oif (i_inb (by omega) (by omega)) ?_
  refine tot_let (fun S33 e33 => ?_)
  have y33 := ry_11 y30 e33 (by unfold nP; omega) (by unfold fr_ok; omega)
  have n_33 : S33.2.1 11 5 = l1 := by rw [(w11 e33).1 5 (by omega)]; exact n_30
  have s_33 : S33.1 = S.1 := (w11 e33).2.2.2.trans s_30
  have pq : S33.2.1 11 v28.toNatClampNeg = l8 := by rw [(w11 e33).1 _ (by omega)]; exact pp
  clear y30 n_30 s_30 e33 xv31 qv31 ev31 pp
  refine tot_let (fun v34 ev34 => ?_)
  rw [n_33] at ev34
  have q34 := i_eq ev34
  refine tot_let (fun v35 ev35 => ?_)
  have q35 := i_add ev35 (by omega) (by omega)
  refine tot_let (fun S36 e36 => ?_)
  have y36 := ry_cnt y33 e36 (by rw [n_33]; omega) (fun k hk => by
    rw [n_33] at hk
    have hk2 : k = v28.toNatClampNeg := by omega
    rw [hk2, pq]
    omega)
  exact tot_some ⟨ks_w ((w11 e36).2.2.2.trans s_33) h, y36⟩
theorem rsrc_b {S : MS} (h : TK S) (y : RY S) (l1 l2 : Int32) (e1 : l1 = S.2.1 11 5) (g : (S.1 5).toInt ≤ 0 → l1.toInt ≤ 5 ∧ 0 ≤ l2.toInt ∧ l2.toInt ≤ 3) : Tot (fr_readSource_b86 S l1 l2) (fun S1 => RP S S1) := by
  have z0 : (0 : Int32).toInt = 0 := by decide
  have z1 : (1 : Int32).toInt = 1 := by decide
  have z2 : (2 : Int32).toInt = 2 := by decide
  have z99 : (99 : Int32).toInt = 99 := by decide
  have z199 : (199 : Int32).toInt = 199 := by decide
  have z999 : (999 : Int32).toInt = 999 := by decide
  have z2000 : (2000 : Int32).toInt = 2000 := by decide
  have zm2000 : ((-2000) : Int32).toInt = -2000 := by decide
  have zm999 : ((-999) : Int32).toInt = -999 := by decide
  unfold fr_readSource_b86
  refine tot_bind (tnext h) (fun S2 d2 => ?_)
  have k2 : KP S S2 := d2.1
  refine tot_bind2 (tsigned (-2000) 2000 (by omega) k2.1.1) (fun r8 S5 d5 => ?_)
  have k5 : KP S S5 := k2.tr d5.1
  have b5 : (-2000 : Int32).toInt ≤ r8.toInt ∧ r8.toInt ≤ (2000 : Int32).toInt := d5.2
  refine tot_bind2 (tsigned (-2000) 2000 (by omega) k5.1.1) (fun r12 S9 d9 => ?_)
  have k9 : KP S S9 := k5.tr d9.1
  have b9 : (-2000 : Int32).toInt ≤ r12.toInt ∧ r12.toInt ≤ (2000 : Int32).toInt := d9.2
  refine tot_bind2 (tsigned (-999) 999 (by omega) k9.1.1) (fun r16 S13 d13 => ?_)
  have k13 : KP S S13 := k9.tr d13.1
  have b13 : (-999 : Int32).toInt ≤ r16.toInt ∧ r16.toInt ≤ (999 : Int32).toInt := d13.2
  refine tot_bind2 (tsigned (-999) 999 (by omega) k13.1.1) (fun r20 S17 d17 => ?_)
  have k17 : KP S S17 := k13.tr d17.1
  have b17 : (-999 : Int32).toInt ≤ r20.toInt ∧ r20.toInt ≤ (999 : Int32).toInt := d17.2
  refine tot_bind2 (tnumber 1 999 k17.1.1) (fun r24 S21 d21 => ?_)
  have k21 : KP S S21 := k17.tr d21.1
  have b21 : (1 : Int32).toInt ≤ r24.toInt ∧ r24.toInt ≤ (999 : Int32).toInt := d21.2.1 (by omega)
  refine tot_bind2 (tnumber 2 99 k21.1.1) (fun r28 S25 d25 => ?_)
  have k25 : KP S S25 := k21.tr d25.1
  have b25 : (2 : Int32).toInt ≤ r28.toInt ∧ r28.toInt ≤ (99 : Int32).toInt := d25.2.1 (by omega)
  refine tot_bind2 (tnumber 0 99 k25.1.1) (fun r32 S29 d29 => ?_)
  have k29 : KP S S29 := k25.tr d29.1
  have b29 : (0 : Int32).toInt ≤ r32.toInt ∧ r32.toInt ≤ (99 : Int32).toInt := d29.2.1 (by omega)
  refine tot_bind2 (ttakes (sTx "from") (by decide) (by decide) k29.1.1) (fun r37 S34 d34 => ?_)
  have k34 : KP S S34 := k29.tr d34.1
  have t34 := k34.1.1
  have m34 := k34.1.2
  have th := h
  unfold TK at th t34
  refine tot_if (fun c => ?_) (fun c => ?_)
  · exact tot_w (rsrc_c k34.1.1 (ry_kp y k34) 0 l1 l2 r8 r12 r16 r20 r24 r28 r32 (by rw [k34.2]; exact e1) (fun q => g (by omega)) (by omega) (by omega) (by omega) (by omega) (by omega) (by omega) (by omega) (by omega)) (fun S1 k => ⟨k34.1.tr k.1, k.2⟩)
  · refine tot_bind2 (tnumber 0 199 k34.1.1) (fun r42 S39 d39 => ?_)
    have k39 : KP S S39 := k34.tr d39.1
    have b39 : (0 : Int32).toInt ≤ r42.toInt ∧ r42.toInt ≤ (199 : Int32).toInt := d39.2.1 (by omega)
    have t39 := k39.1.1
    have m39 := k39.1.2
    unfold TK at t39
    exact tot_w (rsrc_c k39.1.1 (ry_kp y k39) r42 l1 l2 r8 r12 r16 r20 r24 r28 r32 (by rw [k39.2]; exact e1) (fun q => g (by omega)) (by omega) (by omega) (by omega) (by omega) (by omega) (by omega) (by omega) (by omega)) (fun S1 k => ⟨k39.1.tr k.1, k.2⟩)
theorem rsrc_a {S : MS} (h : TK S) (y : RY S) (s0 l1 : Int32) (e1 : l1 = S.2.1 11 5) (g : (S.1 5).toInt ≤ 0 → l1.toInt ≤ 5) (g0 : -1 ≤ s0.toInt ∧ s0.toInt ≤ 3) : Tot (fr_readSource_b75 S s0 l1) (fun S1 => RP S S1) := by
  have z1 : (1 : Int32).toInt = 1 := by decide
  have zm1 : ((-1) : Int32).toInt = -1 := by decide
  unfold fr_readSource_b75
  refine tot_if (fun c => ?_) (fun c => ?_)
  · refine tot_bind (tfaults 1 h (by omega)) (fun S4 d4 => ?_)
    exact tot_w (rsrc_b d4.1.1.1 (ry_kp y d4.1) l1 s0 (by rw [d4.1.2]; exact e1) (fun q => by have := d4.2; omega)) (fun S1 k => ⟨d4.1.1.tr k.1, k.2⟩)
  · replace c := i_ne c
    exact rsrc_b h y l1 s0 e1 (fun q => by have := g q; omega)
theorem rsrc_0 {S : MS} (h : TK S) (y : RY S) (l1 : Int32) (e1 : l1 = S.2.1 11 5) (g : (S.1 5).toInt ≤ 0 → l1.toInt ≤ 5) : Tot (fr_readSource_b18 S l1) (fun S1 => RP S S1) := by
  have z0 : (0 : Int32).toInt = 0 := by decide
  have z1 : (1 : Int32).toInt = 1 := by decide
  have z2 : (2 : Int32).toInt = 2 := by decide
  have z3 : (3 : Int32).toInt = 3 := by decide
  have zm1 : ((-1) : Int32).toInt = -1 := by decide
  unfold fr_readSource_b18
  refine tot_bind (tnext h) (fun S2 d2 => ?_)
  have k2 : KP S S2 := d2.1
  have m2 := d2.2.1
  have go : ∀ s0 : Int32, -1 ≤ s0.toInt ∧ s0.toInt ≤ 3 → Tot (fr_readSource_b75 S2 s0 l1) (fun S1 => RP S S1) := fun s0 g0 =>
    tot_w (rsrc_a k2.1.1 (ry_kp y k2) s0 l1 (by rw [k2.2]; exact e1) (fun q => g (by omega)) g0) (fun S1 k => ⟨k2.1.tr k.1, k.2⟩)
  refine tot_bindp (R := fun r : Int32 => True) (tot_w (tword1 (sTx "square") (by decide) (by decide) k2.1.1) (fun r q => ⟨q.1, trivial⟩)) (fun r9 _ => ?_)
  refine tot_if (fun c => ?_) (fun c => go 0 (by omega))
  refine tot_bindp (R := fun r : Int32 => True) (tot_w (tword1 (sTx "triangle") (by decide) (by decide) k2.1.1) (fun r q => ⟨q.1, trivial⟩)) (fun r9 _ => ?_)
  refine tot_if (fun c => ?_) (fun c => go 1 (by omega))
  refine tot_bindp (R := fun r : Int32 => True) (tot_w (tword1 (sTx "pulse") (by decide) (by decide) k2.1.1) (fun r q => ⟨q.1, trivial⟩)) (fun r9 _ => ?_)
  refine tot_if (fun c => ?_) (fun c => go 2 (by omega))
  refine tot_bindp (R := fun r : Int32 => True) (tot_w (tword1 (sTx "noise") (by decide) (by decide) k2.1.1) (fun r q => ⟨q.1, trivial⟩)) (fun r9 _ => ?_)
  exact tot_if (fun c => go (-1) (by omega)) (fun c => go 3 (by omega))
theorem rsource {S : MS} (h : TK S) (y : RY S) : Tot (fr_readSource S) (fun S1 => RP S S1) := by
  have z4 : (4 : Int32).toInt = 4 := by decide
  have z6 : (6 : Int32).toInt = 6 := by decide
  have y5 := nP_5 (y.1.1 5)
  unfold fr_readSource
  refine tot_let (fun v2 e2 => ?_)
  have q2 := i_eq e2
  refine tot_if (fun c => ?_) (fun c => ?_)
  · refine tot_bind (tfaults 4 h (by omega)) (fun S4 d4 => ?_)
    exact tot_w (rsrc_0 d4.1.1.1 (ry_kp y d4.1) v2 (by rw [d4.1.2]; exact e2) (fun q => by have := d4.2; omega)) (fun S1 k => ⟨d4.1.1.tr k.1, k.2⟩)
  · replace c := i_ne c
    exact rsrc_0 h y v2 e2 (fun q => by omega)
theorem rline {S : MS} (h : TK S) (y : RY S) : Tot (fr_readLine S) (fun S1 => RP S S1 ∧ (¬ (S.1 7).toInt = 2 → 0 < (S1.1 5).toInt)) := by
  have z0 : (0 : Int32).toInt = 0 := by decide
  have z1 : (1 : Int32).toInt = 1 := by decide
  have done : ∀ (f : MS → Option MS) (r : Int32), (∀ T : MS, TK T → RY T → Tot (f T) (fun S1 => RP T S1)) → (r.toInt = 0 ∨ r.toInt = 1 ∧ (S.1 5).toInt = 0 ∧ (S.1 7).toInt = 2) → ¬ r = 0 → Tot (obind (f S) fun T => fr_readLine_b165 T) (fun S1 => RP S S1 ∧ (¬ (S.1 7).toInt = 2 → 0 < (S1.1 5).toInt)) := by
    intro f r hf d c
    replace c := i_ne c
    refine tot_bind (hf S h y) (fun T k => ?_)
    unfold fr_readLine_b165
    exact tot_some ⟨k, fun q => by omega⟩
  unfold fr_readLine
  refine tot_bindp (R := fun r : Int32 => r.toInt = 0 ∨ r.toInt = 1 ∧ (S.1 5).toInt = 0 ∧ (S.1 7).toInt = 2) (tword1 (sTx "wall") (by decide) (by decide) h) (fun r d => ?_)
  refine tot_if (fun c => ?_) (fun c => done fr_readWall r (fun T hT yT => rwall hT yT) d c)
  clear d c r
  refine tot_bindp (R := fun r : Int32 => r.toInt = 0 ∨ r.toInt = 1 ∧ (S.1 5).toInt = 0 ∧ (S.1 7).toInt = 2) (tword1 (sTx "fade") (by decide) (by decide) h) (fun r d => ?_)
  refine tot_if (fun c => ?_) (fun c => done fr_readFade r (fun T hT yT => rfade hT yT) d c)
  clear d c r
  refine tot_bindp (R := fun r : Int32 => r.toInt = 0 ∨ r.toInt = 1 ∧ (S.1 5).toInt = 0 ∧ (S.1 7).toInt = 2) (tword1 (sTx "filter") (by decide) (by decide) h) (fun r d => ?_)
  refine tot_if (fun c => ?_) (fun c => done fr_readFilter r (fun T hT yT => rfilter hT yT) d c)
  clear d c r
  refine tot_bindp (R := fun r : Int32 => r.toInt = 0 ∨ r.toInt = 1 ∧ (S.1 5).toInt = 0 ∧ (S.1 7).toInt = 2) (tword1 (sTx "clock") (by decide) (by decide) h) (fun r d => ?_)
  refine tot_if (fun c => ?_) (fun c => done fr_readClock r (fun T hT yT => rclock hT yT) d c)
  clear d c r
  refine tot_bindp (R := fun r : Int32 => r.toInt = 0 ∨ r.toInt = 1 ∧ (S.1 5).toInt = 0 ∧ (S.1 7).toInt = 2) (tword1 (sTx "zone") (by decide) (by decide) h) (fun r d => ?_)
  refine tot_if (fun c => ?_) (fun c => done fr_readZone r (fun T hT yT => rzone hT yT) d c)
  clear d c r
  refine tot_bindp (R := fun r : Int32 => r.toInt = 0 ∨ r.toInt = 1 ∧ (S.1 5).toInt = 0 ∧ (S.1 7).toInt = 2) (tword1 (sTx "shade") (by decide) (by decide) h) (fun r d => ?_)
  refine tot_if (fun c => ?_) (fun c => done fr_readShade r (fun T hT yT => rshade hT yT) d c)
  clear d c r
  refine tot_bindp (R := fun r : Int32 => r.toInt = 0 ∨ r.toInt = 1 ∧ (S.1 5).toInt = 0 ∧ (S.1 7).toInt = 2) (tword1 (sTx "off") (by decide) (by decide) h) (fun r d => ?_)
  refine tot_if (fun c => ?_) (fun c => done fr_readOff r (fun T hT yT => roff hT yT) d c)
  clear d c r
  refine tot_bindp (R := fun r : Int32 => r.toInt = 0 ∨ r.toInt = 1 ∧ (S.1 5).toInt = 0 ∧ (S.1 7).toInt = 2) (tword1 (sTx "mic") (by decide) (by decide) h) (fun r d => ?_)
  refine tot_if (fun c => ?_) (fun c => done fr_readMic r (fun T hT yT => rmic hT yT) d c)
  clear d c r
  refine tot_bindp (R := fun r : Int32 => r.toInt = 0 ∨ r.toInt = 1 ∧ (S.1 5).toInt = 0 ∧ (S.1 7).toInt = 2) (tword1 (sTx "map") (by decide) (by decide) h) (fun r d => ?_)
  refine tot_if (fun c => ?_) (fun c => done fr_readMap r (fun T hT yT => rmap hT yT) d c)
  clear d c r
  refine tot_bindp (R := fun r : Int32 => r.toInt = 0 ∨ r.toInt = 1 ∧ (S.1 5).toInt = 0 ∧ (S.1 7).toInt = 2) (tword1 (sTx "source") (by decide) (by decide) h) (fun r d => ?_)
  refine tot_if (fun c => ?_) (fun c => done fr_readSource r (fun T hT yT => rsource hT yT) d c)
  clear d c r
  refine tot_bind (tfaults 1 h (by omega)) (fun S4 d4 => ?_)
  unfold fr_readLine_b165
  exact tot_some ⟨⟨d4.1.1, ry_kp y d4.1⟩, fun _ => d4.2⟩
theorem ap_kp {S S1 : MS} (y : AP (S.2.1 11) (S.2.1 13)) (k : KP S S1) : AP (S1.2.1 11) (S1.2.1 13) := by
  rw [k.2]
  exact y
theorem rfirst {S : MS} (h : TK S) (y : AP (S.2.1 11) (S.2.1 13)) : Tot (fr_readFirst S) (fun S1 => RP S S1) := by
  have z1 : (1 : Int32).toInt = 1 := by decide
  have z32 : (32 : Int32).toInt = 32 := by decide
  have z99 : (99 : Int32).toInt = 99 := by decide
  have z100 : (100 : Int32).toInt = 100 := by decide
  have z200 : (200 : Int32).toInt = 200 := by decide
  have z5000 : (5000 : Int32).toInt = 5000 := by decide
  have z9999 : (9999 : Int32).toInt = 9999 := by decide
  unfold fr_readFirst
  refine tot_bind (tkeyword (sTx "camera") (by decide) (by decide) h) (fun S3 k3 => ?_)
  have y3 := ap_kp y k3
  refine tot_bind2 (tgauge (sTx "distance") (by decide) (by decide) 100 5000 k3.1.1) (fun r10 S7 d7 => ?_)
  have k7 : KP S3 S7 := d7.1
  have b7 : (100 : Int32).toInt ≤ r10.toInt ∧ r10.toInt ≤ (5000 : Int32).toInt := d7.2.1 (by omega)
  have y7 := ap_kp y3 k7
  refine tot_let (fun S11 e11 => ?_)
  have y11 := ap_03 y7 e11 (by unfold nP; omega) (by decide)
  have h11 : KS S S11 := k3.1.tr (k7.1.tr (ks_w (w11 e11).2.2.2 k7.1.1))
  refine tot_bind2 (tgauge (sTx "step") (by decide) (by decide) 1 99 h11.1) (fun r16 S13 d13 => ?_)
  have k13 : KP S11 S13 := d13.1
  have b13 : (1 : Int32).toInt ≤ r16.toInt ∧ r16.toInt ≤ (99 : Int32).toInt := d13.2.1 (by omega)
  have y13 := ap_kp y11 k13
  refine tot_let (fun S17 e17 => ?_)
  have y17 := ap_03 y13 e17 (by unfold nP; omega) (by decide)
  have h17 : KS S S17 := h11.tr (k13.1.tr (ks_w (w11 e17).2.2.2 k13.1.1))
  refine tot_bind2 (tgauge (sTx "samples") (by decide) (by decide) 32 200 h17.1) (fun r22 S19 d19 => ?_)
  have k19 : KP S17 S19 := d19.1
  have b19 : (32 : Int32).toInt ≤ r22.toInt ∧ r22.toInt ≤ (200 : Int32).toInt := d19.2.1 (by omega)
  have y19 := ap_kp y17 k19
  refine tot_let (fun S23 e23 => ?_)
  have y23 := ap_03 y19 e23 (by unfold nP; omega) (by decide)
  have h23 : KS S S23 := h17.tr (k19.1.tr (ks_w (w11 e23).2.2.2 k19.1.1))
  refine tot_bind2 (tgauge (sTx "limit") (by decide) (by decide) 1 9999 h23.1) (fun r28 S25 d25 => ?_)
  have k25 : KP S23 S25 := d25.1
  have b25 : (1 : Int32).toInt ≤ r28.toInt ∧ r28.toInt ≤ (9999 : Int32).toInt := d25.2.1 (by omega)
  have y25 := ap_kp y23 k25
  refine tot_let (fun S29 e29 => ?_)
  have y29 := ap_03 y25 e29 (by unfold nP; omega) (by decide)
  have h29 : KS S S29 := h23.tr (k25.1.tr (ks_w (w11 e29).2.2.2 k25.1.1))
  refine tot_some ⟨h29, y29, ?_⟩
  unfold F4
  rw [(w11 e29).2.1, (w11 e29).1 0 (by decide), (w11 e29).1 1 (by decide), (w11 e29).1 2 (by decide), k25.2, (w11 e23).2.1, (w11 e23).1 0 (by decide), (w11 e23).1 1 (by decide), k19.2, (w11 e17).2.1, (w11 e17).1 0 (by decide), k13.2, (w11 e11).2.1]
  omega
theorem rend {S : MS} (h : TK S) (y : RY S) : Tot (fr_readText_b92 S) (fun S1 => (TK S1 ∧ RY S1) ∧ ((S1.1 5).toInt ≤ 0 → 1 ≤ (S1.2.1 11 4).toInt ∧ 1 ≤ (S1.2.1 11 8).toInt)) := by
  have z0 : (0 : Int32).toInt = 0 := by decide
  have z5 : (5 : Int32).toInt = 5 := by decide
  have bad : Tot (fr_readText_b111 S) (fun S1 => (TK S1 ∧ RY S1) ∧ ((S1.1 5).toInt ≤ 0 → 1 ≤ (S1.2.1 11 4).toInt ∧ 1 ≤ (S1.2.1 11 8).toInt)) := by
    unfold fr_readText_b111 fr_readText_b116
    refine tot_bind (tfaults 5 h (by omega)) (fun S4 d4 => ?_)
    exact tot_some ⟨⟨d4.1.1.1, ry_kp y d4.1⟩, fun q => by have := d4.2; omega⟩
  have y4 := nP_4 (y.1.1 4)
  have y8 : 0 ≤ (S.2.1 11 8).toInt := ((y.1.1 8).2.1.2.1 rfl).1
  unfold fr_readText_b92
  refine tot_let (fun v2 e2 => ?_)
  have q2 := i_eq e2
  refine tot_if (fun c => bad) (fun c => ?_)
  replace c := i_ne c
  refine tot_let (fun v4 e4 => ?_)
  have q4 := i_eq e4
  refine tot_if (fun c => bad) (fun c => ?_)
  replace c := i_ne c
  unfold fr_readText_b116
  exact tot_some ⟨⟨h, y⟩, fun _ => by omega⟩
theorem rlines : ∀ (n : Nat) (S : MS), TK S → RY S → (1 ≤ n ∧ ((S.1 5).toInt = 0 → (S.1 7).toInt = 4 → 1001 - (S.1 4).toInt < (n : Int))) → Tot (fr_readText_b52 n S) (fun S1 => (TK S1 ∧ RY S1) ∧ ((S1.1 5).toInt ≤ 0 → 1 ≤ (S1.2.1 11 4).toInt ∧ 1 ≤ (S1.2.1 11 8).toInt)) := by
  have z0 : (0 : Int32).toInt = 0 := by decide
  have z1 : (1 : Int32).toInt = 1 := by decide
  intro n
  induction n with
  | zero =>
    intro S h y hm
    exfalso
    omega
  | succ n ih =>
    intro S h y hm
    unfold fr_readText_b52
    refine tot_bindp (R := fun r : Int32 => r.toInt = 0 ∨ r.toInt = 1 ∧ (S.1 5).toInt = 0 ∧ (S.1 7).toInt = 4) (tsignhere 59) (fun r5 d5 => ?_)
    replace d5 : r5.toInt = 0 ∨ r5.toInt = 1 ∧ (S.1 5).toInt = 0 ∧ (S.1 7).toInt = 4 := d5
    refine tot_if (fun c => ?_) (fun c => ?_)
    · refine tot_let (fun v7 e7 => ?_)
      refine tot_if (fun c => ?_) (fun c => rend h y)
      refine tot_let (fun v9 e9 => ?_)
      refine tot_if (fun c => rend h y) (fun c => ?_)
      refine tot_bind (tfaults 1 h (by omega)) (fun S4 d4 => ?_)
      exact rend d4.1.1.1 (ry_kp y d4.1)
    · replace c := i_ne c
      refine tot_bind (tnext h) (fun S14 d14 => ?_)
      have k14 : KP S S14 := d14.1
      refine tot_bind (rline k14.1.1 (ry_kp y k14)) (fun S17 d17 => ?_)
      have k17 := d17.1.1
      have t17 := k17.1
      have ht := h
      unfold TK at ht t17
      have a1 := d14.2.2 (by omega)
      have a2 := k17.2
      have a3 := k14.1.2
      exact ih S17 k17.1 d17.1.2 ⟨by omega, fun q5 q7 => by omega⟩
theorem rdraft : ∀ (n : Nat) (S : MS) (l1 : Int32), TKa S → (S.1 5).toInt = 0 → (∀ j, j < 131 → S.2.1 11 j = 0) → (0 ≤ l1.toInt ∧ l1.toInt ≤ 2455) → (∀ j : Nat, (j : Int) < l1.toInt → S.2.1 13 j = 0) → 2455 - l1.toInt < (n : Int) → Tot (fr_readText_b24 n S l1) (fun S1 => (TK S1 ∧ RY S1) ∧ ((S1.1 5).toInt ≤ 0 → 1 ≤ (S1.2.1 11 4).toInt ∧ 1 ≤ (S1.2.1 11 8).toInt)) := by
  have z0 : (0 : Int32).toInt = 0 := by decide
  have z2455 : (2455 : Int32).toInt = 2455 := by decide
  have z1 : (Int32.ofInt (1) : Int32).toInt = 1 := by decide
  intro n
  induction n with
  | zero =>
    intro S l1 h h5 hN g hD hm
    exfalso
    omega
  | succ n ih =>
    intro S l1 h h5 hN g hD hm
    unfold fr_readText_b24
    refine tot_if (fun c => ?_) (fun c => ?_)
    · replace c := i_le c
      have y : AP (S.2.1 11) (S.2.1 13) := by
        refine ⟨fun k => ?_, fun k => ?_, ?_, fun k k1 k2 => ?_⟩
        · by_cases hk : k < 131
          · rw [hN k hk]; unfold nP; omega
          · unfold nP; omega
        · by_cases hk : k < 2455
          · rw [hD k (by omega)]; unfold nR; omega
          · unfold nR; omega
        · rw [hN 8 (by decide)]; omega
        · rw [hN 5 (by decide)] at k2; omega
      refine tot_bind (tnext0 h (by omega)) (fun S3 k3 => ?_)
      refine tot_bind (rfirst k3.1.1 (ap_kp y k3)) (fun S6 k6 => ?_)
      have t := k6.1.1
      unfold TK at t
      exact rlines 16384 S6 k6.1.1 k6.2 ⟨by decide, fun _ _ => by omega⟩
    · replace c := i_nle c
      refine tot_oif (i_inb (by omega) (by omega)) ?_
      have x1 := i_cl (i := l1) (by omega)
      refine tot_let (fun S10 e10 => ?_)
      refine tot_let (fun v11 e11 => ?_)
      have q11 := i_add e11 (by omega) (by omega)
      obtain ⟨w1, w2, w3, w4⟩ := w13 e10
      refine ih S10 v11 (by unfold TKa at *; rw [w4]; exact h) (by rw [w4]; exact h5) (by rw [w3]; exact hN) (by omega) (fun j hj => ?_) (by omega)
      by_cases e : j = l1.toNatClampNeg
      · rw [e, w2]
      · rw [w1 j e]; exact hD j (by omega)
theorem rplan : ∀ (n : Nat) (S : MS) (l1 : Int32), TKa S → (S.1 5).toInt = 0 → (0 ≤ l1.toInt ∧ l1.toInt ≤ 131) → (∀ j : Nat, (j : Int) < l1.toInt → S.2.1 11 j = 0) → 131 - l1.toInt < (n : Int) → Tot (fr_readText_b2 n S l1) (fun S1 => (TK S1 ∧ RY S1) ∧ ((S1.1 5).toInt ≤ 0 → 1 ≤ (S1.2.1 11 4).toInt ∧ 1 ≤ (S1.2.1 11 8).toInt)) := by
  have z0 : (0 : Int32).toInt = 0 := by decide
  have z131 : (131 : Int32).toInt = 131 := by decide
  have z1 : (Int32.ofInt (1) : Int32).toInt = 1 := by decide
  intro n
  induction n with
  | zero =>
    intro S l1 h h5 g hN hm
    exfalso
    omega
  | succ n ih =>
    intro S l1 h h5 g hN hm
    unfold fr_readText_b2
    refine tot_if (fun c => ?_) (fun c => ?_)
    · replace c := i_le c
      exact rdraft 16384 S 0 h h5 (fun j hj => hN j (by omega)) (by omega) (fun j hj => by omega) (by omega)
    · replace c := i_nle c
      refine tot_oif (i_inb (by omega) (by omega)) ?_
      have x1 := i_cl (i := l1) (by omega)
      refine tot_let (fun S10 e10 => ?_)
      refine tot_let (fun v11 e11 => ?_)
      have q11 := i_add e11 (by omega) (by omega)
      obtain ⟨w1, w2, w3, w4⟩ := w11 e10
      refine ih S10 v11 (by unfold TKa at *; rw [w4]; exact h) (by rw [w4]; exact h5) (by omega) (fun j hj => ?_) (by omega)
      by_cases e : j = l1.toNatClampNeg
      · rw [e, w2]
      · rw [w1 j e]; exact hN j (by omega)
theorem rtext {S : MS} (h : TKa S) (h5 : (S.1 5).toInt = 0) : Tot (fr_readText S) (fun S1 => (TK S1 ∧ RY S1) ∧ ((S1.1 5).toInt ≤ 0 → 1 ≤ (S1.2.1 11 4).toInt ∧ 1 ≤ (S1.2.1 11 8).toInt)) := by
  have z0 : (0 : Int32).toInt = 0 := by decide
  unfold fr_readText
  exact rplan 16384 S 0 h h5 (by omega) (fun j hj => by omega) (by omega)
end
section
/-! 12i.load.lean.txt -/
/-! Safety of the reference's load -/
theorem ib_fk {S S1 : MS} (h : IB S) (w : FK [4, 5, 6, 7, 8, 9] [11, 13] S S1) (h7 : 0 ≤ (S1.1 7).toInt ∧ (S1.1 7).toInt ≤ 4) (h13 : ∀ k, nR k (S1.2.1 13 k)) : IB S1 := by
  unfold IB at *
  rw [w.1 2 (by decide), w.1 19 (by decide), w.1 21 (by decide), w.1 22 (by decide), w.1 28 (by decide), w.2 12 (by decide), w.2 14 (by decide), w.2 15 (by decide), w.2 16 (by decide), w.2 17 (by decide), w.2 18 (by decide), w.2 24 (by decide)]
  exact ⟨⟨h.1.1, h.1.2.1, h.1.2.2.1, h.1.2.2.2.1, h7⟩, h.2.1, h13, h.2.2.2⟩
theorem pl_of {P N D : Nat → Int32} (e : ∀ j, j < 131 → P j = N j) (a : AP N D) (f : F4 N) (h4 : 1 ≤ (N 4).toInt) (h8 : 1 ≤ (N 8).toInt) : PL P := by
  have r := a.2.2.1 h8
  have g : ∀ k, k < 131 → nP k (P k) := fun k hk => by rw [e k hk]; exact a.1 k
  have f0 := (g 0 (by decide)).1.1 rfl
  have f1 := (g 1 (by decide)).1.2.1 rfl
  have f2 := (g 2 (by decide)).1.2.2.1 rfl
  have f3 := (g 3 (by decide)).1.2.2.2.1 rfl
  have f4 := nP_4 (g 4 (by decide))
  have f8 := (g 8 (by decide)).2.1.2.1 rfl
  have f9 := nP_9 (g 9 (by decide))
  have f10 := nP_10 (g 10 (by decide))
  unfold F4 at f
  rw [← e 0 (by decide), ← e 1 (by decide), ← e 2 (by decide), ← e 3 (by decide)] at f
  rw [← e 4 (by decide)] at h4
  rw [← e 8 (by decide)] at h8
  rw [← e 9 (by decide), ← e 10 (by decide)] at r
  refine ⟨⟨?_, ?_, ?_, ?_⟩, ⟨?_, ?_, ?_, ?_⟩, ⟨?_, ?_, ?_, ?_⟩, ⟨?_, ?_, ?_, ?_⟩, fun k a b => ?_, fun k a b => ?_, fun k a b => ?_, fun k a b => ?_, fun k a b => ?_, fun k a b => ?_, fun k a b => ?_, fun k a b => ?_, fun k a b => ?_, fun k a b => ?_, fun k a b => ?_, fun k a b => ?_, fun k a b => ?_, fun k k1 k2 => ?_⟩
  · omega
  · omega
  · omega
  · omega
  · omega
  · exact nP_5 (g 5 (by decide))
  · exact (g 6 (by decide)).2.1.1 (by decide) (by decide)
  · exact (g 7 (by decide)).2.1.1 (by decide) (by decide)
  · omega
  · omega
  · omega
  · exact nP_71 (g 71 (by decide))
  · exact (g 76 (by decide)).2.2.1.2.2.2.2.2 rfl
  · exact nP_77 (g 77 (by decide))
  · exact nP_101 (g 101 (by decide))
  · exact nP_118 (g 118 (by decide))
  · exact (g k (by omega)).2.1.2.2.2.1 a b
  · exact (g k (by omega)).2.1.2.2.2.2.1 a b
  · exact (g k (by omega)).2.1.2.2.2.2.2 a b
  · exact (g k (by omega)).2.2.1.1 a b
  · exact (g k (by omega)).2.2.1.2.1 a (by omega)
  · exact (g k (by omega)).2.2.1.2.1 (by omega) b
  · exact (g k (by omega)).2.2.1.2.2.2.1 a b
  · exact (g k (by omega)).2.2.1.2.2.2.2.1 a b
  · exact (g k (by omega)).2.2.2.2.1 a b
  · exact (g k (by omega)).2.2.2.2.2.1 a b
  · exact (g k (by omega)).2.2.2.2.2.2.1 a b
  · exact (g k (by omega)).2.2.2.2.2.2.2.2.1 a b
  · exact (g k (by omega)).2.2.2.2.2.2.2.2.2.2 a b
  · rw [e 5 (by decide)] at k2
    have := nP_5 (a.1 5)
    rw [e k (by omega)]
    exact a.2.2.2 k k1 k2
theorem ld_plan : ∀ (n : Nat) (S : MS) (l2 : Int32), RY S → IB S → 1 ≤ (S.2.1 11 4).toInt → 1 ≤ (S.2.1 11 8).toInt → (0 ≤ l2.toInt ∧ l2.toInt ≤ 131) → (∀ j : Nat, (j : Int) < l2.toInt → S.2.1 10 j = S.2.1 11 j) → 131 - l2.toInt < (n : Int) → Tot (fr_load_b67 n S l2) (fun r => ∃ P, PL P ∧ IC P r.2) := by
  have z0 : (0 : Int32).toInt = 0 := by decide
  have z131 : (131 : Int32).toInt = 131 := by decide
  have z1 : (Int32.ofInt (1) : Int32).toInt = 1 := by decide
  intro n
  induction n with
  | zero =>
    intro S l2 y b h4 h8 g hj hm
    exfalso
    omega
  | succ n ih =>
    intro S l2 y b h4 h8 g hj hm
    unfold fr_load_b67
    refine tot_if (fun c => ?_) (fun c => ?_)
    · replace c := i_le c
      have hP : PL (S.2.1 10) := pl_of (fun j q => hj j (by omega)) y.1 y.2 h4 h8
      refine tot_bind (sf_copy_13_12 hP S 0 0 ⟨rfl, b⟩ (by omega) (by omega)) (fun S3 d3 => ?_)
      exact tot_w (lcam hP S3 d3.1) (fun r q => ⟨_, hP, q.1⟩)
    · replace c := i_nle c
      have x1 := i_cl (i := l2) (by omega)
      refine tot_oif (i_inb (by omega) (by omega)) ?_
      refine tot_let (fun v7 e7 => ?_)
      refine tot_oif (i_inb (by omega) (by omega)) ?_
      refine tot_let (fun S9 e9 => ?_)
      refine tot_let (fun v10 e10 => ?_)
      have q10 := i_add e10 (by omega) (by omega)
      have a11 : S9.2.1 11 = S.2.1 11 := by rw [e9]; rfl
      have a13 : S9.2.1 13 = S.2.1 13 := by rw [e9]; rfl
      have a10 : S9.2.1 10 = upd (S.2.1 10) l2.toNatClampNeg v7 := by rw [e9]; rfl
      have b9 : IB S9 := by rw [e9]; exact b
      refine ih S9 v10 (by unfold RY; rw [a11, a13]; exact y) b9 (by rw [a11]; exact h4) (by rw [a11]; exact h8) (by omega) (fun j q => ?_) (by omega)
      rw [a10, a11]
      unfold upd
      by_cases ej : j = l2.toNatClampNeg
      · rw [if_pos ej, e7, ej]
      · rw [if_neg ej]
        exact hj j (by omega)
/-- with a camera, without one -/
def CAM (S : MS) : Prop := ∃ P, PL P ∧ IC P S
def NC (S : MS) : Prop := ((S.2.1 10 = (fun _ => 0) ∧ IB S) ∧ (S.1 20).toInt = 0 ∧ (S.1 19).toInt = 0) ∧ (S.2.1 18 0).toInt = 0 ∧ (S.2.1 18 1).toInt = 0
def JJ (S : MS) : Prop := CAM S ∨ NC S
theorem jj_ib {S : MS} (h : JJ S) : IB S := by
  rcases h with ⟨P, _, h⟩ | h
  · exact h.2
  · exact h.1.1.2
/-- what keeps plan and the rest in order keeps either -/
theorem jj_of {S S1 : MS} (h : JJ S) (b : IB S1) (e10 : S1.2.1 10 = S.2.1 10) (e20 : S1.1 20 = S.1 20) (e19 : S1.1 19 = S.1 19) (e18 : S1.2.1 18 = S.2.1 18) : JJ S1 := by
  rcases h with ⟨P, hP, h⟩ | h
  · exact .inl ⟨P, hP, e10.trans h.1, b⟩
  · refine .inr ⟨⟨⟨e10.trans h.1.1.1, b⟩, ?_, ?_⟩, ?_, ?_⟩
    · rw [e20]; exact h.1.2.1
    · rw [e19]; exact h.1.2.2
    · rw [e18]; exact h.2.1
    · rw [e18]; exact h.2.2
theorem sj_load (S : MS) (a0 : Int32) (h : JJ S) : Tot (fr_load S a0) (fun r => JJ r.2) := by
  have z0 : (0 : Int32).toInt = 0 := by decide
  have b := jj_ib h
  unfold fr_load fr_throwsAt
  refine tot_let (fun S2 e2 => ?_)
  have j2 : JJ S2 := by rw [e2]; exact h
  refine tot_let (fun v3 e3 => ?_)
  have q3 := i_eq e3
  have b3 := (jj_ib j2).1.1
  refine tot_bind (tin a0 0 v3) (fun r4 d4 => ?_)
  refine tot_if (fun c => ?_) (fun c => ?_)
  · refine tot_bind2 (Q := fun r => JJ r.2) (tot_let (fun S4 e4 => tot_some (by rw [e4]; exact j2))) (fun r10 S7 d7 => ?_)
    exact tot_some d7
  · replace c := i_ne c
    refine tot_let (fun S11 e11 => ?_)
    refine tot_let (fun S12 e12 => ?_)
    refine tot_let (fun S13 e13 => ?_)
    refine tot_let (fun S14 e14 => ?_)
    refine tot_let (fun S15 e15 => ?_)
    have b2 := jj_ib j2
    have b15 : IB S15 := by
      rw [e15, e14, e13, e12, e11]
      exact ⟨⟨⟨by show 0 ≤ (0 : Int32).toInt; decide, by show (0 : Int32).toInt ≤ 1000; decide⟩, b2.1.2⟩, b2.2⟩
    have ta : TKa S15 ∧ (S15.1 5).toInt = 0 := by
      have r3 : (S15.1 3).toInt = a0.toInt := by rw [e15, e14, e13, e12, e11]; rfl
      have r4 : (S15.1 4).toInt = 0 := by rw [e15, e14, e13]; rfl
      have r5 : (S15.1 5).toInt = 0 := by rw [e15, e14]; rfl
      have r7 := b15.1.2.2.2.2
      unfold TKa
      omega
    have j15 : JJ S15 := jj_of j2 b15 (by rw [e15, e14, e13, e12, e11]; rfl) (by rw [e15, e14, e13, e12, e11]; rfl) (by rw [e15, e14, e13, e12, e11]; rfl) (by rw [e15, e14, e13, e12, e11]; rfl)
    refine tot_bind (tot_and (rtext ta.1 ta.2) (fun S1 e => w_fr_readText e)) (fun S16 d16 => ?_)
    have t16 := d16.1.1.1
    have y16 := d16.1.1.2
    have b16 : IB S16 := ib_fk b15 d16.2 t16.2.2.1 y16.1.2.1
    refine tot_let (fun v19 e19 => ?_)
    have q19 := i_eq e19
    refine tot_if (fun c => ?_) (fun c => ?_)
    · replace c := i_le c
      have h48 := d16.1.2 (by omega)
      exact tot_w (ld_plan 16384 S16 0 y16 b16 h48.1 h48.2 (by omega) (fun j hj => by omega) (by omega)) (fun r q => .inl q)
    · have j16 : JJ S16 := jj_of j15 b16 (d16.2.2 10 (by decide)) (d16.2.1 20 (by decide)) (d16.2.1 19 (by decide)) (d16.2.2 18 (by decide))
      refine tot_bind2 (Q := fun r => JJ r.2) (tot_let (fun S4 e4 => tot_some (by rw [e4]; exact j16))) (fun r10 S7 d7 => ?_)
      exact tot_some d7
/-- four bytes of append -/
theorem s_four : ∀ (j n : Nat) (S : MS) (l1 l2 : Int32), JJ S → l2.toInt = 8 * (j : Int) - 8 → j ≤ 4 → (S.1 2).toInt + j ≤ 1000 → j < n → Tot (fr_four_b3 n S l1 l2) (fun S1 => JJ S1 ∧ (S1.1 2).toInt = (S.1 2).toInt + j) := by
  have z0 : (0 : Int32).toInt = 0 := by decide
  have z1 : (1 : Int32).toInt = 1 := by decide
  have z8 : (Int32.ofInt (-8) : Int32).toInt = -8 := by decide
  intro j
  induction j with
  | zero =>
    intro n S l1 l2 h e hj hb hn
    obtain ⟨n, rfl⟩ : ∃ k, n = k + 1 := ⟨n - 1, by omega⟩
    unfold fr_four_b3
    refine tot_if (fun c => ?_) (fun c => ?_)
    · exact tot_some ⟨h, by omega⟩
    · replace c := i_nlt c
      exfalso
      omega
  | succ j ih =>
    intro n S l1 l2 h e hj hb hn
    obtain ⟨n, rfl⟩ : ∃ k, n = k + 1 := ⟨n - 1, by omega⟩
    have b := jj_ib h
    have b2 := b.1.1
    rw [four_step (b := 999) ⟨b2.1, by omega⟩ (by omega) (fun q => by have := i_lt q; omega)]
    have q2 : (S.1 2 + 1).toInt = (S.1 2).toInt + 1 := i_add rfl (by omega) (by omega)
    have q8 : (l2 + Int32.ofInt (-8)).toInt = l2.toInt - 8 := (i_add rfl (by omega) (by omega)).trans (by omega)
    refine tot_w (ih n _ l1 (l2 + Int32.ofInt (-8)) (jj_of h ?_ rfl rfl rfl rfl) (by omega) (by omega) ?_ (by omega)) (fun S1 q => ⟨q.1, ?_⟩)
    · exact ⟨⟨⟨by show 0 ≤ (S.1 2 + 1).toInt; omega, by show (S.1 2 + 1).toInt ≤ 1000; omega⟩, b.1.2⟩, b.2⟩
    · show (S.1 2 + 1).toInt + j ≤ 1000
      omega
    · have q1 : (S1.1 2).toInt = (S.1 2 + 1).toInt + j := q.2
      omega
theorem sj_four (S : MS) (a0 : Int32) (h : JJ S) (hb : (S.1 2).toInt + 4 ≤ 1000) : Tot (fr_four S a0) (fun S1 => JJ S1 ∧ (S1.1 2).toInt = (S.1 2).toInt + 4) := by
  unfold fr_four
  exact s_four 4 16384 S a0 24 h (by decide) (by decide) hb (by decide)
theorem sj_append (S : MS) (a0 a1 a2 a3 a4 : Int32) (h : JJ S) : Tot (fr_append S a0 a1 a2 a3 a4) (fun r => JJ r.2 ∧ ((S.1 2).toInt + 20 ≤ 1000 ∧ r.1.toInt = (S.1 2).toInt + 20 ∧ (r.2.1 2).toInt = (S.1 2).toInt + 20 ∨ 1000 < (S.1 2).toInt + 20 ∧ r.1 = -1 ∧ (r.2.1 2).toInt = (S.1 2).toInt)) := by
  have z20 : (20 : Int32).toInt = 20 := by decide
  have z1000 : (1000 : Int32).toInt = 1000 := by decide
  have b := (jj_ib h).1.1
  unfold fr_append
  refine tot_let (fun S2 e2 => ?_)
  have j2 : JJ S2 := by rw [e2]; exact h
  have f2 : (S2.1 2).toInt = (S.1 2).toInt := by rw [e2]; rfl
  refine tot_let (fun v3 e3 => ?_)
  have q3 := i_eq e3
  refine tot_let (fun v4 e4 => ?_)
  have q4 := i_add e4 (by omega) (by omega)
  refine tot_if (fun c => ?_) (fun c => ?_)
  · replace c := i_le c
    refine tot_bind (sj_four S2 a0 j2 (by omega)) (fun S6 d6 => ?_)
    refine tot_bind (sj_four S6 a1 d6.1 (by omega)) (fun S9 d9 => ?_)
    refine tot_bind (sj_four S9 a2 d9.1 (by omega)) (fun S12 d12 => ?_)
    refine tot_bind (sj_four S12 a3 d12.1 (by omega)) (fun S15 d15 => ?_)
    refine tot_bind (sj_four S15 a4 d15.1 (by omega)) (fun S18 d18 => ?_)
    refine tot_let (fun v21 e21 => ?_)
    have q21 := i_eq e21
    exact tot_some ⟨d18.1, .inl ⟨by omega, show v21.toInt = _ from by omega, show (S18.1 2).toInt = _ from by omega⟩⟩
  · replace c := i_nle c
    exact tot_some ⟨j2, .inr ⟨by omega, rfl, f2⟩⟩
end
section
/-! 12i2.nc.lean.txt -/
section
variable {S : MS}
theorem nc_p (h : NC S) {v : Int32} {k : Nat} (e : v = S.2.1 10 k) : v.toInt = 0 := by rw [e, h.1.1.1]; rfl
theorem nc_2 (h : NC S) : 0 ≤ (S.1 2).toInt ∧ (S.1 2).toInt ≤ 1000 := h.1.1.2.1.1
theorem nc_19 (h : NC S) : (S.1 19).toInt = 0 := h.1.2.2
theorem nc_20 (h : NC S) : (S.1 20).toInt = 0 := h.1.2.1
theorem nc_28 (h : NC S) : 0 ≤ (S.1 28).toInt ∧ (S.1 28).toInt ≤ 160 := h.1.1.2.1.2.2.2.1
theorem nc_18 (h : NC S) (i : Int32) {v : Int32} (e : v = S.2.1 18 i.toNatClampNeg) (h1 : 0 ≤ i.toInt) (h2 : i.toInt ≤ 1) : v.toInt = 0 := by
  have x := i_cl h1
  rw [e]
  by_cases q : i.toNatClampNeg = 0
  · rw [q]; exact h.2.1
  · rw [show i.toNatClampNeg = 1 from by omega]; exact h.2.2
theorem nc_mi0 (h : NC S) (v : Int32) : NC (mi S 0 v) := h
end
end
