set_option maxHeartbeats 4000000 in
set_option maxRecDepth 10000 in
theorem lf_peaks_b22 {P : Nat → Int32} (hP : PL P) {Q : Int32 × MS → Prop} (hx0 : ∀ (S : MS) (l1 : Int32), (IC P S) → Tot (some (l1, S)) Q) : ∀ (n : Nat) (S : MS) (l1 : Int32) (l2 : Int32), (IC P S) → (0 ≤ l2.toInt ∧ l2.toInt ≤ 144) → 144 - l2.toInt < (n : Int) → Tot (fr_peaks_b22 n S l1 l2) Q := by
  have z0 : (0 : Int32).toInt = 0 := by decide
  have z1 : (Int32.ofInt (1) : Int32).toInt = 1 := by decide
  have z2 : (1 : Int32).toInt = 1 := by decide
  have p_9 := pl_9 hP
  have p_10 := pl_10 hP
  have p_cells := pl_cells hP
  intro n
  induction n with
  | zero =>
    intro S l1 l2 h_S g_l2 hm
    exfalso
    omega
  | succ n ih =>
    intro S l1 l2 h_S g_l2 hm
    unfold fr_peaks_b22
    refine tot_bindp (R := fun r_13 : Int32 => ((1 ≤ r_13.toInt ∧ r_13.toInt ≤ 144) ∧ r_13.toInt = (P 9).toInt * (P 10).toInt)) (sf_cellCount hP S h_S ) (fun r_13 d_r_13 => ?_)
    replace d_r_13 : ((1 ≤ r_13.toInt ∧ r_13.toInt ≤ 144) ∧ r_13.toInt = (P 9).toInt * (P 10).toInt) := d_r_13
    refine tot_if (fun c_25 => ?_) (fun c_25 => ?_)
    · replace c_25 := i_le c_25
      exact hx0 S l1 h_S
    · replace c_25 := i_nle c_25
      refine tot_bindp (R := fun r_15 : Int32 => (0 ≤ r_15.toInt ∧ r_15.toInt ≤ 1)) (sf_isTop hP S l2 h_S (by omega)) (fun r_15 d_r_15 => ?_)
      replace d_r_15 : (0 ≤ r_15.toInt ∧ r_15.toInt ≤ 1) := d_r_15
      refine tot_if (fun c_26 => ?_) (fun c_26 => ?_)
      · replace c_26 := i_eq c_26
        unfold fr_peaks_b44
        refine tot_let (fun v_27 e_v_27 => ?_)
        have r_v_27 := i_any v_27
        refine tot_let (fun v_28 e_v_28 => ?_)
        have q_v_28 := i_add e_v_28 (by omega) (by omega)
        exact ih S v_27 v_28 h_S (by omega) (by omega)
      · replace c_26 := i_ne c_26
        unfold fr_peaks_b44
        refine tot_let (fun v_29 e_v_29 => ?_)
        have r_v_29 := i_any v_29
        refine tot_let (fun v_30 e_v_30 => ?_)
        have q_v_30 := i_add e_v_30 (by omega) (by omega)
        exact ih S v_29 v_30 h_S (by omega) (by omega)
set_option maxHeartbeats 4000000 in
set_option maxRecDepth 10000 in
theorem sf_peaks {P : Nat → Int32} (hP : PL P) (S : MS) (h_S : IC P S) : Tot (fr_peaks S) (fun r => IC P r.2 ∧ True) := by
  have z0 : (1 : Int32).toInt = 1 := by decide
  have z1 : (0 : Int32).toInt = 0 := by decide
  unfold fr_peaks
  refine tot_bind2 (sf_mayAsk hP S 1 h_S (by omega)) (fun r_1 S_2 d_r_1 => ?_)
  have h_S_2 : IC P S_2 := d_r_1.1
  replace d_r_1 : (r_1.toInt = 0 ∨ r_1.toInt = 1 ∧ ¬ (1 : Int32).toInt = 0) := d_r_1.2
  refine tot_if (fun c_4 => ?_) (fun c_4 => ?_)
  · replace c_4 := i_eq c_4
    exact tot_some ⟨h_S_2, trivial⟩
  · replace c_4 := i_ne c_4
    refine tot_bind (sf_laysPowers_12 hP S_2 h_S_2 ) (fun S_3 d_S_3 => ?_)
    have h_S_3 : IC P S_3 := d_S_3.1
    refine lf_peaks_b22 hP  ?_ 16384 S_3 0 0 h_S_3 (by omega) (by omega)
    · intro S_31 l_32 h_S_31
      have j_l_32 := i_any l_32
      exact tot_some ⟨h_S_31, trivial⟩
set_option maxHeartbeats 4000000 in
set_option maxRecDepth 10000 in
theorem sf_isGreater {P : Nat → Int32} (hP : PL P) (S : MS) (a0 : Int32) (a1 : Int32) (h_S : IC P S) (g0 : 0 ≤ a0.toInt ∧ a0.toInt ≤ 143) (g1 : 0 ≤ a1.toInt ∧ a1.toInt ≤ 143) : Tot (fr_isGreater S a0 a1) (fun r => r.2 = S ∧ (0 ≤ r.1.toInt ∧ r.1.toInt ≤ 1)) := by
  have z0 : (0 : Int32).toInt = 0 := by decide
  have z1 : (1 : Int32).toInt = 1 := by decide
  have j_a0 := i_any a0
  have j_a1 := i_any a1
  unfold fr_isGreater
  refine tot_oif (i_inb (by omega) (by omega)) ?_
  refine tot_let (fun v_1 e_v_1 => ?_)
  refine tot_oif (i_inb (by omega) (by omega)) ?_
  refine tot_let (fun v_2 e_v_2 => ?_)
  refine tot_let (fun v_3 e_v_3 => ?_)
  have r_v_3 := i_any v_3
  refine tot_if (fun c_7 => ?_) (fun c_7 => ?_)
  · replace c_7 := i_lt c_7
    unfold fr_isGreater_b37
    unfold fr_isGreater_b42
    refine tot_oif (i_b01 (by omega)) ?_
    exact tot_some ⟨rfl, (show (0 ≤ (1 : Int32).toInt ∧ (1 : Int32).toInt ≤ 1) from by omega)⟩
  · replace c_7 := i_nlt c_7
    refine tot_oif (i_inb (by omega) (by omega)) ?_
    refine tot_let (fun v_4 e_v_4 => ?_)
    refine tot_oif (i_inb (by omega) (by omega)) ?_
    refine tot_let (fun v_5 e_v_5 => ?_)
    refine tot_let (fun v_6 e_v_6 => ?_)
    have r_v_6 := i_any v_6
    refine tot_if (fun c_8 => ?_) (fun c_8 => ?_)
    · replace c_8 := i_eq c_8
      refine tot_if (fun c_9 => ?_) (fun c_9 => ?_)
      · replace c_9 := i_le c_9
        unfold fr_isGreater_b41
        unfold fr_isGreater_b42
        refine tot_oif (i_b01 (by omega)) ?_
        exact tot_some ⟨rfl, (show (0 ≤ (0 : Int32).toInt ∧ (0 : Int32).toInt ≤ 1) from by omega)⟩
      · replace c_9 := i_nle c_9
        unfold fr_isGreater_b37
        unfold fr_isGreater_b42
        refine tot_oif (i_b01 (by omega)) ?_
        exact tot_some ⟨rfl, (show (0 ≤ (1 : Int32).toInt ∧ (1 : Int32).toInt ≤ 1) from by omega)⟩
    · replace c_8 := i_ne c_8
      unfold fr_isGreater_b41
      unfold fr_isGreater_b42
      refine tot_oif (i_b01 (by omega)) ?_
      exact tot_some ⟨rfl, (show (0 ≤ (0 : Int32).toInt ∧ (0 : Int32).toInt ≤ 1) from by omega)⟩
set_option maxHeartbeats 4000000 in
set_option maxRecDepth 10000 in
theorem lf_peakAt_b44 {P : Nat → Int32} (hP : PL P) {Q : Int32 × MS → Prop} {k20 : MS → Int32 → Int32 → Option (Int32 × MS)} (l1 : Int32) (l2 : Int32) (g0 : 0 ≤ l2.toInt ∧ l2.toInt ≤ 143) (hx0 : ∀ (S : MS) (l3 : Int32), (IC P S) → Tot (if l3 = l1 then (some (l2, S)) else (fr_peakAt_b99 k20 S l1 l2)) Q) : ∀ (n : Nat) (S : MS) (l3 : Int32) (l4 : Int32), (IC P S) → (0 ≤ l4.toInt ∧ l4.toInt ≤ 144) → 144 - l4.toInt < (n : Int) → Tot (fr_peakAt_b44 k20 n S l1 l2 l3 l4) Q := by
  have z0 : (0 : Int32).toInt = 0 := by decide
  have z1 : (Int32.ofInt (1) : Int32).toInt = 1 := by decide
  have z2 : (1 : Int32).toInt = 1 := by decide
  have p_9 := pl_9 hP
  have p_10 := pl_10 hP
  have p_cells := pl_cells hP
  have j_l1 := i_any l1
  have j_l2 := i_any l2
  intro n
  induction n with
  | zero =>
    intro S l3 l4 h_S g_l4 hm
    exfalso
    omega
  | succ n ih =>
    intro S l3 l4 h_S g_l4 hm
    unfold fr_peakAt_b44
    refine tot_bindp (R := fun r_79 : Int32 => ((1 ≤ r_79.toInt ∧ r_79.toInt ≤ 144) ∧ r_79.toInt = (P 9).toInt * (P 10).toInt)) (sf_cellCount hP S h_S ) (fun r_79 d_r_79 => ?_)
    replace d_r_79 : ((1 ≤ r_79.toInt ∧ r_79.toInt ≤ 144) ∧ r_79.toInt = (P 9).toInt * (P 10).toInt) := d_r_79
    refine tot_if (fun c_100 => ?_) (fun c_100 => ?_)
    · replace c_100 := i_le c_100
      exact hx0 S l3 h_S
    · replace c_100 := i_nle c_100
      refine tot_if (fun c_101 => ?_) (fun c_101 => ?_)
      · replace c_101 := i_eq c_101
        unfold fr_peakAt_b83
        unfold fr_peakAt_b84
        refine tot_let (fun v_102 e_v_102 => ?_)
        have r_v_102 := i_any v_102
        refine tot_let (fun v_103 e_v_103 => ?_)
        have q_v_103 := i_add e_v_103 (by omega) (by omega)
        exact ih S v_102 v_103 h_S (by omega) (by omega)
      · replace c_101 := i_ne c_101
        refine tot_bindp (R := fun r_81 : Int32 => (0 ≤ r_81.toInt ∧ r_81.toInt ≤ 1)) (sf_isTop hP S l4 h_S (by omega)) (fun r_81 d_r_81 => ?_)
        replace d_r_81 : (0 ≤ r_81.toInt ∧ r_81.toInt ≤ 1) := d_r_81
        refine tot_if (fun c_104 => ?_) (fun c_104 => ?_)
        · replace c_104 := i_eq c_104
          unfold fr_peakAt_b83
          unfold fr_peakAt_b84
          refine tot_let (fun v_105 e_v_105 => ?_)
          have r_v_105 := i_any v_105
          refine tot_let (fun v_106 e_v_106 => ?_)
          have q_v_106 := i_add e_v_106 (by omega) (by omega)
          exact ih S v_105 v_106 h_S (by omega) (by omega)
        · replace c_104 := i_ne c_104
          refine tot_bindp (R := fun r_83 : Int32 => (0 ≤ r_83.toInt ∧ r_83.toInt ≤ 1)) (sf_isGreater hP S l4 l2 h_S (by omega) (by omega)) (fun r_83 d_r_83 => ?_)
          replace d_r_83 : (0 ≤ r_83.toInt ∧ r_83.toInt ≤ 1) := d_r_83
          refine tot_if (fun c_107 => ?_) (fun c_107 => ?_)
          · replace c_107 := i_eq c_107
            unfold fr_peakAt_b83
            unfold fr_peakAt_b84
            refine tot_let (fun v_108 e_v_108 => ?_)
            have r_v_108 := i_any v_108
            refine tot_let (fun v_109 e_v_109 => ?_)
            have q_v_109 := i_add e_v_109 (by omega) (by omega)
            exact ih S v_108 v_109 h_S (by omega) (by omega)
          · replace c_107 := i_ne c_107
            unfold fr_peakAt_b84
            refine tot_let (fun v_110 e_v_110 => ?_)
            have r_v_110 := i_any v_110
            refine tot_let (fun v_111 e_v_111 => ?_)
            have q_v_111 := i_add e_v_111 (by omega) (by omega)
            exact ih S v_110 v_111 h_S (by omega) (by omega)
set_option maxHeartbeats 4000000 in
set_option maxRecDepth 10000 in
theorem lf_peakAt_b20 {P : Nat → Int32} (hP : PL P) {Q : Int32 × MS → Prop} (l1 : Int32) (hx0 : ∀ (S : MS), (IC P S) → Tot (obind2 (fr_throwsAt S 2) fun r_47 S_48 => some (r_47, S_48)) Q) (hx1 : ∀ (S_112 : MS) (l2 : Int32), (IC P S_112) → (0 ≤ l2.toInt ∧ l2.toInt ≤ 143) → Tot (some (l2, S_112)) Q) : ∀ (n : Nat) (S : MS) (l2 : Int32), (IC P S) → (0 ≤ l2.toInt ∧ l2.toInt ≤ 144) → 144 - l2.toInt < (n : Int) → Tot (fr_peakAt_b20 n S l1 l2) Q := by
  have z0 : (0 : Int32).toInt = 0 := by decide
  have z1 : (Int32.ofInt (1) : Int32).toInt = 1 := by decide
  have p_9 := pl_9 hP
  have p_10 := pl_10 hP
  have p_cells := pl_cells hP
  have j_l1 := i_any l1
  intro n
  induction n with
  | zero =>
    intro S l2 h_S g_l2 hm
    exfalso
    omega
  | succ n ih =>
    intro S l2 h_S g_l2 hm
    unfold fr_peakAt_b20
    refine tot_bindp (R := fun r_45 : Int32 => ((1 ≤ r_45.toInt ∧ r_45.toInt ≤ 144) ∧ r_45.toInt = (P 9).toInt * (P 10).toInt)) (sf_cellCount hP S h_S ) (fun r_45 d_r_45 => ?_)
    replace d_r_45 : ((1 ≤ r_45.toInt ∧ r_45.toInt ≤ 144) ∧ r_45.toInt = (P 9).toInt * (P 10).toInt) := d_r_45
    refine tot_if (fun c_76 => ?_) (fun c_76 => ?_)
    · replace c_76 := i_le c_76
      exact hx0 S h_S
    · replace c_76 := i_nle c_76
      refine tot_bindp (R := fun r_49 : Int32 => (0 ≤ r_49.toInt ∧ r_49.toInt ≤ 1)) (sf_isTop hP S l2 h_S (by omega)) (fun r_49 d_r_49 => ?_)
      replace d_r_49 : (0 ≤ r_49.toInt ∧ r_49.toInt ≤ 1) := d_r_49
      refine tot_if (fun c_77 => ?_) (fun c_77 => ?_)
      · replace c_77 := i_eq c_77
        unfold fr_peakAt_b99
        refine tot_let (fun v_78 e_v_78 => ?_)
        have q_v_78 := i_add e_v_78 (by omega) (by omega)
        exact ih S v_78 h_S (by omega) (by omega)
      · replace c_77 := i_ne c_77
        refine lf_peakAt_b44 hP l1 l2 (by omega) ?_ 16384 S 0 0 h_S (by omega) (by omega)
        · intro S_112 l_113 h_S_112
          have j_l_113 := i_any l_113
          refine tot_if (fun c_114 => ?_) (fun c_114 => ?_)
          · replace c_114 := i_eq c_114
            exact hx1 S_112 l2 h_S_112 (by omega)
          · replace c_114 := i_ne c_114
            unfold fr_peakAt_b99
            refine tot_let (fun v_115 e_v_115 => ?_)
            have q_v_115 := i_add e_v_115 (by omega) (by omega)
            exact ih S_112 v_115 h_S_112 (by omega) (by omega)
set_option maxHeartbeats 4000000 in
set_option maxRecDepth 10000 in
theorem sf_peakAt {P : Nat → Int32} (hP : PL P) (S : MS) (a0 : Int32) (h_S : IC P S) : Tot (fr_peakAt S a0) (fun r => IC P r.2 ∧ (0 ≤ r.1.toInt ∧ r.1.toInt ≤ 143)) := by
  have z0 : (1 : Int32).toInt = 1 := by decide
  have z1 : (0 : Int32).toInt = 0 := by decide
  have z2 : (2 : Int32).toInt = 2 := by decide
  have j_a0 := i_any a0
  unfold fr_peakAt
  refine tot_bind2 (sf_mayAsk hP S 1 h_S (by omega)) (fun r_1 S_2 d_r_1 => ?_)
  have h_S_2 : IC P S_2 := d_r_1.1
  replace d_r_1 : (r_1.toInt = 0 ∨ r_1.toInt = 1 ∧ ¬ (1 : Int32).toInt = 0) := d_r_1.2
  refine tot_if (fun c_4 => ?_) (fun c_4 => ?_)
  · replace c_4 := i_eq c_4
    exact tot_some ⟨h_S_2, (show (0 ≤ (0 : Int32).toInt ∧ (0 : Int32).toInt ≤ 143) from by omega)⟩
  · replace c_4 := i_ne c_4
    refine tot_bind (sf_laysPowers_12 hP S_2 h_S_2 ) (fun S_3 d_S_3 => ?_)
    have h_S_3 : IC P S_3 := d_S_3.1
    refine lf_peakAt_b20 hP a0 ?_ ?_ 16384 S_3 0 h_S_3 (by omega) (by omega)
    · intro S_116 h_S_116
      refine tot_bind2 (sf_throwsAt hP S_116 2 h_S_116 ) (fun r__117 S__118 d_r__117 => ?_)
      have h_S__118 : IC P S__118 := d_r__117.1
      replace d_r__117 : (0 ≤ r__117.toInt ∧ r__117.toInt ≤ 0) := d_r__117.2
      exact tot_some ⟨h_S__118, (show (0 ≤ r__117.toInt ∧ r__117.toInt ≤ 143) from by omega)⟩
    · intro S_119 l_120 h_S_119 g_l_120
      exact tot_some ⟨h_S_119, (show (0 ≤ l_120.toInt ∧ l_120.toInt ≤ 143) from by omega)⟩
set_option maxHeartbeats 4000000 in
set_option maxRecDepth 10000 in
theorem sf_isPeak {P : Nat → Int32} (hP : PL P) (S : MS) (a0 : Int32) (h_S : IC P S) : Tot (fr_isPeak S a0) (fun r => IC P r.2 ∧ (0 ≤ r.1.toInt ∧ r.1.toInt ≤ 1)) := by
  have z0 : (0 : Int32).toInt = 0 := by decide
  have p_9 := pl_9 hP
  have p_10 := pl_10 hP
  have p_cells := pl_cells hP
  have j_a0 := i_any a0
  unfold fr_isPeak
  refine tot_bindp (R := fun r_1 : Int32 => (r_1.toInt = 0 ∨ r_1.toInt = 1 ∧ (0 ≤ a0.toInt ∧ a0.toInt ≤ 143) ∧ a0.toInt < (P 9).toInt * (P 10).toInt)) (sf_isCell hP S a0 h_S ) (fun r_1 d_r_1 => ?_)
  replace d_r_1 : (r_1.toInt = 0 ∨ r_1.toInt = 1 ∧ (0 ≤ a0.toInt ∧ a0.toInt ≤ 143) ∧ a0.toInt < (P 9).toInt * (P 10).toInt) := d_r_1
  refine tot_bind2 (sf_mayAsk hP S r_1 h_S (by omega)) (fun r_3 S_4 d_r_3 => ?_)
  have h_S_4 : IC P S_4 := d_r_3.1
  replace d_r_3 : (r_3.toInt = 0 ∨ r_3.toInt = 1 ∧ ¬ r_1.toInt = 0) := d_r_3.2
  refine tot_if (fun c_8 => ?_) (fun c_8 => ?_)
  · replace c_8 := i_eq c_8
    exact tot_some ⟨h_S_4, (show (0 ≤ (0 : Int32).toInt ∧ (0 : Int32).toInt ≤ 1) from by omega)⟩
  · replace c_8 := i_ne c_8
    refine tot_bind (sf_laysPowers_12 hP S_4 h_S_4 ) (fun S_5 d_S_5 => ?_)
    have h_S_5 : IC P S_5 := d_S_5.1
    refine tot_bindp (R := fun r_6 : Int32 => (0 ≤ r_6.toInt ∧ r_6.toInt ≤ 1)) (sf_isTop hP S_5 a0 h_S_5 (by omega)) (fun r_6 d_r_6 => ?_)
    replace d_r_6 : (0 ≤ r_6.toInt ∧ r_6.toInt ≤ 1) := d_r_6
    refine tot_oif (i_b01 (by omega)) ?_
    exact tot_some ⟨h_S_5, (show (0 ≤ r_6.toInt ∧ r_6.toInt ≤ 1) from by omega)⟩
set_option maxHeartbeats 4000000 in
set_option maxRecDepth 10000 in
theorem lf_contrast_b24 {P : Nat → Int32} (hP : PL P) {Q : UInt32 × MS → Prop} (l1 : Int32) (g0 : 0 ≤ l1.toInt ∧ l1.toInt ≤ 143) (hx0 : ∀ (S : MS) (l2 : Int64), (IC P S) → Tot (elet (lg_cmp l2 (0 : Int64)) fun v_19 => if v_19 = 0 then (fr_contrast_b81 S FP.fconst0) else (oif (inb l1 144 = true) <| elet (S.2.2 25 l1.toNatClampNeg) fun v_20 => elet (FP.l2f v_20) fun v_21 => elet (FP.l2f l2) fun v_22 => oif (FP.fdiv v_21 v_22 &&& 0x7fffffff ≤ 0x7f800000) <| elet (FP.fdiv v_21 v_22) fun v_23 => fr_contrast_b81 S v_23)) Q) : ∀ (n : Nat) (S : MS) (l2 : Int64) (l4 : Int32), (IC P S) → (0 ≤ l4.toInt ∧ l4.toInt ≤ 144) → 144 - l4.toInt < (n : Int) → Tot (fr_contrast_b24 n S l1 l2 l4) Q := by
  have z0 : (Int32.ofInt (1) : Int32).toInt = 1 := by decide
  have p_9 := pl_9 hP
  have p_10 := pl_10 hP
  have p_cells := pl_cells hP
  have j_l1 := i_any l1
  intro n
  induction n with
  | zero =>
    intro S l2 l4 h_S g_l4 hm
    exfalso
    omega
  | succ n ih =>
    intro S l2 l4 h_S g_l4 hm
    unfold fr_contrast_b24
    refine tot_bindp (R := fun r_17 : Int32 => ((1 ≤ r_17.toInt ∧ r_17.toInt ≤ 144) ∧ r_17.toInt = (P 9).toInt * (P 10).toInt)) (sf_cellCount hP S h_S ) (fun r_17 d_r_17 => ?_)
    replace d_r_17 : ((1 ≤ r_17.toInt ∧ r_17.toInt ≤ 144) ∧ r_17.toInt = (P 9).toInt * (P 10).toInt) := d_r_17
    refine tot_if (fun c_37 => ?_) (fun c_37 => ?_)
    · replace c_37 := i_le c_37
      exact hx0 S l2 h_S
    · replace c_37 := i_nle c_37
      refine tot_if (fun c_38 => ?_) (fun c_38 => ?_)
      · replace c_38 := i_eq c_38
        unfold fr_contrast_b54
        refine tot_let (fun v_39 e_v_39 => ?_)
        have q_v_39 := i_add e_v_39 (by omega) (by omega)
        exact ih S l2 v_39 h_S (by omega) (by omega)
      · replace c_38 := i_ne c_38
        refine tot_oif (i_inb (by omega) (by omega)) ?_
        refine tot_let (fun v_24 e_v_24 => ?_)
        refine tot_let (fun v_25 e_v_25 => ?_)
        unfold fr_contrast_b54
        refine tot_let (fun v_40 e_v_40 => ?_)
        have q_v_40 := i_add e_v_40 (by omega) (by omega)
        exact ih S v_25 v_40 h_S (by omega) (by omega)
set_option maxHeartbeats 4000000 in
set_option maxRecDepth 10000 in
theorem sf_contrast {P : Nat → Int32} (hP : PL P) (S : MS) (h_S : IC P S) : Tot (fr_contrast S) (fun r => IC P r.2 ∧ True) := by
  have z0 : (1 : Int32).toInt = 1 := by decide
  have z1 : (0 : Int32).toInt = 0 := by decide
  unfold fr_contrast
  refine tot_bind2 (sf_mayAsk hP S 1 h_S (by omega)) (fun r_1 S_2 d_r_1 => ?_)
  have h_S_2 : IC P S_2 := d_r_1.1
  replace d_r_1 : (r_1.toInt = 0 ∨ r_1.toInt = 1 ∧ ¬ (1 : Int32).toInt = 0) := d_r_1.2
  refine tot_if (fun c_5 => ?_) (fun c_5 => ?_)
  · replace c_5 := i_eq c_5
    exact tot_some ⟨h_S_2, trivial⟩
  · replace c_5 := i_ne c_5
    refine tot_bind2 (sf_bestIn_12 hP S_2 h_S_2 ) (fun r_3 S_4 d_r_3 => ?_)
    have h_S_4 : IC P S_4 := d_r_3.1
    replace d_r_3 : (0 ≤ r_3.toInt ∧ r_3.toInt ≤ 143) := d_r_3.2
    refine lf_contrast_b24 hP r_3 (by omega) ?_ 16384 S_4 (0 : Int64) 0 h_S_4 (by omega) (by omega)
    · intro S_41 l_42 h_S_41
      refine tot_let (fun v__43 e_v__43 => ?_)
      have r_v__43 := i_any v__43
      refine tot_if (fun c_48 => ?_) (fun c_48 => ?_)
      · replace c_48 := i_eq c_48
        unfold fr_contrast_b81
        exact tot_some ⟨h_S_41, trivial⟩
      · have c_48_ := c_48
        replace c_48 := i_ne c_48
        refine tot_oif (i_inb (by omega) (by omega)) ?_
        refine tot_let (fun v__44 e_v__44 => ?_)
        refine tot_let (fun v__45 e_v__45 => ?_)
        refine tot_let (fun v__46 e_v__46 => ?_)
        refine tot_oif (by rw [e_v__45, e_v__46]; exact fp_ok _ _ (fun q_ => c_48_ (by rw [e_v__43, q_]; rfl))) ?_
        refine tot_let (fun v__47 e_v__47 => ?_)
        unfold fr_contrast_b81
        exact tot_some ⟨h_S_41, trivial⟩
set_option maxHeartbeats 4000000 in
set_option maxRecDepth 10000 in
theorem sf_shift {P : Nat → Int32} (hP : PL P) (S : MS) (a0 : Int32) (a1 : Int32) (a2 : Int32) (h_S : IC P S) (g0 : 0 ≤ a0.toInt ∧ a0.toInt ≤ 143) (g1 : 0 ≤ a1.toInt ∧ a1.toInt ≤ 143) (g2 : 0 ≤ a2.toInt ∧ a2.toInt ≤ 11) : Tot (fr_shift S a0 a1 a2) (fun r => r.2 = S ∧ (-65535 ≤ r.1.toInt ∧ r.1.toInt ≤ 65535)) := by
  have z0 : (12 : Int32).toInt = 12 := by decide
  have j_a0 := i_any a0
  have j_a1 := i_any a1
  have j_a2 := i_any a2
  unfold fr_shift
  refine tot_let (fun v_1 e_v_1 => ?_)
  have q_v_1 := i_mulk e_v_1 z0 (by omega) (by omega)
  refine tot_let (fun v_2 e_v_2 => ?_)
  have q_v_2 := i_add e_v_2 (by omega) (by omega)
  refine tot_oif (i_inb (by omega) (by omega)) ?_
  refine tot_let (fun v_3 e_v_3 => ?_)
  have r_v_3 := ic_17 h_S e_v_3
  refine tot_let (fun v_4 e_v_4 => ?_)
  have q_v_4 := i_mulk e_v_4 z0 (by omega) (by omega)
  refine tot_let (fun v_5 e_v_5 => ?_)
  have q_v_5 := i_add e_v_5 (by omega) (by omega)
  refine tot_oif (i_inb (by omega) (by omega)) ?_
  refine tot_let (fun v_6 e_v_6 => ?_)
  have r_v_6 := ic_17 h_S e_v_6
  refine tot_let (fun v_7 e_v_7 => ?_)
  have q_v_7 := i_sub e_v_7 (by omega) (by omega)
  exact tot_some ⟨rfl, (show (-65535 ≤ v_7.toInt ∧ v_7.toInt ≤ 65535) from by omega)⟩
set_option maxHeartbeats 4000000 in
set_option maxRecDepth 10000 in
theorem lf_confusion_b23 {P : Nat → Int32} (hP : PL P) {Q : Int32 × MS → Prop} {k6 : MS → Int32 → Int32 → Int32 → Int32 → Int32 → Option (Int32 × MS)} (S : MS) (l1 : Int32) (l2 : Int32) (l3 : Int32) (l4 : Int32) (l5 : Int32) (h_S : IC P S) (g0 : 0 ≤ l1.toInt ∧ l1.toInt ≤ 143) (g1 : 0 ≤ l2.toInt ∧ l2.toInt ≤ 143) (g2 : 2 ≤ l3.toInt ∧ l3.toInt ≤ 99) (g3 : 0 ≤ l4.toInt ∧ l4.toInt ≤ 2147483647) (g4 : 0 ≤ l5.toInt ∧ l5.toInt ≤ 11) (hx0 : ∀ (l6 : Int32), Tot (obind2 (fr_hears_12 S l5) fun r_70 S_71 => if r_70 = 0 then (fr_confusion_b110 k6 S_71 l4 l1 l2 l3 l5) else (elet (if l4 < l6 then l6 else l4) fun v_72 => fr_confusion_b110 k6 S_71 v_72 l1 l2 l3 l5)) Q) : ∀ (n : Nat) (l6 : Int32) (l7 : Int32), (0 ≤ l7.toInt ∧ l7.toInt ≤ 12) → 12 - l7.toInt < (n : Int) → Tot (fr_confusion_b23 k6 n S l1 l2 l3 l4 l5 l6 l7) Q := by
  have z0 : (0 : Int32).toInt = 0 := by decide
  have z1 : (Int32.ofInt (1) : Int32).toInt = 1 := by decide
  have z2 : (1 : Int32).toInt = 1 := by decide
  have p_4 := pl_4 hP
  have j_l1 := i_any l1
  have j_l2 := i_any l2
  have j_l3 := i_any l3
  have j_l4 := i_any l4
  have j_l5 := i_any l5
  intro n
  induction n with
  | zero =>
    intro l6 l7 g_l7 hm
    exfalso
    omega
  | succ n ih =>
    intro l6 l7 g_l7 hm
    unfold fr_confusion_b23
    refine tot_let (fun v_69 e_v_69 => ?_)
    have q_v_69 := ic_p h_S e_v_69
    refine tot_if (fun c_101 => ?_) (fun c_101 => ?_)
    · replace c_101 := i_le c_101
      exact hx0 l6 
    · replace c_101 := i_nle c_101
      refine tot_bindp (R := fun r_73 : Int32 => (0 ≤ r_73.toInt ∧ r_73.toInt ≤ 1)) (sf_hears_12 hP S l7 h_S (by omega)) (fun r_73 d_r_73 => ?_)
      replace d_r_73 : (0 ≤ r_73.toInt ∧ r_73.toInt ≤ 1) := d_r_73
      refine tot_if (fun c_102 => ?_) (fun c_102 => ?_)
      · replace c_102 := i_eq c_102
        unfold fr_confusion_b75
        unfold fr_confusion_b76
        refine tot_let (fun v_103 e_v_103 => ?_)
        have r_v_103 := i_any v_103
        refine tot_let (fun v_104 e_v_104 => ?_)
        have q_v_104 := i_add e_v_104 (by omega) (by omega)
        exact ih v_103 v_104 (by omega) (by omega)
      · replace c_102 := i_ne c_102
        refine tot_bindp (R := fun r_75 : Int32 => (-65535 ≤ r_75.toInt ∧ r_75.toInt ≤ 65535)) (sf_shift hP S l1 l2 l7 h_S (by omega) (by omega) (by omega)) (fun r_75 d_r_75 => ?_)
        replace d_r_75 : (-65535 ≤ r_75.toInt ∧ r_75.toInt ≤ 65535) := d_r_75
        refine tot_bindp (R := fun r_77 : Int32 => (-65535 ≤ r_77.toInt ∧ r_77.toInt ≤ 65535)) (sf_shift hP S l1 l2 l5 h_S (by omega) (by omega) (by omega)) (fun r_77 d_r_77 => ?_)
        replace d_r_77 : (-65535 ≤ r_77.toInt ∧ r_77.toInt ≤ 65535) := d_r_77
        refine tot_let (fun v_79 e_v_79 => ?_)
        have q_v_79 := i_sub e_v_79 (by omega) (by omega)
        refine tot_oif (i_nz (by omega)) ?_
        refine tot_let (fun v_80 e_v_80 => ?_)
        have q_v_80 := i_rems (b := 2147483647) e_v_80 (by omega) (by omega) (by omega) (by decide)
        refine tot_if (fun c_105 => ?_) (fun c_105 => ?_)
        · replace c_105 := i_eq c_105
          unfold fr_confusion_b76
          refine tot_let (fun v_106 e_v_106 => ?_)
          have r_v_106 := i_any v_106
          refine tot_let (fun v_107 e_v_107 => ?_)
          have q_v_107 := i_add e_v_107 (by omega) (by omega)
          exact ih v_106 v_107 (by omega) (by omega)
        · replace c_105 := i_ne c_105
          unfold fr_confusion_b75
          unfold fr_confusion_b76
          refine tot_let (fun v_108 e_v_108 => ?_)
          have r_v_108 := i_any v_108
          refine tot_let (fun v_109 e_v_109 => ?_)
          have q_v_109 := i_add e_v_109 (by omega) (by omega)
          exact ih v_108 v_109 (by omega) (by omega)
set_option maxHeartbeats 4000000 in
set_option maxRecDepth 10000 in
theorem lf_confusion_b6 {P : Nat → Int32} (hP : PL P) {Q : Int32 × MS → Prop} (S : MS) (l1 : Int32) (l2 : Int32) (l3 : Int32) (h_S : IC P S) (g0 : 0 ≤ l1.toInt ∧ l1.toInt ≤ 143) (g1 : 0 ≤ l2.toInt ∧ l2.toInt ≤ 143) (g2 : 2 ≤ l3.toInt ∧ l3.toInt ≤ 99) (hx0 : ∀ (l4 : Int32), (0 ≤ l4.toInt ∧ l4.toInt ≤ 2147483647) → Tot (some (l4, S)) Q) : ∀ (n : Nat) (l4 : Int32) (l5 : Int32), (0 ≤ l4.toInt ∧ l4.toInt ≤ 2147483647) → (0 ≤ l5.toInt ∧ l5.toInt ≤ 12) → 12 - l5.toInt < (n : Int) → Tot (fr_confusion_b6 n S l1 l2 l3 l4 l5) Q := by
  have z0 : (0 : Int32).toInt = 0 := by decide
  have z1 : (Int32.ofInt (1) : Int32).toInt = 1 := by decide
  have p_4 := pl_4 hP
  have j_l1 := i_any l1
  have j_l2 := i_any l2
  have j_l3 := i_any l3
  intro n
  induction n with
  | zero =>
    intro l4 l5 g_l4 g_l5 hm
    exfalso
    omega
  | succ n ih =>
    intro l4 l5 g_l4 g_l5 hm
    unfold fr_confusion_b6
    refine tot_let (fun v_44 e_v_44 => ?_)
    have q_v_44 := ic_p h_S e_v_44
    refine tot_if (fun c_68 => ?_) (fun c_68 => ?_)
    · replace c_68 := i_le c_68
      exact hx0 l4 (by omega)
    · replace c_68 := i_nle c_68
      refine lf_confusion_b23 hP S l1 l2 l3 l4 l5 h_S (by omega) (by omega) (by omega) (by omega) (by omega) ?_ 16384 0 0 (by omega) (by omega)
      · intro l_110
        have j_l_110 := i_any l_110
        refine tot_bindp (R := fun r__111 : Int32 => (0 ≤ r__111.toInt ∧ r__111.toInt ≤ 1)) (sf_hears_12 hP S l5 h_S (by omega)) (fun r__111 d_r__111 => ?_)
        replace d_r__111 : (0 ≤ r__111.toInt ∧ r__111.toInt ≤ 1) := d_r__111
        refine tot_if (fun c_114 => ?_) (fun c_114 => ?_)
        · replace c_114 := i_eq c_114
          unfold fr_confusion_b110
          refine tot_let (fun v_115 e_v_115 => ?_)
          have q_v_115 := i_add e_v_115 (by omega) (by omega)
          exact ih l4 v_115 (by omega) (by omega) (by omega)
        · replace c_114 := i_ne c_114
          refine tot_let (fun v__113 e_v__113 => ?_)
          have q_v__113 := i_ilt e_v__113
          unfold fr_confusion_b110
          refine tot_let (fun v_116 e_v_116 => ?_)
          have q_v_116 := i_add e_v_116 (by omega) (by omega)
          exact ih v__113 v_116 (by omega) (by omega) (by omega)
set_option maxHeartbeats 4000000 in
set_option maxRecDepth 10000 in
theorem sf_confusion {P : Nat → Int32} (hP : PL P) (S : MS) (a0 : Int32) (a1 : Int32) (a2 : Int32) (h_S : IC P S) (g0 : 0 ≤ a0.toInt ∧ a0.toInt ≤ 143) (g1 : 0 ≤ a1.toInt ∧ a1.toInt ≤ 143) (g2 : 2 ≤ a2.toInt ∧ a2.toInt ≤ 99) : Tot (fr_confusion S a0 a1 a2) (fun r => r.2 = S ∧ (0 ≤ r.1.toInt ∧ r.1.toInt ≤ 2147483647)) := by
  have z0 : (0 : Int32).toInt = 0 := by decide
  have j_a0 := i_any a0
  have j_a1 := i_any a1
  have j_a2 := i_any a2
  unfold fr_confusion
  refine lf_confusion_b6 hP S a0 a1 a2 h_S (by omega) (by omega) (by omega) ?_ 16384 0 0 (by omega) (by omega) (by omega)
  · intro l_117 g_l_117
    exact tot_some ⟨rfl, (show (0 ≤ l_117.toInt ∧ l_117.toInt ≤ 2147483647) from by omega)⟩
set_option maxHeartbeats 4000000 in
set_option maxRecDepth 10000 in
theorem sf_alias {P : Nat → Int32} (hP : PL P) (S : MS) (a0 : Int32) (a1 : Int32) (a2 : Int32) (h_S : IC P S) : Tot (fr_alias S a0 a1 a2) (fun r => IC P r.2 ∧ (0 ≤ r.1.toInt ∧ r.1.toInt ≤ 2147483647)) := by
  have z0 : (0 : Int32).toInt = 0 := by decide
  have z1 : (1 : Int32).toInt = 1 := by decide
  have z2 : (3 : Int32).toInt = 3 := by decide
  have p_9 := pl_9 hP
  have p_10 := pl_10 hP
  have p_cells := pl_cells hP
  have j_a0 := i_any a0
  have j_a1 := i_any a1
  have j_a2 := i_any a2
  unfold fr_alias
  refine tot_bindp (R := fun r_1 : Int32 => (r_1.toInt = 0 ∨ r_1.toInt = 1 ∧ (0 ≤ a0.toInt ∧ a0.toInt ≤ 143) ∧ a0.toInt < (P 9).toInt * (P 10).toInt)) (sf_isCell hP S a0 h_S ) (fun r_1 d_r_1 => ?_)
  replace d_r_1 : (r_1.toInt = 0 ∨ r_1.toInt = 1 ∧ (0 ≤ a0.toInt ∧ a0.toInt ≤ 143) ∧ a0.toInt < (P 9).toInt * (P 10).toInt) := d_r_1
  refine tot_if (fun c_5 => ?_) (fun c_5 => ?_)
  · replace c_5 := i_eq c_5
    unfold fr_alias_b21
    unfold fr_alias_b22
    refine tot_bind2 (sf_mayAsk hP S 0 h_S (by omega)) (fun r_6 S_7 d_r_6 => ?_)
    have h_S_7 : IC P S_7 := d_r_6.1
    replace d_r_6 : (r_6.toInt = 0 ∨ r_6.toInt = 1 ∧ ¬ (0 : Int32).toInt = 0) := d_r_6.2
    refine tot_if (fun c_13 => ?_) (fun c_13 => ?_)
    · replace c_13 := i_eq c_13
      exact tot_some ⟨h_S_7, (show (0 ≤ (0 : Int32).toInt ∧ (0 : Int32).toInt ≤ 2147483647) from by omega)⟩
    · replace c_13 := i_ne c_13
      exfalso
      omega
  · replace c_5 := i_ne c_5
    refine tot_bindp (R := fun r_3 : Int32 => (r_3.toInt = 0 ∨ r_3.toInt = 1 ∧ (0 ≤ a1.toInt ∧ a1.toInt ≤ 143) ∧ a1.toInt < (P 9).toInt * (P 10).toInt)) (sf_isCell hP S a1 h_S ) (fun r_3 d_r_3 => ?_)
    replace d_r_3 : (r_3.toInt = 0 ∨ r_3.toInt = 1 ∧ (0 ≤ a1.toInt ∧ a1.toInt ≤ 143) ∧ a1.toInt < (P 9).toInt * (P 10).toInt) := d_r_3
    refine tot_if (fun c_14 => ?_) (fun c_14 => ?_)
    · replace c_14 := i_eq c_14
      unfold fr_alias_b21
      unfold fr_alias_b22
      refine tot_bind2 (sf_mayAsk hP S 0 h_S (by omega)) (fun r_15 S_16 d_r_15 => ?_)
      have h_S_16 : IC P S_16 := d_r_15.1
      replace d_r_15 : (r_15.toInt = 0 ∨ r_15.toInt = 1 ∧ ¬ (0 : Int32).toInt = 0) := d_r_15.2
      refine tot_if (fun c_22 => ?_) (fun c_22 => ?_)
      · replace c_22 := i_eq c_22
        exact tot_some ⟨h_S_16, (show (0 ≤ (0 : Int32).toInt ∧ (0 : Int32).toInt ≤ 2147483647) from by omega)⟩
      · replace c_22 := i_ne c_22
        exfalso
        omega
    · replace c_14 := i_ne c_14
      unfold fr_alias_b22
      refine tot_bind2 (sf_mayAsk hP S 1 h_S (by omega)) (fun r_23 S_24 d_r_23 => ?_)
      have h_S_24 : IC P S_24 := d_r_23.1
      replace d_r_23 : (r_23.toInt = 0 ∨ r_23.toInt = 1 ∧ ¬ (1 : Int32).toInt = 0) := d_r_23.2
      refine tot_if (fun c_30 => ?_) (fun c_30 => ?_)
      · replace c_30 := i_eq c_30
        exact tot_some ⟨h_S_24, (show (0 ≤ (0 : Int32).toInt ∧ (0 : Int32).toInt ≤ 2147483647) from by omega)⟩
      · replace c_30 := i_ne c_30
        refine tot_bind (sf_isPeriod hP a2  ) (fun r_25 d_r_25 => ?_)
        replace d_r_25 : (r_25.toInt = 0 ∨ r_25.toInt = 1 ∧ 2 ≤ a2.toInt ∧ a2.toInt ≤ 99) := d_r_25
        refine tot_if (fun c_31 => ?_) (fun c_31 => ?_)
        · replace c_31 := i_eq c_31
          refine tot_bind2 (sf_throwsAt hP S_24 3 h_S_24 ) (fun r_26 S_27 d_r_26 => ?_)
          have h_S_27 : IC P S_27 := d_r_26.1
          replace d_r_26 : (0 ≤ r_26.toInt ∧ r_26.toInt ≤ 0) := d_r_26.2
          unfold fr_alias_b52
          exact tot_some ⟨h_S_27, (show (0 ≤ r_26.toInt ∧ r_26.toInt ≤ 2147483647) from by omega)⟩
        · replace c_31 := i_ne c_31
          refine tot_bindp (R := fun r_28 : Int32 => (0 ≤ r_28.toInt ∧ r_28.toInt ≤ 2147483647)) (sf_confusion hP S_24 a0 a1 a2 h_S_24 (by omega) (by omega) (by omega)) (fun r_28 d_r_28 => ?_)
          replace d_r_28 : (0 ≤ r_28.toInt ∧ r_28.toInt ≤ 2147483647) := d_r_28
          unfold fr_alias_b52
          exact tot_some ⟨h_S_24, (show (0 ≤ r_28.toInt ∧ r_28.toInt ≤ 2147483647) from by omega)⟩
set_option maxHeartbeats 4000000 in
set_option maxRecDepth 10000 in
theorem sf_isMark {P : Nat → Int32} (hP : PL P) (S : MS) (a0 : Int32) (a1 : Int32) (a2 : Int32) (a3 : Int32) (h_S : IC P S) (g0 : 0 ≤ a0.toInt ∧ a0.toInt ≤ 143) (g1 : 0 ≤ a1.toInt ∧ a1.toInt ≤ 143) (g2 : 2 ≤ a2.toInt ∧ a2.toInt ≤ 99) (g3 : 1 ≤ a3.toInt ∧ a3.toInt ≤ 100) : Tot (fr_isMark S a0 a1 a2 a3) (fun r => r.2 = S ∧ (0 ≤ r.1.toInt ∧ r.1.toInt ≤ 1)) := by
  have z0 : (0 : Int32).toInt = 0 := by decide
  have z1 : (100 : Int32).toInt = 100 := by decide
  have z2 : (1 : Int32).toInt = 1 := by decide
  have j_a0 := i_any a0
  have j_a1 := i_any a1
  have j_a2 := i_any a2
  have j_a3 := i_any a3
  unfold fr_isMark
  refine tot_if (fun c_11 => ?_) (fun c_11 => ?_)
  · replace c_11 := i_eq c_11
    unfold fr_isMark_b44
    unfold fr_isMark_b45
    refine tot_oif (i_b01 (by omega)) ?_
    exact tot_some ⟨rfl, (show (0 ≤ (0 : Int32).toInt ∧ (0 : Int32).toInt ≤ 1) from by omega)⟩
  · replace c_11 := i_ne c_11
    refine tot_bindp (R := fun r_1 : Int32 => (0 ≤ r_1.toInt ∧ r_1.toInt ≤ 1)) (sf_isTop hP S a0 h_S (by omega)) (fun r_1 d_r_1 => ?_)
    replace d_r_1 : (0 ≤ r_1.toInt ∧ r_1.toInt ≤ 1) := d_r_1
    refine tot_if (fun c_12 => ?_) (fun c_12 => ?_)
    · replace c_12 := i_eq c_12
      unfold fr_isMark_b44
      unfold fr_isMark_b45
      refine tot_oif (i_b01 (by omega)) ?_
      exact tot_some ⟨rfl, (show (0 ≤ (0 : Int32).toInt ∧ (0 : Int32).toInt ≤ 1) from by omega)⟩
    · replace c_12 := i_ne c_12
      refine tot_bindp (R := fun r_3 : Int32 => True) (sf_activeCount hP S h_S ) (fun r_3 d_r_3 => ?_)
      refine tot_if (fun c_13 => ?_) (fun c_13 => ?_)
      · replace c_13 := i_le c_13
        unfold fr_isMark_b44
        unfold fr_isMark_b45
        refine tot_oif (i_b01 (by omega)) ?_
        exact tot_some ⟨rfl, (show (0 ≤ (0 : Int32).toInt ∧ (0 : Int32).toInt ≤ 1) from by omega)⟩
      · replace c_13 := i_nle c_13
        refine tot_bindp (R := fun r_5 : Int32 => (0 ≤ r_5.toInt ∧ r_5.toInt ≤ 2147483647)) (sf_confusion hP S a0 a1 a2 h_S (by omega) (by omega) (by omega)) (fun r_5 d_r_5 => ?_)
        replace d_r_5 : (0 ≤ r_5.toInt ∧ r_5.toInt ≤ 2147483647) := d_r_5
        refine tot_let (fun v_7 e_v_7 => ?_)
        have r_v_7 := i_any v_7
        refine tot_bindp (R := fun r_8 : Int32 => True) (sf_activeCount hP S h_S ) (fun r_8 d_r_8 => ?_)
        refine tot_let (fun v_10 e_v_10 => ?_)
        have r_v_10 := i_any v_10
        refine tot_if (fun c_14 => ?_) (fun c_14 => ?_)
        · replace c_14 := i_lt c_14
          unfold fr_isMark_b44
          unfold fr_isMark_b45
          refine tot_oif (i_b01 (by omega)) ?_
          exact tot_some ⟨rfl, (show (0 ≤ (0 : Int32).toInt ∧ (0 : Int32).toInt ≤ 1) from by omega)⟩
        · replace c_14 := i_nlt c_14
          unfold fr_isMark_b45
          refine tot_oif (i_b01 (by omega)) ?_
          exact tot_some ⟨rfl, (show (0 ≤ (1 : Int32).toInt ∧ (1 : Int32).toInt ≤ 1) from by omega)⟩
set_option maxHeartbeats 4000000 in
set_option maxRecDepth 10000 in
theorem sf_isShare {P : Nat → Int32} (hP : PL P) (a0 : Int32) : Tot (fr_isShare a0) (fun r => (r.toInt = 0 ∨ r.toInt = 1 ∧ 1 ≤ a0.toInt ∧ a0.toInt ≤ 100)) := by
  have z0 : (1 : Int32).toInt = 1 := by decide
  have z1 : (100 : Int32).toInt = 100 := by decide
  have j_a0 := i_any a0
  unfold fr_isShare
  refine tot_bind (sf_in hP a0 1 100  ) (fun r_1 d_r_1 => ?_)
  replace d_r_1 : (r_1.toInt = 0 ∧ (a0.toInt < (1 : Int32).toInt ∨ (100 : Int32).toInt < a0.toInt) ∨ r_1.toInt = 1 ∧ (1 : Int32).toInt ≤ a0.toInt ∧ a0.toInt ≤ (100 : Int32).toInt) := d_r_1
  refine tot_oif (i_b01 (by omega)) ?_
  exact tot_some (show (r_1.toInt = 0 ∨ r_1.toInt = 1 ∧ 1 ≤ a0.toInt ∧ a0.toInt ≤ 100) from by omega)
set_option maxHeartbeats 4000000 in
set_option maxRecDepth 10000 in
theorem sf_isAlias {P : Nat → Int32} (hP : PL P) (S : MS) (a0 : Int32) (a1 : Int32) (a2 : Int32) (h_S : IC P S) : Tot (fr_isAlias S a0 a1 a2) (fun r => IC P r.2 ∧ (0 ≤ r.1.toInt ∧ r.1.toInt ≤ 1)) := by
  have z0 : (0 : Int32).toInt = 0 := by decide
  have z1 : (3 : Int32).toInt = 3 := by decide
  have z2 : (1 : Int32).toInt = 1 := by decide
  have p_9 := pl_9 hP
  have p_10 := pl_10 hP
  have p_cells := pl_cells hP
  have j_a0 := i_any a0
  have j_a1 := i_any a1
  have j_a2 := i_any a2
  unfold fr_isAlias
  refine tot_bindp (R := fun r_1 : Int32 => (r_1.toInt = 0 ∨ r_1.toInt = 1 ∧ (0 ≤ a0.toInt ∧ a0.toInt ≤ 143) ∧ a0.toInt < (P 9).toInt * (P 10).toInt)) (sf_isCell hP S a0 h_S ) (fun r_1 d_r_1 => ?_)
  replace d_r_1 : (r_1.toInt = 0 ∨ r_1.toInt = 1 ∧ (0 ≤ a0.toInt ∧ a0.toInt ≤ 143) ∧ a0.toInt < (P 9).toInt * (P 10).toInt) := d_r_1
  refine tot_bind2 (sf_mayAsk hP S r_1 h_S (by omega)) (fun r_3 S_4 d_r_3 => ?_)
  have h_S_4 : IC P S_4 := d_r_3.1
  replace d_r_3 : (r_3.toInt = 0 ∨ r_3.toInt = 1 ∧ ¬ r_1.toInt = 0) := d_r_3.2
  refine tot_if (fun c_7 => ?_) (fun c_7 => ?_)
  · replace c_7 := i_eq c_7
    exact tot_some ⟨h_S_4, (show (0 ≤ (0 : Int32).toInt ∧ (0 : Int32).toInt ≤ 1) from by omega)⟩
  · replace c_7 := i_ne c_7
    refine tot_bind (sf_isPeriod hP a1  ) (fun r_5 d_r_5 => ?_)
    replace d_r_5 : (r_5.toInt = 0 ∨ r_5.toInt = 1 ∧ 2 ≤ a1.toInt ∧ a1.toInt ≤ 99) := d_r_5
    refine tot_if (fun c_8 => ?_) (fun c_8 => ?_)
    · replace c_8 := i_eq c_8
      unfold fr_isAlias_b33
      unfold fr_isAlias_b34
      refine tot_let (fun S_9 e_S_9 => ?_)
      have h_S_9 : IC P S_9 := by rw [e_S_9]; exact ic_mi0 h_S_4 _
      have f_S_9_0 : (S_9.1 0).toInt = (3 : Int32).toInt := by rw [e_S_9]; rfl
      refine tot_let (fun v_10 e_v_10 => ?_)
      have q_v_10 := i_eq e_v_10
      have r_v_10 := i_any v_10
      refine tot_if (fun c_15 => ?_) (fun c_15 => ?_)
      · replace c_15 := i_eq c_15
        exfalso
        omega
      · replace c_15 := i_ne c_15
        unfold fr_isAlias_b66
        unfold fr_isAlias_b67
        refine tot_oif (i_b01 (by omega)) ?_
        exact tot_some ⟨h_S_9, (show (0 ≤ (0 : Int32).toInt ∧ (0 : Int32).toInt ≤ 1) from by omega)⟩
    · replace c_8 := i_ne c_8
      refine tot_bind (sf_isShare hP a2  ) (fun r_6 d_r_6 => ?_)
      replace d_r_6 : (r_6.toInt = 0 ∨ r_6.toInt = 1 ∧ 1 ≤ a2.toInt ∧ a2.toInt ≤ 100) := d_r_6
      refine tot_if (fun c_16 => ?_) (fun c_16 => ?_)
      · replace c_16 := i_eq c_16
        unfold fr_isAlias_b33
        unfold fr_isAlias_b34
        refine tot_let (fun S_17 e_S_17 => ?_)
        have h_S_17 : IC P S_17 := by rw [e_S_17]; exact ic_mi0 h_S_4 _
        have f_S_17_0 : (S_17.1 0).toInt = (3 : Int32).toInt := by rw [e_S_17]; rfl
        refine tot_let (fun v_18 e_v_18 => ?_)
        have q_v_18 := i_eq e_v_18
        have r_v_18 := i_any v_18
        refine tot_if (fun c_23 => ?_) (fun c_23 => ?_)
        · replace c_23 := i_eq c_23
          exfalso
          omega
        · replace c_23 := i_ne c_23
          unfold fr_isAlias_b66
          unfold fr_isAlias_b67
          refine tot_oif (i_b01 (by omega)) ?_
          exact tot_some ⟨h_S_17, (show (0 ≤ (0 : Int32).toInt ∧ (0 : Int32).toInt ≤ 1) from by omega)⟩
      · replace c_16 := i_ne c_16
        unfold fr_isAlias_b34
        refine tot_let (fun S_24 e_S_24 => ?_)
        have h_S_24 : IC P S_24 := by rw [e_S_24]; exact ic_mi0 h_S_4 _
        have f_S_24_0 : (S_24.1 0).toInt = (0 : Int32).toInt := by rw [e_S_24]; rfl
        refine tot_let (fun v_25 e_v_25 => ?_)
        have q_v_25 := i_eq e_v_25
        have r_v_25 := i_any v_25
        refine tot_if (fun c_30 => ?_) (fun c_30 => ?_)
        · replace c_30 := i_eq c_30
          refine tot_bind2 (sf_bestIn_12 hP S_24 h_S_24 ) (fun r_26 S_27 d_r_26 => ?_)
          have h_S_27 : IC P S_27 := d_r_26.1
          replace d_r_26 : (0 ≤ r_26.toInt ∧ r_26.toInt ≤ 143) := d_r_26.2
          refine tot_bindp (R := fun r_28 : Int32 => (0 ≤ r_28.toInt ∧ r_28.toInt ≤ 1)) (sf_isMark hP S_27 a0 r_26 a1 a2 h_S_27 (by omega) (by omega) (by omega) (by omega)) (fun r_28 d_r_28 => ?_)
          replace d_r_28 : (0 ≤ r_28.toInt ∧ r_28.toInt ≤ 1) := d_r_28
          refine tot_if (fun c_31 => ?_) (fun c_31 => ?_)
          · replace c_31 := i_eq c_31
            unfold fr_isAlias_b66
            unfold fr_isAlias_b67
            refine tot_oif (i_b01 (by omega)) ?_
            exact tot_some ⟨h_S_27, (show (0 ≤ (0 : Int32).toInt ∧ (0 : Int32).toInt ≤ 1) from by omega)⟩
          · replace c_31 := i_ne c_31
            unfold fr_isAlias_b67
            refine tot_oif (i_b01 (by omega)) ?_
            exact tot_some ⟨h_S_27, (show (0 ≤ (1 : Int32).toInt ∧ (1 : Int32).toInt ≤ 1) from by omega)⟩
        · replace c_30 := i_ne c_30
          exfalso
          omega
set_option maxHeartbeats 4000000 in
set_option maxRecDepth 10000 in
theorem lf_aliases_b43 {P : Nat → Int32} (hP : PL P) {Q : Int32 × MS → Prop} (l1 : Int32) (l2 : Int32) (l3 : Int32) (g0 : 2 ≤ l1.toInt ∧ l1.toInt ≤ 99) (g1 : 1 ≤ l2.toInt ∧ l2.toInt ≤ 100) (g2 : 0 ≤ l3.toInt ∧ l3.toInt ≤ 143) (hx0 : ∀ (S : MS) (l4 : Int32), (IC P S) → Tot (some (l4, S)) Q) : ∀ (n : Nat) (S : MS) (l4 : Int32) (l5 : Int32), (IC P S) → (0 ≤ l5.toInt ∧ l5.toInt ≤ 144) → 144 - l5.toInt < (n : Int) → Tot (fr_aliases_b43 n S l1 l2 l3 l4 l5) Q := by
  have z0 : (0 : Int32).toInt = 0 := by decide
  have z1 : (Int32.ofInt (1) : Int32).toInt = 1 := by decide
  have z2 : (1 : Int32).toInt = 1 := by decide
  have p_9 := pl_9 hP
  have p_10 := pl_10 hP
  have p_cells := pl_cells hP
  have j_l1 := i_any l1
  have j_l2 := i_any l2
  have j_l3 := i_any l3
  intro n
  induction n with
  | zero =>
    intro S l4 l5 h_S g_l5 hm
    exfalso
    omega
  | succ n ih =>
    intro S l4 l5 h_S g_l5 hm
    unfold fr_aliases_b43
    refine tot_bindp (R := fun r_28 : Int32 => ((1 ≤ r_28.toInt ∧ r_28.toInt ≤ 144) ∧ r_28.toInt = (P 9).toInt * (P 10).toInt)) (sf_cellCount hP S h_S ) (fun r_28 d_r_28 => ?_)
    replace d_r_28 : ((1 ≤ r_28.toInt ∧ r_28.toInt ≤ 144) ∧ r_28.toInt = (P 9).toInt * (P 10).toInt) := d_r_28
    refine tot_if (fun c_40 => ?_) (fun c_40 => ?_)
    · replace c_40 := i_le c_40
      exact hx0 S l4 h_S
    · replace c_40 := i_nle c_40
      refine tot_bindp (R := fun r_30 : Int32 => (0 ≤ r_30.toInt ∧ r_30.toInt ≤ 1)) (sf_isMark hP S l5 l3 l1 l2 h_S (by omega) (by omega) (by omega) (by omega)) (fun r_30 d_r_30 => ?_)
      replace d_r_30 : (0 ≤ r_30.toInt ∧ r_30.toInt ≤ 1) := d_r_30
      refine tot_if (fun c_41 => ?_) (fun c_41 => ?_)
      · replace c_41 := i_eq c_41
        unfold fr_aliases_b71
        refine tot_let (fun v_42 e_v_42 => ?_)
        have r_v_42 := i_any v_42
        refine tot_let (fun v_43 e_v_43 => ?_)
        have q_v_43 := i_add e_v_43 (by omega) (by omega)
        exact ih S v_42 v_43 h_S (by omega) (by omega)
      · replace c_41 := i_ne c_41
        unfold fr_aliases_b71
        refine tot_let (fun v_44 e_v_44 => ?_)
        have r_v_44 := i_any v_44
        refine tot_let (fun v_45 e_v_45 => ?_)
        have q_v_45 := i_add e_v_45 (by omega) (by omega)
        exact ih S v_44 v_45 h_S (by omega) (by omega)
set_option maxHeartbeats 4000000 in
set_option maxRecDepth 10000 in
theorem sf_aliases {P : Nat → Int32} (hP : PL P) (S : MS) (a0 : Int32) (a1 : Int32) (h_S : IC P S) : Tot (fr_aliases S a0 a1) (fun r => IC P r.2 ∧ True) := by
  have z0 : (0 : Int32).toInt = 0 := by decide
  have z1 : (1 : Int32).toInt = 1 := by decide
  have j_a0 := i_any a0
  have j_a1 := i_any a1
  unfold fr_aliases
  refine tot_bind (sf_isPeriod hP a0  ) (fun r_1 d_r_1 => ?_)
  replace d_r_1 : (r_1.toInt = 0 ∨ r_1.toInt = 1 ∧ 2 ≤ a0.toInt ∧ a0.toInt ≤ 99) := d_r_1
  refine tot_if (fun c_3 => ?_) (fun c_3 => ?_)
  · replace c_3 := i_eq c_3
    unfold fr_aliases_b19
    unfold fr_aliases_b20
    refine tot_bind2 (sf_mayAsk hP S 0 h_S (by omega)) (fun r_4 S_5 d_r_4 => ?_)
    have h_S_5 : IC P S_5 := d_r_4.1
    replace d_r_4 : (r_4.toInt = 0 ∨ r_4.toInt = 1 ∧ ¬ (0 : Int32).toInt = 0) := d_r_4.2
    refine tot_if (fun c_8 => ?_) (fun c_8 => ?_)
    · replace c_8 := i_eq c_8
      exact tot_some ⟨h_S_5, trivial⟩
    · replace c_8 := i_ne c_8
      exfalso
      omega
  · replace c_3 := i_ne c_3
    refine tot_bind (sf_isShare hP a1  ) (fun r_2 d_r_2 => ?_)
    replace d_r_2 : (r_2.toInt = 0 ∨ r_2.toInt = 1 ∧ 1 ≤ a1.toInt ∧ a1.toInt ≤ 100) := d_r_2
    refine tot_if (fun c_9 => ?_) (fun c_9 => ?_)
    · replace c_9 := i_eq c_9
      unfold fr_aliases_b19
      unfold fr_aliases_b20
      refine tot_bind2 (sf_mayAsk hP S 0 h_S (by omega)) (fun r_10 S_11 d_r_10 => ?_)
      have h_S_11 : IC P S_11 := d_r_10.1
      replace d_r_10 : (r_10.toInt = 0 ∨ r_10.toInt = 1 ∧ ¬ (0 : Int32).toInt = 0) := d_r_10.2
      refine tot_if (fun c_14 => ?_) (fun c_14 => ?_)
      · replace c_14 := i_eq c_14
        exact tot_some ⟨h_S_11, trivial⟩
      · replace c_14 := i_ne c_14
        exfalso
        omega
    · replace c_9 := i_ne c_9
      unfold fr_aliases_b20
      refine tot_bind2 (sf_mayAsk hP S 1 h_S (by omega)) (fun r_15 S_16 d_r_15 => ?_)
      have h_S_16 : IC P S_16 := d_r_15.1
      replace d_r_15 : (r_15.toInt = 0 ∨ r_15.toInt = 1 ∧ ¬ (1 : Int32).toInt = 0) := d_r_15.2
      refine tot_if (fun c_19 => ?_) (fun c_19 => ?_)
      · replace c_19 := i_eq c_19
        exact tot_some ⟨h_S_16, trivial⟩
      · replace c_19 := i_ne c_19
        refine tot_bind2 (sf_bestIn_12 hP S_16 h_S_16 ) (fun r_17 S_18 d_r_17 => ?_)
        have h_S_18 : IC P S_18 := d_r_17.1
        replace d_r_17 : (0 ≤ r_17.toInt ∧ r_17.toInt ≤ 143) := d_r_17.2
        refine lf_aliases_b43 hP a0 a1 r_17 (by omega) (by omega) (by omega) ?_ 16384 S_18 0 0 h_S_18 (by omega) (by omega)
        · intro S_46 l_47 h_S_46
          have j_l_47 := i_any l_47
          exact tot_some ⟨h_S_46, trivial⟩
set_option maxHeartbeats 4000000 in
set_option maxRecDepth 10000 in
theorem sf_blockOf {P : Nat → Int32} (hP : PL P) (S : MS) (a0 : Int32) (a1 : Int32) (a2 : Int32) (h_S : IC P S) (g0 : 0 ≤ a0.toInt ∧ a0.toInt ≤ 143) (g1 : 0 ≤ a1.toInt ∧ a1.toInt ≤ 9800) (g2 : 1 ≤ a2.toInt ∧ a2.toInt ≤ 200) : Tot (fr_blockOf S a0 a1 a2) (fun r => IC P r.2 ∧ True) := by
  have j_a0 := i_any a0
  have j_a1 := i_any a1
  have j_a2 := i_any a2
  unfold fr_blockOf
  refine tot_bind (sf_laysCell hP S a0 h_S (by omega)) (fun S_1 d_S_1 => ?_)
  have h_S_1 : IC P S_1 := d_S_1.1
  refine tot_bindp (R := fun r_2 : Int32 => (0 ≤ r_2.toInt ∧ r_2.toInt ≤ 200)) (sf_windowOf_12 hP S_1 h_S_1 ) (fun r_2 d_r_2 => ?_)
  replace d_r_2 : (0 ≤ r_2.toInt ∧ r_2.toInt ≤ 200) := d_r_2
  refine tot_let (fun v_4 e_v_4 => ?_)
  have q_v_4 := i_add e_v_4 (by omega) (by omega)
  refine tot_let (fun v_5 e_v_5 => ?_)
  have q_v_5 := i_ilt e_v_5
  refine tot_bindp (R := fun r_6 : Int64 => True) (sf_energy_12 hP S_1 a1 v_5 h_S_1 (by omega) (by omega)) (fun r_6 d_r_6 => ?_)
  refine tot_let (fun v_8 e_v_8 => ?_)
  refine tot_oif (by rw [e_v_8]; exact i_nz64 (by omega)) ?_
  refine tot_let (fun v_9 e_v_9 => ?_)
  exact tot_some ⟨h_S_1, trivial⟩
set_option maxHeartbeats 4000000 in
set_option maxRecDepth 10000 in
theorem sf_isBlock {P : Nat → Int32} (hP : PL P) (S : MS) (a0 : Int32) (a1 : Int32) (h_S : IC P S) : Tot (fr_isBlock S a0 a1) (fun r => r.2 = S ∧ (r.1.toInt = 0 ∨ r.1.toInt = 1 ∧ (0 ≤ a0.toInt ∧ a0.toInt < (P 2).toInt) ∧ 1 ≤ a1.toInt ∧ a1.toInt ≤ (P 2).toInt)) := by
  have z0 : (0 : Int32).toInt = 0 := by decide
  have z1 : (1 : Int32).toInt = 1 := by decide
  have p_2 := pl_2 hP
  have j_a0 := i_any a0
  have j_a1 := i_any a1
  unfold fr_isBlock
  refine tot_bindp (R := fun r_1 : Int32 => (r_1.toInt = 0 ∨ r_1.toInt = 1 ∧ 0 ≤ a0.toInt ∧ a0.toInt < (P 2).toInt)) (sf_isTime hP S a0 h_S ) (fun r_1 d_r_1 => ?_)
  replace d_r_1 : (r_1.toInt = 0 ∨ r_1.toInt = 1 ∧ 0 ≤ a0.toInt ∧ a0.toInt < (P 2).toInt) := d_r_1
  refine tot_if (fun c_5 => ?_) (fun c_5 => ?_)
  · replace c_5 := i_eq c_5
    unfold fr_isBlock_b26
    unfold fr_isBlock_b27
    refine tot_oif (i_b01 (by omega)) ?_
    exact tot_some ⟨rfl, (show ((0 : Int32).toInt = 0 ∨ (0 : Int32).toInt = 1 ∧ (0 ≤ a0.toInt ∧ a0.toInt < (P 2).toInt) ∧ 1 ≤ a1.toInt ∧ a1.toInt ≤ (P 2).toInt) from by omega)⟩
  · replace c_5 := i_ne c_5
    refine tot_let (fun v_3 e_v_3 => ?_)
    have q_v_3 := ic_p h_S e_v_3
    refine tot_bind (sf_in hP a1 1 v_3  ) (fun r_4 d_r_4 => ?_)
    replace d_r_4 : (r_4.toInt = 0 ∧ (a1.toInt < (1 : Int32).toInt ∨ v_3.toInt < a1.toInt) ∨ r_4.toInt = 1 ∧ (1 : Int32).toInt ≤ a1.toInt ∧ a1.toInt ≤ v_3.toInt) := d_r_4
    refine tot_if (fun c_6 => ?_) (fun c_6 => ?_)
    · replace c_6 := i_eq c_6
      unfold fr_isBlock_b26
      unfold fr_isBlock_b27
      refine tot_oif (i_b01 (by omega)) ?_
      exact tot_some ⟨rfl, (show ((0 : Int32).toInt = 0 ∨ (0 : Int32).toInt = 1 ∧ (0 ≤ a0.toInt ∧ a0.toInt < (P 2).toInt) ∧ 1 ≤ a1.toInt ∧ a1.toInt ≤ (P 2).toInt) from by omega)⟩
    · replace c_6 := i_ne c_6
      unfold fr_isBlock_b27
      refine tot_oif (i_b01 (by omega)) ?_
      exact tot_some ⟨rfl, (show ((1 : Int32).toInt = 0 ∨ (1 : Int32).toInt = 1 ∧ (0 ≤ a0.toInt ∧ a0.toInt < (P 2).toInt) ∧ 1 ≤ a1.toInt ∧ a1.toInt ≤ (P 2).toInt) from by omega)⟩
set_option maxHeartbeats 4000000 in
set_option maxRecDepth 10000 in
theorem sf_blockPower {P : Nat → Int32} (hP : PL P) (S : MS) (a0 : Int32) (a1 : Int32) (a2 : Int32) (h_S : IC P S) : Tot (fr_blockPower S a0 a1 a2) (fun r => IC P r.2 ∧ True) := by
  have z0 : (0 : Int32).toInt = 0 := by decide
  have z1 : (3 : Int32).toInt = 3 := by decide
  have p_2 := pl_2 hP
  have p_9 := pl_9 hP
  have p_10 := pl_10 hP
  have p_cells := pl_cells hP
  have j_a0 := i_any a0
  have j_a1 := i_any a1
  have j_a2 := i_any a2
  unfold fr_blockPower
  refine tot_bindp (R := fun r_1 : Int32 => (r_1.toInt = 0 ∨ r_1.toInt = 1 ∧ (0 ≤ a0.toInt ∧ a0.toInt ≤ 143) ∧ a0.toInt < (P 9).toInt * (P 10).toInt)) (sf_isCell hP S a0 h_S ) (fun r_1 d_r_1 => ?_)
  replace d_r_1 : (r_1.toInt = 0 ∨ r_1.toInt = 1 ∧ (0 ≤ a0.toInt ∧ a0.toInt ≤ 143) ∧ a0.toInt < (P 9).toInt * (P 10).toInt) := d_r_1
  refine tot_bind2 (sf_mayAsk hP S r_1 h_S (by omega)) (fun r_3 S_4 d_r_3 => ?_)
  have h_S_4 : IC P S_4 := d_r_3.1
  replace d_r_3 : (r_3.toInt = 0 ∨ r_3.toInt = 1 ∧ ¬ r_1.toInt = 0) := d_r_3.2
  refine tot_if (fun c_12 => ?_) (fun c_12 => ?_)
  · replace c_12 := i_eq c_12
    exact tot_some ⟨h_S_4, trivial⟩
  · replace c_12 := i_ne c_12
    refine tot_bindp (R := fun r_5 : Int32 => (r_5.toInt = 0 ∨ r_5.toInt = 1 ∧ (0 ≤ a1.toInt ∧ a1.toInt < (P 2).toInt) ∧ 1 ≤ a2.toInt ∧ a2.toInt ≤ (P 2).toInt)) (sf_isBlock hP S_4 a1 a2 h_S_4 ) (fun r_5 d_r_5 => ?_)
    replace d_r_5 : (r_5.toInt = 0 ∨ r_5.toInt = 1 ∧ (0 ≤ a1.toInt ∧ a1.toInt < (P 2).toInt) ∧ 1 ≤ a2.toInt ∧ a2.toInt ≤ (P 2).toInt) := d_r_5
    refine tot_if (fun c_13 => ?_) (fun c_13 => ?_)
    · replace c_13 := i_eq c_13
      refine tot_bind2 (sf_throwsAt hP S_4 3 h_S_4 ) (fun r_7 S_8 d_r_7 => ?_)
      have h_S_8 : IC P S_8 := d_r_7.1
      replace d_r_7 : (0 ≤ r_7.toInt ∧ r_7.toInt ≤ 0) := d_r_7.2
      refine tot_let (fun v_9 e_v_9 => ?_)
      unfold fr_blockPower_b39
      exact tot_some ⟨h_S_8, trivial⟩
    · replace c_13 := i_ne c_13
      refine tot_bind2 (sf_blockOf hP S_4 a0 a1 a2 h_S_4 (by omega) (by omega) (by omega)) (fun r_10 S_11 d_r_10 => ?_)
      have h_S_11 : IC P S_11 := d_r_10.1
      unfold fr_blockPower_b39
      exact tot_some ⟨h_S_11, trivial⟩
set_option maxHeartbeats 4000000 in
set_option maxRecDepth 10000 in
theorem lf_bestOfBlock_b14 {P : Nat → Int32} (hP : PL P) {Q : Int32 × MS → Prop} (l1 : Int32) (l2 : Int32) (g0 : 0 ≤ l1.toInt ∧ l1.toInt ≤ 199) (g1 : 1 ≤ l2.toInt ∧ l2.toInt ≤ 200) (hx0 : ∀ (S : MS) (l3 : Int32), (IC P S) → (0 ≤ l3.toInt ∧ l3.toInt ≤ 143) → Tot (some (l3, S)) Q) : ∀ (n : Nat) (S : MS) (l3 : Int32) (l4 : Int64) (l6 : Int32), (IC P S) → (0 ≤ l3.toInt ∧ l3.toInt ≤ 143) → (1 ≤ l6.toInt ∧ l6.toInt ≤ 144) → 144 - l6.toInt < (n : Int) → Tot (fr_bestOfBlock_b14 n S l1 l2 l3 l4 l6) Q := by
  have z0 : (0 : Int32).toInt = 0 := by decide
  have z1 : (Int32.ofInt (1) : Int32).toInt = 1 := by decide
  have p_9 := pl_9 hP
  have p_10 := pl_10 hP
  have p_cells := pl_cells hP
  have j_l1 := i_any l1
  have j_l2 := i_any l2
  intro n
  induction n with
  | zero =>
    intro S l3 l4 l6 h_S g_l3 g_l6 hm
    exfalso
    omega
  | succ n ih =>
    intro S l3 l4 l6 h_S g_l3 g_l6 hm
    unfold fr_bestOfBlock_b14
    refine tot_bindp (R := fun r_10 : Int32 => ((1 ≤ r_10.toInt ∧ r_10.toInt ≤ 144) ∧ r_10.toInt = (P 9).toInt * (P 10).toInt)) (sf_cellCount hP S h_S ) (fun r_10 d_r_10 => ?_)
    replace d_r_10 : ((1 ≤ r_10.toInt ∧ r_10.toInt ≤ 144) ∧ r_10.toInt = (P 9).toInt * (P 10).toInt) := d_r_10
    refine tot_if (fun c_22 => ?_) (fun c_22 => ?_)
    · replace c_22 := i_le c_22
      exact hx0 S l3 h_S (by omega)
    · replace c_22 := i_nle c_22
      refine tot_bind2 (sf_blockOf hP S l6 l1 l2 h_S (by omega) (by omega) (by omega)) (fun r_12 S_13 d_r_12 => ?_)
      have h_S_13 : IC P S_13 := d_r_12.1
      refine tot_let (fun v_14 e_v_14 => ?_)
      have r_v_14 := i_any v_14
      refine tot_if (fun c_23 => ?_) (fun c_23 => ?_)
      · replace c_23 := i_lt c_23
        unfold fr_bestOfBlock_b51
        refine tot_let (fun v_24 e_v_24 => ?_)
        have q_v_24 := i_add e_v_24 (by omega) (by omega)
        exact ih S_13 l6 r_12 v_24 h_S_13 (by omega) (by omega) (by omega)
      · replace c_23 := i_nlt c_23
        unfold fr_bestOfBlock_b51
        refine tot_let (fun v_25 e_v_25 => ?_)
        have q_v_25 := i_add e_v_25 (by omega) (by omega)
        exact ih S_13 l3 l4 v_25 h_S_13 (by omega) (by omega) (by omega)
set_option maxHeartbeats 4000000 in
set_option maxRecDepth 10000 in
theorem sf_bestOfBlock {P : Nat → Int32} (hP : PL P) (S : MS) (a0 : Int32) (a1 : Int32) (h_S : IC P S) (g0 : 0 ≤ a0.toInt ∧ a0.toInt ≤ 199) (g1 : 1 ≤ a1.toInt ∧ a1.toInt ≤ 200) : Tot (fr_bestOfBlock S a0 a1) (fun r => IC P r.2 ∧ (0 ≤ r.1.toInt ∧ r.1.toInt ≤ 143)) := by
  have z0 : (0 : Int32).toInt = 0 := by decide
  have z1 : (1 : Int32).toInt = 1 := by decide
  have j_a0 := i_any a0
  have j_a1 := i_any a1
  unfold fr_bestOfBlock
  refine tot_bind2 (sf_blockOf hP S 0 a0 a1 h_S (by omega) (by omega) (by omega)) (fun r_1 S_2 d_r_1 => ?_)
  have h_S_2 : IC P S_2 := d_r_1.1
  refine lf_bestOfBlock_b14 hP a0 a1 (by omega) (by omega) ?_ 16384 S_2 0 r_1 1 h_S_2 (by omega) (by omega) (by omega)
  · intro S_26 l_27 h_S_26 g_l_27
    exact tot_some ⟨h_S_26, (show (0 ≤ l_27.toInt ∧ l_27.toInt ≤ 143) from by omega)⟩
set_option maxHeartbeats 4000000 in
set_option maxRecDepth 10000 in
theorem sf_blockBest {P : Nat → Int32} (hP : PL P) (S : MS) (a0 : Int32) (a1 : Int32) (h_S : IC P S) : Tot (fr_blockBest S a0 a1) (fun r => IC P r.2 ∧ (0 ≤ r.1.toInt ∧ r.1.toInt ≤ 143)) := by
  have z0 : (0 : Int32).toInt = 0 := by decide
  have p_2 := pl_2 hP
  have j_a0 := i_any a0
  have j_a1 := i_any a1
  unfold fr_blockBest
  refine tot_bindp (R := fun r_1 : Int32 => (r_1.toInt = 0 ∨ r_1.toInt = 1 ∧ (0 ≤ a0.toInt ∧ a0.toInt < (P 2).toInt) ∧ 1 ≤ a1.toInt ∧ a1.toInt ≤ (P 2).toInt)) (sf_isBlock hP S a0 a1 h_S ) (fun r_1 d_r_1 => ?_)
  replace d_r_1 : (r_1.toInt = 0 ∨ r_1.toInt = 1 ∧ (0 ≤ a0.toInt ∧ a0.toInt < (P 2).toInt) ∧ 1 ≤ a1.toInt ∧ a1.toInt ≤ (P 2).toInt) := d_r_1
  refine tot_bind2 (sf_mayAsk hP S r_1 h_S (by omega)) (fun r_3 S_4 d_r_3 => ?_)
  have h_S_4 : IC P S_4 := d_r_3.1
  replace d_r_3 : (r_3.toInt = 0 ∨ r_3.toInt = 1 ∧ ¬ r_1.toInt = 0) := d_r_3.2
  refine tot_if (fun c_7 => ?_) (fun c_7 => ?_)
  · replace c_7 := i_eq c_7
    unfold fr_blockBest_b23
    exact tot_some ⟨h_S_4, (show (0 ≤ (0 : Int32).toInt ∧ (0 : Int32).toInt ≤ 143) from by omega)⟩
  · replace c_7 := i_ne c_7
    refine tot_bind2 (sf_bestOfBlock hP S_4 a0 a1 h_S_4 (by omega) (by omega)) (fun r_5 S_6 d_r_5 => ?_)
    have h_S_6 : IC P S_6 := d_r_5.1
    replace d_r_5 : (0 ≤ r_5.toInt ∧ r_5.toInt ≤ 143) := d_r_5.2
    unfold fr_blockBest_b23
    exact tot_some ⟨h_S_6, (show (0 ≤ r_5.toInt ∧ r_5.toInt ≤ 143) from by omega)⟩
set_option maxHeartbeats 4000000 in
set_option maxRecDepth 10000 in
theorem lf_path_b32 {P : Nat → Int32} (hP : PL P) {Q : Int32 × MS → Prop} (l1 : Int32) (g0 : 4 ≤ l1.toInt ∧ l1.toInt ≤ 200) (hx0 : ∀ (S : MS) (l2 : Int32), (IC P S) → Tot (some (l2, S)) Q) : ∀ (n : Nat) (S : MS) (l2 : Int32) (l3 : Int32) (l4 : Int32), (IC P S) → (0 ≤ l3.toInt ∧ l3.toInt ≤ 143) → (4 ≤ l4.toInt ∧ l4.toInt ≤ 200) → 200 - l4.toInt < (n : Int) → Tot (fr_path_b32 n S l1 l2 l3 l4) Q := by
  have z0 : (0 : Int32).toInt = 0 := by decide
  have z1 : (1 : Int32).toInt = 1 := by decide
  have p_2 := pl_2 hP
  have j_l1 := i_any l1
  intro n
  induction n with
  | zero =>
    intro S l2 l3 l4 h_S g_l3 g_l4 hm
    exfalso
    omega
  | succ n ih =>
    intro S l2 l3 l4 h_S g_l3 g_l4 hm
    unfold fr_path_b32
    refine tot_let (fun v_16 e_v_16 => ?_)
    have q_v_16 := i_add e_v_16 (by omega) (by omega)
    refine tot_let (fun v_17 e_v_17 => ?_)
    have q_v_17 := ic_p h_S e_v_17
    refine tot_if (fun c_28 => ?_) (fun c_28 => ?_)
    · replace c_28 := i_lt c_28
      exact hx0 S l2 h_S
    · replace c_28 := i_nlt c_28
      refine tot_bind2 (sf_bestOfBlock hP S l4 l1 h_S (by omega) (by omega)) (fun r_18 S_19 d_r_18 => ?_)
      have h_S_19 : IC P S_19 := d_r_18.1
      replace d_r_18 : (0 ≤ r_18.toInt ∧ r_18.toInt ≤ 143) := d_r_18.2
      refine tot_if (fun c_29 => ?_) (fun c_29 => ?_)
      · replace c_29 := i_eq c_29
        unfold fr_path_b66
        refine tot_let (fun v_30 e_v_30 => ?_)
        have r_v_30 := i_any v_30
        refine tot_let (fun v_31 e_v_31 => ?_)
        have q_v_31 := i_add e_v_31 (by omega) (by omega)
        exact ih S_19 v_30 r_18 v_31 h_S_19 (by omega) (by omega) (by omega)
      · replace c_29 := i_ne c_29
        unfold fr_path_b66
        refine tot_let (fun v_32 e_v_32 => ?_)
        have r_v_32 := i_any v_32
        refine tot_let (fun v_33 e_v_33 => ?_)
        have q_v_33 := i_add e_v_33 (by omega) (by omega)
        exact ih S_19 v_32 r_18 v_33 h_S_19 (by omega) (by omega) (by omega)
set_option maxHeartbeats 4000000 in
set_option maxRecDepth 10000 in
theorem sf_path {P : Nat → Int32} (hP : PL P) (S : MS) (a0 : Int32) (h_S : IC P S) : Tot (fr_path S a0) (fun r => IC P r.2 ∧ True) := by
  have z0 : (4 : Int32).toInt = 4 := by decide
  have z1 : (0 : Int32).toInt = 0 := by decide
  have p_2 := pl_2 hP
  have j_a0 := i_any a0
  unfold fr_path
  refine tot_let (fun v_1 e_v_1 => ?_)
  have q_v_1 := ic_p h_S e_v_1
  refine tot_bind (sf_in hP a0 4 v_1  ) (fun r_2 d_r_2 => ?_)
  replace d_r_2 : (r_2.toInt = 0 ∧ (a0.toInt < (4 : Int32).toInt ∨ v_1.toInt < a0.toInt) ∨ r_2.toInt = 1 ∧ (4 : Int32).toInt ≤ a0.toInt ∧ a0.toInt ≤ v_1.toInt) := d_r_2
  refine tot_bind2 (sf_mayAsk hP S r_2 h_S (by omega)) (fun r_3 S_4 d_r_3 => ?_)
  have h_S_4 : IC P S_4 := d_r_3.1
  replace d_r_3 : (r_3.toInt = 0 ∨ r_3.toInt = 1 ∧ ¬ r_2.toInt = 0) := d_r_3.2
  refine tot_if (fun c_7 => ?_) (fun c_7 => ?_)
  · replace c_7 := i_eq c_7
    exact tot_some ⟨h_S_4, trivial⟩
  · replace c_7 := i_ne c_7
    refine tot_bind2 (sf_bestOfBlock hP S_4 0 a0 h_S_4 (by omega) (by omega)) (fun r_5 S_6 d_r_5 => ?_)
    have h_S_6 : IC P S_6 := d_r_5.1
    replace d_r_5 : (0 ≤ r_5.toInt ∧ r_5.toInt ≤ 143) := d_r_5.2
    refine lf_path_b32 hP a0 (by omega) ?_ 16384 S_6 0 r_5 a0 h_S_6 (by omega) (by omega) (by omega)
    · intro S_34 l_35 h_S_34
      have j_l_35 := i_any l_35
      exact tot_some ⟨h_S_34, trivial⟩
set_option maxHeartbeats 4000000 in
set_option maxRecDepth 10000 in
theorem sf_areNear_w {P : Nat → Int32} (hP : PL P) (S : MS) (a0 : Int32) (a1 : Int32) (h_S : IC P S) (g0 : 0 ≤ a0.toInt ∧ a0.toInt ≤ 143) (g1 : 0 ≤ a1.toInt ∧ a1.toInt ≤ 143) : Tot (fr_areNear S a0 a1) (fun r => r.2 = S ∧ (r.1.toInt = 0 ∨ r.1.toInt = 1)) := by
  have z0 : (0 : Int32).toInt = 0 := by decide
  have z1 : (1 : Int32).toInt = 1 := by decide
  have p_9 := pl_9 hP
  have p_cells := pl_cells hP
  have j_a0 := i_any a0
  have j_a1 := i_any a1
  unfold fr_areNear
  refine tot_let (fun v_1 e_v_1 => ?_)
  have q_v_1 := ic_p h_S e_v_1
  refine tot_oif (i_nz (by omega)) ?_
  refine tot_let (fun v_2 e_v_2 => ?_)
  have q_v_2 := i_rem e_v_2 (by omega) (by omega)
  have x_v_2 := i_remq e_v_2 (by omega) (by omega)
  rw [q_v_1] at x_v_2
  refine tot_let (fun v_3 e_v_3 => ?_)
  have q_v_3 := ic_p h_S e_v_3
  refine tot_oif (i_nz (by omega)) ?_
  refine tot_let (fun v_4 e_v_4 => ?_)
  have q_v_4 := i_rem e_v_4 (by omega) (by omega)
  have x_v_4 := i_remq e_v_4 (by omega) (by omega)
  rw [q_v_3] at x_v_4
  refine tot_let (fun v_5 e_v_5 => ?_)
  have q_v_5 := i_sub e_v_5 (by omega) (by omega)
  refine tot_let (fun v_6 e_v_6 => ?_)
  have q_v_6 := i_abs e_v_6 (by omega)
  refine tot_if (fun c_13 => ?_) (fun c_13 => ?_)
  · replace c_13 := i_lt c_13
    unfold fr_areNear_b56
    unfold fr_areNear_b57
    refine tot_oif (i_b01 (by omega)) ?_
    exact tot_some ⟨rfl, (show ((0 : Int32).toInt = 0 ∨ (0 : Int32).toInt = 1) from by omega)⟩
  · replace c_13 := i_nlt c_13
    refine tot_let (fun v_7 e_v_7 => ?_)
    have q_v_7 := ic_p h_S e_v_7
    refine tot_oif (i_nz (by omega)) ?_
    refine tot_let (fun v_8 e_v_8 => ?_)
    have q_v_8 := i_div (c := 1) e_v_8 (by omega) (by omega) (by decide)
    have x_v_8 := i_divq e_v_8 (by omega) (by omega)
    rw [q_v_7] at x_v_8
    refine tot_let (fun v_9 e_v_9 => ?_)
    have q_v_9 := ic_p h_S e_v_9
    refine tot_oif (i_nz (by omega)) ?_
    refine tot_let (fun v_10 e_v_10 => ?_)
    have q_v_10 := i_div (c := 1) e_v_10 (by omega) (by omega) (by decide)
    have x_v_10 := i_divq e_v_10 (by omega) (by omega)
    rw [q_v_9] at x_v_10
    refine tot_let (fun v_11 e_v_11 => ?_)
    have q_v_11 := i_sub e_v_11 (by omega) (by omega)
    refine tot_let (fun v_12 e_v_12 => ?_)
    have q_v_12 := i_abs e_v_12 (by omega)
    refine tot_if (fun c_14 => ?_) (fun c_14 => ?_)
    · replace c_14 := i_lt c_14
      unfold fr_areNear_b56
      unfold fr_areNear_b57
      refine tot_oif (i_b01 (by omega)) ?_
      exact tot_some ⟨rfl, (show ((0 : Int32).toInt = 0 ∨ (0 : Int32).toInt = 1) from by omega)⟩
    · replace c_14 := i_nlt c_14
      unfold fr_areNear_b57
      refine tot_oif (i_b01 (by omega)) ?_
      exact tot_some ⟨rfl, (show ((1 : Int32).toInt = 0 ∨ (1 : Int32).toInt = 1) from by omega)⟩
set_option maxHeartbeats 4000000 in
set_option maxRecDepth 10000 in
theorem sf_areNear_s {P : Nat → Int32} (hP : PL P) (S : MS) (a0 : Int32) (a1 : Int32) (h_S : IC P S) (g0 : 0 ≤ a0.toInt ∧ a0.toInt ≤ 143) (g1 : 0 ≤ a1.toInt ∧ a1.toInt ≤ 143) : Tot (fr_areNear S a0 a0) (fun r => r.2 = S ∧ (r.1.toInt = 1)) := by
  have z0 : (0 : Int32).toInt = 0 := by decide
  have z1 : (1 : Int32).toInt = 1 := by decide
  have p_9 := pl_9 hP
  have p_cells := pl_cells hP
  have j_a0 := i_any a0
  have j_a1 := i_any a1
  unfold fr_areNear
  refine tot_let (fun v_1 e_v_1 => ?_)
  have q_v_1 := ic_p h_S e_v_1
  refine tot_oif (i_nz (by omega)) ?_
  refine tot_let (fun v_2 e_v_2 => ?_)
  have q_v_2 := i_rem e_v_2 (by omega) (by omega)
  have x_v_2 := i_remq e_v_2 (by omega) (by omega)
  rw [q_v_1] at x_v_2
  refine tot_let (fun v_3 e_v_3 => ?_)
  have q_v_3 := ic_p h_S e_v_3
  refine tot_oif (i_nz (by omega)) ?_
  refine tot_let (fun v_4 e_v_4 => ?_)
  have q_v_4 := i_rem e_v_4 (by omega) (by omega)
  have x_v_4 := i_remq e_v_4 (by omega) (by omega)
  rw [q_v_3] at x_v_4
  refine tot_let (fun v_5 e_v_5 => ?_)
  have q_v_5 := i_sub e_v_5 (by omega) (by omega)
  refine tot_let (fun v_6 e_v_6 => ?_)
  have q_v_6 := i_abs e_v_6 (by omega)
  refine tot_if (fun c_13 => ?_) (fun c_13 => ?_)
  · replace c_13 := i_lt c_13
    unfold fr_areNear_b56
    unfold fr_areNear_b57
    refine tot_oif (i_b01 (by omega)) ?_
    exact tot_some ⟨rfl, (show ((0 : Int32).toInt = 1) from by omega)⟩
  · replace c_13 := i_nlt c_13
    refine tot_let (fun v_7 e_v_7 => ?_)
    have q_v_7 := ic_p h_S e_v_7
    refine tot_oif (i_nz (by omega)) ?_
    refine tot_let (fun v_8 e_v_8 => ?_)
    have q_v_8 := i_div (c := 1) e_v_8 (by omega) (by omega) (by decide)
    have x_v_8 := i_divq e_v_8 (by omega) (by omega)
    rw [q_v_7] at x_v_8
    refine tot_let (fun v_9 e_v_9 => ?_)
    have q_v_9 := ic_p h_S e_v_9
    refine tot_oif (i_nz (by omega)) ?_
    refine tot_let (fun v_10 e_v_10 => ?_)
    have q_v_10 := i_div (c := 1) e_v_10 (by omega) (by omega) (by decide)
    have x_v_10 := i_divq e_v_10 (by omega) (by omega)
    rw [q_v_9] at x_v_10
    refine tot_let (fun v_11 e_v_11 => ?_)
    have q_v_11 := i_sub e_v_11 (by omega) (by omega)
    refine tot_let (fun v_12 e_v_12 => ?_)
    have q_v_12 := i_abs e_v_12 (by omega)
    refine tot_if (fun c_14 => ?_) (fun c_14 => ?_)
    · replace c_14 := i_lt c_14
      unfold fr_areNear_b56
      unfold fr_areNear_b57
      refine tot_oif (i_b01 (by omega)) ?_
      exact tot_some ⟨rfl, (show ((0 : Int32).toInt = 1) from by omega)⟩
    · replace c_14 := i_nlt c_14
      unfold fr_areNear_b57
      refine tot_oif (i_b01 (by omega)) ?_
      exact tot_some ⟨rfl, (show ((1 : Int32).toInt = 1) from by omega)⟩
theorem sf_areNear {P : Nat → Int32} (hP : PL P) (S : MS) (a0 : Int32) (a1 : Int32) (h_S : IC P S) (g0 : 0 ≤ a0.toInt ∧ a0.toInt ≤ 143) (g1 : 0 ≤ a1.toInt ∧ a1.toInt ≤ 143) : Tot (fr_areNear S a0 a1) (fun r => r.2 = S ∧ ((r.1.toInt = 0 ∨ r.1.toInt = 1) ∧ (a0.toInt = a1.toInt → r.1.toInt = 1))) := by
  by_cases e : a0 = a1
  · subst e
    exact tot_w (sf_areNear_s hP S a0 a0 h_S g0 g1) (fun r q => ⟨q.1, .inr q.2, fun _ => q.2⟩)
  · exact tot_w (sf_areNear_w hP S a0 a1 h_S g0 g1) (fun r q => ⟨q.1, q.2, fun h => absurd (Int32.toInt_inj.mp h) e⟩)
