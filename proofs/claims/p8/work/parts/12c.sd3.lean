set_option maxHeartbeats 4000000 in
set_option maxRecDepth 10000 in
theorem lf_bestBehind_b5 {P : Nat → Int32} (hP : PL P) {Q : Int32 × MS → Prop} (S : MS) (l1 : Int32) (l2 : Int32) (h_S : IC P S) (g0 : 0 ≤ l1.toInt ∧ l1.toInt ≤ 49) (g1 : -1 ≤ l2.toInt ∧ l2.toInt ≤ 143) (g2 : l2.toInt = -1 ∨ l2.toInt < (P 9).toInt * (P 10).toInt) (hx0 : ∀ (l3 : Int32), (0 ≤ l3.toInt ∧ l3.toInt ≤ 143) → (l3.toInt < (P 9).toInt * (P 10).toInt) → Tot (some (l3, S)) Q) : ∀ (n : Nat) (l3 : Int32) (l4 : Int32), (-1 ≤ l3.toInt ∧ l3.toInt ≤ 143) → (0 ≤ l4.toInt ∧ l4.toInt ≤ 144) → (l3.toInt = -1 → (l4.toInt = 0 ∨ (¬ l2.toInt = -1 ∧ l4.toInt ≤ l2.toInt))) → (l3.toInt < (P 9).toInt * (P 10).toInt) → 144 - l4.toInt < (n : Int) → Tot (fr_bestBehind_b5 n S l1 l2 l3 l4) Q := by
  have z0 : ((-1) : Int32).toInt = -1 := by decide
  have z1 : (Int32.ofInt (1) : Int32).toInt = 1 := by decide
  have z2 : (144 : Int32).toInt = 144 := by decide
  have z3 : (0 : Int32).toInt = 0 := by decide
  have p_9 := pl_9 hP
  have p_10 := pl_10 hP
  have p_cells := pl_cells hP
  have j_l1 := i_any l1
  have j_l2 := i_any l2
  intro n
  induction n with
  | zero =>
    intro l3 l4 g_l3 g_l4 gi_0 gi_1 hm
    exfalso
    omega
  | succ n ih =>
    intro l3 l4 g_l3 g_l4 gi_0 gi_1 hm
    unfold fr_bestBehind_b5
    refine tot_bindp (R := fun r_26 : Int32 => ((1 ≤ r_26.toInt ∧ r_26.toInt ≤ 144) ∧ r_26.toInt = (P 9).toInt * (P 10).toInt)) (sf_cellCount hP S h_S ) (fun r_26 d_r_26 => ?_)
    replace d_r_26 : ((1 ≤ r_26.toInt ∧ r_26.toInt ≤ 144) ∧ r_26.toInt = (P 9).toInt * (P 10).toInt) := d_r_26
    refine tot_if (fun c_55 => ?_) (fun c_55 => ?_)
    · replace c_55 := i_le c_55
      exact hx0 l3 (by omega) (by omega)
    · replace c_55 := i_nle c_55
      refine tot_if (fun c_56 => ?_) (fun c_56 => ?_)
      · replace c_56 := i_eq c_56
        unfold fr_bestBehind_b29
        refine tot_if (fun c_64 => ?_) (fun c_64 => ?_)
        · replace c_64 := i_eq c_64
          unfold fr_bestBehind_b66
          unfold fr_bestBehind_b69
          refine tot_let (fun v_65 e_v_65 => ?_)
          have q_v_65 := i_add e_v_65 (by omega) (by omega)
          exact ih l4 v_65 (by omega) (by omega) (by omega) (by omega) (by omega)
        · replace c_64 := i_ne c_64
          refine tot_let (fun v_57 e_v_57 => ?_)
          have q_v_57 := i_mulk e_v_57 z2 (by omega) (by omega)
          refine tot_let (fun v_58 e_v_58 => ?_)
          have q_v_58 := i_add e_v_58 (by omega) (by omega)
          refine tot_oif (i_inb (by omega) (by omega)) ?_
          refine tot_let (fun v_59 e_v_59 => ?_)
          refine tot_let (fun v_60 e_v_60 => ?_)
          have q_v_60 := i_mulk e_v_60 z2 (by omega) (by omega)
          refine tot_let (fun v_61 e_v_61 => ?_)
          have q_v_61 := i_add e_v_61 (by omega) (by omega)
          refine tot_oif (i_inb (by omega) (by omega)) ?_
          refine tot_let (fun v_62 e_v_62 => ?_)
          refine tot_let (fun v_63 e_v_63 => ?_)
          have r_v_63 := i_any v_63
          refine tot_if (fun c_66 => ?_) (fun c_66 => ?_)
          · replace c_66 := i_lt c_66
            unfold fr_bestBehind_b66
            unfold fr_bestBehind_b69
            refine tot_let (fun v_67 e_v_67 => ?_)
            have q_v_67 := i_add e_v_67 (by omega) (by omega)
            exact ih l4 v_67 (by omega) (by omega) (by omega) (by omega) (by omega)
          · replace c_66 := i_nlt c_66
            unfold fr_bestBehind_b69
            refine tot_let (fun v_68 e_v_68 => ?_)
            have q_v_68 := i_add e_v_68 (by omega) (by omega)
            exact ih l3 v_68 (by omega) (by omega) (by omega) (by omega) (by omega)
      · replace c_56 := i_ne c_56
        refine tot_bindp (R := fun r_28 : Int32 => ((r_28.toInt = 0 ∨ r_28.toInt = 1) ∧ (l2.toInt = l4.toInt → r_28.toInt = 1))) (sf_areNear hP S l2 l4 h_S (by omega) (by omega)) (fun r_28 d_r_28 => ?_)
        replace d_r_28 : ((r_28.toInt = 0 ∨ r_28.toInt = 1) ∧ (l2.toInt = l4.toInt → r_28.toInt = 1)) := d_r_28
        refine tot_if (fun c_69 => ?_) (fun c_69 => ?_)
        · replace c_69 := i_eq c_69
          unfold fr_bestBehind_b69
          refine tot_let (fun v_70 e_v_70 => ?_)
          have q_v_70 := i_add e_v_70 (by omega) (by omega)
          exact ih l3 v_70 (by omega) (by omega) (by omega) (by omega) (by omega)
        · replace c_69 := i_ne c_69
          unfold fr_bestBehind_b29
          refine tot_if (fun c_78 => ?_) (fun c_78 => ?_)
          · replace c_78 := i_eq c_78
            unfold fr_bestBehind_b66
            unfold fr_bestBehind_b69
            refine tot_let (fun v_79 e_v_79 => ?_)
            have q_v_79 := i_add e_v_79 (by omega) (by omega)
            exact ih l4 v_79 (by omega) (by omega) (by omega) (by omega) (by omega)
          · replace c_78 := i_ne c_78
            refine tot_let (fun v_71 e_v_71 => ?_)
            have q_v_71 := i_mulk e_v_71 z2 (by omega) (by omega)
            refine tot_let (fun v_72 e_v_72 => ?_)
            have q_v_72 := i_add e_v_72 (by omega) (by omega)
            refine tot_oif (i_inb (by omega) (by omega)) ?_
            refine tot_let (fun v_73 e_v_73 => ?_)
            refine tot_let (fun v_74 e_v_74 => ?_)
            have q_v_74 := i_mulk e_v_74 z2 (by omega) (by omega)
            refine tot_let (fun v_75 e_v_75 => ?_)
            have q_v_75 := i_add e_v_75 (by omega) (by omega)
            refine tot_oif (i_inb (by omega) (by omega)) ?_
            refine tot_let (fun v_76 e_v_76 => ?_)
            refine tot_let (fun v_77 e_v_77 => ?_)
            have r_v_77 := i_any v_77
            refine tot_if (fun c_80 => ?_) (fun c_80 => ?_)
            · replace c_80 := i_lt c_80
              unfold fr_bestBehind_b66
              unfold fr_bestBehind_b69
              refine tot_let (fun v_81 e_v_81 => ?_)
              have q_v_81 := i_add e_v_81 (by omega) (by omega)
              exact ih l4 v_81 (by omega) (by omega) (by omega) (by omega) (by omega)
            · replace c_80 := i_nlt c_80
              unfold fr_bestBehind_b69
              refine tot_let (fun v_82 e_v_82 => ?_)
              have q_v_82 := i_add e_v_82 (by omega) (by omega)
              exact ih l3 v_82 (by omega) (by omega) (by omega) (by omega) (by omega)
set_option maxHeartbeats 4000000 in
set_option maxRecDepth 10000 in
theorem sf_bestBehind {P : Nat → Int32} (hP : PL P) (S : MS) (a0 : Int32) (a1 : Int32) (h_S : IC P S) (g0 : 0 ≤ a0.toInt ∧ a0.toInt ≤ 49) (g1 : -1 ≤ a1.toInt ∧ a1.toInt ≤ 143) (g2 : a1.toInt = -1 ∨ a1.toInt < (P 9).toInt * (P 10).toInt) : Tot (fr_bestBehind S a0 a1) (fun r => r.2 = S ∧ ((0 ≤ r.1.toInt ∧ r.1.toInt ≤ 143) ∧ r.1.toInt < (P 9).toInt * (P 10).toInt)) := by
  have z0 : ((-1) : Int32).toInt = -1 := by decide
  have z1 : (0 : Int32).toInt = 0 := by decide
  have p_cells := pl_cells hP
  have j_a0 := i_any a0
  have j_a1 := i_any a1
  unfold fr_bestBehind
  refine lf_bestBehind_b5 hP S a0 a1 h_S (by omega) (by omega) (by omega) ?_ 16384 (-1) 0 (by omega) (by omega) (by omega) (by omega) (by omega)
  · intro l_83 g_l_83 gr_84
    exact tot_some ⟨rfl, (show ((0 ≤ l_83.toInt ∧ l_83.toInt ≤ 143) ∧ l_83.toInt < (P 9).toInt * (P 10).toInt) from by omega)⟩
set_option maxHeartbeats 4000000 in
set_option maxRecDepth 10000 in
theorem lf_laysScores_b32 {P : Nat → Int32} (hP : PL P) {Q : MS → Prop} {k8 : MS → Int32 → Int32 → Option (MS)} (l1 : Int32) (l2 : Int32) (l3 : Int32) (g0 : 4 ≤ l1.toInt ∧ l1.toInt ≤ 200) (g1 : 0 ≤ l2.toInt ∧ l2.toInt ≤ 49) (g2 : 0 ≤ l3.toInt ∧ l3.toInt ≤ 1) (g3 : l3.toInt = 0 → l2.toInt ≤ 48) (hx0 : ∀ (S : MS), (IC P S) → Tot (elet (l2 + Int32.ofInt (-1)) fun v_130 => k8 S l1 v_130) Q) : ∀ (n : Nat) (S : MS) (l4 : Int32), (IC P S) → (0 ≤ l4.toInt ∧ l4.toInt ≤ 144) → 144 - l4.toInt < (n : Int) → Tot (fr_laysScores_b32 k8 n S l1 l2 l3 l4) Q := by
  have z0 : (144 : Int32).toInt = 144 := by decide
  have z1 : (0 : Int32).toInt = 0 := by decide
  have z2 : (1 : Int32).toInt = 1 := by decide
  have z3 : (Int32.ofInt (1) : Int32).toInt = 1 := by decide
  have p_9 := pl_9 hP
  have p_10 := pl_10 hP
  have p_cells := pl_cells hP
  have j_l1 := i_any l1
  have j_l2 := i_any l2
  have j_l3 := i_any l3
  intro n
  induction n with
  | zero =>
    intro S l4 h_S g_l4 hm
    exfalso
    omega
  | succ n ih =>
    intro S l4 h_S g_l4 hm
    unfold fr_laysScores_b32
    refine tot_bindp (R := fun r_128 : Int32 => ((1 ≤ r_128.toInt ∧ r_128.toInt ≤ 144) ∧ r_128.toInt = (P 9).toInt * (P 10).toInt)) (sf_cellCount hP S h_S ) (fun r_128 d_r_128 => ?_)
    replace d_r_128 : ((1 ≤ r_128.toInt ∧ r_128.toInt ≤ 144) ∧ r_128.toInt = (P 9).toInt * (P 10).toInt) := d_r_128
    refine tot_if (fun c_164 => ?_) (fun c_164 => ?_)
    · replace c_164 := i_le c_164
      exact hx0 S h_S
    · replace c_164 := i_nle c_164
      refine tot_let (fun v_131 e_v_131 => ?_)
      have q_v_131 := i_mulk e_v_131 z0 (by omega) (by omega)
      refine tot_let (fun v_132 e_v_132 => ?_)
      have q_v_132 := i_add e_v_132 (by omega) (by omega)
      refine tot_let (fun v_133 e_v_133 => ?_)
      have q_v_133 := i_mulp (a := 4) (b := 200) (c := 0) (d := 49) e_v_133 (by omega) (by omega) (by omega) (by omega) (by decide)
      refine tot_bind2 (sf_blockOf hP S l4 v_133 l1 h_S (by omega) (by omega) (by omega)) (fun r_134 S_135 d_r_134 => ?_)
      have h_S_135 : IC P S_135 := d_r_134.1
      refine tot_if (fun c_165 => ?_) (fun c_165 => ?_)
      · replace c_165 := i_eq c_165
        refine tot_let (fun v_136 e_v_136 => ?_)
        have q_v_136 := i_add e_v_136 (by omega) (by omega)
        refine tot_let (fun v_137 e_v_137 => ?_)
        have q_v_137 := i_mulk e_v_137 z0 (by omega) (by omega)
        refine tot_let (fun v_138 e_v_138 => ?_)
        have q_v_138 := i_add e_v_138 (by omega) (by omega)
        refine tot_bindp (R := fun r_139 : Int32 => ((0 ≤ r_139.toInt ∧ r_139.toInt ≤ 143) ∧ r_139.toInt < (P 9).toInt * (P 10).toInt)) (sf_bestBehind hP S_135 v_138 l4 h_S_135 (by omega) (by omega) (by omega)) (fun r_139 d_r_139 => ?_)
        replace d_r_139 : ((0 ≤ r_139.toInt ∧ r_139.toInt ≤ 143) ∧ r_139.toInt < (P 9).toInt * (P 10).toInt) := d_r_139
        refine tot_let (fun v_141 e_v_141 => ?_)
        have q_v_141 := i_add e_v_141 (by omega) (by omega)
        refine tot_oif (i_inb (by omega) (by omega)) ?_
        refine tot_let (fun v_142 e_v_142 => ?_)
        unfold fr_laysScores_b93
        refine tot_let (fun v_166 e_v_166 => ?_)
        refine tot_oif (i_inb (by omega) (by omega)) ?_
        refine tot_let (fun S_167 e_S_167 => ?_)
        have h_S_167 : IC P S_167 := by rw [e_S_167]; exact ic_mg26 h_S_135 _
        refine tot_let (fun v_168 e_v_168 => ?_)
        have q_v_168 := i_add e_v_168 (by omega) (by omega)
        exact ih S_167 v_168 h_S_167 (by omega) (by omega)
      · replace c_165 := i_ne c_165
        unfold fr_laysScores_b93
        refine tot_let (fun v_169 e_v_169 => ?_)
        refine tot_oif (i_inb (by omega) (by omega)) ?_
        refine tot_let (fun S_170 e_S_170 => ?_)
        have h_S_170 : IC P S_170 := by rw [e_S_170]; exact ic_mg26 h_S_135 _
        refine tot_let (fun v_171 e_v_171 => ?_)
        have q_v_171 := i_add e_v_171 (by omega) (by omega)
        exact ih S_170 v_171 h_S_170 (by omega) (by omega)
set_option maxHeartbeats 4000000 in
set_option maxRecDepth 10000 in
theorem lf_laysScores_b8 {P : Nat → Int32} (hP : PL P) {Q : MS → Prop} (l1 : Int32) (g0 : 4 ≤ l1.toInt ∧ l1.toInt ≤ 200) (hx0 : ∀ (S : MS), (IC P S) → Tot (some (S)) Q) : ∀ (n : Nat) (S : MS) (l2 : Int32), (IC P S) → (-1 ≤ l2.toInt ∧ l2.toInt ≤ 49) → (l2.toInt < (P 2).toInt / l1.toInt) → l2.toInt - (-1) < (n : Int) → Tot (fr_laysScores_b8 n S l1 l2) Q := by
  have z0 : (0 : Int32).toInt = 0 := by decide
  have z1 : (1 : Int32).toInt = 1 := by decide
  have z2 : (Int32.ofInt (-1) : Int32).toInt = -1 := by decide
  have p_2 := pl_2 hP
  have p_cells := pl_cells hP
  have j_l1 := i_any l1
  intro n
  induction n with
  | zero =>
    intro S l2 h_S g_l2 gi_0 hm
    exfalso
    omega
  | succ n ih =>
    intro S l2 h_S g_l2 gi_0 hm
    unfold fr_laysScores_b8
    refine tot_if (fun c_126 => ?_) (fun c_126 => ?_)
    · replace c_126 := i_lt c_126
      exact hx0 S h_S
    · replace c_126 := i_nlt c_126
      refine tot_bindp (R := fun r_74 : Int32 => ((0 ≤ r_74.toInt ∧ r_74.toInt ≤ 50) ∧ r_74.toInt = (P 2).toInt / l1.toInt)) (sf_blockCount hP S l1 h_S (by omega)) (fun r_74 d_r_74 => ?_)
      replace d_r_74 : ((0 ≤ r_74.toInt ∧ r_74.toInt ≤ 50) ∧ r_74.toInt = (P 2).toInt / l1.toInt) := d_r_74
      refine tot_let (fun v_76 e_v_76 => ?_)
      have q_v_76 := i_sub e_v_76 (by omega) (by omega)
      refine tot_if (fun c_127 => ?_) (fun c_127 => ?_)
      · replace c_127 := i_eq c_127
        unfold fr_laysScores_b28
        refine lf_laysScores_b32 hP l1 l2 1 (by omega) (by omega) (by omega) (by omega) ?_ 16384 S 0 h_S (by omega) (by omega)
        · intro S_172 h_S_172
          refine tot_let (fun v__173 e_v__173 => ?_)
          have q_v__173 := i_add e_v__173 (by omega) (by omega)
          exact ih S_172 v__173 h_S_172 (by omega) (by omega) (by omega)
      · replace c_127 := i_ne c_127
        unfold fr_laysScores_b28
        refine lf_laysScores_b32 hP l1 l2 0 (by omega) (by omega) (by omega) (by omega) ?_ 16384 S 0 h_S (by omega) (by omega)
        · intro S_174 h_S_174
          refine tot_let (fun v__175 e_v__175 => ?_)
          have q_v__175 := i_add e_v__175 (by omega) (by omega)
          exact ih S_174 v__175 h_S_174 (by omega) (by omega) (by omega)
set_option maxHeartbeats 4000000 in
set_option maxRecDepth 10000 in
theorem sf_laysScores {P : Nat → Int32} (hP : PL P) (S : MS) (a0 : Int32) (h_S : IC P S) (g0 : 4 ≤ a0.toInt ∧ a0.toInt ≤ 200) : Tot (fr_laysScores S a0) (fun S1 => IC P S1 ∧ True) := by
  have z0 : (1 : Int32).toInt = 1 := by decide
  have p_2 := pl_2 hP
  have p_cells := pl_cells hP
  have j_a0 := i_any a0
  unfold fr_laysScores
  refine tot_bindp (R := fun r_1 : Int32 => ((0 ≤ r_1.toInt ∧ r_1.toInt ≤ 50) ∧ r_1.toInt = (P 2).toInt / a0.toInt)) (sf_blockCount hP S a0 h_S (by omega)) (fun r_1 d_r_1 => ?_)
  replace d_r_1 : ((0 ≤ r_1.toInt ∧ r_1.toInt ≤ 50) ∧ r_1.toInt = (P 2).toInt / a0.toInt) := d_r_1
  refine tot_let (fun v_3 e_v_3 => ?_)
  have q_v_3 := i_sub e_v_3 (by omega) (by omega)
  refine lf_laysScores_b8 hP a0 (by omega) ?_ 16384 S v_3 h_S (by omega) (by omega) (by omega)
  · intro S_176 h_S_176
    exact tot_some ⟨h_S_176, trivial⟩
set_option maxHeartbeats 4000000 in
set_option maxRecDepth 10000 in
theorem sf_isLength {P : Nat → Int32} (hP : PL P) (S : MS) (a0 : Int32) (h_S : IC P S) : Tot (fr_isLength S a0) (fun r => r.2 = S ∧ (r.1.toInt = 0 ∧ (a0.toInt < 4 ∨ (P 2).toInt < a0.toInt) ∨ r.1.toInt = 1 ∧ 4 ≤ a0.toInt ∧ a0.toInt ≤ (P 2).toInt)) := by
  have z0 : (4 : Int32).toInt = 4 := by decide
  have p_2 := pl_2 hP
  have j_a0 := i_any a0
  unfold fr_isLength
  refine tot_let (fun v_1 e_v_1 => ?_)
  have q_v_1 := ic_p h_S e_v_1
  refine tot_bind (sf_in hP a0 4 v_1  ) (fun r_2 d_r_2 => ?_)
  replace d_r_2 : (r_2.toInt = 0 ∧ (a0.toInt < (4 : Int32).toInt ∨ v_1.toInt < a0.toInt) ∨ r_2.toInt = 1 ∧ (4 : Int32).toInt ≤ a0.toInt ∧ a0.toInt ≤ v_1.toInt) := d_r_2
  refine tot_oif (i_b01 (by omega)) ?_
  exact tot_some ⟨rfl, (show (r_2.toInt = 0 ∧ (a0.toInt < 4 ∨ (P 2).toInt < a0.toInt) ∨ r_2.toInt = 1 ∧ 4 ≤ a0.toInt ∧ a0.toInt ≤ (P 2).toInt) from by omega)⟩
set_option maxHeartbeats 4000000 in
set_option maxRecDepth 10000 in
theorem sf_trackScore {P : Nat → Int32} (hP : PL P) (S : MS) (a0 : Int32) (h_S : IC P S) : Tot (fr_trackScore S a0) (fun r => IC P r.2 ∧ True) := by
  have z0 : (0 : Int32).toInt = 0 := by decide
  have z1 : ((-1) : Int32).toInt = -1 := by decide
  have p_2 := pl_2 hP
  have p_9 := pl_9 hP
  have p_10 := pl_10 hP
  have p_cells := pl_cells hP
  have j_a0 := i_any a0
  unfold fr_trackScore
  refine tot_bindp (R := fun r_1 : Int32 => (r_1.toInt = 0 ∧ (a0.toInt < 4 ∨ (P 2).toInt < a0.toInt) ∨ r_1.toInt = 1 ∧ 4 ≤ a0.toInt ∧ a0.toInt ≤ (P 2).toInt)) (sf_isLength hP S a0 h_S ) (fun r_1 d_r_1 => ?_)
  replace d_r_1 : (r_1.toInt = 0 ∧ (a0.toInt < 4 ∨ (P 2).toInt < a0.toInt) ∨ r_1.toInt = 1 ∧ 4 ≤ a0.toInt ∧ a0.toInt ≤ (P 2).toInt) := d_r_1
  refine tot_bind2 (sf_mayAsk hP S r_1 h_S (by omega)) (fun r_3 S_4 d_r_3 => ?_)
  have h_S_4 : IC P S_4 := d_r_3.1
  replace d_r_3 : (r_3.toInt = 0 ∨ r_3.toInt = 1 ∧ ¬ r_1.toInt = 0) := d_r_3.2
  refine tot_if (fun c_9 => ?_) (fun c_9 => ?_)
  · replace c_9 := i_eq c_9
    exact tot_some ⟨h_S_4, trivial⟩
  · replace c_9 := i_ne c_9
    refine tot_bind (sf_laysScores hP S_4 a0 h_S_4 (by omega)) (fun S_5 d_S_5 => ?_)
    have h_S_5 : IC P S_5 := d_S_5.1
    refine tot_bindp (R := fun r_6 : Int32 => ((0 ≤ r_6.toInt ∧ r_6.toInt ≤ 143) ∧ r_6.toInt < (P 9).toInt * (P 10).toInt)) (sf_bestBehind hP S_5 0 (-1) h_S_5 (by omega) (by omega) (by omega)) (fun r_6 d_r_6 => ?_)
    replace d_r_6 : ((0 ≤ r_6.toInt ∧ r_6.toInt ≤ 143) ∧ r_6.toInt < (P 9).toInt * (P 10).toInt) := d_r_6
    refine tot_oif (i_inb (by omega) (by omega)) ?_
    refine tot_let (fun v_8 e_v_8 => ?_)
    exact tot_some ⟨h_S_5, trivial⟩
set_option maxHeartbeats 4000000 in
set_option maxRecDepth 10000 in
theorem lf_trackCell_b61 {P : Nat → Int32} (hP : PL P) {Q : Int32 × MS → Prop} (l2 : Int32) (g0 : 0 ≤ l2.toInt ∧ l2.toInt ≤ 49) (hx0 : ∀ (S : MS) (l3 : Int32), (IC P S) → (-1 ≤ l3.toInt ∧ l3.toInt ≤ 143) → Tot (some (l3, S)) Q) : ∀ (n : Nat) (S : MS) (l3 : Int32) (l4 : Int32), (IC P S) → (-1 ≤ l3.toInt ∧ l3.toInt ≤ 143) → (0 ≤ l4.toInt ∧ l4.toInt ≤ 50) → (l3.toInt = -1 ∨ l3.toInt < (P 9).toInt * (P 10).toInt) → 50 - l4.toInt < (n : Int) → Tot (fr_trackCell_b61 n S l2 l3 l4) Q := by
  have z0 : (Int32.ofInt (1) : Int32).toInt = 1 := by decide
  have p_9 := pl_9 hP
  have p_10 := pl_10 hP
  have p_cells := pl_cells hP
  have j_l2 := i_any l2
  intro n
  induction n with
  | zero =>
    intro S l3 l4 h_S g_l3 g_l4 gi_0 hm
    exfalso
    omega
  | succ n ih =>
    intro S l3 l4 h_S g_l3 g_l4 gi_0 hm
    unfold fr_trackCell_b61
    refine tot_if (fun c_44 => ?_) (fun c_44 => ?_)
    · replace c_44 := i_lt c_44
      exact hx0 S l3 h_S (by omega)
    · replace c_44 := i_nlt c_44
      refine tot_bindp (R := fun r_38 : Int32 => ((0 ≤ r_38.toInt ∧ r_38.toInt ≤ 143) ∧ r_38.toInt < (P 9).toInt * (P 10).toInt)) (sf_bestBehind hP S l4 l3 h_S (by omega) (by omega) (by omega)) (fun r_38 d_r_38 => ?_)
      replace d_r_38 : ((0 ≤ r_38.toInt ∧ r_38.toInt ≤ 143) ∧ r_38.toInt < (P 9).toInt * (P 10).toInt) := d_r_38
      refine tot_let (fun v_40 e_v_40 => ?_)
      have q_v_40 := i_add e_v_40 (by omega) (by omega)
      exact ih S r_38 v_40 h_S (by omega) (by omega) (by omega) (by omega)
set_option maxHeartbeats 4000000 in
set_option maxRecDepth 10000 in
theorem sf_trackCell {P : Nat → Int32} (hP : PL P) (S : MS) (a0 : Int32) (a1 : Int32) (h_S : IC P S) : Tot (fr_trackCell S a0 a1) (fun r => IC P r.2 ∧ (-1 ≤ r.1.toInt ∧ r.1.toInt ≤ 143)) := by
  have z0 : (0 : Int32).toInt = 0 := by decide
  have z1 : (1 : Int32).toInt = 1 := by decide
  have z2 : (3 : Int32).toInt = 3 := by decide
  have z3 : ((-1) : Int32).toInt = -1 := by decide
  have p_2 := pl_2 hP
  have p_cells := pl_cells hP
  have j_a0 := i_any a0
  have j_a1 := i_any a1
  unfold fr_trackCell
  refine tot_bindp (R := fun r_1 : Int32 => (r_1.toInt = 0 ∧ (a0.toInt < 4 ∨ (P 2).toInt < a0.toInt) ∨ r_1.toInt = 1 ∧ 4 ≤ a0.toInt ∧ a0.toInt ≤ (P 2).toInt)) (sf_isLength hP S a0 h_S ) (fun r_1 d_r_1 => ?_)
  replace d_r_1 : (r_1.toInt = 0 ∧ (a0.toInt < 4 ∨ (P 2).toInt < a0.toInt) ∨ r_1.toInt = 1 ∧ 4 ≤ a0.toInt ∧ a0.toInt ≤ (P 2).toInt) := d_r_1
  refine tot_if (fun c_7 => ?_) (fun c_7 => ?_)
  · replace c_7 := i_eq c_7
    unfold fr_trackCell_b24
    unfold fr_trackCell_b29
    refine tot_bind2 (sf_mayAsk hP S 1 h_S (by omega)) (fun r_8 S_9 d_r_8 => ?_)
    have h_S_9 : IC P S_9 := d_r_8.1
    replace d_r_8 : (r_8.toInt = 0 ∨ r_8.toInt = 1 ∧ ¬ (1 : Int32).toInt = 0) := d_r_8.2
    refine tot_if (fun c_15 => ?_) (fun c_15 => ?_)
    · replace c_15 := i_eq c_15
      exact tot_some ⟨h_S_9, (show (-1 ≤ (0 : Int32).toInt ∧ (0 : Int32).toInt ≤ 143) from by omega)⟩
    · replace c_15 := i_ne c_15
      refine tot_bindp (R := fun r_10 : Int32 => (r_10.toInt = 0 ∧ (a0.toInt < 4 ∨ (P 2).toInt < a0.toInt) ∨ r_10.toInt = 1 ∧ 4 ≤ a0.toInt ∧ a0.toInt ≤ (P 2).toInt)) (sf_isLength hP S_9 a0 h_S_9 ) (fun r_10 d_r_10 => ?_)
      replace d_r_10 : (r_10.toInt = 0 ∧ (a0.toInt < 4 ∨ (P 2).toInt < a0.toInt) ∨ r_10.toInt = 1 ∧ 4 ≤ a0.toInt ∧ a0.toInt ≤ (P 2).toInt) := d_r_10
      refine tot_if (fun c_16 => ?_) (fun c_16 => ?_)
      · replace c_16 := i_eq c_16
        refine tot_bind2 (sf_throwsAt hP S_9 3 h_S_9 ) (fun r_12 S_13 d_r_12 => ?_)
        have h_S_13 : IC P S_13 := d_r_12.1
        replace d_r_12 : (0 ≤ r_12.toInt ∧ r_12.toInt ≤ 0) := d_r_12.2
        exact tot_some ⟨h_S_13, (show (-1 ≤ r_12.toInt ∧ r_12.toInt ≤ 143) from by omega)⟩
      · replace c_16 := i_ne c_16
        exfalso
        omega
  · replace c_7 := i_ne c_7
    refine tot_bindp (R := fun r_3 : Int32 => ((0 ≤ r_3.toInt ∧ r_3.toInt ≤ 50) ∧ r_3.toInt = (P 2).toInt / a0.toInt)) (sf_blockCount hP S a0 h_S (by omega)) (fun r_3 d_r_3 => ?_)
    replace d_r_3 : ((0 ≤ r_3.toInt ∧ r_3.toInt ≤ 50) ∧ r_3.toInt = (P 2).toInt / a0.toInt) := d_r_3
    refine tot_let (fun v_5 e_v_5 => ?_)
    have q_v_5 := i_sub e_v_5 (by omega) (by omega)
    refine tot_bind (sf_in hP a1 0 v_5  ) (fun r_6 d_r_6 => ?_)
    replace d_r_6 : (r_6.toInt = 0 ∧ (a1.toInt < (0 : Int32).toInt ∨ v_5.toInt < a1.toInt) ∨ r_6.toInt = 1 ∧ (0 : Int32).toInt ≤ a1.toInt ∧ a1.toInt ≤ v_5.toInt) := d_r_6
    refine tot_if (fun c_17 => ?_) (fun c_17 => ?_)
    · replace c_17 := i_eq c_17
      unfold fr_trackCell_b29
      refine tot_bind2 (sf_mayAsk hP S 0 h_S (by omega)) (fun r_18 S_19 d_r_18 => ?_)
      have h_S_19 : IC P S_19 := d_r_18.1
      replace d_r_18 : (r_18.toInt = 0 ∨ r_18.toInt = 1 ∧ ¬ (0 : Int32).toInt = 0) := d_r_18.2
      refine tot_if (fun c_25 => ?_) (fun c_25 => ?_)
      · replace c_25 := i_eq c_25
        exact tot_some ⟨h_S_19, (show (-1 ≤ (0 : Int32).toInt ∧ (0 : Int32).toInt ≤ 143) from by omega)⟩
      · replace c_25 := i_ne c_25
        exfalso
        omega
    · replace c_17 := i_ne c_17
      unfold fr_trackCell_b24
      unfold fr_trackCell_b29
      refine tot_bind2 (sf_mayAsk hP S 1 h_S (by omega)) (fun r_26 S_27 d_r_26 => ?_)
      have h_S_27 : IC P S_27 := d_r_26.1
      replace d_r_26 : (r_26.toInt = 0 ∨ r_26.toInt = 1 ∧ ¬ (1 : Int32).toInt = 0) := d_r_26.2
      refine tot_if (fun c_33 => ?_) (fun c_33 => ?_)
      · replace c_33 := i_eq c_33
        exact tot_some ⟨h_S_27, (show (-1 ≤ (0 : Int32).toInt ∧ (0 : Int32).toInt ≤ 143) from by omega)⟩
      · replace c_33 := i_ne c_33
        refine tot_bindp (R := fun r_28 : Int32 => (r_28.toInt = 0 ∧ (a0.toInt < 4 ∨ (P 2).toInt < a0.toInt) ∨ r_28.toInt = 1 ∧ 4 ≤ a0.toInt ∧ a0.toInt ≤ (P 2).toInt)) (sf_isLength hP S_27 a0 h_S_27 ) (fun r_28 d_r_28 => ?_)
        replace d_r_28 : (r_28.toInt = 0 ∧ (a0.toInt < 4 ∨ (P 2).toInt < a0.toInt) ∨ r_28.toInt = 1 ∧ 4 ≤ a0.toInt ∧ a0.toInt ≤ (P 2).toInt) := d_r_28
        refine tot_if (fun c_34 => ?_) (fun c_34 => ?_)
        · replace c_34 := i_eq c_34
          exfalso
          omega
        · replace c_34 := i_ne c_34
          refine tot_bind (sf_laysScores hP S_27 a0 h_S_27 (by omega)) (fun S_32 d_S_32 => ?_)
          have h_S_32 : IC P S_32 := d_S_32.1
          refine lf_trackCell_b61 hP a1 (by omega) ?_ 16384 S_32 (-1) 0 h_S_32 (by omega) (by omega) (by omega) (by omega)
          · intro S_45 l_46 h_S_45 g_l_46
            exact tot_some ⟨h_S_45, (show (-1 ≤ l_46.toInt ∧ l_46.toInt ≤ 143) from by omega)⟩
set_option maxHeartbeats 4000000 in
set_option maxRecDepth 10000 in
theorem sf_isZone {P : Nat → Int32} (hP : PL P) (S : MS) (a0 : Int32) (h_S : IC P S) : Tot (fr_isZone S a0) (fun r => r.2 = S ∧ (r.1.toInt = 0 ∨ r.1.toInt = 1 ∧ 0 ≤ a0.toInt ∧ a0.toInt < (P 101).toInt)) := by
  have z0 : (1 : Int32).toInt = 1 := by decide
  have z1 : (0 : Int32).toInt = 0 := by decide
  have p_101 := pl_101 hP
  have j_a0 := i_any a0
  unfold fr_isZone
  refine tot_let (fun v_1 e_v_1 => ?_)
  have q_v_1 := ic_p h_S e_v_1
  refine tot_let (fun v_2 e_v_2 => ?_)
  have q_v_2 := i_sub e_v_2 (by omega) (by omega)
  refine tot_bind (sf_in hP a0 0 v_2  ) (fun r_3 d_r_3 => ?_)
  replace d_r_3 : (r_3.toInt = 0 ∧ (a0.toInt < (0 : Int32).toInt ∨ v_2.toInt < a0.toInt) ∨ r_3.toInt = 1 ∧ (0 : Int32).toInt ≤ a0.toInt ∧ a0.toInt ≤ v_2.toInt) := d_r_3
  refine tot_oif (i_b01 (by omega)) ?_
  exact tot_some ⟨rfl, (show (r_3.toInt = 0 ∨ r_3.toInt = 1 ∧ 0 ≤ a0.toInt ∧ a0.toInt < (P 101).toInt) from by omega)⟩
set_option maxHeartbeats 4000000 in
set_option maxRecDepth 10000 in
theorem sf_isInZone {P : Nat → Int32} (hP : PL P) (S : MS) (a0 : Int32) (a1 : Int32) (h_S : IC P S) (g0 : 0 ≤ a0.toInt ∧ a0.toInt ≤ 3) (g1 : 0 ≤ a1.toInt ∧ a1.toInt ≤ 143) : Tot (fr_isInZone S a0 a1) (fun r => r.2 = S ∧ (0 ≤ r.1.toInt ∧ r.1.toInt ≤ 1)) := by
  have z0 : (4 : Int32).toInt = 4 := by decide
  have z1 : (102 : Int32).toInt = 102 := by decide
  have z2 : (0 : Int32).toInt = 0 := by decide
  have z3 : (2 : Int32).toInt = 2 := by decide
  have z4 : (1 : Int32).toInt = 1 := by decide
  have z5 : (3 : Int32).toInt = 3 := by decide
  have p_9 := pl_9 hP
  have p_cells := pl_cells hP
  have j_a0 := i_any a0
  have j_a1 := i_any a1
  unfold fr_isInZone
  refine tot_let (fun v_1 e_v_1 => ?_)
  have q_v_1 := i_mulk e_v_1 z0 (by omega) (by omega)
  refine tot_let (fun v_2 e_v_2 => ?_)
  have q_v_2 := i_add e_v_2 (by omega) (by omega)
  refine tot_let (fun v_3 e_v_3 => ?_)
  have q_v_3 := ic_p h_S e_v_3
  refine tot_oif (i_nz (by omega)) ?_
  refine tot_let (fun v_4 e_v_4 => ?_)
  have q_v_4 := i_rem e_v_4 (by omega) (by omega)
  refine tot_oif (i_inb (by omega) (by omega)) ?_
  refine tot_let (fun v_5 e_v_5 => ?_)
  have q_v_5 := ic_p h_S e_v_5
  have r_v_5 := pr_102 hP v_2 (by omega) (by omega)
  refine tot_let (fun v_6 e_v_6 => ?_)
  have q_v_6 := i_add e_v_6 (by omega) (by omega)
  refine tot_oif (i_inb (by omega) (by omega)) ?_
  refine tot_let (fun v_7 e_v_7 => ?_)
  have q_v_7 := ic_p h_S e_v_7
  have r_v_7 := pr_102 hP v_6 (by omega) (by omega)
  refine tot_bind (sf_in hP v_4 v_5 v_7  ) (fun r_8 d_r_8 => ?_)
  replace d_r_8 : (r_8.toInt = 0 ∧ (v_4.toInt < v_5.toInt ∨ v_7.toInt < v_4.toInt) ∨ r_8.toInt = 1 ∧ v_5.toInt ≤ v_4.toInt ∧ v_4.toInt ≤ v_7.toInt) := d_r_8
  refine tot_if (fun c_16 => ?_) (fun c_16 => ?_)
  · replace c_16 := i_eq c_16
    unfold fr_isInZone_b71
    unfold fr_isInZone_b72
    refine tot_oif (i_b01 (by omega)) ?_
    exact tot_some ⟨rfl, (show (0 ≤ (0 : Int32).toInt ∧ (0 : Int32).toInt ≤ 1) from by omega)⟩
  · replace c_16 := i_ne c_16
    refine tot_let (fun v_9 e_v_9 => ?_)
    have q_v_9 := ic_p h_S e_v_9
    refine tot_oif (i_nz (by omega)) ?_
    refine tot_let (fun v_10 e_v_10 => ?_)
    have q_v_10 := i_div (c := 1) e_v_10 (by omega) (by omega) (by decide)
    refine tot_let (fun v_11 e_v_11 => ?_)
    have q_v_11 := i_add e_v_11 (by omega) (by omega)
    refine tot_oif (i_inb (by omega) (by omega)) ?_
    refine tot_let (fun v_12 e_v_12 => ?_)
    have q_v_12 := ic_p h_S e_v_12
    have r_v_12 := pr_102 hP v_11 (by omega) (by omega)
    refine tot_let (fun v_13 e_v_13 => ?_)
    have q_v_13 := i_add e_v_13 (by omega) (by omega)
    refine tot_oif (i_inb (by omega) (by omega)) ?_
    refine tot_let (fun v_14 e_v_14 => ?_)
    have q_v_14 := ic_p h_S e_v_14
    have r_v_14 := pr_102 hP v_13 (by omega) (by omega)
    refine tot_bind (sf_in hP v_10 v_12 v_14  ) (fun r_15 d_r_15 => ?_)
    replace d_r_15 : (r_15.toInt = 0 ∧ (v_10.toInt < v_12.toInt ∨ v_14.toInt < v_10.toInt) ∨ r_15.toInt = 1 ∧ v_12.toInt ≤ v_10.toInt ∧ v_10.toInt ≤ v_14.toInt) := d_r_15
    refine tot_if (fun c_17 => ?_) (fun c_17 => ?_)
    · replace c_17 := i_eq c_17
      unfold fr_isInZone_b71
      unfold fr_isInZone_b72
      refine tot_oif (i_b01 (by omega)) ?_
      exact tot_some ⟨rfl, (show (0 ≤ (0 : Int32).toInt ∧ (0 : Int32).toInt ≤ 1) from by omega)⟩
    · replace c_17 := i_ne c_17
      unfold fr_isInZone_b72
      refine tot_oif (i_b01 (by omega)) ?_
      exact tot_some ⟨rfl, (show (0 ≤ (1 : Int32).toInt ∧ (1 : Int32).toInt ≤ 1) from by omega)⟩
set_option maxHeartbeats 4000000 in
set_option maxRecDepth 10000 in
theorem lf_zonePower_b19 {P : Nat → Int32} (hP : PL P) {Q : Int64 × MS → Prop} (l1 : Int32) (g0 : 0 ≤ l1.toInt ∧ l1.toInt ≤ 3) (hx0 : ∀ (S : MS) (l2 : Int64), (IC P S) → Tot (some (l2, S)) Q) : ∀ (n : Nat) (S : MS) (l2 : Int64) (l4 : Int32), (IC P S) → (0 ≤ l4.toInt ∧ l4.toInt ≤ 144) → 144 - l4.toInt < (n : Int) → Tot (fr_zonePower_b19 n S l1 l2 l4) Q := by
  have z0 : (0 : Int32).toInt = 0 := by decide
  have z1 : (Int32.ofInt (1) : Int32).toInt = 1 := by decide
  have p_9 := pl_9 hP
  have p_10 := pl_10 hP
  have p_cells := pl_cells hP
  have j_l1 := i_any l1
  intro n
  induction n with
  | zero =>
    intro S l2 l4 h_S g_l4 hm
    exfalso
    omega
  | succ n ih =>
    intro S l2 l4 h_S g_l4 hm
    unfold fr_zonePower_b19
    refine tot_bindp (R := fun r_16 : Int32 => ((1 ≤ r_16.toInt ∧ r_16.toInt ≤ 144) ∧ r_16.toInt = (P 9).toInt * (P 10).toInt)) (sf_cellCount hP S h_S ) (fun r_16 d_r_16 => ?_)
    replace d_r_16 : ((1 ≤ r_16.toInt ∧ r_16.toInt ≤ 144) ∧ r_16.toInt = (P 9).toInt * (P 10).toInt) := d_r_16
    refine tot_if (fun c_32 => ?_) (fun c_32 => ?_)
    · replace c_32 := i_le c_32
      exact hx0 S l2 h_S
    · replace c_32 := i_nle c_32
      refine tot_bindp (R := fun r_18 : Int32 => (0 ≤ r_18.toInt ∧ r_18.toInt ≤ 1)) (sf_isInZone hP S l1 l4 h_S (by omega) (by omega)) (fun r_18 d_r_18 => ?_)
      replace d_r_18 : (0 ≤ r_18.toInt ∧ r_18.toInt ≤ 1) := d_r_18
      refine tot_if (fun c_33 => ?_) (fun c_33 => ?_)
      · replace c_33 := i_eq c_33
        unfold fr_zonePower_b53
        refine tot_let (fun v_34 e_v_34 => ?_)
        refine tot_let (fun v_35 e_v_35 => ?_)
        have q_v_35 := i_add e_v_35 (by omega) (by omega)
        exact ih S v_34 v_35 h_S (by omega) (by omega)
      · replace c_33 := i_ne c_33
        refine tot_bind2 (sf_powerOf_12 hP S l4 h_S (by omega)) (fun r_20 S_21 d_r_20 => ?_)
        have h_S_21 : IC P S_21 := d_r_20.1
        unfold fr_zonePower_b53
        refine tot_let (fun v_36 e_v_36 => ?_)
        refine tot_let (fun v_37 e_v_37 => ?_)
        have q_v_37 := i_add e_v_37 (by omega) (by omega)
        exact ih S_21 v_36 v_37 h_S_21 (by omega) (by omega)
set_option maxHeartbeats 4000000 in
set_option maxRecDepth 10000 in
theorem sf_zonePower {P : Nat → Int32} (hP : PL P) (S : MS) (a0 : Int32) (h_S : IC P S) : Tot (fr_zonePower S a0) (fun r => IC P r.2 ∧ True) := by
  have z0 : (0 : Int32).toInt = 0 := by decide
  have p_101 := pl_101 hP
  have j_a0 := i_any a0
  unfold fr_zonePower
  refine tot_bindp (R := fun r_1 : Int32 => (r_1.toInt = 0 ∨ r_1.toInt = 1 ∧ 0 ≤ a0.toInt ∧ a0.toInt < (P 101).toInt)) (sf_isZone hP S a0 h_S ) (fun r_1 d_r_1 => ?_)
  replace d_r_1 : (r_1.toInt = 0 ∨ r_1.toInt = 1 ∧ 0 ≤ a0.toInt ∧ a0.toInt < (P 101).toInt) := d_r_1
  refine tot_bind2 (sf_mayAsk hP S r_1 h_S (by omega)) (fun r_3 S_4 d_r_3 => ?_)
  have h_S_4 : IC P S_4 := d_r_3.1
  replace d_r_3 : (r_3.toInt = 0 ∨ r_3.toInt = 1 ∧ ¬ r_1.toInt = 0) := d_r_3.2
  refine tot_if (fun c_5 => ?_) (fun c_5 => ?_)
  · replace c_5 := i_eq c_5
    exact tot_some ⟨h_S_4, trivial⟩
  · replace c_5 := i_ne c_5
    refine lf_zonePower_b19 hP a0 (by omega) ?_ 16384 S_4 (0 : Int64) 0 h_S_4 (by omega) (by omega)
    · intro S_38 l_39 h_S_38
      exact tot_some ⟨h_S_38, trivial⟩
set_option maxHeartbeats 4000000 in
set_option maxRecDepth 10000 in
theorem lf_zoneBest_b26 {P : Nat → Int32} (hP : PL P) {Q : Int32 × MS → Prop} (l1 : Int32) (g0 : 0 ≤ l1.toInt ∧ l1.toInt ≤ 3) (hx0 : ∀ (S : MS) (l2 : Int32), (IC P S) → (-1 ≤ l2.toInt ∧ l2.toInt ≤ 143) → Tot (some (l2, S)) Q) : ∀ (n : Nat) (S : MS) (l2 : Int32) (l3 : Int32), (IC P S) → (-1 ≤ l2.toInt ∧ l2.toInt ≤ 143) → (0 ≤ l3.toInt ∧ l3.toInt ≤ 144) → 144 - l3.toInt < (n : Int) → Tot (fr_zoneBest_b26 n S l1 l2 l3) Q := by
  have z0 : (0 : Int32).toInt = 0 := by decide
  have z1 : (Int32.ofInt (1) : Int32).toInt = 1 := by decide
  have z2 : ((-1) : Int32).toInt = -1 := by decide
  have p_9 := pl_9 hP
  have p_10 := pl_10 hP
  have p_cells := pl_cells hP
  have j_l1 := i_any l1
  intro n
  induction n with
  | zero =>
    intro S l2 l3 h_S g_l2 g_l3 hm
    exfalso
    omega
  | succ n ih =>
    intro S l2 l3 h_S g_l2 g_l3 hm
    unfold fr_zoneBest_b26
    refine tot_bindp (R := fun r_18 : Int32 => ((1 ≤ r_18.toInt ∧ r_18.toInt ≤ 144) ∧ r_18.toInt = (P 9).toInt * (P 10).toInt)) (sf_cellCount hP S h_S ) (fun r_18 d_r_18 => ?_)
    replace d_r_18 : ((1 ≤ r_18.toInt ∧ r_18.toInt ≤ 144) ∧ r_18.toInt = (P 9).toInt * (P 10).toInt) := d_r_18
    refine tot_if (fun c_36 => ?_) (fun c_36 => ?_)
    · replace c_36 := i_le c_36
      exact hx0 S l2 h_S (by omega)
    · replace c_36 := i_nle c_36
      refine tot_bindp (R := fun r_20 : Int32 => (0 ≤ r_20.toInt ∧ r_20.toInt ≤ 1)) (sf_isInZone hP S l1 l3 h_S (by omega) (by omega)) (fun r_20 d_r_20 => ?_)
      replace d_r_20 : (0 ≤ r_20.toInt ∧ r_20.toInt ≤ 1) := d_r_20
      refine tot_if (fun c_37 => ?_) (fun c_37 => ?_)
      · replace c_37 := i_eq c_37
        unfold fr_zoneBest_b66
        refine tot_let (fun v_38 e_v_38 => ?_)
        have q_v_38 := i_add e_v_38 (by omega) (by omega)
        exact ih S l2 v_38 h_S (by omega) (by omega) (by omega)
      · replace c_37 := i_ne c_37
        refine tot_if (fun c_39 => ?_) (fun c_39 => ?_)
        · replace c_39 := i_eq c_39
          unfold fr_zoneBest_b64
          unfold fr_zoneBest_b66
          refine tot_let (fun v_40 e_v_40 => ?_)
          have q_v_40 := i_add e_v_40 (by omega) (by omega)
          exact ih S l3 v_40 h_S (by omega) (by omega) (by omega)
        · replace c_39 := i_ne c_39
          refine tot_oif (i_inb (by omega) (by omega)) ?_
          refine tot_let (fun v_22 e_v_22 => ?_)
          refine tot_oif (i_inb (by omega) (by omega)) ?_
          refine tot_let (fun v_23 e_v_23 => ?_)
          refine tot_let (fun v_24 e_v_24 => ?_)
          have r_v_24 := i_any v_24
          refine tot_if (fun c_41 => ?_) (fun c_41 => ?_)
          · replace c_41 := i_le c_41
            unfold fr_zoneBest_b66
            refine tot_let (fun v_42 e_v_42 => ?_)
            have q_v_42 := i_add e_v_42 (by omega) (by omega)
            exact ih S l2 v_42 h_S (by omega) (by omega) (by omega)
          · replace c_41 := i_nle c_41
            unfold fr_zoneBest_b64
            unfold fr_zoneBest_b66
            refine tot_let (fun v_43 e_v_43 => ?_)
            have q_v_43 := i_add e_v_43 (by omega) (by omega)
            exact ih S l3 v_43 h_S (by omega) (by omega) (by omega)
set_option maxHeartbeats 4000000 in
set_option maxRecDepth 10000 in
theorem sf_zoneBest {P : Nat → Int32} (hP : PL P) (S : MS) (a0 : Int32) (h_S : IC P S) : Tot (fr_zoneBest S a0) (fun r => IC P r.2 ∧ (-1 ≤ r.1.toInt ∧ r.1.toInt ≤ 143)) := by
  have z0 : (0 : Int32).toInt = 0 := by decide
  have z1 : ((-1) : Int32).toInt = -1 := by decide
  have p_101 := pl_101 hP
  have j_a0 := i_any a0
  unfold fr_zoneBest
  refine tot_bindp (R := fun r_1 : Int32 => (r_1.toInt = 0 ∨ r_1.toInt = 1 ∧ 0 ≤ a0.toInt ∧ a0.toInt < (P 101).toInt)) (sf_isZone hP S a0 h_S ) (fun r_1 d_r_1 => ?_)
  replace d_r_1 : (r_1.toInt = 0 ∨ r_1.toInt = 1 ∧ 0 ≤ a0.toInt ∧ a0.toInt < (P 101).toInt) := d_r_1
  refine tot_bind2 (sf_mayAsk hP S r_1 h_S (by omega)) (fun r_3 S_4 d_r_3 => ?_)
  have h_S_4 : IC P S_4 := d_r_3.1
  replace d_r_3 : (r_3.toInt = 0 ∨ r_3.toInt = 1 ∧ ¬ r_1.toInt = 0) := d_r_3.2
  refine tot_if (fun c_6 => ?_) (fun c_6 => ?_)
  · replace c_6 := i_eq c_6
    exact tot_some ⟨h_S_4, (show (-1 ≤ (0 : Int32).toInt ∧ (0 : Int32).toInt ≤ 143) from by omega)⟩
  · replace c_6 := i_ne c_6
    refine tot_bind (sf_laysPowers_12 hP S_4 h_S_4 ) (fun S_5 d_S_5 => ?_)
    have h_S_5 : IC P S_5 := d_S_5.1
    refine lf_zoneBest_b26 hP a0 (by omega) ?_ 16384 S_5 (-1) 0 h_S_5 (by omega) (by omega) (by omega)
    · intro S_44 l_45 h_S_44 g_l_45
      exact tot_some ⟨h_S_44, (show (-1 ≤ l_45.toInt ∧ l_45.toInt ≤ 143) from by omega)⟩
set_option maxHeartbeats 4000000 in
set_option maxRecDepth 10000 in
theorem lf_movingOf_b6 {P : Nat → Int32} (hP : PL P) {Q : Int64 × MS → Prop} (l1 : Int32) (l2 : Int32) (l3 : Int32) (g0 : 0 ≤ l1.toInt ∧ l1.toInt ≤ 143) (g1 : -999 ≤ l2.toInt ∧ l2.toInt ≤ 999) (g2 : -999 ≤ l3.toInt ∧ l3.toInt ≤ 999) (hx0 : ∀ (S : MS) (l4 : Int64), (IC P S) → Tot (elet (S.2.1 10 2) fun v_23 => elet (v_23.toInt64) fun v_24 => oif (¬ v_24 = 0) <| elet (l4 / v_24) fun v_25 => some (v_25, S)) Q) : ∀ (n : Nat) (S : MS) (l4 : Int64) (l6 : Int32), (IC P S) → (0 ≤ l6.toInt ∧ l6.toInt ≤ 200) → 200 - l6.toInt < (n : Int) → Tot (fr_movingOf_b6 n S l1 l2 l3 l4 l6) Q := by
  have z0 : (0 : Int32).toInt = 0 := by decide
  have z1 : (100 : Int32).toInt = 100 := by decide
  have z2 : (1 : Int32).toInt = 1 := by decide
  have z3 : (Int32.ofInt (1) : Int32).toInt = 1 := by decide
  have p_2 := pl_2 hP
  have j_l1 := i_any l1
  have j_l2 := i_any l2
  have j_l3 := i_any l3
  intro n
  induction n with
  | zero =>
    intro S l4 l6 h_S g_l6 hm
    exfalso
    omega
  | succ n ih =>
    intro S l4 l6 h_S g_l6 hm
    unfold fr_movingOf_b6
    refine tot_let (fun v_22 e_v_22 => ?_)
    have q_v_22 := ic_p h_S e_v_22
    refine tot_if (fun c_64 => ?_) (fun c_64 => ?_)
    · replace c_64 := i_le c_64
      exact hx0 S l4 h_S
    · replace c_64 := i_nle c_64
      refine tot_bindp (R := fun r_26 : Int32 => (-999 ≤ r_26.toInt ∧ r_26.toInt ≤ 15156)) (sf_centre hP S l1 0 h_S (by omega) (by omega)) (fun r_26 d_r_26 => ?_)
      replace d_r_26 : (-999 ≤ r_26.toInt ∧ r_26.toInt ≤ 15156) := d_r_26
      refine tot_let (fun v_28 e_v_28 => ?_)
      have q_v_28 := i_mulm (a := -999) (b := 999) (d := 199) e_v_28 (by omega) (by omega) (by omega) (by omega) (by decide)
      refine tot_let (fun v_29 e_v_29 => ?_)
      have q_v_29 := i_divk e_v_29 z1 (by decide)
      refine tot_let (fun v_30 e_v_30 => ?_)
      have q_v_30 := i_add e_v_30 (by omega) (by omega)
      refine tot_bindp (R := fun r_31 : Int32 => (-999 ≤ r_31.toInt ∧ r_31.toInt ≤ 15156)) (sf_centre hP S l1 1 h_S (by omega) (by omega)) (fun r_31 d_r_31 => ?_)
      replace d_r_31 : (-999 ≤ r_31.toInt ∧ r_31.toInt ≤ 15156) := d_r_31
      refine tot_let (fun v_33 e_v_33 => ?_)
      have q_v_33 := i_mulm (a := -999) (b := 999) (d := 199) e_v_33 (by omega) (by omega) (by omega) (by omega) (by decide)
      refine tot_let (fun v_34 e_v_34 => ?_)
      have q_v_34 := i_divk e_v_34 z1 (by decide)
      refine tot_let (fun v_35 e_v_35 => ?_)
      have q_v_35 := i_add e_v_35 (by omega) (by omega)
      refine tot_bind (sf_laysPoint hP S v_30 v_35 h_S (by omega) (by omega)) (fun S_36 d_S_36 => ?_)
      have h_S_36 : IC P S_36 := d_S_36.1
      refine tot_bindp (R := fun r_37 : Int32 => True) (sf_beamAt_12 hP S_36 l6 h_S_36 (by omega)) (fun r_37 d_r_37 => ?_)
      refine tot_let (fun v_39 e_v_39 => ?_)
      refine tot_let (fun v_40 e_v_40 => ?_)
      refine tot_let (fun v_41 e_v_41 => ?_)
      refine tot_let (fun v_42 e_v_42 => ?_)
      have q_v_42 := i_add e_v_42 (by omega) (by omega)
      exact ih S_36 v_41 v_42 h_S_36 (by omega) (by omega)
set_option maxHeartbeats 4000000 in
set_option maxRecDepth 10000 in
theorem sf_movingOf {P : Nat → Int32} (hP : PL P) (S : MS) (a0 : Int32) (a1 : Int32) (a2 : Int32) (h_S : IC P S) (g0 : 0 ≤ a0.toInt ∧ a0.toInt ≤ 143) (g1 : -999 ≤ a1.toInt ∧ a1.toInt ≤ 999) (g2 : -999 ≤ a2.toInt ∧ a2.toInt ≤ 999) : Tot (fr_movingOf S a0 a1 a2) (fun r => IC P r.2 ∧ True) := by
  have z0 : (0 : Int32).toInt = 0 := by decide
  have p_2 := pl_2 hP
  have j_a0 := i_any a0
  have j_a1 := i_any a1
  have j_a2 := i_any a2
  unfold fr_movingOf
  refine lf_movingOf_b6 hP a0 a1 a2 (by omega) (by omega) (by omega) ?_ 16384 S (0 : Int64) 0 h_S (by omega) (by omega)
  · intro S_65 l_66 h_S_65
    refine tot_let (fun v__67 e_v__67 => ?_)
    have q_v__67 := ic_p h_S_65 e_v__67
    refine tot_let (fun v__68 e_v__68 => ?_)
    refine tot_oif (by rw [e_v__68]; exact i_nz64 (by omega)) ?_
    refine tot_let (fun v__69 e_v__69 => ?_)
    exact tot_some ⟨h_S_65, trivial⟩
set_option maxHeartbeats 4000000 in
set_option maxRecDepth 10000 in
theorem sf_isVelocity {P : Nat → Int32} (hP : PL P) (a0 : Int32) (a1 : Int32) : Tot (fr_isVelocity a0 a1) (fun r => (r.toInt = 0 ∨ r.toInt = 1 ∧ (-999 ≤ a0.toInt ∧ a0.toInt ≤ 999) ∧ -999 ≤ a1.toInt ∧ a1.toInt ≤ 999)) := by
  have z0 : ((-999) : Int32).toInt = -999 := by decide
  have z1 : (999 : Int32).toInt = 999 := by decide
  have z2 : (0 : Int32).toInt = 0 := by decide
  have z3 : (1 : Int32).toInt = 1 := by decide
  have j_a0 := i_any a0
  have j_a1 := i_any a1
  unfold fr_isVelocity
  refine tot_bind (sf_in hP a0 (-999) 999  ) (fun r_1 d_r_1 => ?_)
  replace d_r_1 : (r_1.toInt = 0 ∧ (a0.toInt < ((-999) : Int32).toInt ∨ (999 : Int32).toInt < a0.toInt) ∨ r_1.toInt = 1 ∧ ((-999) : Int32).toInt ≤ a0.toInt ∧ a0.toInt ≤ (999 : Int32).toInt) := d_r_1
  refine tot_if (fun c_3 => ?_) (fun c_3 => ?_)
  · replace c_3 := i_eq c_3
    unfold fr_isVelocity_b30
    unfold fr_isVelocity_b31
    refine tot_oif (i_b01 (by omega)) ?_
    exact tot_some (show ((0 : Int32).toInt = 0 ∨ (0 : Int32).toInt = 1 ∧ (-999 ≤ a0.toInt ∧ a0.toInt ≤ 999) ∧ -999 ≤ a1.toInt ∧ a1.toInt ≤ 999) from by omega)
  · replace c_3 := i_ne c_3
    refine tot_bind (sf_in hP a1 (-999) 999  ) (fun r_2 d_r_2 => ?_)
    replace d_r_2 : (r_2.toInt = 0 ∧ (a1.toInt < ((-999) : Int32).toInt ∨ (999 : Int32).toInt < a1.toInt) ∨ r_2.toInt = 1 ∧ ((-999) : Int32).toInt ≤ a1.toInt ∧ a1.toInt ≤ (999 : Int32).toInt) := d_r_2
    refine tot_if (fun c_4 => ?_) (fun c_4 => ?_)
    · replace c_4 := i_eq c_4
      unfold fr_isVelocity_b30
      unfold fr_isVelocity_b31
      refine tot_oif (i_b01 (by omega)) ?_
      exact tot_some (show ((0 : Int32).toInt = 0 ∨ (0 : Int32).toInt = 1 ∧ (-999 ≤ a0.toInt ∧ a0.toInt ≤ 999) ∧ -999 ≤ a1.toInt ∧ a1.toInt ≤ 999) from by omega)
    · replace c_4 := i_ne c_4
      unfold fr_isVelocity_b31
      refine tot_oif (i_b01 (by omega)) ?_
      exact tot_some (show ((1 : Int32).toInt = 0 ∨ (1 : Int32).toInt = 1 ∧ (-999 ≤ a0.toInt ∧ a0.toInt ≤ 999) ∧ -999 ≤ a1.toInt ∧ a1.toInt ≤ 999) from by omega)
set_option maxHeartbeats 4000000 in
set_option maxRecDepth 10000 in
theorem sf_movingPower {P : Nat → Int32} (hP : PL P) (S : MS) (a0 : Int32) (a1 : Int32) (a2 : Int32) (h_S : IC P S) : Tot (fr_movingPower S a0 a1 a2) (fun r => IC P r.2 ∧ True) := by
  have z0 : (0 : Int32).toInt = 0 := by decide
  have z1 : (3 : Int32).toInt = 3 := by decide
  have p_9 := pl_9 hP
  have p_10 := pl_10 hP
  have p_cells := pl_cells hP
  have j_a0 := i_any a0
  have j_a1 := i_any a1
  have j_a2 := i_any a2
  unfold fr_movingPower
  refine tot_bindp (R := fun r_1 : Int32 => (r_1.toInt = 0 ∨ r_1.toInt = 1 ∧ (0 ≤ a0.toInt ∧ a0.toInt ≤ 143) ∧ a0.toInt < (P 9).toInt * (P 10).toInt)) (sf_isCell hP S a0 h_S ) (fun r_1 d_r_1 => ?_)
  replace d_r_1 : (r_1.toInt = 0 ∨ r_1.toInt = 1 ∧ (0 ≤ a0.toInt ∧ a0.toInt ≤ 143) ∧ a0.toInt < (P 9).toInt * (P 10).toInt) := d_r_1
  refine tot_bind2 (sf_mayAsk hP S r_1 h_S (by omega)) (fun r_3 S_4 d_r_3 => ?_)
  have h_S_4 : IC P S_4 := d_r_3.1
  replace d_r_3 : (r_3.toInt = 0 ∨ r_3.toInt = 1 ∧ ¬ r_1.toInt = 0) := d_r_3.2
  refine tot_if (fun c_11 => ?_) (fun c_11 => ?_)
  · replace c_11 := i_eq c_11
    exact tot_some ⟨h_S_4, trivial⟩
  · replace c_11 := i_ne c_11
    refine tot_bind (sf_isVelocity hP a1 a2  ) (fun r_5 d_r_5 => ?_)
    replace d_r_5 : (r_5.toInt = 0 ∨ r_5.toInt = 1 ∧ (-999 ≤ a1.toInt ∧ a1.toInt ≤ 999) ∧ -999 ≤ a2.toInt ∧ a2.toInt ≤ 999) := d_r_5
    refine tot_if (fun c_12 => ?_) (fun c_12 => ?_)
    · replace c_12 := i_eq c_12
      refine tot_bind2 (sf_throwsAt hP S_4 3 h_S_4 ) (fun r_6 S_7 d_r_6 => ?_)
      have h_S_7 : IC P S_7 := d_r_6.1
      replace d_r_6 : (0 ≤ r_6.toInt ∧ r_6.toInt ≤ 0) := d_r_6.2
      refine tot_let (fun v_8 e_v_8 => ?_)
      unfold fr_movingPower_b38
      exact tot_some ⟨h_S_7, trivial⟩
    · replace c_12 := i_ne c_12
      refine tot_bind2 (sf_movingOf hP S_4 a0 a1 a2 h_S_4 (by omega) (by omega) (by omega)) (fun r_9 S_10 d_r_9 => ?_)
      have h_S_10 : IC P S_10 := d_r_9.1
      unfold fr_movingPower_b38
      exact tot_some ⟨h_S_10, trivial⟩
set_option maxHeartbeats 4000000 in
set_option maxRecDepth 10000 in
theorem lf_bestVelocity_b59 {P : Nat → Int32} (hP : PL P) {Q : Int32 × MS → Prop} {k49 : MS → Int32 → Int32 → Int32 → Int32 → Int64 → Int32 → Option (Int32 × MS)} (l1 : Int32) (l2 : Int32) (l3 : Int32) (l7 : Int32) (g0 : 0 ≤ l1.toInt ∧ l1.toInt ≤ 143) (g1 : 1 ≤ l2.toInt ∧ l2.toInt ≤ 99) (g2 : 0 ≤ l3.toInt ∧ l3.toInt ≤ 4) (g3 : -4 ≤ l7.toInt ∧ l7.toInt ≤ 4) (hx0 : ∀ (S : MS) (l4 : Int32) (l5 : Int64), (IC P S) → (-404 ≤ l4.toInt ∧ l4.toInt ≤ 999) → Tot (elet (l7 + Int32.ofInt (1)) fun v_78 => k49 S l1 l2 l3 l4 l5 v_78) Q) : ∀ (n : Nat) (S : MS) (l4 : Int32) (l5 : Int64) (l8 : Int32), (IC P S) → (-404 ≤ l4.toInt ∧ l4.toInt ≤ 999) → (-4 ≤ l8.toInt ∧ l8.toInt ≤ 5) → 5 - l8.toInt < (n : Int) → Tot (fr_bestVelocity_b59 k49 n S l1 l2 l3 l4 l5 l7 l8) Q := by
  have z0 : ((-1) : Int32).toInt = -1 := by decide
  have z1 : (100 : Int32).toInt = 100 := by decide
  have z2 : (Int32.ofInt (1) : Int32).toInt = 1 := by decide
  have z3 : (0 : Int32).toInt = 0 := by decide
  have j_l1 := i_any l1
  have j_l2 := i_any l2
  have j_l3 := i_any l3
  have j_l7 := i_any l7
  intro n
  induction n with
  | zero =>
    intro S l4 l5 l8 h_S g_l4 g_l8 hm
    exfalso
    omega
  | succ n ih =>
    intro S l4 l5 l8 h_S g_l4 g_l8 hm
    unfold fr_bestVelocity_b59
    refine tot_if (fun c_101 => ?_) (fun c_101 => ?_)
    · replace c_101 := i_lt c_101
      exact hx0 S l4 l5 h_S (by omega)
    · replace c_101 := i_nlt c_101
      refine tot_let (fun v_79 e_v_79 => ?_)
      have q_v_79 := i_mulm2 (a := -4) (b := 4) (d := 99) e_v_79 (by omega) (by omega) (by omega) (by omega) (by decide)
      refine tot_let (fun v_80 e_v_80 => ?_)
      have q_v_80 := i_mulm2 (a := -4) (b := 4) (d := 99) e_v_80 (by omega) (by omega) (by omega) (by omega) (by decide)
      refine tot_bind2 (sf_movingOf hP S l1 v_79 v_80 h_S (by omega) (by omega) (by omega)) (fun r_81 S_82 d_r_81 => ?_)
      have h_S_82 : IC P S_82 := d_r_81.1
      refine tot_if (fun c_102 => ?_) (fun c_102 => ?_)
      · replace c_102 := i_eq c_102
        unfold fr_bestVelocity_b97
        refine tot_let (fun v_103 e_v_103 => ?_)
        have q_v_103 := i_add e_v_103 (by omega) (by omega)
        refine tot_let (fun v_104 e_v_104 => ?_)
        have q_v_104 := i_mulk e_v_104 z1 (by omega) (by omega)
        refine tot_let (fun v_105 e_v_105 => ?_)
        have q_v_105 := i_add e_v_105 (by omega) (by omega)
        refine tot_let (fun v_106 e_v_106 => ?_)
        have q_v_106 := i_add e_v_106 (by omega) (by omega)
        unfold fr_bestVelocity_b115
        refine tot_let (fun v_107 e_v_107 => ?_)
        have q_v_107 := i_add e_v_107 (by omega) (by omega)
        exact ih S_82 v_106 r_81 v_107 h_S_82 (by omega) (by omega) (by omega)
      · replace c_102 := i_ne c_102
        refine tot_let (fun v_83 e_v_83 => ?_)
        have r_v_83 := i_any v_83
        refine tot_if (fun c_108 => ?_) (fun c_108 => ?_)
        · replace c_108 := i_lt c_108
          unfold fr_bestVelocity_b97
          refine tot_let (fun v_109 e_v_109 => ?_)
          have q_v_109 := i_add e_v_109 (by omega) (by omega)
          refine tot_let (fun v_110 e_v_110 => ?_)
          have q_v_110 := i_mulk e_v_110 z1 (by omega) (by omega)
          refine tot_let (fun v_111 e_v_111 => ?_)
          have q_v_111 := i_add e_v_111 (by omega) (by omega)
          refine tot_let (fun v_112 e_v_112 => ?_)
          have q_v_112 := i_add e_v_112 (by omega) (by omega)
          unfold fr_bestVelocity_b115
          refine tot_let (fun v_113 e_v_113 => ?_)
          have q_v_113 := i_add e_v_113 (by omega) (by omega)
          exact ih S_82 v_112 r_81 v_113 h_S_82 (by omega) (by omega) (by omega)
        · replace c_108 := i_nlt c_108
          unfold fr_bestVelocity_b115
          refine tot_let (fun v_114 e_v_114 => ?_)
          have q_v_114 := i_add e_v_114 (by omega) (by omega)
          exact ih S_82 l4 l5 v_114 h_S_82 (by omega) (by omega) (by omega)
set_option maxHeartbeats 4000000 in
set_option maxRecDepth 10000 in
theorem lf_bestVelocity_b49 {P : Nat → Int32} (hP : PL P) {Q : Int32 × MS → Prop} (l1 : Int32) (l2 : Int32) (l3 : Int32) (g0 : 0 ≤ l1.toInt ∧ l1.toInt ≤ 143) (g1 : 1 ≤ l2.toInt ∧ l2.toInt ≤ 99) (g2 : 0 ≤ l3.toInt ∧ l3.toInt ≤ 4) (hx0 : ∀ (S : MS) (l4 : Int32), (IC P S) → (-404 ≤ l4.toInt ∧ l4.toInt ≤ 999) → Tot (some (l4, S)) Q) : ∀ (n : Nat) (S : MS) (l4 : Int32) (l5 : Int64) (l7 : Int32), (IC P S) → (-404 ≤ l4.toInt ∧ l4.toInt ≤ 999) → (-4 ≤ l7.toInt ∧ l7.toInt ≤ 5) → 5 - l7.toInt < (n : Int) → Tot (fr_bestVelocity_b49 n S l1 l2 l3 l4 l5 l7) Q := by
  have z0 : (Int32.ofInt (1) : Int32).toInt = 1 := by decide
  have j_l1 := i_any l1
  have j_l2 := i_any l2
  have j_l3 := i_any l3
  intro n
  induction n with
  | zero =>
    intro S l4 l5 l7 h_S g_l4 g_l7 hm
    exfalso
    omega
  | succ n ih =>
    intro S l4 l5 l7 h_S g_l4 g_l7 hm
    unfold fr_bestVelocity_b49
    refine tot_if (fun c_77 => ?_) (fun c_77 => ?_)
    · replace c_77 := i_lt c_77
      exact hx0 S l4 h_S (by omega)
    · replace c_77 := i_nlt c_77
      refine tot_let (fun v_54 e_v_54 => ?_)
      have q_v_54 := i_neg e_v_54 (by omega)
      refine lf_bestVelocity_b59 hP l1 l2 l3 l7 (by omega) (by omega) (by omega) (by omega) ?_ 16384 S l4 l5 v_54 h_S (by omega) (by omega) (by omega)
      · intro S_115 l_116 l_117 h_S_115 g_l_116
        refine tot_let (fun v__118 e_v__118 => ?_)
        have q_v__118 := i_add e_v__118 (by omega) (by omega)
        exact ih S_115 l_116 l_117 v__118 h_S_115 (by omega) (by omega) (by omega)
set_option maxHeartbeats 4000000 in
set_option maxRecDepth 10000 in
theorem sf_bestVelocity {P : Nat → Int32} (hP : PL P) (S : MS) (a0 : Int32) (a1 : Int32) (a2 : Int32) (h_S : IC P S) : Tot (fr_bestVelocity S a0 a1 a2) (fun r => IC P r.2 ∧ (-404 ≤ r.1.toInt ∧ r.1.toInt ≤ 999)) := by
  have z0 : (0 : Int32).toInt = 0 := by decide
  have z1 : (1 : Int32).toInt = 1 := by decide
  have z2 : (99 : Int32).toInt = 99 := by decide
  have z3 : (3 : Int32).toInt = 3 := by decide
  have z4 : (4 : Int32).toInt = 4 := by decide
  have z5 : ((-1) : Int32).toInt = -1 := by decide
  have p_9 := pl_9 hP
  have p_10 := pl_10 hP
  have p_cells := pl_cells hP
  have j_a0 := i_any a0
  have j_a1 := i_any a1
  have j_a2 := i_any a2
  unfold fr_bestVelocity
  refine tot_bindp (R := fun r_1 : Int32 => (r_1.toInt = 0 ∨ r_1.toInt = 1 ∧ (0 ≤ a0.toInt ∧ a0.toInt ≤ 143) ∧ a0.toInt < (P 9).toInt * (P 10).toInt)) (sf_isCell hP S a0 h_S ) (fun r_1 d_r_1 => ?_)
  replace d_r_1 : (r_1.toInt = 0 ∨ r_1.toInt = 1 ∧ (0 ≤ a0.toInt ∧ a0.toInt ≤ 143) ∧ a0.toInt < (P 9).toInt * (P 10).toInt) := d_r_1
  refine tot_bind2 (sf_mayAsk hP S r_1 h_S (by omega)) (fun r_3 S_4 d_r_3 => ?_)
  have h_S_4 : IC P S_4 := d_r_3.1
  replace d_r_3 : (r_3.toInt = 0 ∨ r_3.toInt = 1 ∧ ¬ r_1.toInt = 0) := d_r_3.2
  refine tot_if (fun c_8 => ?_) (fun c_8 => ?_)
  · replace c_8 := i_eq c_8
    exact tot_some ⟨h_S_4, (show (-404 ≤ (0 : Int32).toInt ∧ (0 : Int32).toInt ≤ 999) from by omega)⟩
  · replace c_8 := i_ne c_8
    refine tot_bind (sf_in hP a1 1 99  ) (fun r_5 d_r_5 => ?_)
    replace d_r_5 : (r_5.toInt = 0 ∧ (a1.toInt < (1 : Int32).toInt ∨ (99 : Int32).toInt < a1.toInt) ∨ r_5.toInt = 1 ∧ (1 : Int32).toInt ≤ a1.toInt ∧ a1.toInt ≤ (99 : Int32).toInt) := d_r_5
    refine tot_if (fun c_9 => ?_) (fun c_9 => ?_)
    · replace c_9 := i_eq c_9
      unfold fr_bestVelocity_b33
      refine tot_bind2 (sf_throwsAt hP S_4 3 h_S_4 ) (fun r_10 S_11 d_r_10 => ?_)
      have h_S_11 : IC P S_11 := d_r_10.1
      replace d_r_10 : (0 ≤ r_10.toInt ∧ r_10.toInt ≤ 0) := d_r_10.2
      exact tot_some ⟨h_S_11, (show (-404 ≤ r_10.toInt ∧ r_10.toInt ≤ 999) from by omega)⟩
    · replace c_9 := i_ne c_9
      refine tot_bind (sf_in hP a2 0 4  ) (fun r_6 d_r_6 => ?_)
      replace d_r_6 : (r_6.toInt = 0 ∧ (a2.toInt < (0 : Int32).toInt ∨ (4 : Int32).toInt < a2.toInt) ∨ r_6.toInt = 1 ∧ (0 : Int32).toInt ≤ a2.toInt ∧ a2.toInt ≤ (4 : Int32).toInt) := d_r_6
      refine tot_if (fun c_12 => ?_) (fun c_12 => ?_)
      · replace c_12 := i_eq c_12
        unfold fr_bestVelocity_b33
        refine tot_bind2 (sf_throwsAt hP S_4 3 h_S_4 ) (fun r_13 S_14 d_r_13 => ?_)
        have h_S_14 : IC P S_14 := d_r_13.1
        replace d_r_13 : (0 ≤ r_13.toInt ∧ r_13.toInt ≤ 0) := d_r_13.2
        exact tot_some ⟨h_S_14, (show (-404 ≤ r_13.toInt ∧ r_13.toInt ≤ 999) from by omega)⟩
      · replace c_12 := i_ne c_12
        refine tot_let (fun v_7 e_v_7 => ?_)
        have q_v_7 := i_neg e_v_7 (by omega)
        refine lf_bestVelocity_b49 hP a0 a1 a2 (by omega) (by omega) (by omega) ?_ 16384 S_4 (-1) (0 : Int64) v_7 h_S_4 (by omega) (by omega) (by omega)
        · intro S_119 l_120 h_S_119 g_l_120
          exact tot_some ⟨h_S_119, (show (-404 ≤ l_120.toInt ∧ l_120.toInt ≤ 999) from by omega)⟩
set_option maxHeartbeats 4000000 in
set_option maxRecDepth 10000 in
theorem lf_together_b6 {P : Nat → Int32} (hP : PL P) {Q : Int64 × MS → Prop} (S : MS) (l1 : Int32) (l2 : Int32) (l3 : Int32) (h_S : IC P S) (g0 : 0 ≤ l1.toInt ∧ l1.toInt ≤ 11) (g1 : 0 ≤ l2.toInt ∧ l2.toInt ≤ 11) (g2 : 0 ≤ l3.toInt ∧ l3.toInt ≤ 199) (hx0 : ∀ (l4 : Int64), Tot (some (l4, S)) Q) : ∀ (n : Nat) (l4 : Int64) (l6 : Int32), (0 ≤ l6.toInt ∧ l6.toInt ≤ 200) → 200 - l6.toInt < (n : Int) → Tot (fr_together_b6 n S l1 l2 l3 l4 l6) Q := by
  have z0 : (200 : Int32).toInt = 200 := by decide
  have z1 : (55 : Int32).toInt = 55 := by decide
  have z2 : (Int32.ofInt (1) : Int32).toInt = 1 := by decide
  have p_2 := pl_2 hP
  have j_l1 := i_any l1
  have j_l2 := i_any l2
  have j_l3 := i_any l3
  intro n
  induction n with
  | zero =>
    intro l4 l6 g_l6 hm
    exfalso
    omega
  | succ n ih =>
    intro l4 l6 g_l6 hm
    unfold fr_together_b6
    refine tot_let (fun v_17 e_v_17 => ?_)
    have q_v_17 := i_add e_v_17 (by omega) (by omega)
    refine tot_let (fun v_18 e_v_18 => ?_)
    have q_v_18 := ic_p h_S e_v_18
    refine tot_if (fun c_49 => ?_) (fun c_49 => ?_)
    · replace c_49 := i_le c_49
      exact hx0 l4 
    · replace c_49 := i_nle c_49
      refine tot_let (fun v_19 e_v_19 => ?_)
      have q_v_19 := i_mulk e_v_19 z0 (by omega) (by omega)
      refine tot_let (fun v_20 e_v_20 => ?_)
      have q_v_20 := i_add e_v_20 (by omega) (by omega)
      refine tot_let (fun v_21 e_v_21 => ?_)
      have q_v_21 := i_add e_v_21 (by omega) (by omega)
      refine tot_oif (i_inb (by omega) (by omega)) ?_
      refine tot_let (fun v_22 e_v_22 => ?_)
      have r_v_22 := i_any v_22
      refine tot_let (fun v_23 e_v_23 => ?_)
      refine tot_let (fun v_24 e_v_24 => ?_)
      have q_v_24 := i_mulk e_v_24 z0 (by omega) (by omega)
      refine tot_let (fun v_25 e_v_25 => ?_)
      have q_v_25 := i_add e_v_25 (by omega) (by omega)
      refine tot_let (fun v_26 e_v_26 => ?_)
      have q_v_26 := i_add e_v_26 (by omega) (by omega)
      refine tot_let (fun v_27 e_v_27 => ?_)
      have q_v_27 := i_add e_v_27 (by omega) (by omega)
      refine tot_oif (i_inb (by omega) (by omega)) ?_
      refine tot_let (fun v_28 e_v_28 => ?_)
      have r_v_28 := i_any v_28
      refine tot_let (fun v_29 e_v_29 => ?_)
      refine tot_let (fun v_30 e_v_30 => ?_)
      refine tot_let (fun v_31 e_v_31 => ?_)
      refine tot_let (fun v_32 e_v_32 => ?_)
      have q_v_32 := i_add e_v_32 (by omega) (by omega)
      exact ih v_31 v_32 (by omega) (by omega)
set_option maxHeartbeats 4000000 in
set_option maxRecDepth 10000 in
theorem sf_together {P : Nat → Int32} (hP : PL P) (S : MS) (a0 : Int32) (a1 : Int32) (a2 : Int32) (h_S : IC P S) (g0 : 0 ≤ a0.toInt ∧ a0.toInt ≤ 11) (g1 : 0 ≤ a1.toInt ∧ a1.toInt ≤ 11) (g2 : 0 ≤ a2.toInt ∧ a2.toInt ≤ 199) : Tot (fr_together S a0 a1 a2) (fun r => r.2 = S ∧ True) := by
  have z0 : (0 : Int32).toInt = 0 := by decide
  have j_a0 := i_any a0
  have j_a1 := i_any a1
  have j_a2 := i_any a2
  unfold fr_together
  refine lf_together_b6 hP S a0 a1 a2 h_S (by omega) (by omega) (by omega) ?_ 16384 (0 : Int64) 0 (by omega) (by omega)
  · intro l_50
    exact tot_some ⟨rfl, trivial⟩
set_option maxHeartbeats 4000000 in
set_option maxRecDepth 10000 in
theorem sf_correlation {P : Nat → Int32} (hP : PL P) (S : MS) (a0 : Int32) (a1 : Int32) (a2 : Int32) (h_S : IC P S) : Tot (fr_correlation S a0 a1 a2) (fun r => IC P r.2 ∧ True) := by
  have z0 : (0 : Int32).toInt = 0 := by decide
  have z1 : (1 : Int32).toInt = 1 := by decide
  have z2 : (3 : Int32).toInt = 3 := by decide
  have p_2 := pl_2 hP
  have p_4 := pl_4 hP
  have j_a0 := i_any a0
  have j_a1 := i_any a1
  have j_a2 := i_any a2
  unfold fr_correlation
  refine tot_bindp (R := fun r_1 : Int32 => (r_1.toInt = 0 ∨ r_1.toInt = 1 ∧ 0 ≤ a0.toInt ∧ a0.toInt < (P 4).toInt)) (sf_isMic hP S a0 h_S ) (fun r_1 d_r_1 => ?_)
  replace d_r_1 : (r_1.toInt = 0 ∨ r_1.toInt = 1 ∧ 0 ≤ a0.toInt ∧ a0.toInt < (P 4).toInt) := d_r_1
  refine tot_if (fun c_5 => ?_) (fun c_5 => ?_)
  · replace c_5 := i_eq c_5
    unfold fr_correlation_b21
    unfold fr_correlation_b22
    refine tot_bind2 (sf_mayAsk hP S 0 h_S (by omega)) (fun r_6 S_7 d_r_6 => ?_)
    have h_S_7 : IC P S_7 := d_r_6.1
    replace d_r_6 : (r_6.toInt = 0 ∨ r_6.toInt = 1 ∧ ¬ (0 : Int32).toInt = 0) := d_r_6.2
    refine tot_if (fun c_15 => ?_) (fun c_15 => ?_)
    · replace c_15 := i_eq c_15
      exact tot_some ⟨h_S_7, trivial⟩
    · replace c_15 := i_ne c_15
      exfalso
      omega
  · replace c_5 := i_ne c_5
    refine tot_bindp (R := fun r_3 : Int32 => (r_3.toInt = 0 ∨ r_3.toInt = 1 ∧ 0 ≤ a1.toInt ∧ a1.toInt < (P 4).toInt)) (sf_isMic hP S a1 h_S ) (fun r_3 d_r_3 => ?_)
    replace d_r_3 : (r_3.toInt = 0 ∨ r_3.toInt = 1 ∧ 0 ≤ a1.toInt ∧ a1.toInt < (P 4).toInt) := d_r_3
    refine tot_if (fun c_16 => ?_) (fun c_16 => ?_)
    · replace c_16 := i_eq c_16
      unfold fr_correlation_b21
      unfold fr_correlation_b22
      refine tot_bind2 (sf_mayAsk hP S 0 h_S (by omega)) (fun r_17 S_18 d_r_17 => ?_)
      have h_S_18 : IC P S_18 := d_r_17.1
      replace d_r_17 : (r_17.toInt = 0 ∨ r_17.toInt = 1 ∧ ¬ (0 : Int32).toInt = 0) := d_r_17.2
      refine tot_if (fun c_26 => ?_) (fun c_26 => ?_)
      · replace c_26 := i_eq c_26
        exact tot_some ⟨h_S_18, trivial⟩
      · replace c_26 := i_ne c_26
        exfalso
        omega
    · replace c_16 := i_ne c_16
      unfold fr_correlation_b22
      refine tot_bind2 (sf_mayAsk hP S 1 h_S (by omega)) (fun r_27 S_28 d_r_27 => ?_)
      have h_S_28 : IC P S_28 := d_r_27.1
      replace d_r_27 : (r_27.toInt = 0 ∨ r_27.toInt = 1 ∧ ¬ (1 : Int32).toInt = 0) := d_r_27.2
      refine tot_if (fun c_36 => ?_) (fun c_36 => ?_)
      · replace c_36 := i_eq c_36
        exact tot_some ⟨h_S_28, trivial⟩
      · replace c_36 := i_ne c_36
        refine tot_bindp (R := fun r_29 : Int32 => (r_29.toInt = 0 ∨ r_29.toInt = 1 ∧ 0 ≤ a2.toInt ∧ a2.toInt < (P 2).toInt)) (sf_isTime hP S_28 a2 h_S_28 ) (fun r_29 d_r_29 => ?_)
        replace d_r_29 : (r_29.toInt = 0 ∨ r_29.toInt = 1 ∧ 0 ≤ a2.toInt ∧ a2.toInt < (P 2).toInt) := d_r_29
        refine tot_if (fun c_37 => ?_) (fun c_37 => ?_)
        · replace c_37 := i_eq c_37
          refine tot_bind2 (sf_throwsAt hP S_28 3 h_S_28 ) (fun r_31 S_32 d_r_31 => ?_)
          have h_S_32 : IC P S_32 := d_r_31.1
          replace d_r_31 : (0 ≤ r_31.toInt ∧ r_31.toInt ≤ 0) := d_r_31.2
          refine tot_let (fun v_33 e_v_33 => ?_)
          unfold fr_correlation_b54
          exact tot_some ⟨h_S_32, trivial⟩
        · replace c_37 := i_ne c_37
          refine tot_bindp (R := fun r_34 : Int64 => True) (sf_together hP S_28 a0 a1 a2 h_S_28 (by omega) (by omega) (by omega)) (fun r_34 d_r_34 => ?_)
          unfold fr_correlation_b54
          exact tot_some ⟨h_S_28, trivial⟩
set_option maxHeartbeats 4000000 in
set_option maxRecDepth 10000 in
theorem lf_bestLag_b50 {P : Nat → Int32} (hP : PL P) {Q : Int32 × MS → Prop} (l1 : Int32) (l2 : Int32) (l3 : Int32) (g0 : 0 ≤ l1.toInt ∧ l1.toInt ≤ 11) (g1 : 0 ≤ l2.toInt ∧ l2.toInt ≤ 11) (g2 : 0 ≤ l3.toInt ∧ l3.toInt ≤ 199) (hx0 : ∀ (S : MS) (l4 : Int32), (IC P S) → (0 ≤ l4.toInt ∧ l4.toInt ≤ 199) → Tot (some (l4, S)) Q) : ∀ (n : Nat) (S : MS) (l4 : Int32) (l5 : Int32), (IC P S) → (0 ≤ l4.toInt ∧ l4.toInt ≤ 199) → (1 ≤ l5.toInt ∧ l5.toInt ≤ 200) → 200 - l5.toInt < (n : Int) → Tot (fr_bestLag_b50 n S l1 l2 l3 l4 l5) Q := by
  have z0 : (0 : Int32).toInt = 0 := by decide
  have z1 : (Int32.ofInt (1) : Int32).toInt = 1 := by decide
  have j_l1 := i_any l1
  have j_l2 := i_any l2
  have j_l3 := i_any l3
  intro n
  induction n with
  | zero =>
    intro S l4 l5 h_S g_l4 g_l5 hm
    exfalso
    omega
  | succ n ih =>
    intro S l4 l5 h_S g_l4 g_l5 hm
    unfold fr_bestLag_b50
    refine tot_if (fun c_48 => ?_) (fun c_48 => ?_)
    · replace c_48 := i_lt c_48
      exact hx0 S l4 h_S (by omega)
    · replace c_48 := i_nlt c_48
      refine tot_bindp (R := fun r_36 : Int64 => True) (sf_together hP S l1 l2 l5 h_S (by omega) (by omega) (by omega)) (fun r_36 d_r_36 => ?_)
      refine tot_bindp (R := fun r_38 : Int64 => True) (sf_together hP S l1 l2 l4 h_S (by omega) (by omega) (by omega)) (fun r_38 d_r_38 => ?_)
      refine tot_let (fun v_40 e_v_40 => ?_)
      have r_v_40 := i_any v_40
      refine tot_if (fun c_49 => ?_) (fun c_49 => ?_)
      · replace c_49 := i_le c_49
        unfold fr_bestLag_b83
        refine tot_let (fun v_50 e_v_50 => ?_)
        have q_v_50 := i_add e_v_50 (by omega) (by omega)
        exact ih S l4 v_50 h_S (by omega) (by omega) (by omega)
      · replace c_49 := i_nle c_49
        unfold fr_bestLag_b83
        refine tot_let (fun v_51 e_v_51 => ?_)
        have q_v_51 := i_add e_v_51 (by omega) (by omega)
        exact ih S l5 v_51 h_S (by omega) (by omega) (by omega)
set_option maxHeartbeats 4000000 in
set_option maxRecDepth 10000 in
theorem sf_bestLag {P : Nat → Int32} (hP : PL P) (S : MS) (a0 : Int32) (a1 : Int32) (a2 : Int32) (h_S : IC P S) : Tot (fr_bestLag S a0 a1 a2) (fun r => IC P r.2 ∧ (0 ≤ r.1.toInt ∧ r.1.toInt ≤ 199)) := by
  have z0 : (0 : Int32).toInt = 0 := by decide
  have z1 : (1 : Int32).toInt = 1 := by decide
  have z2 : (3 : Int32).toInt = 3 := by decide
  have p_2 := pl_2 hP
  have p_4 := pl_4 hP
  have j_a0 := i_any a0
  have j_a1 := i_any a1
  have j_a2 := i_any a2
  unfold fr_bestLag
  refine tot_bindp (R := fun r_1 : Int32 => (r_1.toInt = 0 ∨ r_1.toInt = 1 ∧ 0 ≤ a0.toInt ∧ a0.toInt < (P 4).toInt)) (sf_isMic hP S a0 h_S ) (fun r_1 d_r_1 => ?_)
  replace d_r_1 : (r_1.toInt = 0 ∨ r_1.toInt = 1 ∧ 0 ≤ a0.toInt ∧ a0.toInt < (P 4).toInt) := d_r_1
  refine tot_if (fun c_5 => ?_) (fun c_5 => ?_)
  · replace c_5 := i_eq c_5
    unfold fr_bestLag_b21
    unfold fr_bestLag_b22
    refine tot_bind2 (sf_mayAsk hP S 0 h_S (by omega)) (fun r_6 S_7 d_r_6 => ?_)
    have h_S_7 : IC P S_7 := d_r_6.1
    replace d_r_6 : (r_6.toInt = 0 ∨ r_6.toInt = 1 ∧ ¬ (0 : Int32).toInt = 0) := d_r_6.2
    refine tot_if (fun c_12 => ?_) (fun c_12 => ?_)
    · replace c_12 := i_eq c_12
      exact tot_some ⟨h_S_7, (show (0 ≤ (0 : Int32).toInt ∧ (0 : Int32).toInt ≤ 199) from by omega)⟩
    · replace c_12 := i_ne c_12
      exfalso
      omega
  · replace c_5 := i_ne c_5
    refine tot_bindp (R := fun r_3 : Int32 => (r_3.toInt = 0 ∨ r_3.toInt = 1 ∧ 0 ≤ a1.toInt ∧ a1.toInt < (P 4).toInt)) (sf_isMic hP S a1 h_S ) (fun r_3 d_r_3 => ?_)
    replace d_r_3 : (r_3.toInt = 0 ∨ r_3.toInt = 1 ∧ 0 ≤ a1.toInt ∧ a1.toInt < (P 4).toInt) := d_r_3
    refine tot_if (fun c_13 => ?_) (fun c_13 => ?_)
    · replace c_13 := i_eq c_13
      unfold fr_bestLag_b21
      unfold fr_bestLag_b22
      refine tot_bind2 (sf_mayAsk hP S 0 h_S (by omega)) (fun r_14 S_15 d_r_14 => ?_)
      have h_S_15 : IC P S_15 := d_r_14.1
      replace d_r_14 : (r_14.toInt = 0 ∨ r_14.toInt = 1 ∧ ¬ (0 : Int32).toInt = 0) := d_r_14.2
      refine tot_if (fun c_20 => ?_) (fun c_20 => ?_)
      · replace c_20 := i_eq c_20
        exact tot_some ⟨h_S_15, (show (0 ≤ (0 : Int32).toInt ∧ (0 : Int32).toInt ≤ 199) from by omega)⟩
      · replace c_20 := i_ne c_20
        exfalso
        omega
    · replace c_13 := i_ne c_13
      unfold fr_bestLag_b22
      refine tot_bind2 (sf_mayAsk hP S 1 h_S (by omega)) (fun r_21 S_22 d_r_21 => ?_)
      have h_S_22 : IC P S_22 := d_r_21.1
      replace d_r_21 : (r_21.toInt = 0 ∨ r_21.toInt = 1 ∧ ¬ (1 : Int32).toInt = 0) := d_r_21.2
      refine tot_if (fun c_27 => ?_) (fun c_27 => ?_)
      · replace c_27 := i_eq c_27
        exact tot_some ⟨h_S_22, (show (0 ≤ (0 : Int32).toInt ∧ (0 : Int32).toInt ≤ 199) from by omega)⟩
      · replace c_27 := i_ne c_27
        refine tot_bindp (R := fun r_23 : Int32 => (r_23.toInt = 0 ∨ r_23.toInt = 1 ∧ 0 ≤ a2.toInt ∧ a2.toInt < (P 2).toInt)) (sf_isTime hP S_22 a2 h_S_22 ) (fun r_23 d_r_23 => ?_)
        replace d_r_23 : (r_23.toInt = 0 ∨ r_23.toInt = 1 ∧ 0 ≤ a2.toInt ∧ a2.toInt < (P 2).toInt) := d_r_23
        refine tot_if (fun c_28 => ?_) (fun c_28 => ?_)
        · replace c_28 := i_eq c_28
          refine tot_bind2 (sf_throwsAt hP S_22 3 h_S_22 ) (fun r_25 S_26 d_r_25 => ?_)
          have h_S_26 : IC P S_26 := d_r_25.1
          replace d_r_25 : (0 ≤ r_25.toInt ∧ r_25.toInt ≤ 0) := d_r_25.2
          exact tot_some ⟨h_S_26, (show (0 ≤ r_25.toInt ∧ r_25.toInt ≤ 199) from by omega)⟩
        · replace c_28 := i_ne c_28
          refine lf_bestLag_b50 hP a0 a1 a2 (by omega) (by omega) (by omega) ?_ 16384 S_22 0 1 h_S_22 (by omega) (by omega) (by omega)
          · intro S_52 l_53 h_S_52 g_l_53
            exact tot_some ⟨h_S_52, (show (0 ≤ l_53.toInt ∧ l_53.toInt ≤ 199) from by omega)⟩
