set_option maxHeartbeats 4000000 in
set_option maxRecDepth 10000 in
theorem sf_levelOf {P : Nat → Int32} (hP : PL P) (S : MS) (a0 : Int32) (h_S : IC P S) (g0 : 0 ≤ a0.toInt ∧ a0.toInt ≤ 11) : Tot (fr_levelOf S a0) (fun r => r.2 = S ∧ True) := by
  have z0 : (0 : Int32).toInt = 0 := by decide
  have p_2 := pl_2 hP
  have j_a0 := i_any a0
  unfold fr_levelOf
  refine tot_bindp (R := fun r_1 : Int64 => True) (sf_together hP S a0 a0 0 h_S (by omega) (by omega) (by omega)) (fun r_1 d_r_1 => ?_)
  refine tot_let (fun v_3 e_v_3 => ?_)
  have q_v_3 := ic_p h_S e_v_3
  refine tot_let (fun v_4 e_v_4 => ?_)
  refine tot_oif (by rw [e_v_4]; exact i_nz64 (by omega)) ?_
  refine tot_let (fun v_5 e_v_5 => ?_)
  exact tot_some ⟨rfl, trivial⟩
set_option maxHeartbeats 4000000 in
set_option maxRecDepth 10000 in
theorem sf_level {P : Nat → Int32} (hP : PL P) (S : MS) (a0 : Int32) (h_S : IC P S) : Tot (fr_level S a0) (fun r => IC P r.2 ∧ True) := by
  have z0 : (0 : Int32).toInt = 0 := by decide
  have p_4 := pl_4 hP
  have j_a0 := i_any a0
  unfold fr_level
  refine tot_bindp (R := fun r_1 : Int32 => (r_1.toInt = 0 ∨ r_1.toInt = 1 ∧ 0 ≤ a0.toInt ∧ a0.toInt < (P 4).toInt)) (sf_isMic hP S a0 h_S ) (fun r_1 d_r_1 => ?_)
  replace d_r_1 : (r_1.toInt = 0 ∨ r_1.toInt = 1 ∧ 0 ≤ a0.toInt ∧ a0.toInt < (P 4).toInt) := d_r_1
  refine tot_bind2 (sf_mayAsk hP S r_1 h_S (by omega)) (fun r_3 S_4 d_r_3 => ?_)
  have h_S_4 : IC P S_4 := d_r_3.1
  replace d_r_3 : (r_3.toInt = 0 ∨ r_3.toInt = 1 ∧ ¬ r_1.toInt = 0) := d_r_3.2
  refine tot_if (fun c_7 => ?_) (fun c_7 => ?_)
  · replace c_7 := i_eq c_7
    unfold fr_level_b21
    exact tot_some ⟨h_S_4, trivial⟩
  · replace c_7 := i_ne c_7
    refine tot_bindp (R := fun r_5 : Int64 => True) (sf_levelOf hP S_4 a0 h_S_4 (by omega)) (fun r_5 d_r_5 => ?_)
    unfold fr_level_b21
    exact tot_some ⟨h_S_4, trivial⟩
set_option maxHeartbeats 4000000 in
set_option maxRecDepth 10000 in
theorem lf_loudest_b31 {P : Nat → Int32} (hP : PL P) {Q : Int32 × MS → Prop} {k16 : MS → Int32 → Int32 → Option (Int32 × MS)} (l1 : Int32) (l2 : Int32) (g0 : 0 ≤ l1.toInt ∧ l1.toInt ≤ 11) (g1 : 0 ≤ l2.toInt ∧ l2.toInt ≤ 11) (hx0 : ∀ (S : MS) (l3 : Int32), (IC P S) → Tot (if l3 = l1 then (some (l2, S)) else (elet (l2 + Int32.ofInt (1)) fun v_77 => k16 S l1 v_77)) Q) : ∀ (n : Nat) (S : MS) (l3 : Int32) (l4 : Int32), (IC P S) → (0 ≤ l4.toInt ∧ l4.toInt ≤ 12) → 12 - l4.toInt < (n : Int) → Tot (fr_loudest_b31 k16 n S l1 l2 l3 l4) Q := by
  have z0 : (0 : Int32).toInt = 0 := by decide
  have z1 : (1 : Int32).toInt = 1 := by decide
  have z2 : (Int32.ofInt (1) : Int32).toInt = 1 := by decide
  have p_4 := pl_4 hP
  have j_l1 := i_any l1
  have j_l2 := i_any l2
  intro n
  induction n with
  | zero =>
    intro S l3 l4 h_S g_l4 hm
    exfalso
    omega
  | succ n ih =>
    intro S l3 l4 h_S g_l4 hm
    unfold fr_loudest_b31
    refine tot_let (fun v_76 e_v_76 => ?_)
    have q_v_76 := ic_p h_S e_v_76
    refine tot_if (fun c_108 => ?_) (fun c_108 => ?_)
    · replace c_108 := i_le c_108
      exact hx0 S l3 h_S
    · replace c_108 := i_nle c_108
      refine tot_bindp (R := fun r_78 : Int64 => True) (sf_levelOf hP S l4 h_S (by omega)) (fun r_78 d_r_78 => ?_)
      refine tot_bindp (R := fun r_80 : Int64 => True) (sf_levelOf hP S l2 h_S (by omega)) (fun r_80 d_r_80 => ?_)
      refine tot_let (fun v_82 e_v_82 => ?_)
      have r_v_82 := i_any v_82
      refine tot_if (fun c_109 => ?_) (fun c_109 => ?_)
      · replace c_109 := i_lt c_109
        unfold fr_loudest_b79
        unfold fr_loudest_b84
        refine tot_let (fun v_110 e_v_110 => ?_)
        have r_v_110 := i_any v_110
        refine tot_let (fun v_111 e_v_111 => ?_)
        have q_v_111 := i_add e_v_111 (by omega) (by omega)
        exact ih S v_110 v_111 h_S (by omega) (by omega)
      · replace c_109 := i_nlt c_109
        refine tot_bindp (R := fun r_83 : Int64 => True) (sf_levelOf hP S l4 h_S (by omega)) (fun r_83 d_r_83 => ?_)
        refine tot_bindp (R := fun r_85 : Int64 => True) (sf_levelOf hP S l2 h_S (by omega)) (fun r_85 d_r_85 => ?_)
        refine tot_let (fun v_87 e_v_87 => ?_)
        have r_v_87 := i_any v_87
        refine tot_if (fun c_112 => ?_) (fun c_112 => ?_)
        · replace c_112 := i_eq c_112
          refine tot_if (fun c_113 => ?_) (fun c_113 => ?_)
          · replace c_113 := i_le c_113
            unfold fr_loudest_b83
            unfold fr_loudest_b84
            refine tot_let (fun v_114 e_v_114 => ?_)
            have r_v_114 := i_any v_114
            refine tot_let (fun v_115 e_v_115 => ?_)
            have q_v_115 := i_add e_v_115 (by omega) (by omega)
            exact ih S v_114 v_115 h_S (by omega) (by omega)
          · replace c_113 := i_nle c_113
            unfold fr_loudest_b79
            unfold fr_loudest_b84
            refine tot_let (fun v_116 e_v_116 => ?_)
            have r_v_116 := i_any v_116
            refine tot_let (fun v_117 e_v_117 => ?_)
            have q_v_117 := i_add e_v_117 (by omega) (by omega)
            exact ih S v_116 v_117 h_S (by omega) (by omega)
        · replace c_112 := i_ne c_112
          unfold fr_loudest_b83
          unfold fr_loudest_b84
          refine tot_let (fun v_118 e_v_118 => ?_)
          have r_v_118 := i_any v_118
          refine tot_let (fun v_119 e_v_119 => ?_)
          have q_v_119 := i_add e_v_119 (by omega) (by omega)
          exact ih S v_118 v_119 h_S (by omega) (by omega)
set_option maxHeartbeats 4000000 in
set_option maxRecDepth 10000 in
theorem lf_loudest_b16 {P : Nat → Int32} (hP : PL P) {Q : Int32 × MS → Prop} (l1 : Int32) (g0 : 0 ≤ l1.toInt ∧ l1.toInt ≤ 11) (hx0 : ∀ (S : MS), (IC P S) → Tot (some ((-1), S)) Q) (hx1 : ∀ (S_120 : MS) (l2 : Int32), (IC P S_120) → (0 ≤ l2.toInt ∧ l2.toInt ≤ 11) → Tot (some (l2, S_120)) Q) : ∀ (n : Nat) (S : MS) (l2 : Int32), (IC P S) → (0 ≤ l2.toInt ∧ l2.toInt ≤ 12) → 12 - l2.toInt < (n : Int) → Tot (fr_loudest_b16 n S l1 l2) Q := by
  have z0 : (0 : Int32).toInt = 0 := by decide
  have z1 : (Int32.ofInt (1) : Int32).toInt = 1 := by decide
  have p_4 := pl_4 hP
  have j_l1 := i_any l1
  intro n
  induction n with
  | zero =>
    intro S l2 h_S g_l2 hm
    exfalso
    omega
  | succ n ih =>
    intro S l2 h_S g_l2 hm
    unfold fr_loudest_b16
    refine tot_let (fun v_50 e_v_50 => ?_)
    have q_v_50 := ic_p h_S e_v_50
    refine tot_if (fun c_75 => ?_) (fun c_75 => ?_)
    · replace c_75 := i_le c_75
      exact hx0 S h_S
    · replace c_75 := i_nle c_75
      refine lf_loudest_b31 hP l1 l2 (by omega) (by omega) ?_ 16384 S 0 0 h_S (by omega) (by omega)
      · intro S_120 l_121 h_S_120
        have j_l_121 := i_any l_121
        refine tot_if (fun c_123 => ?_) (fun c_123 => ?_)
        · replace c_123 := i_eq c_123
          exact hx1 S_120 l2 h_S_120 (by omega)
        · replace c_123 := i_ne c_123
          refine tot_let (fun v__122 e_v__122 => ?_)
          have q_v__122 := i_add e_v__122 (by omega) (by omega)
          exact ih S_120 v__122 h_S_120 (by omega) (by omega)
set_option maxHeartbeats 4000000 in
set_option maxRecDepth 10000 in
theorem sf_loudest {P : Nat → Int32} (hP : PL P) (S : MS) (a0 : Int32) (h_S : IC P S) : Tot (fr_loudest S a0) (fun r => IC P r.2 ∧ (-1 ≤ r.1.toInt ∧ r.1.toInt ≤ 11)) := by
  have z0 : (0 : Int32).toInt = 0 := by decide
  have z1 : ((-1) : Int32).toInt = -1 := by decide
  have p_4 := pl_4 hP
  have j_a0 := i_any a0
  unfold fr_loudest
  refine tot_bindp (R := fun r_1 : Int32 => (r_1.toInt = 0 ∨ r_1.toInt = 1 ∧ 0 ≤ a0.toInt ∧ a0.toInt < (P 4).toInt)) (sf_isMic hP S a0 h_S ) (fun r_1 d_r_1 => ?_)
  replace d_r_1 : (r_1.toInt = 0 ∨ r_1.toInt = 1 ∧ 0 ≤ a0.toInt ∧ a0.toInt < (P 4).toInt) := d_r_1
  refine tot_bind2 (sf_mayAsk hP S r_1 h_S (by omega)) (fun r_3 S_4 d_r_3 => ?_)
  have h_S_4 : IC P S_4 := d_r_3.1
  replace d_r_3 : (r_3.toInt = 0 ∨ r_3.toInt = 1 ∧ ¬ r_1.toInt = 0) := d_r_3.2
  refine tot_if (fun c_5 => ?_) (fun c_5 => ?_)
  · replace c_5 := i_eq c_5
    exact tot_some ⟨h_S_4, (show (-1 ≤ (0 : Int32).toInt ∧ (0 : Int32).toInt ≤ 11) from by omega)⟩
  · replace c_5 := i_ne c_5
    refine lf_loudest_b16 hP a0 (by omega) ?_ ?_ 16384 S_4 0 h_S_4 (by omega) (by omega)
    · intro S_124 h_S_124
      exact tot_some ⟨h_S_124, (show (-1 ≤ ((-1) : Int32).toInt ∧ ((-1) : Int32).toInt ≤ 11) from by omega)⟩
    · intro S_125 l_126 h_S_125 g_l_126
      exact tot_some ⟨h_S_125, (show (-1 ≤ l_126.toInt ∧ l_126.toInt ≤ 11) from by omega)⟩
set_option maxHeartbeats 4000000 in
set_option maxRecDepth 10000 in
theorem lf_writeMap_b31 {P : Nat → Int32} (hP : PL P) {Q : Int32 × MS → Prop} (l1 : Int64) (hx0 : ∀ (S : MS), (IC P S) → Tot (elet (S.1 28) fun v_74 => some (v_74, S)) Q) : ∀ (n : Nat) (S : MS) (l3 : Int32), (IC P S) → (0 ≤ l3.toInt ∧ l3.toInt ≤ 144) → ((l3.toInt = 0 ∧ (S.1 28).toInt = 0) ∨ (1 ≤ l3.toInt ∧ (S.1 28).toInt ≤ l3.toInt + (l3.toInt - 1) / (P 9).toInt)) → 144 - l3.toInt < (n : Int) → Tot (fr_writeMap_b31 n S l1 l3) Q := by
  have z0 : (0 : Int32).toInt = 0 := by decide
  have z1 : (48 : Int32).toInt = 48 := by decide
  have z2 : (1 : Int32).toInt = 1 := by decide
  have z3 : (Int32.ofInt (1) : Int32).toInt = 1 := by decide
  have z4 : (59 : Int32).toInt = 59 := by decide
  have p_9 := pl_9 hP
  have p_10 := pl_10 hP
  have p_cells := pl_cells hP
  intro n
  induction n with
  | zero =>
    intro S l3 h_S g_l3 gi_0 hm
    exfalso
    omega
  | succ n ih =>
    intro S l3 h_S g_l3 gi_0 hm
    have y0 : 1 ≤ l3.toInt → _ := fun q => sep_step (l := l3.toInt) (c := (P 9).toInt) (by omega) q
    have y1 : l3.toInt < (P 9).toInt * (P 10).toInt → _ := fun q => sep_max (l := l3.toInt) (c := (P 9).toInt) (r := (P 10).toInt) (by omega) q
    have y2 := Int.ediv_nonneg (a := l3.toInt) (b := (P 9).toInt) (by omega) (by omega)
    have rr_28 := ic_28 h_S
    unfold fr_writeMap_b31
    refine tot_bindp (R := fun r_72 : Int32 => ((1 ≤ r_72.toInt ∧ r_72.toInt ≤ 144) ∧ r_72.toInt = (P 9).toInt * (P 10).toInt)) (sf_cellCount hP S h_S ) (fun r_72 d_r_72 => ?_)
    replace d_r_72 : ((1 ≤ r_72.toInt ∧ r_72.toInt ≤ 144) ∧ r_72.toInt = (P 9).toInt * (P 10).toInt) := d_r_72
    refine tot_if (fun c_146 => ?_) (fun c_146 => ?_)
    · replace c_146 := i_le c_146
      exact hx0 S h_S
    · replace c_146 := i_nle c_146
      refine tot_if (fun c_147 => ?_) (fun c_147 => ?_)
      · replace c_147 := i_le c_147
        unfold fr_writeMap_b76
        refine tot_let (fun v_148 e_v_148 => ?_)
        have q_v_148 := i_eq e_v_148
        have r_v_148 := ic_28 h_S
        refine tot_let (fun v_149 e_v_149 => ?_)
        have r_v_149 := i_any v_149
        refine tot_if (fun c_154 => ?_) (fun c_154 => ?_)
        · replace c_154 := i_eq c_154
          unfold fr_writeMap_b109
          refine tot_let (fun v_155 e_v_155 => ?_)
          have q_v_155 := i_add e_v_155 (by omega) (by omega)
          refine tot_oif (i_inb (by omega) (by omega)) ?_
          refine tot_let (fun S_156 e_S_156 => ?_)
          have h_S_156 : IC P S_156 := by rw [e_S_156]; exact ic_mf27 h_S _
          have f_S_156_28 : (S_156.1 28).toInt = (S.1 28).toInt := by rw [e_S_156]; rfl
          refine tot_let (fun v_157 e_v_157 => ?_)
          have q_v_157 := i_eq e_v_157
          have r_v_157 := ic_28 h_S_156
          refine tot_let (fun v_158 e_v_158 => ?_)
          have q_v_158 := i_add e_v_158 (by omega) (by omega)
          refine tot_let (fun S_159 e_S_159 => ?_)
          have h_S_159 : IC P S_159 := by rw [e_S_159]; exact ic_mi28 h_S_156 (by omega) (by omega)
          have f_S_159_28 : (S_159.1 28).toInt = (v_158 : Int32).toInt := by rw [e_S_159]; rfl
          refine tot_let (fun v_160 e_v_160 => ?_)
          have q_v_160 := i_add e_v_160 (by omega) (by omega)
          have w9 : (v_160.toInt - 1) / (P 9).toInt = l3.toInt / (P 9).toInt := by rw [show v_160.toInt - 1 = l3.toInt from by omega]
          exact ih S_159 v_160 h_S_159 (by omega) (by omega) (by omega)
        · have c_154_ := c_154
          replace c_154 := i_ne c_154
          refine tot_oif (i_inb (by omega) (by omega)) ?_
          refine tot_let (fun v_150 e_v_150 => ?_)
          refine tot_let (fun v_151 e_v_151 => ?_)
          refine tot_oif (fun q_ => c_154_ (by rw [e_v_149, q_]; rfl)) ?_
          refine tot_let (fun v_152 e_v_152 => ?_)
          refine tot_let (fun v_153 e_v_153 => ?_)
          have r_v_153 := i_any v_153
          unfold fr_writeMap_b109
          refine tot_let (fun v_161 e_v_161 => ?_)
          have r_v_161 := i_any v_161
          refine tot_oif (i_inb (by omega) (by omega)) ?_
          refine tot_let (fun S_162 e_S_162 => ?_)
          have h_S_162 : IC P S_162 := by rw [e_S_162]; exact ic_mf27 h_S _
          have f_S_162_28 : (S_162.1 28).toInt = (S.1 28).toInt := by rw [e_S_162]; rfl
          refine tot_let (fun v_163 e_v_163 => ?_)
          have q_v_163 := i_eq e_v_163
          have r_v_163 := ic_28 h_S_162
          refine tot_let (fun v_164 e_v_164 => ?_)
          have q_v_164 := i_add e_v_164 (by omega) (by omega)
          refine tot_let (fun S_165 e_S_165 => ?_)
          have h_S_165 : IC P S_165 := by rw [e_S_165]; exact ic_mi28 h_S_162 (by omega) (by omega)
          have f_S_165_28 : (S_165.1 28).toInt = (v_164 : Int32).toInt := by rw [e_S_165]; rfl
          refine tot_let (fun v_166 e_v_166 => ?_)
          have q_v_166 := i_add e_v_166 (by omega) (by omega)
          have w9 : (v_166.toInt - 1) / (P 9).toInt = l3.toInt / (P 9).toInt := by rw [show v_166.toInt - 1 = l3.toInt from by omega]
          exact ih S_165 v_166 h_S_165 (by omega) (by omega) (by omega)
      · replace c_147 := i_nle c_147
        refine tot_let (fun v_75 e_v_75 => ?_)
        have q_v_75 := ic_p h_S e_v_75
        refine tot_oif (i_nz (by omega)) ?_
        refine tot_let (fun v_76 e_v_76 => ?_)
        have q_v_76 := i_rem e_v_76 (by omega) (by omega)
        have x_v_76 := i_remq e_v_76 (by omega) (by omega)
        rw [q_v_75] at x_v_76
        refine tot_if (fun c_167 => ?_) (fun c_167 => ?_)
        · replace c_167 := i_eq c_167
          refine tot_let (fun v_77 e_v_77 => ?_)
          have q_v_77 := i_eq e_v_77
          have r_v_77 := ic_28 h_S
          refine tot_oif (i_inb (by omega) (by omega)) ?_
          refine tot_let (fun S_78 e_S_78 => ?_)
          have h_S_78 : IC P S_78 := by rw [e_S_78]; exact ic_mf27 h_S _
          have f_S_78_28 : (S_78.1 28).toInt = (S.1 28).toInt := by rw [e_S_78]; rfl
          refine tot_let (fun v_79 e_v_79 => ?_)
          have q_v_79 := i_eq e_v_79
          have r_v_79 := ic_28 h_S_78
          refine tot_let (fun v_80 e_v_80 => ?_)
          have q_v_80 := i_add e_v_80 (by omega) (by omega)
          refine tot_let (fun S_81 e_S_81 => ?_)
          have h_S_81 : IC P S_81 := by rw [e_S_81]; exact ic_mi28 h_S_78 (by omega) (by omega)
          have f_S_81_28 : (S_81.1 28).toInt = (v_80 : Int32).toInt := by rw [e_S_81]; rfl
          unfold fr_writeMap_b76
          refine tot_let (fun v_168 e_v_168 => ?_)
          have q_v_168 := i_eq e_v_168
          have r_v_168 := ic_28 h_S_81
          refine tot_let (fun v_169 e_v_169 => ?_)
          have r_v_169 := i_any v_169
          refine tot_if (fun c_174 => ?_) (fun c_174 => ?_)
          · replace c_174 := i_eq c_174
            unfold fr_writeMap_b109
            refine tot_let (fun v_175 e_v_175 => ?_)
            have q_v_175 := i_add e_v_175 (by omega) (by omega)
            refine tot_oif (i_inb (by omega) (by omega)) ?_
            refine tot_let (fun S_176 e_S_176 => ?_)
            have h_S_176 : IC P S_176 := by rw [e_S_176]; exact ic_mf27 h_S_81 _
            have f_S_176_28 : (S_176.1 28).toInt = (S_81.1 28).toInt := by rw [e_S_176]; rfl
            refine tot_let (fun v_177 e_v_177 => ?_)
            have q_v_177 := i_eq e_v_177
            have r_v_177 := ic_28 h_S_176
            refine tot_let (fun v_178 e_v_178 => ?_)
            have q_v_178 := i_add e_v_178 (by omega) (by omega)
            refine tot_let (fun S_179 e_S_179 => ?_)
            have h_S_179 : IC P S_179 := by rw [e_S_179]; exact ic_mi28 h_S_176 (by omega) (by omega)
            have f_S_179_28 : (S_179.1 28).toInt = (v_178 : Int32).toInt := by rw [e_S_179]; rfl
            refine tot_let (fun v_180 e_v_180 => ?_)
            have q_v_180 := i_add e_v_180 (by omega) (by omega)
            have w9 : (v_180.toInt - 1) / (P 9).toInt = l3.toInt / (P 9).toInt := by rw [show v_180.toInt - 1 = l3.toInt from by omega]
            exact ih S_179 v_180 h_S_179 (by omega) (by omega) (by omega)
          · have c_174_ := c_174
            replace c_174 := i_ne c_174
            refine tot_oif (i_inb (by omega) (by omega)) ?_
            refine tot_let (fun v_170 e_v_170 => ?_)
            refine tot_let (fun v_171 e_v_171 => ?_)
            refine tot_oif (fun q_ => c_174_ (by rw [e_v_169, q_]; rfl)) ?_
            refine tot_let (fun v_172 e_v_172 => ?_)
            refine tot_let (fun v_173 e_v_173 => ?_)
            have r_v_173 := i_any v_173
            unfold fr_writeMap_b109
            refine tot_let (fun v_181 e_v_181 => ?_)
            have r_v_181 := i_any v_181
            refine tot_oif (i_inb (by omega) (by omega)) ?_
            refine tot_let (fun S_182 e_S_182 => ?_)
            have h_S_182 : IC P S_182 := by rw [e_S_182]; exact ic_mf27 h_S_81 _
            have f_S_182_28 : (S_182.1 28).toInt = (S_81.1 28).toInt := by rw [e_S_182]; rfl
            refine tot_let (fun v_183 e_v_183 => ?_)
            have q_v_183 := i_eq e_v_183
            have r_v_183 := ic_28 h_S_182
            refine tot_let (fun v_184 e_v_184 => ?_)
            have q_v_184 := i_add e_v_184 (by omega) (by omega)
            refine tot_let (fun S_185 e_S_185 => ?_)
            have h_S_185 : IC P S_185 := by rw [e_S_185]; exact ic_mi28 h_S_182 (by omega) (by omega)
            have f_S_185_28 : (S_185.1 28).toInt = (v_184 : Int32).toInt := by rw [e_S_185]; rfl
            refine tot_let (fun v_186 e_v_186 => ?_)
            have q_v_186 := i_add e_v_186 (by omega) (by omega)
            have w9 : (v_186.toInt - 1) / (P 9).toInt = l3.toInt / (P 9).toInt := by rw [show v_186.toInt - 1 = l3.toInt from by omega]
            exact ih S_185 v_186 h_S_185 (by omega) (by omega) (by omega)
        · replace c_167 := i_ne c_167
          unfold fr_writeMap_b76
          refine tot_let (fun v_187 e_v_187 => ?_)
          have q_v_187 := i_eq e_v_187
          have r_v_187 := ic_28 h_S
          refine tot_let (fun v_188 e_v_188 => ?_)
          have r_v_188 := i_any v_188
          refine tot_if (fun c_193 => ?_) (fun c_193 => ?_)
          · replace c_193 := i_eq c_193
            unfold fr_writeMap_b109
            refine tot_let (fun v_194 e_v_194 => ?_)
            have q_v_194 := i_add e_v_194 (by omega) (by omega)
            refine tot_oif (i_inb (by omega) (by omega)) ?_
            refine tot_let (fun S_195 e_S_195 => ?_)
            have h_S_195 : IC P S_195 := by rw [e_S_195]; exact ic_mf27 h_S _
            have f_S_195_28 : (S_195.1 28).toInt = (S.1 28).toInt := by rw [e_S_195]; rfl
            refine tot_let (fun v_196 e_v_196 => ?_)
            have q_v_196 := i_eq e_v_196
            have r_v_196 := ic_28 h_S_195
            refine tot_let (fun v_197 e_v_197 => ?_)
            have q_v_197 := i_add e_v_197 (by omega) (by omega)
            refine tot_let (fun S_198 e_S_198 => ?_)
            have h_S_198 : IC P S_198 := by rw [e_S_198]; exact ic_mi28 h_S_195 (by omega) (by omega)
            have f_S_198_28 : (S_198.1 28).toInt = (v_197 : Int32).toInt := by rw [e_S_198]; rfl
            refine tot_let (fun v_199 e_v_199 => ?_)
            have q_v_199 := i_add e_v_199 (by omega) (by omega)
            have w9 : (v_199.toInt - 1) / (P 9).toInt = l3.toInt / (P 9).toInt := by rw [show v_199.toInt - 1 = l3.toInt from by omega]
            exact ih S_198 v_199 h_S_198 (by omega) (by omega) (by omega)
          · have c_193_ := c_193
            replace c_193 := i_ne c_193
            refine tot_oif (i_inb (by omega) (by omega)) ?_
            refine tot_let (fun v_189 e_v_189 => ?_)
            refine tot_let (fun v_190 e_v_190 => ?_)
            refine tot_oif (fun q_ => c_193_ (by rw [e_v_188, q_]; rfl)) ?_
            refine tot_let (fun v_191 e_v_191 => ?_)
            refine tot_let (fun v_192 e_v_192 => ?_)
            have r_v_192 := i_any v_192
            unfold fr_writeMap_b109
            refine tot_let (fun v_200 e_v_200 => ?_)
            have r_v_200 := i_any v_200
            refine tot_oif (i_inb (by omega) (by omega)) ?_
            refine tot_let (fun S_201 e_S_201 => ?_)
            have h_S_201 : IC P S_201 := by rw [e_S_201]; exact ic_mf27 h_S _
            have f_S_201_28 : (S_201.1 28).toInt = (S.1 28).toInt := by rw [e_S_201]; rfl
            refine tot_let (fun v_202 e_v_202 => ?_)
            have q_v_202 := i_eq e_v_202
            have r_v_202 := ic_28 h_S_201
            refine tot_let (fun v_203 e_v_203 => ?_)
            have q_v_203 := i_add e_v_203 (by omega) (by omega)
            refine tot_let (fun S_204 e_S_204 => ?_)
            have h_S_204 : IC P S_204 := by rw [e_S_204]; exact ic_mi28 h_S_201 (by omega) (by omega)
            have f_S_204_28 : (S_204.1 28).toInt = (v_203 : Int32).toInt := by rw [e_S_204]; rfl
            refine tot_let (fun v_205 e_v_205 => ?_)
            have q_v_205 := i_add e_v_205 (by omega) (by omega)
            have w9 : (v_205.toInt - 1) / (P 9).toInt = l3.toInt / (P 9).toInt := by rw [show v_205.toInt - 1 = l3.toInt from by omega]
            exact ih S_204 v_205 h_S_204 (by omega) (by omega) (by omega)
set_option maxHeartbeats 4000000 in
set_option maxRecDepth 10000 in
theorem sf_writeMap {P : Nat → Int32} (hP : PL P) (S : MS) (h_S : IC P S) : Tot (fr_writeMap S) (fun r => IC P r.2 ∧ (0 ≤ r.1.toInt ∧ r.1.toInt ≤ 160)) := by
  have z0 : (1 : Int32).toInt = 1 := by decide
  have z1 : (0 : Int32).toInt = 0 := by decide
  unfold fr_writeMap
  refine tot_bind2 (sf_mayAsk hP S 1 h_S (by omega)) (fun r_1 S_2 d_r_1 => ?_)
  have h_S_2 : IC P S_2 := d_r_1.1
  replace d_r_1 : (r_1.toInt = 0 ∨ r_1.toInt = 1 ∧ ¬ (1 : Int32).toInt = 0) := d_r_1.2
  refine tot_if (fun c_7 => ?_) (fun c_7 => ?_)
  · replace c_7 := i_eq c_7
    exact tot_some ⟨h_S_2, (show (0 ≤ (0 : Int32).toInt ∧ (0 : Int32).toInt ≤ 160) from by omega)⟩
  · replace c_7 := i_ne c_7
    refine tot_bind2 (sf_bestIn_12 hP S_2 h_S_2 ) (fun r_3 S_4 d_r_3 => ?_)
    have h_S_4 : IC P S_4 := d_r_3.1
    replace d_r_3 : (0 ≤ r_3.toInt ∧ r_3.toInt ≤ 143) := d_r_3.2
    refine tot_oif (i_inb (by omega) (by omega)) ?_
    refine tot_let (fun v_5 e_v_5 => ?_)
    refine tot_let (fun S_6 e_S_6 => ?_)
    have h_S_6 : IC P S_6 := by rw [e_S_6]; exact ic_mi28 h_S_4 (by omega) (by omega)
    have f_S_6_28 : (S_6.1 28).toInt = (0 : Int32).toInt := by rw [e_S_6]; rfl
    refine lf_writeMap_b31 hP v_5 ?_ 16384 S_6 0 h_S_6 (by omega) (by omega) (by omega)
    · intro S_206 h_S_206
      refine tot_let (fun v__207 e_v__207 => ?_)
      have q_v__207 := i_eq e_v__207
      have r_v__207 := ic_28 h_S_206
      exact tot_some ⟨h_S_206, (show (0 ≤ v__207.toInt ∧ v__207.toInt ≤ 160) from by omega)⟩
set_option maxHeartbeats 4000000 in
set_option maxRecDepth 10000 in
theorem sf_mapByte {P : Nat → Int32} (hP : PL P) (S : MS) (a0 : Int32) (h_S : IC P S) : Tot (fr_mapByte S a0) (fun r => IC P r.2 ∧ True) := by
  have z0 : (1 : Int32).toInt = 1 := by decide
  have z1 : (0 : Int32).toInt = 0 := by decide
  have j_a0 := i_any a0
  unfold fr_mapByte
  refine tot_let (fun v_1 e_v_1 => ?_)
  have q_v_1 := i_eq e_v_1
  have r_v_1 := ic_28 h_S
  refine tot_let (fun v_2 e_v_2 => ?_)
  have q_v_2 := i_sub e_v_2 (by omega) (by omega)
  refine tot_bind (sf_in hP a0 0 v_2  ) (fun r_3 d_r_3 => ?_)
  replace d_r_3 : (r_3.toInt = 0 ∧ (a0.toInt < (0 : Int32).toInt ∨ v_2.toInt < a0.toInt) ∨ r_3.toInt = 1 ∧ (0 : Int32).toInt ≤ a0.toInt ∧ a0.toInt ≤ v_2.toInt) := d_r_3
  refine tot_if (fun c_4 => ?_) (fun c_4 => ?_)
  · replace c_4 := i_eq c_4
    unfold fr_mapByte_b20
    refine tot_let (fun S_5 e_S_5 => ?_)
    have h_S_5 : IC P S_5 := by rw [e_S_5]; exact ic_mi0 h_S _
    have f_S_5_0 : (S_5.1 0).toInt = (1 : Int32).toInt := by rw [e_S_5]; rfl
    refine tot_let (fun v_6 e_v_6 => ?_)
    have q_v_6 := i_eq e_v_6
    have r_v_6 := i_any v_6
    refine tot_if (fun c_8 => ?_) (fun c_8 => ?_)
    · replace c_8 := i_eq c_8
      exfalso
      omega
    · replace c_8 := i_ne c_8
      unfold fr_mapByte_b40
      exact tot_some ⟨h_S_5, trivial⟩
  · replace c_4 := i_ne c_4
    unfold fr_mapByte_b20
    refine tot_let (fun S_9 e_S_9 => ?_)
    have h_S_9 : IC P S_9 := by rw [e_S_9]; exact ic_mi0 h_S _
    have f_S_9_0 : (S_9.1 0).toInt = (0 : Int32).toInt := by rw [e_S_9]; rfl
    refine tot_let (fun v_10 e_v_10 => ?_)
    have q_v_10 := i_eq e_v_10
    have r_v_10 := i_any v_10
    refine tot_if (fun c_12 => ?_) (fun c_12 => ?_)
    · replace c_12 := i_eq c_12
      refine tot_oif (i_inb (by omega) (by omega)) ?_
      refine tot_let (fun v_11 e_v_11 => ?_)
      have r_v_11 := i_any v_11
      unfold fr_mapByte_b40
      exact tot_some ⟨h_S_9, trivial⟩
    · replace c_12 := i_ne c_12
      exfalso
      omega
set_option maxHeartbeats 4000000 in
set_option maxRecDepth 10000 in
theorem sf_sourcePlace_14 {P : Nat → Int32} (hP : PL P) (S : MS) (a1 : Int32) (a2 : Int32) (a3 : Int32) (h_S : IC P S) (g0 : 0 ≤ a1.toInt ∧ a1.toInt ≤ 5) (g1 : 0 ≤ a2.toInt ∧ a2.toInt ≤ 1) (g2 : 0 ≤ a3.toInt ∧ a3.toInt ≤ 199) : Tot (fr_sourcePlace_14 S a1 a2 a3) (fun r => r.2 = S ∧ (-3988 ≤ r.1.toInt ∧ r.1.toInt ≤ 3988)) := by
  have z0 : (0 : Int32).toInt = 0 := by decide
  have z1 : (31 : Int32).toInt = 31 := by decide
  have z2 : (43 : Int32).toInt = 43 := by decide
  have z3 : (100 : Int32).toInt = 100 := by decide
  have z4 : (37 : Int32).toInt = 37 := by decide
  have z5 : (49 : Int32).toInt = 49 := by decide
  have j_a1 := i_any a1
  have j_a2 := i_any a2
  have j_a3 := i_any a3
  unfold fr_sourcePlace_14
  refine tot_if (fun c_15 => ?_) (fun c_15 => ?_)
  · replace c_15 := i_eq c_15
    refine tot_let (fun v_1 e_v_1 => ?_)
    have q_v_1 := i_add e_v_1 (by omega) (by omega)
    refine tot_oif (i_inb (by omega) (by omega)) ?_
    refine tot_let (fun v_2 e_v_2 => ?_)
    have r_v_2 := nR_31 (ic_14 h_S e_v_2) (by omega) (by omega)
    refine tot_let (fun v_3 e_v_3 => ?_)
    have q_v_3 := i_add e_v_3 (by omega) (by omega)
    refine tot_oif (i_inb (by omega) (by omega)) ?_
    refine tot_let (fun v_4 e_v_4 => ?_)
    have r_v_4 := nR_43 (ic_14 h_S e_v_4) (by omega) (by omega)
    refine tot_let (fun v_5 e_v_5 => ?_)
    have q_v_5 := i_mulm (a := -999) (b := 999) (d := 199) e_v_5 (by omega) (by omega) (by omega) (by omega) (by decide)
    refine tot_let (fun v_6 e_v_6 => ?_)
    have q_v_6 := i_divk e_v_6 z3 (by decide)
    refine tot_let (fun v_7 e_v_7 => ?_)
    have q_v_7 := i_add e_v_7 (by omega) (by omega)
    unfold fr_sourcePlace_14_b45
    exact tot_some ⟨rfl, (show (-3988 ≤ v_7.toInt ∧ v_7.toInt ≤ 3988) from by omega)⟩
  · replace c_15 := i_ne c_15
    refine tot_let (fun v_8 e_v_8 => ?_)
    have q_v_8 := i_add e_v_8 (by omega) (by omega)
    refine tot_oif (i_inb (by omega) (by omega)) ?_
    refine tot_let (fun v_9 e_v_9 => ?_)
    have r_v_9 := nR_31 (ic_14 h_S e_v_9) (by omega) (by omega)
    refine tot_let (fun v_10 e_v_10 => ?_)
    have q_v_10 := i_add e_v_10 (by omega) (by omega)
    refine tot_oif (i_inb (by omega) (by omega)) ?_
    refine tot_let (fun v_11 e_v_11 => ?_)
    have r_v_11 := nR_43 (ic_14 h_S e_v_11) (by omega) (by omega)
    refine tot_let (fun v_12 e_v_12 => ?_)
    have q_v_12 := i_mulm (a := -999) (b := 999) (d := 199) e_v_12 (by omega) (by omega) (by omega) (by omega) (by decide)
    refine tot_let (fun v_13 e_v_13 => ?_)
    have q_v_13 := i_divk e_v_13 z3 (by decide)
    refine tot_let (fun v_14 e_v_14 => ?_)
    have q_v_14 := i_add e_v_14 (by omega) (by omega)
    unfold fr_sourcePlace_14_b45
    exact tot_some ⟨rfl, (show (-3988 ≤ v_14.toInt ∧ v_14.toInt ≤ 3988) from by omega)⟩
set_option maxHeartbeats 4000000 in
set_option maxRecDepth 10000 in
theorem lf_rawAt_14_b71 {P : Nat → Int32} (hP : PL P) {Q : Int32 × MS → Prop} (S : MS) (l2 : Int32) (l4 : Int32) (h_S : IC P S) (g0 : 0 ≤ l2.toInt ∧ l2.toInt ≤ 11) (g1 : 0 ≤ l4.toInt ∧ l4.toInt ≤ 199) (hx0 : ∀ (l5 : Int32), Tot (elet (35 + l2) fun v_35 => oif (inb v_35 131 = true) <| elet (S.2.1 10 v_35.toNatClampNeg) fun v_36 => elet (v_36 * l5) fun v_37 => some (v_37, S)) Q) : ∀ (n : Nat) (l5 : Int32) (l6 : Int32), (0 ≤ l6.toInt ∧ l6.toInt ≤ 6) → 6 - l6.toInt < (n : Int) → Tot (fr_rawAt_14_b71 n S l2 l4 l5 l6) Q := by
  have z0 : (25 : Int32).toInt = 25 := by decide
  have z1 : (0 : Int32).toInt = 0 := by decide
  have z2 : (Int32.ofInt (1) : Int32).toInt = 1 := by decide
  have z3 : (1 : Int32).toInt = 1 := by decide
  have p_5 := pl_5 hP
  have j_l2 := i_any l2
  have j_l4 := i_any l4
  intro n
  induction n with
  | zero =>
    intro l5 l6 g_l6 hm
    exfalso
    omega
  | succ n ih =>
    intro l5 l6 g_l6 hm
    unfold fr_rawAt_14_b71
    refine tot_let (fun v_34 e_v_34 => ?_)
    have q_v_34 := ic_p h_S e_v_34
    refine tot_if (fun c_62 => ?_) (fun c_62 => ?_)
    · replace c_62 := i_le c_62
      exact hx0 l5 
    · replace c_62 := i_nle c_62
      refine tot_let (fun v_38 e_v_38 => ?_)
      have q_v_38 := i_add e_v_38 (by omega) (by omega)
      refine tot_oif (i_inb (by omega) (by omega)) ?_
      refine tot_let (fun v_39 e_v_39 => ?_)
      have r_v_39 := nR_25 (ic_14 h_S e_v_39) (by omega) (by omega)
      refine tot_if (fun c_63 => ?_) (fun c_63 => ?_)
      · replace c_63 := i_eq c_63
        unfold fr_rawAt_14_b127
        refine tot_let (fun v_64 e_v_64 => ?_)
        have r_v_64 := i_any v_64
        refine tot_let (fun v_65 e_v_65 => ?_)
        have q_v_65 := i_add e_v_65 (by omega) (by omega)
        exact ih v_64 v_65 (by omega) (by omega)
      · replace c_63 := i_ne c_63
        refine tot_bindp (R := fun r_40 : Int32 => (-3988 ≤ r_40.toInt ∧ r_40.toInt ≤ 3988)) (sf_sourcePlace_14 hP S l6 0 l4 h_S (by omega) (by omega) (by omega)) (fun r_40 d_r_40 => ?_)
        replace d_r_40 : (-3988 ≤ r_40.toInt ∧ r_40.toInt ≤ 3988) := d_r_40
        refine tot_bindp (R := fun r_42 : Int32 => (-3988 ≤ r_42.toInt ∧ r_42.toInt ≤ 3988)) (sf_sourcePlace_14 hP S l6 1 l4 h_S (by omega) (by omega) (by omega)) (fun r_42 d_r_42 => ?_)
        replace d_r_42 : (-3988 ≤ r_42.toInt ∧ r_42.toInt ≤ 3988) := d_r_42
        refine tot_bindp (R := fun r_44 : Int32 => True) (sf_heardOf hP S l2 r_40 r_42 l6 l4 h_S (by omega) (by omega) (by omega) (by omega) (by omega) (by omega)) (fun r_44 d_r_44 => ?_)
        unfold fr_rawAt_14_b127
        refine tot_let (fun v_66 e_v_66 => ?_)
        have r_v_66 := i_any v_66
        refine tot_let (fun v_67 e_v_67 => ?_)
        have q_v_67 := i_add e_v_67 (by omega) (by omega)
        exact ih v_66 v_67 (by omega) (by omega)
set_option maxHeartbeats 4000000 in
set_option maxRecDepth 10000 in
theorem sf_rawAt_14 {P : Nat → Int32} (hP : PL P) (S : MS) (a1 : Int32) (a2 : Int32) (h_S : IC P S) (g0 : 0 ≤ a1.toInt ∧ a1.toInt ≤ 11) (g1 : 0 ≤ a2.toInt ∧ a2.toInt ≤ 199) : Tot (fr_rawAt_14 S a1 a2) (fun r => r.2 = S ∧ True) := by
  have z0 : (83 : Int32).toInt = 83 := by decide
  have z1 : (0 : Int32).toInt = 0 := by decide
  have z2 : ((-1) : Int32).toInt = -1 := by decide
  have z3 : (35 : Int32).toInt = 35 := by decide
  have z4 : (1 : Int32).toInt = 1 := by decide
  have p_5 := pl_5 hP
  have j_a1 := i_any a1
  have j_a2 := i_any a2
  unfold fr_rawAt_14
  refine tot_let (fun v_1 e_v_1 => ?_)
  have q_v_1 := i_add e_v_1 (by omega) (by omega)
  refine tot_oif (i_inb (by omega) (by omega)) ?_
  refine tot_let (fun v_2 e_v_2 => ?_)
  have q_v_2 := ic_p h_S e_v_2
  have r_v_2 := pr_83 hP v_1 (by omega) (by omega)
  refine tot_let (fun v_3 e_v_3 => ?_)
  have q_v_3 := i_sub e_v_3 (by omega) (by omega)
  refine tot_if (fun c_16 => ?_) (fun c_16 => ?_)
  · replace c_16 := i_le c_16
    refine tot_let (fun v_4 e_v_4 => ?_)
    have q_v_4 := i_eq e_v_4
    have r_v_4 := ic_21 h_S
    refine tot_if (fun c_17 => ?_) (fun c_17 => ?_)
    · replace c_17 := i_eq c_17
      refine lf_rawAt_14_b71 hP S a1 v_3 h_S (by omega) (by omega) ?_ 16384 0 0 (by omega) (by omega)
      · intro l_68
        have j_l_68 := i_any l_68
        refine tot_let (fun v__69 e_v__69 => ?_)
        have q_v__69 := i_add e_v__69 (by omega) (by omega)
        refine tot_oif (i_inb (by omega) (by omega)) ?_
        refine tot_let (fun v__70 e_v__70 => ?_)
        have q_v__70 := ic_p h_S e_v__70
        have r_v__70 := pr_35 hP v__69 (by omega) (by omega)
        refine tot_let (fun v__71 e_v__71 => ?_)
        have r_v__71 := i_any v__71
        exact tot_some ⟨rfl, trivial⟩
    · replace c_17 := i_ne c_17
      refine tot_let (fun v_5 e_v_5 => ?_)
      have q_v_5 := i_add e_v_5 (by omega) (by omega)
      refine tot_oif (i_inb (by omega) (by omega)) ?_
      refine tot_let (fun v_6 e_v_6 => ?_)
      have q_v_6 := ic_p h_S e_v_6
      have r_v_6 := pr_35 hP v_5 (by omega) (by omega)
      refine tot_let (fun v_7 e_v_7 => ?_)
      have q_v_7 := i_eq e_v_7
      have r_v_7 := ic_21 h_S
      refine tot_bindp (R := fun r_8 : Int32 => (-999 ≤ r_8.toInt ∧ r_8.toInt ≤ 15156)) (sf_centre hP S v_7 0 h_S (by omega) (by omega)) (fun r_8 d_r_8 => ?_)
      replace d_r_8 : (-999 ≤ r_8.toInt ∧ r_8.toInt ≤ 15156) := d_r_8
      refine tot_let (fun v_10 e_v_10 => ?_)
      have q_v_10 := i_eq e_v_10
      have r_v_10 := ic_21 h_S
      refine tot_bindp (R := fun r_11 : Int32 => (-999 ≤ r_11.toInt ∧ r_11.toInt ≤ 15156)) (sf_centre hP S v_10 1 h_S (by omega) (by omega)) (fun r_11 d_r_11 => ?_)
      replace d_r_11 : (-999 ≤ r_11.toInt ∧ r_11.toInt ≤ 15156) := d_r_11
      refine tot_bindp (R := fun r_13 : Int32 => True) (sf_heardOf hP S a1 r_8 r_11 0 v_3 h_S (by omega) (by omega) (by omega) (by omega) (by omega) (by omega)) (fun r_13 d_r_13 => ?_)
      refine tot_let (fun v_15 e_v_15 => ?_)
      have r_v_15 := i_any v_15
      exact tot_some ⟨rfl, trivial⟩
  · replace c_16 := i_nle c_16
    exact tot_some ⟨rfl, trivial⟩
set_option maxHeartbeats 4000000 in
set_option maxRecDepth 10000 in
theorem lf_records_14_b18 {P : Nat → Int32} (hP : PL P) {Q : MS → Prop} {k6 : MS → Int32 → Option (MS)} (l2 : Int32) (g0 : 0 ≤ l2.toInt ∧ l2.toInt ≤ 11) (hx0 : ∀ (S : MS), (IC P S) → Tot (fr_records_14_b49 k6 16384 S l2 0) Q) : ∀ (n : Nat) (S : MS) (l3 : Int32), (IC P S) → (0 ≤ l3.toInt ∧ l3.toInt ≤ 200) → 200 - l3.toInt < (n : Int) → Tot (fr_records_14_b18 k6 n S l2 l3) Q := by
  have z0 : (Int32.ofInt (1) : Int32).toInt = 1 := by decide
  have p_2 := pl_2 hP
  have j_l2 := i_any l2
  intro n
  induction n with
  | zero =>
    intro S l3 h_S g_l3 hm
    exfalso
    omega
  | succ n ih =>
    intro S l3 h_S g_l3 hm
    unfold fr_records_14_b18
    refine tot_let (fun v_75 e_v_75 => ?_)
    have q_v_75 := ic_p h_S e_v_75
    refine tot_if (fun c_98 => ?_) (fun c_98 => ?_)
    · replace c_98 := i_le c_98
      exact hx0 S h_S
    · replace c_98 := i_nle c_98
      refine tot_bindp (R := fun r_76 : Int32 => True) (sf_rawAt_14 hP S l2 l3 h_S (by omega) (by omega)) (fun r_76 d_r_76 => ?_)
      refine tot_oif (i_inb (by omega) (by omega)) ?_
      refine tot_let (fun S_78 e_S_78 => ?_)
      have h_S_78 : IC P S_78 := by rw [e_S_78]; exact ic_mf23 h_S _
      refine tot_let (fun v_79 e_v_79 => ?_)
      have q_v_79 := i_add e_v_79 (by omega) (by omega)
      exact ih S_78 v_79 h_S_78 (by omega) (by omega)
set_option maxHeartbeats 4000000 in
set_option maxRecDepth 10000 in
theorem lf_records_14_b49 {P : Nat → Int32} (hP : PL P) {Q : MS → Prop} {k6 : MS → Int32 → Option (MS)} (l2 : Int32) (g0 : 0 ≤ l2.toInt ∧ l2.toInt ≤ 11) (hx0 : ∀ (S : MS), (IC P S) → Tot (elet (l2 + Int32.ofInt (1)) fun v_101 => k6 S v_101) Q) : ∀ (n : Nat) (S : MS) (l3 : Int32), (IC P S) → (0 ≤ l3.toInt ∧ l3.toInt ≤ 200) → 200 - l3.toInt < (n : Int) → Tot (fr_records_14_b49 k6 n S l2 l3) Q := by
  have z0 : (200 : Int32).toInt = 200 := by decide
  have z1 : (55 : Int32).toInt = 55 := by decide
  have z2 : (Int32.ofInt (1) : Int32).toInt = 1 := by decide
  have p_2 := pl_2 hP
  have j_l2 := i_any l2
  intro n
  induction n with
  | zero =>
    intro S l3 h_S g_l3 hm
    exfalso
    omega
  | succ n ih =>
    intro S l3 h_S g_l3 hm
    unfold fr_records_14_b49
    refine tot_let (fun v_100 e_v_100 => ?_)
    have q_v_100 := ic_p h_S e_v_100
    refine tot_if (fun c_122 => ?_) (fun c_122 => ?_)
    · replace c_122 := i_le c_122
      exact hx0 S h_S
    · replace c_122 := i_nle c_122
      refine tot_let (fun v_102 e_v_102 => ?_)
      have q_v_102 := i_mulk e_v_102 z0 (by omega) (by omega)
      refine tot_let (fun v_103 e_v_103 => ?_)
      have q_v_103 := i_add e_v_103 (by omega) (by omega)
      refine tot_let (fun v_104 e_v_104 => ?_)
      have q_v_104 := i_add e_v_104 (by omega) (by omega)
      refine tot_bindp (R := fun r_105 : Int32 => True) (sf_filtered hP S l3 h_S (by omega)) (fun r_105 d_r_105 => ?_)
      refine tot_bindp (R := fun r_107 : Int32 => (-9999 ≤ r_107.toInt ∧ r_107.toInt ≤ 9999)) (sf_bounded hP S r_105 h_S ) (fun r_107 d_r_107 => ?_)
      replace d_r_107 : (-9999 ≤ r_107.toInt ∧ r_107.toInt ≤ 9999) := d_r_107
      refine tot_oif (i_inb (by omega) (by omega)) ?_
      refine tot_let (fun S_109 e_S_109 => ?_)
      have h_S_109 : IC P S_109 := by rw [e_S_109]; exact ic_mf14 h_S (nR_w (by omega) (by omega))
      refine tot_let (fun v_110 e_v_110 => ?_)
      have q_v_110 := i_add e_v_110 (by omega) (by omega)
      exact ih S_109 v_110 h_S_109 (by omega) (by omega)
set_option maxHeartbeats 4000000 in
set_option maxRecDepth 10000 in
theorem lf_records_14_b6 {P : Nat → Int32} (hP : PL P) {Q : MS → Prop} (hx0 : ∀ (S : MS), (IC P S) → Tot (some (S)) Q) : ∀ (n : Nat) (S : MS) (l2 : Int32), (IC P S) → (0 ≤ l2.toInt ∧ l2.toInt ≤ 12) → 12 - l2.toInt < (n : Int) → Tot (fr_records_14_b6 n S l2) Q := by
  have z0 : (0 : Int32).toInt = 0 := by decide
  have z1 : (Int32.ofInt (1) : Int32).toInt = 1 := by decide
  have p_4 := pl_4 hP
  intro n
  induction n with
  | zero =>
    intro S l2 h_S g_l2 hm
    exfalso
    omega
  | succ n ih =>
    intro S l2 h_S g_l2 hm
    unfold fr_records_14_b6
    refine tot_let (fun v_52 e_v_52 => ?_)
    have q_v_52 := ic_p h_S e_v_52
    refine tot_if (fun c_74 => ?_) (fun c_74 => ?_)
    · replace c_74 := i_le c_74
      exact hx0 S h_S
    · replace c_74 := i_nle c_74
      refine lf_records_14_b18 hP l2 (by omega) ?_ 16384 S 0 h_S (by omega) (by omega)
      · intro S_99 h_S_99
        refine lf_records_14_b49 hP l2 (by omega) ?_ 16384 S_99 0 h_S_99 (by omega) (by omega)
        · intro S_123 h_S_123
          refine tot_let (fun v__124 e_v__124 => ?_)
          have q_v__124 := i_add e_v__124 (by omega) (by omega)
          exact ih S_123 v__124 h_S_123 (by omega) (by omega)
set_option maxHeartbeats 4000000 in
set_option maxRecDepth 10000 in
theorem sf_records_14 {P : Nat → Int32} (hP : PL P) (S : MS) (h_S : IC P S) : Tot (fr_records_14 S) (fun S1 => IC P S1 ∧ True) := by
  have z0 : (0 : Int32).toInt = 0 := by decide
  unfold fr_records_14
  refine tot_let (fun S_1 e_S_1 => ?_)
  have h_S_1 : IC P S_1 := by rw [e_S_1]; exact ic_mf14 h_S (nR_0 _)
  refine lf_records_14_b6 hP  ?_ 16384 S_1 0 h_S_1 (by omega) (by omega)
  · intro S_125 h_S_125
    exact tot_some ⟨h_S_125, trivial⟩
set_option maxHeartbeats 4000000 in
set_option maxRecDepth 10000 in
theorem sf_recordsPoint_14 {P : Nat → Int32} (hP : PL P) (S : MS) (a1 : Int32) (a2 : Int32) (h_S : IC P S) (g0 : 0 ≤ a1.toInt ∧ a1.toInt ≤ 143) (g1 : 2 ≤ a2.toInt ∧ a2.toInt ≤ 99) : Tot (fr_recordsPoint_14 S a1 a2) (fun S1 => IC P S1 ∧ True) := by
  have z0 : ((-1) : Int32).toInt = -1 := by decide
  have j_a1 := i_any a1
  have j_a2 := i_any a2
  unfold fr_recordsPoint_14
  refine tot_let (fun S_1 e_S_1 => ?_)
  refine tot_let (fun S_2 e_S_2 => ?_)
  have h_S_2 : IC P S_2 := by rw [e_S_2, e_S_1]; exact ic_mi21_22 h_S (by omega)
  refine tot_bind (sf_records_14 hP S_2 h_S_2 ) (fun S_3 d_S_3 => ?_)
  have h_S_3 : IC P S_3 := d_S_3.1
  refine tot_let (fun S_4 e_S_4 => ?_)
  have h_S_4 : IC P S_4 := by rw [e_S_4]; exact ic_mi21 h_S_3 (by omega)
  exact tot_some ⟨h_S_4, trivial⟩
set_option maxHeartbeats 4000000 in
set_option maxRecDepth 10000 in
theorem sf_hears_14 {P : Nat → Int32} (hP : PL P) (S : MS) (a1 : Int32) (h_S : IC P S) (g0 : 0 ≤ a1.toInt ∧ a1.toInt ≤ 11) : Tot (fr_hears_14 S a1) (fun r => r.2 = S ∧ (0 ≤ r.1.toInt ∧ r.1.toInt ≤ 1)) := by
  have z0 : (1 : Int32).toInt = 1 := by decide
  have z1 : (0 : Int32).toInt = 0 := by decide
  have j_a1 := i_any a1
  unfold fr_hears_14
  refine tot_let (fun v_1 e_v_1 => ?_)
  have q_v_1 := i_add e_v_1 (by omega) (by omega)
  refine tot_oif (i_inb (by omega) (by omega)) ?_
  refine tot_let (fun v_2 e_v_2 => ?_)
  have r_v_2 := nR_1 (ic_14 h_S e_v_2) (by omega) (by omega)
  refine tot_if (fun c_3 => ?_) (fun c_3 => ?_)
  · replace c_3 := i_eq c_3
    unfold fr_hears_14_b13
    refine tot_oif (i_b01 (by omega)) ?_
    exact tot_some ⟨rfl, (show (0 ≤ (1 : Int32).toInt ∧ (1 : Int32).toInt ≤ 1) from by omega)⟩
  · replace c_3 := i_ne c_3
    unfold fr_hears_14_b13
    refine tot_oif (i_b01 (by omega)) ?_
    exact tot_some ⟨rfl, (show (0 ≤ (0 : Int32).toInt ∧ (0 : Int32).toInt ≤ 1) from by omega)⟩
set_option maxHeartbeats 4000000 in
set_option maxRecDepth 10000 in
theorem lf_windowOf_14_b4 {P : Nat → Int32} (hP : PL P) {Q : Int32 × MS → Prop} (S : MS) (h_S : IC P S) (hx0 : ∀ (l2 : Int32), (0 ≤ l2.toInt ∧ l2.toInt ≤ 65535) → Tot (elet (S.2.1 10 2) fun v_12 => elet (v_12 - l2) fun v_13 => elet (if 0 < v_13 then v_13 else 0) fun v_14 => some (v_14, S)) Q) : ∀ (n : Nat) (l2 : Int32) (l3 : Int32), (0 ≤ l2.toInt ∧ l2.toInt ≤ 65535) → (0 ≤ l3.toInt ∧ l3.toInt ≤ 12) → 12 - l3.toInt < (n : Int) → Tot (fr_windowOf_14_b4 n S l2 l3) Q := by
  have z0 : (0 : Int32).toInt = 0 := by decide
  have z1 : (Int32.ofInt (1) : Int32).toInt = 1 := by decide
  have p_4 := pl_4 hP
  intro n
  induction n with
  | zero =>
    intro l2 l3 g_l2 g_l3 hm
    exfalso
    omega
  | succ n ih =>
    intro l2 l3 g_l2 g_l3 hm
    unfold fr_windowOf_14_b4
    refine tot_let (fun v_11 e_v_11 => ?_)
    have q_v_11 := ic_p h_S e_v_11
    refine tot_if (fun c_29 => ?_) (fun c_29 => ?_)
    · replace c_29 := i_le c_29
      exact hx0 l2 (by omega)
    · replace c_29 := i_nle c_29
      refine tot_bindp (R := fun r_15 : Int32 => (0 ≤ r_15.toInt ∧ r_15.toInt ≤ 1)) (sf_hears_14 hP S l3 h_S (by omega)) (fun r_15 d_r_15 => ?_)
      replace d_r_15 : (0 ≤ r_15.toInt ∧ r_15.toInt ≤ 1) := d_r_15
      refine tot_if (fun c_30 => ?_) (fun c_30 => ?_)
      · replace c_30 := i_eq c_30
        unfold fr_windowOf_14_b37
        refine tot_let (fun v_31 e_v_31 => ?_)
        have q_v_31 := i_add e_v_31 (by omega) (by omega)
        exact ih l2 v_31 (by omega) (by omega) (by omega)
      · replace c_30 := i_ne c_30
        refine tot_oif (i_inb (by omega) (by omega)) ?_
        refine tot_let (fun v_17 e_v_17 => ?_)
        have r_v_17 := ic_24 h_S e_v_17
        refine tot_let (fun v_18 e_v_18 => ?_)
        have q_v_18 := i_ilt e_v_18
        unfold fr_windowOf_14_b37
        refine tot_let (fun v_32 e_v_32 => ?_)
        have q_v_32 := i_add e_v_32 (by omega) (by omega)
        exact ih v_18 v_32 (by omega) (by omega) (by omega)
set_option maxHeartbeats 4000000 in
set_option maxRecDepth 10000 in
theorem sf_windowOf_14 {P : Nat → Int32} (hP : PL P) (S : MS) (h_S : IC P S) : Tot (fr_windowOf_14 S) (fun r => r.2 = S ∧ (0 ≤ r.1.toInt ∧ r.1.toInt ≤ 200)) := by
  have z0 : (0 : Int32).toInt = 0 := by decide
  have p_2 := pl_2 hP
  unfold fr_windowOf_14
  refine lf_windowOf_14_b4 hP S h_S ?_ 16384 0 0 (by omega) (by omega) (by omega)
  · intro l_33 g_l_33
    refine tot_let (fun v__34 e_v__34 => ?_)
    have q_v__34 := ic_p h_S e_v__34
    refine tot_let (fun v__35 e_v__35 => ?_)
    have q_v__35 := i_sub e_v__35 (by omega) (by omega)
    refine tot_let (fun v__36 e_v__36 => ?_)
    have q_v__36 := i_ilt e_v__36
    exact tot_some ⟨rfl, (show (0 ≤ v__36.toInt ∧ v__36.toInt ≤ 200) from by omega)⟩
set_option maxHeartbeats 4000000 in
set_option maxRecDepth 10000 in
theorem lf_beamAt_14_b5 {P : Nat → Int32} (hP : PL P) {Q : Int32 × MS → Prop} (S : MS) (l2 : Int32) (h_S : IC P S) (g0 : 0 ≤ l2.toInt ∧ l2.toInt ≤ 199) (hx0 : ∀ (l3 : Int32), Tot (some (l3, S)) Q) : ∀ (n : Nat) (l3 : Int32) (l4 : Int32), (0 ≤ l4.toInt ∧ l4.toInt ≤ 12) → 12 - l4.toInt < (n : Int) → Tot (fr_beamAt_14_b5 n S l2 l3 l4) Q := by
  have z0 : (0 : Int32).toInt = 0 := by decide
  have z1 : (Int32.ofInt (1) : Int32).toInt = 1 := by decide
  have z2 : (13 : Int32).toInt = 13 := by decide
  have z3 : (200 : Int32).toInt = 200 := by decide
  have z4 : (55 : Int32).toInt = 55 := by decide
  have p_2 := pl_2 hP
  have p_4 := pl_4 hP
  have j_l2 := i_any l2
  intro n
  induction n with
  | zero =>
    intro l3 l4 g_l4 hm
    exfalso
    omega
  | succ n ih =>
    intro l3 l4 g_l4 hm
    unfold fr_beamAt_14_b5
    refine tot_let (fun v_22 e_v_22 => ?_)
    have q_v_22 := ic_p h_S e_v_22
    refine tot_if (fun c_58 => ?_) (fun c_58 => ?_)
    · replace c_58 := i_le c_58
      exact hx0 l3 
    · replace c_58 := i_nle c_58
      refine tot_bindp (R := fun r_23 : Int32 => (0 ≤ r_23.toInt ∧ r_23.toInt ≤ 1)) (sf_hears_14 hP S l4 h_S (by omega)) (fun r_23 d_r_23 => ?_)
      replace d_r_23 : (0 ≤ r_23.toInt ∧ r_23.toInt ≤ 1) := d_r_23
      refine tot_if (fun c_59 => ?_) (fun c_59 => ?_)
      · replace c_59 := i_eq c_59
        unfold fr_beamAt_14_b77
        unfold fr_beamAt_14_b78
        refine tot_let (fun v_60 e_v_60 => ?_)
        have r_v_60 := i_any v_60
        refine tot_let (fun v_61 e_v_61 => ?_)
        have q_v_61 := i_add e_v_61 (by omega) (by omega)
        exact ih v_60 v_61 (by omega) (by omega)
      · replace c_59 := i_ne c_59
        refine tot_oif (i_inb (by omega) (by omega)) ?_
        refine tot_let (fun v_25 e_v_25 => ?_)
        have r_v_25 := ic_24 h_S e_v_25
        refine tot_let (fun v_26 e_v_26 => ?_)
        have q_v_26 := i_add e_v_26 (by omega) (by omega)
        refine tot_let (fun v_27 e_v_27 => ?_)
        have q_v_27 := ic_p h_S e_v_27
        refine tot_if (fun c_62 => ?_) (fun c_62 => ?_)
        · replace c_62 := i_le c_62
          unfold fr_beamAt_14_b77
          unfold fr_beamAt_14_b78
          refine tot_let (fun v_63 e_v_63 => ?_)
          have r_v_63 := i_any v_63
          refine tot_let (fun v_64 e_v_64 => ?_)
          have q_v_64 := i_add e_v_64 (by omega) (by omega)
          exact ih v_63 v_64 (by omega) (by omega)
        · replace c_62 := i_nle c_62
          refine tot_let (fun v_28 e_v_28 => ?_)
          have q_v_28 := i_add e_v_28 (by omega) (by omega)
          refine tot_oif (i_inb (by omega) (by omega)) ?_
          refine tot_let (fun v_29 e_v_29 => ?_)
          have r_v_29 := nR_13 (ic_14 h_S e_v_29) (by omega) (by omega)
          refine tot_let (fun v_30 e_v_30 => ?_)
          have q_v_30 := i_mulk e_v_30 z3 (by omega) (by omega)
          refine tot_let (fun v_31 e_v_31 => ?_)
          have q_v_31 := i_add e_v_31 (by omega) (by omega)
          refine tot_let (fun v_32 e_v_32 => ?_)
          have q_v_32 := i_add e_v_32 (by omega) (by omega)
          refine tot_oif (i_inb (by omega) (by omega)) ?_
          refine tot_let (fun v_33 e_v_33 => ?_)
          have r_v_33 := ic_24 h_S e_v_33
          have u_v_33 : v_33.toInt = v_25.toInt := by rw [e_v_33, e_v_25]
          refine tot_let (fun v_34 e_v_34 => ?_)
          have q_v_34 := i_add e_v_34 (by omega) (by omega)
          refine tot_oif (i_inb (by omega) (by omega)) ?_
          refine tot_let (fun v_35 e_v_35 => ?_)
          have r_v_35 := i_any v_35
          refine tot_let (fun v_36 e_v_36 => ?_)
          have r_v_36 := i_any v_36
          unfold fr_beamAt_14_b78
          refine tot_let (fun v_65 e_v_65 => ?_)
          have r_v_65 := i_any v_65
          refine tot_let (fun v_66 e_v_66 => ?_)
          have q_v_66 := i_add e_v_66 (by omega) (by omega)
          exact ih v_65 v_66 (by omega) (by omega)
set_option maxHeartbeats 4000000 in
set_option maxRecDepth 10000 in
theorem sf_beamAt_14 {P : Nat → Int32} (hP : PL P) (S : MS) (a1 : Int32) (h_S : IC P S) (g0 : 0 ≤ a1.toInt ∧ a1.toInt ≤ 199) : Tot (fr_beamAt_14 S a1) (fun r => r.2 = S ∧ True) := by
  have z0 : (0 : Int32).toInt = 0 := by decide
  have j_a1 := i_any a1
  unfold fr_beamAt_14
  refine lf_beamAt_14_b5 hP S a1 h_S (by omega) ?_ 16384 0 0 (by omega) (by omega)
  · intro l_67
    have j_l_67 := i_any l_67
    exact tot_some ⟨rfl, trivial⟩
set_option maxHeartbeats 4000000 in
set_option maxRecDepth 10000 in
theorem lf_energy_14_b6 {P : Nat → Int32} (hP : PL P) {Q : Int64 × MS → Prop} (S : MS) (l3 : Int32) (h_S : IC P S) (g0 : 1 ≤ l3.toInt ∧ l3.toInt ≤ 200) (hx0 : ∀ (l4 : Int64), Tot (some (l4, S)) Q) : ∀ (n : Nat) (l4 : Int64) (l6 : Int32), (0 ≤ l6.toInt ∧ l6.toInt ≤ 200) → 200 - l6.toInt < (n : Int) → Tot (fr_energy_14_b6 n S l3 l4 l6) Q := by
  have z0 : (Int32.ofInt (1) : Int32).toInt = 1 := by decide
  have j_l3 := i_any l3
  intro n
  induction n with
  | zero =>
    intro l4 l6 g_l6 hm
    exfalso
    omega
  | succ n ih =>
    intro l4 l6 g_l6 hm
    unfold fr_energy_14_b6
    refine tot_if (fun c_19 => ?_) (fun c_19 => ?_)
    · replace c_19 := i_le c_19
      exact hx0 l4 
    · replace c_19 := i_nle c_19
      refine tot_bindp (R := fun r_7 : Int32 => True) (sf_beamAt_14 hP S l6 h_S (by omega)) (fun r_7 d_r_7 => ?_)
      refine tot_let (fun v_9 e_v_9 => ?_)
      refine tot_let (fun v_10 e_v_10 => ?_)
      refine tot_let (fun v_11 e_v_11 => ?_)
      refine tot_let (fun v_12 e_v_12 => ?_)
      have q_v_12 := i_add e_v_12 (by omega) (by omega)
      exact ih v_11 v_12 (by omega) (by omega)
set_option maxHeartbeats 4000000 in
set_option maxRecDepth 10000 in
theorem sf_energy_14 {P : Nat → Int32} (hP : PL P) (S : MS) (a1 : Int32) (a2 : Int32) (h_S : IC P S) (g0 : 0 ≤ a1.toInt ∧ a1.toInt ≤ 0) (g1 : 1 ≤ a2.toInt ∧ a2.toInt ≤ 200) : Tot (fr_energy_14 S a1 a2) (fun r => r.2 = S ∧ True) := by
  have j_a1 := i_any a1
  have j_a2 := i_any a2
  unfold fr_energy_14
  refine lf_energy_14_b6 hP S a2 h_S (by omega) ?_ 16384 (0 : Int64) a1 (by omega) (by omega)
  · intro l_20
    exact tot_some ⟨rfl, trivial⟩
set_option maxHeartbeats 4000000 in
set_option maxRecDepth 10000 in
theorem sf_powerHere_14 {P : Nat → Int32} (hP : PL P) (S : MS) (h_S : IC P S) : Tot (fr_powerHere_14 S) (fun r => r.2 = S ∧ True) := by
  have z0 : (0 : Int32).toInt = 0 := by decide
  unfold fr_powerHere_14
  refine tot_bindp (R := fun r_1 : Int32 => (0 ≤ r_1.toInt ∧ r_1.toInt ≤ 200)) (sf_windowOf_14 hP S h_S ) (fun r_1 d_r_1 => ?_)
  replace d_r_1 : (0 ≤ r_1.toInt ∧ r_1.toInt ≤ 200) := d_r_1
  refine tot_if (fun c_7 => ?_) (fun c_7 => ?_)
  · replace c_7 := i_eq c_7
    unfold fr_powerHere_14_b24
    exact tot_some ⟨rfl, trivial⟩
  · replace c_7 := i_ne c_7
    refine tot_bindp (R := fun r_3 : Int64 => True) (sf_energy_14 hP S 0 r_1 h_S (by omega) (by omega)) (fun r_3 d_r_3 => ?_)
    refine tot_let (fun v_5 e_v_5 => ?_)
    refine tot_oif (by rw [e_v_5]; exact i_nz64 (by omega)) ?_
    refine tot_let (fun v_6 e_v_6 => ?_)
    unfold fr_powerHere_14_b24
    exact tot_some ⟨rfl, trivial⟩
set_option maxHeartbeats 4000000 in
set_option maxRecDepth 10000 in
theorem sf_powerOf_14 {P : Nat → Int32} (hP : PL P) (S : MS) (a1 : Int32) (h_S : IC P S) (g0 : 0 ≤ a1.toInt ∧ a1.toInt ≤ 143) : Tot (fr_powerOf_14 S a1) (fun r => IC P r.2 ∧ True) := by
  have j_a1 := i_any a1
  unfold fr_powerOf_14
  refine tot_bind (sf_laysCell hP S a1 h_S (by omega)) (fun S_1 d_S_1 => ?_)
  have h_S_1 : IC P S_1 := d_S_1.1
  refine tot_bindp (R := fun r_2 : Int64 => True) (sf_powerHere_14 hP S_1 h_S_1 ) (fun r_2 d_r_2 => ?_)
  exact tot_some ⟨h_S_1, trivial⟩
set_option maxHeartbeats 4000000 in
set_option maxRecDepth 10000 in
theorem lf_laysPowers_14_b2 {P : Nat → Int32} (hP : PL P) {Q : MS → Prop} (hx0 : ∀ (S : MS), (IC P S) → Tot (some (S)) Q) : ∀ (n : Nat) (S : MS) (l2 : Int32), (IC P S) → (0 ≤ l2.toInt ∧ l2.toInt ≤ 144) → 144 - l2.toInt < (n : Int) → Tot (fr_laysPowers_14_b2 n S l2) Q := by
  have z0 : (Int32.ofInt (1) : Int32).toInt = 1 := by decide
  have p_9 := pl_9 hP
  have p_10 := pl_10 hP
  have p_cells := pl_cells hP
  intro n
  induction n with
  | zero =>
    intro S l2 h_S g_l2 hm
    exfalso
    omega
  | succ n ih =>
    intro S l2 h_S g_l2 hm
    unfold fr_laysPowers_14_b2
    refine tot_bindp (R := fun r_7 : Int32 => ((1 ≤ r_7.toInt ∧ r_7.toInt ≤ 144) ∧ r_7.toInt = (P 9).toInt * (P 10).toInt)) (sf_cellCount hP S h_S ) (fun r_7 d_r_7 => ?_)
    replace d_r_7 : ((1 ≤ r_7.toInt ∧ r_7.toInt ≤ 144) ∧ r_7.toInt = (P 9).toInt * (P 10).toInt) := d_r_7
    refine tot_if (fun c_19 => ?_) (fun c_19 => ?_)
    · replace c_19 := i_le c_19
      exact hx0 S h_S
    · replace c_19 := i_nle c_19
      refine tot_bind2 (sf_powerOf_14 hP S l2 h_S (by omega)) (fun r_9 S_10 d_r_9 => ?_)
      have h_S_10 : IC P S_10 := d_r_9.1
      refine tot_oif (i_inb (by omega) (by omega)) ?_
      refine tot_let (fun S_11 e_S_11 => ?_)
      have h_S_11 : IC P S_11 := by rw [e_S_11]; exact ic_mg25 h_S_10 _
      refine tot_let (fun v_12 e_v_12 => ?_)
      have q_v_12 := i_add e_v_12 (by omega) (by omega)
      exact ih S_11 v_12 h_S_11 (by omega) (by omega)
set_option maxHeartbeats 4000000 in
set_option maxRecDepth 10000 in
theorem sf_laysPowers_14 {P : Nat → Int32} (hP : PL P) (S : MS) (h_S : IC P S) : Tot (fr_laysPowers_14 S) (fun S1 => IC P S1 ∧ True) := by
  have z0 : (0 : Int32).toInt = 0 := by decide
  unfold fr_laysPowers_14
  refine lf_laysPowers_14_b2 hP  ?_ 16384 S 0 h_S (by omega) (by omega)
  · intro S_20 h_S_20
    exact tot_some ⟨h_S_20, trivial⟩
set_option maxHeartbeats 4000000 in
set_option maxRecDepth 10000 in
theorem lf_bestIn_14_b9 {P : Nat → Int32} (hP : PL P) {Q : Int32 × MS → Prop} (hx0 : ∀ (S : MS) (l2 : Int32), (IC P S) → (0 ≤ l2.toInt ∧ l2.toInt ≤ 143) → Tot (some (l2, S)) Q) : ∀ (n : Nat) (S : MS) (l2 : Int32) (l3 : Int32), (IC P S) → (0 ≤ l2.toInt ∧ l2.toInt ≤ 143) → (1 ≤ l3.toInt ∧ l3.toInt ≤ 144) → 144 - l3.toInt < (n : Int) → Tot (fr_bestIn_14_b9 n S l2 l3) Q := by
  have z0 : (0 : Int32).toInt = 0 := by decide
  have z1 : (Int32.ofInt (1) : Int32).toInt = 1 := by decide
  have p_9 := pl_9 hP
  have p_10 := pl_10 hP
  have p_cells := pl_cells hP
  intro n
  induction n with
  | zero =>
    intro S l2 l3 h_S g_l2 g_l3 hm
    exfalso
    omega
  | succ n ih =>
    intro S l2 l3 h_S g_l2 g_l3 hm
    unfold fr_bestIn_14_b9
    refine tot_bindp (R := fun r_9 : Int32 => ((1 ≤ r_9.toInt ∧ r_9.toInt ≤ 144) ∧ r_9.toInt = (P 9).toInt * (P 10).toInt)) (sf_cellCount hP S h_S ) (fun r_9 d_r_9 => ?_)
    replace d_r_9 : ((1 ≤ r_9.toInt ∧ r_9.toInt ≤ 144) ∧ r_9.toInt = (P 9).toInt * (P 10).toInt) := d_r_9
    refine tot_if (fun c_21 => ?_) (fun c_21 => ?_)
    · replace c_21 := i_le c_21
      exact hx0 S l2 h_S (by omega)
    · replace c_21 := i_nle c_21
      refine tot_oif (i_inb (by omega) (by omega)) ?_
      refine tot_let (fun v_11 e_v_11 => ?_)
      refine tot_oif (i_inb (by omega) (by omega)) ?_
      refine tot_let (fun v_12 e_v_12 => ?_)
      refine tot_let (fun v_13 e_v_13 => ?_)
      have r_v_13 := i_any v_13
      refine tot_if (fun c_22 => ?_) (fun c_22 => ?_)
      · replace c_22 := i_le c_22
        unfold fr_bestIn_14_b38
        refine tot_let (fun v_23 e_v_23 => ?_)
        have q_v_23 := i_add e_v_23 (by omega) (by omega)
        exact ih S l2 v_23 h_S (by omega) (by omega) (by omega)
      · replace c_22 := i_nle c_22
        unfold fr_bestIn_14_b38
        refine tot_let (fun v_24 e_v_24 => ?_)
        have q_v_24 := i_add e_v_24 (by omega) (by omega)
        exact ih S l3 v_24 h_S (by omega) (by omega) (by omega)
set_option maxHeartbeats 4000000 in
set_option maxRecDepth 10000 in
theorem sf_bestIn_14 {P : Nat → Int32} (hP : PL P) (S : MS) (h_S : IC P S) : Tot (fr_bestIn_14 S) (fun r => IC P r.2 ∧ (0 ≤ r.1.toInt ∧ r.1.toInt ≤ 143)) := by
  have z0 : (0 : Int32).toInt = 0 := by decide
  have z1 : (1 : Int32).toInt = 1 := by decide
  unfold fr_bestIn_14
  refine tot_bind (sf_laysPowers_14 hP S h_S ) (fun S_1 d_S_1 => ?_)
  have h_S_1 : IC P S_1 := d_S_1.1
  refine lf_bestIn_14_b9 hP  ?_ 16384 S_1 0 1 h_S_1 (by omega) (by omega) (by omega)
  · intro S_25 l_26 h_S_25 g_l_26
    exact tot_some ⟨h_S_25, (show (0 ≤ l_26.toInt ∧ l_26.toInt ≤ 143) from by omega)⟩
set_option maxHeartbeats 4000000 in
set_option maxRecDepth 10000 in
theorem sf_pointBest {P : Nat → Int32} (hP : PL P) (S : MS) (a0 : Int32) (a1 : Int32) (h_S : IC P S) : Tot (fr_pointBest S a0 a1) (fun r => IC P r.2 ∧ (0 ≤ r.1.toInt ∧ r.1.toInt ≤ 143)) := by
  have z0 : (0 : Int32).toInt = 0 := by decide
  have z1 : (3 : Int32).toInt = 3 := by decide
  have p_9 := pl_9 hP
  have p_10 := pl_10 hP
  have p_cells := pl_cells hP
  have j_a0 := i_any a0
  have j_a1 := i_any a1
  unfold fr_pointBest
  refine tot_bindp (R := fun r_1 : Int32 => (r_1.toInt = 0 ∨ r_1.toInt = 1 ∧ (0 ≤ a0.toInt ∧ a0.toInt ≤ 143) ∧ a0.toInt < (P 9).toInt * (P 10).toInt)) (sf_isCell hP S a0 h_S ) (fun r_1 d_r_1 => ?_)
  replace d_r_1 : (r_1.toInt = 0 ∨ r_1.toInt = 1 ∧ (0 ≤ a0.toInt ∧ a0.toInt ≤ 143) ∧ a0.toInt < (P 9).toInt * (P 10).toInt) := d_r_1
  refine tot_bind2 (sf_mayAsk hP S r_1 h_S (by omega)) (fun r_3 S_4 d_r_3 => ?_)
  have h_S_4 : IC P S_4 := d_r_3.1
  replace d_r_3 : (r_3.toInt = 0 ∨ r_3.toInt = 1 ∧ ¬ r_1.toInt = 0) := d_r_3.2
  refine tot_if (fun c_12 => ?_) (fun c_12 => ?_)
  · replace c_12 := i_eq c_12
    exact tot_some ⟨h_S_4, (show (0 ≤ (0 : Int32).toInt ∧ (0 : Int32).toInt ≤ 143) from by omega)⟩
  · replace c_12 := i_ne c_12
    refine tot_bind (sf_isPeriod hP a1  ) (fun r_5 d_r_5 => ?_)
    replace d_r_5 : (r_5.toInt = 0 ∨ r_5.toInt = 1 ∧ 2 ≤ a1.toInt ∧ a1.toInt ≤ 99) := d_r_5
    refine tot_if (fun c_13 => ?_) (fun c_13 => ?_)
    · replace c_13 := i_eq c_13
      refine tot_bind2 (sf_throwsAt hP S_4 3 h_S_4 ) (fun r_6 S_7 d_r_6 => ?_)
      have h_S_7 : IC P S_7 := d_r_6.1
      replace d_r_6 : (0 ≤ r_6.toInt ∧ r_6.toInt ≤ 0) := d_r_6.2
      exact tot_some ⟨h_S_7, (show (0 ≤ r_6.toInt ∧ r_6.toInt ≤ 143) from by omega)⟩
    · replace c_13 := i_ne c_13
      refine tot_bind (sf_copy_12_14 hP S_4 0 0 h_S_4 (by omega) (by omega)) (fun S_8 d_S_8 => ?_)
      have h_S_8 : IC P S_8 := d_S_8.1
      refine tot_bind (sf_recordsPoint_14 hP S_8 a0 a1 h_S_8 (by omega) (by omega)) (fun S_9 d_S_9 => ?_)
      have h_S_9 : IC P S_9 := d_S_9.1
      refine tot_bind2 (sf_bestIn_14 hP S_9 h_S_9 ) (fun r_10 S_11 d_r_10 => ?_)
      have h_S_11 : IC P S_11 := d_r_10.1
      replace d_r_10 : (0 ≤ r_10.toInt ∧ r_10.toInt ≤ 143) := d_r_10.2
      exact tot_some ⟨h_S_11, (show (0 ≤ r_10.toInt ∧ r_10.toInt ≤ 143) from by omega)⟩
set_option maxHeartbeats 4000000 in
set_option maxRecDepth 10000 in
theorem sf_pointPower {P : Nat → Int32} (hP : PL P) (S : MS) (a0 : Int32) (a1 : Int32) (a2 : Int32) (h_S : IC P S) : Tot (fr_pointPower S a0 a1 a2) (fun r => IC P r.2 ∧ True) := by
  have z0 : (0 : Int32).toInt = 0 := by decide
  have z1 : (1 : Int32).toInt = 1 := by decide
  have z2 : (3 : Int32).toInt = 3 := by decide
  have p_9 := pl_9 hP
  have p_10 := pl_10 hP
  have p_cells := pl_cells hP
  have j_a0 := i_any a0
  have j_a1 := i_any a1
  have j_a2 := i_any a2
  unfold fr_pointPower
  refine tot_bindp (R := fun r_1 : Int32 => (r_1.toInt = 0 ∨ r_1.toInt = 1 ∧ (0 ≤ a0.toInt ∧ a0.toInt ≤ 143) ∧ a0.toInt < (P 9).toInt * (P 10).toInt)) (sf_isCell hP S a0 h_S ) (fun r_1 d_r_1 => ?_)
  replace d_r_1 : (r_1.toInt = 0 ∨ r_1.toInt = 1 ∧ (0 ≤ a0.toInt ∧ a0.toInt ≤ 143) ∧ a0.toInt < (P 9).toInt * (P 10).toInt) := d_r_1
  refine tot_if (fun c_5 => ?_) (fun c_5 => ?_)
  · replace c_5 := i_eq c_5
    unfold fr_pointPower_b21
    unfold fr_pointPower_b22
    refine tot_bind2 (sf_mayAsk hP S 0 h_S (by omega)) (fun r_6 S_7 d_r_6 => ?_)
    have h_S_7 : IC P S_7 := d_r_6.1
    replace d_r_6 : (r_6.toInt = 0 ∨ r_6.toInt = 1 ∧ ¬ (0 : Int32).toInt = 0) := d_r_6.2
    refine tot_if (fun c_16 => ?_) (fun c_16 => ?_)
    · replace c_16 := i_eq c_16
      exact tot_some ⟨h_S_7, trivial⟩
    · replace c_16 := i_ne c_16
      exfalso
      omega
  · replace c_5 := i_ne c_5
    refine tot_bindp (R := fun r_3 : Int32 => (r_3.toInt = 0 ∨ r_3.toInt = 1 ∧ (0 ≤ a1.toInt ∧ a1.toInt ≤ 143) ∧ a1.toInt < (P 9).toInt * (P 10).toInt)) (sf_isCell hP S a1 h_S ) (fun r_3 d_r_3 => ?_)
    replace d_r_3 : (r_3.toInt = 0 ∨ r_3.toInt = 1 ∧ (0 ≤ a1.toInt ∧ a1.toInt ≤ 143) ∧ a1.toInt < (P 9).toInt * (P 10).toInt) := d_r_3
    refine tot_if (fun c_17 => ?_) (fun c_17 => ?_)
    · replace c_17 := i_eq c_17
      unfold fr_pointPower_b21
      unfold fr_pointPower_b22
      refine tot_bind2 (sf_mayAsk hP S 0 h_S (by omega)) (fun r_18 S_19 d_r_18 => ?_)
      have h_S_19 : IC P S_19 := d_r_18.1
      replace d_r_18 : (r_18.toInt = 0 ∨ r_18.toInt = 1 ∧ ¬ (0 : Int32).toInt = 0) := d_r_18.2
      refine tot_if (fun c_28 => ?_) (fun c_28 => ?_)
      · replace c_28 := i_eq c_28
        exact tot_some ⟨h_S_19, trivial⟩
      · replace c_28 := i_ne c_28
        exfalso
        omega
    · replace c_17 := i_ne c_17
      unfold fr_pointPower_b22
      refine tot_bind2 (sf_mayAsk hP S 1 h_S (by omega)) (fun r_29 S_30 d_r_29 => ?_)
      have h_S_30 : IC P S_30 := d_r_29.1
      replace d_r_29 : (r_29.toInt = 0 ∨ r_29.toInt = 1 ∧ ¬ (1 : Int32).toInt = 0) := d_r_29.2
      refine tot_if (fun c_39 => ?_) (fun c_39 => ?_)
      · replace c_39 := i_eq c_39
        exact tot_some ⟨h_S_30, trivial⟩
      · replace c_39 := i_ne c_39
        refine tot_bind (sf_isPeriod hP a2  ) (fun r_31 d_r_31 => ?_)
        replace d_r_31 : (r_31.toInt = 0 ∨ r_31.toInt = 1 ∧ 2 ≤ a2.toInt ∧ a2.toInt ≤ 99) := d_r_31
        refine tot_if (fun c_40 => ?_) (fun c_40 => ?_)
        · replace c_40 := i_eq c_40
          refine tot_bind2 (sf_throwsAt hP S_30 3 h_S_30 ) (fun r_32 S_33 d_r_32 => ?_)
          have h_S_33 : IC P S_33 := d_r_32.1
          replace d_r_32 : (0 ≤ r_32.toInt ∧ r_32.toInt ≤ 0) := d_r_32.2
          refine tot_let (fun v_34 e_v_34 => ?_)
          exact tot_some ⟨h_S_33, trivial⟩
        · replace c_40 := i_ne c_40
          refine tot_bind (sf_copy_12_14 hP S_30 0 0 h_S_30 (by omega) (by omega)) (fun S_35 d_S_35 => ?_)
          have h_S_35 : IC P S_35 := d_S_35.1
          refine tot_bind (sf_recordsPoint_14 hP S_35 a0 a2 h_S_35 (by omega) (by omega)) (fun S_36 d_S_36 => ?_)
          have h_S_36 : IC P S_36 := d_S_36.1
          refine tot_bind2 (sf_powerOf_14 hP S_36 a1 h_S_36 (by omega)) (fun r_37 S_38 d_r_37 => ?_)
          have h_S_38 : IC P S_38 := d_r_37.1
          exact tot_some ⟨h_S_38, trivial⟩
