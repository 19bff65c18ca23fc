/-! the class's powers of all cells, and the best one -/
set_option maxHeartbeats 4000000 in
set_option maxRecDepth 10000 in
theorem cq_X4_measure_b89 {R : Nat → Nat} {B K1 K2 : Nat} {Q : AT → Prop} (l0 : Nat) (l1 : Nat) (T00 : AT) (k_l0 : R l0 = 4) (k_l1 : R l1 = 6) (hx0 : ∀ (T : AT), (IV R B K1 K2 T) → (FW R [131, 1952, 2144, 3202] T00 T) → Tot (some (T)) Q) : ∀ (n : Nat) (T : AT) (l3 : Int32), (IV R B K1 K2 T) → (FW R [131, 1952, 2144, 3202] T00 T) → (0 ≤ l3.toInt ∧ l3.toInt ≤ 144) → ((T.2.2.1 l0 3).toInt ≤ l3.toInt) → 144 - l3.toInt < (n : Int) → Tot (g_X4_measure_b89 n T l0 l1 l3) Q := by
  have z0 : (0 : Int32).toInt = 0 := by decide
  have z1 : (Int32.ofInt (1) : Int32).toInt = 1 := by decide
  have z2 : (1 : Int32).toInt = 1 := by decide
  have cc_101 : cnt 101 = 1 := rfl
  have cc_102 : cnt 102 = 12 := rfl
  have cc_103 : cnt 103 = 144 := rfl
  have cc_104 : cnt 104 = 2400 := rfl
  have cc_105 : cnt 105 = 7200 := rfl
  intro n
  induction n with
  | zero =>
    intro T l3 h_T x_T g_l3 gi_0 hm
    exfalso
    omega
  | succ n ih =>
    intro T l3 h_T x_T g_l3 gi_0 hm
    unfold g_X4_measure_b89
    refine tot_oif (iv_oO h_T k_l1 (by decide) (by decide) rfl) ?_
    refine tot_ref h_T k_l1 (by decide) (by decide) (r2 := 1) (rfl : rtg 6 6 = 1) (by decide) (fun n_145 k_n_145 e_n_145 => ?_)
    refine tot_oif (iv_oO h_T k_n_145 (by decide) (by decide) rfl) ?_
    refine tot_bindq (R := fun r_146 : Int32 => (0 ≤ r_146.toInt ∧ r_146.toInt ≤ 144)) (cs_X1_cells T n_145 h_T k_n_145 ) (fun r_146 d_r_146 => ?_)
    replace d_r_146 : (0 ≤ r_146.toInt ∧ r_146.toInt ≤ 144) := d_r_146
    refine tot_if (fun c_158 => ?_) (fun c_158 => ?_)
    · replace c_158 := i_le c_158
      exact hx0 T h_T x_T
    · replace c_158 := i_nle c_158
      refine tot_oif (iv_oO h_T k_l1 (by decide) (by decide) rfl) ?_
      refine tot_ref1 e_n_145 ?_
      refine tot_oif (iv_oO h_T k_l0 (by decide) (by decide) rfl) ?_
      refine tot_bind2 (cs_X4_standsOut T l0 l3 n_145 h_T k_l0 k_n_145 (by omega)) (fun r_149 T_150 d_r_149 => ?_)
      have h_T_150 : IV R B K1 K2 T_150 := d_r_149.1.1
      have y_T_150 : FW R [1952] T T_150 := d_r_149.1.2
      have x_T_150 := x_T.tr (y_T_150.w (by decide))
      have f_T_150_l0_3 : (T_150.2.2.1 l0 3).toInt = (T.2.2.1 l0 3).toInt := congrArg Int32.toInt (y_T_150 l0 3 (by rw [k_l0]; decide))
      replace d_r_149 : (0 ≤ r_149.toInt ∧ r_149.toInt ≤ 1) := d_r_149.2
      refine tot_if (fun c_159 => ?_) (fun c_159 => ?_)
      · replace c_159 := i_eq c_159
        unfold g_X4_measure_b148
        refine tot_let (fun v_160 e_v_160 => ?_)
        have q_v_160 := i_add e_v_160 (by omega) (by omega)
        exact ih T_150 v_160 h_T_150 x_T_150 (by omega) (by omega) (by omega)
      · replace c_159 := i_ne c_159
        refine tot_oif (iv_oO h_T_150 k_l0 (by decide) (by decide) rfl) ?_
        refine tot_ref h_T_150 k_l0 (by decide) (by decide) (r2 := 67) (rfl : rtg 4 4 = 67) (by decide) (fun n_151 k_n_151 e_n_151 => ?_)
        refine tot_oif (iv_oO h_T_150 k_l0 (by decide) (by decide) rfl) ?_
        refine tot_let (fun v_152 e_v_152 => ?_)
        have q_v_152 := i_eq e_v_152
        have r_v_152 : 0 ≤ v_152.toInt ∧ v_152.toInt ≤ 144 := iv_int h_T_150 k_l0 (by decide) (by decide) e_v_152 rfl
        refine tot_oif (iv_aA h_T_150 k_n_151 (by decide) (by decide) rfl rfl) ?_
        refine tot_oif (by rw [iv_len h_T_150 k_n_151 (by decide) (by decide) (rfl : shp 67 = (100, 144))]; exact i_inb (by omega) (by omega)) ?_
        refine tot_let (fun T_153 e_T_153 => ?_)
        have h_T_153 : IV R B K1 K2 T_153 := by rw [e_T_153]; exact iv_uI (a := 0) (b := 143) h_T_150 k_n_151 (by decide) (by decide) rfl (by omega) (.inl rfl)
        have x_T_153 := x_T_150.tr (fw_uA e_T_153 k_n_151 rfl rfl (by decide))
        have f_T_153_l0_3 : (T_153.2.2.1 l0 3).toInt = (T_150.2.2.1 l0 3).toInt := congrArg Int32.toInt ((fw_uA (W := [2144]) e_T_153 k_n_151 rfl rfl (by decide)) l0 3 (by rw [k_l0]; decide))
        refine tot_oif (iv_oO h_T_153 k_l0 (by decide) (by decide) rfl) ?_
        refine tot_ref h_T_153 k_l0 (by decide) (by decide) (r2 := 103) (rfl : rtg 4 5 = 103) (by decide) (fun n_154 k_n_154 e_n_154 => ?_)
        refine tot_oif (iv_oO h_T_153 k_l0 (by decide) (by decide) rfl) ?_
        refine tot_let (fun v_155 e_v_155 => ?_)
        have q_v_155 := i_eq e_v_155
        have r_v_155 : 0 ≤ v_155.toInt ∧ v_155.toInt ≤ 144 := iv_int h_T_153 k_l0 (by decide) (by decide) e_v_155 rfl
        refine tot_oif (iv_oO h_T_153 k_l0 (by decide) (by decide) rfl) ?_
        refine tot_ref h_T_153 k_l0 (by decide) (by decide) (r2 := 103) (rfl : rtg 4 1 = 103) (by decide) (fun n_156 k_n_156 e_n_156 => ?_)
        refine tot_oif (w_oO h_T_153 k_n_154 (rfl : isW 103 = true)) ?_
        refine tot_bind (c_set (a0 := v_155) (a2 := l3) k_n_154 (rfl : isW 103 = true) k_n_156 (rfl : isW 103 = true) h_T_153 (by omega) (by omega)) (fun T_157 d_T_157 => ?_)
        have h_T_157 : IV R B K1 K2 T_157 := d_T_157.1
        have y_T_157 : FW R [3202] T_153 T_157 := (fw_wx d_T_157.2 k_n_154 (rfl : isW 103 = true) (by decide))
        have x_T_157 := x_T_153.tr (y_T_157.w (by decide))
        have f_T_157_l0_3 : (T_157.2.2.1 l0 3).toInt = (T_153.2.2.1 l0 3).toInt := congrArg Int32.toInt (y_T_157 l0 3 (by rw [k_l0]; decide))
        unfold g_X4_measure_b138
        refine tot_oif (iv_oO h_T_157 k_l0 (by decide) (by decide) rfl) ?_
        refine tot_let (fun v_161 e_v_161 => ?_)
        have q_v_161 := i_eq e_v_161
        have r_v_161 : 0 ≤ v_161.toInt ∧ v_161.toInt ≤ 144 := iv_int h_T_157 k_l0 (by decide) (by decide) e_v_161 rfl
        refine tot_let (fun v_162 e_v_162 => ?_)
        have q_v_162 := i_add e_v_162 (by omega) (by omega)
        refine tot_oif (iv_oO h_T_157 k_l0 (by decide) (by decide) rfl) ?_
        refine tot_let (fun T_163 e_T_163 => ?_)
        have h_T_163 : IV R B K1 K2 T_163 := by rw [e_T_163]; exact iv_uI (a := 0) (b := 144) h_T_157 k_l0 (by decide) (by decide) rfl (by omega) (.inl rfl)
        have x_T_163 := x_T_157.tr (fw_uI e_T_163 k_l0 (by decide))
        have f_T_163_l0_3 : (T_163.2.2.1 l0 3).toInt = (v_162 : Int32).toInt := by rw [e_T_163]; exact congrArg Int32.toInt (uI_at _ _ _ _)
        unfold g_X4_measure_b148
        refine tot_let (fun v_164 e_v_164 => ?_)
        have q_v_164 := i_add e_v_164 (by omega) (by omega)
        exact ih T_163 v_164 h_T_163 x_T_163 (by omega) (by omega) (by omega)
section
variable {T T1 T0 : AT} {P A : Nat → Int32} {o x y z d xs ro s : Nat} {c4 n2 C : Nat} {v : Nat → Int}
/-- the first of the greatest -/
def bsS (v : Nat → Int) : Nat → Nat
  | 0 => 0
  | n + 1 => if v (bsS v n) < v n then n else bsS v n
theorem bs_lt (v : Nat → Int) : ∀ n : Nat, bsS v n ≤ n - 1 ∨ n = 0 ∧ bsS v n = 0 := by
  intro n
  induction n with
  | zero => exact .inr ⟨rfl, rfl⟩
  | succ n ih =>
    refine .inl ?_
    show (if v (bsS v n) < v n then n else bsS v n) ≤ n + 1 - 1
    by_cases c : v (bsS v n) < v n
    · rw [if_pos c]; omega
    · rw [if_neg c]; omega
theorem bs_cg {w : Nat → Int} : ∀ n : Nat, (∀ c, c < n → w c = v c) → bsS w n = bsS v n := by
  intro n
  induction n with
  | zero => intro _; rfl
  | succ n ih =>
    intro h
    have e := ih (fun c hc => h c (by omega))
    show (if w (bsS w n) < w n then n else bsS w n) = if v (bsS v n) < v n then n else bsS v n
    have l := bs_lt v n
    rw [e]
    by_cases z : n = 0
    · subst z
      rw [h 0 (by omega)]
      show (if w 0 < v 0 then 0 else 0) = if v 0 < v 0 then 0 else 0
      rw [h 0 (by omega)]
    · rw [h n (by omega), h (bsS v n) (by omega)]
theorem c_cmpL {a b : Int64} {r : Int32} (h : g_J13_compare_74951 a b = some r) : r = -1 ∧ a.toInt < b.toInt ∨ r = 0 ∧ a.toInt = b.toInt ∨ r = 1 ∧ b.toInt < a.toInt := by
  unfold g_J13_compare_74951 g_J13_compare_74951_b21 at h
  obtain ⟨v2, d2, h⟩ := elet_some h
  rcases oif_or h with ⟨c, h⟩ | ⟨c, h⟩
  · rw [d2] at c
    have c := Int64.le_iff_toInt_le.mp ((lg_cmp_ge a b).mp c)
    obtain ⟨v4, d4, h⟩ := elet_some h
    rcases oif_or h with ⟨c2, h⟩ | ⟨c2, h⟩
    · rw [d4] at c2
      have c2 := (lg_cmp_eq a b).mp c2
      exact .inr (.inl ⟨(osome1 h).symm, by rw [c2]⟩)
    · rw [d4] at c2
      have n2 : ¬ a.toInt = b.toInt := fun w => c2 ((lg_cmp_eq a b).mpr (Int64.toInt_inj.mp w))
      exact .inr (.inr ⟨(osome1 h).symm, by omega⟩)
  · rw [d2] at c
    have n2 : ¬ b.toInt ≤ a.toInt := fun w => c ((lg_cmp_ge a b).mpr (Int64.le_iff_toInt_le.mpr w))
    exact .inl ⟨(osome1 h).symm, by omega⟩
theorem c_cmp {i k : Nat} {r : Int32} (hG : RG T o x C v) (hC : C ≤ 7200) (hi : i < C) (hk : k < C) (hg : g_X10_compare T o (nI i) (nI k) = some (r, T1)) : T1 = T ∧ (r ≤ 0 ↔ v i ≤ v k) := by
  have ki : (nI i).toNatClampNeg = i := nI_clamp (by omega)
  have kk : (nI k).toNatClampNeg = k := nI_clamp (by omega)
  unfold g_X10_compare at hg
  obtain ⟨-, hg⟩ := oif_some hg
  obtain ⟨v3, d3, hg⟩ := elet_some hg
  obtain ⟨v4, d4, hg⟩ := elet_some hg
  rw [show (16384 : Nat) = 16381 + 1 + 1 + 1 from rfl] at hg
  rcases hG with ⟨⟨h1, h0, hu⟩, hv⟩ | ⟨y, ⟨h1, h0, hy, hu, hxy⟩, sy, hv⟩
  · rw [hu] at d3
    have e4 : v4 = 0 := by rw [d4, d3]; decide
    rw [e4] at hg
    obtain ⟨p1, p2, p3⟩ := hv i hi
    obtain ⟨s1, s2, s3⟩ := hv k hk
    unfold g_X10_compare_b10 at hg
    rw [if_neg (by decide), if_pos rfl] at hg
    obtain ⟨-, hg⟩ := oif_some hg
    obtain ⟨n5, en, hg⟩ := obind_some hg
    rw [h1] at en
    cases en
    obtain ⟨-, hg⟩ := oif_some hg
    obtain ⟨-, hg⟩ := oif_some hg
    obtain ⟨n8, en, hg⟩ := obind_some hg
    rw [show (0 : Int32).toNatClampNeg = 0 from rfl, h0] at en
    cases en
    obtain ⟨-, hg⟩ := oif_some hg
    obtain ⟨-, hg⟩ := oif_some hg
    obtain ⟨v11, d11, hg⟩ := elet_some hg
    obtain ⟨-, hg⟩ := oif_some hg
    obtain ⟨n13, en, hg⟩ := obind_some hg
    rw [h1] at en
    cases en
    obtain ⟨-, hg⟩ := oif_some hg
    obtain ⟨-, hg⟩ := oif_some hg
    obtain ⟨n16, en, hg⟩ := obind_some hg
    rw [show (0 : Int32).toNatClampNeg = 0 from rfl, h0] at en
    cases en
    obtain ⟨-, hg⟩ := oif_some hg
    obtain ⟨-, hg⟩ := oif_some hg
    obtain ⟨v19, d19, hg⟩ := elet_some hg
    obtain ⟨r20, g20, hg⟩ := obind_some hg
    obtain ⟨v22, d22, hg⟩ := elet_some hg
    have e22 : v22 = -1 := by rw [d22]; decide
    rw [e22] at hg
    unfold g_X10_compare_b10 g_X10_compare_b47 at hg
    rw [if_pos (by decide)] at hg
    rw [ki] at d11
    rw [kk] at d19
    have q := c_cmpL g20
    rw [d11, d19, p1, s1] at q
    rw [← (osome2 hg).1, ← (osome2 hg).2]
    refine ⟨rfl, ?_⟩
    rcases q with ⟨e, q⟩ | ⟨e, q⟩ | ⟨e, q⟩ <;> rw [e]
    · exact ⟨fun _ => by omega, fun _ => by decide⟩
    · exact ⟨fun _ => by omega, fun _ => by decide⟩
    · exact ⟨fun w => absurd w (by decide), fun w => by omega⟩
  · rw [hu] at d3
    have e4 : v4 = 1 := by rw [d4, d3]; decide
    rw [e4] at hg
    obtain ⟨p1, p2, p3⟩ := hv i hi
    obtain ⟨s1, s2, s3⟩ := hv k hk
    unfold g_X10_compare_b10 at hg
    rw [if_neg (by decide), if_pos rfl] at hg
    obtain ⟨-, hg⟩ := oif_some hg
    obtain ⟨n5, en, hg⟩ := obind_some hg
    rw [h1] at en
    cases en
    obtain ⟨-, hg⟩ := oif_some hg
    obtain ⟨-, hg⟩ := oif_some hg
    obtain ⟨n8, en, hg⟩ := obind_some hg
    rw [show (1 : Int32).toNatClampNeg = 1 from rfl, hy] at en
    cases en
    obtain ⟨-, hg⟩ := oif_some hg
    obtain ⟨-, hg⟩ := oif_some hg
    obtain ⟨v11, d11, hg⟩ := elet_some hg
    obtain ⟨-, hg⟩ := oif_some hg
    obtain ⟨n13, en, hg⟩ := obind_some hg
    rw [h1] at en
    cases en
    obtain ⟨-, hg⟩ := oif_some hg
    obtain ⟨-, hg⟩ := oif_some hg
    obtain ⟨n16, en, hg⟩ := obind_some hg
    rw [show (1 : Int32).toNatClampNeg = 1 from rfl, hy] at en
    cases en
    obtain ⟨-, hg⟩ := oif_some hg
    obtain ⟨-, hg⟩ := oif_some hg
    obtain ⟨v19, d19, hg⟩ := elet_some hg
    obtain ⟨r20, g20, hg⟩ := obind_some hg
    obtain ⟨v22, d22, hg⟩ := elet_some hg
    have e22 : v22 = 0 := by rw [d22]; decide
    rw [e22] at hg
    rw [ki] at d11
    rw [kk] at d19
    have q := c_cmpL g20
    rw [d11, d19] at q
    unfold g_X10_compare_b10 at hg
    rw [if_neg (by decide)] at hg
    by_cases z : r20 = 0
    · rw [if_pos z] at hg
      have qe : (T.2.2.2.1 y i).toInt = (T.2.2.2.1 y k).toInt := by
        rcases q with ⟨e, q⟩ | ⟨e, q⟩ | ⟨e, q⟩
        · rw [z] at e; exact absurd e (by decide)
        · exact q
        · rw [z] at e; exact absurd e (by decide)
      obtain ⟨-, hg⟩ := oif_some hg
      obtain ⟨n5, en, hg⟩ := obind_some hg
      rw [h1] at en
      cases en
      obtain ⟨-, hg⟩ := oif_some hg
      obtain ⟨-, hg⟩ := oif_some hg
      obtain ⟨n8, en, hg⟩ := obind_some hg
      rw [show (0 : Int32).toNatClampNeg = 0 from rfl, h0] at en
      cases en
      obtain ⟨-, hg⟩ := oif_some hg
      obtain ⟨-, hg⟩ := oif_some hg
      obtain ⟨w11, f11, hg⟩ := elet_some hg
      obtain ⟨-, hg⟩ := oif_some hg
      obtain ⟨n13, en, hg⟩ := obind_some hg
      rw [h1] at en
      cases en
      obtain ⟨-, hg⟩ := oif_some hg
      obtain ⟨-, hg⟩ := oif_some hg
      obtain ⟨n16, en, hg⟩ := obind_some hg
      rw [show (0 : Int32).toNatClampNeg = 0 from rfl, h0] at en
      cases en
      obtain ⟨-, hg⟩ := oif_some hg
      obtain ⟨-, hg⟩ := oif_some hg
      obtain ⟨w19, f19, hg⟩ := elet_some hg
      obtain ⟨s20, k20, hg⟩ := obind_some hg
      obtain ⟨w22, f22, hg⟩ := elet_some hg
      have g22 : w22 = -1 := by rw [f22]; decide
      rw [g22] at hg
      unfold g_X10_compare_b10 g_X10_compare_b47 at hg
      rw [if_pos (by decide)] at hg
      rw [ki] at f11
      rw [kk] at f19
      have q2 := c_cmpL k20
      rw [f11, f19] at q2
      rw [← (osome2 hg).1, ← (osome2 hg).2]
      refine ⟨rfl, ?_⟩
      rcases q2 with ⟨e, q2⟩ | ⟨e, q2⟩ | ⟨e, q2⟩ <;> rw [e]
      · exact ⟨fun _ => by omega, fun _ => by decide⟩
      · exact ⟨fun _ => by omega, fun _ => by decide⟩
      · exact ⟨fun w => absurd w (by decide), fun w => by omega⟩
    · rw [if_neg z] at hg
      unfold g_X10_compare_b47 at hg
      rw [← (osome2 hg).1, ← (osome2 hg).2]
      refine ⟨rfl, ?_⟩
      rcases q with ⟨e, q⟩ | ⟨e, q⟩ | ⟨e, q⟩
      · rw [e]
        exact ⟨fun _ => by omega, fun _ => by decide⟩
      · exact absurd e z
      · rw [e]
        exact ⟨fun w => absurd w (by decide), fun w => by omega⟩
/-- the best cell of the whole map -/
theorem c_best {g w c r N : Nat} {b : Int32} (hc : 1 ≤ c ∧ c ≤ 12) (hr : 1 ≤ r ∧ r ≤ 12) (hN : N = c * r) (h144 : N ≤ 144) (eg : T.2.2.1 g 3 = nI c) (w0 : T.2.2.1 w 0 = 0) (w1 : T.2.2.1 w 1 = 0) (w2 : T.2.2.1 w 2 = nI c - 1) (w3 : T.2.2.1 w 3 = nI r - 1) (hG : RG T o x N v) (hg : g_X1_bestIn T g w o 0 = some (b, T1)) : T1 = T ∧ b = nI (bsS v N) := by
  have cI : (nI c).toInt = (c : Int) := nI_toInt (by omega)
  have rI : (nI r).toInt = (r : Int) := nI_toInt (by omega)
  have z1 : (1 : Int32).toInt = 1 := by decide
  have c1 := i_sub (v := nI c - 1) rfl (by omega) (by omega)
  have r1 := i_sub (v := nI r - 1) rfl (by omega) (by omega)
  unfold g_X1_bestIn at hg
  obtain ⟨-, hg⟩ := oif_some hg
  obtain ⟨-, hg⟩ := oif_some hg
  obtain ⟨v4, d4, hg⟩ := elet_some hg
  rw [show (1 : Int32).toNatClampNeg = 1 from rfl, w1] at d4
  obtain ⟨-, hg⟩ := oif_some hg
  obtain ⟨v6, d6, hg⟩ := elet_some hg
  obtain ⟨v7, d7, hg⟩ := elet_some hg
  obtain ⟨-, hg⟩ := oif_some hg
  obtain ⟨-, hg⟩ := oif_some hg
  obtain ⟨v10, d10, hg⟩ := elet_some hg
  rw [show (0 : Int32).toNatClampNeg = 0 from rfl, w0] at d10
  obtain ⟨v11, d11, hg⟩ := elet_some hg
  obtain ⟨-, hg⟩ := oif_some hg
  obtain ⟨-, hg⟩ := oif_some hg
  obtain ⟨v14, d14, hg⟩ := elet_some hg
  rw [show (1 : Int32).toNatClampNeg = 1 from rfl, w1] at d14
  have e11 : v11 = nI (bsS v 0) := by
    rw [d11, d10, d7, d4, Int32.zero_mul]
    rfl
  rw [e11, d14] at hg
  have b19 : ∀ (n q : Nat), q ≤ r → g_X1_bestIn_b19 n T g w o 0 (nI (bsS v (c * q))) (nI q) = some (b, T1) → T1 = T ∧ b = nI (bsS v N) := by
    intro n
    induction n with
    | zero => intro q hq h; cases h
    | succ n ih =>
      intro q hq h
      have qI : (nI q).toInt = (q : Int) := nI_toInt (by omega)
      have cq : c * q ≤ N := by rw [hN]; exact Nat.mul_le_mul_left c hq
      unfold g_X1_bestIn_b19 at h
      obtain ⟨-, h⟩ := oif_some h
      obtain ⟨-, h⟩ := oif_some h
      obtain ⟨v4, d4, h⟩ := elet_some h
      rw [show (3 : Int32).toNatClampNeg = 3 from rfl, w3] at d4
      rcases oif_or h with ⟨e, h⟩ | ⟨e, h⟩
      · have e := i_lt e
        rw [d4] at e
        rw [← (osome2 h).1, ← (osome2 h).2, hN, show q = r by omega]
        exact ⟨rfl, rfl⟩
      · have e := i_nlt e
        rw [d4] at e
        obtain ⟨-, h⟩ := oif_some h
        obtain ⟨-, h⟩ := oif_some h
        obtain ⟨v8, d8, h⟩ := elet_some h
        rw [show (0 : Int32).toNatClampNeg = 0 from rfl, w0] at d8
        rw [d8] at h
        have cq1 : c * (q + 1) ≤ N := by rw [hN]; exact Nat.mul_le_mul_left c (by omega)
        have b32 : ∀ (f j : Nat), j ≤ c → g_X1_bestIn_b32 (g_X1_bestIn_b19 n) f T g w o 0 (nI (bsS v (c * q + j))) (nI q) (nI j) = some (b, T1) → T1 = T ∧ b = nI (bsS v N) := by
          intro f
          induction f with
          | zero => intro j hj h; cases h
          | succ f ih2 =>
            intro j hj h
            have jI : (nI j).toInt = (j : Int) := nI_toInt (by omega)
            have cm : c * (q + 1) = c * q + c := Nat.mul_succ c q
            unfold g_X1_bestIn_b32 at h
            obtain ⟨-, h⟩ := oif_some h
            obtain ⟨-, h⟩ := oif_some h
            obtain ⟨v4, d4, h⟩ := elet_some h
            rw [show (2 : Int32).toNatClampNeg = 2 from rfl, w2] at d4
            rcases oif_or h with ⟨e, h⟩ | ⟨e, h⟩
            · have e := i_lt e
              rw [d4] at e
              obtain ⟨v6, d6, h⟩ := elet_some h
              rw [show v6 = nI (q + 1) from d6.trans (nI_p1 q), show c * q + j = c * (q + 1) by omega] at h
              exact ih (q + 1) (by omega) h
            · have e := i_nlt e
              rw [d4] at e
              obtain ⟨-, h⟩ := oif_some h
              obtain ⟨v8, d8, h⟩ := elet_some h
              rw [eg] at d8
              obtain ⟨v9, d9, h⟩ := elet_some h
              obtain ⟨v10, d10, h⟩ := elet_some h
              have k10 : v10 = nI (c * q + j) := by
                rw [d10, d9, d8, Int32.mul_comm, ← nI_add, ← nI_mulk]
              obtain ⟨v11, d11, h⟩ := elet_some h
              obtain ⟨v12, d12, h⟩ := elet_some h
              rw [Int32.zero_add] at d11 d12
              obtain ⟨-, h⟩ := oif_some h
              obtain ⟨r16, T14, g14, h⟩ := obind2_some h
              have bl := bs_lt v (c * q + j)
              rw [d11, d12, k10] at g14
              obtain ⟨e14, q14⟩ := c_cmp hG (by omega) (by omega) (by omega) g14
              rw [e14] at h
              rcases oif_or h with ⟨z, h⟩ | ⟨z, h⟩
              · unfold g_X1_bestIn_b71 at h
                obtain ⟨u2, h2, h⟩ := elet_some h
                rw [show u2 = nI (j + 1) from h2.trans (nI_p1 j)] at h
                have z2 := q14.mp z
                have eb : bsS v (c * q + (j + 1)) = bsS v (c * q + j) := by
                  show (if v (bsS v (c * q + j)) < v (c * q + j) then c * q + j else bsS v (c * q + j)) = _
                  rw [if_neg (by omega)]
                rw [← eb] at h
                exact ih2 (j + 1) (by omega) h
              · unfold g_X1_bestIn_b71 at h
                obtain ⟨u2, h2, h⟩ := elet_some h
                rw [show u2 = nI (j + 1) from h2.trans (nI_p1 j)] at h
                have z2 : ¬ v (c * q + j) ≤ v (bsS v (c * q + j)) := fun w => z (q14.mpr w)
                have eb : bsS v (c * q + (j + 1)) = c * q + j := by
                  show (if v (bsS v (c * q + j)) < v (c * q + j) then c * q + j else bsS v (c * q + j)) = _
                  rw [if_pos (by omega)]
                rw [k10, ← eb] at h
                exact ih2 (j + 1) (by omega) h
        exact b32 16384 0 (Nat.zero_le _) h
  exact b19 16384 0 (Nat.zero_le _) hg
end
