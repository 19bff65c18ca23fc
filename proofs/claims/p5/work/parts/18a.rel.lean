/-- the class's text and the reference's buffer have one length -/
def RL2 (T : AT) (S : MS) : Prop := (T.2.2.1 1 1).toInt = (S.1 2).toInt
theorem tgo {α : Type} {x : Option α} {P : α → Prop} {a : α} (h : Tot x P) (e : x = some a) : P a := by
  obtain ⟨b, e2, q⟩ := h
  rw [e] at e2
  cases e2
  exact q
theorem wc_91 : wc (aR0 1) 1 = 289 := by decide +kernel
theorem rl_0 : RL2 aT0 mS0 := by
  unfold RL2
  decide +kernel
theorem rl_keep {W : List Nat} {T T1 : AT} (h : FW aR0 W T T1) (c : W.contains 289 = false) : T1.2.2.1 1 1 = T.2.2.1 1 1 := h 1 1 (by rw [wc_91]; exact c)
theorem rl_txt {T : AT} (hV : IV aR0 1586 aK1 aK2 T) : T.2.2.2.2 0 0 = some 1 := by
  obtain ⟨q, e, -, hq⟩ := hV.2.2.1 0 0 ⟨by decide, by decide +kernel, by decide +kernel⟩ (by decide +kernel)
  have hq : aR0 q = 9 := hq.trans (by decide +kernel)
  rw [e, hV.1.2.1.1 q hq 1 (by decide +kernel)]
theorem rl_len {T : AT} (hV : IV aR0 1586 aK1 aK2 T) : 0 ≤ (T.2.2.1 1 1).toInt ∧ (T.2.2.1 1 1).toInt ≤ 1000 := iv_int hV (n := 1) (r := 9) (k := 1) (by decide +kernel) (by decide) (by decide) rfl rfl
theorem ga_word : ∀ (j n : Nat) (T : AT) (o : Nat) (l1 l2 : Int32) (T1 : AT), l2.toInt = 8 * (j : Int) - 8 → j ≤ 4 → 0 ≤ (T.2.2.1 o 1).toInt → (T.2.2.1 o 1).toInt + j ≤ 1000 → g_X9_addWord_b3 n T o l1 l2 = some T1 → (T1.2.2.1 o 1).toInt = (T.2.2.1 o 1).toInt + j ∧ T1.2.2.2.2 = T.2.2.2.2 := by
  have z0 : (0 : Int32).toInt = 0 := by decide
  have z1 : (1 : Int32).toInt = 1 := by decide
  have z1000 : (1000 : Int32).toInt = 1000 := by decide
  have z8 : (Int32.ofInt (-8) : Int32).toInt = -8 := by decide
  intro j
  induction j with
  | zero =>
    intro n T o l1 l2 T1 e hj h0 hb h
    cases n with
    | zero => cases h
    | succ n =>
      unfold g_X9_addWord_b3 at h
      rw [if_pos (Int32.lt_iff_toInt_lt.mpr (by omega))] at h
      cases h
      exact ⟨by omega, rfl⟩
  | succ j ih =>
    intro n T o l1 l2 T1 e hj h0 hb h
    cases n with
    | zero => cases h
    | succ n =>
      unfold g_X9_addWord_b3 at h
      rw [if_neg (fun q => by have := i_lt q; omega)] at h
      obtain ⟨g0, h⟩ := oif_some h
      obtain ⟨v4, e4, h⟩ := elet_some h
      rw [if_neg (fun q => by have := i_le q; rw [e4] at this; omega)] at h
      obtain ⟨-, h⟩ := oif_some h
      obtain ⟨n7, -, h⟩ := obind_some h
      obtain ⟨-, h⟩ := oif_some h
      obtain ⟨v9, -, h⟩ := elet_some h
      obtain ⟨v10, -, h⟩ := elet_some h
      obtain ⟨v11, -, h⟩ := elet_some h
      obtain ⟨g7, h⟩ := oif_some h
      obtain ⟨-, h⟩ := oif_some h
      obtain ⟨T14, e14, h⟩ := elet_some h
      obtain ⟨-, h⟩ := oif_some h
      obtain ⟨v16, e16, h⟩ := elet_some h
      obtain ⟨v17, e17, h⟩ := elet_some h
      obtain ⟨-, h⟩ := oif_some h
      obtain ⟨T19, e19, h⟩ := elet_some h
      have hne : o ≠ n7 := fun q => by
        have a := (aA_k g7).2.1
        rw [← q, (oO_k g0).2] at a
        cases a
      have w14 : T14.2.2.1 o 1 = T.2.2.1 o 1 := by
        rw [e14]
        show va_up T.2.2.1 n7 _ o 1 = _
        rw [va_up_ne _ _ hne]
      have w19 : T19.2.2.1 o 1 = T.2.2.1 o 1 + 1 := by
        rw [e19]
        show va_up T14.2.2.1 o _ o 1 = _
        rw [va_up_self]
        show (if (1 : Nat) = 1 then v17 else _) = _
        rw [if_pos rfl, e17, e16, w14]
      have q19 : (T19.2.2.1 o 1).toInt = (T.2.2.1 o 1).toInt + 1 := by
        rw [w19]
        exact i_add rfl (by omega) (by omega)
      have r19 : T19.2.2.2.2 = T.2.2.2.2 := by rw [e19, e14]; rfl
      unfold g_X9_addWord_b43 at h
      obtain ⟨v2, e2, h⟩ := elet_some h
      have q8 : v2.toInt = l2.toInt - 8 := by
        rw [e2]
        exact (i_add rfl (by omega) (by omega)).trans (by omega)
      obtain ⟨k1, k2⟩ := ih n T19 o l1 v2 T1 (by omega) (by omega) (by omega) (by omega) h
      exact ⟨by omega, k2.trans r19⟩
theorem ga_add {T : AT} {o : Nat} {a : Int32} {T1 : AT} (h0 : 0 ≤ (T.2.2.1 o 1).toInt) (hb : (T.2.2.1 o 1).toInt + 4 ≤ 1000) (h : g_X9_addWord T o a = some T1) : (T1.2.2.1 o 1).toInt = (T.2.2.1 o 1).toInt + 4 ∧ T1.2.2.2.2 = T.2.2.2.2 := ga_word 4 16384 T o a 24 T1 (by decide) (by decide) h0 hb h
theorem ga_append {T : AT} {a0 a1 a2 a3 a4 : Int32} {r1 : Int32} {T1 : AT} (hV : IV aR0 1586 aK1 aK2 T) (h : g_X11_append T 0 a0 a1 a2 a3 a4 = some (r1, T1)) : (T.2.2.1 1 1).toInt + 20 ≤ 1000 ∧ r1.toInt = (T.2.2.1 1 1).toInt + 20 ∧ (T1.2.2.1 1 1).toInt = (T.2.2.1 1 1).toInt + 20 ∨ 1000 < (T.2.2.1 1 1).toInt + 20 ∧ r1 = -1 ∧ (T1.2.2.1 1 1).toInt = (T.2.2.1 1 1).toInt := by
  have z20 : (20 : Int32).toInt = 20 := by decide
  have z1000 : (1000 : Int32).toInt = 1000 := by decide
  have hl := rl_len hV
  have ht := rl_txt hV
  unfold g_X11_append at h
  obtain ⟨-, h⟩ := oif_some h
  rw [ht] at h
  obtain ⟨n3, e3, h⟩ := obind_some h
  cases e3
  obtain ⟨-, h⟩ := oif_some h
  obtain ⟨v5, e5, h⟩ := elet_some h
  obtain ⟨v6, e6, h⟩ := elet_some h
  have q6 : v6.toInt = (T.2.2.1 1 1).toInt + 20 := by
    rw [e6, e5]
    exact i_add rfl (by omega) (by omega)
  by_cases c : v6 ≤ 1000
  · rw [if_pos c] at h
    have c := i_le c
    obtain ⟨-, h⟩ := oif_some h
    obtain ⟨n9, e9, h⟩ := obind_some h
    cases e9
    obtain ⟨-, h⟩ := oif_some h
    obtain ⟨T11, e11, h⟩ := obind_some h
    obtain ⟨a11, b11⟩ := ga_add hl.1 (by omega) e11
    obtain ⟨-, h⟩ := oif_some h
    obtain ⟨n14, e14, h⟩ := obind_some h
    rw [b11, ht] at e14
    cases e14
    obtain ⟨-, h⟩ := oif_some h
    obtain ⟨T16, e16, h⟩ := obind_some h
    obtain ⟨a16, b16⟩ := ga_add (by omega) (by omega) e16
    rw [b11] at b16
    obtain ⟨-, h⟩ := oif_some h
    obtain ⟨n19, e19, h⟩ := obind_some h
    rw [b16, ht] at e19
    cases e19
    obtain ⟨-, h⟩ := oif_some h
    obtain ⟨T21, e21, h⟩ := obind_some h
    obtain ⟨a21, b21⟩ := ga_add (by omega) (by omega) e21
    rw [b16] at b21
    obtain ⟨-, h⟩ := oif_some h
    obtain ⟨n24, e24, h⟩ := obind_some h
    rw [b21, ht] at e24
    cases e24
    obtain ⟨-, h⟩ := oif_some h
    obtain ⟨T26, e26, h⟩ := obind_some h
    obtain ⟨a26, b26⟩ := ga_add (by omega) (by omega) e26
    rw [b21] at b26
    obtain ⟨-, h⟩ := oif_some h
    obtain ⟨n29, e29, h⟩ := obind_some h
    rw [b26, ht] at e29
    cases e29
    obtain ⟨-, h⟩ := oif_some h
    obtain ⟨T31, e31, h⟩ := obind_some h
    obtain ⟨a31, b31⟩ := ga_add (by omega) (by omega) e31
    rw [b26] at b31
    obtain ⟨-, h⟩ := oif_some h
    obtain ⟨n34, e34, h⟩ := obind_some h
    rw [b31, ht] at e34
    cases e34
    obtain ⟨-, h⟩ := oif_some h
    obtain ⟨v36, e36, h⟩ := elet_some h
    have f := osome2 h
    refine .inl ⟨by omega, ?_, ?_⟩
    · rw [← f.1, e36]; omega
    · rw [← f.2]; omega
  · rw [if_neg c] at h
    have c := i_nle c
    have f := osome2 h
    exact .inr ⟨by omega, f.1.symm, by rw [← f.2]⟩
theorem rl_app {T : AT} {S : MS} {a0 a1 a2 a3 a4 : Int32} {r1 r2 : Int32} {T1 : AT} {S1 : MS} (hV : IV aR0 1586 aK1 aK2 T) (hJ : JJ S) (hr : RL2 T S) (hg : g_X11_append T 0 a0 a1 a2 a3 a4 = some (r1, T1)) (hf : fr_append S a0 a1 a2 a3 a4 = some (r2, S1)) : r1 = r2 ∧ RL2 T1 S1 := by
  have h1 := ga_append hV hg
  have h2 := (tgo (sj_append S a0 a1 a2 a3 a4 hJ) hf).2
  unfold RL2 at hr ⊢
  have h2 : (S.1 2).toInt + 20 ≤ 1000 ∧ r2.toInt = (S.1 2).toInt + 20 ∧ (S1.1 2).toInt = (S.1 2).toInt + 20 ∨ 1000 < (S.1 2).toInt + 20 ∧ r2 = -1 ∧ (S1.1 2).toInt = (S.1 2).toInt := h2
  rcases h1 with ⟨c1, x1, y1⟩ | ⟨c1, x1, y1⟩
  · rcases h2 with ⟨c2, x2, y2⟩ | ⟨c2, x2, y2⟩
    · exact ⟨Int32.toInt_inj.mp (by omega), by omega⟩
    · exfalso; omega
  · rcases h2 with ⟨c2, x2, y2⟩ | ⟨c2, x2, y2⟩
    · exfalso; omega
    · exact ⟨by rw [x1, x2], by omega⟩
theorem rl_append {T : AT} {S : MS} {a0 a1 a2 a3 a4 : Int32} {r1 r2 : Int32} {T1 : AT} {S1 : MS} (hV : IV aR0 1586 aK1 aK2 T) (hJ : JJ S) (hr : RL2 T S) (hg : g_X11_append T 0 a0 a1 a2 a3 a4 = some (r1, T1)) (hf : fr_append S a0 a1 a2 a3 a4 = some (r2, S1)) : RL2 T1 S1 := (rl_app hV hJ hr hg hf).2
theorem rlh_append {T : AT} {S : MS} {a0 a1 a2 a3 a4 : Int32} {r1 r2 : Int32} {T1 : AT} {S1 : MS} (hV : IV aR0 1586 aK1 aK2 T) (hJ : JJ S) (hr : RL2 T S) (hg : g_X11_append T 0 a0 a1 a2 a3 a4 = some (r1, T1)) (hf : fr_append S a0 a1 a2 a3 a4 = some (r2, S1)) : r1 = r2 := (rl_app hV hJ hr hg hf).1
theorem rlh_buffered {T : AT} {S : MS} {r1 r2 : Int32} {T1 : AT} {S1 : MS} (hV : IV aR0 1586 aK1 aK2 T) (hJ : JJ S) (hr : RL2 T S) (hg : g_X11_buffered T 0 = some (r1, T1)) (hf : fr_buffered S = some (r2, S1)) : r1 = r2 := by
  unfold g_X11_buffered at hg
  obtain ⟨-, hg⟩ := oif_some hg
  obtain ⟨n3, e3, hg⟩ := obind_some hg
  rw [rl_txt hV] at e3
  cases e3
  obtain ⟨-, hg⟩ := oif_some hg
  obtain ⟨v5, e5, hg⟩ := elet_some hg
  unfold fr_buffered at hf
  obtain ⟨S2, e2, hf⟩ := elet_some hf
  obtain ⟨v3, e4, hf⟩ := elet_some hf
  rw [← (osome2 hg).1, ← (osome2 hf).1, e5, e4, e2]
  exact Int32.toInt_inj.mp hr
set_option maxHeartbeats 4000000 in
set_option maxRecDepth 10000 in
theorem ga_load (T : AT) (o : Nat) (a0 : Int32) (h_T : IV aR0 1586 aK1 aK2 T) (k_o : aR0 o = 11) : Tot (g_X11_load T o a0) (fun r => (a0.toInt < 0 ∨ (T.2.2.1 1 1).toInt < a0.toInt → r.2.2.2.2.1 1 1 = T.2.2.1 1 1) ∧ (¬ (a0.toInt < 0 ∨ (T.2.2.1 1 1).toInt < a0.toInt) → r.2.2.2.2.1 1 1 = 0)) := by
  have z0 : (0 : Int32).toInt = 0 := by decide
  have cc_101 : cnt 101 = 1 := rfl
  have cc_102 : cnt 102 = 12 := rfl
  have cc_103 : cnt 103 = 144 := rfl
  have cc_104 : cnt 104 = 2400 := rfl
  have cc_105 : cnt 105 = 7200 := rfl
  have hl := rl_len h_T
  have j_a0 := i_any a0
  unfold g_X11_load
  refine tot_if (fun c_14 => ?_) (fun c_14 => ?_)
  · replace c_14 := i_lt c_14
    unfold g_X11_load_b15
    exact tot_some ⟨fun _ => rfl, fun q_ => absurd (Or.inl (by omega)) q_⟩
  · replace c_14 := i_nlt c_14
    refine tot_oif (iv_oO h_T k_o (by decide) (by decide) rfl) ?_
    refine tot_ref h_T k_o (by decide) (by decide) (r2 := 9) (rfl : rtg 11 0 = 9) (by decide) (fun n_1 k_n_1 e_n_1 => ?_)
    refine tot_oif (iv_oO h_T k_n_1 (by decide) (by decide) rfl) ?_
    refine tot_let (fun v_2 e_v_2 => ?_)
    have r_v_2 : 0 ≤ v_2.toInt ∧ v_2.toInt ≤ 1000 := iv_int h_T k_n_1 (by decide) (by decide) e_v_2 rfl
    refine tot_if (fun c_15 => ?_) (fun c_15 => ?_)
    · replace c_15 := i_le c_15
      refine tot_oif (iv_oO h_T k_o (by decide) (by decide) rfl) ?_
      refine tot_ref1 e_n_1 ?_
      refine tot_oif (iv_oO h_T k_n_1 (by decide) (by decide) rfl) ?_
      refine tot_let (fun T_4 e_T_4 => ?_)
      have h_T_4 : IV aR0 1586 aK1 aK2 T_4 := by rw [e_T_4]; exact iv_uI (a := 0) (b := 1000) h_T k_n_1 (by decide) (by decide) rfl (by omega) (.inl rfl)
      have n1 : n_1 = 1 := h_T.1.2.1.1 n_1 k_n_1 1 (by decide +kernel)
      have y4 : T_4.2.2.1 1 1 = 0 := by
        rw [e_T_4, n1]
        show va_up T.2.2.1 1 _ 1 1 = _
        rw [va_up_self]
        rfl
      refine tot_oif (iv_oO h_T_4 k_o (by decide) (by decide) rfl) ?_
      refine tot_ref h_T_4 k_o (by decide) (by decide) (r2 := 3) (rfl : rtg 11 1 = 3) (by decide) (fun n_5 k_n_5 e_n_5 => ?_)
      refine tot_oif (iv_oO h_T_4 k_o (by decide) (by decide) rfl) ?_
      refine tot_ref h_T_4 k_o (by decide) (by decide) (r2 := 6) (rfl : rtg 11 15 = 6) (by decide) (fun n_6 k_n_6 e_n_6 => ?_)
      refine tot_oif (iv_oO h_T_4 k_n_5 (by decide) (by decide) rfl) ?_
      refine tot_thri (R := aR0) (W := [32, 33, 34, 35, 36, 39, 64, 65, 66, 67, 97, 98, 99, 192, 193, 194, 195, 197, 200, 203, 204, 206, 208, 224, 225, 226, 227, 228, 229, 230, 231, 232, 233, 293, 1344, 1376, 1408, 1760, 1792, 1824, 1856, 1888]) (Q := fun r_7 : Int32 => (0 ≤ r_7.toInt ∧ r_7.toInt ≤ 0)) (cs_X3_parse T_4 n_5 a0 n_6 h_T_4 k_n_5 k_n_6 (by omega)) (fun r_7 T_8 i_T_8 y_T_8 d_r_7 => ?_) (fun k_ U_ i_ y_ => ⟨fun q_ => absurd q_ (by rw [n1] at e_v_2; rw [e_v_2] at c_15; omega), fun _ => (rl_keep y_ (by decide)).trans y4⟩)
      have h_T_8 : IV aR0 1586 aK1 aK2 T_8 := i_T_8
      have y8 := (rl_keep y_T_8 (by decide)).trans y4
      replace d_r_7 : (0 ≤ r_7.toInt ∧ r_7.toInt ≤ 0) := d_r_7
      refine tot_oif (iv_oO h_T_8 k_o (by decide) (by decide) rfl) ?_
      refine tot_ref h_T_8 k_o (by decide) (by decide) (r2 := 6) (rfl : rtg 11 14 = 6) (by decide) (fun n_9 k_n_9 e_n_9 => ?_)
      refine tot_oif (iv_oO h_T_8 k_o (by decide) (by decide) rfl) ?_
      refine tot_ref h_T_8 k_o (by decide) (by decide) (r2 := 6) (rfl : rtg 11 15 = 6) (by decide) (fun n_10 k_n_10 e_n_10 => ?_)
      refine tot_oif (iv_oO h_T_8 k_o (by decide) (by decide) rfl) ?_
      refine tot_oif (Nat.ble_eq_true_of_le (iv_lt h_T_8 (iv_sta h_T_8 k_n_10 (by decide) (by decide)))) ?_
      refine tot_let (fun T_11 e_T_11 => ?_)
      have h_T_11 : IV aR0 1586 aK1 aK2 T_11 := by rw [e_T_11]; exact iv_uR h_T_8 k_o (by decide) (by decide) rfl rfl (by rw [k_n_10]; rfl) (by decide)
      have y11 : T_11.2.2.1 1 1 = 0 := by rw [e_T_11]; exact y8
      refine tot_oif (iv_oO h_T_11 k_o (by decide) (by decide) rfl) ?_
      refine tot_oif (Nat.ble_eq_true_of_le (iv_lt h_T_11 (iv_sta h_T_11 k_n_9 (by decide) (by decide)))) ?_
      refine tot_let (fun T_12 e_T_12 => ?_)
      have h_T_12 : IV aR0 1586 aK1 aK2 T_12 := by rw [e_T_12]; exact iv_uR h_T_11 k_o (by decide) (by decide) rfl rfl (by rw [k_n_9]; rfl) (by decide)
      have y12 : T_12.2.2.1 1 1 = 0 := by rw [e_T_12]; exact y11
      refine tot_oif (iv_oO h_T_12 k_o (by decide) (by decide) rfl) ?_
      refine tot_bind (cs_X11_begin T_12 o h_T_12 k_o ) (fun T_13 d_T_13 => ?_)
      have h_T_13 : IV aR0 1586 aK1 aK2 T_13 := d_T_13.1
      have y_T_13 : FW aR0 [128, 256, 257, 258, 368, 1472, 1568, 1600, 1984, 2016, 2048, 2080, 2112, 3202] T_12 T_13 := d_T_13.2
      have y13 := (rl_keep y_T_13 (by decide)).trans y12
      unfold g_X11_load_b65
      refine tot_oif (iv_oO h_T_13 k_o (by decide) (by decide) rfl) ?_
      refine tot_ref h_T_13 k_o (by decide) (by decide) (r2 := 6) (rfl : rtg 11 14 = 6) (by decide) (fun n_16 k_n_16 e_n_16 => ?_)
      refine tot_oif (iv_oO h_T_13 k_n_16 (by decide) (by decide) rfl) ?_
      refine tot_ref h_T_13 k_n_16 (by decide) (by decide) (r2 := 1) (rfl : rtg 6 6 = 1) (by decide) (fun n_17 k_n_17 e_n_17 => ?_)
      refine tot_oif (iv_oO h_T_13 k_n_17 (by decide) (by decide) rfl) ?_
      refine tot_bindq (R := fun r_18 : Int32 => (0 ≤ r_18.toInt ∧ r_18.toInt ≤ 144)) (cs_X1_cells T_13 n_17 h_T_13 k_n_17 ) (fun r_18 d_r_18 => ?_)
      replace d_r_18 : (0 ≤ r_18.toInt ∧ r_18.toInt ≤ 144) := d_r_18
      exact tot_some ⟨fun q_ => absurd q_ (by rw [n1] at e_v_2; rw [e_v_2] at c_15; omega), fun _ => y13⟩
    · replace c_15 := i_nle c_15
      have n1 : n_1 = 1 := h_T.1.2.1.1 n_1 k_n_1 1 (by decide +kernel)
      rw [n1] at e_v_2
      rw [e_v_2] at c_15
      unfold g_X11_load_b15
      exact tot_some ⟨fun _ => rfl, fun q_ => absurd (Or.inr c_15) q_⟩
set_option maxHeartbeats 1000000 in
theorem w2_fr_load_b168 {k158 : MS → Int32 → Option (Int32 × MS)} {r1 : Int32} {S1 : MS} (hk158 : ∀ (x0 : MS) (x1 : Int32), k158 x0 x1 = some (r1, S1) → FK [0, 3, 4, 5, 6, 7, 8, 9, 19, 20] [10, 11, 12, 13, 17, 18, 23] x0 S1) : ∀ n : Nat, ∀ (S : MS) (y1 : Int32) (y2 : Int32), fr_load_b168 k158 n S y1 y2 = some (r1, S1) → FK [0, 3, 4, 5, 6, 7, 8, 9, 19, 20] [10, 11, 12, 13, 17, 18, 23] S S1 := by
  intro n
  induction n with
  | zero =>
    intro S y1 y2 h
    have h : (none : Option (Int32 × MS)) = some (r1, S1) := h
    cases h
  | succ n ih =>
    intro S l2 l3 h
    have p0 : FK [0, 3, 4, 5, 6, 7, 8, 9, 19, 20] [10, 11, 12, 13, 17, 18, 23] S S := FK.rf
    unfold fr_load_b168 at h
    obtain ⟨v2, ev2, h⟩ := elet_some h
    rcases oif_or h with ⟨-, h⟩ | ⟨-, h⟩
    · have h := h
      obtain ⟨v4, ev4, h⟩ := elet_some h
      exact p0.tr (hk158 _ _ h)
    · have h := h
      obtain ⟨v5, ev5, h⟩ := elet_some h
      obtain ⟨v6, ev6, h⟩ := elet_some h
      obtain ⟨r10, S7, eS7, h⟩ := obind2_some h
      have p1 : FK [0, 3, 4, 5, 6, 7, 8, 9, 19, 20] [10, 11, 12, 13, 17, 18, 23] S S7 := p0.tr ((w_fr_centre eS7).w (by decide))
      obtain ⟨r14, S11, eS11, h⟩ := obind2_some h
      have p2 : FK [0, 3, 4, 5, 6, 7, 8, 9, 19, 20] [10, 11, 12, 13, 17, 18, 23] S S11 := p1.tr ((w_fr_centre eS11).w (by decide))
      obtain ⟨r18, S15, eS15, h⟩ := obind2_some h
      have p3 : FK [0, 3, 4, 5, 6, 7, 8, 9, 19, 20] [10, 11, 12, 13, 17, 18, 23] S S15 := p2.tr ((w_fr_delayFrom eS15).w (by decide))
      have h := (oif_some h).2
      obtain ⟨S20, eS20, h⟩ := elet_some h
      have p4 : FK [0, 3, 4, 5, 6, 7, 8, 9, 19, 20] [10, 11, 12, 13, 17, 18, 23] S S20 := p3.tr (by rw [eS20]; exact fw_mf (by decide))
      obtain ⟨v21, ev21, h⟩ := elet_some h
      exact p4.tr (ih _ _ _ h)
set_option maxHeartbeats 1000000 in
theorem w2_fr_load_b158 {r1 : Int32} {S1 : MS} : ∀ n : Nat, ∀ (S : MS) (y1 : Int32), fr_load_b158 n S y1 = some (r1, S1) → FK [0, 3, 4, 5, 6, 7, 8, 9, 19, 20] [10, 11, 12, 13, 17, 18, 23] S S1 := by
  intro n
  induction n with
  | zero =>
    intro S y1 h
    have h : (none : Option (Int32 × MS)) = some (r1, S1) := h
    cases h
  | succ n ih =>
    intro S l2 h
    have p0 : FK [0, 3, 4, 5, 6, 7, 8, 9, 19, 20] [10, 11, 12, 13, 17, 18, 23] S S := FK.rf
    unfold fr_load_b158 at h
    obtain ⟨r5, S2, eS2, h⟩ := obind2_some h
    have p1 : FK [0, 3, 4, 5, 6, 7, 8, 9, 19, 20] [10, 11, 12, 13, 17, 18, 23] S S2 := p0.tr ((w_fr_cellCount eS2).w (by decide))
    rcases oif_or h with ⟨-, h⟩ | ⟨-, h⟩
    · have h := h
      obtain ⟨S7, eS7, h⟩ := obind_some h
      have p2 : FK [0, 3, 4, 5, 6, 7, 8, 9, 19, 20] [10, 11, 12, 13, 17, 18, 23] S S7 := p1.tr ((w_fr_records_12 eS7).w (by decide))
      obtain ⟨S10, eS10, h⟩ := elet_some h
      have p3 : FK [0, 3, 4, 5, 6, 7, 8, 9, 19, 20] [10, 11, 12, 13, 17, 18, 23] S S10 := p2.tr (by rw [eS10]; exact fw_mi (by decide))
      obtain ⟨S11, eS11, h⟩ := elet_some h
      have p4 : FK [0, 3, 4, 5, 6, 7, 8, 9, 19, 20] [10, 11, 12, 13, 17, 18, 23] S S11 := p3.tr (by rw [eS11]; exact fw_mf (by decide))
      obtain ⟨S12, eS12, h⟩ := elet_some h
      have p5 : FK [0, 3, 4, 5, 6, 7, 8, 9, 19, 20] [10, 11, 12, 13, 17, 18, 23] S S12 := p4.tr (by rw [eS12]; exact fw_mf (by decide))
      obtain ⟨S13, eS13, h⟩ := elet_some h
      have p6 : FK [0, 3, 4, 5, 6, 7, 8, 9, 19, 20] [10, 11, 12, 13, 17, 18, 23] S S13 := p5.tr (by rw [eS13]; exact fw_mi (by decide))
      obtain ⟨r17, S14, eS14, h⟩ := obind2_some h
      have p7 : FK [0, 3, 4, 5, 6, 7, 8, 9, 19, 20] [10, 11, 12, 13, 17, 18, 23] S S14 := p6.tr ((w_fr_cellCount eS14).w (by decide))
      rw [← (osome2 h).2]
      exact p7
    · have h := h
      exact p1.tr (w2_fr_load_b168 ih _ _ _ _ h)
set_option maxHeartbeats 1000000 in
theorem w2_fr_load_b149 {k107 : MS → Int32 → Option (Int32 × MS)} {s0 : Int32} {s1 : Int32} {l2 : Int32} {S : MS} {r1 : Int32} {S1 : MS} (hk107 : ∀ (x0 : MS) (x1 : Int32), k107 x0 x1 = some (r1, S1) → FK [0, 3, 4, 5, 6, 7, 8, 9, 19, 20] [10, 11, 12, 13, 17, 18, 23] x0 S1) (h : fr_load_b149 k107 S s0 s1 l2 = some (r1, S1)) : FK [0, 3, 4, 5, 6, 7, 8, 9, 19, 20] [10, 11, 12, 13, 17, 18, 23] S S1 := by
  have p0 : FK [0, 3, 4, 5, 6, 7, 8, 9, 19, 20] [10, 11, 12, 13, 17, 18, 23] S S := FK.rf
  unfold fr_load_b149 at h
  have h := (oif_some h).2
  obtain ⟨S3, eS3, h⟩ := elet_some h
  have p1 : FK [0, 3, 4, 5, 6, 7, 8, 9, 19, 20] [10, 11, 12, 13, 17, 18, 23] S S3 := p0.tr (by rw [eS3]; exact fw_mf (by decide))
  obtain ⟨v4, ev4, h⟩ := elet_some h
  exact p1.tr (hk107 _ _ h)
set_option maxHeartbeats 1000000 in
theorem w2_fr_load_b107 {r1 : Int32} {S1 : MS} : ∀ n : Nat, ∀ (S : MS) (y1 : Int32), fr_load_b107 n S y1 = some (r1, S1) → FK [0, 3, 4, 5, 6, 7, 8, 9, 19, 20] [10, 11, 12, 13, 17, 18, 23] S S1 := by
  intro n
  induction n with
  | zero =>
    intro S y1 h
    have h : (none : Option (Int32 × MS)) = some (r1, S1) := h
    cases h
  | succ n ih =>
    intro S l2 h
    have p0 : FK [0, 3, 4, 5, 6, 7, 8, 9, 19, 20] [10, 11, 12, 13, 17, 18, 23] S S := FK.rf
    unfold fr_load_b107 at h
    obtain ⟨v2, ev2, h⟩ := elet_some h
    rcases oif_or h with ⟨-, h⟩ | ⟨-, h⟩
    · have h := h
      exact p0.tr (w2_fr_load_b158  _ _ _ h)
    · have h := h
      obtain ⟨v4, ev4, h⟩ := elet_some h
      obtain ⟨v5, ev5, h⟩ := elet_some h
      rcases oif_or h with ⟨-, h⟩ | ⟨-, h⟩
      · have h := h
        exact p0.tr (w2_fr_load_b149 ih h)
      · have h := h
        obtain ⟨v7, ev7, h⟩ := elet_some h
        have h := (oif_some h).2
        obtain ⟨v9, ev9, h⟩ := elet_some h
        exact p0.tr (w2_fr_load_b149 ih h)
set_option maxHeartbeats 1000000 in
theorem w2_fr_load_b67 {r1 : Int32} {S1 : MS} : ∀ n : Nat, ∀ (S : MS) (y1 : Int32), fr_load_b67 n S y1 = some (r1, S1) → FK [0, 3, 4, 5, 6, 7, 8, 9, 19, 20] [10, 11, 12, 13, 17, 18, 23] S S1 := by
  intro n
  induction n with
  | zero =>
    intro S y1 h
    have h : (none : Option (Int32 × MS)) = some (r1, S1) := h
    cases h
  | succ n ih =>
    intro S l2 h
    have p0 : FK [0, 3, 4, 5, 6, 7, 8, 9, 19, 20] [10, 11, 12, 13, 17, 18, 23] S S := FK.rf
    unfold fr_load_b67 at h
    rcases oif_or h with ⟨-, h⟩ | ⟨-, h⟩
    · have h := h
      obtain ⟨S3, eS3, h⟩ := obind_some h
      have p1 : FK [0, 3, 4, 5, 6, 7, 8, 9, 19, 20] [10, 11, 12, 13, 17, 18, 23] S S3 := p0.tr ((w_fr_copy_13_12 eS3).w (by decide))
      exact p1.tr (w2_fr_load_b107  _ _ _ h)
    · have h := h
      have h := (oif_some h).2
      obtain ⟨v7, ev7, h⟩ := elet_some h
      have h := (oif_some h).2
      obtain ⟨S9, eS9, h⟩ := elet_some h
      have p2 : FK [0, 3, 4, 5, 6, 7, 8, 9, 19, 20] [10, 11, 12, 13, 17, 18, 23] S S9 := p0.tr (by rw [eS9]; exact fw_mf (by decide))
      obtain ⟨v10, ev10, h⟩ := elet_some h
      exact p2.tr (ih _ _ h)
theorem fa_load {S : MS} {a0 : Int32} {r : Int32} {S1 : MS} (h : fr_load S a0 = some (r, S1)) : (a0.toInt < 0 ∨ (S.1 2).toInt < a0.toInt → S1.1 2 = S.1 2) ∧ (¬ (a0.toInt < 0 ∨ (S.1 2).toInt < a0.toInt) → S1.1 2 = 0) := by
  have z0 : (0 : Int32).toInt = 0 := by decide
  unfold fr_load at h
  obtain ⟨S2, e2, h⟩ := elet_some h
  obtain ⟨v3, e3, h⟩ := elet_some h
  have q2 : S2.1 2 = S.1 2 := by rw [e2]; rfl
  obtain ⟨r4, e4, h⟩ := obind_some h
  have h4 := tgo (tin a0 0 v3) e4
  have h4 : r4.toInt = 0 ∧ (a0.toInt < (0 : Int32).toInt ∨ v3.toInt < a0.toInt) ∨ r4.toInt = 1 ∧ (0 : Int32).toInt ≤ a0.toInt ∧ a0.toInt ≤ v3.toInt := h4
  have e3 : v3 = S.1 2 := e3.trans q2
  rw [e3] at h4
  by_cases c : r4 = 0
  · rw [if_pos c] at h
    rw [c] at h4
    obtain ⟨r10, S7, e7, h⟩ := obind2_some h
    have f := osome2 h
    refine ⟨fun _ => ?_, fun q => absurd (show a0.toInt < 0 ∨ (S.1 2).toInt < a0.toInt by omega) q⟩
    rw [← f.2, (w_fr_throwsAt e7).1 2 (by decide), q2]
  · rw [if_neg c] at h
    have c : r4.toInt ≠ 0 := fun q => c (Int32.toInt_inj.mp (by rw [q, z0]))
    obtain ⟨S11, e11, h⟩ := elet_some h
    obtain ⟨S12, e12, h⟩ := elet_some h
    obtain ⟨S13, e13, h⟩ := elet_some h
    obtain ⟨S14, e14, h⟩ := elet_some h
    obtain ⟨S15, e15, h⟩ := elet_some h
    have q15 : S15.1 2 = 0 := by rw [e15, e14, e13, e12]; rfl
    obtain ⟨S16, e16, h⟩ := obind_some h
    have q16 : S16.1 2 = 0 := ((w_fr_readText e16).1 2 (by decide)).trans q15
    obtain ⟨v19, -, h⟩ := elet_some h
    refine ⟨fun q => absurd q (by omega), fun _ => ?_⟩
    rcases oif_or h with ⟨-, h⟩ | ⟨-, h⟩
    · exact ((w2_fr_load_b67 _ _ _ h).1 2 (by decide)).trans q16
    · obtain ⟨r24, S21, e21, h⟩ := obind2_some h
      have f := osome2 h
      rw [← f.2, (w_fr_throwsAt e21).1 2 (by decide), q16]
theorem rl_load {T : AT} {S : MS} {a0 : Int32} {k1 : Nat} {r1 r2 : Int32} {T1 : AT} {S1 : MS} (hV : IV aR0 1586 aK1 aK2 T) (hJ : JJ S) (hr : RL2 T S) (hg : g_X11_load T 0 a0 = some (k1, r1, T1)) (hf : fr_load S a0 = some (r2, S1)) : RL2 T1 S1 := by
  obtain ⟨x1, x2⟩ := tgo (ga_load T 0 a0 hV (by decide +kernel)) hg
  obtain ⟨y1, y2⟩ := fa_load hf
  unfold RL2 at hr ⊢
  by_cases c : a0.toInt < 0 ∨ (T.2.2.1 1 1).toInt < a0.toInt
  · have x1 : T1.2.2.1 1 1 = T.2.2.1 1 1 := x1 c
    rw [x1, y1 (by rw [← hr]; exact c), hr]
  · have x2 : T1.2.2.1 1 1 = 0 := x2 c
    rw [x2, y2 (by rw [← hr]; exact c)]
theorem rl_parseError {T : AT} {S : MS} {r1 : Int32} {r2 : Int32} {T1 : AT} {S1 : MS} (hV : IV aR0 1586 aK1 aK2 T) (hJ : JJ S) (hr : RL2 T S) (hg : g_X11_parseError T 0 = some (r1, T1)) (hf : fr_parseError S = some (r2, S1)) : RL2 T1 S1 := by
  have c := tgo (cs_X11_parseError T 0  hV (by decide +kernel)) hg
  have e : T1.2.2.1 1 1 = T.2.2.1 1 1 := by rw [show T1 = T from c.1]
  unfold RL2 at hr ⊢
  rw [e, hr, (w_fr_parseError hf).1 2 (by decide)]
theorem rl_errorPosition {T : AT} {S : MS} {r1 : Int32} {r2 : Int32} {T1 : AT} {S1 : MS} (hV : IV aR0 1586 aK1 aK2 T) (hJ : JJ S) (hr : RL2 T S) (hg : g_X11_errorPosition T 0 = some (r1, T1)) (hf : fr_errorPosition S = some (r2, S1)) : RL2 T1 S1 := by
  have c := tgo (cs_X11_errorPosition T 0  hV (by decide +kernel)) hg
  have e : T1.2.2.1 1 1 = T.2.2.1 1 1 := by rw [show T1 = T from c.1]
  unfold RL2 at hr ⊢
  rw [e, hr, (w_fr_errorPosition hf).1 2 (by decide)]
theorem rl_buffered {T : AT} {S : MS} {r1 : Int32} {r2 : Int32} {T1 : AT} {S1 : MS} (hV : IV aR0 1586 aK1 aK2 T) (hJ : JJ S) (hr : RL2 T S) (hg : g_X11_buffered T 0 = some (r1, T1)) (hf : fr_buffered S = some (r2, S1)) : RL2 T1 S1 := by
  have c := tgo (cs_X11_buffered T 0  hV (by decide +kernel)) hg
  have e : T1.2.2.1 1 1 = T.2.2.1 1 1 := by rw [show T1 = T from c.1]
  unfold RL2 at hr ⊢
  rw [e, hr, (w_fr_buffered hf).1 2 (by decide)]
theorem rl_mics {T : AT} {S : MS} {r1 : Int32} {r2 : Int32} {T1 : AT} {S1 : MS} (hV : IV aR0 1586 aK1 aK2 T) (hJ : JJ S) (hr : RL2 T S) (hg : g_X11_mics T 0 = some (r1, T1)) (hf : fr_mics S = some (r2, S1)) : RL2 T1 S1 := by
  have c := tgo (cs_X11_mics T 0  hV (by decide +kernel)) hg
  have e : T1.2.2.1 1 1 = T.2.2.1 1 1 := by rw [show T1 = T from c.1]
  unfold RL2 at hr ⊢
  rw [e, hr, (w_fr_mics hf).1 2 (by decide)]
theorem rl_micAt {T : AT} {S : MS} {a0 a1 : Int32} {r1 : Int32} {r2 : Int32} {k1 : Nat} {T1 : AT} {S1 : MS} (hV : IV aR0 1586 aK1 aK2 T) (hJ : JJ S) (hr : RL2 T S) (hg : g_X11_micAt T 0 a0 a1 = some (k1, r1, T1)) (hf : fr_micAt S a0 a1 = some (r2, S1)) : RL2 T1 S1 := by
  have c := tgo (cs_X11_micAt T 0 a0 a1 hV (by decide +kernel)) hg
  have e : T1.2.2.1 1 1 = T.2.2.1 1 1 := by rw [show T1 = T from c.1]
  unfold RL2 at hr ⊢
  rw [e, hr, (w_fr_micAt hf).1 2 (by decide)]
theorem rl_isMuted {T : AT} {S : MS} {a0 : Int32} {r1 : Int32} {r2 : Int32} {k1 : Nat} {T1 : AT} {S1 : MS} (hV : IV aR0 1586 aK1 aK2 T) (hJ : JJ S) (hr : RL2 T S) (hg : g_X11_isMuted T 0 a0 = some (k1, r1, T1)) (hf : fr_isMuted S a0 = some (r2, S1)) : RL2 T1 S1 := by
  have c := tgo (cs_X11_isMuted T 0 a0 hV (by decide +kernel)) hg
  have e : T1.2.2.1 1 1 = T.2.2.1 1 1 := by rw [show T1 = T from c.1]
  unfold RL2 at hr ⊢
  rw [e, hr, (w_fr_isMuted hf).1 2 (by decide)]
theorem rl_columns {T : AT} {S : MS} {r1 : Int32} {r2 : Int32} {T1 : AT} {S1 : MS} (hV : IV aR0 1586 aK1 aK2 T) (hJ : JJ S) (hr : RL2 T S) (hg : g_X11_columns T 0 = some (r1, T1)) (hf : fr_columns S = some (r2, S1)) : RL2 T1 S1 := by
  have c := tgo (cs_X11_columns T 0  hV (by decide +kernel)) hg
  have e : T1.2.2.1 1 1 = T.2.2.1 1 1 := by rw [show T1 = T from c.1]
  unfold RL2 at hr ⊢
  rw [e, hr, (w_fr_columns hf).1 2 (by decide)]
theorem rl_rows {T : AT} {S : MS} {r1 : Int32} {r2 : Int32} {T1 : AT} {S1 : MS} (hV : IV aR0 1586 aK1 aK2 T) (hJ : JJ S) (hr : RL2 T S) (hg : g_X11_rows T 0 = some (r1, T1)) (hf : fr_rows S = some (r2, S1)) : RL2 T1 S1 := by
  have c := tgo (cs_X11_rows T 0  hV (by decide +kernel)) hg
  have e : T1.2.2.1 1 1 = T.2.2.1 1 1 := by rw [show T1 = T from c.1]
  unfold RL2 at hr ⊢
  rw [e, hr, (w_fr_rows hf).1 2 (by decide)]
theorem rl_cellAt {T : AT} {S : MS} {a0 a1 : Int32} {r1 : Int32} {r2 : Int32} {k1 : Nat} {T1 : AT} {S1 : MS} (hV : IV aR0 1586 aK1 aK2 T) (hJ : JJ S) (hr : RL2 T S) (hg : g_X11_cellAt T 0 a0 a1 = some (k1, r1, T1)) (hf : fr_cellAt S a0 a1 = some (r2, S1)) : RL2 T1 S1 := by
  have c := tgo (cs_X11_cellAt T 0 a0 a1 hV (by decide +kernel)) hg
  have e : T1.2.2.1 1 1 = T.2.2.1 1 1 := by rw [show T1 = T from c.1]
  unfold RL2 at hr ⊢
  rw [e, hr, (w_fr_cellAt hf).1 2 (by decide)]
theorem rl_sources {T : AT} {S : MS} {r1 : Int32} {r2 : Int32} {T1 : AT} {S1 : MS} (hV : IV aR0 1586 aK1 aK2 T) (hJ : JJ S) (hr : RL2 T S) (hg : g_X11_sources T 0 = some (r1, T1)) (hf : fr_sources S = some (r2, S1)) : RL2 T1 S1 := by
  have c := tgo (cs_X11_sources T 0  hV (by decide +kernel)) hg
  have e : T1.2.2.1 1 1 = T.2.2.1 1 1 := by rw [show T1 = T from c.1]
  unfold RL2 at hr ⊢
  rw [e, hr, (w_fr_sources hf).1 2 (by decide)]
theorem rl_sourceAt {T : AT} {S : MS} {a0 a1 a2 : Int32} {r1 : Int32} {r2 : Int32} {k1 : Nat} {T1 : AT} {S1 : MS} (hV : IV aR0 1586 aK1 aK2 T) (hJ : JJ S) (hr : RL2 T S) (hg : g_X11_sourceAt T 0 a0 a1 a2 = some (k1, r1, T1)) (hf : fr_sourceAt S a0 a1 a2 = some (r2, S1)) : RL2 T1 S1 := by
  have c := tgo (cs_X11_sourceAt T 0 a0 a1 a2 hV (by decide +kernel)) hg
  have e : T1.2.2.1 1 1 = T.2.2.1 1 1 := by rw [show T1 = T from c.1]
  unfold RL2 at hr ⊢
  rw [e, hr, (w_fr_sourceAt hf).1 2 (by decide)]
theorem rl_isOn {T : AT} {S : MS} {a0 : Int32} {r1 : Int32} {r2 : Int32} {k1 : Nat} {T1 : AT} {S1 : MS} (hV : IV aR0 1586 aK1 aK2 T) (hJ : JJ S) (hr : RL2 T S) (hg : g_X11_isOn T 0 a0 = some (k1, r1, T1)) (hf : fr_isOn S a0 = some (r2, S1)) : RL2 T1 S1 := by
  have c := tgo (cs_X11_isOn T 0 a0 hV (by decide +kernel)) hg
  have e : T1.2.2.1 1 1 = T.2.2.1 1 1 := by rw [show T1 = T from c.1]
  unfold RL2 at hr ⊢
  rw [e, hr, (w_fr_isOn hf).1 2 (by decide)]
theorem rl_waveAt {T : AT} {S : MS} {a0 a1 : Int32} {r1 : Int32} {r2 : Int32} {k1 : Nat} {T1 : AT} {S1 : MS} (hV : IV aR0 1586 aK1 aK2 T) (hJ : JJ S) (hr : RL2 T S) (hg : g_X11_waveAt T 0 a0 a1 = some (k1, r1, T1)) (hf : fr_waveAt S a0 a1 = some (r2, S1)) : RL2 T1 S1 := by
  have c := tgo (cs_X11_waveAt T 0 a0 a1 hV (by decide +kernel)) hg
  have e : T1.2.2.1 1 1 = T.2.2.1 1 1 := by rw [show T1 = T from c.1]
  unfold RL2 at hr ⊢
  rw [e, hr, (w_fr_waveAt hf).1 2 (by decide)]
theorem rl_samples {T : AT} {S : MS} {r1 : Int32} {r2 : Int32} {T1 : AT} {S1 : MS} (hV : IV aR0 1586 aK1 aK2 T) (hJ : JJ S) (hr : RL2 T S) (hg : g_X11_samples T 0 = some (r1, T1)) (hf : fr_samples S = some (r2, S1)) : RL2 T1 S1 := by
  have c := tgo (cs_X11_samples T 0  hV (by decide +kernel)) hg
  have e : T1.2.2.1 1 1 = T.2.2.1 1 1 := by rw [show T1 = T from c.1]
  unfold RL2 at hr ⊢
  rw [e, hr, (w_fr_samples hf).1 2 (by decide)]
theorem rl_delay {T : AT} {S : MS} {a0 a1 : Int32} {r1 : Int32} {r2 : Int32} {k1 : Nat} {T1 : AT} {S1 : MS} (hV : IV aR0 1586 aK1 aK2 T) (hJ : JJ S) (hr : RL2 T S) (hg : g_X11_delay T 0 a0 a1 = some (k1, r1, T1)) (hf : fr_delay S a0 a1 = some (r2, S1)) : RL2 T1 S1 := by
  have c := tgo (cs_X11_delay T 0 a0 a1 hV (by decide +kernel)) hg
  have e : T1.2.2.1 1 1 = T.2.2.1 1 1 := by rw [show T1 = T from c.1]
  unfold RL2 at hr ⊢
  rw [e, hr, (w_fr_delay hf).1 2 (by decide)]
theorem rl_delayTo {T : AT} {S : MS} {a0 a1 a2 : Int32} {r1 : Int32} {r2 : Int32} {k1 : Nat} {T1 : AT} {S1 : MS} (hV : IV aR0 1586 aK1 aK2 T) (hJ : JJ S) (hr : RL2 T S) (hg : g_X11_delayTo T 0 a0 a1 a2 = some (k1, r1, T1)) (hf : fr_delayTo S a0 a1 a2 = some (r2, S1)) : RL2 T1 S1 := by
  have c := tgo (cs_X11_delayTo T 0 a0 a1 a2 hV (by decide +kernel)) hg
  have e : T1.2.2.1 1 1 = T.2.2.1 1 1 := by rw [show T1 = T from c.1]
  unfold RL2 at hr ⊢
  rw [e, hr, (w_fr_delayTo hf).1 2 (by decide)]
theorem rl_spread {T : AT} {S : MS} {a0 : Int32} {r1 : Int32} {r2 : Int32} {k1 : Nat} {T1 : AT} {S1 : MS} (hV : IV aR0 1586 aK1 aK2 T) (hJ : JJ S) (hr : RL2 T S) (hg : g_X11_spread T 0 a0 = some (k1, r1, T1)) (hf : fr_spread S a0 = some (r2, S1)) : RL2 T1 S1 := by
  have c := tgo (cs_X11_spread T 0 a0 hV (by decide +kernel)) hg
  have e : T1.2.2.1 1 1 = T.2.2.1 1 1 := by rw [show T1 = T from c.1]
  unfold RL2 at hr ⊢
  rw [e, hr, (w_fr_spread hf).1 2 (by decide)]
theorem rl_window {T : AT} {S : MS} {a0 : Int32} {r1 : Int32} {r2 : Int32} {k1 : Nat} {T1 : AT} {S1 : MS} (hV : IV aR0 1586 aK1 aK2 T) (hJ : JJ S) (hr : RL2 T S) (hg : g_X11_window T 0 a0 = some (k1, r1, T1)) (hf : fr_window S a0 = some (r2, S1)) : RL2 T1 S1 := by
  have c := tgo (cs_X11_window T 0 a0 hV (by decide +kernel)) hg
  have e : T1.2.2.1 1 1 = T.2.2.1 1 1 := by rw [show T1 = T from c.1]
  unfold RL2 at hr ⊢
  rw [e, hr, (w_fr_window hf).1 2 (by decide)]
theorem rl_sample {T : AT} {S : MS} {a0 a1 : Int32} {r1 : Int32} {r2 : Int32} {k1 : Nat} {T1 : AT} {S1 : MS} (hV : IV aR0 1586 aK1 aK2 T) (hJ : JJ S) (hr : RL2 T S) (hg : g_X11_sample T 0 a0 a1 = some (k1, r1, T1)) (hf : fr_sample S a0 a1 = some (r2, S1)) : RL2 T1 S1 := by
  have c := tgo (cs_X11_sample T 0 a0 a1 hV (by decide +kernel)) hg
  have e : T1.2.2.1 1 1 = T.2.2.1 1 1 := by rw [show T1 = T from c.1]
  unfold RL2 at hr ⊢
  rw [e, hr, (w_fr_sample hf).1 2 (by decide)]
theorem rl_beam {T : AT} {S : MS} {a0 a1 : Int32} {r1 : Int32} {r2 : Int32} {k1 : Nat} {T1 : AT} {S1 : MS} (hV : IV aR0 1586 aK1 aK2 T) (hJ : JJ S) (hr : RL2 T S) (hg : g_X11_beam T 0 a0 a1 = some (k1, r1, T1)) (hf : fr_beam S a0 a1 = some (r2, S1)) : RL2 T1 S1 := by
  have c := tgo (cs_X11_beam T 0 a0 a1 hV (by decide +kernel)) hg
  have e := rl_keep (T1 := T1) c.1.2 (by decide)
  unfold RL2 at hr ⊢
  rw [e, hr, (w_fr_beam hf).1 2 (by decide)]
theorem rl_power {T : AT} {S : MS} {a0 : Int32} {r1 : Int64} {r2 : Int64} {k1 : Nat} {T1 : AT} {S1 : MS} (hV : IV aR0 1586 aK1 aK2 T) (hJ : JJ S) (hr : RL2 T S) (hg : g_X11_power T 0 a0 = some (k1, r1, T1)) (hf : fr_power S a0 = some (r2, S1)) : RL2 T1 S1 := by
  have c := tgo (cs_X11_power T 0 a0 hV (by decide +kernel)) hg
  have e := rl_keep (T1 := T1) c.1.2 (by decide)
  unfold RL2 at hr ⊢
  rw [e, hr, (w_fr_power hf).1 2 (by decide)]
theorem rl_powerAt {T : AT} {S : MS} {a0 a1 : Int32} {r1 : Int64} {r2 : Int64} {k1 : Nat} {T1 : AT} {S1 : MS} (hV : IV aR0 1586 aK1 aK2 T) (hJ : JJ S) (hr : RL2 T S) (hg : g_X11_powerAt T 0 a0 a1 = some (k1, r1, T1)) (hf : fr_powerAt S a0 a1 = some (r2, S1)) : RL2 T1 S1 := by
  have c := tgo (cs_X11_powerAt T 0 a0 a1 hV (by decide +kernel)) hg
  have e := rl_keep (T1 := T1) c.1.2 (by decide)
  unfold RL2 at hr ⊢
  rw [e, hr, (w_fr_powerAt hf).1 2 (by decide)]
theorem rl_best {T : AT} {S : MS} {r1 : Int32} {r2 : Int32} {k1 : Nat} {T1 : AT} {S1 : MS} (hV : IV aR0 1586 aK1 aK2 T) (hJ : JJ S) (hr : RL2 T S) (hg : g_X11_best T 0 = some (k1, r1, T1)) (hf : fr_best S = some (r2, S1)) : RL2 T1 S1 := by
  have c := tgo (cs_X11_best T 0  hV (by decide +kernel)) hg
  have e := rl_keep (T1 := T1) c.1.2 (by decide)
  unfold RL2 at hr ⊢
  rw [e, hr, (w_fr_best hf).1 2 (by decide)]
theorem rl_bestPower {T : AT} {S : MS} {r1 : Int64} {r2 : Int64} {k1 : Nat} {T1 : AT} {S1 : MS} (hV : IV aR0 1586 aK1 aK2 T) (hJ : JJ S) (hr : RL2 T S) (hg : g_X11_bestPower T 0 = some (k1, r1, T1)) (hf : fr_bestPower S = some (r2, S1)) : RL2 T1 S1 := by
  have c := tgo (cs_X11_bestPower T 0  hV (by decide +kernel)) hg
  have e := rl_keep (T1 := T1) c.1.2 (by decide)
  unfold RL2 at hr ⊢
  rw [e, hr, (w_fr_bestPower hf).1 2 (by decide)]
theorem rl_meanPower {T : AT} {S : MS} {r1 : Int64} {r2 : Int64} {k1 : Nat} {T1 : AT} {S1 : MS} (hV : IV aR0 1586 aK1 aK2 T) (hJ : JJ S) (hr : RL2 T S) (hg : g_X11_meanPower T 0 = some (k1, r1, T1)) (hf : fr_meanPower S = some (r2, S1)) : RL2 T1 S1 := by
  have c := tgo (cs_X11_meanPower T 0  hV (by decide +kernel)) hg
  have e := rl_keep (T1 := T1) c.1.2 (by decide)
  unfold RL2 at hr ⊢
  rw [e, hr, (w_fr_meanPower hf).1 2 (by decide)]
theorem rl_peaks {T : AT} {S : MS} {r1 : Int32} {r2 : Int32} {k1 : Nat} {T1 : AT} {S1 : MS} (hV : IV aR0 1586 aK1 aK2 T) (hJ : JJ S) (hr : RL2 T S) (hg : g_X11_peaks T 0 = some (k1, r1, T1)) (hf : fr_peaks S = some (r2, S1)) : RL2 T1 S1 := by
  have c := tgo (cs_X11_peaks T 0  hV (by decide +kernel)) hg
  have e := rl_keep (T1 := T1) c.1.2 (by decide)
  unfold RL2 at hr ⊢
  rw [e, hr, (w_fr_peaks hf).1 2 (by decide)]
theorem rl_peakAt {T : AT} {S : MS} {a0 : Int32} {r1 : Int32} {r2 : Int32} {k1 : Nat} {T1 : AT} {S1 : MS} (hV : IV aR0 1586 aK1 aK2 T) (hJ : JJ S) (hr : RL2 T S) (hg : g_X11_peakAt T 0 a0 = some (k1, r1, T1)) (hf : fr_peakAt S a0 = some (r2, S1)) : RL2 T1 S1 := by
  have c := tgo (cs_X11_peakAt T 0 a0 hV (by decide +kernel)) hg
  have e := rl_keep (T1 := T1) c.1.2 (by decide)
  unfold RL2 at hr ⊢
  rw [e, hr, (w_fr_peakAt hf).1 2 (by decide)]
theorem rl_isPeak {T : AT} {S : MS} {a0 : Int32} {r1 : Int32} {r2 : Int32} {k1 : Nat} {T1 : AT} {S1 : MS} (hV : IV aR0 1586 aK1 aK2 T) (hJ : JJ S) (hr : RL2 T S) (hg : g_X11_isPeak T 0 a0 = some (k1, r1, T1)) (hf : fr_isPeak S a0 = some (r2, S1)) : RL2 T1 S1 := by
  have c := tgo (cs_X11_isPeak T 0 a0 hV (by decide +kernel)) hg
  have e := rl_keep (T1 := T1) c.1.2 (by decide)
  unfold RL2 at hr ⊢
  rw [e, hr, (w_fr_isPeak hf).1 2 (by decide)]
theorem rl_zonePower {T : AT} {S : MS} {a0 : Int32} {r1 : Int64} {r2 : Int64} {k1 : Nat} {T1 : AT} {S1 : MS} (hV : IV aR0 1586 aK1 aK2 T) (hJ : JJ S) (hr : RL2 T S) (hg : g_X11_zonePower T 0 a0 = some (k1, r1, T1)) (hf : fr_zonePower S a0 = some (r2, S1)) : RL2 T1 S1 := by
  have c := tgo (cs_X11_zonePower T 0 a0 hV (by decide +kernel)) hg
  have e := rl_keep (T1 := T1) c.1.2 (by decide)
  unfold RL2 at hr ⊢
  rw [e, hr, (w_fr_zonePower hf).1 2 (by decide)]
theorem rl_zoneBest {T : AT} {S : MS} {a0 : Int32} {r1 : Int32} {r2 : Int32} {k1 : Nat} {T1 : AT} {S1 : MS} (hV : IV aR0 1586 aK1 aK2 T) (hJ : JJ S) (hr : RL2 T S) (hg : g_X11_zoneBest T 0 a0 = some (k1, r1, T1)) (hf : fr_zoneBest S a0 = some (r2, S1)) : RL2 T1 S1 := by
  have c := tgo (cs_X11_zoneBest T 0 a0 hV (by decide +kernel)) hg
  have e := rl_keep (T1 := T1) c.1.2 (by decide)
  unfold RL2 at hr ⊢
  rw [e, hr, (w_fr_zoneBest hf).1 2 (by decide)]
theorem rl_contrast {T : AT} {S : MS} {r1 : UInt32} {r2 : UInt32} {k1 : Nat} {T1 : AT} {S1 : MS} (hV : IV aR0 1586 aK1 aK2 T) (hJ : JJ S) (hr : RL2 T S) (hg : g_X11_contrast T 0 = some (k1, r1, T1)) (hf : fr_contrast S = some (r2, S1)) : RL2 T1 S1 := by
  have c := tgo (cs_X11_contrast T 0  hV (by decide +kernel)) hg
  have e := rl_keep (T1 := T1) c.1.2 (by decide)
  unfold RL2 at hr ⊢
  rw [e, hr, (w_fr_contrast hf).1 2 (by decide)]
theorem rl_alias {T : AT} {S : MS} {a0 a1 a2 : Int32} {r1 : Int32} {r2 : Int32} {k1 : Nat} {T1 : AT} {S1 : MS} (hV : IV aR0 1586 aK1 aK2 T) (hJ : JJ S) (hr : RL2 T S) (hg : g_X11_alias T 0 a0 a1 a2 = some (k1, r1, T1)) (hf : fr_alias S a0 a1 a2 = some (r2, S1)) : RL2 T1 S1 := by
  have c := tgo (cs_X11_alias T 0 a0 a1 a2 hV (by decide +kernel)) hg
  have e : T1.2.2.1 1 1 = T.2.2.1 1 1 := by rw [show T1 = T from c.1]
  unfold RL2 at hr ⊢
  rw [e, hr, (w_fr_alias hf).1 2 (by decide)]
theorem rl_isAlias {T : AT} {S : MS} {a0 a1 a2 : Int32} {r1 : Int32} {r2 : Int32} {k1 : Nat} {T1 : AT} {S1 : MS} (hV : IV aR0 1586 aK1 aK2 T) (hJ : JJ S) (hr : RL2 T S) (hg : g_X11_isAlias T 0 a0 a1 a2 = some (k1, r1, T1)) (hf : fr_isAlias S a0 a1 a2 = some (r2, S1)) : RL2 T1 S1 := by
  have c := tgo (cs_X11_isAlias T 0 a0 a1 a2 hV (by decide +kernel)) hg
  have e := rl_keep (T1 := T1) c.1.2 (by decide)
  unfold RL2 at hr ⊢
  rw [e, hr, (w_fr_isAlias hf).1 2 (by decide)]
theorem rl_aliases {T : AT} {S : MS} {a0 a1 : Int32} {r1 : Int32} {r2 : Int32} {k1 : Nat} {T1 : AT} {S1 : MS} (hV : IV aR0 1586 aK1 aK2 T) (hJ : JJ S) (hr : RL2 T S) (hg : g_X11_aliases T 0 a0 a1 = some (k1, r1, T1)) (hf : fr_aliases S a0 a1 = some (r2, S1)) : RL2 T1 S1 := by
  have c := tgo (cs_X11_aliases T 0 a0 a1 hV (by decide +kernel)) hg
  have e := rl_keep (T1 := T1) c.1.2 (by decide)
  unfold RL2 at hr ⊢
  rw [e, hr, (w_fr_aliases hf).1 2 (by decide)]
theorem rl_blockPower {T : AT} {S : MS} {a0 a1 a2 : Int32} {r1 : Int64} {r2 : Int64} {k1 : Nat} {T1 : AT} {S1 : MS} (hV : IV aR0 1586 aK1 aK2 T) (hJ : JJ S) (hr : RL2 T S) (hg : g_X11_blockPower T 0 a0 a1 a2 = some (k1, r1, T1)) (hf : fr_blockPower S a0 a1 a2 = some (r2, S1)) : RL2 T1 S1 := by
  have c := tgo (cs_X11_blockPower T 0 a0 a1 a2 hV (by decide +kernel)) hg
  have e := rl_keep (T1 := T1) c.1.2 (by decide)
  unfold RL2 at hr ⊢
  rw [e, hr, (w_fr_blockPower hf).1 2 (by decide)]
theorem rl_blockBest {T : AT} {S : MS} {a0 a1 : Int32} {r1 : Int32} {r2 : Int32} {k1 : Nat} {T1 : AT} {S1 : MS} (hV : IV aR0 1586 aK1 aK2 T) (hJ : JJ S) (hr : RL2 T S) (hg : g_X11_blockBest T 0 a0 a1 = some (k1, r1, T1)) (hf : fr_blockBest S a0 a1 = some (r2, S1)) : RL2 T1 S1 := by
  have c := tgo (cs_X11_blockBest T 0 a0 a1 hV (by decide +kernel)) hg
  have e := rl_keep (T1 := T1) c.1.2 (by decide)
  unfold RL2 at hr ⊢
  rw [e, hr, (w_fr_blockBest hf).1 2 (by decide)]
theorem rl_path {T : AT} {S : MS} {a0 : Int32} {r1 : Int32} {r2 : Int32} {k1 : Nat} {T1 : AT} {S1 : MS} (hV : IV aR0 1586 aK1 aK2 T) (hJ : JJ S) (hr : RL2 T S) (hg : g_X11_path T 0 a0 = some (k1, r1, T1)) (hf : fr_path S a0 = some (r2, S1)) : RL2 T1 S1 := by
  have c := tgo (cs_X11_path T 0 a0 hV (by decide +kernel)) hg
  have e := rl_keep (T1 := T1) c.1.2 (by decide)
  unfold RL2 at hr ⊢
  rw [e, hr, (w_fr_path hf).1 2 (by decide)]
theorem rl_trackScore {T : AT} {S : MS} {a0 : Int32} {r1 : Int64} {r2 : Int64} {k1 : Nat} {T1 : AT} {S1 : MS} (hV : IV aR0 1586 aK1 aK2 T) (hJ : JJ S) (hr : RL2 T S) (hg : g_X11_trackScore T 0 a0 = some (k1, r1, T1)) (hf : fr_trackScore S a0 = some (r2, S1)) : RL2 T1 S1 := by
  have c := tgo (cs_X11_trackScore T 0 a0 hV (by decide +kernel)) hg
  have e := rl_keep (T1 := T1) c.1.2 (by decide)
  unfold RL2 at hr ⊢
  rw [e, hr, (w_fr_trackScore hf).1 2 (by decide)]
theorem rl_trackCell {T : AT} {S : MS} {a0 a1 : Int32} {r1 : Int32} {r2 : Int32} {k1 : Nat} {T1 : AT} {S1 : MS} (hV : IV aR0 1586 aK1 aK2 T) (hJ : JJ S) (hr : RL2 T S) (hg : g_X11_trackCell T 0 a0 a1 = some (k1, r1, T1)) (hf : fr_trackCell S a0 a1 = some (r2, S1)) : RL2 T1 S1 := by
  have c := tgo (cs_X11_trackCell T 0 a0 a1 hV (by decide +kernel)) hg
  have e := rl_keep (T1 := T1) c.1.2 (by decide)
  unfold RL2 at hr ⊢
  rw [e, hr, (w_fr_trackCell hf).1 2 (by decide)]
theorem rl_movingPower {T : AT} {S : MS} {a0 a1 a2 : Int32} {r1 : Int64} {r2 : Int64} {k1 : Nat} {T1 : AT} {S1 : MS} (hV : IV aR0 1586 aK1 aK2 T) (hJ : JJ S) (hr : RL2 T S) (hg : g_X11_movingPower T 0 a0 a1 a2 = some (k1, r1, T1)) (hf : fr_movingPower S a0 a1 a2 = some (r2, S1)) : RL2 T1 S1 := by
  have c := tgo (cs_X11_movingPower T 0 a0 a1 a2 hV (by decide +kernel)) hg
  have e := rl_keep (T1 := T1) c.1.2 (by decide)
  unfold RL2 at hr ⊢
  rw [e, hr, (w_fr_movingPower hf).1 2 (by decide)]
theorem rl_bestVelocity {T : AT} {S : MS} {a0 a1 a2 : Int32} {r1 : Int32} {r2 : Int32} {k1 : Nat} {T1 : AT} {S1 : MS} (hV : IV aR0 1586 aK1 aK2 T) (hJ : JJ S) (hr : RL2 T S) (hg : g_X11_bestVelocity T 0 a0 a1 a2 = some (k1, r1, T1)) (hf : fr_bestVelocity S a0 a1 a2 = some (r2, S1)) : RL2 T1 S1 := by
  have c := tgo (cs_X11_bestVelocity T 0 a0 a1 a2 hV (by decide +kernel)) hg
  have e := rl_keep (T1 := T1) c.1.2 (by decide)
  unfold RL2 at hr ⊢
  rw [e, hr, (w_fr_bestVelocity hf).1 2 (by decide)]
theorem rl_correlation {T : AT} {S : MS} {a0 a1 a2 : Int32} {r1 : Int64} {r2 : Int64} {k1 : Nat} {T1 : AT} {S1 : MS} (hV : IV aR0 1586 aK1 aK2 T) (hJ : JJ S) (hr : RL2 T S) (hg : g_X11_correlation T 0 a0 a1 a2 = some (k1, r1, T1)) (hf : fr_correlation S a0 a1 a2 = some (r2, S1)) : RL2 T1 S1 := by
  have c := tgo (cs_X11_correlation T 0 a0 a1 a2 hV (by decide +kernel)) hg
  have e := rl_keep (T1 := T1) c.1.2 (by decide)
  unfold RL2 at hr ⊢
  rw [e, hr, (w_fr_correlation hf).1 2 (by decide)]
theorem rl_bestLag {T : AT} {S : MS} {a0 a1 a2 : Int32} {r1 : Int32} {r2 : Int32} {k1 : Nat} {T1 : AT} {S1 : MS} (hV : IV aR0 1586 aK1 aK2 T) (hJ : JJ S) (hr : RL2 T S) (hg : g_X11_bestLag T 0 a0 a1 a2 = some (k1, r1, T1)) (hf : fr_bestLag S a0 a1 a2 = some (r2, S1)) : RL2 T1 S1 := by
  have c := tgo (cs_X11_bestLag T 0 a0 a1 a2 hV (by decide +kernel)) hg
  have e := rl_keep (T1 := T1) c.1.2 (by decide)
  unfold RL2 at hr ⊢
  rw [e, hr, (w_fr_bestLag hf).1 2 (by decide)]
theorem rl_level {T : AT} {S : MS} {a0 : Int32} {r1 : Int64} {r2 : Int64} {k1 : Nat} {T1 : AT} {S1 : MS} (hV : IV aR0 1586 aK1 aK2 T) (hJ : JJ S) (hr : RL2 T S) (hg : g_X11_level T 0 a0 = some (k1, r1, T1)) (hf : fr_level S a0 = some (r2, S1)) : RL2 T1 S1 := by
  have c := tgo (cs_X11_level T 0 a0 hV (by decide +kernel)) hg
  have e := rl_keep (T1 := T1) c.1.2 (by decide)
  unfold RL2 at hr ⊢
  rw [e, hr, (w_fr_level hf).1 2 (by decide)]
theorem rl_loudest {T : AT} {S : MS} {a0 : Int32} {r1 : Int32} {r2 : Int32} {k1 : Nat} {T1 : AT} {S1 : MS} (hV : IV aR0 1586 aK1 aK2 T) (hJ : JJ S) (hr : RL2 T S) (hg : g_X11_loudest T 0 a0 = some (k1, r1, T1)) (hf : fr_loudest S a0 = some (r2, S1)) : RL2 T1 S1 := by
  have c := tgo (cs_X11_loudest T 0 a0 hV (by decide +kernel)) hg
  have e := rl_keep (T1 := T1) c.1.2 (by decide)
  unfold RL2 at hr ⊢
  rw [e, hr, (w_fr_loudest hf).1 2 (by decide)]
theorem rl_writeMap {T : AT} {S : MS} {r1 : Int32} {r2 : Int32} {k1 : Nat} {T1 : AT} {S1 : MS} (hV : IV aR0 1586 aK1 aK2 T) (hJ : JJ S) (hr : RL2 T S) (hg : g_X11_writeMap T 0 = some (k1, r1, T1)) (hf : fr_writeMap S = some (r2, S1)) : RL2 T1 S1 := by
  have c := tgo (cs_X11_writeMap T 0  hV (by decide +kernel)) hg
  have e := rl_keep (T1 := T1) c.1.2 (by decide)
  unfold RL2 at hr ⊢
  rw [e, hr, (w_fr_writeMap hf).1 2 (by decide)]
theorem rl_mapByte {T : AT} {S : MS} {a0 : Int32} {r1 : Int32} {r2 : Int32} {k1 : Nat} {T1 : AT} {S1 : MS} (hV : IV aR0 1586 aK1 aK2 T) (hJ : JJ S) (hr : RL2 T S) (hg : g_X11_mapByte T 0 a0 = some (k1, r1, T1)) (hf : fr_mapByte S a0 = some (r2, S1)) : RL2 T1 S1 := by
  have c := tgo (cs_X11_mapByte T 0 a0 hV (by decide +kernel)) hg
  have e : T1.2.2.1 1 1 = T.2.2.1 1 1 := by rw [show T1 = T from c.1]
  unfold RL2 at hr ⊢
  rw [e, hr, (w_fr_mapByte hf).1 2 (by decide)]
theorem rl_pointBest {T : AT} {S : MS} {a0 a1 : Int32} {r1 : Int32} {r2 : Int32} {k1 : Nat} {T1 : AT} {S1 : MS} (hV : IV aR0 1586 aK1 aK2 T) (hJ : JJ S) (hr : RL2 T S) (hg : g_X11_pointBest T 0 a0 a1 = some (k1, r1, T1)) (hf : fr_pointBest S a0 a1 = some (r2, S1)) : RL2 T1 S1 := by
  have c := tgo (cs_X11_pointBest T 0 a0 a1 hV (by decide +kernel)) hg
  have e := rl_keep (T1 := T1) c.1.2 (by decide)
  unfold RL2 at hr ⊢
  rw [e, hr, (w_fr_pointBest hf).1 2 (by decide)]
theorem rl_pointPower {T : AT} {S : MS} {a0 a1 a2 : Int32} {r1 : Int64} {r2 : Int64} {k1 : Nat} {T1 : AT} {S1 : MS} (hV : IV aR0 1586 aK1 aK2 T) (hJ : JJ S) (hr : RL2 T S) (hg : g_X11_pointPower T 0 a0 a1 a2 = some (k1, r1, T1)) (hf : fr_pointPower S a0 a1 a2 = some (r2, S1)) : RL2 T1 S1 := by
  have c := tgo (cs_X11_pointPower T 0 a0 a1 a2 hV (by decide +kernel)) hg
  have e := rl_keep (T1 := T1) c.1.2 (by decide)
  unfold RL2 at hr ⊢
  rw [e, hr, (w_fr_pointPower hf).1 2 (by decide)]
theorem rl_bestWithout {T : AT} {S : MS} {a0 : Int32} {r1 : Int32} {r2 : Int32} {k1 : Nat} {T1 : AT} {S1 : MS} (hV : IV aR0 1586 aK1 aK2 T) (hJ : JJ S) (hr : RL2 T S) (hg : g_X11_bestWithout T 0 a0 = some (k1, r1, T1)) (hf : fr_bestWithout S a0 = some (r2, S1)) : RL2 T1 S1 := by
  have c := tgo (cs_X11_bestWithout T 0 a0 hV (by decide +kernel)) hg
  have e := rl_keep (T1 := T1) c.1.2 (by decide)
  unfold RL2 at hr ⊢
  rw [e, hr, (w_fr_bestWithout hf).1 2 (by decide)]
theorem rl_bestIfOff {T : AT} {S : MS} {a0 : Int32} {r1 : Int32} {r2 : Int32} {k1 : Nat} {T1 : AT} {S1 : MS} (hV : IV aR0 1586 aK1 aK2 T) (hJ : JJ S) (hr : RL2 T S) (hg : g_X11_bestIfOff T 0 a0 = some (k1, r1, T1)) (hf : fr_bestIfOff S a0 = some (r2, S1)) : RL2 T1 S1 := by
  have c := tgo (cs_X11_bestIfOff T 0 a0 hV (by decide +kernel)) hg
  have e := rl_keep (T1 := T1) c.1.2 (by decide)
  unfold RL2 at hr ⊢
  rw [e, hr, (w_fr_bestIfOff hf).1 2 (by decide)]
theorem rl_mute {T : AT} {S : MS} {a0 a1 : Int32} {r1 : Int32} {r2 : Int32} {k1 : Nat} {T1 : AT} {S1 : MS} (hV : IV aR0 1586 aK1 aK2 T) (hJ : JJ S) (hb : 0 ≤ a1.toInt ∧ a1.toInt ≤ 1) (hr : RL2 T S) (hg : g_X11_mute T 0 a0 a1 = some (k1, r1, T1)) (hf : fr_mute S a0 a1 = some (r2, S1)) : RL2 T1 S1 := by
  have c := tgo (cs_X11_mute T 0 a0 a1 hV (by decide +kernel) hb) hg
  have e := rl_keep (T1 := T1) c.1.2 (by decide)
  unfold RL2 at hr ⊢
  rw [e, hr, (w_fr_mute hf).1 2 (by decide)]
theorem rl_setWeight {T : AT} {S : MS} {a0 a1 : Int32} {r1 : Int32} {r2 : Int32} {k1 : Nat} {T1 : AT} {S1 : MS} (hV : IV aR0 1586 aK1 aK2 T) (hJ : JJ S) (hr : RL2 T S) (hg : g_X11_setWeight T 0 a0 a1 = some (k1, r1, T1)) (hf : fr_setWeight S a0 a1 = some (r2, S1)) : RL2 T1 S1 := by
  have c := tgo (cs_X11_setWeight T 0 a0 a1 hV (by decide +kernel)) hg
  have e := rl_keep (T1 := T1) c.1.2 (by decide)
  unfold RL2 at hr ⊢
  rw [e, hr, (w_fr_setWeight hf).1 2 (by decide)]
theorem rl_setOn {T : AT} {S : MS} {a0 a1 : Int32} {r1 : Int32} {r2 : Int32} {k1 : Nat} {T1 : AT} {S1 : MS} (hV : IV aR0 1586 aK1 aK2 T) (hJ : JJ S) (hb : 0 ≤ a1.toInt ∧ a1.toInt ≤ 1) (hr : RL2 T S) (hg : g_X11_setOn T 0 a0 a1 = some (k1, r1, T1)) (hf : fr_setOn S a0 a1 = some (r2, S1)) : RL2 T1 S1 := by
  have c := tgo (cs_X11_setOn T 0 a0 a1 hV (by decide +kernel) hb) hg
  have e := rl_keep (T1 := T1) c.1.2 (by decide)
  unfold RL2 at hr ⊢
  rw [e, hr, (w_fr_setOn hf).1 2 (by decide)]
theorem rl_moveSource {T : AT} {S : MS} {a0 a1 a2 : Int32} {r1 : Int32} {r2 : Int32} {k1 : Nat} {T1 : AT} {S1 : MS} (hV : IV aR0 1586 aK1 aK2 T) (hJ : JJ S) (hr : RL2 T S) (hg : g_X11_moveSource T 0 a0 a1 a2 = some (k1, r1, T1)) (hf : fr_moveSource S a0 a1 a2 = some (r2, S1)) : RL2 T1 S1 := by
  have c := tgo (cs_X11_moveSource T 0 a0 a1 a2 hV (by decide +kernel)) hg
  have e := rl_keep (T1 := T1) c.1.2 (by decide)
  unfold RL2 at hr ⊢
  rw [e, hr, (w_fr_moveSource hf).1 2 (by decide)]
theorem rl_setVelocity {T : AT} {S : MS} {a0 a1 a2 : Int32} {r1 : Int32} {r2 : Int32} {k1 : Nat} {T1 : AT} {S1 : MS} (hV : IV aR0 1586 aK1 aK2 T) (hJ : JJ S) (hr : RL2 T S) (hg : g_X11_setVelocity T 0 a0 a1 a2 = some (k1, r1, T1)) (hf : fr_setVelocity S a0 a1 a2 = some (r2, S1)) : RL2 T1 S1 := by
  have c := tgo (cs_X11_setVelocity T 0 a0 a1 a2 hV (by decide +kernel)) hg
  have e := rl_keep (T1 := T1) c.1.2 (by decide)
  unfold RL2 at hr ⊢
  rw [e, hr, (w_fr_setVelocity hf).1 2 (by decide)]
theorem rl_clean {T : AT} {S : MS} {a0 : Int32} {r1 : Int32} {r2 : Int32} {k1 : Nat} {T1 : AT} {S1 : MS} (hV : IV aR0 1586 aK1 aK2 T) (hJ : JJ S) (hr : RL2 T S) (hg : g_X11_clean T 0 a0 = some (k1, r1, T1)) (hf : fr_clean S a0 = some (r2, S1)) : RL2 T1 S1 := by
  have c := tgo (cs_X11_clean T 0 a0 hV (by decide +kernel)) hg
  have e := rl_keep (T1 := T1) c.1.2 (by decide)
  unfold RL2 at hr ⊢
  rw [e, hr, (w_fr_clean hf).1 2 (by decide)]
theorem rl_cleaned {T : AT} {S : MS} {r1 : Int32} {r2 : Int32} {k1 : Nat} {T1 : AT} {S1 : MS} (hV : IV aR0 1586 aK1 aK2 T) (hJ : JJ S) (hr : RL2 T S) (hg : g_X11_cleaned T 0 = some (k1, r1, T1)) (hf : fr_cleaned S = some (r2, S1)) : RL2 T1 S1 := by
  have c := tgo (cs_X11_cleaned T 0  hV (by decide +kernel)) hg
  have e : T1.2.2.1 1 1 = T.2.2.1 1 1 := by rw [show T1 = T from c.1]
  unfold RL2 at hr ⊢
  rw [e, hr, (w_fr_cleaned hf).1 2 (by decide)]
theorem rl_undo {T : AT} {S : MS} {r1 : Int32} {r2 : Int32} {k1 : Nat} {T1 : AT} {S1 : MS} (hV : IV aR0 1586 aK1 aK2 T) (hJ : JJ S) (hr : RL2 T S) (hg : g_X11_undo T 0 = some (k1, r1, T1)) (hf : fr_undo S = some (r2, S1)) : RL2 T1 S1 := by
  have c := tgo (cs_X11_undo T 0  hV (by decide +kernel)) hg
  have e := rl_keep (T1 := T1) c.1.2 (by decide)
  unfold RL2 at hr ⊢
  rw [e, hr, (w_fr_undo hf).1 2 (by decide)]
theorem rl_undoable {T : AT} {S : MS} {r1 : Int32} {r2 : Int32} {T1 : AT} {S1 : MS} (hV : IV aR0 1586 aK1 aK2 T) (hJ : JJ S) (hr : RL2 T S) (hg : g_X11_undoable T 0 = some (r1, T1)) (hf : fr_undoable S = some (r2, S1)) : RL2 T1 S1 := by
  have c := tgo (cs_X11_undoable T 0  hV (by decide +kernel)) hg
  have e : T1.2.2.1 1 1 = T.2.2.1 1 1 := by rw [show T1 = T from c.1]
  unfold RL2 at hr ⊢
  rw [e, hr, (w_fr_undoable hf).1 2 (by decide)]
theorem rl_save {T : AT} {S : MS} {a0 : Int32} {r1 : Int32} {r2 : Int32} {k1 : Nat} {T1 : AT} {S1 : MS} (hV : IV aR0 1586 aK1 aK2 T) (hJ : JJ S) (hr : RL2 T S) (hg : g_X11_save T 0 a0 = some (k1, r1, T1)) (hf : fr_save S a0 = some (r2, S1)) : RL2 T1 S1 := by
  have c := tgo (cs_X11_save T 0 a0 hV (by decide +kernel)) hg
  have e := rl_keep (T1 := T1) c.1.2 (by decide)
  unfold RL2 at hr ⊢
  rw [e, hr, (w_fr_save hf).1 2 (by decide)]
theorem rl_restore {T : AT} {S : MS} {a0 : Int32} {r1 : Int32} {r2 : Int32} {k1 : Nat} {T1 : AT} {S1 : MS} (hV : IV aR0 1586 aK1 aK2 T) (hJ : JJ S) (hr : RL2 T S) (hg : g_X11_restore T 0 a0 = some (k1, r1, T1)) (hf : fr_restore S a0 = some (r2, S1)) : RL2 T1 S1 := by
  have c := tgo (cs_X11_restore T 0 a0 hV (by decide +kernel)) hg
  have e := rl_keep (T1 := T1) c.1.2 (by decide)
  unfold RL2 at hr ⊢
  rw [e, hr, (w_fr_restore hf).1 2 (by decide)]
