theorem c_narrow {R : Nat → Nat} {B K1 K2 : Nat} {T : AT} {o ro : Nat} (hT : IV R B K1 K2 T) (k_o : R o = ro) (w_o : isW ro = true) : Tot (g_X10_narrow T o) (fun T1 => IV R B K1 K2 T1 ∧ ((∀ m k, m ≠ o ∨ k ≠ 2 → T1.2.2.1 m k = T.2.2.1 m k) ∧ (T1.2.2.1 o 2).toInt = 1) ∧ FW R [3202] T T1) := by
  have z1 : (1 : Int32).toInt = 1 := by decide
  unfold g_X10_narrow
  refine tot_oif (w_oO hT k_o w_o) ?_
  refine tot_let (fun T3 e => ?_)
  have u := w_used hT k_o w_o
  have key : ∀ m j, T3.2.2.1 m j = if m = o ∧ j = 2 then 1 else T.2.2.1 m j := fun m j => by
    rw [e]
    show va_up T.2.2.1 o (upd (T.2.2.1 o) 2 1) m j = _
    by_cases e : m = o
    · subst e
      rw [va_up_self]
      unfold upd
      by_cases e2 : j = 2
      · rw [if_pos e2, if_pos ⟨rfl, e2⟩]
      · rw [if_neg e2, if_neg (fun q => e2 q.2)]
    · rw [va_up_ne _ _ e, if_neg (fun q => e q.1)]
  refine tot_some ⟨?_, ⟨fun m k h => ?_, ?_⟩, ?_⟩
  · rw [e]
    refine iv_used hT k_o w_o (by omega) (fun q hq p hp => ?_)
    have w := isW_f w_o
    obtain ⟨x, x1, x2⟩ := hT.2.2.2.2.1 o (iv_sta hT k_o w.1.1.1 w.1.1.2) (by rw [k_o]; exact w_o) q hq p (by omega)
    exact ⟨x, x1, by rw [← k_o]; exact x2⟩
  · rw [key, if_neg (fun q => by rcases h with h | h; exact h q.1; exact h q.2)]
  · rw [key, if_pos ⟨rfl, rfl⟩]; exact z1
  · exact fw_uI e k_o (by unfold wc; rw [w_o]; rfl)
theorem c_clear_b2 {R : Nat → Nat} {B K1 K2 : Nat} {l0 ro : Nat} {l1 : Int32} (k_o : R l0 = ro) (w_o : isW ro = true) (g1 : 0 ≤ l1.toInt ∧ l1.toInt < cnt ro) : ∀ (n : Nat) (T : AT) (l2 : Int32), IV R B K1 K2 T → (0 ≤ l2.toInt ∧ l2.toInt ≤ 40) → 40 - l2.toInt < (n : Int) → Tot (g_X10_clear_b2 n T l0 l1 l2) (fun T1 => IV R B K1 K2 T1 ∧ T1.2.2.1 = T.2.2.1) := by
  have z0 : (0 : Int32).toInt = 0 := by decide
  have z1 : (1 : Int32).toInt = 1 := by decide
  have z2 : (2 : Int32).toInt = 2 := by decide
  have z40 : (40 : Int32).toInt = 40 := by decide
  have zi : (Int32.ofInt (1) : Int32).toInt = 1 := by decide
  have zm : (Int32.ofInt (-1) : Int32).toInt = -1 := by decide
  intro n
  induction n with
  | zero =>
    intro T l2 hT g2 hm
    exfalso
    omega
  | succ n ih =>
    intro T l2 hT g2 hm
    unfold g_X10_clear_b2
    refine tot_oif (w_oO hT k_o w_o) ?_
    refine tot_let (fun v3 e_v3 => ?_)
    have q_v3 := i_eq e_v3
    have u_v3 := w_used hT k_o w_o
    refine tot_if (fun c => tot_some ⟨hT, rfl⟩) (fun c => ?_)
    replace c := i_nle c
    refine tw_q hT k_o w_o (fun qx9 k_qx9 e_qx9 => ?_)
    refine tw_p hT k_qx9 w_o (by omega) ?_
    refine tw_r (p := l2) hT k_o w_o e_qx9 (by omega) (fun x9 s_x9 x_x9 l_x9 => ?_)
    refine tw_i s_x9 (isW_f w_o).2.2.2.1.2 l_x9 (by omega) ?_
    refine tot_let (fun T12 e_T12 => ?_)
    have hT12 : IV R B K1 K2 T12 := by rw [e_T12]; exact iv_uJ hT _ _ _
    have tT12 : T12.2.2.1 = T.2.2.1 := by rw [e_T12]; rfl
    refine tot_let (fun v13 e_v13 => ?_)
    have q_v13 := i_add e_v13 (by omega) (by omega)
    exact tot_w (ih T12 v13 hT12 (by omega) (by omega)) (fun T1 q => ⟨q.1, q.2.trans tT12⟩)
theorem c_clear {R : Nat → Nat} {B K1 K2 : Nat} {T : AT} {o ro : Nat} {a0 : Int32} (hT : IV R B K1 K2 T) (k_o : R o = ro) (w_o : isW ro = true) (g0 : 0 ≤ a0.toInt ∧ a0.toInt < cnt ro) : Tot (g_X10_clear T o a0) (fun T1 => IV R B K1 K2 T1 ∧ T1.2.2.1 = T.2.2.1) := by
  have z0 : (0 : Int32).toInt = 0 := by decide
  unfold g_X10_clear
  exact c_clear_b2 k_o w_o g0 16384 T 0 hT (by omega) (by omega)
theorem c_beyond (a0 : Int64) : Tot (g_X10_isBeyondPart a0) (fun _ => True) := by
  have h0 : Tot (g_X10_isBeyondPart_b23) (fun _ => True) := by
    unfold g_X10_isBeyondPart_b23 g_X10_isBeyondPart_b24
    exact tot_oif (.inl rfl) (tot_some trivial)
  unfold g_X10_isBeyondPart
  refine tot_let (fun v2 _ => tot_let (fun v3 _ => tot_if (fun _ => h0) (fun _ => tot_let (fun v5 _ => tot_if (fun _ => h0) (fun _ => ?_)))))
  unfold g_X10_isBeyondPart_b24
  exact tot_oif (.inr rfl) (tot_some trivial)
/-- the row at p is there, in full length -/
def FR1 (T : AT) (o ro : Nat) (p : Int32) : Prop := ∀ q, T.2.2.2.2 o 1 = some q → ∃ x, T.2.2.2.2 q p.toNatClampNeg = some x ∧ T.2.1 x = (101, cnt ro) ∧ x < T.1
theorem tw_f {γ : Type} {P : γ → Prop} {T : AT} {f : Nat → Option γ} {o q r : Nat} {p : Int32} (h : FR1 T o r p) (e : T.2.2.2.2 o 1 = some q) (kk : ∀ x, T.2.1 x = (101, cnt r) → T.2.2.2.2 q p.toNatClampNeg = some x → x < T.1 → Tot (f x) P) : Tot (obind (T.2.2.2.2 q p.toNatClampNeg) f) P := by
  obtain ⟨x, x1, x2, x3⟩ := h q e
  rw [x1]
  exact kk x x2 x1 x3
theorem c_used1 {R : Nat → Nat} {B K1 K2 : Nat} {T T7 : AT} {o r : Nat} {p v : Int32} (h : IV R B K1 K2 T) (k_o : R o = r) (w_o : isW r = true) (e : T7 = uI T o 2 v) (hv : v.toInt = p.toInt + 1) (hp : 0 ≤ p.toInt ∧ p.toInt < 40) (hu : (T.2.2.1 o 2).toInt = p.toInt) (hf : FR1 T o r p) : IV R B K1 K2 T7 ∧ WX o T T7 ∧ (T7.2.2.1 o 2).toInt = p.toInt + 1 := by
  have key : ∀ m j, T7.2.2.1 m j = if m = o ∧ j = 2 then v else T.2.2.1 m j := fun m j => by
    rw [e]
    show va_up T.2.2.1 o (upd (T.2.2.1 o) 2 v) m j = _
    by_cases e : m = o
    · subst e
      rw [va_up_self]
      unfold upd
      by_cases e2 : j = 2
      · rw [if_pos e2, if_pos ⟨rfl, e2⟩]
      · rw [if_neg e2, if_neg (fun q => e2 q.2)]
    · rw [va_up_ne _ _ e, if_neg (fun q => e q.1)]
  have k2 : (T7.2.2.1 o 2).toInt = p.toInt + 1 := by rw [key, if_pos ⟨rfl, rfl⟩]; exact hv
  refine ⟨?_, ⟨fun m k h => by rw [key, if_neg (fun q => by rcases h with h | h; exact h q.1; exact h q.2)], by omega⟩, k2⟩
  rw [e]
  refine iv_used h k_o w_o (by omega) (fun q hq j hj => ?_)
  have w := isW_f w_o
  have c := i_cl hp.1
  by_cases ej : j = p.toNatClampNeg
  · obtain ⟨x, x1, x2, _⟩ := hf q hq
    exact ⟨x, by rw [ej]; exact x1, x2⟩
  · obtain ⟨x, x1, x2⟩ := h.2.2.2.2.1 o (iv_sta h k_o w.1.1.1 w.1.1.2) (by rw [k_o]; exact w_o) q hq j (by omega)
    exact ⟨x, x1, by rw [← k_o]; exact x2⟩
set_option maxHeartbeats 2000000 in
theorem c_widenTo_b40 {R : Nat → Nat} {B K1 K2 : Nat} {Q : AT → Prop} {k5 : AT → Nat → Int32 → Int32 → Option AT} {l1 l2 : Int32} {l0 r_l0 : Nat} (k_l0 : R l0 = r_l0) (w_l0 : isW r_l0 = true) (g2 : 1 ≤ l2.toInt ∧ l2.toInt < 40) (T0 : AT) (hq : ∀ (T7 : AT) (v : Int32), IV R B K1 K2 T7 → WX l0 T0 T7 → (T7.2.2.1 l0 2).toInt = l2.toInt + 1 → v.toInt = l2.toInt + 1 → Tot (k5 T7 l0 l1 v) Q) : ∀ (n : Nat) (T : AT) (l3 : Int32), IV R B K1 K2 T → WX l0 T0 T → (T.2.2.1 l0 2).toInt = l2.toInt → FR1 T l0 r_l0 l2 → (0 ≤ l3.toInt ∧ l3.toInt ≤ cnt r_l0) → 7200 - l3.toInt < (n : Int) → Tot (g_X10_widenTo_b40 k5 n T l0 l1 l2 l3) Q := by
  have z0 : (0 : Int32).toInt = 0 := by decide
  have z1 : (1 : Int32).toInt = 1 := by decide
  have z2 : (2 : Int32).toInt = 2 := by decide
  have z40 : (40 : Int32).toInt = 40 := by decide
  have zi : (Int32.ofInt (1) : Int32).toInt = 1 := by decide
  have zm : (Int32.ofInt (-1) : Int32).toInt = -1 := by decide
  have c7 := (isW_f w_l0).2.2.2.1
  intro n
  induction n with
  | zero =>
    intro T l3 h_T w_T hu fr_T g3 hm
    exfalso
    omega
  | succ n ih =>
    intro T l3 h_T w_T hu fr_T g3 hm
    unfold g_X10_widenTo_b40
    refine tot_oif (w_oO h_T k_l0 w_l0) ?_
    refine tot_let (fun v3 e3 => ?_)
    have q3 := i_eq e3
    have r3 := w_cnt h_T k_l0 w_l0
    refine tot_if (fun c => ?_) (fun c => ?_)
    · refine tot_let (fun v5 e5 => ?_)
      have q5 := i_add e5 (by omega) (by omega)
      refine tot_oif (w_oO h_T k_l0 w_l0) ?_
      refine tot_let (fun T7 e7 => ?_)
      have e40 := c_used1 h_T k_l0 w_l0 e7 (p := l2) (by omega) (by omega) (by omega) fr_T
      refine tot_let (fun v8 e8 => ?_)
      have q8 := i_add e8 (by omega) (by omega)
      exact hq T7 v8 e40.1 (w_T.tr e40.2.1) e40.2.2 (by omega)
    · replace c := i_nle c
      refine tw_q h_T k_l0 w_l0 (fun n10 k_n10 e_n10 => ?_)
      refine tot_let (fun v11 e11 => ?_)
      have q11 := i_sub e11 (by omega) (by omega)
      refine tw_p h_T k_n10 w_l0 (by omega) ?_
      refine tw_r (p := v11) h_T k_l0 w_l0 e_n10 (by omega) (fun n14 s_n14 x_n14 l_n14 => ?_)
      refine tw_i s_n14 c7.2 l_n14 (by omega) ?_
      refine tot_let (fun v17 e17 => ?_)
      refine tw_q h_T k_l0 w_l0 (fun n19 k_n19 e_n19 => ?_)
      refine tot_let (fun v20 e20 => ?_)
      have q20 := i_sub e20 (by omega) (by omega)
      refine tw_p h_T k_n19 w_l0 (by omega) ?_
      refine tw_r (p := v20) h_T k_l0 w_l0 e_n19 (by omega) (fun n23 s_n23 x_n23 l_n23 => ?_)
      refine tot_let (fun v24 e24 => ?_)
      refine tw_i s_n23 c7.2 l_n23 (by omega) ?_
      refine tot_let (fun T27 e27 => ?_)
      have h_T27 : IV R B K1 K2 T27 := by rw [e27]; exact iv_uJ h_T _ _ _
      have t_T27 : T27.2.2.1 = T.2.2.1 := by rw [e27]; rfl
      have fr_T27 : FR1 T27 l0 r_l0 l2 := by rw [e27]; exact fr_T
      refine tw_q h_T27 k_l0 w_l0 (fun n29 k_n29 e_n29 => ?_)
      refine tw_p h_T27 k_n29 w_l0 (by omega) ?_
      refine tw_f (p := l2) fr_T27 e_n29 (fun n32 s_n32 x_n32 l_n32 => ?_)
      refine tot_let (fun v33 e33 => ?_)
      refine tw_i s_n32 c7.2 l_n32 (by omega) ?_
      refine tot_let (fun T36 e36 => ?_)
      have h_T36 : IV R B K1 K2 T36 := by rw [e36]; exact iv_uJ h_T27 _ _ _
      have t_T36 : T36.2.2.1 = T.2.2.1 := by rw [← t_T27, e36]; rfl
      have fr_T36 : FR1 T36 l0 r_l0 l2 := by rw [e36]; exact fr_T27
      refine tot_let (fun v37 e37 => ?_)
      have q37 := i_add e37 (by omega) (by omega)
      exact ih T36 v37 h_T36 (w_T.tr (WX.of t_T36)) (by rw [t_T36]; exact hu) fr_T36 (by omega) (by omega)
theorem nI_cnt {r : Nat} (h : isW r = true) : ¬ nI (cnt r) = 0 := by
  rcases isW_c h with e | e | e | e | e <;> subst e <;> decide
set_option maxHeartbeats 2000000 in
theorem c_widenTo_b5 {R : Nat → Nat} {B K1 K2 : Nat} {l1 : Int32} {l0 r_l0 : Nat} (k_l0 : R l0 = r_l0) (w_l0 : isW r_l0 = true) (T0 : AT) : ∀ (n : Nat) (T : AT) (l2 : Int32), IV R B K1 K2 T → WX l0 T0 T → (T.2.2.1 l0 2).toInt = l2.toInt → 40 - l2.toInt < (n : Int) → Tot (g_X10_widenTo_b5 n T l0 l1 l2) (fun T1 => IV R B K1 K2 T1 ∧ WX l0 T0 T1 ∧ (l1.toInt ≤ (T1.2.2.1 l0 2).toInt ∨ 40 ≤ (T1.2.2.1 l0 2).toInt)) := by
  have z0 : (0 : Int32).toInt = 0 := by decide
  have z1 : (1 : Int32).toInt = 1 := by decide
  have z2 : (2 : Int32).toInt = 2 := by decide
  have z40 : (40 : Int32).toInt = 40 := by decide
  have zi : (Int32.ofInt (1) : Int32).toInt = 1 := by decide
  have zm : (Int32.ofInt (-1) : Int32).toInt = -1 := by decide
  intro n
  induction n with
  | zero =>
    intro T l2 h_T w_T hu hm
    have u := w_used h_T k_l0 w_l0
    exfalso
    omega
  | succ n ih =>
    intro T l2 h_T w_T hu hm
    have u := w_used h_T k_l0 w_l0
    have w := isW_f w_l0
    unfold g_X10_widenTo_b5
    refine tot_if (fun c => ?_) (fun c => ?_)
    · replace c := i_le c
      exact tot_some ⟨h_T, w_T, .inl (by omega)⟩
    · refine tot_if (fun c2 => ?_) (fun c2 => ?_)
      · replace c2 := i_le c2
        exact tot_some ⟨h_T, w_T, .inr (by omega)⟩
      · replace c2 := i_nle c2
        have go : ∀ U : AT, IV R B K1 K2 U → WX l0 T0 U → (U.2.2.1 l0 2).toInt = l2.toInt → FR1 U l0 r_l0 l2 → Tot (g_X10_widenTo_b38 (g_X10_widenTo_b5 n) U l0 l1 l2) (fun T1 => IV R B K1 K2 T1 ∧ WX l0 T0 T1 ∧ (l1.toInt ≤ (T1.2.2.1 l0 2).toInt ∨ 40 ≤ (T1.2.2.1 l0 2).toInt)) := fun U hU wU uU fU => by
          unfold g_X10_widenTo_b38
          exact c_widenTo_b40 k_l0 w_l0 (by omega) T0 (fun T7 v h7 w7 u7 hv => ih T7 v h7 w7 (by omega) (by omega)) 16384 U 0 hU wU uU fU (by omega) (by omega)
        refine tw_q h_T k_l0 w_l0 (fun n5 k_n5 e_n5 => ?_)
        refine tw_p h_T k_n5 w_l0 (by omega) ?_
        have c5 := i_cl (i := l2) (by omega)
        have n5s := iv_sta h_T k_n5 w.2.1.1.1 w.2.1.1.2
        obtain ⟨n8, x8, l8, R8⟩ := h_T.2.2.1 n5 l2.toNatClampNeg n5s (by
          rw [k_n5]
          unfold rtg
          rw [w.2.2.2.2.2, w.2.1.2.2, show Nat.blt l2.toNatClampNeg 40 = true from Nat.ble_eq_true_of_le (by omega)]
          show (30 : Nat) ≠ 99
          decide)
        have row := h_T.2.2.2.2.2.1 n5 l2.toNatClampNeg n8 n5s (by rw [k_n5]; exact w.2.1.2.2) x8
        rw [k_n5, w.2.2.2.2.1] at row
        refine tot_ref1 x8 ?_
        have a8 : aA T n8 101 = true := by
          unfold aA
          rw [row.2.1, show Nat.blt n8 T.1 = true from Nat.ble_eq_true_of_le l8, show Nat.blt (T.2.1 n8).2 (2 ^ 31) = true from Nat.ble_eq_true_of_le (by omega)]
          rfl
        refine tot_oif a8 ?_
        refine tot_let (fun v10 e10 => ?_)
        refine tot_if (fun c3 => ?_) (fun c3 => ?_)
        · have len0 : (T.2.1 n8).2 = 0 := by
            rcases row.2.2 with z | z
            · exact z
            · rw [e10, z] at c3
              exact absurd c3 (nI_cnt w_l0)
          refine tw_q h_T k_l0 w_l0 (fun n13 k_n13 e_n13 => ?_)
          rw [e_n5] at e_n13
          cases e_n13
          refine tot_oif (w_oO h_T k_l0 w_l0) ?_
          refine tot_let (fun v15 e15 => ?_)
          have q15 := i_eq e15
          have r15 := w_cnt h_T k_l0 w_l0
          have c15 := i_cl (i := v15) (by omega)
          refine tot_oif (i_inb (by omega) (by omega)) ?_
          refine tot_let (fun T17 e17 => ?_)
          rw [show v15.toNatClampNeg = cnt r_l0 from by omega] at e17
          unfold g_X10_widenTo_b37
          have n5l := iv_lt h_T n5s
          have s5 : T17.2.1 n5 = (107, 40) := by
            rw [e17]
            exact (va_up_ne T.2.1 _ (Nat.ne_of_lt n5l)).trans (by rw [h_T.2.1 n5 n5s, k_n5]; exact w.2.1.2.1)
          have st : T17.2.1 T.1 = (101, cnt r_l0) := by rw [e17]; exact va_up_self _ _ _
          have l17 : T17.1 = T.1 + 1 := by rw [e17]; rfl
          refine tot_oif ?_ (tot_oif ?_ (tot_oif ?_ ?_))
          · unfold aA
            rw [s5, show Nat.blt n5 T17.1 = true from Nat.ble_eq_true_of_le (by omega)]
            rfl
          · rw [s5]
            exact i_inb (by omega) (by show l2.toInt < ((40 : Nat) : Int); omega)
          · unfold aA
            rw [st, show Nat.blt T.1 T17.1 = true from Nat.ble_eq_true_of_le (by omega), show Nat.blt (cnt r_l0) (2 ^ 31) = true from Nat.ble_eq_true_of_le (by omega)]
            rfl
          · refine tot_let (fun T5 e5 => ?_)
            rw [e17] at e5
            have h5 : IV R B K1 K2 T5 := by rw [e5]; exact iv_new h_T k_l0 w_l0 k_n5 e_n5 (by omega) x8 len0
            have t5 : T5.2.2.1 = T.2.2.1 := by rw [e5]; rfl
            refine go T5 h5 (w_T.tr (WX.of t5)) (by rw [t5]; exact hu) (fun q hq => ?_)
            have hne : l0 ≠ n5 := fun e => by rw [e, k_n5] at k_l0; omega
            have hq2 : T.2.2.2.2 l0 1 = some q := by
              rw [e5] at hq
              exact (congrFun (va_up_ne T.2.2.2.2 _ hne) 1).symm.trans hq
            rw [e_n5] at hq2
            cases hq2
            refine ⟨T.1, ?_, ?_, ?_⟩
            · rw [e5]
              show va_up T.2.2.2.2 n5 (va_up (T.2.2.2.2 n5) l2.toNatClampNeg (some T.1)) n5 l2.toNatClampNeg = _
              rw [va_up_self, va_up_self]
            · rw [e5]
              exact va_up_self _ _ _
            · rw [e5]
              exact Nat.lt_succ_self _
        · refine go T h_T w_T hu (fun q hq => ?_)
          rw [e_n5] at hq
          cases hq
          rcases row.2.2 with z | z
          · rw [e10, z] at c3
            exact absurd (by decide) c3
          · exact ⟨n8, x8, by rw [← z, ← row.2.1], l8⟩
theorem c_widenTo {R : Nat → Nat} {B K1 K2 : Nat} {T : AT} {a0 : Int32} {o r_o : Nat} (k_o : R o = r_o) (w_o : isW r_o = true) (h_T : IV R B K1 K2 T) : Tot (g_X10_widenTo T o a0) (fun T1 => IV R B K1 K2 T1 ∧ WX o T T1 ∧ (a0.toInt ≤ (T1.2.2.1 o 2).toInt ∨ 40 ≤ (T1.2.2.1 o 2).toInt)) := by
  unfold g_X10_widenTo
  refine tot_oif (w_oO h_T k_o w_o) ?_
  refine tot_let (fun v3 e3 => ?_)
  have u := w_used h_T k_o w_o
  have q3 := i_eq e3
  exact c_widenTo_b5 k_o w_o T 16384 T v3 h_T WX.rf (by omega) (by omega)
set_option maxHeartbeats 2000000 in
theorem c_settle_b64 {R : Nat → Nat} {B K1 K2 : Nat} {l1 : Int32} {l0 r_l0 : Nat} (k_l0 : R l0 = r_l0) (w_l0 : isW r_l0 = true) (g1 : (0 ≤ l1.toInt ∧ l1.toInt < cnt r_l0)) (T0 : AT) : ∀ (n : Nat) (T : AT) (l2 : Int32), IV R B K1 K2 T → WX l0 T0 T → (0 ≤ l2.toInt ∧ l2.toInt < (T.2.2.1 l0 2).toInt) → 40 - l2.toInt < (n : Int) → Tot (g_X10_settle_b64 n T l0 l1 l2) (fun T1 => IV R B K1 K2 T1 ∧ WX l0 T0 T1) := by
  have z0 : (0 : Int32).toInt = 0 := by decide
  have z1 : (1 : Int32).toInt = 1 := by decide
  have z2 : (2 : Int32).toInt = 2 := by decide
  have z40 : (40 : Int32).toInt = 40 := by decide
  have zi : (Int32.ofInt (1) : Int32).toInt = 1 := by decide
  have zm : (Int32.ofInt (-1) : Int32).toInt = -1 := by decide
  intro n
  induction n with
  | zero =>
    intro T l2 h_T w_T g2 hm
    have u_T := w_used h_T k_l0 w_l0
    exfalso
    omega
  | succ n ih =>
    intro T l2 h_T w_T g2 hm
    have u_T := w_used h_T k_l0 w_l0
    unfold g_X10_settle_b64
    refine tot_let (fun v_19 e_v_19 => ?_)
    have q_v_19 := i_add e_v_19 (by omega) (by omega)
    refine tot_if (fun c_26 => ?_) (fun c_26 => ?_)
    · replace c_26 := i_le c_26
      unfold g_X10_settle_b99
      exact tot_some ⟨h_T, w_T⟩
    · replace c_26 := i_nle c_26
      refine tw_q h_T k_l0 w_l0 (fun n_20 k_n_20 e_n_20 => ?_)
      refine tw_p h_T k_n_20 w_l0 (by omega) ?_
      refine tw_r (p := l2) h_T k_l0 w_l0 e_n_20 (by omega) (fun n_21 s_n_21 x_n_21 l_n_21 => ?_)
      refine tw_i s_n_21 (isW_f w_l0).2.2.2.1.2 l_n_21 (by omega) ?_
      refine tot_let (fun v_22 e_v_22 => ?_)
      refine tot_bind (c_beyond v_22) (fun r_23 _ => ?_)
      refine tot_if (fun c_27 => ?_) (fun c_27 => ?_)
      · replace c_27 := i_eq c_27
        unfold g_X10_settle_b99
        exact tot_some ⟨h_T, w_T⟩
      · replace c_27 := i_ne c_27
        refine tot_let (fun v_24 e_v_24 => ?_)
        have q_v_24 := i_add e_v_24 (by omega) (by omega)
        refine tot_oif (w_oO h_T k_l0 w_l0) ?_
        refine tot_bind (c_widenTo (a0 := v_24) k_l0 w_l0 h_T) (fun T_25 d_T_25 => ?_)
        have h_T_25 : IV R B K1 K2 T_25 := d_T_25.1
        have x_T_25 : WX l0 T T_25 := d_T_25.2.1
        have v_T_25 : v_24.toInt ≤ (T_25.2.2.1 l0 2).toInt ∨ 40 ≤ (T_25.2.2.1 l0 2).toInt := d_T_25.2.2
        have w_T_25 := w_T.tr x_T_25
        unfold g_X10_settle_b93
        refine tot_let (fun v_28 e_v_28 => ?_)
        have q_v_28 := i_add e_v_28 (by omega) (by omega)
        exact ih T_25 v_28 h_T_25 w_T_25 (by have := w_used h_T_25 k_l0 w_l0; omega) (by omega)
set_option maxHeartbeats 2000000 in
theorem c_settle_b2 {R : Nat → Nat} {B K1 K2 : Nat} {l1 : Int32} {l0 r_l0 : Nat} (k_l0 : R l0 = r_l0) (w_l0 : isW r_l0 = true) (g1 : (0 ≤ l1.toInt ∧ l1.toInt < cnt r_l0)) (T0 : AT) : ∀ (n : Nat) (T : AT) (l2 : Int32), IV R B K1 K2 T → WX l0 T0 T → (0 ≤ l2.toInt ∧ l2.toInt ≤ 40) → 40 - l2.toInt < (n : Int) → Tot (g_X10_settle_b2 n T l0 l1 l2) (fun T1 => IV R B K1 K2 T1 ∧ WX l0 T0 T1) := by
  have z0 : (0 : Int32).toInt = 0 := by decide
  have z1 : (1 : Int32).toInt = 1 := by decide
  have z2 : (2 : Int32).toInt = 2 := by decide
  have z40 : (40 : Int32).toInt = 40 := by decide
  have zi : (Int32.ofInt (1) : Int32).toInt = 1 := by decide
  have zm : (Int32.ofInt (-1) : Int32).toInt = -1 := by decide
  intro n
  induction n with
  | zero =>
    intro T l2 h_T w_T g2 hm
    exfalso
    omega
  | succ n ih =>
    intro T l2 h_T w_T g2 hm
    unfold g_X10_settle_b2
    refine tot_let (fun v_29 e_v_29 => ?_)
    have q_v_29 := i_add e_v_29 (by omega) (by omega)
    refine tot_oif (w_oO h_T k_l0 w_l0) ?_
    refine tot_let (fun v_30 e_v_30 => ?_)
    have q_v_30 := i_eq e_v_30
    have r_v_30 := w_used h_T k_l0 w_l0
    refine tot_if (fun c_48 => ?_) (fun c_48 => ?_)
    · replace c_48 := i_le c_48
      refine tot_oif (w_oO h_T k_l0 w_l0) ?_
      refine tot_let (fun v_31 e_v_31 => ?_)
      have q_v_31 := i_eq e_v_31
      have r_v_31 := w_used h_T k_l0 w_l0
      refine tot_let (fun v_32 e_v_32 => ?_)
      have q_v_32 := i_sub e_v_32 (by omega) (by omega)
      exact c_settle_b64 k_l0 w_l0 g1 T0 16384 T v_32 h_T w_T (by omega) (by omega)
    · replace c_48 := i_nle c_48
      refine tw_q h_T k_l0 w_l0 (fun n_33 k_n_33 e_n_33 => ?_)
      refine tw_p h_T k_n_33 w_l0 (by omega) ?_
      refine tw_r (p := l2) h_T k_l0 w_l0 e_n_33 (by omega) (fun n_34 s_n_34 x_n_34 l_n_34 => ?_)
      refine tw_i s_n_34 (isW_f w_l0).2.2.2.1.2 l_n_34 (by omega) ?_
      refine tot_let (fun v_35 e_v_35 => ?_)
      refine tw_q h_T k_l0 w_l0 (fun n_36 k_n_36 e_n_36 => ?_)
      refine tw_p h_T k_n_36 w_l0 (by omega) ?_
      refine tw_r (p := l2) h_T k_l0 w_l0 e_n_36 (by omega) (fun n_37 s_n_37 x_n_37 l_n_37 => ?_)
      refine tot_let (fun v_38 e_v_38 => ?_)
      refine tw_i s_n_37 (isW_f w_l0).2.2.2.1.2 l_n_37 (by omega) ?_
      refine tot_let (fun T_39 e_T_39 => ?_)
      have h_T_39 : IV R B K1 K2 T_39 := by rw [e_T_39]; exact iv_uJ h_T _ _ _
      have t_T_39 : T_39.2.2.1 = T.2.2.1 := by rw [e_T_39]; rfl
      have w_T_39 := w_T.tr (WX.of (o := l0) t_T_39)
      have u_T_39_l0 : (T_39.2.2.1 l0 2).toInt = (T.2.2.1 l0 2).toInt := by rw [t_T_39]
      refine tw_q h_T_39 k_l0 w_l0 (fun n_40 k_n_40 e_n_40 => ?_)
      refine tot_let (fun v_41 e_v_41 => ?_)
      have q_v_41 := i_add e_v_41 (by omega) (by omega)
      refine tw_p h_T_39 k_n_40 w_l0 (by omega) ?_
      refine tw_r (p := v_41) h_T_39 k_l0 w_l0 e_n_40 (by omega) (fun n_42 s_n_42 x_n_42 l_n_42 => ?_)
      refine tw_i s_n_42 (isW_f w_l0).2.2.2.1.2 l_n_42 (by omega) ?_
      refine tot_let (fun v_43 e_v_43 => ?_)
      refine tot_let (fun v_44 e_v_44 => ?_)
      refine tot_let (fun v_45 e_v_45 => ?_)
      refine tw_i s_n_42 (isW_f w_l0).2.2.2.1.2 l_n_42 (by omega) ?_
      refine tot_let (fun T_46 e_T_46 => ?_)
      have h_T_46 : IV R B K1 K2 T_46 := by rw [e_T_46]; exact iv_uJ h_T_39 _ _ _
      have t_T_46 : T_46.2.2.1 = T_39.2.2.1 := by rw [e_T_46]; rfl
      have w_T_46 := w_T_39.tr (WX.of (o := l0) t_T_46)
      have u_T_46_l0 : (T_46.2.2.1 l0 2).toInt = (T_39.2.2.1 l0 2).toInt := by rw [t_T_46]
      refine tot_let (fun v_47 e_v_47 => ?_)
      have q_v_47 := i_add e_v_47 (by omega) (by omega)
      exact ih T_46 v_47 h_T_46 w_T_46 (by omega) (by omega)
theorem c_settle {R : Nat → Nat} {B K1 K2 : Nat} {T : AT} {a0 : Int32} {o r_o : Nat} (k_o : R o = r_o) (w_o : isW r_o = true) (h_T : IV R B K1 K2 T) (g0 : (0 ≤ a0.toInt ∧ a0.toInt < cnt r_o)) : Tot (g_X10_settle T o a0) (fun T1 => IV R B K1 K2 T1 ∧ WX o T T1) := by
  have z0 : (0 : Int32).toInt = 0 := by decide
  unfold g_X10_settle
  exact c_settle_b2 k_o w_o g0 T 16384 T 0 h_T WX.rf (by omega) (by omega)
set_option maxHeartbeats 2000000 in
theorem c_multiply_b2 {R : Nat → Nat} {B K1 K2 : Nat} {l1 l2 : Int32} {l0 r_l0 : Nat} (k_l0 : R l0 = r_l0) (w_l0 : isW r_l0 = true) (g1 : (0 ≤ l1.toInt ∧ l1.toInt < cnt r_l0)) (T0 : AT) : ∀ (n : Nat) (T : AT) (l3 : Int32), IV R B K1 K2 T → WX l0 T0 T → (0 ≤ l3.toInt ∧ l3.toInt ≤ 40) → 40 - l3.toInt < (n : Int) → Tot (g_X10_multiply_b2 n T l0 l1 l2 l3) (fun T1 => IV R B K1 K2 T1 ∧ WX l0 T0 T1) := by
  have z0 : (0 : Int32).toInt = 0 := by decide
  have z1 : (1 : Int32).toInt = 1 := by decide
  have z2 : (2 : Int32).toInt = 2 := by decide
  have z40 : (40 : Int32).toInt = 40 := by decide
  have zi : (Int32.ofInt (1) : Int32).toInt = 1 := by decide
  have zm : (Int32.ofInt (-1) : Int32).toInt = -1 := by decide
  intro n
  induction n with
  | zero =>
    intro T l3 h_T w_T g3 hm
    exfalso
    omega
  | succ n ih =>
    intro T l3 h_T w_T g3 hm
    unfold g_X10_multiply_b2
    refine tot_oif (w_oO h_T k_l0 w_l0) ?_
    refine tot_let (fun v_49 e_v_49 => ?_)
    have q_v_49 := i_eq e_v_49
    have r_v_49 := w_used h_T k_l0 w_l0
    refine tot_if (fun c_58 => ?_) (fun c_58 => ?_)
    · replace c_58 := i_le c_58
      refine tot_oif (w_oO h_T k_l0 w_l0) ?_
      refine tot_bind (c_settle (a0 := l1) k_l0 w_l0 h_T (by omega)) (fun T_50 d_T_50 => ?_)
      have h_T_50 : IV R B K1 K2 T_50 := d_T_50.1
      have w_T_50 := w_T.tr d_T_50.2
      unfold g_X10_multiply_b34
      exact tot_some ⟨h_T_50, w_T_50⟩
    · replace c_58 := i_nle c_58
      refine tw_q h_T k_l0 w_l0 (fun n_51 k_n_51 e_n_51 => ?_)
      refine tw_p h_T k_n_51 w_l0 (by omega) ?_
      refine tw_r (p := l3) h_T k_l0 w_l0 e_n_51 (by omega) (fun n_52 s_n_52 x_n_52 l_n_52 => ?_)
      refine tw_i s_n_52 (isW_f w_l0).2.2.2.1.2 l_n_52 (by omega) ?_
      refine tot_let (fun v_53 e_v_53 => ?_)
      refine tot_let (fun v_54 e_v_54 => ?_)
      refine tot_let (fun v_55 e_v_55 => ?_)
      refine tw_i s_n_52 (isW_f w_l0).2.2.2.1.2 l_n_52 (by omega) ?_
      refine tot_let (fun T_56 e_T_56 => ?_)
      have h_T_56 : IV R B K1 K2 T_56 := by rw [e_T_56]; exact iv_uJ h_T _ _ _
      have t_T_56 : T_56.2.2.1 = T.2.2.1 := by rw [e_T_56]; rfl
      have w_T_56 := w_T.tr (WX.of (o := l0) t_T_56)
      have u_T_56_l0 : (T_56.2.2.1 l0 2).toInt = (T.2.2.1 l0 2).toInt := by rw [t_T_56]
      refine tot_let (fun v_57 e_v_57 => ?_)
      have q_v_57 := i_add e_v_57 (by omega) (by omega)
      exact ih T_56 v_57 h_T_56 w_T_56 (by omega) (by omega)
theorem c_multiply {R : Nat → Nat} {B K1 K2 : Nat} {T : AT} {a0 a1 : Int32} {o r_o : Nat} (k_o : R o = r_o) (w_o : isW r_o = true) (h_T : IV R B K1 K2 T) (g0 : (0 ≤ a0.toInt ∧ a0.toInt < cnt r_o)) : Tot (g_X10_multiply T o a0 a1) (fun T1 => IV R B K1 K2 T1 ∧ WX o T T1) := by
  have z0 : (0 : Int32).toInt = 0 := by decide
  unfold g_X10_multiply
  exact c_multiply_b2 k_o w_o g0 T 16384 T 0 h_T WX.rf (by omega) (by omega)
set_option maxHeartbeats 2000000 in
theorem c_putN {R : Nat → Nat} {B K1 K2 : Nat} {T : AT} {a0 a1 : Int32} {o r_o : Nat} (k_o : R o = r_o) (w_o : isW r_o = true) (h_T : IV R B K1 K2 T) (g0 : (0 ≤ a0.toInt ∧ a0.toInt < cnt r_o)) : Tot (g_X10_put T o a0 a1) (fun T1 => IV R B K1 K2 T1 ∧ WX o T T1) := by
  have z0 : (0 : Int32).toInt = 0 := by decide
  have z1 : (1 : Int32).toInt = 1 := by decide
  have z2 : (2 : Int32).toInt = 2 := by decide
  have z40 : (40 : Int32).toInt = 40 := by decide
  have zi : (Int32.ofInt (1) : Int32).toInt = 1 := by decide
  have zm : (Int32.ofInt (-1) : Int32).toInt = -1 := by decide
  have w_T : WX o T T := WX.rf
  unfold g_X10_put
  refine tot_oif (w_oO h_T k_o w_o) ?_
  refine tot_bind (c_clear (a0 := a0) h_T k_o w_o (by omega)) (fun T_59 d_T_59 => ?_)
  have h_T_59 : IV R B K1 K2 T_59 := d_T_59.1
  have w_T_59 := w_T.tr (WX.of (o := o) d_T_59.2)
  have u_T_59_o := w_used h_T_59 k_o w_o
  refine tw_q h_T_59 k_o w_o (fun n_60 k_n_60 e_n_60 => ?_)
  refine tw_p h_T_59 k_n_60 w_o (by omega) ?_
  refine tw_r (p := (0 : Int32)) h_T_59 k_o w_o e_n_60 (by omega) (fun n_61 s_n_61 x_n_61 l_n_61 => ?_)
  refine tot_let (fun v_62 e_v_62 => ?_)
  refine tw_i s_n_61 (isW_f w_o).2.2.2.1.2 l_n_61 (by omega) ?_
  refine tot_let (fun T_63 e_T_63 => ?_)
  have h_T_63 : IV R B K1 K2 T_63 := by rw [e_T_63]; exact iv_uJ h_T_59 _ _ _
  have t_T_63 : T_63.2.2.1 = T_59.2.2.1 := by rw [e_T_63]; rfl
  have w_T_63 := w_T_59.tr (WX.of (o := o) t_T_63)
  have u_T_63_o : (T_63.2.2.1 o 2).toInt = (T_59.2.2.1 o 2).toInt := by rw [t_T_63]
  refine tot_oif (w_oO h_T_63 k_o w_o) ?_
  refine tot_bind (c_settle (a0 := a0) k_o w_o h_T_63 (by omega)) (fun T_64 d_T_64 => ?_)
  have h_T_64 : IV R B K1 K2 T_64 := d_T_64.1
  have w_T_64 := w_T_63.tr d_T_64.2
  unfold g_X10_put_b20
  exact tot_some ⟨h_T_64, w_T_64⟩
theorem c_floorDiv (a0 a1 : Int64) (h : ¬ a1 = 0) : Tot (g_J9_floorDiv_f86c9 a0 a1) (fun _ => True) := by
  unfold g_J9_floorDiv_f86c9 g_J9_floorDiv_f86c9_b27
  exact tot_oif h (tot_let fun _ _ => tot_let fun _ _ => tot_let fun _ _ => tot_if (fun _ => tot_some trivial) (fun _ => tot_let fun _ _ => tot_let fun _ _ => tot_if (fun _ => tot_some trivial) (fun _ => tot_let fun _ _ => tot_some trivial)))
theorem c_floorMod (a0 a1 : Int64) (h : ¬ a1 = 0) : Tot (g_J9_floorMod_f86c9 a0 a1) (fun _ => True) := by
  unfold g_J9_floorMod_f86c9 g_J9_floorMod_f86c9_b25
  exact tot_oif h (tot_let fun _ _ => tot_let fun _ _ => tot_let fun _ _ => tot_if (fun _ => tot_some trivial) (fun _ => tot_let fun _ _ => tot_if (fun _ => tot_some trivial) (fun _ => tot_let fun _ _ => tot_some trivial)))
theorem c_compareL (a0 a1 : Int64) : Tot (g_J13_compare_74951 a0 a1) (fun _ => True) := by
  unfold g_J13_compare_74951 g_J13_compare_74951_b21
  exact tot_let fun _ _ => tot_if (fun _ => tot_let fun _ _ => tot_if (fun _ => tot_some trivial) (fun _ => tot_some trivial)) (fun _ => tot_some trivial)
set_option maxHeartbeats 2000000 in
theorem c_divide_b40 {R : Nat → Nat} {B K1 K2 : Nat} {l1 l2 l3 : Int32} {l0 r_l0 : Nat} (k_l0 : R l0 = r_l0) (w_l0 : isW r_l0 = true) (g1 : (0 ≤ l1.toInt ∧ l1.toInt < cnt r_l0)) (g2 : 1 ≤ l2.toInt) (T0 : AT) : ∀ (n : Nat) (T : AT) (l4 : Int64) (l6 : Int32), IV R B K1 K2 T → WX l0 T0 T → (-1 ≤ l6.toInt ∧ l6.toInt < (T.2.2.1 l0 2).toInt) → l6.toInt + 1 < (n : Int) → Tot (g_X10_divide_b40 n T l0 l1 l2 l3 l4 l6) (fun T1 => IV R B K1 K2 T1 ∧ WX l0 T0 T1) := by
  have z0 : (0 : Int32).toInt = 0 := by decide
  have z1 : (1 : Int32).toInt = 1 := by decide
  have z2 : (2 : Int32).toInt = 2 := by decide
  have z40 : (40 : Int32).toInt = 40 := by decide
  have zi : (Int32.ofInt (1) : Int32).toInt = 1 := by decide
  have zm : (Int32.ofInt (-1) : Int32).toInt = -1 := by decide
  intro n
  induction n with
  | zero =>
    intro T l4 l6 h_T w_T g6 hm
    have u_T := w_used h_T k_l0 w_l0
    exfalso
    omega
  | succ n ih =>
    intro T l4 l6 h_T w_T g6 hm
    have u_T := w_used h_T k_l0 w_l0
    unfold g_X10_divide_b40
    refine tot_if (fun c_85 => ?_) (fun c_85 => ?_)
    · replace c_85 := i_lt c_85
      refine tot_if (fun c_86 => ?_) (fun c_86 => ?_)
      · replace c_86 := i_eq c_86
        unfold g_X10_divide_b121
        exact tot_some ⟨h_T, w_T⟩
      · replace c_86 := i_ne c_86
        refine tot_let (fun v_65 e_v_65 => ?_)
        refine tot_if (fun c_87 => ?_) (fun c_87 => ?_)
        · replace c_87 := i_le c_87
          unfold g_X10_divide_b121
          exact tot_some ⟨h_T, w_T⟩
        · replace c_87 := i_nle c_87
          refine tw_q h_T k_l0 w_l0 (fun n_66 k_n_66 e_n_66 => ?_)
          refine tw_p h_T k_n_66 w_l0 (by omega) ?_
          refine tw_r (p := (0 : Int32)) h_T k_l0 w_l0 e_n_66 (by omega) (fun n_67 s_n_67 x_n_67 l_n_67 => ?_)
          refine tw_i s_n_67 (isW_f w_l0).2.2.2.1.2 l_n_67 (by omega) ?_
          refine tot_let (fun v_68 e_v_68 => ?_)
          refine tot_let (fun v_69 e_v_69 => ?_)
          refine tw_i s_n_67 (isW_f w_l0).2.2.2.1.2 l_n_67 (by omega) ?_
          refine tot_let (fun T_70 e_T_70 => ?_)
          have h_T_70 : IV R B K1 K2 T_70 := by rw [e_T_70]; exact iv_uJ h_T _ _ _
          have t_T_70 : T_70.2.2.1 = T.2.2.1 := by rw [e_T_70]; rfl
          have w_T_70 := w_T.tr (WX.of (o := l0) t_T_70)
          have u_T_70_l0 : (T_70.2.2.1 l0 2).toInt = (T.2.2.1 l0 2).toInt := by rw [t_T_70]
          refine tot_oif (w_oO h_T_70 k_l0 w_l0) ?_
          refine tot_bind (c_settle (a0 := l1) k_l0 w_l0 h_T_70 (by omega)) (fun T_71 d_T_71 => ?_)
          have h_T_71 : IV R B K1 K2 T_71 := d_T_71.1
          have w_T_71 := w_T_70.tr d_T_71.2
          unfold g_X10_divide_b121
          exact tot_some ⟨h_T_71, w_T_71⟩
    · replace c_85 := i_nlt c_85
      refine tot_let (fun v_72 e_v_72 => ?_)
      refine tw_q h_T k_l0 w_l0 (fun n_73 k_n_73 e_n_73 => ?_)
      refine tw_p h_T k_n_73 w_l0 (by omega) ?_
      refine tw_r (p := l6) h_T k_l0 w_l0 e_n_73 (by omega) (fun n_74 s_n_74 x_n_74 l_n_74 => ?_)
      refine tw_i s_n_74 (isW_f w_l0).2.2.2.1.2 l_n_74 (by omega) ?_
      refine tot_let (fun v_75 e_v_75 => ?_)
      refine tot_let (fun v_76 e_v_76 => ?_)
      refine tw_q h_T k_l0 w_l0 (fun n_77 k_n_77 e_n_77 => ?_)
      refine tw_p h_T k_n_77 w_l0 (by omega) ?_
      refine tw_r (p := l6) h_T k_l0 w_l0 e_n_77 (by omega) (fun n_78 s_n_78 x_n_78 l_n_78 => ?_)
      refine tot_let (fun v_79 e_v_79 => ?_)
      refine tot_bind (c_floorDiv v_76 v_79 (by rw [e_v_79]; exact i_nz64 (by omega))) (fun r_80 _ => ?_)
      refine tw_i s_n_78 (isW_f w_l0).2.2.2.1.2 l_n_78 (by omega) ?_
      refine tot_let (fun T_81 e_T_81 => ?_)
      have h_T_81 : IV R B K1 K2 T_81 := by rw [e_T_81]; exact iv_uJ h_T _ _ _
      have t_T_81 : T_81.2.2.1 = T.2.2.1 := by rw [e_T_81]; rfl
      have w_T_81 := w_T.tr (WX.of (o := l0) t_T_81)
      have u_T_81_l0 : (T_81.2.2.1 l0 2).toInt = (T.2.2.1 l0 2).toInt := by rw [t_T_81]
      refine tot_let (fun v_82 e_v_82 => ?_)
      refine tot_bind (c_floorMod v_76 v_82 (by rw [e_v_82]; exact i_nz64 (by omega))) (fun r_83 _ => ?_)
      refine tot_let (fun v_84 e_v_84 => ?_)
      have q_v_84 := i_add e_v_84 (by omega) (by omega)
      exact ih T_81 r_83 v_84 h_T_81 w_T_81 (by omega) (by omega)
set_option maxHeartbeats 2000000 in
theorem c_divide {R : Nat → Nat} {B K1 K2 : Nat} {T : AT} {a0 a1 : Int32} {o r_o : Nat} (k_o : R o = r_o) (w_o : isW r_o = true) (h_T : IV R B K1 K2 T) (g0 : (0 ≤ a0.toInt ∧ a0.toInt < cnt r_o)) : Tot (g_X10_divide T o a0 a1) (fun T1 => IV R B K1 K2 T1 ∧ WX o T T1) := by
  have z0 : (0 : Int32).toInt = 0 := by decide
  have z1 : (1 : Int32).toInt = 1 := by decide
  have z2 : (2 : Int32).toInt = 2 := by decide
  have z40 : (40 : Int32).toInt = 40 := by decide
  have zi : (Int32.ofInt (1) : Int32).toInt = 1 := by decide
  have zm : (Int32.ofInt (-1) : Int32).toInt = -1 := by decide
  have w_T : WX o T T := WX.rf
  unfold g_X10_divide
  refine tot_if (fun c_94 => ?_) (fun c_94 => ?_)
  · replace c_94 := i_lt c_94
    refine tw_q h_T k_o w_o (fun n_88 k_n_88 e_n_88 => ?_)
    refine tot_oif (w_oO h_T k_o w_o) ?_
    refine tot_let (fun v_89 e_v_89 => ?_)
    have q_v_89 := i_eq e_v_89
    have r_v_89 := w_used h_T k_o w_o
    refine tot_let (fun v_90 e_v_90 => ?_)
    have q_v_90 := i_sub e_v_90 (by omega) (by omega)
    refine tw_p h_T k_n_88 w_o (by omega) ?_
    refine tw_r (p := v_90) h_T k_o w_o e_n_88 (by omega) (fun n_91 s_n_91 x_n_91 l_n_91 => ?_)
    refine tw_i s_n_91 (isW_f w_o).2.2.2.1.2 l_n_91 (by omega) ?_
    refine tot_let (fun v_92 e_v_92 => ?_)
    refine tot_let (fun v_93 e_v_93 => ?_)
    refine tot_if (fun c_95 => ?_) (fun c_95 => ?_)
    · replace c_95 := i_le c_95
      unfold g_X10_divide_b28
      refine tot_oif (w_oO h_T k_o w_o) ?_
      refine tot_let (fun v_96 e_v_96 => ?_)
      have q_v_96 := i_eq e_v_96
      have r_v_96 := w_used h_T k_o w_o
      refine tot_let (fun v_97 e_v_97 => ?_)
      have q_v_97 := i_sub e_v_97 (by omega) (by omega)
      exact c_divide_b40 k_o w_o g0 (by omega) T 16384 T _ v_97 h_T w_T (by omega) (by omega)
    · replace c_95 := i_nle c_95
      unfold g_X10_divide_b28
      refine tot_oif (w_oO h_T k_o w_o) ?_
      refine tot_let (fun v_98 e_v_98 => ?_)
      have q_v_98 := i_eq e_v_98
      have r_v_98 := w_used h_T k_o w_o
      refine tot_let (fun v_99 e_v_99 => ?_)
      have q_v_99 := i_sub e_v_99 (by omega) (by omega)
      exact c_divide_b40 k_o w_o g0 (by omega) T 16384 T _ v_99 h_T w_T (by omega) (by omega)
  · replace c_94 := i_nlt c_94
    exact tot_some ⟨h_T, w_T⟩
set_option maxHeartbeats 2000000 in
theorem c_compare_b10 {R : Nat → Nat} {B K1 K2 : Nat} {T : AT} {l1 l2 : Int32} {l0 r_l0 : Nat} (k_l0 : R l0 = r_l0) (w_l0 : isW r_l0 = true) (h_T : IV R B K1 K2 T) (g1 : (0 ≤ l1.toInt ∧ l1.toInt < cnt r_l0)) (g2 : (0 ≤ l2.toInt ∧ l2.toInt < cnt r_l0)) : ∀ (n : Nat) (l3 l4 : Int32), (-1 ≤ l4.toInt ∧ l4.toInt < (T.2.2.1 l0 2).toInt) → l4.toInt + 1 < (n : Int) → Tot (g_X10_compare_b10 n T l0 l1 l2 l3 l4) (fun r => r.2 = T ∧ True) := by
  have z0 : (0 : Int32).toInt = 0 := by decide
  have z1 : (1 : Int32).toInt = 1 := by decide
  have z2 : (2 : Int32).toInt = 2 := by decide
  have z40 : (40 : Int32).toInt = 40 := by decide
  have zi : (Int32.ofInt (1) : Int32).toInt = 1 := by decide
  have zm : (Int32.ofInt (-1) : Int32).toInt = -1 := by decide
  intro n
  induction n with
  | zero =>
    intro l3 l4 g4 hm
    have u_T := w_used h_T k_l0 w_l0
    exfalso
    omega
  | succ n ih =>
    intro l3 l4 g4 hm
    have u_T := w_used h_T k_l0 w_l0
    unfold g_X10_compare_b10
    refine tot_if (fun c_108 => ?_) (fun c_108 => ?_)
    · replace c_108 := i_lt c_108
      unfold g_X10_compare_b47
      exact tot_some ⟨rfl, trivial⟩
    · replace c_108 := i_nlt c_108
      refine tot_if (fun c_109 => ?_) (fun c_109 => ?_)
      · replace c_109 := i_eq c_109
        refine tw_q h_T k_l0 w_l0 (fun n_100 k_n_100 e_n_100 => ?_)
        refine tw_p h_T k_n_100 w_l0 (by omega) ?_
        refine tw_r (p := l4) h_T k_l0 w_l0 e_n_100 (by omega) (fun n_101 s_n_101 x_n_101 l_n_101 => ?_)
        refine tw_i s_n_101 (isW_f w_l0).2.2.2.1.2 l_n_101 (by omega) ?_
        refine tot_let (fun v_102 e_v_102 => ?_)
        refine tw_q h_T k_l0 w_l0 (fun n_103 k_n_103 e_n_103 => ?_)
        refine tw_p h_T k_n_103 w_l0 (by omega) ?_
        refine tw_r (p := l4) h_T k_l0 w_l0 e_n_103 (by omega) (fun n_104 s_n_104 x_n_104 l_n_104 => ?_)
        refine tw_i s_n_104 (isW_f w_l0).2.2.2.1.2 l_n_104 (by omega) ?_
        refine tot_let (fun v_105 e_v_105 => ?_)
        refine tot_bind (c_compareL v_102 v_105) (fun r_106 _ => ?_)
        refine tot_let (fun v_107 e_v_107 => ?_)
        have q_v_107 := i_add e_v_107 (by omega) (by omega)
        exact ih r_106 v_107 (by omega) (by omega)
      · replace c_109 := i_ne c_109
        unfold g_X10_compare_b47
        exact tot_some ⟨rfl, trivial⟩
set_option maxHeartbeats 2000000 in
theorem c_compare {R : Nat → Nat} {B K1 K2 : Nat} {T : AT} {a0 a1 : Int32} {o r_o : Nat} (k_o : R o = r_o) (w_o : isW r_o = true) (h_T : IV R B K1 K2 T) (g0 : (0 ≤ a0.toInt ∧ a0.toInt < cnt r_o)) (g1 : (0 ≤ a1.toInt ∧ a1.toInt < cnt r_o)) : Tot (g_X10_compare T o a0 a1) (fun r => r.2 = T ∧ True) := by
  have z0 : (0 : Int32).toInt = 0 := by decide
  have z1 : (1 : Int32).toInt = 1 := by decide
  have z2 : (2 : Int32).toInt = 2 := by decide
  have z40 : (40 : Int32).toInt = 40 := by decide
  have zi : (Int32.ofInt (1) : Int32).toInt = 1 := by decide
  have zm : (Int32.ofInt (-1) : Int32).toInt = -1 := by decide
  unfold g_X10_compare
  refine tot_oif (w_oO h_T k_o w_o) ?_
  refine tot_let (fun v_110 e_v_110 => ?_)
  have q_v_110 := i_eq e_v_110
  have r_v_110 := w_used h_T k_o w_o
  refine tot_let (fun v_111 e_v_111 => ?_)
  have q_v_111 := i_sub e_v_111 (by omega) (by omega)
  exact c_compare_b10 k_o w_o h_T g0 g1 16384 0 v_111 (by omega) (by omega)
set_option maxHeartbeats 2000000 in
theorem c_isZero_b5 {R : Nat → Nat} {B K1 K2 : Nat} {T : AT} {l1 : Int32} {l0 r_l0 : Nat} (k_l0 : R l0 = r_l0) (w_l0 : isW r_l0 = true) (h_T : IV R B K1 K2 T) (g1 : (0 ≤ l1.toInt ∧ l1.toInt < cnt r_l0)) : ∀ (n : Nat) (l2 : Int64) (l4 : Int32), (0 ≤ l4.toInt ∧ l4.toInt ≤ 40) → 40 - l4.toInt < (n : Int) → Tot (g_X10_isZero_b5 n T l0 l1 l2 l4) (fun r => r.2 = T ∧ (r.1.toInt = 0 ∨ r.1.toInt = 1)) := by
  have z0 : (0 : Int32).toInt = 0 := by decide
  have z1 : (1 : Int32).toInt = 1 := by decide
  have z2 : (2 : Int32).toInt = 2 := by decide
  have z40 : (40 : Int32).toInt = 40 := by decide
  have zi : (Int32.ofInt (1) : Int32).toInt = 1 := by decide
  have zm : (Int32.ofInt (-1) : Int32).toInt = -1 := by decide
  intro n
  induction n with
  | zero =>
    intro l2 l4 g4 hm
    exfalso
    omega
  | succ n ih =>
    intro l2 l4 g4 hm
    unfold g_X10_isZero_b5
    refine tot_oif (w_oO h_T k_l0 w_l0) ?_
    refine tot_let (fun v_112 e_v_112 => ?_)
    have q_v_112 := i_eq e_v_112
    have r_v_112 := w_used h_T k_l0 w_l0
    refine tot_if (fun c_119 => ?_) (fun c_119 => ?_)
    · replace c_119 := i_le c_119
      refine tot_let (fun v_113 e_v_113 => ?_)
      refine tot_if (fun c_120 => ?_) (fun c_120 => ?_)
      · replace c_120 := i_eq c_120
        unfold g_X10_isZero_b43
        refine tot_oif (i_b01 (by omega)) ?_
        exact tot_some ⟨rfl, show (1 : Int32).toInt = 0 ∨ (1 : Int32).toInt = 1 from by omega⟩
      · replace c_120 := i_ne c_120
        unfold g_X10_isZero_b43
        refine tot_oif (i_b01 (by omega)) ?_
        exact tot_some ⟨rfl, show (0 : Int32).toInt = 0 ∨ (0 : Int32).toInt = 1 from by omega⟩
    · replace c_119 := i_nle c_119
      refine tw_q h_T k_l0 w_l0 (fun n_114 k_n_114 e_n_114 => ?_)
      refine tw_p h_T k_n_114 w_l0 (by omega) ?_
      refine tw_r (p := l4) h_T k_l0 w_l0 e_n_114 (by omega) (fun n_115 s_n_115 x_n_115 l_n_115 => ?_)
      refine tw_i s_n_115 (isW_f w_l0).2.2.2.1.2 l_n_115 (by omega) ?_
      refine tot_let (fun v_116 e_v_116 => ?_)
      refine tot_let (fun v_117 e_v_117 => ?_)
      refine tot_let (fun v_118 e_v_118 => ?_)
      have q_v_118 := i_add e_v_118 (by omega) (by omega)
      exact ih v_117 v_118 (by omega) (by omega)
theorem c_isZero {R : Nat → Nat} {B K1 K2 : Nat} {T : AT} {a0 : Int32} {o r_o : Nat} (k_o : R o = r_o) (w_o : isW r_o = true) (h_T : IV R B K1 K2 T) (g0 : (0 ≤ a0.toInt ∧ a0.toInt < cnt r_o)) : Tot (g_X10_isZero T o a0) (fun r => r.2 = T ∧ (r.1.toInt = 0 ∨ r.1.toInt = 1)) := by
  have z0 : (0 : Int32).toInt = 0 := by decide
  unfold g_X10_isZero
  exact c_isZero_b5 k_o w_o h_T g0 16384 0 0 (by omega) (by omega)
set_option maxHeartbeats 2000000 in
theorem c_value_b10 {R : Nat → Nat} {B K1 K2 : Nat} {T : AT} {l1 : Int32} {l0 r_l0 : Nat} (k_l0 : R l0 = r_l0) (w_l0 : isW r_l0 = true) (h_T : IV R B K1 K2 T) (g1 : (0 ≤ l1.toInt ∧ l1.toInt < cnt r_l0)) : ∀ (n : Nat) (l2 : Int64) (l4 : Int32), (-1 ≤ l4.toInt ∧ l4.toInt < (T.2.2.1 l0 2).toInt) → l4.toInt + 1 < (n : Int) → Tot (g_X10_value_b10 n T l0 l1 l2 l4) (fun r => r.2 = T ∧ True) := by
  have z0 : (0 : Int32).toInt = 0 := by decide
  have z1 : (1 : Int32).toInt = 1 := by decide
  have z2 : (2 : Int32).toInt = 2 := by decide
  have z40 : (40 : Int32).toInt = 40 := by decide
  have zi : (Int32.ofInt (1) : Int32).toInt = 1 := by decide
  have zm : (Int32.ofInt (-1) : Int32).toInt = -1 := by decide
  intro n
  induction n with
  | zero =>
    intro l2 l4 g4 hm
    have u_T := w_used h_T k_l0 w_l0
    exfalso
    omega
  | succ n ih =>
    intro l2 l4 g4 hm
    have u_T := w_used h_T k_l0 w_l0
    unfold g_X10_value_b10
    refine tot_if (fun c_127 => ?_) (fun c_127 => ?_)
    · replace c_127 := i_lt c_127
      exact tot_some ⟨rfl, trivial⟩
    · replace c_127 := i_nlt c_127
      refine tot_let (fun v_121 e_v_121 => ?_)
      refine tw_q h_T k_l0 w_l0 (fun n_122 k_n_122 e_n_122 => ?_)
      refine tw_p h_T k_n_122 w_l0 (by omega) ?_
      refine tw_r (p := l4) h_T k_l0 w_l0 e_n_122 (by omega) (fun n_123 s_n_123 x_n_123 l_n_123 => ?_)
      refine tw_i s_n_123 (isW_f w_l0).2.2.2.1.2 l_n_123 (by omega) ?_
      refine tot_let (fun v_124 e_v_124 => ?_)
      refine tot_let (fun v_125 e_v_125 => ?_)
      refine tot_let (fun v_126 e_v_126 => ?_)
      have q_v_126 := i_add e_v_126 (by omega) (by omega)
      exact ih v_125 v_126 (by omega) (by omega)
set_option maxHeartbeats 2000000 in
theorem c_value {R : Nat → Nat} {B K1 K2 : Nat} {T : AT} {a0 : Int32} {o r_o : Nat} (k_o : R o = r_o) (w_o : isW r_o = true) (h_T : IV R B K1 K2 T) (g0 : (0 ≤ a0.toInt ∧ a0.toInt < cnt r_o)) : Tot (g_X10_value T o a0) (fun r => r.2 = T ∧ True) := by
  have z0 : (0 : Int32).toInt = 0 := by decide
  have z1 : (1 : Int32).toInt = 1 := by decide
  have z2 : (2 : Int32).toInt = 2 := by decide
  have z40 : (40 : Int32).toInt = 40 := by decide
  have zi : (Int32.ofInt (1) : Int32).toInt = 1 := by decide
  have zm : (Int32.ofInt (-1) : Int32).toInt = -1 := by decide
  unfold g_X10_value
  refine tot_oif (w_oO h_T k_o w_o) ?_
  refine tot_let (fun v_128 e_v_128 => ?_)
  have q_v_128 := i_eq e_v_128
  have r_v_128 := w_used h_T k_o w_o
  refine tot_let (fun v_129 e_v_129 => ?_)
  have q_v_129 := i_sub e_v_129 (by omega) (by omega)
  exact c_value_b10 k_o w_o h_T g0 16384 _ v_129 (by omega) (by omega)
set_option maxHeartbeats 2000000 in
theorem c_partsBelow_b7 {R : Nat → Nat} {B K1 K2 : Nat} {T : AT} {l1 : Int32} {l0 r_l0 : Nat} (k_l0 : R l0 = r_l0) (w_l0 : isW r_l0 = true) (h_T : IV R B K1 K2 T) (g1 : (0 ≤ l1.toInt ∧ l1.toInt < cnt r_l0)) : ∀ (n : Nat) (l2 : Int32), (0 ≤ l2.toInt ∧ l2.toInt < (T.2.2.1 l0 2).toInt) → l2.toInt < (n : Int) → Tot (g_X10_partsBelow_b7 n T l0 l1 l2) (fun r => r.2 = T ∧ (0 ≤ r.1.toInt ∧ r.1.toInt < (T.2.2.1 l0 2).toInt)) := by
  have z0 : (0 : Int32).toInt = 0 := by decide
  have z1 : (1 : Int32).toInt = 1 := by decide
  have z2 : (2 : Int32).toInt = 2 := by decide
  have z40 : (40 : Int32).toInt = 40 := by decide
  have zi : (Int32.ofInt (1) : Int32).toInt = 1 := by decide
  have zm : (Int32.ofInt (-1) : Int32).toInt = -1 := by decide
  intro n
  induction n with
  | zero =>
    intro l2 g2 hm
    have u_T := w_used h_T k_l0 w_l0
    exfalso
    omega
  | succ n ih =>
    intro l2 g2 hm
    have u_T := w_used h_T k_l0 w_l0
    unfold g_X10_partsBelow_b7
    refine tot_if (fun c_136 => ?_) (fun c_136 => ?_)
    · replace c_136 := i_le c_136
      exact tot_some ⟨rfl, show 0 ≤ (0 : Int32).toInt ∧ (0 : Int32).toInt < (T.2.2.1 l0 2).toInt from by omega⟩
    · replace c_136 := i_nle c_136
      refine tw_q h_T k_l0 w_l0 (fun n_130 k_n_130 e_n_130 => ?_)
      refine tw_p h_T k_n_130 w_l0 (by omega) ?_
      refine tw_r (p := l2) h_T k_l0 w_l0 e_n_130 (by omega) (fun n_131 s_n_131 x_n_131 l_n_131 => ?_)
      refine tw_i s_n_131 (isW_f w_l0).2.2.2.1.2 l_n_131 (by omega) ?_
      refine tot_let (fun v_132 e_v_132 => ?_)
      refine tot_let (fun v_133 e_v_133 => ?_)
      refine tot_if (fun c_137 => ?_) (fun c_137 => ?_)
      · replace c_137 := i_eq c_137
        refine tot_let (fun v_134 e_v_134 => ?_)
        have q_v_134 := i_add e_v_134 (by omega) (by omega)
        exact ih v_134 (by omega) (by omega)
      · replace c_137 := i_ne c_137
        refine tot_let (fun v_135 e_v_135 => ?_)
        have q_v_135 := i_sub e_v_135 (by omega) (by omega)
        exact tot_some ⟨rfl, show 0 ≤ (v_135 : Int32).toInt ∧ (v_135 : Int32).toInt < (T.2.2.1 l0 2).toInt from by omega⟩
set_option maxHeartbeats 2000000 in
theorem c_partsBelow {R : Nat → Nat} {B K1 K2 : Nat} {T : AT} {a0 : Int32} {o r_o : Nat} (k_o : R o = r_o) (w_o : isW r_o = true) (h_T : IV R B K1 K2 T) (g0 : (0 ≤ a0.toInt ∧ a0.toInt < cnt r_o)) : Tot (g_X10_partsBelow T o a0) (fun r => r.2 = T ∧ (0 ≤ r.1.toInt ∧ r.1.toInt < (T.2.2.1 o 2).toInt)) := by
  have z0 : (0 : Int32).toInt = 0 := by decide
  have z1 : (1 : Int32).toInt = 1 := by decide
  have z2 : (2 : Int32).toInt = 2 := by decide
  have z40 : (40 : Int32).toInt = 40 := by decide
  have zi : (Int32.ofInt (1) : Int32).toInt = 1 := by decide
  have zm : (Int32.ofInt (-1) : Int32).toInt = -1 := by decide
  unfold g_X10_partsBelow
  refine tot_oif (w_oO h_T k_o w_o) ?_
  refine tot_let (fun v_138 e_v_138 => ?_)
  have q_v_138 := i_eq e_v_138
  have r_v_138 := w_used h_T k_o w_o
  refine tot_let (fun v_139 e_v_139 => ?_)
  have q_v_139 := i_sub e_v_139 (by omega) (by omega)
  exact c_partsBelow_b7 k_o w_o h_T g0 16384 v_139 (by omega) (by omega)
/-- behind widenTo: no fewer parts than the other one has -/
theorem wx_le {o a : Nat} {T U : AT} {v : Int32} (x : WX o T U) (q : v.toInt = (T.2.2.1 a 2).toInt) (h : v.toInt ≤ (U.2.2.1 o 2).toInt ∨ 40 ≤ (U.2.2.1 o 2).toInt) (hv : v.toInt ≤ 40) : (U.2.2.1 a 2).toInt ≤ (U.2.2.1 o 2).toInt := by
  by_cases e : a = o
  · rw [e]; exact Int.le_refl _
  · rw [x.1 a 2 (.inl e)]
    omega
set_option maxHeartbeats 2000000 in
theorem c_add_b11 {R : Nat → Nat} {B K1 K2 : Nat} {l1 l3 l4 : Int32} {l0 r_l0 : Nat} (k_l0 : R l0 = r_l0) (w_l0 : isW r_l0 = true) {l2 r_l2 : Nat} (k_l2 : R l2 = r_l2) (w_l2 : isW r_l2 = true) (g1 : (0 ≤ l1.toInt ∧ l1.toInt < cnt r_l0)) (g3 : (0 ≤ l3.toInt ∧ l3.toInt < cnt r_l2)) (T0 : AT) : ∀ (n : Nat) (T : AT) (l5 : Int32), IV R B K1 K2 T → WX l0 T0 T → (T.2.2.1 l2 2).toInt ≤ (T.2.2.1 l0 2).toInt → (0 ≤ l5.toInt ∧ l5.toInt ≤ 40) → 40 - l5.toInt < (n : Int) → Tot (g_X10_add_b11 n T l0 l1 l2 l3 l4 l5) (fun T1 => IV R B K1 K2 T1 ∧ WX l0 T0 T1) := by
  have z0 : (0 : Int32).toInt = 0 := by decide
  have z1 : (1 : Int32).toInt = 1 := by decide
  have z2 : (2 : Int32).toInt = 2 := by decide
  have z40 : (40 : Int32).toInt = 40 := by decide
  have zi : (Int32.ofInt (1) : Int32).toInt = 1 := by decide
  have zm : (Int32.ofInt (-1) : Int32).toInt = -1 := by decide
  intro n
  induction n with
  | zero =>
    intro T l5 h_T w_T hu g5 hm
    have u_T := w_used h_T k_l0 w_l0
    exfalso
    omega
  | succ n ih =>
    intro T l5 h_T w_T hu g5 hm
    have u_T := w_used h_T k_l0 w_l0
    unfold g_X10_add_b11
    refine tot_oif (w_oO h_T k_l2 w_l2) ?_
    refine tot_let (fun v_140 e_v_140 => ?_)
    have q_v_140 := i_eq e_v_140
    have r_v_140 := w_used h_T k_l2 w_l2
    refine tot_if (fun c_153 => ?_) (fun c_153 => ?_)
    · replace c_153 := i_le c_153
      refine tot_oif (w_oO h_T k_l0 w_l0) ?_
      refine tot_bind (c_settle (a0 := l1) k_l0 w_l0 h_T (by omega)) (fun T_141 d_T_141 => ?_)
      have h_T_141 : IV R B K1 K2 T_141 := d_T_141.1
      have w_T_141 := w_T.tr d_T_141.2
      unfold g_X10_add_b56
      exact tot_some ⟨h_T_141, w_T_141⟩
    · replace c_153 := i_nle c_153
      refine tw_q h_T k_l0 w_l0 (fun n_142 k_n_142 e_n_142 => ?_)
      refine tw_p h_T k_n_142 w_l0 (by omega) ?_
      refine tw_r (p := l5) h_T k_l0 w_l0 e_n_142 (by omega) (fun n_143 s_n_143 x_n_143 l_n_143 => ?_)
      refine tw_i s_n_143 (isW_f w_l0).2.2.2.1.2 l_n_143 (by omega) ?_
      refine tot_let (fun v_144 e_v_144 => ?_)
      refine tot_let (fun v_145 e_v_145 => ?_)
      refine tw_q h_T k_l2 w_l2 (fun n_146 k_n_146 e_n_146 => ?_)
      refine tw_p h_T k_n_146 w_l2 (by omega) ?_
      refine tw_r (p := l5) h_T k_l2 w_l2 e_n_146 (by omega) (fun n_147 s_n_147 x_n_147 l_n_147 => ?_)
      refine tw_i s_n_147 (isW_f w_l2).2.2.2.1.2 l_n_147 (by omega) ?_
      refine tot_let (fun v_148 e_v_148 => ?_)
      refine tot_let (fun v_149 e_v_149 => ?_)
      refine tot_let (fun v_150 e_v_150 => ?_)
      refine tw_i s_n_143 (isW_f w_l0).2.2.2.1.2 l_n_143 (by omega) ?_
      refine tot_let (fun T_151 e_T_151 => ?_)
      have h_T_151 : IV R B K1 K2 T_151 := by rw [e_T_151]; exact iv_uJ h_T _ _ _
      have t_T_151 : T_151.2.2.1 = T.2.2.1 := by rw [e_T_151]; rfl
      have w_T_151 := w_T.tr (WX.of (o := l0) t_T_151)
      have u_T_151_l0 : (T_151.2.2.1 l0 2).toInt = (T.2.2.1 l0 2).toInt := by rw [t_T_151]
      have u_T_151_l2 : (T_151.2.2.1 l2 2).toInt = (T.2.2.1 l2 2).toInt := by rw [t_T_151]
      refine tot_let (fun v_152 e_v_152 => ?_)
      have q_v_152 := i_add e_v_152 (by omega) (by omega)
      exact ih T_151 v_152 h_T_151 w_T_151 (by omega) (by omega) (by omega)
set_option maxHeartbeats 2000000 in
theorem c_add {R : Nat → Nat} {B K1 K2 : Nat} {T : AT} {a0 a2 a3 : Int32} {o r_o : Nat} (k_o : R o = r_o) (w_o : isW r_o = true) {a1 r_a1 : Nat} (k_a1 : R a1 = r_a1) (w_a1 : isW r_a1 = true) (h_T : IV R B K1 K2 T) (g0 : (0 ≤ a0.toInt ∧ a0.toInt < cnt r_o)) (g2 : (0 ≤ a2.toInt ∧ a2.toInt < cnt r_a1)) : Tot (g_X10_add T o a0 a1 a2 a3) (fun T1 => IV R B K1 K2 T1 ∧ WX o T T1) := by
  have z0 : (0 : Int32).toInt = 0 := by decide
  have z1 : (1 : Int32).toInt = 1 := by decide
  have z2 : (2 : Int32).toInt = 2 := by decide
  have z40 : (40 : Int32).toInt = 40 := by decide
  have zi : (Int32.ofInt (1) : Int32).toInt = 1 := by decide
  have zm : (Int32.ofInt (-1) : Int32).toInt = -1 := by decide
  have w_T : WX o T T := WX.rf
  unfold g_X10_add
  refine tot_oif (w_oO h_T k_a1 w_a1) ?_
  refine tot_let (fun v_154 e_v_154 => ?_)
  have q_v_154 := i_eq e_v_154
  have r_v_154 := w_used h_T k_a1 w_a1
  refine tot_oif (w_oO h_T k_o w_o) ?_
  refine tot_bind (c_widenTo (a0 := v_154) k_o w_o h_T) (fun T_155 d_T_155 => ?_)
  have h_T_155 : IV R B K1 K2 T_155 := d_T_155.1
  have x_T_155 : WX o T T_155 := d_T_155.2.1
  have v_T_155 : v_154.toInt ≤ (T_155.2.2.1 o 2).toInt ∨ 40 ≤ (T_155.2.2.1 o 2).toInt := d_T_155.2.2
  have w_T_155 := w_T.tr x_T_155
  unfold g_X10_add_b8
  exact c_add_b11 k_o w_o k_a1 w_a1 g0 g2 T 16384 T_155 0 h_T_155 w_T_155 (wx_le x_T_155 q_v_154 (by omega) (by omega)) (by omega) (by omega)
set_option maxHeartbeats 2000000 in
theorem c_set {R : Nat → Nat} {B K1 K2 : Nat} {T : AT} {a0 a2 : Int32} {o r_o : Nat} (k_o : R o = r_o) (w_o : isW r_o = true) {a1 r_a1 : Nat} (k_a1 : R a1 = r_a1) (w_a1 : isW r_a1 = true) (h_T : IV R B K1 K2 T) (g0 : (0 ≤ a0.toInt ∧ a0.toInt < cnt r_o)) (g2 : (0 ≤ a2.toInt ∧ a2.toInt < cnt r_a1)) : Tot (g_X10_set T o a0 a1 a2) (fun T1 => IV R B K1 K2 T1 ∧ WX o T T1) := by
  have z0 : (0 : Int32).toInt = 0 := by decide
  have z1 : (1 : Int32).toInt = 1 := by decide
  have z2 : (2 : Int32).toInt = 2 := by decide
  have z40 : (40 : Int32).toInt = 40 := by decide
  have zi : (Int32.ofInt (1) : Int32).toInt = 1 := by decide
  have zm : (Int32.ofInt (-1) : Int32).toInt = -1 := by decide
  have w_T : WX o T T := WX.rf
  unfold g_X10_set
  refine tot_oif (w_oO h_T k_o w_o) ?_
  refine tot_bind (c_clear (a0 := a0) h_T k_o w_o (by omega)) (fun T_156 d_T_156 => ?_)
  have h_T_156 : IV R B K1 K2 T_156 := d_T_156.1
  have w_T_156 := w_T.tr (WX.of (o := o) d_T_156.2)
  have u_T_156_a1 := w_used h_T_156 k_a1 w_a1
  have u_T_156_o := w_used h_T_156 k_o w_o
  refine tot_oif (w_oO h_T_156 k_o w_o) ?_
  refine tot_bind (c_add (a0 := a0) (a2 := a2) (a3 := (1 : Int32)) k_o w_o k_a1 w_a1 h_T_156 (by omega) (by omega)) (fun T_157 d_T_157 => ?_)
  have h_T_157 : IV R B K1 K2 T_157 := d_T_157.1
  have w_T_157 := w_T_156.tr d_T_157.2
  unfold g_X10_set_b13
  exact tot_some ⟨h_T_157, w_T_157⟩
set_option maxHeartbeats 2000000 in
theorem c_addProduct_b62 {R : Nat → Nat} {B K1 K2 : Nat} {Q : AT → Prop} {k17 : AT → Nat → Int32 → Nat → Int32 → Nat → Int32 → Int32 → Option AT} {T : AT} {l1 l3 l5 l6 : Int32} {l0 r_l0 : Nat} (k_l0 : R l0 = r_l0) (w_l0 : isW r_l0 = true) {l2 r_l2 : Nat} (k_l2 : R l2 = r_l2) (w_l2 : isW r_l2 = true) {l4 r_l4 : Nat} (k_l4 : R l4 = r_l4) (w_l4 : isW r_l4 = true) (h_T : IV R B K1 K2 T) (g3 : (0 ≤ l3.toInt ∧ l3.toInt < cnt r_l2)) (g5 : (0 ≤ l5.toInt ∧ l5.toInt < cnt r_l4)) (g6 : 0 ≤ l6.toInt ∧ l6.toInt ≤ 40) (hx : ∀ s : Int64, Tot (g_X10_addProduct_b113 k17 T l0 l1 l2 l3 l4 l5 l6 s) Q) : ∀ (n : Nat) (l7 : Int64) (l9 : Int32), (0 ≤ l9.toInt ∧ l6.toInt - l9.toInt < (T.2.2.1 l4 2).toInt ∧ l9.toInt ≤ 41) → 41 - l9.toInt < (n : Int) → Tot (g_X10_addProduct_b62 k17 n T l0 l1 l2 l3 l4 l5 l6 l7 l9) Q := by
  have z0 : (0 : Int32).toInt = 0 := by decide
  have z1 : (1 : Int32).toInt = 1 := by decide
  have z2 : (2 : Int32).toInt = 2 := by decide
  have z40 : (40 : Int32).toInt = 40 := by decide
  have zi : (Int32.ofInt (1) : Int32).toInt = 1 := by decide
  have zm : (Int32.ofInt (-1) : Int32).toInt = -1 := by decide
  intro n
  induction n with
  | zero =>
    intro l7 l9 g9 hm
    have u2 := w_used h_T k_l2 w_l2
    have u4 := w_used h_T k_l4 w_l4
    exfalso
    omega
  | succ n ih =>
    intro l7 l9 g9 hm
    have u2 := w_used h_T k_l2 w_l2
    have u4 := w_used h_T k_l4 w_l4
    unfold g_X10_addProduct_b62
    refine tot_if (fun c_169 => ?_) (fun c_169 => ?_)
    · replace c_169 := i_lt c_169
      exact hx l7
    · replace c_169 := i_nlt c_169
      refine tot_oif (w_oO h_T k_l2 w_l2) ?_
      refine tot_let (fun v_158 e_v_158 => ?_)
      have q_v_158 := i_eq e_v_158
      have r_v_158 := w_used h_T k_l2 w_l2
      refine tot_if (fun c_170 => ?_) (fun c_170 => ?_)
      · replace c_170 := i_le c_170
        exact hx l7
      · replace c_170 := i_nle c_170
        refine tw_q h_T k_l2 w_l2 (fun n_159 k_n_159 e_n_159 => ?_)
        refine tw_p h_T k_n_159 w_l2 (by omega) ?_
        refine tw_r (p := l9) h_T k_l2 w_l2 e_n_159 (by omega) (fun n_160 s_n_160 x_n_160 l_n_160 => ?_)
        refine tw_i s_n_160 (isW_f w_l2).2.2.2.1.2 l_n_160 (by omega) ?_
        refine tot_let (fun v_161 e_v_161 => ?_)
        refine tw_q h_T k_l4 w_l4 (fun n_162 k_n_162 e_n_162 => ?_)
        refine tot_let (fun v_163 e_v_163 => ?_)
        have q_v_163 := i_sub e_v_163 (by omega) (by omega)
        refine tw_p h_T k_n_162 w_l4 (by omega) ?_
        refine tw_r (p := v_163) h_T k_l4 w_l4 e_n_162 (by omega) (fun n_164 s_n_164 x_n_164 l_n_164 => ?_)
        refine tw_i s_n_164 (isW_f w_l4).2.2.2.1.2 l_n_164 (by omega) ?_
        refine tot_let (fun v_165 e_v_165 => ?_)
        refine tot_let (fun v_166 e_v_166 => ?_)
        refine tot_let (fun v_167 e_v_167 => ?_)
        refine tot_let (fun v_168 e_v_168 => ?_)
        have q_v_168 := i_add e_v_168 (by omega) (by omega)
        exact ih v_167 v_168 (by omega) (by omega)
set_option maxHeartbeats 2000000 in
theorem c_addProduct_b17 {R : Nat → Nat} {B K1 K2 : Nat} {l1 l3 l5 : Int32} {l0 r_l0 : Nat} (k_l0 : R l0 = r_l0) (w_l0 : isW r_l0 = true) {l2 r_l2 : Nat} (k_l2 : R l2 = r_l2) (w_l2 : isW r_l2 = true) {l4 r_l4 : Nat} (k_l4 : R l4 = r_l4) (w_l4 : isW r_l4 = true) (g1 : (0 ≤ l1.toInt ∧ l1.toInt < cnt r_l0)) (g3 : (0 ≤ l3.toInt ∧ l3.toInt < cnt r_l2)) (g5 : (0 ≤ l5.toInt ∧ l5.toInt < cnt r_l4)) (T0 : AT) : ∀ (n : Nat) (T : AT) (l6 : Int32), IV R B K1 K2 T → WX l0 T0 T → (0 ≤ l6.toInt ∧ l6.toInt ≤ 40) → 40 - l6.toInt < (n : Int) → Tot (g_X10_addProduct_b17 n T l0 l1 l2 l3 l4 l5 l6) (fun T1 => IV R B K1 K2 T1 ∧ WX l0 T0 T1) := by
  have z0 : (0 : Int32).toInt = 0 := by decide
  have z1 : (1 : Int32).toInt = 1 := by decide
  have z2 : (2 : Int32).toInt = 2 := by decide
  have z40 : (40 : Int32).toInt = 40 := by decide
  have zi : (Int32.ofInt (1) : Int32).toInt = 1 := by decide
  have zm : (Int32.ofInt (-1) : Int32).toInt = -1 := by decide
  intro n
  induction n with
  | zero =>
    intro T l6 h_T w_T g6 hm
    have u4_T := w_used h_T k_l4 w_l4
    exfalso
    omega
  | succ n ih =>
    intro T l6 h_T w_T g6 hm
    have u4_T := w_used h_T k_l4 w_l4
    unfold g_X10_addProduct_b17
    refine tot_oif (w_oO h_T k_l0 w_l0) ?_
    refine tot_let (fun v_171 e_v_171 => ?_)
    have q_v_171 := i_eq e_v_171
    have r_v_171 := w_used h_T k_l0 w_l0
    refine tot_if (fun c_180 => ?_) (fun c_180 => ?_)
    · replace c_180 := i_le c_180
      unfold g_X10_addProduct_b133
      refine tot_oif (w_oO h_T k_l0 w_l0) ?_
      refine tot_bind (c_settle (a0 := l1) k_l0 w_l0 h_T (by omega)) (fun T_181 d_T_181 => ?_)
      have h_T_181 : IV R B K1 K2 T_181 := d_T_181.1
      have w_T_181 := w_T.tr d_T_181.2
      unfold g_X10_addProduct_b138
      exact tot_some ⟨h_T_181, w_T_181⟩
    · replace c_180 := i_nle c_180
      refine tot_oif (w_oO h_T k_l2 w_l2) ?_
      refine tot_let (fun v_172 e_v_172 => ?_)
      have q_v_172 := i_eq e_v_172
      have r_v_172 := w_used h_T k_l2 w_l2
      refine tot_oif (w_oO h_T k_l4 w_l4) ?_
      refine tot_let (fun v_173 e_v_173 => ?_)
      have q_v_173 := i_eq e_v_173
      have r_v_173 := w_used h_T k_l4 w_l4
      refine tot_let (fun v_174 e_v_174 => ?_)
      have q_v_174 := i_add e_v_174 (by omega) (by omega)
      refine tot_let (fun v_175 e_v_175 => ?_)
      have q_v_175 := i_sub e_v_175 (by omega) (by omega)
      refine tot_if (fun c_182 => ?_) (fun c_182 => ?_)
      · replace c_182 := i_le c_182
        unfold g_X10_addProduct_b133
        refine tot_oif (w_oO h_T k_l0 w_l0) ?_
        refine tot_bind (c_settle (a0 := l1) k_l0 w_l0 h_T (by omega)) (fun T_183 d_T_183 => ?_)
        have h_T_183 : IV R B K1 K2 T_183 := d_T_183.1
        have w_T_183 := w_T.tr d_T_183.2
        unfold g_X10_addProduct_b138
        exact tot_some ⟨h_T_183, w_T_183⟩
      · replace c_182 := i_nle c_182
        refine tot_oif (w_oO h_T k_l4 w_l4) ?_
        refine tot_let (fun v_176 e_v_176 => ?_)
        have q_v_176 := i_eq e_v_176
        have r_v_176 := w_used h_T k_l4 w_l4
        refine tot_let (fun v_177 e_v_177 => ?_)
        have q_v_177 := i_sub e_v_177 (by omega) (by omega)
        refine tot_let (fun v_178 e_v_178 => ?_)
        have q_v_178 := i_add e_v_178 (by omega) (by omega)
        refine tot_let (fun v_179 e_v_179 => ?_)
        have q_v_179 := i_ilt e_v_179
        refine c_addProduct_b62 k_l0 w_l0 k_l2 w_l2 k_l4 w_l4 h_T g3 g5 (by omega) (fun s_ => ?_) 16384 _ v_179 (by omega) (by omega)
        unfold g_X10_addProduct_b113
        refine tw_q h_T k_l0 w_l0 (fun n_184 k_n_184 e_n_184 => ?_)
        refine tw_p h_T k_n_184 w_l0 (by omega) ?_
        refine tw_r (p := l6) h_T k_l0 w_l0 e_n_184 (by omega) (fun n_185 s_n_185 x_n_185 l_n_185 => ?_)
        refine tw_i s_n_185 (isW_f w_l0).2.2.2.1.2 l_n_185 (by omega) ?_
        refine tot_let (fun v_186 e_v_186 => ?_)
        refine tot_let (fun v_187 e_v_187 => ?_)
        refine tw_i s_n_185 (isW_f w_l0).2.2.2.1.2 l_n_185 (by omega) ?_
        refine tot_let (fun T_188 e_T_188 => ?_)
        have h_T_188 : IV R B K1 K2 T_188 := by rw [e_T_188]; exact iv_uJ h_T _ _ _
        have t_T_188 : T_188.2.2.1 = T.2.2.1 := by rw [e_T_188]; rfl
        have w_T_188 := w_T.tr (WX.of (o := l0) t_T_188)
        have u_T_188_l0 : (T_188.2.2.1 l0 2).toInt = (T.2.2.1 l0 2).toInt := by rw [t_T_188]
        have u_T_188_l2 : (T_188.2.2.1 l2 2).toInt = (T.2.2.1 l2 2).toInt := by rw [t_T_188]
        have u_T_188_l4 : (T_188.2.2.1 l4 2).toInt = (T.2.2.1 l4 2).toInt := by rw [t_T_188]
        refine tot_let (fun v_189 e_v_189 => ?_)
        have q_v_189 := i_add e_v_189 (by omega) (by omega)
        exact ih T_188 v_189 h_T_188 w_T_188 (by omega) (by omega)
set_option maxHeartbeats 2000000 in
theorem c_addProduct {R : Nat → Nat} {B K1 K2 : Nat} {T : AT} {a0 a2 a4 : Int32} {o r_o : Nat} (k_o : R o = r_o) (w_o : isW r_o = true) {a1 r_a1 : Nat} (k_a1 : R a1 = r_a1) (w_a1 : isW r_a1 = true) {a3 r_a3 : Nat} (k_a3 : R a3 = r_a3) (w_a3 : isW r_a3 = true) (h_T : IV R B K1 K2 T) (g0 : (0 ≤ a0.toInt ∧ a0.toInt < cnt r_o)) (g2 : (0 ≤ a2.toInt ∧ a2.toInt < cnt r_a1)) (g4 : (0 ≤ a4.toInt ∧ a4.toInt < cnt r_a3)) : Tot (g_X10_addProduct T o a0 a1 a2 a3 a4) (fun T1 => IV R B K1 K2 T1 ∧ WX o T T1) := by
  have z0 : (0 : Int32).toInt = 0 := by decide
  have z1 : (1 : Int32).toInt = 1 := by decide
  have z2 : (2 : Int32).toInt = 2 := by decide
  have z40 : (40 : Int32).toInt = 40 := by decide
  have zi : (Int32.ofInt (1) : Int32).toInt = 1 := by decide
  have zm : (Int32.ofInt (-1) : Int32).toInt = -1 := by decide
  have w_T : WX o T T := WX.rf
  unfold g_X10_addProduct
  refine tot_oif (w_oO h_T k_a1 w_a1) ?_
  refine tot_let (fun v_190 e_v_190 => ?_)
  have q_v_190 := i_eq e_v_190
  have r_v_190 := w_used h_T k_a1 w_a1
  refine tot_oif (w_oO h_T k_a3 w_a3) ?_
  refine tot_let (fun v_191 e_v_191 => ?_)
  have q_v_191 := i_eq e_v_191
  have r_v_191 := w_used h_T k_a3 w_a3
  refine tot_let (fun v_192 e_v_192 => ?_)
  have q_v_192 := i_add e_v_192 (by omega) (by omega)
  refine tot_oif (w_oO h_T k_o w_o) ?_
  refine tot_bind (c_widenTo (a0 := v_192) k_o w_o h_T) (fun T_193 d_T_193 => ?_)
  have h_T_193 : IV R B K1 K2 T_193 := d_T_193.1
  have x_T_193 : WX o T T_193 := d_T_193.2.1
  have v_T_193 : v_192.toInt ≤ (T_193.2.2.1 o 2).toInt ∨ 40 ≤ (T_193.2.2.1 o 2).toInt := d_T_193.2.2
  have w_T_193 := w_T.tr x_T_193
  unfold g_X10_addProduct_b14
  exact c_addProduct_b17 k_o w_o k_a1 w_a1 k_a3 w_a3 g0 g2 g4 T 16384 T_193 0 h_T_193 w_T_193 (by omega) (by omega)
set_option maxHeartbeats 2000000 in
theorem c_ranked_b13 {R : Nat → Nat} {B K1 K2 : Nat} {Q : Int32 × AT → Prop} {k2 : AT → Nat → Int32 → Int32 → Int32 → Option (Int32 × AT)} {T : AT} {l1 l2 l3 : Int32} {l0 r_l0 : Nat} (k_l0 : R l0 = r_l0) (w_l0 : isW r_l0 = true) (h_T : IV R B K1 K2 T) (g1 : l1.toInt ≤ cnt r_l0) (g3 : 0 ≤ l3.toInt ∧ l3.toInt < l1.toInt) (hs : Tot (some (l3, T)) Q) (hk : ∀ v : Int32, v.toInt = l3.toInt + 1 → Tot (k2 T l0 l1 l2 v) Q) : ∀ (n : Nat) (l4 l5 : Int32), (0 ≤ l5.toInt ∧ l5.toInt ≤ l1.toInt ∧ 0 ≤ l4.toInt ∧ l4.toInt ≤ l5.toInt) → 7200 - l5.toInt < (n : Int) → Tot (g_X10_ranked_b13 k2 n T l0 l1 l2 l3 l4 l5) Q := by
  have z0 : (0 : Int32).toInt = 0 := by decide
  have z1 : (1 : Int32).toInt = 1 := by decide
  have z2 : (2 : Int32).toInt = 2 := by decide
  have z40 : (40 : Int32).toInt = 40 := by decide
  have zi : (Int32.ofInt (1) : Int32).toInt = 1 := by decide
  have zm : (Int32.ofInt (-1) : Int32).toInt = -1 := by decide
  intro n
  induction n with
  | zero =>
    intro l4 l5 g5 hm
    have c7 := (isW_f w_l0).2.2.2.1
    exfalso
    omega
  | succ n ih =>
    intro l4 l5 g5 hm
    have c7 := (isW_f w_l0).2.2.2.1
    unfold g_X10_ranked_b13
    refine tot_if (fun c_197 => ?_) (fun c_197 => ?_)
    · replace c_197 := i_le c_197
      refine tot_if (fun c_198 => ?_) (fun c_198 => ?_)
      · replace c_198 := i_eq c_198
        exact hs
      · replace c_198 := i_ne c_198
        refine tot_let (fun v_194 e_v_194 => ?_)
        have q_v_194 := i_add e_v_194 (by omega) (by omega)
        exact hk v_194 (by omega)
    · replace c_197 := i_nle c_197
      refine tot_oif (w_oO h_T k_l0 w_l0) ?_
      refine tot_bindq (R := fun r_ : Int32 => True) (c_compare (a0 := l5) (a1 := l3) k_l0 w_l0 h_T (by omega) (by omega)) (fun r_195 _ => ?_)
      refine tot_if (fun c_199 => ?_) (fun c_199 => ?_)
      · replace c_199 := i_lt c_199
        unfold g_X10_ranked_b44
        refine tot_let (fun v_200 e_v_200 => ?_)
        have q_v_200 := i_add e_v_200 (by omega) (by omega)
        unfold g_X10_ranked_b47
        refine tot_let (fun v_201 e_v_201 => ?_)
        have q_v_201 := i_add e_v_201 (by omega) (by omega)
        exact ih v_200 v_201 (by omega) (by omega)
      · replace c_199 := i_nlt c_199
        refine tot_if (fun c_202 => ?_) (fun c_202 => ?_)
        · replace c_202 := i_eq c_202
          refine tot_if (fun c_203 => ?_) (fun c_203 => ?_)
          · replace c_203 := i_le c_203
            unfold g_X10_ranked_b47
            refine tot_let (fun v_204 e_v_204 => ?_)
            have q_v_204 := i_add e_v_204 (by omega) (by omega)
            exact ih l4 v_204 (by omega) (by omega)
          · replace c_203 := i_nle c_203
            unfold g_X10_ranked_b44
            refine tot_let (fun v_205 e_v_205 => ?_)
            have q_v_205 := i_add e_v_205 (by omega) (by omega)
            unfold g_X10_ranked_b47
            refine tot_let (fun v_206 e_v_206 => ?_)
            have q_v_206 := i_add e_v_206 (by omega) (by omega)
            exact ih v_205 v_206 (by omega) (by omega)
        · replace c_202 := i_ne c_202
          unfold g_X10_ranked_b47
          refine tot_let (fun v_207 e_v_207 => ?_)
          have q_v_207 := i_add e_v_207 (by omega) (by omega)
          exact ih l4 v_207 (by omega) (by omega)
theorem c_ranked_b2 {R : Nat → Nat} {B K1 K2 : Nat} {T : AT} {l1 l2 : Int32} {l0 r_l0 : Nat} (k_l0 : R l0 = r_l0) (w_l0 : isW r_l0 = true) (h_T : IV R B K1 K2 T) (g1 : 0 ≤ l1.toInt ∧ l1.toInt ≤ cnt r_l0) : ∀ (n : Nat) (l3 : Int32), (0 ≤ l3.toInt ∧ l3.toInt ≤ l1.toInt) → 7200 - l3.toInt < (n : Int) → Tot (g_X10_ranked_b2 n T l0 l1 l2 l3) (fun r => r.2 = T ∧ (r.1.toInt = -1 ∨ 0 ≤ r.1.toInt ∧ r.1.toInt < l1.toInt)) := by
  have z0 : (0 : Int32).toInt = 0 := by decide
  have z1 : (1 : Int32).toInt = 1 := by decide
  have z2 : (2 : Int32).toInt = 2 := by decide
  have z40 : (40 : Int32).toInt = 40 := by decide
  have zi : (Int32.ofInt (1) : Int32).toInt = 1 := by decide
  have zm : (Int32.ofInt (-1) : Int32).toInt = -1 := by decide
  have c7 := (isW_f w_l0).2.2.2.1
  have zn : (-1 : Int32).toInt = -1 := by decide
  intro n
  induction n with
  | zero =>
    intro l3 g3 hm
    exfalso
    omega
  | succ n ih =>
    intro l3 g3 hm
    unfold g_X10_ranked_b2
    refine tot_if (fun c => ?_) (fun c => ?_)
    · exact tot_some ⟨rfl, .inl zn⟩
    · replace c := i_nle c
      exact c_ranked_b13 k_l0 w_l0 h_T (by omega) (by omega) (tot_some ⟨rfl, .inr (by show 0 ≤ l3.toInt ∧ l3.toInt < l1.toInt; omega)⟩) (fun v hv => ih v (by omega) (by omega)) 16384 0 0 (by omega) (by omega)
theorem c_ranked {R : Nat → Nat} {B K1 K2 : Nat} {T : AT} {a0 a1 : Int32} {o r_o : Nat} (k_o : R o = r_o) (w_o : isW r_o = true) (h_T : IV R B K1 K2 T) (g0 : 0 ≤ a0.toInt ∧ a0.toInt ≤ cnt r_o) : Tot (g_X10_ranked T o a0 a1) (fun r => r.2 = T ∧ (r.1.toInt = -1 ∨ 0 ≤ r.1.toInt ∧ r.1.toInt < a0.toInt)) := by
  have z0 : (0 : Int32).toInt = 0 := by decide
  have z1 : (1 : Int32).toInt = 1 := by decide
  have z2 : (2 : Int32).toInt = 2 := by decide
  have z40 : (40 : Int32).toInt = 40 := by decide
  have zi : (Int32.ofInt (1) : Int32).toInt = 1 := by decide
  have zm : (Int32.ofInt (-1) : Int32).toInt = -1 := by decide
  have c7 := (isW_f w_o).2.2.2.1
  unfold g_X10_ranked
  exact c_ranked_b2 k_o w_o h_T g0 16384 0 (by omega) (by omega)
def WY (o : Nat) (T T1 : AT) : Prop := ∀ m k, m ≠ o ∨ k ≠ 2 → T1.2.2.1 m k = T.2.2.1 m k
set_option maxHeartbeats 2000000 in
theorem c_copyFrom_b18 {R : Nat → Nat} {B K1 K2 : Nat} {l0 r_l0 : Nat} (k_l0 : R l0 = r_l0) (w_l0 : isW r_l0 = true) {l1 r_l1 : Nat} (k_l1 : R l1 = r_l1) (w_l1 : isW r_l1 = true) (T0 : AT) : ∀ (n : Nat) (T : AT) (l2 : Int32), IV R B K1 K2 T → WY l0 T0 T → (T.2.2.1 l0 2).toInt ≤ (T.2.2.1 l1 2).toInt → (0 ≤ l2.toInt ∧ l2.toInt ≤ 40) → 40 - l2.toInt < (n : Int) → Tot (g_X10_copyFrom_b18 n T l0 l1 l2) (fun T1 => IV R B K1 K2 T1 ∧ WY l0 T0 T1) := by
  have z0 : (0 : Int32).toInt = 0 := by decide
  have z1 : (1 : Int32).toInt = 1 := by decide
  have z2 : (2 : Int32).toInt = 2 := by decide
  have z40 : (40 : Int32).toInt = 40 := by decide
  have zi : (Int32.ofInt (1) : Int32).toInt = 1 := by decide
  have zm : (Int32.ofInt (-1) : Int32).toInt = -1 := by decide
  have c70 := (isW_f w_l0).2.2.2.1
  have c71 := (isW_f w_l1).2.2.2.1
  intro n
  induction n with
  | zero =>
    intro T l2 h_T w_T hu g2 hm
    exfalso
    omega
  | succ n ih =>
    intro T l2 h_T w_T hu g2 hm
    unfold g_X10_copyFrom_b18
    refine tot_oif (w_oO h_T k_l0 w_l0) ?_
    refine tot_let (fun v3 e3 => ?_)
    have q3 := i_eq e3
    have u0 := w_used h_T k_l0 w_l0
    refine tot_if (fun c => tot_some ⟨h_T, w_T⟩) (fun c => ?_)
    replace c := i_nle c
    refine tw_q h_T k_l1 w_l1 (fun n6 k_n6 e_n6 => ?_)
    refine tw_p h_T k_n6 w_l1 (by omega) ?_
    refine tw_r (p := l2) h_T k_l1 w_l1 e_n6 (by omega) (fun n9 s_n9 x_n9 l_n9 => ?_)
    refine tw_q h_T k_l0 w_l0 (fun n11 k_n11 e_n11 => ?_)
    refine tw_p h_T k_n11 w_l0 (by omega) ?_
    refine tw_r (p := l2) h_T k_l0 w_l0 e_n11 (by omega) (fun n14 s_n14 x_n14 l_n14 => ?_)
    refine tot_oif (w_oO h_T k_l0 w_l0) ?_
    refine tot_let (fun v16 e16 => ?_)
    have q16 := i_eq e16
    have r16 := w_cnt h_T k_l0 w_l0
    refine tot_oif (w_oO h_T k_l1 w_l1) ?_
    refine tot_let (fun v18 e18 => ?_)
    have q18 := i_eq e18
    have r18 := w_cnt h_T k_l1 w_l1
    refine tot_let (fun v19 e19 => ?_)
    have q19 := i_ilt e19
    have aa : ∀ (x c : Nat), T.2.1 x = (101, c) → c ≤ 7200 → x < T.1 → aA T x 101 = true := fun x c s hc hl => by
      unfold aA
      rw [s, show Nat.blt x T.1 = true from Nat.ble_eq_true_of_le hl]
      show (true && (decide (101 = 101) && Nat.blt c (2 ^ 31))) = true
      rw [decide_eq_true rfl, show Nat.blt c (2 ^ 31) = true from Nat.ble_eq_true_of_le (by omega)]
      rfl
    refine tot_oif (aa n9 _ s_n9 c71.2 l_n9) (tot_oif (aa n14 _ s_n14 c70.2 l_n14) (tot_oif ?_ ?_))
    · have x19 := i_cl (i := v19) (by omega)
      rw [s_n9, s_n14]
      exact ⟨Int32.le_iff_toInt_le.mpr (by omega), by show v19.toNatClampNeg ≤ cnt r_l1; omega, by show v19.toNatClampNeg ≤ cnt r_l0; omega⟩
    · refine tot_let (fun T23 e23 => ?_)
      have h_T23 : IV R B K1 K2 T23 := by rw [e23]; exact iv_uC h_T _ _ _
      have t_T23 : T23.2.2.1 = T.2.2.1 := by rw [e23]; rfl
      refine tot_let (fun v24 e24 => ?_)
      have q24 := i_add e24 (by omega) (by omega)
      exact ih T23 v24 h_T23 (fun m k hk => by rw [t_T23]; exact w_T m k hk) (by rw [t_T23]; exact hu) (by omega) (by omega)
theorem c_copyFrom {R : Nat → Nat} {B K1 K2 : Nat} {T : AT} {o r_o : Nat} (k_o : R o = r_o) (w_o : isW r_o = true) {a0 r_a0 : Nat} (k_a0 : R a0 = r_a0) (w_a0 : isW r_a0 = true) (h_T : IV R B K1 K2 T) : Tot (g_X10_copyFrom T o a0) (fun T1 => IV R B K1 K2 T1 ∧ WY o T T1) := by
  have z0 : (0 : Int32).toInt = 0 := by decide
  have z1 : (1 : Int32).toInt = 1 := by decide
  have z2 : (2 : Int32).toInt = 2 := by decide
  have z40 : (40 : Int32).toInt = 40 := by decide
  have zi : (Int32.ofInt (1) : Int32).toInt = 1 := by decide
  have zm : (Int32.ofInt (-1) : Int32).toInt = -1 := by decide
  unfold g_X10_copyFrom
  refine tot_oif (w_oO h_T k_a0 w_a0) ?_
  refine tot_let (fun v3 e3 => ?_)
  have q3 := i_eq e3
  have u3 := w_used h_T k_a0 w_a0
  refine tot_oif (w_oO h_T k_o w_o) ?_
  refine tot_bind (c_widenTo (a0 := v3) k_o w_o h_T) (fun T5 d5 => ?_)
  have h5 := d5.1
  have le := wx_le d5.2.1 q3 d5.2.2 (by omega)
  unfold g_X10_copyFrom_b8
  refine tot_oif (w_oO h5 k_a0 w_a0) ?_
  refine tot_let (fun v6 e6 => ?_)
  have q6 := i_eq e6
  have u6 := w_used h5 k_a0 w_a0
  refine tot_oif (w_oO h5 k_o w_o) ?_
  refine tot_let (fun T7 e7 => ?_)
  have key : ∀ m j, T7.2.2.1 m j = if m = o ∧ j = 2 then v6 else T5.2.2.1 m j := fun m j => by
    rw [e7]
    show va_up T5.2.2.1 o (upd (T5.2.2.1 o) 2 v6) m j = _
    by_cases e : m = o
    · subst e
      rw [va_up_self]
      unfold upd
      by_cases e2 : j = 2
      · rw [if_pos e2, if_pos ⟨rfl, e2⟩]
      · rw [if_neg e2, if_neg (fun q => e2 q.2)]
    · rw [va_up_ne _ _ e, if_neg (fun q => e q.1)]
  have w := isW_f w_o
  have h7 : IV R B K1 K2 T7 := by
    rw [e7]
    refine iv_used h5 k_o w_o (by omega) (fun q hq p hp => ?_)
    obtain ⟨x, x1, x2⟩ := h5.2.2.2.2.1 o (iv_sta h5 k_o w.1.1.1 w.1.1.2) (by rw [k_o]; exact w_o) q hq p (by omega)
    exact ⟨x, x1, by rw [← k_o]; exact x2⟩
  refine c_copyFrom_b18 k_o w_o k_a0 w_a0 T 16384 T7 0 h7 (fun m k hk => ?_) ?_ (by omega) (by omega)
  · rw [key, if_neg (fun q => by rcases hk with hk | hk; exact hk q.1; exact hk q.2)]
    exact d5.2.1.1 m k hk
  · rw [key, key, if_pos ⟨rfl, rfl⟩]
    by_cases e : a0 = o
    · rw [if_pos ⟨e, rfl⟩]; exact Int.le_refl _
    · rw [if_neg (fun q => e q.1)]; omega
theorem fp_bits (a : UInt32) : a &&& 0x7fffffff ≤ 0x7f800000 ↔ FP.Core.val32 a ≠ .nan := by
  rw [FP.Core.ne_nan32, UInt32.le_iff_toNat_le, UInt32.toNat_and]
  have h3 : (0x7fffffff : UInt32).toNat = 2 ^ 31 - 1 := by decide
  have h4 : (0x7f800000 : UInt32).toNat = 2139095040 := by decide
  rw [h3, h4, Nat.and_two_pow_sub_one_eq_mod]
theorem fp_mul (a : UInt32) (h : a &&& 0x7fffffff ≤ 0x7f800000) : FP.fmul a (1300234240 : UInt32) &&& 0x7fffffff ≤ 0x7f800000 := by
  rw [fp_bits] at h ⊢
  show FP.Core.val32 (FP.Core.fmul a 1300234240) ≠ .nan
  rw [FP.Core.val32_fmul]
  have c : ∃ d q, FP.Core.val32 (1300234240 : UInt32) = .fin false (d + 1) q := ⟨8388607, 5, by decide⟩
  obtain ⟨d, q, c⟩ := c
  rw [c]
  cases e : FP.Core.val32 a with
  | nan => exact absurd e h
  | inf s => exact fun z => by cases z
  | fin s k r => exact FP.Core.roundRatio_ne_nan _ _ _ _ _
theorem c_leading_b73 {T : AT} (l3 l5 : Int64) : Tot (g_X10_leading_b73 T l3 l5) (fun r => r.2 = T ∧ ∃ x : Int64, r.1 = FP.l2f x) := by
  have h : ∀ v : Int64, Tot (g_X10_leading_b88 T v) (fun r => r.2 = T ∧ ∃ x : Int64, r.1 = FP.l2f x) := fun v => by
    unfold g_X10_leading_b88
    exact tot_let fun w e => tot_some ⟨rfl, v, e⟩
  unfold g_X10_leading_b73
  exact tot_let fun _ _ => tot_if (fun _ => h _) (fun _ => tot_let fun _ _ => h _)
set_option maxHeartbeats 2000000 in
theorem c_leading_b11 {R : Nat → Nat} {B K1 K2 : Nat} {T : AT} {l1 l2 : Int32} {l0 r_l0 : Nat} (k_l0 : R l0 = r_l0) (w_l0 : isW r_l0 = true) (h_T : IV R B K1 K2 T) (g1 : (0 ≤ l1.toInt ∧ l1.toInt < cnt r_l0)) (g2 : 0 ≤ l2.toInt ∧ l2.toInt < (T.2.2.1 l0 2).toInt) : ∀ (n : Nat) (l3 : Int64) (l5 : Int32), (0 ≤ l5.toInt ∧ l5.toInt ≤ 40) → 40 - l5.toInt < (n : Int) → Tot (g_X10_leading_b11 n T l0 l1 l2 l3 l5) (fun r => r.2 = T ∧ ∃ x : Int64, r.1 = FP.l2f x) := by
  have z0 : (0 : Int32).toInt = 0 := by decide
  have z1 : (1 : Int32).toInt = 1 := by decide
  have z2 : (2 : Int32).toInt = 2 := by decide
  have z40 : (40 : Int32).toInt = 40 := by decide
  have zi : (Int32.ofInt (1) : Int32).toInt = 1 := by decide
  have zm : (Int32.ofInt (-1) : Int32).toInt = -1 := by decide
  intro n
  induction n with
  | zero =>
    intro l3 l5 g5 hm
    have u_T := w_used h_T k_l0 w_l0
    exfalso
    omega
  | succ n ih =>
    intro l3 l5 g5 hm
    have u_T := w_used h_T k_l0 w_l0
    unfold g_X10_leading_b11
    refine tot_if (fun c_224 => ?_) (fun c_224 => ?_)
    · replace c_224 := i_le c_224
      refine tw_q h_T k_l0 w_l0 (fun n_208 k_n_208 e_n_208 => ?_)
      refine tw_p h_T k_n_208 w_l0 (by omega) ?_
      refine tw_r (p := l2) h_T k_l0 w_l0 e_n_208 (by omega) (fun n_209 s_n_209 x_n_209 l_n_209 => ?_)
      refine tw_i s_n_209 (isW_f w_l0).2.2.2.1.2 l_n_209 (by omega) ?_
      refine tot_let (fun v_210 e_v_210 => ?_)
      refine tot_let (fun v_211 e_v_211 => ?_)
      have q_v_211 := i_add e_v_211 (by omega) (by omega)
      refine tot_oif (w_oO h_T k_l0 w_l0) ?_
      refine tot_let (fun v_212 e_v_212 => ?_)
      have q_v_212 := i_eq e_v_212
      have r_v_212 := w_used h_T k_l0 w_l0
      refine tot_if (fun c_225 => ?_) (fun c_225 => ?_)
      · replace c_225 := i_le c_225
        exact c_leading_b73 l3 v_210
      · replace c_225 := i_nle c_225
        refine tw_q h_T k_l0 w_l0 (fun n_213 k_n_213 e_n_213 => ?_)
        refine tot_let (fun v_214 e_v_214 => ?_)
        have q_v_214 := i_add e_v_214 (by omega) (by omega)
        refine tw_p h_T k_n_213 w_l0 (by omega) ?_
        refine tw_r (p := v_214) h_T k_l0 w_l0 e_n_213 (by omega) (fun n_215 s_n_215 x_n_215 l_n_215 => ?_)
        refine tw_i s_n_215 (isW_f w_l0).2.2.2.1.2 l_n_215 (by omega) ?_
        refine tot_let (fun v_216 e_v_216 => ?_)
        refine tot_let (fun v_217 e_v_217 => ?_)
        refine tot_let (fun v_218 e_v_218 => ?_)
        exact c_leading_b73 l3 v_218
    · replace c_224 := i_nle c_224
      refine tw_q h_T k_l0 w_l0 (fun n_219 k_n_219 e_n_219 => ?_)
      refine tw_p h_T k_n_219 w_l0 (by omega) ?_
      refine tw_r (p := l5) h_T k_l0 w_l0 e_n_219 (by omega) (fun n_220 s_n_220 x_n_220 l_n_220 => ?_)
      refine tw_i s_n_220 (isW_f w_l0).2.2.2.1.2 l_n_220 (by omega) ?_
      refine tot_let (fun v_221 e_v_221 => ?_)
      refine tot_let (fun v_222 e_v_222 => ?_)
      refine tot_let (fun v_223 e_v_223 => ?_)
      have q_v_223 := i_add e_v_223 (by omega) (by omega)
      exact ih v_222 v_223 (by omega) (by omega)
theorem c_leading {R : Nat → Nat} {B K1 K2 : Nat} {T : AT} {a0 : Int32} {o r_o : Nat} (k_o : R o = r_o) (w_o : isW r_o = true) (h_T : IV R B K1 K2 T) (g0 : (0 ≤ a0.toInt ∧ a0.toInt < cnt r_o)) : Tot (g_X10_leading T o a0) (fun r => r.2 = T ∧ ∃ x : Int64, r.1 = FP.l2f x) := by
  have z0 : (0 : Int32).toInt = 0 := by decide
  have z1 : (1 : Int32).toInt = 1 := by decide
  have z2 : (2 : Int32).toInt = 2 := by decide
  have z40 : (40 : Int32).toInt = 40 := by decide
  have zi : (Int32.ofInt (1) : Int32).toInt = 1 := by decide
  have zm : (Int32.ofInt (-1) : Int32).toInt = -1 := by decide
  unfold g_X10_leading
  refine tot_oif (w_oO h_T k_o w_o) ?_
  refine tot_bindq (R := fun r : Int32 => 0 ≤ r.toInt ∧ r.toInt < (T.2.2.1 o 2).toInt) (c_partsBelow k_o w_o h_T g0) (fun r5 d5 => ?_)
  exact c_leading_b11 k_o w_o h_T g0 d5 16384 0 0 (by omega) (by omega)
theorem c_ratio_b30 {R : Nat → Nat} {B K1 K2 : Nat} {T : AT} {l1 : Int32} {l0 r_l0 : Nat} (k_l0 : R l0 = r_l0) (w_l0 : isW r_l0 = true) (h_T : IV R B K1 K2 T) (g1 : (0 ≤ l1.toInt ∧ l1.toInt < cnt r_l0)) : ∀ (n : Nat) (l4 : UInt32) (l5 : Int32), l4 &&& 0x7fffffff ≤ 0x7f800000 → (0 ≤ l5.toInt ∧ l5.toInt ≤ 40) → 40 - l5.toInt < (n : Int) → Tot (g_X10_ratio_b30 n T l0 l1 l4 l5) (fun r => r.2 = T ∧ True) := by
  have z0 : (0 : Int32).toInt = 0 := by decide
  have z1 : (1 : Int32).toInt = 1 := by decide
  have z2 : (2 : Int32).toInt = 2 := by decide
  have z40 : (40 : Int32).toInt = 40 := by decide
  have zi : (Int32.ofInt (1) : Int32).toInt = 1 := by decide
  have zm : (Int32.ofInt (-1) : Int32).toInt = -1 := by decide
  have u := w_used h_T k_l0 w_l0
  intro n
  induction n with
  | zero =>
    intro l4 l5 h4 g5 hm
    exfalso
    omega
  | succ n ih =>
    intro l4 l5 h4 g5 hm
    unfold g_X10_ratio_b30
    refine tot_oif (w_oO h_T k_l0 w_l0) ?_
    refine tot_bindq (R := fun r : Int32 => 0 ≤ r.toInt ∧ r.toInt < (T.2.2.1 l0 2).toInt) (c_partsBelow k_l0 w_l0 h_T g1) (fun r5 d5 => ?_)
    refine tot_if (fun c => tot_some ⟨rfl, trivial⟩) (fun c => ?_)
    replace c := i_nle c
    replace d5 : 0 ≤ r5.toInt ∧ r5.toInt < (T.2.2.1 l0 2).toInt := d5
    refine tot_oif (fp_mul l4 h4) ?_
    refine tot_let (fun v9 e9 => ?_)
    refine tot_let (fun v10 e10 => ?_)
    have q10 := i_add e10 (by omega) (by omega)
    exact ih v9 v10 (by rw [e9]; exact fp_mul l4 h4) (by omega) (by omega)
theorem c_ratio {R : Nat → Nat} {B K1 K2 : Nat} {T : AT} {a0 a1 : Int32} {o r_o : Nat} (k_o : R o = r_o) (w_o : isW r_o = true) (h_T : IV R B K1 K2 T) (g0 : (0 ≤ a0.toInt ∧ a0.toInt < cnt r_o)) (g1 : (0 ≤ a1.toInt ∧ a1.toInt < cnt r_o)) : Tot (g_X10_ratio T o a0 a1) (fun r => r.2 = T ∧ True) := by
  have z0 : (0 : Int32).toInt = 0 := by decide
  have z1 : (1 : Int32).toInt = 1 := by decide
  have z2 : (2 : Int32).toInt = 2 := by decide
  have z40 : (40 : Int32).toInt = 40 := by decide
  have zi : (Int32.ofInt (1) : Int32).toInt = 1 := by decide
  have zm : (Int32.ofInt (-1) : Int32).toInt = -1 := by decide
  have u := w_used h_T k_o w_o
  unfold g_X10_ratio
  refine tot_oif (w_oO h_T k_o w_o) ?_
  refine tot_bindq (R := fun r : UInt32 => ∃ x : Int64, r = FP.l2f x) (c_leading k_o w_o h_T g1) (fun r5 d5 => ?_)
  obtain ⟨y, ey⟩ := d5
  refine tot_let (fun v7 e7 => ?_)
  refine tot_if (fun c => tot_some ⟨rfl, trivial⟩) (fun c => ?_)
  have hy : ¬ y = 0 := fun z => c (by rw [e7, ey, z]; decide)
  refine tot_oif (w_oO h_T k_o w_o) ?_
  refine tot_bindq (R := fun r : UInt32 => ∃ x : Int64, r = FP.l2f x) (c_leading k_o w_o h_T g0) (fun r12 d12 => ?_)
  obtain ⟨x, ex⟩ := d12
  have hd : FP.fdiv r12 r5 &&& 0x7fffffff ≤ 0x7f800000 := by rw [ex, ey]; exact fp_ok x y hy
  refine tot_oif hd ?_
  refine tot_let (fun v15 e15 => ?_)
  refine tot_oif (w_oO h_T k_o w_o) ?_
  refine tot_bindq (R := fun r : Int32 => 0 ≤ r.toInt ∧ r.toInt < (T.2.2.1 o 2).toInt) (c_partsBelow k_o w_o h_T g1) (fun r19 d19 => ?_)
  replace d19 : 0 ≤ r19.toInt ∧ r19.toInt < (T.2.2.1 o 2).toInt := d19
  exact c_ratio_b30 k_o w_o h_T g0 16384 v15 r19 (by rw [e15]; exact hd) (by omega) (by omega)
