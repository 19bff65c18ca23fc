/-! Ground for the class's methods -/
theorem tot_thrp {α β : Type} {x : Option (Nat × α × AT)} {z : β} {f : α → AT → Option (Nat × β × AT)} {T : AT} {Q : α → Prop} {P : Nat × β × AT → Prop} (hx : Tot x (fun r => r.2.2 = T ∧ (r.1 = 0 → Q r.2.1))) (h : ∀ r, Q r → Tot (f r T) P) (ht : ∀ k, P (k + 1, z, T)) : Tot (othr x z f) P := by
  obtain ⟨⟨k, r, U⟩, e, e2, q⟩ := hx
  have e2 : U = T := e2
  subst e2
  rw [e]
  match k, q with
  | 0, q => exact h r (q rfl)
  | k + 1, q => exact ⟨_, rfl, ht k⟩
theorem tot_thri {α β : Type} {R : Nat → Nat} {B K1 K2 : Nat} {W : List Nat} {x : Option (Nat × α × AT)} {z : β} {f : α → AT → Option (Nat × β × AT)} {T : AT} {Q : α → Prop} {P : Nat × β × AT → Prop} (hx : Tot x (fun r => (IV R B K1 K2 r.2.2 ∧ FW R W T r.2.2) ∧ (r.1 = 0 → Q r.2.1))) (h : ∀ r U, IV R B K1 K2 U → FW R W T U → Q r → Tot (f r U) P) (ht : ∀ k U, IV R B K1 K2 U → FW R W T U → P (k + 1, z, U)) : Tot (othr x z f) P := by
  obtain ⟨⟨k, r, U⟩, e, ⟨i, y⟩, q⟩ := hx
  rw [e]
  match k, q with
  | 0, q => exact h r U i y (q rfl)
  | k + 1, q => exact ⟨_, rfl, ht k U i y⟩
theorem fw_wy {R : Nat → Nat} {W : List Nat} {T T1 : AT} {o r : Nat} (h : WY o T T1) (hr : R o = r) (hW : isW r = true) (c : W.contains 3202 = true) : FW R W T T1 := fun m j e => h m j (by
  by_cases a : m = o
  · refine .inr (fun b => ?_)
    rw [a, b, hr] at e
    unfold wc at e
    rw [hW] at e
    rw [show (bif true then 3200 + 2 else bif Nat.ble r 20 then 32 * r + 2 else 32 * r) = 3202 from rfl, c] at e
    cases e
  · exact .inl a)
theorem uI_at (T : AT) (n k : Nat) (v : Int32) : (uI T n k v).2.2.1 n k = v := by
  show va_up T.2.2.1 n (upd (T.2.2.1 n) k v) n k = v
  rw [va_up_self]
  unfold upd
  rw [if_pos rfl]
theorem i_kb {i : Int32} {n : Nat} (h0 : 0 ≤ i.toInt) (h : i.toInt < n) : Nat.blt i.toNatClampNeg n = true := Nat.ble_eq_true_of_le (by have := i_cl h0; omega)
theorem rt_45 {i : Int32} (h0 : 0 ≤ i.toInt) (h : i.toInt < 12) : rtg 45 i.toNatClampNeg = 46 := by unfold rtg; rw [i_kb (n := 12) h0 h]; rfl
theorem rt_47 {i : Int32} (h0 : 0 ≤ i.toInt) (h : i.toInt < 6) : rtg 47 i.toNatClampNeg = 8 := by unfold rtg; rw [i_kb (n := 6) h0 h]; rfl
theorem rt_48 {i : Int32} (h0 : 0 ≤ i.toInt) (h : i.toInt < 2) : rtg 48 i.toNatClampNeg = 8 := by unfold rtg; rw [i_kb (n := 2) h0 h]; rfl
theorem rt_51 {i : Int32} (h0 : 0 ≤ i.toInt) (h : i.toInt < 144) : rtg 51 i.toNatClampNeg = 50 := by unfold rtg; rw [i_kb (n := 144) h0 h]; rfl
theorem rt_53 {i : Int32} (h0 : 0 ≤ i.toInt) (h : i.toInt < 12) : rtg 53 i.toNatClampNeg = 2 := by unfold rtg; rw [i_kb (n := 12) h0 h]; rfl
theorem rt_54 {i : Int32} (h0 : 0 ≤ i.toInt) (h : i.toInt < 6) : rtg 54 i.toNatClampNeg = 7 := by unfold rtg; rw [i_kb (n := 6) h0 h]; rfl
theorem rt_60 {i : Int32} (h0 : 0 ≤ i.toInt) (h : i.toInt < 4) : rtg 60 i.toNatClampNeg = 59 := by unfold rtg; rw [i_kb (n := 4) h0 h]; rfl
theorem q64 {x : Int32} {y : Int32} (hx : 0 ≤ x.toInt) (hy : 0 ≤ y.toInt) : (x.toInt64 / y.toInt64).toInt32.toInt = x.toInt / y.toInt := by
  have x2 := Int32.toInt_lt x
  have b0 := Int.ediv_nonneg hx hy
  have b1 := Int.ediv_le_self y.toInt hx
  rw [Int64.toInt_toInt32, Int64.toInt_div, Int32.toInt_toInt64, Int32.toInt_toInt64, Int.tdiv_eq_ediv_of_nonneg hx, bm64 (by omega) (by omega), bm32 (by omega) (by omega)]
theorem cs_X11_quotient2 (a0 a1 : Int64) : Tot (g_X11_quotient a0 a1) (fun r => ∀ x y : Int32, a0 = x.toInt64 → a1 = y.toInt64 → 0 ≤ x.toInt → 0 ≤ y.toInt → r.toInt32.toInt = x.toInt / y.toInt) := by
  unfold g_X11_quotient g_X11_quotient_b13
  refine tot_let (fun v2 e_v2 => ?_)
  refine tot_if (fun c => ?_) (fun c => ?_)
  · refine tot_some (fun x y _ e2 hx hy => ?_)
    have : y.toInt = 0 := by
      rw [e_v2, lg_cmp_eq] at c
      rw [← Int32.toInt_toInt64, ← e2, c]
      rfl
    rw [this, Int.ediv_zero]
    rfl
  · refine tot_oif (fun q => c (by rw [e_v2, q]; rfl)) ?_
    refine tot_let (fun v5 e => tot_some (fun x y e1 e2 hx hy => ?_))
    rw [e, e1, e2]
    exact q64 hx hy
theorem cs_X11_quotient (a0 a1 : Int64) : Tot (g_X11_quotient a0 a1) (fun r => ∀ x y : Int32, a0 = x.toInt64 → a1 = y.toInt64 → 0 ≤ x.toInt → 0 ≤ y.toInt → 0 ≤ r.toInt32.toInt ∧ r.toInt32.toInt ≤ x.toInt) := by
  obtain ⟨r, e, h⟩ := cs_X11_quotient2 a0 a1
  refine ⟨r, e, fun x y e1 e2 hx hy => ?_⟩
  rw [h x y e1 e2 hx hy]
  exact ⟨Int.ediv_nonneg hx hy, Int.ediv_le_self _ hx⟩
theorem i_rem2 {v x y : Int32} (e : v = x - x / y * y) (hx : 0 ≤ x.toInt) (hy : 1 ≤ y.toInt) : v.toInt ≤ x.toInt := by
  have x2 := Int32.toInt_lt x
  have b0 := Int.ediv_nonneg hx (by omega : 0 ≤ y.toInt)
  have b1 := Int.ediv_le_self y.toInt hx
  have b2 := Int.ediv_mul_le x.toInt (by omega : y.toInt ≠ 0)
  have b3 := Int.mul_nonneg b0 (by omega : 0 ≤ y.toInt)
  have d : (x / y).toInt = x.toInt / y.toInt := by rw [Int32.toInt_div, Int.tdiv_eq_ediv_of_nonneg hx, bm32 (by omega) (by omega)]
  have m : (x / y * y).toInt = x.toInt / y.toInt * y.toInt := by rw [Int32.toInt_mul, d, bm32 (by omega) (by omega)]
  rw [e, Int32.toInt_sub, m, bm32 (by omega) (by omega)]
  omega
theorem i_shr {v x : Int32} (e : v = x >>> (1 &&& 31)) : v.toInt = x.toInt / 2 := by
  rw [e]
  show (x.toBitVec.sshiftRight' ((1 &&& 31 : Int32).toBitVec.smod 32)).toInt = _
  rw [show ((1 &&& 31 : Int32).toBitVec.smod 32) = 1#32 by decide]
  show (x.toBitVec.sshiftRight 1).toInt = _
  rw [BitVec.toInt_sshiftRight, Int.shiftRight_eq_div_pow]
  rfl
theorem i_remn {v x y : Int32} (e : v = x - x / y * y) (hx : x.toInt < 0) (hy : 1 ≤ y.toInt) : -y.toInt < v.toInt ∧ v.toInt ≤ 0 := by
  have x2 := Int32.le_toInt x
  obtain ⟨m, hm⟩ : ∃ m : Int, x.toInt = -m := ⟨-x.toInt, by omega⟩
  have h0 : 0 ≤ m := by omega
  have b0 := Int.ediv_nonneg h0 (by omega : 0 ≤ y.toInt)
  have b1 := Int.ediv_le_self y.toInt h0
  have b2 := Int.ediv_mul_le m (by omega : y.toInt ≠ 0)
  have b3 := Int.mul_nonneg b0 (by omega : 0 ≤ y.toInt)
  have b4 := Int.emod_nonneg m (by omega : y.toInt ≠ 0)
  have b5 := Int.emod_lt_of_pos m (by omega : 0 < y.toInt)
  rw [Int.emod_def, Int.mul_comm] at b4 b5
  have d : (x / y).toInt = -(m / y.toInt) := by rw [Int32.toInt_div, hm, Int.neg_tdiv, Int.tdiv_eq_ediv_of_nonneg h0, bm32 (by omega) (by omega)]
  have q : (x / y * y).toInt = -(m / y.toInt * y.toInt) := by rw [Int32.toInt_mul, d, Int.neg_mul, bm32 (by omega) (by omega)]
  rw [e, Int32.toInt_sub, q, hm, bm32 (by omega) (by omega)]
  omega
theorem cs_X11_remainder (a0 a1 : Int32) : Tot (g_X11_remainder a0 a1) (fun r => (0 ≤ a0.toInt ∧ 0 ≤ a1.toInt → 0 ≤ r.toInt ∧ r.toInt ≤ a0.toInt) ∧ (1 ≤ a1.toInt → -a1.toInt < r.toInt ∧ r.toInt < a1.toInt) ∧ (a1.toInt = 0 → r.toInt = 0)) := by
  have z0 : (0 : Int32).toInt = 0 := by decide
  unfold g_X11_remainder g_X11_remainder_b11
  refine tot_if (fun c => ?_) (fun c => ?_)
  · replace c := i_eq c
    exact tot_some (by omega)
  · refine tot_oif c ?_
    replace c := i_ne c
    refine tot_let (fun v4 e_v4 => tot_some ?_)
    by_cases hx : 0 ≤ a0.toInt
    · by_cases hy : 1 ≤ a1.toInt
      · have q := i_rem e_v4 hx hy
        have q2 := i_rem2 e_v4 hx hy
        omega
      · omega
    · by_cases hy : 1 ≤ a1.toInt
      · have q := i_remn e_v4 (by omega) hy
        omega
      · omega
theorem root_any (l0 : Int32) : ∀ (n : Nat) (l1 l2 : Int32), (l2.toInt ≤ 0 ∧ 1 ≤ n) ∨ (1 ≤ l2.toInt ∧ l2.toInt / 2 + 2 ≤ n) → Tot (g_X11_root_b6 n l0 l1 l2) (fun _ => True) := by
  intro n
  induction n with
  | zero => intro l1 l2 h; omega
  | succ n ih =>
    intro l1 l2 h
    have z0 : (0 : Int32).toInt = 0 := by decide
    have z2 : (2 : Int32).toInt = 2 := by decide
    have st : 1 ≤ l2.toInt → ∀ x, Tot (g_X11_root_b23 (g_X11_root_b6 n) l0 x l2) (fun _ => True) := fun h1 x => by
      unfold g_X11_root_b23
      refine tot_let (fun v e_v => ?_)
      have q_v := i_shr e_v
      exact ih x v (by omega)
    unfold g_X11_root_b6
    refine tot_if (fun c => ?_) (fun c => ?_)
    · exact tot_some trivial
    · replace c := i_nle c
      refine tot_let (fun v3 _ => tot_let (fun v4 _ => ?_))
      exact tot_if (fun _ => st (by omega) _) (fun _ => st (by omega) _)
theorem cs_X11_root (a0 : Int32) : Tot (g_X11_root a0) (fun _ => True) := root_any a0 16384 0 16384 (by decide)
/-- the first row of an area, times the columns, and its first column -/
def AO (o : Nat) (T : AT) (a : Nat) : Prop := (T.2.2.1 a 1).toInt * (T.2.2.1 o 3).toInt + (T.2.2.1 a 0).toInt ≤ 143
theorem uI_g (T : AT) (n k m j : Nat) (v : Int32) : (uI T n k v).2.2.1 m j = if m = n ∧ j = k then v else T.2.2.1 m j := by
  show va_up T.2.2.1 n (upd (T.2.2.1 n) k v) m j = _
  by_cases e : m = n
  · subst e
    rw [va_up_self]
    unfold upd
    by_cases e2 : j = k
    · rw [if_pos e2, if_pos ⟨rfl, e2⟩]
    · rw [if_neg e2, if_neg (fun q => e2 q.2)]
  · rw [va_up_ne _ _ e, if_neg (fun q => e q.1)]
section
variable {R : Nat → Nat} {B K1 K2 : Nat}
theorem col_of (T : AT) (o : Nat) (a0 : Int32) (h_T : IV R B K1 K2 T) (k_o : R o = 1) (g0 : 0 ≤ a0.toInt ∧ a0.toInt ≤ 143) : Tot (g_X1_columnOf T o a0) (fun r => r.2 = T ∧ (0 ≤ r.1.toInt ∧ r.1.toInt ≤ 11 ∧ r.1.toInt ≤ a0.toInt ∧ (1 ≤ (T.2.2.1 o 3).toInt → r.1.toInt < (T.2.2.1 o 3).toInt) ∧ ((T.2.2.1 o 3).toInt = 0 → r.1.toInt = 0))) := by
  unfold g_X1_columnOf
  refine tot_oif (iv_oO h_T k_o (by decide) (by decide) rfl) ?_
  refine tot_let (fun v_1 e_v_1 => ?_)
  have r_v_1 : 0 ≤ v_1.toInt ∧ v_1.toInt ≤ 12 := iv_int h_T k_o (by decide) (by decide) e_v_1 rfl
  have q := i_eq e_v_1
  refine tot_bind (cs_X11_remainder a0 v_1) (fun r d => ?_)
  refine tot_some ⟨rfl, ?_⟩
  show 0 ≤ r.toInt ∧ r.toInt ≤ 11 ∧ r.toInt ≤ a0.toInt ∧ (1 ≤ (T.2.2.1 o 3).toInt → r.toInt < (T.2.2.1 o 3).toInt) ∧ ((T.2.2.1 o 3).toInt = 0 → r.toInt = 0)
  omega
theorem row_of (T : AT) (o : Nat) (a0 : Int32) (h_T : IV R B K1 K2 T) (k_o : R o = 1) (g0 : 0 ≤ a0.toInt ∧ a0.toInt ≤ 143) : Tot (g_X1_rowOf T o a0) (fun r => r.2 = T ∧ (0 ≤ r.1.toInt ∧ r.1.toInt ≤ 143 ∧ r.1.toInt * (T.2.2.1 o 3).toInt ≤ a0.toInt)) := by
  unfold g_X1_rowOf
  refine tot_let (fun v_1 e_v_1 => ?_)
  refine tot_oif (iv_oO h_T k_o (by decide) (by decide) rfl) ?_
  refine tot_let (fun v_2 e_v_2 => ?_)
  have r_v_2 : 0 ≤ v_2.toInt ∧ v_2.toInt ≤ 12 := iv_int h_T k_o (by decide) (by decide) e_v_2 rfl
  refine tot_let (fun v_3 e_v_3 => ?_)
  refine tot_bind (cs_X11_quotient2 v_1 v_3) (fun r d => ?_)
  refine tot_let (fun v_5 e_v_5 => tot_some ⟨rfl, ?_⟩)
  have d := d a0 v_2 e_v_1 e_v_3 g0.1 r_v_2.1
  rw [← e_v_5, e_v_2] at d
  rw [e_v_2] at r_v_2
  show 0 ≤ v_5.toInt ∧ v_5.toInt ≤ 143 ∧ v_5.toInt * (T.2.2.1 o 3).toInt ≤ a0.toInt
  refine ⟨by rw [d]; exact Int.ediv_nonneg g0.1 r_v_2.1, by rw [d]; exact Int.le_trans (Int.ediv_le_self _ g0.1) g0.2, ?_⟩
  rw [d]
  by_cases z : (T.2.2.1 o 3).toInt = 0
  · rw [z, Int.mul_zero]; exact g0.1
  · exact Int.ediv_mul_le _ z
set_option maxHeartbeats 4000000 in
theorem cs_X1_areaAround (T : AT) (o : Nat) (a0 : Int32) (h_T : IV R B K1 K2 T) (k_o : R o = 1) (g0 : 0 ≤ a0.toInt ∧ a0.toInt ≤ 143) : Tot (g_X1_areaAround T o a0) (fun r => (IV R B K1 K2 r.2 ∧ FW R [1952] T r.2) ∧ R r.1 = 61 ∧ AO o r.2 r.1) := by
  have z0 : (1 : Int32).toInt = 1 := by decide
  have z1 : (0 : Int32).toInt = 0 := by decide
  have z2 : (2 : Int32).toInt = 2 := by decide
  have z3 : (3 : Int32).toInt = 3 := by decide
  have x_T : FW R [1952] T T := FW.rf
  unfold g_X1_areaAround
  refine tot_oif (iv_oO h_T k_o (by decide) (by decide) rfl) ?_
  refine tot_bindq (R := fun r : Int32 => (0 ≤ r.toInt ∧ r.toInt ≤ 11 ∧ r.toInt ≤ a0.toInt ∧ (1 ≤ (T.2.2.1 o 3).toInt → r.toInt < (T.2.2.1 o 3).toInt) ∧ ((T.2.2.1 o 3).toInt = 0 → r.toInt = 0))) (col_of T o a0 h_T k_o g0) (fun r_1 d_r_1 => ?_)
  refine tot_oif (iv_oO h_T k_o (by decide) (by decide) rfl) ?_
  refine tot_bindq (R := fun r : Int32 => (0 ≤ r.toInt ∧ r.toInt ≤ 143 ∧ r.toInt * (T.2.2.1 o 3).toInt ≤ a0.toInt)) (row_of T o a0 h_T k_o g0) (fun r_3 d_r_3 => ?_)
  refine tot_oif (iv_oO h_T k_o (by decide) (by decide) rfl) ?_
  refine tot_ref h_T k_o (by decide) (by decide) (r2 := 61) (rfl : rtg 1 8 = 61) (by decide) (fun n k_n e_n => ?_)
  have ne : ¬ o = n := fun q => by rw [q, k_n] at k_o; cases k_o
  refine tot_let (fun v_6 e_v_6 => ?_)
  have q_v_6 := i_sub e_v_6 (by omega) (by omega)
  refine tot_let (fun v_7 e_v_7 => ?_)
  have q_v_7 := i_ilt e_v_7
  refine tot_oif (iv_aA h_T k_n (by decide) (by decide) rfl rfl) ?_
  refine tot_oif (by rw [iv_len h_T k_n (by decide) (by decide) (rfl : shp 61 = (100, 4))]; exact i_inb (by omega) (by omega)) ?_
  refine tot_let (fun T_8 e_T_8 => ?_)
  have h_T_8 : IV R B K1 K2 T_8 := by rw [e_T_8]; exact iv_uI (a := 0) (b := 143) h_T k_n (by decide) (by decide) (by decide) (by omega) (.inl rfl)
  have x_T_8 := x_T.tr (fw_uA e_T_8 k_n rfl rfl (by decide))
  refine tot_oif (iv_oO h_T_8 k_o (by decide) (by decide) rfl) ?_
  have e_n8 : T_8.2.2.2.2 o 8 = some n := by rw [e_T_8]; exact e_n
  refine tot_ref1 e_n8 ?_
  refine tot_let (fun v_10 e_v_10 => ?_)
  have q_v_10 := i_sub e_v_10 (by omega) (by omega)
  refine tot_let (fun v_11 e_v_11 => ?_)
  have q_v_11 := i_ilt e_v_11
  refine tot_oif (iv_aA h_T_8 k_n (by decide) (by decide) rfl rfl) ?_
  refine tot_oif (by rw [iv_len h_T_8 k_n (by decide) (by decide) (rfl : shp 61 = (100, 4))]; exact i_inb (by omega) (by omega)) ?_
  refine tot_let (fun T_12 e_T_12 => ?_)
  have h_T_12 : IV R B K1 K2 T_12 := by rw [e_T_12]; exact iv_uI (a := 0) (b := 143) h_T_8 k_n (by decide) (by decide) (by decide) (by omega) (.inl rfl)
  have x_T_12 := x_T_8.tr (fw_uA e_T_12 k_n rfl rfl (by decide))
  refine tot_oif (iv_oO h_T_12 k_o (by decide) (by decide) rfl) ?_
  have e_n12 : T_12.2.2.2.2 o 8 = some n := by rw [e_T_12]; exact e_n8
  refine tot_ref1 e_n12 ?_
  refine tot_let (fun v_14 e_v_14 => ?_)
  have q_v_14 := i_add e_v_14 (by omega) (by omega)
  refine tot_oif (iv_oO h_T_12 k_o (by decide) (by decide) rfl) ?_
  refine tot_let (fun v_15 e_v_15 => ?_)
  have r_v_15 : 0 ≤ v_15.toInt ∧ v_15.toInt ≤ 12 := iv_int h_T_12 k_o (by decide) (by decide) e_v_15 rfl
  refine tot_let (fun v_16 e_v_16 => ?_)
  have q_v_16 := i_sub e_v_16 (by omega) (by omega)
  refine tot_let (fun v_17 e_v_17 => ?_)
  have q_v_17 := i_ilt e_v_17
  refine tot_oif (iv_aA h_T_12 k_n (by decide) (by decide) rfl rfl) ?_
  refine tot_oif (by rw [iv_len h_T_12 k_n (by decide) (by decide) (rfl : shp 61 = (100, 4))]; exact i_inb (by omega) (by omega)) ?_
  refine tot_let (fun T_18 e_T_18 => ?_)
  have h_T_18 : IV R B K1 K2 T_18 := by rw [e_T_18]; exact iv_uI (a := -1) (b := 11) h_T_12 k_n (by decide) (by decide) (by decide) (by omega) (.inl rfl)
  have x_T_18 := x_T_12.tr (fw_uA e_T_18 k_n rfl rfl (by decide))
  refine tot_oif (iv_oO h_T_18 k_o (by decide) (by decide) rfl) ?_
  have e_n18 : T_18.2.2.2.2 o 8 = some n := by rw [e_T_18]; exact e_n12
  refine tot_ref1 e_n18 ?_
  refine tot_let (fun v_20 e_v_20 => ?_)
  have q_v_20 := i_add e_v_20 (by omega) (by omega)
  refine tot_oif (iv_oO h_T_18 k_o (by decide) (by decide) rfl) ?_
  refine tot_let (fun v_21 e_v_21 => ?_)
  have r_v_21 : 0 ≤ v_21.toInt ∧ v_21.toInt ≤ 12 := iv_int h_T_18 k_o (by decide) (by decide) e_v_21 rfl
  refine tot_let (fun v_22 e_v_22 => ?_)
  have q_v_22 := i_sub e_v_22 (by omega) (by omega)
  refine tot_let (fun v_23 e_v_23 => ?_)
  have q_v_23 := i_ilt e_v_23
  refine tot_oif (iv_aA h_T_18 k_n (by decide) (by decide) rfl rfl) ?_
  refine tot_oif (by rw [iv_len h_T_18 k_n (by decide) (by decide) (rfl : shp 61 = (100, 4))]; exact i_inb (by omega) (by omega)) ?_
  refine tot_let (fun T_24 e_T_24 => ?_)
  have h_T_24 : IV R B K1 K2 T_24 := by rw [e_T_24]; exact iv_uI (a := -1) (b := 11) h_T_18 k_n (by decide) (by decide) (by decide) (by omega) (.inl rfl)
  have x_T_24 := x_T_18.tr (fw_uA e_T_24 k_n rfl rfl (by decide))
  refine tot_oif (iv_oO h_T_24 k_o (by decide) (by decide) rfl) ?_
  have e_n24 : T_24.2.2.2.2 o 8 = some n := by rw [e_T_24]; exact e_n18
  refine tot_ref1 e_n24 ?_
  refine tot_some ⟨⟨h_T_24, x_T_24⟩, k_n, ?_⟩
  have f1 : T_24.2.2.1 n 1 = v_11 := by
    rw [e_T_24, uI_g, if_neg (fun q => absurd q.2 (by decide)), e_T_18, uI_g, if_neg (fun q => absurd q.2 (by decide)), e_T_12, uI_g, if_pos ⟨rfl, by decide⟩]
  have f0 : T_24.2.2.1 n 0 = v_7 := by
    rw [e_T_24, uI_g, if_neg (fun q => absurd q.2 (by decide)), e_T_18, uI_g, if_neg (fun q => absurd q.2 (by decide)), e_T_12, uI_g, if_neg (fun q => absurd q.2 (by decide)), e_T_8, uI_g, if_pos ⟨rfl, by decide⟩]
  have f3 : T_24.2.2.1 o 3 = T.2.2.1 o 3 := x_T_24 o 3 (by rw [k_o]; decide)
  show (T_24.2.2.1 n 1).toInt * (T_24.2.2.1 o 3).toInt + (T_24.2.2.1 n 0).toInt ≤ 143
  rw [f1, f0, f3]
  have c0 : 0 ≤ (T.2.2.1 o 3).toInt ∧ (T.2.2.1 o 3).toInt ≤ 12 := iv_int h_T k_o (by decide) (by decide) rfl rfl
  generalize (T.2.2.1 o 3).toInt = c at d_r_1 d_r_3 c0
  rcases (by omega : v_11.toInt = 0 ∨ v_11.toInt = r_3.toInt - 1) with h | h
  · rw [h, Int.zero_mul]; omega
  · rw [h, Int.sub_mul, Int.one_mul]; omega
set_option maxHeartbeats 4000000 in
theorem best_in {T : AT} {o a0 a1 : Nat} {a2 : Int32} (h_T : IV R B K1 K2 T) (k_o : R o = 1) (hA : aA T a0 100 = true) (hL : (T.2.1 a0).2 = 4) (f0 : 0 ≤ (T.2.2.1 a0 0).toInt) (f1 : 0 ≤ (T.2.2.1 a0 1).toInt) (f2 : (T.2.2.1 a0 2).toInt ≤ 11) (f3 : (T.2.2.1 a0 3).toInt ≤ 11) (f4 : (T.2.2.1 a0 0).toInt ≤ 143 ∧ (T.2.2.1 a0 1).toInt ≤ 143) (ao : AO o T a0) {r_a1 : Nat} (k_a1 : R a1 = r_a1) (w_a1 : isW r_a1 = true) (g0 : 0 ≤ a2.toInt ∧ a2.toInt + 144 ≤ cnt r_a1) : Tot (g_X1_bestIn T o a0 a1 a2) (fun r => r.2 = T ∧ (0 ≤ r.1.toInt ∧ r.1.toInt ≤ 143)) := by
  have z0 : (0 : Int32).toInt = 0 := by decide
  have z1 : (1 : Int32).toInt = 1 := by decide
  have z2 : (2 : Int32).toInt = 2 := by decide
  have z3 : (3 : Int32).toInt = 3 := by decide
  have zi : (Int32.ofInt (1) : Int32).toInt = 1 := by decide
  have c7 := (isW_f w_a1).2.2.2.1
  have inn : ∀ {k19 : AT → Nat → Nat → Nat → Int32 → Int32 → Int32 → Option (Int32 × AT)} {row : Int32}, (0 ≤ row.toInt ∧ row.toInt ≤ 11) → (∀ b v : Int32, 0 ≤ b.toInt ∧ b.toInt ≤ 143 → v.toInt = row.toInt + 1 → Tot (k19 T o a0 a1 a2 b v) (fun r => r.2 = T ∧ (0 ≤ r.1.toInt ∧ r.1.toInt ≤ 143))) → ∀ (n : Nat) (b col : Int32), (0 ≤ b.toInt ∧ b.toInt ≤ 143) → (0 ≤ col.toInt ∧ col.toInt ≤ 143) → 200 - col.toInt < (n : Int) → Tot (g_X1_bestIn_b32 k19 n T o a0 a1 a2 b row col) (fun r => r.2 = T ∧ (0 ≤ r.1.toInt ∧ r.1.toInt ≤ 143)) := by
    intro k19 row hr hk n
    induction n with
    | zero => intro b col hb hc hm; exfalso; omega
    | succ n ih =>
      intro b col hb hc hm
      unfold g_X1_bestIn_b32
      refine tot_oif hA (tot_oif (by rw [hL]; exact i_inb (by omega) (by omega)) ?_)
      refine tot_let (fun v4 e4 => ?_)
      have q4 : v4.toInt ≤ 11 := by rw [e4]; exact f2
      refine tot_if (fun c => ?_) (fun c => ?_)
      · refine tot_let (fun v6 e6 => ?_)
        have q6 := i_add e6 (by omega) (by omega)
        exact hk b v6 hb (by omega)
      · replace c := i_nlt c
        refine tot_oif (iv_oO h_T k_o (by decide) (by decide) rfl) ?_
        refine tot_let (fun v8 e8 => ?_)
        have r8 : 0 ≤ v8.toInt ∧ v8.toInt ≤ 12 := iv_int h_T k_o (by decide) (by decide) e8 rfl
        refine tot_let (fun v9 e9 => ?_)
        have q9 := i_mulp (a := 0) (b := 11) (c := 0) (d := 12) e9 (by omega) (by omega) (by omega) (by omega) (by decide)
        refine tot_let (fun v10 e10 => ?_)
        have q10 := i_add e10 (by omega) (by omega)
        refine tot_let (fun v11 e11 => ?_)
        have q11 := i_add e11 (by omega) (by omega)
        refine tot_let (fun v12 e12 => ?_)
        have q12 := i_add e12 (by omega) (by omega)
        refine tot_oif (w_oO h_T k_a1 w_a1) ?_
        refine tot_bindq (R := fun r : Int32 => True) (c_compare (a0 := v11) (a1 := v12) k_a1 w_a1 h_T (by omega) (by omega)) (fun r16 _ => ?_)
        have st : ∀ b2 : Int32, (0 ≤ b2.toInt ∧ b2.toInt ≤ 143) → Tot (g_X1_bestIn_b71 k19 (g_X1_bestIn_b32 k19 n) T o a0 a1 a2 b2 row col) (fun r => r.2 = T ∧ (0 ≤ r.1.toInt ∧ r.1.toInt ≤ 143)) := fun b2 hb2 => by
          unfold g_X1_bestIn_b71
          refine tot_let (fun v e => ?_)
          have q := i_add e (by omega) (by omega)
          exact ih b2 v hb2 (by omega) (by omega)
        exact tot_if (fun _ => st b hb) (fun _ => st v10 (by omega))
  have out : ∀ (n : Nat) (b row : Int32), (0 ≤ b.toInt ∧ b.toInt ≤ 143) → (0 ≤ row.toInt ∧ row.toInt ≤ 143) → 200 - row.toInt < (n : Int) → Tot (g_X1_bestIn_b19 n T o a0 a1 a2 b row) (fun r => r.2 = T ∧ (0 ≤ r.1.toInt ∧ r.1.toInt ≤ 143)) := by
    intro n
    induction n with
    | zero => intro b row hb hr hm; exfalso; omega
    | succ n ih =>
      intro b row hb hr hm
      unfold g_X1_bestIn_b19
      refine tot_oif hA (tot_oif (by rw [hL]; exact i_inb (by omega) (by omega)) ?_)
      refine tot_let (fun v4 e4 => ?_)
      have q4 : v4.toInt ≤ 11 := by rw [e4]; exact f3
      refine tot_if (fun c => tot_some ⟨rfl, hb⟩) (fun c => ?_)
      replace c := i_nlt c
      refine tot_oif hA (tot_oif (by rw [hL]; exact i_inb (by omega) (by omega)) ?_)
      refine tot_let (fun v8 e8 => ?_)
      have q8 : 0 ≤ v8.toInt ∧ v8.toInt ≤ 143 := by rw [e8]; exact ⟨f0, f4.1⟩
      exact inn (by omega) (fun b2 v hb2 hv => ih b2 v hb2 (by omega) (by omega)) 16384 b v8 hb q8 (by omega)
  unfold g_X1_bestIn
  refine tot_oif hA (tot_oif (by rw [hL]; exact i_inb (by omega) (by omega)) ?_)
  refine tot_let (fun v4 e4 => ?_)
  refine tot_oif (iv_oO h_T k_o (by decide) (by decide) rfl) ?_
  refine tot_let (fun v6 e6 => ?_)
  have r6 : 0 ≤ v6.toInt ∧ v6.toInt ≤ 12 := iv_int h_T k_o (by decide) (by decide) e6 rfl
  have r4 : 0 ≤ v4.toInt ∧ v4.toInt ≤ 143 := by rw [e4]; exact ⟨f1, f4.2⟩
  refine tot_let (fun v7 e7 => ?_)
  have p7 : v7.toInt = v4.toInt * v6.toInt := by
    have a1 := Int.mul_nonneg r4.1 r6.1
    have a2 : v4.toInt * v6.toInt ≤ 143 * 12 := Int.mul_le_mul r4.2 r6.2 r6.1 (by decide)
    rw [e7, Int32.toInt_mul, bm32 (by omega) (by omega)]
  have p7p := Int.mul_nonneg r4.1 r6.1
  have ao2 : v4.toInt * v6.toInt + (T.2.2.1 a0 0).toInt ≤ 143 := by rw [e4, e6]; exact ao
  refine tot_oif hA (tot_oif (by rw [hL]; exact i_inb (by omega) (by omega)) ?_)
  refine tot_let (fun v10 e10 => ?_)
  have r10 : v10.toInt = (T.2.2.1 a0 0).toInt := by rw [e10]; rfl
  refine tot_let (fun v11 e11 => ?_)
  have q11 := i_add e11 (by omega) (by omega)
  refine tot_oif hA (tot_oif (by rw [hL]; exact i_inb (by omega) (by omega)) ?_)
  refine tot_let (fun v14 e14 => ?_)
  have r14 : 0 ≤ v14.toInt ∧ v14.toInt ≤ 143 := by rw [e14]; exact ⟨f1, f4.2⟩
  exact out 16384 v11 v14 (by omega) r14 (by omega)
theorem cs_X1_bestIn61 (T : AT) (o : Nat) (a0 : Nat) (a1 : Nat) (a2 : Int32) (h_T : IV R B K1 K2 T) (k_o : R o = 1) (k_a0 : R a0 = 61) {r_a1 : Nat} (k_a1 : R a1 = r_a1) (w_a1 : isW r_a1 = true) (ao : AO o T a0) (g0 : 0 ≤ a2.toInt ∧ a2.toInt + 144 ≤ cnt r_a1) : Tot (g_X1_bestIn T o a0 a1 a2) (fun r => r.2 = T ∧ (0 ≤ r.1.toInt ∧ r.1.toInt ≤ 143)) := by
  have f0 := iv_int h_T k_a0 (by decide) (by decide) (rfl : T.2.2.1 a0 0 = T.2.2.1 a0 0) (rfl : iR 61 0 = (0, 143))
  have f1 := iv_int h_T k_a0 (by decide) (by decide) (rfl : T.2.2.1 a0 1 = T.2.2.1 a0 1) (rfl : iR 61 1 = (0, 143))
  have f2 := iv_int h_T k_a0 (by decide) (by decide) (rfl : T.2.2.1 a0 2 = T.2.2.1 a0 2) (rfl : iR 61 2 = (-1, 11))
  have f3 := iv_int h_T k_a0 (by decide) (by decide) (rfl : T.2.2.1 a0 3 = T.2.2.1 a0 3) (rfl : iR 61 3 = (-1, 11))
  exact best_in h_T k_o (iv_aA h_T k_a0 (by decide) (by decide) rfl rfl) (iv_len h_T k_a0 (by decide) (by decide) (rfl : shp 61 = (100, 4))) f0.1 f1.1 f2.2 f3.2 ⟨f0.2, f1.2⟩ ao k_a1 w_a1 g0
theorem cs_X1_bestIn59 (T : AT) (o : Nat) (a0 : Nat) (a1 : Nat) (a2 : Int32) (h_T : IV R B K1 K2 T) (k_o : R o = 1) (k_a0 : R a0 = 59) {r_a1 : Nat} (k_a1 : R a1 = r_a1) (w_a1 : isW r_a1 = true) (g0 : 0 ≤ a2.toInt ∧ a2.toInt + 144 ≤ cnt r_a1) : Tot (g_X1_bestIn T o a0 a1 a2) (fun r => r.2 = T ∧ (0 ≤ r.1.toInt ∧ r.1.toInt ≤ 143)) := by
  have f0 := iv_int h_T k_a0 (by decide) (by decide) (rfl : T.2.2.1 a0 0 = T.2.2.1 a0 0) (rfl : iR 59 0 = (0, 11))
  have f1 := iv_int h_T k_a0 (by decide) (by decide) (rfl : T.2.2.1 a0 1 = T.2.2.1 a0 1) (rfl : iR 59 1 = (0, 11))
  have f2 := iv_int h_T k_a0 (by decide) (by decide) (rfl : T.2.2.1 a0 2 = T.2.2.1 a0 2) (rfl : iR 59 2 = (0, 11))
  have f3 := iv_int h_T k_a0 (by decide) (by decide) (rfl : T.2.2.1 a0 3 = T.2.2.1 a0 3) (rfl : iR 59 3 = (0, 11))
  have c0 : 0 ≤ (T.2.2.1 o 3).toInt ∧ (T.2.2.1 o 3).toInt ≤ 12 := iv_int h_T k_o (by decide) (by decide) rfl rfl
  refine best_in h_T k_o (iv_aA h_T k_a0 (by decide) (by decide) rfl rfl) (iv_len h_T k_a0 (by decide) (by decide) (rfl : shp 59 = (100, 4))) f0.1 f1.1 f2.2 f3.2 ⟨by omega, by omega⟩ ?_ k_a1 w_a1 g0
  have a2 : (T.2.2.1 a0 1).toInt * (T.2.2.1 o 3).toInt ≤ 11 * 12 := Int.mul_le_mul f1.2 c0.2 c0.1 (by decide)
  show (T.2.2.1 a0 1).toInt * (T.2.2.1 o 3).toInt + (T.2.2.1 a0 0).toInt ≤ 143
  omega
end
/-! where references may have changed: the rows of one number alone -/
def PF (q : Nat) (T0 T : AT) : Prop := ∀ m k, m ≠ q → T.2.2.2.2 m k = T0.2.2.2.2 m k
theorem wf_b40 {q l0 : Nat} {T0 : AT} {l1 : Int32} {k5 : AT → Nat → Int32 → Int32 → Option AT} (hk : ∀ T v T1, PF q T0 T → k5 T l0 l1 v = some T1 → PF q T0 T1) : ∀ (n : Nat) (T : AT) (l2 l3 : Int32) (T1 : AT), PF q T0 T → g_X10_widenTo_b40 k5 n T l0 l1 l2 l3 = some T1 → PF q T0 T1 := by
  intro n
  induction n with
  | zero => intro T l2 l3 T1 _ h; cases h
  | succ n ih =>
    intro T l2 l3 T1 p h
    unfold g_X10_widenTo_b40 at h
    obtain ⟨_, h⟩ := oif_some h
    obtain ⟨v3, _, h⟩ := elet_some h
    by_cases c : v3 ≤ l3
    · rw [if_pos c] at h
      obtain ⟨v5, _, h⟩ := elet_some h
      obtain ⟨_, h⟩ := oif_some h
      obtain ⟨T7, e7, h⟩ := elet_some h
      obtain ⟨v8, _, h⟩ := elet_some h
      exact hk T7 v8 T1 (by rw [e7]; exact p) h
    · rw [if_neg c] at h
      obtain ⟨_, h⟩ := oif_some h
      obtain ⟨n10, _, h⟩ := obind_some h
      obtain ⟨v11, _, h⟩ := elet_some h
      obtain ⟨_, h⟩ := oif_some h
      obtain ⟨_, h⟩ := oif_some h
      obtain ⟨n14, _, h⟩ := obind_some h
      obtain ⟨_, h⟩ := oif_some h
      obtain ⟨_, h⟩ := oif_some h
      obtain ⟨v17, _, h⟩ := elet_some h
      obtain ⟨_, h⟩ := oif_some h
      obtain ⟨n19, _, h⟩ := obind_some h
      obtain ⟨v20, _, h⟩ := elet_some h
      obtain ⟨_, h⟩ := oif_some h
      obtain ⟨_, h⟩ := oif_some h
      obtain ⟨n23, _, h⟩ := obind_some h
      obtain ⟨v24, _, h⟩ := elet_some h
      obtain ⟨_, h⟩ := oif_some h
      obtain ⟨_, h⟩ := oif_some h
      obtain ⟨T27, e27, h⟩ := elet_some h
      obtain ⟨_, h⟩ := oif_some h
      obtain ⟨n29, _, h⟩ := obind_some h
      obtain ⟨_, h⟩ := oif_some h
      obtain ⟨_, h⟩ := oif_some h
      obtain ⟨n32, _, h⟩ := obind_some h
      obtain ⟨v33, _, h⟩ := elet_some h
      obtain ⟨_, h⟩ := oif_some h
      obtain ⟨_, h⟩ := oif_some h
      obtain ⟨T36, e36, h⟩ := elet_some h
      obtain ⟨v37, _, h⟩ := elet_some h
      exact ih T36 l2 v37 T1 (by rw [e36, e27]; exact p) h
theorem wf_b5 {q l0 : Nat} {T0 : AT} {l1 : Int32} (hq : T0.2.2.2.2 l0 1 = some q) (hn : l0 ≠ q) : ∀ (n : Nat) (T : AT) (l2 : Int32) (T1 : AT), PF q T0 T → g_X10_widenTo_b5 n T l0 l1 l2 = some T1 → PF q T0 T1 := by
  intro n
  induction n with
  | zero => intro T l2 T1 _ h; cases h
  | succ n ih =>
    intro T l2 T1 p h
    have st : ∀ T l2 T1, PF q T0 T → g_X10_widenTo_b38 (g_X10_widenTo_b5 n) T l0 l1 l2 = some T1 → PF q T0 T1 := fun T l2 T1 p h => by
      unfold g_X10_widenTo_b38 at h
      exact wf_b40 (fun T v T1 p h => ih T v T1 p h) 16384 T l2 0 T1 p h
    unfold g_X10_widenTo_b5 g_X10_widenTo_b108 at h
    by_cases c : l1 ≤ l2
    · rw [if_pos c] at h; cases h; exact p
    rw [if_neg c] at h
    by_cases c : 40 ≤ l2
    · rw [if_pos c] at h; cases h; exact p
    rw [if_neg c] at h
    obtain ⟨_, h⟩ := oif_some h
    obtain ⟨n5, _, h⟩ := obind_some h
    obtain ⟨_, h⟩ := oif_some h
    obtain ⟨_, h⟩ := oif_some h
    obtain ⟨n8, _, h⟩ := obind_some h
    obtain ⟨_, h⟩ := oif_some h
    obtain ⟨v10, _, h⟩ := elet_some h
    by_cases c : v10 = 0
    · rw [if_pos c] at h
      obtain ⟨_, h⟩ := oif_some h
      obtain ⟨n13, e13, h⟩ := obind_some h
      obtain ⟨_, h⟩ := oif_some h
      obtain ⟨v15, _, h⟩ := elet_some h
      obtain ⟨_, h⟩ := oif_some h
      obtain ⟨T17, e17, h⟩ := elet_some h
      unfold g_X10_widenTo_b37 at h
      obtain ⟨_, h⟩ := oif_some h
      obtain ⟨_, h⟩ := oif_some h
      obtain ⟨_, h⟩ := oif_some h
      obtain ⟨T5, e5, h⟩ := elet_some h
      have e : n13 = q := by
        rw [p l0 1 hn, hq] at e13
        exact (Option.some.inj e13).symm
      refine st T5 l2 T1 (fun m k hm => ?_) h
      rw [e5, ← p m k hm]
      show va_up T17.2.2.2.2 n13 _ m k = _
      rw [va_up_ne _ _ (fun a => hm (a.trans e)), e17]
      rfl
    · rw [if_neg c] at h
      exact st T l2 T1 p h
theorem wf_widenTo {q o : Nat} {T T1 : AT} {a0 : Int32} (hq : T.2.2.2.2 o 1 = some q) (hn : o ≠ q) (h : g_X10_widenTo T o a0 = some T1) : PF q T T1 := by
  unfold g_X10_widenTo at h
  obtain ⟨_, h⟩ := oif_some h
  obtain ⟨v3, _, h⟩ := elet_some h
  exact wf_b5 hq hn 16384 T v3 T1 (fun _ _ _ => rfl) h
theorem wf_narrow {o : Nat} {T T1 : AT} (h : g_X10_narrow T o = some T1) : T1.2.2.2.2 = T.2.2.2.2 := by
  unfold g_X10_narrow at h
  obtain ⟨_, h⟩ := oif_some h
  obtain ⟨T3, e3, h⟩ := elet_some h
  cases h
  rw [e3]
  rfl
theorem tot_fact {α : Type} {x : Option α} {P F : α → Prop} (h : Tot x P) (k : ∀ y, x = some y → F y) : Tot x (fun y => P y ∧ F y) := by
  obtain ⟨y, e, p⟩ := h
  exact ⟨y, e, p, k y e⟩
section
variable {R : Nat → Nat} {B K1 K2 : Nat}
theorem tot_place (a0 a1 : Int32) (g0 : 0 ≤ a0.toInt ∧ a0.toInt ≤ 11) (g1 : 0 ≤ a1.toInt ∧ a1.toInt ≤ 199) : Tot (g_X8_placeOf a0 a1) (fun r => (0 ≤ r.toInt ∧ r.toInt ≤ 2399)) := by
  have z0 : (200 : Int32).toInt = 200 := by decide
  unfold g_X8_placeOf
  refine tot_let (fun v_1 e_v_1 => ?_)
  have q_v_1 := i_mulk2 e_v_1 z0 (by omega) (by omega)
  refine tot_let (fun v_2 e_v_2 => ?_)
  have q_v_2 := i_add e_v_2 (by omega) (by omega)
  exact tot_some (show (0 ≤ v_2.toInt ∧ v_2.toInt ≤ 2399) from by omega)
set_option maxHeartbeats 4000000 in
theorem tot_weighted (T : AT) (o a0 a1 : Nat) (a2 : Int32) (h_T : IV R B K1 K2 T) (k_o : R o = 8) (s_a0 : T.2.1 a0 = (101, cnt 104)) (l_a0 : a0 < T.1) (k_a1 : R a1 = 50) : Tot (g_X8_weighted T o a0 a1 a2) (fun r => r.2 = T ∧ True) := by
  have z0 : (0 : Int32).toInt = 0 := by decide
  have zi : (Int32.ofInt (1) : Int32).toInt = 1 := by decide
  have c4 : cnt 104 = 2400 := rfl
  have lp : ∀ (n : Nat) (l4 : Int64) (l6 : Int32), (0 ≤ l6.toInt ∧ l6.toInt ≤ 12) → 12 - l6.toInt < (n : Int) → Tot (g_X8_weighted_b6 n T o a0 a1 a2 l4 l6) (fun r => r.2 = T ∧ True) := by
    intro n
    induction n with
    | zero => intro l4 l6 h6 hm; exfalso; omega
    | succ n ih =>
      intro l4 l6 h6 hm
      have st : l6.toInt ≤ 11 → ∀ l4, Tot (g_X8_weighted_b70 (g_X8_weighted_b6 n) T o a0 a1 a2 l4 l6) (fun r => r.2 = T ∧ True) := fun h11 l4 => by
        unfold g_X8_weighted_b70
        refine tot_let (fun v e => ?_)
        have q := i_add e (by omega) (by omega)
        exact ih l4 v (by omega) (by omega)
      unfold g_X8_weighted_b6
      refine tot_oif (iv_oO h_T k_o (by decide) (by decide) rfl) ?_
      refine tot_let (fun v3 e3 => ?_)
      have r3 : 0 ≤ v3.toInt ∧ v3.toInt ≤ 12 := iv_int h_T k_o (by decide) (by decide) e3 rfl
      refine tot_if (fun c => tot_some ⟨rfl, trivial⟩) (fun c => ?_)
      replace c := i_nle c
      refine tot_oif (iv_aA h_T k_a1 (by decide) (by decide) rfl rfl) ?_
      refine tot_oif (by rw [iv_len h_T k_a1 (by decide) (by decide) (rfl : shp 50 = (100, 12))]; exact i_inb (by omega) (by omega)) ?_
      refine tot_let (fun v7 e7 => ?_)
      refine tot_let (fun v8 e8 => ?_)
      refine tot_oif (iv_oO h_T k_o (by decide) (by decide) rfl) ?_
      refine tot_ref h_T k_o (by decide) (by decide) (r2 := 62) (rfl : rtg 8 3 = 62) (by decide) (fun n10 k10 e10 => ?_)
      refine tot_oif (iv_aA h_T k10 (by decide) (by decide) rfl rfl) ?_
      refine tot_oif (by rw [iv_len h_T k10 (by decide) (by decide) (rfl : shp 62 = (102, 12))]; exact i_inb (by omega) (by omega)) ?_
      refine tot_let (fun v13 e13 => ?_)
      refine tot_if (fun c13 => ?_) (fun c13 => st (by omega) _)
      refine tot_if (fun c8 => st (by omega) _) (fun c8 => ?_)
      replace c8 := i_nlt c8
      refine tot_oif (iv_oO h_T k_o (by decide) (by decide) rfl) ?_
      refine tot_let (fun v17 e17 => ?_)
      have r17 : 0 ≤ v17.toInt ∧ v17.toInt ≤ 200 := iv_int h_T k_o (by decide) (by decide) e17 rfl
      refine tot_if (fun c17 => st (by omega) _) (fun c17 => ?_)
      replace c17 := i_nle c17
      refine tot_oif (iv_oO h_T k_o (by decide) (by decide) rfl) ?_
      refine tot_ref h_T k_o (by decide) (by decide) (r2 := 63) (rfl : rtg 8 4 = 63) (by decide) (fun n20 k20 e20 => ?_)
      refine tot_oif (iv_aA h_T k20 (by decide) (by decide) rfl rfl) ?_
      refine tot_oif (by rw [iv_len h_T k20 (by decide) (by decide) (rfl : shp 63 = (100, 12))]; exact i_inb (by omega) (by omega)) ?_
      refine tot_let (fun v23 e23 => tot_let (fun v24 e24 => ?_))
      refine tot_bind (tot_place l6 v8 (by omega) (by omega)) (fun r25 d25 => ?_)
      refine tw_i s_a0 (by omega) l_a0 (by omega) ?_
      exact tot_let (fun v29 _ => tot_let (fun v30 _ => tot_let (fun v31 _ => st (by omega) _)))
  exact lp 16384 0 0 (by decide) (by decide)
set_option maxHeartbeats 4000000 in
theorem cs_X8_focus (T : AT) (o : Nat) (a0 : Nat) (a1 : Int32) (h_T : IV R B K1 K2 T) (k_o : R o = 8) (k_a0 : R a0 = 50) : Tot (g_X8_focus T o a0 a1) (fun T1 => IV R B K1 K2 T1 ∧ FW R [3202] T T1) := by
  have z0 : (0 : Int32).toInt = 0 := by decide
  have zi : (Int32.ofInt (1) : Int32).toInt = 1 := by decide
  have wb : isW 101 = true := rfl
  have ws : isW 104 = true := rfl
  have cb : cnt 101 = 1 := rfl
  have lp : ∀ {nb ns : Nat}, R nb = 101 → R ns = 104 → ∀ (n : Nat) (T1 : AT) (l3 : Int32), IV R B K1 K2 T1 → FW R [3202] T T1 → T1.2.2.2.2 o 11 = some nb → T1.2.2.2.2 o 10 = some ns → ((T1.2.2.1 ns 2).toInt ≤ (T1.2.2.1 nb 2).toInt) → (0 ≤ l3.toInt ∧ l3.toInt ≤ 40) → 40 - l3.toInt < (n : Int) → Tot (g_X8_focus_b23 n T1 o a0 a1 l3) (fun T9 => IV R B K1 K2 T9 ∧ FW R [3202] T T9) := by
    intro nb ns k_nb k_ns n
    induction n with
    | zero => intro T1 l3 h x e11 e10 hu h3 hm; exfalso; omega
    | succ n ih =>
      intro T1 l3 h x e11 e10 hu h3 hm
      unfold g_X8_focus_b23
      refine tot_oif (iv_oO h k_o (by decide) (by decide) rfl) ?_
      refine tot_ref1 e10 ?_
      refine tot_oif (w_oO h k_ns ws) ?_
      refine tot_let (fun v5 e5 => ?_)
      have q5 : v5.toInt = (T1.2.2.1 ns 2).toInt := by rw [e5]
      have u5 := w_used h k_ns ws
      refine tot_if (fun c => ?_) (fun c => ?_)
      · refine tot_oif (iv_oO h k_o (by decide) (by decide) rfl) ?_
        refine tot_ref1 e11 ?_
        refine tot_oif (w_oO h k_nb wb) ?_
        refine tot_bind (c_settle (a0 := (0 : Int32)) k_nb wb h (by omega)) (fun T10 d => ?_)
        unfold g_X8_focus_b74
        exact tot_some ⟨d.1, x.tr (fw_wx d.2 k_nb wb (by decide))⟩
      · replace c := i_nle c
        refine tot_oif (iv_oO h k_o (by decide) (by decide) rfl) ?_
        refine tot_ref1 e11 ?_
        refine tw_q h k_nb wb (fun n15 k15 e15 => ?_)
        refine tw_p h k15 wb (by omega) ?_
        refine tw_r (p := l3) h k_nb wb e15 (by omega) (fun n18 s18 x18 l18 => ?_)
        refine tot_oif (iv_oO h k_o (by decide) (by decide) rfl) ?_
        refine tot_ref1 e10 ?_
        refine tw_q h k_ns ws (fun n22 k22 e22 => ?_)
        refine tw_p h k22 ws (by omega) ?_
        refine tw_r (p := l3) h k_ns ws e22 (by omega) (fun n25 s25 x25 l25 => ?_)
        refine tot_oif (iv_oO h k_o (by decide) (by decide) rfl) ?_
        refine tot_bindq (R := fun _ : Int64 => True) (tot_weighted T1 o n25 a0 a1 h k_o s25 l25 k_a0) (fun r29 _ => ?_)
        refine tw_i s18 (by decide) l18 (by omega) ?_
        refine tot_let (fun T33 e33 => ?_)
        have h33 : IV R B K1 K2 T33 := by rw [e33]; exact iv_uJ h _ _ _
        have x33 : FW R [3202] T T33 := x.tr (fw_of (by rw [e33]; rfl))
        refine tot_let (fun v34 e34 => ?_)
        have q34 := i_add e34 (by omega) (by omega)
        exact ih T33 v34 h33 x33 (by rw [e33]; exact e11) (by rw [e33]; exact e10) (by rw [e33]; exact hu) (by omega) (by omega)
  unfold g_X8_focus
  refine tot_oif (iv_oO h_T k_o (by decide) (by decide) rfl) ?_
  refine tot_ref h_T k_o (by decide) (by decide) (r2 := 101) (rfl : rtg 8 11 = 101) (by decide) (fun nb k_nb e11 => ?_)
  obtain ⟨ns, e10, _, k_ns⟩ := h_T.2.2.1 o 10 (iv_sta h_T k_o (by decide) (by decide)) (by rw [k_o]; decide)
  have k_ns : R ns = 104 := by rw [k_ns, k_o]; rfl
  have nbs : nb ≠ ns := fun q => by rw [q, k_ns] at k_nb; cases k_nb
  refine tot_oif (w_oO h_T k_nb wb) ?_
  refine tot_bind (tot_fact (c_narrow h_T k_nb wb) (fun y e => wf_narrow e)) (fun T5 d5 => ?_)
  have h5 := d5.1.1
  have r5 := d5.2
  have x5 : FW R [3202] T T5 := d5.1.2.2
  have e115 : T5.2.2.2.2 o 11 = some nb := by rw [r5]; exact e11
  have e105 : T5.2.2.2.2 o 10 = some ns := by rw [r5]; exact e10
  refine tot_oif (iv_oO h5 k_o (by decide) (by decide) rfl) ?_
  refine tot_ref1 e115 ?_
  refine tot_oif (iv_oO h5 k_o (by decide) (by decide) rfl) ?_
  refine tot_ref1 e105 ?_
  refine tot_oif (w_oO h5 k_ns ws) ?_
  refine tot_let (fun v12 e12 => ?_)
  have q12 := i_eq e12
  have u12 := w_used h5 k_ns ws
  refine tot_oif (w_oO h5 k_nb wb) ?_
  obtain ⟨q, e1, _, kq⟩ := h5.2.2.1 nb 1 (iv_sta h5 k_nb (by decide) (by decide)) (by rw [k_nb]; decide)
  have kq : R q = 111 := by rw [kq, k_nb]; rfl
  refine tot_bind (tot_fact (c_widenTo (a0 := v12) k_nb wb h5) (fun y e => wf_widenTo e1 (fun a => by rw [a, kq] at k_nb; cases k_nb) e)) (fun T14 d14 => ?_)
  have h14 := d14.1.1
  have noq : o ≠ q := fun a => by rw [a, kq] at k_o; cases k_o
  have w14 := d14.1.2.1.1 ns 2 (.inl (Ne.symm nbs))
  unfold g_X8_focus_b21
  have u14 := w_used h14 k_ns ws
  exact lp k_nb k_ns 16384 T14 0 h14 (x5.tr (fw_wx d14.1.2.1 k_nb wb (by decide))) ((d14.2 o 11 noq).trans e115) ((d14.2 o 10 noq).trans e105) (by have := d14.1.2.2; rw [w14] at u14 ⊢; omega) (by decide) (by decide)
end
