/-! Ground for the class's methods -/
theorem tot_thrp {α β : Type} {x : Option (Nat × α × AT)} {z : β} {f : α → AT → Option (Nat × β × AT)} {T : AT} {Q : α → Prop} {P : Nat × β × AT → Prop} (hx : Tot x (fun r => r.2.2 = T ∧ (r.1 = 0 → Q r.2.1))) (h : ∀ r, Q r → Tot (f r T) P) (ht : ∀ k, P (k + 1, z, T)) : Tot (othr x z f) P := by
  obtain ⟨⟨k, r, U⟩, e, e2, q⟩ := hx
  have e2 : U = T := e2
  subst e2
  rw [e]
  match k, q with
  | 0, q => exact h r (q rfl)
  | k + 1, q => exact ⟨_, rfl, ht k⟩
theorem tot_thri {α β : Type} {R : Nat → Nat} {B K1 K2 : Nat} {W : List Nat} {x : Option (Nat × α × AT)} {z : β} {f : α → AT → Option (Nat × β × AT)} {T : AT} {Q : α → Prop} {P : Nat × β × AT → Prop} (hx : Tot x (fun r => (IV R B K1 K2 r.2.2 ∧ FW R W T r.2.2) ∧ (r.1 = 0 → Q r.2.1))) (h : ∀ r U, IV R B K1 K2 U → FW R W T U → Q r → Tot (f r U) P) (ht : ∀ k U, IV R B K1 K2 U → FW R W T U → P (k + 1, z, U)) : Tot (othr x z f) P := by
  obtain ⟨⟨k, r, U⟩, e, ⟨i, y⟩, q⟩ := hx
  rw [e]
  match k, q with
  | 0, q => exact h r U i y (q rfl)
  | k + 1, q => exact ⟨_, rfl, ht k U i y⟩
theorem fw_wy {R : Nat → Nat} {W : List Nat} {T T1 : AT} {o r : Nat} (h : WY o T T1) (hr : R o = r) (hW : isW r = true) (c : W.contains 3202 = true) : FW R W T T1 := fun m j e => h m j (by
  by_cases a : m = o
  · refine .inr (fun b => ?_)
    rw [a, b, hr] at e
    unfold wc at e
    rw [hW] at e
    rw [show (bif true then 3200 + 2 else bif Nat.ble r 20 then 32 * r + 2 else 32 * r) = 3202 from rfl, c] at e
    cases e
  · exact .inl a)
theorem uI_at (T : AT) (n k : Nat) (v : Int32) : (uI T n k v).2.2.1 n k = v := by
  show va_up T.2.2.1 n (upd (T.2.2.1 n) k v) n k = v
  rw [va_up_self]
  unfold upd
  rw [if_pos rfl]
theorem i_kb {i : Int32} {n : Nat} (h0 : 0 ≤ i.toInt) (h : i.toInt < n) : Nat.blt i.toNatClampNeg n = true := Nat.ble_eq_true_of_le (by have := i_cl h0; omega)
theorem rt_45 {i : Int32} (h0 : 0 ≤ i.toInt) (h : i.toInt < 12) : rtg 45 i.toNatClampNeg = 46 := by unfold rtg; rw [i_kb (n := 12) h0 h]; rfl
theorem rt_47 {i : Int32} (h0 : 0 ≤ i.toInt) (h : i.toInt < 6) : rtg 47 i.toNatClampNeg = 8 := by unfold rtg; rw [i_kb (n := 6) h0 h]; rfl
theorem rt_48 {i : Int32} (h0 : 0 ≤ i.toInt) (h : i.toInt < 2) : rtg 48 i.toNatClampNeg = 8 := by unfold rtg; rw [i_kb (n := 2) h0 h]; rfl
theorem rt_51 {i : Int32} (h0 : 0 ≤ i.toInt) (h : i.toInt < 144) : rtg 51 i.toNatClampNeg = 50 := by unfold rtg; rw [i_kb (n := 144) h0 h]; rfl
theorem rt_53 {i : Int32} (h0 : 0 ≤ i.toInt) (h : i.toInt < 12) : rtg 53 i.toNatClampNeg = 2 := by unfold rtg; rw [i_kb (n := 12) h0 h]; rfl
theorem rt_54 {i : Int32} (h0 : 0 ≤ i.toInt) (h : i.toInt < 6) : rtg 54 i.toNatClampNeg = 7 := by unfold rtg; rw [i_kb (n := 6) h0 h]; rfl
theorem rt_60 {i : Int32} (h0 : 0 ≤ i.toInt) (h : i.toInt < 4) : rtg 60 i.toNatClampNeg = 59 := by unfold rtg; rw [i_kb (n := 4) h0 h]; rfl
theorem q64 {x : Int32} {y : Int32} (hx : 0 ≤ x.toInt) (hy : 0 ≤ y.toInt) : (x.toInt64 / y.toInt64).toInt32.toInt = x.toInt / y.toInt := by
  have x2 := Int32.toInt_lt x
  have b0 := Int.ediv_nonneg hx hy
  have b1 := Int.ediv_le_self y.toInt hx
  rw [Int64.toInt_toInt32, Int64.toInt_div, Int32.toInt_toInt64, Int32.toInt_toInt64, Int.tdiv_eq_ediv_of_nonneg hx, bm64 (by omega) (by omega), bm32 (by omega) (by omega)]
theorem cs_X11_quotient (a0 a1 : Int64) : Tot (g_X11_quotient a0 a1) (fun r => ∀ x y : Int32, a0 = x.toInt64 → a1 = y.toInt64 → 0 ≤ x.toInt → 0 ≤ y.toInt → 0 ≤ r.toInt32.toInt ∧ r.toInt32.toInt ≤ x.toInt) := by
  have key : ∀ x y : Int32, a0 = x.toInt64 → a1 = y.toInt64 → 0 ≤ x.toInt → 0 ≤ y.toInt → 0 ≤ (a0 / a1).toInt32.toInt ∧ (a0 / a1).toInt32.toInt ≤ x.toInt := fun x y e1 e2 hx hy => by
    subst e1 e2
    rw [q64 hx hy]
    exact ⟨Int.ediv_nonneg hx hy, Int.ediv_le_self _ hx⟩
  unfold g_X11_quotient g_X11_quotient_b13
  refine tot_let (fun v2 e_v2 => ?_)
  refine tot_if (fun c => ?_) (fun c => ?_)
  · exact tot_some (fun x y _ _ hx _ => ⟨Int.le_refl 0, hx⟩)
  · refine tot_oif (fun q => c (by rw [e_v2, q]; rfl)) ?_
    exact tot_let (fun v5 e => by rw [e]; exact tot_some key)
theorem i_rem2 {v x y : Int32} (e : v = x - x / y * y) (hx : 0 ≤ x.toInt) (hy : 1 ≤ y.toInt) : v.toInt ≤ x.toInt := by
  have x2 := Int32.toInt_lt x
  have b0 := Int.ediv_nonneg hx (by omega : 0 ≤ y.toInt)
  have b1 := Int.ediv_le_self y.toInt hx
  have b2 := Int.ediv_mul_le x.toInt (by omega : y.toInt ≠ 0)
  have b3 := Int.mul_nonneg b0 (by omega : 0 ≤ y.toInt)
  have d : (x / y).toInt = x.toInt / y.toInt := by rw [Int32.toInt_div, Int.tdiv_eq_ediv_of_nonneg hx, bm32 (by omega) (by omega)]
  have m : (x / y * y).toInt = x.toInt / y.toInt * y.toInt := by rw [Int32.toInt_mul, d, bm32 (by omega) (by omega)]
  rw [e, Int32.toInt_sub, m, bm32 (by omega) (by omega)]
  omega
theorem i_shr {v x : Int32} (e : v = x >>> (1 &&& 31)) : v.toInt = x.toInt / 2 := by
  rw [e]
  show (x.toBitVec.sshiftRight' ((1 &&& 31 : Int32).toBitVec.smod 32)).toInt = _
  rw [show ((1 &&& 31 : Int32).toBitVec.smod 32) = 1#32 by decide]
  show (x.toBitVec.sshiftRight 1).toInt = _
  rw [BitVec.toInt_sshiftRight, Int.shiftRight_eq_div_pow]
  rfl
theorem i_remn {v x y : Int32} (e : v = x - x / y * y) (hx : x.toInt < 0) (hy : 1 ≤ y.toInt) : -y.toInt < v.toInt ∧ v.toInt ≤ 0 := by
  have x2 := Int32.le_toInt x
  obtain ⟨m, hm⟩ : ∃ m : Int, x.toInt = -m := ⟨-x.toInt, by omega⟩
  have h0 : 0 ≤ m := by omega
  have b0 := Int.ediv_nonneg h0 (by omega : 0 ≤ y.toInt)
  have b1 := Int.ediv_le_self y.toInt h0
  have b2 := Int.ediv_mul_le m (by omega : y.toInt ≠ 0)
  have b3 := Int.mul_nonneg b0 (by omega : 0 ≤ y.toInt)
  have b4 := Int.emod_nonneg m (by omega : y.toInt ≠ 0)
  have b5 := Int.emod_lt_of_pos m (by omega : 0 < y.toInt)
  rw [Int.emod_def, Int.mul_comm] at b4 b5
  have d : (x / y).toInt = -(m / y.toInt) := by rw [Int32.toInt_div, hm, Int.neg_tdiv, Int.tdiv_eq_ediv_of_nonneg h0, bm32 (by omega) (by omega)]
  have q : (x / y * y).toInt = -(m / y.toInt * y.toInt) := by rw [Int32.toInt_mul, d, Int.neg_mul, bm32 (by omega) (by omega)]
  rw [e, Int32.toInt_sub, q, hm, bm32 (by omega) (by omega)]
  omega
theorem cs_X11_remainder (a0 a1 : Int32) : Tot (g_X11_remainder a0 a1) (fun r => (0 ≤ a0.toInt ∧ 0 ≤ a1.toInt → 0 ≤ r.toInt ∧ r.toInt ≤ a0.toInt) ∧ (1 ≤ a1.toInt → -a1.toInt < r.toInt ∧ r.toInt < a1.toInt) ∧ (a1.toInt = 0 → r.toInt = 0)) := by
  have z0 : (0 : Int32).toInt = 0 := by decide
  unfold g_X11_remainder g_X11_remainder_b11
  refine tot_if (fun c => ?_) (fun c => ?_)
  · replace c := i_eq c
    exact tot_some (by omega)
  · refine tot_oif c ?_
    replace c := i_ne c
    refine tot_let (fun v4 e_v4 => tot_some ?_)
    by_cases hx : 0 ≤ a0.toInt
    · by_cases hy : 1 ≤ a1.toInt
      · have q := i_rem e_v4 hx hy
        have q2 := i_rem2 e_v4 hx hy
        omega
      · omega
    · by_cases hy : 1 ≤ a1.toInt
      · have q := i_remn e_v4 (by omega) hy
        omega
      · omega
theorem root_any (l0 : Int32) : ∀ (n : Nat) (l1 l2 : Int32), (l2.toInt ≤ 0 ∧ 1 ≤ n) ∨ (1 ≤ l2.toInt ∧ l2.toInt / 2 + 2 ≤ n) → Tot (g_X11_root_b6 n l0 l1 l2) (fun _ => True) := by
  intro n
  induction n with
  | zero => intro l1 l2 h; omega
  | succ n ih =>
    intro l1 l2 h
    have z0 : (0 : Int32).toInt = 0 := by decide
    have z2 : (2 : Int32).toInt = 2 := by decide
    have st : 1 ≤ l2.toInt → ∀ x, Tot (g_X11_root_b23 (g_X11_root_b6 n) l0 x l2) (fun _ => True) := fun h1 x => by
      unfold g_X11_root_b23
      refine tot_let (fun v e_v => ?_)
      have q_v := i_shr e_v
      exact ih x v (by omega)
    unfold g_X11_root_b6
    refine tot_if (fun c => ?_) (fun c => ?_)
    · exact tot_some trivial
    · replace c := i_nle c
      refine tot_let (fun v3 _ => tot_let (fun v4 _ => ?_))
      exact tot_if (fun _ => st (by omega) _) (fun _ => st (by omega) _)
theorem cs_X11_root (a0 : Int32) : Tot (g_X11_root a0) (fun _ => True) := root_any a0 16384 0 16384 (by decide)
/-- the first row of an area, times the columns, and its first column -/
def AO (o : Nat) (T : AT) (a : Nat) : Prop := (T.2.2.1 a 1).toInt * (T.2.2.1 o 3).toInt + (T.2.2.1 a 0).toInt ≤ 143
theorem cs_X1_areaAround {R : Nat → Nat} {B K1 K2 : Nat} (T : AT) (o : Nat) (a0 : Int32) (h_T : IV R B K1 K2 T) (k_o : R o = 1) (g0 : 0 ≤ a0.toInt ∧ a0.toInt ≤ 143) : Tot (g_X1_areaAround T o a0) (fun r => (IV R B K1 K2 r.2 ∧ FW R [1952] T r.2) ∧ R r.1 = 61 ∧ AO o r.2 r.1) := sorry
theorem cs_X1_bestIn59 {R : Nat → Nat} {B K1 K2 : Nat} (T : AT) (o : Nat) (a0 : Nat) (a1 : Nat) (a2 : Int32) (h_T : IV R B K1 K2 T) (k_o : R o = 1) (k_a0 : R a0 = 59) {r_a1 : Nat} (k_a1 : R a1 = r_a1) (w_a1 : isW r_a1 = true) (g0 : 0 ≤ a2.toInt ∧ a2.toInt + 144 ≤ cnt r_a1) : Tot (g_X1_bestIn T o a0 a1 a2) (fun r => r.2 = T ∧ (0 ≤ r.1.toInt ∧ r.1.toInt ≤ 143)) := sorry
theorem cs_X1_bestIn61 {R : Nat → Nat} {B K1 K2 : Nat} (T : AT) (o : Nat) (a0 : Nat) (a1 : Nat) (a2 : Int32) (h_T : IV R B K1 K2 T) (k_o : R o = 1) (k_a0 : R a0 = 61) {r_a1 : Nat} (k_a1 : R a1 = r_a1) (w_a1 : isW r_a1 = true) (ao : AO o T a0) (g0 : 0 ≤ a2.toInt ∧ a2.toInt + 144 ≤ cnt r_a1) : Tot (g_X1_bestIn T o a0 a1 a2) (fun r => r.2 = T ∧ (0 ≤ r.1.toInt ∧ r.1.toInt ≤ 143)) := sorry
theorem cs_X8_focus {R : Nat → Nat} {B K1 K2 : Nat} (T : AT) (o : Nat) (a0 : Nat) (a1 : Int32) (h_T : IV R B K1 K2 T) (k_o : R o = 8) (k_a0 : R a0 = 50) : Tot (g_X8_focus T o a0 a1) (fun T1 => IV R B K1 K2 T1 ∧ FW R [3202] T T1) := sorry
