/-! The class's whole numbers: rows, room, and all methods of Wides -/
theorem isW_c {r : Nat} (h : isW r = true) : r = 101 ∨ r = 102 ∨ r = 103 ∨ r = 104 ∨ r = 105 := by
  unfold isW at h
  have b1 := Nat.le_of_ble_eq_true ((Bool.and_eq_true _ _).mp h).1
  have b2 := Nat.le_of_ble_eq_true ((Bool.and_eq_true _ _).mp h).2
  omega
theorem isW_f {r : Nat} (h : isW r = true) : ((r ≠ 99 ∧ r ≠ 30) ∧ shp r = (10, 0) ∧ rtg r 1 = r + 10) ∧ ((r + 10 ≠ 99 ∧ r + 10 ≠ 30) ∧ shp (r + 10) = (107, 40) ∧ isRW (r + 10) = true) ∧ (iR r 0 = ((cnt r : Int), (cnt r : Int)) ∧ iR r 2 = (1, 40)) ∧ (1 ≤ cnt r ∧ cnt r ≤ 7200) ∧ wC (r + 10) = cnt r ∧ isW (r + 10) = false := by
  rcases isW_c h with e | e | e | e | e <;> subst e <;> decide
section
variable {R : Nat → Nat} {B K1 K2 : Nat} {T : AT}
theorem zs_dec {T U : AT} {n p : Nat} (h0 : zr T n p = zr U n p + 1) (h : ∀ j, j ≠ p → zr T n j = zr U n j) : ∀ P : Nat, zs T n P = zs U n P + (if p < P then 1 else 0)
  | 0 => rfl
  | P + 1 => by
    have ih := zs_dec h0 h P
    show zs T n P + zr T n P = zs U n P + zr U n P + _
    by_cases e : P = p
    · subst e
      rw [ih, h0, if_neg (Nat.lt_irrefl _), if_pos (Nat.lt_succ_self _)]
      omega
    · rw [ih, h P e]
      by_cases e2 : p < P
      · rw [if_pos e2, if_pos (by omega)]
        omega
      · rw [if_neg e2, if_neg (by omega)]
        omega
theorem zt_dec {T U : AT} {w : Nat → Nat} {q p : Nat} (hq : isRW (R q) = true) (hp : p < 40) (h0 : zr T q p = zr U q p + 1) (h : ∀ j, j ≠ p → zr T q j = zr U q j) (ho : ∀ n, n ≠ q → isRW (R n) = true → ∀ j, zr T n j = zr U n j) : ∀ N : Nat, zt R T w N = zt R U w N + (if q < N then w (R q) else 0)
  | 0 => rfl
  | N + 1 => by
    have ih := zt_dec (w := w) hq hp h0 h ho N
    show zt R T w N + _ = zt R U w N + _ + _
    rw [ih]
    by_cases e : N = q
    · subst e
      rw [hq, if_neg (Nat.lt_irrefl _), if_pos (Nat.lt_succ_self _), zs_dec h0 h 40, if_pos hp]
      show zt R U w N + 0 + (zs U N 40 + 1) * w (R N) = zt R U w N + zs U N 40 * w (R N) + w (R N)
      rw [Nat.add_mul]
      omega
    · have z : (bif isRW (R N) then zs T N 40 * w (R N) else 0) = (bif isRW (R N) then zs U N 40 * w (R N) else 0) := by
        cases e2 : isRW (R N) with
        | false => rfl
        | true => rw [zs_eq 40 (fun j _ => ho N e e2 j)]
      rw [z]
      by_cases e2 : q < N
      · rw [if_pos e2, if_pos (by omega)]
        omega
      · rw [if_neg e2, if_neg (by omega)]
        omega
/-- a new row, where one of no length was -/
theorem iv_new (h : IV R B K1 K2 T) {o q r p x : Nat} (hr : R o = r) (hW : isW r = true) (hq : R q = r + 10) (e1 : T.2.2.2.2 o 1 = some q) (hp : p < 40) (ex : T.2.2.2.2 q p = some x) (hx : (T.2.1 x).2 = 0) : IV R B K1 K2 (uR (newJ T (cnt r)) q p T.1) := by
  obtain ⟨⟨⟨w1', w2'⟩, w3, w4⟩, ⟨⟨w5, w6⟩, w7, w8⟩, w9, ⟨w10, w11⟩, w12, w13⟩ := isW_f hW
  have hqs := iv_sta h hq w5 w6
  have hBT := h.1.2.2
  have key : ∀ m j, (uR (newJ T (cnt r)) q p T.1).2.2.2.2 m j = if m = q ∧ j = p then some T.1 else T.2.2.2.2 m j := fun m j => by
    show va_up T.2.2.2.2 q (va_up (T.2.2.2.2 q) p (some T.1)) m j = _
    by_cases e : m = q
    · subst e
      rw [va_up_self]
      by_cases e2 : j = p
      · rw [e2, va_up_self, if_pos ⟨rfl, rfl⟩]
      · rw [va_up_ne _ _ e2, if_neg (fun q => e2 q.2)]
    · rw [va_up_ne _ _ e, if_neg (fun q => e q.1)]
  have old : ∀ m, m < T.1 → (uR (newJ T (cnt r)) q p T.1).2.1 m = T.2.1 m := fun m hm => va_up_ne T.2.1 _ (Nat.ne_of_lt hm)
  have new : (uR (newJ T (cnt r)) q p T.1).2.1 T.1 = (101, cnt r) := va_up_self _ _ _
  have hR : R T.1 = 30 := h.1.2.1.2 T.1 hBT
  have rows := h.2.2.2.2.2.1
  have zold : ∀ m j, isRW (R m) = true → ¬ (m = q ∧ j = p) → zr T m j = zr (uR (newJ T (cnt r)) q p T.1) m j := fun m j hm e => by
    unfold zr
    rw [key, if_neg e]
    cases ey : T.2.2.2.2 m j with
    | none => rfl
    | some y =>
      have hs : sta R B m := iv_sta h rfl (by intro q; rw [q] at hm; exact absurd hm (by decide)) (by intro q; rw [q] at hm; exact absurd hm (by decide))
      show (if (T.2.1 y).2 = 0 then 1 else 0) = if ((uR (newJ T (cnt r)) q p T.1).2.1 y).2 = 0 then 1 else 0
      rw [old y (rows m j y hs hm ey).1]
  have z0 : zr T q p = zr (uR (newJ T (cnt r)) q p T.1) q p + 1 := by
    unfold zr
    rw [key, if_pos ⟨rfl, rfl⟩, ex]
    show (if (T.2.1 x).2 = 0 then 1 else 0) = (if ((uR (newJ T (cnt r)) q p T.1).2.1 T.1).2 = 0 then 1 else 0) + 1
    rw [new, if_pos hx, if_neg (by show ¬ cnt r = 0; omega)]
  have hRW : isRW (R q) = true := by rw [hq]; exact w8
  have zd : ∀ w, zt R T w B = zt R (uR (newJ T (cnt r)) q p T.1) w B + w (R q) := fun w => by
    rw [zt_dec (w := w) hRW hp z0 (fun j e => zold q j hRW (fun z => e z.2)) (fun n e hn j => zold n j hn (fun z => e z.1)) B, if_pos hqs.1]
  refine ⟨⟨h.1.1, h.1.2.1, ?_⟩, fun m hs => ?_, fun m j hs hj => ?_, h.2.2.2.1, fun m hs hWm y hy j hj => ?_, fun m j y hs hm hy => ?_, ?_, ?_⟩
  · show B ≤ T.1 + 1
    omega
  · rw [old m (Nat.lt_of_lt_of_le hs.1 hBT)]
    exact h.2.1 m hs
  · rw [key]
    by_cases e : m = q ∧ j = p
    · rw [if_pos e]
      refine ⟨T.1, rfl, Nat.lt_succ_self _, ?_⟩
      obtain ⟨y, y1, y2, y3⟩ := h.2.2.1 m j hs hj
      rw [hR, e.1, e.2]
      have b : Nat.blt p 40 = true := Nat.ble_eq_true_of_le hp
      unfold rtg
      rw [hq, w13, w8, b]
      rfl
    · rw [if_neg e]
      obtain ⟨y, y1, y2, y3⟩ := h.2.2.1 m j hs hj
      exact ⟨y, y1, Nat.lt_succ_of_lt y2, y3⟩
  · have hmq : m ≠ q := fun e => by rw [e, hq, w13] at hWm; cases hWm
    rw [key, if_neg (fun z => hmq z.1)] at hy
    obtain ⟨y2, a1, a2⟩ := h.2.2.2.2.1 m hs hWm y hy j hj
    rw [key]
    by_cases e : y = q ∧ j = p
    · rw [if_pos e]
      refine ⟨T.1, rfl, ?_⟩
      rw [new]
      have := isW_f hWm
      obtain ⟨z, z1, z2, z3⟩ := h.2.2.1 m 1 hs (by rw [this.1.2.2]; exact this.2.1.1.1)
      rw [hy] at z1
      cases z1
      rw [this.1.2.2, e.1, hq] at z3
      rw [show R m = r by omega]
    · rw [if_neg e]
      have hyR : isRW (R y) = true ∧ sta R B y := by
        have t := isW_f hWm
        obtain ⟨z, z1, z2, z3⟩ := h.2.2.1 m 1 hs (by rw [t.1.2.2]; exact t.2.1.1.1)
        rw [hy] at z1
        cases z1
        rw [t.1.2.2] at z3
        exact ⟨by rw [z3]; exact t.2.1.2.2, iv_sta h z3 t.2.1.1.1 t.2.1.1.2⟩
      exact ⟨y2, a1, by rw [old y2 (rows y j y2 hyR.2 hyR.1 a1).1]; exact a2⟩
  · rw [key] at hy
    by_cases e : m = q ∧ j = p
    · rw [if_pos e] at hy
      cases hy
      rw [new, e.1, hq, w12]
      exact ⟨Nat.lt_succ_self _, rfl, .inr rfl⟩
    · rw [if_neg e] at hy
      have := rows m j y hs hm hy
      rw [old y this.1]
      exact ⟨Nat.lt_succ_of_lt this.1, this.2⟩
  · have := zd w1
    have k := h.2.2.2.2.2.2.1
    have one : w1 (R q) = 1 := rfl
    show T.1 + 1 + _ = K1
    omega
  · have := zd wC
    have k := h.2.2.2.2.2.2.2
    have s : sg (uR (newJ T (cnt r)) q p T.1) = sg T + cnt r := by
      show sgA (va_up T.2.1 T.1 (101, cnt r)) T.1 + (va_up T.2.1 T.1 (101, cnt r) T.1).2 = sgA T.2.1 T.1 + cnt r
      have c : ∀ N, N ≤ T.1 → sgA (va_up T.2.1 T.1 (101, cnt r)) N = sgA T.2.1 N := by
        intro N
        induction N with
        | zero => intro _; rfl
        | succ N ih =>
          intro hN
          show sgA _ N + (va_up T.2.1 T.1 (101, cnt r) N).2 = sgA T.2.1 N + (T.2.1 N).2
          rw [ih (by omega), va_up_ne T.2.1 _ (show N ≠ T.1 by omega)]
      rw [va_up_self, c T.1 (Nat.le_refl _)]
    rw [hq, w12] at this
    rw [s]
    omega
/-- to a row -/
theorem tw_q {γ : Type} {P : γ → Prop} {f : Nat → Option γ} {o r : Nat} (h : IV R B K1 K2 T) (hr : R o = r) (hW : isW r = true) (kk : ∀ q, R q = r + 10 → T.2.2.2.2 o 1 = some q → Tot (f q) P) : Tot (oif (oO T o 10 = true) <| obind (T.2.2.2.2 o 1) f) P := by
  have w := isW_f hW
  refine tot_oif (iv_oO h hr w.1.1.1 w.1.1.2 w.1.2.1) ?_
  exact tot_ref h hr w.1.1.1 w.1.1.2 w.1.2.2 w.2.1.1.1 kk
theorem tw_p {γ : Type} {P : γ → Prop} {x : Option γ} {q r : Nat} {p : Int32} (h : IV R B K1 K2 T) (hq : R q = r + 10) (hW : isW r = true) (hp : 0 ≤ p.toInt ∧ p.toInt < 40) (kk : Tot x P) : Tot (oif (aA T q 107 = true) <| oif (inb p (T.2.1 q).2 = true) <| x) P := by
  have w := isW_f hW
  refine tot_oif (iv_aA h hq w.2.1.1.1 w.2.1.1.2 w.2.1.2.1 (by decide)) (tot_oif ?_ kk)
  rw [iv_len h hq w.2.1.1.1 w.2.1.1.2 w.2.1.2.1]
  exact i_inb hp.1 (by omega)
theorem tw_r {γ : Type} {P : γ → Prop} {f : Nat → Option γ} {o q r : Nat} {p : Int32} (h : IV R B K1 K2 T) (hr : R o = r) (hW : isW r = true) (e : T.2.2.2.2 o 1 = some q) (hp : 0 ≤ p.toInt ∧ p.toInt < (T.2.2.1 o 2).toInt) (kk : ∀ x, T.2.1 x = (101, cnt r) → T.2.2.2.2 q p.toNatClampNeg = some x → x < T.1 → Tot (f x) P) : Tot (obind (T.2.2.2.2 q p.toNatClampNeg) f) P := by
  have w := isW_f hW
  have hs := iv_sta h hr w.1.1.1 w.1.1.2
  have c := i_cl hp.1
  obtain ⟨x, x1, x2⟩ := h.2.2.2.2.1 o hs (by rw [hr]; exact hW) q e p.toNatClampNeg (by omega)
  rw [hr] at x2
  obtain ⟨q', a1, a2, a3⟩ := h.2.2.1 o 1 hs (by rw [hr, w.1.2.2]; exact w.2.1.1.1)
  rw [e] at a1
  cases a1
  rw [hr, w.1.2.2] at a3
  have := h.2.2.2.2.2.1 q p.toNatClampNeg x (iv_sta h a3 w.2.1.1.1 w.2.1.1.2) (by rw [a3]; exact w.2.1.2.2) x1
  rw [x1]
  exact kk x x2 x1 this.1
theorem tw_i {γ : Type} {P : γ → Prop} {z : Option γ} {x c : Nat} {i : Int32} (hs : T.2.1 x = (101, c)) (hc : c ≤ 7200) (hl : x < T.1) (hi : 0 ≤ i.toInt ∧ i.toInt < c) (kk : Tot z P) : Tot (oif (aA T x 101 = true) <| oif (inb i (T.2.1 x).2 = true) <| z) P := by
  refine tot_oif ?_ (tot_oif ?_ kk)
  · unfold aA
    rw [hs, show Nat.blt x T.1 = true from Nat.ble_eq_true_of_le hl]
    show (true && (decide (101 = 101) && Nat.blt c (2 ^ 31))) = true
    rw [decide_eq_true rfl, show Nat.blt c (2 ^ 31) = true from Nat.ble_eq_true_of_le (by omega)]
    rfl
  · rw [hs]
    exact i_inb hi.1 hi.2
theorem w_used (h : IV R B K1 K2 T) {o r : Nat} (hr : R o = r) (hW : isW r = true) : 1 ≤ (T.2.2.1 o 2).toInt ∧ (T.2.2.1 o 2).toInt ≤ 40 := iv_int h hr (isW_f hW).1.1.1 (isW_f hW).1.1.2 rfl (isW_f hW).2.2.1.2
theorem w_cnt (h : IV R B K1 K2 T) {o r : Nat} (hr : R o = r) (hW : isW r = true) : (T.2.2.1 o 0).toInt = cnt r := by
  have := iv_int h hr (isW_f hW).1.1.1 (isW_f hW).1.1.2 rfl (isW_f hW).2.2.1.1
  omega
theorem w_oO (h : IV R B K1 K2 T) {o r : Nat} (hr : R o = r) (hW : isW r = true) : oO T o 10 = true := iv_oO h hr (isW_f hW).1.1.1 (isW_f hW).1.1.2 (isW_f hW).1.2.1
end
/-- of ints, how many parts o has alone -/
def WX (o : Nat) (T T1 : AT) : Prop := (∀ m k, m ≠ o ∨ k ≠ 2 → T1.2.2.1 m k = T.2.2.1 m k) ∧ (T.2.2.1 o 2).toInt ≤ (T1.2.2.1 o 2).toInt
theorem WX.rf {o : Nat} {T : AT} : WX o T T := ⟨fun _ _ _ => rfl, Int.le_refl _⟩
theorem WX.tr {o : Nat} {T T1 T2 : AT} (h : WX o T T1) (k : WX o T1 T2) : WX o T T2 := ⟨fun m j e => (k.1 m j e).trans (h.1 m j e), Int.le_trans h.2 k.2⟩
theorem WX.of {o : Nat} {T T1 : AT} (e : T1.2.2.1 = T.2.2.1) : WX o T T1 := ⟨fun _ _ _ => by rw [e], by rw [e]; exact Int.le_refl _⟩
/-- which ints may have changed: by role and field -/
def wc (r k : Nat) : Nat := bif isW r then 3200 + k else bif Nat.ble r 20 then 32 * r + k else 32 * r
def FW (R : Nat → Nat) (W : List Nat) (T T1 : AT) : Prop := ∀ m k, W.contains (wc (R m) k) = false → T1.2.2.1 m k = T.2.2.1 m k
theorem FW.rf {R : Nat → Nat} {W : List Nat} {T : AT} : FW R W T T := fun _ _ _ => rfl
theorem FW.tr {R : Nat → Nat} {W : List Nat} {T T1 T2 : AT} (h : FW R W T T1) (k : FW R W T1 T2) : FW R W T T2 := fun m j e => (k m j e).trans (h m j e)
theorem FW.w {R : Nat → Nat} {W V : List Nat} {T T1 : AT} (h : FW R W T T1) (c : (W.all fun x => V.contains x) = true) : FW R V T T1 := fun m j e => h m j (con_w c e)
theorem fw_uI {R : Nat → Nat} {W : List Nat} {T T1 : AT} {n k r : Nat} {v : Int32} (e : T1 = uI T n k v) (hr : R n = r) (c : W.contains (wc r k) = true) : FW R W T T1 := by
  intro m j hm
  rw [e]
  show va_up T.2.2.1 n (upd (T.2.2.1 n) k v) m j = _
  by_cases a : m = n
  · subst a
    rw [va_up_self]
    unfold upd
    by_cases b : j = k
    · rw [hr, b, c] at hm
      cases hm
    · rw [if_neg b]
  · rw [va_up_ne _ _ a]
/-- at an array, any place -/
theorem fw_uA {R : Nat → Nat} {W : List Nat} {T T1 : AT} {n k r : Nat} {v : Int32} (e : T1 = uI T n k v) (hr : R n = r) (hw : isW r = false) (hb : Nat.ble r 20 = false) (c : W.contains (32 * r) = true) : FW R W T T1 := fw_uI e hr (by unfold wc; rw [hw, hb]; exact c)
theorem fw_of {R : Nat → Nat} {W : List Nat} {T T1 : AT} (e : T1.2.2.1 = T.2.2.1) : FW R W T T1 := fun _ _ _ => by rw [e]
theorem fw_wx {R : Nat → Nat} {W : List Nat} {T T1 : AT} {o r : Nat} (h : WX o T T1) (hr : R o = r) (hW : isW r = true) (c : W.contains 3202 = true) : FW R W T T1 := fun m j e => h.1 m j (by
  by_cases a : m = o
  · refine .inr (fun b => ?_)
    rw [a, b, hr] at e
    unfold wc at e
    rw [hW] at e
    rw [show (bif true then 3200 + 2 else bif Nat.ble r 20 then 32 * r + 2 else 32 * r) = 3202 from rfl, c] at e
    cases e
  · exact .inl a)
theorem tot_bindq {σ β γ : Type} {S : σ} {x : Option (β × σ)} {f : β → σ → Option γ} {R : β → Prop} {P : γ → Prop} (hx : Tot x (fun r => r.2 = S ∧ R r.1)) (h : ∀ r, R r → Tot (f r S) P) : Tot (obind2 x f) P := by
  obtain ⟨⟨a, b⟩, e, e2, q⟩ := hx
  have e2 : b = S := e2
  subst e2
  rw [e]
  exact h a q
