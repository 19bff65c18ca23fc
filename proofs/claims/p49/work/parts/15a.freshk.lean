theorem a_loc : (List.range 21).all (fun j => (List.range (n3len j)).all (fun i => decide (aloc (n3off j + i) = (j, i)) && (avr j i).all (fun x => match x with | some q => Nat.blt q (n3len j) | none => true))) = true := by decide +kernel
theorem a_off {j : Nat} (hj : j < 21) : aoff j = n3off j := of_decide_eq_true (a_fin (p := fun j => decide (aoff j = n3off j)) (n := 21) (by decide +kernel) hj)
theorem arf_get (n k : Nat) : (arf n).getD k none = ((avr (aloc n).1 (aloc n).2).getD k none).map (aoff (aloc n).1 + ·) := by
  unfold arf
  rw [List.getD_eq_getElem?_getD, List.getD_eq_getElem?_getD, List.getElem?_map]
  cases (avr (aloc n).1 (aloc n).2)[k]? with
  | none => rfl
  | some x => rfl
theorem a_in {l : List (Option Nat)} {k q N : Nat} (h : l.all (fun x => match x with | some q => Nat.blt q N | none => true) = true) (e : l.getD k none = some q) : q < N := by
  rw [List.getD_eq_getElem?_getD] at e
  cases hk : l[k]? with
  | none => rw [hk] at e; cases e
  | some x =>
    rw [hk] at e
    have e : x = some q := e
    subst e
    exact Nat.le_of_ble_eq_true (List.all_eq_true.mp h _ (List.mem_of_getElem? hk))
set_option maxHeartbeats 4000000 in
set_option maxRecDepth 100000 in
theorem n3_ccv {cI cJ cZ cMic cSrc cSt cAI cAJ : ClassId} {j : Nat} (hj : j < 21) (b : Nat → Nat) {i : Nat} (hi : i < n3len j) : n3blk cI cJ cZ cMic cSrc cSt cAI cAJ j b i = ccv cI cJ cZ cMic cSrc cSt cAI cAJ b (ash j i) (fviR (aro j i)) (fun _ => 0) (fun k => (avr j i).getD k none) := by
  match j, hj with
  | 0, _ => exact fk_X9 b hi
  | 1, _ => exact fk_X5 b hi
  | 2, _ => exact fk_X0 b hi
  | 3, _ => exact fk_X4 b hi
  | 4, _ => exact fk_X4 b hi
  | 5, _ => exact fk_X8 b hi
  | 6, _ => exact fk_X8 b hi
  | 7, _ => exact fk_K7 b hi
  | 8, _ => exact fk_K8 b hi
  | 9, _ => exact fk_X10_12 b hi
  | 10, _ => exact fk_K10 b hi
  | 11, _ => exact fk_X6 b hi
  | 12, _ => exact fk_X6 b hi
  | 13, _ => exact fk_X8 b hi
  | 14, _ => exact fk_X8 b hi
  | 15, _ => exact fk_X8 b hi
  | 16, _ => exact fk_X8 b hi
  | 17, _ => exact fk_X8 b hi
  | 18, _ => exact fk_X8 b hi
  | 19, _ => exact fk_X8 b hi
  | 20, _ => exact fk_X8 b hi
  | (n + 21), h => exact absurd h (by omega)
set_option maxRecDepth 100000 in
theorem a_blk {cI cJ cZ cMic cSrc cSt cAI cAJ : ClassId} {ad : Nat → Nat} {S : Nat → va_E} {bs : Nat → Nat → Nat} (h : BL cI cJ cZ cMic cSrc cSt cAI cAJ 21 ad S bs) {j i : Nat} (hj : j < 21) (hi : i < n3len j) : S (n3off j + i) = cc cI cJ cZ cMic cSrc cSt cAI cAJ ad aT0 (n3off j + i) := by
  obtain ⟨h1, h2⟩ := (Bool.and_eq_true _ _).mp (a_fin (a_fin a_loc hj) hi)
  have h1 : aloc (n3off j + i) = (j, i) := of_decide_eq_true h1
  rw [(h j hj i hi).1, n3_ccv hj (bs j) hi]
  show _ = ccv cI cJ cZ cMic cSrc cSt cAI cAJ ad (ash (aloc (n3off j + i)).1 (aloc (n3off j + i)).2) (fviR (aro (aloc (n3off j + i)).1 (aloc (n3off j + i)).2)) (fun _ => 0) (fun k => (arf (n3off j + i)).getD k none)
  rw [h1]
  refine ccv_map (fun k => ?_)
  rw [arf_get, h1]
  cases e : (avr j i).getD k none with
  | none => rfl
  | some q =>
    have hq := a_in h2 e
    show some (bs j q) = some (ad (aoff j + q))
    rw [a_off hj, (h j hj q hq).2]
set_option maxHeartbeats 4000000 in
set_option maxRecDepth 100000 in
theorem a_cells {cI cJ cZ cMic cSrc cSt cAI cAJ : ClassId} {ad : Nat → Nat} {S : Nat → va_E} (h : S 0 = iX11_0 cI cJ cZ cMic cSrc cSt cAI cAJ ad ∧ S 6 = iX11_6 cI cJ cZ cMic cSrc cSt cAI cAJ ad ∧ S 430 = iX11_430 cI cJ cZ cMic cSrc cSt cAI cAJ ad ∧ S 431 = iX11_431 cI cJ cZ cMic cSrc cSt cAI cAJ ad ∧ ∃ bs, BL cI cJ cZ cMic cSrc cSt cAI cAJ 21 ad S bs) : ∀ n, n < 1586 → S n = cc cI cJ cZ cMic cSrc cSt cAI cAJ ad aT0 n := by
  obtain ⟨h0, h6, h430, h431, bs, hB⟩ := h
  intro n hn
  by_cases e0 : n = 0
  · subst e0
    rw [h0]
    rfl
  by_cases e6 : n = 6
  · subst e6
    rw [h6]
    rfl
  by_cases e430 : n = 430
  · subst e430
    rw [h430]
    refine Eq.trans (congrArg (fun x => (Sum.inl (cSt, 6, Sum.inr (Sum.inr (Sum.inr (Sum.inr x)))) : va_E)) (fl_up ad 5 1304 (by decide) (fl_up ad 4 1210 (by decide) (fl_up ad 3 1116 (by decide) (fl_up ad 2 1022 (by decide) (fl_up ad 1 928 (by decide) (fl_up ad 0 834 (by decide) (fl_none ad 6))))))).symm) ?_
    have e : ∀ k, (((avr 23 0).getD k none : Option Nat)).map ad = ((arf 430).getD k none).map ad := fun k => by
      rw [arf_get 430 k]
      show _ = (((avr 23 0).getD k none).map (0 + ·)).map ad
      cases (avr 23 0).getD k none with
      | none => rfl
      | some q => show some (ad q) = some (ad (0 + q)); rw [Nat.zero_add]
    exact congrArg (fun x => (Sum.inl (cSt, 6, Sum.inr (Sum.inr (Sum.inr (Sum.inr x)))) : va_E)) (funext e)
  by_cases e431 : n = 431
  · subst e431
    rw [h431]
    refine Eq.trans (congrArg (fun x => (Sum.inl (cSt, 2, Sum.inr (Sum.inr (Sum.inr (Sum.inr x)))) : va_E)) (fl_up ad 1 1492 (by decide) (fl_up ad 0 1398 (by decide) (fl_none ad 2))).symm) ?_
    have e : ∀ k, (((avr 24 0).getD k none : Option Nat)).map ad = ((arf 431).getD k none).map ad := fun k => by
      rw [arf_get 431 k]
      show _ = (((avr 24 0).getD k none).map (0 + ·)).map ad
      cases (avr 24 0).getD k none with
      | none => rfl
      | some q => show some (ad q) = some (ad (0 + q)); rw [Nat.zero_add]
    exact congrArg (fun x => (Sum.inl (cSt, 2, Sum.inr (Sum.inr (Sum.inr (Sum.inr x)))) : va_E)) (funext e)
  have key : ∃ j i, j < 21 ∧ i < n3len j ∧ n = n3off j + i := by
    have c := a_fin (p := fun n => (n == 0 || n == 6 || n == 430 || n == 431) || (Nat.blt (aloc n).1 21 && Nat.blt (aloc n).2 (n3len (aloc n).1) && n == n3off (aloc n).1 + (aloc n).2)) (n := 1586) (by decide +kernel) hn
    simp only [Bool.or_eq_true, Bool.and_eq_true, beq_iff_eq] at c
    rcases c with c | ⟨⟨c1, c2⟩, c3⟩
    · omega
    · exact ⟨_, _, Nat.le_of_ble_eq_true c1, Nat.le_of_ble_eq_true c2, c3⟩
  obtain ⟨j, i, hj, hi, rfl⟩ := key
  exact a_blk hB hj hi
