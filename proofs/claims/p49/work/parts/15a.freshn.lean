set_option maxRecDepth 100000 in
theorem a_rc : (List.range 1586).all (fun n => (arf n).all (fun x => match x with | some q => Nat.blt q 1586 | none => true)) = true := by decide +kernel
set_option maxRecDepth 100000 in
theorem a_nine : (List.range 1586).all (fun n => !(Nat.beq (aR0 n) 9) || Nat.beq n 1) = true := by decide +kernel
set_option maxRecDepth 100000 in
theorem a_room : aK1 + 3000 ≤ 600000 ∧ aK2 + 200000 ≤ 7200000 := by decide +kernel
theorem a_hi {n : Nat} (h : 1586 ≤ n) : aloc n = (25, 0) := by
  have c : ∀ m, m ≤ 1586 → Nat.blt n m = false := fun m hm => by
    unfold Nat.blt
    exact Bool.eq_false_iff.mpr (fun q => by have := Nat.le_of_ble_eq_true q; omega)
  unfold aloc
  simp only [c _ (show 1 ≤ 1586 by decide), c _ (show 6 ≤ 1586 by decide), c _ (show 7 ≤ 1586 by decide), c _ (show 22 ≤ 1586 by decide), c _ (show 66 ≤ 1586 by decide), c _ (show 154 ≤ 1586 by decide), c _ (show 242 ≤ 1586 by decide), c _ (show 336 ≤ 1586 by decide), c _ (show 430 ≤ 1586 by decide), c _ (show 431 ≤ 1586 by decide), c _ (show 432 ≤ 1586 by decide), c _ (show 433 ≤ 1586 by decide), c _ (show 434 ≤ 1586 by decide), c _ (show 477 ≤ 1586 by decide), c _ (show 478 ≤ 1586 by decide), c _ (show 656 ≤ 1586 by decide), c _ (show 834 ≤ 1586 by decide), c _ (show 928 ≤ 1586 by decide), c _ (show 1022 ≤ 1586 by decide), c _ (show 1116 ≤ 1586 by decide), c _ (show 1210 ≤ 1586 by decide), c _ (show 1304 ≤ 1586 by decide), c _ (show 1398 ≤ 1586 by decide), c _ (show 1492 ≤ 1586 by decide), c _ (show 1586 ≤ 1586 by decide), cond_false]
theorem aR0_hi {n : Nat} (h : 1586 ≤ n) : aR0 n = 30 := by
  unfold aR0
  rw [a_hi h]
  rfl
theorem a_RC : RC aT0 := by
  intro n k q h
  have h : (arf n).getD k none = some q := h
  by_cases hn : n < 1586
  · exact a_in (a_fin a_rc hn) h
  · have e : arf n = [] := by
      unfold arf
      rw [a_hi (Nat.not_lt.mp hn)]
      rfl
    rw [e] at h
    cases h
set_option maxHeartbeats 4000000 in
set_option maxRecDepth 100000 in
theorem a_IV : IV aR0 1586 aK1 aK2 aT0 := by
  have hs : ∀ n, sta aR0 1586 n → a_sta n = true := fun n h => by
    unfold a_sta
    rw [nbeq h.2.1, nbeq h.2.2]
    rfl
  have key : ∀ n, sta aR0 1586 n → aT0.2.1 n = shp (aR0 n) ∧ ((List.range 150).all (fun k => Nat.beq (rtg (aR0 n) k) 99 || (match (arf n).getD k none with | some q => Nat.blt q 1586 && Nat.beq (aR0 q) (rtg (aR0 n) k) | none => false)) = true) ∧ (isW (aR0 n) = true → (match (arf n).getD 1 none with | some q => (match (arf q).getD 0 none with | some r => decide (aT0.2.1 r = (101, cnt (aR0 n))) | none => false) | none => true) = true) ∧ (isRW (aR0 n) = true → (arf n).all (fun x => match x with | some r => Nat.blt r 1586 && (Nat.beq (aT0.2.1 r).1 101 && (Nat.beq (aT0.2.1 r).2 0 || Nat.beq (aT0.2.1 r).2 (wC (aR0 n)))) | none => true) = true) := fun n h => by
    have c := a_fin a_all h.1
    unfold a_chk at c
    rw [hs n h] at c
    simp only [Bool.not_true, Bool.false_or, Bool.and_eq_true, decide_eq_true_eq] at c
    refine ⟨c.1, a_k150 c.2.1.1, fun w => ?_, fun w => ?_⟩
    · have c2 := c.2.1.2
      rw [w] at c2
      exact c2
    · have c2 := c.2.2
      rw [w] at c2
      exact c2
  refine ⟨⟨fun n h1 h2 => ?_, ⟨fun n h1 m h2 => ?_, fun n h => aR0_hi h⟩, Nat.le_refl _⟩, fun n h => (key n h).1, fun n k h hk => ?_, fun n k h => fviR_ok (aR0 n) k, fun n h hW q hq p hp => ?_, fun n p r h hW hr => ?_, rfl, rfl⟩
  · exact Nat.lt_of_not_le (fun q => h2 (aR0_hi q))
  · have nine : ∀ n, aR0 n = 9 → n = 1 := fun n h => by
      by_cases hn : n < 1586
      · have c := a_fin a_nine hn
        rw [h] at c
        exact Nat.eq_of_beq_eq_true c
      · rw [aR0_hi (Nat.not_lt.mp hn)] at h
        cases h
    rw [nine n h1, nine m h2]
  · by_cases h150 : k < 150
    · have c := a_fin (key n h).2.1 h150
      rw [nbeq hk, Bool.false_or] at c
      show ∃ q, (arf n).getD k none = some q ∧ _
      cases e : (arf n).getD k none with
      | none => rw [e] at c; cases c
      | some q =>
        rw [e] at c
        obtain ⟨c1, c2⟩ := (Bool.and_eq_true _ _).mp c
        exact ⟨q, rfl, Nat.le_of_ble_eq_true c1, Nat.eq_of_beq_eq_true c2⟩
    · exact absurd (rtg_hi (Nat.not_lt.mp h150)) hk
  · have c := (key n h).2.2.1 hW
    have hq : (arf n).getD 1 none = some q := hq
    rw [hq] at c
    have c : (match (arf q).getD 0 none with | some r => decide (aT0.2.1 r = (101, cnt (aR0 n))) | none => false) = true := c
    have hp0 : p = 0 := by
      have hi := fviR_ok (aR0 n) 2
      have e : (aT0.2.2.1 n 2).toInt = 1 := by
        show (fviR (aR0 n) 2).toInt = 1
        unfold fviR
        rw [hW]
        rfl
      rw [e] at hp
      omega
    subst hp0
    show ∃ r, (arf q).getD 0 none = some r ∧ _
    cases e : (arf q).getD 0 none with
    | none => rw [e] at c; cases c
    | some r =>
      rw [e] at c
      exact ⟨r, rfl, of_decide_eq_true c⟩
  · have c := (key n h).2.2.2 hW
    have hr : (arf n).getD p none = some r := hr
    have hm : some r ∈ arf n := by
      rw [List.getD_eq_getElem?_getD] at hr
      cases hk : (arf n)[p]? with
      | none => rw [hk] at hr; cases hr
      | some x =>
        rw [hk] at hr
        have e : x = some r := hr
        rw [← e]
        exact List.mem_of_getElem? hk
    have c := List.all_eq_true.mp c _ hm
    obtain ⟨c1, c2⟩ := (Bool.and_eq_true _ _).mp c
    obtain ⟨c3, c4⟩ := (Bool.and_eq_true _ _).mp c2
    refine ⟨Nat.le_of_ble_eq_true c1, Nat.eq_of_beq_eq_true c3, ?_⟩
    rcases (Bool.or_eq_true _ _).mp c4 with c5 | c5
    · exact .inl (Nat.eq_of_beq_eq_true c5)
    · exact .inr (Nat.eq_of_beq_eq_true c5)

