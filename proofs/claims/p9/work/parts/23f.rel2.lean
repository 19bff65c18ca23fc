/-! R2: what class and reference hold alike between calls: R1, delays, states (all but samples), the past, what is saved -/
section
variable {T T1 : AT} {S S1 : MS} {P P1 A A1 : Nat → Int32} {d e o o1 s : Nat}
def STa (T : AT) (d : Nat) (P A : Nat → Int32) (o : Nat) : Prop :=
  T.2.2.1 d 0 = P 4 ∧ T.2.2.1 d 1 = P 2 ∧ T.2.2.1 d 2 = A o
  ∧ (∀ m : Nat, (m : Int) < (P 4).toInt → T.2.2.1 (d + 1) m = A (o + 1 + m) ∧ T.2.2.1 (d + 2) m = A (o + 13 + m))
  ∧ ∀ k : Nat, (k : Int) < (P 5).toInt → T.2.2.1 (d + 3) k = A (o + 25 + k) ∧ T.2.2.1 (d + 4) k = A (o + 31 + k) ∧ T.2.2.1 (d + 5) k = A (o + 37 + k) ∧ T.2.2.1 (d + 6) k = A (o + 43 + k) ∧ T.2.2.1 (d + 7) k = A (o + 49 + k)
/-- the cells of state d in T1 stand as those of e in T, the row A1 from o1 on as A from o on -/
theorem STa.mv (h : STa T e P A o) (p4 : (P 4).toInt ≤ 12) (p5 : (P 5).toInt ≤ 6) (h3 : ∀ j, j < 3 → T1.2.2.1 d j = T.2.2.1 e j) (h12 : ∀ k, k < 12 → T1.2.2.1 (d + 1) k = T.2.2.1 (e + 1) k ∧ T1.2.2.1 (d + 2) k = T.2.2.1 (e + 2) k) (h6 : ∀ k, k < 6 → T1.2.2.1 (d + 3) k = T.2.2.1 (e + 3) k ∧ T1.2.2.1 (d + 4) k = T.2.2.1 (e + 4) k ∧ T1.2.2.1 (d + 5) k = T.2.2.1 (e + 5) k ∧ T1.2.2.1 (d + 6) k = T.2.2.1 (e + 6) k ∧ T1.2.2.1 (d + 7) k = T.2.2.1 (e + 7) k) (hA : ∀ x, x < 55 → A1 (o1 + x) = A (o + x)) (hP : ∀ x, x < 131 → P1 x = P x) : STa T1 d P1 A1 o1 := by
  obtain ⟨a0, a1, a2, am, ak⟩ := h
  refine ⟨?_, ?_, ?_, fun m hm => ?_, fun k hk => ?_⟩
  · rw [h3 0 (by decide), hP 4 (by decide)]; exact a0
  · rw [h3 1 (by decide), hP 2 (by decide)]; exact a1
  · rw [h3 2 (by decide)]
    exact a2.trans (hA 0 (by decide)).symm
  · rw [hP 4 (by decide)] at hm
    obtain ⟨b1, b2⟩ := am m hm
    obtain ⟨c1, c2⟩ := h12 m (by omega)
    rw [c1, c2, b1, b2, Nat.add_assoc o1, Nat.add_assoc o1, hA _ (by omega), hA _ (by omega), Nat.add_assoc o, Nat.add_assoc o]
    exact ⟨rfl, rfl⟩
  · rw [hP 5 (by decide)] at hk
    obtain ⟨b1, b2, b3, b4, b5⟩ := ak k hk
    obtain ⟨c1, c2, c3, c4, c5⟩ := h6 k (by omega)
    rw [c1, c2, c3, c4, c5, b1, b2, b3, b4, b5, Nat.add_assoc o1, Nat.add_assoc o1, Nat.add_assoc o1, Nat.add_assoc o1, Nat.add_assoc o1, hA _ (by omega), hA _ (by omega), hA _ (by omega), hA _ (by omega), hA _ (by omega), Nat.add_assoc o, Nat.add_assoc o, Nat.add_assoc o, Nat.add_assoc o, Nat.add_assoc o]
    exact ⟨rfl, rfl, rfl, rfl, rfl⟩
theorem STa.cg (h : STa T d P A o) (p4 : (P 4).toInt ≤ 12) (p5 : (P 5).toInt ≤ 6) (hT : ∀ m k, d ≤ m → m < d + 8 → m ≠ d ∨ k < 3 → T1.2.2.1 m k = T.2.2.1 m k) (hA : ∀ x, x < 55 → A1 (o1 + x) = A (o + x)) (hP : ∀ x, x < 131 → P1 x = P x) : STa T1 d P1 A1 o1 :=
  h.mv p4 p5 (fun j hj => hT _ _ (by omega) (by omega) (.inr hj)) (fun k _ => ⟨hT _ _ (by omega) (by omega) (.inl (by omega)), hT _ _ (by omega) (by omega) (.inl (by omega))⟩) (fun k _ => ⟨hT _ _ (by omega) (by omega) (.inl (by omega)), hT _ _ (by omega) (by omega) (.inl (by omega)), hT _ _ (by omega) (by omega) (.inl (by omega)), hT _ _ (by omega) (by omega) (.inl (by omega)), hT _ _ (by omega) (by omega) (.inl (by omega))⟩) hA hP
theorem STa.cp (h : STa T e P A o) (p4 : (P 4).toInt ≤ 12) (p5 : (P 5).toInt ≤ 6) (hc : CPd d e T T1) (hA : ∀ x, x < 55 → A1 (o1 + x) = A (o + x)) (hP : ∀ x, x < 131 → P1 x = P x) : STa T1 d P1 A1 o1 :=
  h.mv p4 p5 hc.1 hc.2.1 hc.2.2.1 hA hP
def DLq (T : AT) (S : MS) : Prop := ∀ s, T.2.2.2.2 0 14 = some s → ∀ c m : Nat, (c : Int) < (S.2.1 10 9 * S.2.1 10 10).toInt → (m : Int) < (S.2.1 10 4).toInt → T.2.2.1 (s + 16 + c) m = S.2.1 17 (12 * c + m)
def PSq (T : AT) (S : MS) : Prop := ∃ u w : Nat, u ≤ 6 ∧ w ≤ 5 ∧ S.1 19 = nI u ∧ T.2.2.1 0 17 = nI w ∧ ∀ j, j < u → STa T (834 + 94 * ((w + 7 + j - u) % 6)) (S.2.1 10) (S.2.1 15) (2455 * j)
def SVq (T : AT) (S : MS) : Prop := ∀ k, k < 2 → S.2.1 18 k ≠ 0 → STa T (1398 + 94 * k) (S.2.1 10) (S.2.1 16) (2455 * k)
def R2 (T : AT) (S : MS) : Prop := R1 T S ∧ T.2.2.1 0 16 = S.1 19 ∧ ((∀ k, k < 2 → T.2.2.1 432 k = S.2.1 18 k) ∧ (S.1 20 = 0 → S.1 19 = 0 ∧ ∀ k, k < 2 → S.2.1 18 k = 0)) ∧ (S.1 20 = 1 → STa T 242 (S.2.1 10) (S.2.1 12) 0 ∧ DLq T S ∧ PSq T S ∧ SVq T S)
/-- class: what R2 speaks of is as it was -/
def CKr (T T1 : AT) : Prop := T1.2.2.1 0 16 = T.2.2.1 0 16 ∧ T1.2.2.1 0 17 = T.2.2.1 0 17 ∧ (∀ k, T1.2.2.1 432 k = T.2.2.1 432 k) ∧ (∀ d, d ∈ sds → d ≠ 336 → ∀ m k, d ≤ m → m < d + 8 → m ≠ d ∨ k < 3 → T1.2.2.1 m k = T.2.2.1 m k) ∧ (∀ s c k, (s = 478 ∨ s = 656) → c < 144 → T1.2.2.1 (s + 16 + c) k = T.2.2.1 (s + 16 + c) k) ∧ T1.2.2.2.2 0 14 = T.2.2.2.2 0 14
theorem CKr.rf : CKr T T := ⟨rfl, rfl, fun _ => rfl, fun _ _ _ _ _ _ _ _ => rfl, fun _ _ _ _ _ => rfl, rfl⟩
theorem CKr.tr {T2 : AT} (h : CKr T T1) (k : CKr T1 T2) : CKr T T2 := ⟨k.1.trans h.1, k.2.1.trans h.2.1, fun j => (k.2.2.1 j).trans (h.2.2.1 j), fun d a b m j x y z => (k.2.2.2.1 d a b m j x y z).trans (h.2.2.2.1 d a b m j x y z), fun s c j x y => (k.2.2.2.2.1 s c j x y).trans (h.2.2.2.2.1 s c j x y), k.2.2.2.2.2.trans h.2.2.2.2.2⟩
def FKr (S S1 : MS) : Prop := S1.1 19 = S.1 19 ∧ S1.1 20 = S.1 20 ∧ S1.2.1 10 = S.2.1 10 ∧ S1.2.1 12 = S.2.1 12 ∧ S1.2.1 15 = S.2.1 15 ∧ S1.2.1 16 = S.2.1 16 ∧ S1.2.1 17 = S.2.1 17 ∧ S1.2.1 18 = S.2.1 18
theorem r2_pl (hP : PL (S.2.1 10)) : (S.2.1 10 4).toInt ≤ 12 ∧ (S.2.1 10 5).toInt ≤ 6 := ⟨(pl_4 hP).2, (pl_5 hP).2⟩
theorem pas_ne {i : Nat} : 834 + 94 * i ≠ 336 := by omega
theorem slo_ne {i : Nat} : 1398 + 94 * i ≠ 336 := by omega
theorem DLq.cg (h : DLq T S) (hc : CKr T T1) (hs : ∀ s, T.2.2.2.2 0 14 = some s → s = 478 ∨ s = 656) (p : (S.2.1 10 9 * S.2.1 10 10).toInt ≤ 144) (hP : S1.2.1 10 = S.2.1 10) (h17 : S1.2.1 17 = S.2.1 17) : DLq T1 S1 := by
  intro s h14 c m hc1 hm
  rw [hc.2.2.2.2.2] at h14
  rw [hP] at hc1 hm
  rw [hc.2.2.2.2.1 s c m (hs s h14) (by omega), h17]
  exact h s h14 c m hc1 hm
theorem PSq.cg (h : PSq T S) (hc : CKr T T1) (p4 : (S.2.1 10 4).toInt ≤ 12) (p5 : (S.2.1 10 5).toInt ≤ 6) (h19 : S1.1 19 = S.1 19) (hP : S1.2.1 10 = S.2.1 10) (h15 : S1.2.1 15 = S.2.1 15) : PSq T1 S1 := by
  obtain ⟨u, w, hu, hw, eu, ew, hj⟩ := h
  refine ⟨u, w, hu, hw, h19.trans eu, hc.2.1.trans ew, fun j h => ?_⟩
  rw [hP, h15]
  exact (hj j h).cg p4 p5 (hc.2.2.2.1 _ (past_in (Nat.mod_lt _ (by decide))) pas_ne) (fun _ _ => rfl) (fun _ _ => rfl)
theorem SVq.cg (h : SVq T S) (hc : CKr T T1) (p4 : (S.2.1 10 4).toInt ≤ 12) (p5 : (S.2.1 10 5).toInt ≤ 6) (hP : S1.2.1 10 = S.2.1 10) (h16 : S1.2.1 16 = S.2.1 16) (h18 : S1.2.1 18 = S.2.1 18) : SVq T1 S1 := by
  intro k hk hn
  rw [h18] at hn
  rw [hP, h16]
  exact (h k hk hn).cg p4 p5 (hc.2.2.2.1 _ (slot_in hk) slo_ne) (fun _ _ => rfl) (fun _ _ => rfl)
theorem r1_s (h : R1 T S) {s : Nat} (h14 : T.2.2.2.2 0 14 = some s) : s = 478 ∨ s = 656 := by
  obtain ⟨s', hs, e, -⟩ := h.2.2.2.2
  rw [h14] at e
  cases e
  exact hs
theorem r2_keepG (hL : S.1 20 = 1 → PL (S.2.1 10)) (h : R2 T S) (h1 : R1 T1 S1) (hT : CKr T T1) (hS : FKr S S1) : R2 T1 S1 := by
  obtain ⟨hr, h16, h18, hs⟩ := h
  obtain ⟨f19, f20, f10, f12, f15, f16, f17, f18⟩ := hS
  refine ⟨h1, hT.1.trans (h16.trans f19.symm), ⟨fun k hk => by rw [hT.2.2.1 k, f18]; exact h18.1 k hk, fun z => by
    rw [f20] at z
    rw [f19, f18]
    exact h18.2 z⟩, fun c => ?_⟩
  rw [f20] at c
  obtain ⟨a, b, p, v⟩ := hs c
  have hP := hL c
  obtain ⟨p4, p5⟩ := r2_pl hP
  refine ⟨?_, b.cg hT (fun s => r1_s hr) (pl_cell hP).2.2.1 f10 f17, p.cg hT p4 p5 f19 f10 f15, v.cg hT p4 p5 f10 f16 f18⟩
  rw [f10, f12]
  exact a.cg p4 p5 (hT.2.2.2.1 242 (by decide) (by decide)) (fun _ _ => rfl) (fun _ _ => rfl)
def okW2 (W : List Nat) : Bool := [256, 257, 258, 1984, 2016, 2048, 2080, 2112, 1600, 368, 369, 1568].all (fun x => !(W.contains x))
set_option maxRecDepth 100000 in
theorem dl_dec : [478, 656].all (fun s => (List.range 144).all (fun c => Nat.beq (aR0 (s + 16 + c)) 50)) = true := by decide +kernel
theorem dl_ro (hs : s = 478 ∨ s = 656) {c : Nat} (hc : c < 144) : aR0 (s + 16 + c) = 50 := by
  have q := List.all_eq_true.mp dl_dec s (by rcases hs with e | e <;> rw [e] <;> decide)
  exact Nat.eq_of_beq_eq_true (a_fin (p := fun c => Nat.beq (aR0 (s + 16 + c)) 50) q hc)
theorem ck_st {W : List Nat} (hw : FW aR0 W T T1) (f : ∀ x, x ∈ [256, 257, 258, 1984, 2016, 2048, 2080, 2112] → W.contains x = false) (hd : d ∈ sds) : ∀ m k, d ≤ m → m < d + 8 → m ≠ d ∨ k < 3 → T1.2.2.1 m k = T.2.2.1 m k := by
  obtain ⟨r0, r1, r2, r3, r4, r5, r6, r7, -⟩ := sd_ro hd
  intro m k h1 h2 h3
  refine hw m k ?_
  rcases (show m = d ∨ m = d + 1 ∨ m = d + 2 ∨ m = d + 3 ∨ m = d + 4 ∨ m = d + 5 ∨ m = d + 6 ∨ m = d + 7 by omega) with q | q | q | q | q | q | q | q <;> subst q
  · rw [r0]
    rcases (show k = 0 ∨ k = 1 ∨ k = 2 by omega) with q | q | q <;> subst q
    · exact f 256 (by decide)
    · exact f 257 (by decide)
    · exact f 258 (by decide)
  · rw [r1]; exact f 1984 (by decide)
  · rw [r2]; exact f 2016 (by decide)
  · rw [r3]; exact f 2048 (by decide)
  · rw [r4]; exact f 2080 (by decide)
  · rw [r5]; exact f 2080 (by decide)
  · rw [r6]; exact f 2112 (by decide)
  · rw [r7]; exact f 2112 (by decide)
theorem okW2_f {W : List Nat} (c : okW2 W = true) (x : Nat) (hx : x ∈ [256, 257, 258, 1984, 2016, 2048, 2080, 2112, 1600, 368, 369, 1568]) : W.contains x = false := con_f (W := W) (List.all_eq_true.mp c x hx)
theorem sub8 {x : Nat} (hx : x ∈ [256, 257, 258, 1984, 2016, 2048, 2080, 2112]) : x ∈ [256, 257, 258, 1984, 2016, 2048, 2080, 2112, 1600, 368, 369, 1568] := by
  rw [show [256, 257, 258, 1984, 2016, 2048, 2080, 2112, 1600, 368, 369, 1568] = [256, 257, 258, 1984, 2016, 2048, 2080, 2112] ++ [1600, 368, 369, 1568] from rfl]
  exact List.mem_append_left _ hx
theorem r432 : aR0 432 = 49 := by decide +kernel
theorem ck_fw {W : List Nat} (hV : IV aR0 1586 aK1 aK2 T) (hw : FW aR0 W T T1) (c : okW2 W = true) (hg : GR T T1) : CKr T T1 := by
  have r0 := rrole.2.2.2
  refine ⟨hw 0 16 ?_, hw 0 17 ?_, fun k => hw 432 k ?_, fun d hd _ => ck_st hw (fun x hx => okW2_f c x (sub8 hx)) hd, fun s c' k hs hc => hw _ k ?_, e14_gr hV hg⟩
  · rw [r0]; exact okW2_f c 368 (by decide)
  · rw [r0]; exact okW2_f c 369 (by decide)
  · rw [r432]; exact okW2_f c 1568 (by decide)
  · rw [dl_ro hs hc]; exact okW2_f c 1600 (by decide)
theorem ck_eq (h : T1 = T) : CKr T T1 := by rw [h]; exact CKr.rf
theorem sd_nw {m : Nat} (hd : d ∈ sds) (h1 : d ≤ m) (h2 : m < d + 8) : isW (aR0 m) = false := by
  obtain ⟨r0, r1, r2, r3, r4, r5, r6, r7, -⟩ := sd_ro hd
  rcases (show m = d ∨ m = d + 1 ∨ m = d + 2 ∨ m = d + 3 ∨ m = d + 4 ∨ m = d + 5 ∨ m = d + 6 ∨ m = d + 7 by omega) with q | q | q | q | q | q | q | q <;> subst q
  · rw [r0]; rfl
  · rw [r1]; rfl
  · rw [r2]; rfl
  · rw [r3]; rfl
  · rw [r4]; rfl
  · rw [r5]; rfl
  · rw [r6]; rfl
  · rw [r7]; rfl
/-- a copy into the state of trials -/
theorem ck_trial (hV : IV aR0 1586 aK1 aK2 T) (h : CPd 336 242 T T1) (hg : GR T T1) : CKr T T1 := by
  have r0 := rrole.2.2.2
  refine ⟨h.2.2.2 0 16 (.inl (by decide)) (by rw [r0]; rfl), h.2.2.2 0 17 (.inl (by decide)) (by rw [r0]; rfl), fun k => h.2.2.2 432 k (.inr (by decide)) (by rw [r432]; rfl), fun d hd hne m k h1 h2 _ => h.2.2.2 m k ?_ (sd_nw hd h1 h2), fun s c k hs hc => h.2.2.2 _ k (.inr (by omega)) (by rw [dl_ro hs hc]; rfl), e14_gr hV hg⟩
  have gap := sd_gap hd (show 336 ∈ sds from by decide) hne
  omega
/-- a recording into the state of trials -/
theorem ck_out {W : List Nat} (hV : IV aR0 1586 aK1 aK2 T) (hs : s = 478 ∨ s = 656) (o : ∀ m k, ¬ (7 ≤ m ∧ m < 22) → ¬ (s ≤ m ∧ m < s + 178) → ¬ (336 ≤ m ∧ m < 430) → T1.2.2.1 m k = T.2.2.1 m k) (hw : FW aR0 W T T1) (c : W.contains 1600 = false) (hg : GR T T1) : CKr T T1 := by
  refine ⟨o 0 16 (by omega) (by omega) (by omega), o 0 17 (by omega) (by omega) (by omega), fun k => o 432 k (by omega) (by omega) (by omega), fun d hd hne m k h1 h2 _ => ?_, fun s c' k hs hc => hw _ k (by rw [dl_ro hs hc]; exact c), e14_gr hV hg⟩
  have gap := sd_gap hd (show 336 ∈ sds from by decide) hne
  have si := sd_in hd
  exact o m k (by omega) (by omega) (by omega)
theorem ck_uI {n k : Nat} {v : Int32} (hn : 336 ≤ n ∧ n < 344) : CKr T (uI T n k v) := by
  refine ⟨ui_ne (.inl (by omega)), ui_ne (.inl (by omega)), fun j => ui_ne (.inl (by omega)), fun d hd hne m j h1 h2 _ => ui_ne (.inl ?_), fun s c j hs hc => ui_ne (.inl (by omega)), rfl⟩
  have gap := sd_gap hd (show 336 ∈ sds from by decide) hne
  omega
end
