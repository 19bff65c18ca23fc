/-! R2 through the steps of a change -/
section
variable {T T1 : AT} {S S1 : MS} {s : Nat}
theorem r1_fk (f10 : S1.2.1 10 = S.2.1 10) (f1 : S1.2.1 1 = S.2.1 1) (h2 : S1.1 2 = S.1 2) (h5 : S1.1 5 = S.1 5) (h6 : S1.1 6 = S.1 6) (h20 : S1.1 20 = S.1 20) : FKq S S1 := ⟨h2, h5, h6, h20, f1, f10⟩
/-- both keep the state as it is for undo -/
theorem r2_keepu (hP : PL (S.2.1 10)) (h20 : S.1 20 = 1) (hV : IV aR0 1586 aK1 aK2 T) (h : R2 T S) (g : g_X11_keepForUndo T 0 = some T1) (f : fr_remember S = some S1) : R2 T1 S1 ∧ IV aR0 1586 aK1 aK2 T1 ∧ S1.1 20 = 1 ∧ S1.2.1 10 = S.2.1 10 ∧ S1.2.1 12 = S.2.1 12 ∧ S1.1 0 = S.1 0 ∧ ∀ m k, 242 ≤ m → m < 250 → m ≠ 242 ∨ k < 3 → T1.2.2.1 m k = T.2.2.1 m k := by
  obtain ⟨hr, h16, h18, hs⟩ := h
  obtain ⟨a, b, ⟨u, w, hu, hw, eu, ew, hj⟩, v⟩ := hs h20
  obtain ⟨p4, p5⟩ := r2_pl hP
  have c := tgo (cs_X11_keepForUndo T 0 hV rrole.2.2.2) g
  have k := w_fr_remember f
  obtain ⟨U, cp, k16, k17, ko⟩ := c_keepu hr.1 hV hu hw (h16.trans eu) ew g
  obtain ⟨x, hx, x19, xl, xo⟩ := x_remember hu eu f
  have gr := sr_X11_keepForUndo g
  have w6 : (w + 1) % 6 < 6 := Nat.mod_lt _ (by decide)
  have R : R1 T1 S1 := r1_keep hr hV c.2 (by decide +kernel) gr ⟨k.1 2 (by decide), k.1 5 (by decide), k.1 6 (by decide), k.1 20 (by decide), k.2 1 (by decide), k.2 10 (by decide)⟩
  have f10 := k.2 10 (by decide)
  have f12 := k.2 12 (by decide)
  have e14 := e14_gr hV gr
  have st : ∀ d, d ∈ sds → d ≠ 834 + 94 * ((w + 1) % 6) → ∀ m k, d ≤ m → m < d + 8 → T1.2.2.1 m k = T.2.2.1 m k := fun d hd hne m k h1 h2 => by
    have gap := sd_gap hd (past_in w6) hne
    have si := sd_in hd
    rw [ko m k (by omega) (by omega), cp.2.2.2 m k (by omega) (sd_nw hd h1 h2)]
  have s242 : ∀ m k, 242 ≤ m → m < 250 → m ≠ 242 ∨ k < 3 → T1.2.2.1 m k = T.2.2.1 m k := fun m k h1 h2 _ => st 242 (by decide) (by omega) m k h1 h2
  refine ⟨⟨R, ?_, ⟨fun j hj => ?_, fun z => absurd ((k.1 20 (by decide)).symm.trans z) (by rw [h20]; decide)⟩, fun _ => ⟨?_, ?_, ?_, ?_⟩⟩, c.1, (k.1 20 (by decide)).trans h20, f10, f12, k.1 0 (by decide), s242⟩
  · rw [k16, x19]
    rcases hx with ⟨q, q2⟩ | ⟨q, q2⟩
    · rw [if_neg (by omega), q2]
    · rw [if_pos q, q2]
  · rw [ko 432 j (by decide) (by decide), cp.2.2.2 432 j (by omega) (by rw [r432]; rfl), k.2 18 (by decide)]
    exact h18.1 j hj
  · rw [f10, f12]
    exact a.cg p4 p5 s242 (fun _ _ => rfl) (fun _ _ => rfl)
  · intro s e c' m hc hm
    rw [e14] at e
    rw [f10] at hc hm
    have si := r1_s hr e
    have pc := (pl_cell hP).2.2.1
    rw [ko _ m (by omega) (by omega), cp.2.2.2 _ m (by omega) (by rw [dl_ro si (by omega)]; rfl), k.2 17 (by decide)]
    exact b s e c' m hc hm
  · refine ⟨x, (w + 1) % 6, by omega, by omega, x19, k17, fun j hjx => ?_⟩
    rw [f10]
    by_cases q : j + 1 = x
    · have e1 : ((w + 1) % 6 + 7 + j - x) % 6 = (w + 1) % 6 := by omega
      have e2 : j = x - 1 := by omega
      rw [e1, e2]
      refine a.mv p4 p5 (fun i hi => ?_) (fun i hi => ?_) (fun i hi => ?_) (fun y hy => ?_) (fun _ _ => rfl)
      · rw [ko _ i (by omega) (by omega)]; exact cp.1 i hi
      · rw [ko _ i (by omega) (by omega), ko _ i (by omega) (by omega)]; exact cp.2.1 i hi
      · rw [ko _ i (by omega) (by omega), ko _ i (by omega) (by omega), ko _ i (by omega) (by omega), ko _ i (by omega) (by omega), ko _ i (by omega) (by omega)]; exact cp.2.2.1 i hi
      · rw [xl y (by omega), Nat.zero_add]
    · have e1 : ((w + 1) % 6 + 7 + j - x) % 6 = (w + 7 + (j + (u + 1 - x)) - u) % 6 := by omega
      have ne : (w + 7 + (j + (u + 1 - x)) - u) % 6 ≠ (w + 1) % 6 := by omega
      rw [e1]
      have l6 : (w + 7 + (j + (u + 1 - x)) - u) % 6 < 6 := Nat.mod_lt _ (by decide)
      exact (hj (j + (u + 1 - x)) (by omega)).cg p4 p5 (fun m i h1 h2 _ => st _ (past_in l6) (by omega) m i h1 h2) (fun y hy => xo j y (by omega) (by omega)) (fun _ _ => rfl)
  · intro i hi hn
    rw [k.2 18 (by decide)] at hn
    rw [f10, k.2 16 (by decide)]
    exact (v i hi hn).cg p4 p5 (fun m j h1 h2 _ => st _ (slot_in hi) (by omega) m j h1 h2) (fun _ _ => rfl) (fun _ _ => rfl)
/-- a number of the state is set in both: a-th row of the class, from off on in the reference -/
def rowat (a off b : Nat) : Prop := a = 1 ∧ off = 1 ∧ b = 12 ∨ a = 2 ∧ off = 13 ∧ b = 12 ∨ a = 3 ∧ off = 25 ∧ b = 6 ∨ a = 4 ∧ off = 31 ∧ b = 6 ∨ a = 5 ∧ off = 37 ∧ b = 6 ∨ a = 6 ∧ off = 43 ∧ b = 6 ∨ a = 7 ∧ off = 49 ∧ b = 6
theorem st_set {P A : Nat → Int32} {a off b k : Nat} {x : Int32} (hr : rowat a off b) (hk : k < b) (p4 : (P 4).toInt ≤ 12) (p5 : (P 5).toInt ≤ 6) (h : STa T 242 P A 0) : STa (uI T (242 + a) k x) 242 P (upd A (off + k) x) 0 := by
  unfold rowat at hr
  obtain ⟨a0, a1, a2, am, ak⟩ := h
  have key : ∀ r o j : Nat, (242 + r = 242 + a ∧ j = k ↔ 0 + o + j = off + k) → T.2.2.1 (242 + r) j = A (0 + o + j) → (uI T (242 + a) k x).2.2.1 (242 + r) j = upd A (off + k) x (0 + o + j) := fun r o j hq e => by
    rw [ui_get]
    show _ = if 0 + o + j = off + k then x else A (0 + o + j)
    by_cases q : 242 + r = 242 + a ∧ j = k
    · rw [if_pos q, if_pos (hq.mp q)]
    · rw [if_neg q, if_neg (fun z => q (hq.mpr z))]; exact e
  refine ⟨?_, ?_, ?_, fun m hm => ?_, fun m hm => ?_⟩
  · rw [ui_ne (.inl (by omega))]; exact a0
  · rw [ui_ne (.inl (by omega))]; exact a1
  · rw [ui_ne (.inl (by omega))]
    show _ = if 0 = off + k then x else A 0
    rw [if_neg (by omega)]; exact a2
  · obtain ⟨b1, b2⟩ := am m hm
    exact ⟨key 1 1 m (by omega) b1, key 2 13 m (by omega) b2⟩
  · obtain ⟨b1, b2, b3, b4, b5⟩ := ak m hm
    exact ⟨key 3 25 m (by omega) b1, key 4 31 m (by omega) b2, key 5 37 m (by omega) b3, key 6 43 m (by omega) b4, key 7 49 m (by omega) b5⟩
theorem r2_set {a off b k : Nat} {x : Int32} (hP : PL (S.2.1 10)) (hV : IV aR0 1586 aK1 aK2 T) (hr : rowat a off b) (hk : k < b) (h : R2 T S) : R2 (uI T (242 + a) k x) (mf S 12 (upd (S.2.1 12) (off + k) x)) := by
  obtain ⟨h1, h16, h18, hs⟩ := h
  obtain ⟨p4, p5⟩ := r2_pl hP
  have ha : 1 ≤ a ∧ a ≤ 7 := by unfold rowat at hr; omega
  obtain ⟨r0, r1, r2, r3, r4, r5, r6, r7, -⟩ := sd_ro (show 242 ∈ sds from by decide)
  have fw : ∃ W, FW aR0 W T (uI T (242 + a) k x) ∧ okW W = true := by
    rcases (show a = 1 ∨ a = 2 ∨ a = 3 ∨ a = 4 ∨ a = 5 ∨ a = 6 ∨ a = 7 by omega) with q | q | q | q | q | q | q <;> subst q
    · exact ⟨[1984], fw_uA rfl r1 rfl rfl (by decide), by decide +kernel⟩
    · exact ⟨[2016], fw_uA rfl r2 rfl rfl (by decide), by decide +kernel⟩
    · exact ⟨[2048], fw_uA rfl r3 rfl rfl (by decide), by decide +kernel⟩
    · exact ⟨[2080], fw_uA rfl r4 rfl rfl (by decide), by decide +kernel⟩
    · exact ⟨[2080], fw_uA rfl r5 rfl rfl (by decide), by decide +kernel⟩
    · exact ⟨[2112], fw_uA rfl r6 rfl rfl (by decide), by decide +kernel⟩
    · exact ⟨[2112], fw_uA rfl r7 rfl rfl (by decide), by decide +kernel⟩
  obtain ⟨W, hw, ow⟩ := fw
  refine ⟨r1_keep h1 hV hw ow (gr_sp ⟨rfl, rfl, rfl⟩) ⟨rfl, rfl, rfl, rfl, mf_ne (by decide), mf_ne (by decide)⟩, ?_, ⟨fun j hj => ?_, fun z => ?_⟩, fun h20 => ?_⟩
  · rw [ui_ne (.inl (by omega))]; exact h16
  · rw [ui_ne (.inl (by omega)), mf_ne (by decide)]; exact h18.1 j hj
  · rw [mf_ne (by decide)]; exact h18.2 z
  · obtain ⟨c, d, ⟨u, w, hu, hw, eu, ew, hj⟩, v⟩ := hs h20
    refine ⟨?_, ?_, ⟨u, w, hu, hw, eu, ?_, fun j q => ?_⟩, fun j q n => ?_⟩
    · rw [mf_at, mf_ne (by decide)]
      exact st_set hr hk p4 p5 c
    · intro s e c' m hc hm
      have si := r1_s h1 e
      have pc := (pl_cell hP).2.2.1
      rw [mf_ne (by decide)] at hc hm
      rw [ui_ne (.inl (by omega)), mf_ne (by decide)]
      exact d s e c' m hc hm
    · rw [ui_ne (.inl (by omega))]; exact ew
    · rw [mf_ne (by decide), mf_ne (by decide)]
      exact (hj j q).cg p4 p5 (fun m i h1 h2 _ => ui_ne (.inl (by omega))) (fun _ _ => rfl) (fun _ _ => rfl)
    · rw [mf_ne (by decide)] at n
      rw [mf_ne (by decide), mf_ne (by decide)]
      exact (v j q n).cg p4 p5 (fun m i h1 h2 _ => ui_ne (.inl (by omega))) (fun _ _ => rfl) (fun _ _ => rfl)
/-- only how often the state has been cleaned is another: the rest of now as it was -/
theorem r2_now (hP : PL (S.2.1 10)) (h : R2 T S) (h1 : R1 T1 S1) (hT : ∀ d, d ∈ sds → d ≠ 336 → ∀ m k, d ≤ m → m < d + 8 → (m ≠ d ∨ k < 2) → T1.2.2.1 m k = T.2.2.1 m k) (hp : ∀ d, d ∈ sds → d ≠ 336 → d ≠ 242 → T1.2.2.1 d 2 = T.2.2.1 d 2) (hc : T1.2.2.1 0 16 = T.2.2.1 0 16 ∧ T1.2.2.1 0 17 = T.2.2.1 0 17 ∧ (∀ k, T1.2.2.1 432 k = T.2.2.1 432 k) ∧ (∀ s c k, (s = 478 ∨ s = 656) → c < 144 → T1.2.2.1 (s + 16 + c) k = T.2.2.1 (s + 16 + c) k) ∧ T1.2.2.2.2 0 14 = T.2.2.2.2 0 14) (hS : S1.1 19 = S.1 19 ∧ S1.1 20 = S.1 20 ∧ S1.2.1 10 = S.2.1 10 ∧ S1.2.1 15 = S.2.1 15 ∧ S1.2.1 16 = S.2.1 16 ∧ S1.2.1 17 = S.2.1 17 ∧ S1.2.1 18 = S.2.1 18) (hl : ∀ x, 1 ≤ x → x < 55 → S1.2.1 12 x = S.2.1 12 x) (h2 : S.1 20 = 1 → T1.2.2.1 242 2 = S1.2.1 12 0) : R2 T1 S1 := by
  obtain ⟨hr, h16, h18, hs⟩ := h
  obtain ⟨f19, f20, f10, f15, f16, f17, f18⟩ := hS
  obtain ⟨c16, c17, c432, cdl, c14⟩ := hc
  obtain ⟨p4, p5⟩ := r2_pl hP
  have st : ∀ d, d ∈ sds → d ≠ 336 → d ≠ 242 → ∀ m k, d ≤ m → m < d + 8 → (m ≠ d ∨ k < 3) → T1.2.2.1 m k = T.2.2.1 m k := fun d hd n1 n2 m k h1 h2 h3 => by
    by_cases q : m = d ∧ k = 2
    · rw [q.1, q.2]; exact hp d hd n1 n2
    · exact hT d hd n1 m k h1 h2 (by omega)
  refine ⟨h1, c16.trans (h16.trans f19.symm), ⟨fun k hk => by rw [c432 k, f18]; exact h18.1 k hk, fun z => by
    rw [f20] at z
    rw [f19, f18]
    exact h18.2 z⟩, fun c => ?_⟩
  rw [f20] at c
  obtain ⟨⟨a0, a1, a2, am, ak⟩, b, ⟨u, w, hu, hw, eu, ew, hj⟩, v⟩ := hs c
  have hT := hT 242 (by decide) (by decide)
  refine ⟨⟨?_, ?_, h2 c, fun m hm => ?_, fun k hk => ?_⟩, ?_, ⟨u, w, hu, hw, f19.trans eu, c17.trans ew, fun j hjq => ?_⟩, fun k hk hn => ?_⟩
  · rw [hT 242 0 (by decide) (by decide) (.inr (by decide)), f10]; exact a0
  · rw [hT 242 1 (by decide) (by decide) (.inr (by decide)), f10]; exact a1
  · rw [f10] at hm
    obtain ⟨b1, b2⟩ := am m hm
    rw [hT _ m (by omega) (by omega) (.inl (by omega)), hT _ m (by omega) (by omega) (.inl (by omega)), hl _ (by omega) (by omega), hl _ (by omega) (by omega)]
    exact ⟨b1, b2⟩
  · rw [f10] at hk
    obtain ⟨b1, b2, b3, b4, b5⟩ := ak k hk
    rw [hT _ k (by omega) (by omega) (.inl (by omega)), hT _ k (by omega) (by omega) (.inl (by omega)), hT _ k (by omega) (by omega) (.inl (by omega)), hT _ k (by omega) (by omega) (.inl (by omega)), hT _ k (by omega) (by omega) (.inl (by omega)), hl _ (by omega) (by omega), hl _ (by omega) (by omega), hl _ (by omega) (by omega), hl _ (by omega) (by omega), hl _ (by omega) (by omega)]
    exact ⟨b1, b2, b3, b4, b5⟩
  · intro s e c' m hc hm
    rw [c14] at e
    rw [f10] at hc hm
    have pc := (pl_cell hP).2.2.1
    rw [cdl s c' m (r1_s hr e) (by omega), f17]
    exact b s e c' m hc hm
  · rw [f10, f15]
    exact (hj j hjq).cg p4 p5 (st _ (past_in (Nat.mod_lt _ (by decide))) pas_ne (by omega)) (fun _ _ => rfl) (fun _ _ => rfl)
  · rw [f18] at hn
    rw [f10, f16]
    exact (v k hk hn).cg p4 p5 (st _ (slot_in hk) slo_ne (by omega)) (fun _ _ => rfl) (fun _ _ => rfl)
/-- both record anew -/
theorem r2_rec (hP : PL (S.2.1 10)) (hV : IV aR0 1586 aK1 aK2 T) (h : R2 T S) (h14 : T.2.2.2.2 0 14 = some s) (g : g_X5_record T 7 s 242 = some T1) (f : fr_records_12 S = some S1) : R2 T1 S1 ∧ IV aR0 1586 aK1 aK2 T1 := by
  have hs := r1_s h.1 h14
  obtain ⟨o, hV1, fw⟩ := rec_out h.1.1 hV hs (.inl rfl) g
  obtain ⟨l0, l1⟩ := l_records hP f
  have k := w_fr_records_12 f
  have gr := sr_X5_record g
  have r0 := rrole.2.2.2
  refine ⟨r2_now hP h (r1_keep h.1 hV fw (by decide +kernel) gr ⟨k.1 2 (by decide), k.1 5 (by decide), k.1 6 (by decide), k.1 20 (by decide), k.2 1 (by decide), k.2 10 (by decide)⟩) (fun d hd hne m i h1 h2 h3 => ?_) (fun d hd n1 n2 => ?_) ⟨fw 0 16 (by rw [r0]; rfl), fw 0 17 (by rw [r0]; rfl), fun i => fw 432 i (by rw [r432]; rfl), fun s c i hs hc => fw _ i (by rw [dl_ro hs hc]; rfl), e14_gr hV gr⟩ ⟨k.1 19 (by decide), k.1 20 (by decide), k.2 10 (by decide), k.2 15 (by decide), k.2 16 (by decide), k.2 17 (by decide), k.2 18 (by decide)⟩ l1 (fun _ => ?_), hV1⟩
  · obtain ⟨r0, r1, r2, r3, r4, r5, r6, r7, -⟩ := sd_ro hd
    refine fw m i ?_
    rcases (show m = d ∨ m = d + 1 ∨ m = d + 2 ∨ m = d + 3 ∨ m = d + 4 ∨ m = d + 5 ∨ m = d + 6 ∨ m = d + 7 by omega) with q | q | q | q | q | q | q | q <;> subst q
    · rw [r0]
      rcases (show i = 0 ∨ i = 1 by omega) with q | q <;> subst q <;> rfl
    · rw [r1]; rfl
    · rw [r2]; rfl
    · rw [r3]; rfl
    · rw [r4]; rfl
    · rw [r5]; rfl
    · rw [r6]; rfl
    · rw [r7]; rfl
  · have gap := sd_gap hd (show 242 ∈ sds from by decide) n2
    have si := sd_in hd
    exact o d 2 (by omega) (by omega) (by omega)
  · rw [c_rec0 g, l0]
end
