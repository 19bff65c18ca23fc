/-! what class and reference hold alike between calls, as far as a loaded text goes -/
section
variable {T T1 : AT} {S S1 : MS} {P P1 : Nat → Int32} {s : Nat}
def SRP (s : Nat) (T : AT) (P : Nat → Int32) : Prop := ∃ c : Nat, c ≤ 6 ∧ T.2.2.1 s 8 = nI c ∧ P 5 = nI c ∧ ∀ k, k < c → T.2.2.1 (s + 172 + k) 0 = P (47 + k) ∧ T.2.2.1 (s + 172 + k) 5 = P (53 + k) ∧ T.2.2.1 (s + 172 + k) 6 = P (59 + k) ∧ T.2.2.1 (s + 172 + k) 7 = P (65 + k) ∧ T.2.2.1 (s + 172 + k) 8 = P (95 + k)
def SCE (s : Nat) (T : AT) (P : Nat → Int32) : Prop := HDg s T P ∧ MICg s T P ∧ GRDg s T P ∧ SRP s T P ∧ WALg s T P ∧ FADg s T P ∧ TAPg s T P ∧ ZONg s T P ∧ SHDg s T P
theorem sce_of {D : Nat → Int32} (h : SCNq s T P D) : SCE s T P := by
  obtain ⟨gH, gM, gG, ⟨c, b1, b2, b3, b4⟩, gW, gF, gT, gZ, gD, -⟩ := h
  exact ⟨gH, gM, gG, ⟨c, b1, b2, b3, fun k hk => ⟨(b4 k hk).1, (b4 k hk).2.1, (b4 k hk).2.2.1, (b4 k hk).2.2.2.1, (b4 k hk).2.2.2.2.1⟩⟩, gW, gF, gT, gZ, gD⟩
/-- the cells of a scene are the same -/
def SEQ (s : Nat) (T T1 : AT) : Prop := (∀ j, j < 18 → T1.2.2.1 s j = T.2.2.1 s j) ∧ (∀ j, j < 8 → T1.2.2.1 (s + 2) j = T.2.2.1 (s + 2) j) ∧ (∀ j, T1.2.2.1 (s + 3) j = T.2.2.1 (s + 3) j) ∧ (∀ m j, s + 5 ≤ m → m < s + 9 → T1.2.2.1 m j = T.2.2.1 m j) ∧ (∀ m j, s + 11 ≤ m → m < s + 15 → T1.2.2.1 m j = T.2.2.1 m j) ∧ (∀ m j, s + 160 ≤ m → m < s + 172 → j < 4 → T1.2.2.1 m j = T.2.2.1 m j) ∧ ∀ m j, s + 172 ≤ m → m < s + 178 → j < 10 → T1.2.2.1 m j = T.2.2.1 m j
theorem sce_eq (h : SCE s T P) (q : SEQ s T T1) (hP : ∀ x, x < 131 → P1 x = P x) : SCE s T1 P1 := by
  obtain ⟨gH, ⟨mc, m1, m2, m3, m4, m5⟩, gG, ⟨c, b1, b2, b3, b4⟩, gW, gF, gT, gZ, gD⟩ := h
  obtain ⟨q1, q2, q3, q4, q5, q6, q7⟩ := q
  refine ⟨gH.cg (fun j _ => q1 j (by omega)) (fun j _ => hP j (by omega)), ⟨mc, m1, (q1 5 (by decide)).trans m2, (hP 4 (by decide)).trans m3, fun m hm => ?_, fun m h1 h2 => (hP _ (by omega)).trans (m5 m h1 h2)⟩, gG.cg (fun k _ => q2 k (by omega)) q3 (fun j _ _ => hP j (by omega)), ⟨c, b1, (q1 8 (by decide)).trans b2, (hP 5 (by decide)).trans b3, fun k hk => ?_⟩, gW.cg (q1 11 (by decide)) (fun k => q5 _ _ (by omega) (by omega)) (fun k => q5 _ _ (by omega) (by omega)) (fun j _ _ => hP j (by omega)), gF.cg (q1 12 (by decide)) (hP _ (by decide)), gT.cg (q1 14 (by decide)) (fun k => q5 _ _ (by omega) (by omega)) (fun j _ _ => hP j (by omega)), gZ.cg (q2 7 (by decide)) (fun m j a b => q4 m j a b) (fun j _ _ => hP j (by omega)), gD.cg (q1 16 (by decide)) (fun k => q5 _ _ (by omega) (by omega)) (fun j _ _ => hP j (by omega))⟩
  · rw [q6 _ 0 (by omega) (by omega) (by decide), q6 _ 1 (by omega) (by omega) (by decide), q6 _ 2 (by omega) (by omega) (by decide), q6 _ 3 (by omega) (by omega) (by decide), hP (11 + m) (by omega), hP (23 + m) (by omega), hP (35 + m) (by omega), hP (83 + m) (by omega)]
    exact m4 m hm
  · rw [q7 _ 0 (by omega) (by omega) (by decide), q7 _ 5 (by omega) (by omega) (by decide), q7 _ 6 (by omega) (by omega) (by decide), q7 _ 7 (by omega) (by omega) (by decide), q7 _ 8 (by omega) (by omega) (by decide), hP (47 + k) (by omega), hP (53 + k) (by omega), hP (59 + k) (by omega), hP (65 + k) (by omega), hP (95 + k) (by omega)]
    exact b4 k hk
def scodes : List Nat := (List.range 18).map (192 + ·) ++ (List.range 8).map (32 + ·) ++ (List.range 4).map (64 + ·) ++ (List.range 10).map (224 + ·) ++ [1888, 1760, 1792, 1824, 1856]
set_option maxRecDepth 100000 in
theorem srole : [478, 656].all (fun s => Nat.beq (aR0 s) 6 && Nat.beq (aR0 (s + 2)) 1 && Nat.beq (aR0 (s + 3)) 59 && (List.range 4).all (fun k => Nat.beq (aR0 (s + 5 + k)) 59) && Nat.beq (aR0 (s + 11)) 55 && Nat.beq (aR0 (s + 12)) 56 && Nat.beq (aR0 (s + 13)) 57 && Nat.beq (aR0 (s + 14)) 58 && (List.range 12).all (fun k => Nat.beq (aR0 (s + 160 + k)) 2) && (List.range 6).all (fun k => Nat.beq (aR0 (s + 172 + k)) 7)) = true := by decide +kernel
theorem sro (hs : s = 478 ∨ s = 656) : aR0 s = 6 ∧ aR0 (s + 2) = 1 ∧ aR0 (s + 3) = 59 ∧ (∀ k, k < 4 → aR0 (s + 5 + k) = 59) ∧ aR0 (s + 11) = 55 ∧ aR0 (s + 12) = 56 ∧ aR0 (s + 13) = 57 ∧ aR0 (s + 14) = 58 ∧ (∀ k, k < 12 → aR0 (s + 160 + k) = 2) ∧ ∀ k, k < 6 → aR0 (s + 172 + k) = 7 := by
  have h := List.all_eq_true.mp srole s (by rcases hs with e | e <;> rw [e] <;> decide)
  simp only [Bool.and_eq_true] at h
  obtain ⟨⟨⟨⟨⟨⟨⟨⟨⟨h0, h1⟩, h2⟩, h3⟩, h4⟩, h5⟩, h6⟩, h7⟩, h8⟩, h9⟩ := h
  exact ⟨Nat.eq_of_beq_eq_true h0, Nat.eq_of_beq_eq_true h1, Nat.eq_of_beq_eq_true h2, fun k hk => Nat.eq_of_beq_eq_true (a_fin (p := fun k => Nat.beq (aR0 (s + 5 + k)) 59) h3 hk), Nat.eq_of_beq_eq_true h4, Nat.eq_of_beq_eq_true h5, Nat.eq_of_beq_eq_true h6, Nat.eq_of_beq_eq_true h7, fun k hk => Nat.eq_of_beq_eq_true (a_fin (p := fun k => Nat.beq (aR0 (s + 160 + k)) 2) h8 hk), fun k hk => Nat.eq_of_beq_eq_true (a_fin (p := fun k => Nat.beq (aR0 (s + 172 + k)) 7) h9 hk)⟩
theorem sc_in {W : List Nat} (c : scodes.all (fun x => !(W.contains x)) = true) {x : Nat} (hx : x ∈ scodes) : W.contains x = false := by
  have h := List.all_eq_true.mp c x hx
  cases e : W.contains x with
  | false => rfl
  | true => rw [e] at h; cases h
theorem fw_seq {W : List Nat} (h : FW aR0 W T T1) (c : scodes.all (fun x => !(W.contains x)) = true) (hs : s = 478 ∨ s = 656) : SEQ s T T1 := by
  obtain ⟨r0, r1, r2, r3, r4, r5, r6, r7, r8, r9⟩ := sro hs
  have k0 : ∀ j, j < 18 → 192 + j ∈ scodes := fun j hj => List.mem_append_left _ (List.mem_append_left _ (List.mem_append_left _ (List.mem_append_left _ (List.mem_map.mpr ⟨j, List.mem_range.mpr hj, rfl⟩))))
  have k1 : ∀ j, j < 8 → 32 + j ∈ scodes := fun j hj => List.mem_append_left _ (List.mem_append_left _ (List.mem_append_left _ (List.mem_append_right _ (List.mem_map.mpr ⟨j, List.mem_range.mpr hj, rfl⟩))))
  have k2 : ∀ j, j < 4 → 64 + j ∈ scodes := fun j hj => List.mem_append_left _ (List.mem_append_left _ (List.mem_append_right _ (List.mem_map.mpr ⟨j, List.mem_range.mpr hj, rfl⟩)))
  have k7 : ∀ j, j < 10 → 224 + j ∈ scodes := fun j hj => List.mem_append_left _ (List.mem_append_right _ (List.mem_map.mpr ⟨j, List.mem_range.mpr hj, rfl⟩))
  have ka : ∀ x, x ∈ [1888, 1760, 1792, 1824, 1856] → x ∈ scodes := fun x hx => List.mem_append_right _ hx
  refine ⟨fun j hj => h _ _ ?_, fun j hj => h _ _ ?_, fun j => h _ _ ?_, fun m j a b => h _ _ ?_, fun m j a b => h _ _ ?_, fun m j a b d => h _ _ ?_, fun m j a b d => h _ _ ?_⟩
  · rw [r0]; exact sc_in c (k0 j hj)
  · rw [r1]; exact sc_in c (k1 j hj)
  · rw [r2]; exact sc_in c (ka 1888 (by decide))
  · have q := r3 (m - (s + 5)) (by omega)
    rw [show s + 5 + (m - (s + 5)) = m from by omega] at q
    rw [q]; exact sc_in c (ka 1888 (by decide))
  · rcases (show m = s + 11 ∨ m = s + 12 ∨ m = s + 13 ∨ m = s + 14 by omega) with e | e | e | e <;> rw [e]
    · rw [r4]; exact sc_in c (ka 1760 (by decide))
    · rw [r5]; exact sc_in c (ka 1792 (by decide))
    · rw [r6]; exact sc_in c (ka 1824 (by decide))
    · rw [r7]; exact sc_in c (ka 1856 (by decide))
  · have q := r8 (m - (s + 160)) (by omega)
    rw [show s + 160 + (m - (s + 160)) = m from by omega] at q
    rw [q]; exact sc_in c (k2 j d)
  · have q := r9 (m - (s + 172)) (by omega)
    rw [show s + 172 + (m - (s + 172)) = m from by omega] at q
    rw [q]; exact sc_in c (k7 j d)
/-- where the references lead: all but rows of Wides lead where they led at first; scene and spare may have changed places -/
def CRF (T : AT) : Prop := (∀ n, n ≠ 0 → sta aR0 1586 n → isRW (aR0 n) = false → ∀ k, T.2.2.2.2 n k = (arf n).getD k none) ∧ (∀ k, k ≠ 14 → k ≠ 15 → T.2.2.2.2 0 k = (arf 0).getD k none) ∧ (T.2.2.2.2 0 14 = some 478 ∧ T.2.2.2.2 0 15 = some 656 ∨ T.2.2.2.2 0 14 = some 656 ∧ T.2.2.2.2 0 15 = some 478)
def okc (n : Nat) : Bool := Nat.blt 0 n && Nat.blt n 1586 && !(Nat.beq (aR0 n) 99) && !(Nat.beq (aR0 n) 30) && !(isRW (aR0 n))
theorem CRF.at (h : CRF T) (n : Nat) (d : okc n = true) (k : Nat) : T.2.2.2.2 n k = (arf n).getD k none := by
  unfold okc at d
  simp only [Bool.and_eq_true] at d
  obtain ⟨⟨⟨⟨d0, d1⟩, d2⟩, d3⟩, d4⟩ := d
  refine h.1 n (fun e => by rw [e] at d0; cases d0) ⟨Nat.le_of_ble_eq_true d1, (fun e => by rw [e] at d2; cases d2), (fun e => by rw [e] at d3; cases d3)⟩ ?_ k
  cases e : isRW (aR0 n) with
  | false => rfl
  | true => rw [e] at d4; cases d4
set_option maxRecDepth 100000 in
theorem srf_dec : [478, 656].all (fun s => [s, s + 1, s + 2, s + 4, s + 10, s + 15].all okc && decide ((arf s).getD 4 none = some (s + 1)) && decide ((arf s).getD 6 none = some (s + 2)) && decide ((arf s).getD 7 none = some (s + 10)) && decide ((arf s).getD 9 none = some (s + 11)) && decide ((arf s).getD 10 none = some (s + 12)) && decide ((arf s).getD 13 none = some (s + 13)) && decide ((arf s).getD 15 none = some (s + 14)) && decide ((arf s).getD 17 none = some (s + 15)) && (List.range 12).all (fun i => decide ((arf (s + 1)).getD i none = some (s + 160 + i))) && (List.range 6).all (fun i => decide ((arf (s + 10)).getD i none = some (s + 172 + i))) && decide ((arf (s + 2)).getD 5 none = some (s + 3)) && decide ((arf (s + 2)).getD 6 none = some (s + 4)) && (List.range 4).all (fun i => decide ((arf (s + 4)).getD i none = some (s + 5 + i))) && decide ((arf (s + 2)).getD 8 none = some (s + 9)) && (List.range 144).all (fun c => decide ((arf (s + 15)).getD c none = some (s + 16 + c)))) = true := by decide +kernel
theorem CRF.srf (h : CRF T) (hs : s = 478 ∨ s = 656) : SRF s T := by
  have d := List.all_eq_true.mp srf_dec s (by rcases hs with e | e <;> rw [e] <;> decide)
  simp only [Bool.and_eq_true, decide_eq_true_eq] at d
  obtain ⟨⟨⟨⟨⟨⟨⟨⟨⟨⟨⟨⟨⟨⟨⟨d0, d1⟩, d2⟩, d3⟩, d4⟩, d5⟩, d6⟩, d7⟩, d8⟩, d9⟩, d10⟩, d11⟩, d12⟩, d13⟩, d14⟩, d15⟩ := d
  have o := fun n (hn : n ∈ [s, s + 1, s + 2, s + 4, s + 10, s + 15]) => h.at n (List.all_eq_true.mp d0 n hn)
  have o0 := o s (by simp)
  have o1 := o (s + 1) (by simp)
  have o2 := o (s + 2) (by simp)
  have o4 := o (s + 4) (by simp)
  have o10 := o (s + 10) (by simp)
  have o15 := o (s + 15) (by simp)
  unfold SRF
  exact ⟨(o0 _).trans d1, (o0 _).trans d2, (o0 _).trans d3, (o0 _).trans d4, (o0 _).trans d5, (o0 _).trans d6, (o0 _).trans d7, (o0 _).trans d8, fun i hi => (o1 i).trans (of_decide_eq_true (a_fin (p := fun i => decide ((arf (s + 1)).getD i none = some (s + 160 + i))) d9 hi)), fun i hi => (o10 i).trans (of_decide_eq_true (a_fin (p := fun i => decide ((arf (s + 10)).getD i none = some (s + 172 + i))) d10 hi)), (o2 _).trans d11, (o2 _).trans d12, fun i hi => (o4 i).trans (of_decide_eq_true (a_fin (p := fun i => decide ((arf (s + 4)).getD i none = some (s + 5 + i))) d13 hi)), (o2 _).trans d14, fun i hi => (o15 i).trans (of_decide_eq_true (a_fin (p := fun i => decide ((arf (s + 15)).getD i none = some (s + 16 + i))) d15 hi))⟩
set_option maxRecDepth 100000 in
theorem txr_dec : okc 1 = true ∧ okc 6 = true ∧ (arf 1).getD 0 none = some 2 ∧ (arf 1).getD 2 none = some 3 ∧ (arf 1).getD 3 none = some 4 ∧ (arf 1).getD 4 none = some 5 ∧ (arf 6).getD 0 none = some 1 ∧ (arf 0).getD 0 none = some 1 ∧ (arf 0).getD 1 none = some 6 ∧ aR0 3 = 42 := by decide +kernel
theorem CRF.txr (h : CRF T) (hV : IV aR0 1586 aK1 aK2 T) : TXR T := by
  obtain ⟨a1, a6, b1, b2, b3, b4, b5, -, -, b8⟩ := txr_dec
  exact ⟨(h.at 1 a1 _).trans b1, (h.at 1 a1 _).trans b2, (h.at 1 a1 _).trans b3, (h.at 1 a1 _).trans b4, (h.at 6 a6 _).trans b5, (hV.2.1 3 (iv_sta hV b8 (by decide) (by decide))).trans (by rw [b8]; rfl)⟩
set_option maxRecDepth 100000 in
theorem sh107 : (List.range 1586).all (fun n => isRW (aR0 n) || !(Nat.beq (shp (aR0 n)).1 107)) = true := by decide +kernel
theorem crf_gr (h : CRF T) (hV : IV aR0 1586 aK1 aK2 T) (hg : GR T T1) : CRF T1 := by
  have st : ∀ n, sta aR0 1586 n → isRW (aR0 n) = false → ∀ k, T1.2.2.2.2 n k = T.2.2.2.2 n k := fun n hs hr k => by
    refine hg.2 n k (Nat.lt_of_lt_of_le hs.1 hV.1.2.2) ?_
    have d := a_fin sh107 hs.1
    rw [hr, Bool.false_or] at d
    rw [hV.2.1 n hs]
    intro e
    rw [e] at d
    cases d
  obtain ⟨-, -, -, r0⟩ := (show aR0 1 = 9 ∧ aR0 2 = 41 ∧ aR0 6 = 3 ∧ aR0 0 = 11 from by decide +kernel)
  have e0 : ∀ k, T1.2.2.2.2 0 k = T.2.2.2.2 0 k := st 0 (iv_sta hV r0 (by decide) (by decide)) (by rw [r0]; rfl)
  refine ⟨fun n hn hs hr k => (st n hs hr k).trans (h.1 n hn hs hr k), fun k a b => (e0 k).trans (h.2.1 k a b), ?_⟩
  rw [e0 14, e0 15]
  exact h.2.2
def RSq (T : AT) (S : MS) : Prop := ∃ s, (s = 478 ∨ s = 656) ∧ T.2.2.2.2 0 14 = some s ∧ (S.1 20 = 1 ∧ SCE s T (S.2.1 10) ∧ S.2.1 10 4 ≠ 0 ∧ S.2.1 10 8 ≠ 0 ∨ S.1 20 = 0 ∧ T.2.2.1 s 2 = 0 ∧ T.2.2.1 s 5 = 0 ∧ T.2.2.1 s 8 = 0 ∧ T.2.2.1 (s + 2) 3 = 0 ∧ T.2.2.1 (s + 2) 4 = 0 ∧ T.2.2.1 (s + 2) 7 = 0)
def BYr (T : AT) (S : MS) : Prop := T.2.2.1 1 1 = S.1 2 ∧ ∀ k, k < 1000 → T.2.2.1 2 k = S.2.1 1 k
def R1 (T : AT) (S : MS) : Prop := CRF T ∧ BYr T S ∧ T.2.2.1 6 2 = S.1 5 ∧ T.2.2.1 6 3 = S.1 6 ∧ RSq T S
theorem rrole : aR0 1 = 9 ∧ aR0 2 = 41 ∧ aR0 6 = 3 ∧ aR0 0 = 11 := by decide +kernel
def FKq (S S1 : MS) : Prop := S1.1 2 = S.1 2 ∧ S1.1 5 = S.1 5 ∧ S1.1 6 = S.1 6 ∧ S1.1 20 = S.1 20 ∧ S1.2.1 1 = S.2.1 1 ∧ S1.2.1 10 = S.2.1 10
def okW (W : List Nat) : Bool := scodes.all (fun x => !(W.contains x)) && !(W.contains 289) && !(W.contains 1312) && !(W.contains 98) && !(W.contains 99)
theorem con_f {W : List Nat} {x : Nat} (h : (!(W.contains x)) = true) : W.contains x = false := by
  cases e : W.contains x with
  | false => rfl
  | true => rw [e] at h; cases h
theorem rs_eq (hs : s = 478 ∨ s = 656) (q : SEQ s T T1) (hP : ∀ x, x < 131 → S1.2.1 10 x = S.2.1 10 x) (h20 : S1.1 20 = S.1 20) (h14 : T1.2.2.2.2 0 14 = some s) (h : S.1 20 = 1 ∧ SCE s T (S.2.1 10) ∧ S.2.1 10 4 ≠ 0 ∧ S.2.1 10 8 ≠ 0 ∨ S.1 20 = 0 ∧ T.2.2.1 s 2 = 0 ∧ T.2.2.1 s 5 = 0 ∧ T.2.2.1 s 8 = 0 ∧ T.2.2.1 (s + 2) 3 = 0 ∧ T.2.2.1 (s + 2) 4 = 0 ∧ T.2.2.1 (s + 2) 7 = 0) : RSq T1 S1 := by
  refine ⟨s, hs, h14, ?_⟩
  rcases h with ⟨a, b, c, d⟩ | ⟨a, b2, b5, b8, g3, g4, g7⟩
  · exact .inl ⟨h20.trans a, sce_eq b q hP, by rw [hP 4 (by decide)]; exact c, by rw [hP 8 (by decide)]; exact d⟩
  · exact .inr ⟨h20.trans a, (q.1 2 (by decide)).trans b2, (q.1 5 (by decide)).trans b5, (q.1 8 (by decide)).trans b8, (q.2.1 3 (by decide)).trans g3, (q.2.1 4 (by decide)).trans g4, (q.2.1 7 (by decide)).trans g7⟩
theorem r1_keep {W : List Nat} (h : R1 T S) (hV : IV aR0 1586 aK1 aK2 T) (hw : FW aR0 W T T1) (c : okW W = true) (hg : GR T T1) (hf : FKq S S1) : R1 T1 S1 := by
  obtain ⟨hc, ⟨hl, hb⟩, h5, h6, s, hs, h14, hr⟩ := h
  unfold okW at c
  simp only [Bool.and_eq_true] at c
  obtain ⟨⟨⟨⟨c0, c1⟩, c2⟩, c3⟩, c4⟩ := c
  obtain ⟨r1, r2, r6, r0⟩ := rrole
  have e14 : T1.2.2.2.2 0 14 = T.2.2.2.2 0 14 := by
    refine hg.2 0 14 (Nat.lt_of_lt_of_le (by decide) hV.1.2.2) ?_
    rw [hV.2.1 0 (iv_sta hV r0 (by decide) (by decide)), r0]
    decide
  refine ⟨crf_gr hc hV hg, ⟨?_, fun k hk => ?_⟩, ?_, ?_, rs_eq hs (fw_seq hw c0 hs) (fun x _ => by rw [hf.2.2.2.2.2]) hf.2.2.2.1 (e14.trans h14) hr⟩
  · rw [hw 1 1 (by rw [r1]; exact con_f c1), hf.1]; exact hl
  · rw [hw 2 k (by rw [r2]; exact con_f c2), hf.2.2.2.2.1]; exact hb k hk
  · rw [hw 6 2 (by rw [r6]; exact con_f c3), hf.2.1]; exact h5
  · rw [hw 6 3 (by rw [r6]; exact con_f c4), hf.2.2.1]; exact h6
end
