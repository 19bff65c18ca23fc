/-! the class's copies of a state -/
section
variable {T T1 : AT} {S S1 : MS} {d e : Nat}
def sds : List Nat := [242, 336, 834, 928, 1022, 1116, 1210, 1304, 1398, 1492]
set_option maxRecDepth 100000 in
theorem sd_dec : sds.all (fun d => okc d && decide ((arf d).getD 3 none = some (d + 1)) && decide ((arf d).getD 4 none = some (d + 2)) && decide ((arf d).getD 5 none = some (d + 3)) && decide ((arf d).getD 6 none = some (d + 4)) && decide ((arf d).getD 7 none = some (d + 5)) && decide ((arf d).getD 8 none = some (d + 6)) && decide ((arf d).getD 9 none = some (d + 7)) && decide ((arf d).getD 10 none = some (d + 8)) && decide ((arf d).getD 11 none = some (d + 51))) = true := by decide +kernel
set_option maxRecDepth 100000 in
theorem sd_rdec : sds.all (fun d => Nat.beq (aR0 d) 8 && Nat.beq (aR0 (d + 1)) 62 && Nat.beq (aR0 (d + 2)) 63 && Nat.beq (aR0 (d + 3)) 64 && Nat.beq (aR0 (d + 4)) 65 && Nat.beq (aR0 (d + 5)) 65 && Nat.beq (aR0 (d + 6)) 66 && Nat.beq (aR0 (d + 7)) 66 && Nat.beq (aR0 (d + 8)) 104 && Nat.beq (aR0 (d + 51)) 101) = true := by decide +kernel
theorem sd_ddec : sds.all (fun d => Nat.ble 242 d && Nat.ble d 1492 && (Nat.ble (d + 94) 430 || Nat.ble 834 d) && sds.all (fun e => Nat.beq d e || Nat.ble (d + 94) e || Nat.ble (e + 94) d)) = true := by decide +kernel
theorem sd_rf (hc : CRF T) (hd : d ∈ sds) : T.2.2.2.2 d 3 = some (d + 1) ∧ T.2.2.2.2 d 4 = some (d + 2) ∧ T.2.2.2.2 d 5 = some (d + 3) ∧ T.2.2.2.2 d 6 = some (d + 4) ∧ T.2.2.2.2 d 7 = some (d + 5) ∧ T.2.2.2.2 d 8 = some (d + 6) ∧ T.2.2.2.2 d 9 = some (d + 7) ∧ T.2.2.2.2 d 10 = some (d + 8) ∧ T.2.2.2.2 d 11 = some (d + 51) := by
  have q := List.all_eq_true.mp sd_dec d hd
  simp only [Bool.and_eq_true, decide_eq_true_eq] at q
  obtain ⟨⟨⟨⟨⟨⟨⟨⟨⟨q0, q1⟩, q2⟩, q3⟩, q4⟩, q5⟩, q6⟩, q7⟩, q8⟩, q9⟩ := q
  have o := hc.at d q0
  exact ⟨(o _).trans q1, (o _).trans q2, (o _).trans q3, (o _).trans q4, (o _).trans q5, (o _).trans q6, (o _).trans q7, (o _).trans q8, (o _).trans q9⟩
theorem sd_ro (hd : d ∈ sds) : aR0 d = 8 ∧ aR0 (d + 1) = 62 ∧ aR0 (d + 2) = 63 ∧ aR0 (d + 3) = 64 ∧ aR0 (d + 4) = 65 ∧ aR0 (d + 5) = 65 ∧ aR0 (d + 6) = 66 ∧ aR0 (d + 7) = 66 ∧ aR0 (d + 8) = 104 ∧ aR0 (d + 51) = 101 := by
  have q := List.all_eq_true.mp sd_rdec d hd
  simp only [Bool.and_eq_true] at q
  obtain ⟨⟨⟨⟨⟨⟨⟨⟨⟨q0, q1⟩, q2⟩, q3⟩, q4⟩, q5⟩, q6⟩, q7⟩, q8⟩, q9⟩ := q
  have b := fun {x y : Nat} (h : Nat.beq x y = true) => Nat.eq_of_beq_eq_true h
  exact ⟨b q0, b q1, b q2, b q3, b q4, b q5, b q6, b q7, b q8, b q9⟩
theorem sd_in (hd : d ∈ sds) : 242 ≤ d ∧ d ≤ 1492 ∧ (d + 94 ≤ 430 ∨ 834 ≤ d) := by
  have q := List.all_eq_true.mp sd_ddec d hd
  simp only [Bool.and_eq_true, Bool.or_eq_true] at q
  obtain ⟨⟨⟨q0, q1⟩, q2⟩, -⟩ := q
  exact ⟨Nat.le_of_ble_eq_true q0, Nat.le_of_ble_eq_true q1, q2.imp Nat.le_of_ble_eq_true Nat.le_of_ble_eq_true⟩
theorem sd_gap (hd : d ∈ sds) (he : e ∈ sds) (hne : d ≠ e) : d + 94 ≤ e ∨ e + 94 ≤ d := by
  have q := List.all_eq_true.mp sd_ddec d hd
  simp only [Bool.and_eq_true] at q
  have q := List.all_eq_true.mp q.2 e he
  simp only [Bool.or_eq_true] at q
  rcases q with (q | q) | q
  · exact absurd (Nat.eq_of_beq_eq_true q) hne
  · exact .inl (Nat.le_of_ble_eq_true q)
  · exact .inr (Nat.le_of_ble_eq_true q)
/-- the cells of d are those of e; all else is as it was, but for Wides -/
def CPd (d e : Nat) (T T1 : AT) : Prop := (∀ j, j < 3 → T1.2.2.1 d j = T.2.2.1 e j) ∧ (∀ k, k < 12 → T1.2.2.1 (d + 1) k = T.2.2.1 (e + 1) k ∧ T1.2.2.1 (d + 2) k = T.2.2.1 (e + 2) k) ∧ (∀ k, k < 6 → T1.2.2.1 (d + 3) k = T.2.2.1 (e + 3) k ∧ T1.2.2.1 (d + 4) k = T.2.2.1 (e + 4) k ∧ T1.2.2.1 (d + 5) k = T.2.2.1 (e + 5) k ∧ T1.2.2.1 (d + 6) k = T.2.2.1 (e + 6) k ∧ T1.2.2.1 (d + 7) k = T.2.2.1 (e + 7) k) ∧ ∀ m k, (m < d ∨ d + 8 ≤ m) → isW (aR0 m) = false → T1.2.2.1 m k = T.2.2.1 m k
def IA (T0 T : AT) : Prop := T.2.2.2.2 = T0.2.2.2.2 ∧ IV aR0 1586 aK1 aK2 T
theorem ia_uI {T0 : AT} {n r k : Nat} {v : Int32} {a b : Int} (h : IA T0 T) (hr : aR0 n = r) (h1 : r ≠ 99) (h2 : r ≠ 30) (hi : iR r k = (a, b)) (hv : a ≤ v.toInt ∧ v.toInt ≤ b) (hw : isW r = false ∨ k ≠ 2) : IA T0 (uI T n k v) := ⟨h.1, iv_uI h.2 hr h1 h2 hi hv hw⟩
theorem c_cp64 {T0 : AT} (hc : CRF T0) (hd : d ∈ sds) (he : e ∈ sds) (hne : d ≠ e) : ∀ (f l : Nat) {T : AT}, l ≤ 6 → IA T0 T → (∀ j, j < 3 → T.2.2.1 d j = T0.2.2.1 e j) → (∀ k, k < 12 → T.2.2.1 (d + 1) k = T0.2.2.1 (e + 1) k ∧ T.2.2.1 (d + 2) k = T0.2.2.1 (e + 2) k) → (∀ k, k < l → T.2.2.1 (d + 3) k = T0.2.2.1 (e + 3) k ∧ T.2.2.1 (d + 4) k = T0.2.2.1 (e + 4) k ∧ T.2.2.1 (d + 5) k = T0.2.2.1 (e + 5) k ∧ T.2.2.1 (d + 6) k = T0.2.2.1 (e + 6) k ∧ T.2.2.1 (d + 7) k = T0.2.2.1 (e + 7) k) → (∀ m k, (m < d ∨ d + 8 ≤ m) → T.2.2.1 m k = T0.2.2.1 m k) → g_X8_copyFrom_b64 f T d e (nI l) = some T1 → CPd d e T0 T1 := by
  obtain ⟨-, -, d5, d6, d7, d8, d9, d10, -⟩ := sd_rf hc hd
  obtain ⟨-, -, e5, e6, e7, e8, e9, e10, -⟩ := sd_rf hc he
  obtain ⟨-, -, -, rd3, rd4, rd5, rd6, rd7, rd8, -⟩ := sd_ro hd
  obtain ⟨-, -, -, re3, re4, re5, re6, re7, re8, -⟩ := sd_ro he
  have gap := sd_gap hd he hne
  intro f
  induction f with
  | zero => intro l T hl hI h3 h12 h6 ho h; cases h
  | succ f ih =>
    intro l T hl hI h3 h12 h6 ho h
    unfold g_X8_copyFrom_b64 at h
    by_cases c : l = 6
    · subst c
      rw [if_pos (show (6 : Int32) ≤ nI 6 from by decide)] at h
      obtain ⟨-, h⟩ := oif_some h
      obtain ⟨n4, en4, h⟩ := obind_some h
      rw [hI.1, d10] at en4
      cases en4
      obtain ⟨-, h⟩ := oif_some h
      obtain ⟨n6, en6, h⟩ := obind_some h
      rw [hI.1, e10] at en6
      cases en6
      obtain ⟨-, h⟩ := oif_some h
      obtain ⟨T8, g8, h⟩ := obind_some h
      have q := (tgo (c_copyFrom rd8 (by decide) re8 (by decide) hI.2) g8).2
      rw [← osome1 (show some T8 = some T1 from h)]
      refine ⟨fun j hj => ?_, fun k hk => ⟨?_, ?_⟩, fun k hk => ⟨?_, ?_, ?_, ?_, ?_⟩, fun m k hm hw => ?_⟩
      · rw [q _ _ (.inl (by omega))]; exact h3 j hj
      · rw [q _ _ (.inl (by omega))]; exact (h12 k hk).1
      · rw [q _ _ (.inl (by omega))]; exact (h12 k hk).2
      · rw [q _ _ (.inl (by omega))]; exact (h6 k hk).1
      · rw [q _ _ (.inl (by omega))]; exact (h6 k hk).2.1
      · rw [q _ _ (.inl (by omega))]; exact (h6 k hk).2.2.1
      · rw [q _ _ (.inl (by omega))]; exact (h6 k hk).2.2.2.1
      · rw [q _ _ (.inl (by omega))]; exact (h6 k hk).2.2.2.2
      · rw [q m k (.inl (fun u => by rw [u, rd8] at hw; exact absurd hw (by decide)))]; exact ho m k hm
    · rw [if_neg (fun q => c (by have := (nI_leI (a := 6) (by decide) (by omega)).mp q; omega))] at h
      have kl : (nI l).toNatClampNeg = l := nI_clamp (by omega)
      obtain ⟨-, h⟩ := oif_some h
      obtain ⟨n11, en, h⟩ := obind_some h
      rw [hI.1, d5] at en
      cases en
      obtain ⟨-, h⟩ := oif_some h
      obtain ⟨n13, en, h⟩ := obind_some h
      rw [hI.1, e5] at en
      cases en
      obtain ⟨-, h⟩ := oif_some h
      obtain ⟨-, h⟩ := oif_some h
      obtain ⟨v16, e16, h⟩ := elet_some h
      rw [kl] at e16
      obtain ⟨-, h⟩ := oif_some h
      obtain ⟨-, h⟩ := oif_some h
      obtain ⟨-, h⟩ := oif_some h
      obtain ⟨T19, e19, h⟩ := elet_some h
      rw [kl] at e19
      have I19 : IA T0 T19 := by rw [e19]; exact ia_uI hI rd3 (by decide) (by decide) (rfl : iR 64 l = (0, 1)) (iv_int hI.2 re3 (by decide) (by decide) e16 rfl) (.inl rfl)
      obtain ⟨-, h⟩ := oif_some h
      obtain ⟨n21, en, h⟩ := obind_some h
      rw [I19.1, d6] at en
      cases en
      obtain ⟨-, h⟩ := oif_some h
      obtain ⟨n23, en, h⟩ := obind_some h
      rw [I19.1, e6] at en
      cases en
      obtain ⟨-, h⟩ := oif_some h
      obtain ⟨-, h⟩ := oif_some h
      obtain ⟨v26, e26, h⟩ := elet_some h
      rw [kl] at e26
      obtain ⟨-, h⟩ := oif_some h
      obtain ⟨-, h⟩ := oif_some h
      obtain ⟨T29, e29, h⟩ := elet_some h
      rw [kl] at e29
      have I29 : IA T0 T29 := by rw [e29]; exact ia_uI I19 rd4 (by decide) (by decide) (rfl : iR 65 l = (-2000, 2000)) (iv_int I19.2 re4 (by decide) (by decide) e26 rfl) (.inl rfl)
      obtain ⟨-, h⟩ := oif_some h
      obtain ⟨n31, en, h⟩ := obind_some h
      rw [I29.1, d7] at en
      cases en
      obtain ⟨-, h⟩ := oif_some h
      obtain ⟨n33, en, h⟩ := obind_some h
      rw [I29.1, e7] at en
      cases en
      obtain ⟨-, h⟩ := oif_some h
      obtain ⟨-, h⟩ := oif_some h
      obtain ⟨v36, e36, h⟩ := elet_some h
      rw [kl] at e36
      obtain ⟨-, h⟩ := oif_some h
      obtain ⟨-, h⟩ := oif_some h
      obtain ⟨T39, e39, h⟩ := elet_some h
      rw [kl] at e39
      have I39 : IA T0 T39 := by rw [e39]; exact ia_uI I29 rd5 (by decide) (by decide) (rfl : iR 65 l = (-2000, 2000)) (iv_int I29.2 re5 (by decide) (by decide) e36 rfl) (.inl rfl)
      obtain ⟨-, h⟩ := oif_some h
      obtain ⟨n41, en, h⟩ := obind_some h
      rw [I39.1, d8] at en
      cases en
      obtain ⟨-, h⟩ := oif_some h
      obtain ⟨n43, en, h⟩ := obind_some h
      rw [I39.1, e8] at en
      cases en
      obtain ⟨-, h⟩ := oif_some h
      obtain ⟨-, h⟩ := oif_some h
      obtain ⟨v46, e46, h⟩ := elet_some h
      rw [kl] at e46
      obtain ⟨-, h⟩ := oif_some h
      obtain ⟨-, h⟩ := oif_some h
      obtain ⟨T49, e49, h⟩ := elet_some h
      rw [kl] at e49
      have I49 : IA T0 T49 := by rw [e49]; exact ia_uI I39 rd6 (by decide) (by decide) (rfl : iR 66 l = (-999, 999)) (iv_int I39.2 re6 (by decide) (by decide) e46 rfl) (.inl rfl)
      obtain ⟨-, h⟩ := oif_some h
      obtain ⟨n51, en, h⟩ := obind_some h
      rw [I49.1, d9] at en
      cases en
      obtain ⟨-, h⟩ := oif_some h
      obtain ⟨n53, en, h⟩ := obind_some h
      rw [I49.1, e9] at en
      cases en
      obtain ⟨-, h⟩ := oif_some h
      obtain ⟨-, h⟩ := oif_some h
      obtain ⟨v56, e56, h⟩ := elet_some h
      rw [kl] at e56
      obtain ⟨-, h⟩ := oif_some h
      obtain ⟨-, h⟩ := oif_some h
      obtain ⟨T59, e59, h⟩ := elet_some h
      rw [kl] at e59
      have I59 : IA T0 T59 := by rw [e59]; exact ia_uI I49 rd7 (by decide) (by decide) (rfl : iR 66 l = (-999, 999)) (iv_int I49.2 re7 (by decide) (by decide) e56 rfl) (.inl rfl)
      obtain ⟨v60, e60, h⟩ := elet_some h
      rw [show v60 = nI (l + 1) from e60.trans (nI_p1 l)] at h
      have x16 : v16 = T0.2.2.1 (e + 3) l := by rw [e16, ho _ _ (by omega)]
      have x26 : v26 = T0.2.2.1 (e + 4) l := by rw [e26, e19, ui_ne (.inl (by omega)), ho _ _ (by omega)]
      have x36 : v36 = T0.2.2.1 (e + 5) l := by rw [e36, e29, ui_ne (.inl (by omega)), e19, ui_ne (.inl (by omega)), ho _ _ (by omega)]
      have x46 : v46 = T0.2.2.1 (e + 6) l := by rw [e46, e39, ui_ne (.inl (by omega)), e29, ui_ne (.inl (by omega)), e19, ui_ne (.inl (by omega)), ho _ _ (by omega)]
      have x56 : v56 = T0.2.2.1 (e + 7) l := by rw [e56, e49, ui_ne (.inl (by omega)), e39, ui_ne (.inl (by omega)), e29, ui_ne (.inl (by omega)), e19, ui_ne (.inl (by omega)), ho _ _ (by omega)]
      have out : ∀ m k, m < d + 3 ∨ d + 8 ≤ m ∨ k ≠ l → T59.2.2.1 m k = T.2.2.1 m k := fun m k hm => by
        rw [e59, ui_ne (by omega), e49, ui_ne (by omega), e39, ui_ne (by omega), e29, ui_ne (by omega), e19, ui_ne (by omega)]
      refine ih (l + 1) (by omega) I59 (fun j hj => ?_) (fun k hk => ⟨?_, ?_⟩) (fun k hk => ?_) (fun m k hm => ?_) h
      · rw [out _ _ (by omega)]; exact h3 j hj
      · rw [out _ _ (by omega)]; exact (h12 k hk).1
      · rw [out _ _ (by omega)]; exact (h12 k hk).2
      · by_cases q : k = l
        · subst q
          refine ⟨?_, ?_, ?_, ?_, ?_⟩
          · rw [e59, ui_ne (.inl (by omega)), e49, ui_ne (.inl (by omega)), e39, ui_ne (.inl (by omega)), e29, ui_ne (.inl (by omega)), e19, ui_at]; exact x16
          · rw [e59, ui_ne (.inl (by omega)), e49, ui_ne (.inl (by omega)), e39, ui_ne (.inl (by omega)), e29, ui_at]; exact x26
          · rw [e59, ui_ne (.inl (by omega)), e49, ui_ne (.inl (by omega)), e39, ui_at]; exact x36
          · rw [e59, ui_ne (.inl (by omega)), e49, ui_at]; exact x46
          · rw [e59, ui_at]; exact x56
        · rw [out _ _ (by omega), out _ _ (by omega), out _ _ (by omega), out _ _ (by omega), out _ _ (by omega)]
          exact h6 k (by omega)
      · rw [out _ _ (by omega)]; exact ho m k hm
theorem c_cp26 {T0 : AT} (hc : CRF T0) (hd : d ∈ sds) (he : e ∈ sds) (hne : d ≠ e) : ∀ (f l : Nat) {T : AT}, l ≤ 12 → IA T0 T → (∀ j, j < 3 → T.2.2.1 d j = T0.2.2.1 e j) → (∀ k, k < l → T.2.2.1 (d + 1) k = T0.2.2.1 (e + 1) k ∧ T.2.2.1 (d + 2) k = T0.2.2.1 (e + 2) k) → (∀ m k, (m < d ∨ d + 3 ≤ m) → T.2.2.1 m k = T0.2.2.1 m k) → g_X8_copyFrom_b26 f T d e (nI l) = some T1 → CPd d e T0 T1 := by
  obtain ⟨d3, d4, -⟩ := sd_rf hc hd
  obtain ⟨e3, e4, -⟩ := sd_rf hc he
  obtain ⟨-, rd1, rd2, -⟩ := sd_ro hd
  obtain ⟨-, re1, re2, -⟩ := sd_ro he
  have gap := sd_gap hd he hne
  intro f
  induction f with
  | zero => intro l T hl hI h3 h12 ho h; cases h
  | succ f ih =>
    intro l T hl hI h3 h12 ho h
    unfold g_X8_copyFrom_b26 at h
    by_cases c : l = 12
    · subst c
      rw [if_pos (show (12 : Int32) ≤ nI 12 from by decide)] at h
      exact c_cp64 hc hd he hne 16384 0 (by decide) hI h3 h12 (fun k hk => absurd hk (Nat.not_lt_zero k)) (fun m k hm => ho m k (by omega)) h
    · rw [if_neg (fun q => c (by have := (nI_leI (a := 12) (by decide) (by omega)).mp q; omega))] at h
      have kl : (nI l).toNatClampNeg = l := nI_clamp (by omega)
      obtain ⟨-, h⟩ := oif_some h
      obtain ⟨n4, en, h⟩ := obind_some h
      rw [hI.1, d3] at en
      cases en
      obtain ⟨-, h⟩ := oif_some h
      obtain ⟨n6, en, h⟩ := obind_some h
      rw [hI.1, e3] at en
      cases en
      obtain ⟨-, h⟩ := oif_some h
      obtain ⟨-, h⟩ := oif_some h
      obtain ⟨v9, e9, h⟩ := elet_some h
      rw [kl] at e9
      obtain ⟨-, h⟩ := oif_some h
      obtain ⟨-, h⟩ := oif_some h
      obtain ⟨-, h⟩ := oif_some h
      obtain ⟨T12, e12, h⟩ := elet_some h
      rw [kl] at e12
      have I12 : IA T0 T12 := by rw [e12]; exact ia_uI hI rd1 (by decide) (by decide) (rfl : iR 62 l = (0, 1)) (iv_int hI.2 re1 (by decide) (by decide) e9 rfl) (.inl rfl)
      obtain ⟨-, h⟩ := oif_some h
      obtain ⟨n14, en, h⟩ := obind_some h
      rw [I12.1, d4] at en
      cases en
      obtain ⟨-, h⟩ := oif_some h
      obtain ⟨n16, en, h⟩ := obind_some h
      rw [I12.1, e4] at en
      cases en
      obtain ⟨-, h⟩ := oif_some h
      obtain ⟨-, h⟩ := oif_some h
      obtain ⟨v19, e19, h⟩ := elet_some h
      rw [kl] at e19
      obtain ⟨-, h⟩ := oif_some h
      obtain ⟨-, h⟩ := oif_some h
      obtain ⟨T22, e22, h⟩ := elet_some h
      rw [kl] at e22
      have I22 : IA T0 T22 := by rw [e22]; exact ia_uI I12 rd2 (by decide) (by decide) (rfl : iR 63 l = (0, 9)) (iv_int I12.2 re2 (by decide) (by decide) e19 rfl) (.inl rfl)
      obtain ⟨v23, e23, h⟩ := elet_some h
      rw [show v23 = nI (l + 1) from e23.trans (nI_p1 l)] at h
      have x9 : v9 = T0.2.2.1 (e + 1) l := by rw [e9, ho _ _ (by omega)]
      have x19 : v19 = T0.2.2.1 (e + 2) l := by rw [e19, e12, ui_ne (.inl (by omega)), ho _ _ (by omega)]
      have out : ∀ m k, m < d + 1 ∨ d + 3 ≤ m ∨ k ≠ l → T22.2.2.1 m k = T.2.2.1 m k := fun m k hm => by
        rw [e22, ui_ne (by omega), e12, ui_ne (by omega)]
      refine ih (l + 1) (by omega) I22 (fun j hj => ?_) (fun k hk => ?_) (fun m k hm => ?_) h
      · rw [out _ _ (by omega)]; exact h3 j hj
      · by_cases q : k = l
        · subst q
          refine ⟨?_, ?_⟩
          · rw [e22, ui_ne (.inl (by omega)), e12, ui_at]; exact x9
          · rw [e22, ui_at]; exact x19
        · rw [out _ _ (by omega), out _ _ (by omega)]
          exact h12 k (by omega)
      · rw [out _ _ (by omega)]; exact ho m k hm
theorem c_stcopy (hc : CRF T) (hV : IV aR0 1586 aK1 aK2 T) (hd : d ∈ sds) (he : e ∈ sds) (hne : d ≠ e) (h : g_X8_copyFrom T d e = some T1) : CPd d e T T1 := by
  have gap := sd_gap hd he hne
  have rd := (sd_ro hd).1
  have re := (sd_ro he).1
  unfold g_X8_copyFrom at h
  obtain ⟨-, h⟩ := oif_some h
  obtain ⟨v3, e3, h⟩ := elet_some h
  obtain ⟨-, h⟩ := oif_some h
  obtain ⟨T5, e5, h⟩ := elet_some h
  obtain ⟨-, h⟩ := oif_some h
  obtain ⟨v7, e7, h⟩ := elet_some h
  obtain ⟨-, h⟩ := oif_some h
  obtain ⟨T9, e9, h⟩ := elet_some h
  obtain ⟨-, h⟩ := oif_some h
  obtain ⟨v11, e11, h⟩ := elet_some h
  obtain ⟨-, h⟩ := oif_some h
  obtain ⟨T13, e13, h⟩ := elet_some h
  have I0 : IA T T := ⟨rfl, hV⟩
  have I5 : IA T T5 := by rw [e5]; exact ia_uI I0 rd (by decide) (by decide) (rfl : iR 8 0 = (0, 12)) (iv_int I0.2 re (by decide) (by decide) e3 rfl) (.inl rfl)
  have I9 : IA T T9 := by rw [e9]; exact ia_uI I5 rd (by decide) (by decide) (rfl : iR 8 1 = (0, 200)) (iv_int I5.2 re (by decide) (by decide) e7 rfl) (.inl rfl)
  have I13 : IA T T13 := by rw [e13]; exact ia_uI I9 rd (by decide) (by decide) (rfl : iR 8 2 = (-2147483648, 2147483647)) (i_any _) (.inl rfl)
  have x7 : v7 = T.2.2.1 e 1 := by rw [e7, e5, ui_ne (.inl (by omega))]
  have x11 : v11 = T.2.2.1 e 2 := by rw [e11, e9, ui_ne (.inl (by omega)), e5, ui_ne (.inl (by omega))]
  refine c_cp26 hc hd he hne 16384 0 (by decide) I13 (fun j hj => ?_) (fun k hk => absurd hk (Nat.not_lt_zero k)) (fun m k hm => ?_) h
  · rcases (show j = 0 ∨ j = 1 ∨ j = 2 by omega) with q | q | q <;> subst q
    · rw [e13, ui_ne (.inr (by decide)), e9, ui_ne (.inr (by decide)), e5, ui_at]; exact e3
    · rw [e13, ui_ne (.inr (by decide)), e9, ui_at]; exact x7
    · rw [e13, ui_at]; exact x11
  · rw [e13, ui_ne (.inl (by omega)), e9, ui_ne (.inl (by omega)), e5, ui_ne (.inl (by omega))]
end
