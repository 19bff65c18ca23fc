/-! Class and reference read a text alike: tokens by their places -/
theorem ui_get {T : AT} {n k : Nat} {v : Int32} (m j : Nat) : (uI T n k v).2.2.1 m j = if m = n ∧ j = k then v else T.2.2.1 m j := by
  show va_up T.2.2.1 n (upd (T.2.2.1 n) k v) m j = _
  by_cases e : m = n
  · subst e
    rw [va_up_self]
    unfold upd
    by_cases e2 : j = k
    · rw [if_pos e2, if_pos ⟨rfl, e2⟩]
    · rw [if_neg e2, if_neg (fun q => e2 q.2)]
  · rw [va_up_ne _ _ e, if_neg (fun q => e q.1)]
theorem ui_at {T : AT} {n k : Nat} {v : Int32} : (uI T n k v).2.2.1 n k = v := by rw [ui_get, if_pos ⟨rfl, rfl⟩]
theorem ui_ne {T : AT} {n k m j : Nat} {v : Int32} (h : m ≠ n ∨ j ≠ k) : (uI T n k v).2.2.1 m j = T.2.2.1 m j := by
  rw [ui_get, if_neg (fun q => by rcases h with h | h; exact h q.1; exact h q.2)]
theorem mi_ne {S : MS} {k j : Nat} {v : Int32} (h : j ≠ k) : (mi S k v).1 j = S.1 j := by
  show (bif Nat.beq j k then v else S.1 j) = _
  have e : Nat.beq j k = false := Bool.eq_false_iff.mpr (fun q => h (Nat.eq_of_beq_eq_true q))
  rw [e]
  rfl
theorem mi_at {S : MS} {k : Nat} {v : Int32} : (mi S k v).1 k = v := by
  show (bif Nat.beq k k then v else S.1 k) = _
  rw [Nat.beq_refl]
  rfl
theorem othr_k {α β : Type} {x : Option (Nat × α × AT)} {z : β} {f : α → AT → Option (Nat × β × AT)} {e1 : Nat} {r1 : β} {T1 : AT} (h : othr x z f = some (e1, r1, T1)) : (∃ r, x = some (e1, r, T1) ∧ e1 ≠ 0) ∨ ∃ r T, x = some (0, r, T) ∧ f r T = some (e1, r1, T1) := by
  unfold othr at h
  match x, h with
  | none, h => cases h
  | some (0, r, T), h => exact .inr ⟨r, T, rfl, h⟩
  | some (k + 1, r, T), h =>
    have f := osome3 h
    refine .inl ⟨r, ?_, ?_⟩
    · rw [← f.1, ← f.2.2]
    · rw [← f.1]; exact Nat.succ_ne_zero k
def sk1 (b : Nat → Int32) (n : Nat) : Nat → Nat → Nat
  | 0, p => p
  | f + 1, p => if p < n ∧ b p = 32 then sk1 b n f (p + 1) else p
def sk (b : Nat → Int32) (n p : Nat) : Nat := sk1 b n (n - p) p
def rn1 (b : Nat → Int32) (n : Nat) (lo hi : Int32) : Nat → Nat → Nat
  | 0, p => p
  | f + 1, p => if p < n ∧ lo ≤ b p ∧ b p ≤ hi then rn1 b n lo hi f (p + 1) else p
def rn (b : Nat → Int32) (n : Nat) (lo hi : Int32) (p : Nat) : Nat := rn1 b n lo hi (n - p) p
def te (b : Nat → Int32) (n p : Nat) : Nat := if n ≤ p then n else if 97 ≤ b p ∧ b p ≤ 122 then rn b n 97 122 p else if 48 ≤ b p ∧ b p ≤ 57 then rn b n 48 57 p else p + 1
def kd (b : Nat → Int32) (n p : Nat) : Int32 := if n ≤ p then 5 else if 97 ≤ b p ∧ b p ≤ 122 then (if te b n p - p ≤ 8 then 1 else 6) else if 48 ≤ b p ∧ b p ≤ 57 then (if te b n p - p ≤ 4 then 2 else 6) else if b p = 45 then 3 else if b p = 59 then 4 else 6
def pst (b : Nat → Int32) (n : Nat) : Nat → Nat
  | 0 => sk b n 0
  | i + 1 => sk b n (te b n (pst b n i))
def vf (b : Nat → Int32) : Nat → Nat → Int32 → Int32
  | 0, _, a => a
  | k + 1, p, a => vf b k (p + 1) (10 * a + b p - 48)
section
variable {b : Nat → Int32} {n : Nat}
theorem vf_snoc : ∀ (k p : Nat) (a : Int32), vf b (k + 1) p a = 10 * vf b k p a + b (p + k) - 48 := by
  intro k
  induction k with
  | zero => intro p a; rfl
  | succ k ih =>
    intro p a
    show vf b (k + 1) (p + 1) _ = 10 * vf b k (p + 1) _ + _ - _
    rw [ih, show p + 1 + k = p + (k + 1) from by omega]
theorem sk_sp {p : Nat} (h : p < n) (e : b p = 32) : sk b n p = sk b n (p + 1) := by
  unfold sk
  rw [show n - p = (n - (p + 1)) + 1 from by omega]
  show (if p < n ∧ b p = 32 then sk1 b n (n - (p + 1)) (p + 1) else p) = _
  rw [if_pos ⟨h, e⟩]
theorem sk_no {p : Nat} (h : ¬ (p < n ∧ b p = 32)) : sk b n p = p := by
  unfold sk
  cases n - p with
  | zero => rfl
  | succ f =>
    show (if p < n ∧ b p = 32 then sk1 b n f (p + 1) else p) = _
    rw [if_neg h]
theorem sk1_b : ∀ f p : Nat, p + f ≤ n → p ≤ sk1 b n f p ∧ sk1 b n f p ≤ n := by
  intro f
  induction f with
  | zero => intro p h; exact ⟨Nat.le_refl _, h⟩
  | succ f ih =>
    intro p h
    show p ≤ (if p < n ∧ b p = 32 then sk1 b n f (p + 1) else p) ∧ (if p < n ∧ b p = 32 then sk1 b n f (p + 1) else p) ≤ n
    by_cases c : p < n ∧ b p = 32
    · rw [if_pos c]
      have := ih (p + 1) (by omega)
      omega
    · rw [if_neg c]
      omega
theorem sk_b {p : Nat} (h : p ≤ n) : p ≤ sk b n p ∧ sk b n p ≤ n := sk1_b (n - p) p (by omega)
theorem rn_in {lo hi : Int32} {p : Nat} (h : p < n) (h1 : lo ≤ b p) (h2 : b p ≤ hi) : rn b n lo hi p = rn b n lo hi (p + 1) := by
  unfold rn
  rw [show n - p = (n - (p + 1)) + 1 from by omega]
  show (if p < n ∧ lo ≤ b p ∧ b p ≤ hi then rn1 b n lo hi (n - (p + 1)) (p + 1) else p) = _
  rw [if_pos ⟨h, h1, h2⟩]
theorem rn_no {lo hi : Int32} {p : Nat} (h : ¬ (p < n ∧ lo ≤ b p ∧ b p ≤ hi)) : rn b n lo hi p = p := by
  unfold rn
  cases n - p with
  | zero => rfl
  | succ f =>
    show (if p < n ∧ lo ≤ b p ∧ b p ≤ hi then rn1 b n lo hi f (p + 1) else p) = _
    rw [if_neg h]
theorem rn1_b {lo hi : Int32} : ∀ f p : Nat, p + f ≤ n → p ≤ rn1 b n lo hi f p ∧ rn1 b n lo hi f p ≤ n := by
  intro f
  induction f with
  | zero => intro p h; exact ⟨Nat.le_refl _, h⟩
  | succ f ih =>
    intro p h
    show p ≤ (if p < n ∧ lo ≤ b p ∧ b p ≤ hi then rn1 b n lo hi f (p + 1) else p) ∧ (if p < n ∧ lo ≤ b p ∧ b p ≤ hi then rn1 b n lo hi f (p + 1) else p) ≤ n
    by_cases c : p < n ∧ lo ≤ b p ∧ b p ≤ hi
    · rw [if_pos c]
      have := ih (p + 1) (by omega)
      omega
    · rw [if_neg c]
      omega
theorem rn_b {lo hi : Int32} {p : Nat} (h : p ≤ n) : p ≤ rn b n lo hi p ∧ rn b n lo hi p ≤ n := rn1_b (n - p) p (by omega)
theorem te_b {p : Nat} (h : p < n) : p + 1 ≤ te b n p ∧ te b n p ≤ n := by
  unfold te
  rw [if_neg (by omega)]
  by_cases c : 97 ≤ b p ∧ b p ≤ 122
  · rw [if_pos c, rn_in h c.1 c.2]
    exact rn_b (by omega)
  · rw [if_neg c]
    by_cases c : 48 ≤ b p ∧ b p ≤ 57
    · rw [if_pos c, rn_in h c.1 c.2]
      exact rn_b (by omega)
    · rw [if_neg c]
      omega
theorem te_n {p : Nat} (h : n ≤ p) : te b n p = n := by unfold te; rw [if_pos h]
theorem te_le {p : Nat} : te b n p ≤ n := by
  by_cases h : n ≤ p
  · rw [te_n h]; exact Nat.le_refl _
  · exact (te_b (by omega)).2
theorem pst_le (i : Nat) : pst b n i ≤ n := by
  cases i with
  | zero => exact (sk_b (Nat.zero_le _)).2
  | succ i => exact (sk_b te_le).2
theorem kd_n {p : Nat} (h : n ≤ p) : kd b n p = 5 := by unfold kd; rw [if_pos h]
theorem kd_all (p : Nat) : kd b n p = 1 ∨ kd b n p = 2 ∨ kd b n p = 3 ∨ kd b n p = 4 ∨ kd b n p = 5 ∨ kd b n p = 6 := by
  unfold kd
  by_cases c : n ≤ p
  · rw [if_pos c]; simp
  · rw [if_neg c]
    by_cases c : 97 ≤ b p ∧ b p ≤ 122
    · rw [if_pos c]; split <;> simp
    · rw [if_neg c]
      by_cases c : 48 ≤ b p ∧ b p ≤ 57
      · rw [if_pos c]; split <;> simp
      · rw [if_neg c]
        by_cases c : b p = 45
        · rw [if_pos c]; simp
        · rw [if_neg c]; split <;> simp
/-- what the reference's token says -/
def TKR (b : Nat → Int32) (n p : Nat) (t v : Int32) : Prop := (kd b n p = 5 → t = 1) ∧ (kd b n p = 1 → t = 2) ∧ (kd b n p = 2 → t = 3 ∧ v = vf b (te b n p - p) p 0) ∧ (kd b n p = 3 → t = 4 ∧ v = 45) ∧ (kd b n p = 4 → t = 4 ∧ v = 59) ∧ (kd b n p = 6 → t = 0 ∨ t = 4 ∧ v ≠ 45 ∧ v ≠ 59)
theorem tk_end {p : Nat} {t v : Int32} (h : TKR b n p t v) : t = 1 ↔ kd b n p = 5 := by
  obtain ⟨h5, h1, h2, h3, h4, h6⟩ := h
  rcases kd_all (b := b) (n := n) p with e | e | e | e | e | e <;> rw [e] at h1 h2 h3 h4 h5 h6 ⊢
  · rw [h1 rfl]; decide
  · rw [(h2 rfl).1]; decide
  · rw [(h3 rfl).1]; decide
  · rw [(h4 rfl).1]; decide
  · rw [h5 rfl]
    decide
  · rcases h6 rfl with q | q
    · rw [q]; decide
    · rw [q.1]; decide
theorem tk_word {p : Nat} {t v : Int32} (h : TKR b n p t v) : t = 2 ↔ kd b n p = 1 := by
  obtain ⟨h5, h1, h2, h3, h4, h6⟩ := h
  rcases kd_all (b := b) (n := n) p with e | e | e | e | e | e <;> rw [e] at h1 h2 h3 h4 h5 h6 ⊢
  · rw [h1 rfl]; decide
  · rw [(h2 rfl).1]; decide
  · rw [(h3 rfl).1]; decide
  · rw [(h4 rfl).1]; decide
  · rw [h5 rfl]; decide
  · rcases h6 rfl with q | q
    · rw [q]; decide
    · rw [q.1]; decide
theorem tk_num {p : Nat} {t v : Int32} (h : TKR b n p t v) : t = 3 ↔ kd b n p = 2 := by
  obtain ⟨h5, h1, h2, h3, h4, h6⟩ := h
  rcases kd_all (b := b) (n := n) p with e | e | e | e | e | e <;> rw [e] at h1 h2 h3 h4 h5 h6 ⊢
  · rw [h1 rfl]; decide
  · rw [(h2 rfl).1]; decide
  · rw [(h3 rfl).1]; decide
  · rw [(h4 rfl).1]; decide
  · rw [h5 rfl]; decide
  · rcases h6 rfl with q | q
    · rw [q]; decide
    · rw [q.1]; decide
theorem tk_minus {p : Nat} {t v : Int32} (h : TKR b n p t v) : (t = 4 ∧ v = 45) ↔ kd b n p = 3 := by
  obtain ⟨h5, h1, h2, h3, h4, h6⟩ := h
  rcases kd_all (b := b) (n := n) p with e | e | e | e | e | e <;> rw [e] at h1 h2 h3 h4 h5 h6 ⊢
  · rw [h1 rfl]; exact ⟨fun q => absurd q.1 (by decide), fun q => absurd q (by decide)⟩
  · rw [(h2 rfl).1]; exact ⟨fun q => absurd q.1 (by decide), fun q => absurd q (by decide)⟩
  · exact ⟨fun _ => rfl, fun _ => h3 rfl⟩
  · rw [(h4 rfl).2]; exact ⟨fun q => absurd q.2 (by decide), fun q => absurd q (by decide)⟩
  · rw [h5 rfl]; exact ⟨fun q => absurd q.1 (by decide), fun q => absurd q (by decide)⟩
  · refine ⟨fun q => ?_, fun q => absurd q (by decide)⟩
    rcases h6 rfl with w | w
    · rw [w] at q; exact absurd q.1 (by decide)
    · exact absurd q.2 w.2.1
theorem tk_semi {p : Nat} {t v : Int32} (h : TKR b n p t v) : (t = 4 ∧ v = 59) ↔ kd b n p = 4 := by
  obtain ⟨h5, h1, h2, h3, h4, h6⟩ := h
  rcases kd_all (b := b) (n := n) p with e | e | e | e | e | e <;> rw [e] at h1 h2 h3 h4 h5 h6 ⊢
  · rw [h1 rfl]; exact ⟨fun q => absurd q.1 (by decide), fun q => absurd q (by decide)⟩
  · rw [(h2 rfl).1]; exact ⟨fun q => absurd q.1 (by decide), fun q => absurd q (by decide)⟩
  · rw [(h3 rfl).2]; exact ⟨fun q => absurd q.2 (by decide), fun q => absurd q (by decide)⟩
  · exact ⟨fun _ => rfl, fun _ => h4 rfl⟩
  · rw [h5 rfl]; exact ⟨fun q => absurd q.1 (by decide), fun q => absurd q (by decide)⟩
  · refine ⟨fun q => ?_, fun q => absurd q (by decide)⟩
    rcases h6 rfl with w | w
    · rw [w] at q; exact absurd q.1 (by decide)
    · exact absurd q.2 w.2.2
/-! the class cuts -/
def TXR (T : AT) : Prop := T.2.2.2.2 1 0 = some 2 ∧ T.2.2.2.2 1 2 = some 3 ∧ T.2.2.2.2 1 3 = some 4 ∧ T.2.2.2.2 1 4 = some 5 ∧ T.2.2.2.2 6 0 = some 1 ∧ T.2.1 3 = (100, 1001)
def BYq (b : Nat → Int32) (T : AT) : Prop := ∀ k, k < 1000 → T.2.2.1 2 k = b k
theorem q_run {lo hi : Int32} : ∀ (f : Nat) {T : AT} {p : Nat} {r : Int32} {T1 : AT}, TXR T → BYq b T → n ≤ 1000 → p ≤ n → g_X9_runEnd_b3 f T 1 (nI n) lo hi (nI p) = some (r, T1) → r = nI (rn b n lo hi p) ∧ T1 = T := by
  intro f
  induction f with
  | zero => intro T p r T1 hR hB hn hp h; cases h
  | succ f ih =>
    intro T p r T1 hR hB hn hp h
    unfold g_X9_runEnd_b3 at h
    by_cases c : nI n ≤ nI p
    · rw [if_pos c] at h
      have c := (nI_leI (by omega) (by omega)).mp c
      have f := osome2 h
      rw [rn_no (by omega)]
      exact ⟨by rw [← f.1, show p = n from by omega], f.2.symm⟩
    · rw [if_neg c] at h
      have c : p < n := Nat.lt_of_not_le (fun q => c ((nI_leI (by omega) (by omega)).mpr q))
      obtain ⟨-, h⟩ := oif_some h
      obtain ⟨n4, e4, h⟩ := obind_some h
      rw [hR.1] at e4
      cases e4
      obtain ⟨-, h⟩ := oif_some h
      obtain ⟨-, h⟩ := oif_some h
      obtain ⟨v7, e7, h⟩ := elet_some h
      rw [nI_clamp (by omega), hB p (by omega)] at e7
      by_cases c2 : v7 < lo
      · rw [if_pos c2] at h
        unfold g_X9_runEnd_b32 at h
        have f := osome2 h
        rw [rn_no (fun q => Int32.not_lt.mpr q.2.1 (by rw [← e7]; exact c2))]
        exact ⟨f.1.symm, f.2.symm⟩
      · rw [if_neg c2] at h
        obtain ⟨-, h⟩ := oif_some h
        obtain ⟨n10, e10, h⟩ := obind_some h
        rw [hR.1] at e10
        cases e10
        obtain ⟨-, h⟩ := oif_some h
        obtain ⟨-, h⟩ := oif_some h
        obtain ⟨v13, e13, h⟩ := elet_some h
        rw [nI_clamp (by omega), hB p (by omega)] at e13
        by_cases c3 : v13 ≤ hi
        · rw [if_pos c3] at h
          obtain ⟨v15, e15, h⟩ := elet_some h
          have e15 : v15 = nI (p + 1) := e15.trans (nI_1 p)
          rw [e15] at h
          have k := ih hR hB hn (by omega) h
          rw [rn_in c (by rw [← e7]; exact Int32.not_lt.mp c2) (by rw [← e13]; exact c3)]
          exact k
        · rw [if_neg c3] at h
          unfold g_X9_runEnd_b32 at h
          have f := osome2 h
          rw [rn_no (fun q => c3 (by rw [e13]; exact q.2.2))]
          exact ⟨f.1.symm, f.2.symm⟩
theorem q_add {T T1 : AT} {c : Nat} {k st en : Int32} (hR : TXR T) (hc : T.2.2.1 1 5 = nI c) (hc2 : c ≤ 1000) (h : g_X9_add T 1 k st en = some T1) : T1 = uI (uI (uI (uI T 3 c k) 4 c st) 5 c en) 1 5 (nI (c + 1)) := by
  unfold g_X9_add at h
  obtain ⟨-, h⟩ := oif_some h
  obtain ⟨v3, e3, h⟩ := elet_some h
  rw [hc] at e3
  obtain ⟨-, h⟩ := oif_some h
  obtain ⟨n5, e5, h⟩ := obind_some h
  rw [hR.2.1] at e5
  cases e5
  obtain ⟨-, h⟩ := oif_some h
  obtain ⟨v7, e7, h⟩ := elet_some h
  rw [hR.2.2.2.2.2] at e7
  have e7 : v7 = nI 1001 := e7
  rw [if_neg (fun q => by rw [e7, e3] at q; have := (nI_leI (by decide) (by omega)).mp q; omega)] at h
  obtain ⟨-, h⟩ := oif_some h
  obtain ⟨n10, e10, h⟩ := obind_some h
  rw [hR.2.1] at e10
  cases e10
  obtain ⟨-, h⟩ := oif_some h
  obtain ⟨v12, e12, h⟩ := elet_some h
  rw [hc] at e12
  obtain ⟨-, h⟩ := oif_some h
  obtain ⟨-, h⟩ := oif_some h
  obtain ⟨T15, e15, h⟩ := elet_some h
  rw [e12, nI_clamp (by omega)] at e15
  have i15 : T15.2.2.1 1 5 = nI c := by rw [e15, ui_ne (.inl (by decide))]; exact hc
  have r15 : T15.2.2.2.2 = T.2.2.2.2 := by rw [e15]; rfl
  obtain ⟨-, h⟩ := oif_some h
  obtain ⟨n17, e17, h⟩ := obind_some h
  rw [r15, hR.2.2.1] at e17
  cases e17
  obtain ⟨-, h⟩ := oif_some h
  obtain ⟨v19, e19, h⟩ := elet_some h
  rw [i15] at e19
  obtain ⟨-, h⟩ := oif_some h
  obtain ⟨-, h⟩ := oif_some h
  obtain ⟨T22, e22, h⟩ := elet_some h
  rw [e19, nI_clamp (by omega)] at e22
  have i22 : T22.2.2.1 1 5 = nI c := by rw [e22, ui_ne (.inl (by decide))]; exact i15
  have r22 : T22.2.2.2.2 = T.2.2.2.2 := by rw [e22]; exact r15
  obtain ⟨-, h⟩ := oif_some h
  obtain ⟨n24, e24, h⟩ := obind_some h
  rw [r22, hR.2.2.2.1] at e24
  cases e24
  obtain ⟨-, h⟩ := oif_some h
  obtain ⟨v26, e26, h⟩ := elet_some h
  rw [i22] at e26
  obtain ⟨-, h⟩ := oif_some h
  obtain ⟨-, h⟩ := oif_some h
  obtain ⟨T29, e29, h⟩ := elet_some h
  rw [e26, nI_clamp (by omega)] at e29
  have i29 : T29.2.2.1 1 5 = nI c := by rw [e29, ui_ne (.inl (by decide))]; exact i22
  obtain ⟨-, h⟩ := oif_some h
  obtain ⟨v31, e31, h⟩ := elet_some h
  rw [i29] at e31
  obtain ⟨v32, e32, h⟩ := elet_some h
  rw [e31, nI_1] at e32
  obtain ⟨-, h⟩ := oif_some h
  obtain ⟨T34, e34, h⟩ := elet_some h
  unfold g_X9_add_b52 at h
  rw [← osome1 h, e34, e32, e29, e22, e15]
/-- the tokens that are stored -/
def TK1 (b : Nat → Int32) (n : Nat) (T : AT) (j : Nat) : Prop := ∀ i, i < j → T.2.2.1 3 i = kd b n (pst b n i) ∧ T.2.2.1 4 i = nI (pst b n i) ∧ T.2.2.1 5 i = nI (te b n (pst b n i)) ∧ pst b n i < n
def KPq (T T1 : AT) : Prop := T1.1 = T.1 ∧ T1.2.1 = T.2.1 ∧ T1.2.2.2 = T.2.2.2 ∧ ∀ m k, m ≠ 3 → m ≠ 4 → m ≠ 5 → (m ≠ 1 ∨ k ≠ 5) → T1.2.2.1 m k = T.2.2.1 m k
theorem KPq.rf (T : AT) : KPq T T := ⟨rfl, rfl, rfl, fun _ _ _ _ _ _ => rfl⟩
theorem KPq.tr {T T1 T2 : AT} (h : KPq T T1) (k : KPq T1 T2) : KPq T T2 := ⟨k.1.trans h.1, k.2.1.trans h.2.1, k.2.2.1.trans h.2.2.1, fun m j a b c d => (k.2.2.2 m j a b c d).trans (h.2.2.2 m j a b c d)⟩
theorem KPq.txr {T T1 : AT} (h : KPq T T1) (q : TXR T) : TXR T1 := by
  unfold TXR at q ⊢
  rw [h.2.2.1, h.2.1]
  exact q
theorem KPq.by {T T1 : AT} (h : KPq T T1) (q : BYq b T) : BYq b T1 := fun k hk => (h.2.2.2 2 k (by decide) (by decide) (by decide) (.inl (by decide))).trans (q k hk)
theorem q_tok {T T1 : AT} {j p : Nat} {k : Int32} (hR : TXR T) (hn : n ≤ 1000) (hj : j ≤ p) (hp : p < n) (hc : T.2.2.1 1 5 = nI j) (hT : TK1 b n T j) (e : pst b n j = p) (hk : k = kd b n p) (h : g_X9_add T 1 k (nI p) (nI (te b n p)) = some T1) : KPq T T1 ∧ T1.2.2.1 1 5 = nI (j + 1) ∧ TK1 b n T1 (j + 1) := by
  have q := q_add hR hc (by omega) h
  refine ⟨?_, by rw [q, ui_at], fun i hi => ?_⟩
  · rw [q]
    refine ⟨rfl, rfl, rfl, fun m k a3 a4 a5 a1 => ?_⟩
    rw [ui_ne (by omega), ui_ne (.inl a5), ui_ne (.inl a4), ui_ne (.inl a3)]
  · rw [q]
    by_cases c : i = j
    · subst c
      rw [ui_ne (.inl (by decide)), ui_ne (.inl (by decide)), ui_ne (.inl (by decide)), ui_at, ui_ne (.inl (by decide)), ui_ne (.inl (by decide)), ui_at, ui_ne (.inl (by decide)), ui_at, e]
      exact ⟨hk, rfl, rfl, hp⟩
    · rw [ui_ne (.inl (by decide)), ui_ne (.inl (by decide)), ui_ne (.inl (by decide)), ui_ne (.inr c), ui_ne (.inl (by decide)), ui_ne (.inl (by decide)), ui_ne (.inr c), ui_ne (.inl (by decide)), ui_ne (.inl (by decide)), ui_ne (.inr c), ui_ne (.inl (by decide)), ui_ne (.inl (by decide))]
      exact hT i (by omega)
end
