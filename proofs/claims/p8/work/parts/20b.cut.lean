section
variable {b : Nat → Int32} {n : Nat}
theorem q_let {c : Int32} (h1 : ¬ c < 97) (h2 : ¬ 122 < c) : 97 ≤ c ∧ c ≤ 122 := ⟨Int32.not_lt.mp h1, Int32.not_lt.mp h2⟩
theorem nI_dif {p q : Nat} (h : p ≤ q) (hq : q ≤ 2000) : (nI q - nI p).toInt = (q : Int) - p := by
  have a : (nI q).toInt = (q : Int) := nI_toInt (by omega)
  have c : (nI p).toInt = (p : Int) := nI_toInt (by omega)
  rw [i_sub (v := nI q - nI p) rfl (by omega) (by omega), a, c]
theorem q_one {T T1 : AT} {j p : Nat} {r : Int32} (hR : TXR T) (hB : BYq b T) (hn : n ≤ 1000) (hj : j ≤ p) (hp : p < n) (hc : T.2.2.1 1 5 = nI j) (hT : TK1 b n T j) (e : pst b n j = sk b n p) (h : g_X9_cutOne T 1 (nI n) (nI p) = some (r, T1)) : KPq T T1 ∧ ∃ j1 p1, r = nI p1 ∧ p < p1 ∧ p1 ≤ n ∧ j1 ≤ p1 ∧ T1.2.2.1 1 5 = nI j1 ∧ TK1 b n T1 j1 ∧ pst b n j1 = sk b n p1 := by
  have z8 : (8 : Int32).toInt = 8 := by decide
  have z4 : (4 : Int32).toInt = 4 := by decide
  have tb := te_b (b := b) hp
  -- a token that begins here
  have key : ∀ {T2 : AT} {k en : Int32}, ¬ b p = 32 → en = nI (te b n p) → k = kd b n p → g_X9_add T 1 k (nI p) en = some T2 → T1 = T2 → r = en → KPq T T1 ∧ ∃ j1 p1, r = nI p1 ∧ p < p1 ∧ p1 ≤ n ∧ j1 ≤ p1 ∧ T1.2.2.1 1 5 = nI j1 ∧ TK1 b n T1 j1 ∧ pst b n j1 = sk b n p1 := by
    intro T2 k en h32 he hk ha hT1 hr
    have ep : pst b n j = p := e.trans (sk_no (fun q => h32 q.2))
    rw [he] at ha
    obtain ⟨a1, a2, a3⟩ := q_tok hR hn hj hp hc hT ep hk ha
    rw [hT1]
    refine ⟨a1, j + 1, te b n p, hr.trans he, by omega, by omega, by omega, a2, a3, ?_⟩
    show sk b n (te b n (pst b n j)) = _
    rw [ep]
  have r109 : ∀ {l4 : Int32}, ¬ (97 ≤ b p ∧ b p ≤ 122) → ¬ (48 ≤ b p ∧ b p ≤ 57) → l4 = nI (p + 1) → g_X9_cutOne_b109 T 1 (nI p) (b p) l4 = some (r, T1) → KPq T T1 ∧ ∃ j1 p1, r = nI p1 ∧ p < p1 ∧ p1 ≤ n ∧ j1 ≤ p1 ∧ T1.2.2.1 1 5 = nI j1 ∧ TK1 b n T1 j1 ∧ pst b n j1 = sk b n p1 := by
    intro l4 n1 n2 hl h
    have et : te b n p = p + 1 := by unfold te; rw [if_neg (by omega), if_neg n1, if_neg n2]
    have ek : kd b n p = if b p = 45 then 3 else if b p = 59 then 4 else 6 := by unfold kd; rw [if_neg (by omega), if_neg n1, if_neg n2]
    unfold g_X9_cutOne_b109 at h
    by_cases c1 : b p = 45
    · rw [if_pos c1] at h
      obtain ⟨-, h⟩ := oif_some h
      obtain ⟨T4, e4, h⟩ := obind_some h
      unfold g_X9_cutOne_b158 at h
      have f := osome2 h
      exact key (by rw [c1]; decide) (by rw [hl, et]) (by rw [ek, if_pos c1]) e4 f.2.symm f.1.symm
    · rw [if_neg c1] at h
      by_cases c2 : b p = 59
      · rw [if_pos c2] at h
        obtain ⟨-, h⟩ := oif_some h
        obtain ⟨T4, e4, h⟩ := obind_some h
        unfold g_X9_cutOne_b158 at h
        have f := osome2 h
        exact key (by rw [c2]; decide) (by rw [hl, et]) (by rw [ek, if_neg c1, if_pos c2]) e4 f.2.symm f.1.symm
      · rw [if_neg c2] at h
        by_cases c3 : b p = 32
        · rw [if_pos c3] at h
          unfold g_X9_cutOne_b158 at h
          have f := osome2 h
          rw [← f.2, ← f.1]
          exact ⟨KPq.rf T, j, p + 1, hl, by omega, by omega, by omega, hc, hT, e.trans (sk_sp hp c3)⟩
        · rw [if_neg c3] at h
          obtain ⟨-, h⟩ := oif_some h
          obtain ⟨T4, e4, h⟩ := obind_some h
          unfold g_X9_cutOne_b158 at h
          have f := osome2 h
          exact key c3 (by rw [hl, et]) (by rw [ek, if_neg c1, if_neg c2]) e4 f.2.symm f.1.symm
  have r61 : ∀ {l4 : Int32}, ¬ (97 ≤ b p ∧ b p ≤ 122) → l4 = nI (p + 1) → g_X9_cutOne_b61 T 1 (nI n) (nI p) (b p) l4 = some (r, T1) → KPq T T1 ∧ ∃ j1 p1, r = nI p1 ∧ p < p1 ∧ p1 ≤ n ∧ j1 ≤ p1 ∧ T1.2.2.1 1 5 = nI j1 ∧ TK1 b n T1 j1 ∧ pst b n j1 = sk b n p1 := by
    intro l4 n1 hl h
    unfold g_X9_cutOne_b61 at h
    by_cases c1 : b p < 48
    · rw [if_pos c1] at h
      exact r109 n1 (fun q => Int32.not_lt.mpr q.1 c1) hl h
    · rw [if_neg c1] at h
      by_cases c2 : 57 < b p
      · rw [if_pos c2] at h
        exact r109 n1 (fun q => Int32.not_lt.mpr q.2 c2) hl h
      · rw [if_neg c2] at h
        have n2 : 48 ≤ b p ∧ b p ≤ 57 := ⟨Int32.not_lt.mp c1, Int32.not_lt.mp c2⟩
        have et : te b n p = rn b n 48 57 p := by unfold te; rw [if_neg (by omega), if_neg n1, if_pos n2]
        have ek : kd b n p = if te b n p - p ≤ 4 then 2 else 6 := by unfold kd; rw [if_neg (by omega), if_neg n1, if_pos n2]
        obtain ⟨-, h⟩ := oif_some h
        obtain ⟨r7, T5, e5, h⟩ := obind2_some h
        obtain ⟨k1, k2⟩ := q_run 16384 hR hB hn (by omega) e5
        rw [k2] at h
        obtain ⟨v9, e9, h⟩ := elet_some h
        rw [k1, ← et] at e9
        have q9 : v9.toInt = (te b n p : Int) - p := by rw [e9]; exact nI_dif (by omega) (by omega)
        have h32 : ¬ b p = 32 := fun q => by rw [q] at n2; exact absurd n2.1 (by decide)
        by_cases c3 : 4 < v9
        · rw [if_pos c3] at h
          have c3 := i_lt c3
          unfold g_X9_cutOne_b100 at h
          obtain ⟨-, h⟩ := oif_some h
          obtain ⟨T3, e3, h⟩ := obind_some h
          unfold g_X9_cutOne_b158 at h
          have f := osome2 h
          exact key h32 (by rw [k1, et]) (by rw [ek, if_neg (by omega)]) e3 f.2.symm f.1.symm
        · rw [if_neg c3] at h
          have c3 := i_nlt c3
          unfold g_X9_cutOne_b100 at h
          obtain ⟨-, h⟩ := oif_some h
          obtain ⟨T3, e3, h⟩ := obind_some h
          unfold g_X9_cutOne_b158 at h
          have f := osome2 h
          exact key h32 (by rw [k1, et]) (by rw [ek, if_pos (by omega)]) e3 f.2.symm f.1.symm
  unfold g_X9_cutOne at h
  obtain ⟨-, h⟩ := oif_some h
  obtain ⟨n3, e3, h⟩ := obind_some h
  rw [hR.1] at e3
  cases e3
  obtain ⟨-, h⟩ := oif_some h
  obtain ⟨-, h⟩ := oif_some h
  obtain ⟨v6, e6, h⟩ := elet_some h
  rw [nI_clamp (by omega), hB p (by omega)] at e6
  rw [e6] at h
  obtain ⟨v7, e7, h⟩ := elet_some h
  rw [nI_1] at e7
  by_cases c1 : b p < 97
  · rw [if_pos c1] at h
    exact r61 (fun q => Int32.not_lt.mpr q.1 c1) e7 h
  · rw [if_neg c1] at h
    by_cases c2 : 122 < b p
    · rw [if_pos c2] at h
      exact r61 (fun q => Int32.not_lt.mpr q.2 c2) e7 h
    · rw [if_neg c2] at h
      have n1 := q_let c1 c2
      have et : te b n p = rn b n 97 122 p := by unfold te; rw [if_neg (by omega), if_pos n1]
      have ek : kd b n p = if te b n p - p ≤ 8 then 1 else 6 := by unfold kd; rw [if_neg (by omega), if_pos n1]
      obtain ⟨-, h⟩ := oif_some h
      obtain ⟨r7, T5, e5, h⟩ := obind2_some h
      obtain ⟨k1, k2⟩ := q_run 16384 hR hB hn (by omega) e5
      rw [k2] at h
      obtain ⟨v9, e9, h⟩ := elet_some h
      rw [k1, ← et] at e9
      have q9 : v9.toInt = (te b n p : Int) - p := by rw [e9]; exact nI_dif (by omega) (by omega)
      have h32 : ¬ b p = 32 := fun q => by rw [q] at n1; exact absurd n1.1 (by decide)
      by_cases c3 : 8 < v9
      · rw [if_pos c3] at h
        have c3 := i_lt c3
        unfold g_X9_cutOne_b52 at h
        obtain ⟨-, h⟩ := oif_some h
        obtain ⟨T3, e3, h⟩ := obind_some h
        unfold g_X9_cutOne_b158 at h
        have f := osome2 h
        exact key h32 (by rw [k1, et]) (by rw [ek, if_neg (by omega)]) e3 f.2.symm f.1.symm
      · rw [if_neg c3] at h
        have c3 := i_nlt c3
        unfold g_X9_cutOne_b52 at h
        obtain ⟨-, h⟩ := oif_some h
        obtain ⟨T3, e3, h⟩ := obind_some h
        unfold g_X9_cutOne_b158 at h
        have f := osome2 h
        exact key h32 (by rw [k1, et]) (by rw [ek, if_pos (by omega)]) e3 f.2.symm f.1.symm
/-- all tokens: c of them, the last one the end -/
def TKS (b : Nat → Int32) (n : Nat) (T : AT) (c : Nat) : Prop := T.2.2.1 1 5 = nI c ∧ 1 ≤ c ∧ c ≤ 1001 ∧ (∀ i, i < c → T.2.2.1 3 i = kd b n (pst b n i) ∧ T.2.2.1 4 i = nI (pst b n i) ∧ T.2.2.1 5 i = nI (te b n (pst b n i))) ∧ (∀ i, i + 1 < c → pst b n i < n) ∧ pst b n (c - 1) = n
theorem q_cutl : ∀ (f : Nat) {T T1 : AT} {j p i : Nat}, TXR T → BYq b T → n ≤ 1000 → j ≤ p → p ≤ n → i ≤ p → T.2.2.1 1 5 = nI j → TK1 b n T j → pst b n j = sk b n p → g_X9_cut_b9 f T 1 (nI n) (nI p) (nI i) = some T1 → KPq T T1 ∧ ∃ c, TKS b n T1 c := by
  intro f
  induction f with
  | zero => intro T T1 j p i hR hB hn hj hp hi hc hT e h; cases h
  | succ f ih =>
    intro T T1 j p i hR hB hn hj hp hi hc hT e h
    unfold g_X9_cut_b9 at h
    have fin : p = n → g_X9_cut_b32 T 1 (nI n) = some T1 → KPq T T1 ∧ ∃ c, TKS b n T1 c := by
      intro hpn h
      subst hpn
      unfold g_X9_cut_b32 at h
      obtain ⟨-, h⟩ := oif_some h
      obtain ⟨T3, e3, h⟩ := obind_some h
      have q := q_add hR hc (by omega) e3
      have en : pst b p j = p := e.trans (sk_no (by omega))
      rw [← osome1 h]
      refine ⟨?_, j + 1, by rw [q, ui_at], by omega, by omega, fun i hi => ?_, fun i hi => (hT i (by omega)).2.2.2, by rw [Nat.add_sub_cancel]; exact en⟩
      · rw [q]
        refine ⟨rfl, rfl, rfl, fun m k a3 a4 a5 a1 => ?_⟩
        rw [ui_ne (by omega), ui_ne (.inl a5), ui_ne (.inl a4), ui_ne (.inl a3)]
      · rw [q]
        by_cases c : i = j
        · subst c
          rw [ui_ne (.inl (by decide)), ui_ne (.inl (by decide)), ui_ne (.inl (by decide)), ui_at, ui_ne (.inl (by decide)), ui_ne (.inl (by decide)), ui_at, ui_ne (.inl (by decide)), ui_at, en]
          exact ⟨(kd_n (Nat.le_refl _)).symm, rfl, by rw [te_n (Nat.le_refl _)]⟩
        · rw [ui_ne (.inl (by decide)), ui_ne (.inl (by decide)), ui_ne (.inl (by decide)), ui_ne (.inr c), ui_ne (.inl (by decide)), ui_ne (.inl (by decide)), ui_ne (.inr c), ui_ne (.inl (by decide)), ui_ne (.inl (by decide)), ui_ne (.inr c), ui_ne (.inl (by decide)), ui_ne (.inl (by decide))]
          exact ⟨(hT i (by omega)).1, (hT i (by omega)).2.1, (hT i (by omega)).2.2.1⟩
    by_cases c1 : nI n ≤ nI i
    · rw [if_pos c1] at h
      have c1 := (nI_leI (by omega) (by omega)).mp c1
      exact fin (by omega) h
    · rw [if_neg c1] at h
      by_cases c2 : nI n ≤ nI p
      · rw [if_pos c2] at h
        have c2 := (nI_leI (by omega) (by omega)).mp c2
        exact fin (by omega) h
      · rw [if_neg c2] at h
        have c2 : p < n := Nat.lt_of_not_le (fun q => c2 ((nI_leI (by omega) (by omega)).mpr q))
        obtain ⟨-, h⟩ := oif_some h
        obtain ⟨r7, T5, e5, h⟩ := obind2_some h
        obtain ⟨k1, j1, p1, hr, hp1, hp2, hj1, hc1, hT1, e1⟩ := q_one hR hB hn hj c2 hc hT e e5
        obtain ⟨v9, e9, h⟩ := elet_some h
        have e9 : v9 = nI (i + 1) := e9.trans (nI_1 i)
        rw [hr, e9] at h
        obtain ⟨k2, q⟩ := ih (k1.txr hR) (k1.by hB) hn hj1 hp2 (by omega) hc1 hT1 e1 h
        exact ⟨k1.tr k2, q⟩
theorem q_cut {T T1 : AT} (hR : TXR T) (hB : BYq b T) (hn : n ≤ 1000) (h : g_X9_cut T 1 (nI n) = some T1) : KPq T T1 ∧ ∃ c, TKS b n T1 c := by
  unfold g_X9_cut at h
  obtain ⟨-, h⟩ := oif_some h
  obtain ⟨T3, e3, h⟩ := elet_some h
  have k : KPq T T3 := by
    rw [e3]
    exact ⟨rfl, rfl, rfl, fun m k a3 a4 a5 a1 => ui_ne (by omega)⟩
  obtain ⟨k2, q⟩ := q_cutl 16384 (j := 0) (p := 0) (i := 0) (k.txr hR) (k.by hB) hn (Nat.le_refl _) (Nat.zero_le _) (Nat.le_refl _) (by rw [e3, ui_at]; rfl) (fun i hi => absurd hi (Nat.not_lt_zero i)) rfl h
  exact ⟨k.tr k2, q⟩
/-! the reference's next token -/
theorem r_in {v lo hi r : Int32} (h : fr_in v lo hi = some r) : r = if lo ≤ v ∧ v ≤ hi then 1 else 0 := by
  unfold fr_in at h
  by_cases c : v < lo
  · rw [if_pos c] at h
    have h : some (0 : Int32) = some r := h
    rw [if_neg (fun q => Int32.not_lt.mpr q.1 c)]
    exact (osome1 h).symm
  · rw [if_neg c] at h
    by_cases c2 : hi < v
    · rw [if_pos c2] at h
      have h : some (0 : Int32) = some r := h
      rw [if_neg (fun q => Int32.not_lt.mpr q.2 c2)]
      exact (osome1 h).symm
    · rw [if_neg c2] at h
      have h : some (1 : Int32) = some r := h
      rw [if_pos ⟨Int32.not_lt.mp c, Int32.not_lt.mp c2⟩]
      exact (osome1 h).symm
theorem r_byte {S S1 : MS} {p : Nat} {r : Int32} (he : S.1 3 = nI n) (hn : n ≤ 1000) (hp : p ≤ n) (h : fr_byteAt S (nI p) = some (r, S1)) : S1 = S ∧ r = if p < n then S.2.1 1 p else -1 := by
  unfold fr_byteAt at h
  obtain ⟨v2, e2, h⟩ := elet_some h
  rw [he] at e2
  rw [e2] at h
  by_cases c : nI n ≤ nI p
  · rw [if_pos c] at h
    have c := (nI_leI (by omega) (by omega)).mp c
    unfold fr_byteAt_b18 at h
    have f := osome2 h
    rw [if_neg (by omega)]
    exact ⟨f.2.symm, f.1.symm⟩
  · rw [if_neg c] at h
    have c : p < n := Nat.lt_of_not_le (fun q => c ((nI_leI (by omega) (by omega)).mpr q))
    obtain ⟨-, h⟩ := oif_some h
    obtain ⟨v5, e5, h⟩ := elet_some h
    unfold fr_byteAt_b18 at h
    have f := osome2 h
    rw [if_pos c]
    exact ⟨f.2.symm, by rw [← f.1, e5, nI_clamp (by omega)]⟩
def MFq (S S1 : MS) : Prop := S1.2 = S.2 ∧ ∀ k, k ≠ 4 → k ≠ 7 → k ≠ 8 → k ≠ 9 → S1.1 k = S.1 k
theorem MFq.rf (S : MS) : MFq S S := ⟨rfl, fun _ _ _ _ _ => rfl⟩
theorem MFq.tr {S S1 S2 : MS} (h : MFq S S1) (k : MFq S1 S2) : MFq S S2 := ⟨k.1.trans h.1, fun j a c d e => (k.2 j a c d e).trans (h.2 j a c d e)⟩
theorem mq {S S1 : MS} {k : Nat} {v : Int32} (h : MFq S S1) (hk : k = 4 ∨ k = 7 ∨ k = 8 ∨ k = 9) : MFq S (mi S1 k v) := ⟨h.1, fun j a c d e => (mi_ne (by omega)).trans (h.2 j a c d e)⟩
theorem r_let : ∀ (f : Nat) {S S1 : MS} {p q : Nat}, S.2.1 1 = b → S.1 3 = nI n → S.1 4 = nI q → S.1 8 = nI p → p ≤ q → q ≤ n → n ≤ 1000 → fr_nextToken_b79 f S = some S1 → MFq S S1 ∧ S1.1 8 = nI p ∧ S1.1 4 = nI (rn b n 97 122 q) ∧ S1.1 7 = if rn b n 97 122 q - p ≤ 8 then 2 else 0 := by
  have z8 : (8 : Int32).toInt = 8 := by decide
  intro f
  induction f with
  | zero => intro S S1 p q hb h3 h4 h8 hpq hq hn h; cases h
  | succ f ih =>
    intro S S1 p q hb h3 h4 h8 hpq hq hn h
    unfold fr_nextToken_b79 at h
    obtain ⟨v2, e2, h⟩ := elet_some h
    rw [h4] at e2
    rw [e2] at h
    obtain ⟨r6, S3, e3, h⟩ := obind2_some h
    obtain ⟨k1, k2⟩ := r_byte h3 hn hq e3
    rw [k1] at h
    obtain ⟨r7, e7, h⟩ := obind_some h
    have e7 := r_in e7
    by_cases c : q < n ∧ 97 ≤ b q ∧ b q ≤ 122
    · have c7 : r7 = 1 := by rw [e7, k2, if_pos c.1, hb, if_pos c.2]
      rw [if_neg (by rw [c7]; decide)] at h
      obtain ⟨v14, e14, h⟩ := elet_some h
      rw [h4] at e14
      obtain ⟨v15, e15, h⟩ := elet_some h
      rw [e14, nI_1] at e15
      obtain ⟨S16, e16, h⟩ := elet_some h
      have f16 : MFq S S16 := by rw [e16]; exact mq (MFq.rf S) (by omega)
      obtain ⟨a1, a2, a3, a4⟩ := ih (p := p) (q := q + 1) (by rw [f16.1]; exact hb) (by rw [f16.2 3 (by decide) (by decide) (by decide) (by decide)]; exact h3) (by rw [e16, mi_at, e15]) (by rw [e16, mi_ne (by decide)]; exact h8) (by omega) (by omega) hn h
      rw [rn_in c.1 c.2.1 c.2.2]
      exact ⟨f16.tr a1, a2, a3, a4⟩
    · have c7 : r7 = 0 := by
        rw [e7, k2]
        by_cases c1 : q < n
        · rw [if_pos c1, hb, if_neg (fun w => c ⟨c1, w⟩)]
        · rw [if_neg c1]
          decide
      rw [if_pos c7] at h
      obtain ⟨v10, e10, h⟩ := elet_some h
      rw [h4] at e10
      obtain ⟨v11, e11, h⟩ := elet_some h
      rw [h8] at e11
      obtain ⟨v12, e12, h⟩ := elet_some h
      rw [e10, e11] at e12
      have q12 : v12.toInt = (q : Int) - p := by rw [e12]; exact nI_dif hpq (by omega)
      rw [rn_no c]
      by_cases c8 : v12 ≤ 8
      · rw [if_pos c8] at h
        have c8 := i_le c8
        have h : some (mi S 7 2) = some S1 := h
        rw [← osome1 h, if_pos (by omega)]
        exact ⟨mq (MFq.rf S) (by omega), by rw [mi_ne (by decide)]; exact h8, by rw [mi_ne (by decide)]; exact h4, mi_at⟩
      · rw [if_neg c8] at h
        have c8 := i_nle c8
        have h : some (mi S 7 0) = some S1 := h
        rw [← osome1 h, if_neg (by omega)]
        exact ⟨mq (MFq.rf S) (by omega), by rw [mi_ne (by decide)]; exact h8, by rw [mi_ne (by decide)]; exact h4, mi_at⟩
theorem r_dig : ∀ (f : Nat) {S S1 : MS} {p q : Nat}, S.2.1 1 = b → S.1 3 = nI n → S.1 4 = nI q → S.1 8 = nI p → p ≤ q → q ≤ n → n ≤ 1000 → (q - p ≤ 4 → S.1 9 = vf b (q - p) p 0) → fr_nextToken_b159 f S = some S1 → MFq S S1 ∧ S1.1 8 = nI p ∧ S1.1 4 = nI (rn b n 48 57 q) ∧ S1.1 7 = (if rn b n 48 57 q - p ≤ 4 then 3 else 0) ∧ (rn b n 48 57 q - p ≤ 4 → S1.1 9 = vf b (rn b n 48 57 q - p) p 0) := by
  have z4 : (4 : Int32).toInt = 4 := by decide
  intro f
  induction f with
  | zero => intro S S1 p q hb h3 h4 h8 hpq hq hn hv h; cases h
  | succ f ih =>
    intro S S1 p q hb h3 h4 h8 hpq hq hn hv h
    unfold fr_nextToken_b159 at h
    obtain ⟨v2, e2, h⟩ := elet_some h
    rw [h4] at e2
    rw [e2] at h
    obtain ⟨r6, S3, e3, h⟩ := obind2_some h
    obtain ⟨k1, k2⟩ := r_byte h3 hn hq e3
    rw [k1] at h
    obtain ⟨r7, e7, h⟩ := obind_some h
    have e7 := r_in e7
    by_cases c : q < n ∧ 48 ≤ b q ∧ b q ≤ 57
    · have c7 : r7 = 1 := by rw [e7, k2, if_pos c.1, hb, if_pos c.2]
      rw [if_neg (by rw [c7]; decide)] at h
      obtain ⟨v14, e14, h⟩ := elet_some h
      rw [h4] at e14
      obtain ⟨v15, e15, h⟩ := elet_some h
      rw [h8] at e15
      obtain ⟨v16, e16, h⟩ := elet_some h
      rw [e14, e15] at e16
      have q16 : v16.toInt = (q : Int) - p := by rw [e16]; exact nI_dif hpq (by omega)
      have go : ∀ {S2 : MS}, MFq S S2 → S2.1 4 = nI q → S2.1 8 = nI p → (q + 1 - p ≤ 4 → S2.1 9 = vf b (q + 1 - p) p 0) → fr_nextToken_b213 (fr_nextToken_b159 f) S2 = some S1 → MFq S S1 ∧ S1.1 8 = nI p ∧ S1.1 4 = nI (rn b n 48 57 q) ∧ S1.1 7 = (if rn b n 48 57 q - p ≤ 4 then 3 else 0) ∧ (rn b n 48 57 q - p ≤ 4 → S1.1 9 = vf b (rn b n 48 57 q - p) p 0) := by
        intro S2 m2 a4 a8 a9 h
        unfold fr_nextToken_b213 at h
        obtain ⟨w2, d2, h⟩ := elet_some h
        rw [a4] at d2
        obtain ⟨w3, d3, h⟩ := elet_some h
        rw [d2, nI_1] at d3
        obtain ⟨S4, d4, h⟩ := elet_some h
        have f4 : MFq S S4 := by rw [d4]; exact mq m2 (by omega)
        obtain ⟨a1, a2, a3, a5⟩ := ih (p := p) (q := q + 1) (by rw [f4.1]; exact hb) (by rw [f4.2 3 (by decide) (by decide) (by decide) (by decide)]; exact h3) (by rw [d4, mi_at, d3]) (by rw [d4, mi_ne (by decide)]; exact a8) (by omega) (by omega) hn (fun w => by rw [d4, mi_ne (by decide)]; exact a9 w) h
        rw [rn_in c.1 c.2.1 c.2.2]
        exact ⟨f4.tr a1, a2, a3, a5⟩
      by_cases c4 : 4 ≤ v16
      · rw [if_pos c4] at h
        have c4 := i_le c4
        exact go (MFq.rf S) h4 h8 (fun w => absurd w (by omega)) h
      · rw [if_neg c4] at h
        have c4 := i_nle c4
        obtain ⟨v18, e18, h⟩ := elet_some h
        rw [hv (by omega)] at e18
        obtain ⟨v19, e19, h⟩ := elet_some h
        obtain ⟨v20, e20, h⟩ := elet_some h
        rw [h4] at e20
        rw [e20] at h
        obtain ⟨r24, S21, e21, h⟩ := obind2_some h
        obtain ⟨k3, k4⟩ := r_byte h3 hn hq e21
        rw [k3] at h
        rw [if_pos c.1, hb] at k4
        obtain ⟨v25, e25, h⟩ := elet_some h
        obtain ⟨v26, e26, h⟩ := elet_some h
        obtain ⟨S27, e27, h⟩ := elet_some h
        refine go (S2 := S27) (by rw [e27]; exact mq (MFq.rf S) (by omega)) (by rw [e27, mi_ne (by decide)]; exact h4) (by rw [e27, mi_ne (by decide)]; exact h8) (fun _ => ?_) h
        rw [e27, mi_at, e26, e25, k4, e19, e18, show q + 1 - p = (q - p) + 1 from by omega, vf_snoc, show p + (q - p) = q from by omega]
    · have c7 : r7 = 0 := by
        rw [e7, k2]
        by_cases c1 : q < n
        · rw [if_pos c1, hb, if_neg (fun w => c ⟨c1, w⟩)]
        · rw [if_neg c1]
          decide
      rw [if_pos c7] at h
      obtain ⟨v10, e10, h⟩ := elet_some h
      rw [h4] at e10
      obtain ⟨v11, e11, h⟩ := elet_some h
      rw [h8] at e11
      obtain ⟨v12, e12, h⟩ := elet_some h
      rw [e10, e11] at e12
      have q12 : v12.toInt = (q : Int) - p := by rw [e12]; exact nI_dif hpq (by omega)
      rw [rn_no c]
      by_cases c8 : v12 ≤ 4
      · rw [if_pos c8] at h
        have c8 := i_le c8
        have h : some (mi S 7 3) = some S1 := h
        rw [← osome1 h, if_pos (by omega)]
        exact ⟨mq (MFq.rf S) (by omega), by rw [mi_ne (by decide)]; exact h8, by rw [mi_ne (by decide)]; exact h4, mi_at, fun w => by rw [mi_ne (by decide)]; exact hv w⟩
      · rw [if_neg c8] at h
        have c8 := i_nle c8
        have h : some (mi S 7 0) = some S1 := h
        rw [← osome1 h, if_neg (by omega)]
        exact ⟨mq (MFq.rf S) (by omega), by rw [mi_ne (by decide)]; exact h8, by rw [mi_ne (by decide)]; exact h4, mi_at, fun w => by rw [mi_ne (by decide)]; exact hv w⟩
theorem r_sign {v r : Int32} (h : fr_isSign v = some r) (e : v = 45 ∨ v = 59) : r = 1 := by
  rcases e with rfl | rfl
  · have h : some (1 : Int32) = some r := h
    exact (osome1 h).symm
  · have h : some (1 : Int32) = some r := h
    exact (osome1 h).symm
theorem r_tok : ∀ (f : Nat) {S S1 : MS} {p : Nat}, S.2.1 1 = b → S.1 3 = nI n → S.1 4 = nI p → p ≤ n → n ≤ 1000 → fr_nextToken_b8 f S = some S1 → MFq S S1 ∧ S1.1 8 = nI (sk b n p) ∧ S1.1 4 = nI (te b n (sk b n p)) ∧ TKR b n (sk b n p) (S1.1 7) (S1.1 9) := by
  intro f
  induction f with
  | zero => intro S S1 p hb h3 h4 hp hn h; cases h
  | succ f ih =>
    intro S S1 p hb h3 h4 hp hn h
    unfold fr_nextToken_b8 at h
    obtain ⟨v2, e2, h⟩ := elet_some h
    rw [h4] at e2
    rw [e2] at h
    obtain ⟨r6, S3, e3, h⟩ := obind2_some h
    obtain ⟨k1, k2⟩ := r_byte h3 hn hp e3
    rw [k1] at h
    by_cases c : p < n ∧ b p = 32
    · rw [if_pos (by rw [k2, if_pos c.1, hb]; exact c.2)] at h
      obtain ⟨v8, e8, h⟩ := elet_some h
      rw [h4] at e8
      obtain ⟨v9, e9, h⟩ := elet_some h
      rw [e8, nI_1] at e9
      obtain ⟨S10, e10, h⟩ := elet_some h
      have f10 : MFq S S10 := by rw [e10]; exact mq (MFq.rf S) (by omega)
      obtain ⟨a1, a2, a3, a4⟩ := ih (p := p + 1) (by rw [f10.1]; exact hb) (by rw [f10.2 3 (by decide) (by decide) (by decide) (by decide)]; exact h3) (by rw [e10, mi_at, e9]) (by omega) hn h
      rw [sk_sp c.1 c.2]
      exact ⟨f10.tr a1, a2, a3, a4⟩
    · rw [if_neg (fun w => by
        rw [k2] at w
        by_cases c1 : p < n
        · rw [if_pos c1, hb] at w; exact c ⟨c1, w⟩
        · rw [if_neg c1] at w; exact absurd w (by decide))] at h
      rw [sk_no c]
      obtain ⟨v11, e11, h⟩ := elet_some h
      rw [h4] at e11
      obtain ⟨S12, e12, h⟩ := elet_some h
      have m12 : MFq S S12 := by rw [e12]; exact mq (MFq.rf S) (by omega)
      have a8 : S12.1 8 = nI p := by rw [e12, mi_at, e11]
      have a4 : S12.1 4 = nI p := by rw [e12, mi_ne (by decide)]; exact h4
      have a3 : S12.1 3 = nI n := by rw [e12, mi_ne (by decide)]; exact h3
      have ab : S12.2.1 1 = b := by rw [m12.1]; exact hb
      obtain ⟨v13, e13, h⟩ := elet_some h
      rw [a4] at e13
      obtain ⟨v14, e14, h⟩ := elet_some h
      rw [a3] at e14
      by_cases c1 : n = p
      · rw [if_pos (by rw [e13, e14, c1])] at h
        have h : some (mi S12 7 1) = some S1 := h
        rw [← osome1 h]
        have k5 : kd b n p = 5 := kd_n (by omega)
        refine ⟨mq m12 (by omega), by rw [mi_ne (by decide)]; exact a8, by rw [mi_ne (by decide), a4, te_n (by omega), c1], ?_⟩
        rw [mi_at]
        unfold TKR
        rw [k5]
        exact ⟨fun _ => rfl, fun w => absurd w (by decide), fun w => absurd w (by decide), fun w => absurd w (by decide), fun w => absurd w (by decide), fun w => absurd w (by decide)⟩
      · have c1 : p < n := by omega
        rw [if_neg (fun w => by rw [e13, e14] at w; have := (nI_eq (by omega) (by omega)).mp w; omega)] at h
        obtain ⟨v17, e17, h⟩ := elet_some h
        rw [a4] at e17
        rw [e17] at h
        obtain ⟨r21, S18, e18, h⟩ := obind2_some h
        obtain ⟨k3, k4⟩ := r_byte a3 hn hp e18
        rw [if_pos c1, ab] at k4
        rw [k3] at h
        obtain ⟨r22, e22, h⟩ := obind_some h
        have e22 := r_in e22
        rw [k4] at e22
        by_cases n1 : 97 ≤ b p ∧ b p ≤ 122
        · rw [if_pos n1] at e22
          rw [if_neg (by rw [e22]; decide)] at h
          obtain ⟨d1, d2, d3, d4⟩ := r_let 16384 ab a3 a4 a8 (Nat.le_refl _) hp hn h
          have et : te b n p = rn b n 97 122 p := by unfold te; rw [if_neg (by omega), if_pos n1]
          have ek : kd b n p = if te b n p - p ≤ 8 then 1 else 6 := by unfold kd; rw [if_neg (by omega), if_pos n1]
          rw [← et] at d3 d4
          refine ⟨m12.tr d1, d2, d3, ?_⟩
          unfold TKR
          by_cases c8 : te b n p - p ≤ 8
          · rw [if_pos c8] at d4 ek
            rw [ek, d4]
            exact ⟨fun w => absurd w (by decide), fun _ => rfl, fun w => absurd w (by decide), fun w => absurd w (by decide), fun w => absurd w (by decide), fun w => absurd w (by decide)⟩
          · rw [if_neg c8] at d4 ek
            rw [ek, d4]
            exact ⟨fun w => absurd w (by decide), fun w => absurd w (by decide), fun w => absurd w (by decide), fun w => absurd w (by decide), fun w => absurd w (by decide), fun _ => .inl rfl⟩
        · rw [if_neg n1] at e22
          rw [if_pos e22] at h
          obtain ⟨v25, e25, h⟩ := elet_some h
          rw [a4] at e25
          rw [e25] at h
          obtain ⟨r29, S26, e26, h⟩ := obind2_some h
          obtain ⟨k5, k6⟩ := r_byte a3 hn hp e26
          rw [if_pos c1, ab] at k6
          rw [k5] at h
          obtain ⟨r30, e30, h⟩ := obind_some h
          have e30 := r_in e30
          rw [k6] at e30
          by_cases n2 : 48 ≤ b p ∧ b p ≤ 57
          · rw [if_pos n2] at e30
            rw [if_neg (by rw [e30]; decide)] at h
            obtain ⟨S43, e43, h⟩ := elet_some h
            have m43 : MFq S S43 := by rw [e43]; exact mq m12 (by omega)
            obtain ⟨d1, d2, d3, d4, d5⟩ := r_dig (b := b) 16384 (by rw [m43.1]; exact hb) (by rw [e43, mi_ne (by decide)]; exact a3) (by rw [e43, mi_ne (by decide)]; exact a4) (by rw [e43, mi_ne (by decide)]; exact a8) (Nat.le_refl _) hp hn (fun _ => by rw [e43, mi_at, Nat.sub_self]; rfl) h
            have et : te b n p = rn b n 48 57 p := by unfold te; rw [if_neg (by omega), if_neg n1, if_pos n2]
            have ek : kd b n p = if te b n p - p ≤ 4 then 2 else 6 := by unfold kd; rw [if_neg (by omega), if_neg n1, if_pos n2]
            rw [← et] at d3 d4 d5
            refine ⟨m43.tr d1, d2, d3, ?_⟩
            unfold TKR
            by_cases c8 : te b n p - p ≤ 4
            · rw [if_pos c8] at d4 ek
              rw [ek, d4, d5 c8]
              exact ⟨fun w => absurd w (by decide), fun w => absurd w (by decide), fun _ => ⟨rfl, rfl⟩, fun w => absurd w (by decide), fun w => absurd w (by decide), fun w => absurd w (by decide)⟩
            · rw [if_neg c8] at d4 ek
              rw [ek, d4]
              exact ⟨fun w => absurd w (by decide), fun w => absurd w (by decide), fun w => absurd w (by decide), fun w => absurd w (by decide), fun w => absurd w (by decide), fun _ => .inl rfl⟩
          · rw [if_neg n2] at e30
            rw [if_pos e30] at h
            obtain ⟨v33, e33, h⟩ := elet_some h
            rw [a4] at e33
            rw [e33] at h
            obtain ⟨r37, S34, e34, h⟩ := obind2_some h
            obtain ⟨k7, k8⟩ := r_byte a3 hn hp e34
            rw [if_pos c1, ab] at k8
            rw [k7] at h
            obtain ⟨S38, e38, h⟩ := elet_some h
            have m38 : MFq S S38 := by rw [e38]; exact mq m12 (by omega)
            obtain ⟨v39, e39, h⟩ := elet_some h
            rw [e38, mi_at, k8] at e39
            obtain ⟨r40, e40, h⟩ := obind_some h
            have et : te b n p = p + 1 := by unfold te; rw [if_neg (by omega), if_neg n1, if_neg n2]
            have ek : kd b n p = if b p = 45 then 3 else if b p = 59 then 4 else 6 := by unfold kd; rw [if_neg (by omega), if_neg n1, if_neg n2]
            have b38 : S38.1 4 = nI p := by rw [e38, mi_ne (by decide)]; exact a4
            have c38 : S38.1 8 = nI p := by rw [e38, mi_ne (by decide)]; exact a8
            have d38 : S38.1 9 = b p := by rw [e38, mi_at, k8]
            have go : ∀ {t : Int32}, (t = 4 ∨ t = 0 ∧ ¬ (b p = 45 ∨ b p = 59)) → fr_nextToken_b279 S38 t = some S1 → MFq S S1 ∧ S1.1 8 = nI p ∧ S1.1 4 = nI (te b n p) ∧ TKR b n p (S1.1 7) (S1.1 9) := by
              intro t ht h
              unfold fr_nextToken_b279 at h
              obtain ⟨S2, d2, h⟩ := elet_some h
              obtain ⟨w3, d3, h⟩ := elet_some h
              rw [d2, mi_ne (by decide), b38] at d3
              obtain ⟨w4, d4, h⟩ := elet_some h
              rw [d3, nI_1] at d4
              obtain ⟨S5, d5, h⟩ := elet_some h
              have h : some S5 = some S1 := h
              have m5 : MFq S S5 := by rw [d5, d2]; exact mq (mq m38 (by omega)) (by omega)
              rw [← osome1 h]
              have t7 : S5.1 7 = t := by rw [d5, mi_ne (by decide), d2, mi_at]
              have t9 : S5.1 9 = b p := by rw [d5, mi_ne (by decide), d2, mi_ne (by decide), d38]
              refine ⟨m5, by rw [d5, mi_ne (by decide), d2, mi_ne (by decide), c38], by rw [d5, mi_at, d4, et], ?_⟩
              rw [t7, t9]
              unfold TKR
              rw [ek]
              by_cases b45 : b p = 45
              · rw [if_pos b45]
                have t4 : t = 4 := by
                  rcases ht with w | w
                  · exact w
                  · exact absurd (.inl b45) w.2
                exact ⟨fun w => absurd w (by decide), fun w => absurd w (by decide), fun w => absurd w (by decide), fun _ => ⟨t4, b45⟩, fun w => absurd w (by decide), fun w => absurd w (by decide)⟩
              · rw [if_neg b45]
                by_cases b59 : b p = 59
                · rw [if_pos b59]
                  have t4 : t = 4 := by
                    rcases ht with w | w
                    · exact w
                    · exact absurd (.inr b59) w.2
                  exact ⟨fun w => absurd w (by decide), fun w => absurd w (by decide), fun w => absurd w (by decide), fun w => absurd w (by decide), fun _ => ⟨t4, b59⟩, fun w => absurd w (by decide)⟩
                · rw [if_neg b59]
                  refine ⟨fun w => absurd w (by decide), fun w => absurd w (by decide), fun w => absurd w (by decide), fun w => absurd w (by decide), fun w => absurd w (by decide), fun _ => ?_⟩
                  rcases ht with w | w
                  · exact .inr ⟨w, b45, b59⟩
                  · exact .inl w.1
            by_cases c40 : r40 = 0
            · rw [if_pos c40] at h
              refine go (.inr ⟨rfl, fun w => ?_⟩) h
              have := r_sign e40 (by rw [e39]; exact w)
              rw [this] at c40
              exact absurd c40 (by decide)
            · rw [if_neg c40] at h
              exact go (.inl rfl) h
theorem r_next {S S1 : MS} {p : Nat} (hb : S.2.1 1 = b) (h3 : S.1 3 = nI n) (h4 : S.1 4 = nI p) (hp : p ≤ n) (hn : n ≤ 1000) (h5 : S.1 5 = 0) (h : fr_nextToken S = some S1) : MFq S S1 ∧ S1.1 8 = nI (sk b n p) ∧ S1.1 4 = nI (te b n (sk b n p)) ∧ TKR b n (sk b n p) (S1.1 7) (S1.1 9) := by
  unfold fr_nextToken at h
  obtain ⟨v2, e2, h⟩ := elet_some h
  rw [if_pos (by rw [e2, h5]; decide)] at h
  exact r_tok 16384 hb h3 h4 hp hn h
end
