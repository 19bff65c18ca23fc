section
variable {b : Nat → Int32} {n c i : Nat} {T T1 : AT} {S S1 : MS}
/-- at token i of c, nothing wrong yet -/
def PRq (b : Nat → Int32) (n c i : Nat) (T : AT) (S : MS) : Prop := (n ≤ 1000 ∧ TXR T ∧ BYq b T ∧ TKS b n T c ∧ i < c ∧ T.2.2.1 6 1 = nI i) ∧ (S.2.1 1 = b ∧ S.1 5 = 0 ∧ S.1 6 = -1 ∧ S.1 3 = nI n ∧ S.1 8 = nI (pst b n i) ∧ S.1 4 = nI (te b n (pst b n i)) ∧ TKR b n (pst b n i) (S.1 7) (S.1 9))
/-- both have found the same fault -/
def ERq (T : AT) (S : MS) : Prop := 0 < (S.1 5).toInt ∧ T.2.2.1 6 2 = S.1 5 ∧ T.2.2.1 6 3 = S.1 6
def TFq (T T1 : AT) : Prop := T1.1 = T.1 ∧ T1.2.1 = T.2.1 ∧ T1.2.2.2 = T.2.2.2 ∧ ∀ m k, m ≠ 6 → T1.2.2.1 m k = T.2.2.1 m k
theorem TFq.rf (T : AT) : TFq T T := ⟨rfl, rfl, rfl, fun _ _ _ => rfl⟩
theorem TFq.tr {T T1 T2 : AT} (h : TFq T T1) (k : TFq T1 T2) : TFq T T2 := ⟨k.1.trans h.1, k.2.1.trans h.2.1, k.2.2.1.trans h.2.2.1, fun m j a => (k.2.2.2 m j a).trans (h.2.2.2 m j a)⟩
theorem tf6 {k : Nat} {v : Int32} : TFq T (uI T 6 k v) := ⟨rfl, rfl, rfl, fun m j a => ui_ne (.inl a)⟩
theorem pr_uI {m k : Nat} {v : Int32} (h : PRq b n c i T S) (hm : 7 ≤ m) : PRq b n c i (uI T m k v) S := by
  obtain ⟨⟨h1, h2, h3, ⟨h4, h5, h6, h7, h8, h9⟩, h10, h11⟩, h12⟩ := h
  refine ⟨⟨h1, h2, fun j hj => ?_, ⟨?_, h5, h6, fun j hj => ?_, h8, h9⟩, h10, ?_⟩, h12⟩
  · rw [ui_ne (by omega)]; exact h3 j hj
  · rw [ui_ne (by omega)]; exact h4
  · rw [ui_ne (by omega), ui_ne (by omega), ui_ne (by omega)]; exact h7 j hj
  · rw [ui_ne (by omega)]; exact h11
theorem pr_mf {a : Nat} {f : Nat → Int32} (h : PRq b n c i T S) (ha : a ≠ 1) : PRq b n c i T (mf S a f) := by
  refine ⟨h.1, ?_, h.2.2⟩
  rw [mf_ne (Ne.symm ha)]
  exact h.2.1
theorem pr_adv (h : PRq b n c i T S) (hk : kd b n (pst b n i) ≠ 5) (hf : fr_nextToken S = some S1) : PRq b n c (i + 1) (uI T 6 1 (nI (i + 1))) S1 ∧ MFq S S1 := by
  obtain ⟨⟨h1, h2, h3, ⟨h4, h5, h6, h7, h8, h9⟩, h10, h11⟩, q1, q5, q6, q3, q8, q4, qt⟩ := h
  obtain ⟨m, a8, a4, at_⟩ := r_next q1 q3 q4 te_le h1 q5 hf
  have hi : i + 1 < c := by
    refine Nat.lt_of_le_of_ne h10 (fun e => hk (kd_n ?_))
    rw [show i = c - 1 from by omega, h9]
    exact Nat.le_refl _
  refine ⟨⟨⟨h1, h2, fun j hj => ?_, ⟨?_, h5, h6, fun j hj => ?_, h8, h9⟩, hi, ui_at⟩, ?_, ?_, ?_, ?_, a8, a4, at_⟩, m⟩
  · rw [ui_ne (by omega)]; exact h3 j hj
  · rw [ui_ne (by omega)]; exact h4
  · rw [ui_ne (by omega), ui_ne (by omega), ui_ne (by omega)]; exact h7 j hj
  · rw [m.1]; exact q1
  · rw [m.2 5 (by decide) (by decide) (by decide) (by decide)]; exact q5
  · rw [m.2 6 (by decide) (by decide) (by decide) (by decide)]; exact q6
  · rw [m.2 3 (by decide) (by decide) (by decide) (by decide)]; exact q3
theorem k_kind {r : Int32} (h : PRq b n c i T S) (hg : g_X3_kind T 6 = some (r, T1)) : r = kd b n (pst b n i) ∧ T1 = T := by
  obtain ⟨⟨h1, ⟨r10, r12, r13, r14, r60, s3⟩, h3, ⟨h4, h5, h6, h7, h8, h9⟩, h10, h11⟩, -⟩ := h
  unfold g_X3_kind at hg
  obtain ⟨-, hg⟩ := oif_some hg
  obtain ⟨v3, e3, hg⟩ := elet_some hg
  rw [h11] at e3
  obtain ⟨-, hg⟩ := oif_some hg
  obtain ⟨n5, e5, hg⟩ := obind_some hg
  rw [r60] at e5
  cases e5
  obtain ⟨-, hg⟩ := oif_some hg
  obtain ⟨v7, e7, hg⟩ := elet_some hg
  rw [h4] at e7
  rw [if_neg (fun q => by rw [e7, e3] at q; have := (nI_leI (by omega) (by omega)).mp q; omega)] at hg
  obtain ⟨-, hg⟩ := oif_some hg
  obtain ⟨n10, e10, hg⟩ := obind_some hg
  rw [r60] at e10
  cases e10
  obtain ⟨-, hg⟩ := oif_some hg
  obtain ⟨n12, e12, hg⟩ := obind_some hg
  rw [r12] at e12
  cases e12
  obtain ⟨-, hg⟩ := oif_some hg
  obtain ⟨v14, e14, hg⟩ := elet_some hg
  rw [h11] at e14
  obtain ⟨-, hg⟩ := oif_some hg
  obtain ⟨-, hg⟩ := oif_some hg
  obtain ⟨v17, e17, hg⟩ := elet_some hg
  rw [e14, nI_clamp (by omega), (h7 i h10).1] at e17
  unfold g_X3_kind_b30 at hg
  have f := osome2 hg
  exact ⟨f.1.symm.trans e17, f.2.symm⟩
theorem k_val1 : ∀ (f : Nat) {q : Nat} {a r : Int32}, PRq b n c i T S → q ≤ te b n (pst b n i) → g_X3_value_b15 f T 6 a (nI q) = some (r, T1) → r = vf b (te b n (pst b n i) - q) q a ∧ T1 = T := by
  intro f
  induction f with
  | zero => intro q a r h hq hg; cases hg
  | succ f ih =>
    intro q a r h hq hg
    have hh := h
    obtain ⟨⟨h1, ⟨r10, r12, r13, r14, r60, s3⟩, h3, ⟨h4, h5, h6, h7, h8, h9⟩, h10, h11⟩, -⟩ := h
    have tl : te b n (pst b n i) ≤ n := te_le
    unfold g_X3_value_b15 at hg
    obtain ⟨-, hg⟩ := oif_some hg
    obtain ⟨n3, e3, hg⟩ := obind_some hg
    rw [r60] at e3
    cases e3
    obtain ⟨-, hg⟩ := oif_some hg
    obtain ⟨n5, e5, hg⟩ := obind_some hg
    rw [r14] at e5
    cases e5
    obtain ⟨-, hg⟩ := oif_some hg
    obtain ⟨v7, e7, hg⟩ := elet_some hg
    rw [h11] at e7
    obtain ⟨-, hg⟩ := oif_some hg
    obtain ⟨-, hg⟩ := oif_some hg
    obtain ⟨v10, e10, hg⟩ := elet_some hg
    rw [e7, nI_clamp (by omega), (h7 i h10).2.2] at e10
    by_cases c1 : v10 ≤ nI q
    · rw [if_pos c1] at hg
      rw [e10] at c1
      have c1 := (nI_leI (by omega) (by omega)).mp c1
      have f := osome2 hg
      rw [show te b n (pst b n i) - q = 0 from by omega]
      exact ⟨f.1.symm, f.2.symm⟩
    · rw [if_neg c1] at hg
      have c1 : q < te b n (pst b n i) := Nat.lt_of_not_le (fun w => c1 (by rw [e10]; exact (nI_leI (by omega) (by omega)).mpr w))
      obtain ⟨v12, e12, hg⟩ := elet_some hg
      obtain ⟨-, hg⟩ := oif_some hg
      obtain ⟨n14, e14, hg⟩ := obind_some hg
      rw [r60] at e14
      cases e14
      obtain ⟨-, hg⟩ := oif_some hg
      obtain ⟨n16, e16, hg⟩ := obind_some hg
      rw [r10] at e16
      cases e16
      obtain ⟨-, hg⟩ := oif_some hg
      obtain ⟨-, hg⟩ := oif_some hg
      obtain ⟨v19, e19, hg⟩ := elet_some hg
      rw [nI_clamp (by omega), h3 q (by omega)] at e19
      obtain ⟨v20, e20, hg⟩ := elet_some hg
      obtain ⟨v21, e21, hg⟩ := elet_some hg
      obtain ⟨v22, e22, hg⟩ := elet_some hg
      have e22 : v22 = nI (q + 1) := e22.trans (nI_1 q)
      rw [e22] at hg
      obtain ⟨k1, k2⟩ := ih hh (by omega) hg
      refine ⟨?_, k2⟩
      rw [show te b n (pst b n i) - q = (te b n (pst b n i) - (q + 1)) + 1 from by omega, k1, e21, e20, e19, e12]
      rfl
theorem pst_te (i : Nat) : pst b n i ≤ te b n (pst b n i) := by
  by_cases h : n ≤ pst b n i
  · rw [te_n h]; exact pst_le i
  · have := (te_b (b := b) (n := n) (p := pst b n i) (by omega)).1
    omega
theorem k_value {r : Int32} (h : PRq b n c i T S) (hg : g_X3_value T 6 = some (r, T1)) : r = vf b (te b n (pst b n i) - pst b n i) (pst b n i) 0 ∧ T1 = T := by
  have hh := h
  obtain ⟨⟨h1, ⟨r10, r12, r13, r14, r60, s3⟩, h3, ⟨h4, h5, h6, h7, h8, h9⟩, h10, h11⟩, -⟩ := h
  unfold g_X3_value at hg
  obtain ⟨-, hg⟩ := oif_some hg
  obtain ⟨n3, e3, hg⟩ := obind_some hg
  rw [r60] at e3
  cases e3
  obtain ⟨-, hg⟩ := oif_some hg
  obtain ⟨n5, e5, hg⟩ := obind_some hg
  rw [r13] at e5
  cases e5
  obtain ⟨-, hg⟩ := oif_some hg
  obtain ⟨v7, e7, hg⟩ := elet_some hg
  rw [h11] at e7
  obtain ⟨-, hg⟩ := oif_some hg
  obtain ⟨-, hg⟩ := oif_some hg
  obtain ⟨v10, e10, hg⟩ := elet_some hg
  rw [e7, nI_clamp (by omega), (h7 i h10).2.1] at e10
  rw [e10] at hg
  exact k_val1 16384 hh (pst_te i) hg
theorem k_failT {j k : Nat} {e r : Int32} (h2 : TXR T) (h4 : T.2.2.1 1 5 = nI c) (h6 : c ≤ 1001) (h7 : ∀ j, j < c → T.2.2.1 4 j = nI (pst b n j)) (hj : j < c) (hg : g_X3_failAt T 6 (nI j) e = some (k, r, T1)) : k = 3 ∧ T1.2.2.1 6 2 = e ∧ T1.2.2.1 6 3 = nI (pst b n j) := by
  obtain ⟨r10, r12, r13, r14, r60, s3⟩ := h2
  unfold g_X3_failAt at hg
  obtain ⟨-, hg⟩ := oif_some hg
  obtain ⟨T3, e3, hg⟩ := elet_some hg
  rw [if_neg (nI_pos (by omega))] at hg
  have i3 : T3.2.2.1 1 5 = nI c := by rw [e3, ui_ne (.inl (by decide))]; exact h4
  have t3 : T3.2.2.1 4 j = nI (pst b n j) := by rw [e3, ui_ne (.inl (by decide))]; exact h7 j hj
  have r3 : T3.2.2.2.2 = T.2.2.2.2 := by rw [e3]; rfl
  obtain ⟨-, hg⟩ := oif_some hg
  obtain ⟨n6, e6, hg⟩ := obind_some hg
  rw [r3, r60] at e6
  cases e6
  obtain ⟨-, hg⟩ := oif_some hg
  obtain ⟨v8, e8, hg⟩ := elet_some hg
  rw [i3] at e8
  rw [if_neg (fun q => by rw [e8] at q; have := (nI_leI (by omega) (by omega)).mp q; omega)] at hg
  obtain ⟨-, hg⟩ := oif_some hg
  obtain ⟨n11, e11, hg⟩ := obind_some hg
  rw [r3, r60] at e11
  cases e11
  obtain ⟨-, hg⟩ := oif_some hg
  obtain ⟨n13, e13, hg⟩ := obind_some hg
  rw [r3, r13] at e13
  cases e13
  obtain ⟨-, hg⟩ := oif_some hg
  obtain ⟨-, hg⟩ := oif_some hg
  obtain ⟨v16, e16, hg⟩ := elet_some hg
  rw [nI_clamp (by omega), t3] at e16
  unfold g_X3_failAt_b34 at hg
  obtain ⟨-, hg⟩ := oif_some hg
  obtain ⟨T4, e4, hg⟩ := elet_some hg
  have f := osome3 hg
  rw [← f.2.2]
  refine ⟨f.1.symm, ?_, ?_⟩
  · rw [e4, ui_ne (.inr (by decide)), e3, ui_at]
  · rw [e4, ui_at, e16]
theorem k_fail {j k : Nat} {e r : Int32} (h : PRq b n c i T S) (hj : j < c) (hg : g_X3_failAt T 6 (nI j) e = some (k, r, T1)) : k = 3 ∧ T1.2.2.1 6 2 = e ∧ T1.2.2.1 6 3 = nI (pst b n j) := k_failT h.1.2.1 h.1.2.2.2.1.1 h.1.2.2.2.1.2.2.1 (fun j hj => (h.1.2.2.2.1.2.2.2.1 j hj).2.1) hj hg
/-! the reference's faults stay -/
theorem st_le (h : 0 < (S.1 5).toInt) {v : Int32} (e : v = S.1 5) : ¬ v ≤ 0 := fun q => by
  have := i_le q
  rw [e] at this
  have z : (0 : Int32).toInt = 0 := by decide
  omega
theorem st_ne (h : 0 < (S.1 5).toInt) {v : Int32} (e : v = S.1 5) : ¬ v = 0 := fun q => by
  rw [← e, q] at h
  exact absurd h (by decide)
theorem st_faults {e : Int32} (h : 0 < (S.1 5).toInt) (hf : fr_faults S e = some S1) : S1 = S := by
  unfold fr_faults at hf
  obtain ⟨v2, e2, hf⟩ := elet_some hf
  rw [if_neg (st_le h e2)] at hf
  exact (osome1 hf).symm
theorem st_next (h : 0 < (S.1 5).toInt) (hf : fr_nextToken S = some S1) : S1 = S := by
  unfold fr_nextToken at hf
  obtain ⟨v2, e2, hf⟩ := elet_some hf
  rw [if_neg (st_le h e2)] at hf
  exact (osome1 hf).symm
theorem st_here {a r : Int32} (h : 0 < (S.1 5).toInt) (hf : fr_isSignHere S a = some (r, S1)) : r = 0 ∧ S1 = S := by
  unfold fr_isSignHere at hf
  obtain ⟨v2, e2, hf⟩ := elet_some hf
  rw [if_neg (st_ne h e2)] at hf
  have f := osome2 (show some ((0 : Int32), S) = some (r, S1) from hf)
  exact ⟨f.1.symm, f.2.symm⟩
theorem st_word {tx : Nat × (Nat → Int32)} {r : Int32} (h : 0 < (S.1 5).toInt) (hf : fr_isWord S tx = some (r, S1)) : r = 0 ∧ S1 = S := by
  unfold fr_isWord at hf
  obtain ⟨v2, e2, hf⟩ := elet_some hf
  rw [if_pos (by rw [e2]; exact Int32.lt_iff_toInt_lt.mpr h)] at hf
  have f := osome2 (show some ((0 : Int32), S) = some (r, S1) from hf)
  exact ⟨f.1.symm, f.2.symm⟩
theorem st_takes {tx : Nat × (Nat → Int32)} {r : Int32} (h : 0 < (S.1 5).toInt) (hf : fr_takes S tx = some (r, S1)) : r = 0 ∧ S1 = S := by
  unfold fr_takes at hf
  obtain ⟨r5, S2, e5, hf⟩ := obind2_some hf
  obtain ⟨k1, k2⟩ := st_word h e5
  rw [if_pos k1, k1, k2] at hf
  have f := osome2 (show some ((0 : Int32), S) = some (r, S1) from hf)
  exact ⟨f.1.symm, f.2.symm⟩
theorem st_keyword {tx : Nat × (Nat → Int32)} (h : 0 < (S.1 5).toInt) (hf : fr_keyword S tx = some S1) : S1 = S := by
  unfold fr_keyword at hf
  obtain ⟨r5, S2, e5, hf⟩ := obind2_some hf
  obtain ⟨k1, k2⟩ := st_takes h e5
  rw [if_pos k1, k2] at hf
  obtain ⟨S7, e7, hf⟩ := obind_some hf
  rw [st_faults h e7] at hf
  exact (osome1 (show some S = some S1 from hf)).symm
theorem st_look {a0 a1 r : Int32} (h : 0 < (S.1 5).toInt) (hf : fr_look S a0 a1 = some (r, S1)) : S1 = S := by
  unfold fr_look at hf
  obtain ⟨v2, e2, hf⟩ := elet_some hf
  rw [if_neg (st_le h e2)] at hf
  exact (osome2 hf).2.symm
theorem st_number {a0 a1 r : Int32} (h : 0 < (S.1 5).toInt) (hf : fr_number S a0 a1 = some (r, S1)) : S1 = S := by
  unfold fr_number at hf
  obtain ⟨r5, S2, e5, hf⟩ := obind2_some hf
  rw [st_look h e5] at hf
  obtain ⟨S6, e6, hf⟩ := obind_some hf
  rw [st_next h e6] at hf
  exact (osome2 hf).2.symm
theorem st_gauge {tx : Nat × (Nat → Int32)} {a0 a1 r : Int32} (h : 0 < (S.1 5).toInt) (hf : fr_gauge S tx a0 a1 = some (r, S1)) : S1 = S := by
  unfold fr_gauge at hf
  obtain ⟨S2, e2, hf⟩ := obind_some hf
  rw [st_keyword h e2] at hf
  obtain ⟨r8, S5, e8, hf⟩ := obind2_some hf
  rw [st_number h e8] at hf
  exact (osome2 hf).2.symm
theorem st_signed {a0 a1 r : Int32} (h : 0 < (S.1 5).toInt) (hf : fr_signed S a0 a1 = some (r, S1)) : S1 = S := by
  unfold fr_signed at hf
  obtain ⟨r5, S2, e5, hf⟩ := obind2_some hf
  obtain ⟨k1, k2⟩ := st_here h e5
  rw [if_pos k1, k1, k2] at hf
  unfold fr_signed_b15 at hf
  rw [if_pos rfl] at hf
  obtain ⟨r6, S3, e6, hf⟩ := obind2_some hf
  rw [st_number h e6] at hf
  exact (osome2 (show some (r6, S) = some (r, S1) from hf)).2.symm
theorem r_fault {e : Int32} (h : S.1 5 = 0) (hf : fr_faults S e = some S1) : S1 = mi (mi S 5 e) 6 (S.1 8) := by
  unfold fr_faults at hf
  obtain ⟨v2, e2, hf⟩ := elet_some hf
  rw [if_pos (by rw [e2, h]; decide)] at hf
  obtain ⟨S4, e4, hf⟩ := elet_some hf
  obtain ⟨v5, e5, hf⟩ := elet_some hf
  obtain ⟨S6, e6, hf⟩ := elet_some hf
  rw [← osome1 hf, e6, e5, e4]
  rfl
/-- class and reference fail at token i with one code -/
theorem k_err {j k : Nat} {e r : Int32} (h : PRq b n c i T S) (hj : j < c) (hij : pst b n j = pst b n i) (he : 0 < e.toInt) (hg : g_X3_failAt T 6 (nI j) e = some (k, r, T1)) (hf : fr_faults S e = some S1) : k = 3 ∧ ERq T1 S1 := by
  obtain ⟨a1, a2, a3⟩ := k_fail h hj hg
  have q := r_fault h.2.2.1 hf
  refine ⟨a1, ?_⟩
  rw [q]
  refine ⟨?_, ?_, ?_⟩
  · rw [mi_ne (by decide), mi_at]; exact he
  · rw [mi_ne (by decide), mi_at, a2]
  · rw [mi_at, a3, hij]; exact h.2.2.2.2.2.1.symm
theorem tin2 {v a0 a1 r : Int32} (h : fr_in v a0 a1 = some r) : r = 1 ∧ a0 ≤ v ∧ v ≤ a1 ∨ r = 0 ∧ ¬ (a0 ≤ v ∧ v ≤ a1) := by
  have q := r_in h
  by_cases c : a0 ≤ v ∧ v ≤ a1
  · rw [if_pos c] at q; exact .inl ⟨q, c⟩
  · rw [if_neg c] at q; exact .inr ⟨q, c⟩
/-- the outcome of a step: both go on, or both have failed alike -/
def OKq (b : Nat → Int32) (n c i : Nat) (T : AT) (S : MS) (T1 : AT) (S1 : MS) : Prop := (∃ j, i < j ∧ PRq b n c j T1 S1) ∧ TFq T T1 ∧ MFq S S1
/-- a number that both look at, taken by the class alone -/
theorem k_look {k : Nat} {a0 a1 r r2 : Int32} (h : PRq b n c i T S) (hg : g_X3_number T 6 a0 a1 = some (k, r, T1)) (hf : fr_look S a0 a1 = some (r2, S1)) : (k = 0 ∧ r2 = r ∧ a0.toInt ≤ r.toInt ∧ r.toInt ≤ a1.toInt ∧ kd b n (pst b n i) = 2 ∧ T1 = uI T 6 1 (nI (i + 1)) ∧ S1 = S) ∨ (k = 3 ∧ ERq T1 S1) := by
  have h11 := h.1.2.2.2.2.2
  have h10 := h.1.2.2.2.2.1
  have q5 := h.2.2.1
  have qt := h.2.2.2.2.2.2.2
  unfold g_X3_number at hg
  obtain ⟨-, hg⟩ := oif_some hg
  obtain ⟨r5, T3, e5, hg⟩ := obind2_some hg
  obtain ⟨k1, k2⟩ := k_kind h e5
  rw [k2] at hg
  have f5 := hf
  unfold fr_look at f5
  obtain ⟨w2, d2, f5⟩ := elet_some f5
  rw [if_pos (by rw [d2, q5]; decide)] at f5
  obtain ⟨w4, d4, f5⟩ := elet_some f5
  by_cases ck : kd b n (pst b n i) = 2
  · rw [if_pos (k1.trans ck)] at hg
    rw [if_pos (d4.trans ((tk_num qt).mpr ck))] at f5
    obtain ⟨w6, d6, f5⟩ := elet_some f5
    rw [(qt.2.2.1 ck).2] at d6
    obtain ⟨w7, d7, f5⟩ := obind_some f5
    unfold g_X3_number_b17 at hg
    obtain ⟨-, hg⟩ := oif_some hg
    obtain ⟨v5, T5, e6, hg⟩ := obind2_some hg
    obtain ⟨k3, k4⟩ := k_value h e6
    rw [k4] at hg
    rw [← k3] at d6
    rw [d6] at d7
    rcases tin2 d7 with ⟨c7, c8, c9⟩ | ⟨c7, c8⟩
    · -- inside
      rw [if_neg (Int32.not_lt.mpr c8), if_pos c9] at hg
      unfold g_X3_number_b41 at hg
      obtain ⟨-, hg⟩ := oif_some hg
      obtain ⟨v3, e3, hg⟩ := elet_some hg
      rw [h11] at e3
      obtain ⟨v4, e4, hg⟩ := elet_some hg
      rw [e3, nI_1] at e4
      obtain ⟨-, hg⟩ := oif_some hg
      obtain ⟨T6, e7, hg⟩ := elet_some hg
      have g := osome3 hg
      rw [if_neg (by rw [c7]; decide)] at f5
      unfold fr_look_b42 at f5
      obtain ⟨w8, d8, f5⟩ := elet_some f5
      rw [if_pos (by rw [d8, q5]; decide)] at f5
      obtain ⟨w9, d9, f5⟩ := elet_some f5
      have g5 := osome2 (show some (w9, S) = some (r2, S1) from f5)
      left
      refine ⟨g.1.symm, ?_, ?_, ?_, ck, ?_, g5.2.symm⟩
      · rw [← g5.1, d9, ← g.2.1, (qt.2.2.1 ck).2, k3]
      · rw [← g.2.1]; exact i_le c8
      · rw [← g.2.1]; exact i_le c9
      · rw [← g.2.2, e7, e4]
    · -- out of bounds
      have hg : g_X3_number_b32 T 6 v5 = some (k, r, T1) := by
        by_cases c1 : v5 < a0
        · rw [if_pos c1] at hg; exact hg
        · rw [if_neg c1] at hg
          rw [if_neg (fun q => c8 ⟨Int32.not_lt.mp c1, q⟩)] at hg
          exact hg
      unfold g_X3_number_b32 at hg
      obtain ⟨-, hg⟩ := oif_some hg
      obtain ⟨v3, e3, hg⟩ := elet_some hg
      rw [h11] at e3
      rw [e3] at hg
      obtain ⟨-, hg⟩ := oif_some hg
      rw [if_pos c7] at f5
      obtain ⟨S10, f10, f5⟩ := obind_some f5
      right
      rcases othr_k hg with ⟨r9, g9, -⟩ | ⟨r9, T9, g9, -⟩
      · obtain ⟨a1, a2⟩ := k_err h h10 rfl (by decide) g9 f10
        have st := a2.1
        unfold fr_look_b42 at f5
        obtain ⟨w8, d8, f5⟩ := elet_some f5
        rw [if_neg (st_le st d8)] at f5
        have g5 := osome2 (show some (a0, S10) = some (r2, S1) from f5)
        rw [← g5.2]
        exact ⟨a1, a2⟩
      · exact absurd (k_err h h10 rfl (by decide) g9 f10).1 (by decide)
  · rw [if_neg (fun q => ck (k1.symm.trans q))] at hg
    rw [if_neg (fun q => ck ((tk_num qt).mp (d4.symm.trans q)))] at f5
    obtain ⟨-, hg⟩ := oif_some hg
    obtain ⟨v9, e9, hg⟩ := elet_some hg
    rw [h11] at e9
    rw [e9] at hg
    obtain ⟨-, hg⟩ := oif_some hg
    obtain ⟨S13, f13, f5⟩ := obind_some f5
    right
    rcases othr_k hg with ⟨r9, g9, -⟩ | ⟨r9, T9, g9, -⟩
    · obtain ⟨a1, a2⟩ := k_err h h10 rfl (by decide) g9 f13
      have st := a2.1
      unfold fr_look_b42 at f5
      obtain ⟨w8, d8, f5⟩ := elet_some f5
      rw [if_neg (st_le st d8)] at f5
      have g5 := osome2 (show some (a0, S13) = some (r2, S1) from f5)
      rw [← g5.2]
      exact ⟨a1, a2⟩
    · exact absurd (k_err h h10 rfl (by decide) g9 f13).1 (by decide)
theorem k_number {k : Nat} {a0 a1 r r2 : Int32} (h : PRq b n c i T S) (hg : g_X3_number T 6 a0 a1 = some (k, r, T1)) (hf : fr_number S a0 a1 = some (r2, S1)) : (k = 0 ∧ r2 = r ∧ a0.toInt ≤ r.toInt ∧ r.toInt ≤ a1.toInt ∧ PRq b n c (i + 1) T1 S1 ∧ TFq T T1 ∧ MFq S S1) ∨ (k = 3 ∧ ERq T1 S1) := by
  unfold fr_number at hf
  obtain ⟨w5, S2, f5, hf⟩ := obind2_some hf
  obtain ⟨S6, f6, hf⟩ := obind_some hf
  have ff := osome2 hf
  rw [← ff.2]
  rcases k_look h hg f5 with ⟨a1, a2, a3, a4, a5, a6, a7⟩ | ⟨a1, a2⟩
  · rw [a7] at f6
    obtain ⟨p1, p2⟩ := pr_adv h (by rw [a5]; decide) f6
    left
    rw [a6]
    exact ⟨a1, ff.1.symm.trans a2, a3, a4, p1, tf6, p2⟩
  · rw [st_next a2.1 f6]
    exact .inr ⟨a1, a2⟩
theorem k_here {a r : Int32} (h : PRq b n c i T S) (ha : a = 45 ∨ a = 59) (hf : fr_isSignHere S a = some (r, S1)) : S1 = S ∧ (r = 1 ∧ kd b n (pst b n i) = (if a = 45 then 3 else 4) ∨ r = 0 ∧ kd b n (pst b n i) ≠ (if a = 45 then 3 else 4)) := by
  have q5 := h.2.2.1
  have qt := h.2.2.2.2.2.2.2
  have key : (S.1 7 = 4 ∧ S.1 9 = a) ↔ kd b n (pst b n i) = (if a = 45 then 3 else 4) := by
    rcases ha with rfl | rfl
    · exact tk_minus qt
    · exact tk_semi qt
  unfold fr_isSignHere at hf
  obtain ⟨v2, e2, hf⟩ := elet_some hf
  rw [if_pos (e2.trans q5)] at hf
  obtain ⟨v4, e4, hf⟩ := elet_some hf
  by_cases c1 : S.1 7 = 4
  · rw [if_pos (e4.trans c1)] at hf
    obtain ⟨v6, e6, hf⟩ := elet_some hf
    by_cases c2 : S.1 9 = a
    · rw [if_pos (e6.trans c2)] at hf
      have f := osome2 (show some ((1 : Int32), S) = some (r, S1) from hf)
      exact ⟨f.2.symm, .inl ⟨f.1.symm, key.mp ⟨c1, c2⟩⟩⟩
    · rw [if_neg (fun q => c2 (e6.symm.trans q))] at hf
      have f := osome2 (show some ((0 : Int32), S) = some (r, S1) from hf)
      exact ⟨f.2.symm, .inr ⟨f.1.symm, fun q => c2 (key.mpr q).2⟩⟩
  · rw [if_neg (fun q => c1 (e4.symm.trans q))] at hf
    have f := osome2 (show some ((0 : Int32), S) = some (r, S1) from hf)
    exact ⟨f.2.symm, .inr ⟨f.1.symm, fun q => c1 (key.mpr q).1⟩⟩
theorem k_signed {k : Nat} {a0 a1 r r2 : Int32} (h : PRq b n c i T S) (hg : g_X3_signed T 6 a0 a1 = some (k, r, T1)) (hf : fr_signed S a0 a1 = some (r2, S1)) : (k = 0 ∧ r2 = r ∧ OKq b n c i T S T1 S1) ∨ (k = 3 ∧ ERq T1 S1) := by
  have h11 := h.1.2.2.2.2.2
  unfold g_X3_signed at hg
  obtain ⟨-, hg⟩ := oif_some hg
  obtain ⟨r5, T3, e5, hg⟩ := obind2_some hg
  obtain ⟨k1, k2⟩ := k_kind h e5
  rw [k2] at hg
  unfold fr_signed at hf
  obtain ⟨w5, S2, f5, hf⟩ := obind2_some hf
  obtain ⟨g1, g2⟩ := k_here h (.inl rfl) f5
  rw [if_pos rfl] at g2
  rw [g1] at hf
  rcases g2 with ⟨w1, ck⟩ | ⟨w1, ck⟩
  · rw [if_pos (k1.trans ck)] at hg
    rw [if_neg (by rw [w1]; decide)] at hf
    obtain ⟨-, hg⟩ := oif_some hg
    obtain ⟨v9, e9, hg⟩ := elet_some hg
    rw [h11] at e9
    obtain ⟨v10, e10, hg⟩ := elet_some hg
    rw [e9, nI_1] at e10
    obtain ⟨-, hg⟩ := oif_some hg
    obtain ⟨T12, e12, hg⟩ := elet_some hg
    obtain ⟨v13, e13, hg⟩ := elet_some hg
    obtain ⟨v14, e14, hg⟩ := elet_some hg
    obtain ⟨-, hg⟩ := oif_some hg
    obtain ⟨S7, f7, hf⟩ := obind_some hf
    obtain ⟨p1, p2⟩ := pr_adv h (by rw [ck]; decide) f7
    rw [← e10, ← e12] at p1
    unfold fr_signed_b15 at hf
    rw [if_neg (by rw [w1]; decide)] at hf
    obtain ⟨w7, d7, hf⟩ := elet_some hf
    obtain ⟨w8, d8, hf⟩ := elet_some hf
    obtain ⟨w12, S9, f12, hf⟩ := obind2_some hf
    obtain ⟨w13, d13, hf⟩ := elet_some hf
    have ff := osome2 (show some (w13, S9) = some (r2, S1) from hf)
    rw [d7, d8] at f12
    rw [e13, e14] at hg
    rcases othr_k hg with ⟨r9, g9, z0⟩ | ⟨r9, T9, g9, hg⟩
    · rcases k_number p1 g9 f12 with ⟨z, -⟩ | ⟨z1, z2⟩
      · exact absurd z z0
      · right; rw [← ff.2]; exact ⟨z1, z2⟩
    · rcases k_number p1 g9 f12 with ⟨-, z1, -, -, z2, z3, z4⟩ | ⟨z1, -⟩
      · obtain ⟨v20, e20, hg⟩ := elet_some hg
        have g := osome3 hg
        left
        refine ⟨g.1.symm, ?_, ⟨i + 1 + 1, by omega, ?_⟩, ?_, ?_⟩
        · rw [← ff.1, d13, z1, ← g.2.1, e20]
        · rw [← ff.2, ← g.2.2]; exact z2
        · rw [← g.2.2]; exact TFq.tr (by rw [e12]; exact tf6) z3
        · rw [← ff.2]; exact p2.tr z4
      · exact absurd z1 (by decide)
  · rw [if_neg (fun q => ck (k1.symm.trans q))] at hg
    rw [if_pos w1] at hf
    obtain ⟨-, hg⟩ := oif_some hg
    unfold fr_signed_b15 at hf
    rw [if_pos w1] at hf
    obtain ⟨w6, S3, f6, hf⟩ := obind2_some hf
    have ff := osome2 (show some (w6, S3) = some (r2, S1) from hf)
    rcases othr_k hg with ⟨r9, g9, z0⟩ | ⟨r9, T9, g9, hg⟩
    · rcases k_number h g9 f6 with ⟨z, -⟩ | ⟨z1, z2⟩
      · exact absurd z z0
      · right; rw [← ff.2]; exact ⟨z1, z2⟩
    · rcases k_number h g9 f6 with ⟨-, z1, -, -, z2, z3, z4⟩ | ⟨z1, -⟩
      · have g := osome3 hg
        left
        refine ⟨g.1.symm, ?_, ⟨i + 1, by omega, ?_⟩, ?_, ?_⟩
        · rw [← ff.1, z1, ← g.2.1]
        · rw [← ff.2, ← g.2.2]; exact z2
        · rw [← g.2.2]; exact z3
        · rw [← ff.2]; exact z4
      · exact absurd z1 (by decide)
/-- a word stands here -/
def WD (b : Nat → Int32) (n p : Nat) (tx : Nat × (Nat → Int32)) : Prop := kd b n p = 1 ∧ te b n p - p = tx.1 ∧ ∀ j, j < tx.1 → b (p + j) = s_ch (tx.2 j)
theorem sh0 (x : Int32) : x >>> (0 &&& 31) = x := by
  have e : (0 &&& 31 : Int32) = 0 := by decide
  rw [e, Int32.shiftRight_zero]
theorem kc_word1 {tx : Nat × (Nat → Int32)} {p : Nat} (ht : tx.1 ≤ 8) (hp : p ≤ 1000) : ∀ (f : Nat) {l : Nat} {r : Int32}, TXR T → BYq b T → p + tx.1 ≤ 1000 → g_X3_isWord_b51 tx f T 6 (nI p) (nI tx.1) (nI l) = some (r, T1) → l ≤ tx.1 → T1 = T ∧ (r = 1 ∧ (∀ j, l ≤ j → j < tx.1 → b (p + j) = s_ch (tx.2 j)) ∨ r = 0 ∧ ¬ ∀ j, l ≤ j → j < tx.1 → b (p + j) = s_ch (tx.2 j)) := by
  intro f
  induction f with
  | zero => intro l r hR hB hn hg hl; cases hg
  | succ f ih =>
    intro l r hR hB hn hg hl
    unfold g_X3_isWord_b51 at hg
    by_cases c1 : nI tx.1 ≤ nI l
    · rw [if_pos c1] at hg
      have c1 := (nI_leI (by omega) (by omega)).mp c1
      have g := osome2 hg
      exact ⟨g.2.symm, .inl ⟨g.1.symm, fun j h1 h2 => absurd h2 (by omega)⟩⟩
    · rw [if_neg c1] at hg
      have c1 : l < tx.1 := Nat.lt_of_not_le (fun w => c1 ((nI_leI (by omega) (by omega)).mpr w))
      obtain ⟨-, hg⟩ := oif_some hg
      obtain ⟨n4, e4, hg⟩ := obind_some hg
      rw [hR.2.2.2.2.1] at e4
      cases e4
      obtain ⟨-, hg⟩ := oif_some hg
      obtain ⟨n6, e6, hg⟩ := obind_some hg
      rw [hR.1] at e6
      cases e6
      obtain ⟨v7, e7, hg⟩ := elet_some hg
      rw [nI_add] at e7
      obtain ⟨-, hg⟩ := oif_some hg
      obtain ⟨-, hg⟩ := oif_some hg
      obtain ⟨v10, e10, hg⟩ := elet_some hg
      rw [e7, nI_clamp (by omega), hB _ (by omega)] at e10
      obtain ⟨-, hg⟩ := oif_some hg
      obtain ⟨v13, e13, hg⟩ := elet_some hg
      rw [nI_clamp (by omega)] at e13
      by_cases c2 : v10 = v13
      · rw [if_pos c2] at hg
        obtain ⟨v15, e15, hg⟩ := elet_some hg
        have e15 : v15 = nI (l + 1) := e15.trans (nI_1 l)
        rw [e15] at hg
        rw [e10, e13] at c2
        obtain ⟨k1, k2⟩ := ih hR hB hn hg (by omega)
        refine ⟨k1, ?_⟩
        rcases k2 with ⟨k2, k3⟩ | ⟨k2, k3⟩
        · refine .inl ⟨k2, fun j h1 h2 => ?_⟩
          by_cases e : j = l
          · rw [e]; exact c2
          · exact k3 j (by omega) h2
        · exact .inr ⟨k2, fun q => k3 (fun j h1 h2 => q j (by omega) h2)⟩
      · rw [if_neg c2] at hg
        rw [e10, e13] at c2
        have g := osome2 hg
        exact ⟨g.2.symm, .inr ⟨g.1.symm, fun q => c2 (q l (Nat.le_refl _) c1)⟩⟩
theorem kr_word1 {tx : Nat × (Nat → Int32)} {p : Nat} (ht : tx.1 ≤ 8) (hp : p ≤ 1000) : ∀ (f : Nat) {l : Nat} {r : Int32}, S.2.1 1 = b → S.1 8 = nI p → p + tx.1 ≤ 1000 → fr_isWord_b35 tx f S (nI l) = some (r, S1) → l ≤ tx.1 → S1 = S ∧ (r = 1 ∧ (∀ j, l ≤ j → j < tx.1 → b (p + j) = s_ch (tx.2 j)) ∨ r = 0 ∧ ¬ ∀ j, l ≤ j → j < tx.1 → b (p + j) = s_ch (tx.2 j)) := by
  intro f
  induction f with
  | zero => intro l r hb h8 hn hf hl; cases hf
  | succ f ih =>
    intro l r hb h8 hn hf hl
    unfold fr_isWord_b35 at hf
    obtain ⟨v3, e3, hf⟩ := elet_some hf
    rw [sh0] at e3
    rw [e3] at hf
    by_cases c1 : nI tx.1 ≤ nI l
    · rw [if_pos c1] at hf
      have c1 := (nI_leI (by omega) (by omega)).mp c1
      have g := osome2 hf
      exact ⟨g.2.symm, .inl ⟨g.1.symm, fun j h1 h2 => absurd h2 (by omega)⟩⟩
    · rw [if_neg c1] at hf
      have c1 : l < tx.1 := Nat.lt_of_not_le (fun w => c1 ((nI_leI (by omega) (by omega)).mpr w))
      obtain ⟨v5, e5, hf⟩ := elet_some hf
      rw [h8] at e5
      obtain ⟨v6, e6, hf⟩ := elet_some hf
      rw [e5, nI_add] at e6
      obtain ⟨-, hf⟩ := oif_some hf
      obtain ⟨v10, e10, hf⟩ := elet_some hf
      rw [e6, nI_clamp (by omega), hb] at e10
      obtain ⟨-, hf⟩ := oif_some hf
      obtain ⟨v13, e13, hf⟩ := elet_some hf
      rw [nI_clamp (by omega)] at e13
      by_cases c2 : v10 = v13
      · rw [if_pos c2] at hf
        obtain ⟨v15, e15, hf⟩ := elet_some hf
        have e15 : v15 = nI (l + 1) := e15.trans (nI_1 l)
        rw [e15] at hf
        rw [e10, e13] at c2
        obtain ⟨k1, k2⟩ := ih hb h8 hn hf (by omega)
        refine ⟨k1, ?_⟩
        rcases k2 with ⟨k2, k3⟩ | ⟨k2, k3⟩
        · refine .inl ⟨k2, fun j h1 h2 => ?_⟩
          by_cases e : j = l
          · rw [e]; exact c2
          · exact k3 j (by omega) h2
        · exact .inr ⟨k2, fun q => k3 (fun j h1 h2 => q j (by omega) h2)⟩
      · rw [if_neg c2] at hf
        rw [e10, e13] at c2
        have g := osome2 hf
        exact ⟨g.2.symm, .inr ⟨g.1.symm, fun q => c2 (q l (Nat.le_refl _) c1)⟩⟩
theorem kc_word {tx : Nat × (Nat → Int32)} {r : Int32} (ht : tx.1 ≤ 8) (h : PRq b n c i T S) (hg : g_X3_isWord T tx 6 = some (r, T1)) : T1 = T ∧ (r = 1 ∧ WD b n (pst b n i) tx ∨ r = 0 ∧ ¬ WD b n (pst b n i) tx) := by
  have hn := h.1.1
  have hR := h.1.2.1
  have hB := h.1.2.2.1
  have h7 := h.1.2.2.2.1.2.2.2.1
  have h10 := h.1.2.2.2.2.1
  have h11 := h.1.2.2.2.2.2
  have hc := h.1.2.2.2.1.2.2.1
  have pt := pst_te (b := b) (n := n) i
  have tl := te_le (b := b) (n := n) (p := pst b n i)
  unfold g_X3_isWord at hg
  obtain ⟨-, hg⟩ := oif_some hg
  obtain ⟨r5, T3, e5, hg⟩ := obind2_some hg
  obtain ⟨k1, k2⟩ := k_kind h e5
  rw [k2] at hg
  by_cases ck : kd b n (pst b n i) = 1
  · rw [if_pos (k1.trans ck)] at hg
    obtain ⟨-, hg⟩ := oif_some hg
    obtain ⟨n9, e9, hg⟩ := obind_some hg
    rw [hR.2.2.2.2.1] at e9
    cases e9
    obtain ⟨-, hg⟩ := oif_some hg
    obtain ⟨n11, e11, hg⟩ := obind_some hg
    rw [hR.2.2.1] at e11
    cases e11
    obtain ⟨-, hg⟩ := oif_some hg
    obtain ⟨v13, e13, hg⟩ := elet_some hg
    rw [h11] at e13
    obtain ⟨-, hg⟩ := oif_some hg
    obtain ⟨-, hg⟩ := oif_some hg
    obtain ⟨v16, e16, hg⟩ := elet_some hg
    rw [e13, nI_clamp (by omega), (h7 i h10).2.1] at e16
    obtain ⟨-, hg⟩ := oif_some hg
    obtain ⟨n18, e18, hg⟩ := obind_some hg
    rw [hR.2.2.2.2.1] at e18
    cases e18
    obtain ⟨-, hg⟩ := oif_some hg
    obtain ⟨n20, e20, hg⟩ := obind_some hg
    rw [hR.2.2.2.1] at e20
    cases e20
    obtain ⟨-, hg⟩ := oif_some hg
    obtain ⟨v22, e22, hg⟩ := elet_some hg
    rw [h11] at e22
    obtain ⟨-, hg⟩ := oif_some hg
    obtain ⟨-, hg⟩ := oif_some hg
    obtain ⟨v25, e25, hg⟩ := elet_some hg
    rw [e22, nI_clamp (by omega), (h7 i h10).2.2] at e25
    obtain ⟨v26, e26, hg⟩ := elet_some hg
    rw [e25, e16] at e26
    obtain ⟨v28, e28, hg⟩ := elet_some hg
    rw [sh0] at e28
    have q26 : v26.toInt = (te b n (pst b n i) : Int) - pst b n i := by rw [e26]; exact nI_dif pt (by omega)
    have q28 : v28.toInt = (tx.1 : Int) := by rw [e28]; exact nI_toInt (by omega)
    by_cases cl : v26 = v28
    · rw [if_pos cl] at hg
      rw [cl] at q26 hg
      rw [e28, e16] at hg
      obtain ⟨a1, a2⟩ := kc_word1 (l := 0) ht (by omega) 16384 hR hB (by omega) hg (Nat.zero_le _)
      refine ⟨a1, ?_⟩
      rcases a2 with ⟨a2, a3⟩ | ⟨a2, a3⟩
      · exact .inl ⟨a2, ck, by omega, fun j hj => a3 j (Nat.zero_le _) hj⟩
      · exact .inr ⟨a2, fun q => a3 (fun j _ hj => q.2.2 j hj)⟩
    · rw [if_neg cl] at hg
      have g := osome2 hg
      exact ⟨g.2.symm, .inr ⟨g.1.symm, fun q => cl (Int32.toInt_inj.mp (by rw [q26, q28]; have := q.2.1; omega))⟩⟩
  · rw [if_neg (fun q => ck (k1.symm.trans q))] at hg
    have g := osome2 hg
    exact ⟨g.2.symm, .inr ⟨g.1.symm, fun q => ck q.1⟩⟩
theorem kr_word {tx : Nat × (Nat → Int32)} {r : Int32} (ht : tx.1 ≤ 8) (h : PRq b n c i T S) (hf : fr_isWord S tx = some (r, S1)) : S1 = S ∧ (r = 1 ∧ WD b n (pst b n i) tx ∨ r = 0 ∧ ¬ WD b n (pst b n i) tx) := by
  have hn := h.1.1
  have q5 := h.2.2.1
  have q8 := h.2.2.2.2.2.1
  have q4 := h.2.2.2.2.2.2.1
  have qt := h.2.2.2.2.2.2.2
  have pt := pst_te (b := b) (n := n) i
  have tl := te_le (b := b) (n := n) (p := pst b n i)
  unfold fr_isWord at hf
  obtain ⟨w2, d2, hf⟩ := elet_some hf
  rw [if_neg (by rw [d2, q5]; decide)] at hf
  obtain ⟨w4, d4, hf⟩ := elet_some hf
  by_cases ck : kd b n (pst b n i) = 1
  · rw [if_pos (d4.trans ((tk_word qt).mpr ck))] at hf
    obtain ⟨w6, d6, hf⟩ := elet_some hf
    rw [q4] at d6
    obtain ⟨w7, d7, hf⟩ := elet_some hf
    rw [q8] at d7
    obtain ⟨w8, d8, hf⟩ := elet_some hf
    rw [d6, d7] at d8
    obtain ⟨w10, d10, hf⟩ := elet_some hf
    rw [sh0] at d10
    have a8 : w8.toInt = (te b n (pst b n i) : Int) - pst b n i := by rw [d8]; exact nI_dif pt (by omega)
    have a10 : w10.toInt = (tx.1 : Int) := by rw [d10]; exact nI_toInt (by omega)
    by_cases cl : w8 = w10
    · rw [if_pos cl] at hf
      rw [cl] at a8
      obtain ⟨a1, a2⟩ := kr_word1 (l := 0) ht (by omega) 16384 h.2.1 q8 (by omega) hf (Nat.zero_le _)
      refine ⟨a1, ?_⟩
      rcases a2 with ⟨a2, a3⟩ | ⟨a2, a3⟩
      · exact .inl ⟨a2, ck, by omega, fun j hj => a3 j (Nat.zero_le _) hj⟩
      · exact .inr ⟨a2, fun q => a3 (fun j _ hj => q.2.2 j hj)⟩
    · rw [if_neg cl] at hf
      have g := osome2 (show some ((0 : Int32), S) = some (r, S1) from hf)
      exact ⟨g.2.symm, .inr ⟨g.1.symm, fun q => cl (Int32.toInt_inj.mp (by rw [a8, a10]; have := q.2.1; omega))⟩⟩
  · rw [if_neg (fun q => ck ((tk_word qt).mp (d4.symm.trans q)))] at hf
    have g := osome2 (show some ((0 : Int32), S) = some (r, S1) from hf)
    exact ⟨g.2.symm, .inr ⟨g.1.symm, fun q => ck q.1⟩⟩
/-- two words can't both stand at one place -/
def wxq (t u : Nat × (Nat → Int32)) : Bool := (!(Nat.beq t.1 u.1)) || (List.range t.1).any (fun j => !(decide (s_ch (t.2 j) = s_ch (u.2 j))))
theorem wx {t u : Nat × (Nat → Int32)} {p : Nat} (h : wxq t u = true) (a : WD b n p t) : ¬ WD b n p u := fun d => by
  unfold wxq at h
  rcases (Bool.or_eq_true _ _).mp h with h | h
  · have e : t.1 = u.1 := a.2.1.symm.trans d.2.1
    rw [e, Nat.beq_refl] at h
    cases h
  · obtain ⟨j, hj, q⟩ := List.any_eq_true.mp h
    have hj := List.mem_range.mp hj
    have e : s_ch (t.2 j) = s_ch (u.2 j) := (a.2.2 j hj).symm.trans (d.2.2 j (by rw [← d.2.1, a.2.1]; exact hj))
    rw [decide_eq_true e] at q
    cases q
theorem k_take {tx : Nat × (Nat → Int32)} {k : Nat} {r : Int32} (ht : tx.1 ≤ 8) (h : PRq b n c i T S) (hg : g_X3_takeWord T tx 6 = some (k, r, T1)) (hf : fr_keyword S tx = some S1) : (k = 0 ∧ OKq b n c i T S T1 S1) ∨ (k = 3 ∧ ERq T1 S1) := by
  have h11 := h.1.2.2.2.2.2
  have h10 := h.1.2.2.2.2.1
  unfold g_X3_takeWord at hg
  obtain ⟨-, hg⟩ := oif_some hg
  obtain ⟨r5, T3, e5, hg⟩ := obind2_some hg
  unfold fr_keyword at hf
  obtain ⟨w5, S2, f5, hf⟩ := obind2_some hf
  unfold fr_takes at f5
  obtain ⟨u5, S3, f6, f5⟩ := obind2_some f5
  obtain ⟨k2, k4⟩ := kc_word ht h e5
  obtain ⟨k3, k5⟩ := kr_word ht h f6
  rw [k2] at hg
  rw [k3] at f5
  by_cases c0 : WD b n (pst b n i) tx
  · have z1 : r5 = 1 := by
      rcases k4 with q | q
      · exact q.1
      · exact absurd c0 q.2
    have z2 : u5 = 1 := by
      rcases k5 with q | q
      · exact q.1
      · exact absurd c0 q.2
    rw [if_neg (by rw [z1]; decide)] at hg
    rw [if_neg (by rw [z2]; decide)] at f5
    obtain ⟨S7, f7, f5⟩ := obind_some f5
    unfold fr_takes_b14 at f5
    obtain ⟨-, f5⟩ := oif_some f5
    have g5 := osome2 f5
    rw [← g5.1, ← g5.2, if_neg (by rw [z2]; decide)] at hf
    have g7 := osome1 (show some S7 = some S1 from hf)
    rw [← g7]
    obtain ⟨p1, p2⟩ := pr_adv h (by rw [c0.1]; decide) f7
    unfold g_X3_takeWord_b17 at hg
    obtain ⟨-, hg⟩ := oif_some hg
    obtain ⟨v3, e3, hg⟩ := elet_some hg
    rw [h11] at e3
    obtain ⟨v4, e4, hg⟩ := elet_some hg
    rw [e3, nI_1] at e4
    obtain ⟨-, hg⟩ := oif_some hg
    obtain ⟨T6, e6, hg⟩ := elet_some hg
    have g := osome3 hg
    left
    refine ⟨g.1.symm, ⟨i + 1, by omega, ?_⟩, ?_, p2⟩
    · rw [← g.2.2, e6, e4]; exact p1
    · rw [← g.2.2, e6]; exact tf6
  · have z1 : r5 = 0 := by
      rcases k4 with q | q
      · exact absurd q.2 c0
      · exact q.1
    have z2 : u5 = 0 := by
      rcases k5 with q | q
      · exact absurd q.2 c0
      · exact q.1
    rw [if_pos z1] at hg
    rw [if_pos z2] at f5
    unfold fr_takes_b14 at f5
    obtain ⟨-, f5⟩ := oif_some f5
    have g5 := osome2 f5
    rw [← g5.1, ← g5.2, if_pos z2] at hf
    obtain ⟨S7, f7, hf⟩ := obind_some hf
    have g7 := osome1 (show some S7 = some S1 from hf)
    rw [← g7]
    obtain ⟨-, hg⟩ := oif_some hg
    obtain ⟨v9, e9, hg⟩ := elet_some hg
    rw [h11] at e9
    rw [e9] at hg
    obtain ⟨-, hg⟩ := oif_some hg
    right
    rcases othr_k hg with ⟨r9, g9, -⟩ | ⟨r9, T9, g9, -⟩
    · exact k_err h h10 rfl (by decide) g9 f7
    · exact absurd (k_err h h10 rfl (by decide) g9 f7).1 (by decide)
/-- the beginning of a line, refused or not -/
theorem k_start {k : Nat} {a0 e r : Int32} (h : PRq b n c i T S) (hg : g_X3_startLine T 6 a0 e = some (k, r, T1)) : (a0 = 0 ∧ k = 0 ∧ T1 = uI T 6 1 (nI (i + 1))) ∨ (a0 ≠ 0 ∧ ∃ r9, g_X3_failAt T 6 (nI i) e = some (k, r9, T1)) := by
  have h11 := h.1.2.2.2.2.2
  have h10 := h.1.2.2.2.2.1
  unfold g_X3_startLine at hg
  by_cases c0 : a0 = 0
  · rw [if_pos c0] at hg
    unfold g_X3_startLine_b13 at hg
    obtain ⟨-, hg⟩ := oif_some hg
    obtain ⟨v3, e3, hg⟩ := elet_some hg
    rw [h11] at e3
    obtain ⟨v4, e4, hg⟩ := elet_some hg
    rw [e3, nI_1] at e4
    obtain ⟨-, hg⟩ := oif_some hg
    obtain ⟨T6, e6, hg⟩ := elet_some hg
    have g := osome3 hg
    exact .inl ⟨c0, g.1.symm, by rw [← g.2.2, e6, e4]⟩
  · rw [if_neg c0] at hg
    obtain ⟨-, hg⟩ := oif_some hg
    obtain ⟨v4, e4, hg⟩ := elet_some hg
    rw [h11] at e4
    rw [e4] at hg
    obtain ⟨-, hg⟩ := oif_some hg
    rcases othr_k hg with ⟨r9, g9, -⟩ | ⟨r9, T9, g9, -⟩
    · exact .inr ⟨c0, r9, g9⟩
    · exact absurd (k_fail h h10 g9).1 (by decide)
/-- the beginning of a line on both sides -/
theorem k_line {k : Nat} {a0 e r : Int32} {S2 S3 : MS} (h : PRq b n c i T S) (hk : kd b n (pst b n i) = 1) (he : 0 < e.toInt) (hg : g_X3_startLine T 6 a0 e = some (k, r, T1)) (hf : (a0 = 0 ∧ S2 = S) ∨ (a0 ≠ 0 ∧ fr_faults S e = some S2)) (hn : fr_nextToken S2 = some S3) : (k = 0 ∧ PRq b n c (i + 1) T1 S3 ∧ TFq T T1 ∧ MFq S S3 ∧ a0 = 0) ∨ (k = 3 ∧ ERq T1 S3) := by
  rcases k_start h hg with ⟨a, k0, e1⟩ | ⟨a, r9, g9⟩
  · rcases hf with ⟨-, f⟩ | ⟨f, -⟩
    · rw [f] at hn
      obtain ⟨p1, p2⟩ := pr_adv h (by rw [hk]; decide) hn
      left
      rw [e1]
      exact ⟨k0, p1, tf6, p2, a⟩
    · exact absurd a f
  · rcases hf with ⟨f, -⟩ | ⟨-, f⟩
    · exact absurd f a
    · obtain ⟨a1, a2⟩ := k_err h h.1.2.2.2.2.1 rfl he g9 f
      rw [st_next a2.1 hn]
      exact .inr ⟨a1, a2⟩
theorem rn1_all {lo hi : Int32} : ∀ (f p q : Nat), p ≤ q → q < rn1 b n lo hi f p → lo ≤ b q ∧ b q ≤ hi := by
  intro f
  induction f with
  | zero => intro p q h1 h2; exact absurd (show q < p from h2) (by omega)
  | succ f ih =>
    intro p q h1 h2
    have h2 : q < (if p < n ∧ lo ≤ b p ∧ b p ≤ hi then rn1 b n lo hi f (p + 1) else p) := h2
    by_cases c1 : p < n ∧ lo ≤ b p ∧ b p ≤ hi
    · rw [if_pos c1] at h2
      by_cases e : q = p
      · rw [e]; exact c1.2
      · exact ih (p + 1) q (by omega) h2
    · rw [if_neg c1] at h2
      omega
theorem dg_all {p : Nat} (hk : kd b n p = 2) : te b n p - p ≤ 4 ∧ ∀ q, p ≤ q → q < te b n p → 48 ≤ b q ∧ b q ≤ 57 := by
  unfold kd at hk
  by_cases c0 : n ≤ p
  · rw [if_pos c0] at hk; exact absurd hk (by decide)
  rw [if_neg c0] at hk
  by_cases c1 : 97 ≤ b p ∧ b p ≤ 122
  · rw [if_pos c1] at hk
    by_cases c2 : te b n p - p ≤ 8
    · rw [if_pos c2] at hk; exact absurd hk (by decide)
    · rw [if_neg c2] at hk; exact absurd hk (by decide)
  rw [if_neg c1] at hk
  by_cases c2 : 48 ≤ b p ∧ b p ≤ 57
  · rw [if_pos c2] at hk
    by_cases c3 : te b n p - p ≤ 4
    · refine ⟨c3, fun q h1 h2 => ?_⟩
      have et : te b n p = rn b n 48 57 p := by unfold te; rw [if_neg c0, if_neg c1, if_pos c2]
      rw [et] at h2
      exact rn1_all _ _ _ h1 h2
    · rw [if_neg c3] at hk; exact absurd hk (by decide)
  rw [if_neg c2] at hk
  by_cases c3 : b p = 45
  · rw [if_pos c3] at hk; exact absurd hk (by decide)
  rw [if_neg c3] at hk
  by_cases c4 : b p = 59
  · rw [if_pos c4] at hk; exact absurd hk (by decide)
  · rw [if_neg c4] at hk; exact absurd hk (by decide)
theorem vf_stp {a d : Int32} {B : Int} (h0 : 0 ≤ a.toInt) (h1 : a.toInt ≤ B) (hB : B ≤ 100000) (hd : 48 ≤ d ∧ d ≤ 57) : 0 ≤ (10 * a + d - 48).toInt ∧ (10 * a + d - 48).toInt ≤ 10 * B + 9 := by
  have z10 : (10 : Int32).toInt = 10 := by decide
  have z48 : (48 : Int32).toInt = 48 := by decide
  have z57 : (57 : Int32).toInt = 57 := by decide
  have d1 := i_le hd.1
  have d2 := i_le hd.2
  have m1 := i_mulk (v := 10 * a) rfl z10 (by omega) (by omega)
  have m2 := i_add (v := 10 * a + d) rfl (by omega) (by omega)
  have m3 := i_sub (v := 10 * a + d - 48) rfl (by omega) (by omega)
  omega
theorem vf_pos (h : PRq b n c i T S) (hk : kd b n (pst b n i) = 2) : 0 ≤ vf b (te b n (pst b n i) - pst b n i) (pst b n i) 0 := by
  obtain ⟨h4, hd⟩ := dg_all hk
  refine Int32.le_iff_toInt_le.mpr ?_
  have z0 : (0 : Int32).toInt = 0 := by decide
  rw [z0]
  rcases (show te b n (pst b n i) - pst b n i = 0 ∨ te b n (pst b n i) - pst b n i = 1 ∨ te b n (pst b n i) - pst b n i = 2 ∨ te b n (pst b n i) - pst b n i = 3 ∨ te b n (pst b n i) - pst b n i = 4 by omega) with e | e | e | e | e <;> rw [e]
  · show 0 ≤ (0 : Int32).toInt
    decide
  · exact (vf_stp (a := 0) (B := 0) (by omega) (by omega) (by omega) (hd _ (by omega) (by omega))).1
  · have s1 := vf_stp (a := 0) (B := 0) (by omega) (by omega) (by omega) (hd (pst b n i) (by omega) (by omega))
    exact (vf_stp s1.1 s1.2 (by omega) (hd (pst b n i + 1) (by omega) (by omega))).1
  · have s1 := vf_stp (a := 0) (B := 0) (by omega) (by omega) (by omega) (hd (pst b n i) (by omega) (by omega))
    have s2 := vf_stp s1.1 s1.2 (by omega) (hd (pst b n i + 1) (by omega) (by omega))
    exact (vf_stp s2.1 s2.2 (by omega) (hd (pst b n i + 1 + 1) (by omega) (by omega))).1
  · have s1 := vf_stp (a := 0) (B := 0) (by omega) (by omega) (by omega) (hd (pst b n i) (by omega) (by omega))
    have s2 := vf_stp s1.1 s1.2 (by omega) (hd (pst b n i + 1) (by omega) (by omega))
    have s3 := vf_stp s2.1 s2.2 (by omega) (hd (pst b n i + 1 + 1) (by omega) (by omega))
    exact (vf_stp s3.1 s3.2 (by omega) (hd (pst b n i + 1 + 1 + 1) (by omega) (by omega))).1
end
