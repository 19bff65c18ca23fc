section
variable {b : Nat → Int32} {n c i k : Nat} {T T1 : AT} {S S1 : MS} {r : Int32}
theorem pr_mfe {a : Nat} {f : Nat → Int32} {S2 : MS} (h : PRq b n c i T S) (e : S2 = mf S a f) (ha : a ≠ 1) : PRq b n c i T S2 := by
  rw [e]
  exact pr_mf h ha
theorem wq4 : wxq (sTx "square") (sTx "triangle") = true ∧ wxq (sTx "square") (sTx "pulse") = true ∧ wxq (sTx "square") (sTx "noise") = true ∧ wxq (sTx "triangle") (sTx "pulse") = true ∧ wxq (sTx "triangle") (sTx "noise") = true ∧ wxq (sTx "pulse") (sTx "noise") = true := by decide +kernel
theorem wl4 : (sTx "square").1 ≤ 8 ∧ (sTx "triangle").1 ≤ 8 ∧ (sTx "pulse").1 ≤ 8 ∧ (sTx "noise").1 ≤ 8 ∧ (sTx "from").1 ≤ 8 := by decide +kernel
/-- what shape a word tells -/
def SHw (b : Nat → Int32) (n p : Nat) (v : Int32) : Prop := v = 0 ∧ WD b n p (sTx "square") ∨ v = 1 ∧ WD b n p (sTx "triangle") ∨ v = 2 ∧ WD b n p (sTx "pulse") ∨ v = 3 ∧ WD b n p (sTx "noise")
theorem sh_one {p : Nat} {v w : Int32} (a : SHw b n p v) (d : SHw b n p w) : v = w := by
  obtain ⟨q1, q2, q3, q4, q5, q6⟩ := wq4
  rcases a with ⟨a, a2⟩ | ⟨a, a2⟩ | ⟨a, a2⟩ | ⟨a, a2⟩ <;> rcases d with ⟨d, d2⟩ | ⟨d, d2⟩ | ⟨d, d2⟩ | ⟨d, d2⟩ <;> first | exact a.trans d.symm | exact absurd d2 (wx q1 a2) | exact absurd a2 (wx q1 d2) | exact absurd d2 (wx q2 a2) | exact absurd a2 (wx q2 d2) | exact absurd d2 (wx q3 a2) | exact absurd a2 (wx q3 d2) | exact absurd d2 (wx q4 a2) | exact absurd a2 (wx q4 d2) | exact absurd d2 (wx q5 a2) | exact absurd a2 (wx q5 d2) | exact absurd d2 (wx q6 a2) | exact absurd a2 (wx q6 d2)
theorem sh_word {p : Nat} {v : Int32} (a : SHw b n p v) : kd b n p = 1 ∧ v ≠ -1 := by
  rcases a with ⟨a, a2⟩ | ⟨a, a2⟩ | ⟨a, a2⟩ | ⟨a, a2⟩ <;> exact ⟨a2.1, by rw [a]; decide⟩
theorem c_shape62 {v : Int32} (h : PRq b n c i T S) (hg : g_X3_shape_b62 T 6 v = some (k, r, T1)) : k = 0 ∧ r = v ∧ T1 = uI T 6 1 (nI (i + 1)) := by
  unfold g_X3_shape_b62 at hg
  obtain ⟨-, hg⟩ := oif_some hg
  obtain ⟨v3, e3, hg⟩ := elet_some hg
  rw [h.1.2.2.2.2.2] at e3
  obtain ⟨v4, e4, hg⟩ := elet_some hg
  rw [e3, nI_1] at e4
  obtain ⟨-, hg⟩ := oif_some hg
  obtain ⟨T6, e6, hg⟩ := elet_some hg
  have g := osome3 hg
  exact ⟨g.1.symm, g.2.1.symm, by rw [← g.2.2, e6, e4]⟩
theorem c_shape (h : PRq b n c i T S) (hg : g_X3_shape T 6 = some (k, r, T1)) : (SHw b n (pst b n i) r ∧ k = 0 ∧ T1 = uI T 6 1 (nI (i + 1))) ∨ ((∀ v, ¬ SHw b n (pst b n i) v) ∧ ∃ r9, g_X3_failAt T 6 (nI i) 1 = some (k, r9, T1)) := by
  obtain ⟨w1, w2, w3, w4, -⟩ := wl4
  unfold g_X3_shape at hg
  obtain ⟨-, hg⟩ := oif_some hg
  obtain ⟨r6, T4, e6, hg⟩ := obind2_some hg
  obtain ⟨t4, d6⟩ := kc_word w2 h e6
  rw [t4] at hg
  rcases d6 with ⟨z, d6⟩ | ⟨z, d6⟩
  · rw [if_neg (by rw [z]; decide)] at hg
    obtain ⟨a1, a2, a3⟩ := c_shape62 h hg
    exact .inl ⟨.inr (.inl ⟨a2, d6⟩), a1, a3⟩
  rw [if_pos z] at hg
  obtain ⟨-, hg⟩ := oif_some hg
  obtain ⟨r13, T11, e13, hg⟩ := obind2_some hg
  obtain ⟨t11, d13⟩ := kc_word w3 h e13
  rw [t11] at hg
  rcases d13 with ⟨z, d13⟩ | ⟨z, d13⟩
  · rw [if_neg (by rw [z]; decide)] at hg
    obtain ⟨a1, a2, a3⟩ := c_shape62 h hg
    exact .inl ⟨.inr (.inr (.inl ⟨a2, d13⟩)), a1, a3⟩
  rw [if_pos z] at hg
  obtain ⟨-, hg⟩ := oif_some hg
  obtain ⟨r20, T18, e20, hg⟩ := obind2_some hg
  obtain ⟨t18, d20⟩ := kc_word w4 h e20
  rw [t18] at hg
  rcases d20 with ⟨z, d20⟩ | ⟨z, d20⟩
  · rw [if_neg (by rw [z]; decide)] at hg
    obtain ⟨a1, a2, a3⟩ := c_shape62 h hg
    exact .inl ⟨.inr (.inr (.inr ⟨a2, d20⟩)), a1, a3⟩
  rw [if_pos z] at hg
  obtain ⟨-, hg⟩ := oif_some hg
  obtain ⟨r27, T25, e27, hg⟩ := obind2_some hg
  obtain ⟨t25, d27⟩ := kc_word w1 h e27
  rw [t25] at hg
  rcases d27 with ⟨z, d27⟩ | ⟨z, d27⟩
  · rw [if_neg (by rw [z]; decide)] at hg
    obtain ⟨a1, a2, a3⟩ := c_shape62 h hg
    exact .inl ⟨.inl ⟨a2, d27⟩, a1, a3⟩
  rw [if_pos z] at hg
  obtain ⟨-, hg⟩ := oif_some hg
  obtain ⟨v31, e31, hg⟩ := elet_some hg
  rw [h.1.2.2.2.2.2] at e31
  rw [e31] at hg
  obtain ⟨-, hg⟩ := oif_some hg
  right
  refine ⟨fun v q => ?_, ?_⟩
  · rcases q with ⟨-, q⟩ | ⟨-, q⟩ | ⟨-, q⟩ | ⟨-, q⟩
    · exact d27 q
    · exact d6 q
    · exact d13 q
    · exact d20 q
  · rcases othr_k hg with ⟨r9, g9, -⟩ | ⟨r9, T9, g9, -⟩
    · exact ⟨r9, g9⟩
    · exact absurd (k_fail h h.1.2.2.2.2.1 g9).1 (by decide)
theorem r_shape {l1 : Int32} (h : PRq b n c i T S) (hf : (obind2 (fr_isWord S (sTx "square")) fun r9 S6 => if r9 = 0 then (obind2 (fr_isWord S6 (sTx "triangle")) fun r15 S12 => if r15 = 0 then (obind2 (fr_isWord S12 (sTx "pulse")) fun r21 S18 => if r21 = 0 then (obind2 (fr_isWord S18 (sTx "noise")) fun r27 S24 => if r27 = 0 then (fr_readSource_b75 S24 (-1) l1) else (fr_readSource_b75 S24 3 l1)) else (fr_readSource_b75 S18 2 l1)) else (fr_readSource_b75 S12 1 l1)) else (fr_readSource_b75 S6 0 l1)) = some S1) : ∃ v Sb, fr_readSource_b86 Sb l1 v = some S1 ∧ (SHw b n (pst b n i) v ∧ Sb = S ∨ (∀ v, ¬ SHw b n (pst b n i) v) ∧ fr_faults S 1 = some Sb) := by
  obtain ⟨w1, w2, w3, w4, -⟩ := wl4
  have fin : ∀ {v : Int32}, SHw b n (pst b n i) v → fr_readSource_b75 S v l1 = some S1 → ∃ v Sb, fr_readSource_b86 Sb l1 v = some S1 ∧ (SHw b n (pst b n i) v ∧ Sb = S ∨ (∀ v, ¬ SHw b n (pst b n i) v) ∧ fr_faults S 1 = some Sb) := by
    intro v q hf
    unfold fr_readSource_b75 at hf
    rw [if_neg (sh_word q).2] at hf
    exact ⟨v, S, hf, .inl ⟨q, rfl⟩⟩
  obtain ⟨r9, S6, e9, hf⟩ := obind2_some hf
  obtain ⟨t6, d9⟩ := kr_word w1 h e9
  rw [t6] at hf
  rcases d9 with ⟨z, d9⟩ | ⟨z, d9⟩
  · rw [if_neg (by rw [z]; decide)] at hf
    exact fin (.inl ⟨rfl, d9⟩) hf
  rw [if_pos z] at hf
  obtain ⟨r15, S12, e15, hf⟩ := obind2_some hf
  obtain ⟨t12, d15⟩ := kr_word w2 h e15
  rw [t12] at hf
  rcases d15 with ⟨z, d15⟩ | ⟨z, d15⟩
  · rw [if_neg (by rw [z]; decide)] at hf
    exact fin (.inr (.inl ⟨rfl, d15⟩)) hf
  rw [if_pos z] at hf
  obtain ⟨r21, S18, e21, hf⟩ := obind2_some hf
  obtain ⟨t18, d21⟩ := kr_word w3 h e21
  rw [t18] at hf
  rcases d21 with ⟨z, d21⟩ | ⟨z, d21⟩
  · rw [if_neg (by rw [z]; decide)] at hf
    exact fin (.inr (.inr (.inl ⟨rfl, d21⟩))) hf
  rw [if_pos z] at hf
  obtain ⟨r27, S24, e27, hf⟩ := obind2_some hf
  obtain ⟨t24, d27⟩ := kr_word w4 h e27
  rw [t24] at hf
  rcases d27 with ⟨z, d27⟩ | ⟨z, d27⟩
  · rw [if_neg (by rw [z]; decide)] at hf
    exact fin (.inr (.inr (.inr ⟨rfl, d27⟩))) hf
  rw [if_pos z] at hf
  unfold fr_readSource_b75 at hf
  rw [if_pos rfl] at hf
  obtain ⟨S3, f3, hf⟩ := obind_some hf
  refine ⟨_, S3, hf, .inr ⟨fun v q => ?_, f3⟩⟩
  rcases q with ⟨-, q⟩ | ⟨-, q⟩ | ⟨-, q⟩ | ⟨-, q⟩
  · exact d9 q
  · exact d15 q
  · exact d21 q
  · exact d27 q
theorem k_shape {v : Int32} {Sb S3 : MS} (h : PRq b n c i T S) (hg : g_X3_shape T 6 = some (k, r, T1)) (hf : SHw b n (pst b n i) v ∧ Sb = S ∨ (∀ v, ¬ SHw b n (pst b n i) v) ∧ fr_faults S 1 = some Sb) (hn : fr_nextToken Sb = some S3) : (k = 0 ∧ v = r ∧ PRq b n c (i + 1) T1 S3 ∧ TFq T T1 ∧ MFq S S3) ∨ (k = 3 ∧ ERq T1 S3) := by
  rcases c_shape h hg with ⟨a, k0, e1⟩ | ⟨a, r9, g9⟩
  · rcases hf with ⟨f, f2⟩ | ⟨f, -⟩
    · rw [f2] at hn
      obtain ⟨p1, p2⟩ := pr_adv h (by rw [(sh_word a).1]; decide) hn
      left
      rw [e1]
      exact ⟨k0, sh_one f a, p1, tf6, p2⟩
    · exact absurd a (f _)
  · rcases hf with ⟨f, -⟩ | ⟨-, f⟩
    · exact absurd f (a _)
    · obtain ⟨a1, a2⟩ := k_err h h.1.2.2.2.2.1 rfl (by decide) g9 f
      rw [st_next a2.1 hn]
      exact .inr ⟨a1, a2⟩
end
