/-! who may ask: the class throws what the reference tells -/
section
variable {T T1 : AT} {S S1 : MS} {s k : Nat} {r : Int32}
theorem c_idx {a0 a1 : Int32} (hg : g_X11_needIndex T a0 a1 = some (k, r, T1)) : T1 = T ∧ (k = 0 ∧ 0 ≤ a0.toInt ∧ a0.toInt < a1.toInt ∨ k = 2 ∧ ¬ (0 ≤ a0.toInt ∧ a0.toInt < a1.toInt)) := by
  have z0 : (0 : Int32).toInt = 0 := by decide
  unfold g_X11_needIndex at hg
  by_cases c0 : a0 < 0
  · rw [if_pos c0] at hg
    have c0 := i_lt c0
    have g := osome3 (show some ((2 : Nat), (0 : Int32), T) = some (k, r, T1) from hg)
    exact ⟨g.2.2.symm, .inr ⟨g.1.symm, fun q => by omega⟩⟩
  · rw [if_neg c0] at hg
    have c0 := i_nlt c0
    by_cases c1 : a0 < a1
    · rw [if_pos c1] at hg
      have c1 := i_lt c1
      have g := osome3 hg
      exact ⟨g.2.2.symm, .inl ⟨g.1.symm, by omega, c1⟩⟩
    · rw [if_neg c1] at hg
      have c1 := i_nlt c1
      have g := osome3 (show some ((2 : Nat), (0 : Int32), T) = some (k, r, T1) from hg)
      exact ⟨g.2.2.symm, .inr ⟨g.1.symm, fun q => by omega⟩⟩
theorem c_rng {a0 a1 a2 : Int32} (hg : g_X11_needRange T a0 a1 a2 = some (k, r, T1)) : T1 = T ∧ (k = 0 ∧ a1.toInt ≤ a0.toInt ∧ a0.toInt ≤ a2.toInt ∨ k = 3 ∧ ¬ (a1.toInt ≤ a0.toInt ∧ a0.toInt ≤ a2.toInt)) := by
  unfold g_X11_needRange at hg
  by_cases c0 : a0 < a1
  · rw [if_pos c0] at hg
    have c0 := i_lt c0
    have g := osome3 (show some ((3 : Nat), (0 : Int32), T) = some (k, r, T1) from hg)
    exact ⟨g.2.2.symm, .inr ⟨g.1.symm, fun q => by omega⟩⟩
  · rw [if_neg c0] at hg
    have c0 := i_nlt c0
    by_cases c1 : a0 ≤ a2
    · rw [if_pos c1] at hg
      have c1 := i_le c1
      have g := osome3 hg
      exact ⟨g.2.2.symm, .inl ⟨g.1.symm, c0, c1⟩⟩
    · rw [if_neg c1] at hg
      have c1 := i_nle c1
      have g := osome3 (show some ((3 : Nat), (0 : Int32), T) = some (k, r, T1) from hg)
      exact ⟨g.2.2.symm, .inr ⟨g.1.symm, fun q => by omega⟩⟩
theorem c_cam (h14 : T.2.2.2.2 0 14 = some s) (hg : g_X11_needCamera T 0 = some (k, r, T1)) : T1 = T ∧ (k = 0 ∧ T.2.2.1 s 5 ≠ 0 ∨ k = 1 ∧ T.2.2.1 s 5 = 0) := by
  unfold g_X11_needCamera at hg
  obtain ⟨-, hg⟩ := oif_some hg
  obtain ⟨n3, e3, hg⟩ := obind_some hg
  rw [h14] at e3
  cases e3
  obtain ⟨-, hg⟩ := oif_some hg
  obtain ⟨v5, e5, hg⟩ := elet_some hg
  by_cases c : v5 = 0
  · rw [if_pos c] at hg
    have g := osome3 hg
    exact ⟨g.2.2.symm, .inr ⟨g.1.symm, e5.symm.trans c⟩⟩
  · rw [if_neg c] at hg
    have g := osome3 hg
    exact ⟨g.2.2.symm, .inl ⟨g.1.symm, fun q => c (e5.trans q)⟩⟩
theorem c_mic {a0 : Int32} (h14 : T.2.2.2.2 0 14 = some s) (hg : g_X11_needMic T 0 a0 = some (k, r, T1)) : T1 = T ∧ (k = 0 ∧ 0 ≤ a0.toInt ∧ a0.toInt < (T.2.2.1 s 5).toInt ∨ k = 2 ∧ ¬ (0 ≤ a0.toInt ∧ a0.toInt < (T.2.2.1 s 5).toInt)) := by
  unfold g_X11_needMic at hg
  obtain ⟨-, hg⟩ := oif_some hg
  obtain ⟨n3, e3, hg⟩ := obind_some hg
  rw [h14] at e3
  cases e3
  obtain ⟨-, hg⟩ := oif_some hg
  obtain ⟨v5, e5, hg⟩ := elet_some hg
  rw [← e5]
  rcases othr_k hg with ⟨r9, g9, -⟩ | ⟨r9, T9, g9, hg⟩
  · exact c_idx g9
  · obtain ⟨a, b⟩ := c_idx g9
    have g := osome3 hg
    rw [← g.1, ← g.2.2]
    exact ⟨a, b⟩
theorem c_src {a0 : Int32} (h14 : T.2.2.2.2 0 14 = some s) (hg : g_X11_needSource T 0 a0 = some (k, r, T1)) : T1 = T ∧ (k = 0 ∧ 0 ≤ a0.toInt ∧ a0.toInt < (T.2.2.1 s 8).toInt ∨ k = 2 ∧ ¬ (0 ≤ a0.toInt ∧ a0.toInt < (T.2.2.1 s 8).toInt)) := by
  unfold g_X11_needSource at hg
  obtain ⟨-, hg⟩ := oif_some hg
  obtain ⟨n3, e3, hg⟩ := obind_some hg
  rw [h14] at e3
  cases e3
  obtain ⟨-, hg⟩ := oif_some hg
  obtain ⟨v5, e5, hg⟩ := elet_some hg
  rw [← e5]
  rcases othr_k hg with ⟨r9, g9, -⟩ | ⟨r9, T9, g9, hg⟩
  · exact c_idx g9
  · obtain ⟨a, b⟩ := c_idx g9
    have g := osome3 hg
    rw [← g.1, ← g.2.2]
    exact ⟨a, b⟩
/-- what the reference tells of a question -/
def wAsk (S : MS) (a : Int32) : Int32 := if S.1 20 = 0 then 1 else if a = 0 then 2 else 0
theorem r_ask {a : Int32} (hf : fr_mayAsk S a = some (r, S1)) : S1 = mi S 0 (wAsk S a) ∧ r = if wAsk S a = 0 then 1 else 0 := by
  have key : ∀ {w : Int32}, fr_mayAsk_b21 S w = some (r, S1) → S1 = mi S 0 w ∧ r = if w = 0 then 1 else 0 := by
    intro w hf
    unfold fr_mayAsk_b21 at hf
    obtain ⟨S2, e2, hf⟩ := elet_some hf
    obtain ⟨v3, e3, hf⟩ := elet_some hf
    have e3 : v3 = w := by rw [e3, e2, mi_at]
    by_cases c : v3 = 0
    · rw [if_pos c] at hf
      unfold fr_mayAsk_b36 at hf
      obtain ⟨-, hf⟩ := oif_some hf
      have f := osome2 hf
      rw [if_pos (e3.symm.trans c), ← f.1, ← f.2, e2]
      exact ⟨rfl, rfl⟩
    · rw [if_neg c] at hf
      unfold fr_mayAsk_b36 at hf
      obtain ⟨-, hf⟩ := oif_some hf
      have f := osome2 hf
      rw [if_neg (fun q => c (e3.trans q)), ← f.1, ← f.2, e2]
      exact ⟨rfl, rfl⟩
  unfold fr_mayAsk at hf
  obtain ⟨v2, e2, hf⟩ := elet_some hf
  unfold wAsk
  by_cases c : v2 = 0
  · rw [if_pos c] at hf
    rw [if_pos (e2.symm.trans c)]
    exact key hf
  · rw [if_neg c] at hf
    rw [if_neg (fun q => c (e2.trans q))]
    by_cases c2 : a = 0
    · rw [if_pos c2] at hf ⊢
      exact key hf
    · rw [if_neg c2] at hf ⊢
      exact key hf
theorem r_mic {a : Int32} (hf : fr_isMic S a = some (r, S1)) : S1 = S ∧ r = if 0 ≤ a ∧ a ≤ S.2.1 10 4 - 1 then 1 else 0 := by
  unfold fr_isMic at hf
  obtain ⟨v2, d2, hf⟩ := elet_some hf
  obtain ⟨v3, d3, hf⟩ := elet_some hf
  obtain ⟨r4, f4, hf⟩ := obind_some hf
  obtain ⟨-, hf⟩ := oif_some hf
  have f := osome2 hf
  rw [← f.1, ← f.2]
  refine ⟨rfl, ?_⟩
  rw [r_in f4, d3, d2]
end
