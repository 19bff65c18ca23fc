/-! who may ask: the class throws what the reference tells -/
section
variable {T T1 : AT} {S S1 : MS} {s k : Nat} {r : Int32}
theorem c_cam (h14 : T.2.2.2.2 0 14 = some s) (hg : g_X11_needCamera T 0 = some (k, r, T1)) : T1 = T ∧ (k = 0 ∧ T.2.2.1 s 5 ≠ 0 ∨ k = 1 ∧ T.2.2.1 s 5 = 0) := by
  unfold g_X11_needCamera at hg
  obtain ⟨-, hg⟩ := oif_some hg
  obtain ⟨n3, e3, hg⟩ := obind_some hg
  rw [h14] at e3
  cases e3
  obtain ⟨-, hg⟩ := oif_some hg
  obtain ⟨v5, e5, hg⟩ := elet_some hg
  by_cases c : v5 = 0
  · rw [if_pos c] at hg
    have g := osome3 hg
    exact ⟨g.2.2.symm, .inr ⟨g.1.symm, e5.symm.trans c⟩⟩
  · rw [if_neg c] at hg
    have g := osome3 hg
    exact ⟨g.2.2.symm, .inl ⟨g.1.symm, fun q => c (e5.trans q)⟩⟩
/-- what the reference tells of a question -/
def wAsk (S : MS) (a : Int32) : Int32 := if S.1 20 = 0 then 1 else if a = 0 then 2 else 0
theorem r_ask {a : Int32} (hf : fr_mayAsk S a = some (r, S1)) : S1 = mi S 0 (wAsk S a) ∧ r = if wAsk S a = 0 then 1 else 0 := by
  have key : ∀ {w : Int32}, fr_mayAsk_b21 S w = some (r, S1) → S1 = mi S 0 w ∧ r = if w = 0 then 1 else 0 := by
    intro w hf
    unfold fr_mayAsk_b21 at hf
    obtain ⟨S2, e2, hf⟩ := elet_some hf
    obtain ⟨v3, e3, hf⟩ := elet_some hf
    have e3 : v3 = w := by rw [e3, e2, mi_at]
    by_cases c : v3 = 0
    · rw [if_pos c] at hf
      unfold fr_mayAsk_b36 at hf
      obtain ⟨-, hf⟩ := oif_some hf
      have f := osome2 hf
      rw [if_pos (e3.symm.trans c), ← f.1, ← f.2, e2]
      exact ⟨rfl, rfl⟩
    · rw [if_neg c] at hf
      unfold fr_mayAsk_b36 at hf
      obtain ⟨-, hf⟩ := oif_some hf
      have f := osome2 hf
      rw [if_neg (fun q => c (e3.trans q)), ← f.1, ← f.2, e2]
      exact ⟨rfl, rfl⟩
  unfold fr_mayAsk at hf
  obtain ⟨v2, e2, hf⟩ := elet_some hf
  unfold wAsk
  by_cases c : v2 = 0
  · rw [if_pos c] at hf
    rw [if_pos (e2.symm.trans c)]
    exact key hf
  · rw [if_neg c] at hf
    rw [if_neg (fun q => c (e2.trans q))]
    by_cases c2 : a = 0
    · rw [if_pos c2] at hf ⊢
      exact key hf
    · rw [if_neg c2] at hf ⊢
      exact key hf
end
