/-! numbers of more parts: settled behind a sum -/
section
variable {T T1 T0 : AT} {o x y u : Nat}
theorem c_settleU {i : Int32} {v : Int} (hu : UZ T o x y u) (u5 : x ≠ y) (hz : ∀ p w, 2 ≤ p → p < u → T.2.2.2.2 (o + 1) p = some w → w ≠ x ∧ w ≠ y ∧ T.2.2.2.1 w i.toNatClampNeg = 0) (h0 : 0 ≤ (T.2.2.2.1 x i.toNatClampNeg).toInt) (h1 : 0 ≤ (T.2.2.2.1 y i.toNatClampNeg).toInt) (hv : (T.2.2.2.1 y i.toNatClampNeg).toInt * 268435456 + (T.2.2.2.1 x i.toNatClampNeg).toInt = v) (hb : v < 72057594037927936) (hg : g_X10_settle T o i = some T1) : LQ T T1 ∧ V2 T1 x y i.toNatClampNeg v ∧ LE T T1 x y i.toNatClampNeg := by
  obtain ⟨u1, u2, u3, u4, u2le, u40⟩ := id hu
  unfold g_X10_settle at hg
  rw [show (16384 : Nat) = 16382 + 1 + 1 from rfl] at hg
  unfold g_X10_settle_b2 at hg
  obtain ⟨v2, d2, hg⟩ := elet_some hg
  obtain ⟨-, hg⟩ := oif_some hg
  obtain ⟨v4, d4, hg⟩ := elet_some hg
  rw [u4] at d4
  have uI' : (nI u).toInt = (u : Int) := nI_toInt (by omega)
  have z01 : ((0 : Int32) + 1).toInt = 1 := by decide
  rw [if_neg (fun w => by have := i_le w; rw [d4, d2] at this; omega)] at hg
  obtain ⟨-, hg⟩ := oif_some hg
  obtain ⟨n10, en, hg⟩ := obind_some hg
  rw [u1] at en
  cases en
  obtain ⟨-, hg⟩ := oif_some hg
  obtain ⟨-, hg⟩ := oif_some hg
  obtain ⟨n13, en, hg⟩ := obind_some hg
  rw [show (0 : Int32).toNatClampNeg = 0 from rfl, u2] at en
  cases en
  obtain ⟨-, hg⟩ := oif_some hg
  obtain ⟨-, hg⟩ := oif_some hg
  obtain ⟨v16, d16, hg⟩ := elet_some hg
  obtain ⟨-, hg⟩ := oif_some hg
  obtain ⟨n18, en, hg⟩ := obind_some hg
  rw [u1] at en
  cases en
  obtain ⟨-, hg⟩ := oif_some hg
  obtain ⟨-, hg⟩ := oif_some hg
  obtain ⟨n21, en, hg⟩ := obind_some hg
  rw [show (0 : Int32).toNatClampNeg = 0 from rfl, u2] at en
  cases en
  obtain ⟨v22, d22, hg⟩ := elet_some hg
  obtain ⟨-, hg⟩ := oif_some hg
  obtain ⟨-, hg⟩ := oif_some hg
  obtain ⟨T25, e25, hg⟩ := elet_some hg
  have l25 : LQ T T25 := by rw [e25]; exact lq_uJ
  obtain ⟨-, hg⟩ := oif_some hg
  obtain ⟨n27, en, hg⟩ := obind_some hg
  rw [l25.2.2.2, u1] at en
  cases en
  obtain ⟨v28, d28, hg⟩ := elet_some hg
  have e28 : v28 = 1 := by rw [d28]; decide
  obtain ⟨-, hg⟩ := oif_some hg
  obtain ⟨-, hg⟩ := oif_some hg
  obtain ⟨n31, en, hg⟩ := obind_some hg
  rw [e28, show (1 : Int32).toNatClampNeg = 1 from rfl, l25.2.2.2, u3] at en
  cases en
  obtain ⟨-, hg⟩ := oif_some hg
  obtain ⟨-, hg⟩ := oif_some hg
  obtain ⟨v34, d34, hg⟩ := elet_some hg
  rw [e25, uj_get, if_neg (fun w => u5 w.1.symm)] at d34
  obtain ⟨v35, d35, hg⟩ := elet_some hg
  obtain ⟨v36, d36, hg⟩ := elet_some hg
  obtain ⟨-, hg⟩ := oif_some hg
  obtain ⟨-, hg⟩ := oif_some hg
  obtain ⟨T39, e39, hg⟩ := elet_some hg
  have l39 : LQ T25 T39 := by rw [e39]; exact lq_uJ
  have l := l25.tr l39
  obtain ⟨v40, d40, hg⟩ := elet_some hg
  have q16 : v16.toInt = (T.2.2.2.1 x i.toNatClampNeg).toInt := by rw [d16]
  have q22 := l_and d22 (by omega)
  have q34 : v34.toInt = (T.2.2.2.1 y i.toNatClampNeg).toInt := by rw [d34]
  have q35 := l_shr d35
  have q36 := l_add d36 (by omega) (by omega)
  have at39 : ∀ m j, T39.2.2.2.1 m j = if m = y ∧ j = i.toNatClampNeg then v36 else if m = x ∧ j = i.toNatClampNeg then v22 else T.2.2.2.1 m j := by
    intro m j
    rw [e39, uj_get, e25, uj_get]
  have e40 : v40 = nI 1 := by rw [d40]; decide
  rw [e40] at hg
  have ax : T39.2.2.2.1 x i.toNatClampNeg = v22 := by rw [at39, if_neg (fun w => u5 w.1), if_pos ⟨rfl, rfl⟩]
  have ay : T39.2.2.2.1 y i.toNatClampNeg = v36 := by rw [at39, if_pos ⟨rfl, rfl⟩]
  have y0 : (0 : Int64).toInt = 0 := by decide
  have hzz : ∀ p w, 2 ≤ p → p < u → T.2.2.2.2 (o + 1) p = some w → T39.2.2.2.1 w i.toNatClampNeg = 0 := fun p w a b c => by
    obtain ⟨n1, n2, n3⟩ := hz p w a b c
    rw [at39, if_neg (fun e => n2 e.1), if_neg (fun e => n1 e.1)]
    exact n3
  obtain ⟨l1, a1⟩ := c_stU (hu.lq l) (fun p w h1 h2 h3 => by
    rw [l.2.2.2] at h3
    by_cases e : p = 1
    · rw [e, u3] at h3
      cases h3
      rw [ay]
      omega
    · rw [hzz p w (by omega) h2 h3]
      omega) _ 1 (Nat.le_refl _) (by omega) LQ.rf (fun _ _ => rfl) hg
  refine ⟨l.tr l1, ⟨?_, ?_, ?_⟩, fun m j hmj => ?_⟩
  · rw [a1, ax]
    omega
  · rw [a1, ay]
    omega
  · rw [a1, a1, ax, ay]
    omega
  · rw [a1, at39, if_neg (fun w => by rcases hmj with q | q; exact q.2 w.1; exact q w.2), if_neg (fun w => by rcases hmj with q | q; exact q.1 w.1; exact q w.2)]
end
