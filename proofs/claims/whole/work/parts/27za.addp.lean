/-! numbers of more parts: a beam's square is added -/
section
variable {T T1 T0 : AT} {o x y z b u : Nat}
theorem c_addpU {i : Int32} {v s : Int} (hu : UZ T o x y u) (u5 : x ≠ y) (hz : ∀ p w, 2 ≤ p → p < u → T.2.2.2.2 (o + 1) p = some w → w ≠ x ∧ w ≠ y ∧ T.2.2.2.1 w i.toNatClampNeg = 0) (hb : W1 T b z) (hzx : z ≠ x) (hzy : z ≠ y) (hV : V2 T x y i.toNatClampNeg v) (hs : (T.2.2.2.1 z 0).toInt * (T.2.2.2.1 z 0).toInt = s) (hl : s ≤ 2000000000000) (hs0 : 0 ≤ s) (hv : v < 1000000000000000) (hg : g_X10_addProduct_b14 T o i b 0 b 0 = some T1) : LQ T T1 ∧ V2 T1 x y i.toNatClampNeg (v + s) ∧ LE T T1 x y i.toNatClampNeg := by
  obtain ⟨u1, u2, u3, u4, u2le, u40⟩ := id hu
  have uI' : (nI u).toInt = (u : Int) := nI_toInt (by omega)
  have zz0 : (0 : Int32).toInt = 0 := by decide
  obtain ⟨b1, b2, b3⟩ := id hb
  obtain ⟨V0, V1, Vv⟩ := hV
  unfold g_X10_addProduct_b14 at hg
  rw [show (16384 : Nat) = 16382 + 1 + 1 from rfl] at hg
  unfold g_X10_addProduct_b17 at hg
  obtain ⟨-, hg⟩ := oif_some hg
  obtain ⟨v3, d3, hg⟩ := elet_some hg
  rw [u4] at d3
  rw [if_neg (fun w => by have := i_le w; rw [d3] at this; omega)] at hg
  obtain ⟨-, hg⟩ := oif_some hg
  obtain ⟨v6, d6, hg⟩ := elet_some hg
  obtain ⟨-, hg⟩ := oif_some hg
  obtain ⟨v8, d8, hg⟩ := elet_some hg
  rw [b3] at d6 d8
  obtain ⟨v9, d9, hg⟩ := elet_some hg
  obtain ⟨v10, d10, hg⟩ := elet_some hg
  rw [if_neg (by rw [d10, d9, d8, d6]; decide)] at hg
  obtain ⟨-, hg⟩ := oif_some hg
  obtain ⟨v13, d13, hg⟩ := elet_some hg
  rw [b3] at d13
  obtain ⟨v14, d14, hg⟩ := elet_some hg
  obtain ⟨v15, d15, hg⟩ := elet_some hg
  obtain ⟨v16, d16, hg⟩ := elet_some hg
  have e16 : v16 = 0 := by rw [d16, d15, d14, d13]; decide
  rw [e16] at hg
  unfold g_X10_addProduct_b62 at hg
  rw [if_neg (by decide)] at hg
  obtain ⟨-, hg⟩ := oif_some hg
  obtain ⟨w4, f4, hg⟩ := elet_some hg
  rw [b3] at f4
  rw [if_neg (by rw [f4]; decide)] at hg
  obtain ⟨-, hg⟩ := oif_some hg
  obtain ⟨n7, en, hg⟩ := obind_some hg
  rw [b1] at en
  cases en
  obtain ⟨-, hg⟩ := oif_some hg
  obtain ⟨-, hg⟩ := oif_some hg
  obtain ⟨n10, en, hg⟩ := obind_some hg
  rw [show (0 : Int32).toNatClampNeg = 0 from rfl, b2] at en
  cases en
  obtain ⟨-, hg⟩ := oif_some hg
  obtain ⟨-, hg⟩ := oif_some hg
  obtain ⟨w13, f13, hg⟩ := elet_some hg
  obtain ⟨-, hg⟩ := oif_some hg
  obtain ⟨n15, en, hg⟩ := obind_some hg
  rw [b1] at en
  cases en
  obtain ⟨w16, f16, hg⟩ := elet_some hg
  have g16 : w16 = 0 := by rw [f16]; decide
  obtain ⟨-, hg⟩ := oif_some hg
  obtain ⟨-, hg⟩ := oif_some hg
  obtain ⟨n19, en, hg⟩ := obind_some hg
  rw [g16, show (0 : Int32).toNatClampNeg = 0 from rfl, b2] at en
  cases en
  obtain ⟨-, hg⟩ := oif_some hg
  obtain ⟨-, hg⟩ := oif_some hg
  obtain ⟨w22, f22, hg⟩ := elet_some hg
  obtain ⟨w23, f23, hg⟩ := elet_some hg
  obtain ⟨w24, f24, hg⟩ := elet_some hg
  obtain ⟨w25, f25, hg⟩ := elet_some hg
  rw [show (0 : Int32).toNatClampNeg = 0 from rfl] at f13 f22
  have q23 : w23.toInt = s := by
    rw [l_mul f23 (by rw [f13, f22]; omega) (by rw [f13, f22]; omega), f13, f22]
    exact hs
  have z0 : (0 : Int64).toInt = 0 := by decide
  have q24 := l_add f24 (by omega) (by omega)
  unfold g_X10_addProduct_b62 at hg
  rw [if_pos (by rw [f25]; decide)] at hg
  unfold g_X10_addProduct_b113 at hg
  obtain ⟨-, hg⟩ := oif_some hg
  obtain ⟨n3, en, hg⟩ := obind_some hg
  rw [u1] at en
  cases en
  obtain ⟨-, hg⟩ := oif_some hg
  obtain ⟨-, hg⟩ := oif_some hg
  obtain ⟨n6, en, hg⟩ := obind_some hg
  rw [show (0 : Int32).toNatClampNeg = 0 from rfl, u2] at en
  cases en
  obtain ⟨-, hg⟩ := oif_some hg
  obtain ⟨-, hg⟩ := oif_some hg
  obtain ⟨x9, h9, hg⟩ := elet_some hg
  obtain ⟨x10, h10, hg⟩ := elet_some hg
  obtain ⟨-, hg⟩ := oif_some hg
  obtain ⟨-, hg⟩ := oif_some hg
  obtain ⟨T13, e13, hg⟩ := elet_some hg
  obtain ⟨x14, h14, hg⟩ := elet_some hg
  have l13 : LQ T T13 := by rw [e13]; exact lq_uJ
  have q9 : x9.toInt = (T.2.2.2.1 x i.toNatClampNeg).toInt := by rw [h9]
  have q10 := l_add h10 (by omega) (by omega)
  unfold g_X10_addProduct_b17 at hg
  obtain ⟨-, hg⟩ := oif_some hg
  obtain ⟨y3, p3, hg⟩ := elet_some hg
  rw [l13.2.2.1, u4] at p3
  have w14 : x14.toInt = 1 := by rw [h14]; decide
  rw [if_neg (fun w => by have := i_le w; rw [p3] at this; omega)] at hg
  obtain ⟨-, hg⟩ := oif_some hg
  obtain ⟨y6, p6, hg⟩ := elet_some hg
  obtain ⟨-, hg⟩ := oif_some hg
  obtain ⟨y8, p8, hg⟩ := elet_some hg
  rw [l13.2.2.1, b3] at p6 p8
  obtain ⟨y9, p9, hg⟩ := elet_some hg
  obtain ⟨y10, p10, hg⟩ := elet_some hg
  rw [if_pos (by rw [p10, p9, p8, p6, h14]; decide)] at hg
  unfold g_X10_addProduct_b133 g_X10_addProduct_b138 at hg
  obtain ⟨-, hg⟩ := oif_some hg
  obtain ⟨T3, g3, hg⟩ := obind_some hg
  rw [osome1 hg] at g3
  have a0 : T13.2.2.2.1 x i.toNatClampNeg = x10 := by rw [e13, uj_get, if_pos ⟨rfl, rfl⟩]
  have a1 : T13.2.2.2.1 y i.toNatClampNeg = T.2.2.2.1 y i.toNatClampNeg := by rw [e13, uj_get, if_neg (fun w => u5 w.1.symm)]
  obtain ⟨l3, r3, le3⟩ := c_settleU (v := v + s) (hu.lq l13) u5 (fun p w h1 h2 h3 => by
    rw [l13.2.2.2] at h3
    obtain ⟨n1, n2, n3⟩ := hz p w h1 h2 h3
    exact ⟨n1, n2, by rw [e13, uj_get, if_neg (fun e => n1 e.1)]; exact n3⟩) (by rw [a0]; omega) (by rw [a1]; omega) (by rw [a0, a1]; omega) (by omega) g3
  refine ⟨l13.tr l3, r3, fun m j hmj => ?_⟩
  rw [le3 m j hmj, e13, uj_get, if_neg (fun w => by rcases hmj with q | q; exact q.1 w.1; exact q w.2)]
end
