/-! a byte of the map: one more is counted -/
section
variable {T T1 : AT}
theorem a_byte {v : Int32} (hV : IV aR0 1586 aK1 aK2 T) (h : (T.2.2.1 0 18).toInt < 155) (hg : g_X11_addMapByte T 0 v = some T1) : T1.2.2.1 0 18 = T.2.2.1 0 18 + 1 := by
  unfold g_X11_addMapByte at hg
  obtain ⟨-, hg⟩ := oif_some hg
  obtain ⟨v3, e3, hg⟩ := elet_some hg
  obtain ⟨-, hg⟩ := oif_some hg
  obtain ⟨n5, e5, hg⟩ := obind_some hg
  obtain ⟨-, hg⟩ := oif_some hg
  obtain ⟨v7, e7, hg⟩ := elet_some hg
  obtain ⟨q, eq, -, kq⟩ := hV.2.2.1 0 13 (iv_sta hV rrole.2.2.2 (by decide) (by decide)) (by rw [rrole.2.2.2]; decide)
  rw [e5] at eq
  cases eq
  rw [rrole.2.2.2] at kq
  have kq : aR0 n5 = 52 := kq
  have l := iv_len hV kq (by decide) (by decide) (rfl : shp 52 = (100, 155))
  have n0 : ¬ 0 = n5 := fun q => by
    rw [← q, rrole.2.2.2] at kq
    exact absurd kq (by decide)
  have q7 : v7.toInt = 155 := by rw [e7, l]; decide
  rw [if_neg (fun q => by have := i_le q; rw [e3] at this; omega)] at hg
  obtain ⟨-, hg⟩ := oif_some hg
  obtain ⟨n10, e10, hg⟩ := obind_some hg
  rw [e5] at e10
  cases e10
  obtain ⟨-, hg⟩ := oif_some hg
  obtain ⟨v12, e12, hg⟩ := elet_some hg
  obtain ⟨-, hg⟩ := oif_some hg
  obtain ⟨-, hg⟩ := oif_some hg
  obtain ⟨T15, e15, hg⟩ := elet_some hg
  obtain ⟨-, hg⟩ := oif_some hg
  obtain ⟨v17, e17, hg⟩ := elet_some hg
  obtain ⟨v18, e18, hg⟩ := elet_some hg
  obtain ⟨-, hg⟩ := oif_some hg
  obtain ⟨T20, e20, hg⟩ := elet_some hg
  unfold g_X11_addMapByte_b32 at hg
  rw [← Option.some.inj hg, e20, uI_at, e18, e17, e15, uI_g, if_neg (fun q => n0 q.1)]
end
