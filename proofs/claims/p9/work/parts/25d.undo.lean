/-! undo, save, restore: R2 is kept -/
section
variable {T T1 : AT} {S S1 : MS} {k1 : Nat} {r1 r2 : Int32}
/-- what the class changes at an undo -/
theorem c_undo {u w : Nat} (hc : CRF T) (hV : IV aR0 1586 aK1 aK2 T) (hu : 1 ≤ u ∧ u ≤ 6) (hw : w ≤ 5) (e16 : T.2.2.1 0 16 = nI u) (e17 : T.2.2.1 0 17 = nI w) (h : g_X11_undo T 0 = some (k1, r1, T1)) : k1 = 0 ∧ r1 = nI (u - 1) ∧ ∃ U, CPd 242 (834 + 94 * w) T U ∧ T1.2.2.1 0 16 = nI (u - 1) ∧ T1.2.2.1 0 17 = nI ((w + 5) % 6) ∧ ∀ m k, m ≠ 0 → m ≠ 66 → T1.2.2.1 m k = U.2.2.1 m k := by
  obtain ⟨c4, c6, -, c8, -, -, cp, -⟩ := c_fld hc
  have r0 := rrole.2.2.2
  unfold g_X11_undo at h
  obtain ⟨-, h⟩ := oif_some h
  obtain ⟨v3, d3, h⟩ := elet_some h
  rw [if_neg (fun q => by
    have z := (nI_eq (a := u) (b := 0) (by omega) (by decide)).mp (e16.symm.trans (d3.symm.trans q))
    omega)] at h
  obtain ⟨-, h⟩ := oif_some h
  obtain ⟨n6, en, h⟩ := obind_some h
  rw [c6] at en
  cases en
  obtain ⟨-, h⟩ := oif_some h
  obtain ⟨n8, en, h⟩ := obind_some h
  rw [c8] at en
  cases en
  obtain ⟨-, h⟩ := oif_some h
  obtain ⟨v10, d10, h⟩ := elet_some h
  obtain ⟨-, h⟩ := oif_some h
  obtain ⟨-, h⟩ := oif_some h
  obtain ⟨n13, en, h⟩ := obind_some h
  rw [d10, e17, nI_clamp (by omega), cp w (by omega)] at en
  cases en
  obtain ⟨-, h⟩ := oif_some h
  obtain ⟨T15, g15, h⟩ := obind_some h
  have c15 := c_stcopy hc hV d242 (past_in (by omega)) (by omega) g15
  have hc15 : CRF T15 := crf_gr hc hV (sr_X8_copyFrom g15)
  have o0 : ∀ k, T15.2.2.1 0 k = T.2.2.1 0 k := fun k => c15.2.2.2 0 k (.inl (by decide)) (by rw [r0]; rfl)
  unfold g_X11_undo_b31 at h
  obtain ⟨-, h⟩ := oif_some h
  obtain ⟨w3, f3, h⟩ := elet_some h
  obtain ⟨w4, f4, h⟩ := elet_some h
  obtain ⟨w5, f5, h⟩ := elet_some h
  obtain ⟨w6, f6, h⟩ := elet_some h
  obtain ⟨-, h⟩ := oif_some h
  obtain ⟨T8, f8, h⟩ := elet_some h
  obtain ⟨-, h⟩ := oif_some h
  obtain ⟨w10, f10, h⟩ := elet_some h
  obtain ⟨w11, f11, h⟩ := elet_some h
  obtain ⟨-, h⟩ := oif_some h
  obtain ⟨T13, f13, h⟩ := elet_some h
  obtain ⟨-, h⟩ := oif_some h
  obtain ⟨n15, en, h⟩ := obind_some h
  rw [show T13.2.2.2.2 = T15.2.2.2.2 from by rw [f13, f8]; rfl, (c_fld hc15).1] at en
  cases en
  obtain ⟨-, h⟩ := oif_some h
  obtain ⟨T17, f17, h⟩ := elet_some h
  obtain ⟨-, h⟩ := oif_some h
  obtain ⟨w19, f19, h⟩ := elet_some h
  have g := osome3 h
  have k6 : w6 = nI ((w + 5) % 6) := by
    rw [f6, f5, f4, f3, o0, e17]
    exact of_decide_eq_true (a_fin (p := fun w => decide (nI w + 6 - 1 - (nI w + 6 - 1) / 6 * 6 = nI ((w + 5) % 6))) r_nw5 (by omega))
  have k11 : w11 = nI (u - 1) := by
    have q : w10 = nI u := by rw [f10, f8, ui_ne (.inr (by decide)), o0]; exact e16
    rw [f11, q]
    have z : nI u = nI (u - 1) + 1 := by rw [nI_p1, show u - 1 + 1 = u from by omega]
    rw [z, Int32.add_sub_cancel]
  have e16' : T17.2.2.1 0 16 = nI (u - 1) := by rw [f17, ui_ne (.inl (by decide)), f13, ui_at, k11]
  refine ⟨g.1.symm, by rw [← g.2.1, f19, e16'], T15, c15, by rw [← g.2.2]; exact e16', ?_, fun m k h0 h66 => ?_⟩
  · rw [← g.2.2, f17, ui_ne (.inl (by decide)), f13, ui_ne (.inr (by decide)), f8, ui_at, k6]
  · rw [← g.2.2, f17, ui_ne (.inl h66), f13, ui_ne (.inl h0), f8, ui_ne (.inl h0)]
theorem r2_camu (hJ : JJ S) (h : R2 T S) (n : ¬ S.1 19 = 0) : S.1 20 = 1 := by
  obtain ⟨s, hs, h14, hr⟩ := h.1.2.2.2.2
  rcases hr with ⟨a, -⟩ | ⟨a, -⟩
  · exact a
  · exact absurd (h.2.2.1.2 a).1 n
theorem r2x_undo (hV : IV aR0 1586 aK1 aK2 T) (hJ : JJ S) (h : R2 T S) (hg : g_X11_undo T 0 = some (k1, r1, T1)) (hf : fr_undo S = some (r2, S1)) : R2 T1 S1 ∧ S1.1 0 = vck 1 0 0 k1 ∧ (vck 1 0 0 k1 = 0 → k1 = 0 ∧ r1 = r2) := by
  have HR1 := r1_undo hV hJ h.1 hg hf
  have hg0 := hg
  unfold fr_undo at hf
  obtain ⟨v2, e2, hf⟩ := elet_some hf
  by_cases c : S.1 19 = 0
  · rw [if_pos (e2.trans c)] at hf
    unfold fr_undo_b13 at hf
    obtain ⟨V, eV, hf⟩ := elet_some hf
    obtain ⟨v3, e3, hf⟩ := elet_some hf
    rw [if_neg (by rw [e3, eV, mi_at]; decide)] at hf
    unfold g_X11_undo at hg
    obtain ⟨-, hg⟩ := oif_some hg
    obtain ⟨w3, d3, hg⟩ := elet_some hg
    rw [if_pos (d3.trans (h.2.1.trans c))] at hg
    have g := osome3 hg
    rw [← g.1, ← g.2.2, ← (osome2 hf).2, eV, mi_at]
    exact ⟨r2_mi0 h, rfl, fun q => absurd q (by decide)⟩
  · rw [if_neg (fun q => c (e2.symm.trans q))] at hf
    unfold fr_undo_b13 at hf
    obtain ⟨V, eV, hf⟩ := elet_some hf
    obtain ⟨v3, e3, hf⟩ := elet_some hf
    rw [if_pos (by rw [e3, eV, mi_at]; decide)] at hf
    obtain ⟨v5, e5, hf⟩ := elet_some hf
    obtain ⟨v6, e6, hf⟩ := elet_some hf
    obtain ⟨S7, e7, hf⟩ := elet_some hf
    obtain ⟨v8, e8, hf⟩ := elet_some hf
    obtain ⟨v9, e9, hf⟩ := elet_some hf
    obtain ⟨S10, f10, hf⟩ := obind_some hf
    obtain ⟨v13, e13, hf⟩ := elet_some hf
    have f := osome2 hf
    have q20 := r2_camu hJ h c
    have hP := r_pl hJ q20
    obtain ⟨p4, p5⟩ := r2_pl hP
    obtain ⟨a, b, ⟨u, w, hu, hw, eu, ew, hj⟩, v⟩ := h.2.2.2 q20
    have hu1 : 1 ≤ u := Nat.pos_of_ne_zero (fun z => c (by rw [eu, z]; rfl))
    obtain ⟨ek, er, U, cp, k16, k17, ko⟩ := c_undo h.1.1 hV ⟨hu1, hu⟩ hw (h.2.1.trans eu) ew hg0
    have k6 : v6 = nI (u - 1) := by
      rw [e6, e5, eV, show (mi S 0 0).1 19 = S.1 19 from rfl, eu]
      have z : nI u = nI (u - 1) + 1 := by rw [nI_p1, show u - 1 + 1 = u from by omega]
      rw [z, Int32.add_sub_cancel]
    have k8 : v8 = nI (u - 1) := by rw [e8, e7, mi_at, k6]
    have k9 : v9 = nI (2455 * (u - 1)) := by rw [e9, k8]; exact nI_mulk 2455 (u - 1)
    rw [k9] at f10
    have x10 := x_copy_15_12 (o1 := 2455 * (u - 1)) (o3 := 0) (by omega) (by decide) f10
    have fk := w_fr_copy_15_12 f10
    have S7a : S7.2 = S.2 := by rw [e7, eV]; rfl
    have q19 : S10.1 19 = nI (u - 1) := by rw [fk.1 19 rfl, e7, mi_at, k6]
    have s20 : S10.1 20 = S.1 20 := by rw [fk.1 20 rfl, e7, eV]; rfl
    have s0 : S10.1 0 = 0 := by rw [fk.1 0 rfl, e7, eV]; rfl
    have arr : ∀ a, a ≠ 12 → S10.2.1 a = S.2.1 a := fun a n => by
      rw [fk.2 a (by
        cases e : [12].contains a with
        | false => rfl
        | true =>
          have := List.contains_iff_mem.mp e
          exact absurd (List.mem_singleton.mp this) n), S7a]
    have st : ∀ d, d ∈ sds → d ≠ 242 → ∀ m k, d ≤ m → m < d + 8 → T1.2.2.1 m k = T.2.2.1 m k := fun d hd hne m k h1 h2 => by
      have gap := sd_gap hd d242 hne
      have si := sd_in hd
      rw [ko m k (by omega) (by omega), cp.2.2.2 m k (by omega) (sd_nw hd h1 h2)]
    rw [← f.1, ← f.2, ek, er, e13, q19, s0]
    rw [← f.2] at HR1
    refine ⟨⟨HR1, k16.trans q19.symm, ⟨fun j hj => ?_, fun z => absurd (s20.symm.trans z) (by rw [q20]; decide)⟩, fun _ => ⟨?_, ?_, ?_, ?_⟩⟩, rfl, fun _ => ⟨rfl, rfl⟩⟩
    · rw [ko 432 j (by decide) (by decide), cp.2.2.2 432 j (.inr (by decide)) (by rw [r432]; rfl), arr 18 (by decide)]
      exact h.2.2.1.1 j hj
    · have q := hj (u - 1) (by omega)
      rw [show (w + 7 + (u - 1) - u) % 6 = w from by omega] at q
      rw [arr 10 (by decide)]
      refine q.mv p4 p5 (fun i hi => ?_) (fun i hi => ?_) (fun i hi => ?_) (fun y hy => ?_) (fun _ _ => rfl)
      · rw [ko _ i (by omega) (by omega)]; exact cp.1 i hi
      · rw [ko _ i (by omega) (by omega), ko _ i (by omega) (by omega)]; exact cp.2.1 i hi
      · rw [ko _ i (by omega) (by omega), ko _ i (by omega) (by omega), ko _ i (by omega) (by omega), ko _ i (by omega) (by omega), ko _ i (by omega) (by omega)]; exact cp.2.2.1 i hi
      · rw [x10 (0 + y), if_pos (by omega), S7a, show 2455 * (u - 1) + (0 + y - 0) = 2455 * (u - 1) + y from by omega]
    · intro s e c' m hc hm
      have gr := sr_X11_undo hg0
      rw [e14_gr hV gr] at e
      rw [arr 10 (by decide)] at hc hm
      have si := r1_s h.1 e
      have pc := (pl_cell hP).2.2.1
      rw [ko _ m (by omega) (by omega), cp.2.2.2 _ m (by omega) (by rw [dl_ro si (by omega)]; rfl), arr 17 (by decide)]
      exact b s e c' m hc hm
    · refine ⟨u - 1, (w + 5) % 6, by omega, by omega, q19, k17, fun j hjx => ?_⟩
      rw [arr 10 (by decide), arr 15 (by decide), show ((w + 5) % 6 + 7 + j - (u - 1)) % 6 = (w + 7 + j - u) % 6 from by omega]
      have l6 : (w + 7 + j - u) % 6 < 6 := Nat.mod_lt _ (by decide)
      exact (hj j (by omega)).cg p4 p5 (fun m i h1 h2 _ => st _ (past_in l6) (by omega) m i h1 h2) (fun _ _ => rfl) (fun _ _ => rfl)
    · intro i hi hn
      rw [arr 18 (by decide)] at hn
      rw [arr 10 (by decide), arr 16 (by decide)]
      exact (v i hi hn).cg p4 p5 (fun m j h1 h2 _ => st _ (slot_in hi) (by omega) m j h1 h2) (fun _ _ => rfl) (fun _ _ => rfl)
end
