/-! load keeps R3 -/
section
variable {T T1 : AT} {S S1 : MS} {s k : Nat} {r : Int32}
/-- text, parser, one scene -/
def zPar (s n : Nat) : Bool := zbt 1 7 n || zbt s (s + 178) n
def zParL (s : Nat) : List Nat := (List.range 6).map (1 + ·) ++ (List.range 178).map (s + ·)
theorem zPar_L {n : Nat} (h : zPar s n = true) : n ∈ zParL s := by
  unfold zPar at h
  rcases (Bool.or_eq_true _ _).mp h with h | h
  · obtain ⟨a, b⟩ := zbt_t.mp h
    exact List.mem_append_left _ (mem_rg a b)
  · obtain ⟨a, b⟩ := zbt_t.mp h
    exact List.mem_append_right _ (mem_rg a b)
set_option maxRecDepth 100000 in
set_option maxHeartbeats 4000000 in
theorem zPar_ck : [478, 656].all (fun s => (zParL s).all (zck (zPar s))) = true := by decide +kernel
/-- reading a text leaves the probe -/
theorem pr_parse {a : Int32} (hc : CRF T) (hV : IV aR0 1586 aK1 aK2 T) (hs : s = 478 ∨ s = 656) (ha : 0 ≤ a.toInt ∧ a.toInt ≤ 1000) (h : g_X3_parse T 6 a s = some (k, r, T1)) : ∀ j, T1.2.2.1 21 j = T.2.2.1 21 j := by
  have q := List.all_eq_true.mp zPar_ck s (by rcases hs with e | e <;> rw [e] <;> decide)
  have iv := iv_pZ hc hV q (fun n => zPar_L)
  have z6 : pZ (zPar s) 6 = 3 := (pZ_t (by unfold zPar; rfl)).trans rrole.2.2.1
  have zs : pZ (zPar s) s = 6 := (pZ_t (by unfold zPar; rw [zbt_t.mpr ⟨Nat.le_refl s, by omega⟩, Bool.or_true])).trans (rsrole hs)
  have c := tgo (cs_X3_parse (R := pZ (zPar s)) T 6 a s iv z6 zs ha) h
  have o : pZ (zPar s) 21 = 30 := by
    refine pZ_f ?_
    unfold zPar
    rw [show zbt s (s + 178) 21 = false from Bool.eq_false_iff.mpr (fun w => by have := zbt_t.mp w; omega)]
    rfl
  exact fun j => c.1.2 21 j (by rw [o]; rfl)
theorem r3_load {a0 r1 r2 : Int32} {k1 : Nat} (hV : IV aR0 1586 aK1 aK2 T) (hJ : JJ S) (h : R3 T S) (hg : g_X11_load T 0 a0 = some (k1, r1, T1)) (hf : fr_load S a0 = some (r2, S1)) : R3 T1 S1 := by
  have R := r2_load hV hJ h.1 hg hf
  have h21 := (w_fr_load hf).1 21 (by decide)
  have hc := h.1.1.1
  obtain ⟨d1, d2, d6, d0⟩ := rrole
  obtain ⟨-, -, -, -, -, -, -, t8, t9, -⟩ := txr_dec
  have c00 : T.2.2.2.2 0 0 = some 1 := (hc.2.1 0 (by decide) (by decide)).trans t8
  have c01 : T.2.2.2.2 0 1 = some 6 := (hc.2.1 1 (by decide) (by decide)).trans t9
  have z0 : (0 : Int32).toInt = 0 := by decide
  have key : ((RC T1 ∧ RI T1) ∧ (∀ j, j = 7 ∨ j = 8 → T1.2.2.1 21 j = T.2.2.1 21 j) ∧ KW T T1) → R3 T1 S1 := fun q => by
    refine ⟨R, q.1, ⟨?_, ?_⟩, fun s hs => ?_, h21.trans h.2.2.2.2⟩
    · rw [q.2.1 7 (.inl rfl)]; exact h.2.2.1.1
    · rw [q.2.1 8 (.inr rfl)]; exact h.2.2.1.2
    · have w := q.2.2 s hs
      rw [w.1, w.2]
      exact h.2.2.2.1 s hs
  refine key ?_
  have out : g_X11_load_b15 T = some (k1, r1, T1) → (RC T1 ∧ RI T1) ∧ (∀ j, j = 7 ∨ j = 8 → T1.2.2.1 21 j = T.2.2.1 21 j) ∧ KW T T1 := by
    intro hg
    unfold g_X11_load_b15 at hg
    rw [← (osome3 hg).2.2]
    exact ⟨h.2.1, fun _ _ => rfl, KW.rf⟩
  unfold g_X11_load at hg
  rcases oif_or hg with ⟨-, hg⟩ | ⟨b0, hg⟩
  · exact out hg
  have b0 := i_nlt b0
  obtain ⟨-, hg⟩ := oif_some hg
  obtain ⟨n4, en, hg⟩ := obind_some hg
  rw [c00] at en
  cases en
  obtain ⟨-, hg⟩ := oif_some hg
  obtain ⟨v6, e6, hg⟩ := elet_some hg
  have r6 := iv_int hV d1 (by decide) (by decide) e6 (rfl : iR 9 1 = (0, 1000))
  rcases oif_or hg with ⟨b1, hg⟩ | ⟨-, hg⟩
  case inr => exact out hg
  have b1 := i_le b1
  have ha : 0 ≤ a0.toInt ∧ a0.toInt ≤ 1000 := by omega
  obtain ⟨-, hg⟩ := oif_some hg
  obtain ⟨n9, en, hg⟩ := obind_some hg
  rw [c00] at en
  cases en
  obtain ⟨-, hg⟩ := oif_some hg
  obtain ⟨T11, e11, hg⟩ := elet_some hg
  have hV11 : IV aR0 1586 aK1 aK2 T11 := by rw [e11]; exact iv_uI (a := 0) (b := 1000) hV d1 (by decide) (by decide) rfl (by decide) (.inl rfl)
  have sp11 : SP T T11 := by rw [e11]; exact sp_uI
  have hc11 := crf_eq hc sp11.2.2
  have k11 : KW T T11 := by rw [e11]; exact kw_ui (.inl (by decide))
  have p11 : ∀ j, T11.2.2.1 21 j = T.2.2.1 21 j := fun j => by rw [e11]; exact ui_ne (.inl (by decide))
  obtain ⟨-, hg⟩ := oif_some hg
  obtain ⟨n13, en, hg⟩ := obind_some hg
  rw [sp11.2.2, c01] at en
  cases en
  obtain ⟨-, hg⟩ := oif_some hg
  obtain ⟨u, eu, hg⟩ := obind_some hg
  have hu : u = 478 ∨ u = 656 := by
    rcases hc11.2.2 with ⟨-, q⟩ | ⟨-, q⟩
    · rw [q] at eu; cases eu; exact .inr rfl
    · rw [q] at eu; cases eu; exact .inl rfl
  obtain ⟨-, hg⟩ := oif_some hg
  have par : ∀ {k : Nat} {r : Int32} {U : AT}, g_X3_parse T11 6 a0 u = some (k, r, U) → IV aR0 1586 aK1 aK2 U ∧ SP T U ∧ KW T U ∧ ∀ j, U.2.2.1 21 j = T.2.2.1 21 j := fun g =>
    ⟨(tgo (cs_X3_parse T11 6 a0 u hV11 d6 (rsrole hu) ha) g).1.1, sp11.tr (s_X3_parse g), k11.tr (kw_parse hu hc11 hV11 ha g), fun j => (pr_parse hc11 hV11 hu ha g j).trans (p11 j)⟩
  rcases othr_k hg with ⟨x, g, -⟩ | ⟨x, T17, g, hg⟩
  · obtain ⟨-, a2, a3, a4⟩ := par g
    exact ⟨gi_sp a2 h.2.1.1 h.2.1.2, fun j _ => a4 j, a3⟩
  obtain ⟨hV17, sp17, kw17, pr17⟩ := par g
  have hc17 := crf_eq hc sp17.2.2
  have i17 := gi_sp sp17 h.2.1.1 h.2.1.2
  obtain ⟨-, hg⟩ := oif_some hg
  obtain ⟨w0, ew0, hg⟩ := obind_some hg
  obtain ⟨-, hg⟩ := oif_some hg
  obtain ⟨u', eu', hg⟩ := obind_some hg
  have hw0 : w0 = 478 ∨ w0 = 656 := by
    rcases hc17.2.2 with ⟨q, -⟩ | ⟨q, -⟩
    · rw [q] at ew0; cases ew0; exact .inl rfl
    · rw [q] at ew0; cases ew0; exact .inr rfl
  have hu' : u' = 478 ∨ u' = 656 := by
    rcases hc17.2.2 with ⟨-, q⟩ | ⟨-, q⟩
    · rw [q] at eu'; cases eu'; exact .inr rfl
    · rw [q] at eu'; cases eu'; exact .inl rfl
  obtain ⟨-, hg⟩ := oif_some hg
  obtain ⟨lu, hg⟩ := oif_some hg
  obtain ⟨T27, e27, hg⟩ := elet_some hg
  obtain ⟨-, hg⟩ := oif_some hg
  obtain ⟨lw, hg⟩ := oif_some hg
  obtain ⟨T30, e30, hg⟩ := elet_some hg
  obtain ⟨-, hg⟩ := oif_some hg
  obtain ⟨T32, g32, hg⟩ := obind_some hg
  have sc : ∀ {x : Nat}, x = 478 ∨ x = 656 → (T17.2.1 x).1 ≠ 101 := fun {x} hx => by
    have q := hV17.2.1 x (iv_sta hV17 (rsrole hx) (by decide) (by decide))
    rw [q, rsrole hx]
    decide
  have hV27 : IV aR0 1586 aK1 aK2 T27 := by
    rw [e27]
    exact iv_uR hV17 d0 (by decide) (by decide) rfl rfl (rsrole hu') ⟨by decide, by decide⟩
  have hV30 : IV aR0 1586 aK1 aK2 T30 := by
    rw [e30]
    exact iv_uR hV27 d0 (by decide) (by decide) rfl rfl (rsrole hw0) ⟨by decide, by decide⟩
  have i30 : T30.2.2.1 = T17.2.2.1 := by rw [e30, e27]; rfl
  have g27 : GI T17 T27 := by rw [e27]; exact gi_uRo (Nat.le_of_ble_eq_true lu) (sc hu')
  have g30 : GI T27 T30 := by
    rw [e30]
    refine gi_uRo (Nat.le_of_ble_eq_true lw) ?_
    rw [e27]
    exact sc hw0
  have j27 := g27 i17.1 i17.2
  have j30 := g30 j27.1 j27.2
  have c32 := tgo (cs_X11_begin T30 0 hV30 d0) g32
  have j32 := si_X11_begin g32 j30.1 j30.2
  have eT : T1 = T32 := by
    unfold g_X11_load_b65 at hg
    obtain ⟨-, hg⟩ := oif_some hg
    obtain ⟨m3, -, hg⟩ := obind_some hg
    obtain ⟨-, hg⟩ := oif_some hg
    obtain ⟨m5, -, hg⟩ := obind_some hg
    obtain ⟨-, hg⟩ := oif_some hg
    obtain ⟨r9, T7, g7, hg⟩ := obind2_some hg
    unfold g_X1_cells at g7
    obtain ⟨-, g7⟩ := oif_some g7
    obtain ⟨x3, -, g7⟩ := elet_some g7
    obtain ⟨-, g7⟩ := oif_some g7
    obtain ⟨x5, -, g7⟩ := elet_some g7
    obtain ⟨x6, -, g7⟩ := elet_some g7
    rw [← (osome3 hg).2.2, ← (osome2 g7).2]
  rw [eT]
  have k30 : KW T17 T30 := fun s hs => by rw [i30]; exact ⟨rfl, rfl⟩
  refine ⟨j32, fun j hj => ?_, (kw17.tr k30).tr (kw_fw c32.2 (by decide))⟩
  rcases hj with e | e
  · rw [e, c32.2 21 7 (by rw [r21]; rfl), i30]
    exact pr17 7
  · rw [e, c32.2 21 8 (by rw [r21]; rfl), i30]
    exact pr17 8
end
