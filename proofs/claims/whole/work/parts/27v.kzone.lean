/-! the corner of the map stays 0: line zone, all lines, the whole text -/
section
variable {T T1 T0 : AT} {s k : Nat} {r : Int32}
set_option maxRecDepth 100000 in
theorem zn_dec : [478, 656].all (fun s => okc (s + 4) && (arf (s + 4)).all (fun x => match x with | some q => !(Nat.beq q 481) && !(Nat.beq q 659) && Nat.beq (aR0 q) 59 | none => true)) = true := by decide +kernel
theorem l_some {q : Nat} : ∀ {l : List (Option Nat)} {k : Nat}, l.getD k none = some q → some q ∈ l := by
  intro l
  induction l with
  | nil =>
    intro k h
    have h : (none : Option Nat) = some q := h
    cases h
  | cons x l ih =>
    intro k h
    cases k with
    | zero =>
      have h : x = some q := h
      rw [h]
      exact List.mem_cons_self
    | succ k => exact List.mem_cons_of_mem _ (ih h)
theorem zn_ne {j n : Nat} (hs : s = 478 ∨ s = 656) (hc : CRF T) (h : T.2.2.2.2 (s + 4) j = some n) : (n ≠ 481 ∧ n ≠ 659) ∧ aR0 n = 59 := by
  have q := List.all_eq_true.mp zn_dec s (by rcases hs with e | e <;> rw [e] <;> decide)
  have q := (Bool.and_eq_true _ _).mp q
  rw [hc.at (s + 4) q.1] at h
  have m := List.all_eq_true.mp q.2 _ (l_some h)
  have m : (!(Nat.beq n 481) && !(Nat.beq n 659) && Nat.beq (aR0 n) 59) = true := m
  have m1 := (Bool.and_eq_true _ _).mp m
  have m2 := (Bool.and_eq_true _ _).mp m1.1
  refine ⟨⟨fun e => ?_, fun e => ?_⟩, Nat.eq_of_beq_eq_true m1.2⟩
  · rw [e] at m2; exact absurd m2.1 (by decide)
  · rw [e] at m2; exact absurd m2.2 (by decide)
theorem ps_zone {n j : Nat} {v : Int32} (hn : n ≠ 481 ∧ n ≠ 659) (hr : aR0 n = 59) (hV : IV aR0 1586 aK1 aK2 T) (hv : 0 ≤ v.toInt ∧ v.toInt ≤ 11) (e : T1 = uI T n j v) : PS T T1 := by
  rw [e]
  exact ⟨iv_uI (a := 0) (b := 11) hV hr (by decide) (by decide) rfl hv (.inl rfl), sp_uI, kw_ui (.inl hn)⟩
theorem k_zone14 {a : Int32} (hs : s = 478 ∨ s = 656) (hc : CRF T) (hV : IV aR0 1586 aK1 aK2 T) (h0 : 0 ≤ a.toInt ∧ a.toInt ≤ 1) (h2 : (T.2.2.1 6 1).toInt ≤ 1000) (h : g_X3_parseZone_b14 T a 6 6 (s + 2) = some (k, r, T1)) : KW T T1 := by
  have z0 : (0 : Int32).toInt = 0 := by decide
  have z1 : (1 : Int32).toInt = 1 := by decide
  have rg := (sro hs).2.1
  unfold g_X3_parseZone_b14 at h
  obtain ⟨-, h⟩ := oif_some h
  rcases othr_k h with ⟨x, g, -⟩ | ⟨x, U3, g, h⟩
  · exact (ps_start hV h0 (by decide) h2 g).2.2
  have p3 := ps_start hV h0 (by decide) h2 g
  have hc3 := crf_eq hc p3.2.1.2.2
  obtain ⟨-, h⟩ := oif_some h
  obtain ⟨n8, en, h⟩ := obind_some h
  rw [(hc3.srf hs).2.2.2.2.2.2.2.2.2.2.2.1] at en
  cases en
  obtain ⟨-, h⟩ := oif_some h
  obtain ⟨v10, d10, h⟩ := elet_some h
  obtain ⟨-, h⟩ := oif_some h
  obtain ⟨-, h⟩ := oif_some h
  obtain ⟨n13, en, h⟩ := obind_some h
  obtain ⟨nn, nr⟩ := zn_ne hs hc3 en
  obtain ⟨-, h⟩ := oif_some h
  obtain ⟨v15, d15, h⟩ := elet_some h
  have r15 := iv_int p3.1 rg (by decide) (by decide) d15 (rfl : iR 1 3 = (0, 12))
  obtain ⟨v16, d16, h⟩ := elet_some h
  have q16 := i_sub d16 (by omega) (by omega)
  obtain ⟨-, h⟩ := oif_some h
  rcases othr_k h with ⟨x, g, -⟩ | ⟨x18, U18, g, h⟩
  · exact (p3.tr (ps_number p3.1 g).1).2.2
  have p18 := p3.tr (ps_number p3.1 g).1
  have b18 := (ps_number p3.1 g).2 rfl
  obtain ⟨-, h⟩ := oif_some h
  obtain ⟨-, h⟩ := oif_some h
  obtain ⟨U24, e24, h⟩ := elet_some h
  have p24 := p18.tr (ps_zone nn nr p18.1 (by omega) e24)
  obtain ⟨-, h⟩ := oif_some h
  obtain ⟨v26, d26, h⟩ := elet_some h
  have r26 := iv_int p24.1 rg (by decide) (by decide) d26 (rfl : iR 1 4 = (0, 12))
  obtain ⟨v27, d27, h⟩ := elet_some h
  have q27 := i_sub d27 (by omega) (by omega)
  obtain ⟨-, h⟩ := oif_some h
  rcases othr_k h with ⟨x, g, -⟩ | ⟨x29, U29, g, h⟩
  · exact (p24.tr (ps_number p24.1 g).1).2.2
  have p29 := p24.tr (ps_number p24.1 g).1
  have b29 := (ps_number p24.1 g).2 rfl
  obtain ⟨-, h⟩ := oif_some h
  obtain ⟨-, h⟩ := oif_some h
  obtain ⟨U35, e35, h⟩ := elet_some h
  have p35 := p29.tr (ps_zone nn nr p29.1 (by omega) e35)
  obtain ⟨-, h⟩ := oif_some h
  obtain ⟨-, h⟩ := oif_some h
  obtain ⟨v38, d38, h⟩ := elet_some h
  have r38 := iv_int p35.1 nr (by decide) (by decide) d38 (rfl : iR 59 _ = (0, 11))
  obtain ⟨-, h⟩ := oif_some h
  obtain ⟨v40, d40, h⟩ := elet_some h
  have r40 := iv_int p35.1 rg (by decide) (by decide) d40 (rfl : iR 1 3 = (0, 12))
  obtain ⟨v41, d41, h⟩ := elet_some h
  have q41 := i_sub d41 (by omega) (by omega)
  obtain ⟨-, h⟩ := oif_some h
  rcases othr_k h with ⟨x, g, -⟩ | ⟨x43, U43, g, h⟩
  · exact (p35.tr (ps_number p35.1 g).1).2.2
  have p43 := p35.tr (ps_number p35.1 g).1
  have b43 := (ps_number p35.1 g).2 rfl
  obtain ⟨-, h⟩ := oif_some h
  obtain ⟨-, h⟩ := oif_some h
  obtain ⟨U49, e49, h⟩ := elet_some h
  have p49 := p43.tr (ps_zone nn nr p43.1 (by omega) e49)
  obtain ⟨-, h⟩ := oif_some h
  obtain ⟨-, h⟩ := oif_some h
  obtain ⟨v52, d52, h⟩ := elet_some h
  obtain ⟨-, h⟩ := oif_some h
  obtain ⟨v54, d54, h⟩ := elet_some h
  obtain ⟨v55, d55, h⟩ := elet_some h
  obtain ⟨-, h⟩ := oif_some h
  rcases othr_k h with ⟨x, g, -⟩ | ⟨x57, U57, g, h⟩
  · exact (p49.tr (ps_number p49.1 g).1).2.2
  have p57 := p49.tr (ps_number p49.1 g).1
  obtain ⟨-, h⟩ := oif_some h
  obtain ⟨-, h⟩ := oif_some h
  obtain ⟨U63, e63, h⟩ := elet_some h
  have k63 : KW U57 U63 := by rw [e63]; exact kw_ui (.inl nn)
  obtain ⟨-, h⟩ := oif_some h
  obtain ⟨v65, d65, h⟩ := elet_some h
  obtain ⟨v66, d66, h⟩ := elet_some h
  obtain ⟨-, h⟩ := oif_some h
  obtain ⟨U68, e68, h⟩ := elet_some h
  have k68 : KW U63 U68 := by rw [e68]; exact kw_ui (.inl (by omega))
  rw [← (osome3 h).2.2]
  exact (p57.2.2.tr k63).tr k68
theorem k_zone (hs : s = 478 ∨ s = 656) (hc : CRF T) (hV : IV aR0 1586 aK1 aK2 T) (h2 : (T.2.2.1 6 1).toInt ≤ 1000) (h : g_X3_parseZone T 6 (s + 2) = some (k, r, T1)) : KW T T1 := by
  unfold g_X3_parseZone at h
  obtain ⟨-, h⟩ := oif_some h
  obtain ⟨v3, -, h⟩ := elet_some h
  rcases oif_or h with ⟨-, h⟩ | ⟨-, h⟩
  · exact k_zone14 hs hc hV (by decide) h2 h
  · exact k_zone14 hs hc hV (by decide) h2 h
end
