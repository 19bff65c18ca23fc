/-! append and load keep what class and reference hold alike -/
section
variable {T T1 : AT} {S S1 : MS} {s : Nat}
theorem sh_bv (x : BitVec 32) (m : Nat) (hm : m ≤ 24) : (x >>> m) &&& 255#32 = (x.sshiftRight m) &&& 255#32 := by
  refine BitVec.eq_of_getLsbD_eq (fun i hi => ?_)
  rw [BitVec.getLsbD_and, BitVec.getLsbD_and, BitVec.getLsbD_ushiftRight, BitVec.getLsbD_sshiftRight]
  by_cases h : i < 8
  · rw [if_pos (by omega), show decide (32 ≤ i) = false from decide_eq_false (by omega)]
    rfl
  · have e : (255#32).getLsbD i = false := (show ∀ i, i < 32 → 8 ≤ i → (255#32).getLsbD i = false by decide) i hi (by omega)
    rw [e, Bool.and_false, Bool.and_false]
theorem sh_eq (w l : Int32) (h : l = 24 ∨ l = 16 ∨ l = 8 ∨ l = 0) : ((w.toUInt32 >>> (l.toUInt32 &&& Int32.toUInt32 31)).toInt32) &&& 255 = (w >>> (l &&& 31)) &&& 255 := by
  rcases h with e | e | e | e <;> subst e
  · exact Int32.toBitVec_inj.mp (sh_bv w.toBitVec 24 (by decide))
  · exact Int32.toBitVec_inj.mp (sh_bv w.toBitVec 16 (by decide))
  · exact Int32.toBitVec_inj.mp (sh_bv w.toBitVec 8 (by decide))
  · exact Int32.toBitVec_inj.mp (sh_bv w.toBitVec 0 (by decide))
theorem k_four1 : ∀ (j f f2 : Nat) {T T1 : AT} {S S1 : MS} {w l : Int32}, j ≤ 4 → l.toInt = 8 * (j : Int) - 8 → T.2.2.2.2 1 0 = some 2 → BYr T S → g_X9_addWord_b3 f T 1 w l = some T1 → fr_four_b3 f2 S w l = some S1 → BYr T1 S1 ∧ T1.2.2.2.2 = T.2.2.2.2 := by
  have z0 : (0 : Int32).toInt = 0 := by decide
  have z8 : (Int32.ofInt (-8) : Int32).toInt = -8 := by decide
  intro j
  induction j with
  | zero =>
    intro f f2 T T1 S S1 w l hj hl hR hB hg hf
    have c : l < 0 := Int32.lt_iff_toInt_lt.mpr (by omega)
    cases f with
    | zero => cases hg
    | succ f =>
      cases f2 with
      | zero => cases hf
      | succ f2 =>
        unfold g_X9_addWord_b3 at hg
        unfold fr_four_b3 at hf
        rw [if_pos c] at hg hf
        rw [← osome1 hg, ← osome1 hf]
        exact ⟨hB, rfl⟩
  | succ j ih =>
    intro f f2 T T1 S S1 w l hj hl hR hB hg hf
    have c : ¬ l < 0 := fun q => by have := i_lt q; omega
    cases f with
    | zero => cases hg
    | succ f =>
      cases f2 with
      | zero => cases hf
      | succ f2 =>
        unfold g_X9_addWord_b3 at hg
        unfold fr_four_b3 at hf
        rw [if_neg c] at hg hf
        obtain ⟨v3, e3, hf⟩ := elet_some hf
        obtain ⟨v4, e4, hf⟩ := elet_some hf
        obtain ⟨v5, e5, hf⟩ := elet_some hf
        obtain ⟨i3, hf⟩ := oif_some hf
        obtain ⟨k3, k4⟩ := inb_k i3
        obtain ⟨S7, e7, hf⟩ := elet_some hf
        obtain ⟨v8, e8, hf⟩ := elet_some hf
        obtain ⟨v9, e9, hf⟩ := elet_some hf
        obtain ⟨S10, e10, hf⟩ := elet_some hf
        obtain ⟨v11, e11, hf⟩ := elet_some hf
        obtain ⟨-, hg⟩ := oif_some hg
        obtain ⟨u4, d4, hg⟩ := elet_some hg
        have d4' : u4 = v3 := d4.trans (hB.1.trans e3.symm)
        rw [if_neg (by rw [d4', k3]; intro q; have := (nI_leI (a := 1000) (by omega) (by omega)).mp q; omega)] at hg
        obtain ⟨-, hg⟩ := oif_some hg
        obtain ⟨n7, en7, hg⟩ := obind_some hg
        rw [hR] at en7
        cases en7
        obtain ⟨-, hg⟩ := oif_some hg
        obtain ⟨u9, d9, hg⟩ := elet_some hg
        have d9' : u9 = v3 := d9.trans (hB.1.trans e3.symm)
        obtain ⟨u10, d10, hg⟩ := elet_some hg
        obtain ⟨u11, d11, hg⟩ := elet_some hg
        obtain ⟨-, hg⟩ := oif_some hg
        obtain ⟨-, hg⟩ := oif_some hg
        obtain ⟨T14, d14, hg⟩ := elet_some hg
        obtain ⟨-, hg⟩ := oif_some hg
        obtain ⟨u16, d16, hg⟩ := elet_some hg
        obtain ⟨u17, d17, hg⟩ := elet_some hg
        obtain ⟨-, hg⟩ := oif_some hg
        obtain ⟨T19, d19, hg⟩ := elet_some hg
        unfold g_X9_addWord_b43 at hg
        obtain ⟨u2, d2, hg⟩ := elet_some hg
        have el : u2 = v11 := d2.trans e11.symm
        rw [← el] at hf
        have sh : u11 = v5 := by
          rw [d11, d10, e5, e4]
          refine sh_eq w l ?_
          rcases (show j = 0 ∨ j = 1 ∨ j = 2 ∨ j = 3 by omega) with q | q | q | q <;> subst q
          · exact .inr (.inr (.inr (Int32.toInt_inj.mp (by omega))))
          · exact .inr (.inr (.inl (Int32.toInt_inj.mp (by have : (8 : Int32).toInt = 8 := by decide
                                                           omega))))
          · exact .inr (.inl (Int32.toInt_inj.mp (by have : (16 : Int32).toInt = 16 := by decide
                                                     omega)))
          · exact .inl (Int32.toInt_inj.mp (by have : (24 : Int32).toInt = 24 := by decide
                                               omega))
        have q2 : u2.toInt = 8 * (j : Int) - 8 := by
          rw [d2]
          exact (i_add rfl (by omega) (by omega)).trans (by omega)
        have hB19 : BYr T19 S10 := by
          refine ⟨?_, fun k hk => ?_⟩
          · rw [d19, ui_at, d17, d16, d14, ui_ne (.inl (by decide)), hB.1, e10, mi_at, e9, e8, e7]
            rfl
          · rw [d19, ui_ne (.inl (by decide)), d14, ui_get, e10, e7]
            show _ = (mf S 1 (upd (S.2.1 1) v3.toNatClampNeg v5)).2.1 1 k
            rw [mf_at]
            show _ = if k = v3.toNatClampNeg then v5 else S.2.1 1 k
            rw [d9', sh]
            by_cases e : k = v3.toNatClampNeg
            · rw [if_pos ⟨rfl, e⟩, if_pos e]
            · rw [if_neg (fun q => e q.2), if_neg e]
              exact hB.2 k hk
        have r19 : T19.2.2.2.2 = T.2.2.2.2 := by rw [d19, d14]; rfl
        obtain ⟨a1, a2⟩ := ih f f2 (by omega) q2 (by rw [r19]; exact hR) hB19 hg hf
        exact ⟨a1, a2.trans r19⟩
theorem k_four {w : Int32} (hR : T.2.2.2.2 1 0 = some 2) (hB : BYr T S) (hg : g_X9_addWord T 1 w = some T1) (hf : fr_four S w = some S1) : BYr T1 S1 ∧ T1.2.2.2.2 = T.2.2.2.2 := k_four1 4 16384 16384 (by decide) (by decide) hR hB hg hf
theorem by_mi {k : Nat} {v : Int32} (h : BYr T S) (hk : k ≠ 2) : BYr T (mi S k v) := ⟨h.1.trans (mi_ne (Ne.symm hk)).symm, h.2⟩
theorem k_append {a0 a1 a2 a3 a4 r1 r2 : Int32} (h0 : T.2.2.2.2 0 0 = some 1) (hR : T.2.2.2.2 1 0 = some 2) (hB : BYr T S) (hg : g_X11_append T 0 a0 a1 a2 a3 a4 = some (r1, T1)) (hf : fr_append S a0 a1 a2 a3 a4 = some (r2, S1)) : r1 = r2 ∧ BYr T1 S1 ∧ T1.2.2.2.2 = T.2.2.2.2 := by
  unfold g_X11_append at hg
  obtain ⟨-, hg⟩ := oif_some hg
  obtain ⟨n3, e3, hg⟩ := obind_some hg
  rw [h0] at e3
  cases e3
  obtain ⟨-, hg⟩ := oif_some hg
  obtain ⟨v5, e5, hg⟩ := elet_some hg
  obtain ⟨v6, e6, hg⟩ := elet_some hg
  unfold fr_append at hf
  obtain ⟨S2, f2, hf⟩ := elet_some hf
  obtain ⟨w3, d3, hf⟩ := elet_some hf
  obtain ⟨w4, d4, hf⟩ := elet_some hf
  have hB2 : BYr T S2 := by rw [f2]; exact by_mi hB (by decide)
  have e64 : v6 = w4 := by rw [e6, d4, e5, d3, hB2.1]
  rw [← e64] at hf
  by_cases c : v6 ≤ 1000
  · rw [if_pos c] at hg hf
    obtain ⟨S6, f6, hf⟩ := obind_some hf
    obtain ⟨S9, f9, hf⟩ := obind_some hf
    obtain ⟨S12, f12, hf⟩ := obind_some hf
    obtain ⟨S15, f15, hf⟩ := obind_some hf
    obtain ⟨S18, f18, hf⟩ := obind_some hf
    obtain ⟨w21, d21, hf⟩ := elet_some hf
    obtain ⟨-, hg⟩ := oif_some hg
    obtain ⟨n9, e9, hg⟩ := obind_some hg
    rw [h0] at e9
    cases e9
    obtain ⟨-, hg⟩ := oif_some hg
    obtain ⟨T11, g11, hg⟩ := obind_some hg
    obtain ⟨b11, r11⟩ := k_four hR hB2 g11 f6
    obtain ⟨-, hg⟩ := oif_some hg
    obtain ⟨n14, e14, hg⟩ := obind_some hg
    rw [r11, h0] at e14
    cases e14
    obtain ⟨-, hg⟩ := oif_some hg
    obtain ⟨T16, g16, hg⟩ := obind_some hg
    obtain ⟨b16, r16⟩ := k_four (by rw [r11]; exact hR) b11 g16 f9
    have r16 := r16.trans r11
    obtain ⟨-, hg⟩ := oif_some hg
    obtain ⟨n19, e19, hg⟩ := obind_some hg
    rw [r16, h0] at e19
    cases e19
    obtain ⟨-, hg⟩ := oif_some hg
    obtain ⟨T21, g21, hg⟩ := obind_some hg
    obtain ⟨b21, r21⟩ := k_four (by rw [r16]; exact hR) b16 g21 f12
    have r21 := r21.trans r16
    obtain ⟨-, hg⟩ := oif_some hg
    obtain ⟨n24, e24, hg⟩ := obind_some hg
    rw [r21, h0] at e24
    cases e24
    obtain ⟨-, hg⟩ := oif_some hg
    obtain ⟨T26, g26, hg⟩ := obind_some hg
    obtain ⟨b26, r26⟩ := k_four (by rw [r21]; exact hR) b21 g26 f15
    have r26 := r26.trans r21
    obtain ⟨-, hg⟩ := oif_some hg
    obtain ⟨n29, e29, hg⟩ := obind_some hg
    rw [r26, h0] at e29
    cases e29
    obtain ⟨-, hg⟩ := oif_some hg
    obtain ⟨T31, g31, hg⟩ := obind_some hg
    obtain ⟨b31, r31⟩ := k_four (by rw [r26]; exact hR) b26 g31 f18
    have r31 := r31.trans r26
    obtain ⟨-, hg⟩ := oif_some hg
    obtain ⟨n34, e34, hg⟩ := obind_some hg
    rw [r31, h0] at e34
    cases e34
    obtain ⟨-, hg⟩ := oif_some hg
    obtain ⟨v36, e36, hg⟩ := elet_some hg
    have g := osome2 hg
    have ff := osome2 hf
    rw [← g.1, ← g.2, ← ff.1, ← ff.2]
    exact ⟨by rw [e36, d21, b31.1], b31, r31⟩
  · rw [if_neg c] at hg hf
    have g := osome2 hg
    have ff := osome2 hf
    rw [← g.1, ← g.2, ← ff.1, ← ff.2]
    exact ⟨rfl, hB2, rfl⟩
/-- a part of the cells alone: the rest is of no known role -/
theorem iv_sub {R Rp : Nat → Nat} {B K1 K2 : Nat} (h : IV R B K1 K2 T) (hR : ∀ n, Rp n = R n ∨ Rp n = 30) (hcl : ∀ n k, Rp n ≠ 30 → rtg (Rp n) k ≠ 99 → ∀ q, T.2.2.2.2 n k = some q → Rp q = R q) : IV Rp B (T.1 + zt Rp T w1 B) (sg T + zt Rp T wC B) T := by
  have e : ∀ n, Rp n ≠ 30 → Rp n = R n := fun n q => (hR n).resolve_right q
  have st : ∀ n, sta Rp B n → sta R B n ∧ Rp n = R n := fun n q => by
    have a := e n q.2.2
    exact ⟨⟨q.1, by rw [← a]; exact q.2.1, by rw [← a]; exact q.2.2⟩, a⟩
  refine ⟨⟨fun n a d => h.1.1 n (by rw [← e n d]; exact a) (by rw [← e n d]; exact d), ⟨fun n a m d => ?_, fun n hn => ?_⟩, h.1.2.2⟩, fun n hs => ?_, fun n k hs hk => ?_, fun n k hs => ?_, fun n hs hW q hq p hp => ?_, fun n p r hs hW hr => ?_, rfl, rfl⟩
  · exact h.1.2.1.1 n (by rw [← e n (by rw [a]; decide)]; exact a) m (by rw [← e m (by rw [d]; decide)]; exact d)
  · rcases hR n with q | q
    · rw [q]; exact h.1.2.1.2 n hn
    · exact q
  · rw [(st n hs).2]; exact h.2.1 n (st n hs).1
  · have a := (st n hs).2
    obtain ⟨q, e1, e2, e3⟩ := h.2.2.1 n k (st n hs).1 (by rw [← a]; exact hk)
    exact ⟨q, e1, e2, by rw [hcl n k hs.2.2 hk q e1, e3, a]⟩
  · rw [(st n hs).2]; exact h.2.2.2.1 n k (st n hs).1
  · have a := (st n hs).2
    rw [a] at hW ⊢
    exact h.2.2.2.2.1 n (st n hs).1 hW q hq p hp
  · have a := (st n hs).2
    rw [a] at hW ⊢
    exact h.2.2.2.2.2.1 n p r (st n hs).1 hW hr
def pR (s n : Nat) : Nat := bif Nat.blt 0 n && Nat.blt n 7 then aR0 n else bif Nat.ble s n && Nat.blt n (s + 178) then aR0 n else 30
theorem pR_or (s n : Nat) : pR s n = aR0 n ∨ pR s n = 30 := by
  unfold pR
  cases Nat.blt 0 n && Nat.blt n 7 with
  | true => exact .inl rfl
  | false =>
    cases Nat.ble s n && Nat.blt n (s + 178) with
    | true => exact .inl rfl
    | false => exact .inr rfl
set_option maxRecDepth 100000 in
set_option maxHeartbeats 4000000 in
theorem pR_cl : [478, 656].all (fun s => ((List.range 6).map (· + 1) ++ (List.range 178).map (s + ·)).all (fun n => Nat.beq (aR0 n) 30 || (okc n && (List.range 150).all (fun k => Nat.beq (rtg (aR0 n) k) 99 || (match (arf n).getD k none with | some q => decide (pR s q = aR0 q) | none => true))))) = true := by decide +kernel
theorem iv_pR (h : CRF T) (hV : IV aR0 1586 aK1 aK2 T) (hs : s = 478 ∨ s = 656) : IV (pR s) 1586 (T.1 + zt (pR s) T w1 1586) (sg T + zt (pR s) T wC 1586) T := by
  refine iv_sub hV (pR_or s) (fun n k hn hk q hq => ?_)
  have d := List.all_eq_true.mp pR_cl s (by rcases hs with e | e <;> rw [e] <;> decide)
  have hm : n ∈ (List.range 6).map (· + 1) ++ (List.range 178).map (s + ·) := by
    unfold pR at hn
    cases c1 : Nat.blt 0 n && Nat.blt n 7 with
    | true =>
      obtain ⟨a, b⟩ := (Bool.and_eq_true _ _).mp c1
      have a := Nat.le_of_ble_eq_true a
      have b := Nat.le_of_ble_eq_true b
      exact List.mem_append_left _ (List.mem_map.mpr ⟨n - 1, List.mem_range.mpr (by omega), by omega⟩)
    | false =>
      rw [c1] at hn
      cases c2 : Nat.ble s n && Nat.blt n (s + 178) with
      | true =>
        obtain ⟨a, b⟩ := (Bool.and_eq_true _ _).mp c2
        have a := Nat.le_of_ble_eq_true a
        have b := Nat.le_of_ble_eq_true b
        exact List.mem_append_right _ (List.mem_map.mpr ⟨n - s, List.mem_range.mpr (by omega), by omega⟩)
      | false => rw [c2] at hn; exact absurd rfl hn
  have d := List.all_eq_true.mp d n hm
  have en : pR s n = aR0 n := (pR_or s n).resolve_right hn
  rw [en] at hn hk
  have d : (Nat.beq (aR0 n) 30 || (okc n && (List.range 150).all (fun k => Nat.beq (rtg (aR0 n) k) 99 || (match (arf n).getD k none with | some q => decide (pR s q = aR0 q) | none => true)))) = true := d
  rw [nbeq hn, Bool.false_or] at d
  obtain ⟨d1, d2⟩ := (Bool.and_eq_true _ _).mp d
  by_cases h150 : k < 150
  · have d3 := a_fin (p := fun k => Nat.beq (rtg (aR0 n) k) 99 || (match (arf n).getD k none with | some q => decide (pR s q = aR0 q) | none => true)) d2 h150
    have d3 : (Nat.beq (rtg (aR0 n) k) 99 || (match (arf n).getD k none with | some q => decide (pR s q = aR0 q) | none => true)) = true := d3
    rw [nbeq hk, Bool.false_or, ← h.at n d1 k, hq] at d3
    exact of_decide_eq_true d3
  · exact absurd (rtg_hi (Nat.not_lt.mp h150)) hk
/-- outside of its scene the parser writes nothing but the text's tokens and its own fields -/
theorem parse_out {n : Int32} {k : Nat} {r : Int32} (h : CRF T) (hV : IV aR0 1586 aK1 aK2 T) (hs : s = 478 ∨ s = 656) (h0 : 0 ≤ n.toInt) (h1 : n.toInt ≤ 1000) (hg : g_X3_parse T 6 n s = some (k, r, T1)) : (∀ m j, 7 ≤ m → (m < s ∨ s + 178 ≤ m) → T1.2.2.1 m j = T.2.2.1 m j) ∧ (∀ j, T1.2.2.1 2 j = T.2.2.1 2 j) ∧ T1.2.2.1 1 1 = T.2.2.1 1 1 ∧ IV aR0 1586 aK1 aK2 T1 := by
  obtain ⟨e1, e2, e6, e0⟩ := rrole
  have rs := (sro hs).1
  have p6 : pR s 6 = 3 := by rw [show pR s 6 = aR0 6 from rfl]; exact e6
  have ps : pR s s = 6 := by
    rw [show pR s s = aR0 s from by rcases hs with e | e <;> rw [e] <;> rfl]
    exact rs
  have c := tgo (cs_X3_parse (R := pR s) T 6 n s (iv_pR h hV hs) p6 ps ⟨h0, h1⟩) hg
  have c0 := tgo (cs_X3_parse T 6 n s hV e6 rs ⟨h0, h1⟩) hg
  have f := c.1.2
  refine ⟨fun m j hm ho => f m j ?_, fun j => f 2 j ?_, f 1 1 ?_, c0.1.1⟩
  · have q : pR s m = 30 := by
      unfold pR
      have a : (Nat.blt 0 m && Nat.blt m 7) = false := by
        cases e : Nat.blt m 7 with
        | false => exact Bool.and_false _
        | true => have := Nat.le_of_ble_eq_true e; omega
      have b : (Nat.ble s m && Nat.blt m (s + 178)) = false := by
        cases e : Nat.ble s m with
        | false => rfl
        | true =>
          cases e2 : Nat.blt m (s + 178) with
          | false => rfl
          | true =>
            have := Nat.le_of_ble_eq_true e
            have := Nat.le_of_ble_eq_true e2
            omega
      rw [a, b]
      rfl
    rw [q]
    rfl
  · rw [show pR s 2 = aR0 2 from rfl, e2]; rfl
  · rw [show pR s 1 = aR0 1 from rfl, e1]; rfl
/-! what the reference does behind its parser -/
theorem r_cp : ∀ (f : Nat) {l : Nat} {r : Int32} {S : MS}, l ≤ 131 → (∀ x, x < l → S.2.1 10 x = S.2.1 11 x) → fr_load_b67 f S (nI l) = some (r, S1) → ∃ U V, U.1 = S.1 ∧ (∀ a, a ≠ 10 → U.2.1 a = S.2.1 a) ∧ (∀ x, x < 131 → U.2.1 10 x = S.2.1 11 x) ∧ fr_copy_13_12 U 0 0 = some V ∧ fr_load_b107 16384 V 0 = some (r, S1) := by
  intro f
  induction f with
  | zero => intro l r S hl hz hf; cases hf
  | succ f ih =>
    intro l r S hl hz hf
    unfold fr_load_b67 at hf
    by_cases c1 : (131 : Int32) ≤ nI l
    · rw [if_pos c1] at hf
      have := (nI_leI (a := 131) (b := l) (by omega) (by omega)).mp c1
      obtain ⟨V, f3, hf⟩ := obind_some hf
      exact ⟨S, V, rfl, fun _ _ => rfl, fun x hx => hz x (by omega), f3, hf⟩
    · rw [if_neg c1] at hf
      have c1 : l < 131 := Nat.lt_of_not_le (fun q => c1 ((nI_leI (a := 131) (b := l) (by omega) (by omega)).mpr q))
      obtain ⟨-, hf⟩ := oif_some hf
      obtain ⟨v7, e7, hf⟩ := elet_some hf
      rw [nI_clamp (by omega)] at e7
      obtain ⟨-, hf⟩ := oif_some hf
      obtain ⟨S9, e9, hf⟩ := elet_some hf
      rw [nI_clamp (by omega)] at e9
      obtain ⟨v10, e10, hf⟩ := elet_some hf
      have e10 : v10 = nI (l + 1) := e10.trans (nI_1 l)
      rw [e10] at hf
      have n11 : S9.2.1 11 = S.2.1 11 := by rw [e9, mf_ne (by decide)]
      obtain ⟨U, V, a1, a2, a3, a4⟩ := ih (S := S9) (by omega) (fun x hx => by
        rw [n11, e9, mf_at]
        show (if x = l then v7 else S.2.1 10 x) = _
        by_cases e : x = l
        · rw [if_pos e, e7, e]
        · rw [if_neg e]; exact hz x (by omega)) hf
      exact ⟨U, V, a1.trans (by rw [e9]; rfl), fun a ha => (a2 a ha).trans (by rw [e9, mf_ne ha]), fun x hx => (a3 x hx).trans (by rw [n11]), a4⟩
def ZQ (r : Int32) (S1 : MS) : Prop := r = S1.2.1 10 9 * S1.2.1 10 10 ∧ S1.1 20 = 1
theorem z_168 {r : Int32} {k : MS → Int32 → Option (Int32 × MS)} (hk : ∀ S l, k S l = some (r, S1) → ZQ r S1) : ∀ (f : Nat) {S : MS} {l2 l3 : Int32}, fr_load_b168 k f S l2 l3 = some (r, S1) → ZQ r S1 := by
  intro f
  induction f with
  | zero => intro S l2 l3 hf; cases hf
  | succ f ih =>
    intro S l2 l3 hf
    unfold fr_load_b168 at hf
    obtain ⟨v2, e2, hf⟩ := elet_some hf
    by_cases c : v2 ≤ l3
    · rw [if_pos c] at hf
      obtain ⟨v4, e4, hf⟩ := elet_some hf
      exact hk _ _ hf
    · rw [if_neg c] at hf
      obtain ⟨v5, e5, hf⟩ := elet_some hf
      obtain ⟨v6, e6, hf⟩ := elet_some hf
      obtain ⟨r10, S7, f7, hf⟩ := obind2_some hf
      obtain ⟨r14, S11, f11, hf⟩ := obind2_some hf
      obtain ⟨r18, S15, f15, hf⟩ := obind2_some hf
      obtain ⟨-, hf⟩ := oif_some hf
      obtain ⟨S20, e20, hf⟩ := elet_some hf
      obtain ⟨v21, e21, hf⟩ := elet_some hf
      exact ih hf
theorem z_158 {r : Int32} : ∀ (f : Nat) {S : MS} {l : Int32}, fr_load_b158 f S l = some (r, S1) → ZQ r S1 := by
  intro f
  induction f with
  | zero => intro S l hf; cases hf
  | succ f ih =>
    intro S l hf
    unfold fr_load_b158 at hf
    obtain ⟨r5, S2, f2, hf⟩ := obind2_some hf
    by_cases c : r5 ≤ l
    · rw [if_pos c] at hf
      obtain ⟨S7, f7, hf⟩ := obind_some hf
      obtain ⟨S10, e10, hf⟩ := elet_some hf
      obtain ⟨S11, e11, hf⟩ := elet_some hf
      obtain ⟨S12, e12, hf⟩ := elet_some hf
      obtain ⟨S13, e13, hf⟩ := elet_some hf
      obtain ⟨r17, S14, f14, hf⟩ := obind2_some hf
      have ff := osome2 hf
      unfold fr_cellCount at f14
      obtain ⟨v2, d2, f14⟩ := elet_some f14
      obtain ⟨v3, d3, f14⟩ := elet_some f14
      obtain ⟨v4, d4, f14⟩ := elet_some f14
      have g := osome2 f14
      rw [← ff.1, ← ff.2, ← g.1, ← g.2]
      exact ⟨by rw [d4, d2, d3], by rw [e13, mi_ne (by decide), e12, e11]; show S10.1 20 = 1; rw [e10, mi_at]⟩
    · rw [if_neg c] at hf
      exact z_168 (fun S l h => ih h) 16384 hf
theorem z_107 {r : Int32} : ∀ (f : Nat) {S : MS} {l : Int32}, fr_load_b107 f S l = some (r, S1) → ZQ r S1 := by
  intro f
  induction f with
  | zero => intro S l hf; cases hf
  | succ f ih =>
    intro S l hf
    have h149 : ∀ {U : MS} {a b c : Int32}, fr_load_b149 (fr_load_b107 f) U a b c = some (r, S1) → ZQ r S1 := by
      intro U a b c hf
      unfold fr_load_b149 at hf
      obtain ⟨-, hf⟩ := oif_some hf
      obtain ⟨S3, e3, hf⟩ := elet_some hf
      obtain ⟨v4, e4, hf⟩ := elet_some hf
      exact ih hf
    unfold fr_load_b107 at hf
    obtain ⟨v2, e2, hf⟩ := elet_some hf
    by_cases c : v2 ≤ l
    · rw [if_pos c] at hf
      exact z_158 16384 hf
    · rw [if_neg c] at hf
      obtain ⟨v4, e4, hf⟩ := elet_some hf
      obtain ⟨v5, e5, hf⟩ := elet_some hf
      by_cases c2 : v5 ≤ l
      · rw [if_pos c2] at hf
        exact h149 hf
      · rw [if_neg c2] at hf
        obtain ⟨v7, e7, hf⟩ := elet_some hf
        obtain ⟨-, hf⟩ := oif_some hf
        obtain ⟨v9, e9, hf⟩ := elet_some hf
        exact h149 hf
end
set_option maxHeartbeats 1000000 in
theorem w3_fr_load_b168 {k158 : MS → Int32 → Option (Int32 × MS)} {r1 : Int32} {S1 : MS} (hk158 : ∀ (x0 : MS) (x1 : Int32), k158 x0 x1 = some (r1, S1) → FK [19, 20] [12, 17, 18, 23] x0 S1) : ∀ n : Nat, ∀ (S : MS) (y1 : Int32) (y2 : Int32), fr_load_b168 k158 n S y1 y2 = some (r1, S1) → FK [19, 20] [12, 17, 18, 23] S S1 := by
  intro n
  induction n with
  | zero =>
    intro S y1 y2 h
    have h : (none : Option (Int32 × MS)) = some (r1, S1) := h
    cases h
  | succ n ih =>
    intro S l2 l3 h
    have p0 : FK [19, 20] [12, 17, 18, 23] S S := FK.rf
    unfold fr_load_b168 at h
    obtain ⟨v2, ev2, h⟩ := elet_some h
    rcases oif_or h with ⟨-, h⟩ | ⟨-, h⟩
    · have h := h
      obtain ⟨v4, ev4, h⟩ := elet_some h
      exact p0.tr (hk158 _ _ h)
    · have h := h
      obtain ⟨v5, ev5, h⟩ := elet_some h
      obtain ⟨v6, ev6, h⟩ := elet_some h
      obtain ⟨r10, S7, eS7, h⟩ := obind2_some h
      have p1 : FK [19, 20] [12, 17, 18, 23] S S7 := p0.tr ((w_fr_centre eS7).w (by decide))
      obtain ⟨r14, S11, eS11, h⟩ := obind2_some h
      have p2 : FK [19, 20] [12, 17, 18, 23] S S11 := p1.tr ((w_fr_centre eS11).w (by decide))
      obtain ⟨r18, S15, eS15, h⟩ := obind2_some h
      have p3 : FK [19, 20] [12, 17, 18, 23] S S15 := p2.tr ((w_fr_delayFrom eS15).w (by decide))
      have h := (oif_some h).2
      obtain ⟨S20, eS20, h⟩ := elet_some h
      have p4 : FK [19, 20] [12, 17, 18, 23] S S20 := p3.tr (by rw [eS20]; exact fw_mf (by decide))
      obtain ⟨v21, ev21, h⟩ := elet_some h
      exact p4.tr (ih _ _ _ h)
set_option maxHeartbeats 1000000 in
theorem w3_fr_load_b158 {r1 : Int32} {S1 : MS} : ∀ n : Nat, ∀ (S : MS) (y1 : Int32), fr_load_b158 n S y1 = some (r1, S1) → FK [19, 20] [12, 17, 18, 23] S S1 := by
  intro n
  induction n with
  | zero =>
    intro S y1 h
    have h : (none : Option (Int32 × MS)) = some (r1, S1) := h
    cases h
  | succ n ih =>
    intro S l2 h
    have p0 : FK [19, 20] [12, 17, 18, 23] S S := FK.rf
    unfold fr_load_b158 at h
    obtain ⟨r5, S2, eS2, h⟩ := obind2_some h
    have p1 : FK [19, 20] [12, 17, 18, 23] S S2 := p0.tr ((w_fr_cellCount eS2).w (by decide))
    rcases oif_or h with ⟨-, h⟩ | ⟨-, h⟩
    · have h := h
      obtain ⟨S7, eS7, h⟩ := obind_some h
      have p2 : FK [19, 20] [12, 17, 18, 23] S S7 := p1.tr ((w_fr_records_12 eS7).w (by decide))
      obtain ⟨S10, eS10, h⟩ := elet_some h
      have p3 : FK [19, 20] [12, 17, 18, 23] S S10 := p2.tr (by rw [eS10]; exact fw_mi (by decide))
      obtain ⟨S11, eS11, h⟩ := elet_some h
      have p4 : FK [19, 20] [12, 17, 18, 23] S S11 := p3.tr (by rw [eS11]; exact fw_mf (by decide))
      obtain ⟨S12, eS12, h⟩ := elet_some h
      have p5 : FK [19, 20] [12, 17, 18, 23] S S12 := p4.tr (by rw [eS12]; exact fw_mf (by decide))
      obtain ⟨S13, eS13, h⟩ := elet_some h
      have p6 : FK [19, 20] [12, 17, 18, 23] S S13 := p5.tr (by rw [eS13]; exact fw_mi (by decide))
      obtain ⟨r17, S14, eS14, h⟩ := obind2_some h
      have p7 : FK [19, 20] [12, 17, 18, 23] S S14 := p6.tr ((w_fr_cellCount eS14).w (by decide))
      rw [← (osome2 h).2]
      exact p7
    · have h := h
      exact p1.tr (w3_fr_load_b168 ih _ _ _ _ h)
set_option maxHeartbeats 1000000 in
theorem w3_fr_load_b149 {k107 : MS → Int32 → Option (Int32 × MS)} {s0 : Int32} {s1 : Int32} {l2 : Int32} {S : MS} {r1 : Int32} {S1 : MS} (hk107 : ∀ (x0 : MS) (x1 : Int32), k107 x0 x1 = some (r1, S1) → FK [19, 20] [12, 17, 18, 23] x0 S1) (h : fr_load_b149 k107 S s0 s1 l2 = some (r1, S1)) : FK [19, 20] [12, 17, 18, 23] S S1 := by
  have p0 : FK [19, 20] [12, 17, 18, 23] S S := FK.rf
  unfold fr_load_b149 at h
  have h := (oif_some h).2
  obtain ⟨S3, eS3, h⟩ := elet_some h
  have p1 : FK [19, 20] [12, 17, 18, 23] S S3 := p0.tr (by rw [eS3]; exact fw_mf (by decide))
  obtain ⟨v4, ev4, h⟩ := elet_some h
  exact p1.tr (hk107 _ _ h)
set_option maxHeartbeats 1000000 in
theorem w3_fr_load_b107 {r1 : Int32} {S1 : MS} : ∀ n : Nat, ∀ (S : MS) (y1 : Int32), fr_load_b107 n S y1 = some (r1, S1) → FK [19, 20] [12, 17, 18, 23] S S1 := by
  intro n
  induction n with
  | zero =>
    intro S y1 h
    have h : (none : Option (Int32 × MS)) = some (r1, S1) := h
    cases h
  | succ n ih =>
    intro S l2 h
    have p0 : FK [19, 20] [12, 17, 18, 23] S S := FK.rf
    unfold fr_load_b107 at h
    obtain ⟨v2, ev2, h⟩ := elet_some h
    rcases oif_or h with ⟨-, h⟩ | ⟨-, h⟩
    · have h := h
      exact p0.tr (w3_fr_load_b158  _ _ _ h)
    · have h := h
      obtain ⟨v4, ev4, h⟩ := elet_some h
      obtain ⟨v5, ev5, h⟩ := elet_some h
      rcases oif_or h with ⟨-, h⟩ | ⟨-, h⟩
      · have h := h
        exact p0.tr (w3_fr_load_b149 ih h)
      · have h := h
        obtain ⟨v7, ev7, h⟩ := elet_some h
        have h := (oif_some h).2
        obtain ⟨v9, ev9, h⟩ := elet_some h
        exact p0.tr (w3_fr_load_b149 ih h)
