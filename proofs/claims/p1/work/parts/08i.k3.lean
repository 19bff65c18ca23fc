set_option maxHeartbeats 4000000 in
set_option maxRecDepth 100000 in
theorem f_add_0 (l : Launch) (hst : l.stackTraces = false) (D : va_G) (tys : List (ClassId × FieldType)) (ad : Nat → Nat) (N : Nat) (S : Nat → va_E) (cI cJ cZ cMic cSrc cSt cAI cAJ : ClassId) (hN : 1586 ≤ N) (ht0 : tys[0]? = some (cI, .int)) (ht2 : tys[2]? = some (cZ, .boolean)) (hS0 : S 0 = .inr (11, [.ref (ad 1), .ref (ad 6), .ref (ad 7), .ref (ad 22), .ref (ad 66), .ref (ad 154), .ref (ad 242), .ref (ad 336), .ref (ad 430), .ref (ad 431), .ref (ad 432), .ref (ad 433), .ref (ad 434), .ref (ad 477), .ref (ad 478), .ref (ad 656), .int 0, .int 0, .int 0])) (hS1 : S 1 = .inr (9, [.ref (ad 2), .int 0, .ref (ad 3), .ref (ad 4), .ref (ad 5), .int 0])) (hS3 : S 3 = .inl (cI, 1001, .inl (fun _ => 0))) (hS4 : S 4 = .inl (cI, 1001, .inl (fun _ => 0))) (hS5 : S 5 = .inl (cI, 1001, .inl (fun _ => 0))) (hS6 : S 6 = .inr (3, [.ref (ad 1), .int 0, .int 0, .int (-1)])) (hS656 : S 656 = .inr (6, [.int 0, .int 0, .int 0, .int 0, .ref (ad 657), .int 0, .ref (ad 658), .ref (ad 666), .int 0, .ref (ad 667), .ref (ad 668), .int 0, .int 0, .ref (ad 669), .int 0, .ref (ad 670), .int 0, .ref (ad 671)])) (hS658 : S 658 = .inr (1, [.int 0, .int 0, .int 0, .int 0, .int 0, .ref (ad 659), .ref (ad 660), .int 0, .ref (ad 665)])) : cCv l yX9_add (Cond.code yX9_add cX9_add 4 none :: wsA) 1 0 D tys ad N S [.ref (ad 1), .int 5, .int 0, .int 0] (fun u => u 0 = .inr (11, [.ref (ad 1), .ref (ad 6), .ref (ad 7), .ref (ad 22), .ref (ad 66), .ref (ad 154), .ref (ad 242), .ref (ad 336), .ref (ad 430), .ref (ad 431), .ref (ad 432), .ref (ad 433), .ref (ad 434), .ref (ad 477), .ref (ad 478), .ref (ad 656), .int 0, .int 0, .int 0]) ∧ u 1 = .inr (9, [.ref (ad 2), .int 0, .ref (ad 3), .ref (ad 4), .ref (ad 5), .int 1]) ∧ u 3 = .inl (cI, 1001, .inl (upd (fun _ => 0) 0 5)) ∧ u 4 = .inl (cI, 1001, .inl (upd (fun _ => 0) 0 0)) ∧ u 5 = .inl (cI, 1001, .inl (upd (fun _ => 0) 0 0)) ∧ u 6 = .inr (3, [.ref (ad 1), .int 0, .int 0, .int (-1)]) ∧ u 656 = .inr (6, [.int 0, .int 0, .int 0, .int 0, .ref (ad 657), .int 0, .ref (ad 658), .ref (ad 666), .int 0, .ref (ad 667), .ref (ad 668), .int 0, .int 0, .ref (ad 669), .int 0, .ref (ad 670), .int 0, .ref (ad 671)]) ∧ u 658 = .inr (1, [.int 0, .int 0, .int 0, .int 0, .int 0, .ref (ad 659), .ref (ad 660), .int 0, .ref (ad 665)])) := by
  intro sz
  refine Met.ofW (cc := cX9_add) (maxL := 4) (ret := none) (by decide) rfl ?_
  intro p e s m args below meth c s₁ B hml hv
  obtain ⟨rfl, hsz, hP, hK, hD0, hX⟩ := hv
  have hx := B.exec
  have hb := B.bytes
  have hr := B.returns
  have hts := atoms_spec (ws := (Cond.code yX9_add cX9_add 4 none :: wsA)) B.pre
  have hown : s.vm.findClass RX9 = some m.cls := findClass_of_methodNamed B.named
  have hlocks := B.notSynchronized
  subst hsz
  have hD := hD0.self (sz := s.heap.size)
  generalize hAe : va_A (cW ad N S) s.heap.size = A at hD hX ⊢
  have hA : ∀ q : Nat, s.heap.size ≤ q → A q := fun q h => by rw [← hAe]; exact Or.inr h
  have G : cG D ad N A s.heap s.heap [] S := ⟨hP, hD, va_S.rf⟩
  have E : cE p c cX9_add s m ([.ref (ad 1), .int 5, .int 0, .int 0] : List Value).toArray (Cond.code yX9_add cX9_add 4 none :: wsA) D RX9 tys := ⟨hx, hb, hts, hown, hK⟩
  have hl := lv_entry ([.ref (ad 1), .int 5, .int 0, .int 0]) (n := 4) (Nat.le_of_ble_eq_true rfl)
  rw [lg_entry_eq]
  generalize (lg_sl ([.ref (ad 1), .int 5, .int 0, .int 0]) ++ List.replicate (4 - (lg_sl ([.ref (ad 1), .int 5, .int 0, .int 0])).length) Slot.unset).toArray = ls at hl ⊢
  have hl : lv_has ls 4 [(0, .ref (ad 1)), (1, .int 5), (2, .int 0), (3, .int 0)] := hl
  refine lv_aload_n hx hb dX9_add_0 rfl (lv_at hl 0 rfl) ?_
  refine c_get E G 1 5 (Nat.lt_of_lt_of_le (by decide) hN) hS1 rfl (fun w h => .tail _ (iA_18 h)) (by decide) (.tail _ qA_187) rfl rfl dX9_add_1 ?_
  refine lv_aload_n hx hb dX9_add_4 rfl (lv_at hl 0 rfl) ?_
  refine c_get E G 1 2 (Nat.lt_of_lt_of_le (by decide) hN) hS1 rfl (fun w h => .tail _ (iA_18 h)) (by decide) (.tail _ qA_201) rfl rfl dX9_add_5 ?_
  refine va_alen hx hb hK G.1 3 0 (cW_e (Nat.lt_of_lt_of_le (by decide) hN) hS3) ht0 (v := 1001) (by decide) dX9_add_8 ?_
  refine lv_icmp_ge (tgt := 52) hx hb dX9_add_9 (by decide) (fun c1 => absurd c1 (by decide +kernel)) (fun c1 => ?_)
  refine lv_aload_n hx hb dX9_add_12 rfl (lv_at hl 0 rfl) ?_
  refine c_get E G 1 2 (Nat.lt_of_lt_of_le (by decide) hN) hS1 rfl (fun w h => .tail _ (iA_18 h)) (by decide) (.tail _ qA_201) rfl rfl dX9_add_13 ?_
  refine lv_aload_n hx hb dX9_add_16 rfl (lv_at hl 0 rfl) ?_
  refine c_get E G 1 5 (Nat.lt_of_lt_of_le (by decide) hN) hS1 rfl (fun w h => .tail _ (iA_18 h)) (by decide) (.tail _ qA_187) rfl rfl dX9_add_17 ?_
  refine lv_iload_n hx hb dX9_add_20 rfl (lv_at hl 1 rfl) ?_
  refine c_iast E G 3 0 (k := 0) (Nat.lt_of_lt_of_le (by decide) hN) hS3 ht0 rfl (by decide) (by decide) dX9_add_21 (fun H locs G => ?_)
  have G : cG D ad N A s.heap H locs (va_up S 3 (.inl (cI, 1001, .inl (upd (fun _ => 0) 0 5)))) := G
  have hS0 := (va_up_ne S (.inl (cI, 1001, .inl (upd (fun _ => 0) 0 5)) : va_E) (show 0 ≠ 3 by decide)).trans hS0
  have hS1 := (va_up_ne S (.inl (cI, 1001, .inl (upd (fun _ => 0) 0 5)) : va_E) (show 1 ≠ 3 by decide)).trans hS1
  have hS3 := va_up_self S 3 (.inl (cI, 1001, .inl (upd (fun _ => 0) 0 5)) : va_E)
  have hS4 := (va_up_ne S (.inl (cI, 1001, .inl (upd (fun _ => 0) 0 5)) : va_E) (show 4 ≠ 3 by decide)).trans hS4
  have hS5 := (va_up_ne S (.inl (cI, 1001, .inl (upd (fun _ => 0) 0 5)) : va_E) (show 5 ≠ 3 by decide)).trans hS5
  have hS6 := (va_up_ne S (.inl (cI, 1001, .inl (upd (fun _ => 0) 0 5)) : va_E) (show 6 ≠ 3 by decide)).trans hS6
  have hS656 := (va_up_ne S (.inl (cI, 1001, .inl (upd (fun _ => 0) 0 5)) : va_E) (show 656 ≠ 3 by decide)).trans hS656
  have hS658 := (va_up_ne S (.inl (cI, 1001, .inl (upd (fun _ => 0) 0 5)) : va_E) (show 658 ≠ 3 by decide)).trans hS658
  generalize va_up S 3 (.inl (cI, 1001, .inl (upd (fun _ => 0) 0 5))) = S2 at G hS0 hS1 hS3 hS4 hS5 hS6 hS656 hS658
  refine lv_aload_n hx hb dX9_add_22 rfl (lv_at hl 0 rfl) ?_
  refine c_get E G 1 3 (Nat.lt_of_lt_of_le (by decide) hN) hS1 rfl (fun w h => .tail _ (iA_18 h)) (by decide) (.tail _ qA_202) rfl rfl dX9_add_23 ?_
  refine lv_aload_n hx hb dX9_add_26 rfl (lv_at hl 0 rfl) ?_
  refine c_get E G 1 5 (Nat.lt_of_lt_of_le (by decide) hN) hS1 rfl (fun w h => .tail _ (iA_18 h)) (by decide) (.tail _ qA_187) rfl rfl dX9_add_27 ?_
  refine lv_iload_n hx hb dX9_add_30 rfl (lv_at hl 2 rfl) ?_
  refine c_iast E G 4 0 (k := 0) (Nat.lt_of_lt_of_le (by decide) hN) hS4 ht0 rfl (by decide) (by decide) dX9_add_31 (fun H locs G => ?_)
  have G : cG D ad N A s.heap H locs (va_up S2 4 (.inl (cI, 1001, .inl (upd (fun _ => 0) 0 0)))) := G
  have hS0 := (va_up_ne S2 (.inl (cI, 1001, .inl (upd (fun _ => 0) 0 0)) : va_E) (show 0 ≠ 4 by decide)).trans hS0
  have hS1 := (va_up_ne S2 (.inl (cI, 1001, .inl (upd (fun _ => 0) 0 0)) : va_E) (show 1 ≠ 4 by decide)).trans hS1
  have hS3 := (va_up_ne S2 (.inl (cI, 1001, .inl (upd (fun _ => 0) 0 0)) : va_E) (show 3 ≠ 4 by decide)).trans hS3
  have hS4 := va_up_self S2 4 (.inl (cI, 1001, .inl (upd (fun _ => 0) 0 0)) : va_E)
  have hS5 := (va_up_ne S2 (.inl (cI, 1001, .inl (upd (fun _ => 0) 0 0)) : va_E) (show 5 ≠ 4 by decide)).trans hS5
  have hS6 := (va_up_ne S2 (.inl (cI, 1001, .inl (upd (fun _ => 0) 0 0)) : va_E) (show 6 ≠ 4 by decide)).trans hS6
  have hS656 := (va_up_ne S2 (.inl (cI, 1001, .inl (upd (fun _ => 0) 0 0)) : va_E) (show 656 ≠ 4 by decide)).trans hS656
  have hS658 := (va_up_ne S2 (.inl (cI, 1001, .inl (upd (fun _ => 0) 0 0)) : va_E) (show 658 ≠ 4 by decide)).trans hS658
  generalize va_up S2 4 (.inl (cI, 1001, .inl (upd (fun _ => 0) 0 0))) = S3 at G hS0 hS1 hS3 hS4 hS5 hS6 hS656 hS658
  refine lv_aload_n hx hb dX9_add_32 rfl (lv_at hl 0 rfl) ?_
  refine c_get E G 1 4 (Nat.lt_of_lt_of_le (by decide) hN) hS1 rfl (fun w h => .tail _ (iA_18 h)) (by decide) (.tail _ qA_203) rfl rfl dX9_add_33 ?_
  refine lv_aload_n hx hb dX9_add_36 rfl (lv_at hl 0 rfl) ?_
  refine c_get E G 1 5 (Nat.lt_of_lt_of_le (by decide) hN) hS1 rfl (fun w h => .tail _ (iA_18 h)) (by decide) (.tail _ qA_187) rfl rfl dX9_add_37 ?_
  refine lv_iload_n hx hb dX9_add_40 rfl (lv_at hl 3 rfl) ?_
  refine c_iast E G 5 0 (k := 0) (Nat.lt_of_lt_of_le (by decide) hN) hS5 ht0 rfl (by decide) (by decide) dX9_add_41 (fun H locs G => ?_)
  have G : cG D ad N A s.heap H locs (va_up S3 5 (.inl (cI, 1001, .inl (upd (fun _ => 0) 0 0)))) := G
  have hS0 := (va_up_ne S3 (.inl (cI, 1001, .inl (upd (fun _ => 0) 0 0)) : va_E) (show 0 ≠ 5 by decide)).trans hS0
  have hS1 := (va_up_ne S3 (.inl (cI, 1001, .inl (upd (fun _ => 0) 0 0)) : va_E) (show 1 ≠ 5 by decide)).trans hS1
  have hS3 := (va_up_ne S3 (.inl (cI, 1001, .inl (upd (fun _ => 0) 0 0)) : va_E) (show 3 ≠ 5 by decide)).trans hS3
  have hS4 := (va_up_ne S3 (.inl (cI, 1001, .inl (upd (fun _ => 0) 0 0)) : va_E) (show 4 ≠ 5 by decide)).trans hS4
  have hS5 := va_up_self S3 5 (.inl (cI, 1001, .inl (upd (fun _ => 0) 0 0)) : va_E)
  have hS6 := (va_up_ne S3 (.inl (cI, 1001, .inl (upd (fun _ => 0) 0 0)) : va_E) (show 6 ≠ 5 by decide)).trans hS6
  have hS656 := (va_up_ne S3 (.inl (cI, 1001, .inl (upd (fun _ => 0) 0 0)) : va_E) (show 656 ≠ 5 by decide)).trans hS656
  have hS658 := (va_up_ne S3 (.inl (cI, 1001, .inl (upd (fun _ => 0) 0 0)) : va_E) (show 658 ≠ 5 by decide)).trans hS658
  generalize va_up S3 5 (.inl (cI, 1001, .inl (upd (fun _ => 0) 0 0))) = S4 at G hS0 hS1 hS3 hS4 hS5 hS6 hS656 hS658
  refine lv_aload_n hx hb dX9_add_42 rfl (lv_at hl 0 rfl) ?_
  refine lv_dup hx hb dX9_add_43 rfl ?_
  refine c_get E G 1 5 (Nat.lt_of_lt_of_le (by decide) hN) hS1 rfl (fun w h => .tail _ (iA_18 h)) (by decide) (.tail _ qA_187) rfl rfl dX9_add_44 ?_
  refine lv_iconst (v := 1) hx hb dX9_add_47 (by decide) ?_
  refine lv_iadd hx hb dX9_add_48 ?_
  refine lv_to (y := 1) (by decide +kernel) ?_
  refine c_put E G 1 5 (Nat.lt_of_lt_of_le (by decide) hN) hS1 rfl (fun w h => .tail _ (iA_18 h)) tyX9 tyX9_ok nmX9 (by decide) (.tail _ qA_187) ⟨rfl, rfl, rfl⟩ rfl rfl (Nat.le_of_ble_eq_true rfl) dX9_add_49 (fun H locs G => ?_)
  have G : cG D ad N A s.heap H locs (va_up S4 1 (.inr (9, [.ref (ad 2), .int 0, .ref (ad 3), .ref (ad 4), .ref (ad 5), .int 1]))) := G
  have hS0 := (va_up_ne S4 (.inr (9, [.ref (ad 2), .int 0, .ref (ad 3), .ref (ad 4), .ref (ad 5), .int 1]) : va_E) (show 0 ≠ 1 by decide)).trans hS0
  have hS1 := va_up_self S4 1 (.inr (9, [.ref (ad 2), .int 0, .ref (ad 3), .ref (ad 4), .ref (ad 5), .int 1]) : va_E)
  have hS3 := (va_up_ne S4 (.inr (9, [.ref (ad 2), .int 0, .ref (ad 3), .ref (ad 4), .ref (ad 5), .int 1]) : va_E) (show 3 ≠ 1 by decide)).trans hS3
  have hS4 := (va_up_ne S4 (.inr (9, [.ref (ad 2), .int 0, .ref (ad 3), .ref (ad 4), .ref (ad 5), .int 1]) : va_E) (show 4 ≠ 1 by decide)).trans hS4
  have hS5 := (va_up_ne S4 (.inr (9, [.ref (ad 2), .int 0, .ref (ad 3), .ref (ad 4), .ref (ad 5), .int 1]) : va_E) (show 5 ≠ 1 by decide)).trans hS5
  have hS6 := (va_up_ne S4 (.inr (9, [.ref (ad 2), .int 0, .ref (ad 3), .ref (ad 4), .ref (ad 5), .int 1]) : va_E) (show 6 ≠ 1 by decide)).trans hS6
  have hS656 := (va_up_ne S4 (.inr (9, [.ref (ad 2), .int 0, .ref (ad 3), .ref (ad 4), .ref (ad 5), .int 1]) : va_E) (show 656 ≠ 1 by decide)).trans hS656
  have hS658 := (va_up_ne S4 (.inr (9, [.ref (ad 2), .int 0, .ref (ad 3), .ref (ad 4), .ref (ad 5), .int 1]) : va_E) (show 658 ≠ 1 by decide)).trans hS658
  generalize va_up S4 1 (.inr (9, [.ref (ad 2), .int 0, .ref (ad 3), .ref (ad 4), .ref (ad 5), .int 1])) = S5 at G hS0 hS1 hS3 hS4 hS5 hS6 hS656 hS658
  exact W.vret hx hb hr (fun t ht hW => ⟨⟨S5, rfl, ⟨hS0, hS1, hS3, hS4, hS5, hS6, hS656, hS658⟩, ⟨by rw [ht]; exact G.1, va_K.moved hW.alike hK, G.2.1⟩⟩, G.2.2.F ht⟩) G.2.2.2.2 dX9_add_52
set_option maxHeartbeats 4000000 in
set_option maxRecDepth 100000 in
theorem f_cut_0 (l : Launch) (hst : l.stackTraces = false) (D : va_G) (tys : List (ClassId × FieldType)) (ad : Nat → Nat) (N : Nat) (S : Nat → va_E) (cI cJ cZ cMic cSrc cSt cAI cAJ : ClassId) (hN : 1586 ≤ N) (ht0 : tys[0]? = some (cI, .int)) (ht2 : tys[2]? = some (cZ, .boolean)) (hS0 : S 0 = .inr (11, [.ref (ad 1), .ref (ad 6), .ref (ad 7), .ref (ad 22), .ref (ad 66), .ref (ad 154), .ref (ad 242), .ref (ad 336), .ref (ad 430), .ref (ad 431), .ref (ad 432), .ref (ad 433), .ref (ad 434), .ref (ad 477), .ref (ad 478), .ref (ad 656), .int 0, .int 0, .int 0])) (hS1 : S 1 = .inr (9, [.ref (ad 2), .int 0, .ref (ad 3), .ref (ad 4), .ref (ad 5), .int 0])) (hS3 : S 3 = .inl (cI, 1001, .inl (fun _ => 0))) (hS4 : S 4 = .inl (cI, 1001, .inl (fun _ => 0))) (hS5 : S 5 = .inl (cI, 1001, .inl (fun _ => 0))) (hS6 : S 6 = .inr (3, [.ref (ad 1), .int 0, .int 0, .int (-1)])) (hS656 : S 656 = .inr (6, [.int 0, .int 0, .int 0, .int 0, .ref (ad 657), .int 0, .ref (ad 658), .ref (ad 666), .int 0, .ref (ad 667), .ref (ad 668), .int 0, .int 0, .ref (ad 669), .int 0, .ref (ad 670), .int 0, .ref (ad 671)])) (hS658 : S 658 = .inr (1, [.int 0, .int 0, .int 0, .int 0, .int 0, .ref (ad 659), .ref (ad 660), .int 0, .ref (ad 665)])) : cCv l yX9_cut (Cond.code yX9_cut cX9_cut 4 none :: wsA) 2 23 D tys ad N S [.ref (ad 1), .int 0] (fun u => u 0 = .inr (11, [.ref (ad 1), .ref (ad 6), .ref (ad 7), .ref (ad 22), .ref (ad 66), .ref (ad 154), .ref (ad 242), .ref (ad 336), .ref (ad 430), .ref (ad 431), .ref (ad 432), .ref (ad 433), .ref (ad 434), .ref (ad 477), .ref (ad 478), .ref (ad 656), .int 0, .int 0, .int 0]) ∧ u 1 = .inr (9, [.ref (ad 2), .int 0, .ref (ad 3), .ref (ad 4), .ref (ad 5), .int 1]) ∧ u 3 = .inl (cI, 1001, .inl (upd (fun _ => 0) 0 5)) ∧ u 4 = .inl (cI, 1001, .inl (upd (fun _ => 0) 0 0)) ∧ u 5 = .inl (cI, 1001, .inl (upd (fun _ => 0) 0 0)) ∧ u 6 = .inr (3, [.ref (ad 1), .int 0, .int 0, .int (-1)]) ∧ u 656 = .inr (6, [.int 0, .int 0, .int 0, .int 0, .ref (ad 657), .int 0, .ref (ad 658), .ref (ad 666), .int 0, .ref (ad 667), .ref (ad 668), .int 0, .int 0, .ref (ad 669), .int 0, .ref (ad 670), .int 0, .ref (ad 671)]) ∧ u 658 = .inr (1, [.int 0, .int 0, .int 0, .int 0, .int 0, .ref (ad 659), .ref (ad 660), .int 0, .ref (ad 665)])) := by
  intro sz
  refine Met.ofW (cc := cX9_cut) (maxL := 4) (ret := none) (by decide) rfl ?_
  intro p e s m args below meth c s₁ B hml hv
  obtain ⟨rfl, hsz, hP, hK, hD0, hX⟩ := hv
  have hx := B.exec
  have hb := B.bytes
  have hr := B.returns
  have hts := atoms_spec (ws := (Cond.code yX9_cut cX9_cut 4 none :: wsA)) B.pre
  have hown : s.vm.findClass RX9 = some m.cls := findClass_of_methodNamed B.named
  have hlocks := B.notSynchronized
  subst hsz
  have hD := hD0.self (sz := s.heap.size)
  generalize hAe : va_A (cW ad N S) s.heap.size = A at hD hX ⊢
  have hA : ∀ q : Nat, s.heap.size ≤ q → A q := fun q h => by rw [← hAe]; exact Or.inr h
  have G : cG D ad N A s.heap s.heap [] S := ⟨hP, hD, va_S.rf⟩
  have E : cE p c cX9_cut s m ([.ref (ad 1), .int 0] : List Value).toArray (Cond.code yX9_cut cX9_cut 4 none :: wsA) D RX9 tys := ⟨hx, hb, hts, hown, hK⟩
  have hl := lv_entry ([.ref (ad 1), .int 0]) (n := 4) (Nat.le_of_ble_eq_true rfl)
  rw [lg_entry_eq]
  generalize (lg_sl ([.ref (ad 1), .int 0]) ++ List.replicate (4 - (lg_sl ([.ref (ad 1), .int 0])).length) Slot.unset).toArray = ls at hl ⊢
  have hl : lv_has ls 4 [(0, .ref (ad 1)), (1, .int 0)] := hl
  refine lv_aload_n hx hb dX9_cut_0 rfl (lv_at hl 0 rfl) ?_
  refine lv_iconst (v := 0) hx hb dX9_cut_1 (by decide) ?_
  refine c_put E G 1 5 (Nat.lt_of_lt_of_le (by decide) hN) hS1 rfl (fun w h => .tail _ (iA_18 h)) tyX9 tyX9_ok nmX9 (by decide) (.tail _ qA_187) ⟨rfl, rfl, rfl⟩ rfl rfl (Nat.le_of_ble_eq_true rfl) dX9_cut_2 (fun H locs G => ?_)
  have G : cG D ad N A s.heap H locs (va_up S 1 (.inr (9, [.ref (ad 2), .int 0, .ref (ad 3), .ref (ad 4), .ref (ad 5), .int 0]))) := G
  have hS0 := (va_up_ne S (.inr (9, [.ref (ad 2), .int 0, .ref (ad 3), .ref (ad 4), .ref (ad 5), .int 0]) : va_E) (show 0 ≠ 1 by decide)).trans hS0
  have hS1 := va_up_self S 1 (.inr (9, [.ref (ad 2), .int 0, .ref (ad 3), .ref (ad 4), .ref (ad 5), .int 0]) : va_E)
  have hS3 := (va_up_ne S (.inr (9, [.ref (ad 2), .int 0, .ref (ad 3), .ref (ad 4), .ref (ad 5), .int 0]) : va_E) (show 3 ≠ 1 by decide)).trans hS3
  have hS4 := (va_up_ne S (.inr (9, [.ref (ad 2), .int 0, .ref (ad 3), .ref (ad 4), .ref (ad 5), .int 0]) : va_E) (show 4 ≠ 1 by decide)).trans hS4
  have hS5 := (va_up_ne S (.inr (9, [.ref (ad 2), .int 0, .ref (ad 3), .ref (ad 4), .ref (ad 5), .int 0]) : va_E) (show 5 ≠ 1 by decide)).trans hS5
  have hS6 := (va_up_ne S (.inr (9, [.ref (ad 2), .int 0, .ref (ad 3), .ref (ad 4), .ref (ad 5), .int 0]) : va_E) (show 6 ≠ 1 by decide)).trans hS6
  have hS656 := (va_up_ne S (.inr (9, [.ref (ad 2), .int 0, .ref (ad 3), .ref (ad 4), .ref (ad 5), .int 0]) : va_E) (show 656 ≠ 1 by decide)).trans hS656
  have hS658 := (va_up_ne S (.inr (9, [.ref (ad 2), .int 0, .ref (ad 3), .ref (ad 4), .ref (ad 5), .int 0]) : va_E) (show 658 ≠ 1 by decide)).trans hS658
  generalize va_up S 1 (.inr (9, [.ref (ad 2), .int 0, .ref (ad 3), .ref (ad 4), .ref (ad 5), .int 0])) = S1 at G hS0 hS1 hS3 hS4 hS5 hS6 hS656 hS658
  refine lv_iconst (v := 0) hx hb dX9_cut_5 (by decide) ?_
  refine lv_istore_n (lv' := [(2, .int 0), (0, .ref (ad 1)), (1, .int 0)]) hx hb dX9_cut_6 rfl hl (by decide) rfl (fun ls hl => ?_)
  refine lv_iconst (v := 0) hx hb dX9_cut_7 (by decide) ?_
  refine lv_istore_n (lv' := [(3, .int 0), (2, .int 0), (0, .ref (ad 1)), (1, .int 0)]) hx hb dX9_cut_8 rfl hl (by decide) rfl (fun ls hl => ?_)
  refine lv_iload_n hx hb dX9_cut_9 rfl (lv_at hl 0 rfl) ?_
  refine lv_iload_n hx hb dX9_cut_10 rfl (lv_at hl 3 rfl) ?_
  refine lv_icmp_ge (tgt := 32) hx hb dX9_cut_11 (by decide) (fun c2 => ?_) (fun c2 => absurd (by decide +kernel) c2)
  refine lv_aload_n hx hb dX9_cut_32 rfl (lv_at hl 2 rfl) ?_
  refine lv_iconst (v := 5) hx hb dX9_cut_33 (by decide) ?_
  refine lv_iload_n hx hb dX9_cut_34 rfl (lv_at hl 3 rfl) ?_
  refine lv_iload_n hx hb dX9_cut_35 rfl (lv_at hl 3 rfl) ?_
  refine c_cvv (As := [.int 5, .int 0, .int 0]) (rest := []) E G hA hX rfl hml (f_add_0 l hst D tys ad N S1 cI cJ cZ cMic cSrc cSt cAI cAJ hN ht0 ht2 hS0 hS1 hS3 hS4 hS5 hS6 hS656 hS658) (cwV 3 hts (gaV qA_197 qA_198 qA_199 qA_185 qA_200) rfl rfl rfl (by decide +kernel) ⟨Nat.le_of_ble_eq_true rfl, Nat.le_of_ble_eq_true rfl⟩) (Nat.lt_of_lt_of_le (by decide) hN) hS1 rfl rfl hl.1 rfl (lv_room (Nat.le_of_ble_eq_true rfl)) dX9_cut_36 ⟨Nat.le_of_ble_eq_true rfl, Nat.le_of_ble_eq_true rfl⟩ (fun S3 H locs hq G => ?_)
  obtain ⟨hS0, hS1, hS3, hS4, hS5, hS6, hS656, hS658⟩ := hq
  exact W.vret hx hb hr (fun t ht hW => ⟨⟨S3, rfl, ⟨hS0, hS1, hS3, hS4, hS5, hS6, hS656, hS658⟩, ⟨by rw [ht]; exact G.1, va_K.moved hW.alike hK, G.2.1⟩⟩, G.2.2.F ht⟩) G.2.2.2.2 dX9_cut_39
set_option maxHeartbeats 4000000 in
set_option maxRecDepth 100000 in
theorem f_gclear (l : Launch) (hst : l.stackTraces = false) (D : va_G) (tys : List (ClassId × FieldType)) (ad : Nat → Nat) (N : Nat) (S : Nat → va_E) (cI cJ cZ cMic cSrc cSt cAI cAJ : ClassId) (hN : 1586 ≤ N) (ht0 : tys[0]? = some (cI, .int)) (ht2 : tys[2]? = some (cZ, .boolean)) (hS0 : S 0 = .inr (11, [.ref (ad 1), .ref (ad 6), .ref (ad 7), .ref (ad 22), .ref (ad 66), .ref (ad 154), .ref (ad 242), .ref (ad 336), .ref (ad 430), .ref (ad 431), .ref (ad 432), .ref (ad 433), .ref (ad 434), .ref (ad 477), .ref (ad 478), .ref (ad 656), .int 0, .int 0, .int 0])) (hS1 : S 1 = .inr (9, [.ref (ad 2), .int 0, .ref (ad 3), .ref (ad 4), .ref (ad 5), .int 1])) (hS3 : S 3 = .inl (cI, 1001, .inl (upd (fun _ => 0) 0 5))) (hS4 : S 4 = .inl (cI, 1001, .inl (upd (fun _ => 0) 0 0))) (hS5 : S 5 = .inl (cI, 1001, .inl (upd (fun _ => 0) 0 0))) (hS6 : S 6 = .inr (3, [.ref (ad 1), .int 0, .int 0, .int (-1)])) (hS656 : S 656 = .inr (6, [.int 0, .int 0, .int 0, .int 0, .ref (ad 657), .int 0, .ref (ad 658), .ref (ad 666), .int 0, .ref (ad 667), .ref (ad 668), .int 0, .int 0, .ref (ad 669), .int 0, .ref (ad 670), .int 0, .ref (ad 671)])) (hS658 : S 658 = .inr (1, [.int 0, .int 0, .int 0, .int 0, .int 0, .ref (ad 659), .ref (ad 660), .int 0, .ref (ad 665)])) : cCv l yX1_clear (Cond.code yX1_clear cX1_clear 1 none :: wsA) 1 0 D tys ad N S [.ref (ad 658)] (fun u => u 0 = .inr (11, [.ref (ad 1), .ref (ad 6), .ref (ad 7), .ref (ad 22), .ref (ad 66), .ref (ad 154), .ref (ad 242), .ref (ad 336), .ref (ad 430), .ref (ad 431), .ref (ad 432), .ref (ad 433), .ref (ad 434), .ref (ad 477), .ref (ad 478), .ref (ad 656), .int 0, .int 0, .int 0]) ∧ u 1 = .inr (9, [.ref (ad 2), .int 0, .ref (ad 3), .ref (ad 4), .ref (ad 5), .int 1]) ∧ u 3 = .inl (cI, 1001, .inl (upd (fun _ => 0) 0 5)) ∧ u 4 = .inl (cI, 1001, .inl (upd (fun _ => 0) 0 0)) ∧ u 5 = .inl (cI, 1001, .inl (upd (fun _ => 0) 0 0)) ∧ u 6 = .inr (3, [.ref (ad 1), .int 0, .int 0, .int (-1)]) ∧ u 656 = .inr (6, [.int 0, .int 0, .int 0, .int 0, .ref (ad 657), .int 0, .ref (ad 658), .ref (ad 666), .int 0, .ref (ad 667), .ref (ad 668), .int 0, .int 0, .ref (ad 669), .int 0, .ref (ad 670), .int 0, .ref (ad 671)]) ∧ u 658 = .inr (1, [.int 0, .int 0, .int 0, .int 0, .int 0, .ref (ad 659), .ref (ad 660), .int 0, .ref (ad 665)])) := by
  intro sz
  refine Met.ofW (cc := cX1_clear) (maxL := 1) (ret := none) (by decide) rfl ?_
  intro p e s m args below meth c s₁ B hml hv
  obtain ⟨rfl, hsz, hP, hK, hD0, hX⟩ := hv
  have hx := B.exec
  have hb := B.bytes
  have hr := B.returns
  have hts := atoms_spec (ws := (Cond.code yX1_clear cX1_clear 1 none :: wsA)) B.pre
  have hown : s.vm.findClass RX1 = some m.cls := findClass_of_methodNamed B.named
  have hlocks := B.notSynchronized
  subst hsz
  have hD := hD0.self (sz := s.heap.size)
  generalize hAe : va_A (cW ad N S) s.heap.size = A at hD hX ⊢
  have hA : ∀ q : Nat, s.heap.size ≤ q → A q := fun q h => by rw [← hAe]; exact Or.inr h
  have G : cG D ad N A s.heap s.heap [] S := ⟨hP, hD, va_S.rf⟩
  have E : cE p c cX1_clear s m ([.ref (ad 658)] : List Value).toArray (Cond.code yX1_clear cX1_clear 1 none :: wsA) D RX1 tys := ⟨hx, hb, hts, hown, hK⟩
  have hl := lv_entry ([.ref (ad 658)]) (n := 1) (Nat.le_of_ble_eq_true rfl)
  rw [lg_entry_eq]
  generalize (lg_sl ([.ref (ad 658)]) ++ List.replicate (1 - (lg_sl ([.ref (ad 658)])).length) Slot.unset).toArray = ls at hl ⊢
  have hl : lv_has ls 1 [(0, .ref (ad 658))] := hl
  refine lv_aload_n hx hb dX1_clear_0 rfl (lv_at hl 0 rfl) ?_
  refine lv_iconst (v := 0) hx hb dX1_clear_1 (by decide) ?_
  refine c_put E G 658 3 (Nat.lt_of_lt_of_le (by decide) hN) hS658 rfl (fun w h => .tail _ (iA_15 h)) tyX1 tyX1_ok nmX1 (by decide) (.tail _ qA_39) ⟨rfl, rfl, rfl⟩ rfl rfl (Nat.le_of_ble_eq_true rfl) dX1_clear_2 (fun H locs G => ?_)
  have G : cG D ad N A s.heap H locs (va_up S 658 (.inr (1, [.int 0, .int 0, .int 0, .int 0, .int 0, .ref (ad 659), .ref (ad 660), .int 0, .ref (ad 665)]))) := G
  have hS0 := (va_up_ne S (.inr (1, [.int 0, .int 0, .int 0, .int 0, .int 0, .ref (ad 659), .ref (ad 660), .int 0, .ref (ad 665)]) : va_E) (show 0 ≠ 658 by decide)).trans hS0
  have hS1 := (va_up_ne S (.inr (1, [.int 0, .int 0, .int 0, .int 0, .int 0, .ref (ad 659), .ref (ad 660), .int 0, .ref (ad 665)]) : va_E) (show 1 ≠ 658 by decide)).trans hS1
  have hS3 := (va_up_ne S (.inr (1, [.int 0, .int 0, .int 0, .int 0, .int 0, .ref (ad 659), .ref (ad 660), .int 0, .ref (ad 665)]) : va_E) (show 3 ≠ 658 by decide)).trans hS3
  have hS4 := (va_up_ne S (.inr (1, [.int 0, .int 0, .int 0, .int 0, .int 0, .ref (ad 659), .ref (ad 660), .int 0, .ref (ad 665)]) : va_E) (show 4 ≠ 658 by decide)).trans hS4
  have hS5 := (va_up_ne S (.inr (1, [.int 0, .int 0, .int 0, .int 0, .int 0, .ref (ad 659), .ref (ad 660), .int 0, .ref (ad 665)]) : va_E) (show 5 ≠ 658 by decide)).trans hS5
  have hS6 := (va_up_ne S (.inr (1, [.int 0, .int 0, .int 0, .int 0, .int 0, .ref (ad 659), .ref (ad 660), .int 0, .ref (ad 665)]) : va_E) (show 6 ≠ 658 by decide)).trans hS6
  have hS656 := (va_up_ne S (.inr (1, [.int 0, .int 0, .int 0, .int 0, .int 0, .ref (ad 659), .ref (ad 660), .int 0, .ref (ad 665)]) : va_E) (show 656 ≠ 658 by decide)).trans hS656
  have hS658 := va_up_self S 658 (.inr (1, [.int 0, .int 0, .int 0, .int 0, .int 0, .ref (ad 659), .ref (ad 660), .int 0, .ref (ad 665)]) : va_E)
  generalize va_up S 658 (.inr (1, [.int 0, .int 0, .int 0, .int 0, .int 0, .ref (ad 659), .ref (ad 660), .int 0, .ref (ad 665)])) = S1 at G hS0 hS1 hS3 hS4 hS5 hS6 hS656 hS658
  refine lv_aload_n hx hb dX1_clear_5 rfl (lv_at hl 0 rfl) ?_
  refine lv_iconst (v := 0) hx hb dX1_clear_6 (by decide) ?_
  refine c_put E G 658 4 (Nat.lt_of_lt_of_le (by decide) hN) hS658 rfl (fun w h => .tail _ (iA_15 h)) tyX1 tyX1_ok nmX1 (by decide) (.tail _ qA_40) ⟨rfl, rfl, rfl⟩ rfl rfl (Nat.le_of_ble_eq_true rfl) dX1_clear_7 (fun H locs G => ?_)
  have G : cG D ad N A s.heap H locs (va_up S1 658 (.inr (1, [.int 0, .int 0, .int 0, .int 0, .int 0, .ref (ad 659), .ref (ad 660), .int 0, .ref (ad 665)]))) := G
  have hS0 := (va_up_ne S1 (.inr (1, [.int 0, .int 0, .int 0, .int 0, .int 0, .ref (ad 659), .ref (ad 660), .int 0, .ref (ad 665)]) : va_E) (show 0 ≠ 658 by decide)).trans hS0
  have hS1 := (va_up_ne S1 (.inr (1, [.int 0, .int 0, .int 0, .int 0, .int 0, .ref (ad 659), .ref (ad 660), .int 0, .ref (ad 665)]) : va_E) (show 1 ≠ 658 by decide)).trans hS1
  have hS3 := (va_up_ne S1 (.inr (1, [.int 0, .int 0, .int 0, .int 0, .int 0, .ref (ad 659), .ref (ad 660), .int 0, .ref (ad 665)]) : va_E) (show 3 ≠ 658 by decide)).trans hS3
  have hS4 := (va_up_ne S1 (.inr (1, [.int 0, .int 0, .int 0, .int 0, .int 0, .ref (ad 659), .ref (ad 660), .int 0, .ref (ad 665)]) : va_E) (show 4 ≠ 658 by decide)).trans hS4
  have hS5 := (va_up_ne S1 (.inr (1, [.int 0, .int 0, .int 0, .int 0, .int 0, .ref (ad 659), .ref (ad 660), .int 0, .ref (ad 665)]) : va_E) (show 5 ≠ 658 by decide)).trans hS5
  have hS6 := (va_up_ne S1 (.inr (1, [.int 0, .int 0, .int 0, .int 0, .int 0, .ref (ad 659), .ref (ad 660), .int 0, .ref (ad 665)]) : va_E) (show 6 ≠ 658 by decide)).trans hS6
  have hS656 := (va_up_ne S1 (.inr (1, [.int 0, .int 0, .int 0, .int 0, .int 0, .ref (ad 659), .ref (ad 660), .int 0, .ref (ad 665)]) : va_E) (show 656 ≠ 658 by decide)).trans hS656
  have hS658 := va_up_self S1 658 (.inr (1, [.int 0, .int 0, .int 0, .int 0, .int 0, .ref (ad 659), .ref (ad 660), .int 0, .ref (ad 665)]) : va_E)
  generalize va_up S1 658 (.inr (1, [.int 0, .int 0, .int 0, .int 0, .int 0, .ref (ad 659), .ref (ad 660), .int 0, .ref (ad 665)])) = S2 at G hS0 hS1 hS3 hS4 hS5 hS6 hS656 hS658
  refine lv_aload_n hx hb dX1_clear_10 rfl (lv_at hl 0 rfl) ?_
  refine lv_iconst (v := 0) hx hb dX1_clear_11 (by decide) ?_
  refine c_put E G 658 7 (Nat.lt_of_lt_of_le (by decide) hN) hS658 rfl (fun w h => .tail _ (iA_15 h)) tyX1 tyX1_ok nmX1 (by decide) (.tail _ qA_162) ⟨rfl, rfl, rfl⟩ rfl rfl (Nat.le_of_ble_eq_true rfl) dX1_clear_12 (fun H locs G => ?_)
  have G : cG D ad N A s.heap H locs (va_up S2 658 (.inr (1, [.int 0, .int 0, .int 0, .int 0, .int 0, .ref (ad 659), .ref (ad 660), .int 0, .ref (ad 665)]))) := G
  have hS0 := (va_up_ne S2 (.inr (1, [.int 0, .int 0, .int 0, .int 0, .int 0, .ref (ad 659), .ref (ad 660), .int 0, .ref (ad 665)]) : va_E) (show 0 ≠ 658 by decide)).trans hS0
  have hS1 := (va_up_ne S2 (.inr (1, [.int 0, .int 0, .int 0, .int 0, .int 0, .ref (ad 659), .ref (ad 660), .int 0, .ref (ad 665)]) : va_E) (show 1 ≠ 658 by decide)).trans hS1
  have hS3 := (va_up_ne S2 (.inr (1, [.int 0, .int 0, .int 0, .int 0, .int 0, .ref (ad 659), .ref (ad 660), .int 0, .ref (ad 665)]) : va_E) (show 3 ≠ 658 by decide)).trans hS3
  have hS4 := (va_up_ne S2 (.inr (1, [.int 0, .int 0, .int 0, .int 0, .int 0, .ref (ad 659), .ref (ad 660), .int 0, .ref (ad 665)]) : va_E) (show 4 ≠ 658 by decide)).trans hS4
  have hS5 := (va_up_ne S2 (.inr (1, [.int 0, .int 0, .int 0, .int 0, .int 0, .ref (ad 659), .ref (ad 660), .int 0, .ref (ad 665)]) : va_E) (show 5 ≠ 658 by decide)).trans hS5
  have hS6 := (va_up_ne S2 (.inr (1, [.int 0, .int 0, .int 0, .int 0, .int 0, .ref (ad 659), .ref (ad 660), .int 0, .ref (ad 665)]) : va_E) (show 6 ≠ 658 by decide)).trans hS6
  have hS656 := (va_up_ne S2 (.inr (1, [.int 0, .int 0, .int 0, .int 0, .int 0, .ref (ad 659), .ref (ad 660), .int 0, .ref (ad 665)]) : va_E) (show 656 ≠ 658 by decide)).trans hS656
  have hS658 := va_up_self S2 658 (.inr (1, [.int 0, .int 0, .int 0, .int 0, .int 0, .ref (ad 659), .ref (ad 660), .int 0, .ref (ad 665)]) : va_E)
  generalize va_up S2 658 (.inr (1, [.int 0, .int 0, .int 0, .int 0, .int 0, .ref (ad 659), .ref (ad 660), .int 0, .ref (ad 665)])) = S3 at G hS0 hS1 hS3 hS4 hS5 hS6 hS656 hS658
  exact W.vret hx hb hr (fun t ht hW => ⟨⟨S3, rfl, ⟨hS0, hS1, hS3, hS4, hS5, hS6, hS656, hS658⟩, ⟨by rw [ht]; exact G.1, va_K.moved hW.alike hK, G.2.1⟩⟩, G.2.2.F ht⟩) G.2.2.2.2 dX1_clear_15
set_option maxHeartbeats 4000000 in
set_option maxRecDepth 100000 in
theorem f_sclear (l : Launch) (hst : l.stackTraces = false) (D : va_G) (tys : List (ClassId × FieldType)) (ad : Nat → Nat) (N : Nat) (S : Nat → va_E) (cI cJ cZ cMic cSrc cSt cAI cAJ : ClassId) (hN : 1586 ≤ N) (ht0 : tys[0]? = some (cI, .int)) (ht2 : tys[2]? = some (cZ, .boolean)) (hS0 : S 0 = .inr (11, [.ref (ad 1), .ref (ad 6), .ref (ad 7), .ref (ad 22), .ref (ad 66), .ref (ad 154), .ref (ad 242), .ref (ad 336), .ref (ad 430), .ref (ad 431), .ref (ad 432), .ref (ad 433), .ref (ad 434), .ref (ad 477), .ref (ad 478), .ref (ad 656), .int 0, .int 0, .int 0])) (hS1 : S 1 = .inr (9, [.ref (ad 2), .int 0, .ref (ad 3), .ref (ad 4), .ref (ad 5), .int 1])) (hS3 : S 3 = .inl (cI, 1001, .inl (upd (fun _ => 0) 0 5))) (hS4 : S 4 = .inl (cI, 1001, .inl (upd (fun _ => 0) 0 0))) (hS5 : S 5 = .inl (cI, 1001, .inl (upd (fun _ => 0) 0 0))) (hS6 : S 6 = .inr (3, [.ref (ad 1), .int 0, .int 0, .int (-1)])) (hS656 : S 656 = .inr (6, [.int 0, .int 0, .int 0, .int 0, .ref (ad 657), .int 0, .ref (ad 658), .ref (ad 666), .int 0, .ref (ad 667), .ref (ad 668), .int 0, .int 0, .ref (ad 669), .int 0, .ref (ad 670), .int 0, .ref (ad 671)])) (hS658 : S 658 = .inr (1, [.int 0, .int 0, .int 0, .int 0, .int 0, .ref (ad 659), .ref (ad 660), .int 0, .ref (ad 665)])) : cCv l yX6_clear (Cond.code yX6_clear cX6_clear 1 none :: wsA) 2 20 D tys ad N S [.ref (ad 656)] (fun u => u 0 = .inr (11, [.ref (ad 1), .ref (ad 6), .ref (ad 7), .ref (ad 22), .ref (ad 66), .ref (ad 154), .ref (ad 242), .ref (ad 336), .ref (ad 430), .ref (ad 431), .ref (ad 432), .ref (ad 433), .ref (ad 434), .ref (ad 477), .ref (ad 478), .ref (ad 656), .int 0, .int 0, .int 0]) ∧ u 1 = .inr (9, [.ref (ad 2), .int 0, .ref (ad 3), .ref (ad 4), .ref (ad 5), .int 1]) ∧ u 3 = .inl (cI, 1001, .inl (upd (fun _ => 0) 0 5)) ∧ u 4 = .inl (cI, 1001, .inl (upd (fun _ => 0) 0 0)) ∧ u 5 = .inl (cI, 1001, .inl (upd (fun _ => 0) 0 0)) ∧ u 6 = .inr (3, [.ref (ad 1), .int 0, .int 0, .int (-1)]) ∧ u 656 = .inr (6, [.int 0, .int 0, .int 0, .int 0, .ref (ad 657), .int 0, .ref (ad 658), .ref (ad 666), .int 0, .ref (ad 667), .ref (ad 668), .int 0, .int 0, .ref (ad 669), .int 0, .ref (ad 670), .int 0, .ref (ad 671)]) ∧ u 658 = .inr (1, [.int 0, .int 0, .int 0, .int 0, .int 0, .ref (ad 659), .ref (ad 660), .int 0, .ref (ad 665)])) := by
  intro sz
  refine Met.ofW (cc := cX6_clear) (maxL := 1) (ret := none) (by decide) rfl ?_
  intro p e s m args below meth c s₁ B hml hv
  obtain ⟨rfl, hsz, hP, hK, hD0, hX⟩ := hv
  have hx := B.exec
  have hb := B.bytes
  have hr := B.returns
  have hts := atoms_spec (ws := (Cond.code yX6_clear cX6_clear 1 none :: wsA)) B.pre
  have hown : s.vm.findClass RX6 = some m.cls := findClass_of_methodNamed B.named
  have hlocks := B.notSynchronized
  subst hsz
  have hD := hD0.self (sz := s.heap.size)
  generalize hAe : va_A (cW ad N S) s.heap.size = A at hD hX ⊢
  have hA : ∀ q : Nat, s.heap.size ≤ q → A q := fun q h => by rw [← hAe]; exact Or.inr h
  have G : cG D ad N A s.heap s.heap [] S := ⟨hP, hD, va_S.rf⟩
  have E : cE p c cX6_clear s m ([.ref (ad 656)] : List Value).toArray (Cond.code yX6_clear cX6_clear 1 none :: wsA) D RX6 tys := ⟨hx, hb, hts, hown, hK⟩
  have hl := lv_entry ([.ref (ad 656)]) (n := 1) (Nat.le_of_ble_eq_true rfl)
  rw [lg_entry_eq]
  generalize (lg_sl ([.ref (ad 656)]) ++ List.replicate (1 - (lg_sl ([.ref (ad 656)])).length) Slot.unset).toArray = ls at hl ⊢
  have hl : lv_has ls 1 [(0, .ref (ad 656))] := hl
  refine lv_aload_n hx hb dX6_clear_0 rfl (lv_at hl 0 rfl) ?_
  refine c_get E G 656 6 (Nat.lt_of_lt_of_le (by decide) hN) hS656 rfl (fun w h => .tail _ (iA_14 h)) (by decide) (.tail _ qA_209) rfl rfl dX6_clear_1 ?_
  refine c_cvv (As := []) (rest := []) E G hA hX rfl hml (f_gclear l hst D tys ad N S cI cJ cZ cMic cSrc cSt cAI cAJ hN ht0 ht2 hS0 hS1 hS3 hS4 hS5 hS6 hS656 hS658) (cwV 0 hts (gaV qA_216 qA_217 qA_218 qA_37 qA_161) rfl rfl rfl (by decide +kernel) ⟨Nat.le_of_ble_eq_true rfl, Nat.le_of_ble_eq_true rfl⟩) (Nat.lt_of_lt_of_le (by decide) hN) hS658 rfl rfl hl.1 rfl (lv_room (Nat.le_of_ble_eq_true rfl)) dX6_clear_4 ⟨Nat.le_of_ble_eq_true rfl, Nat.le_of_ble_eq_true rfl⟩ (fun S1 H locs hq G => ?_)
  obtain ⟨hS0, hS1, hS3, hS4, hS5, hS6, hS656, hS658⟩ := hq
  refine lv_aload_n hx hb dX6_clear_7 rfl (lv_at hl 0 rfl) ?_
  refine lv_iconst (v := 0) hx hb dX6_clear_8 (by decide) ?_
  refine c_put E G 656 5 (Nat.lt_of_lt_of_le (by decide) hN) hS656 rfl (fun w h => .tail _ (iA_14 h)) tyX6 tyX6_ok nmX6 (by decide) (.tail _ qA_210) ⟨rfl, rfl, rfl⟩ rfl rfl (Nat.le_of_ble_eq_true rfl) dX6_clear_9 (fun H locs G => ?_)
  have G : cG D ad N A s.heap H locs (va_up S1 656 (.inr (6, [.int 0, .int 0, .int 0, .int 0, .ref (ad 657), .int 0, .ref (ad 658), .ref (ad 666), .int 0, .ref (ad 667), .ref (ad 668), .int 0, .int 0, .ref (ad 669), .int 0, .ref (ad 670), .int 0, .ref (ad 671)]))) := G
  have hS0 := (va_up_ne S1 (.inr (6, [.int 0, .int 0, .int 0, .int 0, .ref (ad 657), .int 0, .ref (ad 658), .ref (ad 666), .int 0, .ref (ad 667), .ref (ad 668), .int 0, .int 0, .ref (ad 669), .int 0, .ref (ad 670), .int 0, .ref (ad 671)]) : va_E) (show 0 ≠ 656 by decide)).trans hS0
  have hS1 := (va_up_ne S1 (.inr (6, [.int 0, .int 0, .int 0, .int 0, .ref (ad 657), .int 0, .ref (ad 658), .ref (ad 666), .int 0, .ref (ad 667), .ref (ad 668), .int 0, .int 0, .ref (ad 669), .int 0, .ref (ad 670), .int 0, .ref (ad 671)]) : va_E) (show 1 ≠ 656 by decide)).trans hS1
  have hS3 := (va_up_ne S1 (.inr (6, [.int 0, .int 0, .int 0, .int 0, .ref (ad 657), .int 0, .ref (ad 658), .ref (ad 666), .int 0, .ref (ad 667), .ref (ad 668), .int 0, .int 0, .ref (ad 669), .int 0, .ref (ad 670), .int 0, .ref (ad 671)]) : va_E) (show 3 ≠ 656 by decide)).trans hS3
  have hS4 := (va_up_ne S1 (.inr (6, [.int 0, .int 0, .int 0, .int 0, .ref (ad 657), .int 0, .ref (ad 658), .ref (ad 666), .int 0, .ref (ad 667), .ref (ad 668), .int 0, .int 0, .ref (ad 669), .int 0, .ref (ad 670), .int 0, .ref (ad 671)]) : va_E) (show 4 ≠ 656 by decide)).trans hS4
  have hS5 := (va_up_ne S1 (.inr (6, [.int 0, .int 0, .int 0, .int 0, .ref (ad 657), .int 0, .ref (ad 658), .ref (ad 666), .int 0, .ref (ad 667), .ref (ad 668), .int 0, .int 0, .ref (ad 669), .int 0, .ref (ad 670), .int 0, .ref (ad 671)]) : va_E) (show 5 ≠ 656 by decide)).trans hS5
  have hS6 := (va_up_ne S1 (.inr (6, [.int 0, .int 0, .int 0, .int 0, .ref (ad 657), .int 0, .ref (ad 658), .ref (ad 666), .int 0, .ref (ad 667), .ref (ad 668), .int 0, .int 0, .ref (ad 669), .int 0, .ref (ad 670), .int 0, .ref (ad 671)]) : va_E) (show 6 ≠ 656 by decide)).trans hS6
  have hS656 := va_up_self S1 656 (.inr (6, [.int 0, .int 0, .int 0, .int 0, .ref (ad 657), .int 0, .ref (ad 658), .ref (ad 666), .int 0, .ref (ad 667), .ref (ad 668), .int 0, .int 0, .ref (ad 669), .int 0, .ref (ad 670), .int 0, .ref (ad 671)]) : va_E)
  have hS658 := (va_up_ne S1 (.inr (6, [.int 0, .int 0, .int 0, .int 0, .ref (ad 657), .int 0, .ref (ad 658), .ref (ad 666), .int 0, .ref (ad 667), .ref (ad 668), .int 0, .int 0, .ref (ad 669), .int 0, .ref (ad 670), .int 0, .ref (ad 671)]) : va_E) (show 658 ≠ 656 by decide)).trans hS658
  generalize va_up S1 656 (.inr (6, [.int 0, .int 0, .int 0, .int 0, .ref (ad 657), .int 0, .ref (ad 658), .ref (ad 666), .int 0, .ref (ad 667), .ref (ad 668), .int 0, .int 0, .ref (ad 669), .int 0, .ref (ad 670), .int 0, .ref (ad 671)])) = S3 at G hS0 hS1 hS3 hS4 hS5 hS6 hS656 hS658
  refine lv_aload_n hx hb dX6_clear_12 rfl (lv_at hl 0 rfl) ?_
  refine lv_iconst (v := 0) hx hb dX6_clear_13 (by decide) ?_
  refine c_put E G 656 8 (Nat.lt_of_lt_of_le (by decide) hN) hS656 rfl (fun w h => .tail _ (iA_14 h)) tyX6 tyX6_ok nmX6 (by decide) (.tail _ qA_211) ⟨rfl, rfl, rfl⟩ rfl rfl (Nat.le_of_ble_eq_true rfl) dX6_clear_14 (fun H locs G => ?_)
  have G : cG D ad N A s.heap H locs (va_up S3 656 (.inr (6, [.int 0, .int 0, .int 0, .int 0, .ref (ad 657), .int 0, .ref (ad 658), .ref (ad 666), .int 0, .ref (ad 667), .ref (ad 668), .int 0, .int 0, .ref (ad 669), .int 0, .ref (ad 670), .int 0, .ref (ad 671)]))) := G
  have hS0 := (va_up_ne S3 (.inr (6, [.int 0, .int 0, .int 0, .int 0, .ref (ad 657), .int 0, .ref (ad 658), .ref (ad 666), .int 0, .ref (ad 667), .ref (ad 668), .int 0, .int 0, .ref (ad 669), .int 0, .ref (ad 670), .int 0, .ref (ad 671)]) : va_E) (show 0 ≠ 656 by decide)).trans hS0
  have hS1 := (va_up_ne S3 (.inr (6, [.int 0, .int 0, .int 0, .int 0, .ref (ad 657), .int 0, .ref (ad 658), .ref (ad 666), .int 0, .ref (ad 667), .ref (ad 668), .int 0, .int 0, .ref (ad 669), .int 0, .ref (ad 670), .int 0, .ref (ad 671)]) : va_E) (show 1 ≠ 656 by decide)).trans hS1
  have hS3 := (va_up_ne S3 (.inr (6, [.int 0, .int 0, .int 0, .int 0, .ref (ad 657), .int 0, .ref (ad 658), .ref (ad 666), .int 0, .ref (ad 667), .ref (ad 668), .int 0, .int 0, .ref (ad 669), .int 0, .ref (ad 670), .int 0, .ref (ad 671)]) : va_E) (show 3 ≠ 656 by decide)).trans hS3
  have hS4 := (va_up_ne S3 (.inr (6, [.int 0, .int 0, .int 0, .int 0, .ref (ad 657), .int 0, .ref (ad 658), .ref (ad 666), .int 0, .ref (ad 667), .ref (ad 668), .int 0, .int 0, .ref (ad 669), .int 0, .ref (ad 670), .int 0, .ref (ad 671)]) : va_E) (show 4 ≠ 656 by decide)).trans hS4
  have hS5 := (va_up_ne S3 (.inr (6, [.int 0, .int 0, .int 0, .int 0, .ref (ad 657), .int 0, .ref (ad 658), .ref (ad 666), .int 0, .ref (ad 667), .ref (ad 668), .int 0, .int 0, .ref (ad 669), .int 0, .ref (ad 670), .int 0, .ref (ad 671)]) : va_E) (show 5 ≠ 656 by decide)).trans hS5
  have hS6 := (va_up_ne S3 (.inr (6, [.int 0, .int 0, .int 0, .int 0, .ref (ad 657), .int 0, .ref (ad 658), .ref (ad 666), .int 0, .ref (ad 667), .ref (ad 668), .int 0, .int 0, .ref (ad 669), .int 0, .ref (ad 670), .int 0, .ref (ad 671)]) : va_E) (show 6 ≠ 656 by decide)).trans hS6
  have hS656 := va_up_self S3 656 (.inr (6, [.int 0, .int 0, .int 0, .int 0, .ref (ad 657), .int 0, .ref (ad 658), .ref (ad 666), .int 0, .ref (ad 667), .ref (ad 668), .int 0, .int 0, .ref (ad 669), .int 0, .ref (ad 670), .int 0, .ref (ad 671)]) : va_E)
  have hS658 := (va_up_ne S3 (.inr (6, [.int 0, .int 0, .int 0, .int 0, .ref (ad 657), .int 0, .ref (ad 658), .ref (ad 666), .int 0, .ref (ad 667), .ref (ad 668), .int 0, .int 0, .ref (ad 669), .int 0, .ref (ad 670), .int 0, .ref (ad 671)]) : va_E) (show 658 ≠ 656 by decide)).trans hS658
  generalize va_up S3 656 (.inr (6, [.int 0, .int 0, .int 0, .int 0, .ref (ad 657), .int 0, .ref (ad 658), .ref (ad 666), .int 0, .ref (ad 667), .ref (ad 668), .int 0, .int 0, .ref (ad 669), .int 0, .ref (ad 670), .int 0, .ref (ad 671)])) = S4 at G hS0 hS1 hS3 hS4 hS5 hS6 hS656 hS658
  refine lv_aload_n hx hb dX6_clear_17 rfl (lv_at hl 0 rfl) ?_
  refine lv_iconst (v := 0) hx hb dX6_clear_18 (by decide) ?_
  refine c_put E G 656 11 (Nat.lt_of_lt_of_le (by decide) hN) hS656 rfl (fun w h => .tail _ (iA_14 h)) tyX6 tyX6_ok nmX6 (by decide) (.tail _ qA_212) ⟨rfl, rfl, rfl⟩ rfl rfl (Nat.le_of_ble_eq_true rfl) dX6_clear_19 (fun H locs G => ?_)
  have G : cG D ad N A s.heap H locs (va_up S4 656 (.inr (6, [.int 0, .int 0, .int 0, .int 0, .ref (ad 657), .int 0, .ref (ad 658), .ref (ad 666), .int 0, .ref (ad 667), .ref (ad 668), .int 0, .int 0, .ref (ad 669), .int 0, .ref (ad 670), .int 0, .ref (ad 671)]))) := G
  have hS0 := (va_up_ne S4 (.inr (6, [.int 0, .int 0, .int 0, .int 0, .ref (ad 657), .int 0, .ref (ad 658), .ref (ad 666), .int 0, .ref (ad 667), .ref (ad 668), .int 0, .int 0, .ref (ad 669), .int 0, .ref (ad 670), .int 0, .ref (ad 671)]) : va_E) (show 0 ≠ 656 by decide)).trans hS0
  have hS1 := (va_up_ne S4 (.inr (6, [.int 0, .int 0, .int 0, .int 0, .ref (ad 657), .int 0, .ref (ad 658), .ref (ad 666), .int 0, .ref (ad 667), .ref (ad 668), .int 0, .int 0, .ref (ad 669), .int 0, .ref (ad 670), .int 0, .ref (ad 671)]) : va_E) (show 1 ≠ 656 by decide)).trans hS1
  have hS3 := (va_up_ne S4 (.inr (6, [.int 0, .int 0, .int 0, .int 0, .ref (ad 657), .int 0, .ref (ad 658), .ref (ad 666), .int 0, .ref (ad 667), .ref (ad 668), .int 0, .int 0, .ref (ad 669), .int 0, .ref (ad 670), .int 0, .ref (ad 671)]) : va_E) (show 3 ≠ 656 by decide)).trans hS3
  have hS4 := (va_up_ne S4 (.inr (6, [.int 0, .int 0, .int 0, .int 0, .ref (ad 657), .int 0, .ref (ad 658), .ref (ad 666), .int 0, .ref (ad 667), .ref (ad 668), .int 0, .int 0, .ref (ad 669), .int 0, .ref (ad 670), .int 0, .ref (ad 671)]) : va_E) (show 4 ≠ 656 by decide)).trans hS4
  have hS5 := (va_up_ne S4 (.inr (6, [.int 0, .int 0, .int 0, .int 0, .ref (ad 657), .int 0, .ref (ad 658), .ref (ad 666), .int 0, .ref (ad 667), .ref (ad 668), .int 0, .int 0, .ref (ad 669), .int 0, .ref (ad 670), .int 0, .ref (ad 671)]) : va_E) (show 5 ≠ 656 by decide)).trans hS5
  have hS6 := (va_up_ne S4 (.inr (6, [.int 0, .int 0, .int 0, .int 0, .ref (ad 657), .int 0, .ref (ad 658), .ref (ad 666), .int 0, .ref (ad 667), .ref (ad 668), .int 0, .int 0, .ref (ad 669), .int 0, .ref (ad 670), .int 0, .ref (ad 671)]) : va_E) (show 6 ≠ 656 by decide)).trans hS6
  have hS656 := va_up_self S4 656 (.inr (6, [.int 0, .int 0, .int 0, .int 0, .ref (ad 657), .int 0, .ref (ad 658), .ref (ad 666), .int 0, .ref (ad 667), .ref (ad 668), .int 0, .int 0, .ref (ad 669), .int 0, .ref (ad 670), .int 0, .ref (ad 671)]) : va_E)
  have hS658 := (va_up_ne S4 (.inr (6, [.int 0, .int 0, .int 0, .int 0, .ref (ad 657), .int 0, .ref (ad 658), .ref (ad 666), .int 0, .ref (ad 667), .ref (ad 668), .int 0, .int 0, .ref (ad 669), .int 0, .ref (ad 670), .int 0, .ref (ad 671)]) : va_E) (show 658 ≠ 656 by decide)).trans hS658
  generalize va_up S4 656 (.inr (6, [.int 0, .int 0, .int 0, .int 0, .ref (ad 657), .int 0, .ref (ad 658), .ref (ad 666), .int 0, .ref (ad 667), .ref (ad 668), .int 0, .int 0, .ref (ad 669), .int 0, .ref (ad 670), .int 0, .ref (ad 671)])) = S5 at G hS0 hS1 hS3 hS4 hS5 hS6 hS656 hS658
  refine lv_aload_n hx hb dX6_clear_22 rfl (lv_at hl 0 rfl) ?_
  refine lv_iconst (v := 0) hx hb dX6_clear_23 (by decide) ?_
  refine c_put E G 656 12 (Nat.lt_of_lt_of_le (by decide) hN) hS656 rfl (fun w h => .tail _ (iA_14 h)) tyX6 tyX6_ok nmX6 (by decide) (.tail _ qA_213) ⟨rfl, rfl, rfl⟩ rfl rfl (Nat.le_of_ble_eq_true rfl) dX6_clear_24 (fun H locs G => ?_)
  have G : cG D ad N A s.heap H locs (va_up S5 656 (.inr (6, [.int 0, .int 0, .int 0, .int 0, .ref (ad 657), .int 0, .ref (ad 658), .ref (ad 666), .int 0, .ref (ad 667), .ref (ad 668), .int 0, .int 0, .ref (ad 669), .int 0, .ref (ad 670), .int 0, .ref (ad 671)]))) := G
  have hS0 := (va_up_ne S5 (.inr (6, [.int 0, .int 0, .int 0, .int 0, .ref (ad 657), .int 0, .ref (ad 658), .ref (ad 666), .int 0, .ref (ad 667), .ref (ad 668), .int 0, .int 0, .ref (ad 669), .int 0, .ref (ad 670), .int 0, .ref (ad 671)]) : va_E) (show 0 ≠ 656 by decide)).trans hS0
  have hS1 := (va_up_ne S5 (.inr (6, [.int 0, .int 0, .int 0, .int 0, .ref (ad 657), .int 0, .ref (ad 658), .ref (ad 666), .int 0, .ref (ad 667), .ref (ad 668), .int 0, .int 0, .ref (ad 669), .int 0, .ref (ad 670), .int 0, .ref (ad 671)]) : va_E) (show 1 ≠ 656 by decide)).trans hS1
  have hS3 := (va_up_ne S5 (.inr (6, [.int 0, .int 0, .int 0, .int 0, .ref (ad 657), .int 0, .ref (ad 658), .ref (ad 666), .int 0, .ref (ad 667), .ref (ad 668), .int 0, .int 0, .ref (ad 669), .int 0, .ref (ad 670), .int 0, .ref (ad 671)]) : va_E) (show 3 ≠ 656 by decide)).trans hS3
  have hS4 := (va_up_ne S5 (.inr (6, [.int 0, .int 0, .int 0, .int 0, .ref (ad 657), .int 0, .ref (ad 658), .ref (ad 666), .int 0, .ref (ad 667), .ref (ad 668), .int 0, .int 0, .ref (ad 669), .int 0, .ref (ad 670), .int 0, .ref (ad 671)]) : va_E) (show 4 ≠ 656 by decide)).trans hS4
  have hS5 := (va_up_ne S5 (.inr (6, [.int 0, .int 0, .int 0, .int 0, .ref (ad 657), .int 0, .ref (ad 658), .ref (ad 666), .int 0, .ref (ad 667), .ref (ad 668), .int 0, .int 0, .ref (ad 669), .int 0, .ref (ad 670), .int 0, .ref (ad 671)]) : va_E) (show 5 ≠ 656 by decide)).trans hS5
  have hS6 := (va_up_ne S5 (.inr (6, [.int 0, .int 0, .int 0, .int 0, .ref (ad 657), .int 0, .ref (ad 658), .ref (ad 666), .int 0, .ref (ad 667), .ref (ad 668), .int 0, .int 0, .ref (ad 669), .int 0, .ref (ad 670), .int 0, .ref (ad 671)]) : va_E) (show 6 ≠ 656 by decide)).trans hS6
  have hS656 := va_up_self S5 656 (.inr (6, [.int 0, .int 0, .int 0, .int 0, .ref (ad 657), .int 0, .ref (ad 658), .ref (ad 666), .int 0, .ref (ad 667), .ref (ad 668), .int 0, .int 0, .ref (ad 669), .int 0, .ref (ad 670), .int 0, .ref (ad 671)]) : va_E)
  have hS658 := (va_up_ne S5 (.inr (6, [.int 0, .int 0, .int 0, .int 0, .ref (ad 657), .int 0, .ref (ad 658), .ref (ad 666), .int 0, .ref (ad 667), .ref (ad 668), .int 0, .int 0, .ref (ad 669), .int 0, .ref (ad 670), .int 0, .ref (ad 671)]) : va_E) (show 658 ≠ 656 by decide)).trans hS658
  generalize va_up S5 656 (.inr (6, [.int 0, .int 0, .int 0, .int 0, .ref (ad 657), .int 0, .ref (ad 658), .ref (ad 666), .int 0, .ref (ad 667), .ref (ad 668), .int 0, .int 0, .ref (ad 669), .int 0, .ref (ad 670), .int 0, .ref (ad 671)])) = S6 at G hS0 hS1 hS3 hS4 hS5 hS6 hS656 hS658
  refine lv_aload_n hx hb dX6_clear_27 rfl (lv_at hl 0 rfl) ?_
  refine lv_iconst (v := 0) hx hb dX6_clear_28 (by decide) ?_
  refine c_put E G 656 14 (Nat.lt_of_lt_of_le (by decide) hN) hS656 rfl (fun w h => .tail _ (iA_14 h)) tyX6 tyX6_ok nmX6 (by decide) (.tail _ qA_214) ⟨rfl, rfl, rfl⟩ rfl rfl (Nat.le_of_ble_eq_true rfl) dX6_clear_29 (fun H locs G => ?_)
  have G : cG D ad N A s.heap H locs (va_up S6 656 (.inr (6, [.int 0, .int 0, .int 0, .int 0, .ref (ad 657), .int 0, .ref (ad 658), .ref (ad 666), .int 0, .ref (ad 667), .ref (ad 668), .int 0, .int 0, .ref (ad 669), .int 0, .ref (ad 670), .int 0, .ref (ad 671)]))) := G
  have hS0 := (va_up_ne S6 (.inr (6, [.int 0, .int 0, .int 0, .int 0, .ref (ad 657), .int 0, .ref (ad 658), .ref (ad 666), .int 0, .ref (ad 667), .ref (ad 668), .int 0, .int 0, .ref (ad 669), .int 0, .ref (ad 670), .int 0, .ref (ad 671)]) : va_E) (show 0 ≠ 656 by decide)).trans hS0
  have hS1 := (va_up_ne S6 (.inr (6, [.int 0, .int 0, .int 0, .int 0, .ref (ad 657), .int 0, .ref (ad 658), .ref (ad 666), .int 0, .ref (ad 667), .ref (ad 668), .int 0, .int 0, .ref (ad 669), .int 0, .ref (ad 670), .int 0, .ref (ad 671)]) : va_E) (show 1 ≠ 656 by decide)).trans hS1
  have hS3 := (va_up_ne S6 (.inr (6, [.int 0, .int 0, .int 0, .int 0, .ref (ad 657), .int 0, .ref (ad 658), .ref (ad 666), .int 0, .ref (ad 667), .ref (ad 668), .int 0, .int 0, .ref (ad 669), .int 0, .ref (ad 670), .int 0, .ref (ad 671)]) : va_E) (show 3 ≠ 656 by decide)).trans hS3
  have hS4 := (va_up_ne S6 (.inr (6, [.int 0, .int 0, .int 0, .int 0, .ref (ad 657), .int 0, .ref (ad 658), .ref (ad 666), .int 0, .ref (ad 667), .ref (ad 668), .int 0, .int 0, .ref (ad 669), .int 0, .ref (ad 670), .int 0, .ref (ad 671)]) : va_E) (show 4 ≠ 656 by decide)).trans hS4
  have hS5 := (va_up_ne S6 (.inr (6, [.int 0, .int 0, .int 0, .int 0, .ref (ad 657), .int 0, .ref (ad 658), .ref (ad 666), .int 0, .ref (ad 667), .ref (ad 668), .int 0, .int 0, .ref (ad 669), .int 0, .ref (ad 670), .int 0, .ref (ad 671)]) : va_E) (show 5 ≠ 656 by decide)).trans hS5
  have hS6 := (va_up_ne S6 (.inr (6, [.int 0, .int 0, .int 0, .int 0, .ref (ad 657), .int 0, .ref (ad 658), .ref (ad 666), .int 0, .ref (ad 667), .ref (ad 668), .int 0, .int 0, .ref (ad 669), .int 0, .ref (ad 670), .int 0, .ref (ad 671)]) : va_E) (show 6 ≠ 656 by decide)).trans hS6
  have hS656 := va_up_self S6 656 (.inr (6, [.int 0, .int 0, .int 0, .int 0, .ref (ad 657), .int 0, .ref (ad 658), .ref (ad 666), .int 0, .ref (ad 667), .ref (ad 668), .int 0, .int 0, .ref (ad 669), .int 0, .ref (ad 670), .int 0, .ref (ad 671)]) : va_E)
  have hS658 := (va_up_ne S6 (.inr (6, [.int 0, .int 0, .int 0, .int 0, .ref (ad 657), .int 0, .ref (ad 658), .ref (ad 666), .int 0, .ref (ad 667), .ref (ad 668), .int 0, .int 0, .ref (ad 669), .int 0, .ref (ad 670), .int 0, .ref (ad 671)]) : va_E) (show 658 ≠ 656 by decide)).trans hS658
  generalize va_up S6 656 (.inr (6, [.int 0, .int 0, .int 0, .int 0, .ref (ad 657), .int 0, .ref (ad 658), .ref (ad 666), .int 0, .ref (ad 667), .ref (ad 668), .int 0, .int 0, .ref (ad 669), .int 0, .ref (ad 670), .int 0, .ref (ad 671)])) = S7 at G hS0 hS1 hS3 hS4 hS5 hS6 hS656 hS658
  refine lv_aload_n hx hb dX6_clear_32 rfl (lv_at hl 0 rfl) ?_
  refine lv_iconst (v := 0) hx hb dX6_clear_33 (by decide) ?_
  refine c_put E G 656 16 (Nat.lt_of_lt_of_le (by decide) hN) hS656 rfl (fun w h => .tail _ (iA_14 h)) tyX6 tyX6_ok nmX6 (by decide) (.tail _ qA_215) ⟨rfl, rfl, rfl⟩ rfl rfl (Nat.le_of_ble_eq_true rfl) dX6_clear_34 (fun H locs G => ?_)
  have G : cG D ad N A s.heap H locs (va_up S7 656 (.inr (6, [.int 0, .int 0, .int 0, .int 0, .ref (ad 657), .int 0, .ref (ad 658), .ref (ad 666), .int 0, .ref (ad 667), .ref (ad 668), .int 0, .int 0, .ref (ad 669), .int 0, .ref (ad 670), .int 0, .ref (ad 671)]))) := G
  have hS0 := (va_up_ne S7 (.inr (6, [.int 0, .int 0, .int 0, .int 0, .ref (ad 657), .int 0, .ref (ad 658), .ref (ad 666), .int 0, .ref (ad 667), .ref (ad 668), .int 0, .int 0, .ref (ad 669), .int 0, .ref (ad 670), .int 0, .ref (ad 671)]) : va_E) (show 0 ≠ 656 by decide)).trans hS0
  have hS1 := (va_up_ne S7 (.inr (6, [.int 0, .int 0, .int 0, .int 0, .ref (ad 657), .int 0, .ref (ad 658), .ref (ad 666), .int 0, .ref (ad 667), .ref (ad 668), .int 0, .int 0, .ref (ad 669), .int 0, .ref (ad 670), .int 0, .ref (ad 671)]) : va_E) (show 1 ≠ 656 by decide)).trans hS1
  have hS3 := (va_up_ne S7 (.inr (6, [.int 0, .int 0, .int 0, .int 0, .ref (ad 657), .int 0, .ref (ad 658), .ref (ad 666), .int 0, .ref (ad 667), .ref (ad 668), .int 0, .int 0, .ref (ad 669), .int 0, .ref (ad 670), .int 0, .ref (ad 671)]) : va_E) (show 3 ≠ 656 by decide)).trans hS3
  have hS4 := (va_up_ne S7 (.inr (6, [.int 0, .int 0, .int 0, .int 0, .ref (ad 657), .int 0, .ref (ad 658), .ref (ad 666), .int 0, .ref (ad 667), .ref (ad 668), .int 0, .int 0, .ref (ad 669), .int 0, .ref (ad 670), .int 0, .ref (ad 671)]) : va_E) (show 4 ≠ 656 by decide)).trans hS4
  have hS5 := (va_up_ne S7 (.inr (6, [.int 0, .int 0, .int 0, .int 0, .ref (ad 657), .int 0, .ref (ad 658), .ref (ad 666), .int 0, .ref (ad 667), .ref (ad 668), .int 0, .int 0, .ref (ad 669), .int 0, .ref (ad 670), .int 0, .ref (ad 671)]) : va_E) (show 5 ≠ 656 by decide)).trans hS5
  have hS6 := (va_up_ne S7 (.inr (6, [.int 0, .int 0, .int 0, .int 0, .ref (ad 657), .int 0, .ref (ad 658), .ref (ad 666), .int 0, .ref (ad 667), .ref (ad 668), .int 0, .int 0, .ref (ad 669), .int 0, .ref (ad 670), .int 0, .ref (ad 671)]) : va_E) (show 6 ≠ 656 by decide)).trans hS6
  have hS656 := va_up_self S7 656 (.inr (6, [.int 0, .int 0, .int 0, .int 0, .ref (ad 657), .int 0, .ref (ad 658), .ref (ad 666), .int 0, .ref (ad 667), .ref (ad 668), .int 0, .int 0, .ref (ad 669), .int 0, .ref (ad 670), .int 0, .ref (ad 671)]) : va_E)
  have hS658 := (va_up_ne S7 (.inr (6, [.int 0, .int 0, .int 0, .int 0, .ref (ad 657), .int 0, .ref (ad 658), .ref (ad 666), .int 0, .ref (ad 667), .ref (ad 668), .int 0, .int 0, .ref (ad 669), .int 0, .ref (ad 670), .int 0, .ref (ad 671)]) : va_E) (show 658 ≠ 656 by decide)).trans hS658
  generalize va_up S7 656 (.inr (6, [.int 0, .int 0, .int 0, .int 0, .ref (ad 657), .int 0, .ref (ad 658), .ref (ad 666), .int 0, .ref (ad 667), .ref (ad 668), .int 0, .int 0, .ref (ad 669), .int 0, .ref (ad 670), .int 0, .ref (ad 671)])) = S8 at G hS0 hS1 hS3 hS4 hS5 hS6 hS656 hS658
  exact W.vret hx hb hr (fun t ht hW => ⟨⟨S8, rfl, ⟨hS0, hS1, hS3, hS4, hS5, hS6, hS656, hS658⟩, ⟨by rw [ht]; exact G.1, va_K.moved hW.alike hK, G.2.1⟩⟩, G.2.2.F ht⟩) G.2.2.2.2 dX6_clear_37
set_option maxHeartbeats 4000000 in
set_option maxRecDepth 100000 in
theorem f_kind_0 (l : Launch) (hst : l.stackTraces = false) (D : va_G) (tys : List (ClassId × FieldType)) (ad : Nat → Nat) (N : Nat) (S : Nat → va_E) (cI cJ cZ cMic cSrc cSt cAI cAJ : ClassId) (hN : 1586 ≤ N) (ht0 : tys[0]? = some (cI, .int)) (ht2 : tys[2]? = some (cZ, .boolean)) (hS0 : S 0 = .inr (11, [.ref (ad 1), .ref (ad 6), .ref (ad 7), .ref (ad 22), .ref (ad 66), .ref (ad 154), .ref (ad 242), .ref (ad 336), .ref (ad 430), .ref (ad 431), .ref (ad 432), .ref (ad 433), .ref (ad 434), .ref (ad 477), .ref (ad 478), .ref (ad 656), .int 0, .int 0, .int 0])) (hS1 : S 1 = .inr (9, [.ref (ad 2), .int 0, .ref (ad 3), .ref (ad 4), .ref (ad 5), .int 1])) (hS3 : S 3 = .inl (cI, 1001, .inl (upd (fun _ => 0) 0 5))) (hS4 : S 4 = .inl (cI, 1001, .inl (upd (fun _ => 0) 0 0))) (hS5 : S 5 = .inl (cI, 1001, .inl (upd (fun _ => 0) 0 0))) (hS6 : S 6 = .inr (3, [.ref (ad 1), .int 0, .int 0, .int (-1)])) (hS656 : S 656 = .inr (6, [.int 0, .int 0, .int 0, .int 0, .ref (ad 657), .int 0, .ref (ad 658), .ref (ad 666), .int 0, .ref (ad 667), .ref (ad 668), .int 0, .int 0, .ref (ad 669), .int 0, .ref (ad 670), .int 0, .ref (ad 671)])) (hS658 : S 658 = .inr (1, [.int 0, .int 0, .int 0, .int 0, .int 0, .ref (ad 659), .ref (ad 660), .int 0, .ref (ad 665)])) : cCi l yX3_kind (Cond.code yX3_kind cX3_kind 1 (some .int) :: wsA) 1 0 D tys ad N S [.ref (ad 6)] (fun r u => r = 5 ∧ u = S) := by
  intro sz
  refine Met.ofW (cc := cX3_kind) (maxL := 1) (ret := (some .int)) (by decide) rfl ?_
  intro p e s m args below meth c s₁ B hml hv
  obtain ⟨rfl, hsz, hP, hK, hD0, hX⟩ := hv
  have hx := B.exec
  have hb := B.bytes
  have hr := B.returns
  have hts := atoms_spec (ws := (Cond.code yX3_kind cX3_kind 1 (some .int) :: wsA)) B.pre
  have hown : s.vm.findClass RX3 = some m.cls := findClass_of_methodNamed B.named
  have hlocks := B.notSynchronized
  subst hsz
  have hD := hD0.self (sz := s.heap.size)
  generalize hAe : va_A (cW ad N S) s.heap.size = A at hD hX ⊢
  have hA : ∀ q : Nat, s.heap.size ≤ q → A q := fun q h => by rw [← hAe]; exact Or.inr h
  have G : cG D ad N A s.heap s.heap [] S := ⟨hP, hD, va_S.rf⟩
  have E : cE p c cX3_kind s m ([.ref (ad 6)] : List Value).toArray (Cond.code yX3_kind cX3_kind 1 (some .int) :: wsA) D RX3 tys := ⟨hx, hb, hts, hown, hK⟩
  have hl := lv_entry ([.ref (ad 6)]) (n := 1) (Nat.le_of_ble_eq_true rfl)
  rw [lg_entry_eq]
  generalize (lg_sl ([.ref (ad 6)]) ++ List.replicate (1 - (lg_sl ([.ref (ad 6)])).length) Slot.unset).toArray = ls at hl ⊢
  have hl : lv_has ls 1 [(0, .ref (ad 6))] := hl
  refine lv_aload_n hx hb dX3_kind_0 rfl (lv_at hl 0 rfl) ?_
  refine c_get E G 6 1 (Nat.lt_of_lt_of_le (by decide) hN) hS6 rfl (fun w h => .tail _ (iA_17 h)) (by decide) (.tail _ qA_176) rfl rfl dX3_kind_1 ?_
  refine lv_aload_n hx hb dX3_kind_4 rfl (lv_at hl 0 rfl) ?_
  refine c_get E G 6 0 (Nat.lt_of_lt_of_le (by decide) hN) hS6 rfl (fun w h => .tail _ (iA_17 h)) (by decide) (.tail _ qA_174) rfl rfl dX3_kind_5 ?_
  refine c_get E G 1 5 (Nat.lt_of_lt_of_le (by decide) hN) hS1 rfl (fun w h => .tail _ (iA_18 h)) (by decide) (.tail _ qA_177) rfl rfl dX3_kind_8 ?_
  refine lv_icmp_ge (tgt := 29) hx hb dX3_kind_11 (by decide) (fun c1 => absurd c1 (by decide +kernel)) (fun c1 => ?_)
  refine lv_aload_n hx hb dX3_kind_14 rfl (lv_at hl 0 rfl) ?_
  refine c_get E G 6 0 (Nat.lt_of_lt_of_le (by decide) hN) hS6 rfl (fun w h => .tail _ (iA_17 h)) (by decide) (.tail _ qA_174) rfl rfl dX3_kind_15 ?_
  refine c_get E G 1 2 (Nat.lt_of_lt_of_le (by decide) hN) hS1 rfl (fun w h => .tail _ (iA_18 h)) (by decide) (.tail _ qA_243) rfl rfl dX3_kind_18 ?_
  refine lv_aload_n hx hb dX3_kind_21 rfl (lv_at hl 0 rfl) ?_
  refine c_get E G 6 1 (Nat.lt_of_lt_of_le (by decide) hN) hS6 rfl (fun w h => .tail _ (iA_17 h)) (by decide) (.tail _ qA_176) rfl rfl dX3_kind_22 ?_
  refine c_iald E G 3 0 (k := 0) (Nat.lt_of_lt_of_le (by decide) hN) hS3 ht0 rfl (by decide) (by decide) dX3_kind_25 ?_
  refine lv_to (y := 5) (by decide) ?_
  refine lv_goto (tgt := 30) hx hb dX3_kind_26 (by decide) ?_
  exact W.iret (v := 5) hx hb hr (fun t ht hW => ⟨⟨5, S, rfl, ⟨rfl, rfl⟩, ⟨by rw [ht]; exact G.1, va_K.moved hW.alike hK, G.2.1⟩⟩, G.2.2.F ht⟩) G.2.2.2.2 dX3_kind_30
set_option maxHeartbeats 4000000 in
set_option maxRecDepth 100000 in
theorem f_isWord_0 (l : Launch) (hst : l.stackTraces = false) (D : va_G) (tys : List (ClassId × FieldType)) (ad : Nat → Nat) (N : Nat) (S : Nat → va_E) (cI cJ cZ cMic cSrc cSt cAI cAJ : ClassId) (hN : 1586 ≤ N) (ht0 : tys[0]? = some (cI, .int)) (ht2 : tys[2]? = some (cZ, .boolean)) (hS0 : S 0 = .inr (11, [.ref (ad 1), .ref (ad 6), .ref (ad 7), .ref (ad 22), .ref (ad 66), .ref (ad 154), .ref (ad 242), .ref (ad 336), .ref (ad 430), .ref (ad 431), .ref (ad 432), .ref (ad 433), .ref (ad 434), .ref (ad 477), .ref (ad 478), .ref (ad 656), .int 0, .int 0, .int 0])) (hS1 : S 1 = .inr (9, [.ref (ad 2), .int 0, .ref (ad 3), .ref (ad 4), .ref (ad 5), .int 1])) (hS3 : S 3 = .inl (cI, 1001, .inl (upd (fun _ => 0) 0 5))) (hS4 : S 4 = .inl (cI, 1001, .inl (upd (fun _ => 0) 0 0))) (hS5 : S 5 = .inl (cI, 1001, .inl (upd (fun _ => 0) 0 0))) (hS6 : S 6 = .inr (3, [.ref (ad 1), .int 0, .int 0, .int (-1)])) (hS656 : S 656 = .inr (6, [.int 0, .int 0, .int 0, .int 0, .ref (ad 657), .int 0, .ref (ad 658), .ref (ad 666), .int 0, .ref (ad 667), .ref (ad 668), .int 0, .int 0, .ref (ad 669), .int 0, .ref (ad 670), .int 0, .ref (ad 671)])) (hS658 : S 658 = .inr (1, [.int 0, .int 0, .int 0, .int 0, .int 0, .ref (ad 659), .ref (ad 660), .int 0, .ref (ad 665)])) (wd : Nat) : cCi l yX3_isWord (Cond.code yX3_isWord cX3_isWord 5 (some .boolean) :: wsA) 2 20 D tys ad N S [.ref (ad 6), .ref wd] (fun r u => r = 0 ∧ u = S) := by
  intro sz
  refine Met.ofW (cc := cX3_isWord) (maxL := 5) (ret := (some .boolean)) (by decide) rfl ?_
  intro p e s m args below meth c s₁ B hml hv
  obtain ⟨rfl, hsz, hP, hK, hD0, hX⟩ := hv
  have hx := B.exec
  have hb := B.bytes
  have hr := B.returns
  have hts := atoms_spec (ws := (Cond.code yX3_isWord cX3_isWord 5 (some .boolean) :: wsA)) B.pre
  have hown : s.vm.findClass RX3 = some m.cls := findClass_of_methodNamed B.named
  have hlocks := B.notSynchronized
  subst hsz
  have hD := hD0.self (sz := s.heap.size)
  generalize hAe : va_A (cW ad N S) s.heap.size = A at hD hX ⊢
  have hA : ∀ q : Nat, s.heap.size ≤ q → A q := fun q h => by rw [← hAe]; exact Or.inr h
  have G : cG D ad N A s.heap s.heap [] S := ⟨hP, hD, va_S.rf⟩
  have E : cE p c cX3_isWord s m ([.ref (ad 6), .ref wd] : List Value).toArray (Cond.code yX3_isWord cX3_isWord 5 (some .boolean) :: wsA) D RX3 tys := ⟨hx, hb, hts, hown, hK⟩
  have hl := lv_entry ([.ref (ad 6), .ref wd]) (n := 5) (Nat.le_of_ble_eq_true rfl)
  rw [lg_entry_eq]
  generalize (lg_sl ([.ref (ad 6), .ref wd]) ++ List.replicate (5 - (lg_sl ([.ref (ad 6), .ref wd])).length) Slot.unset).toArray = ls at hl ⊢
  have hl : lv_has ls 5 [(0, .ref (ad 6)), (1, .ref wd)] := hl
  refine lv_aload_n hx hb dX3_isWord_0 rfl (lv_at hl 0 rfl) ?_
  refine c_cvi (As := []) (rest := []) E G hA hX rfl hml (f_kind_0 l hst D tys ad N S cI cJ cZ cMic cSrc cSt cAI cAJ hN ht0 ht2 hS0 hS1 hS3 hS4 hS5 hS6 hS656 hS658) (cwV 0 hts (gaV qA_239 qA_240 qA_241 qA_222 qA_242) rfl rfl rfl (by decide +kernel) ⟨Nat.le_of_ble_eq_true rfl, Nat.le_of_ble_eq_true rfl⟩) (Nat.lt_of_lt_of_le (by decide) hN) hS6 rfl rfl hl.1 rfl (lv_room (Nat.le_of_ble_eq_true rfl)) dX3_isWord_1 ⟨Nat.le_of_ble_eq_true rfl, Nat.le_of_ble_eq_true rfl⟩ (fun r2 S1 H locs hq G => ?_)
  obtain ⟨hr9, hq⟩ := hq
  refine lv_to (y := 5) hr9 ?_
  rw [hq] at G
  refine lv_iconst (v := 1) hx hb dX3_isWord_4 (by decide) ?_
  refine lv_icmp_eq (tgt := 10) hx hb dX3_isWord_5 (by decide) (fun c3 => absurd c3 (by decide +kernel)) (fun c3 => ?_)
  refine lv_iconst (v := 0) hx hb dX3_isWord_8 (by decide) ?_
  exact W.zret (v := 0) hx hb hr rfl (fun t ht hW => ⟨⟨0, S, rfl, ⟨rfl, rfl⟩, ⟨by rw [ht]; exact G.1, va_K.moved hW.alike hK, G.2.1⟩⟩, G.2.2.F ht⟩) G.2.2.2.2 dX3_isWord_9
set_option maxHeartbeats 4000000 in
set_option maxRecDepth 100000 in
theorem f_failAt_0 (l : Launch) (hst : l.stackTraces = false) (D : va_G) (tys : List (ClassId × FieldType)) (ad : Nat → Nat) (N : Nat) (S : Nat → va_E) (cI cJ cZ cMic cSrc cSt cAI cAJ : ClassId) (hN : 1586 ≤ N) (ht0 : tys[0]? = some (cI, .int)) (ht2 : tys[2]? = some (cZ, .boolean)) (hS0 : S 0 = .inr (11, [.ref (ad 1), .ref (ad 6), .ref (ad 7), .ref (ad 22), .ref (ad 66), .ref (ad 154), .ref (ad 242), .ref (ad 336), .ref (ad 430), .ref (ad 431), .ref (ad 432), .ref (ad 433), .ref (ad 434), .ref (ad 477), .ref (ad 478), .ref (ad 656), .int 0, .int 0, .int 0])) (hS1 : S 1 = .inr (9, [.ref (ad 2), .int 0, .ref (ad 3), .ref (ad 4), .ref (ad 5), .int 1])) (hS3 : S 3 = .inl (cI, 1001, .inl (upd (fun _ => 0) 0 5))) (hS4 : S 4 = .inl (cI, 1001, .inl (upd (fun _ => 0) 0 0))) (hS5 : S 5 = .inl (cI, 1001, .inl (upd (fun _ => 0) 0 0))) (hS6 : S 6 = .inr (3, [.ref (ad 1), .int 0, .int 0, .int (-1)])) (hS656 : S 656 = .inr (6, [.int 0, .int 0, .int 0, .int 0, .ref (ad 657), .int 0, .ref (ad 658), .ref (ad 666), .int 0, .ref (ad 667), .ref (ad 668), .int 0, .int 0, .ref (ad 669), .int 0, .ref (ad 670), .int 0, .ref (ad 671)])) (hS658 : S 658 = .inr (1, [.int 0, .int 0, .int 0, .int 0, .int 0, .ref (ad 659), .ref (ad 660), .int 0, .ref (ad 665)])) : cXv l yX3_failAt (Cond.code yX3_failAt cX3_failAt 3 none :: wsA) 6 81 D tys ad N S [.ref (ad 6), .int 0, .int 1] (fun _ => False) (fun E u => E = xIAE) := by
  intro sz
  refine vx_ofW (cc := cX3_failAt) (maxL := 3) (ret := none) (by decide) rfl ?_
  intro p e s m args below meth c s₁ B hml htab hv
  obtain ⟨rfl, hsz, hP, hK, hD0, hX⟩ := hv
  have hx := B.exec
  have hb := B.bytes
  have hr := B.returns
  have hts := atoms_spec (ws := (Cond.code yX3_failAt cX3_failAt 3 none :: wsA)) B.pre
  have hown : s.vm.findClass RX3 = some m.cls := findClass_of_methodNamed B.named
  have hlocks := B.notSynchronized
  subst hsz
  have hD := hD0.self (sz := s.heap.size)
  generalize hAe : va_A (cW ad N S) s.heap.size = A at hD hX ⊢
  have hA : ∀ q : Nat, s.heap.size ≤ q → A q := fun q h => by rw [← hAe]; exact Or.inr h
  have G : cG D ad N A s.heap s.heap [] S := ⟨hP, hD, va_S.rf⟩
  have E : cE p c cX3_failAt s m ([.ref (ad 6), .int 0, .int 1] : List Value).toArray (Cond.code yX3_failAt cX3_failAt 3 none :: wsA) D RX3 tys := ⟨hx, hb, hts, hown, hK⟩
  have hl := lv_entry ([.ref (ad 6), .int 0, .int 1]) (n := 3) (Nat.le_of_ble_eq_true rfl)
  rw [lg_entry_eq]
  generalize (lg_sl ([.ref (ad 6), .int 0, .int 1]) ++ List.replicate (3 - (lg_sl ([.ref (ad 6), .int 0, .int 1])).length) Slot.unset).toArray = ls at hl ⊢
  have hl : lv_has ls 3 [(0, .ref (ad 6)), (1, .int 0), (2, .int 1)] := hl
  refine lv_aload_n hx hb dX3_failAt_0 rfl (lv_at hl 0 rfl) ?_
  refine lv_iload_n hx hb dX3_failAt_1 rfl (lv_at hl 2 rfl) ?_
  refine c_put E G 6 2 (Nat.lt_of_lt_of_le (by decide) hN) hS6 rfl (fun w h => .tail _ (iA_17 h)) tyX3 tyX3_ok nmX3 (by decide) (.tail _ qA_181) ⟨rfl, rfl, rfl⟩ rfl rfl (Nat.le_of_ble_eq_true rfl) dX3_failAt_2 (fun H locs G => ?_)
  have G : cG D ad N A s.heap H locs (va_up S 6 (.inr (3, [.ref (ad 1), .int 0, .int 1, .int (-1)]))) := G
  have hS0 := (va_up_ne S (.inr (3, [.ref (ad 1), .int 0, .int 1, .int (-1)]) : va_E) (show 0 ≠ 6 by decide)).trans hS0
  have hS1 := (va_up_ne S (.inr (3, [.ref (ad 1), .int 0, .int 1, .int (-1)]) : va_E) (show 1 ≠ 6 by decide)).trans hS1
  have hS3 := (va_up_ne S (.inr (3, [.ref (ad 1), .int 0, .int 1, .int (-1)]) : va_E) (show 3 ≠ 6 by decide)).trans hS3
  have hS4 := (va_up_ne S (.inr (3, [.ref (ad 1), .int 0, .int 1, .int (-1)]) : va_E) (show 4 ≠ 6 by decide)).trans hS4
  have hS5 := (va_up_ne S (.inr (3, [.ref (ad 1), .int 0, .int 1, .int (-1)]) : va_E) (show 5 ≠ 6 by decide)).trans hS5
  have hS6 := va_up_self S 6 (.inr (3, [.ref (ad 1), .int 0, .int 1, .int (-1)]) : va_E)
  have hS656 := (va_up_ne S (.inr (3, [.ref (ad 1), .int 0, .int 1, .int (-1)]) : va_E) (show 656 ≠ 6 by decide)).trans hS656
  have hS658 := (va_up_ne S (.inr (3, [.ref (ad 1), .int 0, .int 1, .int (-1)]) : va_E) (show 658 ≠ 6 by decide)).trans hS658
  generalize va_up S 6 (.inr (3, [.ref (ad 1), .int 0, .int 1, .int (-1)])) = S1 at G hS0 hS1 hS3 hS4 hS5 hS6 hS656 hS658
  refine lv_aload_n hx hb dX3_failAt_5 rfl (lv_at hl 0 rfl) ?_
  refine lv_iload_n hx hb dX3_failAt_6 rfl (lv_at hl 1 rfl) ?_
  refine lv_if_lt (tgt := 33) hx hb dX3_failAt_7 (by decide) (fun c2 => absurd c2 (by decide +kernel)) (fun c2 => ?_)
  refine lv_iload_n hx hb dX3_failAt_10 rfl (lv_at hl 1 rfl) ?_
  refine lv_aload_n hx hb dX3_failAt_11 rfl (lv_at hl 0 rfl) ?_
  refine c_get E G 6 0 (Nat.lt_of_lt_of_le (by decide) hN) hS6 rfl (fun w h => .tail _ (iA_17 h)) (by decide) (.tail _ qA_174) rfl rfl dX3_failAt_12 ?_
  refine c_get E G 1 5 (Nat.lt_of_lt_of_le (by decide) hN) hS1 rfl (fun w h => .tail _ (iA_18 h)) (by decide) (.tail _ qA_177) rfl rfl dX3_failAt_15 ?_
  refine lv_icmp_ge (tgt := 33) hx hb dX3_failAt_18 (by decide) (fun c3 => absurd c3 (by decide +kernel)) (fun c3 => ?_)
  refine lv_aload_n hx hb dX3_failAt_21 rfl (lv_at hl 0 rfl) ?_
  refine c_get E G 6 0 (Nat.lt_of_lt_of_le (by decide) hN) hS6 rfl (fun w h => .tail _ (iA_17 h)) (by decide) (.tail _ qA_174) rfl rfl dX3_failAt_22 ?_
  refine c_get E G 1 3 (Nat.lt_of_lt_of_le (by decide) hN) hS1 rfl (fun w h => .tail _ (iA_18 h)) (by decide) (.tail _ qA_236) rfl rfl dX3_failAt_25 ?_
  refine lv_iload_n hx hb dX3_failAt_28 rfl (lv_at hl 1 rfl) ?_
  refine c_iald E G 4 0 (k := 0) (Nat.lt_of_lt_of_le (by decide) hN) hS4 ht0 rfl (by decide) (by decide) dX3_failAt_29 ?_
  refine lv_to (y := 0) (by decide) ?_
  refine lv_goto (tgt := 34) hx hb dX3_failAt_30 (by decide) ?_
  refine c_put E G 6 3 (Nat.lt_of_lt_of_le (by decide) hN) hS6 rfl (fun w h => .tail _ (iA_17 h)) tyX3 tyX3_ok nmX3 (by decide) (.tail _ qA_173) ⟨rfl, rfl, rfl⟩ rfl rfl (Nat.le_of_ble_eq_true rfl) dX3_failAt_34 (fun H locs G => ?_)
  have G : cG D ad N A s.heap H locs (va_up S1 6 (.inr (3, [.ref (ad 1), .int 0, .int 1, .int 0]))) := G
  have hS0 := (va_up_ne S1 (.inr (3, [.ref (ad 1), .int 0, .int 1, .int 0]) : va_E) (show 0 ≠ 6 by decide)).trans hS0
  have hS1 := (va_up_ne S1 (.inr (3, [.ref (ad 1), .int 0, .int 1, .int 0]) : va_E) (show 1 ≠ 6 by decide)).trans hS1
  have hS3 := (va_up_ne S1 (.inr (3, [.ref (ad 1), .int 0, .int 1, .int 0]) : va_E) (show 3 ≠ 6 by decide)).trans hS3
  have hS4 := (va_up_ne S1 (.inr (3, [.ref (ad 1), .int 0, .int 1, .int 0]) : va_E) (show 4 ≠ 6 by decide)).trans hS4
  have hS5 := (va_up_ne S1 (.inr (3, [.ref (ad 1), .int 0, .int 1, .int 0]) : va_E) (show 5 ≠ 6 by decide)).trans hS5
  have hS6 := va_up_self S1 6 (.inr (3, [.ref (ad 1), .int 0, .int 1, .int 0]) : va_E)
  have hS656 := (va_up_ne S1 (.inr (3, [.ref (ad 1), .int 0, .int 1, .int 0]) : va_E) (show 656 ≠ 6 by decide)).trans hS656
  have hS658 := (va_up_ne S1 (.inr (3, [.ref (ad 1), .int 0, .int 1, .int 0]) : va_E) (show 658 ≠ 6 by decide)).trans hS658
  generalize va_up S1 6 (.inr (3, [.ref (ad 1), .int 0, .int 1, .int 0])) = S4 at G hS0 hS1 hS3 hS4 hS5 hS6 hS656 hS658
  refine vx_throw0 (own := RX3) (cls := xIAE) (names := ["java/lang/RuntimeException", "java/lang/Exception"]) (ik := 284) (ic := 286) (A := A) hx hb hst hown (by decide +kernel) (by decide +kernel) (hts _ (.tail _ qA_297)) (hts _ (.tail _ qA_298)) (vx_hat (B := xB) (fun w h => hts w (.tail _ (iA_24 h))) (by decide +kernel) hX.use) (by decide +kernel) hX.1 hX.2.1 G.2.2 (hl.1.trans hml.symm) dX3_failAt_37 dX3_failAt_40 dX3_failAt_41 dX3_failAt_44 (fun x hx => (htab x hx).elim) (Nat.le_of_ble_eq_true rfl) (Nat.le_of_ble_eq_true rfl) (Nat.le_of_ble_eq_true rfl) (Nat.le_of_ble_eq_true rfl) hlocks (fun t hvm h1 h2 => ?_) G.2.2.2.2 (Nat.le_refl _) (Nat.le_refl _)
  exact ⟨S4, trivial, ⟨rfl, (c_thrown G hK hvm h1 h2).1⟩, (c_thrown G hK hvm h1 h2).2⟩
set_option maxHeartbeats 4000000 in
set_option maxRecDepth 100000 in
theorem f_takeWord_0 (l : Launch) (hst : l.stackTraces = false) (D : va_G) (tys : List (ClassId × FieldType)) (ad : Nat → Nat) (N : Nat) (S : Nat → va_E) (cI cJ cZ cMic cSrc cSt cAI cAJ : ClassId) (hN : 1586 ≤ N) (ht0 : tys[0]? = some (cI, .int)) (ht2 : tys[2]? = some (cZ, .boolean)) (hS0 : S 0 = .inr (11, [.ref (ad 1), .ref (ad 6), .ref (ad 7), .ref (ad 22), .ref (ad 66), .ref (ad 154), .ref (ad 242), .ref (ad 336), .ref (ad 430), .ref (ad 431), .ref (ad 432), .ref (ad 433), .ref (ad 434), .ref (ad 477), .ref (ad 478), .ref (ad 656), .int 0, .int 0, .int 0])) (hS1 : S 1 = .inr (9, [.ref (ad 2), .int 0, .ref (ad 3), .ref (ad 4), .ref (ad 5), .int 1])) (hS3 : S 3 = .inl (cI, 1001, .inl (upd (fun _ => 0) 0 5))) (hS4 : S 4 = .inl (cI, 1001, .inl (upd (fun _ => 0) 0 0))) (hS5 : S 5 = .inl (cI, 1001, .inl (upd (fun _ => 0) 0 0))) (hS6 : S 6 = .inr (3, [.ref (ad 1), .int 0, .int 0, .int (-1)])) (hS656 : S 656 = .inr (6, [.int 0, .int 0, .int 0, .int 0, .ref (ad 657), .int 0, .ref (ad 658), .ref (ad 666), .int 0, .ref (ad 667), .ref (ad 668), .int 0, .int 0, .ref (ad 669), .int 0, .ref (ad 670), .int 0, .ref (ad 671)])) (hS658 : S 658 = .inr (1, [.int 0, .int 0, .int 0, .int 0, .int 0, .ref (ad 659), .ref (ad 660), .int 0, .ref (ad 665)])) (wd : Nat) : cXv l yX3_takeWord (Cond.code yX3_takeWord cX3_takeWord 2 none :: wsA) 7 103 D tys ad N S [.ref (ad 6), .ref wd] (fun _ => False) (fun E u => E = xIAE) := by
  intro sz
  refine vx_ofW (cc := cX3_takeWord) (maxL := 2) (ret := none) (by decide) rfl ?_
  intro p e s m args below meth c s₁ B hml htab hv
  obtain ⟨rfl, hsz, hP, hK, hD0, hX⟩ := hv
  have hx := B.exec
  have hb := B.bytes
  have hr := B.returns
  have hts := atoms_spec (ws := (Cond.code yX3_takeWord cX3_takeWord 2 none :: wsA)) B.pre
  have hown : s.vm.findClass RX3 = some m.cls := findClass_of_methodNamed B.named
  have hlocks := B.notSynchronized
  subst hsz
  have hD := hD0.self (sz := s.heap.size)
  generalize hAe : va_A (cW ad N S) s.heap.size = A at hD hX ⊢
  have hA : ∀ q : Nat, s.heap.size ≤ q → A q := fun q h => by rw [← hAe]; exact Or.inr h
  have G : cG D ad N A s.heap s.heap [] S := ⟨hP, hD, va_S.rf⟩
  have E : cE p c cX3_takeWord s m ([.ref (ad 6), .ref wd] : List Value).toArray (Cond.code yX3_takeWord cX3_takeWord 2 none :: wsA) D RX3 tys := ⟨hx, hb, hts, hown, hK⟩
  have hl := lv_entry ([.ref (ad 6), .ref wd]) (n := 2) (Nat.le_of_ble_eq_true rfl)
  rw [lg_entry_eq]
  generalize (lg_sl ([.ref (ad 6), .ref wd]) ++ List.replicate (2 - (lg_sl ([.ref (ad 6), .ref wd])).length) Slot.unset).toArray = ls at hl ⊢
  have hl : lv_has ls 2 [(0, .ref (ad 6)), (1, .ref wd)] := hl
  refine lv_aload_n hx hb dX3_takeWord_0 rfl (lv_at hl 0 rfl) ?_
  refine lv_aload_n hx hb dX3_takeWord_1 rfl (lv_at hl 1 rfl) ?_
  refine c_cvi (As := [.ref wd]) (rest := []) E G hA hX rfl hml (f_isWord_0 l hst D tys ad N S cI cJ cZ cMic cSrc cSt cAI cAJ hN ht0 ht2 hS0 hS1 hS3 hS4 hS5 hS6 hS656 hS658 wd) (cwV 1 hts (gaV qA_232 qA_233 qA_234 qA_222 qA_235) rfl rfl rfl (by decide +kernel) ⟨Nat.le_of_ble_eq_true rfl, Nat.le_of_ble_eq_true rfl⟩) (Nat.lt_of_lt_of_le (by decide) hN) hS6 rfl rfl hl.1 rfl (lv_room (Nat.le_of_ble_eq_true rfl)) dX3_takeWord_2 ⟨Nat.le_of_ble_eq_true rfl, Nat.le_of_ble_eq_true rfl⟩ (fun r2 S1 H locs hq G => ?_)
  obtain ⟨hr9, hq⟩ := hq
  refine lv_to (y := 0) hr9 ?_
  rw [hq] at G
  refine lv_if_ne (tgt := 17) hx hb dX3_takeWord_5 (by decide) (fun c3 => absurd (by decide +kernel) c3) (fun c3 => ?_)
  refine lv_aload_n hx hb dX3_takeWord_8 rfl (lv_at hl 0 rfl) ?_
  refine lv_aload_n hx hb dX3_takeWord_9 rfl (lv_at hl 0 rfl) ?_
  refine c_get E G 6 1 (Nat.lt_of_lt_of_le (by decide) hN) hS6 rfl (fun w h => .tail _ (iA_17 h)) (by decide) (.tail _ qA_176) rfl rfl dX3_takeWord_10 ?_
  refine lv_iconst (v := 1) hx hb dX3_takeWord_13 (by decide) ?_
  refine c_xvv (As := [.int 0, .int 1]) (rest := []) E G hA hX rfl hml (f_failAt_0 l hst D tys ad N S cI cJ cZ cMic cSrc cSt cAI cAJ hN ht0 ht2 hS0 hS1 hS3 hS4 hS5 hS6 hS656 hS658) (cwV 2 hts (gaV qA_293 qA_294 qA_295 qA_222 qA_296) rfl rfl rfl (by decide +kernel) ⟨Nat.le_of_ble_eq_true rfl, Nat.le_of_ble_eq_true rfl⟩) (Nat.lt_of_lt_of_le (by decide) hN) hS6 rfl rfl hl.1 rfl (lv_room (Nat.le_of_ble_eq_true rfl)) dX3_takeWord_14 ⟨Nat.le_of_ble_eq_true rfl, Nat.le_of_ble_eq_true rfl⟩ (fun E9 ce q9 S4 H locs hp G hce hcv hcl => ?_) (fun S4 H locs hq G => hq.elim)
  have hp : E9 = xIAE := hp
  subst hp
  exact vx_out (fun x hx => (htab x hx).elim) hlocks hce hcv hcl (fun t ht hvm => ⟨S4, trivial, ⟨rfl, by rw [ht]; exact G.1, va_K.moved hvm hK, G.2.1⟩, G.2.2.F ht⟩) G.2.2.2.2 (Nat.le_refl _) (Nat.le_refl _)
set_option maxHeartbeats 4000000 in
set_option maxRecDepth 100000 in
theorem f_parseHead_0 (l : Launch) (hst : l.stackTraces = false) (D : va_G) (tys : List (ClassId × FieldType)) (ad : Nat → Nat) (N : Nat) (S : Nat → va_E) (cI cJ cZ cMic cSrc cSt cAI cAJ : ClassId) (hN : 1586 ≤ N) (ht0 : tys[0]? = some (cI, .int)) (ht2 : tys[2]? = some (cZ, .boolean)) (hS0 : S 0 = .inr (11, [.ref (ad 1), .ref (ad 6), .ref (ad 7), .ref (ad 22), .ref (ad 66), .ref (ad 154), .ref (ad 242), .ref (ad 336), .ref (ad 430), .ref (ad 431), .ref (ad 432), .ref (ad 433), .ref (ad 434), .ref (ad 477), .ref (ad 478), .ref (ad 656), .int 0, .int 0, .int 0])) (hS1 : S 1 = .inr (9, [.ref (ad 2), .int 0, .ref (ad 3), .ref (ad 4), .ref (ad 5), .int 1])) (hS3 : S 3 = .inl (cI, 1001, .inl (upd (fun _ => 0) 0 5))) (hS4 : S 4 = .inl (cI, 1001, .inl (upd (fun _ => 0) 0 0))) (hS5 : S 5 = .inl (cI, 1001, .inl (upd (fun _ => 0) 0 0))) (hS6 : S 6 = .inr (3, [.ref (ad 1), .int 0, .int 0, .int (-1)])) (hS656 : S 656 = .inr (6, [.int 0, .int 0, .int 0, .int 0, .ref (ad 657), .int 0, .ref (ad 658), .ref (ad 666), .int 0, .ref (ad 667), .ref (ad 668), .int 0, .int 0, .ref (ad 669), .int 0, .ref (ad 670), .int 0, .ref (ad 671)])) (hS658 : S 658 = .inr (1, [.int 0, .int 0, .int 0, .int 0, .int 0, .ref (ad 659), .ref (ad 660), .int 0, .ref (ad 665)])) : cXv l yX3_parseHead (Cond.code yX3_parseHead cX3_parseHead 2 none :: wsA) 8 124 D tys ad N S [.ref (ad 6), .ref (ad 656)] (fun _ => False) (fun E u => E = xIAE) := by
  intro sz
  refine vx_ofW (cc := cX3_parseHead) (maxL := 2) (ret := none) (by decide) rfl ?_
  intro p e s m args below meth c s₁ B hml htab hv
  obtain ⟨rfl, hsz, hP, hK, hD0, hX⟩ := hv
  have hx := B.exec
  have hb := B.bytes
  have hr := B.returns
  have hts := atoms_spec (ws := (Cond.code yX3_parseHead cX3_parseHead 2 none :: wsA)) B.pre
  have hown : s.vm.findClass RX3 = some m.cls := findClass_of_methodNamed B.named
  have hlocks := B.notSynchronized
  subst hsz
  have hD := hD0.self (sz := s.heap.size)
  generalize hAe : va_A (cW ad N S) s.heap.size = A at hD hX ⊢
  have hA : ∀ q : Nat, s.heap.size ≤ q → A q := fun q h => by rw [← hAe]; exact Or.inr h
  have G : cG D ad N A s.heap s.heap [] S := ⟨hP, hD, va_S.rf⟩
  have E : cE p c cX3_parseHead s m ([.ref (ad 6), .ref (ad 656)] : List Value).toArray (Cond.code yX3_parseHead cX3_parseHead 2 none :: wsA) D RX3 tys := ⟨hx, hb, hts, hown, hK⟩
  have hl := lv_entry ([.ref (ad 6), .ref (ad 656)]) (n := 2) (Nat.le_of_ble_eq_true rfl)
  rw [lg_entry_eq]
  generalize (lg_sl ([.ref (ad 6), .ref (ad 656)]) ++ List.replicate (2 - (lg_sl ([.ref (ad 6), .ref (ad 656)])).length) Slot.unset).toArray = ls at hl ⊢
  have hl : lv_has ls 2 [(0, .ref (ad 6)), (1, .ref (ad 656))] := hl
  refine lv_aload_n hx hb dX3_parseHead_0 rfl (lv_at hl 0 rfl) ?_
  obtain ⟨w66, hw66⟩ := hX.2.2.2.2 ("AcousticCamera$Parser", 66, "camera") (List.mem_of_getElem? (i := 0) rfl)
  refine va_ldcS hx hb hown hw66 dX3_parseHead_1 ?_
  refine c_xvv (As := [.ref w66]) (rest := []) E G hA hX rfl hml (f_takeWord_0 l hst D tys ad N S cI cJ cZ cMic cSrc cSt cAI cAJ hN ht0 ht2 hS0 hS1 hS3 hS4 hS5 hS6 hS656 hS658 w66) (cwV 1 hts (gaV qA_228 qA_229 qA_230 qA_222 qA_231) rfl rfl rfl (by decide +kernel) ⟨Nat.le_of_ble_eq_true rfl, Nat.le_of_ble_eq_true rfl⟩) (Nat.lt_of_lt_of_le (by decide) hN) hS6 rfl rfl hl.1 rfl (lv_room (Nat.le_of_ble_eq_true rfl)) dX3_parseHead_3 ⟨Nat.le_of_ble_eq_true rfl, Nat.le_of_ble_eq_true rfl⟩ (fun E9 ce q9 S1 H locs hp G hce hcv hcl => ?_) (fun S1 H locs hq G => hq.elim)
  have hp : E9 = xIAE := hp
  subst hp
  exact vx_out (fun x hx => (htab x hx).elim) hlocks hce hcv hcl (fun t ht hvm => ⟨S1, trivial, ⟨rfl, by rw [ht]; exact G.1, va_K.moved hvm hK, G.2.1⟩, G.2.2.F ht⟩) G.2.2.2.2 (Nat.le_refl _) (Nat.le_refl _)
set_option maxHeartbeats 4000000 in
set_option maxRecDepth 100000 in
theorem f_parse_0 (l : Launch) (hst : l.stackTraces = false) (D : va_G) (tys : List (ClassId × FieldType)) (ad : Nat → Nat) (N : Nat) (S : Nat → va_E) (cI cJ cZ cMic cSrc cSt cAI cAJ : ClassId) (hN : 1586 ≤ N) (ht0 : tys[0]? = some (cI, .int)) (ht2 : tys[2]? = some (cZ, .boolean)) (hS0 : S 0 = .inr (11, [.ref (ad 1), .ref (ad 6), .ref (ad 7), .ref (ad 22), .ref (ad 66), .ref (ad 154), .ref (ad 242), .ref (ad 336), .ref (ad 430), .ref (ad 431), .ref (ad 432), .ref (ad 433), .ref (ad 434), .ref (ad 477), .ref (ad 478), .ref (ad 656), .int 0, .int 0, .int 0])) (hS1 : S 1 = .inr (9, [.ref (ad 2), .int 0, .ref (ad 3), .ref (ad 4), .ref (ad 5), .int 0])) (hS3 : S 3 = .inl (cI, 1001, .inl (fun _ => 0))) (hS4 : S 4 = .inl (cI, 1001, .inl (fun _ => 0))) (hS5 : S 5 = .inl (cI, 1001, .inl (fun _ => 0))) (hS6 : S 6 = .inr (3, [.ref (ad 1), .int 0, .int 0, .int (-1)])) (hS656 : S 656 = .inr (6, [.int 0, .int 0, .int 0, .int 0, .ref (ad 657), .int 0, .ref (ad 658), .ref (ad 666), .int 0, .ref (ad 667), .ref (ad 668), .int 0, .int 0, .ref (ad 669), .int 0, .ref (ad 670), .int 0, .ref (ad 671)])) (hS658 : S 658 = .inr (1, [.int 0, .int 0, .int 0, .int 0, .int 0, .ref (ad 659), .ref (ad 660), .int 0, .ref (ad 665)])) : cXv l yX3_parse (Cond.code yX3_parse cX3_parse 4 none :: wsA) 9 145 D tys ad N S [.ref (ad 6), .int 0, .ref (ad 656)] (fun _ => False) (fun E u => E = xIAE) := by
  intro sz
  refine vx_ofW (cc := cX3_parse) (maxL := 4) (ret := none) (by decide) rfl ?_
  intro p e s m args below meth c s₁ B hml htab hv
  obtain ⟨rfl, hsz, hP, hK, hD0, hX⟩ := hv
  have hx := B.exec
  have hb := B.bytes
  have hr := B.returns
  have hts := atoms_spec (ws := (Cond.code yX3_parse cX3_parse 4 none :: wsA)) B.pre
  have hown : s.vm.findClass RX3 = some m.cls := findClass_of_methodNamed B.named
  have hlocks := B.notSynchronized
  subst hsz
  have hD := hD0.self (sz := s.heap.size)
  generalize hAe : va_A (cW ad N S) s.heap.size = A at hD hX ⊢
  have hA : ∀ q : Nat, s.heap.size ≤ q → A q := fun q h => by rw [← hAe]; exact Or.inr h
  have G : cG D ad N A s.heap s.heap [] S := ⟨hP, hD, va_S.rf⟩
  have E : cE p c cX3_parse s m ([.ref (ad 6), .int 0, .ref (ad 656)] : List Value).toArray (Cond.code yX3_parse cX3_parse 4 none :: wsA) D RX3 tys := ⟨hx, hb, hts, hown, hK⟩
  have hl := lv_entry ([.ref (ad 6), .int 0, .ref (ad 656)]) (n := 4) (Nat.le_of_ble_eq_true rfl)
  rw [lg_entry_eq]
  generalize (lg_sl ([.ref (ad 6), .int 0, .ref (ad 656)]) ++ List.replicate (4 - (lg_sl ([.ref (ad 6), .int 0, .ref (ad 656)])).length) Slot.unset).toArray = ls at hl ⊢
  have hl : lv_has ls 4 [(0, .ref (ad 6)), (1, .int 0), (2, .ref (ad 656))] := hl
  refine lv_aload_n hx hb dX3_parse_0 rfl (lv_at hl 0 rfl) ?_
  refine c_get E G 6 0 (Nat.lt_of_lt_of_le (by decide) hN) hS6 rfl (fun w h => .tail _ (iA_17 h)) (by decide) (.tail _ qA_174) rfl rfl dX3_parse_1 ?_
  refine lv_iload_n hx hb dX3_parse_4 rfl (lv_at hl 1 rfl) ?_
  refine c_cvv (As := [.int 0]) (rest := []) E G hA hX rfl hml (f_cut_0 l hst D tys ad N S cI cJ cZ cMic cSrc cSt cAI cAJ hN ht0 ht2 hS0 hS1 hS3 hS4 hS5 hS6 hS656 hS658) (cwV 1 hts (gaV qA_182 qA_183 qA_184 qA_185 qA_186) rfl rfl rfl (by decide +kernel) ⟨Nat.le_of_ble_eq_true rfl, Nat.le_of_ble_eq_true rfl⟩) (Nat.lt_of_lt_of_le (by decide) hN) hS1 rfl rfl hl.1 rfl (lv_room (Nat.le_of_ble_eq_true rfl)) dX3_parse_5 ⟨Nat.le_of_ble_eq_true rfl, Nat.le_of_ble_eq_true rfl⟩ (fun S1 H locs hq G => ?_)
  obtain ⟨hS0, hS1, hS3, hS4, hS5, hS6, hS656, hS658⟩ := hq
  refine lv_aload_n hx hb dX3_parse_8 rfl (lv_at hl 0 rfl) ?_
  refine lv_iconst (v := 0) hx hb dX3_parse_9 (by decide) ?_
  refine c_put E G 6 1 (Nat.lt_of_lt_of_le (by decide) hN) hS6 rfl (fun w h => .tail _ (iA_17 h)) tyX3 tyX3_ok nmX3 (by decide) (.tail _ qA_176) ⟨rfl, rfl, rfl⟩ rfl rfl (Nat.le_of_ble_eq_true rfl) dX3_parse_10 (fun H locs G => ?_)
  have G : cG D ad N A s.heap H locs (va_up S1 6 (.inr (3, [.ref (ad 1), .int 0, .int 0, .int (-1)]))) := G
  have hS0 := (va_up_ne S1 (.inr (3, [.ref (ad 1), .int 0, .int 0, .int (-1)]) : va_E) (show 0 ≠ 6 by decide)).trans hS0
  have hS1 := (va_up_ne S1 (.inr (3, [.ref (ad 1), .int 0, .int 0, .int (-1)]) : va_E) (show 1 ≠ 6 by decide)).trans hS1
  have hS3 := (va_up_ne S1 (.inr (3, [.ref (ad 1), .int 0, .int 0, .int (-1)]) : va_E) (show 3 ≠ 6 by decide)).trans hS3
  have hS4 := (va_up_ne S1 (.inr (3, [.ref (ad 1), .int 0, .int 0, .int (-1)]) : va_E) (show 4 ≠ 6 by decide)).trans hS4
  have hS5 := (va_up_ne S1 (.inr (3, [.ref (ad 1), .int 0, .int 0, .int (-1)]) : va_E) (show 5 ≠ 6 by decide)).trans hS5
  have hS6 := va_up_self S1 6 (.inr (3, [.ref (ad 1), .int 0, .int 0, .int (-1)]) : va_E)
  have hS656 := (va_up_ne S1 (.inr (3, [.ref (ad 1), .int 0, .int 0, .int (-1)]) : va_E) (show 656 ≠ 6 by decide)).trans hS656
  have hS658 := (va_up_ne S1 (.inr (3, [.ref (ad 1), .int 0, .int 0, .int (-1)]) : va_E) (show 658 ≠ 6 by decide)).trans hS658
  generalize va_up S1 6 (.inr (3, [.ref (ad 1), .int 0, .int 0, .int (-1)])) = S3 at G hS0 hS1 hS3 hS4 hS5 hS6 hS656 hS658
  refine lv_aload_n hx hb dX3_parse_13 rfl (lv_at hl 2 rfl) ?_
  refine c_cvv (As := []) (rest := []) E G hA hX rfl hml (f_sclear l hst D tys ad N S3 cI cJ cZ cMic cSrc cSt cAI cAJ hN ht0 ht2 hS0 hS1 hS3 hS4 hS5 hS6 hS656 hS658) (cwV 0 hts (gaV qA_204 qA_205 qA_206 qA_207 qA_208) rfl rfl rfl (by decide +kernel) ⟨Nat.le_of_ble_eq_true rfl, Nat.le_of_ble_eq_true rfl⟩) (Nat.lt_of_lt_of_le (by decide) hN) hS656 rfl rfl hl.1 rfl (lv_room (Nat.le_of_ble_eq_true rfl)) dX3_parse_14 ⟨Nat.le_of_ble_eq_true rfl, Nat.le_of_ble_eq_true rfl⟩ (fun S4 H locs hq G => ?_)
  obtain ⟨hS0, hS1, hS3, hS4, hS5, hS6, hS656, hS658⟩ := hq
  refine lv_aload_n hx hb dX3_parse_17 rfl (lv_at hl 0 rfl) ?_
  refine lv_aload_n hx hb dX3_parse_18 rfl (lv_at hl 2 rfl) ?_
  refine c_xvv (As := [.ref (ad 656)]) (rest := []) E G hA hX rfl hml (f_parseHead_0 l hst D tys ad N S4 cI cJ cZ cMic cSrc cSt cAI cAJ hN ht0 ht2 hS0 hS1 hS3 hS4 hS5 hS6 hS656 hS658) (cwV 1 hts (gaV qA_219 qA_220 qA_221 qA_222 qA_223) rfl rfl rfl (by decide +kernel) ⟨Nat.le_of_ble_eq_true rfl, Nat.le_of_ble_eq_true rfl⟩) (Nat.lt_of_lt_of_le (by decide) hN) hS6 rfl rfl hl.1 rfl (lv_room (Nat.le_of_ble_eq_true rfl)) dX3_parse_19 ⟨Nat.le_of_ble_eq_true rfl, Nat.le_of_ble_eq_true rfl⟩ (fun E9 ce q9 S6 H locs hp G hce hcv hcl => ?_) (fun S6 H locs hq G => hq.elim)
  have hp : E9 = xIAE := hp
  subst hp
  exact vx_out (fun x hx => (htab x hx).elim) hlocks hce hcv hcl (fun t ht hvm => ⟨S6, trivial, ⟨rfl, by rw [ht]; exact G.1, va_K.moved hvm hK, G.2.1⟩, G.2.2.F ht⟩) G.2.2.2.2 (Nat.le_refl _) (Nat.le_refl _)
set_option maxHeartbeats 4000000 in
set_option maxRecDepth 100000 in
theorem f_load_0 (l : Launch) (hst : l.stackTraces = false) (D : va_G) (tys : List (ClassId × FieldType)) (ad : Nat → Nat) (N : Nat) (S : Nat → va_E) (cI cJ cZ cMic cSrc cSt cAI cAJ : ClassId) (hN : 1586 ≤ N) (ht0 : tys[0]? = some (cI, .int)) (ht2 : tys[2]? = some (cZ, .boolean)) (hS0 : S 0 = .inr (11, [.ref (ad 1), .ref (ad 6), .ref (ad 7), .ref (ad 22), .ref (ad 66), .ref (ad 154), .ref (ad 242), .ref (ad 336), .ref (ad 430), .ref (ad 431), .ref (ad 432), .ref (ad 433), .ref (ad 434), .ref (ad 477), .ref (ad 478), .ref (ad 656), .int 0, .int 0, .int 0])) (hS1 : S 1 = .inr (9, [.ref (ad 2), .int 0, .ref (ad 3), .ref (ad 4), .ref (ad 5), .int 0])) (hS3 : S 3 = .inl (cI, 1001, .inl (fun _ => 0))) (hS4 : S 4 = .inl (cI, 1001, .inl (fun _ => 0))) (hS5 : S 5 = .inl (cI, 1001, .inl (fun _ => 0))) (hS6 : S 6 = .inr (3, [.ref (ad 1), .int 0, .int 0, .int (-1)])) (hS656 : S 656 = .inr (6, [.int 0, .int 0, .int 0, .int 0, .ref (ad 657), .int 0, .ref (ad 658), .ref (ad 666), .int 0, .ref (ad 667), .ref (ad 668), .int 0, .int 0, .ref (ad 669), .int 0, .ref (ad 670), .int 0, .ref (ad 671)])) (hS658 : S 658 = .inr (1, [.int 0, .int 0, .int 0, .int 0, .int 0, .ref (ad 659), .ref (ad 660), .int 0, .ref (ad 665)])) : cXi l yX11_load (Cond.code yX11_load cX11_load 3 (some .int) :: wsA) 10 168 D tys ad N S [.ref (ad 0), .int 0] (fun _ _ => False) (fun E u => E = xIAE) := by
  intro sz
  refine vx_ofW (cc := cX11_load) (maxL := 3) (ret := (some .int)) (by decide) rfl ?_
  intro p e s m args below meth c s₁ B hml htab hv
  obtain ⟨rfl, hsz, hP, hK, hD0, hX⟩ := hv
  have hx := B.exec
  have hb := B.bytes
  have hr := B.returns
  have hts := atoms_spec (ws := (Cond.code yX11_load cX11_load 3 (some .int) :: wsA)) B.pre
  have hown : s.vm.findClass RX11 = some m.cls := findClass_of_methodNamed B.named
  have hlocks := B.notSynchronized
  subst hsz
  have hD := hD0.self (sz := s.heap.size)
  generalize hAe : va_A (cW ad N S) s.heap.size = A at hD hX ⊢
  have hA : ∀ q : Nat, s.heap.size ≤ q → A q := fun q h => by rw [← hAe]; exact Or.inr h
  have G : cG D ad N A s.heap s.heap [] S := ⟨hP, hD, va_S.rf⟩
  have E : cE p c cX11_load s m ([.ref (ad 0), .int 0] : List Value).toArray (Cond.code yX11_load cX11_load 3 (some .int) :: wsA) D RX11 tys := ⟨hx, hb, hts, hown, hK⟩
  have hl := lv_entry ([.ref (ad 0), .int 0]) (n := 3) (Nat.le_of_ble_eq_true rfl)
  rw [lg_entry_eq]
  generalize (lg_sl ([.ref (ad 0), .int 0]) ++ List.replicate (3 - (lg_sl ([.ref (ad 0), .int 0])).length) Slot.unset).toArray = ls at hl ⊢
  have hl : lv_has ls 3 [(0, .ref (ad 0)), (1, .int 0)] := hl
  refine lv_iload_n hx hb dX11_load_0 rfl (lv_at hl 1 rfl) ?_
  refine lv_if_lt (tgt := 15) hx hb dX11_load_1 (by decide) (fun c1 => absurd c1 (by decide +kernel)) (fun c1 => ?_)
  refine lv_iload_n hx hb dX11_load_4 rfl (lv_at hl 1 rfl) ?_
  refine lv_aload_n hx hb dX11_load_5 rfl (lv_at hl 0 rfl) ?_
  refine c_get E G 0 0 (Nat.lt_of_lt_of_le (by decide) hN) hS0 rfl (fun w h => .tail _ (iA_23 h)) (by decide) (.tail _ qA_648) rfl rfl dX11_load_6 ?_
  refine c_get E G 1 1 (Nat.lt_of_lt_of_le (by decide) hN) hS1 rfl (fun w h => .tail _ (iA_18 h)) (by decide) (.tail _ qA_688) rfl rfl dX11_load_9 ?_
  refine lv_icmp_le (tgt := 23) hx hb dX11_load_12 (by decide) (fun c2 => ?_) (fun c2 => absurd (by decide +kernel) c2)
  refine lv_aload_n hx hb dX11_load_23 rfl (lv_at hl 0 rfl) ?_
  refine c_get E G 0 0 (Nat.lt_of_lt_of_le (by decide) hN) hS0 rfl (fun w h => .tail _ (iA_23 h)) (by decide) (.tail _ qA_648) rfl rfl dX11_load_24 ?_
  refine lv_iconst (v := 0) hx hb dX11_load_27 (by decide) ?_
  refine c_put E G 1 1 (Nat.lt_of_lt_of_le (by decide) hN) hS1 rfl (fun w h => .tail _ (iA_18 h)) tyX9 tyX9_ok nmX9 (by decide) (.tail _ qA_688) ⟨rfl, rfl, rfl⟩ rfl rfl (Nat.le_of_ble_eq_true rfl) dX11_load_28 (fun H locs G => ?_)
  have G : cG D ad N A s.heap H locs (va_up S 1 (.inr (9, [.ref (ad 2), .int 0, .ref (ad 3), .ref (ad 4), .ref (ad 5), .int 0]))) := G
  have hS0 := (va_up_ne S (.inr (9, [.ref (ad 2), .int 0, .ref (ad 3), .ref (ad 4), .ref (ad 5), .int 0]) : va_E) (show 0 ≠ 1 by decide)).trans hS0
  have hS1 := va_up_self S 1 (.inr (9, [.ref (ad 2), .int 0, .ref (ad 3), .ref (ad 4), .ref (ad 5), .int 0]) : va_E)
  have hS3 := (va_up_ne S (.inr (9, [.ref (ad 2), .int 0, .ref (ad 3), .ref (ad 4), .ref (ad 5), .int 0]) : va_E) (show 3 ≠ 1 by decide)).trans hS3
  have hS4 := (va_up_ne S (.inr (9, [.ref (ad 2), .int 0, .ref (ad 3), .ref (ad 4), .ref (ad 5), .int 0]) : va_E) (show 4 ≠ 1 by decide)).trans hS4
  have hS5 := (va_up_ne S (.inr (9, [.ref (ad 2), .int 0, .ref (ad 3), .ref (ad 4), .ref (ad 5), .int 0]) : va_E) (show 5 ≠ 1 by decide)).trans hS5
  have hS6 := (va_up_ne S (.inr (9, [.ref (ad 2), .int 0, .ref (ad 3), .ref (ad 4), .ref (ad 5), .int 0]) : va_E) (show 6 ≠ 1 by decide)).trans hS6
  have hS656 := (va_up_ne S (.inr (9, [.ref (ad 2), .int 0, .ref (ad 3), .ref (ad 4), .ref (ad 5), .int 0]) : va_E) (show 656 ≠ 1 by decide)).trans hS656
  have hS658 := (va_up_ne S (.inr (9, [.ref (ad 2), .int 0, .ref (ad 3), .ref (ad 4), .ref (ad 5), .int 0]) : va_E) (show 658 ≠ 1 by decide)).trans hS658
  generalize va_up S 1 (.inr (9, [.ref (ad 2), .int 0, .ref (ad 3), .ref (ad 4), .ref (ad 5), .int 0])) = S3 at G hS0 hS1 hS3 hS4 hS5 hS6 hS656 hS658
  refine lv_aload_n hx hb dX11_load_31 rfl (lv_at hl 0 rfl) ?_
  refine c_get E G 0 1 (Nat.lt_of_lt_of_le (by decide) hN) hS0 rfl (fun w h => .tail _ (iA_23 h)) (by decide) (.tail _ qA_651) rfl rfl dX11_load_32 ?_
  refine lv_iload_n hx hb dX11_load_35 rfl (lv_at hl 1 rfl) ?_
  refine lv_aload_n hx hb dX11_load_36 rfl (lv_at hl 0 rfl) ?_
  refine c_get E G 0 15 (Nat.lt_of_lt_of_le (by decide) hN) hS0 rfl (fun w h => .tail _ (iA_23 h)) (by decide) (.tail _ qA_676) rfl rfl dX11_load_37 ?_
  refine c_xvv (As := [.int 0, .ref (ad 656)]) (rest := []) E G hA hX rfl hml (f_parse_0 l hst D tys ad N S3 cI cJ cZ cMic cSrc cSt cAI cAJ hN ht0 ht2 hS0 hS1 hS3 hS4 hS5 hS6 hS656 hS658) (cwV 2 hts (gaV qA_696 qA_697 qA_698 qA_222 qA_175) rfl rfl rfl (by decide +kernel) ⟨Nat.le_of_ble_eq_true rfl, Nat.le_of_ble_eq_true rfl⟩) (Nat.lt_of_lt_of_le (by decide) hN) hS6 rfl rfl hl.1 rfl (lv_room (Nat.le_of_ble_eq_true rfl)) dX11_load_40 ⟨Nat.le_of_ble_eq_true rfl, Nat.le_of_ble_eq_true rfl⟩ (fun E9 ce q9 S4 H locs hp G hce hcv hcl => ?_) (fun S4 H locs hq G => hq.elim)
  have hp : E9 = xIAE := hp
  subst hp
  exact vx_out (fun x hx => (htab x hx).elim) hlocks hce hcv hcl (fun t ht hvm => ⟨S4, trivial, ⟨rfl, by rw [ht]; exact G.1, va_K.moved hvm hK, G.2.1⟩, G.2.2.F ht⟩) G.2.2.2.2 (Nat.le_refl _) (Nat.le_refl _)
set_option maxHeartbeats 4000000 in
set_option maxRecDepth 100000 in
theorem w_load_0 (l : Launch) (hst : l.stackTraces = false) (D : va_G) (tys : List (ClassId × FieldType)) (ad : Nat → Nat) (N : Nat) (S : Nat → va_E) (cI cJ cZ cMic cSrc cSt cAI cAJ : ClassId) (hN : 1586 ≤ N) (ht0 : tys[0]? = some (cI, .int)) (ht2 : tys[2]? = some (cZ, .boolean)) (hS0 : S 0 = .inr (11, [.ref (ad 1), .ref (ad 6), .ref (ad 7), .ref (ad 22), .ref (ad 66), .ref (ad 154), .ref (ad 242), .ref (ad 336), .ref (ad 430), .ref (ad 431), .ref (ad 432), .ref (ad 433), .ref (ad 434), .ref (ad 477), .ref (ad 478), .ref (ad 656), .int 0, .int 0, .int 0])) (hS1 : S 1 = .inr (9, [.ref (ad 2), .int 0, .ref (ad 3), .ref (ad 4), .ref (ad 5), .int 0])) (hS3 : S 3 = .inl (cI, 1001, .inl (fun _ => 0))) (hS4 : S 4 = .inl (cI, 1001, .inl (fun _ => 0))) (hS5 : S 5 = .inl (cI, 1001, .inl (fun _ => 0))) (hS6 : S 6 = .inr (3, [.ref (ad 1), .int 0, .int 0, .int (-1)])) (hS656 : S 656 = .inr (6, [.int 0, .int 0, .int 0, .int 0, .ref (ad 657), .int 0, .ref (ad 658), .ref (ad 666), .int 0, .ref (ad 667), .ref (ad 668), .int 0, .int 0, .ref (ad 669), .int 0, .ref (ad 670), .int 0, .ref (ad 671)])) (hS658 : S 658 = .inr (1, [.int 0, .int 0, .int 0, .int 0, .int 0, .ref (ad 659), .ref (ad 660), .int 0, .ref (ad 665)])) (ao : Nat) : cWi l yL_load (Cond.codeWith yL_load cL_load 4 (some .int) [(0, 9, 12, 13), (0, 9, 15, 15)] :: wsA) 11 190 D tys ad N S [.ref (ad 0), .int 0, .ref ao] (fun r S1 => r = 2) := by
  intro sz
  refine va_MetW (cc := cL_load) (maxL := 4) (ret := some .int) (by decide) rfl ?_
  intro p e s m args below meth c s₁ B hml hv
  obtain ⟨rfl, hsz, hP, hK, hD0, hX, hN_xIAE_xIOB, hN_xISE_xIOB⟩ := hv
  have hx := B.exec
  have hb := B.bytes
  have hr := B.returns
  have hts := atoms_spec (ws := (Cond.codeWith yL_load cL_load 4 (some .int) [(0, 9, 12, 13), (0, 9, 15, 15)] :: wsA)) B.pre
  have hown : s.vm.findClass RL = some m.cls := findClass_of_methodNamed B.named
  have hlocks := B.notSynchronized
  have htb := vx_table (x := yL_load) B (hts _ (.head _))
  subst hsz
  have hD := hD0.self (sz := s.heap.size)
  generalize hAe : va_A (cW ad N S) s.heap.size = A at hD hX ⊢
  have hA : ∀ q : Nat, s.heap.size ≤ q → A q := fun q h => by rw [← hAe]; exact Or.inr h
  have G : cG D ad N A s.heap s.heap [] S := ⟨hP, hD, va_S.rf⟩
  have E : cE p c cL_load s m ([.ref (ad 0), .int 0, .ref ao] : List Value).toArray (Cond.codeWith yL_load cL_load 4 (some .int) [(0, 9, 12, 13), (0, 9, 15, 15)] :: wsA) D RL tys := ⟨hx, hb, hts, hown, hK⟩
  have hl := lv_entry ([.ref (ad 0), .int 0, .ref ao]) (n := 4) (Nat.le_of_ble_eq_true rfl)
  rw [lg_entry_eq]
  generalize (lg_sl ([.ref (ad 0), .int 0, .ref ao]) ++ List.replicate (4 - (lg_sl ([.ref (ad 0), .int 0, .ref ao])).length) Slot.unset).toArray = ls at hl ⊢
  have hl : lv_has ls 4 [(0, .ref (ad 0)), (1, .int 0), (2, .ref ao)] := hl
  refine lv_aload_n hx hb dL_load_0 rfl (lv_at hl 2 rfl) ?_
  refine lv_iconst (v := 0) hx hb dL_load_1 (by decide) ?_
  refine lv_aload_n hx hb dL_load_2 rfl (lv_at hl 0 rfl) ?_
  refine lv_iload_n hx hb dL_load_3 rfl (lv_at hl 1 rfl) ?_
  refine c_xvi (As := [.int 0]) (rest := [.int 0, .ref ao]) E G hA hX rfl hml (f_load_0 l hst D tys ad N S cI cJ cZ cMic cSrc cSt cAI cAJ hN ht0 ht2 hS0 hS1 hS3 hS4 hS5 hS6 hS656 hS658) (cwV 1 hts (gaV qA_948 qA_949 qA_950 qA_131 qA_692) rfl rfl rfl (by decide +kernel) ⟨Nat.le_of_ble_eq_true rfl, Nat.le_of_ble_eq_true rfl⟩) (Nat.lt_of_lt_of_le (by decide) hN) hS0 rfl rfl hl.1 rfl (lv_room (Nat.le_of_ble_eq_true rfl)) dL_load_4 ⟨Nat.le_of_ble_eq_true rfl, Nat.le_of_ble_eq_true rfl⟩ (fun E9 ce q9 S1 H locs hp G hce hcv hcl => ?_) (fun r S1 H locs hq G => hq.elim)
  have hp : E9 = xIAE := hp
  subst hp
  refine vx_catch (name := xIAE) hown [{ startPc := 0, endPc := 9, handlerPc := 12, catchType := 13 }] { startPc := 0, endPc := 9, handlerPc := 15, catchType := 15 } [] htb (List.forall_mem_cons.mpr ⟨Or.inr ⟨by decide, xIOB, hts _ (.tail _ qA_946), hN_xIAE_xIOB⟩, fun z hz => absurd hz List.not_mem_nil⟩) (by decide) (by decide) (hts _ (.tail _ qA_947)) (hX.use (.castable xIAE xIAE) (by decide +kernel)) hce hcv hcl ?_
  refine lv_astore_n (lv' := [(3, .ref q9), (0, .ref (ad 0)), (1, .int 0), (2, .ref ao)]) hx hb dL_load_15 rfl hl (by decide) rfl (fun ls hl => ?_)
  refine lv_iconst (v := 2) hx hb dL_load_16 (by decide) ?_
  exact W.iret (v := 2) hx hb hr (fun t ht hW => ⟨⟨2, S1, rfl, rfl, ⟨by rw [ht]; exact G.1, va_K.moved hW.alike hK, G.2.1⟩⟩, G.2.2.F ht⟩) G.2.2.2.2 dL_load_17
