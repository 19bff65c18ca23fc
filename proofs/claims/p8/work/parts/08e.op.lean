theorem dL_law_0 : decode cL_law 0 = .ok (.new 8, 3) := by decide +kernel
theorem dL_law_3 : decode cL_law 3 = .ok (.dup, 1) := by decide +kernel
theorem dL_law_4 : decode cL_law 4 = .ok (.invokespecial 189, 3) := by decide +kernel
theorem dL_law_7 : decode cL_law 7 = .ok (.astore_n 1, 1) := by decide +kernel
theorem dL_law_8 : decode cL_law 8 = .ok (.new 190, 3) := by decide +kernel
theorem dL_law_11 : decode cL_law 11 = .ok (.dup, 1) := by decide +kernel
theorem dL_law_12 : decode cL_law 12 = .ok (.invokespecial 192, 3) := by decide +kernel
theorem dL_law_15 : decode cL_law 15 = .ok (.astore_n 2, 1) := by decide +kernel
theorem dL_law_16 : decode cL_law 16 = .ok (.iconst 1, 1) := by decide +kernel
theorem dL_law_17 : decode cL_law 17 = .ok (.newarray .long, 2) := by decide +kernel
theorem dL_law_19 : decode cL_law 19 = .ok (.astore_n 3, 1) := by decide +kernel
theorem dL_law_20 : decode cL_law 20 = .ok (.iconst 1, 1) := by decide +kernel
theorem dL_law_21 : decode cL_law 21 = .ok (.newarray .double, 2) := by decide +kernel
theorem dL_law_23 : decode cL_law 23 = .ok (.astore 4, 2) := by decide +kernel
theorem dL_law_25 : decode cL_law 25 = .ok (.iconst 0, 1) := by decide +kernel
theorem dL_law_26 : decode cL_law 26 = .ok (.istore 5, 2) := by decide +kernel
theorem cat_z {α : Type} {f g : Nat → α} : cat 0 f g = g := by
  funext n
  rw [cat_hi (Nat.zero_le n), Nat.sub_zero]
set_option maxHeartbeats 8000000 in
set_option maxRecDepth 100000 in
theorem l_open {p : Program} {e : Env} {s : State} {m : MethodId} {below : List Frame} {meth : Method} {c : Code} (l : Launch) {b : Nat} {Q : State → Prop} (hx : p.tables.exec = Jvm.exec) (hb : c.code = code) (hml : c.maxLocals = 9) (hown : s.vm.findClass RL = some m.cls) (hts : ∀ w ∈ lw_tbl, w.before #[Value.ref b] s = true)
    (kk : ∀ (D : va_G) (cI cJ cZ cMic cSrc cSt cAI cAJ cD : ClassId) (ad am : Nat → Nat) (S : Nat → va_E) (ls : Array Slot) (H : Heap) (locs : List Loc), va_K D vwCl (CT cI cJ cZ cMic cSrc cSt cAI cAJ ++ [(cD, .double)]) s → (S 0 = iX11_0 cI cJ cZ cMic cSrc cSt cAI cAJ ad ∧ S 6 = iX11_6 cI cJ cZ cMic cSrc cSt cAI cAJ ad ∧ S 430 = iX11_430 cI cJ cZ cMic cSrc cSt cAI cAJ ad ∧ S 431 = iX11_431 cI cJ cZ cMic cSrc cSt cAI cAJ ad ∧ ∃ bs, BL cI cJ cZ cMic cSrc cSt cAI cAJ 21 ad S bs) → lG D (cat 1586 ad (fun n => bif Nat.beq n 0 then am 98 else am 99)) 1588 cI cJ cZ am (fun q => s.heap.size ≤ q) s.heap H locs (cat 1586 S (fun n => bif Nat.beq n 0 then .inl (cJ, 1, .inr (.inl (fun _ => 0))) else .inl (cD, 1, .inr (.inr (.inr (.inl (fun _ => 0))))))) mS0 → lv_has ls 9 [(5, .int 0), (4, .ref (am 99)), (3, .ref (am 98)), (2, .ref (am 0)), (1, .ref (ad 0)), (0, .ref b)] → W p l e room_1 s m #[Value.ref b] below meth c H locs 1605 82603 Q (F0 m 28 ls [])) :
    W p l e room_1 s m #[Value.ref b] below meth c s.heap [] 0 0 Q (entryFrame m ([Value.ref b] : List Value).toArray 9) := by
  obtain ⟨D, cI, cJ, cZ, cMic, cSrc, cSt, cAI, cAJ, cD, hK⟩ := l_K hts
  have hxs := l_nX hts
  have E : cE p c cL_law s m #[Value.ref b] lw_tbl D RL (CT cI cJ cZ cMic cSrc cSt cAI cAJ ++ [(cD, .double)]) := ⟨hx, hb, hts, hown, hK⟩
  have E1 : cE p c cL_law s m #[Value.ref b] lw_tbl D RL (CT cI cJ cZ cMic cSrc cSt cAI cAJ) := ⟨hx, hb, hts, hown, hK.sub [0, 1, 2, 3, 4, 5, 6, 7] rfl⟩
  have E2 : cE p c cL_law s m #[Value.ref b] lw_tbl D RL (MT cI cJ cZ) := ⟨hx, hb, hts, hown, hK.sub [0, 1, 2] rfl⟩
  have hA : ∀ q : Nat, s.heap.size ≤ q → s.heap.size ≤ q := fun _ h => h
  have G : cG D (fun _ => 0) 0 (fun q => s.heap.size ≤ q) s.heap s.heap [] (fun _ => .inr (0, [])) := ⟨fun k q h => (by cases h), ⟨fun i j p q h _ _ => (by cases h), fun k q h => (by cases h)⟩, va_S.rf⟩
  have hl := lv_entry ([.ref b]) (n := 9) (Nat.le_of_ble_eq_true rfl)
  rw [lg_entry_eq]
  generalize (lg_sl ([.ref b]) ++ List.replicate (9 - (lg_sl ([.ref b])).length) Slot.unset).toArray = ls at hl ⊢
  have hl : lv_has ls 9 [(0, .ref b)] := hl
  refine n_new E G hA (ci := 11) (fs := [.null, .null, .null, .null, .null, .null, .null, .null, .null, .null, .null, .null, .null, .null, .null, .null, .int 0, .int 0, .int 0]) tA_23 tyX11 tyX11_ok (t_of [Cond.classLink RL 8 RX11] [(1, 28)] (by decide +kernel) _ List.mem_cons_self) (t_of [Cond.instantiable RX11 19] [(1, 29)] (by decide +kernel) _ List.mem_cons_self) (t_of [Cond.initialized RX11] [(1, 1)] (by decide +kernel) _ List.mem_cons_self) rfl (by decide) (Nat.le_of_ble_eq_true rfl) (Nat.le_of_ble_eq_true rfl) dL_law_0 (fun q1 H G => ?_)
  refine lv_dup hx hb dL_law_3 rfl ?_
  refine n_init (N := 0) E1 G hA hxs nX.moved hml (n_X11 l D cI cJ cZ cMic cSrc cSt cAI cAJ) (cwI 0 hts (glA (L := []) (fun _ h => absurd h List.not_mem_nil) ⟨(t_of [Cond.code yX11_init cX11_init 2 none] [(1, 32)] (by decide +kernel) _ List.mem_cons_self), List.all_eq_true.mp (by decide +kernel : [Cond.code yX11_init cX11_init 2 none].all goodWord = true) _ List.mem_cons_self⟩) rfl rfl rfl (hts _ (t_of [Cond.initialized RX11] [(1, 1)] (by decide +kernel) _ List.mem_cons_self)) (hts _ (t_of [Cond.methodLink RL 189 yX11_init] [(1, 30)] (by decide +kernel) _ List.mem_cons_self)) (hts _ (t_of [Cond.instanceMethod yX11_init] [(1, 31)] (by decide +kernel) _ List.mem_cons_self)) rfl (by decide +kernel) ⟨Nat.le_of_ble_eq_true rfl, Nat.le_of_ble_eq_true rfl⟩) (cat_hi (Nat.le_refl _)) (cat_hi (Nat.le_refl _)) hl.1 (lv_room (Nat.le_of_ble_eq_true rfl)) dL_law_4 ⟨Nat.le_of_ble_eq_true rfl, Nat.le_of_ble_eq_true rfl⟩ (fun ad S H locs hb1 hT1 G => ?_)
  subst hb1
  rw [cat_cat, cat_cat] at G
  rw [cat_z, cat_z] at G
  refine lv_astore_n (lv' := [(1, .ref (ad 0)), (0, .ref b)]) hx hb dL_law_7 rfl hl (by decide) rfl (fun ls hl => ?_)
  refine n_new E G hA (ci := 12) (fs := [.int 0, .null, .int 0, .int 0, .int 0, .int 0, .int 0, .int 0, .int 0, .int 0, .null, .null, .null, .null, .null, .null, .null, .null, .null, .int 0, .int 0, .int 0, .int 0, .null, .null, .null, .null, .null, .int 0, .null]) tM_x tyX12 tyX12_ok (t_of [Cond.classLink RL 190 RX12] [(7, 208)] (by decide +kernel) _ List.mem_cons_self) (t_of [Cond.instantiable RX12 30] [(7, 209)] (by decide +kernel) _ List.mem_cons_self) (t_of [Cond.initialized RX12] [(1, 14)] (by decide +kernel) _ List.mem_cons_self) rfl (by decide) (Nat.le_of_ble_eq_true rfl) (Nat.le_of_ble_eq_true rfl) dL_law_8 (fun q2 H G => ?_)
  refine lv_dup hx hb dL_law_11 rfl ?_
  refine n_init (N := 1586) E2 G hA trivial (fun _ _ _ _ => trivial) hml (m_init l D cI cJ cZ) (cwI 0 hts (glM (L := []) (fun _ h => absurd h List.not_mem_nil) ⟨(t_of [Cond.code yX12_init cX12_init 1 none] [(7, 212)] (by decide +kernel) _ List.mem_cons_self), List.all_eq_true.mp (by decide +kernel : [Cond.code yX12_init cX12_init 1 none].all goodWord = true) _ List.mem_cons_self⟩) rfl rfl rfl (hts _ (t_of [Cond.initialized RX12] [(1, 14)] (by decide +kernel) _ List.mem_cons_self)) (hts _ (t_of [Cond.methodLink RL 192 yX12_init] [(7, 210)] (by decide +kernel) _ List.mem_cons_self)) (hts _ (t_of [Cond.instanceMethod yX12_init] [(7, 211)] (by decide +kernel) _ List.mem_cons_self)) rfl (by decide +kernel) ⟨Nat.le_of_ble_eq_true rfl, Nat.le_of_ble_eq_true rfl⟩) (cat_hi (Nat.le_refl _)) (cat_hi (Nat.le_refl _)) hl.1 (lv_room (Nat.le_of_ble_eq_true rfl)) dL_law_12 ⟨Nat.le_of_ble_eq_true rfl, Nat.le_of_ble_eq_true rfl⟩ (fun b2 T H locs hb2 hT2 G => ?_)
  subst hb2
  rw [cat_cat, cat_cat] at G
  refine lv_astore_n (lv' := [(2, .ref (b2 0)), (1, .ref (ad 0)), (0, .ref b)]) hx hb dL_law_15 rfl hl (by decide) rfl (fun ls hl => ?_)
  refine lv_iconst (v := 1) hx hb dL_law_16 (by decide) ?_
  refine n_newl E G hA 1 (K := 1) (t_of [Cond.arrayClass .long] [(1, 183)] (by decide +kernel) _ List.mem_cons_self) rfl rfl (by decide) (Nat.le_of_ble_eq_true rfl) (Nat.le_of_ble_eq_true rfl) dL_law_17 (fun q3 H G => ?_)
  refine lv_astore_n (lv' := [(3, .ref q3), (2, .ref (b2 0)), (1, .ref (ad 0)), (0, .ref b)]) hx hb dL_law_19 rfl hl (by decide) rfl (fun ls hl => ?_)
  refine lv_iconst (v := 1) hx hb dL_law_20 (by decide) ?_
  refine va_newa (atype := .double) (ty := .double) E.1 E.2.1 (E.2.2.1 _ (t_of [Cond.arrayClass .double] [(10, 213)] (by decide +kernel) _ List.mem_cons_self)) rfl E.2.2.2.2 G.1 G.2.1 G.2.2 hA (a0 := (1, .inr (.inr (.inr (.inl (fun _ => 0)))))) (fun _ => rfl) (by decide) (by decide) (by decide) (Nat.le_of_ble_eq_true rfl) (Nat.le_of_ble_eq_true rfl) dL_law_21 (fun q4 cB H k1 g1 g2 g3 => ?_)
  have e4 : cB = cD := Option.some.inj ((va_nm_double (k1.2 9 (cB, .double) rfl).2).symm.trans (va_nm_double (hK.2 8 _ rfl).2))
  subst e4
  have G := cG_push g1 g2 g3
  refine lv_astore (lv' := [(4, .ref q4), (3, .ref q3), (2, .ref (b2 0)), (1, .ref (ad 0)), (0, .ref b)]) hx hb dL_law_23 hl (by decide) rfl (fun ls hl => ?_)
  refine lv_iconst (v := 0) hx hb dL_law_25 (by decide) ?_
  refine lv_istore (lv' := [(5, .int 0), (4, .ref q4), (3, .ref q3), (2, .ref (b2 0)), (1, .ref (ad 0)), (0, .ref b)]) hx hb dL_law_26 hl (by decide) rfl (fun ls hl => ?_)
  have e5 : ∀ {α : Type} (f : Nat → α) (x y : α), cat 1604 (cat 1603 f (fun _ => x)) (fun _ => y) = cat 1603 f (fun n => bif Nat.beq n 0 then x else y) := by
    intro α f x y
    funext n
    by_cases h1 : n < 1603
    · rw [cat_lo (Nat.lt_succ_of_lt h1), cat_lo h1, cat_lo h1]
    · by_cases h2 : n < 1604
      · rw [cat_lo h2, cat_hi (Nat.not_lt.mp h1), cat_hi (Nat.not_lt.mp h1), show n - 1603 = 0 by omega]
        rfl
      · rw [cat_hi (Nat.not_lt.mp h2), cat_hi (Nat.not_lt.mp h1)]
        obtain ⟨k, hk⟩ : ∃ k, n - 1603 = k + 1 := ⟨n - 1604, by omega⟩
        rw [hk]
        rfl
  rw [e5, e5] at G
  have G := l_turn (K := 2) (am := va_up (va_up (mAd b2) 98 q3) 99 q4) (by rw [hT2]; rfl) G
  exact kk D cI cJ cZ cMic cSrc cSt cAI cAJ _ ad (va_up (va_up (mAd b2) 98 q3) 99 q4) S ls H locs hK hT1 G hl
