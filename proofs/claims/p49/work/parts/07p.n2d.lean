set_option maxHeartbeats 8000000 in
set_option maxRecDepth 100000 in
theorem n_X10_7200 (l : Launch) (D : va_G) (cI cJ cZ cMic cSrc cSt cAI cAJ : ClassId) : cNA l yX10_init (Cond.code yX10_init cX10_init 2 none :: wsA) 1 21 42 7240 D (CT cI cJ cZ cMic cSrc cSt cAI cAJ) nX 10 [.int 0, .null, .int 0] 43 [.int 7200] (fun b T => ∀ n, n < 43 → T n = iX10_7200 cI cJ cZ cMic cSrc cSt cAI cAJ b n) := by
  intro h sz
  refine Met.ofW (cc := cX10_init) (maxL := 2) (ret := none) (by decide) rfl ?_
  intro p e s m args below meth c s₁ B hml hv
  obtain ⟨rfl, hsz, hP, hK, hD0, hxs⟩ := hv
  have hx := B.exec
  have hb := B.bytes
  have hr := B.returns
  have hts := atoms_spec (ws := (Cond.code yX10_init cX10_init 2 none :: wsA)) B.pre
  have hown : s.vm.findClass RX10 = some m.cls := findClass_of_methodNamed B.named
  have hlocks := B.notSynchronized
  have hin : meth.name = "<init>" := (name_of_methodNamed B.named B.method).1
  subst hsz
  have hD := hD0.self (sz := s.heap.size)
  generalize hAe : va_A (cW (fun _ => h) 1 (fun _ => .inr (10, [.int 0, .null, .int 0]))) s.heap.size = A at hD ⊢
  have hA : ∀ q : Nat, s.heap.size ≤ q → A q := fun q h => by rw [← hAe]; exact Or.inr h
  have G : cG D (fun _ => h) 1 A s.heap s.heap [] (fun _ => .inr (10, [.int 0, .null, .int 0])) := ⟨hP, hD, va_S.rf⟩
  have E : cE p c cX10_init s m ([.ref h, .int 7200] : List Value).toArray (Cond.code yX10_init cX10_init 2 none :: wsA) D RX10 (CT cI cJ cZ cMic cSrc cSt cAI cAJ) := ⟨hx, hb, hts, hown, hK⟩
  have hl := lv_entry ([.ref h, .int 7200]) (n := 2) (Nat.le_of_ble_eq_true rfl)
  rw [lg_entry_eq]
  generalize (lg_sl ([.ref h, .int 7200]) ++ List.replicate (2 - (lg_sl ([.ref h, .int 7200])).length) Slot.unset).toArray = ls at hl ⊢
  have hl : lv_has ls 2 [(0, .ref h), (1, .int 7200)] := hl
  refine lv_aload_n hx hb dX10_init_0 rfl (lv_at hl 0 rfl) ?_
  refine W.objInit hx hb hown (hts _ (.tail _ qA_11)) (hts _ (.tail _ qA_2)) (hts _ (.tail _ qA_3)) rfl (by rw [hml]; exact hl.1) rfl dX10_init_1 (Nat.le_of_ble_eq_true rfl) (Nat.le_of_ble_eq_true rfl) ?_
  refine W.eq (g2 := F0 m 4 ls []) rfl ?_
  refine lv_aload_n hx hb dX10_init_4 rfl (lv_at hl 0 rfl) ?_
  refine lv_bipush (v := 40) hx hb dX10_init_5 (by decide) ?_
  refine lv_iconst (v := 0) hx hb dX10_init_7 (by decide) ?_
  refine n_mna E G hA 7 1 (ty := .long) (M := 40) (K := 0) (z := (0, .inr (.inl (fun _ => 0)))) (.tail _ qA_12) hxs.2.2.2.2.1 (.tail _ qA_13) (va_nm_long (hK.2 1 _ rfl).2) rfl rfl rfl (by decide) (by decide) (by decide) rfl rfl (fun c => n_hzJ 0 c) (Nat.le_of_ble_eq_true rfl) (Nat.le_of_ble_eq_true rfl) dX10_init_8 (fun q1 r2 H G => ?_)
  have G : cG D (cat 2 (cat 1 (fun _ => h) (fun _ => q1)) r2) 42 A s.heap H [] (cat 2 (cat 1 (fun _ => .inr (10, [.int 0, .null, .int 0])) (fun _ => .inl (cAJ, 40, .inr (.inr (.inr (.inr (fun i => if i < 40 then some (r2 i) else none))))))) (fun _ => .inl (cJ, 0, .inr (.inl (fun _ => 0))))) := G
  refine n_putF E G 0 1 h (fs := [.int 0, .null, .int 0]) (fs1 := [.int 0, .ref q1, .int 0]) (by decide) rfl rfl rfl (fun w h => .tail _ (iA_12 h)) tyX10 tyX10_ok nmX10 (by decide) (.tail _ qA_14) ⟨rfl, rfl, rfl⟩ hin rfl rfl rfl (Nat.le_of_ble_eq_true rfl) rfl dX10_init_12 (fun H locs G => ?_)
  have G : cG D (cat 2 (cat 1 (fun _ => h) (fun _ => q1)) r2) 42 A s.heap H locs (va_up (cat 2 (cat 1 (fun _ => .inr (10, [.int 0, .null, .int 0])) (fun _ => .inl (cAJ, 40, .inr (.inr (.inr (.inr (fun i => if i < 40 then some (r2 i) else none))))))) (fun _ => .inl (cJ, 0, .inr (.inl (fun _ => 0))))) 0 (.inr (10, [.int 0, .ref q1, .int 0]))) := G
  refine lv_aload_n hx hb dX10_init_15 rfl (lv_at hl 0 rfl) ?_
  refine lv_iconst (v := 1) hx hb dX10_init_16 (by decide) ?_
  refine n_put E G 0 2 h (fs := [.int 0, .ref q1, .int 0]) (fs1 := [.int 0, .ref q1, .int 1]) (by decide) rfl rfl rfl (fun w h => .tail _ (iA_12 h)) tyX10 tyX10_ok nmX10 (by decide) (.tail _ qA_15) ⟨rfl, rfl, rfl⟩ rfl rfl (Nat.le_of_ble_eq_true rfl) rfl dX10_init_17 (fun H locs G => ?_)
  have G : cG D (cat 2 (cat 1 (fun _ => h) (fun _ => q1)) r2) 42 A s.heap H locs (va_up (va_up (cat 2 (cat 1 (fun _ => .inr (10, [.int 0, .null, .int 0])) (fun _ => .inl (cAJ, 40, .inr (.inr (.inr (.inr (fun i => if i < 40 then some (r2 i) else none))))))) (fun _ => .inl (cJ, 0, .inr (.inl (fun _ => 0))))) 0 (.inr (10, [.int 0, .ref q1, .int 0]))) 0 (.inr (10, [.int 0, .ref q1, .int 1]))) := G
  refine lv_aload_n hx hb dX10_init_20 rfl (lv_at hl 0 rfl) ?_
  refine lv_iload_n hx hb dX10_init_21 rfl (lv_at hl 1 rfl) ?_
  refine lv_iconst (v := 0) hx hb dX10_init_22 (by decide) ?_
  refine va_mmax hx hb (hml.trans hl.1.symm) hown (hts _ (.tail _ qA_16)) (hts _ (.tail _ qA_17)) (hts _ (.tail _ qA_18)) (hts _ (.tail _ qA_19)) (Nat.le_of_ble_eq_true rfl) (Nat.le_of_ble_eq_true rfl) (Nat.le_of_ble_eq_true rfl) (Nat.le_of_ble_eq_true rfl) dX10_init_23 ?_
  refine lv_to (y := 7200) (by decide +kernel) ?_
  refine n_putF E G 0 0 h (fs := [.int 0, .ref q1, .int 1]) (fs1 := [.int 7200, .ref q1, .int 1]) (by decide) rfl rfl rfl (fun w h => .tail _ (iA_12 h)) tyX10 tyX10_ok nmX10 (by decide) (.tail _ qA_20) ⟨rfl, rfl, rfl⟩ hin rfl rfl rfl (Nat.le_of_ble_eq_true rfl) rfl dX10_init_26 (fun H locs G => ?_)
  have G : cG D (cat 2 (cat 1 (fun _ => h) (fun _ => q1)) r2) 42 A s.heap H locs (va_up (va_up (va_up (cat 2 (cat 1 (fun _ => .inr (10, [.int 0, .null, .int 0])) (fun _ => .inl (cAJ, 40, .inr (.inr (.inr (.inr (fun i => if i < 40 then some (r2 i) else none))))))) (fun _ => .inl (cJ, 0, .inr (.inl (fun _ => 0))))) 0 (.inr (10, [.int 0, .ref q1, .int 0]))) 0 (.inr (10, [.int 0, .ref q1, .int 1]))) 0 (.inr (10, [.int 7200, .ref q1, .int 1]))) := G
  refine lv_aload_n hx hb dX10_init_29 rfl (lv_at hl 0 rfl) ?_
  refine n_getr E G 0 1 h (fs := [.int 7200, .ref q1, .int 1]) (by decide) rfl rfl rfl (fun w h => .tail _ (iA_12 h)) (by decide) (.tail _ qA_14) rfl rfl dX10_init_30 ?_
  refine lv_iconst (v := 0) hx hb dX10_init_33 (by decide) ?_
  refine lv_iload_n hx hb dX10_init_34 rfl (lv_at hl 1 rfl) ?_
  refine lv_iconst (v := 0) hx hb dX10_init_35 (by decide) ?_
  refine va_mmax hx hb (hml.trans hl.1.symm) hown (hts _ (.tail _ qA_16)) (hts _ (.tail _ qA_17)) (hts _ (.tail _ qA_18)) (hts _ (.tail _ qA_19)) (Nat.le_of_ble_eq_true rfl) (Nat.le_of_ble_eq_true rfl) (Nat.le_of_ble_eq_true rfl) (Nat.le_of_ble_eq_true rfl) dX10_init_36 ?_
  refine lv_to (y := 7200) (by decide +kernel) ?_
  refine n_newl E G hA 1 (K := 7200) (.tail _ qA_13) rfl rfl (by decide) (Nat.le_of_ble_eq_true rfl) (Nat.le_of_ble_eq_true rfl) dX10_init_39 (fun q3 H G => ?_)
  have G : cG D (cat 42 (cat 2 (cat 1 (fun _ => h) (fun _ => q1)) r2) (fun _ => q3)) 43 A s.heap H locs (cat 42 (va_up (va_up (va_up (cat 2 (cat 1 (fun _ => .inr (10, [.int 0, .null, .int 0])) (fun _ => .inl (cAJ, 40, .inr (.inr (.inr (.inr (fun i => if i < 40 then some (r2 i) else none))))))) (fun _ => .inl (cJ, 0, .inr (.inl (fun _ => 0))))) 0 (.inr (10, [.int 0, .ref q1, .int 0]))) 0 (.inr (10, [.int 0, .ref q1, .int 1]))) 0 (.inr (10, [.int 7200, .ref q1, .int 1]))) (fun _ => .inl (cJ, 7200, .inr (.inl (fun _ => 0))))) := G
  refine n_asta E G 1 7 42 (ty := .long) (k := 0) (f := (fun i => if i < 40 then some (r2 i) else none)) (by decide) rfl rfl rfl hxs.2.2.2.2.1 (va_nm_long (hK.2 1 _ rfl).2) (by decide) rfl rfl rfl (by decide) (by decide) dX10_init_41 (fun H locs G => ?_)
  have G : cG D (cat 42 (cat 2 (cat 1 (fun _ => h) (fun _ => q1)) r2) (fun _ => q3)) 43 A s.heap H locs (va_up (cat 42 (va_up (va_up (va_up (cat 2 (cat 1 (fun _ => .inr (10, [.int 0, .null, .int 0])) (fun _ => .inl (cAJ, 40, .inr (.inr (.inr (.inr (fun i => if i < 40 then some (r2 i) else none))))))) (fun _ => .inl (cJ, 0, .inr (.inl (fun _ => 0))))) 0 (.inr (10, [.int 0, .ref q1, .int 0]))) 0 (.inr (10, [.int 0, .ref q1, .int 1]))) 0 (.inr (10, [.int 7200, .ref q1, .int 1]))) (fun _ => .inl (cJ, 7200, .inr (.inl (fun _ => 0))))) 1 (.inl (cAJ, 40, .inr (.inr (.inr (.inr (va_up (fun i => if i < 40 then some (r2 i) else none) 0 (some q3)))))))) := G
  refine W.widen (k := 42) (n := 7240) (Nat.le_of_ble_eq_true rfl) (Nat.le_of_ble_eq_true rfl) ?_
  have hpost : ∀ n, n < 43 → (va_up (cat 42 (va_up (va_up (va_up (cat 2 (cat 1 (fun _ => .inr (10, [.int 0, .null, .int 0])) (fun _ => .inl (cAJ, 40, .inr (.inr (.inr (.inr (fun i => if i < 40 then some (r2 i) else none))))))) (fun _ => .inl (cJ, 0, .inr (.inl (fun _ => 0))))) 0 (.inr (10, [.int 0, .ref q1, .int 0]))) 0 (.inr (10, [.int 0, .ref q1, .int 1]))) 0 (.inr (10, [.int 7200, .ref q1, .int 1]))) (fun _ => .inl (cJ, 7200, .inr (.inl (fun _ => 0))))) 1 (.inl (cAJ, 40, .inr (.inr (.inr (.inr (va_up (fun i => if i < 40 then some (r2 i) else none) 0 (some q3)))))))) n = iX10_7200 cI cJ cZ cMic cSrc cSt cAI cAJ (cat 42 (cat 2 (cat 1 (fun _ => h) (fun _ => q1)) r2) (fun _ => q3)) n := (lt_s (lt_s (lt_s (lt_s (lt_s (lt_s (lt_s (lt_s (lt_s (lt_s (lt_s (lt_s (lt_s (lt_s (lt_s (lt_s (lt_s (lt_s (lt_s (lt_s (lt_s (lt_s (lt_s (lt_s (lt_s (lt_s (lt_s (lt_s (lt_s (lt_s (lt_s (lt_s (lt_s (lt_s (lt_s (lt_s (lt_s (lt_s (lt_s (lt_s (lt_s (lt_s (lt_s lt_0 rfl) (congrArg (fun f : Nat → Option Nat => (.inl (cAJ, 40, .inr (.inr (.inr (.inr (va_up f 0 (some ((cat 42 (cat 2 (cat 1 (fun _ => h) (fun _ => q1)) r2) (fun _ => q3)) 42))))))) : va_E)) (g_outer (lt_s (lt_s (lt_s (lt_s (lt_s (lt_s (lt_s (lt_s (lt_s (lt_s (lt_s (lt_s (lt_s (lt_s (lt_s (lt_s (lt_s (lt_s (lt_s (lt_s (lt_s (lt_s (lt_s (lt_s (lt_s (lt_s (lt_s (lt_s (lt_s (lt_s (lt_s (lt_s (lt_s (lt_s (lt_s (lt_s (lt_s (lt_s (lt_s (lt_s lt_0 rfl) rfl) rfl) rfl) rfl) rfl) rfl) rfl) rfl) rfl) rfl) rfl) rfl) rfl) rfl) rfl) rfl) rfl) rfl) rfl) rfl) rfl) rfl) rfl) rfl) rfl) rfl) rfl) rfl) rfl) rfl) rfl) rfl) rfl) rfl) rfl) rfl) rfl) rfl) rfl)))) rfl) rfl) rfl) rfl) rfl) rfl) rfl) rfl) rfl) rfl) rfl) rfl) rfl) rfl) rfl) rfl) rfl) rfl) rfl) rfl) rfl) rfl) rfl) rfl) rfl) rfl) rfl) rfl) rfl) rfl) rfl) rfl) rfl) rfl) rfl) rfl) rfl) rfl) rfl) rfl) rfl)
  exact W.vret hx hb hr (fun t ht hW => ⟨⟨((cat 42 (cat 2 (cat 1 (fun _ => h) (fun _ => q1)) r2) (fun _ => q3)), (va_up (cat 42 (va_up (va_up (va_up (cat 2 (cat 1 (fun _ => .inr (10, [.int 0, .null, .int 0])) (fun _ => .inl (cAJ, 40, .inr (.inr (.inr (.inr (fun i => if i < 40 then some (r2 i) else none))))))) (fun _ => .inl (cJ, 0, .inr (.inl (fun _ => 0))))) 0 (.inr (10, [.int 0, .ref q1, .int 0]))) 0 (.inr (10, [.int 0, .ref q1, .int 1]))) 0 (.inr (10, [.int 7200, .ref q1, .int 1]))) (fun _ => .inl (cJ, 7200, .inr (.inl (fun _ => 0))))) 1 (.inl (cAJ, 40, .inr (.inr (.inr (.inr (va_up (fun i => if i < 40 then some (r2 i) else none) 0 (some q3))))))))), rfl, ⟨rfl, hpost⟩, by rw [ht]; exact G.1, va_K.moved hW.alike hK, G.2.1⟩, G.2.2.F ht⟩) G.2.2.2.2 dX10_init_42
def iX0 (cI cJ cZ cMic cSrc cSt cAI cAJ : ClassId) (b : Nat → Nat) : Nat → va_E := fun n => ([.inr (0, [.ref (b 1)]), .inr (10, [.int 7200, .ref (b 2), .int 1]), .inl (cAJ, 40, .inr (.inr (.inr (.inr (va_up (fun i => if i < 40 then some (b (3 + i)) else none) 0 (some (b 43))))))), .inl (cJ, 0, .inr (.inl (fun _ => 0))), .inl (cJ, 0, .inr (.inl (fun _ => 0))), .inl (cJ, 0, .inr (.inl (fun _ => 0))), .inl (cJ, 0, .inr (.inl (fun _ => 0))), .inl (cJ, 0, .inr (.inl (fun _ => 0))), .inl (cJ, 0, .inr (.inl (fun _ => 0))), .inl (cJ, 0, .inr (.inl (fun _ => 0))), .inl (cJ, 0, .inr (.inl (fun _ => 0))), .inl (cJ, 0, .inr (.inl (fun _ => 0))), .inl (cJ, 0, .inr (.inl (fun _ => 0))), .inl (cJ, 0, .inr (.inl (fun _ => 0))), .inl (cJ, 0, .inr (.inl (fun _ => 0))), .inl (cJ, 0, .inr (.inl (fun _ => 0))), .inl (cJ, 0, .inr (.inl (fun _ => 0))), .inl (cJ, 0, .inr (.inl (fun _ => 0))), .inl (cJ, 0, .inr (.inl (fun _ => 0))), .inl (cJ, 0, .inr (.inl (fun _ => 0))), .inl (cJ, 0, .inr (.inl (fun _ => 0))), .inl (cJ, 0, .inr (.inl (fun _ => 0))), .inl (cJ, 0, .inr (.inl (fun _ => 0))), .inl (cJ, 0, .inr (.inl (fun _ => 0))), .inl (cJ, 0, .inr (.inl (fun _ => 0))), .inl (cJ, 0, .inr (.inl (fun _ => 0))), .inl (cJ, 0, .inr (.inl (fun _ => 0))), .inl (cJ, 0, .inr (.inl (fun _ => 0))), .inl (cJ, 0, .inr (.inl (fun _ => 0))), .inl (cJ, 0, .inr (.inl (fun _ => 0))), .inl (cJ, 0, .inr (.inl (fun _ => 0))), .inl (cJ, 0, .inr (.inl (fun _ => 0))), .inl (cJ, 0, .inr (.inl (fun _ => 0))), .inl (cJ, 0, .inr (.inl (fun _ => 0))), .inl (cJ, 0, .inr (.inl (fun _ => 0))), .inl (cJ, 0, .inr (.inl (fun _ => 0))), .inl (cJ, 0, .inr (.inl (fun _ => 0))), .inl (cJ, 0, .inr (.inl (fun _ => 0))), .inl (cJ, 0, .inr (.inl (fun _ => 0))), .inl (cJ, 0, .inr (.inl (fun _ => 0))), .inl (cJ, 0, .inr (.inl (fun _ => 0))), .inl (cJ, 0, .inr (.inl (fun _ => 0))), .inl (cJ, 0, .inr (.inl (fun _ => 0))), .inl (cJ, 7200, .inr (.inl (fun _ => 0)))] : List va_E).getD n (.inr (0, []))
set_option maxHeartbeats 8000000 in
set_option maxRecDepth 100000 in
theorem n_X0 (l : Launch) (D : va_G) (cI cJ cZ cMic cSrc cSt cAI cAJ : ClassId) : cN l yX0_init (Cond.code yX0_init cX0_init 1 none :: wsA) 2 42 43 7243 D (CT cI cJ cZ cMic cSrc cSt cAI cAJ) nX 0 [.null] 44 (fun b T => ∀ n, n < 44 → T n = iX0 cI cJ cZ cMic cSrc cSt cAI cAJ b n) := by
  intro h sz
  refine Met.ofW (cc := cX0_init) (maxL := 1) (ret := none) (by decide) rfl ?_
  intro p e s m args below meth c s₁ B hml hv
  obtain ⟨rfl, hsz, hP, hK, hD0, hxs⟩ := hv
  have hx := B.exec
  have hb := B.bytes
  have hr := B.returns
  have hts := atoms_spec (ws := (Cond.code yX0_init cX0_init 1 none :: wsA)) B.pre
  have hown : s.vm.findClass RX0 = some m.cls := findClass_of_methodNamed B.named
  have hlocks := B.notSynchronized
  have hin : meth.name = "<init>" := (name_of_methodNamed B.named B.method).1
  subst hsz
  have hD := hD0.self (sz := s.heap.size)
  generalize hAe : va_A (cW (fun _ => h) 1 (fun _ => .inr (0, [.null]))) s.heap.size = A at hD ⊢
  have hA : ∀ q : Nat, s.heap.size ≤ q → A q := fun q h => by rw [← hAe]; exact Or.inr h
  have G : cG D (fun _ => h) 1 A s.heap s.heap [] (fun _ => .inr (0, [.null])) := ⟨hP, hD, va_S.rf⟩
  have E : cE p c cX0_init s m ([.ref h] : List Value).toArray (Cond.code yX0_init cX0_init 1 none :: wsA) D RX0 (CT cI cJ cZ cMic cSrc cSt cAI cAJ) := ⟨hx, hb, hts, hown, hK⟩
  have hl := lv_entry ([.ref h]) (n := 1) (Nat.le_of_ble_eq_true rfl)
  rw [lg_entry_eq]
  generalize (lg_sl ([.ref h]) ++ List.replicate (1 - (lg_sl ([.ref h])).length) Slot.unset).toArray = ls at hl ⊢
  have hl : lv_has ls 1 [(0, .ref h)] := hl
  refine lv_aload_n hx hb dX0_init_0 rfl (lv_at hl 0 rfl) ?_
  refine W.objInit hx hb hown (hts _ (.tail _ qA_1)) (hts _ (.tail _ qA_2)) (hts _ (.tail _ qA_3)) rfl (by rw [hml]; exact hl.1) rfl dX0_init_1 (Nat.le_of_ble_eq_true rfl) (Nat.le_of_ble_eq_true rfl) ?_
  refine W.eq (g2 := F0 m 4 ls []) rfl ?_
  refine lv_aload_n hx hb dX0_init_4 rfl (lv_at hl 0 rfl) ?_
  refine n_new E G hA (ci := 10) (fs := [.int 0, .null, .int 0]) (fun w h => .tail _ (iA_12 h)) tyX10 tyX10_ok (.tail _ qA_4) (.tail _ qA_5) (.tail _ qA_6) rfl (by decide) (Nat.le_of_ble_eq_true rfl) (Nat.le_of_ble_eq_true rfl) dX0_init_5 (fun q1 H G => ?_)
  have G : cG D (cat 1 (fun _ => h) (fun _ => q1)) 2 A s.heap H [] (cat 1 (fun _ => .inr (0, [.null])) (fun _ => .inr (10, [.int 0, .null, .int 0]))) := G
  refine lv_dup hx hb dX0_init_8 rfl ?_
  refine lv_sipush (v := 7200) hx hb dX0_init_9 (by decide) ?_
  refine n_initA (As := [.int 7200]) (rest := [.ref q1, .ref h]) (N := 1) E G hA hxs nX.moved hml (n_X10_7200 l D cI cJ cZ cMic cSrc cSt cAI cAJ) (cwI 1 hts (gaC qA_10) rfl rfl rfl (hts _ (.tail _ qA_6)) (hts _ (.tail _ qA_8)) (hts _ (.tail _ qA_9)) rfl (by decide +kernel) ⟨Nat.le_of_ble_eq_true rfl, Nat.le_of_ble_eq_true rfl⟩) rfl rfl rfl hl.1 rfl (lv_room (Nat.le_of_ble_eq_true rfl)) dX0_init_12 ⟨Nat.le_of_ble_eq_true rfl, Nat.le_of_ble_eq_true rfl⟩ (fun b2 T3 H locs hb4 hT5 G => ?_)
  have G := cG_sub hT5 G
  subst hb4
  have G : cG D (cat 1 (cat 1 (fun _ => h) (fun _ => (b2 0))) b2) 44 A s.heap H locs (cat 1 (cat 1 (fun _ => .inr (0, [.null])) (fun _ => .inr (10, [.int 0, .null, .int 0]))) (iX10_7200 cI cJ cZ cMic cSrc cSt cAI cAJ b2)) := G
  refine n_putF E G 0 0 h (fs := [.null]) (fs1 := [.ref (b2 0)]) (by decide) rfl rfl rfl (fun w h => .tail _ (iA_13 h)) tyX0 tyX0_ok nmX0 (by decide) (.tail _ qA_7) ⟨rfl, rfl, rfl⟩ hin rfl rfl rfl (Nat.le_of_ble_eq_true rfl) rfl dX0_init_15 (fun H locs G => ?_)
  have G : cG D (cat 1 (cat 1 (fun _ => h) (fun _ => (b2 0))) b2) 44 A s.heap H locs (va_up (cat 1 (cat 1 (fun _ => .inr (0, [.null])) (fun _ => .inr (10, [.int 0, .null, .int 0]))) (iX10_7200 cI cJ cZ cMic cSrc cSt cAI cAJ b2)) 0 (.inr (0, [.ref (b2 0)]))) := G
  refine W.widen (k := 43) (n := 7243) (Nat.le_of_ble_eq_true rfl) (Nat.le_of_ble_eq_true rfl) ?_
  have hpost : ∀ n, n < 44 → (va_up (cat 1 (cat 1 (fun _ => .inr (0, [.null])) (fun _ => .inr (10, [.int 0, .null, .int 0]))) (iX10_7200 cI cJ cZ cMic cSrc cSt cAI cAJ b2)) 0 (.inr (0, [.ref (b2 0)]))) n = iX0 cI cJ cZ cMic cSrc cSt cAI cAJ (cat 1 (cat 1 (fun _ => h) (fun _ => (b2 0))) b2) n := (lt_s (lt_s (lt_s (lt_s (lt_s (lt_s (lt_s (lt_s (lt_s (lt_s (lt_s (lt_s (lt_s (lt_s (lt_s (lt_s (lt_s (lt_s (lt_s (lt_s (lt_s (lt_s (lt_s (lt_s (lt_s (lt_s (lt_s (lt_s (lt_s (lt_s (lt_s (lt_s (lt_s (lt_s (lt_s (lt_s (lt_s (lt_s (lt_s (lt_s (lt_s (lt_s (lt_s (lt_s lt_0 rfl) rfl) (congrArg (fun f : Nat → Option Nat => (.inl (cAJ, 40, .inr (.inr (.inr (.inr (va_up f 0 (some ((cat 1 (cat 1 (fun _ => h) (fun _ => (b2 0))) b2) 43))))))) : va_E)) (g_outer (lt_s (lt_s (lt_s (lt_s (lt_s (lt_s (lt_s (lt_s (lt_s (lt_s (lt_s (lt_s (lt_s (lt_s (lt_s (lt_s (lt_s (lt_s (lt_s (lt_s (lt_s (lt_s (lt_s (lt_s (lt_s (lt_s (lt_s (lt_s (lt_s (lt_s (lt_s (lt_s (lt_s (lt_s (lt_s (lt_s (lt_s (lt_s (lt_s (lt_s lt_0 rfl) rfl) rfl) rfl) rfl) rfl) rfl) rfl) rfl) rfl) rfl) rfl) rfl) rfl) rfl) rfl) rfl) rfl) rfl) rfl) rfl) rfl) rfl) rfl) rfl) rfl) rfl) rfl) rfl) rfl) rfl) rfl) rfl) rfl) rfl) rfl) rfl) rfl) rfl) rfl)))) rfl) rfl) rfl) rfl) rfl) rfl) rfl) rfl) rfl) rfl) rfl) rfl) rfl) rfl) rfl) rfl) rfl) rfl) rfl) rfl) rfl) rfl) rfl) rfl) rfl) rfl) rfl) rfl) rfl) rfl) rfl) rfl) rfl) rfl) rfl) rfl) rfl) rfl) rfl) rfl) rfl)
  exact W.vret hx hb hr (fun t ht hW => ⟨⟨((cat 1 (cat 1 (fun _ => h) (fun _ => (b2 0))) b2), (va_up (cat 1 (cat 1 (fun _ => .inr (0, [.null])) (fun _ => .inr (10, [.int 0, .null, .int 0]))) (iX10_7200 cI cJ cZ cMic cSrc cSt cAI cAJ b2)) 0 (.inr (0, [.ref (b2 0)])))), rfl, ⟨rfl, hpost⟩, by rw [ht]; exact G.1, va_K.moved hW.alike hK, G.2.1⟩, G.2.2.F ht⟩) G.2.2.2.2 dX0_init_18
