set_option maxHeartbeats 8000000 in
set_option maxRecDepth 100000 in
theorem n_X3 (l : Launch) (D : va_G) (cI cJ cZ cMic cSrc cSt cAI cAJ : ClassId) (tz : Nat) : cNA l yX3_init (Cond.code yX3_init cX3_init 2 none :: wsA) 1 12 0 0 D (CT cI cJ cZ cMic cSrc cSt cAI cAJ) nX 3 [.null, .int 0, .int 0, .int 0] 1 [.ref tz] (fun b T => ∀ n, n < 1 → T n = iX3 cI cJ cZ cMic cSrc cSt cAI cAJ tz b n) := by
  intro h sz
  refine Met.ofW (cc := cX3_init) (maxL := 2) (ret := none) (by decide) rfl ?_
  intro p e s m args below meth c s₁ B hml hv
  obtain ⟨rfl, hsz, hP, hK, hD0, hxs⟩ := hv
  have hx := B.exec
  have hb := B.bytes
  have hr := B.returns
  have hts := atoms_spec (ws := (Cond.code yX3_init cX3_init 2 none :: wsA)) B.pre
  have hown : s.vm.findClass RX3 = some m.cls := findClass_of_methodNamed B.named
  have hlocks := B.notSynchronized
  have hin : meth.name = "<init>" := (name_of_methodNamed B.named B.method).1
  subst hsz
  have hD := hD0.self (sz := s.heap.size)
  generalize hAe : va_A (cW (fun _ => h) 1 (fun _ => .inr (3, [.null, .int 0, .int 0, .int 0]))) s.heap.size = A at hD ⊢
  have hA : ∀ q : Nat, s.heap.size ≤ q → A q := fun q h => by rw [← hAe]; exact Or.inr h
  have G : cG D (fun _ => h) 1 A s.heap s.heap [] (fun _ => .inr (3, [.null, .int 0, .int 0, .int 0])) := ⟨hP, hD, va_S.rf⟩
  have E : cE p c cX3_init s m ([.ref h, .ref tz] : List Value).toArray (Cond.code yX3_init cX3_init 2 none :: wsA) D RX3 (CT cI cJ cZ cMic cSrc cSt cAI cAJ) := ⟨hx, hb, hts, hown, hK⟩
  have hl := lv_entry ([.ref h, .ref tz]) (n := 2) (Nat.le_of_ble_eq_true rfl)
  rw [lg_entry_eq]
  generalize (lg_sl ([.ref h, .ref tz]) ++ List.replicate (2 - (lg_sl ([.ref h, .ref tz])).length) Slot.unset).toArray = ls at hl ⊢
  have hl : lv_has ls 2 [(0, .ref h), (1, .ref tz)] := hl
  refine lv_aload_n hx hb dX3_init_0 rfl (lv_at hl 0 rfl) ?_
  refine W.objInit hx hb hown (hts _ (.tail _ qA_172)) (hts _ (.tail _ qA_2)) (hts _ (.tail _ qA_3)) rfl (by rw [hml]; exact hl.1) rfl dX3_init_1 (Nat.le_of_ble_eq_true rfl) (Nat.le_of_ble_eq_true rfl) ?_
  refine W.eq (g2 := F0 m 4 ls []) rfl ?_
  refine lv_aload_n hx hb dX3_init_4 rfl (lv_at hl 0 rfl) ?_
  refine lv_iconst (v := (-1)) hx hb dX3_init_5 (by decide) ?_
  refine n_put E G 0 3 h (fs := [.null, .int 0, .int 0, .int 0]) (fs1 := [.null, .int 0, .int 0, .int (-1)]) (by decide) rfl rfl rfl (fun w h => .tail _ (iA_17 h)) tyX3 tyX3_ok nmX3 (by decide) (.tail _ qA_173) ⟨rfl, rfl, rfl⟩ rfl rfl (Nat.le_of_ble_eq_true rfl) rfl dX3_init_6 (fun H locs G => ?_)
  have G : cG D (fun _ => h) 1 A s.heap H locs (va_up (fun _ => .inr (3, [.null, .int 0, .int 0, .int 0])) 0 (.inr (3, [.null, .int 0, .int 0, .int (-1)]))) := G
  refine lv_aload_n hx hb dX3_init_9 rfl (lv_at hl 0 rfl) ?_
  refine lv_aload_n hx hb dX3_init_10 rfl (lv_at hl 1 rfl) ?_
  refine n_putF E G 0 0 h (fs := [.null, .int 0, .int 0, .int (-1)]) (fs1 := [.ref tz, .int 0, .int 0, .int (-1)]) (by decide) rfl rfl rfl (fun w h => .tail _ (iA_17 h)) tyX3 tyX3_ok nmX3 (by decide) (.tail _ qA_174) ⟨rfl, rfl, rfl⟩ hin rfl rfl rfl (Nat.le_of_ble_eq_true rfl) rfl dX3_init_11 (fun H locs G => ?_)
  have G : cG D (fun _ => h) 1 A s.heap H locs (va_up (va_up (fun _ => .inr (3, [.null, .int 0, .int 0, .int 0])) 0 (.inr (3, [.null, .int 0, .int 0, .int (-1)]))) 0 (.inr (3, [.ref tz, .int 0, .int 0, .int (-1)]))) := G
  refine W.widen (k := 0) (n := 0) (Nat.le_of_ble_eq_true rfl) (Nat.le_of_ble_eq_true rfl) ?_
  have hpost : ∀ n, n < 1 → (va_up (va_up (fun _ => .inr (3, [.null, .int 0, .int 0, .int 0])) 0 (.inr (3, [.null, .int 0, .int 0, .int (-1)]))) 0 (.inr (3, [.ref tz, .int 0, .int 0, .int (-1)]))) n = iX3 cI cJ cZ cMic cSrc cSt cAI cAJ tz (fun _ => h) n := (lt_s lt_0 rfl)
  exact W.vret hx hb hr (fun t ht hW => ⟨⟨((fun _ => h), (va_up (va_up (fun _ => .inr (3, [.null, .int 0, .int 0, .int 0])) 0 (.inr (3, [.null, .int 0, .int 0, .int (-1)]))) 0 (.inr (3, [.ref tz, .int 0, .int 0, .int (-1)])))), rfl, ⟨rfl, hpost⟩, by rw [ht]; exact G.1, va_K.moved hW.alike hK, G.2.1⟩, G.2.2.F ht⟩) G.2.2.2.2 dX3_init_14
def iX7 (cI cJ cZ cMic cSrc cSt cAI cAJ : ClassId) (b : Nat → Nat) : Nat → va_E := fun n => ([.inr (7, [.int 0, .int 0, .int 0, .int 0, .int 0, .int 0, .int 0, .int 0, .int 0, .int 0])] : List va_E).getD n (.inr (0, []))
set_option maxHeartbeats 8000000 in
set_option maxRecDepth 100000 in
theorem n_X7 (l : Launch) (D : va_G) (cI cJ cZ cMic cSrc cSt cAI cAJ : ClassId) : cN l yX7_init (Cond.code yX7_init cX7_init 1 none :: wsA) 1 12 0 0 D (CT cI cJ cZ cMic cSrc cSt cAI cAJ) nX 7 [.int 0, .int 0, .int 0, .int 0, .int 0, .int 0, .int 0, .int 0, .int 0, .int 0] 1 (fun b T => ∀ n, n < 1 → T n = iX7 cI cJ cZ cMic cSrc cSt cAI cAJ b n) := by
  intro h sz
  refine Met.ofW (cc := cX7_init) (maxL := 1) (ret := none) (by decide) rfl ?_
  intro p e s m args below meth c s₁ B hml hv
  obtain ⟨rfl, hsz, hP, hK, hD0, hxs⟩ := hv
  have hx := B.exec
  have hb := B.bytes
  have hr := B.returns
  have hts := atoms_spec (ws := (Cond.code yX7_init cX7_init 1 none :: wsA)) B.pre
  have hown : s.vm.findClass RX7 = some m.cls := findClass_of_methodNamed B.named
  have hlocks := B.notSynchronized
  have hin : meth.name = "<init>" := (name_of_methodNamed B.named B.method).1
  subst hsz
  have hD := hD0.self (sz := s.heap.size)
  generalize hAe : va_A (cW (fun _ => h) 1 (fun _ => .inr (7, [.int 0, .int 0, .int 0, .int 0, .int 0, .int 0, .int 0, .int 0, .int 0, .int 0]))) s.heap.size = A at hD ⊢
  have hA : ∀ q : Nat, s.heap.size ≤ q → A q := fun q h => by rw [← hAe]; exact Or.inr h
  have G : cG D (fun _ => h) 1 A s.heap s.heap [] (fun _ => .inr (7, [.int 0, .int 0, .int 0, .int 0, .int 0, .int 0, .int 0, .int 0, .int 0, .int 0])) := ⟨hP, hD, va_S.rf⟩
  have E : cE p c cX7_init s m ([.ref h] : List Value).toArray (Cond.code yX7_init cX7_init 1 none :: wsA) D RX7 (CT cI cJ cZ cMic cSrc cSt cAI cAJ) := ⟨hx, hb, hts, hown, hK⟩
  have hl := lv_entry ([.ref h]) (n := 1) (Nat.le_of_ble_eq_true rfl)
  rw [lg_entry_eq]
  generalize (lg_sl ([.ref h]) ++ List.replicate (1 - (lg_sl ([.ref h])).length) Slot.unset).toArray = ls at hl ⊢
  have hl : lv_has ls 1 [(0, .ref h)] := hl
  refine lv_aload_n hx hb dX7_init_0 rfl (lv_at hl 0 rfl) ?_
  refine W.objInit hx hb hown (hts _ (.tail _ qA_462)) (hts _ (.tail _ qA_2)) (hts _ (.tail _ qA_3)) rfl (by rw [hml]; exact hl.1) rfl dX7_init_1 (Nat.le_of_ble_eq_true rfl) (Nat.le_of_ble_eq_true rfl) ?_
  refine W.eq (g2 := F0 m 4 ls []) rfl ?_
  refine W.widen (k := 0) (n := 0) (Nat.le_of_ble_eq_true rfl) (Nat.le_of_ble_eq_true rfl) ?_
  have hpost : ∀ n, n < 1 → (fun _ => .inr (7, [.int 0, .int 0, .int 0, .int 0, .int 0, .int 0, .int 0, .int 0, .int 0, .int 0])) n = iX7 cI cJ cZ cMic cSrc cSt cAI cAJ (fun _ => h) n := (lt_s lt_0 rfl)
  exact W.vret hx hb hr (fun t ht hW => ⟨⟨((fun _ => h), (fun _ => .inr (7, [.int 0, .int 0, .int 0, .int 0, .int 0, .int 0, .int 0, .int 0, .int 0, .int 0]))), rfl, ⟨rfl, hpost⟩, by rw [ht]; exact G.1, va_K.moved hW.alike hK, G.2.1⟩, G.2.2.F ht⟩) G.2.2.2.2 dX7_init_4
