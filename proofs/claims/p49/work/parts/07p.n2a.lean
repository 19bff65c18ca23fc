def iX9 (cI cJ cZ cMic cSrc cSt cAI cAJ : ClassId) (b : Nat → Nat) : Nat → va_E := fun n => ([.inr (9, [.ref (b 1), .int 0, .ref (b 2), .ref (b 3), .ref (b 4), .int 0]), .inl (cI, 1000, .inl (fun _ => 0)), .inl (cI, 1001, .inl (fun _ => 0)), .inl (cI, 1001, .inl (fun _ => 0)), .inl (cI, 1001, .inl (fun _ => 0))] : List va_E).getD n (.inr (0, []))
set_option maxHeartbeats 8000000 in
set_option maxRecDepth 100000 in
theorem n_X9 (l : Launch) (D : va_G) (cI cJ cZ cMic cSrc cSt cAI cAJ : ClassId) : cN l yX9_init (Cond.code yX9_init cX9_init 1 none :: wsA) 1 12 4 4003 D (CT cI cJ cZ cMic cSrc cSt cAI cAJ) nX 9 [.null, .int 0, .null, .null, .null, .int 0] 5 (fun b T => ∀ n, n < 5 → T n = iX9 cI cJ cZ cMic cSrc cSt cAI cAJ b n) := by
  intro h sz
  refine Met.ofW (cc := cX9_init) (maxL := 1) (ret := none) (by decide) rfl ?_
  intro p e s m args below meth c s₁ B hml hv
  obtain ⟨rfl, hsz, hP, hK, hD0, hxs⟩ := hv
  have hx := B.exec
  have hb := B.bytes
  have hr := B.returns
  have hts := atoms_spec (ws := (Cond.code yX9_init cX9_init 1 none :: wsA)) B.pre
  have hown : s.vm.findClass RX9 = some m.cls := findClass_of_methodNamed B.named
  have hlocks := B.notSynchronized
  have hin : meth.name = "<init>" := (name_of_methodNamed B.named B.method).1
  subst hsz
  have hD := hD0.self (sz := s.heap.size)
  generalize hAe : va_A (cW (fun _ => h) 1 (fun _ => .inr (9, [.null, .int 0, .null, .null, .null, .int 0]))) s.heap.size = A at hD ⊢
  have hA : ∀ q : Nat, s.heap.size ≤ q → A q := fun q h => by rw [← hAe]; exact Or.inr h
  have G : cG D (fun _ => h) 1 A s.heap s.heap [] (fun _ => .inr (9, [.null, .int 0, .null, .null, .null, .int 0])) := ⟨hP, hD, va_S.rf⟩
  have E : cE p c cX9_init s m ([.ref h] : List Value).toArray (Cond.code yX9_init cX9_init 1 none :: wsA) D RX9 (CT cI cJ cZ cMic cSrc cSt cAI cAJ) := ⟨hx, hb, hts, hown, hK⟩
  have hl := lv_entry ([.ref h]) (n := 1) (Nat.le_of_ble_eq_true rfl)
  rw [lg_entry_eq]
  generalize (lg_sl ([.ref h]) ++ List.replicate (1 - (lg_sl ([.ref h])).length) Slot.unset).toArray = ls at hl ⊢
  have hl : lv_has ls 1 [(0, .ref h)] := hl
  refine lv_aload_n hx hb dX9_init_0 rfl (lv_at hl 0 rfl) ?_
  refine W.objInit hx hb hown (hts _ (.tail _ qA_630)) (hts _ (.tail _ qA_2)) (hts _ (.tail _ qA_3)) rfl (by rw [hml]; exact hl.1) rfl dX9_init_1 (Nat.le_of_ble_eq_true rfl) (Nat.le_of_ble_eq_true rfl) ?_
  refine W.eq (g2 := F0 m 4 ls []) rfl ?_
  refine lv_aload_n hx hb dX9_init_4 rfl (lv_at hl 0 rfl) ?_
  refine lv_sipush (v := 1000) hx hb dX9_init_5 (by decide) ?_
  refine n_newi E G hA 0 (K := 1000) (.tail _ qA_157) rfl rfl (by decide) (Nat.le_of_ble_eq_true rfl) (Nat.le_of_ble_eq_true rfl) dX9_init_8 (fun q1 H G => ?_)
  have G : cG D (cat 1 (fun _ => h) (fun _ => q1)) 2 A s.heap H [] (cat 1 (fun _ => .inr (9, [.null, .int 0, .null, .null, .null, .int 0])) (fun _ => .inl (cI, 1000, .inl (fun _ => 0)))) := G
  refine n_putF E G 0 0 h (fs := [.null, .int 0, .null, .null, .null, .int 0]) (fs1 := [.ref q1, .int 0, .null, .null, .null, .int 0]) (by decide) rfl rfl rfl (fun w h => .tail _ (iA_18 h)) tyX9 tyX9_ok nmX9 (by decide) (.tail _ qA_192) ⟨rfl, rfl, rfl⟩ hin rfl rfl rfl (Nat.le_of_ble_eq_true rfl) rfl dX9_init_10 (fun H locs G => ?_)
  have G : cG D (cat 1 (fun _ => h) (fun _ => q1)) 2 A s.heap H locs (va_up (cat 1 (fun _ => .inr (9, [.null, .int 0, .null, .null, .null, .int 0])) (fun _ => .inl (cI, 1000, .inl (fun _ => 0)))) 0 (.inr (9, [.ref q1, .int 0, .null, .null, .null, .int 0]))) := G
  refine lv_aload_n hx hb dX9_init_13 rfl (lv_at hl 0 rfl) ?_
  refine lv_sipush (v := 1001) hx hb dX9_init_14 (by decide) ?_
  refine n_newi E G hA 0 (K := 1001) (.tail _ qA_157) rfl rfl (by decide) (Nat.le_of_ble_eq_true rfl) (Nat.le_of_ble_eq_true rfl) dX9_init_17 (fun q2 H G => ?_)
  have G : cG D (cat 2 (cat 1 (fun _ => h) (fun _ => q1)) (fun _ => q2)) 3 A s.heap H locs (cat 2 (va_up (cat 1 (fun _ => .inr (9, [.null, .int 0, .null, .null, .null, .int 0])) (fun _ => .inl (cI, 1000, .inl (fun _ => 0)))) 0 (.inr (9, [.ref q1, .int 0, .null, .null, .null, .int 0]))) (fun _ => .inl (cI, 1001, .inl (fun _ => 0)))) := G
  refine n_putF E G 0 2 h (fs := [.ref q1, .int 0, .null, .null, .null, .int 0]) (fs1 := [.ref q1, .int 0, .ref q2, .null, .null, .int 0]) (by decide) rfl rfl rfl (fun w h => .tail _ (iA_18 h)) tyX9 tyX9_ok nmX9 (by decide) (.tail _ qA_201) ⟨rfl, rfl, rfl⟩ hin rfl rfl rfl (Nat.le_of_ble_eq_true rfl) rfl dX9_init_19 (fun H locs G => ?_)
  have G : cG D (cat 2 (cat 1 (fun _ => h) (fun _ => q1)) (fun _ => q2)) 3 A s.heap H locs (va_up (cat 2 (va_up (cat 1 (fun _ => .inr (9, [.null, .int 0, .null, .null, .null, .int 0])) (fun _ => .inl (cI, 1000, .inl (fun _ => 0)))) 0 (.inr (9, [.ref q1, .int 0, .null, .null, .null, .int 0]))) (fun _ => .inl (cI, 1001, .inl (fun _ => 0)))) 0 (.inr (9, [.ref q1, .int 0, .ref q2, .null, .null, .int 0]))) := G
  refine lv_aload_n hx hb dX9_init_22 rfl (lv_at hl 0 rfl) ?_
  refine lv_sipush (v := 1001) hx hb dX9_init_23 (by decide) ?_
  refine n_newi E G hA 0 (K := 1001) (.tail _ qA_157) rfl rfl (by decide) (Nat.le_of_ble_eq_true rfl) (Nat.le_of_ble_eq_true rfl) dX9_init_26 (fun q3 H G => ?_)
  have G : cG D (cat 3 (cat 2 (cat 1 (fun _ => h) (fun _ => q1)) (fun _ => q2)) (fun _ => q3)) 4 A s.heap H locs (cat 3 (va_up (cat 2 (va_up (cat 1 (fun _ => .inr (9, [.null, .int 0, .null, .null, .null, .int 0])) (fun _ => .inl (cI, 1000, .inl (fun _ => 0)))) 0 (.inr (9, [.ref q1, .int 0, .null, .null, .null, .int 0]))) (fun _ => .inl (cI, 1001, .inl (fun _ => 0)))) 0 (.inr (9, [.ref q1, .int 0, .ref q2, .null, .null, .int 0]))) (fun _ => .inl (cI, 1001, .inl (fun _ => 0)))) := G
  refine n_putF E G 0 3 h (fs := [.ref q1, .int 0, .ref q2, .null, .null, .int 0]) (fs1 := [.ref q1, .int 0, .ref q2, .ref q3, .null, .int 0]) (by decide) rfl rfl rfl (fun w h => .tail _ (iA_18 h)) tyX9 tyX9_ok nmX9 (by decide) (.tail _ qA_202) ⟨rfl, rfl, rfl⟩ hin rfl rfl rfl (Nat.le_of_ble_eq_true rfl) rfl dX9_init_28 (fun H locs G => ?_)
  have G : cG D (cat 3 (cat 2 (cat 1 (fun _ => h) (fun _ => q1)) (fun _ => q2)) (fun _ => q3)) 4 A s.heap H locs (va_up (cat 3 (va_up (cat 2 (va_up (cat 1 (fun _ => .inr (9, [.null, .int 0, .null, .null, .null, .int 0])) (fun _ => .inl (cI, 1000, .inl (fun _ => 0)))) 0 (.inr (9, [.ref q1, .int 0, .null, .null, .null, .int 0]))) (fun _ => .inl (cI, 1001, .inl (fun _ => 0)))) 0 (.inr (9, [.ref q1, .int 0, .ref q2, .null, .null, .int 0]))) (fun _ => .inl (cI, 1001, .inl (fun _ => 0)))) 0 (.inr (9, [.ref q1, .int 0, .ref q2, .ref q3, .null, .int 0]))) := G
  refine lv_aload_n hx hb dX9_init_31 rfl (lv_at hl 0 rfl) ?_
  refine lv_sipush (v := 1001) hx hb dX9_init_32 (by decide) ?_
  refine n_newi E G hA 0 (K := 1001) (.tail _ qA_157) rfl rfl (by decide) (Nat.le_of_ble_eq_true rfl) (Nat.le_of_ble_eq_true rfl) dX9_init_35 (fun q4 H G => ?_)
  have G : cG D (cat 4 (cat 3 (cat 2 (cat 1 (fun _ => h) (fun _ => q1)) (fun _ => q2)) (fun _ => q3)) (fun _ => q4)) 5 A s.heap H locs (cat 4 (va_up (cat 3 (va_up (cat 2 (va_up (cat 1 (fun _ => .inr (9, [.null, .int 0, .null, .null, .null, .int 0])) (fun _ => .inl (cI, 1000, .inl (fun _ => 0)))) 0 (.inr (9, [.ref q1, .int 0, .null, .null, .null, .int 0]))) (fun _ => .inl (cI, 1001, .inl (fun _ => 0)))) 0 (.inr (9, [.ref q1, .int 0, .ref q2, .null, .null, .int 0]))) (fun _ => .inl (cI, 1001, .inl (fun _ => 0)))) 0 (.inr (9, [.ref q1, .int 0, .ref q2, .ref q3, .null, .int 0]))) (fun _ => .inl (cI, 1001, .inl (fun _ => 0)))) := G
  refine n_putF E G 0 4 h (fs := [.ref q1, .int 0, .ref q2, .ref q3, .null, .int 0]) (fs1 := [.ref q1, .int 0, .ref q2, .ref q3, .ref q4, .int 0]) (by decide) rfl rfl rfl (fun w h => .tail _ (iA_18 h)) tyX9 tyX9_ok nmX9 (by decide) (.tail _ qA_203) ⟨rfl, rfl, rfl⟩ hin rfl rfl rfl (Nat.le_of_ble_eq_true rfl) rfl dX9_init_37 (fun H locs G => ?_)
  have G : cG D (cat 4 (cat 3 (cat 2 (cat 1 (fun _ => h) (fun _ => q1)) (fun _ => q2)) (fun _ => q3)) (fun _ => q4)) 5 A s.heap H locs (va_up (cat 4 (va_up (cat 3 (va_up (cat 2 (va_up (cat 1 (fun _ => .inr (9, [.null, .int 0, .null, .null, .null, .int 0])) (fun _ => .inl (cI, 1000, .inl (fun _ => 0)))) 0 (.inr (9, [.ref q1, .int 0, .null, .null, .null, .int 0]))) (fun _ => .inl (cI, 1001, .inl (fun _ => 0)))) 0 (.inr (9, [.ref q1, .int 0, .ref q2, .null, .null, .int 0]))) (fun _ => .inl (cI, 1001, .inl (fun _ => 0)))) 0 (.inr (9, [.ref q1, .int 0, .ref q2, .ref q3, .null, .int 0]))) (fun _ => .inl (cI, 1001, .inl (fun _ => 0)))) 0 (.inr (9, [.ref q1, .int 0, .ref q2, .ref q3, .ref q4, .int 0]))) := G
  refine W.widen (k := 4) (n := 4003) (Nat.le_of_ble_eq_true rfl) (Nat.le_of_ble_eq_true rfl) ?_
  have hpost : ∀ n, n < 5 → (va_up (cat 4 (va_up (cat 3 (va_up (cat 2 (va_up (cat 1 (fun _ => .inr (9, [.null, .int 0, .null, .null, .null, .int 0])) (fun _ => .inl (cI, 1000, .inl (fun _ => 0)))) 0 (.inr (9, [.ref q1, .int 0, .null, .null, .null, .int 0]))) (fun _ => .inl (cI, 1001, .inl (fun _ => 0)))) 0 (.inr (9, [.ref q1, .int 0, .ref q2, .null, .null, .int 0]))) (fun _ => .inl (cI, 1001, .inl (fun _ => 0)))) 0 (.inr (9, [.ref q1, .int 0, .ref q2, .ref q3, .null, .int 0]))) (fun _ => .inl (cI, 1001, .inl (fun _ => 0)))) 0 (.inr (9, [.ref q1, .int 0, .ref q2, .ref q3, .ref q4, .int 0]))) n = iX9 cI cJ cZ cMic cSrc cSt cAI cAJ (cat 4 (cat 3 (cat 2 (cat 1 (fun _ => h) (fun _ => q1)) (fun _ => q2)) (fun _ => q3)) (fun _ => q4)) n := (lt_s (lt_s (lt_s (lt_s (lt_s lt_0 rfl) rfl) rfl) rfl) rfl)
  exact W.vret hx hb hr (fun t ht hW => ⟨⟨((cat 4 (cat 3 (cat 2 (cat 1 (fun _ => h) (fun _ => q1)) (fun _ => q2)) (fun _ => q3)) (fun _ => q4)), (va_up (cat 4 (va_up (cat 3 (va_up (cat 2 (va_up (cat 1 (fun _ => .inr (9, [.null, .int 0, .null, .null, .null, .int 0])) (fun _ => .inl (cI, 1000, .inl (fun _ => 0)))) 0 (.inr (9, [.ref q1, .int 0, .null, .null, .null, .int 0]))) (fun _ => .inl (cI, 1001, .inl (fun _ => 0)))) 0 (.inr (9, [.ref q1, .int 0, .ref q2, .null, .null, .int 0]))) (fun _ => .inl (cI, 1001, .inl (fun _ => 0)))) 0 (.inr (9, [.ref q1, .int 0, .ref q2, .ref q3, .null, .int 0]))) (fun _ => .inl (cI, 1001, .inl (fun _ => 0)))) 0 (.inr (9, [.ref q1, .int 0, .ref q2, .ref q3, .ref q4, .int 0])))), rfl, ⟨rfl, hpost⟩, by rw [ht]; exact G.1, va_K.moved hW.alike hK, G.2.1⟩, G.2.2.F ht⟩) G.2.2.2.2 dX9_init_40
def iX3 (cI cJ cZ cMic cSrc cSt cAI cAJ : ClassId) (tz : Nat) (b : Nat → Nat) : Nat → va_E := fun n => ([.inr (3, [.ref tz, .int 0, .int 0, .int (-1)])] : List va_E).getD n (.inr (0, []))
