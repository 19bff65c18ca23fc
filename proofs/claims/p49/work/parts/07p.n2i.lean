def iX1 (cI cJ cZ cMic cSrc cSt cAI cAJ : ClassId) (b : Nat → Nat) : Nat → va_E := fun n => ([.inr (1, [.int 0, .int 0, .int 0, .int 0, .int 0, .ref (b 1), .ref (b 2), .int 0, .ref (b 7)]), .inl (cI, 4, .inl (fun _ => 0)), .inl (cAI, 4, .inr (.inr (.inr (.inr (fun i => if i < 4 then some (b (3 + i)) else none))))), .inl (cI, 4, .inl (fun _ => 0)), .inl (cI, 4, .inl (fun _ => 0)), .inl (cI, 4, .inl (fun _ => 0)), .inl (cI, 4, .inl (fun _ => 0)), .inl (cI, 4, .inl (fun _ => 0))] : List va_E).getD n (.inr (0, []))
set_option maxHeartbeats 8000000 in
set_option maxRecDepth 100000 in
theorem n_X1 (l : Launch) (D : va_G) (cI cJ cZ cMic cSrc cSt cAI cAJ : ClassId) : cN l yX1_init (Cond.code yX1_init cX1_init 1 none :: wsA) 1 12 7 28 D (CT cI cJ cZ cMic cSrc cSt cAI cAJ) nX 1 [.int 0, .int 0, .int 0, .int 0, .int 0, .null, .null, .int 0, .null] 8 (fun b T => ∀ n, n < 8 → T n = iX1 cI cJ cZ cMic cSrc cSt cAI cAJ b n) := by
  intro h sz
  refine Met.ofW (cc := cX1_init) (maxL := 1) (ret := none) (by decide) rfl ?_
  intro p e s m args below meth c s₁ B hml hv
  obtain ⟨rfl, hsz, hP, hK, hD0, hxs⟩ := hv
  have hx := B.exec
  have hb := B.bytes
  have hr := B.returns
  have hts := atoms_spec (ws := (Cond.code yX1_init cX1_init 1 none :: wsA)) B.pre
  have hown : s.vm.findClass RX1 = some m.cls := findClass_of_methodNamed B.named
  have hlocks := B.notSynchronized
  have hin : meth.name = "<init>" := (name_of_methodNamed B.named B.method).1
  subst hsz
  have hD := hD0.self (sz := s.heap.size)
  generalize hAe : va_A (cW (fun _ => h) 1 (fun _ => .inr (1, [.int 0, .int 0, .int 0, .int 0, .int 0, .null, .null, .int 0, .null]))) s.heap.size = A at hD ⊢
  have hA : ∀ q : Nat, s.heap.size ≤ q → A q := fun q h => by rw [← hAe]; exact Or.inr h
  have G : cG D (fun _ => h) 1 A s.heap s.heap [] (fun _ => .inr (1, [.int 0, .int 0, .int 0, .int 0, .int 0, .null, .null, .int 0, .null])) := ⟨hP, hD, va_S.rf⟩
  have E : cE p c cX1_init s m ([.ref h] : List Value).toArray (Cond.code yX1_init cX1_init 1 none :: wsA) D RX1 (CT cI cJ cZ cMic cSrc cSt cAI cAJ) := ⟨hx, hb, hts, hown, hK⟩
  have hl := lv_entry ([.ref h]) (n := 1) (Nat.le_of_ble_eq_true rfl)
  rw [lg_entry_eq]
  generalize (lg_sl ([.ref h]) ++ List.replicate (1 - (lg_sl ([.ref h])).length) Slot.unset).toArray = ls at hl ⊢
  have hl : lv_has ls 1 [(0, .ref h)] := hl
  refine lv_aload_n hx hb dX1_init_0 rfl (lv_at hl 0 rfl) ?_
  refine W.objInit hx hb hown (hts _ (.tail _ qA_156)) (hts _ (.tail _ qA_2)) (hts _ (.tail _ qA_3)) rfl (by rw [hml]; exact hl.1) rfl dX1_init_1 (Nat.le_of_ble_eq_true rfl) (Nat.le_of_ble_eq_true rfl) ?_
  refine W.eq (g2 := F0 m 4 ls []) rfl ?_
  refine lv_aload_n hx hb dX1_init_4 rfl (lv_at hl 0 rfl) ?_
  refine lv_iconst (v := 4) hx hb dX1_init_5 (by decide) ?_
  refine n_newi E G hA 0 (K := 4) (.tail _ qA_157) rfl rfl (by decide) (Nat.le_of_ble_eq_true rfl) (Nat.le_of_ble_eq_true rfl) dX1_init_6 (fun q1 H G => ?_)
  have G : cG D (cat 1 (fun _ => h) (fun _ => q1)) 2 A s.heap H [] (cat 1 (fun _ => .inr (1, [.int 0, .int 0, .int 0, .int 0, .int 0, .null, .null, .int 0, .null])) (fun _ => .inl (cI, 4, .inl (fun _ => 0)))) := G
  refine n_putF E G 0 5 h (fs := [.int 0, .int 0, .int 0, .int 0, .int 0, .null, .null, .int 0, .null]) (fs1 := [.int 0, .int 0, .int 0, .int 0, .int 0, .ref q1, .null, .int 0, .null]) (by decide) rfl rfl rfl (fun w h => .tail _ (iA_15 h)) tyX1 tyX1_ok nmX1 (by decide) (.tail _ qA_158) ⟨rfl, rfl, rfl⟩ hin rfl rfl rfl (Nat.le_of_ble_eq_true rfl) rfl dX1_init_8 (fun H locs G => ?_)
  have G : cG D (cat 1 (fun _ => h) (fun _ => q1)) 2 A s.heap H locs (va_up (cat 1 (fun _ => .inr (1, [.int 0, .int 0, .int 0, .int 0, .int 0, .null, .null, .int 0, .null])) (fun _ => .inl (cI, 4, .inl (fun _ => 0)))) 0 (.inr (1, [.int 0, .int 0, .int 0, .int 0, .int 0, .ref q1, .null, .int 0, .null]))) := G
  refine lv_aload_n hx hb dX1_init_11 rfl (lv_at hl 0 rfl) ?_
  refine lv_iconst (v := 4) hx hb dX1_init_12 (by decide) ?_
  refine lv_iconst (v := 4) hx hb dX1_init_13 (by decide) ?_
  refine n_mna E G hA 6 0 (ty := .int) (M := 4) (K := 4) (z := (4, .inl (fun _ => 0))) (.tail _ qA_159) hxs.2.2.2.1 (.tail _ qA_157) (va_nm_int (hK.2 0 _ rfl).2) rfl rfl rfl (by decide) (by decide) (by decide) rfl rfl (fun c => n_hzI 4 c) (Nat.le_of_ble_eq_true rfl) (Nat.le_of_ble_eq_true rfl) dX1_init_14 (fun q2 r3 H G => ?_)
  have G : cG D (cat 3 (cat 2 (cat 1 (fun _ => h) (fun _ => q1)) (fun _ => q2)) r3) 7 A s.heap H locs (cat 3 (cat 2 (va_up (cat 1 (fun _ => .inr (1, [.int 0, .int 0, .int 0, .int 0, .int 0, .null, .null, .int 0, .null])) (fun _ => .inl (cI, 4, .inl (fun _ => 0)))) 0 (.inr (1, [.int 0, .int 0, .int 0, .int 0, .int 0, .ref q1, .null, .int 0, .null]))) (fun _ => .inl (cAI, 4, .inr (.inr (.inr (.inr (fun i => if i < 4 then some (r3 i) else none))))))) (fun _ => .inl (cI, 4, .inl (fun _ => 0)))) := G
  refine n_putF E G 0 6 h (fs := [.int 0, .int 0, .int 0, .int 0, .int 0, .ref q1, .null, .int 0, .null]) (fs1 := [.int 0, .int 0, .int 0, .int 0, .int 0, .ref q1, .ref q2, .int 0, .null]) (by decide) rfl rfl rfl (fun w h => .tail _ (iA_15 h)) tyX1 tyX1_ok nmX1 (by decide) (.tail _ qA_160) ⟨rfl, rfl, rfl⟩ hin rfl rfl rfl (Nat.le_of_ble_eq_true rfl) rfl dX1_init_18 (fun H locs G => ?_)
  have G : cG D (cat 3 (cat 2 (cat 1 (fun _ => h) (fun _ => q1)) (fun _ => q2)) r3) 7 A s.heap H locs (va_up (cat 3 (cat 2 (va_up (cat 1 (fun _ => .inr (1, [.int 0, .int 0, .int 0, .int 0, .int 0, .null, .null, .int 0, .null])) (fun _ => .inl (cI, 4, .inl (fun _ => 0)))) 0 (.inr (1, [.int 0, .int 0, .int 0, .int 0, .int 0, .ref q1, .null, .int 0, .null]))) (fun _ => .inl (cAI, 4, .inr (.inr (.inr (.inr (fun i => if i < 4 then some (r3 i) else none))))))) (fun _ => .inl (cI, 4, .inl (fun _ => 0)))) 0 (.inr (1, [.int 0, .int 0, .int 0, .int 0, .int 0, .ref q1, .ref q2, .int 0, .null]))) := G
  refine lv_aload_n hx hb dX1_init_21 rfl (lv_at hl 0 rfl) ?_
  refine lv_iconst (v := 4) hx hb dX1_init_22 (by decide) ?_
  refine n_newi E G hA 0 (K := 4) (.tail _ qA_157) rfl rfl (by decide) (Nat.le_of_ble_eq_true rfl) (Nat.le_of_ble_eq_true rfl) dX1_init_23 (fun q4 H G => ?_)
  have G : cG D (cat 7 (cat 3 (cat 2 (cat 1 (fun _ => h) (fun _ => q1)) (fun _ => q2)) r3) (fun _ => q4)) 8 A s.heap H locs (cat 7 (va_up (cat 3 (cat 2 (va_up (cat 1 (fun _ => .inr (1, [.int 0, .int 0, .int 0, .int 0, .int 0, .null, .null, .int 0, .null])) (fun _ => .inl (cI, 4, .inl (fun _ => 0)))) 0 (.inr (1, [.int 0, .int 0, .int 0, .int 0, .int 0, .ref q1, .null, .int 0, .null]))) (fun _ => .inl (cAI, 4, .inr (.inr (.inr (.inr (fun i => if i < 4 then some (r3 i) else none))))))) (fun _ => .inl (cI, 4, .inl (fun _ => 0)))) 0 (.inr (1, [.int 0, .int 0, .int 0, .int 0, .int 0, .ref q1, .ref q2, .int 0, .null]))) (fun _ => .inl (cI, 4, .inl (fun _ => 0)))) := G
  refine n_putF E G 0 8 h (fs := [.int 0, .int 0, .int 0, .int 0, .int 0, .ref q1, .ref q2, .int 0, .null]) (fs1 := [.int 0, .int 0, .int 0, .int 0, .int 0, .ref q1, .ref q2, .int 0, .ref q4]) (by decide) rfl rfl rfl (fun w h => .tail _ (iA_15 h)) tyX1 tyX1_ok nmX1 (by decide) (.tail _ qA_137) ⟨rfl, rfl, rfl⟩ hin rfl rfl rfl (Nat.le_of_ble_eq_true rfl) rfl dX1_init_25 (fun H locs G => ?_)
  have G : cG D (cat 7 (cat 3 (cat 2 (cat 1 (fun _ => h) (fun _ => q1)) (fun _ => q2)) r3) (fun _ => q4)) 8 A s.heap H locs (va_up (cat 7 (va_up (cat 3 (cat 2 (va_up (cat 1 (fun _ => .inr (1, [.int 0, .int 0, .int 0, .int 0, .int 0, .null, .null, .int 0, .null])) (fun _ => .inl (cI, 4, .inl (fun _ => 0)))) 0 (.inr (1, [.int 0, .int 0, .int 0, .int 0, .int 0, .ref q1, .null, .int 0, .null]))) (fun _ => .inl (cAI, 4, .inr (.inr (.inr (.inr (fun i => if i < 4 then some (r3 i) else none))))))) (fun _ => .inl (cI, 4, .inl (fun _ => 0)))) 0 (.inr (1, [.int 0, .int 0, .int 0, .int 0, .int 0, .ref q1, .ref q2, .int 0, .null]))) (fun _ => .inl (cI, 4, .inl (fun _ => 0)))) 0 (.inr (1, [.int 0, .int 0, .int 0, .int 0, .int 0, .ref q1, .ref q2, .int 0, .ref q4]))) := G
  refine W.widen (k := 7) (n := 28) (Nat.le_of_ble_eq_true rfl) (Nat.le_of_ble_eq_true rfl) ?_
  have hpost : ∀ n, n < 8 → (va_up (cat 7 (va_up (cat 3 (cat 2 (va_up (cat 1 (fun _ => .inr (1, [.int 0, .int 0, .int 0, .int 0, .int 0, .null, .null, .int 0, .null])) (fun _ => .inl (cI, 4, .inl (fun _ => 0)))) 0 (.inr (1, [.int 0, .int 0, .int 0, .int 0, .int 0, .ref q1, .null, .int 0, .null]))) (fun _ => .inl (cAI, 4, .inr (.inr (.inr (.inr (fun i => if i < 4 then some (r3 i) else none))))))) (fun _ => .inl (cI, 4, .inl (fun _ => 0)))) 0 (.inr (1, [.int 0, .int 0, .int 0, .int 0, .int 0, .ref q1, .ref q2, .int 0, .null]))) (fun _ => .inl (cI, 4, .inl (fun _ => 0)))) 0 (.inr (1, [.int 0, .int 0, .int 0, .int 0, .int 0, .ref q1, .ref q2, .int 0, .ref q4]))) n = iX1 cI cJ cZ cMic cSrc cSt cAI cAJ (cat 7 (cat 3 (cat 2 (cat 1 (fun _ => h) (fun _ => q1)) (fun _ => q2)) r3) (fun _ => q4)) n := (lt_s (lt_s (lt_s (lt_s (lt_s (lt_s (lt_s (lt_s lt_0 rfl) rfl) (congrArg (fun f : Nat → Option Nat => (.inl (cAI, 4, .inr (.inr (.inr (.inr f)))) : va_E)) (g_outer (lt_s (lt_s (lt_s (lt_s lt_0 rfl) rfl) rfl) rfl)))) rfl) rfl) rfl) rfl) rfl)
  exact W.vret hx hb hr (fun t ht hW => ⟨⟨((cat 7 (cat 3 (cat 2 (cat 1 (fun _ => h) (fun _ => q1)) (fun _ => q2)) r3) (fun _ => q4)), (va_up (cat 7 (va_up (cat 3 (cat 2 (va_up (cat 1 (fun _ => .inr (1, [.int 0, .int 0, .int 0, .int 0, .int 0, .null, .null, .int 0, .null])) (fun _ => .inl (cI, 4, .inl (fun _ => 0)))) 0 (.inr (1, [.int 0, .int 0, .int 0, .int 0, .int 0, .ref q1, .null, .int 0, .null]))) (fun _ => .inl (cAI, 4, .inr (.inr (.inr (.inr (fun i => if i < 4 then some (r3 i) else none))))))) (fun _ => .inl (cI, 4, .inl (fun _ => 0)))) 0 (.inr (1, [.int 0, .int 0, .int 0, .int 0, .int 0, .ref q1, .ref q2, .int 0, .null]))) (fun _ => .inl (cI, 4, .inl (fun _ => 0)))) 0 (.inr (1, [.int 0, .int 0, .int 0, .int 0, .int 0, .ref q1, .ref q2, .int 0, .ref q4])))), rfl, ⟨rfl, hpost⟩, by rw [ht]; exact G.1, va_K.moved hW.alike hK, G.2.1⟩, G.2.2.F ht⟩) G.2.2.2.2 dX1_init_28
def iX2 (cI cJ cZ cMic cSrc cSt cAI cAJ : ClassId) (b : Nat → Nat) : Nat → va_E := fun n => ([.inr (2, [.int 0, .int 0, .int 0, .int 0])] : List va_E).getD n (.inr (0, []))
