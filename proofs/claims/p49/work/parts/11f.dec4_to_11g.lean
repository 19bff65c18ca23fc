section
/-! 11f.dec4.lean.txt -/
def fr_hears_12_b13  (S : MS) (s0 : Int32) : Option (Int32 × MS) := oif (s0 = 0 ∨ s0 = 1) <| some (s0, S)
set_option maxHeartbeats 4000000 in
set_option maxRecDepth 100000 in
theorem tr_hears_12_b13 {p : Program} {l : Launch} {e : Env} {s : State} {m : MethodId} {args : Array Value} {below : List Frame} {meth : Method} {c : Code} {Q : State → Prop} {D : va_G} {A : Nat → Prop} {H0 : Heap} {cI cJ cZ : ClassId} {ad : Nat → Nat} {r1 : Int32} {S1 : MS} (E : mE p c cX12_hears s m args (Cond.code yX12_hears cX12_hears 3 (some .boolean) :: wsM) D cI cJ cZ) (hA : ∀ q : Nat, H0.size ≤ q → A q) (hR : sR s) (hml : c.maxLocals = 3) (kr13 : ∀ (H : Heap) (locs : List Loc) (ls : Array Slot), (r1 = 0 ∨ r1 = 1) → mG D cI cJ cZ ad A H0 H locs S1 → W p l e { frames := 1, cells := 0, slots := 0, locals := 0 } s m args below meth c H locs 0 0 Q (F0 m 13 ls [.int r1])) : ∀ (S : MS) (H : Heap) (locs : List Loc) (ls : Array Slot) (s0 : Int32), fr_hears_12_b13 S s0 = some (r1, S1) → mG D cI cJ cZ ad A H0 H locs S → lv_has ls 3 [] → W p l e { frames := 1, cells := 0, slots := 0, locals := 0 } s m args below meth c H locs 0 0 Q (F0 m 13 ls [.int s0]) := by
  have hx := E.1
  have hb := E.2.1
  have hts := E.2.2.1
  have hown := E.2.2.2.1
  have hK := E.2.2.2.2.1
  intro S H locs ls s0 h G hl
  unfold fr_hears_12_b13 at h
  obtain ⟨gz, h⟩ := oif_some h
  have gr : r1 = 0 ∨ r1 = 1 := by rw [← (osome2 h).1]; exact gz
  rw [(osome2 h).2] at G
  refine lv_to (osome2 h).1 ?_
  exact kr13 _ _ _ gr G
def fr_hears_12 (S : MS) (a1 : Int32) : Option (Int32 × MS) := elet (1 + a1) fun v2 => oif (inb v2 2455 = true) <| elet (S.2.1 12 v2.toNatClampNeg) fun v4 => if v4 = 0 then (fr_hears_12_b13 S 1) else (fr_hears_12_b13 S 0)
set_option maxHeartbeats 4000000 in
set_option maxRecDepth 100000 in
theorem tr_hears_12 (l : Launch) (D : va_G) (cI cJ cZ : ClassId) (ad : Nat → Nat) (S : MS) (a1 : Int32) {r1 : Int32} {S1 : MS} (h : fr_hears_12 S a1 = some (r1, S1)) : mCi l yX12_hears (Cond.code yX12_hears cX12_hears 3 (some .boolean) :: wsM) 1 0 D cI cJ cZ ad S [.ref (ad 12), .int a1] (fun r S9 => r = r1 ∧ S9 = S1) := by
  intro sz
  refine Met.ofW (cc := cX12_hears) (maxL := 3) (ret := (some .boolean)) (by decide) rfl ?_
  intro p e s m args below meth c s₁ B hml hv
  obtain ⟨rfl, hsz, hP, hK, hD0, hR⟩ := hv
  have hx := B.exec
  have hb := B.bytes
  have hr := B.returns
  have hts := atoms_spec (ws := (Cond.code yX12_hears cX12_hears 3 (some .boolean) :: wsM)) B.pre
  have hown : s.vm.findClass RX12 = some m.cls := findClass_of_methodNamed B.named
  have hlocks := B.notSynchronized
  subst hsz
  have hD := hD0.self (sz := s.heap.size)
  generalize hAe : va_A (MW cI cJ cZ ad S) s.heap.size = A at hD ⊢
  have hA : ∀ q : Nat, s.heap.size ≤ q → A q := fun q h => by rw [← hAe]; exact Or.inr h
  have G : mG D cI cJ cZ ad A s.heap s.heap [] S := ⟨hP, hD, va_S.rf⟩
  have E : mE p c cX12_hears s m ([.ref (ad 0), .ref (ad 12), .int a1] : List Value).toArray (Cond.code yX12_hears cX12_hears 3 (some .boolean) :: wsM) D cI cJ cZ := ⟨hx, hb, hts, hown, hK, fun w h => .tail _ (iM_x h)⟩
  have hl := lv_entry ([.ref (ad 0), .ref (ad 12), .int a1]) (n := 3) (Nat.le_of_ble_eq_true rfl)
  rw [lg_entry_eq]
  generalize (lg_sl ([.ref (ad 0), .ref (ad 12), .int a1]) ++ List.replicate (3 - (lg_sl ([.ref (ad 0), .ref (ad 12), .int a1])).length) Slot.unset).toArray = ls at hl ⊢
  have hl : lv_has ls 3 [(0, .ref (ad 0)), (1, .ref (ad 12)), (2, .int a1)] := hl
  unfold fr_hears_12 at h
  refine lv_aload_n hx hb dX12_hears_0 rfl (lv_at hl 1 rfl) ?_
  refine lv_iconst (v := 1) hx hb dX12_hears_1 (by decide) ?_
  refine lv_iload_n hx hb dX12_hears_2 rfl (lv_at hl 2 rfl) ?_
  refine lv_iadd hx hb dX12_hears_3 ?_
  refine lv_topi (fun v2 ev2 => ?_)
  have h := elet_at ev2 h
  clear ev2
  obtain ⟨g3, h⟩ := oif_some h
  refine m_iald E G 12 4 (n := 2455) (k := v2.toNatClampNeg) rfl (inb_k g3).1 (inb_k g3).2 (by decide) dX12_hears_4 ?_
  refine lv_topi (fun v4 ev4 => ?_)
  have h := elet_at ev4 h
  clear ev4
  refine lv_if_ne (tgt := 12) hx hb dX12_hears_5 (by decide) (fun c5 => ?_) (fun c5 => ?_)
  · have h := oif_neg c5 h
    refine lv_iconst (v := 0) hx hb dX12_hears_12 (by decide) ?_
    have hl := lv_sub hl [] rfl
    exact tr_hears_12_b13 E hA hR hml (fun H locs ls gz G => W.zret (v := r1) hx hb hr (nar01 gz) (fun t ht hW => ⟨⟨r1, S1, rfl, ⟨rfl, rfl⟩, ⟨by rw [ht]; exact G.1, va_K.moved hW.alike hK, G.2.1⟩⟩, G.2.2.F ht⟩) G.2.2.2.2 dX12_hears_13) _ _ _ _ _ h G hl
  · have h := oif_pos c5 h
    refine lv_iconst (v := 1) hx hb dX12_hears_8 (by decide) ?_
    refine lv_goto (tgt := 13) hx hb dX12_hears_9 (by decide) ?_
    have hl := lv_sub hl [] rfl
    exact tr_hears_12_b13 E hA hR hml (fun H locs ls gz G => W.zret (v := r1) hx hb hr (nar01 gz) (fun t ht hW => ⟨⟨r1, S1, rfl, ⟨rfl, rfl⟩, ⟨by rw [ht]; exact G.1, va_K.moved hW.alike hK, G.2.1⟩⟩, G.2.2.F ht⟩) G.2.2.2.2 dX12_hears_13) _ _ _ _ _ h G hl
def fr_isMuted_b29  (S : MS) (s0 : Int32) : Option (Int32 × MS) := oif (s0 = 0 ∨ s0 = 1) <| some (s0, S)
set_option maxHeartbeats 4000000 in
set_option maxRecDepth 100000 in
theorem tr_isMuted_b29 {p : Program} {l : Launch} {e : Env} {s : State} {m : MethodId} {args : Array Value} {below : List Frame} {meth : Method} {c : Code} {Q : State → Prop} {D : va_G} {A : Nat → Prop} {H0 : Heap} {cI cJ cZ : ClassId} {ad : Nat → Nat} {r1 : Int32} {S1 : MS} (E : mE p c cX12_isMuted s m args (Cond.code yX12_isMuted cX12_isMuted 2 (some .boolean) :: wsM) D cI cJ cZ) (hA : ∀ q : Nat, H0.size ≤ q → A q) (hR : sR s) (hml : c.maxLocals = 2) (kr29 : ∀ (H : Heap) (locs : List Loc) (ls : Array Slot), (r1 = 0 ∨ r1 = 1) → mG D cI cJ cZ ad A H0 H locs S1 → W p l e { frames := 3, cells := 0, slots := 0, locals := 43 } s m args below meth c H locs 0 0 Q (F0 m 29 ls [.int r1])) : ∀ (S : MS) (H : Heap) (locs : List Loc) (ls : Array Slot) (s0 : Int32), fr_isMuted_b29 S s0 = some (r1, S1) → mG D cI cJ cZ ad A H0 H locs S → lv_has ls 2 [] → W p l e { frames := 3, cells := 0, slots := 0, locals := 43 } s m args below meth c H locs 0 0 Q (F0 m 29 ls [.int s0]) := by
  have hx := E.1
  have hb := E.2.1
  have hts := E.2.2.1
  have hown := E.2.2.2.1
  have hK := E.2.2.2.2.1
  intro S H locs ls s0 h G hl
  unfold fr_isMuted_b29 at h
  obtain ⟨gz, h⟩ := oif_some h
  have gr : r1 = 0 ∨ r1 = 1 := by rw [← (osome2 h).1]; exact gz
  rw [(osome2 h).2] at G
  refine lv_to (osome2 h).1 ?_
  exact kr29 _ _ _ gr G
def fr_isMuted_b28  (S : MS)  : Option (Int32 × MS) := fr_isMuted_b29 S 0
set_option maxHeartbeats 4000000 in
set_option maxRecDepth 100000 in
theorem tr_isMuted_b28 {p : Program} {l : Launch} {e : Env} {s : State} {m : MethodId} {args : Array Value} {below : List Frame} {meth : Method} {c : Code} {Q : State → Prop} {D : va_G} {A : Nat → Prop} {H0 : Heap} {cI cJ cZ : ClassId} {ad : Nat → Nat} {r1 : Int32} {S1 : MS} (E : mE p c cX12_isMuted s m args (Cond.code yX12_isMuted cX12_isMuted 2 (some .boolean) :: wsM) D cI cJ cZ) (hA : ∀ q : Nat, H0.size ≤ q → A q) (hR : sR s) (hml : c.maxLocals = 2) (kr29 : ∀ (H : Heap) (locs : List Loc) (ls : Array Slot), (r1 = 0 ∨ r1 = 1) → mG D cI cJ cZ ad A H0 H locs S1 → W p l e { frames := 3, cells := 0, slots := 0, locals := 43 } s m args below meth c H locs 0 0 Q (F0 m 29 ls [.int r1])) : ∀ (S : MS) (H : Heap) (locs : List Loc) (ls : Array Slot), fr_isMuted_b28 S = some (r1, S1) → mG D cI cJ cZ ad A H0 H locs S → lv_has ls 2 [] → W p l e { frames := 3, cells := 0, slots := 0, locals := 43 } s m args below meth c H locs 0 0 Q (F0 m 28 ls []) := by
  have hx := E.1
  have hb := E.2.1
  have hts := E.2.2.1
  have hown := E.2.2.2.1
  have hK := E.2.2.2.2.1
  intro S H locs ls h G hl
  unfold fr_isMuted_b28 at h
  refine lv_iconst (v := 0) hx hb dX12_isMuted_28 (by decide) ?_
  have hl := lv_sub hl [] rfl
  exact tr_isMuted_b29 E hA hR hml kr29 _ _ _ _ _ h G hl
def fr_isMuted (S : MS) (a0 : Int32) : Option (Int32 × MS) := obind2 (fr_isMic S a0) fun r5 S2 => obind2 (fr_mayAsk S2 r5) fun r9 S6 => if r9 = 0 then (fr_isMuted_b28 S6) else (obind2 (fr_hears_12 S6 a0) fun r14 S11 => if r14 = 0 then (fr_isMuted_b29 S11 1) else (fr_isMuted_b28 S11))
set_option maxHeartbeats 4000000 in
set_option maxRecDepth 100000 in
theorem tr_isMuted (l : Launch) (D : va_G) (cI cJ cZ : ClassId) (ad : Nat → Nat) (S : MS) (a0 : Int32) {r1 : Int32} {S1 : MS} (h : fr_isMuted S a0 = some (r1, S1)) : mCi l yX12_isMuted (Cond.code yX12_isMuted cX12_isMuted 2 (some .boolean) :: wsM) 3 43 D cI cJ cZ ad S [.int a0] (fun r S9 => r = r1 ∧ S9 = S1) := by
  intro sz
  refine Met.ofW (cc := cX12_isMuted) (maxL := 2) (ret := (some .boolean)) (by decide) rfl ?_
  intro p e s m args below meth c s₁ B hml hv
  obtain ⟨rfl, hsz, hP, hK, hD0, hR⟩ := hv
  have hx := B.exec
  have hb := B.bytes
  have hr := B.returns
  have hts := atoms_spec (ws := (Cond.code yX12_isMuted cX12_isMuted 2 (some .boolean) :: wsM)) B.pre
  have hown : s.vm.findClass RX12 = some m.cls := findClass_of_methodNamed B.named
  have hlocks := B.notSynchronized
  subst hsz
  have hD := hD0.self (sz := s.heap.size)
  generalize hAe : va_A (MW cI cJ cZ ad S) s.heap.size = A at hD ⊢
  have hA : ∀ q : Nat, s.heap.size ≤ q → A q := fun q h => by rw [← hAe]; exact Or.inr h
  have G : mG D cI cJ cZ ad A s.heap s.heap [] S := ⟨hP, hD, va_S.rf⟩
  have E : mE p c cX12_isMuted s m ([.ref (ad 0), .int a0] : List Value).toArray (Cond.code yX12_isMuted cX12_isMuted 2 (some .boolean) :: wsM) D cI cJ cZ := ⟨hx, hb, hts, hown, hK, fun w h => .tail _ (iM_x h)⟩
  have hl := lv_entry ([.ref (ad 0), .int a0]) (n := 2) (Nat.le_of_ble_eq_true rfl)
  rw [lg_entry_eq]
  generalize (lg_sl ([.ref (ad 0), .int a0]) ++ List.replicate (2 - (lg_sl ([.ref (ad 0), .int a0])).length) Slot.unset).toArray = ls at hl ⊢
  have hl : lv_has ls 2 [(0, .ref (ad 0)), (1, .int a0)] := hl
  unfold fr_isMuted at h
  refine lv_aload_n hx hb dX12_isMuted_0 rfl (lv_at hl 0 rfl) ?_
  refine lv_aload_n hx hb dX12_isMuted_1 rfl (lv_at hl 0 rfl) ?_
  refine lv_iload_n hx hb dX12_isMuted_2 rfl (lv_at hl 1 rfl) ?_
  obtain ⟨r5, S2, eS2, h⟩ := obind2_some h
  refine m_calli (As := [.int a0]) (rest := [.ref (ad 0)]) E G hA hR hml (tr_isMic l D cI cJ cZ ad S a0 eS2) (cwV 1 hts (gmV qM_316 qM_317 qM_318 qM_35 qM_306) rfl rfl rfl (by decide +kernel) ⟨Nat.le_of_ble_eq_true rfl, Nat.le_of_ble_eq_true rfl⟩) rfl hl.1 rfl (lv_room (Nat.le_of_ble_eq_true rfl)) dX12_isMuted_3 ⟨Nat.zero_le _, Nat.zero_le _⟩ (fun q3 S4 H locs hq G => ?_)
  obtain ⟨hq1, hq2⟩ := hq
  rw [hq2] at G
  refine lv_to hq1 ?_
  clear hq1 hq2 eS2
  obtain ⟨r9, S6, eS6, h⟩ := obind2_some h
  refine m_calli (As := [.int r5]) (rest := []) E G hA hR hml (tr_mayAsk l D cI cJ cZ ad S2 r5 eS6) (cwV 1 hts (gmV qM_319 qM_320 qM_321 qM_35 qM_304) rfl rfl rfl (by decide +kernel) ⟨Nat.le_of_ble_eq_true rfl, Nat.le_of_ble_eq_true rfl⟩) rfl hl.1 rfl (lv_room (Nat.le_of_ble_eq_true rfl)) dX12_isMuted_6 ⟨Nat.zero_le _, Nat.zero_le _⟩ (fun q7 S8 H locs hq G => ?_)
  obtain ⟨hq1, hq2⟩ := hq
  rw [hq2] at G
  refine lv_to hq1 ?_
  clear hq1 hq2 eS6
  refine lv_if_eq (tgt := 28) hx hb dX12_isMuted_9 (by decide) (fun c10 => ?_) (fun c10 => ?_)
  · have h := oif_pos c10 h
    have hl := lv_sub hl [] rfl
    exact tr_isMuted_b28 E hA hR hml (fun H locs ls gz G => W.zret (v := r1) hx hb hr (nar01 gz) (fun t ht hW => ⟨⟨r1, S1, rfl, ⟨rfl, rfl⟩, ⟨by rw [ht]; exact G.1, va_K.moved hW.alike hK, G.2.1⟩⟩, G.2.2.F ht⟩) G.2.2.2.2 dX12_isMuted_29) _ _ _ _ h G hl
  · have h := oif_neg c10 h
    refine lv_aload_n hx hb dX12_isMuted_12 rfl (lv_at hl 0 rfl) ?_
    refine lv_aload_n hx hb dX12_isMuted_13 rfl (lv_at hl 0 rfl) ?_
    refine m_get E G 12 (v := .ref (ad 12)) (by decide) (.tail _ qM_9) rfl dX12_isMuted_14 rfl ?_
    refine lv_iload_n hx hb dX12_isMuted_17 rfl (lv_at hl 1 rfl) ?_
    obtain ⟨r14, S11, eS11, h⟩ := obind2_some h
    refine m_calli (As := [.ref (ad 12), .int a0]) (rest := []) E G hA hR hml (tr_hears_12 l D cI cJ cZ ad S6 a0 eS11) (cwV 2 hts (gmV qM_274 qM_275 qM_276 qM_35 qM_272) rfl rfl rfl (by decide +kernel) ⟨Nat.le_of_ble_eq_true rfl, Nat.le_of_ble_eq_true rfl⟩) rfl hl.1 rfl (lv_room (Nat.le_of_ble_eq_true rfl)) dX12_isMuted_18 ⟨Nat.zero_le _, Nat.zero_le _⟩ (fun q12 S13 H locs hq G => ?_)
    obtain ⟨hq1, hq2⟩ := hq
    rw [hq2] at G
    refine lv_to hq1 ?_
    clear hq1 hq2 eS11
    refine lv_if_ne (tgt := 28) hx hb dX12_isMuted_21 (by decide) (fun c15 => ?_) (fun c15 => ?_)
    · have h := oif_neg c15 h
      have hl := lv_sub hl [] rfl
      exact tr_isMuted_b28 E hA hR hml (fun H locs ls gz G => W.zret (v := r1) hx hb hr (nar01 gz) (fun t ht hW => ⟨⟨r1, S1, rfl, ⟨rfl, rfl⟩, ⟨by rw [ht]; exact G.1, va_K.moved hW.alike hK, G.2.1⟩⟩, G.2.2.F ht⟩) G.2.2.2.2 dX12_isMuted_29) _ _ _ _ h G hl
    · have h := oif_pos c15 h
      refine lv_iconst (v := 1) hx hb dX12_isMuted_24 (by decide) ?_
      refine lv_goto (tgt := 29) hx hb dX12_isMuted_25 (by decide) ?_
      have hl := lv_sub hl [] rfl
      exact tr_isMuted_b29 E hA hR hml (fun H locs ls gz G => W.zret (v := r1) hx hb hr (nar01 gz) (fun t ht hW => ⟨⟨r1, S1, rfl, ⟨rfl, rfl⟩, ⟨by rw [ht]; exact G.1, va_K.moved hW.alike hK, G.2.1⟩⟩, G.2.2.F ht⟩) G.2.2.2.2 dX12_isMuted_29) _ _ _ _ _ h G hl
def fr_columns (S : MS)  : Option (Int32 × MS) := elet (S.2.1 10 9) fun v2 => obind2 (fr_told S v2) fun r6 S3 => some (r6, S3)
set_option maxHeartbeats 4000000 in
set_option maxRecDepth 100000 in
theorem tr_columns (l : Launch) (D : va_G) (cI cJ cZ : ClassId) (ad : Nat → Nat) (S : MS)  {r1 : Int32} {S1 : MS} (h : fr_columns S = some (r1, S1)) : mCi l yX12_columns (Cond.code yX12_columns cX12_columns 1 (some .int) :: wsM) 2 21 D cI cJ cZ ad S [] (fun r S9 => r = r1 ∧ S9 = S1) := by
  intro sz
  refine Met.ofW (cc := cX12_columns) (maxL := 1) (ret := (some .int)) (by decide) rfl ?_
  intro p e s m args below meth c s₁ B hml hv
  obtain ⟨rfl, hsz, hP, hK, hD0, hR⟩ := hv
  have hx := B.exec
  have hb := B.bytes
  have hr := B.returns
  have hts := atoms_spec (ws := (Cond.code yX12_columns cX12_columns 1 (some .int) :: wsM)) B.pre
  have hown : s.vm.findClass RX12 = some m.cls := findClass_of_methodNamed B.named
  have hlocks := B.notSynchronized
  subst hsz
  have hD := hD0.self (sz := s.heap.size)
  generalize hAe : va_A (MW cI cJ cZ ad S) s.heap.size = A at hD ⊢
  have hA : ∀ q : Nat, s.heap.size ≤ q → A q := fun q h => by rw [← hAe]; exact Or.inr h
  have G : mG D cI cJ cZ ad A s.heap s.heap [] S := ⟨hP, hD, va_S.rf⟩
  have E : mE p c cX12_columns s m ([.ref (ad 0)] : List Value).toArray (Cond.code yX12_columns cX12_columns 1 (some .int) :: wsM) D cI cJ cZ := ⟨hx, hb, hts, hown, hK, fun w h => .tail _ (iM_x h)⟩
  have hl := lv_entry ([.ref (ad 0)]) (n := 1) (Nat.le_of_ble_eq_true rfl)
  rw [lg_entry_eq]
  generalize (lg_sl ([.ref (ad 0)]) ++ List.replicate (1 - (lg_sl ([.ref (ad 0)])).length) Slot.unset).toArray = ls at hl ⊢
  have hl : lv_has ls 1 [(0, .ref (ad 0))] := hl
  unfold fr_columns at h
  refine lv_aload_n hx hb dX12_columns_0 rfl (lv_at hl 0 rfl) ?_
  refine lv_aload_n hx hb dX12_columns_1 rfl (lv_at hl 0 rfl) ?_
  refine m_get E G 10 (v := .ref (ad 10)) (by decide) (.tail _ qM_7) rfl dX12_columns_2 rfl ?_
  refine lv_bipush (v := 9) hx hb dX12_columns_5 (by decide) ?_
  refine m_iald E G 10 2 (n := 131) (k := 9) rfl rfl (by decide) (by decide) dX12_columns_7 ?_
  refine lv_topi (fun v2 ev2 => ?_)
  have h := elet_at ev2 h
  clear ev2
  obtain ⟨r6, S3, eS3, h⟩ := obind2_some h
  refine m_calli (As := [.int v2]) (rest := []) E G hA hR hml (tr_told l D cI cJ cZ ad S v2 eS3) (cwV 1 hts (gmV qM_312 qM_313 qM_314 qM_35 qM_305) rfl rfl rfl (by decide +kernel) ⟨Nat.le_of_ble_eq_true rfl, Nat.le_of_ble_eq_true rfl⟩) rfl hl.1 rfl (lv_room (Nat.le_of_ble_eq_true rfl)) dX12_columns_8 ⟨Nat.zero_le _, Nat.zero_le _⟩ (fun q4 S5 H locs hq G => ?_)
  obtain ⟨hq1, hq2⟩ := hq
  rw [hq2] at G
  refine lv_to hq1 ?_
  clear hq1 hq2 eS3
  exact W.iret (v := r6) hx hb hr (fun t ht hW => ⟨⟨r6, S3, rfl, osome2 h, ⟨by rw [ht]; exact G.1, va_K.moved hW.alike hK, G.2.1⟩⟩, G.2.2.F ht⟩) G.2.2.2.2 dX12_columns_11
def fr_rows (S : MS)  : Option (Int32 × MS) := elet (S.2.1 10 10) fun v2 => obind2 (fr_told S v2) fun r6 S3 => some (r6, S3)
set_option maxHeartbeats 4000000 in
set_option maxRecDepth 100000 in
theorem tr_rows (l : Launch) (D : va_G) (cI cJ cZ : ClassId) (ad : Nat → Nat) (S : MS)  {r1 : Int32} {S1 : MS} (h : fr_rows S = some (r1, S1)) : mCi l yX12_rows (Cond.code yX12_rows cX12_rows 1 (some .int) :: wsM) 2 21 D cI cJ cZ ad S [] (fun r S9 => r = r1 ∧ S9 = S1) := by
  intro sz
  refine Met.ofW (cc := cX12_rows) (maxL := 1) (ret := (some .int)) (by decide) rfl ?_
  intro p e s m args below meth c s₁ B hml hv
  obtain ⟨rfl, hsz, hP, hK, hD0, hR⟩ := hv
  have hx := B.exec
  have hb := B.bytes
  have hr := B.returns
  have hts := atoms_spec (ws := (Cond.code yX12_rows cX12_rows 1 (some .int) :: wsM)) B.pre
  have hown : s.vm.findClass RX12 = some m.cls := findClass_of_methodNamed B.named
  have hlocks := B.notSynchronized
  subst hsz
  have hD := hD0.self (sz := s.heap.size)
  generalize hAe : va_A (MW cI cJ cZ ad S) s.heap.size = A at hD ⊢
  have hA : ∀ q : Nat, s.heap.size ≤ q → A q := fun q h => by rw [← hAe]; exact Or.inr h
  have G : mG D cI cJ cZ ad A s.heap s.heap [] S := ⟨hP, hD, va_S.rf⟩
  have E : mE p c cX12_rows s m ([.ref (ad 0)] : List Value).toArray (Cond.code yX12_rows cX12_rows 1 (some .int) :: wsM) D cI cJ cZ := ⟨hx, hb, hts, hown, hK, fun w h => .tail _ (iM_x h)⟩
  have hl := lv_entry ([.ref (ad 0)]) (n := 1) (Nat.le_of_ble_eq_true rfl)
  rw [lg_entry_eq]
  generalize (lg_sl ([.ref (ad 0)]) ++ List.replicate (1 - (lg_sl ([.ref (ad 0)])).length) Slot.unset).toArray = ls at hl ⊢
  have hl : lv_has ls 1 [(0, .ref (ad 0))] := hl
  unfold fr_rows at h
  refine lv_aload_n hx hb dX12_rows_0 rfl (lv_at hl 0 rfl) ?_
  refine lv_aload_n hx hb dX12_rows_1 rfl (lv_at hl 0 rfl) ?_
  refine m_get E G 10 (v := .ref (ad 10)) (by decide) (.tail _ qM_7) rfl dX12_rows_2 rfl ?_
  refine lv_bipush (v := 10) hx hb dX12_rows_5 (by decide) ?_
  refine m_iald E G 10 2 (n := 131) (k := 10) rfl rfl (by decide) (by decide) dX12_rows_7 ?_
  refine lv_topi (fun v2 ev2 => ?_)
  have h := elet_at ev2 h
  clear ev2
  obtain ⟨r6, S3, eS3, h⟩ := obind2_some h
  refine m_calli (As := [.int v2]) (rest := []) E G hA hR hml (tr_told l D cI cJ cZ ad S v2 eS3) (cwV 1 hts (gmV qM_312 qM_313 qM_314 qM_35 qM_305) rfl rfl rfl (by decide +kernel) ⟨Nat.le_of_ble_eq_true rfl, Nat.le_of_ble_eq_true rfl⟩) rfl hl.1 rfl (lv_room (Nat.le_of_ble_eq_true rfl)) dX12_rows_8 ⟨Nat.zero_le _, Nat.zero_le _⟩ (fun q4 S5 H locs hq G => ?_)
  obtain ⟨hq1, hq2⟩ := hq
  rw [hq2] at G
  refine lv_to hq1 ?_
  clear hq1 hq2 eS3
  exact W.iret (v := r6) hx hb hr (fun t ht hW => ⟨⟨r6, S3, rfl, osome2 h, ⟨by rw [ht]; exact G.1, va_K.moved hW.alike hK, G.2.1⟩⟩, G.2.2.F ht⟩) G.2.2.2.2 dX12_rows_11
def fr_cellAt_b37  (S : MS) (s0 : Int32) : Option (Int32 × MS) := some (s0, S)
set_option maxHeartbeats 4000000 in
set_option maxRecDepth 100000 in
theorem tr_cellAt_b37 {p : Program} {l : Launch} {e : Env} {s : State} {m : MethodId} {args : Array Value} {below : List Frame} {meth : Method} {c : Code} {Q : State → Prop} {D : va_G} {A : Nat → Prop} {H0 : Heap} {cI cJ cZ : ClassId} {ad : Nat → Nat} {r1 : Int32} {S1 : MS} (E : mE p c cX12_cellAt s m args (Cond.code yX12_cellAt cX12_cellAt 3 (some .int) :: wsM) D cI cJ cZ) (hA : ∀ q : Nat, H0.size ≤ q → A q) (hR : sR s) (hml : c.maxLocals = 3) (kr13 : ∀ (H : Heap) (locs : List Loc) (ls : Array Slot), mG D cI cJ cZ ad A H0 H locs S1 → W p l e { frames := 3, cells := 0, slots := 0, locals := 43 } s m args below meth c H locs 0 0 Q (F0 m 13 ls [.int r1])) (kr37 : ∀ (H : Heap) (locs : List Loc) (ls : Array Slot), mG D cI cJ cZ ad A H0 H locs S1 → W p l e { frames := 3, cells := 0, slots := 0, locals := 43 } s m args below meth c H locs 0 0 Q (F0 m 37 ls [.int r1])) : ∀ (S : MS) (H : Heap) (locs : List Loc) (ls : Array Slot) (s0 : Int32), fr_cellAt_b37 S s0 = some (r1, S1) → mG D cI cJ cZ ad A H0 H locs S → lv_has ls 3 [] → W p l e { frames := 3, cells := 0, slots := 0, locals := 43 } s m args below meth c H locs 0 0 Q (F0 m 37 ls [.int s0]) := by
  have hx := E.1
  have hb := E.2.1
  have hts := E.2.2.1
  have hown := E.2.2.2.1
  have hK := E.2.2.2.2.1
  intro S H locs ls s0 h G hl
  unfold fr_cellAt_b37 at h
  rw [(osome2 h).2] at G
  refine lv_to (osome2 h).1 ?_
  exact kr37 _ _ _ G
def fr_cellAt (S : MS) (a0 : Int32) (a1 : Int32) : Option (Int32 × MS) := obind2 (fr_isCell S a0) fun r5 S2 => obind2 (fr_mayAsk S2 r5) fun r9 S6 => if r9 = 0 then (some (0, S6)) else (obind (fr_in a1 0 1) fun r11 => if r11 = 0 then (obind2 (fr_throwsAt S6 3) fun r17 S14 => fr_cellAt_b37 S14 r17) else (obind2 (fr_centre S6 a0 a1) fun r21 S18 => fr_cellAt_b37 S18 r21))
set_option maxHeartbeats 4000000 in
set_option maxRecDepth 100000 in
theorem tr_cellAt (l : Launch) (D : va_G) (cI cJ cZ : ClassId) (ad : Nat → Nat) (S : MS) (a0 : Int32) (a1 : Int32) {r1 : Int32} {S1 : MS} (h : fr_cellAt S a0 a1 = some (r1, S1)) : mCi l yX12_cellAt (Cond.code yX12_cellAt cX12_cellAt 3 (some .int) :: wsM) 3 43 D cI cJ cZ ad S [.int a0, .int a1] (fun r S9 => r = r1 ∧ S9 = S1) := by
  intro sz
  refine Met.ofW (cc := cX12_cellAt) (maxL := 3) (ret := (some .int)) (by decide) rfl ?_
  intro p e s m args below meth c s₁ B hml hv
  obtain ⟨rfl, hsz, hP, hK, hD0, hR⟩ := hv
  have hx := B.exec
  have hb := B.bytes
  have hr := B.returns
  have hts := atoms_spec (ws := (Cond.code yX12_cellAt cX12_cellAt 3 (some .int) :: wsM)) B.pre
  have hown : s.vm.findClass RX12 = some m.cls := findClass_of_methodNamed B.named
  have hlocks := B.notSynchronized
  subst hsz
  have hD := hD0.self (sz := s.heap.size)
  generalize hAe : va_A (MW cI cJ cZ ad S) s.heap.size = A at hD ⊢
  have hA : ∀ q : Nat, s.heap.size ≤ q → A q := fun q h => by rw [← hAe]; exact Or.inr h
  have G : mG D cI cJ cZ ad A s.heap s.heap [] S := ⟨hP, hD, va_S.rf⟩
  have E : mE p c cX12_cellAt s m ([.ref (ad 0), .int a0, .int a1] : List Value).toArray (Cond.code yX12_cellAt cX12_cellAt 3 (some .int) :: wsM) D cI cJ cZ := ⟨hx, hb, hts, hown, hK, fun w h => .tail _ (iM_x h)⟩
  have hl := lv_entry ([.ref (ad 0), .int a0, .int a1]) (n := 3) (Nat.le_of_ble_eq_true rfl)
  rw [lg_entry_eq]
  generalize (lg_sl ([.ref (ad 0), .int a0, .int a1]) ++ List.replicate (3 - (lg_sl ([.ref (ad 0), .int a0, .int a1])).length) Slot.unset).toArray = ls at hl ⊢
  have hl : lv_has ls 3 [(0, .ref (ad 0)), (1, .int a0), (2, .int a1)] := hl
  unfold fr_cellAt at h
  refine lv_aload_n hx hb dX12_cellAt_0 rfl (lv_at hl 0 rfl) ?_
  refine lv_aload_n hx hb dX12_cellAt_1 rfl (lv_at hl 0 rfl) ?_
  refine lv_iload_n hx hb dX12_cellAt_2 rfl (lv_at hl 1 rfl) ?_
  obtain ⟨r5, S2, eS2, h⟩ := obind2_some h
  refine m_calli (As := [.int a0]) (rest := [.ref (ad 0)]) E G hA hR hml (tr_isCell l D cI cJ cZ ad S a0 eS2) (cwV 1 hts (gmV qM_326 qM_327 qM_328 qM_35 qM_307) rfl rfl rfl (by decide +kernel) ⟨Nat.le_of_ble_eq_true rfl, Nat.le_of_ble_eq_true rfl⟩) rfl hl.1 rfl (lv_room (Nat.le_of_ble_eq_true rfl)) dX12_cellAt_3 ⟨Nat.zero_le _, Nat.zero_le _⟩ (fun q3 S4 H locs hq G => ?_)
  obtain ⟨hq1, hq2⟩ := hq
  rw [hq2] at G
  refine lv_to hq1 ?_
  clear hq1 hq2 eS2
  obtain ⟨r9, S6, eS6, h⟩ := obind2_some h
  refine m_calli (As := [.int r5]) (rest := []) E G hA hR hml (tr_mayAsk l D cI cJ cZ ad S2 r5 eS6) (cwV 1 hts (gmV qM_319 qM_320 qM_321 qM_35 qM_304) rfl rfl rfl (by decide +kernel) ⟨Nat.le_of_ble_eq_true rfl, Nat.le_of_ble_eq_true rfl⟩) rfl hl.1 rfl (lv_room (Nat.le_of_ble_eq_true rfl)) dX12_cellAt_6 ⟨Nat.zero_le _, Nat.zero_le _⟩ (fun q7 S8 H locs hq G => ?_)
  obtain ⟨hq1, hq2⟩ := hq
  rw [hq2] at G
  refine lv_to hq1 ?_
  clear hq1 hq2 eS6
  refine lv_if_ne (tgt := 14) hx hb dX12_cellAt_9 (by decide) (fun c10 => ?_) (fun c10 => ?_)
  · have h := oif_neg c10 h
    refine lv_iload_n hx hb dX12_cellAt_14 rfl (lv_at hl 2 rfl) ?_
    refine lv_iconst (v := 0) hx hb dX12_cellAt_15 (by decide) ?_
    refine lv_iconst (v := 1) hx hb dX12_cellAt_16 (by decide) ?_
    obtain ⟨r11, er11, h⟩ := obind_some h
    refine m_stat (As := [.int a1, .int 0, .int 1]) (rest := []) ⟨hx, hb, hml, hown, hts⟩ (tr_in l a1 0 1 er11) (cwS 3 hts (gmS qM_52 qM_53 qM_35 qM_27) rfl rfl rfl (by decide +kernel) ⟨Nat.le_of_ble_eq_true rfl, Nat.le_of_ble_eq_true rfl⟩) rfl hl.1 rfl (lv_room (Nat.le_of_ble_eq_true rfl)) dX12_cellAt_17 ⟨Nat.zero_le _, Nat.zero_le _⟩ (fun q12 hq => ?_)
    refine lv_to hq ?_
    clear hq er11
    refine lv_if_eq (tgt := 32) hx hb dX12_cellAt_20 (by decide) (fun c13 => ?_) (fun c13 => ?_)
    · have h := oif_pos c13 h
      refine lv_aload_n hx hb dX12_cellAt_32 rfl (lv_at hl 0 rfl) ?_
      refine lv_iconst (v := 3) hx hb dX12_cellAt_33 (by decide) ?_
      obtain ⟨r17, S14, eS14, h⟩ := obind2_some h
      refine m_calli (As := [.int 3]) (rest := []) E G hA hR hml (tr_throwsAt l D cI cJ cZ ad S6 3 eS14) (cwV 1 hts (gmV qM_195 qM_196 qM_197 qM_35 qM_28) rfl rfl rfl (by decide +kernel) ⟨Nat.le_of_ble_eq_true rfl, Nat.le_of_ble_eq_true rfl⟩) rfl hl.1 rfl (lv_room (Nat.le_of_ble_eq_true rfl)) dX12_cellAt_34 ⟨Nat.zero_le _, Nat.zero_le _⟩ (fun q15 S16 H locs hq G => ?_)
      obtain ⟨hq1, hq2⟩ := hq
      rw [hq2] at G
      refine lv_to hq1 ?_
      clear hq1 hq2 eS14
      have hl := lv_sub hl [] rfl
      exact tr_cellAt_b37 E hA hR hml (fun H locs ls G => W.iret (v := r1) hx hb hr (fun t ht hW => ⟨⟨r1, S1, rfl, ⟨rfl, rfl⟩, ⟨by rw [ht]; exact G.1, va_K.moved hW.alike hK, G.2.1⟩⟩, G.2.2.F ht⟩) G.2.2.2.2 dX12_cellAt_13) (fun H locs ls G => W.iret (v := r1) hx hb hr (fun t ht hW => ⟨⟨r1, S1, rfl, ⟨rfl, rfl⟩, ⟨by rw [ht]; exact G.1, va_K.moved hW.alike hK, G.2.1⟩⟩, G.2.2.F ht⟩) G.2.2.2.2 dX12_cellAt_37) _ _ _ _ _ h G hl
    · have h := oif_neg c13 h
      refine lv_aload_n hx hb dX12_cellAt_23 rfl (lv_at hl 0 rfl) ?_
      refine lv_iload_n hx hb dX12_cellAt_24 rfl (lv_at hl 1 rfl) ?_
      refine lv_iload_n hx hb dX12_cellAt_25 rfl (lv_at hl 2 rfl) ?_
      obtain ⟨r21, S18, eS18, h⟩ := obind2_some h
      refine m_calli (As := [.int a0, .int a1]) (rest := []) E G hA hR hml (tr_centre l D cI cJ cZ ad S6 a0 a1 eS18) (cwV 2 hts (gmV qM_208 qM_209 qM_210 qM_35 qM_211) rfl rfl rfl (by decide +kernel) ⟨Nat.le_of_ble_eq_true rfl, Nat.le_of_ble_eq_true rfl⟩) rfl hl.1 rfl (lv_room (Nat.le_of_ble_eq_true rfl)) dX12_cellAt_26 ⟨Nat.zero_le _, Nat.zero_le _⟩ (fun q19 S20 H locs hq G => ?_)
      obtain ⟨hq1, hq2⟩ := hq
      rw [hq2] at G
      refine lv_to hq1 ?_
      clear hq1 hq2 eS18
      refine lv_goto (tgt := 37) hx hb dX12_cellAt_29 (by decide) ?_
      have hl := lv_sub hl [] rfl
      exact tr_cellAt_b37 E hA hR hml (fun H locs ls G => W.iret (v := r1) hx hb hr (fun t ht hW => ⟨⟨r1, S1, rfl, ⟨rfl, rfl⟩, ⟨by rw [ht]; exact G.1, va_K.moved hW.alike hK, G.2.1⟩⟩, G.2.2.F ht⟩) G.2.2.2.2 dX12_cellAt_13) (fun H locs ls G => W.iret (v := r1) hx hb hr (fun t ht hW => ⟨⟨r1, S1, rfl, ⟨rfl, rfl⟩, ⟨by rw [ht]; exact G.1, va_K.moved hW.alike hK, G.2.1⟩⟩, G.2.2.F ht⟩) G.2.2.2.2 dX12_cellAt_37) _ _ _ _ _ h G hl
  · have h := oif_pos c10 h
    refine lv_iconst (v := 0) hx hb dX12_cellAt_12 (by decide) ?_
    exact W.iret (v := 0) hx hb hr (fun t ht hW => ⟨⟨0, S6, rfl, osome2 h, ⟨by rw [ht]; exact G.1, va_K.moved hW.alike hK, G.2.1⟩⟩, G.2.2.F ht⟩) G.2.2.2.2 dX12_cellAt_13
def fr_sources (S : MS)  : Option (Int32 × MS) := elet (S.2.1 10 5) fun v2 => obind2 (fr_told S v2) fun r6 S3 => some (r6, S3)
set_option maxHeartbeats 4000000 in
set_option maxRecDepth 100000 in
theorem tr_sources (l : Launch) (D : va_G) (cI cJ cZ : ClassId) (ad : Nat → Nat) (S : MS)  {r1 : Int32} {S1 : MS} (h : fr_sources S = some (r1, S1)) : mCi l yX12_sources (Cond.code yX12_sources cX12_sources 1 (some .int) :: wsM) 2 21 D cI cJ cZ ad S [] (fun r S9 => r = r1 ∧ S9 = S1) := by
  intro sz
  refine Met.ofW (cc := cX12_sources) (maxL := 1) (ret := (some .int)) (by decide) rfl ?_
  intro p e s m args below meth c s₁ B hml hv
  obtain ⟨rfl, hsz, hP, hK, hD0, hR⟩ := hv
  have hx := B.exec
  have hb := B.bytes
  have hr := B.returns
  have hts := atoms_spec (ws := (Cond.code yX12_sources cX12_sources 1 (some .int) :: wsM)) B.pre
  have hown : s.vm.findClass RX12 = some m.cls := findClass_of_methodNamed B.named
  have hlocks := B.notSynchronized
  subst hsz
  have hD := hD0.self (sz := s.heap.size)
  generalize hAe : va_A (MW cI cJ cZ ad S) s.heap.size = A at hD ⊢
  have hA : ∀ q : Nat, s.heap.size ≤ q → A q := fun q h => by rw [← hAe]; exact Or.inr h
  have G : mG D cI cJ cZ ad A s.heap s.heap [] S := ⟨hP, hD, va_S.rf⟩
  have E : mE p c cX12_sources s m ([.ref (ad 0)] : List Value).toArray (Cond.code yX12_sources cX12_sources 1 (some .int) :: wsM) D cI cJ cZ := ⟨hx, hb, hts, hown, hK, fun w h => .tail _ (iM_x h)⟩
  have hl := lv_entry ([.ref (ad 0)]) (n := 1) (Nat.le_of_ble_eq_true rfl)
  rw [lg_entry_eq]
  generalize (lg_sl ([.ref (ad 0)]) ++ List.replicate (1 - (lg_sl ([.ref (ad 0)])).length) Slot.unset).toArray = ls at hl ⊢
  have hl : lv_has ls 1 [(0, .ref (ad 0))] := hl
  unfold fr_sources at h
  refine lv_aload_n hx hb dX12_sources_0 rfl (lv_at hl 0 rfl) ?_
  refine lv_aload_n hx hb dX12_sources_1 rfl (lv_at hl 0 rfl) ?_
  refine m_get E G 10 (v := .ref (ad 10)) (by decide) (.tail _ qM_7) rfl dX12_sources_2 rfl ?_
  refine lv_iconst (v := 5) hx hb dX12_sources_5 (by decide) ?_
  refine m_iald E G 10 2 (n := 131) (k := 5) rfl rfl (by decide) (by decide) dX12_sources_6 ?_
  refine lv_topi (fun v2 ev2 => ?_)
  have h := elet_at ev2 h
  clear ev2
  obtain ⟨r6, S3, eS3, h⟩ := obind2_some h
  refine m_calli (As := [.int v2]) (rest := []) E G hA hR hml (tr_told l D cI cJ cZ ad S v2 eS3) (cwV 1 hts (gmV qM_312 qM_313 qM_314 qM_35 qM_305) rfl rfl rfl (by decide +kernel) ⟨Nat.le_of_ble_eq_true rfl, Nat.le_of_ble_eq_true rfl⟩) rfl hl.1 rfl (lv_room (Nat.le_of_ble_eq_true rfl)) dX12_sources_7 ⟨Nat.zero_le _, Nat.zero_le _⟩ (fun q4 S5 H locs hq G => ?_)
  obtain ⟨hq1, hq2⟩ := hq
  rw [hq2] at G
  refine lv_to hq1 ?_
  clear hq1 hq2 eS3
  exact W.iret (v := r6) hx hb hr (fun t ht hW => ⟨⟨r6, S3, rfl, osome2 h, ⟨by rw [ht]; exact G.1, va_K.moved hW.alike hK, G.2.1⟩⟩, G.2.2.F ht⟩) G.2.2.2.2 dX12_sources_10
def fr_sourceAt_b50  (S : MS) (s0 : Int32) : Option (Int32 × MS) := some (s0, S)
set_option maxHeartbeats 4000000 in
set_option maxRecDepth 100000 in
theorem tr_sourceAt_b50 {p : Program} {l : Launch} {e : Env} {s : State} {m : MethodId} {args : Array Value} {below : List Frame} {meth : Method} {c : Code} {Q : State → Prop} {D : va_G} {A : Nat → Prop} {H0 : Heap} {cI cJ cZ : ClassId} {ad : Nat → Nat} {r1 : Int32} {S1 : MS} (E : mE p c cX12_sourceAt s m args (Cond.code yX12_sourceAt cX12_sourceAt 4 (some .int) :: wsM) D cI cJ cZ) (hA : ∀ q : Nat, H0.size ≤ q → A q) (hR : sR s) (hml : c.maxLocals = 4) (kr13 : ∀ (H : Heap) (locs : List Loc) (ls : Array Slot), mG D cI cJ cZ ad A H0 H locs S1 → W p l e { frames := 3, cells := 0, slots := 0, locals := 43 } s m args below meth c H locs 0 0 Q (F0 m 13 ls [.int r1])) (kr50 : ∀ (H : Heap) (locs : List Loc) (ls : Array Slot), mG D cI cJ cZ ad A H0 H locs S1 → W p l e { frames := 3, cells := 0, slots := 0, locals := 43 } s m args below meth c H locs 0 0 Q (F0 m 50 ls [.int r1])) : ∀ (S : MS) (H : Heap) (locs : List Loc) (ls : Array Slot) (s0 : Int32), fr_sourceAt_b50 S s0 = some (r1, S1) → mG D cI cJ cZ ad A H0 H locs S → lv_has ls 4 [] → W p l e { frames := 3, cells := 0, slots := 0, locals := 43 } s m args below meth c H locs 0 0 Q (F0 m 50 ls [.int s0]) := by
  have hx := E.1
  have hb := E.2.1
  have hts := E.2.2.1
  have hown := E.2.2.2.1
  have hK := E.2.2.2.2.1
  intro S H locs ls s0 h G hl
  unfold fr_sourceAt_b50 at h
  rw [(osome2 h).2] at G
  refine lv_to (osome2 h).1 ?_
  exact kr50 _ _ _ G
def fr_sourceAt_b45  (S : MS)  : Option (Int32 × MS) := obind2 (fr_throwsAt S 3) fun r5 S2 => fr_sourceAt_b50 S2 r5
set_option maxHeartbeats 4000000 in
set_option maxRecDepth 100000 in
theorem tr_sourceAt_b45 {p : Program} {l : Launch} {e : Env} {s : State} {m : MethodId} {args : Array Value} {below : List Frame} {meth : Method} {c : Code} {Q : State → Prop} {D : va_G} {A : Nat → Prop} {H0 : Heap} {cI cJ cZ : ClassId} {ad : Nat → Nat} {r1 : Int32} {S1 : MS} (E : mE p c cX12_sourceAt s m args (Cond.code yX12_sourceAt cX12_sourceAt 4 (some .int) :: wsM) D cI cJ cZ) (hA : ∀ q : Nat, H0.size ≤ q → A q) (hR : sR s) (hml : c.maxLocals = 4) (kr13 : ∀ (H : Heap) (locs : List Loc) (ls : Array Slot), mG D cI cJ cZ ad A H0 H locs S1 → W p l e { frames := 3, cells := 0, slots := 0, locals := 43 } s m args below meth c H locs 0 0 Q (F0 m 13 ls [.int r1])) (kr50 : ∀ (H : Heap) (locs : List Loc) (ls : Array Slot), mG D cI cJ cZ ad A H0 H locs S1 → W p l e { frames := 3, cells := 0, slots := 0, locals := 43 } s m args below meth c H locs 0 0 Q (F0 m 50 ls [.int r1])) : ∀ (S : MS) (H : Heap) (locs : List Loc) (ls : Array Slot), fr_sourceAt_b45 S = some (r1, S1) → mG D cI cJ cZ ad A H0 H locs S → lv_has ls 4 [(0, .ref (ad 0))] → W p l e { frames := 3, cells := 0, slots := 0, locals := 43 } s m args below meth c H locs 0 0 Q (F0 m 45 ls []) := by
  have hx := E.1
  have hb := E.2.1
  have hts := E.2.2.1
  have hown := E.2.2.2.1
  have hK := E.2.2.2.2.1
  intro S H locs ls h G hl
  unfold fr_sourceAt_b45 at h
  refine lv_aload_n hx hb dX12_sourceAt_45 rfl (lv_at hl 0 rfl) ?_
  refine lv_iconst (v := 3) hx hb dX12_sourceAt_46 (by decide) ?_
  obtain ⟨r5, S2, eS2, h⟩ := obind2_some h
  refine m_calli (As := [.int 3]) (rest := []) E G hA hR hml (tr_throwsAt l D cI cJ cZ ad S 3 eS2) (cwV 1 hts (gmV qM_195 qM_196 qM_197 qM_35 qM_28) rfl rfl rfl (by decide +kernel) ⟨Nat.le_of_ble_eq_true rfl, Nat.le_of_ble_eq_true rfl⟩) rfl hl.1 rfl (lv_room (Nat.le_of_ble_eq_true rfl)) dX12_sourceAt_47 ⟨Nat.zero_le _, Nat.zero_le _⟩ (fun q3 S4 H locs hq G => ?_)
  obtain ⟨hq1, hq2⟩ := hq
  rw [hq2] at G
  refine lv_to hq1 ?_
  clear hq1 hq2 eS2
  have hl := lv_sub hl [] rfl
  exact tr_sourceAt_b50 E hA hR hml kr13 kr50 _ _ _ _ _ h G hl
def fr_sourceAt (S : MS) (a0 : Int32) (a1 : Int32) (a2 : Int32) : Option (Int32 × MS) := obind2 (fr_isSource S a0) fun r5 S2 => obind2 (fr_mayAsk S2 r5) fun r9 S6 => if r9 = 0 then (some (0, S6)) else (obind (fr_in a1 0 1) fun r11 => if r11 = 0 then (fr_sourceAt_b45 S6) else (obind2 (fr_isTime S6 a2) fun r17 S14 => if r17 = 0 then (fr_sourceAt_b45 S14) else (obind2 (fr_sourcePlace_12 S14 a0 a1 a2) fun r22 S19 => fr_sourceAt_b50 S19 r22)))
set_option maxHeartbeats 4000000 in
set_option maxRecDepth 100000 in
theorem tr_sourceAt (l : Launch) (D : va_G) (cI cJ cZ : ClassId) (ad : Nat → Nat) (S : MS) (a0 : Int32) (a1 : Int32) (a2 : Int32) {r1 : Int32} {S1 : MS} (h : fr_sourceAt S a0 a1 a2 = some (r1, S1)) : mCi l yX12_sourceAt (Cond.code yX12_sourceAt cX12_sourceAt 4 (some .int) :: wsM) 3 43 D cI cJ cZ ad S [.int a0, .int a1, .int a2] (fun r S9 => r = r1 ∧ S9 = S1) := by
  intro sz
  refine Met.ofW (cc := cX12_sourceAt) (maxL := 4) (ret := (some .int)) (by decide) rfl ?_
  intro p e s m args below meth c s₁ B hml hv
  obtain ⟨rfl, hsz, hP, hK, hD0, hR⟩ := hv
  have hx := B.exec
  have hb := B.bytes
  have hr := B.returns
  have hts := atoms_spec (ws := (Cond.code yX12_sourceAt cX12_sourceAt 4 (some .int) :: wsM)) B.pre
  have hown : s.vm.findClass RX12 = some m.cls := findClass_of_methodNamed B.named
  have hlocks := B.notSynchronized
  subst hsz
  have hD := hD0.self (sz := s.heap.size)
  generalize hAe : va_A (MW cI cJ cZ ad S) s.heap.size = A at hD ⊢
  have hA : ∀ q : Nat, s.heap.size ≤ q → A q := fun q h => by rw [← hAe]; exact Or.inr h
  have G : mG D cI cJ cZ ad A s.heap s.heap [] S := ⟨hP, hD, va_S.rf⟩
  have E : mE p c cX12_sourceAt s m ([.ref (ad 0), .int a0, .int a1, .int a2] : List Value).toArray (Cond.code yX12_sourceAt cX12_sourceAt 4 (some .int) :: wsM) D cI cJ cZ := ⟨hx, hb, hts, hown, hK, fun w h => .tail _ (iM_x h)⟩
  have hl := lv_entry ([.ref (ad 0), .int a0, .int a1, .int a2]) (n := 4) (Nat.le_of_ble_eq_true rfl)
  rw [lg_entry_eq]
  generalize (lg_sl ([.ref (ad 0), .int a0, .int a1, .int a2]) ++ List.replicate (4 - (lg_sl ([.ref (ad 0), .int a0, .int a1, .int a2])).length) Slot.unset).toArray = ls at hl ⊢
  have hl : lv_has ls 4 [(0, .ref (ad 0)), (1, .int a0), (2, .int a1), (3, .int a2)] := hl
  unfold fr_sourceAt at h
  refine lv_aload_n hx hb dX12_sourceAt_0 rfl (lv_at hl 0 rfl) ?_
  refine lv_aload_n hx hb dX12_sourceAt_1 rfl (lv_at hl 0 rfl) ?_
  refine lv_iload_n hx hb dX12_sourceAt_2 rfl (lv_at hl 1 rfl) ?_
  obtain ⟨r5, S2, eS2, h⟩ := obind2_some h
  refine m_calli (As := [.int a0]) (rest := [.ref (ad 0)]) E G hA hR hml (tr_isSource l D cI cJ cZ ad S a0 eS2) (cwV 1 hts (gmV qM_331 qM_332 qM_333 qM_35 qM_308) rfl rfl rfl (by decide +kernel) ⟨Nat.le_of_ble_eq_true rfl, Nat.le_of_ble_eq_true rfl⟩) rfl hl.1 rfl (lv_room (Nat.le_of_ble_eq_true rfl)) dX12_sourceAt_3 ⟨Nat.zero_le _, Nat.zero_le _⟩ (fun q3 S4 H locs hq G => ?_)
  obtain ⟨hq1, hq2⟩ := hq
  rw [hq2] at G
  refine lv_to hq1 ?_
  clear hq1 hq2 eS2
  obtain ⟨r9, S6, eS6, h⟩ := obind2_some h
  refine m_calli (As := [.int r5]) (rest := []) E G hA hR hml (tr_mayAsk l D cI cJ cZ ad S2 r5 eS6) (cwV 1 hts (gmV qM_319 qM_320 qM_321 qM_35 qM_304) rfl rfl rfl (by decide +kernel) ⟨Nat.le_of_ble_eq_true rfl, Nat.le_of_ble_eq_true rfl⟩) rfl hl.1 rfl (lv_room (Nat.le_of_ble_eq_true rfl)) dX12_sourceAt_6 ⟨Nat.zero_le _, Nat.zero_le _⟩ (fun q7 S8 H locs hq G => ?_)
  obtain ⟨hq1, hq2⟩ := hq
  rw [hq2] at G
  refine lv_to hq1 ?_
  clear hq1 hq2 eS6
  refine lv_if_ne (tgt := 14) hx hb dX12_sourceAt_9 (by decide) (fun c10 => ?_) (fun c10 => ?_)
  · have h := oif_neg c10 h
    refine lv_iload_n hx hb dX12_sourceAt_14 rfl (lv_at hl 2 rfl) ?_
    refine lv_iconst (v := 0) hx hb dX12_sourceAt_15 (by decide) ?_
    refine lv_iconst (v := 1) hx hb dX12_sourceAt_16 (by decide) ?_
    obtain ⟨r11, er11, h⟩ := obind_some h
    refine m_stat (As := [.int a1, .int 0, .int 1]) (rest := []) ⟨hx, hb, hml, hown, hts⟩ (tr_in l a1 0 1 er11) (cwS 3 hts (gmS qM_52 qM_53 qM_35 qM_27) rfl rfl rfl (by decide +kernel) ⟨Nat.le_of_ble_eq_true rfl, Nat.le_of_ble_eq_true rfl⟩) rfl hl.1 rfl (lv_room (Nat.le_of_ble_eq_true rfl)) dX12_sourceAt_17 ⟨Nat.zero_le _, Nat.zero_le _⟩ (fun q12 hq => ?_)
    refine lv_to hq ?_
    clear hq er11
    refine lv_if_eq (tgt := 45) hx hb dX12_sourceAt_20 (by decide) (fun c13 => ?_) (fun c13 => ?_)
    · have h := oif_pos c13 h
      have hl := lv_sub hl [0] rfl
      exact tr_sourceAt_b45 E hA hR hml (fun H locs ls G => W.iret (v := r1) hx hb hr (fun t ht hW => ⟨⟨r1, S1, rfl, ⟨rfl, rfl⟩, ⟨by rw [ht]; exact G.1, va_K.moved hW.alike hK, G.2.1⟩⟩, G.2.2.F ht⟩) G.2.2.2.2 dX12_sourceAt_13) (fun H locs ls G => W.iret (v := r1) hx hb hr (fun t ht hW => ⟨⟨r1, S1, rfl, ⟨rfl, rfl⟩, ⟨by rw [ht]; exact G.1, va_K.moved hW.alike hK, G.2.1⟩⟩, G.2.2.F ht⟩) G.2.2.2.2 dX12_sourceAt_50) _ _ _ _ h G hl
    · have h := oif_neg c13 h
      refine lv_aload_n hx hb dX12_sourceAt_23 rfl (lv_at hl 0 rfl) ?_
      refine lv_iload_n hx hb dX12_sourceAt_24 rfl (lv_at hl 3 rfl) ?_
      obtain ⟨r17, S14, eS14, h⟩ := obind2_some h
      refine m_calli (As := [.int a2]) (rest := []) E G hA hR hml (tr_isTime l D cI cJ cZ ad S6 a2 eS14) (cwV 1 hts (gmV qM_334 qM_335 qM_336 qM_35 qM_309) rfl rfl rfl (by decide +kernel) ⟨Nat.le_of_ble_eq_true rfl, Nat.le_of_ble_eq_true rfl⟩) rfl hl.1 rfl (lv_room (Nat.le_of_ble_eq_true rfl)) dX12_sourceAt_25 ⟨Nat.zero_le _, Nat.zero_le _⟩ (fun q15 S16 H locs hq G => ?_)
      obtain ⟨hq1, hq2⟩ := hq
      rw [hq2] at G
      refine lv_to hq1 ?_
      clear hq1 hq2 eS14
      refine lv_if_eq (tgt := 45) hx hb dX12_sourceAt_28 (by decide) (fun c18 => ?_) (fun c18 => ?_)
      · have h := oif_pos c18 h
        have hl := lv_sub hl [0] rfl
        exact tr_sourceAt_b45 E hA hR hml (fun H locs ls G => W.iret (v := r1) hx hb hr (fun t ht hW => ⟨⟨r1, S1, rfl, ⟨rfl, rfl⟩, ⟨by rw [ht]; exact G.1, va_K.moved hW.alike hK, G.2.1⟩⟩, G.2.2.F ht⟩) G.2.2.2.2 dX12_sourceAt_13) (fun H locs ls G => W.iret (v := r1) hx hb hr (fun t ht hW => ⟨⟨r1, S1, rfl, ⟨rfl, rfl⟩, ⟨by rw [ht]; exact G.1, va_K.moved hW.alike hK, G.2.1⟩⟩, G.2.2.F ht⟩) G.2.2.2.2 dX12_sourceAt_50) _ _ _ _ h G hl
      · have h := oif_neg c18 h
        refine lv_aload_n hx hb dX12_sourceAt_31 rfl (lv_at hl 0 rfl) ?_
        refine lv_aload_n hx hb dX12_sourceAt_32 rfl (lv_at hl 0 rfl) ?_
        refine m_get E G 12 (v := .ref (ad 12)) (by decide) (.tail _ qM_9) rfl dX12_sourceAt_33 rfl ?_
        refine lv_iload_n hx hb dX12_sourceAt_36 rfl (lv_at hl 1 rfl) ?_
        refine lv_iload_n hx hb dX12_sourceAt_37 rfl (lv_at hl 2 rfl) ?_
        refine lv_iload_n hx hb dX12_sourceAt_38 rfl (lv_at hl 3 rfl) ?_
        obtain ⟨r22, S19, eS19, h⟩ := obind2_some h
        refine m_calli (As := [.ref (ad 12), .int a0, .int a1, .int a2]) (rest := []) E G hA hR hml (tr_sourcePlace_12 l D cI cJ cZ ad S14 a0 a1 a2 eS19) (cwV 4 hts (gmV qM_250 qM_251 qM_252 qM_35 qM_253) rfl rfl rfl (by decide +kernel) ⟨Nat.le_of_ble_eq_true rfl, Nat.le_of_ble_eq_true rfl⟩) rfl hl.1 rfl (lv_room (Nat.le_of_ble_eq_true rfl)) dX12_sourceAt_39 ⟨Nat.zero_le _, Nat.zero_le _⟩ (fun q20 S21 H locs hq G => ?_)
        obtain ⟨hq1, hq2⟩ := hq
        rw [hq2] at G
        refine lv_to hq1 ?_
        clear hq1 hq2 eS19
        refine lv_goto (tgt := 50) hx hb dX12_sourceAt_42 (by decide) ?_
        have hl := lv_sub hl [] rfl
        exact tr_sourceAt_b50 E hA hR hml (fun H locs ls G => W.iret (v := r1) hx hb hr (fun t ht hW => ⟨⟨r1, S1, rfl, ⟨rfl, rfl⟩, ⟨by rw [ht]; exact G.1, va_K.moved hW.alike hK, G.2.1⟩⟩, G.2.2.F ht⟩) G.2.2.2.2 dX12_sourceAt_13) (fun H locs ls G => W.iret (v := r1) hx hb hr (fun t ht hW => ⟨⟨r1, S1, rfl, ⟨rfl, rfl⟩, ⟨by rw [ht]; exact G.1, va_K.moved hW.alike hK, G.2.1⟩⟩, G.2.2.F ht⟩) G.2.2.2.2 dX12_sourceAt_50) _ _ _ _ _ h G hl
  · have h := oif_pos c10 h
    refine lv_iconst (v := 0) hx hb dX12_sourceAt_12 (by decide) ?_
    exact W.iret (v := 0) hx hb hr (fun t ht hW => ⟨⟨0, S6, rfl, osome2 h, ⟨by rw [ht]; exact G.1, va_K.moved hW.alike hK, G.2.1⟩⟩, G.2.2.F ht⟩) G.2.2.2.2 dX12_sourceAt_13
def fr_isOn_b30  (S : MS) (s0 : Int32) : Option (Int32 × MS) := oif (s0 = 0 ∨ s0 = 1) <| some (s0, S)
set_option maxHeartbeats 4000000 in
set_option maxRecDepth 100000 in
theorem tr_isOn_b30 {p : Program} {l : Launch} {e : Env} {s : State} {m : MethodId} {args : Array Value} {below : List Frame} {meth : Method} {c : Code} {Q : State → Prop} {D : va_G} {A : Nat → Prop} {H0 : Heap} {cI cJ cZ : ClassId} {ad : Nat → Nat} {r1 : Int32} {S1 : MS} (E : mE p c cX12_isOn s m args (Cond.code yX12_isOn cX12_isOn 2 (some .boolean) :: wsM) D cI cJ cZ) (hA : ∀ q : Nat, H0.size ≤ q → A q) (hR : sR s) (hml : c.maxLocals = 2) (kr30 : ∀ (H : Heap) (locs : List Loc) (ls : Array Slot), (r1 = 0 ∨ r1 = 1) → mG D cI cJ cZ ad A H0 H locs S1 → W p l e { frames := 3, cells := 0, slots := 0, locals := 43 } s m args below meth c H locs 0 0 Q (F0 m 30 ls [.int r1])) : ∀ (S : MS) (H : Heap) (locs : List Loc) (ls : Array Slot) (s0 : Int32), fr_isOn_b30 S s0 = some (r1, S1) → mG D cI cJ cZ ad A H0 H locs S → lv_has ls 2 [] → W p l e { frames := 3, cells := 0, slots := 0, locals := 43 } s m args below meth c H locs 0 0 Q (F0 m 30 ls [.int s0]) := by
  have hx := E.1
  have hb := E.2.1
  have hts := E.2.2.1
  have hown := E.2.2.2.1
  have hK := E.2.2.2.2.1
  intro S H locs ls s0 h G hl
  unfold fr_isOn_b30 at h
  obtain ⟨gz, h⟩ := oif_some h
  have gr : r1 = 0 ∨ r1 = 1 := by rw [← (osome2 h).1]; exact gz
  rw [(osome2 h).2] at G
  refine lv_to (osome2 h).1 ?_
  exact kr30 _ _ _ gr G
def fr_isOn_b29  (S : MS)  : Option (Int32 × MS) := fr_isOn_b30 S 0
set_option maxHeartbeats 4000000 in
set_option maxRecDepth 100000 in
theorem tr_isOn_b29 {p : Program} {l : Launch} {e : Env} {s : State} {m : MethodId} {args : Array Value} {below : List Frame} {meth : Method} {c : Code} {Q : State → Prop} {D : va_G} {A : Nat → Prop} {H0 : Heap} {cI cJ cZ : ClassId} {ad : Nat → Nat} {r1 : Int32} {S1 : MS} (E : mE p c cX12_isOn s m args (Cond.code yX12_isOn cX12_isOn 2 (some .boolean) :: wsM) D cI cJ cZ) (hA : ∀ q : Nat, H0.size ≤ q → A q) (hR : sR s) (hml : c.maxLocals = 2) (kr30 : ∀ (H : Heap) (locs : List Loc) (ls : Array Slot), (r1 = 0 ∨ r1 = 1) → mG D cI cJ cZ ad A H0 H locs S1 → W p l e { frames := 3, cells := 0, slots := 0, locals := 43 } s m args below meth c H locs 0 0 Q (F0 m 30 ls [.int r1])) : ∀ (S : MS) (H : Heap) (locs : List Loc) (ls : Array Slot), fr_isOn_b29 S = some (r1, S1) → mG D cI cJ cZ ad A H0 H locs S → lv_has ls 2 [] → W p l e { frames := 3, cells := 0, slots := 0, locals := 43 } s m args below meth c H locs 0 0 Q (F0 m 29 ls []) := by
  have hx := E.1
  have hb := E.2.1
  have hts := E.2.2.1
  have hown := E.2.2.2.1
  have hK := E.2.2.2.2.1
  intro S H locs ls h G hl
  unfold fr_isOn_b29 at h
  refine lv_iconst (v := 0) hx hb dX12_isOn_29 (by decide) ?_
  have hl := lv_sub hl [] rfl
  exact tr_isOn_b30 E hA hR hml kr30 _ _ _ _ _ h G hl
def fr_isOn (S : MS) (a0 : Int32) : Option (Int32 × MS) := obind2 (fr_isSource S a0) fun r5 S2 => obind2 (fr_mayAsk S2 r5) fun r9 S6 => if r9 = 0 then (fr_isOn_b29 S6) else (elet (25 + a0) fun v11 => oif (inb v11 2455 = true) <| elet (S6.2.1 12 v11.toNatClampNeg) fun v13 => if v13 = 1 then (fr_isOn_b30 S6 1) else (fr_isOn_b29 S6))
set_option maxHeartbeats 4000000 in
set_option maxRecDepth 100000 in
theorem tr_isOn (l : Launch) (D : va_G) (cI cJ cZ : ClassId) (ad : Nat → Nat) (S : MS) (a0 : Int32) {r1 : Int32} {S1 : MS} (h : fr_isOn S a0 = some (r1, S1)) : mCi l yX12_isOn (Cond.code yX12_isOn cX12_isOn 2 (some .boolean) :: wsM) 3 43 D cI cJ cZ ad S [.int a0] (fun r S9 => r = r1 ∧ S9 = S1) := by
  intro sz
  refine Met.ofW (cc := cX12_isOn) (maxL := 2) (ret := (some .boolean)) (by decide) rfl ?_
  intro p e s m args below meth c s₁ B hml hv
  obtain ⟨rfl, hsz, hP, hK, hD0, hR⟩ := hv
  have hx := B.exec
  have hb := B.bytes
  have hr := B.returns
  have hts := atoms_spec (ws := (Cond.code yX12_isOn cX12_isOn 2 (some .boolean) :: wsM)) B.pre
  have hown : s.vm.findClass RX12 = some m.cls := findClass_of_methodNamed B.named
  have hlocks := B.notSynchronized
  subst hsz
  have hD := hD0.self (sz := s.heap.size)
  generalize hAe : va_A (MW cI cJ cZ ad S) s.heap.size = A at hD ⊢
  have hA : ∀ q : Nat, s.heap.size ≤ q → A q := fun q h => by rw [← hAe]; exact Or.inr h
  have G : mG D cI cJ cZ ad A s.heap s.heap [] S := ⟨hP, hD, va_S.rf⟩
  have E : mE p c cX12_isOn s m ([.ref (ad 0), .int a0] : List Value).toArray (Cond.code yX12_isOn cX12_isOn 2 (some .boolean) :: wsM) D cI cJ cZ := ⟨hx, hb, hts, hown, hK, fun w h => .tail _ (iM_x h)⟩
  have hl := lv_entry ([.ref (ad 0), .int a0]) (n := 2) (Nat.le_of_ble_eq_true rfl)
  rw [lg_entry_eq]
  generalize (lg_sl ([.ref (ad 0), .int a0]) ++ List.replicate (2 - (lg_sl ([.ref (ad 0), .int a0])).length) Slot.unset).toArray = ls at hl ⊢
  have hl : lv_has ls 2 [(0, .ref (ad 0)), (1, .int a0)] := hl
  unfold fr_isOn at h
  refine lv_aload_n hx hb dX12_isOn_0 rfl (lv_at hl 0 rfl) ?_
  refine lv_aload_n hx hb dX12_isOn_1 rfl (lv_at hl 0 rfl) ?_
  refine lv_iload_n hx hb dX12_isOn_2 rfl (lv_at hl 1 rfl) ?_
  obtain ⟨r5, S2, eS2, h⟩ := obind2_some h
  refine m_calli (As := [.int a0]) (rest := [.ref (ad 0)]) E G hA hR hml (tr_isSource l D cI cJ cZ ad S a0 eS2) (cwV 1 hts (gmV qM_331 qM_332 qM_333 qM_35 qM_308) rfl rfl rfl (by decide +kernel) ⟨Nat.le_of_ble_eq_true rfl, Nat.le_of_ble_eq_true rfl⟩) rfl hl.1 rfl (lv_room (Nat.le_of_ble_eq_true rfl)) dX12_isOn_3 ⟨Nat.zero_le _, Nat.zero_le _⟩ (fun q3 S4 H locs hq G => ?_)
  obtain ⟨hq1, hq2⟩ := hq
  rw [hq2] at G
  refine lv_to hq1 ?_
  clear hq1 hq2 eS2
  obtain ⟨r9, S6, eS6, h⟩ := obind2_some h
  refine m_calli (As := [.int r5]) (rest := []) E G hA hR hml (tr_mayAsk l D cI cJ cZ ad S2 r5 eS6) (cwV 1 hts (gmV qM_319 qM_320 qM_321 qM_35 qM_304) rfl rfl rfl (by decide +kernel) ⟨Nat.le_of_ble_eq_true rfl, Nat.le_of_ble_eq_true rfl⟩) rfl hl.1 rfl (lv_room (Nat.le_of_ble_eq_true rfl)) dX12_isOn_6 ⟨Nat.zero_le _, Nat.zero_le _⟩ (fun q7 S8 H locs hq G => ?_)
  obtain ⟨hq1, hq2⟩ := hq
  rw [hq2] at G
  refine lv_to hq1 ?_
  clear hq1 hq2 eS6
  refine lv_if_eq (tgt := 29) hx hb dX12_isOn_9 (by decide) (fun c10 => ?_) (fun c10 => ?_)
  · have h := oif_pos c10 h
    have hl := lv_sub hl [] rfl
    exact tr_isOn_b29 E hA hR hml (fun H locs ls gz G => W.zret (v := r1) hx hb hr (nar01 gz) (fun t ht hW => ⟨⟨r1, S1, rfl, ⟨rfl, rfl⟩, ⟨by rw [ht]; exact G.1, va_K.moved hW.alike hK, G.2.1⟩⟩, G.2.2.F ht⟩) G.2.2.2.2 dX12_isOn_30) _ _ _ _ h G hl
  · have h := oif_neg c10 h
    refine lv_aload_n hx hb dX12_isOn_12 rfl (lv_at hl 0 rfl) ?_
    refine m_get E G 12 (v := .ref (ad 12)) (by decide) (.tail _ qM_9) rfl dX12_isOn_13 rfl ?_
    refine lv_bipush (v := 25) hx hb dX12_isOn_16 (by decide) ?_
    refine lv_iload_n hx hb dX12_isOn_18 rfl (lv_at hl 1 rfl) ?_
    refine lv_iadd hx hb dX12_isOn_19 ?_
    refine lv_topi (fun v11 ev11 => ?_)
    have h := elet_at ev11 h
    clear ev11
    obtain ⟨g12, h⟩ := oif_some h
    refine m_iald E G 12 4 (n := 2455) (k := v11.toNatClampNeg) rfl (inb_k g12).1 (inb_k g12).2 (by decide) dX12_isOn_20 ?_
    refine lv_topi (fun v13 ev13 => ?_)
    have h := elet_at ev13 h
    clear ev13
    refine lv_iconst (v := 1) hx hb dX12_isOn_21 (by decide) ?_
    refine lv_icmp_ne (tgt := 29) hx hb dX12_isOn_22 (by decide) (fun c14 => ?_) (fun c14 => ?_)
    · have h := oif_neg c14 h
      have hl := lv_sub hl [] rfl
      exact tr_isOn_b29 E hA hR hml (fun H locs ls gz G => W.zret (v := r1) hx hb hr (nar01 gz) (fun t ht hW => ⟨⟨r1, S1, rfl, ⟨rfl, rfl⟩, ⟨by rw [ht]; exact G.1, va_K.moved hW.alike hK, G.2.1⟩⟩, G.2.2.F ht⟩) G.2.2.2.2 dX12_isOn_30) _ _ _ _ h G hl
    · have h := oif_pos c14 h
      refine lv_iconst (v := 1) hx hb dX12_isOn_25 (by decide) ?_
      refine lv_goto (tgt := 30) hx hb dX12_isOn_26 (by decide) ?_
      have hl := lv_sub hl [] rfl
      exact tr_isOn_b30 E hA hR hml (fun H locs ls gz G => W.zret (v := r1) hx hb hr (nar01 gz) (fun t ht hW => ⟨⟨r1, S1, rfl, ⟨rfl, rfl⟩, ⟨by rw [ht]; exact G.1, va_K.moved hW.alike hK, G.2.1⟩⟩, G.2.2.F ht⟩) G.2.2.2.2 dX12_isOn_30) _ _ _ _ _ h G hl
def fr_waveAt_b36  (S : MS) (s0 : Int32) : Option (Int32 × MS) := some (s0, S)
set_option maxHeartbeats 4000000 in
set_option maxRecDepth 100000 in
theorem tr_waveAt_b36 {p : Program} {l : Launch} {e : Env} {s : State} {m : MethodId} {args : Array Value} {below : List Frame} {meth : Method} {c : Code} {Q : State → Prop} {D : va_G} {A : Nat → Prop} {H0 : Heap} {cI cJ cZ : ClassId} {ad : Nat → Nat} {r1 : Int32} {S1 : MS} (E : mE p c cX12_waveAt s m args (Cond.code yX12_waveAt cX12_waveAt 3 (some .int) :: wsM) D cI cJ cZ) (hA : ∀ q : Nat, H0.size ≤ q → A q) (hR : sR s) (hml : c.maxLocals = 3) (kr13 : ∀ (H : Heap) (locs : List Loc) (ls : Array Slot), mG D cI cJ cZ ad A H0 H locs S1 → W p l e { frames := 3, cells := 0, slots := 0, locals := 44 } s m args below meth c H locs 0 0 Q (F0 m 13 ls [.int r1])) (kr36 : ∀ (H : Heap) (locs : List Loc) (ls : Array Slot), mG D cI cJ cZ ad A H0 H locs S1 → W p l e { frames := 3, cells := 0, slots := 0, locals := 44 } s m args below meth c H locs 0 0 Q (F0 m 36 ls [.int r1])) : ∀ (S : MS) (H : Heap) (locs : List Loc) (ls : Array Slot) (s0 : Int32), fr_waveAt_b36 S s0 = some (r1, S1) → mG D cI cJ cZ ad A H0 H locs S → lv_has ls 3 [] → W p l e { frames := 3, cells := 0, slots := 0, locals := 44 } s m args below meth c H locs 0 0 Q (F0 m 36 ls [.int s0]) := by
  have hx := E.1
  have hb := E.2.1
  have hts := E.2.2.1
  have hown := E.2.2.2.1
  have hK := E.2.2.2.2.1
  intro S H locs ls s0 h G hl
  unfold fr_waveAt_b36 at h
  rw [(osome2 h).2] at G
  refine lv_to (osome2 h).1 ?_
  exact kr36 _ _ _ G
def fr_waveAt (S : MS) (a0 : Int32) (a1 : Int32) : Option (Int32 × MS) := obind2 (fr_isSource S a0) fun r5 S2 => obind2 (fr_mayAsk S2 r5) fun r9 S6 => if r9 = 0 then (some (0, S6)) else (obind2 (fr_isTime S6 a1) fun r14 S11 => if r14 = 0 then (obind2 (fr_throwsAt S11 3) fun r19 S16 => fr_waveAt_b36 S16 r19) else (obind2 (fr_wave S11 a0 a1) fun r23 S20 => fr_waveAt_b36 S20 r23))
set_option maxHeartbeats 4000000 in
set_option maxRecDepth 100000 in
theorem tr_waveAt (l : Launch) (D : va_G) (cI cJ cZ : ClassId) (ad : Nat → Nat) (S : MS) (a0 : Int32) (a1 : Int32) {r1 : Int32} {S1 : MS} (h : fr_waveAt S a0 a1 = some (r1, S1)) : mCi l yX12_waveAt (Cond.code yX12_waveAt cX12_waveAt 3 (some .int) :: wsM) 3 44 D cI cJ cZ ad S [.int a0, .int a1] (fun r S9 => r = r1 ∧ S9 = S1) := by
  intro sz
  refine Met.ofW (cc := cX12_waveAt) (maxL := 3) (ret := (some .int)) (by decide) rfl ?_
  intro p e s m args below meth c s₁ B hml hv
  obtain ⟨rfl, hsz, hP, hK, hD0, hR⟩ := hv
  have hx := B.exec
  have hb := B.bytes
  have hr := B.returns
  have hts := atoms_spec (ws := (Cond.code yX12_waveAt cX12_waveAt 3 (some .int) :: wsM)) B.pre
  have hown : s.vm.findClass RX12 = some m.cls := findClass_of_methodNamed B.named
  have hlocks := B.notSynchronized
  subst hsz
  have hD := hD0.self (sz := s.heap.size)
  generalize hAe : va_A (MW cI cJ cZ ad S) s.heap.size = A at hD ⊢
  have hA : ∀ q : Nat, s.heap.size ≤ q → A q := fun q h => by rw [← hAe]; exact Or.inr h
  have G : mG D cI cJ cZ ad A s.heap s.heap [] S := ⟨hP, hD, va_S.rf⟩
  have E : mE p c cX12_waveAt s m ([.ref (ad 0), .int a0, .int a1] : List Value).toArray (Cond.code yX12_waveAt cX12_waveAt 3 (some .int) :: wsM) D cI cJ cZ := ⟨hx, hb, hts, hown, hK, fun w h => .tail _ (iM_x h)⟩
  have hl := lv_entry ([.ref (ad 0), .int a0, .int a1]) (n := 3) (Nat.le_of_ble_eq_true rfl)
  rw [lg_entry_eq]
  generalize (lg_sl ([.ref (ad 0), .int a0, .int a1]) ++ List.replicate (3 - (lg_sl ([.ref (ad 0), .int a0, .int a1])).length) Slot.unset).toArray = ls at hl ⊢
  have hl : lv_has ls 3 [(0, .ref (ad 0)), (1, .int a0), (2, .int a1)] := hl
  unfold fr_waveAt at h
  refine lv_aload_n hx hb dX12_waveAt_0 rfl (lv_at hl 0 rfl) ?_
  refine lv_aload_n hx hb dX12_waveAt_1 rfl (lv_at hl 0 rfl) ?_
  refine lv_iload_n hx hb dX12_waveAt_2 rfl (lv_at hl 1 rfl) ?_
  obtain ⟨r5, S2, eS2, h⟩ := obind2_some h
  refine m_calli (As := [.int a0]) (rest := [.ref (ad 0)]) E G hA hR hml (tr_isSource l D cI cJ cZ ad S a0 eS2) (cwV 1 hts (gmV qM_331 qM_332 qM_333 qM_35 qM_308) rfl rfl rfl (by decide +kernel) ⟨Nat.le_of_ble_eq_true rfl, Nat.le_of_ble_eq_true rfl⟩) rfl hl.1 rfl (lv_room (Nat.le_of_ble_eq_true rfl)) dX12_waveAt_3 ⟨Nat.zero_le _, Nat.zero_le _⟩ (fun q3 S4 H locs hq G => ?_)
  obtain ⟨hq1, hq2⟩ := hq
  rw [hq2] at G
  refine lv_to hq1 ?_
  clear hq1 hq2 eS2
  obtain ⟨r9, S6, eS6, h⟩ := obind2_some h
  refine m_calli (As := [.int r5]) (rest := []) E G hA hR hml (tr_mayAsk l D cI cJ cZ ad S2 r5 eS6) (cwV 1 hts (gmV qM_319 qM_320 qM_321 qM_35 qM_304) rfl rfl rfl (by decide +kernel) ⟨Nat.le_of_ble_eq_true rfl, Nat.le_of_ble_eq_true rfl⟩) rfl hl.1 rfl (lv_room (Nat.le_of_ble_eq_true rfl)) dX12_waveAt_6 ⟨Nat.zero_le _, Nat.zero_le _⟩ (fun q7 S8 H locs hq G => ?_)
  obtain ⟨hq1, hq2⟩ := hq
  rw [hq2] at G
  refine lv_to hq1 ?_
  clear hq1 hq2 eS6
  refine lv_if_ne (tgt := 14) hx hb dX12_waveAt_9 (by decide) (fun c10 => ?_) (fun c10 => ?_)
  · have h := oif_neg c10 h
    refine lv_aload_n hx hb dX12_waveAt_14 rfl (lv_at hl 0 rfl) ?_
    refine lv_iload_n hx hb dX12_waveAt_15 rfl (lv_at hl 2 rfl) ?_
    obtain ⟨r14, S11, eS11, h⟩ := obind2_some h
    refine m_calli (As := [.int a1]) (rest := []) E G hA hR hml (tr_isTime l D cI cJ cZ ad S6 a1 eS11) (cwV 1 hts (gmV qM_334 qM_335 qM_336 qM_35 qM_309) rfl rfl rfl (by decide +kernel) ⟨Nat.le_of_ble_eq_true rfl, Nat.le_of_ble_eq_true rfl⟩) rfl hl.1 rfl (lv_room (Nat.le_of_ble_eq_true rfl)) dX12_waveAt_16 ⟨Nat.zero_le _, Nat.zero_le _⟩ (fun q12 S13 H locs hq G => ?_)
    obtain ⟨hq1, hq2⟩ := hq
    rw [hq2] at G
    refine lv_to hq1 ?_
    clear hq1 hq2 eS11
    refine lv_if_eq (tgt := 31) hx hb dX12_waveAt_19 (by decide) (fun c15 => ?_) (fun c15 => ?_)
    · have h := oif_pos c15 h
      refine lv_aload_n hx hb dX12_waveAt_31 rfl (lv_at hl 0 rfl) ?_
      refine lv_iconst (v := 3) hx hb dX12_waveAt_32 (by decide) ?_
      obtain ⟨r19, S16, eS16, h⟩ := obind2_some h
      refine m_calli (As := [.int 3]) (rest := []) E G hA hR hml (tr_throwsAt l D cI cJ cZ ad S11 3 eS16) (cwV 1 hts (gmV qM_195 qM_196 qM_197 qM_35 qM_28) rfl rfl rfl (by decide +kernel) ⟨Nat.le_of_ble_eq_true rfl, Nat.le_of_ble_eq_true rfl⟩) rfl hl.1 rfl (lv_room (Nat.le_of_ble_eq_true rfl)) dX12_waveAt_33 ⟨Nat.zero_le _, Nat.zero_le _⟩ (fun q17 S18 H locs hq G => ?_)
      obtain ⟨hq1, hq2⟩ := hq
      rw [hq2] at G
      refine lv_to hq1 ?_
      clear hq1 hq2 eS16
      have hl := lv_sub hl [] rfl
      exact tr_waveAt_b36 E hA hR hml (fun H locs ls G => W.iret (v := r1) hx hb hr (fun t ht hW => ⟨⟨r1, S1, rfl, ⟨rfl, rfl⟩, ⟨by rw [ht]; exact G.1, va_K.moved hW.alike hK, G.2.1⟩⟩, G.2.2.F ht⟩) G.2.2.2.2 dX12_waveAt_13) (fun H locs ls G => W.iret (v := r1) hx hb hr (fun t ht hW => ⟨⟨r1, S1, rfl, ⟨rfl, rfl⟩, ⟨by rw [ht]; exact G.1, va_K.moved hW.alike hK, G.2.1⟩⟩, G.2.2.F ht⟩) G.2.2.2.2 dX12_waveAt_36) _ _ _ _ _ h G hl
    · have h := oif_neg c15 h
      refine lv_aload_n hx hb dX12_waveAt_22 rfl (lv_at hl 0 rfl) ?_
      refine lv_iload_n hx hb dX12_waveAt_23 rfl (lv_at hl 1 rfl) ?_
      refine lv_iload_n hx hb dX12_waveAt_24 rfl (lv_at hl 2 rfl) ?_
      obtain ⟨r23, S20, eS20, h⟩ := obind2_some h
      refine m_calli (As := [.int a0, .int a1]) (rest := []) E G hA hR hml (tr_wave l D cI cJ cZ ad S11 a0 a1 eS20) (cwV 2 hts (gmV qM_241 qM_242 qM_243 qM_35 qM_244) rfl rfl rfl (by decide +kernel) ⟨Nat.le_of_ble_eq_true rfl, Nat.le_of_ble_eq_true rfl⟩) rfl hl.1 rfl (lv_room (Nat.le_of_ble_eq_true rfl)) dX12_waveAt_25 ⟨Nat.zero_le _, Nat.zero_le _⟩ (fun q21 S22 H locs hq G => ?_)
      obtain ⟨hq1, hq2⟩ := hq
      rw [hq2] at G
      refine lv_to hq1 ?_
      clear hq1 hq2 eS20
      refine lv_goto (tgt := 36) hx hb dX12_waveAt_28 (by decide) ?_
      have hl := lv_sub hl [] rfl
      exact tr_waveAt_b36 E hA hR hml (fun H locs ls G => W.iret (v := r1) hx hb hr (fun t ht hW => ⟨⟨r1, S1, rfl, ⟨rfl, rfl⟩, ⟨by rw [ht]; exact G.1, va_K.moved hW.alike hK, G.2.1⟩⟩, G.2.2.F ht⟩) G.2.2.2.2 dX12_waveAt_13) (fun H locs ls G => W.iret (v := r1) hx hb hr (fun t ht hW => ⟨⟨r1, S1, rfl, ⟨rfl, rfl⟩, ⟨by rw [ht]; exact G.1, va_K.moved hW.alike hK, G.2.1⟩⟩, G.2.2.F ht⟩) G.2.2.2.2 dX12_waveAt_36) _ _ _ _ _ h G hl
  · have h := oif_pos c10 h
    refine lv_iconst (v := 0) hx hb dX12_waveAt_12 (by decide) ?_
    exact W.iret (v := 0) hx hb hr (fun t ht hW => ⟨⟨0, S6, rfl, osome2 h, ⟨by rw [ht]; exact G.1, va_K.moved hW.alike hK, G.2.1⟩⟩, G.2.2.F ht⟩) G.2.2.2.2 dX12_waveAt_13
def fr_samples (S : MS)  : Option (Int32 × MS) := elet (S.2.1 10 2) fun v2 => obind2 (fr_told S v2) fun r6 S3 => some (r6, S3)
set_option maxHeartbeats 4000000 in
set_option maxRecDepth 100000 in
theorem tr_samples (l : Launch) (D : va_G) (cI cJ cZ : ClassId) (ad : Nat → Nat) (S : MS)  {r1 : Int32} {S1 : MS} (h : fr_samples S = some (r1, S1)) : mCi l yX12_samples (Cond.code yX12_samples cX12_samples 1 (some .int) :: wsM) 2 21 D cI cJ cZ ad S [] (fun r S9 => r = r1 ∧ S9 = S1) := by
  intro sz
  refine Met.ofW (cc := cX12_samples) (maxL := 1) (ret := (some .int)) (by decide) rfl ?_
  intro p e s m args below meth c s₁ B hml hv
  obtain ⟨rfl, hsz, hP, hK, hD0, hR⟩ := hv
  have hx := B.exec
  have hb := B.bytes
  have hr := B.returns
  have hts := atoms_spec (ws := (Cond.code yX12_samples cX12_samples 1 (some .int) :: wsM)) B.pre
  have hown : s.vm.findClass RX12 = some m.cls := findClass_of_methodNamed B.named
  have hlocks := B.notSynchronized
  subst hsz
  have hD := hD0.self (sz := s.heap.size)
  generalize hAe : va_A (MW cI cJ cZ ad S) s.heap.size = A at hD ⊢
  have hA : ∀ q : Nat, s.heap.size ≤ q → A q := fun q h => by rw [← hAe]; exact Or.inr h
  have G : mG D cI cJ cZ ad A s.heap s.heap [] S := ⟨hP, hD, va_S.rf⟩
  have E : mE p c cX12_samples s m ([.ref (ad 0)] : List Value).toArray (Cond.code yX12_samples cX12_samples 1 (some .int) :: wsM) D cI cJ cZ := ⟨hx, hb, hts, hown, hK, fun w h => .tail _ (iM_x h)⟩
  have hl := lv_entry ([.ref (ad 0)]) (n := 1) (Nat.le_of_ble_eq_true rfl)
  rw [lg_entry_eq]
  generalize (lg_sl ([.ref (ad 0)]) ++ List.replicate (1 - (lg_sl ([.ref (ad 0)])).length) Slot.unset).toArray = ls at hl ⊢
  have hl : lv_has ls 1 [(0, .ref (ad 0))] := hl
  unfold fr_samples at h
  refine lv_aload_n hx hb dX12_samples_0 rfl (lv_at hl 0 rfl) ?_
  refine lv_aload_n hx hb dX12_samples_1 rfl (lv_at hl 0 rfl) ?_
  refine m_get E G 10 (v := .ref (ad 10)) (by decide) (.tail _ qM_7) rfl dX12_samples_2 rfl ?_
  refine lv_iconst (v := 2) hx hb dX12_samples_5 (by decide) ?_
  refine m_iald E G 10 2 (n := 131) (k := 2) rfl rfl (by decide) (by decide) dX12_samples_6 ?_
  refine lv_topi (fun v2 ev2 => ?_)
  have h := elet_at ev2 h
  clear ev2
  obtain ⟨r6, S3, eS3, h⟩ := obind2_some h
  refine m_calli (As := [.int v2]) (rest := []) E G hA hR hml (tr_told l D cI cJ cZ ad S v2 eS3) (cwV 1 hts (gmV qM_312 qM_313 qM_314 qM_35 qM_305) rfl rfl rfl (by decide +kernel) ⟨Nat.le_of_ble_eq_true rfl, Nat.le_of_ble_eq_true rfl⟩) rfl hl.1 rfl (lv_room (Nat.le_of_ble_eq_true rfl)) dX12_samples_7 ⟨Nat.zero_le _, Nat.zero_le _⟩ (fun q4 S5 H locs hq G => ?_)
  obtain ⟨hq1, hq2⟩ := hq
  rw [hq2] at G
  refine lv_to hq1 ?_
  clear hq1 hq2 eS3
  exact W.iret (v := r6) hx hb hr (fun t ht hW => ⟨⟨r6, S3, rfl, osome2 h, ⟨by rw [ht]; exact G.1, va_K.moved hW.alike hK, G.2.1⟩⟩, G.2.2.F ht⟩) G.2.2.2.2 dX12_samples_10
def fr_delay_b43  (S : MS) (s0 : Int32) : Option (Int32 × MS) := some (s0, S)
set_option maxHeartbeats 4000000 in
set_option maxRecDepth 100000 in
theorem tr_delay_b43 {p : Program} {l : Launch} {e : Env} {s : State} {m : MethodId} {args : Array Value} {below : List Frame} {meth : Method} {c : Code} {Q : State → Prop} {D : va_G} {A : Nat → Prop} {H0 : Heap} {cI cJ cZ : ClassId} {ad : Nat → Nat} {r1 : Int32} {S1 : MS} (E : mE p c cX12_delay s m args (Cond.code yX12_delay cX12_delay 3 (some .int) :: wsM) D cI cJ cZ) (hA : ∀ q : Nat, H0.size ≤ q → A q) (hR : sR s) (hml : c.maxLocals = 3) (kr43 : ∀ (H : Heap) (locs : List Loc) (ls : Array Slot), mG D cI cJ cZ ad A H0 H locs S1 → W p l e { frames := 3, cells := 0, slots := 0, locals := 43 } s m args below meth c H locs 0 0 Q (F0 m 43 ls [.int r1])) : ∀ (S : MS) (H : Heap) (locs : List Loc) (ls : Array Slot) (s0 : Int32), fr_delay_b43 S s0 = some (r1, S1) → mG D cI cJ cZ ad A H0 H locs S → lv_has ls 3 [] → W p l e { frames := 3, cells := 0, slots := 0, locals := 43 } s m args below meth c H locs 0 0 Q (F0 m 43 ls [.int s0]) := by
  have hx := E.1
  have hb := E.2.1
  have hts := E.2.2.1
  have hown := E.2.2.2.1
  have hK := E.2.2.2.2.1
  intro S H locs ls s0 h G hl
  unfold fr_delay_b43 at h
  rw [(osome2 h).2] at G
  refine lv_to (osome2 h).1 ?_
  exact kr43 _ _ _ G
def fr_delay_b22  (S : MS) (s0 : Int32) (l1 : Int32) (l2 : Int32) : Option (Int32 × MS) := obind2 (fr_mayAsk S s0) fun r5 S2 => if r5 = 0 then (fr_delay_b43 S2 0) else (elet (12 * l2) fun v7 => elet (v7 + l1) fun v8 => oif (inb v8 1728 = true) <| elet (S2.2.1 17 v8.toNatClampNeg) fun v10 => fr_delay_b43 S2 v10)
set_option maxHeartbeats 4000000 in
set_option maxRecDepth 100000 in
theorem tr_delay_b22 {p : Program} {l : Launch} {e : Env} {s : State} {m : MethodId} {args : Array Value} {below : List Frame} {meth : Method} {c : Code} {Q : State → Prop} {D : va_G} {A : Nat → Prop} {H0 : Heap} {cI cJ cZ : ClassId} {ad : Nat → Nat} {r1 : Int32} {S1 : MS} (E : mE p c cX12_delay s m args (Cond.code yX12_delay cX12_delay 3 (some .int) :: wsM) D cI cJ cZ) (hA : ∀ q : Nat, H0.size ≤ q → A q) (hR : sR s) (hml : c.maxLocals = 3) (kr43 : ∀ (H : Heap) (locs : List Loc) (ls : Array Slot), mG D cI cJ cZ ad A H0 H locs S1 → W p l e { frames := 3, cells := 0, slots := 0, locals := 43 } s m args below meth c H locs 0 0 Q (F0 m 43 ls [.int r1])) : ∀ (S : MS) (H : Heap) (locs : List Loc) (ls : Array Slot) (s0 : Int32) (l1 : Int32) (l2 : Int32), fr_delay_b22 S s0 l1 l2 = some (r1, S1) → mG D cI cJ cZ ad A H0 H locs S → lv_has ls 3 [(0, .ref (ad 0)), (1, .int l1), (2, .int l2)] → W p l e { frames := 3, cells := 0, slots := 0, locals := 43 } s m args below meth c H locs 0 0 Q (F0 m 22 ls [.int s0, .ref (ad 0)]) := by
  have hx := E.1
  have hb := E.2.1
  have hts := E.2.2.1
  have hown := E.2.2.2.1
  have hK := E.2.2.2.2.1
  intro S H locs ls s0 l1 l2 h G hl
  unfold fr_delay_b22 at h
  obtain ⟨r5, S2, eS2, h⟩ := obind2_some h
  refine m_calli (As := [.int s0]) (rest := []) E G hA hR hml (tr_mayAsk l D cI cJ cZ ad S s0 eS2) (cwV 1 hts (gmV qM_319 qM_320 qM_321 qM_35 qM_304) rfl rfl rfl (by decide +kernel) ⟨Nat.le_of_ble_eq_true rfl, Nat.le_of_ble_eq_true rfl⟩) rfl hl.1 rfl (lv_room (Nat.le_of_ble_eq_true rfl)) dX12_delay_22 ⟨Nat.zero_le _, Nat.zero_le _⟩ (fun q3 S4 H locs hq G => ?_)
  obtain ⟨hq1, hq2⟩ := hq
  rw [hq2] at G
  refine lv_to hq1 ?_
  clear hq1 hq2 eS2
  refine lv_if_eq (tgt := 42) hx hb dX12_delay_25 (by decide) (fun c6 => ?_) (fun c6 => ?_)
  · have h := oif_pos c6 h
    refine lv_iconst (v := 0) hx hb dX12_delay_42 (by decide) ?_
    have hl := lv_sub hl [] rfl
    exact tr_delay_b43 E hA hR hml kr43 _ _ _ _ _ h G hl
  · have h := oif_neg c6 h
    refine lv_aload_n hx hb dX12_delay_28 rfl (lv_at hl 0 rfl) ?_
    refine m_get E G 17 (v := .ref (ad 17)) (by decide) (.tail _ qM_14) rfl dX12_delay_29 rfl ?_
    refine lv_bipush (v := 12) hx hb dX12_delay_32 (by decide) ?_
    refine lv_iload_n hx hb dX12_delay_34 rfl (lv_at hl 2 rfl) ?_
    refine lv_imul hx hb dX12_delay_35 ?_
    refine lv_topi (fun v7 ev7 => ?_)
    have h := elet_at ev7 h
    clear ev7
    refine lv_iload_n hx hb dX12_delay_36 rfl (lv_at hl 1 rfl) ?_
    refine lv_iadd hx hb dX12_delay_37 ?_
    refine lv_topi (fun v8 ev8 => ?_)
    have h := elet_at ev8 h
    clear ev8
    obtain ⟨g9, h⟩ := oif_some h
    refine m_iald E G 17 9 (n := 1728) (k := v8.toNatClampNeg) rfl (inb_k g9).1 (inb_k g9).2 (by decide) dX12_delay_38 ?_
    refine lv_topi (fun v10 ev10 => ?_)
    have h := elet_at ev10 h
    clear ev10
    refine lv_goto (tgt := 43) hx hb dX12_delay_39 (by decide) ?_
    have hl := lv_sub hl [] rfl
    exact tr_delay_b43 E hA hR hml kr43 _ _ _ _ _ h G hl
def fr_delay_b21  (S : MS) (l1 : Int32) (l2 : Int32) : Option (Int32 × MS) := fr_delay_b22 S 0 l1 l2
set_option maxHeartbeats 4000000 in
set_option maxRecDepth 100000 in
theorem tr_delay_b21 {p : Program} {l : Launch} {e : Env} {s : State} {m : MethodId} {args : Array Value} {below : List Frame} {meth : Method} {c : Code} {Q : State → Prop} {D : va_G} {A : Nat → Prop} {H0 : Heap} {cI cJ cZ : ClassId} {ad : Nat → Nat} {r1 : Int32} {S1 : MS} (E : mE p c cX12_delay s m args (Cond.code yX12_delay cX12_delay 3 (some .int) :: wsM) D cI cJ cZ) (hA : ∀ q : Nat, H0.size ≤ q → A q) (hR : sR s) (hml : c.maxLocals = 3) (kr43 : ∀ (H : Heap) (locs : List Loc) (ls : Array Slot), mG D cI cJ cZ ad A H0 H locs S1 → W p l e { frames := 3, cells := 0, slots := 0, locals := 43 } s m args below meth c H locs 0 0 Q (F0 m 43 ls [.int r1])) : ∀ (S : MS) (H : Heap) (locs : List Loc) (ls : Array Slot) (l1 : Int32) (l2 : Int32), fr_delay_b21 S l1 l2 = some (r1, S1) → mG D cI cJ cZ ad A H0 H locs S → lv_has ls 3 [(0, .ref (ad 0)), (1, .int l1), (2, .int l2)] → W p l e { frames := 3, cells := 0, slots := 0, locals := 43 } s m args below meth c H locs 0 0 Q (F0 m 21 ls [.ref (ad 0)]) := by
  have hx := E.1
  have hb := E.2.1
  have hts := E.2.2.1
  have hown := E.2.2.2.1
  have hK := E.2.2.2.2.1
  intro S H locs ls l1 l2 h G hl
  unfold fr_delay_b21 at h
  refine lv_iconst (v := 0) hx hb dX12_delay_21 (by decide) ?_
  have hl := lv_sub hl [0, 1, 2] rfl
  exact tr_delay_b22 E hA hR hml kr43 _ _ _ _ _ _ _ h G hl
def fr_delay (S : MS) (a0 : Int32) (a1 : Int32) : Option (Int32 × MS) := obind2 (fr_isMic S a0) fun r5 S2 => if r5 = 0 then (fr_delay_b21 S2 a0 a1) else (obind2 (fr_isCell S2 a1) fun r10 S7 => if r10 = 0 then (fr_delay_b21 S7 a0 a1) else (fr_delay_b22 S7 1 a0 a1))
set_option maxHeartbeats 4000000 in
set_option maxRecDepth 100000 in
theorem tr_delay (l : Launch) (D : va_G) (cI cJ cZ : ClassId) (ad : Nat → Nat) (S : MS) (a0 : Int32) (a1 : Int32) {r1 : Int32} {S1 : MS} (h : fr_delay S a0 a1 = some (r1, S1)) : mCi l yX12_delay (Cond.code yX12_delay cX12_delay 3 (some .int) :: wsM) 3 43 D cI cJ cZ ad S [.int a0, .int a1] (fun r S9 => r = r1 ∧ S9 = S1) := by
  intro sz
  refine Met.ofW (cc := cX12_delay) (maxL := 3) (ret := (some .int)) (by decide) rfl ?_
  intro p e s m args below meth c s₁ B hml hv
  obtain ⟨rfl, hsz, hP, hK, hD0, hR⟩ := hv
  have hx := B.exec
  have hb := B.bytes
  have hr := B.returns
  have hts := atoms_spec (ws := (Cond.code yX12_delay cX12_delay 3 (some .int) :: wsM)) B.pre
  have hown : s.vm.findClass RX12 = some m.cls := findClass_of_methodNamed B.named
  have hlocks := B.notSynchronized
  subst hsz
  have hD := hD0.self (sz := s.heap.size)
  generalize hAe : va_A (MW cI cJ cZ ad S) s.heap.size = A at hD ⊢
  have hA : ∀ q : Nat, s.heap.size ≤ q → A q := fun q h => by rw [← hAe]; exact Or.inr h
  have G : mG D cI cJ cZ ad A s.heap s.heap [] S := ⟨hP, hD, va_S.rf⟩
  have E : mE p c cX12_delay s m ([.ref (ad 0), .int a0, .int a1] : List Value).toArray (Cond.code yX12_delay cX12_delay 3 (some .int) :: wsM) D cI cJ cZ := ⟨hx, hb, hts, hown, hK, fun w h => .tail _ (iM_x h)⟩
  have hl := lv_entry ([.ref (ad 0), .int a0, .int a1]) (n := 3) (Nat.le_of_ble_eq_true rfl)
  rw [lg_entry_eq]
  generalize (lg_sl ([.ref (ad 0), .int a0, .int a1]) ++ List.replicate (3 - (lg_sl ([.ref (ad 0), .int a0, .int a1])).length) Slot.unset).toArray = ls at hl ⊢
  have hl : lv_has ls 3 [(0, .ref (ad 0)), (1, .int a0), (2, .int a1)] := hl
  unfold fr_delay at h
  refine lv_aload_n hx hb dX12_delay_0 rfl (lv_at hl 0 rfl) ?_
  refine lv_aload_n hx hb dX12_delay_1 rfl (lv_at hl 0 rfl) ?_
  refine lv_iload_n hx hb dX12_delay_2 rfl (lv_at hl 1 rfl) ?_
  obtain ⟨r5, S2, eS2, h⟩ := obind2_some h
  refine m_calli (As := [.int a0]) (rest := [.ref (ad 0)]) E G hA hR hml (tr_isMic l D cI cJ cZ ad S a0 eS2) (cwV 1 hts (gmV qM_316 qM_317 qM_318 qM_35 qM_306) rfl rfl rfl (by decide +kernel) ⟨Nat.le_of_ble_eq_true rfl, Nat.le_of_ble_eq_true rfl⟩) rfl hl.1 rfl (lv_room (Nat.le_of_ble_eq_true rfl)) dX12_delay_3 ⟨Nat.zero_le _, Nat.zero_le _⟩ (fun q3 S4 H locs hq G => ?_)
  obtain ⟨hq1, hq2⟩ := hq
  rw [hq2] at G
  refine lv_to hq1 ?_
  clear hq1 hq2 eS2
  refine lv_if_eq (tgt := 21) hx hb dX12_delay_6 (by decide) (fun c6 => ?_) (fun c6 => ?_)
  · have h := oif_pos c6 h
    have hl := lv_sub hl [0, 1, 2] rfl
    exact tr_delay_b21 E hA hR hml (fun H locs ls G => W.iret (v := r1) hx hb hr (fun t ht hW => ⟨⟨r1, S1, rfl, ⟨rfl, rfl⟩, ⟨by rw [ht]; exact G.1, va_K.moved hW.alike hK, G.2.1⟩⟩, G.2.2.F ht⟩) G.2.2.2.2 dX12_delay_43) _ _ _ _ _ _ h G hl
  · have h := oif_neg c6 h
    refine lv_aload_n hx hb dX12_delay_9 rfl (lv_at hl 0 rfl) ?_
    refine lv_iload_n hx hb dX12_delay_10 rfl (lv_at hl 2 rfl) ?_
    obtain ⟨r10, S7, eS7, h⟩ := obind2_some h
    refine m_calli (As := [.int a1]) (rest := [.ref (ad 0)]) E G hA hR hml (tr_isCell l D cI cJ cZ ad S2 a1 eS7) (cwV 1 hts (gmV qM_326 qM_327 qM_328 qM_35 qM_307) rfl rfl rfl (by decide +kernel) ⟨Nat.le_of_ble_eq_true rfl, Nat.le_of_ble_eq_true rfl⟩) rfl hl.1 rfl (lv_room (Nat.le_of_ble_eq_true rfl)) dX12_delay_11 ⟨Nat.zero_le _, Nat.zero_le _⟩ (fun q8 S9 H locs hq G => ?_)
    obtain ⟨hq1, hq2⟩ := hq
    rw [hq2] at G
    refine lv_to hq1 ?_
    clear hq1 hq2 eS7
    refine lv_if_eq (tgt := 21) hx hb dX12_delay_14 (by decide) (fun c11 => ?_) (fun c11 => ?_)
    · have h := oif_pos c11 h
      have hl := lv_sub hl [0, 1, 2] rfl
      exact tr_delay_b21 E hA hR hml (fun H locs ls G => W.iret (v := r1) hx hb hr (fun t ht hW => ⟨⟨r1, S1, rfl, ⟨rfl, rfl⟩, ⟨by rw [ht]; exact G.1, va_K.moved hW.alike hK, G.2.1⟩⟩, G.2.2.F ht⟩) G.2.2.2.2 dX12_delay_43) _ _ _ _ _ _ h G hl
    · have h := oif_neg c11 h
      refine lv_iconst (v := 1) hx hb dX12_delay_17 (by decide) ?_
      refine lv_goto (tgt := 22) hx hb dX12_delay_18 (by decide) ?_
      have hl := lv_sub hl [0, 1, 2] rfl
      exact tr_delay_b22 E hA hR hml (fun H locs ls G => W.iret (v := r1) hx hb hr (fun t ht hW => ⟨⟨r1, S1, rfl, ⟨rfl, rfl⟩, ⟨by rw [ht]; exact G.1, va_K.moved hW.alike hK, G.2.1⟩⟩, G.2.2.F ht⟩) G.2.2.2.2 dX12_delay_43) _ _ _ _ _ _ _ h G hl
def fr_isPoint_b31   (s0 : Int32) : Option (Int32) := oif (s0 = 0 ∨ s0 = 1) <| some s0
set_option maxHeartbeats 4000000 in
set_option maxRecDepth 100000 in
theorem tr_isPoint_b31 {p : Program} {l : Launch} {e : Env} {s : State} {m : MethodId} {args : Array Value} {below : List Frame} {meth : Method} {c : Code} {Q : State → Prop} {r1 : Int32} (E : p.tables.exec = Jvm.exec ∧ c.code = cX12_isPoint ∧ (∀ w ∈ (Cond.code yX12_isPoint cX12_isPoint 2 (some .boolean) :: wsM), w.before args s = true) ∧ s.vm.findClass RX12 = some m.cls) (hml : c.maxLocals = 2) (kr31 : ∀ (ls : Array Slot), (r1 = 0 ∨ r1 = 1) → W p l e { frames := 2, cells := 0, slots := 0, locals := 22 } s m args below meth c s.heap [] 0 0 Q (F0 m 31 ls [.int r1])) : ∀ (ls : Array Slot) (s0 : Int32), fr_isPoint_b31 s0 = some r1 → lv_has ls 2 [] → W p l e { frames := 2, cells := 0, slots := 0, locals := 22 } s m args below meth c s.heap [] 0 0 Q (F0 m 31 ls [.int s0]) := by
  have hx := E.1
  have hb := E.2.1
  have hts := E.2.2.1
  have hown := E.2.2.2
  intro ls s0 h hl
  unfold fr_isPoint_b31 at h
  obtain ⟨gz, h⟩ := oif_some h
  have gr : r1 = 0 ∨ r1 = 1 := by rw [← osome1 h]; exact gz
  refine lv_to (osome1 h) ?_
  exact kr31 _ gr
def fr_isPoint_b30    : Option (Int32) := fr_isPoint_b31 0
set_option maxHeartbeats 4000000 in
set_option maxRecDepth 100000 in
theorem tr_isPoint_b30 {p : Program} {l : Launch} {e : Env} {s : State} {m : MethodId} {args : Array Value} {below : List Frame} {meth : Method} {c : Code} {Q : State → Prop} {r1 : Int32} (E : p.tables.exec = Jvm.exec ∧ c.code = cX12_isPoint ∧ (∀ w ∈ (Cond.code yX12_isPoint cX12_isPoint 2 (some .boolean) :: wsM), w.before args s = true) ∧ s.vm.findClass RX12 = some m.cls) (hml : c.maxLocals = 2) (kr31 : ∀ (ls : Array Slot), (r1 = 0 ∨ r1 = 1) → W p l e { frames := 2, cells := 0, slots := 0, locals := 22 } s m args below meth c s.heap [] 0 0 Q (F0 m 31 ls [.int r1])) : ∀ (ls : Array Slot), fr_isPoint_b30 = some r1 → lv_has ls 2 [] → W p l e { frames := 2, cells := 0, slots := 0, locals := 22 } s m args below meth c s.heap [] 0 0 Q (F0 m 30 ls []) := by
  have hx := E.1
  have hb := E.2.1
  have hts := E.2.2.1
  have hown := E.2.2.2
  intro ls h hl
  unfold fr_isPoint_b30 at h
  refine lv_iconst (v := 0) hx hb dX12_isPoint_30 (by decide) ?_
  have hl := lv_sub hl [] rfl
  exact tr_isPoint_b31 E hml kr31 _ _ h hl
def fr_isPoint  (a0 : Int32) (a1 : Int32) : Option (Int32) := obind (fr_in a0 (-9999) 9999) fun r2 => if r2 = 0 then (fr_isPoint_b30) else (obind (fr_in a1 (-9999) 9999) fun r5 => if r5 = 0 then (fr_isPoint_b30) else (fr_isPoint_b31 1))
set_option maxHeartbeats 4000000 in
set_option maxRecDepth 100000 in
theorem tr_isPoint (l : Launch) (a0 : Int32) (a1 : Int32) {r1 : Int32} (h : fr_isPoint a0 a1 = some r1) : Met l yX12_isPoint (Cond.code yX12_isPoint cX12_isPoint 2 (some .boolean) :: wsM) { frames := 2, cells := 0, slots := 0, locals := 22 } (va_Pc [.int a0, .int a1] (fun _ => True)) (vp_Si (fun r => r = r1)) 0 0 (fun _ => False) := by
  refine Met.ofW (cc := cX12_isPoint) (maxL := 2) (ret := (some .boolean)) (by decide) rfl ?_
  intro p e s m args below meth c s₁ B hml hv
  obtain ⟨rfl, -⟩ := hv
  have hx := B.exec
  have hb := B.bytes
  have hr := B.returns
  have hts := atoms_spec (ws := (Cond.code yX12_isPoint cX12_isPoint 2 (some .boolean) :: wsM)) B.pre
  have hown : s.vm.findClass RX12 = some m.cls := findClass_of_methodNamed B.named
  have hlocks := B.notSynchronized
  have E : p.tables.exec = Jvm.exec ∧ c.code = cX12_isPoint ∧ (∀ w ∈ (Cond.code yX12_isPoint cX12_isPoint 2 (some .boolean) :: wsM), w.before ([.int a0, .int a1] : List Value).toArray s = true) ∧ s.vm.findClass RX12 = some m.cls := ⟨hx, hb, hts, hown⟩
  have hl := lv_entry ([.int a0, .int a1]) (n := 2) (Nat.le_of_ble_eq_true rfl)
  rw [lg_entry_eq]
  generalize (lg_sl ([.int a0, .int a1]) ++ List.replicate (2 - (lg_sl ([.int a0, .int a1])).length) Slot.unset).toArray = ls at hl ⊢
  have hl : lv_has ls 2 [(0, .int a0), (1, .int a1)] := hl
  unfold fr_isPoint at h
  refine lv_iload_n hx hb dX12_isPoint_0 rfl (lv_at hl 0 rfl) ?_
  refine lv_sipush (v := (-9999)) hx hb dX12_isPoint_1 (by decide) ?_
  refine lv_sipush (v := 9999) hx hb dX12_isPoint_4 (by decide) ?_
  obtain ⟨r2, er2, h⟩ := obind_some h
  refine m_stat (As := [.int a0, .int (-9999), .int 9999]) (rest := []) ⟨hx, hb, hml, hown, hts⟩ (tr_in l a0 (-9999) 9999 er2) (cwS 3 hts (gmS qM_52 qM_53 qM_35 qM_27) rfl rfl rfl (by decide +kernel) ⟨Nat.le_of_ble_eq_true rfl, Nat.le_of_ble_eq_true rfl⟩) rfl hl.1 rfl (lv_room (Nat.le_of_ble_eq_true rfl)) dX12_isPoint_7 ⟨Nat.zero_le _, Nat.zero_le _⟩ (fun q3 hq => ?_)
  refine lv_to hq ?_
  clear hq er2
  refine lv_if_eq (tgt := 30) hx hb dX12_isPoint_10 (by decide) (fun c4 => ?_) (fun c4 => ?_)
  · have h := oif_pos c4 h
    have hl := lv_sub hl [] rfl
    exact tr_isPoint_b30 E hml (fun ls gz => W.zret (v := r1) hx hb hr (nar01 gz) (fun t ht hW => ⟨r1, rfl, rfl, ht⟩) (fun _ h => absurd h List.not_mem_nil) dX12_isPoint_31) _ h hl
  · have h := oif_neg c4 h
    refine lv_iload_n hx hb dX12_isPoint_13 rfl (lv_at hl 1 rfl) ?_
    refine lv_sipush (v := (-9999)) hx hb dX12_isPoint_14 (by decide) ?_
    refine lv_sipush (v := 9999) hx hb dX12_isPoint_17 (by decide) ?_
    obtain ⟨r5, er5, h⟩ := obind_some h
    refine m_stat (As := [.int a1, .int (-9999), .int 9999]) (rest := []) ⟨hx, hb, hml, hown, hts⟩ (tr_in l a1 (-9999) 9999 er5) (cwS 3 hts (gmS qM_52 qM_53 qM_35 qM_27) rfl rfl rfl (by decide +kernel) ⟨Nat.le_of_ble_eq_true rfl, Nat.le_of_ble_eq_true rfl⟩) rfl hl.1 rfl (lv_room (Nat.le_of_ble_eq_true rfl)) dX12_isPoint_20 ⟨Nat.zero_le _, Nat.zero_le _⟩ (fun q6 hq => ?_)
    refine lv_to hq ?_
    clear hq er5
    refine lv_if_eq (tgt := 30) hx hb dX12_isPoint_23 (by decide) (fun c7 => ?_) (fun c7 => ?_)
    · have h := oif_pos c7 h
      have hl := lv_sub hl [] rfl
      exact tr_isPoint_b30 E hml (fun ls gz => W.zret (v := r1) hx hb hr (nar01 gz) (fun t ht hW => ⟨r1, rfl, rfl, ht⟩) (fun _ h => absurd h List.not_mem_nil) dX12_isPoint_31) _ h hl
    · have h := oif_neg c7 h
      refine lv_iconst (v := 1) hx hb dX12_isPoint_26 (by decide) ?_
      refine lv_goto (tgt := 31) hx hb dX12_isPoint_27 (by decide) ?_
      have hl := lv_sub hl [] rfl
      exact tr_isPoint_b31 E hml (fun ls gz => W.zret (v := r1) hx hb hr (nar01 gz) (fun t ht hW => ⟨r1, rfl, rfl, ht⟩) (fun _ h => absurd h List.not_mem_nil) dX12_isPoint_31) _ _ h hl
def fr_delayTo_b37  (S : MS) (s0 : Int32) : Option (Int32 × MS) := some (s0, S)
set_option maxHeartbeats 4000000 in
set_option maxRecDepth 100000 in
theorem tr_delayTo_b37 {p : Program} {l : Launch} {e : Env} {s : State} {m : MethodId} {args : Array Value} {below : List Frame} {meth : Method} {c : Code} {Q : State → Prop} {D : va_G} {A : Nat → Prop} {H0 : Heap} {cI cJ cZ : ClassId} {ad : Nat → Nat} {r1 : Int32} {S1 : MS} (E : mE p c cX12_delayTo s m args (Cond.code yX12_delayTo cX12_delayTo 4 (some .int) :: wsM) D cI cJ cZ) (hA : ∀ q : Nat, H0.size ≤ q → A q) (hR : sR s) (hml : c.maxLocals = 4) (kr13 : ∀ (H : Heap) (locs : List Loc) (ls : Array Slot), mG D cI cJ cZ ad A H0 H locs S1 → W p l e { frames := 3, cells := 0, slots := 0, locals := 50 } s m args below meth c H locs 0 0 Q (F0 m 13 ls [.int r1])) (kr37 : ∀ (H : Heap) (locs : List Loc) (ls : Array Slot), mG D cI cJ cZ ad A H0 H locs S1 → W p l e { frames := 3, cells := 0, slots := 0, locals := 50 } s m args below meth c H locs 0 0 Q (F0 m 37 ls [.int r1])) : ∀ (S : MS) (H : Heap) (locs : List Loc) (ls : Array Slot) (s0 : Int32), fr_delayTo_b37 S s0 = some (r1, S1) → mG D cI cJ cZ ad A H0 H locs S → lv_has ls 4 [] → W p l e { frames := 3, cells := 0, slots := 0, locals := 50 } s m args below meth c H locs 0 0 Q (F0 m 37 ls [.int s0]) := by
  have hx := E.1
  have hb := E.2.1
  have hts := E.2.2.1
  have hown := E.2.2.2.1
  have hK := E.2.2.2.2.1
  intro S H locs ls s0 h G hl
  unfold fr_delayTo_b37 at h
  rw [(osome2 h).2] at G
  refine lv_to (osome2 h).1 ?_
  exact kr37 _ _ _ G
def fr_delayTo (S : MS) (a0 : Int32) (a1 : Int32) (a2 : Int32) : Option (Int32 × MS) := obind2 (fr_isMic S a0) fun r5 S2 => obind2 (fr_mayAsk S2 r5) fun r9 S6 => if r9 = 0 then (some (0, S6)) else (obind (fr_isPoint a1 a2) fun r11 => if r11 = 0 then (obind2 (fr_throwsAt S6 3) fun r17 S14 => fr_delayTo_b37 S14 r17) else (obind2 (fr_delayFrom S6 a0 a1 a2) fun r21 S18 => fr_delayTo_b37 S18 r21))
set_option maxHeartbeats 4000000 in
set_option maxRecDepth 100000 in
theorem tr_delayTo (l : Launch) (D : va_G) (cI cJ cZ : ClassId) (ad : Nat → Nat) (S : MS) (a0 : Int32) (a1 : Int32) (a2 : Int32) {r1 : Int32} {S1 : MS} (h : fr_delayTo S a0 a1 a2 = some (r1, S1)) : mCi l yX12_delayTo (Cond.code yX12_delayTo cX12_delayTo 4 (some .int) :: wsM) 3 50 D cI cJ cZ ad S [.int a0, .int a1, .int a2] (fun r S9 => r = r1 ∧ S9 = S1) := by
  intro sz
  refine Met.ofW (cc := cX12_delayTo) (maxL := 4) (ret := (some .int)) (by decide) rfl ?_
  intro p e s m args below meth c s₁ B hml hv
  obtain ⟨rfl, hsz, hP, hK, hD0, hR⟩ := hv
  have hx := B.exec
  have hb := B.bytes
  have hr := B.returns
  have hts := atoms_spec (ws := (Cond.code yX12_delayTo cX12_delayTo 4 (some .int) :: wsM)) B.pre
  have hown : s.vm.findClass RX12 = some m.cls := findClass_of_methodNamed B.named
  have hlocks := B.notSynchronized
  subst hsz
  have hD := hD0.self (sz := s.heap.size)
  generalize hAe : va_A (MW cI cJ cZ ad S) s.heap.size = A at hD ⊢
  have hA : ∀ q : Nat, s.heap.size ≤ q → A q := fun q h => by rw [← hAe]; exact Or.inr h
  have G : mG D cI cJ cZ ad A s.heap s.heap [] S := ⟨hP, hD, va_S.rf⟩
  have E : mE p c cX12_delayTo s m ([.ref (ad 0), .int a0, .int a1, .int a2] : List Value).toArray (Cond.code yX12_delayTo cX12_delayTo 4 (some .int) :: wsM) D cI cJ cZ := ⟨hx, hb, hts, hown, hK, fun w h => .tail _ (iM_x h)⟩
  have hl := lv_entry ([.ref (ad 0), .int a0, .int a1, .int a2]) (n := 4) (Nat.le_of_ble_eq_true rfl)
  rw [lg_entry_eq]
  generalize (lg_sl ([.ref (ad 0), .int a0, .int a1, .int a2]) ++ List.replicate (4 - (lg_sl ([.ref (ad 0), .int a0, .int a1, .int a2])).length) Slot.unset).toArray = ls at hl ⊢
  have hl : lv_has ls 4 [(0, .ref (ad 0)), (1, .int a0), (2, .int a1), (3, .int a2)] := hl
  unfold fr_delayTo at h
  refine lv_aload_n hx hb dX12_delayTo_0 rfl (lv_at hl 0 rfl) ?_
  refine lv_aload_n hx hb dX12_delayTo_1 rfl (lv_at hl 0 rfl) ?_
  refine lv_iload_n hx hb dX12_delayTo_2 rfl (lv_at hl 1 rfl) ?_
  obtain ⟨r5, S2, eS2, h⟩ := obind2_some h
  refine m_calli (As := [.int a0]) (rest := [.ref (ad 0)]) E G hA hR hml (tr_isMic l D cI cJ cZ ad S a0 eS2) (cwV 1 hts (gmV qM_316 qM_317 qM_318 qM_35 qM_306) rfl rfl rfl (by decide +kernel) ⟨Nat.le_of_ble_eq_true rfl, Nat.le_of_ble_eq_true rfl⟩) rfl hl.1 rfl (lv_room (Nat.le_of_ble_eq_true rfl)) dX12_delayTo_3 ⟨Nat.zero_le _, Nat.zero_le _⟩ (fun q3 S4 H locs hq G => ?_)
  obtain ⟨hq1, hq2⟩ := hq
  rw [hq2] at G
  refine lv_to hq1 ?_
  clear hq1 hq2 eS2
  obtain ⟨r9, S6, eS6, h⟩ := obind2_some h
  refine m_calli (As := [.int r5]) (rest := []) E G hA hR hml (tr_mayAsk l D cI cJ cZ ad S2 r5 eS6) (cwV 1 hts (gmV qM_319 qM_320 qM_321 qM_35 qM_304) rfl rfl rfl (by decide +kernel) ⟨Nat.le_of_ble_eq_true rfl, Nat.le_of_ble_eq_true rfl⟩) rfl hl.1 rfl (lv_room (Nat.le_of_ble_eq_true rfl)) dX12_delayTo_6 ⟨Nat.zero_le _, Nat.zero_le _⟩ (fun q7 S8 H locs hq G => ?_)
  obtain ⟨hq1, hq2⟩ := hq
  rw [hq2] at G
  refine lv_to hq1 ?_
  clear hq1 hq2 eS6
  refine lv_if_ne (tgt := 14) hx hb dX12_delayTo_9 (by decide) (fun c10 => ?_) (fun c10 => ?_)
  · have h := oif_neg c10 h
    refine lv_iload_n hx hb dX12_delayTo_14 rfl (lv_at hl 2 rfl) ?_
    refine lv_iload_n hx hb dX12_delayTo_15 rfl (lv_at hl 3 rfl) ?_
    obtain ⟨r11, er11, h⟩ := obind_some h
    refine m_stat (As := [.int a1, .int a2]) (rest := []) ⟨hx, hb, hml, hown, hts⟩ (tr_isPoint l a1 a2 er11) (cwS 2 hts (gmS qM_343 qM_344 qM_35 qM_341) rfl rfl rfl (by decide +kernel) ⟨Nat.le_of_ble_eq_true rfl, Nat.le_of_ble_eq_true rfl⟩) rfl hl.1 rfl (lv_room (Nat.le_of_ble_eq_true rfl)) dX12_delayTo_16 ⟨Nat.zero_le _, Nat.zero_le _⟩ (fun q12 hq => ?_)
    refine lv_to hq ?_
    clear hq er11
    refine lv_if_eq (tgt := 32) hx hb dX12_delayTo_19 (by decide) (fun c13 => ?_) (fun c13 => ?_)
    · have h := oif_pos c13 h
      refine lv_aload_n hx hb dX12_delayTo_32 rfl (lv_at hl 0 rfl) ?_
      refine lv_iconst (v := 3) hx hb dX12_delayTo_33 (by decide) ?_
      obtain ⟨r17, S14, eS14, h⟩ := obind2_some h
      refine m_calli (As := [.int 3]) (rest := []) E G hA hR hml (tr_throwsAt l D cI cJ cZ ad S6 3 eS14) (cwV 1 hts (gmV qM_195 qM_196 qM_197 qM_35 qM_28) rfl rfl rfl (by decide +kernel) ⟨Nat.le_of_ble_eq_true rfl, Nat.le_of_ble_eq_true rfl⟩) rfl hl.1 rfl (lv_room (Nat.le_of_ble_eq_true rfl)) dX12_delayTo_34 ⟨Nat.zero_le _, Nat.zero_le _⟩ (fun q15 S16 H locs hq G => ?_)
      obtain ⟨hq1, hq2⟩ := hq
      rw [hq2] at G
      refine lv_to hq1 ?_
      clear hq1 hq2 eS14
      have hl := lv_sub hl [] rfl
      exact tr_delayTo_b37 E hA hR hml (fun H locs ls G => W.iret (v := r1) hx hb hr (fun t ht hW => ⟨⟨r1, S1, rfl, ⟨rfl, rfl⟩, ⟨by rw [ht]; exact G.1, va_K.moved hW.alike hK, G.2.1⟩⟩, G.2.2.F ht⟩) G.2.2.2.2 dX12_delayTo_13) (fun H locs ls G => W.iret (v := r1) hx hb hr (fun t ht hW => ⟨⟨r1, S1, rfl, ⟨rfl, rfl⟩, ⟨by rw [ht]; exact G.1, va_K.moved hW.alike hK, G.2.1⟩⟩, G.2.2.F ht⟩) G.2.2.2.2 dX12_delayTo_37) _ _ _ _ _ h G hl
    · have h := oif_neg c13 h
      refine lv_aload_n hx hb dX12_delayTo_22 rfl (lv_at hl 0 rfl) ?_
      refine lv_iload_n hx hb dX12_delayTo_23 rfl (lv_at hl 1 rfl) ?_
      refine lv_iload_n hx hb dX12_delayTo_24 rfl (lv_at hl 2 rfl) ?_
      refine lv_iload_n hx hb dX12_delayTo_25 rfl (lv_at hl 3 rfl) ?_
      obtain ⟨r21, S18, eS18, h⟩ := obind2_some h
      refine m_calli (As := [.int a0, .int a1, .int a2]) (rest := []) E G hA hR hml (tr_delayFrom l D cI cJ cZ ad S6 a0 a1 a2 eS18) (cwV 3 hts (gmV qM_212 qM_213 qM_214 qM_35 qM_215) rfl rfl rfl (by decide +kernel) ⟨Nat.le_of_ble_eq_true rfl, Nat.le_of_ble_eq_true rfl⟩) rfl hl.1 rfl (lv_room (Nat.le_of_ble_eq_true rfl)) dX12_delayTo_26 ⟨Nat.zero_le _, Nat.zero_le _⟩ (fun q19 S20 H locs hq G => ?_)
      obtain ⟨hq1, hq2⟩ := hq
      rw [hq2] at G
      refine lv_to hq1 ?_
      clear hq1 hq2 eS18
      refine lv_goto (tgt := 37) hx hb dX12_delayTo_29 (by decide) ?_
      have hl := lv_sub hl [] rfl
      exact tr_delayTo_b37 E hA hR hml (fun H locs ls G => W.iret (v := r1) hx hb hr (fun t ht hW => ⟨⟨r1, S1, rfl, ⟨rfl, rfl⟩, ⟨by rw [ht]; exact G.1, va_K.moved hW.alike hK, G.2.1⟩⟩, G.2.2.F ht⟩) G.2.2.2.2 dX12_delayTo_13) (fun H locs ls G => W.iret (v := r1) hx hb hr (fun t ht hW => ⟨⟨r1, S1, rfl, ⟨rfl, rfl⟩, ⟨by rw [ht]; exact G.1, va_K.moved hW.alike hK, G.2.1⟩⟩, G.2.2.F ht⟩) G.2.2.2.2 dX12_delayTo_37) _ _ _ _ _ h G hl
  · have h := oif_pos c10 h
    refine lv_iconst (v := 0) hx hb dX12_delayTo_12 (by decide) ?_
    exact W.iret (v := 0) hx hb hr (fun t ht hW => ⟨⟨0, S6, rfl, osome2 h, ⟨by rw [ht]; exact G.1, va_K.moved hW.alike hK, G.2.1⟩⟩, G.2.2.F ht⟩) G.2.2.2.2 dX12_delayTo_13
def fr_activeCount_b32 (k4 : MS → Int32 → Int32 → Option (Int32 × MS)) (S : MS) (s0 : Int32) (s1 : Int32) (l2 : Int32) : Option (Int32 × MS) := elet (s1 + s0) fun v2 => elet (l2 + Int32.ofInt (1)) fun v3 => k4 S v2 v3
set_option maxHeartbeats 4000000 in
set_option maxRecDepth 100000 in
theorem tr_activeCount_b32 {p : Program} {l : Launch} {e : Env} {s : State} {m : MethodId} {args : Array Value} {below : List Frame} {meth : Method} {c : Code} {Q : State → Prop} {D : va_G} {A : Nat → Prop} {H0 : Heap} {cI cJ cZ : ClassId} {ad : Nat → Nat} {r1 : Int32} {S1 : MS} (E : mE p c cX12_activeCount s m args (Cond.code yX12_activeCount cX12_activeCount 3 (some .int) :: wsM) D cI cJ cZ) (hA : ∀ q : Nat, H0.size ≤ q → A q) (hR : sR s) (hml : c.maxLocals = 3) (kr41 : ∀ (H : Heap) (locs : List Loc) (ls : Array Slot), mG D cI cJ cZ ad A H0 H locs S1 → W p l e { frames := 2, cells := 0, slots := 0, locals := 22 } s m args below meth c H locs 0 0 Q (F0 m 41 ls [.int r1])) {k4 : MS → Int32 → Int32 → Option (Int32 × MS)} (hk4 : ∀ (S : MS) (H : Heap) (locs : List Loc) (ls : Array Slot) (l1 : Int32) (l2 : Int32), k4 S l1 l2 = some (r1, S1) → mG D cI cJ cZ ad A H0 H locs S → lv_has ls 3 [(0, .ref (ad 0)), (1, .int l1), (2, .int l2)] → W p l e { frames := 2, cells := 0, slots := 0, locals := 22 } s m args below meth c H locs 0 0 Q (F0 m 4 ls [])) : ∀ (S : MS) (H : Heap) (locs : List Loc) (ls : Array Slot) (s0 : Int32) (s1 : Int32) (l2 : Int32), fr_activeCount_b32 k4 S s0 s1 l2 = some (r1, S1) → mG D cI cJ cZ ad A H0 H locs S → lv_has ls 3 [(0, .ref (ad 0)), (2, .int l2)] → W p l e { frames := 2, cells := 0, slots := 0, locals := 22 } s m args below meth c H locs 0 0 Q (F0 m 32 ls [.int s0, .int s1]) := by
  have hx := E.1
  have hb := E.2.1
  have hts := E.2.2.1
  have hown := E.2.2.2.1
  have hK := E.2.2.2.2.1
  intro S H locs ls s0 s1 l2 h G hl
  unfold fr_activeCount_b32 at h
  refine lv_iadd hx hb dX12_activeCount_32 ?_
  refine lv_topi (fun v2 ev2 => ?_)
  have h := elet_at ev2 h
  clear ev2
  refine lv_istore_n (lv' := [(1, .int v2), (0, .ref (ad 0)), (2, .int l2)]) hx hb dX12_activeCount_33 rfl hl (by decide) rfl (fun ls hl => ?_)
  obtain ⟨v3, ev3, h⟩ := elet_some h
  refine lv_iinc (v := v3) (lv' := [(2, .int v3), (1, .int v2), (0, .ref (ad 0))]) hx hb dX12_activeCount_34 hl (k := 2) rfl ev3.symm (by decide) rfl (fun ls hl => ?_)
  refine lv_goto (tgt := 4) hx hb dX12_activeCount_37 (by decide) ?_
  have hl := lv_sub hl [2, 1, 0] rfl
  exact hk4 _ _ _ _ _ _ h G hl
def fr_activeCount_b4  : Nat → MS → Int32 → Int32 → Option (Int32 × MS)
  | 0, _, _, _ => none
  | n + 1, S, l1, l2 => elet (S.2.1 10 4) fun v2 => if v2 ≤ l2 then (some (l1, S)) else (obind2 (fr_hears_12 S l2) fun r7 S4 => if r7 = 0 then (fr_activeCount_b32 (fr_activeCount_b4 n) S4 0 l1 l2) else (fr_activeCount_b32 (fr_activeCount_b4 n) S4 1 l1 l2))
set_option maxHeartbeats 4000000 in
set_option maxRecDepth 100000 in
theorem tr_activeCount_b4 {p : Program} {l : Launch} {e : Env} {s : State} {m : MethodId} {args : Array Value} {below : List Frame} {meth : Method} {c : Code} {Q : State → Prop} {D : va_G} {A : Nat → Prop} {H0 : Heap} {cI cJ cZ : ClassId} {ad : Nat → Nat} {r1 : Int32} {S1 : MS} (E : mE p c cX12_activeCount s m args (Cond.code yX12_activeCount cX12_activeCount 3 (some .int) :: wsM) D cI cJ cZ) (hA : ∀ q : Nat, H0.size ≤ q → A q) (hR : sR s) (hml : c.maxLocals = 3) (kr41 : ∀ (H : Heap) (locs : List Loc) (ls : Array Slot), mG D cI cJ cZ ad A H0 H locs S1 → W p l e { frames := 2, cells := 0, slots := 0, locals := 22 } s m args below meth c H locs 0 0 Q (F0 m 41 ls [.int r1])) : ∀ n : Nat, ∀ (S : MS) (H : Heap) (locs : List Loc) (ls : Array Slot) (l1 : Int32) (l2 : Int32), fr_activeCount_b4 n S l1 l2 = some (r1, S1) → mG D cI cJ cZ ad A H0 H locs S → lv_has ls 3 [(0, .ref (ad 0)), (1, .int l1), (2, .int l2)] → W p l e { frames := 2, cells := 0, slots := 0, locals := 22 } s m args below meth c H locs 0 0 Q (F0 m 4 ls []) := by
  have hx := E.1
  have hb := E.2.1
  have hts := E.2.2.1
  have hown := E.2.2.2.1
  have hK := E.2.2.2.2.1
  intro n
  induction n with
  | zero =>
    intro S H locs ls l1 l2 h
    have h : (none : Option (Int32 × MS)) = some (r1, S1) := h
    cases h
  | succ n ih =>
    intro S H locs ls l1 l2 h G hl
    unfold fr_activeCount_b4 at h
    refine lv_iload_n hx hb dX12_activeCount_4 rfl (lv_at hl 2 rfl) ?_
    refine lv_aload_n hx hb dX12_activeCount_5 rfl (lv_at hl 0 rfl) ?_
    refine m_get E G 10 (v := .ref (ad 10)) (by decide) (.tail _ qM_7) rfl dX12_activeCount_6 rfl ?_
    refine lv_iconst (v := 4) hx hb dX12_activeCount_9 (by decide) ?_
    refine m_iald E G 10 2 (n := 131) (k := 4) rfl rfl (by decide) (by decide) dX12_activeCount_10 ?_
    refine lv_topi (fun v2 ev2 => ?_)
    have h := elet_at ev2 h
    clear ev2
    refine lv_icmp_ge (tgt := 40) hx hb dX12_activeCount_11 (by decide) (fun c3 => ?_) (fun c3 => ?_)
    · have h := oif_pos c3 h
      refine lv_iload_n hx hb dX12_activeCount_40 rfl (lv_at hl 1 rfl) ?_
      rw [(osome2 h).2] at G
      refine lv_to (osome2 h).1 ?_
      exact kr41 _ _ _ G
    · have h := oif_neg c3 h
      refine lv_iload_n hx hb dX12_activeCount_14 rfl (lv_at hl 1 rfl) ?_
      refine lv_aload_n hx hb dX12_activeCount_15 rfl (lv_at hl 0 rfl) ?_
      refine lv_aload_n hx hb dX12_activeCount_16 rfl (lv_at hl 0 rfl) ?_
      refine m_get E G 12 (v := .ref (ad 12)) (by decide) (.tail _ qM_9) rfl dX12_activeCount_17 rfl ?_
      refine lv_iload_n hx hb dX12_activeCount_20 rfl (lv_at hl 2 rfl) ?_
      obtain ⟨r7, S4, eS4, h⟩ := obind2_some h
      refine m_calli (As := [.ref (ad 12), .int l2]) (rest := [.int l1]) E G hA hR hml (tr_hears_12 l D cI cJ cZ ad S l2 eS4) (cwV 2 hts (gmV qM_274 qM_275 qM_276 qM_35 qM_272) rfl rfl rfl (by decide +kernel) ⟨Nat.le_of_ble_eq_true rfl, Nat.le_of_ble_eq_true rfl⟩) rfl hl.1 rfl (lv_room (Nat.le_of_ble_eq_true rfl)) dX12_activeCount_21 ⟨Nat.zero_le _, Nat.zero_le _⟩ (fun q5 S6 H locs hq G => ?_)
      obtain ⟨hq1, hq2⟩ := hq
      rw [hq2] at G
      refine lv_to hq1 ?_
      clear hq1 hq2 eS4
      refine lv_if_eq (tgt := 31) hx hb dX12_activeCount_24 (by decide) (fun c8 => ?_) (fun c8 => ?_)
      · have h := oif_pos c8 h
        refine lv_iconst (v := 0) hx hb dX12_activeCount_31 (by decide) ?_
        have hl := lv_sub hl [0, 2] rfl
        exact tr_activeCount_b32 E hA hR hml kr41 ih _ _ _ _ _ _ _ h G hl
      · have h := oif_neg c8 h
        refine lv_iconst (v := 1) hx hb dX12_activeCount_27 (by decide) ?_
        refine lv_goto (tgt := 32) hx hb dX12_activeCount_28 (by decide) ?_
        have hl := lv_sub hl [0, 2] rfl
        exact tr_activeCount_b32 E hA hR hml kr41 ih _ _ _ _ _ _ _ h G hl
def fr_activeCount (S : MS)  : Option (Int32 × MS) := fr_activeCount_b4 16384 S 0 0
set_option maxHeartbeats 4000000 in
set_option maxRecDepth 100000 in
theorem tr_activeCount (l : Launch) (D : va_G) (cI cJ cZ : ClassId) (ad : Nat → Nat) (S : MS)  {r1 : Int32} {S1 : MS} (h : fr_activeCount S = some (r1, S1)) : mCi l yX12_activeCount (Cond.code yX12_activeCount cX12_activeCount 3 (some .int) :: wsM) 2 22 D cI cJ cZ ad S [] (fun r S9 => r = r1 ∧ S9 = S1) := by
  intro sz
  refine Met.ofW (cc := cX12_activeCount) (maxL := 3) (ret := (some .int)) (by decide) rfl ?_
  intro p e s m args below meth c s₁ B hml hv
  obtain ⟨rfl, hsz, hP, hK, hD0, hR⟩ := hv
  have hx := B.exec
  have hb := B.bytes
  have hr := B.returns
  have hts := atoms_spec (ws := (Cond.code yX12_activeCount cX12_activeCount 3 (some .int) :: wsM)) B.pre
  have hown : s.vm.findClass RX12 = some m.cls := findClass_of_methodNamed B.named
  have hlocks := B.notSynchronized
  subst hsz
  have hD := hD0.self (sz := s.heap.size)
  generalize hAe : va_A (MW cI cJ cZ ad S) s.heap.size = A at hD ⊢
  have hA : ∀ q : Nat, s.heap.size ≤ q → A q := fun q h => by rw [← hAe]; exact Or.inr h
  have G : mG D cI cJ cZ ad A s.heap s.heap [] S := ⟨hP, hD, va_S.rf⟩
  have E : mE p c cX12_activeCount s m ([.ref (ad 0)] : List Value).toArray (Cond.code yX12_activeCount cX12_activeCount 3 (some .int) :: wsM) D cI cJ cZ := ⟨hx, hb, hts, hown, hK, fun w h => .tail _ (iM_x h)⟩
  have hl := lv_entry ([.ref (ad 0)]) (n := 3) (Nat.le_of_ble_eq_true rfl)
  rw [lg_entry_eq]
  generalize (lg_sl ([.ref (ad 0)]) ++ List.replicate (3 - (lg_sl ([.ref (ad 0)])).length) Slot.unset).toArray = ls at hl ⊢
  have hl : lv_has ls 3 [(0, .ref (ad 0))] := hl
  unfold fr_activeCount at h
  refine lv_iconst (v := 0) hx hb dX12_activeCount_0 (by decide) ?_
  refine lv_istore_n (lv' := [(1, .int 0), (0, .ref (ad 0))]) hx hb dX12_activeCount_1 rfl hl (by decide) rfl (fun ls hl => ?_)
  refine lv_iconst (v := 0) hx hb dX12_activeCount_2 (by decide) ?_
  refine lv_istore_n (lv' := [(2, .int 0), (1, .int 0), (0, .ref (ad 0))]) hx hb dX12_activeCount_3 rfl hl (by decide) rfl (fun ls hl => ?_)
  have hl := lv_sub hl [2, 1, 0] rfl
  exact tr_activeCount_b4 E hA hR hml (fun H locs ls G => W.iret (v := r1) hx hb hr (fun t ht hW => ⟨⟨r1, S1, rfl, ⟨rfl, rfl⟩, ⟨by rw [ht]; exact G.1, va_K.moved hW.alike hK, G.2.1⟩⟩, G.2.2.F ht⟩) G.2.2.2.2 dX12_activeCount_41) _ _ _ _ _ _ _ h G hl
def fr_spread_b19  (S : MS)  : Option (Int32 × MS) := some (0, S)
set_option maxHeartbeats 4000000 in
set_option maxRecDepth 100000 in
theorem tr_spread_b19 {p : Program} {l : Launch} {e : Env} {s : State} {m : MethodId} {args : Array Value} {below : List Frame} {meth : Method} {c : Code} {Q : State → Prop} {D : va_G} {A : Nat → Prop} {H0 : Heap} {cI cJ cZ : ClassId} {ad : Nat → Nat} {r1 : Int32} {S1 : MS} (E : mE p c cX12_spread s m args (Cond.code yX12_spread cX12_spread 5 (some .int) :: wsM) D cI cJ cZ) (hA : ∀ q : Nat, H0.size ≤ q → A q) (hR : sR s) (hml : c.maxLocals = 5) (kr20 : ∀ (H : Heap) (locs : List Loc) (ls : Array Slot), mG D cI cJ cZ ad A H0 H locs S1 → W p l e { frames := 3, cells := 0, slots := 0, locals := 44 } s m args below meth c H locs 0 0 Q (F0 m 20 ls [.int r1])) (kr100 : ∀ (H : Heap) (locs : List Loc) (ls : Array Slot), mG D cI cJ cZ ad A H0 H locs S1 → W p l e { frames := 3, cells := 0, slots := 0, locals := 44 } s m args below meth c H locs 0 0 Q (F0 m 100 ls [.int r1])) : ∀ (S : MS) (H : Heap) (locs : List Loc) (ls : Array Slot), fr_spread_b19 S = some (r1, S1) → mG D cI cJ cZ ad A H0 H locs S → lv_has ls 5 [] → W p l e { frames := 3, cells := 0, slots := 0, locals := 44 } s m args below meth c H locs 0 0 Q (F0 m 19 ls []) := by
  have hx := E.1
  have hb := E.2.1
  have hts := E.2.2.1
  have hown := E.2.2.2.1
  have hK := E.2.2.2.2.1
  intro S H locs ls h G hl
  unfold fr_spread_b19 at h
  refine lv_iconst (v := 0) hx hb dX12_spread_19 (by decide) ?_
  rw [(osome2 h).2] at G
  refine lv_to (osome2 h).1 ?_
  exact kr20 _ _ _ G
def fr_spread_b91 (k30 : MS → Int32 → Int32 → Int32 → Int32 → Option (Int32 × MS)) (S : MS) (l1 : Int32) (l2 : Int32) (l3 : Int32) (l4 : Int32) : Option (Int32 × MS) := elet (l4 + Int32.ofInt (1)) fun v2 => k30 S l1 l2 l3 v2
set_option maxHeartbeats 4000000 in
set_option maxRecDepth 100000 in
theorem tr_spread_b91 {p : Program} {l : Launch} {e : Env} {s : State} {m : MethodId} {args : Array Value} {below : List Frame} {meth : Method} {c : Code} {Q : State → Prop} {D : va_G} {A : Nat → Prop} {H0 : Heap} {cI cJ cZ : ClassId} {ad : Nat → Nat} {r1 : Int32} {S1 : MS} (E : mE p c cX12_spread s m args (Cond.code yX12_spread cX12_spread 5 (some .int) :: wsM) D cI cJ cZ) (hA : ∀ q : Nat, H0.size ≤ q → A q) (hR : sR s) (hml : c.maxLocals = 5) (kr20 : ∀ (H : Heap) (locs : List Loc) (ls : Array Slot), mG D cI cJ cZ ad A H0 H locs S1 → W p l e { frames := 3, cells := 0, slots := 0, locals := 44 } s m args below meth c H locs 0 0 Q (F0 m 20 ls [.int r1])) (kr100 : ∀ (H : Heap) (locs : List Loc) (ls : Array Slot), mG D cI cJ cZ ad A H0 H locs S1 → W p l e { frames := 3, cells := 0, slots := 0, locals := 44 } s m args below meth c H locs 0 0 Q (F0 m 100 ls [.int r1])) {k30 : MS → Int32 → Int32 → Int32 → Int32 → Option (Int32 × MS)} (hk30 : ∀ (S : MS) (H : Heap) (locs : List Loc) (ls : Array Slot) (l1 : Int32) (l2 : Int32) (l3 : Int32) (l4 : Int32), k30 S l1 l2 l3 l4 = some (r1, S1) → mG D cI cJ cZ ad A H0 H locs S → lv_has ls 5 [(0, .ref (ad 0)), (1, .int l1), (2, .int l2), (3, .int l3), (4, .int l4)] → W p l e { frames := 3, cells := 0, slots := 0, locals := 44 } s m args below meth c H locs 0 0 Q (F0 m 30 ls [])) : ∀ (S : MS) (H : Heap) (locs : List Loc) (ls : Array Slot) (l1 : Int32) (l2 : Int32) (l3 : Int32) (l4 : Int32), fr_spread_b91 k30 S l1 l2 l3 l4 = some (r1, S1) → mG D cI cJ cZ ad A H0 H locs S → lv_has ls 5 [(0, .ref (ad 0)), (1, .int l1), (2, .int l2), (3, .int l3), (4, .int l4)] → W p l e { frames := 3, cells := 0, slots := 0, locals := 44 } s m args below meth c H locs 0 0 Q (F0 m 91 ls []) := by
  have hx := E.1
  have hb := E.2.1
  have hts := E.2.2.1
  have hown := E.2.2.2.1
  have hK := E.2.2.2.2.1
  intro S H locs ls l1 l2 l3 l4 h G hl
  unfold fr_spread_b91 at h
  obtain ⟨v2, ev2, h⟩ := elet_some h
  refine lv_iinc (v := v2) (lv' := [(4, .int v2), (0, .ref (ad 0)), (1, .int l1), (2, .int l2), (3, .int l3)]) hx hb dX12_spread_91 hl (k := 4) rfl ev2.symm (by decide) rfl (fun ls hl => ?_)
  refine lv_goto (tgt := 30) hx hb dX12_spread_94 (by decide) ?_
  have hl := lv_sub hl [1, 2, 3, 4, 0] rfl
  exact hk30 _ _ _ _ _ _ _ _ h G hl
def fr_spread_b30  : Nat → MS → Int32 → Int32 → Int32 → Int32 → Option (Int32 × MS)
  | 0, _, _, _, _, _ => none
  | n + 1, S, l1, l2, l3, l4 => elet (S.2.1 10 4) fun v2 => if v2 ≤ l4 then (elet (l3 - l2) fun v4 => some (v4, S)) else (obind2 (fr_hears_12 S l4) fun r8 S5 => if r8 = 0 then (fr_spread_b91 (fr_spread_b30 n) S5 l1 l2 l3 l4) else (elet (12 * l1) fun v10 => elet (v10 + l4) fun v11 => oif (inb v11 1728 = true) <| elet (S5.2.1 17 v11.toNatClampNeg) fun v13 => elet (if v13 < l2 then v13 else l2) fun v14 => elet (12 * l1) fun v15 => elet (v15 + l4) fun v16 => oif (inb v16 1728 = true) <| elet (S5.2.1 17 v16.toNatClampNeg) fun v18 => elet (if l3 < v18 then v18 else l3) fun v19 => fr_spread_b91 (fr_spread_b30 n) S5 l1 v14 v19 l4))
set_option maxHeartbeats 4000000 in
set_option maxRecDepth 100000 in
theorem tr_spread_b30 {p : Program} {l : Launch} {e : Env} {s : State} {m : MethodId} {args : Array Value} {below : List Frame} {meth : Method} {c : Code} {Q : State → Prop} {D : va_G} {A : Nat → Prop} {H0 : Heap} {cI cJ cZ : ClassId} {ad : Nat → Nat} {r1 : Int32} {S1 : MS} (E : mE p c cX12_spread s m args (Cond.code yX12_spread cX12_spread 5 (some .int) :: wsM) D cI cJ cZ) (hA : ∀ q : Nat, H0.size ≤ q → A q) (hR : sR s) (hml : c.maxLocals = 5) (kr20 : ∀ (H : Heap) (locs : List Loc) (ls : Array Slot), mG D cI cJ cZ ad A H0 H locs S1 → W p l e { frames := 3, cells := 0, slots := 0, locals := 44 } s m args below meth c H locs 0 0 Q (F0 m 20 ls [.int r1])) (kr100 : ∀ (H : Heap) (locs : List Loc) (ls : Array Slot), mG D cI cJ cZ ad A H0 H locs S1 → W p l e { frames := 3, cells := 0, slots := 0, locals := 44 } s m args below meth c H locs 0 0 Q (F0 m 100 ls [.int r1])) : ∀ n : Nat, ∀ (S : MS) (H : Heap) (locs : List Loc) (ls : Array Slot) (l1 : Int32) (l2 : Int32) (l3 : Int32) (l4 : Int32), fr_spread_b30 n S l1 l2 l3 l4 = some (r1, S1) → mG D cI cJ cZ ad A H0 H locs S → lv_has ls 5 [(0, .ref (ad 0)), (1, .int l1), (2, .int l2), (3, .int l3), (4, .int l4)] → W p l e { frames := 3, cells := 0, slots := 0, locals := 44 } s m args below meth c H locs 0 0 Q (F0 m 30 ls []) := by
  have hx := E.1
  have hb := E.2.1
  have hts := E.2.2.1
  have hown := E.2.2.2.1
  have hK := E.2.2.2.2.1
  intro n
  induction n with
  | zero =>
    intro S H locs ls l1 l2 l3 l4 h
    have h : (none : Option (Int32 × MS)) = some (r1, S1) := h
    cases h
  | succ n ih =>
    intro S H locs ls l1 l2 l3 l4 h G hl
    unfold fr_spread_b30 at h
    refine lv_iload hx hb dX12_spread_30 (lv_at hl 4 rfl) ?_
    refine lv_aload_n hx hb dX12_spread_32 rfl (lv_at hl 0 rfl) ?_
    refine m_get E G 10 (v := .ref (ad 10)) (by decide) (.tail _ qM_7) rfl dX12_spread_33 rfl ?_
    refine lv_iconst (v := 4) hx hb dX12_spread_36 (by decide) ?_
    refine m_iald E G 10 2 (n := 131) (k := 4) rfl rfl (by decide) (by decide) dX12_spread_37 ?_
    refine lv_topi (fun v2 ev2 => ?_)
    have h := elet_at ev2 h
    clear ev2
    refine lv_icmp_ge (tgt := 97) hx hb dX12_spread_38 (by decide) (fun c3 => ?_) (fun c3 => ?_)
    · have h := oif_pos c3 h
      refine lv_iload_n hx hb dX12_spread_97 rfl (lv_at hl 3 rfl) ?_
      refine lv_iload_n hx hb dX12_spread_98 rfl (lv_at hl 2 rfl) ?_
      refine lv_isub hx hb dX12_spread_99 ?_
      refine lv_topi (fun v4 ev4 => ?_)
      have h := elet_at ev4 h
      clear ev4
      rw [(osome2 h).2] at G
      refine lv_to (osome2 h).1 ?_
      exact kr100 _ _ _ G
    · have h := oif_neg c3 h
      refine lv_aload_n hx hb dX12_spread_41 rfl (lv_at hl 0 rfl) ?_
      refine lv_aload_n hx hb dX12_spread_42 rfl (lv_at hl 0 rfl) ?_
      refine m_get E G 12 (v := .ref (ad 12)) (by decide) (.tail _ qM_9) rfl dX12_spread_43 rfl ?_
      refine lv_iload hx hb dX12_spread_46 (lv_at hl 4 rfl) ?_
      obtain ⟨r8, S5, eS5, h⟩ := obind2_some h
      refine m_calli (As := [.ref (ad 12), .int l4]) (rest := []) E G hA hR hml (tr_hears_12 l D cI cJ cZ ad S l4 eS5) (cwV 2 hts (gmV qM_274 qM_275 qM_276 qM_35 qM_272) rfl rfl rfl (by decide +kernel) ⟨Nat.le_of_ble_eq_true rfl, Nat.le_of_ble_eq_true rfl⟩) rfl hl.1 rfl (lv_room (Nat.le_of_ble_eq_true rfl)) dX12_spread_48 ⟨Nat.zero_le _, Nat.zero_le _⟩ (fun q6 S7 H locs hq G => ?_)
      obtain ⟨hq1, hq2⟩ := hq
      rw [hq2] at G
      refine lv_to hq1 ?_
      clear hq1 hq2 eS5
      refine lv_if_ne (tgt := 57) hx hb dX12_spread_51 (by decide) (fun c9 => ?_) (fun c9 => ?_)
      · have h := oif_neg c9 h
        refine lv_iload_n hx hb dX12_spread_57 rfl (lv_at hl 2 rfl) ?_
        refine lv_aload_n hx hb dX12_spread_58 rfl (lv_at hl 0 rfl) ?_
        refine m_get E G 17 (v := .ref (ad 17)) (by decide) (.tail _ qM_14) rfl dX12_spread_59 rfl ?_
        refine lv_bipush (v := 12) hx hb dX12_spread_62 (by decide) ?_
        refine lv_iload_n hx hb dX12_spread_64 rfl (lv_at hl 1 rfl) ?_
        refine lv_imul hx hb dX12_spread_65 ?_
        refine lv_topi (fun v10 ev10 => ?_)
        have h := elet_at ev10 h
        clear ev10
        refine lv_iload hx hb dX12_spread_66 (lv_at hl 4 rfl) ?_
        refine lv_iadd hx hb dX12_spread_68 ?_
        refine lv_topi (fun v11 ev11 => ?_)
        have h := elet_at ev11 h
        clear ev11
        obtain ⟨g12, h⟩ := oif_some h
        refine m_iald E G 17 9 (n := 1728) (k := v11.toNatClampNeg) rfl (inb_k g12).1 (inb_k g12).2 (by decide) dX12_spread_69 ?_
        refine lv_topi (fun v13 ev13 => ?_)
        have h := elet_at ev13 h
        clear ev13
        refine va_mmin hx hb (hml.trans hl.1.symm) hown (hts _ (.tail _ qM_262)) (hts _ (.tail _ qM_263)) (hts _ (.tail _ qM_247)) (hts _ (.tail _ qM_264)) (Nat.le_of_ble_eq_true rfl) (Nat.le_of_ble_eq_true rfl) (Nat.zero_le _) (Nat.zero_le _) dX12_spread_70 ?_
        refine lv_topi (fun v14 ev14 => ?_)
        have h := elet_at ev14 h
        clear ev14
        refine lv_istore_n (lv' := [(2, .int v14), (0, .ref (ad 0)), (1, .int l1), (3, .int l3), (4, .int l4)]) hx hb dX12_spread_73 rfl hl (by decide) rfl (fun ls hl => ?_)
        refine lv_iload_n hx hb dX12_spread_74 rfl (lv_at hl 3 rfl) ?_
        refine lv_aload_n hx hb dX12_spread_75 rfl (lv_at hl 1 rfl) ?_
        refine m_get E G 17 (v := .ref (ad 17)) (by decide) (.tail _ qM_14) rfl dX12_spread_76 rfl ?_
        refine lv_bipush (v := 12) hx hb dX12_spread_79 (by decide) ?_
        refine lv_iload_n hx hb dX12_spread_81 rfl (lv_at hl 2 rfl) ?_
        refine lv_imul hx hb dX12_spread_82 ?_
        refine lv_topi (fun v15 ev15 => ?_)
        have h := elet_at ev15 h
        clear ev15
        refine lv_iload hx hb dX12_spread_83 (lv_at hl 4 rfl) ?_
        refine lv_iadd hx hb dX12_spread_85 ?_
        refine lv_topi (fun v16 ev16 => ?_)
        have h := elet_at ev16 h
        clear ev16
        obtain ⟨g17, h⟩ := oif_some h
        refine m_iald E G 17 9 (n := 1728) (k := v16.toNatClampNeg) rfl (inb_k g17).1 (inb_k g17).2 (by decide) dX12_spread_86 ?_
        refine lv_topi (fun v18 ev18 => ?_)
        have h := elet_at ev18 h
        clear ev18
        refine va_mmax hx hb (hml.trans hl.1.symm) hown (hts _ (.tail _ qM_265)) (hts _ (.tail _ qM_266)) (hts _ (.tail _ qM_247)) (hts _ (.tail _ qM_267)) (Nat.le_of_ble_eq_true rfl) (Nat.le_of_ble_eq_true rfl) (Nat.zero_le _) (Nat.zero_le _) dX12_spread_87 ?_
        refine lv_topi (fun v19 ev19 => ?_)
        have h := elet_at ev19 h
        clear ev19
        refine lv_istore_n (lv' := [(3, .int v19), (2, .int v14), (0, .ref (ad 0)), (1, .int l1), (4, .int l4)]) hx hb dX12_spread_90 rfl hl (by decide) rfl (fun ls hl => ?_)
        have hl := lv_sub hl [2, 3, 1, 0, 4] rfl
        exact tr_spread_b91 E hA hR hml kr20 kr100 ih _ _ _ _ _ _ _ _ h G hl
      · have h := oif_pos c9 h
        refine lv_goto (tgt := 91) hx hb dX12_spread_54 (by decide) ?_
        have hl := lv_sub hl [0, 1, 2, 3, 4] rfl
        exact tr_spread_b91 E hA hR hml kr20 kr100 ih _ _ _ _ _ _ _ _ h G hl
def fr_spread (S : MS) (a0 : Int32) : Option (Int32 × MS) := obind2 (fr_isCell S a0) fun r5 S2 => obind2 (fr_mayAsk S2 r5) fun r9 S6 => if r9 = 0 then (fr_spread_b19 S6) else (obind2 (fr_activeCount S6) fun r14 S11 => if r14 = 0 then (fr_spread_b19 S11) else (fr_spread_b30 16384 S11 a0 2147483647 0 0))
set_option maxHeartbeats 4000000 in
set_option maxRecDepth 100000 in
theorem tr_spread (l : Launch) (D : va_G) (cI cJ cZ : ClassId) (ad : Nat → Nat) (S : MS) (a0 : Int32) {r1 : Int32} {S1 : MS} (h : fr_spread S a0 = some (r1, S1)) : mCi l yX12_spread (Cond.code yX12_spread cX12_spread 5 (some .int) :: wsM) 3 44 D cI cJ cZ ad S [.int a0] (fun r S9 => r = r1 ∧ S9 = S1) := by
  intro sz
  refine Met.ofW (cc := cX12_spread) (maxL := 5) (ret := (some .int)) (by decide) rfl ?_
  intro p e s m args below meth c s₁ B hml hv
  obtain ⟨rfl, hsz, hP, hK, hD0, hR⟩ := hv
  have hx := B.exec
  have hb := B.bytes
  have hr := B.returns
  have hts := atoms_spec (ws := (Cond.code yX12_spread cX12_spread 5 (some .int) :: wsM)) B.pre
  have hown : s.vm.findClass RX12 = some m.cls := findClass_of_methodNamed B.named
  have hlocks := B.notSynchronized
  subst hsz
  have hD := hD0.self (sz := s.heap.size)
  generalize hAe : va_A (MW cI cJ cZ ad S) s.heap.size = A at hD ⊢
  have hA : ∀ q : Nat, s.heap.size ≤ q → A q := fun q h => by rw [← hAe]; exact Or.inr h
  have G : mG D cI cJ cZ ad A s.heap s.heap [] S := ⟨hP, hD, va_S.rf⟩
  have E : mE p c cX12_spread s m ([.ref (ad 0), .int a0] : List Value).toArray (Cond.code yX12_spread cX12_spread 5 (some .int) :: wsM) D cI cJ cZ := ⟨hx, hb, hts, hown, hK, fun w h => .tail _ (iM_x h)⟩
  have hl := lv_entry ([.ref (ad 0), .int a0]) (n := 5) (Nat.le_of_ble_eq_true rfl)
  rw [lg_entry_eq]
  generalize (lg_sl ([.ref (ad 0), .int a0]) ++ List.replicate (5 - (lg_sl ([.ref (ad 0), .int a0])).length) Slot.unset).toArray = ls at hl ⊢
  have hl : lv_has ls 5 [(0, .ref (ad 0)), (1, .int a0)] := hl
  unfold fr_spread at h
  refine lv_aload_n hx hb dX12_spread_0 rfl (lv_at hl 0 rfl) ?_
  refine lv_aload_n hx hb dX12_spread_1 rfl (lv_at hl 0 rfl) ?_
  refine lv_iload_n hx hb dX12_spread_2 rfl (lv_at hl 1 rfl) ?_
  obtain ⟨r5, S2, eS2, h⟩ := obind2_some h
  refine m_calli (As := [.int a0]) (rest := [.ref (ad 0)]) E G hA hR hml (tr_isCell l D cI cJ cZ ad S a0 eS2) (cwV 1 hts (gmV qM_326 qM_327 qM_328 qM_35 qM_307) rfl rfl rfl (by decide +kernel) ⟨Nat.le_of_ble_eq_true rfl, Nat.le_of_ble_eq_true rfl⟩) rfl hl.1 rfl (lv_room (Nat.le_of_ble_eq_true rfl)) dX12_spread_3 ⟨Nat.zero_le _, Nat.zero_le _⟩ (fun q3 S4 H locs hq G => ?_)
  obtain ⟨hq1, hq2⟩ := hq
  rw [hq2] at G
  refine lv_to hq1 ?_
  clear hq1 hq2 eS2
  obtain ⟨r9, S6, eS6, h⟩ := obind2_some h
  refine m_calli (As := [.int r5]) (rest := []) E G hA hR hml (tr_mayAsk l D cI cJ cZ ad S2 r5 eS6) (cwV 1 hts (gmV qM_319 qM_320 qM_321 qM_35 qM_304) rfl rfl rfl (by decide +kernel) ⟨Nat.le_of_ble_eq_true rfl, Nat.le_of_ble_eq_true rfl⟩) rfl hl.1 rfl (lv_room (Nat.le_of_ble_eq_true rfl)) dX12_spread_6 ⟨Nat.zero_le _, Nat.zero_le _⟩ (fun q7 S8 H locs hq G => ?_)
  obtain ⟨hq1, hq2⟩ := hq
  rw [hq2] at G
  refine lv_to hq1 ?_
  clear hq1 hq2 eS6
  refine lv_if_eq (tgt := 19) hx hb dX12_spread_9 (by decide) (fun c10 => ?_) (fun c10 => ?_)
  · have h := oif_pos c10 h
    have hl := lv_sub hl [] rfl
    exact tr_spread_b19 E hA hR hml (fun H locs ls G => W.iret (v := r1) hx hb hr (fun t ht hW => ⟨⟨r1, S1, rfl, ⟨rfl, rfl⟩, ⟨by rw [ht]; exact G.1, va_K.moved hW.alike hK, G.2.1⟩⟩, G.2.2.F ht⟩) G.2.2.2.2 dX12_spread_20) (fun H locs ls G => W.iret (v := r1) hx hb hr (fun t ht hW => ⟨⟨r1, S1, rfl, ⟨rfl, rfl⟩, ⟨by rw [ht]; exact G.1, va_K.moved hW.alike hK, G.2.1⟩⟩, G.2.2.F ht⟩) G.2.2.2.2 dX12_spread_100) _ _ _ _ h G hl
  · have h := oif_neg c10 h
    refine lv_aload_n hx hb dX12_spread_12 rfl (lv_at hl 0 rfl) ?_
    obtain ⟨r14, S11, eS11, h⟩ := obind2_some h
    refine m_calli (As := []) (rest := []) E G hA hR hml (tr_activeCount l D cI cJ cZ ad S6 eS11) (cwV 0 hts (gmV qM_348 qM_349 qM_350 qM_35 qM_345) rfl rfl rfl (by decide +kernel) ⟨Nat.le_of_ble_eq_true rfl, Nat.le_of_ble_eq_true rfl⟩) rfl hl.1 rfl (lv_room (Nat.le_of_ble_eq_true rfl)) dX12_spread_13 ⟨Nat.zero_le _, Nat.zero_le _⟩ (fun q12 S13 H locs hq G => ?_)
    obtain ⟨hq1, hq2⟩ := hq
    rw [hq2] at G
    refine lv_to hq1 ?_
    clear hq1 hq2 eS11
    refine lv_if_ne (tgt := 21) hx hb dX12_spread_16 (by decide) (fun c15 => ?_) (fun c15 => ?_)
    · have h := oif_neg c15 h
      refine lv_ldcw (v := 2147483647) hx hb hown (hts (.constant RX12 362 (2147483647)) (.tail _ qM_347)) dX12_spread_21 ?_
      refine lv_istore_n (lv' := [(2, .int 2147483647), (0, .ref (ad 0)), (1, .int a0)]) hx hb dX12_spread_24 rfl hl (by decide) rfl (fun ls hl => ?_)
      refine lv_iconst (v := 0) hx hb dX12_spread_25 (by decide) ?_
      refine lv_istore_n (lv' := [(3, .int 0), (2, .int 2147483647), (0, .ref (ad 0)), (1, .int a0)]) hx hb dX12_spread_26 rfl hl (by decide) rfl (fun ls hl => ?_)
      refine lv_iconst (v := 0) hx hb dX12_spread_27 (by decide) ?_
      refine lv_istore (lv' := [(4, .int 0), (3, .int 0), (2, .int 2147483647), (0, .ref (ad 0)), (1, .int a0)]) hx hb dX12_spread_28 hl (by decide) rfl (fun ls hl => ?_)
      have hl := lv_sub hl [3, 4, 2, 1, 0] rfl
      exact tr_spread_b30 E hA hR hml (fun H locs ls G => W.iret (v := r1) hx hb hr (fun t ht hW => ⟨⟨r1, S1, rfl, ⟨rfl, rfl⟩, ⟨by rw [ht]; exact G.1, va_K.moved hW.alike hK, G.2.1⟩⟩, G.2.2.F ht⟩) G.2.2.2.2 dX12_spread_20) (fun H locs ls G => W.iret (v := r1) hx hb hr (fun t ht hW => ⟨⟨r1, S1, rfl, ⟨rfl, rfl⟩, ⟨by rw [ht]; exact G.1, va_K.moved hW.alike hK, G.2.1⟩⟩, G.2.2.F ht⟩) G.2.2.2.2 dX12_spread_100) _ _ _ _ _ _ _ _ _ h G hl
    · have h := oif_pos c15 h
      have hl := lv_sub hl [] rfl
      exact tr_spread_b19 E hA hR hml (fun H locs ls G => W.iret (v := r1) hx hb hr (fun t ht hW => ⟨⟨r1, S1, rfl, ⟨rfl, rfl⟩, ⟨by rw [ht]; exact G.1, va_K.moved hW.alike hK, G.2.1⟩⟩, G.2.2.F ht⟩) G.2.2.2.2 dX12_spread_20) (fun H locs ls G => W.iret (v := r1) hx hb hr (fun t ht hW => ⟨⟨r1, S1, rfl, ⟨rfl, rfl⟩, ⟨by rw [ht]; exact G.1, va_K.moved hW.alike hK, G.2.1⟩⟩, G.2.2.F ht⟩) G.2.2.2.2 dX12_spread_100) _ _ _ _ h G hl
def fr_windowOf_12_b37 (k4 : MS → Int32 → Int32 → Option (Int32 × MS)) (S : MS) (s0 : Int32) (l3 : Int32) : Option (Int32 × MS) := elet (l3 + Int32.ofInt (1)) fun v2 => k4 S s0 v2
set_option maxHeartbeats 4000000 in
set_option maxRecDepth 100000 in
theorem tr_windowOf_12_b37 {p : Program} {l : Launch} {e : Env} {s : State} {m : MethodId} {args : Array Value} {below : List Frame} {meth : Method} {c : Code} {Q : State → Prop} {D : va_G} {A : Nat → Prop} {H0 : Heap} {cI cJ cZ : ClassId} {ad : Nat → Nat} {r1 : Int32} {S1 : MS} (E : mE p c cX12_windowOf s m args (Cond.code yX12_windowOf cX12_windowOf 4 (some .int) :: wsM) D cI cJ cZ) (hA : ∀ q : Nat, H0.size ≤ q → A q) (hR : sR s) (hml : c.maxLocals = 4) (kr56 : ∀ (H : Heap) (locs : List Loc) (ls : Array Slot), mG D cI cJ cZ ad A H0 H locs S1 → W p l e { frames := 2, cells := 0, slots := 0, locals := 22 } s m args below meth c H locs 0 0 Q (F0 m 56 ls [.int r1])) {k4 : MS → Int32 → Int32 → Option (Int32 × MS)} (hk4 : ∀ (S : MS) (H : Heap) (locs : List Loc) (ls : Array Slot) (l2 : Int32) (l3 : Int32), k4 S l2 l3 = some (r1, S1) → mG D cI cJ cZ ad A H0 H locs S → lv_has ls 4 [(0, .ref (ad 0)), (1, .ref (ad 12)), (2, .int l2), (3, .int l3)] → W p l e { frames := 2, cells := 0, slots := 0, locals := 22 } s m args below meth c H locs 0 0 Q (F0 m 4 ls [])) : ∀ (S : MS) (H : Heap) (locs : List Loc) (ls : Array Slot) (s0 : Int32) (l3 : Int32), fr_windowOf_12_b37 k4 S s0 l3 = some (r1, S1) → mG D cI cJ cZ ad A H0 H locs S → lv_has ls 4 [(0, .ref (ad 0)), (1, .ref (ad 12)), (3, .int l3)] → W p l e { frames := 2, cells := 0, slots := 0, locals := 22 } s m args below meth c H locs 0 0 Q (F0 m 37 ls [.int s0]) := by
  have hx := E.1
  have hb := E.2.1
  have hts := E.2.2.1
  have hown := E.2.2.2.1
  have hK := E.2.2.2.2.1
  intro S H locs ls s0 l3 h G hl
  unfold fr_windowOf_12_b37 at h
  refine lv_istore_n (lv' := [(2, .int s0), (0, .ref (ad 0)), (1, .ref (ad 12)), (3, .int l3)]) hx hb dX12_windowOf_37 rfl hl (by decide) rfl (fun ls hl => ?_)
  obtain ⟨v2, ev2, h⟩ := elet_some h
  refine lv_iinc (v := v2) (lv' := [(3, .int v2), (2, .int s0), (0, .ref (ad 0)), (1, .ref (ad 12))]) hx hb dX12_windowOf_38 hl (k := 3) rfl ev2.symm (by decide) rfl (fun ls hl => ?_)
  refine lv_goto (tgt := 4) hx hb dX12_windowOf_41 (by decide) ?_
  have hl := lv_sub hl [2, 3, 1, 0] rfl
  exact hk4 _ _ _ _ _ _ h G hl
def fr_windowOf_12_b4  : Nat → MS → Int32 → Int32 → Option (Int32 × MS)
  | 0, _, _, _ => none
  | n + 1, S, l2, l3 => elet (S.2.1 10 4) fun v2 => if v2 ≤ l3 then (elet (S.2.1 10 2) fun v4 => elet (v4 - l2) fun v5 => elet (if 0 < v5 then v5 else 0) fun v6 => some (v6, S)) else (obind2 (fr_hears_12 S l3) fun r10 S7 => if r10 = 0 then (fr_windowOf_12_b37 (fr_windowOf_12_b4 n) S7 l2 l3) else (oif (inb l3 12 = true) <| elet (S7.2.1 24 l3.toNatClampNeg) fun v13 => elet (if l2 < v13 then v13 else l2) fun v14 => fr_windowOf_12_b37 (fr_windowOf_12_b4 n) S7 v14 l3))
set_option maxHeartbeats 4000000 in
set_option maxRecDepth 100000 in
theorem tr_windowOf_12_b4 {p : Program} {l : Launch} {e : Env} {s : State} {m : MethodId} {args : Array Value} {below : List Frame} {meth : Method} {c : Code} {Q : State → Prop} {D : va_G} {A : Nat → Prop} {H0 : Heap} {cI cJ cZ : ClassId} {ad : Nat → Nat} {r1 : Int32} {S1 : MS} (E : mE p c cX12_windowOf s m args (Cond.code yX12_windowOf cX12_windowOf 4 (some .int) :: wsM) D cI cJ cZ) (hA : ∀ q : Nat, H0.size ≤ q → A q) (hR : sR s) (hml : c.maxLocals = 4) (kr56 : ∀ (H : Heap) (locs : List Loc) (ls : Array Slot), mG D cI cJ cZ ad A H0 H locs S1 → W p l e { frames := 2, cells := 0, slots := 0, locals := 22 } s m args below meth c H locs 0 0 Q (F0 m 56 ls [.int r1])) : ∀ n : Nat, ∀ (S : MS) (H : Heap) (locs : List Loc) (ls : Array Slot) (l2 : Int32) (l3 : Int32), fr_windowOf_12_b4 n S l2 l3 = some (r1, S1) → mG D cI cJ cZ ad A H0 H locs S → lv_has ls 4 [(0, .ref (ad 0)), (1, .ref (ad 12)), (2, .int l2), (3, .int l3)] → W p l e { frames := 2, cells := 0, slots := 0, locals := 22 } s m args below meth c H locs 0 0 Q (F0 m 4 ls []) := by
  have hx := E.1
  have hb := E.2.1
  have hts := E.2.2.1
  have hown := E.2.2.2.1
  have hK := E.2.2.2.2.1
  intro n
  induction n with
  | zero =>
    intro S H locs ls l2 l3 h
    have h : (none : Option (Int32 × MS)) = some (r1, S1) := h
    cases h
  | succ n ih =>
    intro S H locs ls l2 l3 h G hl
    unfold fr_windowOf_12_b4 at h
    refine lv_iload_n hx hb dX12_windowOf_4 rfl (lv_at hl 3 rfl) ?_
    refine lv_aload_n hx hb dX12_windowOf_5 rfl (lv_at hl 0 rfl) ?_
    refine m_get E G 10 (v := .ref (ad 10)) (by decide) (.tail _ qM_7) rfl dX12_windowOf_6 rfl ?_
    refine lv_iconst (v := 4) hx hb dX12_windowOf_9 (by decide) ?_
    refine m_iald E G 10 2 (n := 131) (k := 4) rfl rfl (by decide) (by decide) dX12_windowOf_10 ?_
    refine lv_topi (fun v2 ev2 => ?_)
    have h := elet_at ev2 h
    clear ev2
    refine lv_icmp_ge (tgt := 44) hx hb dX12_windowOf_11 (by decide) (fun c3 => ?_) (fun c3 => ?_)
    · have h := oif_pos c3 h
      refine lv_iconst (v := 0) hx hb dX12_windowOf_44 (by decide) ?_
      refine lv_aload_n hx hb dX12_windowOf_45 rfl (lv_at hl 0 rfl) ?_
      refine m_get E G 10 (v := .ref (ad 10)) (by decide) (.tail _ qM_7) rfl dX12_windowOf_46 rfl ?_
      refine lv_iconst (v := 2) hx hb dX12_windowOf_49 (by decide) ?_
      refine m_iald E G 10 2 (n := 131) (k := 2) rfl rfl (by decide) (by decide) dX12_windowOf_50 ?_
      refine lv_topi (fun v4 ev4 => ?_)
      have h := elet_at ev4 h
      clear ev4
      refine lv_iload_n hx hb dX12_windowOf_51 rfl (lv_at hl 2 rfl) ?_
      refine lv_isub hx hb dX12_windowOf_52 ?_
      refine lv_topi (fun v5 ev5 => ?_)
      have h := elet_at ev5 h
      clear ev5
      refine va_mmax hx hb (hml.trans hl.1.symm) hown (hts _ (.tail _ qM_265)) (hts _ (.tail _ qM_266)) (hts _ (.tail _ qM_247)) (hts _ (.tail _ qM_267)) (Nat.le_of_ble_eq_true rfl) (Nat.le_of_ble_eq_true rfl) (Nat.zero_le _) (Nat.zero_le _) dX12_windowOf_53 ?_
      refine lv_topi (fun v6 ev6 => ?_)
      have h := elet_at ev6 h
      clear ev6
      rw [(osome2 h).2] at G
      refine lv_to (osome2 h).1 ?_
      exact kr56 _ _ _ G
    · have h := oif_neg c3 h
      refine lv_aload_n hx hb dX12_windowOf_14 rfl (lv_at hl 0 rfl) ?_
      refine lv_aload_n hx hb dX12_windowOf_15 rfl (lv_at hl 1 rfl) ?_
      refine lv_iload_n hx hb dX12_windowOf_16 rfl (lv_at hl 3 rfl) ?_
      obtain ⟨r10, S7, eS7, h⟩ := obind2_some h
      refine m_calli (As := [.ref (ad 12), .int l3]) (rest := []) E G hA hR hml (tr_hears_12 l D cI cJ cZ ad S l3 eS7) (cwV 2 hts (gmV qM_274 qM_275 qM_276 qM_35 qM_272) rfl rfl rfl (by decide +kernel) ⟨Nat.le_of_ble_eq_true rfl, Nat.le_of_ble_eq_true rfl⟩) rfl hl.1 rfl (lv_room (Nat.le_of_ble_eq_true rfl)) dX12_windowOf_17 ⟨Nat.zero_le _, Nat.zero_le _⟩ (fun q8 S9 H locs hq G => ?_)
      obtain ⟨hq1, hq2⟩ := hq
      rw [hq2] at G
      refine lv_to hq1 ?_
      clear hq1 hq2 eS7
      refine lv_if_eq (tgt := 36) hx hb dX12_windowOf_20 (by decide) (fun c11 => ?_) (fun c11 => ?_)
      · have h := oif_pos c11 h
        refine lv_iload_n hx hb dX12_windowOf_36 rfl (lv_at hl 2 rfl) ?_
        have hl := lv_sub hl [0, 1, 3] rfl
        exact tr_windowOf_12_b37 E hA hR hml kr56 ih _ _ _ _ _ _ h G hl
      · have h := oif_neg c11 h
        refine lv_iload_n hx hb dX12_windowOf_23 rfl (lv_at hl 2 rfl) ?_
        refine lv_aload_n hx hb dX12_windowOf_24 rfl (lv_at hl 0 rfl) ?_
        refine m_get E G 24 (v := .ref (ad 24)) (by decide) (.tail _ qM_19) rfl dX12_windowOf_25 rfl ?_
        refine lv_iload_n hx hb dX12_windowOf_28 rfl (lv_at hl 3 rfl) ?_
        obtain ⟨g12, h⟩ := oif_some h
        refine m_iald E G 24 12 (n := 12) (k := l3.toNatClampNeg) rfl (inb_k g12).1 (inb_k g12).2 (by decide) dX12_windowOf_29 ?_
        refine lv_topi (fun v13 ev13 => ?_)
        have h := elet_at ev13 h
        clear ev13
        refine va_mmax hx hb (hml.trans hl.1.symm) hown (hts _ (.tail _ qM_265)) (hts _ (.tail _ qM_266)) (hts _ (.tail _ qM_247)) (hts _ (.tail _ qM_267)) (Nat.le_of_ble_eq_true rfl) (Nat.le_of_ble_eq_true rfl) (Nat.zero_le _) (Nat.zero_le _) dX12_windowOf_30 ?_
        refine lv_topi (fun v14 ev14 => ?_)
        have h := elet_at ev14 h
        clear ev14
        refine lv_goto (tgt := 37) hx hb dX12_windowOf_33 (by decide) ?_
        have hl := lv_sub hl [0, 1, 3] rfl
        exact tr_windowOf_12_b37 E hA hR hml kr56 ih _ _ _ _ _ _ h G hl
def fr_windowOf_12 (S : MS)  : Option (Int32 × MS) := fr_windowOf_12_b4 16384 S 0 0
set_option maxHeartbeats 4000000 in
set_option maxRecDepth 100000 in
theorem tr_windowOf_12 (l : Launch) (D : va_G) (cI cJ cZ : ClassId) (ad : Nat → Nat) (S : MS)  {r1 : Int32} {S1 : MS} (h : fr_windowOf_12 S = some (r1, S1)) : mCi l yX12_windowOf (Cond.code yX12_windowOf cX12_windowOf 4 (some .int) :: wsM) 2 22 D cI cJ cZ ad S [.ref (ad 12)] (fun r S9 => r = r1 ∧ S9 = S1) := by
  intro sz
  refine Met.ofW (cc := cX12_windowOf) (maxL := 4) (ret := (some .int)) (by decide) rfl ?_
  intro p e s m args below meth c s₁ B hml hv
  obtain ⟨rfl, hsz, hP, hK, hD0, hR⟩ := hv
  have hx := B.exec
  have hb := B.bytes
  have hr := B.returns
  have hts := atoms_spec (ws := (Cond.code yX12_windowOf cX12_windowOf 4 (some .int) :: wsM)) B.pre
  have hown : s.vm.findClass RX12 = some m.cls := findClass_of_methodNamed B.named
  have hlocks := B.notSynchronized
  subst hsz
  have hD := hD0.self (sz := s.heap.size)
  generalize hAe : va_A (MW cI cJ cZ ad S) s.heap.size = A at hD ⊢
  have hA : ∀ q : Nat, s.heap.size ≤ q → A q := fun q h => by rw [← hAe]; exact Or.inr h
  have G : mG D cI cJ cZ ad A s.heap s.heap [] S := ⟨hP, hD, va_S.rf⟩
  have E : mE p c cX12_windowOf s m ([.ref (ad 0), .ref (ad 12)] : List Value).toArray (Cond.code yX12_windowOf cX12_windowOf 4 (some .int) :: wsM) D cI cJ cZ := ⟨hx, hb, hts, hown, hK, fun w h => .tail _ (iM_x h)⟩
  have hl := lv_entry ([.ref (ad 0), .ref (ad 12)]) (n := 4) (Nat.le_of_ble_eq_true rfl)
  rw [lg_entry_eq]
  generalize (lg_sl ([.ref (ad 0), .ref (ad 12)]) ++ List.replicate (4 - (lg_sl ([.ref (ad 0), .ref (ad 12)])).length) Slot.unset).toArray = ls at hl ⊢
  have hl : lv_has ls 4 [(0, .ref (ad 0)), (1, .ref (ad 12))] := hl
  unfold fr_windowOf_12 at h
  refine lv_iconst (v := 0) hx hb dX12_windowOf_0 (by decide) ?_
  refine lv_istore_n (lv' := [(2, .int 0), (0, .ref (ad 0)), (1, .ref (ad 12))]) hx hb dX12_windowOf_1 rfl hl (by decide) rfl (fun ls hl => ?_)
  refine lv_iconst (v := 0) hx hb dX12_windowOf_2 (by decide) ?_
  refine lv_istore_n (lv' := [(3, .int 0), (2, .int 0), (0, .ref (ad 0)), (1, .ref (ad 12))]) hx hb dX12_windowOf_3 rfl hl (by decide) rfl (fun ls hl => ?_)
  have hl := lv_sub hl [2, 3, 1, 0] rfl
  exact tr_windowOf_12_b4 E hA hR hml (fun H locs ls G => W.iret (v := r1) hx hb hr (fun t ht hW => ⟨⟨r1, S1, rfl, ⟨rfl, rfl⟩, ⟨by rw [ht]; exact G.1, va_K.moved hW.alike hK, G.2.1⟩⟩, G.2.2.F ht⟩) G.2.2.2.2 dX12_windowOf_56) _ _ _ _ _ _ _ h G hl
def fr_window (S : MS) (a0 : Int32) : Option (Int32 × MS) := obind2 (fr_isCell S a0) fun r5 S2 => obind2 (fr_mayAsk S2 r5) fun r9 S6 => if r9 = 0 then (some (0, S6)) else (obind (fr_laysCell S6 a0) fun S11 => obind2 (fr_windowOf_12 S11) fun r17 S14 => some (r17, S14))
set_option maxHeartbeats 4000000 in
set_option maxRecDepth 100000 in
theorem tr_window (l : Launch) (D : va_G) (cI cJ cZ : ClassId) (ad : Nat → Nat) (S : MS) (a0 : Int32) {r1 : Int32} {S1 : MS} (h : fr_window S a0 = some (r1, S1)) : mCi l yX12_window (Cond.code yX12_window cX12_window 2 (some .int) :: wsM) 3 45 D cI cJ cZ ad S [.int a0] (fun r S9 => r = r1 ∧ S9 = S1) := by
  intro sz
  refine Met.ofW (cc := cX12_window) (maxL := 2) (ret := (some .int)) (by decide) rfl ?_
  intro p e s m args below meth c s₁ B hml hv
  obtain ⟨rfl, hsz, hP, hK, hD0, hR⟩ := hv
  have hx := B.exec
  have hb := B.bytes
  have hr := B.returns
  have hts := atoms_spec (ws := (Cond.code yX12_window cX12_window 2 (some .int) :: wsM)) B.pre
  have hown : s.vm.findClass RX12 = some m.cls := findClass_of_methodNamed B.named
  have hlocks := B.notSynchronized
  subst hsz
  have hD := hD0.self (sz := s.heap.size)
  generalize hAe : va_A (MW cI cJ cZ ad S) s.heap.size = A at hD ⊢
  have hA : ∀ q : Nat, s.heap.size ≤ q → A q := fun q h => by rw [← hAe]; exact Or.inr h
  have G : mG D cI cJ cZ ad A s.heap s.heap [] S := ⟨hP, hD, va_S.rf⟩
  have E : mE p c cX12_window s m ([.ref (ad 0), .int a0] : List Value).toArray (Cond.code yX12_window cX12_window 2 (some .int) :: wsM) D cI cJ cZ := ⟨hx, hb, hts, hown, hK, fun w h => .tail _ (iM_x h)⟩
  have hl := lv_entry ([.ref (ad 0), .int a0]) (n := 2) (Nat.le_of_ble_eq_true rfl)
  rw [lg_entry_eq]
  generalize (lg_sl ([.ref (ad 0), .int a0]) ++ List.replicate (2 - (lg_sl ([.ref (ad 0), .int a0])).length) Slot.unset).toArray = ls at hl ⊢
  have hl : lv_has ls 2 [(0, .ref (ad 0)), (1, .int a0)] := hl
  unfold fr_window at h
  refine lv_aload_n hx hb dX12_window_0 rfl (lv_at hl 0 rfl) ?_
  refine lv_aload_n hx hb dX12_window_1 rfl (lv_at hl 0 rfl) ?_
  refine lv_iload_n hx hb dX12_window_2 rfl (lv_at hl 1 rfl) ?_
  obtain ⟨r5, S2, eS2, h⟩ := obind2_some h
  refine m_calli (As := [.int a0]) (rest := [.ref (ad 0)]) E G hA hR hml (tr_isCell l D cI cJ cZ ad S a0 eS2) (cwV 1 hts (gmV qM_326 qM_327 qM_328 qM_35 qM_307) rfl rfl rfl (by decide +kernel) ⟨Nat.le_of_ble_eq_true rfl, Nat.le_of_ble_eq_true rfl⟩) rfl hl.1 rfl (lv_room (Nat.le_of_ble_eq_true rfl)) dX12_window_3 ⟨Nat.zero_le _, Nat.zero_le _⟩ (fun q3 S4 H locs hq G => ?_)
  obtain ⟨hq1, hq2⟩ := hq
  rw [hq2] at G
  refine lv_to hq1 ?_
  clear hq1 hq2 eS2
  obtain ⟨r9, S6, eS6, h⟩ := obind2_some h
  refine m_calli (As := [.int r5]) (rest := []) E G hA hR hml (tr_mayAsk l D cI cJ cZ ad S2 r5 eS6) (cwV 1 hts (gmV qM_319 qM_320 qM_321 qM_35 qM_304) rfl rfl rfl (by decide +kernel) ⟨Nat.le_of_ble_eq_true rfl, Nat.le_of_ble_eq_true rfl⟩) rfl hl.1 rfl (lv_room (Nat.le_of_ble_eq_true rfl)) dX12_window_6 ⟨Nat.zero_le _, Nat.zero_le _⟩ (fun q7 S8 H locs hq G => ?_)
  obtain ⟨hq1, hq2⟩ := hq
  rw [hq2] at G
  refine lv_to hq1 ?_
  clear hq1 hq2 eS6
  refine lv_if_ne (tgt := 14) hx hb dX12_window_9 (by decide) (fun c10 => ?_) (fun c10 => ?_)
  · have h := oif_neg c10 h
    refine lv_aload_n hx hb dX12_window_14 rfl (lv_at hl 0 rfl) ?_
    refine lv_iload_n hx hb dX12_window_15 rfl (lv_at hl 1 rfl) ?_
    obtain ⟨S11, eS11, h⟩ := obind_some h
    refine m_callv (As := [.int a0]) (rest := []) E G hA hR hml (tr_laysCell l D cI cJ cZ ad S6 a0 eS11) (cwV 1 hts (gmV qM_290 qM_291 qM_292 qM_35 qM_270) rfl rfl rfl (by decide +kernel) ⟨Nat.le_of_ble_eq_true rfl, Nat.le_of_ble_eq_true rfl⟩) rfl hl.1 rfl (lv_room (Nat.le_of_ble_eq_true rfl)) dX12_window_16 ⟨Nat.zero_le _, Nat.zero_le _⟩ (fun S13 H locs hq G => ?_)
    rw [hq] at G
    clear hq eS11
    refine lv_aload_n hx hb dX12_window_19 rfl (lv_at hl 0 rfl) ?_
    refine lv_aload_n hx hb dX12_window_20 rfl (lv_at hl 0 rfl) ?_
    refine m_get E G 12 (v := .ref (ad 12)) (by decide) (.tail _ qM_9) rfl dX12_window_21 rfl ?_
    obtain ⟨r17, S14, eS14, h⟩ := obind2_some h
    refine m_calli (As := [.ref (ad 12)]) (rest := []) E G hA hR hml (tr_windowOf_12 l D cI cJ cZ ad S11 eS14) (cwV 1 hts (gmV qM_283 qM_284 qM_285 qM_35 qM_273) rfl rfl rfl (by decide +kernel) ⟨Nat.le_of_ble_eq_true rfl, Nat.le_of_ble_eq_true rfl⟩) rfl hl.1 rfl (lv_room (Nat.le_of_ble_eq_true rfl)) dX12_window_24 ⟨Nat.zero_le _, Nat.zero_le _⟩ (fun q15 S16 H locs hq G => ?_)
    obtain ⟨hq1, hq2⟩ := hq
    rw [hq2] at G
    refine lv_to hq1 ?_
    clear hq1 hq2 eS14
    exact W.iret (v := r17) hx hb hr (fun t ht hW => ⟨⟨r17, S14, rfl, osome2 h, ⟨by rw [ht]; exact G.1, va_K.moved hW.alike hK, G.2.1⟩⟩, G.2.2.F ht⟩) G.2.2.2.2 dX12_window_27
  · have h := oif_pos c10 h
    refine lv_iconst (v := 0) hx hb dX12_window_12 (by decide) ?_
    exact W.iret (v := 0) hx hb hr (fun t ht hW => ⟨⟨0, S6, rfl, osome2 h, ⟨by rw [ht]; exact G.1, va_K.moved hW.alike hK, G.2.1⟩⟩, G.2.2.F ht⟩) G.2.2.2.2 dX12_window_13
def fr_sample_b45  (S : MS) (s0 : Int32) : Option (Int32 × MS) := some (s0, S)
set_option maxHeartbeats 4000000 in
set_option maxRecDepth 100000 in
theorem tr_sample_b45 {p : Program} {l : Launch} {e : Env} {s : State} {m : MethodId} {args : Array Value} {below : List Frame} {meth : Method} {c : Code} {Q : State → Prop} {D : va_G} {A : Nat → Prop} {H0 : Heap} {cI cJ cZ : ClassId} {ad : Nat → Nat} {r1 : Int32} {S1 : MS} (E : mE p c cX12_sample s m args (Cond.code yX12_sample cX12_sample 3 (some .int) :: wsM) D cI cJ cZ) (hA : ∀ q : Nat, H0.size ≤ q → A q) (hR : sR s) (hml : c.maxLocals = 3) (kr13 : ∀ (H : Heap) (locs : List Loc) (ls : Array Slot), mG D cI cJ cZ ad A H0 H locs S1 → W p l e { frames := 3, cells := 0, slots := 0, locals := 43 } s m args below meth c H locs 0 0 Q (F0 m 13 ls [.int r1])) (kr45 : ∀ (H : Heap) (locs : List Loc) (ls : Array Slot), mG D cI cJ cZ ad A H0 H locs S1 → W p l e { frames := 3, cells := 0, slots := 0, locals := 43 } s m args below meth c H locs 0 0 Q (F0 m 45 ls [.int r1])) : ∀ (S : MS) (H : Heap) (locs : List Loc) (ls : Array Slot) (s0 : Int32), fr_sample_b45 S s0 = some (r1, S1) → mG D cI cJ cZ ad A H0 H locs S → lv_has ls 3 [] → W p l e { frames := 3, cells := 0, slots := 0, locals := 43 } s m args below meth c H locs 0 0 Q (F0 m 45 ls [.int s0]) := by
  have hx := E.1
  have hb := E.2.1
  have hts := E.2.2.1
  have hown := E.2.2.2.1
  have hK := E.2.2.2.2.1
  intro S H locs ls s0 h G hl
  unfold fr_sample_b45 at h
  rw [(osome2 h).2] at G
  refine lv_to (osome2 h).1 ?_
  exact kr45 _ _ _ G
def fr_sample (S : MS) (a0 : Int32) (a1 : Int32) : Option (Int32 × MS) := obind2 (fr_isMic S a0) fun r5 S2 => obind2 (fr_mayAsk S2 r5) fun r9 S6 => if r9 = 0 then (some (0, S6)) else (obind2 (fr_isTime S6 a1) fun r14 S11 => if r14 = 0 then (obind2 (fr_throwsAt S11 3) fun r19 S16 => fr_sample_b45 S16 r19) else (elet (200 * a0) fun v20 => elet (55 + v20) fun v21 => elet (v21 + a1) fun v22 => oif (inb v22 2455 = true) <| elet (S11.2.1 12 v22.toNatClampNeg) fun v24 => fr_sample_b45 S11 v24))
set_option maxHeartbeats 4000000 in
set_option maxRecDepth 100000 in
theorem tr_sample (l : Launch) (D : va_G) (cI cJ cZ : ClassId) (ad : Nat → Nat) (S : MS) (a0 : Int32) (a1 : Int32) {r1 : Int32} {S1 : MS} (h : fr_sample S a0 a1 = some (r1, S1)) : mCi l yX12_sample (Cond.code yX12_sample cX12_sample 3 (some .int) :: wsM) 3 43 D cI cJ cZ ad S [.int a0, .int a1] (fun r S9 => r = r1 ∧ S9 = S1) := by
  intro sz
  refine Met.ofW (cc := cX12_sample) (maxL := 3) (ret := (some .int)) (by decide) rfl ?_
  intro p e s m args below meth c s₁ B hml hv
  obtain ⟨rfl, hsz, hP, hK, hD0, hR⟩ := hv
  have hx := B.exec
  have hb := B.bytes
  have hr := B.returns
  have hts := atoms_spec (ws := (Cond.code yX12_sample cX12_sample 3 (some .int) :: wsM)) B.pre
  have hown : s.vm.findClass RX12 = some m.cls := findClass_of_methodNamed B.named
  have hlocks := B.notSynchronized
  subst hsz
  have hD := hD0.self (sz := s.heap.size)
  generalize hAe : va_A (MW cI cJ cZ ad S) s.heap.size = A at hD ⊢
  have hA : ∀ q : Nat, s.heap.size ≤ q → A q := fun q h => by rw [← hAe]; exact Or.inr h
  have G : mG D cI cJ cZ ad A s.heap s.heap [] S := ⟨hP, hD, va_S.rf⟩
  have E : mE p c cX12_sample s m ([.ref (ad 0), .int a0, .int a1] : List Value).toArray (Cond.code yX12_sample cX12_sample 3 (some .int) :: wsM) D cI cJ cZ := ⟨hx, hb, hts, hown, hK, fun w h => .tail _ (iM_x h)⟩
  have hl := lv_entry ([.ref (ad 0), .int a0, .int a1]) (n := 3) (Nat.le_of_ble_eq_true rfl)
  rw [lg_entry_eq]
  generalize (lg_sl ([.ref (ad 0), .int a0, .int a1]) ++ List.replicate (3 - (lg_sl ([.ref (ad 0), .int a0, .int a1])).length) Slot.unset).toArray = ls at hl ⊢
  have hl : lv_has ls 3 [(0, .ref (ad 0)), (1, .int a0), (2, .int a1)] := hl
  unfold fr_sample at h
  refine lv_aload_n hx hb dX12_sample_0 rfl (lv_at hl 0 rfl) ?_
  refine lv_aload_n hx hb dX12_sample_1 rfl (lv_at hl 0 rfl) ?_
  refine lv_iload_n hx hb dX12_sample_2 rfl (lv_at hl 1 rfl) ?_
  obtain ⟨r5, S2, eS2, h⟩ := obind2_some h
  refine m_calli (As := [.int a0]) (rest := [.ref (ad 0)]) E G hA hR hml (tr_isMic l D cI cJ cZ ad S a0 eS2) (cwV 1 hts (gmV qM_316 qM_317 qM_318 qM_35 qM_306) rfl rfl rfl (by decide +kernel) ⟨Nat.le_of_ble_eq_true rfl, Nat.le_of_ble_eq_true rfl⟩) rfl hl.1 rfl (lv_room (Nat.le_of_ble_eq_true rfl)) dX12_sample_3 ⟨Nat.zero_le _, Nat.zero_le _⟩ (fun q3 S4 H locs hq G => ?_)
  obtain ⟨hq1, hq2⟩ := hq
  rw [hq2] at G
  refine lv_to hq1 ?_
  clear hq1 hq2 eS2
  obtain ⟨r9, S6, eS6, h⟩ := obind2_some h
  refine m_calli (As := [.int r5]) (rest := []) E G hA hR hml (tr_mayAsk l D cI cJ cZ ad S2 r5 eS6) (cwV 1 hts (gmV qM_319 qM_320 qM_321 qM_35 qM_304) rfl rfl rfl (by decide +kernel) ⟨Nat.le_of_ble_eq_true rfl, Nat.le_of_ble_eq_true rfl⟩) rfl hl.1 rfl (lv_room (Nat.le_of_ble_eq_true rfl)) dX12_sample_6 ⟨Nat.zero_le _, Nat.zero_le _⟩ (fun q7 S8 H locs hq G => ?_)
  obtain ⟨hq1, hq2⟩ := hq
  rw [hq2] at G
  refine lv_to hq1 ?_
  clear hq1 hq2 eS6
  refine lv_if_ne (tgt := 14) hx hb dX12_sample_9 (by decide) (fun c10 => ?_) (fun c10 => ?_)
  · have h := oif_neg c10 h
    refine lv_aload_n hx hb dX12_sample_14 rfl (lv_at hl 0 rfl) ?_
    refine lv_iload_n hx hb dX12_sample_15 rfl (lv_at hl 2 rfl) ?_
    obtain ⟨r14, S11, eS11, h⟩ := obind2_some h
    refine m_calli (As := [.int a1]) (rest := []) E G hA hR hml (tr_isTime l D cI cJ cZ ad S6 a1 eS11) (cwV 1 hts (gmV qM_334 qM_335 qM_336 qM_35 qM_309) rfl rfl rfl (by decide +kernel) ⟨Nat.le_of_ble_eq_true rfl, Nat.le_of_ble_eq_true rfl⟩) rfl hl.1 rfl (lv_room (Nat.le_of_ble_eq_true rfl)) dX12_sample_16 ⟨Nat.zero_le _, Nat.zero_le _⟩ (fun q12 S13 H locs hq G => ?_)
    obtain ⟨hq1, hq2⟩ := hq
    rw [hq2] at G
    refine lv_to hq1 ?_
    clear hq1 hq2 eS11
    refine lv_if_eq (tgt := 40) hx hb dX12_sample_19 (by decide) (fun c15 => ?_) (fun c15 => ?_)
    · have h := oif_pos c15 h
      refine lv_aload_n hx hb dX12_sample_40 rfl (lv_at hl 0 rfl) ?_
      refine lv_iconst (v := 3) hx hb dX12_sample_41 (by decide) ?_
      obtain ⟨r19, S16, eS16, h⟩ := obind2_some h
      refine m_calli (As := [.int 3]) (rest := []) E G hA hR hml (tr_throwsAt l D cI cJ cZ ad S11 3 eS16) (cwV 1 hts (gmV qM_195 qM_196 qM_197 qM_35 qM_28) rfl rfl rfl (by decide +kernel) ⟨Nat.le_of_ble_eq_true rfl, Nat.le_of_ble_eq_true rfl⟩) rfl hl.1 rfl (lv_room (Nat.le_of_ble_eq_true rfl)) dX12_sample_42 ⟨Nat.zero_le _, Nat.zero_le _⟩ (fun q17 S18 H locs hq G => ?_)
      obtain ⟨hq1, hq2⟩ := hq
      rw [hq2] at G
      refine lv_to hq1 ?_
      clear hq1 hq2 eS16
      have hl := lv_sub hl [] rfl
      exact tr_sample_b45 E hA hR hml (fun H locs ls G => W.iret (v := r1) hx hb hr (fun t ht hW => ⟨⟨r1, S1, rfl, ⟨rfl, rfl⟩, ⟨by rw [ht]; exact G.1, va_K.moved hW.alike hK, G.2.1⟩⟩, G.2.2.F ht⟩) G.2.2.2.2 dX12_sample_13) (fun H locs ls G => W.iret (v := r1) hx hb hr (fun t ht hW => ⟨⟨r1, S1, rfl, ⟨rfl, rfl⟩, ⟨by rw [ht]; exact G.1, va_K.moved hW.alike hK, G.2.1⟩⟩, G.2.2.F ht⟩) G.2.2.2.2 dX12_sample_45) _ _ _ _ _ h G hl
    · have h := oif_neg c15 h
      refine lv_aload_n hx hb dX12_sample_22 rfl (lv_at hl 0 rfl) ?_
      refine m_get E G 12 (v := .ref (ad 12)) (by decide) (.tail _ qM_9) rfl dX12_sample_23 rfl ?_
      refine lv_bipush (v := 55) hx hb dX12_sample_26 (by decide) ?_
      refine lv_sipush (v := 200) hx hb dX12_sample_28 (by decide) ?_
      refine lv_iload_n hx hb dX12_sample_31 rfl (lv_at hl 1 rfl) ?_
      refine lv_imul hx hb dX12_sample_32 ?_
      refine lv_topi (fun v20 ev20 => ?_)
      have h := elet_at ev20 h
      clear ev20
      refine lv_iadd hx hb dX12_sample_33 ?_
      refine lv_topi (fun v21 ev21 => ?_)
      have h := elet_at ev21 h
      clear ev21
      refine lv_iload_n hx hb dX12_sample_34 rfl (lv_at hl 2 rfl) ?_
      refine lv_iadd hx hb dX12_sample_35 ?_
      refine lv_topi (fun v22 ev22 => ?_)
      have h := elet_at ev22 h
      clear ev22
      obtain ⟨g23, h⟩ := oif_some h
      refine m_iald E G 12 4 (n := 2455) (k := v22.toNatClampNeg) rfl (inb_k g23).1 (inb_k g23).2 (by decide) dX12_sample_36 ?_
      refine lv_topi (fun v24 ev24 => ?_)
      have h := elet_at ev24 h
      clear ev24
      refine lv_goto (tgt := 45) hx hb dX12_sample_37 (by decide) ?_
      have hl := lv_sub hl [] rfl
      exact tr_sample_b45 E hA hR hml (fun H locs ls G => W.iret (v := r1) hx hb hr (fun t ht hW => ⟨⟨r1, S1, rfl, ⟨rfl, rfl⟩, ⟨by rw [ht]; exact G.1, va_K.moved hW.alike hK, G.2.1⟩⟩, G.2.2.F ht⟩) G.2.2.2.2 dX12_sample_13) (fun H locs ls G => W.iret (v := r1) hx hb hr (fun t ht hW => ⟨⟨r1, S1, rfl, ⟨rfl, rfl⟩, ⟨by rw [ht]; exact G.1, va_K.moved hW.alike hK, G.2.1⟩⟩, G.2.2.F ht⟩) G.2.2.2.2 dX12_sample_45) _ _ _ _ _ h G hl
  · have h := oif_pos c10 h
    refine lv_iconst (v := 0) hx hb dX12_sample_12 (by decide) ?_
    exact W.iret (v := 0) hx hb hr (fun t ht hW => ⟨⟨0, S6, rfl, osome2 h, ⟨by rw [ht]; exact G.1, va_K.moved hW.alike hK, G.2.1⟩⟩, G.2.2.F ht⟩) G.2.2.2.2 dX12_sample_13
def fr_beamAt_12_b78 (k5 : MS → Int32 → Int32 → Int32 → Option (Int32 × MS)) (S : MS) (s0 : Int32) (s1 : Int32) (l2 : Int32) (l4 : Int32) : Option (Int32 × MS) := elet (s1 + s0) fun v2 => elet (l4 + Int32.ofInt (1)) fun v3 => k5 S l2 v2 v3
set_option maxHeartbeats 4000000 in
set_option maxRecDepth 100000 in
theorem tr_beamAt_12_b78 {p : Program} {l : Launch} {e : Env} {s : State} {m : MethodId} {args : Array Value} {below : List Frame} {meth : Method} {c : Code} {Q : State → Prop} {D : va_G} {A : Nat → Prop} {H0 : Heap} {cI cJ cZ : ClassId} {ad : Nat → Nat} {r1 : Int32} {S1 : MS} (E : mE p c cX12_beamAt s m args (Cond.code yX12_beamAt cX12_beamAt 5 (some .int) :: wsM) D cI cJ cZ) (hA : ∀ q : Nat, H0.size ≤ q → A q) (hR : sR s) (hml : c.maxLocals = 5) (kr87 : ∀ (H : Heap) (locs : List Loc) (ls : Array Slot), mG D cI cJ cZ ad A H0 H locs S1 → W p l e { frames := 2, cells := 0, slots := 0, locals := 22 } s m args below meth c H locs 0 0 Q (F0 m 87 ls [.int r1])) {k5 : MS → Int32 → Int32 → Int32 → Option (Int32 × MS)} (hk5 : ∀ (S : MS) (H : Heap) (locs : List Loc) (ls : Array Slot) (l2 : Int32) (l3 : Int32) (l4 : Int32), k5 S l2 l3 l4 = some (r1, S1) → mG D cI cJ cZ ad A H0 H locs S → lv_has ls 5 [(0, .ref (ad 0)), (1, .ref (ad 12)), (2, .int l2), (3, .int l3), (4, .int l4)] → W p l e { frames := 2, cells := 0, slots := 0, locals := 22 } s m args below meth c H locs 0 0 Q (F0 m 5 ls [])) : ∀ (S : MS) (H : Heap) (locs : List Loc) (ls : Array Slot) (s0 : Int32) (s1 : Int32) (l2 : Int32) (l4 : Int32), fr_beamAt_12_b78 k5 S s0 s1 l2 l4 = some (r1, S1) → mG D cI cJ cZ ad A H0 H locs S → lv_has ls 5 [(0, .ref (ad 0)), (1, .ref (ad 12)), (2, .int l2), (4, .int l4)] → W p l e { frames := 2, cells := 0, slots := 0, locals := 22 } s m args below meth c H locs 0 0 Q (F0 m 78 ls [.int s0, .int s1]) := by
  have hx := E.1
  have hb := E.2.1
  have hts := E.2.2.1
  have hown := E.2.2.2.1
  have hK := E.2.2.2.2.1
  intro S H locs ls s0 s1 l2 l4 h G hl
  unfold fr_beamAt_12_b78 at h
  refine lv_iadd hx hb dX12_beamAt_78 ?_
  refine lv_topi (fun v2 ev2 => ?_)
  have h := elet_at ev2 h
  clear ev2
  refine lv_istore_n (lv' := [(3, .int v2), (0, .ref (ad 0)), (1, .ref (ad 12)), (2, .int l2), (4, .int l4)]) hx hb dX12_beamAt_79 rfl hl (by decide) rfl (fun ls hl => ?_)
  obtain ⟨v3, ev3, h⟩ := elet_some h
  refine lv_iinc (v := v3) (lv' := [(4, .int v3), (3, .int v2), (0, .ref (ad 0)), (1, .ref (ad 12)), (2, .int l2)]) hx hb dX12_beamAt_80 hl (k := 4) rfl ev3.symm (by decide) rfl (fun ls hl => ?_)
  refine lv_goto (tgt := 5) hx hb dX12_beamAt_83 (by decide) ?_
  have hl := lv_sub hl [2, 3, 4, 1, 0] rfl
  exact hk5 _ _ _ _ _ _ _ h G hl
def fr_beamAt_12_b77 (k5 : MS → Int32 → Int32 → Int32 → Option (Int32 × MS)) (S : MS) (s0 : Int32) (l2 : Int32) (l4 : Int32) : Option (Int32 × MS) := fr_beamAt_12_b78 k5 S 0 s0 l2 l4
set_option maxHeartbeats 4000000 in
set_option maxRecDepth 100000 in
theorem tr_beamAt_12_b77 {p : Program} {l : Launch} {e : Env} {s : State} {m : MethodId} {args : Array Value} {below : List Frame} {meth : Method} {c : Code} {Q : State → Prop} {D : va_G} {A : Nat → Prop} {H0 : Heap} {cI cJ cZ : ClassId} {ad : Nat → Nat} {r1 : Int32} {S1 : MS} (E : mE p c cX12_beamAt s m args (Cond.code yX12_beamAt cX12_beamAt 5 (some .int) :: wsM) D cI cJ cZ) (hA : ∀ q : Nat, H0.size ≤ q → A q) (hR : sR s) (hml : c.maxLocals = 5) (kr87 : ∀ (H : Heap) (locs : List Loc) (ls : Array Slot), mG D cI cJ cZ ad A H0 H locs S1 → W p l e { frames := 2, cells := 0, slots := 0, locals := 22 } s m args below meth c H locs 0 0 Q (F0 m 87 ls [.int r1])) {k5 : MS → Int32 → Int32 → Int32 → Option (Int32 × MS)} (hk5 : ∀ (S : MS) (H : Heap) (locs : List Loc) (ls : Array Slot) (l2 : Int32) (l3 : Int32) (l4 : Int32), k5 S l2 l3 l4 = some (r1, S1) → mG D cI cJ cZ ad A H0 H locs S → lv_has ls 5 [(0, .ref (ad 0)), (1, .ref (ad 12)), (2, .int l2), (3, .int l3), (4, .int l4)] → W p l e { frames := 2, cells := 0, slots := 0, locals := 22 } s m args below meth c H locs 0 0 Q (F0 m 5 ls [])) : ∀ (S : MS) (H : Heap) (locs : List Loc) (ls : Array Slot) (s0 : Int32) (l2 : Int32) (l4 : Int32), fr_beamAt_12_b77 k5 S s0 l2 l4 = some (r1, S1) → mG D cI cJ cZ ad A H0 H locs S → lv_has ls 5 [(0, .ref (ad 0)), (1, .ref (ad 12)), (2, .int l2), (4, .int l4)] → W p l e { frames := 2, cells := 0, slots := 0, locals := 22 } s m args below meth c H locs 0 0 Q (F0 m 77 ls [.int s0]) := by
  have hx := E.1
  have hb := E.2.1
  have hts := E.2.2.1
  have hown := E.2.2.2.1
  have hK := E.2.2.2.2.1
  intro S H locs ls s0 l2 l4 h G hl
  unfold fr_beamAt_12_b77 at h
  refine lv_iconst (v := 0) hx hb dX12_beamAt_77 (by decide) ?_
  have hl := lv_sub hl [0, 1, 2, 3] rfl
  exact tr_beamAt_12_b78 E hA hR hml kr87 hk5 _ _ _ _ _ _ _ _ h G hl
def fr_beamAt_12_b5  : Nat → MS → Int32 → Int32 → Int32 → Option (Int32 × MS)
  | 0, _, _, _, _ => none
  | n + 1, S, l2, l3, l4 => elet (S.2.1 10 4) fun v2 => if v2 ≤ l4 then (some (l3, S)) else (obind2 (fr_hears_12 S l4) fun r7 S4 => if r7 = 0 then (fr_beamAt_12_b77 (fr_beamAt_12_b5 n) S4 l3 l2 l4) else (oif (inb l4 12 = true) <| elet (S4.2.1 24 l4.toNatClampNeg) fun v10 => elet (l2 + v10) fun v11 => elet (S4.2.1 10 2) fun v12 => if v12 ≤ v11 then (fr_beamAt_12_b77 (fr_beamAt_12_b5 n) S4 l3 l2 l4) else (elet (13 + l4) fun v14 => oif (inb v14 2455 = true) <| elet (S4.2.1 12 v14.toNatClampNeg) fun v16 => elet (200 * l4) fun v17 => elet (55 + v17) fun v18 => elet (v18 + l2) fun v19 => oif (inb l4 12 = true) <| elet (S4.2.1 24 l4.toNatClampNeg) fun v21 => elet (v19 + v21) fun v22 => oif (inb v22 2455 = true) <| elet (S4.2.1 12 v22.toNatClampNeg) fun v24 => elet (v16 * v24) fun v25 => fr_beamAt_12_b78 (fr_beamAt_12_b5 n) S4 v25 l3 l2 l4)))
set_option maxHeartbeats 4000000 in
set_option maxRecDepth 100000 in
theorem tr_beamAt_12_b5 {p : Program} {l : Launch} {e : Env} {s : State} {m : MethodId} {args : Array Value} {below : List Frame} {meth : Method} {c : Code} {Q : State → Prop} {D : va_G} {A : Nat → Prop} {H0 : Heap} {cI cJ cZ : ClassId} {ad : Nat → Nat} {r1 : Int32} {S1 : MS} (E : mE p c cX12_beamAt s m args (Cond.code yX12_beamAt cX12_beamAt 5 (some .int) :: wsM) D cI cJ cZ) (hA : ∀ q : Nat, H0.size ≤ q → A q) (hR : sR s) (hml : c.maxLocals = 5) (kr87 : ∀ (H : Heap) (locs : List Loc) (ls : Array Slot), mG D cI cJ cZ ad A H0 H locs S1 → W p l e { frames := 2, cells := 0, slots := 0, locals := 22 } s m args below meth c H locs 0 0 Q (F0 m 87 ls [.int r1])) : ∀ n : Nat, ∀ (S : MS) (H : Heap) (locs : List Loc) (ls : Array Slot) (l2 : Int32) (l3 : Int32) (l4 : Int32), fr_beamAt_12_b5 n S l2 l3 l4 = some (r1, S1) → mG D cI cJ cZ ad A H0 H locs S → lv_has ls 5 [(0, .ref (ad 0)), (1, .ref (ad 12)), (2, .int l2), (3, .int l3), (4, .int l4)] → W p l e { frames := 2, cells := 0, slots := 0, locals := 22 } s m args below meth c H locs 0 0 Q (F0 m 5 ls []) := by
  have hx := E.1
  have hb := E.2.1
  have hts := E.2.2.1
  have hown := E.2.2.2.1
  have hK := E.2.2.2.2.1
  intro n
  induction n with
  | zero =>
    intro S H locs ls l2 l3 l4 h
    have h : (none : Option (Int32 × MS)) = some (r1, S1) := h
    cases h
  | succ n ih =>
    intro S H locs ls l2 l3 l4 h G hl
    unfold fr_beamAt_12_b5 at h
    refine lv_iload hx hb dX12_beamAt_5 (lv_at hl 4 rfl) ?_
    refine lv_aload_n hx hb dX12_beamAt_7 rfl (lv_at hl 0 rfl) ?_
    refine m_get E G 10 (v := .ref (ad 10)) (by decide) (.tail _ qM_7) rfl dX12_beamAt_8 rfl ?_
    refine lv_iconst (v := 4) hx hb dX12_beamAt_11 (by decide) ?_
    refine m_iald E G 10 2 (n := 131) (k := 4) rfl rfl (by decide) (by decide) dX12_beamAt_12 ?_
    refine lv_topi (fun v2 ev2 => ?_)
    have h := elet_at ev2 h
    clear ev2
    refine lv_icmp_ge (tgt := 86) hx hb dX12_beamAt_13 (by decide) (fun c3 => ?_) (fun c3 => ?_)
    · have h := oif_pos c3 h
      refine lv_iload_n hx hb dX12_beamAt_86 rfl (lv_at hl 3 rfl) ?_
      rw [(osome2 h).2] at G
      refine lv_to (osome2 h).1 ?_
      exact kr87 _ _ _ G
    · have h := oif_neg c3 h
      refine lv_iload_n hx hb dX12_beamAt_16 rfl (lv_at hl 3 rfl) ?_
      refine lv_aload_n hx hb dX12_beamAt_17 rfl (lv_at hl 0 rfl) ?_
      refine lv_aload_n hx hb dX12_beamAt_18 rfl (lv_at hl 1 rfl) ?_
      refine lv_iload hx hb dX12_beamAt_19 (lv_at hl 4 rfl) ?_
      obtain ⟨r7, S4, eS4, h⟩ := obind2_some h
      refine m_calli (As := [.ref (ad 12), .int l4]) (rest := [.int l3]) E G hA hR hml (tr_hears_12 l D cI cJ cZ ad S l4 eS4) (cwV 2 hts (gmV qM_274 qM_275 qM_276 qM_35 qM_272) rfl rfl rfl (by decide +kernel) ⟨Nat.le_of_ble_eq_true rfl, Nat.le_of_ble_eq_true rfl⟩) rfl hl.1 rfl (lv_room (Nat.le_of_ble_eq_true rfl)) dX12_beamAt_21 ⟨Nat.zero_le _, Nat.zero_le _⟩ (fun q5 S6 H locs hq G => ?_)
      obtain ⟨hq1, hq2⟩ := hq
      rw [hq2] at G
      refine lv_to hq1 ?_
      clear hq1 hq2 eS4
      refine lv_if_eq (tgt := 77) hx hb dX12_beamAt_24 (by decide) (fun c8 => ?_) (fun c8 => ?_)
      · have h := oif_pos c8 h
        have hl := lv_sub hl [0, 1, 2, 4] rfl
        exact tr_beamAt_12_b77 E hA hR hml kr87 ih _ _ _ _ _ _ _ h G hl
      · have h := oif_neg c8 h
        refine lv_iload_n hx hb dX12_beamAt_27 rfl (lv_at hl 2 rfl) ?_
        refine lv_aload_n hx hb dX12_beamAt_28 rfl (lv_at hl 0 rfl) ?_
        refine m_get E G 24 (v := .ref (ad 24)) (by decide) (.tail _ qM_19) rfl dX12_beamAt_29 rfl ?_
        refine lv_iload hx hb dX12_beamAt_32 (lv_at hl 4 rfl) ?_
        obtain ⟨g9, h⟩ := oif_some h
        refine m_iald E G 24 12 (n := 12) (k := l4.toNatClampNeg) rfl (inb_k g9).1 (inb_k g9).2 (by decide) dX12_beamAt_34 ?_
        refine lv_topi (fun v10 ev10 => ?_)
        have h := elet_at ev10 h
        clear ev10
        refine lv_iadd hx hb dX12_beamAt_35 ?_
        refine lv_topi (fun v11 ev11 => ?_)
        have h := elet_at ev11 h
        clear ev11
        refine lv_aload_n hx hb dX12_beamAt_36 rfl (lv_at hl 0 rfl) ?_
        refine m_get E G 10 (v := .ref (ad 10)) (by decide) (.tail _ qM_7) rfl dX12_beamAt_37 rfl ?_
        refine lv_iconst (v := 2) hx hb dX12_beamAt_40 (by decide) ?_
        refine m_iald E G 10 2 (n := 131) (k := 2) rfl rfl (by decide) (by decide) dX12_beamAt_41 ?_
        refine lv_topi (fun v12 ev12 => ?_)
        have h := elet_at ev12 h
        clear ev12
        refine lv_icmp_ge (tgt := 77) hx hb dX12_beamAt_42 (by decide) (fun c13 => ?_) (fun c13 => ?_)
        · have h := oif_pos c13 h
          have hl := lv_sub hl [0, 1, 2, 4] rfl
          exact tr_beamAt_12_b77 E hA hR hml kr87 ih _ _ _ _ _ _ _ h G hl
        · have h := oif_neg c13 h
          refine lv_aload_n hx hb dX12_beamAt_45 rfl (lv_at hl 1 rfl) ?_
          refine lv_bipush (v := 13) hx hb dX12_beamAt_46 (by decide) ?_
          refine lv_iload hx hb dX12_beamAt_48 (lv_at hl 4 rfl) ?_
          refine lv_iadd hx hb dX12_beamAt_50 ?_
          refine lv_topi (fun v14 ev14 => ?_)
          have h := elet_at ev14 h
          clear ev14
          obtain ⟨g15, h⟩ := oif_some h
          refine m_iald E G 12 4 (n := 2455) (k := v14.toNatClampNeg) rfl (inb_k g15).1 (inb_k g15).2 (by decide) dX12_beamAt_51 ?_
          refine lv_topi (fun v16 ev16 => ?_)
          have h := elet_at ev16 h
          clear ev16
          refine lv_aload_n hx hb dX12_beamAt_52 rfl (lv_at hl 1 rfl) ?_
          refine lv_bipush (v := 55) hx hb dX12_beamAt_53 (by decide) ?_
          refine lv_sipush (v := 200) hx hb dX12_beamAt_55 (by decide) ?_
          refine lv_iload hx hb dX12_beamAt_58 (lv_at hl 4 rfl) ?_
          refine lv_imul hx hb dX12_beamAt_60 ?_
          refine lv_topi (fun v17 ev17 => ?_)
          have h := elet_at ev17 h
          clear ev17
          refine lv_iadd hx hb dX12_beamAt_61 ?_
          refine lv_topi (fun v18 ev18 => ?_)
          have h := elet_at ev18 h
          clear ev18
          refine lv_iload_n hx hb dX12_beamAt_62 rfl (lv_at hl 2 rfl) ?_
          refine lv_iadd hx hb dX12_beamAt_63 ?_
          refine lv_topi (fun v19 ev19 => ?_)
          have h := elet_at ev19 h
          clear ev19
          refine lv_aload_n hx hb dX12_beamAt_64 rfl (lv_at hl 0 rfl) ?_
          refine m_get E G 24 (v := .ref (ad 24)) (by decide) (.tail _ qM_19) rfl dX12_beamAt_65 rfl ?_
          refine lv_iload hx hb dX12_beamAt_68 (lv_at hl 4 rfl) ?_
          obtain ⟨g20, h⟩ := oif_some h
          refine m_iald E G 24 12 (n := 12) (k := l4.toNatClampNeg) rfl (inb_k g20).1 (inb_k g20).2 (by decide) dX12_beamAt_70 ?_
          refine lv_topi (fun v21 ev21 => ?_)
          have h := elet_at ev21 h
          clear ev21
          refine lv_iadd hx hb dX12_beamAt_71 ?_
          refine lv_topi (fun v22 ev22 => ?_)
          have h := elet_at ev22 h
          clear ev22
          obtain ⟨g23, h⟩ := oif_some h
          refine m_iald E G 12 4 (n := 2455) (k := v22.toNatClampNeg) rfl (inb_k g23).1 (inb_k g23).2 (by decide) dX12_beamAt_72 ?_
          refine lv_topi (fun v24 ev24 => ?_)
          have h := elet_at ev24 h
          clear ev24
          refine lv_imul hx hb dX12_beamAt_73 ?_
          refine lv_topi (fun v25 ev25 => ?_)
          have h := elet_at ev25 h
          clear ev25
          refine lv_goto (tgt := 78) hx hb dX12_beamAt_74 (by decide) ?_
          have hl := lv_sub hl [0, 1, 2, 4] rfl
          exact tr_beamAt_12_b78 E hA hR hml kr87 ih _ _ _ _ _ _ _ _ h G hl
def fr_beamAt_12 (S : MS) (a1 : Int32) : Option (Int32 × MS) := fr_beamAt_12_b5 16384 S a1 0 0
set_option maxHeartbeats 4000000 in
set_option maxRecDepth 100000 in
theorem tr_beamAt_12 (l : Launch) (D : va_G) (cI cJ cZ : ClassId) (ad : Nat → Nat) (S : MS) (a1 : Int32) {r1 : Int32} {S1 : MS} (h : fr_beamAt_12 S a1 = some (r1, S1)) : mCi l yX12_beamAt (Cond.code yX12_beamAt cX12_beamAt 5 (some .int) :: wsM) 2 22 D cI cJ cZ ad S [.ref (ad 12), .int a1] (fun r S9 => r = r1 ∧ S9 = S1) := by
  intro sz
  refine Met.ofW (cc := cX12_beamAt) (maxL := 5) (ret := (some .int)) (by decide) rfl ?_
  intro p e s m args below meth c s₁ B hml hv
  obtain ⟨rfl, hsz, hP, hK, hD0, hR⟩ := hv
  have hx := B.exec
  have hb := B.bytes
  have hr := B.returns
  have hts := atoms_spec (ws := (Cond.code yX12_beamAt cX12_beamAt 5 (some .int) :: wsM)) B.pre
  have hown : s.vm.findClass RX12 = some m.cls := findClass_of_methodNamed B.named
  have hlocks := B.notSynchronized
  subst hsz
  have hD := hD0.self (sz := s.heap.size)
  generalize hAe : va_A (MW cI cJ cZ ad S) s.heap.size = A at hD ⊢
  have hA : ∀ q : Nat, s.heap.size ≤ q → A q := fun q h => by rw [← hAe]; exact Or.inr h
  have G : mG D cI cJ cZ ad A s.heap s.heap [] S := ⟨hP, hD, va_S.rf⟩
  have E : mE p c cX12_beamAt s m ([.ref (ad 0), .ref (ad 12), .int a1] : List Value).toArray (Cond.code yX12_beamAt cX12_beamAt 5 (some .int) :: wsM) D cI cJ cZ := ⟨hx, hb, hts, hown, hK, fun w h => .tail _ (iM_x h)⟩
  have hl := lv_entry ([.ref (ad 0), .ref (ad 12), .int a1]) (n := 5) (Nat.le_of_ble_eq_true rfl)
  rw [lg_entry_eq]
  generalize (lg_sl ([.ref (ad 0), .ref (ad 12), .int a1]) ++ List.replicate (5 - (lg_sl ([.ref (ad 0), .ref (ad 12), .int a1])).length) Slot.unset).toArray = ls at hl ⊢
  have hl : lv_has ls 5 [(0, .ref (ad 0)), (1, .ref (ad 12)), (2, .int a1)] := hl
  unfold fr_beamAt_12 at h
  refine lv_iconst (v := 0) hx hb dX12_beamAt_0 (by decide) ?_
  refine lv_istore_n (lv' := [(3, .int 0), (0, .ref (ad 0)), (1, .ref (ad 12)), (2, .int a1)]) hx hb dX12_beamAt_1 rfl hl (by decide) rfl (fun ls hl => ?_)
  refine lv_iconst (v := 0) hx hb dX12_beamAt_2 (by decide) ?_
  refine lv_istore (lv' := [(4, .int 0), (3, .int 0), (0, .ref (ad 0)), (1, .ref (ad 12)), (2, .int a1)]) hx hb dX12_beamAt_3 hl (by decide) rfl (fun ls hl => ?_)
  have hl := lv_sub hl [2, 3, 4, 1, 0] rfl
  exact tr_beamAt_12_b5 E hA hR hml (fun H locs ls G => W.iret (v := r1) hx hb hr (fun t ht hW => ⟨⟨r1, S1, rfl, ⟨rfl, rfl⟩, ⟨by rw [ht]; exact G.1, va_K.moved hW.alike hK, G.2.1⟩⟩, G.2.2.F ht⟩) G.2.2.2.2 dX12_beamAt_87) _ _ _ _ _ _ _ _ h G hl
def fr_beam_b54  (S : MS) (s0 : Int32) : Option (Int32 × MS) := some (s0, S)
set_option maxHeartbeats 4000000 in
set_option maxRecDepth 100000 in
theorem tr_beam_b54 {p : Program} {l : Launch} {e : Env} {s : State} {m : MethodId} {args : Array Value} {below : List Frame} {meth : Method} {c : Code} {Q : State → Prop} {D : va_G} {A : Nat → Prop} {H0 : Heap} {cI cJ cZ : ClassId} {ad : Nat → Nat} {r1 : Int32} {S1 : MS} (E : mE p c cX12_beam s m args (Cond.code yX12_beam cX12_beam 3 (some .int) :: wsM) D cI cJ cZ) (hA : ∀ q : Nat, H0.size ≤ q → A q) (hR : sR s) (hml : c.maxLocals = 3) (kr13 : ∀ (H : Heap) (locs : List Loc) (ls : Array Slot), mG D cI cJ cZ ad A H0 H locs S1 → W p l e { frames := 3, cells := 0, slots := 0, locals := 46 } s m args below meth c H locs 0 0 Q (F0 m 13 ls [.int r1])) (kr54 : ∀ (H : Heap) (locs : List Loc) (ls : Array Slot), mG D cI cJ cZ ad A H0 H locs S1 → W p l e { frames := 3, cells := 0, slots := 0, locals := 46 } s m args below meth c H locs 0 0 Q (F0 m 54 ls [.int r1])) : ∀ (S : MS) (H : Heap) (locs : List Loc) (ls : Array Slot) (s0 : Int32), fr_beam_b54 S s0 = some (r1, S1) → mG D cI cJ cZ ad A H0 H locs S → lv_has ls 3 [] → W p l e { frames := 3, cells := 0, slots := 0, locals := 46 } s m args below meth c H locs 0 0 Q (F0 m 54 ls [.int s0]) := by
  have hx := E.1
  have hb := E.2.1
  have hts := E.2.2.1
  have hown := E.2.2.2.1
  have hK := E.2.2.2.2.1
  intro S H locs ls s0 h G hl
  unfold fr_beam_b54 at h
  rw [(osome2 h).2] at G
  refine lv_to (osome2 h).1 ?_
  exact kr54 _ _ _ G
def fr_beam (S : MS) (a0 : Int32) (a1 : Int32) : Option (Int32 × MS) := obind2 (fr_isCell S a0) fun r5 S2 => obind2 (fr_mayAsk S2 r5) fun r9 S6 => if r9 = 0 then (some (0, S6)) else (obind (fr_laysCell S6 a0) fun S11 => obind2 (fr_windowOf_12 S11) fun r17 S14 => elet (r17 - 1) fun v18 => obind (fr_in a1 0 v18) fun r19 => if r19 = 0 then (obind2 (fr_throwsAt S14 3) fun r25 S22 => fr_beam_b54 S22 r25) else (obind2 (fr_beamAt_12 S14 a1) fun r29 S26 => fr_beam_b54 S26 r29))
set_option maxHeartbeats 4000000 in
set_option maxRecDepth 100000 in
theorem tr_beam (l : Launch) (D : va_G) (cI cJ cZ : ClassId) (ad : Nat → Nat) (S : MS) (a0 : Int32) (a1 : Int32) {r1 : Int32} {S1 : MS} (h : fr_beam S a0 a1 = some (r1, S1)) : mCi l yX12_beam (Cond.code yX12_beam cX12_beam 3 (some .int) :: wsM) 3 46 D cI cJ cZ ad S [.int a0, .int a1] (fun r S9 => r = r1 ∧ S9 = S1) := by
  intro sz
  refine Met.ofW (cc := cX12_beam) (maxL := 3) (ret := (some .int)) (by decide) rfl ?_
  intro p e s m args below meth c s₁ B hml hv
  obtain ⟨rfl, hsz, hP, hK, hD0, hR⟩ := hv
  have hx := B.exec
  have hb := B.bytes
  have hr := B.returns
  have hts := atoms_spec (ws := (Cond.code yX12_beam cX12_beam 3 (some .int) :: wsM)) B.pre
  have hown : s.vm.findClass RX12 = some m.cls := findClass_of_methodNamed B.named
  have hlocks := B.notSynchronized
  subst hsz
  have hD := hD0.self (sz := s.heap.size)
  generalize hAe : va_A (MW cI cJ cZ ad S) s.heap.size = A at hD ⊢
  have hA : ∀ q : Nat, s.heap.size ≤ q → A q := fun q h => by rw [← hAe]; exact Or.inr h
  have G : mG D cI cJ cZ ad A s.heap s.heap [] S := ⟨hP, hD, va_S.rf⟩
  have E : mE p c cX12_beam s m ([.ref (ad 0), .int a0, .int a1] : List Value).toArray (Cond.code yX12_beam cX12_beam 3 (some .int) :: wsM) D cI cJ cZ := ⟨hx, hb, hts, hown, hK, fun w h => .tail _ (iM_x h)⟩
  have hl := lv_entry ([.ref (ad 0), .int a0, .int a1]) (n := 3) (Nat.le_of_ble_eq_true rfl)
  rw [lg_entry_eq]
  generalize (lg_sl ([.ref (ad 0), .int a0, .int a1]) ++ List.replicate (3 - (lg_sl ([.ref (ad 0), .int a0, .int a1])).length) Slot.unset).toArray = ls at hl ⊢
  have hl : lv_has ls 3 [(0, .ref (ad 0)), (1, .int a0), (2, .int a1)] := hl
  unfold fr_beam at h
  refine lv_aload_n hx hb dX12_beam_0 rfl (lv_at hl 0 rfl) ?_
  refine lv_aload_n hx hb dX12_beam_1 rfl (lv_at hl 0 rfl) ?_
  refine lv_iload_n hx hb dX12_beam_2 rfl (lv_at hl 1 rfl) ?_
  obtain ⟨r5, S2, eS2, h⟩ := obind2_some h
  refine m_calli (As := [.int a0]) (rest := [.ref (ad 0)]) E G hA hR hml (tr_isCell l D cI cJ cZ ad S a0 eS2) (cwV 1 hts (gmV qM_326 qM_327 qM_328 qM_35 qM_307) rfl rfl rfl (by decide +kernel) ⟨Nat.le_of_ble_eq_true rfl, Nat.le_of_ble_eq_true rfl⟩) rfl hl.1 rfl (lv_room (Nat.le_of_ble_eq_true rfl)) dX12_beam_3 ⟨Nat.zero_le _, Nat.zero_le _⟩ (fun q3 S4 H locs hq G => ?_)
  obtain ⟨hq1, hq2⟩ := hq
  rw [hq2] at G
  refine lv_to hq1 ?_
  clear hq1 hq2 eS2
  obtain ⟨r9, S6, eS6, h⟩ := obind2_some h
  refine m_calli (As := [.int r5]) (rest := []) E G hA hR hml (tr_mayAsk l D cI cJ cZ ad S2 r5 eS6) (cwV 1 hts (gmV qM_319 qM_320 qM_321 qM_35 qM_304) rfl rfl rfl (by decide +kernel) ⟨Nat.le_of_ble_eq_true rfl, Nat.le_of_ble_eq_true rfl⟩) rfl hl.1 rfl (lv_room (Nat.le_of_ble_eq_true rfl)) dX12_beam_6 ⟨Nat.zero_le _, Nat.zero_le _⟩ (fun q7 S8 H locs hq G => ?_)
  obtain ⟨hq1, hq2⟩ := hq
  rw [hq2] at G
  refine lv_to hq1 ?_
  clear hq1 hq2 eS6
  refine lv_if_ne (tgt := 14) hx hb dX12_beam_9 (by decide) (fun c10 => ?_) (fun c10 => ?_)
  · have h := oif_neg c10 h
    refine lv_aload_n hx hb dX12_beam_14 rfl (lv_at hl 0 rfl) ?_
    refine lv_iload_n hx hb dX12_beam_15 rfl (lv_at hl 1 rfl) ?_
    obtain ⟨S11, eS11, h⟩ := obind_some h
    refine m_callv (As := [.int a0]) (rest := []) E G hA hR hml (tr_laysCell l D cI cJ cZ ad S6 a0 eS11) (cwV 1 hts (gmV qM_290 qM_291 qM_292 qM_35 qM_270) rfl rfl rfl (by decide +kernel) ⟨Nat.le_of_ble_eq_true rfl, Nat.le_of_ble_eq_true rfl⟩) rfl hl.1 rfl (lv_room (Nat.le_of_ble_eq_true rfl)) dX12_beam_16 ⟨Nat.zero_le _, Nat.zero_le _⟩ (fun S13 H locs hq G => ?_)
    rw [hq] at G
    clear hq eS11
    refine lv_iload_n hx hb dX12_beam_19 rfl (lv_at hl 2 rfl) ?_
    refine lv_iconst (v := 0) hx hb dX12_beam_20 (by decide) ?_
    refine lv_aload_n hx hb dX12_beam_21 rfl (lv_at hl 0 rfl) ?_
    refine lv_aload_n hx hb dX12_beam_22 rfl (lv_at hl 0 rfl) ?_
    refine m_get E G 12 (v := .ref (ad 12)) (by decide) (.tail _ qM_9) rfl dX12_beam_23 rfl ?_
    obtain ⟨r17, S14, eS14, h⟩ := obind2_some h
    refine m_calli (As := [.ref (ad 12)]) (rest := [.int 0, .int a1]) E G hA hR hml (tr_windowOf_12 l D cI cJ cZ ad S11 eS14) (cwV 1 hts (gmV qM_283 qM_284 qM_285 qM_35 qM_273) rfl rfl rfl (by decide +kernel) ⟨Nat.le_of_ble_eq_true rfl, Nat.le_of_ble_eq_true rfl⟩) rfl hl.1 rfl (lv_room (Nat.le_of_ble_eq_true rfl)) dX12_beam_26 ⟨Nat.zero_le _, Nat.zero_le _⟩ (fun q15 S16 H locs hq G => ?_)
    obtain ⟨hq1, hq2⟩ := hq
    rw [hq2] at G
    refine lv_to hq1 ?_
    clear hq1 hq2 eS14
    refine lv_iconst (v := 1) hx hb dX12_beam_29 (by decide) ?_
    refine lv_isub hx hb dX12_beam_30 ?_
    refine lv_topi (fun v18 ev18 => ?_)
    have h := elet_at ev18 h
    clear ev18
    obtain ⟨r19, er19, h⟩ := obind_some h
    refine m_stat (As := [.int a1, .int 0, .int v18]) (rest := []) ⟨hx, hb, hml, hown, hts⟩ (tr_in l a1 0 v18 er19) (cwS 3 hts (gmS qM_52 qM_53 qM_35 qM_27) rfl rfl rfl (by decide +kernel) ⟨Nat.le_of_ble_eq_true rfl, Nat.le_of_ble_eq_true rfl⟩) rfl hl.1 rfl (lv_room (Nat.le_of_ble_eq_true rfl)) dX12_beam_31 ⟨Nat.zero_le _, Nat.zero_le _⟩ (fun q20 hq => ?_)
    refine lv_to hq ?_
    clear hq er19
    refine lv_if_eq (tgt := 49) hx hb dX12_beam_34 (by decide) (fun c21 => ?_) (fun c21 => ?_)
    · have h := oif_pos c21 h
      refine lv_aload_n hx hb dX12_beam_49 rfl (lv_at hl 0 rfl) ?_
      refine lv_iconst (v := 3) hx hb dX12_beam_50 (by decide) ?_
      obtain ⟨r25, S22, eS22, h⟩ := obind2_some h
      refine m_calli (As := [.int 3]) (rest := []) E G hA hR hml (tr_throwsAt l D cI cJ cZ ad S14 3 eS22) (cwV 1 hts (gmV qM_195 qM_196 qM_197 qM_35 qM_28) rfl rfl rfl (by decide +kernel) ⟨Nat.le_of_ble_eq_true rfl, Nat.le_of_ble_eq_true rfl⟩) rfl hl.1 rfl (lv_room (Nat.le_of_ble_eq_true rfl)) dX12_beam_51 ⟨Nat.zero_le _, Nat.zero_le _⟩ (fun q23 S24 H locs hq G => ?_)
      obtain ⟨hq1, hq2⟩ := hq
      rw [hq2] at G
      refine lv_to hq1 ?_
      clear hq1 hq2 eS22
      have hl := lv_sub hl [] rfl
      exact tr_beam_b54 E hA hR hml (fun H locs ls G => W.iret (v := r1) hx hb hr (fun t ht hW => ⟨⟨r1, S1, rfl, ⟨rfl, rfl⟩, ⟨by rw [ht]; exact G.1, va_K.moved hW.alike hK, G.2.1⟩⟩, G.2.2.F ht⟩) G.2.2.2.2 dX12_beam_13) (fun H locs ls G => W.iret (v := r1) hx hb hr (fun t ht hW => ⟨⟨r1, S1, rfl, ⟨rfl, rfl⟩, ⟨by rw [ht]; exact G.1, va_K.moved hW.alike hK, G.2.1⟩⟩, G.2.2.F ht⟩) G.2.2.2.2 dX12_beam_54) _ _ _ _ _ h G hl
    · have h := oif_neg c21 h
      refine lv_aload_n hx hb dX12_beam_37 rfl (lv_at hl 0 rfl) ?_
      refine lv_aload_n hx hb dX12_beam_38 rfl (lv_at hl 0 rfl) ?_
      refine m_get E G 12 (v := .ref (ad 12)) (by decide) (.tail _ qM_9) rfl dX12_beam_39 rfl ?_
      refine lv_iload_n hx hb dX12_beam_42 rfl (lv_at hl 2 rfl) ?_
      obtain ⟨r29, S26, eS26, h⟩ := obind2_some h
      refine m_calli (As := [.ref (ad 12), .int a1]) (rest := []) E G hA hR hml (tr_beamAt_12 l D cI cJ cZ ad S14 a1 eS26) (cwV 2 hts (gmV qM_279 qM_280 qM_281 qM_35 qM_277) rfl rfl rfl (by decide +kernel) ⟨Nat.le_of_ble_eq_true rfl, Nat.le_of_ble_eq_true rfl⟩) rfl hl.1 rfl (lv_room (Nat.le_of_ble_eq_true rfl)) dX12_beam_43 ⟨Nat.zero_le _, Nat.zero_le _⟩ (fun q27 S28 H locs hq G => ?_)
      obtain ⟨hq1, hq2⟩ := hq
      rw [hq2] at G
      refine lv_to hq1 ?_
      clear hq1 hq2 eS26
      refine lv_goto (tgt := 54) hx hb dX12_beam_46 (by decide) ?_
      have hl := lv_sub hl [] rfl
      exact tr_beam_b54 E hA hR hml (fun H locs ls G => W.iret (v := r1) hx hb hr (fun t ht hW => ⟨⟨r1, S1, rfl, ⟨rfl, rfl⟩, ⟨by rw [ht]; exact G.1, va_K.moved hW.alike hK, G.2.1⟩⟩, G.2.2.F ht⟩) G.2.2.2.2 dX12_beam_13) (fun H locs ls G => W.iret (v := r1) hx hb hr (fun t ht hW => ⟨⟨r1, S1, rfl, ⟨rfl, rfl⟩, ⟨by rw [ht]; exact G.1, va_K.moved hW.alike hK, G.2.1⟩⟩, G.2.2.F ht⟩) G.2.2.2.2 dX12_beam_54) _ _ _ _ _ h G hl
  · have h := oif_pos c10 h
    refine lv_iconst (v := 0) hx hb dX12_beam_12 (by decide) ?_
    exact W.iret (v := 0) hx hb hr (fun t ht hW => ⟨⟨0, S6, rfl, osome2 h, ⟨by rw [ht]; exact G.1, va_K.moved hW.alike hK, G.2.1⟩⟩, G.2.2.F ht⟩) G.2.2.2.2 dX12_beam_13
def fr_energy_12_b6  : Nat → MS → Int32 → Int64 → Int32 → Option (Int64 × MS)
  | 0, _, _, _, _ => none
  | n + 1, S, l3, l4, l6 => if l3 ≤ l6 then (some (l4, S)) else (obind2 (fr_beamAt_12 S l6) fun r6 S3 => elet (r6.toInt64) fun v7 => elet (v7 * v7) fun v8 => elet (l4 + v8) fun v9 => elet (l6 + Int32.ofInt (1)) fun v10 => fr_energy_12_b6 n S3 l3 v9 v10)
set_option maxHeartbeats 4000000 in
set_option maxRecDepth 100000 in
theorem tr_energy_12_b6 {p : Program} {l : Launch} {e : Env} {s : State} {m : MethodId} {args : Array Value} {below : List Frame} {meth : Method} {c : Code} {Q : State → Prop} {D : va_G} {A : Nat → Prop} {H0 : Heap} {cI cJ cZ : ClassId} {ad : Nat → Nat} {r1 : Int64} {S1 : MS} (E : mE p c cX12_energy s m args (Cond.code yX12_energy cX12_energy 9 (some .long) :: wsM) D cI cJ cZ) (hA : ∀ q : Nat, H0.size ≤ q → A q) (hR : sR s) (hml : c.maxLocals = 9) (kr40 : ∀ (H : Heap) (locs : List Loc) (ls : Array Slot), mG D cI cJ cZ ad A H0 H locs S1 → W p l e { frames := 3, cells := 0, slots := 0, locals := 46 } s m args below meth c H locs 0 0 Q (F0 m 40 ls [.long r1])) : ∀ n : Nat, ∀ (S : MS) (H : Heap) (locs : List Loc) (ls : Array Slot) (l3 : Int32) (l4 : Int64) (l6 : Int32), fr_energy_12_b6 n S l3 l4 l6 = some (r1, S1) → mG D cI cJ cZ ad A H0 H locs S → lv_has ls 9 [(0, .ref (ad 0)), (1, .ref (ad 12)), (3, .int l3), (4, .long l4), (6, .int l6)] → W p l e { frames := 3, cells := 0, slots := 0, locals := 46 } s m args below meth c H locs 0 0 Q (F0 m 6 ls []) := by
  have hx := E.1
  have hb := E.2.1
  have hts := E.2.2.1
  have hown := E.2.2.2.1
  have hK := E.2.2.2.2.1
  intro n
  induction n with
  | zero =>
    intro S H locs ls l3 l4 l6 h
    have h : (none : Option (Int64 × MS)) = some (r1, S1) := h
    cases h
  | succ n ih =>
    intro S H locs ls l3 l4 l6 h G hl
    unfold fr_energy_12_b6 at h
    refine lv_iload hx hb dX12_energy_6 (lv_at hl 4 rfl) ?_
    refine lv_iload_n hx hb dX12_energy_8 rfl (lv_at hl 2 rfl) ?_
    refine lv_icmp_ge (tgt := 38) hx hb dX12_energy_9 (by decide) (fun c2 => ?_) (fun c2 => ?_)
    · have h := oif_pos c2 h
      refine lv_lload hx hb dX12_energy_38 (lv_at hl 3 rfl) ?_
      rw [(osome2 h).2] at G
      refine lv_tol (osome2 h).1 ?_
      exact kr40 _ _ _ G
    · have h := oif_neg c2 h
      refine lv_aload_n hx hb dX12_energy_12 rfl (lv_at hl 0 rfl) ?_
      refine lv_aload_n hx hb dX12_energy_13 rfl (lv_at hl 1 rfl) ?_
      refine lv_iload hx hb dX12_energy_14 (lv_at hl 4 rfl) ?_
      obtain ⟨r6, S3, eS3, h⟩ := obind2_some h
      refine m_calli (As := [.ref (ad 12), .int l6]) (rest := []) E G hA hR hml (tr_beamAt_12 l D cI cJ cZ ad S l6 eS3) (cwV 2 hts (gmV qM_279 qM_280 qM_281 qM_35 qM_277) rfl rfl rfl (by decide +kernel) ⟨Nat.le_of_ble_eq_true rfl, Nat.le_of_ble_eq_true rfl⟩) rfl hl.1 rfl (lv_room (Nat.le_of_ble_eq_true rfl)) dX12_energy_16 ⟨Nat.zero_le _, Nat.zero_le _⟩ (fun q4 S5 H locs hq G => ?_)
      obtain ⟨hq1, hq2⟩ := hq
      rw [hq2] at G
      refine lv_to hq1 ?_
      clear hq1 hq2 eS3
      refine lv_i2l (v := r6.toInt64) hx hb dX12_energy_19 rfl ?_
      refine lv_topl (fun v7 ev7 => ?_)
      have h := elet_at ev7 h
      clear ev7
      refine lv_lstore (lv' := [(7, .long v7), (0, .ref (ad 0)), (1, .ref (ad 12)), (3, .int l3), (4, .long l4), (6, .int l6)]) hx hb dX12_energy_20 hl (by decide) rfl (fun ls hl => ?_)
      refine lv_lload hx hb dX12_energy_22 (lv_at hl 4 rfl) ?_
      refine lv_lload hx hb dX12_energy_24 (lv_at hl 0 rfl) ?_
      refine lv_lload hx hb dX12_energy_26 (lv_at hl 0 rfl) ?_
      refine lv_lmul hx hb dX12_energy_28 ?_
      refine lv_topl (fun v8 ev8 => ?_)
      have h := elet_at ev8 h
      clear ev8
      refine lv_ladd hx hb dX12_energy_29 ?_
      refine lv_topl (fun v9 ev9 => ?_)
      have h := elet_at ev9 h
      clear ev9
      refine lv_lstore (lv' := [(4, .long v9), (7, .long v7), (0, .ref (ad 0)), (1, .ref (ad 12)), (3, .int l3), (6, .int l6)]) hx hb dX12_energy_30 hl (by decide) rfl (fun ls hl => ?_)
      obtain ⟨v10, ev10, h⟩ := elet_some h
      refine lv_iinc (v := v10) (lv' := [(6, .int v10), (4, .long v9), (7, .long v7), (0, .ref (ad 0)), (1, .ref (ad 12)), (3, .int l3)]) hx hb dX12_energy_32 hl (k := 5) rfl ev10.symm (by decide) rfl (fun ls hl => ?_)
      refine lv_goto (tgt := 6) hx hb dX12_energy_35 (by decide) ?_
      have hl := lv_sub hl [3, 4, 5, 1, 0] rfl
      exact ih _ _ _ _ _ _ _ h G hl
def fr_energy_12 (S : MS) (a1 : Int32) (a2 : Int32) : Option (Int64 × MS) := fr_energy_12_b6 16384 S a2 (0 : Int64) a1
set_option maxHeartbeats 4000000 in
set_option maxRecDepth 100000 in
theorem tr_energy_12 (l : Launch) (D : va_G) (cI cJ cZ : ClassId) (ad : Nat → Nat) (S : MS) (a1 : Int32) (a2 : Int32) {r1 : Int64} {S1 : MS} (h : fr_energy_12 S a1 a2 = some (r1, S1)) : mCl l yX12_energy (Cond.code yX12_energy cX12_energy 9 (some .long) :: wsM) 3 46 D cI cJ cZ ad S [.ref (ad 12), .int a1, .int a2] (fun r S9 => r = r1 ∧ S9 = S1) := by
  intro sz
  refine Met.ofW (cc := cX12_energy) (maxL := 9) (ret := (some .long)) (by decide) rfl ?_
  intro p e s m args below meth c s₁ B hml hv
  obtain ⟨rfl, hsz, hP, hK, hD0, hR⟩ := hv
  have hx := B.exec
  have hb := B.bytes
  have hr := B.returns
  have hts := atoms_spec (ws := (Cond.code yX12_energy cX12_energy 9 (some .long) :: wsM)) B.pre
  have hown : s.vm.findClass RX12 = some m.cls := findClass_of_methodNamed B.named
  have hlocks := B.notSynchronized
  subst hsz
  have hD := hD0.self (sz := s.heap.size)
  generalize hAe : va_A (MW cI cJ cZ ad S) s.heap.size = A at hD ⊢
  have hA : ∀ q : Nat, s.heap.size ≤ q → A q := fun q h => by rw [← hAe]; exact Or.inr h
  have G : mG D cI cJ cZ ad A s.heap s.heap [] S := ⟨hP, hD, va_S.rf⟩
  have E : mE p c cX12_energy s m ([.ref (ad 0), .ref (ad 12), .int a1, .int a2] : List Value).toArray (Cond.code yX12_energy cX12_energy 9 (some .long) :: wsM) D cI cJ cZ := ⟨hx, hb, hts, hown, hK, fun w h => .tail _ (iM_x h)⟩
  have hl := lv_entry ([.ref (ad 0), .ref (ad 12), .int a1, .int a2]) (n := 9) (Nat.le_of_ble_eq_true rfl)
  rw [lg_entry_eq]
  generalize (lg_sl ([.ref (ad 0), .ref (ad 12), .int a1, .int a2]) ++ List.replicate (9 - (lg_sl ([.ref (ad 0), .ref (ad 12), .int a1, .int a2])).length) Slot.unset).toArray = ls at hl ⊢
  have hl : lv_has ls 9 [(0, .ref (ad 0)), (1, .ref (ad 12)), (2, .int a1), (3, .int a2)] := hl
  unfold fr_energy_12 at h
  refine lv_lconst (v := 0) hx hb dX12_energy_0 (by decide) ?_
  refine lv_lstore (lv' := [(4, .long (0 : Int64)), (0, .ref (ad 0)), (1, .ref (ad 12)), (2, .int a1), (3, .int a2)]) hx hb dX12_energy_1 hl (by decide) rfl (fun ls hl => ?_)
  refine lv_iload_n hx hb dX12_energy_3 rfl (lv_at hl 3 rfl) ?_
  refine lv_istore (lv' := [(6, .int a1), (4, .long (0 : Int64)), (0, .ref (ad 0)), (1, .ref (ad 12)), (2, .int a1), (3, .int a2)]) hx hb dX12_energy_4 hl (by decide) rfl (fun ls hl => ?_)
  have hl := lv_sub hl [2, 3, 5, 1, 0] rfl
  exact tr_energy_12_b6 E hA hR hml (fun H locs ls G => W.lret (v := r1) hx hb hr (fun t ht hW => ⟨⟨r1, S1, rfl, ⟨rfl, rfl⟩, ⟨by rw [ht]; exact G.1, va_K.moved hW.alike hK, G.2.1⟩⟩, G.2.2.F ht⟩) G.2.2.2.2 dX12_energy_40) _ _ _ _ _ _ _ _ h G hl
def fr_powerHere_12_b24  (S : MS) (s0 : Int64) : Option (Int64 × MS) := some (s0, S)
set_option maxHeartbeats 4000000 in
set_option maxRecDepth 100000 in
theorem tr_powerHere_12_b24 {p : Program} {l : Launch} {e : Env} {s : State} {m : MethodId} {args : Array Value} {below : List Frame} {meth : Method} {c : Code} {Q : State → Prop} {D : va_G} {A : Nat → Prop} {H0 : Heap} {cI cJ cZ : ClassId} {ad : Nat → Nat} {r1 : Int64} {S1 : MS} (E : mE p c cX12_powerHere s m args (Cond.code yX12_powerHere cX12_powerHere 3 (some .long) :: wsM) D cI cJ cZ) (hA : ∀ q : Nat, H0.size ≤ q → A q) (hR : sR s) (hml : c.maxLocals = 3) (kr24 : ∀ (H : Heap) (locs : List Loc) (ls : Array Slot), mG D cI cJ cZ ad A H0 H locs S1 → W p l e { frames := 4, cells := 0, slots := 0, locals := 74 } s m args below meth c H locs 0 0 Q (F0 m 24 ls [.long r1])) : ∀ (S : MS) (H : Heap) (locs : List Loc) (ls : Array Slot) (s0 : Int64), fr_powerHere_12_b24 S s0 = some (r1, S1) → mG D cI cJ cZ ad A H0 H locs S → lv_has ls 3 [] → W p l e { frames := 4, cells := 0, slots := 0, locals := 74 } s m args below meth c H locs 0 0 Q (F0 m 24 ls [.long s0]) := by
  have hx := E.1
  have hb := E.2.1
  have hts := E.2.2.1
  have hown := E.2.2.2.1
  have hK := E.2.2.2.2.1
  intro S H locs ls s0 h G hl
  unfold fr_powerHere_12_b24 at h
  rw [(osome2 h).2] at G
  refine lv_tol (osome2 h).1 ?_
  exact kr24 _ _ _ G
def fr_powerHere_12 (S : MS)  : Option (Int64 × MS) := obind2 (fr_windowOf_12 S) fun r5 S2 => if r5 = 0 then (fr_powerHere_12_b24 S2 (0 : Int64)) else (obind2 (fr_energy_12 S2 0 r5) fun r10 S7 => elet (r5.toInt64) fun v11 => oif (¬ v11 = 0) <| elet (r10 / v11) fun v13 => fr_powerHere_12_b24 S7 v13)
set_option maxHeartbeats 4000000 in
set_option maxRecDepth 100000 in
theorem tr_powerHere_12 (l : Launch) (D : va_G) (cI cJ cZ : ClassId) (ad : Nat → Nat) (S : MS)  {r1 : Int64} {S1 : MS} (h : fr_powerHere_12 S = some (r1, S1)) : mCl l yX12_powerHere (Cond.code yX12_powerHere cX12_powerHere 3 (some .long) :: wsM) 4 74 D cI cJ cZ ad S [.ref (ad 12)] (fun r S9 => r = r1 ∧ S9 = S1) := by
  intro sz
  refine Met.ofW (cc := cX12_powerHere) (maxL := 3) (ret := (some .long)) (by decide) rfl ?_
  intro p e s m args below meth c s₁ B hml hv
  obtain ⟨rfl, hsz, hP, hK, hD0, hR⟩ := hv
  have hx := B.exec
  have hb := B.bytes
  have hr := B.returns
  have hts := atoms_spec (ws := (Cond.code yX12_powerHere cX12_powerHere 3 (some .long) :: wsM)) B.pre
  have hown : s.vm.findClass RX12 = some m.cls := findClass_of_methodNamed B.named
  have hlocks := B.notSynchronized
  subst hsz
  have hD := hD0.self (sz := s.heap.size)
  generalize hAe : va_A (MW cI cJ cZ ad S) s.heap.size = A at hD ⊢
  have hA : ∀ q : Nat, s.heap.size ≤ q → A q := fun q h => by rw [← hAe]; exact Or.inr h
  have G : mG D cI cJ cZ ad A s.heap s.heap [] S := ⟨hP, hD, va_S.rf⟩
  have E : mE p c cX12_powerHere s m ([.ref (ad 0), .ref (ad 12)] : List Value).toArray (Cond.code yX12_powerHere cX12_powerHere 3 (some .long) :: wsM) D cI cJ cZ := ⟨hx, hb, hts, hown, hK, fun w h => .tail _ (iM_x h)⟩
  have hl := lv_entry ([.ref (ad 0), .ref (ad 12)]) (n := 3) (Nat.le_of_ble_eq_true rfl)
  rw [lg_entry_eq]
  generalize (lg_sl ([.ref (ad 0), .ref (ad 12)]) ++ List.replicate (3 - (lg_sl ([.ref (ad 0), .ref (ad 12)])).length) Slot.unset).toArray = ls at hl ⊢
  have hl : lv_has ls 3 [(0, .ref (ad 0)), (1, .ref (ad 12))] := hl
  unfold fr_powerHere_12 at h
  refine lv_aload_n hx hb dX12_powerHere_0 rfl (lv_at hl 0 rfl) ?_
  refine lv_aload_n hx hb dX12_powerHere_1 rfl (lv_at hl 1 rfl) ?_
  obtain ⟨r5, S2, eS2, h⟩ := obind2_some h
  refine m_calli (As := [.ref (ad 12)]) (rest := []) E G hA hR hml (tr_windowOf_12 l D cI cJ cZ ad S eS2) (cwV 1 hts (gmV qM_283 qM_284 qM_285 qM_35 qM_273) rfl rfl rfl (by decide +kernel) ⟨Nat.le_of_ble_eq_true rfl, Nat.le_of_ble_eq_true rfl⟩) rfl hl.1 rfl (lv_room (Nat.le_of_ble_eq_true rfl)) dX12_powerHere_2 ⟨Nat.zero_le _, Nat.zero_le _⟩ (fun q3 S4 H locs hq G => ?_)
  obtain ⟨hq1, hq2⟩ := hq
  rw [hq2] at G
  refine lv_to hq1 ?_
  clear hq1 hq2 eS2
  refine lv_istore_n (lv' := [(2, .int r5), (0, .ref (ad 0)), (1, .ref (ad 12))]) hx hb dX12_powerHere_5 rfl hl (by decide) rfl (fun ls hl => ?_)
  refine lv_iload_n hx hb dX12_powerHere_6 rfl (lv_at hl 0 rfl) ?_
  refine lv_if_ne (tgt := 14) hx hb dX12_powerHere_7 (by decide) (fun c6 => ?_) (fun c6 => ?_)
  · have h := oif_neg c6 h
    refine lv_aload_n hx hb dX12_powerHere_14 rfl (lv_at hl 1 rfl) ?_
    refine lv_aload_n hx hb dX12_powerHere_15 rfl (lv_at hl 2 rfl) ?_
    refine lv_iconst (v := 0) hx hb dX12_powerHere_16 (by decide) ?_
    refine lv_iload_n hx hb dX12_powerHere_17 rfl (lv_at hl 0 rfl) ?_
    obtain ⟨r10, S7, eS7, h⟩ := obind2_some h
    refine m_calll (As := [.ref (ad 12), .int 0, .int r5]) (rest := []) E G hA hR hml (tr_energy_12 l D cI cJ cZ ad S2 0 r5 eS7) (cwV 3 hts (gmV qM_286 qM_287 qM_288 qM_35 qM_278) rfl rfl rfl (by decide +kernel) ⟨Nat.le_of_ble_eq_true rfl, Nat.le_of_ble_eq_true rfl⟩) rfl hl.1 rfl (lv_room (Nat.le_of_ble_eq_true rfl)) dX12_powerHere_18 ⟨Nat.zero_le _, Nat.zero_le _⟩ (fun q8 S9 H locs hq G => ?_)
    obtain ⟨hq1, hq2⟩ := hq
    rw [hq2] at G
    refine lv_tol hq1 ?_
    clear hq1 hq2 eS7
    refine lv_iload_n hx hb dX12_powerHere_21 rfl (lv_at hl 0 rfl) ?_
    refine lv_i2l (v := r5.toInt64) hx hb dX12_powerHere_22 rfl ?_
    refine lv_topl (fun v11 ev11 => ?_)
    have h := elet_at ev11 h
    clear ev11
    obtain ⟨g12, h⟩ := oif_some h
    refine lv_ldiv hx hb dX12_powerHere_23 g12 ?_
    refine lv_topl (fun v13 ev13 => ?_)
    have h := elet_at ev13 h
    clear ev13
    have hl := lv_sub hl [] rfl
    exact tr_powerHere_12_b24 E hA hR hml (fun H locs ls G => W.lret (v := r1) hx hb hr (fun t ht hW => ⟨⟨r1, S1, rfl, ⟨rfl, rfl⟩, ⟨by rw [ht]; exact G.1, va_K.moved hW.alike hK, G.2.1⟩⟩, G.2.2.F ht⟩) G.2.2.2.2 dX12_powerHere_24) _ _ _ _ _ h G hl
  · have h := oif_pos c6 h
    refine lv_lconst (v := 0) hx hb dX12_powerHere_10 (by decide) ?_
    refine lv_goto (tgt := 24) hx hb dX12_powerHere_11 (by decide) ?_
    have hl := lv_sub hl [] rfl
    exact tr_powerHere_12_b24 E hA hR hml (fun H locs ls G => W.lret (v := r1) hx hb hr (fun t ht hW => ⟨⟨r1, S1, rfl, ⟨rfl, rfl⟩, ⟨by rw [ht]; exact G.1, va_K.moved hW.alike hK, G.2.1⟩⟩, G.2.2.F ht⟩) G.2.2.2.2 dX12_powerHere_24) _ _ _ _ _ h G hl
def fr_powerOf_12 (S : MS) (a1 : Int32) : Option (Int64 × MS) := obind (fr_laysCell S a1) fun S2 => obind2 (fr_powerHere_12 S2) fun r8 S5 => some (r8, S5)
set_option maxHeartbeats 4000000 in
set_option maxRecDepth 100000 in
theorem tr_powerOf_12 (l : Launch) (D : va_G) (cI cJ cZ : ClassId) (ad : Nat → Nat) (S : MS) (a1 : Int32) {r1 : Int64} {S1 : MS} (h : fr_powerOf_12 S a1 = some (r1, S1)) : mCl l yX12_powerOf (Cond.code yX12_powerOf cX12_powerOf 3 (some .long) :: wsM) 5 96 D cI cJ cZ ad S [.ref (ad 12), .int a1] (fun r S9 => r = r1 ∧ S9 = S1) := by
  intro sz
  refine Met.ofW (cc := cX12_powerOf) (maxL := 3) (ret := (some .long)) (by decide) rfl ?_
  intro p e s m args below meth c s₁ B hml hv
  obtain ⟨rfl, hsz, hP, hK, hD0, hR⟩ := hv
  have hx := B.exec
  have hb := B.bytes
  have hr := B.returns
  have hts := atoms_spec (ws := (Cond.code yX12_powerOf cX12_powerOf 3 (some .long) :: wsM)) B.pre
  have hown : s.vm.findClass RX12 = some m.cls := findClass_of_methodNamed B.named
  have hlocks := B.notSynchronized
  subst hsz
  have hD := hD0.self (sz := s.heap.size)
  generalize hAe : va_A (MW cI cJ cZ ad S) s.heap.size = A at hD ⊢
  have hA : ∀ q : Nat, s.heap.size ≤ q → A q := fun q h => by rw [← hAe]; exact Or.inr h
  have G : mG D cI cJ cZ ad A s.heap s.heap [] S := ⟨hP, hD, va_S.rf⟩
  have E : mE p c cX12_powerOf s m ([.ref (ad 0), .ref (ad 12), .int a1] : List Value).toArray (Cond.code yX12_powerOf cX12_powerOf 3 (some .long) :: wsM) D cI cJ cZ := ⟨hx, hb, hts, hown, hK, fun w h => .tail _ (iM_x h)⟩
  have hl := lv_entry ([.ref (ad 0), .ref (ad 12), .int a1]) (n := 3) (Nat.le_of_ble_eq_true rfl)
  rw [lg_entry_eq]
  generalize (lg_sl ([.ref (ad 0), .ref (ad 12), .int a1]) ++ List.replicate (3 - (lg_sl ([.ref (ad 0), .ref (ad 12), .int a1])).length) Slot.unset).toArray = ls at hl ⊢
  have hl : lv_has ls 3 [(0, .ref (ad 0)), (1, .ref (ad 12)), (2, .int a1)] := hl
  unfold fr_powerOf_12 at h
  refine lv_aload_n hx hb dX12_powerOf_0 rfl (lv_at hl 0 rfl) ?_
  refine lv_iload_n hx hb dX12_powerOf_1 rfl (lv_at hl 2 rfl) ?_
  obtain ⟨S2, eS2, h⟩ := obind_some h
  refine m_callv (As := [.int a1]) (rest := []) E G hA hR hml (tr_laysCell l D cI cJ cZ ad S a1 eS2) (cwV 1 hts (gmV qM_290 qM_291 qM_292 qM_35 qM_270) rfl rfl rfl (by decide +kernel) ⟨Nat.le_of_ble_eq_true rfl, Nat.le_of_ble_eq_true rfl⟩) rfl hl.1 rfl (lv_room (Nat.le_of_ble_eq_true rfl)) dX12_powerOf_2 ⟨Nat.zero_le _, Nat.zero_le _⟩ (fun S4 H locs hq G => ?_)
  rw [hq] at G
  clear hq eS2
  refine lv_aload_n hx hb dX12_powerOf_5 rfl (lv_at hl 0 rfl) ?_
  refine lv_aload_n hx hb dX12_powerOf_6 rfl (lv_at hl 1 rfl) ?_
  obtain ⟨r8, S5, eS5, h⟩ := obind2_some h
  refine m_calll (As := [.ref (ad 12)]) (rest := []) E G hA hR hml (tr_powerHere_12 l D cI cJ cZ ad S2 eS5) (cwV 1 hts (gmV qM_293 qM_294 qM_295 qM_35 qM_282) rfl rfl rfl (by decide +kernel) ⟨Nat.le_of_ble_eq_true rfl, Nat.le_of_ble_eq_true rfl⟩) rfl hl.1 rfl (lv_room (Nat.le_of_ble_eq_true rfl)) dX12_powerOf_7 ⟨Nat.zero_le _, Nat.zero_le _⟩ (fun q6 S7 H locs hq G => ?_)
  obtain ⟨hq1, hq2⟩ := hq
  rw [hq2] at G
  refine lv_tol hq1 ?_
  clear hq1 hq2 eS5
  exact W.lret (v := r8) hx hb hr (fun t ht hW => ⟨⟨r8, S5, rfl, osome2 h, ⟨by rw [ht]; exact G.1, va_K.moved hW.alike hK, G.2.1⟩⟩, G.2.2.F ht⟩) G.2.2.2.2 dX12_powerOf_10
def fr_power_b25  (S : MS) (s0 : Int64) : Option (Int64 × MS) := some (s0, S)
set_option maxHeartbeats 4000000 in
set_option maxRecDepth 100000 in
theorem tr_power_b25 {p : Program} {l : Launch} {e : Env} {s : State} {m : MethodId} {args : Array Value} {below : List Frame} {meth : Method} {c : Code} {Q : State → Prop} {D : va_G} {A : Nat → Prop} {H0 : Heap} {cI cJ cZ : ClassId} {ad : Nat → Nat} {r1 : Int64} {S1 : MS} (E : mE p c cX12_power s m args (Cond.code yX12_power cX12_power 2 (some .long) :: wsM) D cI cJ cZ) (hA : ∀ q : Nat, H0.size ≤ q → A q) (hR : sR s) (hml : c.maxLocals = 2) (kr25 : ∀ (H : Heap) (locs : List Loc) (ls : Array Slot), mG D cI cJ cZ ad A H0 H locs S1 → W p l e { frames := 6, cells := 0, slots := 0, locals := 118 } s m args below meth c H locs 0 0 Q (F0 m 25 ls [.long r1])) : ∀ (S : MS) (H : Heap) (locs : List Loc) (ls : Array Slot) (s0 : Int64), fr_power_b25 S s0 = some (r1, S1) → mG D cI cJ cZ ad A H0 H locs S → lv_has ls 2 [] → W p l e { frames := 6, cells := 0, slots := 0, locals := 118 } s m args below meth c H locs 0 0 Q (F0 m 25 ls [.long s0]) := by
  have hx := E.1
  have hb := E.2.1
  have hts := E.2.2.1
  have hown := E.2.2.2.1
  have hK := E.2.2.2.2.1
  intro S H locs ls s0 h G hl
  unfold fr_power_b25 at h
  rw [(osome2 h).2] at G
  refine lv_tol (osome2 h).1 ?_
  exact kr25 _ _ _ G
def fr_power (S : MS) (a0 : Int32) : Option (Int64 × MS) := obind2 (fr_isCell S a0) fun r5 S2 => obind2 (fr_mayAsk S2 r5) fun r9 S6 => if r9 = 0 then (fr_power_b25 S6 (0 : Int64)) else (obind2 (fr_powerOf_12 S6 a0) fun r14 S11 => fr_power_b25 S11 r14)
set_option maxHeartbeats 4000000 in
set_option maxRecDepth 100000 in
theorem tr_power (l : Launch) (D : va_G) (cI cJ cZ : ClassId) (ad : Nat → Nat) (S : MS) (a0 : Int32) {r1 : Int64} {S1 : MS} (h : fr_power S a0 = some (r1, S1)) : mCl l yX12_power (Cond.code yX12_power cX12_power 2 (some .long) :: wsM) 6 118 D cI cJ cZ ad S [.int a0] (fun r S9 => r = r1 ∧ S9 = S1) := by
  intro sz
  refine Met.ofW (cc := cX12_power) (maxL := 2) (ret := (some .long)) (by decide) rfl ?_
  intro p e s m args below meth c s₁ B hml hv
  obtain ⟨rfl, hsz, hP, hK, hD0, hR⟩ := hv
  have hx := B.exec
  have hb := B.bytes
  have hr := B.returns
  have hts := atoms_spec (ws := (Cond.code yX12_power cX12_power 2 (some .long) :: wsM)) B.pre
  have hown : s.vm.findClass RX12 = some m.cls := findClass_of_methodNamed B.named
  have hlocks := B.notSynchronized
  subst hsz
  have hD := hD0.self (sz := s.heap.size)
  generalize hAe : va_A (MW cI cJ cZ ad S) s.heap.size = A at hD ⊢
  have hA : ∀ q : Nat, s.heap.size ≤ q → A q := fun q h => by rw [← hAe]; exact Or.inr h
  have G : mG D cI cJ cZ ad A s.heap s.heap [] S := ⟨hP, hD, va_S.rf⟩
  have E : mE p c cX12_power s m ([.ref (ad 0), .int a0] : List Value).toArray (Cond.code yX12_power cX12_power 2 (some .long) :: wsM) D cI cJ cZ := ⟨hx, hb, hts, hown, hK, fun w h => .tail _ (iM_x h)⟩
  have hl := lv_entry ([.ref (ad 0), .int a0]) (n := 2) (Nat.le_of_ble_eq_true rfl)
  rw [lg_entry_eq]
  generalize (lg_sl ([.ref (ad 0), .int a0]) ++ List.replicate (2 - (lg_sl ([.ref (ad 0), .int a0])).length) Slot.unset).toArray = ls at hl ⊢
  have hl : lv_has ls 2 [(0, .ref (ad 0)), (1, .int a0)] := hl
  unfold fr_power at h
  refine lv_aload_n hx hb dX12_power_0 rfl (lv_at hl 0 rfl) ?_
  refine lv_aload_n hx hb dX12_power_1 rfl (lv_at hl 0 rfl) ?_
  refine lv_iload_n hx hb dX12_power_2 rfl (lv_at hl 1 rfl) ?_
  obtain ⟨r5, S2, eS2, h⟩ := obind2_some h
  refine m_calli (As := [.int a0]) (rest := [.ref (ad 0)]) E G hA hR hml (tr_isCell l D cI cJ cZ ad S a0 eS2) (cwV 1 hts (gmV qM_326 qM_327 qM_328 qM_35 qM_307) rfl rfl rfl (by decide +kernel) ⟨Nat.le_of_ble_eq_true rfl, Nat.le_of_ble_eq_true rfl⟩) rfl hl.1 rfl (lv_room (Nat.le_of_ble_eq_true rfl)) dX12_power_3 ⟨Nat.zero_le _, Nat.zero_le _⟩ (fun q3 S4 H locs hq G => ?_)
  obtain ⟨hq1, hq2⟩ := hq
  rw [hq2] at G
  refine lv_to hq1 ?_
  clear hq1 hq2 eS2
  obtain ⟨r9, S6, eS6, h⟩ := obind2_some h
  refine m_calli (As := [.int r5]) (rest := []) E G hA hR hml (tr_mayAsk l D cI cJ cZ ad S2 r5 eS6) (cwV 1 hts (gmV qM_319 qM_320 qM_321 qM_35 qM_304) rfl rfl rfl (by decide +kernel) ⟨Nat.le_of_ble_eq_true rfl, Nat.le_of_ble_eq_true rfl⟩) rfl hl.1 rfl (lv_room (Nat.le_of_ble_eq_true rfl)) dX12_power_6 ⟨Nat.zero_le _, Nat.zero_le _⟩ (fun q7 S8 H locs hq G => ?_)
  obtain ⟨hq1, hq2⟩ := hq
  rw [hq2] at G
  refine lv_to hq1 ?_
  clear hq1 hq2 eS6
  refine lv_if_eq (tgt := 24) hx hb dX12_power_9 (by decide) (fun c10 => ?_) (fun c10 => ?_)
  · have h := oif_pos c10 h
    refine lv_lconst (v := 0) hx hb dX12_power_24 (by decide) ?_
    have hl := lv_sub hl [] rfl
    exact tr_power_b25 E hA hR hml (fun H locs ls G => W.lret (v := r1) hx hb hr (fun t ht hW => ⟨⟨r1, S1, rfl, ⟨rfl, rfl⟩, ⟨by rw [ht]; exact G.1, va_K.moved hW.alike hK, G.2.1⟩⟩, G.2.2.F ht⟩) G.2.2.2.2 dX12_power_25) _ _ _ _ _ h G hl
  · have h := oif_neg c10 h
    refine lv_aload_n hx hb dX12_power_12 rfl (lv_at hl 0 rfl) ?_
    refine lv_aload_n hx hb dX12_power_13 rfl (lv_at hl 0 rfl) ?_
    refine m_get E G 12 (v := .ref (ad 12)) (by decide) (.tail _ qM_9) rfl dX12_power_14 rfl ?_
    refine lv_iload_n hx hb dX12_power_17 rfl (lv_at hl 1 rfl) ?_
    obtain ⟨r14, S11, eS11, h⟩ := obind2_some h
    refine m_calll (As := [.ref (ad 12), .int a0]) (rest := []) E G hA hR hml (tr_powerOf_12 l D cI cJ cZ ad S6 a0 eS11) (cwV 2 hts (gmV qM_297 qM_298 qM_299 qM_35 qM_289) rfl rfl rfl (by decide +kernel) ⟨Nat.le_of_ble_eq_true rfl, Nat.le_of_ble_eq_true rfl⟩) rfl hl.1 rfl (lv_room (Nat.le_of_ble_eq_true rfl)) dX12_power_18 ⟨Nat.zero_le _, Nat.zero_le _⟩ (fun q12 S13 H locs hq G => ?_)
    obtain ⟨hq1, hq2⟩ := hq
    rw [hq2] at G
    refine lv_tol hq1 ?_
    clear hq1 hq2 eS11
    refine lv_goto (tgt := 25) hx hb dX12_power_21 (by decide) ?_
    have hl := lv_sub hl [] rfl
    exact tr_power_b25 E hA hR hml (fun H locs ls G => W.lret (v := r1) hx hb hr (fun t ht hW => ⟨⟨r1, S1, rfl, ⟨rfl, rfl⟩, ⟨by rw [ht]; exact G.1, va_K.moved hW.alike hK, G.2.1⟩⟩, G.2.2.F ht⟩) G.2.2.2.2 dX12_power_25) _ _ _ _ _ h G hl
def fr_powerAt (S : MS) (a0 : Int32) (a1 : Int32) : Option (Int64 × MS) := obind (fr_isPoint a0 a1) fun r2 => obind2 (fr_mayAsk S r2) fun r7 S4 => if r7 = 0 then (some ((0 : Int64), S4)) else (obind (fr_laysPoint S4 a0 a1) fun S9 => obind2 (fr_powerHere_12 S9) fun r15 S12 => some (r15, S12))
set_option maxHeartbeats 4000000 in
set_option maxRecDepth 100000 in
theorem tr_powerAt (l : Launch) (D : va_G) (cI cJ cZ : ClassId) (ad : Nat → Nat) (S : MS) (a0 : Int32) (a1 : Int32) {r1 : Int64} {S1 : MS} (h : fr_powerAt S a0 a1 = some (r1, S1)) : mCl l yX12_powerAt (Cond.code yX12_powerAt cX12_powerAt 3 (some .long) :: wsM) 5 96 D cI cJ cZ ad S [.int a0, .int a1] (fun r S9 => r = r1 ∧ S9 = S1) := by
  intro sz
  refine Met.ofW (cc := cX12_powerAt) (maxL := 3) (ret := (some .long)) (by decide) rfl ?_
  intro p e s m args below meth c s₁ B hml hv
  obtain ⟨rfl, hsz, hP, hK, hD0, hR⟩ := hv
  have hx := B.exec
  have hb := B.bytes
  have hr := B.returns
  have hts := atoms_spec (ws := (Cond.code yX12_powerAt cX12_powerAt 3 (some .long) :: wsM)) B.pre
  have hown : s.vm.findClass RX12 = some m.cls := findClass_of_methodNamed B.named
  have hlocks := B.notSynchronized
  subst hsz
  have hD := hD0.self (sz := s.heap.size)
  generalize hAe : va_A (MW cI cJ cZ ad S) s.heap.size = A at hD ⊢
  have hA : ∀ q : Nat, s.heap.size ≤ q → A q := fun q h => by rw [← hAe]; exact Or.inr h
  have G : mG D cI cJ cZ ad A s.heap s.heap [] S := ⟨hP, hD, va_S.rf⟩
  have E : mE p c cX12_powerAt s m ([.ref (ad 0), .int a0, .int a1] : List Value).toArray (Cond.code yX12_powerAt cX12_powerAt 3 (some .long) :: wsM) D cI cJ cZ := ⟨hx, hb, hts, hown, hK, fun w h => .tail _ (iM_x h)⟩
  have hl := lv_entry ([.ref (ad 0), .int a0, .int a1]) (n := 3) (Nat.le_of_ble_eq_true rfl)
  rw [lg_entry_eq]
  generalize (lg_sl ([.ref (ad 0), .int a0, .int a1]) ++ List.replicate (3 - (lg_sl ([.ref (ad 0), .int a0, .int a1])).length) Slot.unset).toArray = ls at hl ⊢
  have hl : lv_has ls 3 [(0, .ref (ad 0)), (1, .int a0), (2, .int a1)] := hl
  unfold fr_powerAt at h
  refine lv_aload_n hx hb dX12_powerAt_0 rfl (lv_at hl 0 rfl) ?_
  refine lv_iload_n hx hb dX12_powerAt_1 rfl (lv_at hl 1 rfl) ?_
  refine lv_iload_n hx hb dX12_powerAt_2 rfl (lv_at hl 2 rfl) ?_
  obtain ⟨r2, er2, h⟩ := obind_some h
  refine m_stat (As := [.int a0, .int a1]) (rest := [.ref (ad 0)]) ⟨hx, hb, hml, hown, hts⟩ (tr_isPoint l a0 a1 er2) (cwS 2 hts (gmS qM_343 qM_344 qM_35 qM_341) rfl rfl rfl (by decide +kernel) ⟨Nat.le_of_ble_eq_true rfl, Nat.le_of_ble_eq_true rfl⟩) rfl hl.1 rfl (lv_room (Nat.le_of_ble_eq_true rfl)) dX12_powerAt_3 ⟨Nat.zero_le _, Nat.zero_le _⟩ (fun q3 hq => ?_)
  refine lv_to hq ?_
  clear hq er2
  obtain ⟨r7, S4, eS4, h⟩ := obind2_some h
  refine m_calli (As := [.int r2]) (rest := []) E G hA hR hml (tr_mayAsk l D cI cJ cZ ad S r2 eS4) (cwV 1 hts (gmV qM_319 qM_320 qM_321 qM_35 qM_304) rfl rfl rfl (by decide +kernel) ⟨Nat.le_of_ble_eq_true rfl, Nat.le_of_ble_eq_true rfl⟩) rfl hl.1 rfl (lv_room (Nat.le_of_ble_eq_true rfl)) dX12_powerAt_6 ⟨Nat.zero_le _, Nat.zero_le _⟩ (fun q5 S6 H locs hq G => ?_)
  obtain ⟨hq1, hq2⟩ := hq
  rw [hq2] at G
  refine lv_to hq1 ?_
  clear hq1 hq2 eS4
  refine lv_if_ne (tgt := 14) hx hb dX12_powerAt_9 (by decide) (fun c8 => ?_) (fun c8 => ?_)
  · have h := oif_neg c8 h
    refine lv_aload_n hx hb dX12_powerAt_14 rfl (lv_at hl 0 rfl) ?_
    refine lv_iload_n hx hb dX12_powerAt_15 rfl (lv_at hl 1 rfl) ?_
    refine lv_iload_n hx hb dX12_powerAt_16 rfl (lv_at hl 2 rfl) ?_
    obtain ⟨S9, eS9, h⟩ := obind_some h
    refine m_callv (As := [.int a0, .int a1]) (rest := []) E G hA hR hml (tr_laysPoint l D cI cJ cZ ad S4 a0 a1 eS9) (cwV 2 hts (gmV qM_356 qM_357 qM_358 qM_35 qM_271) rfl rfl rfl (by decide +kernel) ⟨Nat.le_of_ble_eq_true rfl, Nat.le_of_ble_eq_true rfl⟩) rfl hl.1 rfl (lv_room (Nat.le_of_ble_eq_true rfl)) dX12_powerAt_17 ⟨Nat.zero_le _, Nat.zero_le _⟩ (fun S11 H locs hq G => ?_)
    rw [hq] at G
    clear hq eS9
    refine lv_aload_n hx hb dX12_powerAt_20 rfl (lv_at hl 0 rfl) ?_
    refine lv_aload_n hx hb dX12_powerAt_21 rfl (lv_at hl 0 rfl) ?_
    refine m_get E G 12 (v := .ref (ad 12)) (by decide) (.tail _ qM_9) rfl dX12_powerAt_22 rfl ?_
    obtain ⟨r15, S12, eS12, h⟩ := obind2_some h
    refine m_calll (As := [.ref (ad 12)]) (rest := []) E G hA hR hml (tr_powerHere_12 l D cI cJ cZ ad S9 eS12) (cwV 1 hts (gmV qM_293 qM_294 qM_295 qM_35 qM_282) rfl rfl rfl (by decide +kernel) ⟨Nat.le_of_ble_eq_true rfl, Nat.le_of_ble_eq_true rfl⟩) rfl hl.1 rfl (lv_room (Nat.le_of_ble_eq_true rfl)) dX12_powerAt_25 ⟨Nat.zero_le _, Nat.zero_le _⟩ (fun q13 S14 H locs hq G => ?_)
    obtain ⟨hq1, hq2⟩ := hq
    rw [hq2] at G
    refine lv_tol hq1 ?_
    clear hq1 hq2 eS12
    exact W.lret (v := r15) hx hb hr (fun t ht hW => ⟨⟨r15, S12, rfl, osome2 h, ⟨by rw [ht]; exact G.1, va_K.moved hW.alike hK, G.2.1⟩⟩, G.2.2.F ht⟩) G.2.2.2.2 dX12_powerAt_28
  · have h := oif_pos c8 h
    refine lv_lconst (v := 0) hx hb dX12_powerAt_12 (by decide) ?_
    exact W.lret (v := (0 : Int64)) hx hb hr (fun t ht hW => ⟨⟨(0 : Int64), S4, rfl, osome2 h, ⟨by rw [ht]; exact G.1, va_K.moved hW.alike hK, G.2.1⟩⟩, G.2.2.F ht⟩) G.2.2.2.2 dX12_powerAt_13
def fr_laysPowers_12_b2  : Nat → MS → Int32 → Option (MS)
  | 0, _, _ => none
  | n + 1, S, l2 => obind2 (fr_cellCount S) fun r5 S2 => if r5 ≤ l2 then (some S2) else (obind2 (fr_powerOf_12 S2 l2) fun r10 S7 => oif (inb l2 144 = true) <| elet (mg S7 25 (vp_updL (S7.2.2 25) l2.toNatClampNeg r10)) fun S12 => elet (l2 + Int32.ofInt (1)) fun v13 => fr_laysPowers_12_b2 n S12 v13)
set_option maxHeartbeats 4000000 in
set_option maxRecDepth 100000 in
theorem tr_laysPowers_12_b2 {p : Program} {l : Launch} {e : Env} {s : State} {m : MethodId} {args : Array Value} {below : List Frame} {meth : Method} {c : Code} {Q : State → Prop} {D : va_G} {A : Nat → Prop} {H0 : Heap} {cI cJ cZ : ClassId} {ad : Nat → Nat} {S1 : MS} (E : mE p c cX12_laysPowers s m args (Cond.code yX12_laysPowers cX12_laysPowers 3 none :: wsM) D cI cJ cZ) (hA : ∀ q : Nat, H0.size ≤ q → A q) (hR : sR s) (hml : c.maxLocals = 3) (kr28 : ∀ (H : Heap) (locs : List Loc) (ls : Array Slot), mG D cI cJ cZ ad A H0 H locs S1 → W p l e { frames := 6, cells := 0, slots := 0, locals := 118 } s m args below meth c H locs 0 0 Q (F0 m 28 ls [])) : ∀ n : Nat, ∀ (S : MS) (H : Heap) (locs : List Loc) (ls : Array Slot) (l2 : Int32), fr_laysPowers_12_b2 n S l2 = some S1 → mG D cI cJ cZ ad A H0 H locs S → lv_has ls 3 [(0, .ref (ad 0)), (1, .ref (ad 12)), (2, .int l2)] → W p l e { frames := 6, cells := 0, slots := 0, locals := 118 } s m args below meth c H locs 0 0 Q (F0 m 2 ls []) := by
  have hx := E.1
  have hb := E.2.1
  have hts := E.2.2.1
  have hown := E.2.2.2.1
  have hK := E.2.2.2.2.1
  intro n
  induction n with
  | zero =>
    intro S H locs ls l2 h
    have h : (none : Option (MS)) = some S1 := h
    cases h
  | succ n ih =>
    intro S H locs ls l2 h G hl
    unfold fr_laysPowers_12_b2 at h
    refine lv_iload_n hx hb dX12_laysPowers_2 rfl (lv_at hl 2 rfl) ?_
    refine lv_aload_n hx hb dX12_laysPowers_3 rfl (lv_at hl 0 rfl) ?_
    obtain ⟨r5, S2, eS2, h⟩ := obind2_some h
    refine m_calli (As := []) (rest := [.int l2]) E G hA hR hml (tr_cellCount l D cI cJ cZ ad S eS2) (cwV 0 hts (gmV qM_204 qM_205 qM_206 qM_35 qM_207) rfl rfl rfl (by decide +kernel) ⟨Nat.le_of_ble_eq_true rfl, Nat.le_of_ble_eq_true rfl⟩) rfl hl.1 rfl (lv_room (Nat.le_of_ble_eq_true rfl)) dX12_laysPowers_4 ⟨Nat.zero_le _, Nat.zero_le _⟩ (fun q3 S4 H locs hq G => ?_)
    obtain ⟨hq1, hq2⟩ := hq
    rw [hq2] at G
    refine lv_to hq1 ?_
    clear hq1 hq2 eS2
    refine lv_icmp_ge (tgt := 28) hx hb dX12_laysPowers_7 (by decide) (fun c6 => ?_) (fun c6 => ?_)
    · have h := oif_pos c6 h
      rw [osome1 h] at G
      exact kr28 _ _ _ G
    · have h := oif_neg c6 h
      refine lv_aload_n hx hb dX12_laysPowers_10 rfl (lv_at hl 0 rfl) ?_
      refine m_get E G 25 (v := .ref (ad 25)) (by decide) (.tail _ qM_21) rfl dX12_laysPowers_11 rfl ?_
      refine lv_iload_n hx hb dX12_laysPowers_14 rfl (lv_at hl 2 rfl) ?_
      refine lv_aload_n hx hb dX12_laysPowers_15 rfl (lv_at hl 0 rfl) ?_
      refine lv_aload_n hx hb dX12_laysPowers_16 rfl (lv_at hl 1 rfl) ?_
      refine lv_iload_n hx hb dX12_laysPowers_17 rfl (lv_at hl 2 rfl) ?_
      obtain ⟨r10, S7, eS7, h⟩ := obind2_some h
      refine m_calll (As := [.ref (ad 12), .int l2]) (rest := [.int l2, .ref (ad 25)]) E G hA hR hml (tr_powerOf_12 l D cI cJ cZ ad S2 l2 eS7) (cwV 2 hts (gmV qM_297 qM_298 qM_299 qM_35 qM_289) rfl rfl rfl (by decide +kernel) ⟨Nat.le_of_ble_eq_true rfl, Nat.le_of_ble_eq_true rfl⟩) rfl hl.1 rfl (lv_room (Nat.le_of_ble_eq_true rfl)) dX12_laysPowers_18 ⟨Nat.zero_le _, Nat.zero_le _⟩ (fun q8 S9 H locs hq G => ?_)
      obtain ⟨hq1, hq2⟩ := hq
      rw [hq2] at G
      refine lv_tol hq1 ?_
      clear hq1 hq2 eS7
      obtain ⟨g11, h⟩ := oif_some h
      refine m_last E G 25 13 (k := l2.toNatClampNeg) (v := r10) rfl (fun _ => rfl) (inb_k g11).1 (inb_k g11).2 (by decide) dX12_laysPowers_21 (fun H locs G => ?_)
      obtain ⟨S12, eS12, h⟩ := elet_some h
      rw [← eS12] at G
      clear eS12
      obtain ⟨v13, ev13, h⟩ := elet_some h
      refine lv_iinc (v := v13) (lv' := [(2, .int v13), (0, .ref (ad 0)), (1, .ref (ad 12))]) hx hb dX12_laysPowers_22 hl (k := 2) rfl ev13.symm (by decide) rfl (fun ls hl => ?_)
      refine lv_goto (tgt := 2) hx hb dX12_laysPowers_25 (by decide) ?_
      have hl := lv_sub hl [1, 2, 0] rfl
      exact ih _ _ _ _ _ h G hl
def fr_laysPowers_12 (S : MS)  : Option (MS) := fr_laysPowers_12_b2 16384 S 0
set_option maxHeartbeats 4000000 in
set_option maxRecDepth 100000 in
theorem tr_laysPowers_12 (l : Launch) (D : va_G) (cI cJ cZ : ClassId) (ad : Nat → Nat) (S : MS)  {S1 : MS} (h : fr_laysPowers_12 S = some S1) : mCv l yX12_laysPowers (Cond.code yX12_laysPowers cX12_laysPowers 3 none :: wsM) 6 118 D cI cJ cZ ad S [.ref (ad 12)] (fun S9 => S9 = S1) := by
  intro sz
  refine Met.ofW (cc := cX12_laysPowers) (maxL := 3) (ret := none) (by decide) rfl ?_
  intro p e s m args below meth c s₁ B hml hv
  obtain ⟨rfl, hsz, hP, hK, hD0, hR⟩ := hv
  have hx := B.exec
  have hb := B.bytes
  have hr := B.returns
  have hts := atoms_spec (ws := (Cond.code yX12_laysPowers cX12_laysPowers 3 none :: wsM)) B.pre
  have hown : s.vm.findClass RX12 = some m.cls := findClass_of_methodNamed B.named
  have hlocks := B.notSynchronized
  subst hsz
  have hD := hD0.self (sz := s.heap.size)
  generalize hAe : va_A (MW cI cJ cZ ad S) s.heap.size = A at hD ⊢
  have hA : ∀ q : Nat, s.heap.size ≤ q → A q := fun q h => by rw [← hAe]; exact Or.inr h
  have G : mG D cI cJ cZ ad A s.heap s.heap [] S := ⟨hP, hD, va_S.rf⟩
  have E : mE p c cX12_laysPowers s m ([.ref (ad 0), .ref (ad 12)] : List Value).toArray (Cond.code yX12_laysPowers cX12_laysPowers 3 none :: wsM) D cI cJ cZ := ⟨hx, hb, hts, hown, hK, fun w h => .tail _ (iM_x h)⟩
  have hl := lv_entry ([.ref (ad 0), .ref (ad 12)]) (n := 3) (Nat.le_of_ble_eq_true rfl)
  rw [lg_entry_eq]
  generalize (lg_sl ([.ref (ad 0), .ref (ad 12)]) ++ List.replicate (3 - (lg_sl ([.ref (ad 0), .ref (ad 12)])).length) Slot.unset).toArray = ls at hl ⊢
  have hl : lv_has ls 3 [(0, .ref (ad 0)), (1, .ref (ad 12))] := hl
  unfold fr_laysPowers_12 at h
  refine lv_iconst (v := 0) hx hb dX12_laysPowers_0 (by decide) ?_
  refine lv_istore_n (lv' := [(2, .int 0), (0, .ref (ad 0)), (1, .ref (ad 12))]) hx hb dX12_laysPowers_1 rfl hl (by decide) rfl (fun ls hl => ?_)
  have hl := lv_sub hl [1, 2, 0] rfl
  exact tr_laysPowers_12_b2 E hA hR hml (fun H locs ls G => W.vret hx hb hr (fun t ht hW => ⟨⟨S1, rfl, rfl, ⟨by rw [ht]; exact G.1, va_K.moved hW.alike hK, G.2.1⟩⟩, G.2.2.F ht⟩) G.2.2.2.2 dX12_laysPowers_28) _ _ _ _ _ _ h G hl
def fr_bestIn_12_b38 (k9 : MS → Int32 → Int32 → Option (Int32 × MS)) (S : MS) (s0 : Int32) (l3 : Int32) : Option (Int32 × MS) := elet (l3 + Int32.ofInt (1)) fun v2 => k9 S s0 v2
set_option maxHeartbeats 4000000 in
set_option maxRecDepth 100000 in
theorem tr_bestIn_12_b38 {p : Program} {l : Launch} {e : Env} {s : State} {m : MethodId} {args : Array Value} {below : List Frame} {meth : Method} {c : Code} {Q : State → Prop} {D : va_G} {A : Nat → Prop} {H0 : Heap} {cI cJ cZ : ClassId} {ad : Nat → Nat} {r1 : Int32} {S1 : MS} (E : mE p c cX12_bestIn s m args (Cond.code yX12_bestIn cX12_bestIn 4 (some .int) :: wsM) D cI cJ cZ) (hA : ∀ q : Nat, H0.size ≤ q → A q) (hR : sR s) (hml : c.maxLocals = 4) (kr46 : ∀ (H : Heap) (locs : List Loc) (ls : Array Slot), mG D cI cJ cZ ad A H0 H locs S1 → W p l e { frames := 7, cells := 0, slots := 0, locals := 140 } s m args below meth c H locs 0 0 Q (F0 m 46 ls [.int r1])) {k9 : MS → Int32 → Int32 → Option (Int32 × MS)} (hk9 : ∀ (S : MS) (H : Heap) (locs : List Loc) (ls : Array Slot) (l2 : Int32) (l3 : Int32), k9 S l2 l3 = some (r1, S1) → mG D cI cJ cZ ad A H0 H locs S → lv_has ls 4 [(0, .ref (ad 0)), (2, .int l2), (3, .int l3)] → W p l e { frames := 7, cells := 0, slots := 0, locals := 140 } s m args below meth c H locs 0 0 Q (F0 m 9 ls [])) : ∀ (S : MS) (H : Heap) (locs : List Loc) (ls : Array Slot) (s0 : Int32) (l3 : Int32), fr_bestIn_12_b38 k9 S s0 l3 = some (r1, S1) → mG D cI cJ cZ ad A H0 H locs S → lv_has ls 4 [(0, .ref (ad 0)), (3, .int l3)] → W p l e { frames := 7, cells := 0, slots := 0, locals := 140 } s m args below meth c H locs 0 0 Q (F0 m 38 ls [.int s0]) := by
  have hx := E.1
  have hb := E.2.1
  have hts := E.2.2.1
  have hown := E.2.2.2.1
  have hK := E.2.2.2.2.1
  intro S H locs ls s0 l3 h G hl
  unfold fr_bestIn_12_b38 at h
  refine lv_istore_n (lv' := [(2, .int s0), (0, .ref (ad 0)), (3, .int l3)]) hx hb dX12_bestIn_38 rfl hl (by decide) rfl (fun ls hl => ?_)
  obtain ⟨v2, ev2, h⟩ := elet_some h
  refine lv_iinc (v := v2) (lv' := [(3, .int v2), (2, .int s0), (0, .ref (ad 0))]) hx hb dX12_bestIn_39 hl (k := 2) rfl ev2.symm (by decide) rfl (fun ls hl => ?_)
  refine lv_goto (tgt := 9) hx hb dX12_bestIn_42 (by decide) ?_
  have hl := lv_sub hl [2, 1, 0] rfl
  exact hk9 _ _ _ _ _ _ h G hl
def fr_bestIn_12_b9  : Nat → MS → Int32 → Int32 → Option (Int32 × MS)
  | 0, _, _, _ => none
  | n + 1, S, l2, l3 => obind2 (fr_cellCount S) fun r5 S2 => if r5 ≤ l3 then (some (l2, S2)) else (oif (inb l3 144 = true) <| elet (S2.2.2 25 l3.toNatClampNeg) fun v8 => oif (inb l2 144 = true) <| elet (S2.2.2 25 l2.toNatClampNeg) fun v10 => elet (lg_cmp v8 v10) fun v11 => if v11 ≤ 0 then (fr_bestIn_12_b38 (fr_bestIn_12_b9 n) S2 l2 l3) else (fr_bestIn_12_b38 (fr_bestIn_12_b9 n) S2 l3 l3))
set_option maxHeartbeats 4000000 in
set_option maxRecDepth 100000 in
theorem tr_bestIn_12_b9 {p : Program} {l : Launch} {e : Env} {s : State} {m : MethodId} {args : Array Value} {below : List Frame} {meth : Method} {c : Code} {Q : State → Prop} {D : va_G} {A : Nat → Prop} {H0 : Heap} {cI cJ cZ : ClassId} {ad : Nat → Nat} {r1 : Int32} {S1 : MS} (E : mE p c cX12_bestIn s m args (Cond.code yX12_bestIn cX12_bestIn 4 (some .int) :: wsM) D cI cJ cZ) (hA : ∀ q : Nat, H0.size ≤ q → A q) (hR : sR s) (hml : c.maxLocals = 4) (kr46 : ∀ (H : Heap) (locs : List Loc) (ls : Array Slot), mG D cI cJ cZ ad A H0 H locs S1 → W p l e { frames := 7, cells := 0, slots := 0, locals := 140 } s m args below meth c H locs 0 0 Q (F0 m 46 ls [.int r1])) : ∀ n : Nat, ∀ (S : MS) (H : Heap) (locs : List Loc) (ls : Array Slot) (l2 : Int32) (l3 : Int32), fr_bestIn_12_b9 n S l2 l3 = some (r1, S1) → mG D cI cJ cZ ad A H0 H locs S → lv_has ls 4 [(0, .ref (ad 0)), (2, .int l2), (3, .int l3)] → W p l e { frames := 7, cells := 0, slots := 0, locals := 140 } s m args below meth c H locs 0 0 Q (F0 m 9 ls []) := by
  have hx := E.1
  have hb := E.2.1
  have hts := E.2.2.1
  have hown := E.2.2.2.1
  have hK := E.2.2.2.2.1
  intro n
  induction n with
  | zero =>
    intro S H locs ls l2 l3 h
    have h : (none : Option (Int32 × MS)) = some (r1, S1) := h
    cases h
  | succ n ih =>
    intro S H locs ls l2 l3 h G hl
    unfold fr_bestIn_12_b9 at h
    refine lv_iload_n hx hb dX12_bestIn_9 rfl (lv_at hl 2 rfl) ?_
    refine lv_aload_n hx hb dX12_bestIn_10 rfl (lv_at hl 0 rfl) ?_
    obtain ⟨r5, S2, eS2, h⟩ := obind2_some h
    refine m_calli (As := []) (rest := [.int l3]) E G hA hR hml (tr_cellCount l D cI cJ cZ ad S eS2) (cwV 0 hts (gmV qM_204 qM_205 qM_206 qM_35 qM_207) rfl rfl rfl (by decide +kernel) ⟨Nat.le_of_ble_eq_true rfl, Nat.le_of_ble_eq_true rfl⟩) rfl hl.1 rfl (lv_room (Nat.le_of_ble_eq_true rfl)) dX12_bestIn_11 ⟨Nat.zero_le _, Nat.zero_le _⟩ (fun q3 S4 H locs hq G => ?_)
    obtain ⟨hq1, hq2⟩ := hq
    rw [hq2] at G
    refine lv_to hq1 ?_
    clear hq1 hq2 eS2
    refine lv_icmp_ge (tgt := 45) hx hb dX12_bestIn_14 (by decide) (fun c6 => ?_) (fun c6 => ?_)
    · have h := oif_pos c6 h
      refine lv_iload_n hx hb dX12_bestIn_45 rfl (lv_at hl 1 rfl) ?_
      rw [(osome2 h).2] at G
      refine lv_to (osome2 h).1 ?_
      exact kr46 _ _ _ G
    · have h := oif_neg c6 h
      refine lv_aload_n hx hb dX12_bestIn_17 rfl (lv_at hl 0 rfl) ?_
      refine m_get E G 25 (v := .ref (ad 25)) (by decide) (.tail _ qM_21) rfl dX12_bestIn_18 rfl ?_
      refine lv_iload_n hx hb dX12_bestIn_21 rfl (lv_at hl 2 rfl) ?_
      obtain ⟨g7, h⟩ := oif_some h
      refine m_lald E G 25 13 (n := 144) (k := l3.toNatClampNeg) rfl (inb_k g7).1 (inb_k g7).2 (by decide) dX12_bestIn_22 ?_
      refine lv_topl (fun v8 ev8 => ?_)
      have h := elet_at ev8 h
      clear ev8
      refine lv_aload_n hx hb dX12_bestIn_23 rfl (lv_at hl 0 rfl) ?_
      refine m_get E G 25 (v := .ref (ad 25)) (by decide) (.tail _ qM_21) rfl dX12_bestIn_24 rfl ?_
      refine lv_iload_n hx hb dX12_bestIn_27 rfl (lv_at hl 1 rfl) ?_
      obtain ⟨g9, h⟩ := oif_some h
      refine m_lald E G 25 13 (n := 144) (k := l2.toNatClampNeg) rfl (inb_k g9).1 (inb_k g9).2 (by decide) dX12_bestIn_28 ?_
      refine lv_topl (fun v10 ev10 => ?_)
      have h := elet_at ev10 h
      clear ev10
      refine W.lcmp hx hb dX12_bestIn_29 ?_
      refine lv_topi (fun v11 ev11 => ?_)
      have h := elet_at ev11 h
      clear ev11
      refine lv_if_le (tgt := 37) hx hb dX12_bestIn_30 (by decide) (fun c12 => ?_) (fun c12 => ?_)
      · have h := oif_pos c12 h
        refine lv_iload_n hx hb dX12_bestIn_37 rfl (lv_at hl 1 rfl) ?_
        have hl := lv_sub hl [0, 2] rfl
        exact tr_bestIn_12_b38 E hA hR hml kr46 ih _ _ _ _ _ _ h G hl
      · have h := oif_neg c12 h
        refine lv_iload_n hx hb dX12_bestIn_33 rfl (lv_at hl 2 rfl) ?_
        refine lv_goto (tgt := 38) hx hb dX12_bestIn_34 (by decide) ?_
        have hl := lv_sub hl [0, 2] rfl
        exact tr_bestIn_12_b38 E hA hR hml kr46 ih _ _ _ _ _ _ h G hl
def fr_bestIn_12 (S : MS)  : Option (Int32 × MS) := obind (fr_laysPowers_12 S) fun S2 => fr_bestIn_12_b9 16384 S2 0 1
set_option maxHeartbeats 4000000 in
set_option maxRecDepth 100000 in
theorem tr_bestIn_12 (l : Launch) (D : va_G) (cI cJ cZ : ClassId) (ad : Nat → Nat) (S : MS)  {r1 : Int32} {S1 : MS} (h : fr_bestIn_12 S = some (r1, S1)) : mCi l yX12_bestIn (Cond.code yX12_bestIn cX12_bestIn 4 (some .int) :: wsM) 7 140 D cI cJ cZ ad S [.ref (ad 12)] (fun r S9 => r = r1 ∧ S9 = S1) := by
  intro sz
  refine Met.ofW (cc := cX12_bestIn) (maxL := 4) (ret := (some .int)) (by decide) rfl ?_
  intro p e s m args below meth c s₁ B hml hv
  obtain ⟨rfl, hsz, hP, hK, hD0, hR⟩ := hv
  have hx := B.exec
  have hb := B.bytes
  have hr := B.returns
  have hts := atoms_spec (ws := (Cond.code yX12_bestIn cX12_bestIn 4 (some .int) :: wsM)) B.pre
  have hown : s.vm.findClass RX12 = some m.cls := findClass_of_methodNamed B.named
  have hlocks := B.notSynchronized
  subst hsz
  have hD := hD0.self (sz := s.heap.size)
  generalize hAe : va_A (MW cI cJ cZ ad S) s.heap.size = A at hD ⊢
  have hA : ∀ q : Nat, s.heap.size ≤ q → A q := fun q h => by rw [← hAe]; exact Or.inr h
  have G : mG D cI cJ cZ ad A s.heap s.heap [] S := ⟨hP, hD, va_S.rf⟩
  have E : mE p c cX12_bestIn s m ([.ref (ad 0), .ref (ad 12)] : List Value).toArray (Cond.code yX12_bestIn cX12_bestIn 4 (some .int) :: wsM) D cI cJ cZ := ⟨hx, hb, hts, hown, hK, fun w h => .tail _ (iM_x h)⟩
  have hl := lv_entry ([.ref (ad 0), .ref (ad 12)]) (n := 4) (Nat.le_of_ble_eq_true rfl)
  rw [lg_entry_eq]
  generalize (lg_sl ([.ref (ad 0), .ref (ad 12)]) ++ List.replicate (4 - (lg_sl ([.ref (ad 0), .ref (ad 12)])).length) Slot.unset).toArray = ls at hl ⊢
  have hl : lv_has ls 4 [(0, .ref (ad 0)), (1, .ref (ad 12))] := hl
  unfold fr_bestIn_12 at h
  refine lv_aload_n hx hb dX12_bestIn_0 rfl (lv_at hl 0 rfl) ?_
  refine lv_aload_n hx hb dX12_bestIn_1 rfl (lv_at hl 1 rfl) ?_
  obtain ⟨S2, eS2, h⟩ := obind_some h
  refine m_callv (As := [.ref (ad 12)]) (rest := []) E G hA hR hml (tr_laysPowers_12 l D cI cJ cZ ad S eS2) (cwV 1 hts (gmV qM_301 qM_302 qM_303 qM_35 qM_296) rfl rfl rfl (by decide +kernel) ⟨Nat.le_of_ble_eq_true rfl, Nat.le_of_ble_eq_true rfl⟩) rfl hl.1 rfl (lv_room (Nat.le_of_ble_eq_true rfl)) dX12_bestIn_2 ⟨Nat.zero_le _, Nat.zero_le _⟩ (fun S4 H locs hq G => ?_)
  rw [hq] at G
  clear hq eS2
  refine lv_iconst (v := 0) hx hb dX12_bestIn_5 (by decide) ?_
  refine lv_istore_n (lv' := [(2, .int 0), (0, .ref (ad 0)), (1, .ref (ad 12))]) hx hb dX12_bestIn_6 rfl hl (by decide) rfl (fun ls hl => ?_)
  refine lv_iconst (v := 1) hx hb dX12_bestIn_7 (by decide) ?_
  refine lv_istore_n (lv' := [(3, .int 1), (2, .int 0), (0, .ref (ad 0)), (1, .ref (ad 12))]) hx hb dX12_bestIn_8 rfl hl (by decide) rfl (fun ls hl => ?_)
  have hl := lv_sub hl [2, 1, 0] rfl
  exact tr_bestIn_12_b9 E hA hR hml (fun H locs ls G => W.iret (v := r1) hx hb hr (fun t ht hW => ⟨⟨r1, S1, rfl, ⟨rfl, rfl⟩, ⟨by rw [ht]; exact G.1, va_K.moved hW.alike hK, G.2.1⟩⟩, G.2.2.F ht⟩) G.2.2.2.2 dX12_bestIn_46) _ _ _ _ _ _ _ h G hl
def fr_best_b20  (S : MS) (s0 : Int32) : Option (Int32 × MS) := some (s0, S)
set_option maxHeartbeats 4000000 in
set_option maxRecDepth 100000 in
theorem tr_best_b20 {p : Program} {l : Launch} {e : Env} {s : State} {m : MethodId} {args : Array Value} {below : List Frame} {meth : Method} {c : Code} {Q : State → Prop} {D : va_G} {A : Nat → Prop} {H0 : Heap} {cI cJ cZ : ClassId} {ad : Nat → Nat} {r1 : Int32} {S1 : MS} (E : mE p c cX12_best s m args (Cond.code yX12_best cX12_best 1 (some .int) :: wsM) D cI cJ cZ) (hA : ∀ q : Nat, H0.size ≤ q → A q) (hR : sR s) (hml : c.maxLocals = 1) (kr20 : ∀ (H : Heap) (locs : List Loc) (ls : Array Slot), mG D cI cJ cZ ad A H0 H locs S1 → W p l e { frames := 8, cells := 0, slots := 0, locals := 163 } s m args below meth c H locs 0 0 Q (F0 m 20 ls [.int r1])) : ∀ (S : MS) (H : Heap) (locs : List Loc) (ls : Array Slot) (s0 : Int32), fr_best_b20 S s0 = some (r1, S1) → mG D cI cJ cZ ad A H0 H locs S → lv_has ls 1 [] → W p l e { frames := 8, cells := 0, slots := 0, locals := 163 } s m args below meth c H locs 0 0 Q (F0 m 20 ls [.int s0]) := by
  have hx := E.1
  have hb := E.2.1
  have hts := E.2.2.1
  have hown := E.2.2.2.1
  have hK := E.2.2.2.2.1
  intro S H locs ls s0 h G hl
  unfold fr_best_b20 at h
  rw [(osome2 h).2] at G
  refine lv_to (osome2 h).1 ?_
  exact kr20 _ _ _ G
def fr_best (S : MS)  : Option (Int32 × MS) := obind2 (fr_mayAsk S 1) fun r5 S2 => if r5 = 0 then (fr_best_b20 S2 0) else (obind2 (fr_bestIn_12 S2) fun r10 S7 => fr_best_b20 S7 r10)
set_option maxHeartbeats 4000000 in
set_option maxRecDepth 100000 in
theorem tr_best (l : Launch) (D : va_G) (cI cJ cZ : ClassId) (ad : Nat → Nat) (S : MS)  {r1 : Int32} {S1 : MS} (h : fr_best S = some (r1, S1)) : mCi l yX12_best (Cond.code yX12_best cX12_best 1 (some .int) :: wsM) 8 163 D cI cJ cZ ad S [] (fun r S9 => r = r1 ∧ S9 = S1) := by
  intro sz
  refine Met.ofW (cc := cX12_best) (maxL := 1) (ret := (some .int)) (by decide) rfl ?_
  intro p e s m args below meth c s₁ B hml hv
  obtain ⟨rfl, hsz, hP, hK, hD0, hR⟩ := hv
  have hx := B.exec
  have hb := B.bytes
  have hr := B.returns
  have hts := atoms_spec (ws := (Cond.code yX12_best cX12_best 1 (some .int) :: wsM)) B.pre
  have hown : s.vm.findClass RX12 = some m.cls := findClass_of_methodNamed B.named
  have hlocks := B.notSynchronized
  subst hsz
  have hD := hD0.self (sz := s.heap.size)
  generalize hAe : va_A (MW cI cJ cZ ad S) s.heap.size = A at hD ⊢
  have hA : ∀ q : Nat, s.heap.size ≤ q → A q := fun q h => by rw [← hAe]; exact Or.inr h
  have G : mG D cI cJ cZ ad A s.heap s.heap [] S := ⟨hP, hD, va_S.rf⟩
  have E : mE p c cX12_best s m ([.ref (ad 0)] : List Value).toArray (Cond.code yX12_best cX12_best 1 (some .int) :: wsM) D cI cJ cZ := ⟨hx, hb, hts, hown, hK, fun w h => .tail _ (iM_x h)⟩
  have hl := lv_entry ([.ref (ad 0)]) (n := 1) (Nat.le_of_ble_eq_true rfl)
  rw [lg_entry_eq]
  generalize (lg_sl ([.ref (ad 0)]) ++ List.replicate (1 - (lg_sl ([.ref (ad 0)])).length) Slot.unset).toArray = ls at hl ⊢
  have hl : lv_has ls 1 [(0, .ref (ad 0))] := hl
  unfold fr_best at h
  refine lv_aload_n hx hb dX12_best_0 rfl (lv_at hl 0 rfl) ?_
  refine lv_iconst (v := 1) hx hb dX12_best_1 (by decide) ?_
  obtain ⟨r5, S2, eS2, h⟩ := obind2_some h
  refine m_calli (As := [.int 1]) (rest := []) E G hA hR hml (tr_mayAsk l D cI cJ cZ ad S 1 eS2) (cwV 1 hts (gmV qM_319 qM_320 qM_321 qM_35 qM_304) rfl rfl rfl (by decide +kernel) ⟨Nat.le_of_ble_eq_true rfl, Nat.le_of_ble_eq_true rfl⟩) rfl hl.1 rfl (lv_room (Nat.le_of_ble_eq_true rfl)) dX12_best_2 ⟨Nat.zero_le _, Nat.zero_le _⟩ (fun q3 S4 H locs hq G => ?_)
  obtain ⟨hq1, hq2⟩ := hq
  rw [hq2] at G
  refine lv_to hq1 ?_
  clear hq1 hq2 eS2
  refine lv_if_eq (tgt := 19) hx hb dX12_best_5 (by decide) (fun c6 => ?_) (fun c6 => ?_)
  · have h := oif_pos c6 h
    refine lv_iconst (v := 0) hx hb dX12_best_19 (by decide) ?_
    have hl := lv_sub hl [] rfl
    exact tr_best_b20 E hA hR hml (fun H locs ls G => W.iret (v := r1) hx hb hr (fun t ht hW => ⟨⟨r1, S1, rfl, ⟨rfl, rfl⟩, ⟨by rw [ht]; exact G.1, va_K.moved hW.alike hK, G.2.1⟩⟩, G.2.2.F ht⟩) G.2.2.2.2 dX12_best_20) _ _ _ _ _ h G hl
  · have h := oif_neg c6 h
    refine lv_aload_n hx hb dX12_best_8 rfl (lv_at hl 0 rfl) ?_
    refine lv_aload_n hx hb dX12_best_9 rfl (lv_at hl 0 rfl) ?_
    refine m_get E G 12 (v := .ref (ad 12)) (by decide) (.tail _ qM_9) rfl dX12_best_10 rfl ?_
    obtain ⟨r10, S7, eS7, h⟩ := obind2_some h
    refine m_calli (As := [.ref (ad 12)]) (rest := []) E G hA hR hml (tr_bestIn_12 l D cI cJ cZ ad S2 eS7) (cwV 1 hts (gmV qM_360 qM_361 qM_362 qM_35 qM_300) rfl rfl rfl (by decide +kernel) ⟨Nat.le_of_ble_eq_true rfl, Nat.le_of_ble_eq_true rfl⟩) rfl hl.1 rfl (lv_room (Nat.le_of_ble_eq_true rfl)) dX12_best_13 ⟨Nat.zero_le _, Nat.zero_le _⟩ (fun q8 S9 H locs hq G => ?_)
    obtain ⟨hq1, hq2⟩ := hq
    rw [hq2] at G
    refine lv_to hq1 ?_
    clear hq1 hq2 eS7
    refine lv_goto (tgt := 20) hx hb dX12_best_16 (by decide) ?_
    have hl := lv_sub hl [] rfl
    exact tr_best_b20 E hA hR hml (fun H locs ls G => W.iret (v := r1) hx hb hr (fun t ht hW => ⟨⟨r1, S1, rfl, ⟨rfl, rfl⟩, ⟨by rw [ht]; exact G.1, va_K.moved hW.alike hK, G.2.1⟩⟩, G.2.2.F ht⟩) G.2.2.2.2 dX12_best_20) _ _ _ _ _ h G hl
end
section
/-! 11g.dec5.lean.txt -/
def fr_bestPower_b25  (S : MS) (s0 : Int64) : Option (Int64 × MS) := some (s0, S)
set_option maxHeartbeats 4000000 in
set_option maxRecDepth 100000 in
theorem tr_bestPower_b25 {p : Program} {l : Launch} {e : Env} {s : State} {m : MethodId} {args : Array Value} {below : List Frame} {meth : Method} {c : Code} {Q : State → Prop} {D : va_G} {A : Nat → Prop} {H0 : Heap} {cI cJ cZ : ClassId} {ad : Nat → Nat} {r1 : Int64} {S1 : MS} (E : mE p c cX12_bestPower s m args (Cond.code yX12_bestPower cX12_bestPower 1 (some .long) :: wsM) D cI cJ cZ) (hA : ∀ q : Nat, H0.size ≤ q → A q) (hR : sR s) (hml : c.maxLocals = 1) (kr25 : ∀ (H : Heap) (locs : List Loc) (ls : Array Slot), mG D cI cJ cZ ad A H0 H locs S1 → W p l e { frames := 8, cells := 0, slots := 0, locals := 163 } s m args below meth c H locs 0 0 Q (F0 m 25 ls [.long r1])) : ∀ (S : MS) (H : Heap) (locs : List Loc) (ls : Array Slot) (s0 : Int64), fr_bestPower_b25 S s0 = some (r1, S1) → mG D cI cJ cZ ad A H0 H locs S → lv_has ls 1 [] → W p l e { frames := 8, cells := 0, slots := 0, locals := 163 } s m args below meth c H locs 0 0 Q (F0 m 25 ls [.long s0]) := by
  have hx := E.1
  have hb := E.2.1
  have hts := E.2.2.1
  have hown := E.2.2.2.1
  have hK := E.2.2.2.2.1
  intro S H locs ls s0 h G hl
  unfold fr_bestPower_b25 at h
  rw [(osome2 h).2] at G
  refine lv_tol (osome2 h).1 ?_
  exact kr25 _ _ _ G
def fr_bestPower (S : MS)  : Option (Int64 × MS) := obind2 (fr_mayAsk S 1) fun r5 S2 => if r5 = 0 then (fr_bestPower_b25 S2 (0 : Int64)) else (obind2 (fr_bestIn_12 S2) fun r10 S7 => oif (inb r10 144 = true) <| elet (S7.2.2 25 r10.toNatClampNeg) fun v12 => fr_bestPower_b25 S7 v12)
set_option maxHeartbeats 4000000 in
set_option maxRecDepth 100000 in
theorem tr_bestPower (l : Launch) (D : va_G) (cI cJ cZ : ClassId) (ad : Nat → Nat) (S : MS)  {r1 : Int64} {S1 : MS} (h : fr_bestPower S = some (r1, S1)) : mCl l yX12_bestPower (Cond.code yX12_bestPower cX12_bestPower 1 (some .long) :: wsM) 8 163 D cI cJ cZ ad S [] (fun r S9 => r = r1 ∧ S9 = S1) := by
  intro sz
  refine Met.ofW (cc := cX12_bestPower) (maxL := 1) (ret := (some .long)) (by decide) rfl ?_
  intro p e s m args below meth c s₁ B hml hv
  obtain ⟨rfl, hsz, hP, hK, hD0, hR⟩ := hv
  have hx := B.exec
  have hb := B.bytes
  have hr := B.returns
  have hts := atoms_spec (ws := (Cond.code yX12_bestPower cX12_bestPower 1 (some .long) :: wsM)) B.pre
  have hown : s.vm.findClass RX12 = some m.cls := findClass_of_methodNamed B.named
  have hlocks := B.notSynchronized
  subst hsz
  have hD := hD0.self (sz := s.heap.size)
  generalize hAe : va_A (MW cI cJ cZ ad S) s.heap.size = A at hD ⊢
  have hA : ∀ q : Nat, s.heap.size ≤ q → A q := fun q h => by rw [← hAe]; exact Or.inr h
  have G : mG D cI cJ cZ ad A s.heap s.heap [] S := ⟨hP, hD, va_S.rf⟩
  have E : mE p c cX12_bestPower s m ([.ref (ad 0)] : List Value).toArray (Cond.code yX12_bestPower cX12_bestPower 1 (some .long) :: wsM) D cI cJ cZ := ⟨hx, hb, hts, hown, hK, fun w h => .tail _ (iM_x h)⟩
  have hl := lv_entry ([.ref (ad 0)]) (n := 1) (Nat.le_of_ble_eq_true rfl)
  rw [lg_entry_eq]
  generalize (lg_sl ([.ref (ad 0)]) ++ List.replicate (1 - (lg_sl ([.ref (ad 0)])).length) Slot.unset).toArray = ls at hl ⊢
  have hl : lv_has ls 1 [(0, .ref (ad 0))] := hl
  unfold fr_bestPower at h
  refine lv_aload_n hx hb dX12_bestPower_0 rfl (lv_at hl 0 rfl) ?_
  refine lv_iconst (v := 1) hx hb dX12_bestPower_1 (by decide) ?_
  obtain ⟨r5, S2, eS2, h⟩ := obind2_some h
  refine m_calli (As := [.int 1]) (rest := []) E G hA hR hml (tr_mayAsk l D cI cJ cZ ad S 1 eS2) (cwV 1 hts (gmV qM_319 qM_320 qM_321 qM_35 qM_304) rfl rfl rfl (by decide +kernel) ⟨Nat.le_of_ble_eq_true rfl, Nat.le_of_ble_eq_true rfl⟩) rfl hl.1 rfl (lv_room (Nat.le_of_ble_eq_true rfl)) dX12_bestPower_2 ⟨Nat.zero_le _, Nat.zero_le _⟩ (fun q3 S4 H locs hq G => ?_)
  obtain ⟨hq1, hq2⟩ := hq
  rw [hq2] at G
  refine lv_to hq1 ?_
  clear hq1 hq2 eS2
  refine lv_if_eq (tgt := 24) hx hb dX12_bestPower_5 (by decide) (fun c6 => ?_) (fun c6 => ?_)
  · have h := oif_pos c6 h
    refine lv_lconst (v := 0) hx hb dX12_bestPower_24 (by decide) ?_
    have hl := lv_sub hl [] rfl
    exact tr_bestPower_b25 E hA hR hml (fun H locs ls G => W.lret (v := r1) hx hb hr (fun t ht hW => ⟨⟨r1, S1, rfl, ⟨rfl, rfl⟩, ⟨by rw [ht]; exact G.1, va_K.moved hW.alike hK, G.2.1⟩⟩, G.2.2.F ht⟩) G.2.2.2.2 dX12_bestPower_25) _ _ _ _ _ h G hl
  · have h := oif_neg c6 h
    refine lv_aload_n hx hb dX12_bestPower_8 rfl (lv_at hl 0 rfl) ?_
    refine m_get E G 25 (v := .ref (ad 25)) (by decide) (.tail _ qM_21) rfl dX12_bestPower_9 rfl ?_
    refine lv_aload_n hx hb dX12_bestPower_12 rfl (lv_at hl 0 rfl) ?_
    refine lv_aload_n hx hb dX12_bestPower_13 rfl (lv_at hl 0 rfl) ?_
    refine m_get E G 12 (v := .ref (ad 12)) (by decide) (.tail _ qM_9) rfl dX12_bestPower_14 rfl ?_
    obtain ⟨r10, S7, eS7, h⟩ := obind2_some h
    refine m_calli (As := [.ref (ad 12)]) (rest := [.ref (ad 25)]) E G hA hR hml (tr_bestIn_12 l D cI cJ cZ ad S2 eS7) (cwV 1 hts (gmV qM_360 qM_361 qM_362 qM_35 qM_300) rfl rfl rfl (by decide +kernel) ⟨Nat.le_of_ble_eq_true rfl, Nat.le_of_ble_eq_true rfl⟩) rfl hl.1 rfl (lv_room (Nat.le_of_ble_eq_true rfl)) dX12_bestPower_17 ⟨Nat.zero_le _, Nat.zero_le _⟩ (fun q8 S9 H locs hq G => ?_)
    obtain ⟨hq1, hq2⟩ := hq
    rw [hq2] at G
    refine lv_to hq1 ?_
    clear hq1 hq2 eS7
    obtain ⟨g11, h⟩ := oif_some h
    refine m_lald E G 25 13 (n := 144) (k := r10.toNatClampNeg) rfl (inb_k g11).1 (inb_k g11).2 (by decide) dX12_bestPower_20 ?_
    refine lv_topl (fun v12 ev12 => ?_)
    have h := elet_at ev12 h
    clear ev12
    refine lv_goto (tgt := 25) hx hb dX12_bestPower_21 (by decide) ?_
    have hl := lv_sub hl [] rfl
    exact tr_bestPower_b25 E hA hR hml (fun H locs ls G => W.lret (v := r1) hx hb hr (fun t ht hW => ⟨⟨r1, S1, rfl, ⟨rfl, rfl⟩, ⟨by rw [ht]; exact G.1, va_K.moved hW.alike hK, G.2.1⟩⟩, G.2.2.F ht⟩) G.2.2.2.2 dX12_bestPower_25) _ _ _ _ _ h G hl
def fr_meanPower_b22  : Nat → MS → Int64 → Int32 → Option (Int64 × MS)
  | 0, _, _, _ => none
  | n + 1, S, l1, l3 => obind2 (fr_cellCount S) fun r5 S2 => if r5 ≤ l3 then (obind2 (fr_cellCount S2) fun r10 S7 => elet (r10.toInt64) fun v11 => oif (¬ v11 = 0) <| elet (l1 / v11) fun v13 => some (v13, S7)) else (oif (inb l3 144 = true) <| elet (S2.2.2 25 l3.toNatClampNeg) fun v15 => elet (l1 + v15) fun v16 => elet (l3 + Int32.ofInt (1)) fun v17 => fr_meanPower_b22 n S2 v16 v17)
set_option maxHeartbeats 4000000 in
set_option maxRecDepth 100000 in
theorem tr_meanPower_b22 {p : Program} {l : Launch} {e : Env} {s : State} {m : MethodId} {args : Array Value} {below : List Frame} {meth : Method} {c : Code} {Q : State → Prop} {D : va_G} {A : Nat → Prop} {H0 : Heap} {cI cJ cZ : ClassId} {ad : Nat → Nat} {r1 : Int64} {S1 : MS} (E : mE p c cX12_meanPower s m args (Cond.code yX12_meanPower cX12_meanPower 4 (some .long) :: wsM) D cI cJ cZ) (hA : ∀ q : Nat, H0.size ≤ q → A q) (hR : sR s) (hml : c.maxLocals = 4) (kr9 : ∀ (H : Heap) (locs : List Loc) (ls : Array Slot), mG D cI cJ cZ ad A H0 H locs S1 → W p l e { frames := 7, cells := 0, slots := 0, locals := 140 } s m args below meth c H locs 0 0 Q (F0 m 9 ls [.long r1])) (kr52 : ∀ (H : Heap) (locs : List Loc) (ls : Array Slot), mG D cI cJ cZ ad A H0 H locs S1 → W p l e { frames := 7, cells := 0, slots := 0, locals := 140 } s m args below meth c H locs 0 0 Q (F0 m 52 ls [.long r1])) : ∀ n : Nat, ∀ (S : MS) (H : Heap) (locs : List Loc) (ls : Array Slot) (l1 : Int64) (l3 : Int32), fr_meanPower_b22 n S l1 l3 = some (r1, S1) → mG D cI cJ cZ ad A H0 H locs S → lv_has ls 4 [(0, .ref (ad 0)), (1, .long l1), (3, .int l3)] → W p l e { frames := 7, cells := 0, slots := 0, locals := 140 } s m args below meth c H locs 0 0 Q (F0 m 22 ls []) := by
  have hx := E.1
  have hb := E.2.1
  have hts := E.2.2.1
  have hown := E.2.2.2.1
  have hK := E.2.2.2.2.1
  intro n
  induction n with
  | zero =>
    intro S H locs ls l1 l3 h
    have h : (none : Option (Int64 × MS)) = some (r1, S1) := h
    cases h
  | succ n ih =>
    intro S H locs ls l1 l3 h G hl
    unfold fr_meanPower_b22 at h
    refine lv_iload_n hx hb dX12_meanPower_22 rfl (lv_at hl 2 rfl) ?_
    refine lv_aload_n hx hb dX12_meanPower_23 rfl (lv_at hl 0 rfl) ?_
    obtain ⟨r5, S2, eS2, h⟩ := obind2_some h
    refine m_calli (As := []) (rest := [.int l3]) E G hA hR hml (tr_cellCount l D cI cJ cZ ad S eS2) (cwV 0 hts (gmV qM_204 qM_205 qM_206 qM_35 qM_207) rfl rfl rfl (by decide +kernel) ⟨Nat.le_of_ble_eq_true rfl, Nat.le_of_ble_eq_true rfl⟩) rfl hl.1 rfl (lv_room (Nat.le_of_ble_eq_true rfl)) dX12_meanPower_24 ⟨Nat.zero_le _, Nat.zero_le _⟩ (fun q3 S4 H locs hq G => ?_)
    obtain ⟨hq1, hq2⟩ := hq
    rw [hq2] at G
    refine lv_to hq1 ?_
    clear hq1 hq2 eS2
    refine lv_icmp_ge (tgt := 45) hx hb dX12_meanPower_27 (by decide) (fun c6 => ?_) (fun c6 => ?_)
    · have h := oif_pos c6 h
      refine lv_lload_n hx hb dX12_meanPower_45 rfl (lv_at hl 1 rfl) ?_
      refine lv_aload_n hx hb dX12_meanPower_46 rfl (lv_at hl 0 rfl) ?_
      obtain ⟨r10, S7, eS7, h⟩ := obind2_some h
      refine m_calli (As := []) (rest := [.long l1]) E G hA hR hml (tr_cellCount l D cI cJ cZ ad S2 eS7) (cwV 0 hts (gmV qM_204 qM_205 qM_206 qM_35 qM_207) rfl rfl rfl (by decide +kernel) ⟨Nat.le_of_ble_eq_true rfl, Nat.le_of_ble_eq_true rfl⟩) rfl hl.1 rfl (lv_room (Nat.le_of_ble_eq_true rfl)) dX12_meanPower_47 ⟨Nat.zero_le _, Nat.zero_le _⟩ (fun q8 S9 H locs hq G => ?_)
      obtain ⟨hq1, hq2⟩ := hq
      rw [hq2] at G
      refine lv_to hq1 ?_
      clear hq1 hq2 eS7
      refine lv_i2l (v := r10.toInt64) hx hb dX12_meanPower_50 rfl ?_
      refine lv_topl (fun v11 ev11 => ?_)
      have h := elet_at ev11 h
      clear ev11
      obtain ⟨g12, h⟩ := oif_some h
      refine lv_ldiv hx hb dX12_meanPower_51 g12 ?_
      refine lv_topl (fun v13 ev13 => ?_)
      have h := elet_at ev13 h
      clear ev13
      rw [(osome2 h).2] at G
      refine lv_tol (osome2 h).1 ?_
      exact kr52 _ _ _ G
    · have h := oif_neg c6 h
      refine lv_lload_n hx hb dX12_meanPower_30 rfl (lv_at hl 1 rfl) ?_
      refine lv_aload_n hx hb dX12_meanPower_31 rfl (lv_at hl 0 rfl) ?_
      refine m_get E G 25 (v := .ref (ad 25)) (by decide) (.tail _ qM_21) rfl dX12_meanPower_32 rfl ?_
      refine lv_iload_n hx hb dX12_meanPower_35 rfl (lv_at hl 2 rfl) ?_
      obtain ⟨g14, h⟩ := oif_some h
      refine m_lald E G 25 13 (n := 144) (k := l3.toNatClampNeg) rfl (inb_k g14).1 (inb_k g14).2 (by decide) dX12_meanPower_36 ?_
      refine lv_topl (fun v15 ev15 => ?_)
      have h := elet_at ev15 h
      clear ev15
      refine lv_ladd hx hb dX12_meanPower_37 ?_
      refine lv_topl (fun v16 ev16 => ?_)
      have h := elet_at ev16 h
      clear ev16
      refine lv_lstore_n (lv' := [(1, .long v16), (0, .ref (ad 0)), (3, .int l3)]) hx hb dX12_meanPower_38 rfl hl (by decide) rfl (fun ls hl => ?_)
      obtain ⟨v17, ev17, h⟩ := elet_some h
      refine lv_iinc (v := v17) (lv' := [(3, .int v17), (1, .long v16), (0, .ref (ad 0))]) hx hb dX12_meanPower_39 hl (k := 2) rfl ev17.symm (by decide) rfl (fun ls hl => ?_)
      refine lv_goto (tgt := 22) hx hb dX12_meanPower_42 (by decide) ?_
      have hl := lv_sub hl [2, 1, 0] rfl
      exact ih _ _ _ _ _ _ h G hl
def fr_meanPower (S : MS)  : Option (Int64 × MS) := obind2 (fr_mayAsk S 1) fun r5 S2 => if r5 = 0 then (some ((0 : Int64), S2)) else (obind (fr_laysPowers_12 S2) fun S7 => fr_meanPower_b22 16384 S7 (0 : Int64) 0)
set_option maxHeartbeats 4000000 in
set_option maxRecDepth 100000 in
theorem tr_meanPower (l : Launch) (D : va_G) (cI cJ cZ : ClassId) (ad : Nat → Nat) (S : MS)  {r1 : Int64} {S1 : MS} (h : fr_meanPower S = some (r1, S1)) : mCl l yX12_meanPower (Cond.code yX12_meanPower cX12_meanPower 4 (some .long) :: wsM) 7 140 D cI cJ cZ ad S [] (fun r S9 => r = r1 ∧ S9 = S1) := by
  intro sz
  refine Met.ofW (cc := cX12_meanPower) (maxL := 4) (ret := (some .long)) (by decide) rfl ?_
  intro p e s m args below meth c s₁ B hml hv
  obtain ⟨rfl, hsz, hP, hK, hD0, hR⟩ := hv
  have hx := B.exec
  have hb := B.bytes
  have hr := B.returns
  have hts := atoms_spec (ws := (Cond.code yX12_meanPower cX12_meanPower 4 (some .long) :: wsM)) B.pre
  have hown : s.vm.findClass RX12 = some m.cls := findClass_of_methodNamed B.named
  have hlocks := B.notSynchronized
  subst hsz
  have hD := hD0.self (sz := s.heap.size)
  generalize hAe : va_A (MW cI cJ cZ ad S) s.heap.size = A at hD ⊢
  have hA : ∀ q : Nat, s.heap.size ≤ q → A q := fun q h => by rw [← hAe]; exact Or.inr h
  have G : mG D cI cJ cZ ad A s.heap s.heap [] S := ⟨hP, hD, va_S.rf⟩
  have E : mE p c cX12_meanPower s m ([.ref (ad 0)] : List Value).toArray (Cond.code yX12_meanPower cX12_meanPower 4 (some .long) :: wsM) D cI cJ cZ := ⟨hx, hb, hts, hown, hK, fun w h => .tail _ (iM_x h)⟩
  have hl := lv_entry ([.ref (ad 0)]) (n := 4) (Nat.le_of_ble_eq_true rfl)
  rw [lg_entry_eq]
  generalize (lg_sl ([.ref (ad 0)]) ++ List.replicate (4 - (lg_sl ([.ref (ad 0)])).length) Slot.unset).toArray = ls at hl ⊢
  have hl : lv_has ls 4 [(0, .ref (ad 0))] := hl
  unfold fr_meanPower at h
  refine lv_aload_n hx hb dX12_meanPower_0 rfl (lv_at hl 0 rfl) ?_
  refine lv_iconst (v := 1) hx hb dX12_meanPower_1 (by decide) ?_
  obtain ⟨r5, S2, eS2, h⟩ := obind2_some h
  refine m_calli (As := [.int 1]) (rest := []) E G hA hR hml (tr_mayAsk l D cI cJ cZ ad S 1 eS2) (cwV 1 hts (gmV qM_319 qM_320 qM_321 qM_35 qM_304) rfl rfl rfl (by decide +kernel) ⟨Nat.le_of_ble_eq_true rfl, Nat.le_of_ble_eq_true rfl⟩) rfl hl.1 rfl (lv_room (Nat.le_of_ble_eq_true rfl)) dX12_meanPower_2 ⟨Nat.zero_le _, Nat.zero_le _⟩ (fun q3 S4 H locs hq G => ?_)
  obtain ⟨hq1, hq2⟩ := hq
  rw [hq2] at G
  refine lv_to hq1 ?_
  clear hq1 hq2 eS2
  refine lv_if_ne (tgt := 10) hx hb dX12_meanPower_5 (by decide) (fun c6 => ?_) (fun c6 => ?_)
  · have h := oif_neg c6 h
    refine lv_aload_n hx hb dX12_meanPower_10 rfl (lv_at hl 0 rfl) ?_
    refine lv_aload_n hx hb dX12_meanPower_11 rfl (lv_at hl 0 rfl) ?_
    refine m_get E G 12 (v := .ref (ad 12)) (by decide) (.tail _ qM_9) rfl dX12_meanPower_12 rfl ?_
    obtain ⟨S7, eS7, h⟩ := obind_some h
    refine m_callv (As := [.ref (ad 12)]) (rest := []) E G hA hR hml (tr_laysPowers_12 l D cI cJ cZ ad S2 eS7) (cwV 1 hts (gmV qM_301 qM_302 qM_303 qM_35 qM_296) rfl rfl rfl (by decide +kernel) ⟨Nat.le_of_ble_eq_true rfl, Nat.le_of_ble_eq_true rfl⟩) rfl hl.1 rfl (lv_room (Nat.le_of_ble_eq_true rfl)) dX12_meanPower_15 ⟨Nat.zero_le _, Nat.zero_le _⟩ (fun S9 H locs hq G => ?_)
    rw [hq] at G
    clear hq eS7
    refine lv_lconst (v := 0) hx hb dX12_meanPower_18 (by decide) ?_
    refine lv_lstore_n (lv' := [(1, .long (0 : Int64)), (0, .ref (ad 0))]) hx hb dX12_meanPower_19 rfl hl (by decide) rfl (fun ls hl => ?_)
    refine lv_iconst (v := 0) hx hb dX12_meanPower_20 (by decide) ?_
    refine lv_istore_n (lv' := [(3, .int 0), (1, .long (0 : Int64)), (0, .ref (ad 0))]) hx hb dX12_meanPower_21 rfl hl (by decide) rfl (fun ls hl => ?_)
    have hl := lv_sub hl [2, 1, 0] rfl
    exact tr_meanPower_b22 E hA hR hml (fun H locs ls G => W.lret (v := r1) hx hb hr (fun t ht hW => ⟨⟨r1, S1, rfl, ⟨rfl, rfl⟩, ⟨by rw [ht]; exact G.1, va_K.moved hW.alike hK, G.2.1⟩⟩, G.2.2.F ht⟩) G.2.2.2.2 dX12_meanPower_9) (fun H locs ls G => W.lret (v := r1) hx hb hr (fun t ht hW => ⟨⟨r1, S1, rfl, ⟨rfl, rfl⟩, ⟨by rw [ht]; exact G.1, va_K.moved hW.alike hK, G.2.1⟩⟩, G.2.2.F ht⟩) G.2.2.2.2 dX12_meanPower_52) _ _ _ _ _ _ _ h G hl
  · have h := oif_pos c6 h
    refine lv_lconst (v := 0) hx hb dX12_meanPower_8 (by decide) ?_
    exact W.lret (v := (0 : Int64)) hx hb hr (fun t ht hW => ⟨⟨(0 : Int64), S2, rfl, osome2 h, ⟨by rw [ht]; exact G.1, va_K.moved hW.alike hK, G.2.1⟩⟩, G.2.2.F ht⟩) G.2.2.2.2 dX12_meanPower_9
def fr_isTop_b118 (k29 : MS → Int32 → Int32 → Int32 → Int32 → Option (Int32 × MS)) (k58 : MS → Int32 → Int32 → Int32 → Int32 → Int32 → Option (Int32 × MS)) (S : MS) (l1 : Int32) (l2 : Int32) (l3 : Int32) (l4 : Int32) (l5 : Int32) : Option (Int32 × MS) := elet (l5 + Int32.ofInt (1)) fun v2 => k58 S l1 l2 l3 l4 v2
set_option maxHeartbeats 4000000 in
set_option maxRecDepth 100000 in
theorem tr_isTop_b118 {p : Program} {l : Launch} {e : Env} {s : State} {m : MethodId} {args : Array Value} {below : List Frame} {meth : Method} {c : Code} {Q : State → Prop} {D : va_G} {A : Nat → Prop} {H0 : Heap} {cI cJ cZ : ClassId} {ad : Nat → Nat} {r1 : Int32} {S1 : MS} (E : mE p c cX12_isTop s m args (Cond.code yX12_isTop cX12_isTop 7 (some .boolean) :: wsM) D cI cJ cZ) (hA : ∀ q : Nat, H0.size ≤ q → A q) (hR : sR s) (hml : c.maxLocals = 7) (kr117 : ∀ (H : Heap) (locs : List Loc) (ls : Array Slot), (r1 = 0 ∨ r1 = 1) → mG D cI cJ cZ ad A H0 H locs S1 → W p l e { frames := 1, cells := 0, slots := 0, locals := 17 } s m args below meth c H locs 0 0 Q (F0 m 117 ls [.int r1])) (kr131 : ∀ (H : Heap) (locs : List Loc) (ls : Array Slot), (r1 = 0 ∨ r1 = 1) → mG D cI cJ cZ ad A H0 H locs S1 → W p l e { frames := 1, cells := 0, slots := 0, locals := 17 } s m args below meth c H locs 0 0 Q (F0 m 131 ls [.int r1])) {k29 : MS → Int32 → Int32 → Int32 → Int32 → Option (Int32 × MS)} {k58 : MS → Int32 → Int32 → Int32 → Int32 → Int32 → Option (Int32 × MS)} (hk29 : ∀ (S : MS) (H : Heap) (locs : List Loc) (ls : Array Slot) (l1 : Int32) (l2 : Int32) (l3 : Int32) (l4 : Int32), k29 S l1 l2 l3 l4 = some (r1, S1) → mG D cI cJ cZ ad A H0 H locs S → lv_has ls 7 [(0, .ref (ad 0)), (1, .int l1), (2, .int l2), (3, .int l3), (4, .int l4)] → W p l e { frames := 1, cells := 0, slots := 0, locals := 17 } s m args below meth c H locs 0 0 Q (F0 m 29 ls [])) (hk58 : ∀ (S : MS) (H : Heap) (locs : List Loc) (ls : Array Slot) (l1 : Int32) (l2 : Int32) (l3 : Int32) (l4 : Int32) (l5 : Int32), k58 S l1 l2 l3 l4 l5 = some (r1, S1) → mG D cI cJ cZ ad A H0 H locs S → lv_has ls 7 [(0, .ref (ad 0)), (1, .int l1), (2, .int l2), (3, .int l3), (4, .int l4), (5, .int l5)] → W p l e { frames := 1, cells := 0, slots := 0, locals := 17 } s m args below meth c H locs 0 0 Q (F0 m 58 ls [])) : ∀ (S : MS) (H : Heap) (locs : List Loc) (ls : Array Slot) (l1 : Int32) (l2 : Int32) (l3 : Int32) (l4 : Int32) (l5 : Int32), fr_isTop_b118 k29 k58 S l1 l2 l3 l4 l5 = some (r1, S1) → mG D cI cJ cZ ad A H0 H locs S → lv_has ls 7 [(0, .ref (ad 0)), (1, .int l1), (2, .int l2), (3, .int l3), (4, .int l4), (5, .int l5)] → W p l e { frames := 1, cells := 0, slots := 0, locals := 17 } s m args below meth c H locs 0 0 Q (F0 m 118 ls []) := by
  have hx := E.1
  have hb := E.2.1
  have hts := E.2.2.1
  have hown := E.2.2.2.1
  have hK := E.2.2.2.2.1
  intro S H locs ls l1 l2 l3 l4 l5 h G hl
  unfold fr_isTop_b118 at h
  obtain ⟨v2, ev2, h⟩ := elet_some h
  refine lv_iinc (v := v2) (lv' := [(5, .int v2), (0, .ref (ad 0)), (1, .int l1), (2, .int l2), (3, .int l3), (4, .int l4)]) hx hb dX12_isTop_118 hl (k := 5) rfl ev2.symm (by decide) rfl (fun ls hl => ?_)
  refine lv_goto (tgt := 58) hx hb dX12_isTop_121 (by decide) ?_
  have hl := lv_sub hl [1, 2, 3, 4, 5, 0] rfl
  exact hk58 _ _ _ _ _ _ _ _ _ h G hl
def fr_isTop_b58 (k29 : MS → Int32 → Int32 → Int32 → Int32 → Option (Int32 × MS)) : Nat → MS → Int32 → Int32 → Int32 → Int32 → Int32 → Option (Int32 × MS)
  | 0, _, _, _, _, _, _ => none
  | n + 1, S, l1, l2, l3, l4, l5 => elet (S.2.1 10 9) fun v2 => elet (v2 - 1) fun v3 => elet (l2 + 1) fun v4 => elet (if v4 < v3 then v4 else v3) fun v5 => if v5 < l5 then (elet (l4 + Int32.ofInt (1)) fun v7 => k29 S l1 l2 l3 v7) else (elet (S.2.1 10 9) fun v8 => elet (v8 * l4) fun v9 => elet (v9 + l5) fun v10 => if v10 = l1 then (fr_isTop_b118 k29 (fr_isTop_b58 k29 n) S l1 l2 l3 l4 l5) else (oif (inb v10 144 = true) <| elet (S.2.2 25 v10.toNatClampNeg) fun v13 => oif (inb l1 144 = true) <| elet (S.2.2 25 l1.toNatClampNeg) fun v15 => elet (lg_cmp v13 v15) fun v16 => if v16 < 0 then (fr_isTop_b118 k29 (fr_isTop_b58 k29 n) S l1 l2 l3 l4 l5) else (some (0, S))))
set_option maxHeartbeats 4000000 in
set_option maxRecDepth 100000 in
theorem tr_isTop_b58 {p : Program} {l : Launch} {e : Env} {s : State} {m : MethodId} {args : Array Value} {below : List Frame} {meth : Method} {c : Code} {Q : State → Prop} {D : va_G} {A : Nat → Prop} {H0 : Heap} {cI cJ cZ : ClassId} {ad : Nat → Nat} {r1 : Int32} {S1 : MS} (E : mE p c cX12_isTop s m args (Cond.code yX12_isTop cX12_isTop 7 (some .boolean) :: wsM) D cI cJ cZ) (hA : ∀ q : Nat, H0.size ≤ q → A q) (hR : sR s) (hml : c.maxLocals = 7) (kr117 : ∀ (H : Heap) (locs : List Loc) (ls : Array Slot), (r1 = 0 ∨ r1 = 1) → mG D cI cJ cZ ad A H0 H locs S1 → W p l e { frames := 1, cells := 0, slots := 0, locals := 17 } s m args below meth c H locs 0 0 Q (F0 m 117 ls [.int r1])) (kr131 : ∀ (H : Heap) (locs : List Loc) (ls : Array Slot), (r1 = 0 ∨ r1 = 1) → mG D cI cJ cZ ad A H0 H locs S1 → W p l e { frames := 1, cells := 0, slots := 0, locals := 17 } s m args below meth c H locs 0 0 Q (F0 m 131 ls [.int r1])) {k29 : MS → Int32 → Int32 → Int32 → Int32 → Option (Int32 × MS)} (hk29 : ∀ (S : MS) (H : Heap) (locs : List Loc) (ls : Array Slot) (l1 : Int32) (l2 : Int32) (l3 : Int32) (l4 : Int32), k29 S l1 l2 l3 l4 = some (r1, S1) → mG D cI cJ cZ ad A H0 H locs S → lv_has ls 7 [(0, .ref (ad 0)), (1, .int l1), (2, .int l2), (3, .int l3), (4, .int l4)] → W p l e { frames := 1, cells := 0, slots := 0, locals := 17 } s m args below meth c H locs 0 0 Q (F0 m 29 ls [])) : ∀ n : Nat, ∀ (S : MS) (H : Heap) (locs : List Loc) (ls : Array Slot) (l1 : Int32) (l2 : Int32) (l3 : Int32) (l4 : Int32) (l5 : Int32), fr_isTop_b58 k29 n S l1 l2 l3 l4 l5 = some (r1, S1) → mG D cI cJ cZ ad A H0 H locs S → lv_has ls 7 [(0, .ref (ad 0)), (1, .int l1), (2, .int l2), (3, .int l3), (4, .int l4), (5, .int l5)] → W p l e { frames := 1, cells := 0, slots := 0, locals := 17 } s m args below meth c H locs 0 0 Q (F0 m 58 ls []) := by
  have hx := E.1
  have hb := E.2.1
  have hts := E.2.2.1
  have hown := E.2.2.2.1
  have hK := E.2.2.2.2.1
  intro n
  induction n with
  | zero =>
    intro S H locs ls l1 l2 l3 l4 l5 h
    have h : (none : Option (Int32 × MS)) = some (r1, S1) := h
    cases h
  | succ n ih =>
    intro S H locs ls l1 l2 l3 l4 l5 h G hl
    unfold fr_isTop_b58 at h
    refine lv_iload hx hb dX12_isTop_58 (lv_at hl 5 rfl) ?_
    refine lv_aload_n hx hb dX12_isTop_60 rfl (lv_at hl 0 rfl) ?_
    refine m_get E G 10 (v := .ref (ad 10)) (by decide) (.tail _ qM_7) rfl dX12_isTop_61 rfl ?_
    refine lv_bipush (v := 9) hx hb dX12_isTop_64 (by decide) ?_
    refine m_iald E G 10 2 (n := 131) (k := 9) rfl rfl (by decide) (by decide) dX12_isTop_66 ?_
    refine lv_topi (fun v2 ev2 => ?_)
    have h := elet_at ev2 h
    clear ev2
    refine lv_iconst (v := 1) hx hb dX12_isTop_67 (by decide) ?_
    refine lv_isub hx hb dX12_isTop_68 ?_
    refine lv_topi (fun v3 ev3 => ?_)
    have h := elet_at ev3 h
    clear ev3
    refine lv_iload_n hx hb dX12_isTop_69 rfl (lv_at hl 2 rfl) ?_
    refine lv_iconst (v := 1) hx hb dX12_isTop_70 (by decide) ?_
    refine lv_iadd hx hb dX12_isTop_71 ?_
    refine lv_topi (fun v4 ev4 => ?_)
    have h := elet_at ev4 h
    clear ev4
    refine va_mmin hx hb (hml.trans hl.1.symm) hown (hts _ (.tail _ qM_262)) (hts _ (.tail _ qM_263)) (hts _ (.tail _ qM_247)) (hts _ (.tail _ qM_264)) (Nat.le_of_ble_eq_true rfl) (Nat.le_of_ble_eq_true rfl) (Nat.zero_le _) (Nat.zero_le _) dX12_isTop_72 ?_
    refine lv_topi (fun v5 ev5 => ?_)
    have h := elet_at ev5 h
    clear ev5
    refine lv_icmp_gt (tgt := 124) hx hb dX12_isTop_75 (by decide) (fun c6 => ?_) (fun c6 => ?_)
    · have h := oif_pos c6 h
      obtain ⟨v7, ev7, h⟩ := elet_some h
      refine lv_iinc (v := v7) (lv' := [(4, .int v7), (0, .ref (ad 0)), (1, .int l1), (2, .int l2), (3, .int l3), (5, .int l5)]) hx hb dX12_isTop_124 hl (k := 4) rfl ev7.symm (by decide) rfl (fun ls hl => ?_)
      refine lv_goto (tgt := 29) hx hb dX12_isTop_127 (by decide) ?_
      have hl := lv_sub hl [1, 2, 3, 4, 0] rfl
      exact hk29 _ _ _ _ _ _ _ _ h G hl
    · have h := oif_neg c6 h
      refine lv_aload_n hx hb dX12_isTop_78 rfl (lv_at hl 0 rfl) ?_
      refine m_get E G 10 (v := .ref (ad 10)) (by decide) (.tail _ qM_7) rfl dX12_isTop_79 rfl ?_
      refine lv_bipush (v := 9) hx hb dX12_isTop_82 (by decide) ?_
      refine m_iald E G 10 2 (n := 131) (k := 9) rfl rfl (by decide) (by decide) dX12_isTop_84 ?_
      refine lv_topi (fun v8 ev8 => ?_)
      have h := elet_at ev8 h
      clear ev8
      refine lv_iload hx hb dX12_isTop_85 (lv_at hl 4 rfl) ?_
      refine lv_imul hx hb dX12_isTop_87 ?_
      refine lv_topi (fun v9 ev9 => ?_)
      have h := elet_at ev9 h
      clear ev9
      refine lv_iload hx hb dX12_isTop_88 (lv_at hl 5 rfl) ?_
      refine lv_iadd hx hb dX12_isTop_90 ?_
      refine lv_topi (fun v10 ev10 => ?_)
      have h := elet_at ev10 h
      clear ev10
      refine lv_istore (lv' := [(6, .int v10), (0, .ref (ad 0)), (1, .int l1), (2, .int l2), (3, .int l3), (4, .int l4), (5, .int l5)]) hx hb dX12_isTop_91 hl (by decide) rfl (fun ls hl => ?_)
      refine lv_iload hx hb dX12_isTop_93 (lv_at hl 0 rfl) ?_
      refine lv_iload_n hx hb dX12_isTop_95 rfl (lv_at hl 2 rfl) ?_
      refine lv_icmp_eq (tgt := 118) hx hb dX12_isTop_96 (by decide) (fun c11 => ?_) (fun c11 => ?_)
      · have h := oif_pos c11 h
        have hl := lv_sub hl [1, 2, 3, 4, 5, 6] rfl
        exact tr_isTop_b118 E hA hR hml kr117 kr131 hk29 ih _ _ _ _ _ _ _ _ _ h G hl
      · have h := oif_neg c11 h
        refine lv_aload_n hx hb dX12_isTop_99 rfl (lv_at hl 1 rfl) ?_
        refine m_get E G 25 (v := .ref (ad 25)) (by decide) (.tail _ qM_21) rfl dX12_isTop_100 rfl ?_
        refine lv_iload hx hb dX12_isTop_103 (lv_at hl 0 rfl) ?_
        obtain ⟨g12, h⟩ := oif_some h
        refine m_lald E G 25 13 (n := 144) (k := v10.toNatClampNeg) rfl (inb_k g12).1 (inb_k g12).2 (by decide) dX12_isTop_105 ?_
        refine lv_topl (fun v13 ev13 => ?_)
        have h := elet_at ev13 h
        clear ev13
        refine lv_aload_n hx hb dX12_isTop_106 rfl (lv_at hl 1 rfl) ?_
        refine m_get E G 25 (v := .ref (ad 25)) (by decide) (.tail _ qM_21) rfl dX12_isTop_107 rfl ?_
        refine lv_iload_n hx hb dX12_isTop_110 rfl (lv_at hl 2 rfl) ?_
        obtain ⟨g14, h⟩ := oif_some h
        refine m_lald E G 25 13 (n := 144) (k := l1.toNatClampNeg) rfl (inb_k g14).1 (inb_k g14).2 (by decide) dX12_isTop_111 ?_
        refine lv_topl (fun v15 ev15 => ?_)
        have h := elet_at ev15 h
        clear ev15
        refine W.lcmp hx hb dX12_isTop_112 ?_
        refine lv_topi (fun v16 ev16 => ?_)
        have h := elet_at ev16 h
        clear ev16
        refine lv_if_lt (tgt := 118) hx hb dX12_isTop_113 (by decide) (fun c17 => ?_) (fun c17 => ?_)
        · have h := oif_pos c17 h
          have hl := lv_sub hl [1, 2, 3, 4, 5, 6] rfl
          exact tr_isTop_b118 E hA hR hml kr117 kr131 hk29 ih _ _ _ _ _ _ _ _ _ h G hl
        · have h := oif_neg c17 h
          refine lv_iconst (v := 0) hx hb dX12_isTop_116 (by decide) ?_
          rw [(osome2 h).2] at G
          refine lv_to (osome2 h).1 ?_
          exact kr117 _ _ _ (.inl ((osome2 h).1).symm) G
def fr_isTop_b29  : Nat → MS → Int32 → Int32 → Int32 → Int32 → Option (Int32 × MS)
  | 0, _, _, _, _, _ => none
  | n + 1, S, l1, l2, l3, l4 => elet (S.2.1 10 10) fun v2 => elet (v2 - 1) fun v3 => elet (l3 + 1) fun v4 => elet (if v4 < v3 then v4 else v3) fun v5 => if v5 < l4 then (some (1, S)) else (elet (l2 - 1) fun v7 => elet (if 0 < v7 then v7 else 0) fun v8 => fr_isTop_b58 (fr_isTop_b29 n) 16384 S l1 l2 l3 l4 v8)
set_option maxHeartbeats 4000000 in
set_option maxRecDepth 100000 in
theorem tr_isTop_b29 {p : Program} {l : Launch} {e : Env} {s : State} {m : MethodId} {args : Array Value} {below : List Frame} {meth : Method} {c : Code} {Q : State → Prop} {D : va_G} {A : Nat → Prop} {H0 : Heap} {cI cJ cZ : ClassId} {ad : Nat → Nat} {r1 : Int32} {S1 : MS} (E : mE p c cX12_isTop s m args (Cond.code yX12_isTop cX12_isTop 7 (some .boolean) :: wsM) D cI cJ cZ) (hA : ∀ q : Nat, H0.size ≤ q → A q) (hR : sR s) (hml : c.maxLocals = 7) (kr117 : ∀ (H : Heap) (locs : List Loc) (ls : Array Slot), (r1 = 0 ∨ r1 = 1) → mG D cI cJ cZ ad A H0 H locs S1 → W p l e { frames := 1, cells := 0, slots := 0, locals := 17 } s m args below meth c H locs 0 0 Q (F0 m 117 ls [.int r1])) (kr131 : ∀ (H : Heap) (locs : List Loc) (ls : Array Slot), (r1 = 0 ∨ r1 = 1) → mG D cI cJ cZ ad A H0 H locs S1 → W p l e { frames := 1, cells := 0, slots := 0, locals := 17 } s m args below meth c H locs 0 0 Q (F0 m 131 ls [.int r1])) : ∀ n : Nat, ∀ (S : MS) (H : Heap) (locs : List Loc) (ls : Array Slot) (l1 : Int32) (l2 : Int32) (l3 : Int32) (l4 : Int32), fr_isTop_b29 n S l1 l2 l3 l4 = some (r1, S1) → mG D cI cJ cZ ad A H0 H locs S → lv_has ls 7 [(0, .ref (ad 0)), (1, .int l1), (2, .int l2), (3, .int l3), (4, .int l4)] → W p l e { frames := 1, cells := 0, slots := 0, locals := 17 } s m args below meth c H locs 0 0 Q (F0 m 29 ls []) := by
  have hx := E.1
  have hb := E.2.1
  have hts := E.2.2.1
  have hown := E.2.2.2.1
  have hK := E.2.2.2.2.1
  intro n
  induction n with
  | zero =>
    intro S H locs ls l1 l2 l3 l4 h
    have h : (none : Option (Int32 × MS)) = some (r1, S1) := h
    cases h
  | succ n ih =>
    intro S H locs ls l1 l2 l3 l4 h G hl
    unfold fr_isTop_b29 at h
    refine lv_iload hx hb dX12_isTop_29 (lv_at hl 4 rfl) ?_
    refine lv_aload_n hx hb dX12_isTop_31 rfl (lv_at hl 0 rfl) ?_
    refine m_get E G 10 (v := .ref (ad 10)) (by decide) (.tail _ qM_7) rfl dX12_isTop_32 rfl ?_
    refine lv_bipush (v := 10) hx hb dX12_isTop_35 (by decide) ?_
    refine m_iald E G 10 2 (n := 131) (k := 10) rfl rfl (by decide) (by decide) dX12_isTop_37 ?_
    refine lv_topi (fun v2 ev2 => ?_)
    have h := elet_at ev2 h
    clear ev2
    refine lv_iconst (v := 1) hx hb dX12_isTop_38 (by decide) ?_
    refine lv_isub hx hb dX12_isTop_39 ?_
    refine lv_topi (fun v3 ev3 => ?_)
    have h := elet_at ev3 h
    clear ev3
    refine lv_iload_n hx hb dX12_isTop_40 rfl (lv_at hl 3 rfl) ?_
    refine lv_iconst (v := 1) hx hb dX12_isTop_41 (by decide) ?_
    refine lv_iadd hx hb dX12_isTop_42 ?_
    refine lv_topi (fun v4 ev4 => ?_)
    have h := elet_at ev4 h
    clear ev4
    refine va_mmin hx hb (hml.trans hl.1.symm) hown (hts _ (.tail _ qM_262)) (hts _ (.tail _ qM_263)) (hts _ (.tail _ qM_247)) (hts _ (.tail _ qM_264)) (Nat.le_of_ble_eq_true rfl) (Nat.le_of_ble_eq_true rfl) (Nat.zero_le _) (Nat.zero_le _) dX12_isTop_43 ?_
    refine lv_topi (fun v5 ev5 => ?_)
    have h := elet_at ev5 h
    clear ev5
    refine lv_icmp_gt (tgt := 130) hx hb dX12_isTop_46 (by decide) (fun c6 => ?_) (fun c6 => ?_)
    · have h := oif_pos c6 h
      refine lv_iconst (v := 1) hx hb dX12_isTop_130 (by decide) ?_
      rw [(osome2 h).2] at G
      refine lv_to (osome2 h).1 ?_
      exact kr131 _ _ _ (.inr ((osome2 h).1).symm) G
    · have h := oif_neg c6 h
      refine lv_iconst (v := 0) hx hb dX12_isTop_49 (by decide) ?_
      refine lv_iload_n hx hb dX12_isTop_50 rfl (lv_at hl 2 rfl) ?_
      refine lv_iconst (v := 1) hx hb dX12_isTop_51 (by decide) ?_
      refine lv_isub hx hb dX12_isTop_52 ?_
      refine lv_topi (fun v7 ev7 => ?_)
      have h := elet_at ev7 h
      clear ev7
      refine va_mmax hx hb (hml.trans hl.1.symm) hown (hts _ (.tail _ qM_265)) (hts _ (.tail _ qM_266)) (hts _ (.tail _ qM_247)) (hts _ (.tail _ qM_267)) (Nat.le_of_ble_eq_true rfl) (Nat.le_of_ble_eq_true rfl) (Nat.zero_le _) (Nat.zero_le _) dX12_isTop_53 ?_
      refine lv_topi (fun v8 ev8 => ?_)
      have h := elet_at ev8 h
      clear ev8
      refine lv_istore (lv' := [(5, .int v8), (0, .ref (ad 0)), (1, .int l1), (2, .int l2), (3, .int l3), (4, .int l4)]) hx hb dX12_isTop_56 hl (by decide) rfl (fun ls hl => ?_)
      have hl := lv_sub hl [1, 2, 3, 4, 5, 0] rfl
      exact tr_isTop_b58 E hA hR hml kr117 kr131 ih _ _ _ _ _ _ _ _ _ _ h G hl
def fr_isTop (S : MS) (a0 : Int32) : Option (Int32 × MS) := elet (S.2.1 10 9) fun v2 => oif (¬ v2 = 0) <| elet (a0 - a0 / v2 * v2) fun v4 => elet (S.2.1 10 9) fun v5 => oif (¬ v5 = 0) <| elet (a0 / v5) fun v7 => elet (v7 - 1) fun v8 => elet (if 0 < v8 then v8 else 0) fun v9 => fr_isTop_b29 16384 S a0 v4 v7 v9
set_option maxHeartbeats 4000000 in
set_option maxRecDepth 100000 in
theorem tr_isTop (l : Launch) (D : va_G) (cI cJ cZ : ClassId) (ad : Nat → Nat) (S : MS) (a0 : Int32) {r1 : Int32} {S1 : MS} (h : fr_isTop S a0 = some (r1, S1)) : mCi l yX12_isTop (Cond.code yX12_isTop cX12_isTop 7 (some .boolean) :: wsM) 1 17 D cI cJ cZ ad S [.int a0] (fun r S9 => r = r1 ∧ S9 = S1) := by
  intro sz
  refine Met.ofW (cc := cX12_isTop) (maxL := 7) (ret := (some .boolean)) (by decide) rfl ?_
  intro p e s m args below meth c s₁ B hml hv
  obtain ⟨rfl, hsz, hP, hK, hD0, hR⟩ := hv
  have hx := B.exec
  have hb := B.bytes
  have hr := B.returns
  have hts := atoms_spec (ws := (Cond.code yX12_isTop cX12_isTop 7 (some .boolean) :: wsM)) B.pre
  have hown : s.vm.findClass RX12 = some m.cls := findClass_of_methodNamed B.named
  have hlocks := B.notSynchronized
  subst hsz
  have hD := hD0.self (sz := s.heap.size)
  generalize hAe : va_A (MW cI cJ cZ ad S) s.heap.size = A at hD ⊢
  have hA : ∀ q : Nat, s.heap.size ≤ q → A q := fun q h => by rw [← hAe]; exact Or.inr h
  have G : mG D cI cJ cZ ad A s.heap s.heap [] S := ⟨hP, hD, va_S.rf⟩
  have E : mE p c cX12_isTop s m ([.ref (ad 0), .int a0] : List Value).toArray (Cond.code yX12_isTop cX12_isTop 7 (some .boolean) :: wsM) D cI cJ cZ := ⟨hx, hb, hts, hown, hK, fun w h => .tail _ (iM_x h)⟩
  have hl := lv_entry ([.ref (ad 0), .int a0]) (n := 7) (Nat.le_of_ble_eq_true rfl)
  rw [lg_entry_eq]
  generalize (lg_sl ([.ref (ad 0), .int a0]) ++ List.replicate (7 - (lg_sl ([.ref (ad 0), .int a0])).length) Slot.unset).toArray = ls at hl ⊢
  have hl : lv_has ls 7 [(0, .ref (ad 0)), (1, .int a0)] := hl
  unfold fr_isTop at h
  refine lv_iload_n hx hb dX12_isTop_0 rfl (lv_at hl 1 rfl) ?_
  refine lv_aload_n hx hb dX12_isTop_1 rfl (lv_at hl 0 rfl) ?_
  refine m_get E G 10 (v := .ref (ad 10)) (by decide) (.tail _ qM_7) rfl dX12_isTop_2 rfl ?_
  refine lv_bipush (v := 9) hx hb dX12_isTop_5 (by decide) ?_
  refine m_iald E G 10 2 (n := 131) (k := 9) rfl rfl (by decide) (by decide) dX12_isTop_7 ?_
  refine lv_topi (fun v2 ev2 => ?_)
  have h := elet_at ev2 h
  clear ev2
  obtain ⟨g3, h⟩ := oif_some h
  refine lv_irem hx hb dX12_isTop_8 g3 ?_
  refine lv_topi (fun v4 ev4 => ?_)
  have h := elet_at ev4 h
  clear ev4
  refine lv_istore_n (lv' := [(2, .int v4), (0, .ref (ad 0)), (1, .int a0)]) hx hb dX12_isTop_9 rfl hl (by decide) rfl (fun ls hl => ?_)
  refine lv_iload_n hx hb dX12_isTop_10 rfl (lv_at hl 2 rfl) ?_
  refine lv_aload_n hx hb dX12_isTop_11 rfl (lv_at hl 1 rfl) ?_
  refine m_get E G 10 (v := .ref (ad 10)) (by decide) (.tail _ qM_7) rfl dX12_isTop_12 rfl ?_
  refine lv_bipush (v := 9) hx hb dX12_isTop_15 (by decide) ?_
  refine m_iald E G 10 2 (n := 131) (k := 9) rfl rfl (by decide) (by decide) dX12_isTop_17 ?_
  refine lv_topi (fun v5 ev5 => ?_)
  have h := elet_at ev5 h
  clear ev5
  obtain ⟨g6, h⟩ := oif_some h
  refine lv_idiv hx hb dX12_isTop_18 g6 ?_
  refine lv_topi (fun v7 ev7 => ?_)
  have h := elet_at ev7 h
  clear ev7
  refine lv_istore_n (lv' := [(3, .int v7), (2, .int v4), (0, .ref (ad 0)), (1, .int a0)]) hx hb dX12_isTop_19 rfl hl (by decide) rfl (fun ls hl => ?_)
  refine lv_iconst (v := 0) hx hb dX12_isTop_20 (by decide) ?_
  refine lv_iload_n hx hb dX12_isTop_21 rfl (lv_at hl 0 rfl) ?_
  refine lv_iconst (v := 1) hx hb dX12_isTop_22 (by decide) ?_
  refine lv_isub hx hb dX12_isTop_23 ?_
  refine lv_topi (fun v8 ev8 => ?_)
  have h := elet_at ev8 h
  clear ev8
  refine va_mmax hx hb (hml.trans hl.1.symm) hown (hts _ (.tail _ qM_265)) (hts _ (.tail _ qM_266)) (hts _ (.tail _ qM_247)) (hts _ (.tail _ qM_267)) (Nat.le_of_ble_eq_true rfl) (Nat.le_of_ble_eq_true rfl) (Nat.zero_le _) (Nat.zero_le _) dX12_isTop_24 ?_
  refine lv_topi (fun v9 ev9 => ?_)
  have h := elet_at ev9 h
  clear ev9
  refine lv_istore (lv' := [(4, .int v9), (3, .int v7), (2, .int v4), (0, .ref (ad 0)), (1, .int a0)]) hx hb dX12_isTop_27 hl (by decide) rfl (fun ls hl => ?_)
  have hl := lv_sub hl [3, 4, 2, 1, 0] rfl
  exact tr_isTop_b29 E hA hR hml (fun H locs ls gz G => W.zret (v := r1) hx hb hr (nar01 gz) (fun t ht hW => ⟨⟨r1, S1, rfl, ⟨rfl, rfl⟩, ⟨by rw [ht]; exact G.1, va_K.moved hW.alike hK, G.2.1⟩⟩, G.2.2.F ht⟩) G.2.2.2.2 dX12_isTop_117) (fun H locs ls gz G => W.zret (v := r1) hx hb hr (nar01 gz) (fun t ht hW => ⟨⟨r1, S1, rfl, ⟨rfl, rfl⟩, ⟨by rw [ht]; exact G.1, va_K.moved hW.alike hK, G.2.1⟩⟩, G.2.2.F ht⟩) G.2.2.2.2 dX12_isTop_131) _ _ _ _ _ _ _ _ _ h G hl
def fr_peaks_b44 (k22 : MS → Int32 → Int32 → Option (Int32 × MS)) (S : MS) (s0 : Int32) (s1 : Int32) (l2 : Int32) : Option (Int32 × MS) := elet (s1 + s0) fun v2 => elet (l2 + Int32.ofInt (1)) fun v3 => k22 S v2 v3
set_option maxHeartbeats 4000000 in
set_option maxRecDepth 100000 in
theorem tr_peaks_b44 {p : Program} {l : Launch} {e : Env} {s : State} {m : MethodId} {args : Array Value} {below : List Frame} {meth : Method} {c : Code} {Q : State → Prop} {D : va_G} {A : Nat → Prop} {H0 : Heap} {cI cJ cZ : ClassId} {ad : Nat → Nat} {r1 : Int32} {S1 : MS} (E : mE p c cX12_peaks s m args (Cond.code yX12_peaks cX12_peaks 3 (some .int) :: wsM) D cI cJ cZ) (hA : ∀ q : Nat, H0.size ≤ q → A q) (hR : sR s) (hml : c.maxLocals = 3) (kr9 : ∀ (H : Heap) (locs : List Loc) (ls : Array Slot), mG D cI cJ cZ ad A H0 H locs S1 → W p l e { frames := 7, cells := 0, slots := 0, locals := 140 } s m args below meth c H locs 0 0 Q (F0 m 9 ls [.int r1])) (kr53 : ∀ (H : Heap) (locs : List Loc) (ls : Array Slot), mG D cI cJ cZ ad A H0 H locs S1 → W p l e { frames := 7, cells := 0, slots := 0, locals := 140 } s m args below meth c H locs 0 0 Q (F0 m 53 ls [.int r1])) {k22 : MS → Int32 → Int32 → Option (Int32 × MS)} (hk22 : ∀ (S : MS) (H : Heap) (locs : List Loc) (ls : Array Slot) (l1 : Int32) (l2 : Int32), k22 S l1 l2 = some (r1, S1) → mG D cI cJ cZ ad A H0 H locs S → lv_has ls 3 [(0, .ref (ad 0)), (1, .int l1), (2, .int l2)] → W p l e { frames := 7, cells := 0, slots := 0, locals := 140 } s m args below meth c H locs 0 0 Q (F0 m 22 ls [])) : ∀ (S : MS) (H : Heap) (locs : List Loc) (ls : Array Slot) (s0 : Int32) (s1 : Int32) (l2 : Int32), fr_peaks_b44 k22 S s0 s1 l2 = some (r1, S1) → mG D cI cJ cZ ad A H0 H locs S → lv_has ls 3 [(0, .ref (ad 0)), (2, .int l2)] → W p l e { frames := 7, cells := 0, slots := 0, locals := 140 } s m args below meth c H locs 0 0 Q (F0 m 44 ls [.int s0, .int s1]) := by
  have hx := E.1
  have hb := E.2.1
  have hts := E.2.2.1
  have hown := E.2.2.2.1
  have hK := E.2.2.2.2.1
  intro S H locs ls s0 s1 l2 h G hl
  unfold fr_peaks_b44 at h
  refine lv_iadd hx hb dX12_peaks_44 ?_
  refine lv_topi (fun v2 ev2 => ?_)
  have h := elet_at ev2 h
  clear ev2
  refine lv_istore_n (lv' := [(1, .int v2), (0, .ref (ad 0)), (2, .int l2)]) hx hb dX12_peaks_45 rfl hl (by decide) rfl (fun ls hl => ?_)
  obtain ⟨v3, ev3, h⟩ := elet_some h
  refine lv_iinc (v := v3) (lv' := [(2, .int v3), (1, .int v2), (0, .ref (ad 0))]) hx hb dX12_peaks_46 hl (k := 2) rfl ev3.symm (by decide) rfl (fun ls hl => ?_)
  refine lv_goto (tgt := 22) hx hb dX12_peaks_49 (by decide) ?_
  have hl := lv_sub hl [2, 1, 0] rfl
  exact hk22 _ _ _ _ _ _ h G hl
def fr_peaks_b22  : Nat → MS → Int32 → Int32 → Option (Int32 × MS)
  | 0, _, _, _ => none
  | n + 1, S, l1, l2 => obind2 (fr_cellCount S) fun r5 S2 => if r5 ≤ l2 then (some (l1, S2)) else (obind2 (fr_isTop S2 l2) fun r10 S7 => if r10 = 0 then (fr_peaks_b44 (fr_peaks_b22 n) S7 0 l1 l2) else (fr_peaks_b44 (fr_peaks_b22 n) S7 1 l1 l2))
set_option maxHeartbeats 4000000 in
set_option maxRecDepth 100000 in
theorem tr_peaks_b22 {p : Program} {l : Launch} {e : Env} {s : State} {m : MethodId} {args : Array Value} {below : List Frame} {meth : Method} {c : Code} {Q : State → Prop} {D : va_G} {A : Nat → Prop} {H0 : Heap} {cI cJ cZ : ClassId} {ad : Nat → Nat} {r1 : Int32} {S1 : MS} (E : mE p c cX12_peaks s m args (Cond.code yX12_peaks cX12_peaks 3 (some .int) :: wsM) D cI cJ cZ) (hA : ∀ q : Nat, H0.size ≤ q → A q) (hR : sR s) (hml : c.maxLocals = 3) (kr9 : ∀ (H : Heap) (locs : List Loc) (ls : Array Slot), mG D cI cJ cZ ad A H0 H locs S1 → W p l e { frames := 7, cells := 0, slots := 0, locals := 140 } s m args below meth c H locs 0 0 Q (F0 m 9 ls [.int r1])) (kr53 : ∀ (H : Heap) (locs : List Loc) (ls : Array Slot), mG D cI cJ cZ ad A H0 H locs S1 → W p l e { frames := 7, cells := 0, slots := 0, locals := 140 } s m args below meth c H locs 0 0 Q (F0 m 53 ls [.int r1])) : ∀ n : Nat, ∀ (S : MS) (H : Heap) (locs : List Loc) (ls : Array Slot) (l1 : Int32) (l2 : Int32), fr_peaks_b22 n S l1 l2 = some (r1, S1) → mG D cI cJ cZ ad A H0 H locs S → lv_has ls 3 [(0, .ref (ad 0)), (1, .int l1), (2, .int l2)] → W p l e { frames := 7, cells := 0, slots := 0, locals := 140 } s m args below meth c H locs 0 0 Q (F0 m 22 ls []) := by
  have hx := E.1
  have hb := E.2.1
  have hts := E.2.2.1
  have hown := E.2.2.2.1
  have hK := E.2.2.2.2.1
  intro n
  induction n with
  | zero =>
    intro S H locs ls l1 l2 h
    have h : (none : Option (Int32 × MS)) = some (r1, S1) := h
    cases h
  | succ n ih =>
    intro S H locs ls l1 l2 h G hl
    unfold fr_peaks_b22 at h
    refine lv_iload_n hx hb dX12_peaks_22 rfl (lv_at hl 2 rfl) ?_
    refine lv_aload_n hx hb dX12_peaks_23 rfl (lv_at hl 0 rfl) ?_
    obtain ⟨r5, S2, eS2, h⟩ := obind2_some h
    refine m_calli (As := []) (rest := [.int l2]) E G hA hR hml (tr_cellCount l D cI cJ cZ ad S eS2) (cwV 0 hts (gmV qM_204 qM_205 qM_206 qM_35 qM_207) rfl rfl rfl (by decide +kernel) ⟨Nat.le_of_ble_eq_true rfl, Nat.le_of_ble_eq_true rfl⟩) rfl hl.1 rfl (lv_room (Nat.le_of_ble_eq_true rfl)) dX12_peaks_24 ⟨Nat.zero_le _, Nat.zero_le _⟩ (fun q3 S4 H locs hq G => ?_)
    obtain ⟨hq1, hq2⟩ := hq
    rw [hq2] at G
    refine lv_to hq1 ?_
    clear hq1 hq2 eS2
    refine lv_icmp_ge (tgt := 52) hx hb dX12_peaks_27 (by decide) (fun c6 => ?_) (fun c6 => ?_)
    · have h := oif_pos c6 h
      refine lv_iload_n hx hb dX12_peaks_52 rfl (lv_at hl 1 rfl) ?_
      rw [(osome2 h).2] at G
      refine lv_to (osome2 h).1 ?_
      exact kr53 _ _ _ G
    · have h := oif_neg c6 h
      refine lv_iload_n hx hb dX12_peaks_30 rfl (lv_at hl 1 rfl) ?_
      refine lv_aload_n hx hb dX12_peaks_31 rfl (lv_at hl 0 rfl) ?_
      refine lv_iload_n hx hb dX12_peaks_32 rfl (lv_at hl 2 rfl) ?_
      obtain ⟨r10, S7, eS7, h⟩ := obind2_some h
      refine m_calli (As := [.int l2]) (rest := [.int l1]) E G hA hR hml (tr_isTop l D cI cJ cZ ad S2 l2 eS7) (cwV 1 hts (gmV qM_367 qM_368 qM_369 qM_35 qM_365) rfl rfl rfl (by decide +kernel) ⟨Nat.le_of_ble_eq_true rfl, Nat.le_of_ble_eq_true rfl⟩) rfl hl.1 rfl (lv_room (Nat.le_of_ble_eq_true rfl)) dX12_peaks_33 ⟨Nat.zero_le _, Nat.zero_le _⟩ (fun q8 S9 H locs hq G => ?_)
      obtain ⟨hq1, hq2⟩ := hq
      rw [hq2] at G
      refine lv_to hq1 ?_
      clear hq1 hq2 eS7
      refine lv_if_eq (tgt := 43) hx hb dX12_peaks_36 (by decide) (fun c11 => ?_) (fun c11 => ?_)
      · have h := oif_pos c11 h
        refine lv_iconst (v := 0) hx hb dX12_peaks_43 (by decide) ?_
        have hl := lv_sub hl [0, 2] rfl
        exact tr_peaks_b44 E hA hR hml kr9 kr53 ih _ _ _ _ _ _ _ h G hl
      · have h := oif_neg c11 h
        refine lv_iconst (v := 1) hx hb dX12_peaks_39 (by decide) ?_
        refine lv_goto (tgt := 44) hx hb dX12_peaks_40 (by decide) ?_
        have hl := lv_sub hl [0, 2] rfl
        exact tr_peaks_b44 E hA hR hml kr9 kr53 ih _ _ _ _ _ _ _ h G hl
def fr_peaks (S : MS)  : Option (Int32 × MS) := obind2 (fr_mayAsk S 1) fun r5 S2 => if r5 = 0 then (some (0, S2)) else (obind (fr_laysPowers_12 S2) fun S7 => fr_peaks_b22 16384 S7 0 0)
set_option maxHeartbeats 4000000 in
set_option maxRecDepth 100000 in
theorem tr_peaks (l : Launch) (D : va_G) (cI cJ cZ : ClassId) (ad : Nat → Nat) (S : MS)  {r1 : Int32} {S1 : MS} (h : fr_peaks S = some (r1, S1)) : mCi l yX12_peaks (Cond.code yX12_peaks cX12_peaks 3 (some .int) :: wsM) 7 140 D cI cJ cZ ad S [] (fun r S9 => r = r1 ∧ S9 = S1) := by
  intro sz
  refine Met.ofW (cc := cX12_peaks) (maxL := 3) (ret := (some .int)) (by decide) rfl ?_
  intro p e s m args below meth c s₁ B hml hv
  obtain ⟨rfl, hsz, hP, hK, hD0, hR⟩ := hv
  have hx := B.exec
  have hb := B.bytes
  have hr := B.returns
  have hts := atoms_spec (ws := (Cond.code yX12_peaks cX12_peaks 3 (some .int) :: wsM)) B.pre
  have hown : s.vm.findClass RX12 = some m.cls := findClass_of_methodNamed B.named
  have hlocks := B.notSynchronized
  subst hsz
  have hD := hD0.self (sz := s.heap.size)
  generalize hAe : va_A (MW cI cJ cZ ad S) s.heap.size = A at hD ⊢
  have hA : ∀ q : Nat, s.heap.size ≤ q → A q := fun q h => by rw [← hAe]; exact Or.inr h
  have G : mG D cI cJ cZ ad A s.heap s.heap [] S := ⟨hP, hD, va_S.rf⟩
  have E : mE p c cX12_peaks s m ([.ref (ad 0)] : List Value).toArray (Cond.code yX12_peaks cX12_peaks 3 (some .int) :: wsM) D cI cJ cZ := ⟨hx, hb, hts, hown, hK, fun w h => .tail _ (iM_x h)⟩
  have hl := lv_entry ([.ref (ad 0)]) (n := 3) (Nat.le_of_ble_eq_true rfl)
  rw [lg_entry_eq]
  generalize (lg_sl ([.ref (ad 0)]) ++ List.replicate (3 - (lg_sl ([.ref (ad 0)])).length) Slot.unset).toArray = ls at hl ⊢
  have hl : lv_has ls 3 [(0, .ref (ad 0))] := hl
  unfold fr_peaks at h
  refine lv_aload_n hx hb dX12_peaks_0 rfl (lv_at hl 0 rfl) ?_
  refine lv_iconst (v := 1) hx hb dX12_peaks_1 (by decide) ?_
  obtain ⟨r5, S2, eS2, h⟩ := obind2_some h
  refine m_calli (As := [.int 1]) (rest := []) E G hA hR hml (tr_mayAsk l D cI cJ cZ ad S 1 eS2) (cwV 1 hts (gmV qM_319 qM_320 qM_321 qM_35 qM_304) rfl rfl rfl (by decide +kernel) ⟨Nat.le_of_ble_eq_true rfl, Nat.le_of_ble_eq_true rfl⟩) rfl hl.1 rfl (lv_room (Nat.le_of_ble_eq_true rfl)) dX12_peaks_2 ⟨Nat.zero_le _, Nat.zero_le _⟩ (fun q3 S4 H locs hq G => ?_)
  obtain ⟨hq1, hq2⟩ := hq
  rw [hq2] at G
  refine lv_to hq1 ?_
  clear hq1 hq2 eS2
  refine lv_if_ne (tgt := 10) hx hb dX12_peaks_5 (by decide) (fun c6 => ?_) (fun c6 => ?_)
  · have h := oif_neg c6 h
    refine lv_aload_n hx hb dX12_peaks_10 rfl (lv_at hl 0 rfl) ?_
    refine lv_aload_n hx hb dX12_peaks_11 rfl (lv_at hl 0 rfl) ?_
    refine m_get E G 12 (v := .ref (ad 12)) (by decide) (.tail _ qM_9) rfl dX12_peaks_12 rfl ?_
    obtain ⟨S7, eS7, h⟩ := obind_some h
    refine m_callv (As := [.ref (ad 12)]) (rest := []) E G hA hR hml (tr_laysPowers_12 l D cI cJ cZ ad S2 eS7) (cwV 1 hts (gmV qM_301 qM_302 qM_303 qM_35 qM_296) rfl rfl rfl (by decide +kernel) ⟨Nat.le_of_ble_eq_true rfl, Nat.le_of_ble_eq_true rfl⟩) rfl hl.1 rfl (lv_room (Nat.le_of_ble_eq_true rfl)) dX12_peaks_15 ⟨Nat.zero_le _, Nat.zero_le _⟩ (fun S9 H locs hq G => ?_)
    rw [hq] at G
    clear hq eS7
    refine lv_iconst (v := 0) hx hb dX12_peaks_18 (by decide) ?_
    refine lv_istore_n (lv' := [(1, .int 0), (0, .ref (ad 0))]) hx hb dX12_peaks_19 rfl hl (by decide) rfl (fun ls hl => ?_)
    refine lv_iconst (v := 0) hx hb dX12_peaks_20 (by decide) ?_
    refine lv_istore_n (lv' := [(2, .int 0), (1, .int 0), (0, .ref (ad 0))]) hx hb dX12_peaks_21 rfl hl (by decide) rfl (fun ls hl => ?_)
    have hl := lv_sub hl [2, 1, 0] rfl
    exact tr_peaks_b22 E hA hR hml (fun H locs ls G => W.iret (v := r1) hx hb hr (fun t ht hW => ⟨⟨r1, S1, rfl, ⟨rfl, rfl⟩, ⟨by rw [ht]; exact G.1, va_K.moved hW.alike hK, G.2.1⟩⟩, G.2.2.F ht⟩) G.2.2.2.2 dX12_peaks_9) (fun H locs ls G => W.iret (v := r1) hx hb hr (fun t ht hW => ⟨⟨r1, S1, rfl, ⟨rfl, rfl⟩, ⟨by rw [ht]; exact G.1, va_K.moved hW.alike hK, G.2.1⟩⟩, G.2.2.F ht⟩) G.2.2.2.2 dX12_peaks_53) _ _ _ _ _ _ _ h G hl
  · have h := oif_pos c6 h
    refine lv_iconst (v := 0) hx hb dX12_peaks_8 (by decide) ?_
    exact W.iret (v := 0) hx hb hr (fun t ht hW => ⟨⟨0, S2, rfl, osome2 h, ⟨by rw [ht]; exact G.1, va_K.moved hW.alike hK, G.2.1⟩⟩, G.2.2.F ht⟩) G.2.2.2.2 dX12_peaks_9
def fr_isGreater_b42  (S : MS) (s0 : Int32) : Option (Int32 × MS) := oif (s0 = 0 ∨ s0 = 1) <| some (s0, S)
set_option maxHeartbeats 4000000 in
set_option maxRecDepth 100000 in
theorem tr_isGreater_b42 {p : Program} {l : Launch} {e : Env} {s : State} {m : MethodId} {args : Array Value} {below : List Frame} {meth : Method} {c : Code} {Q : State → Prop} {D : va_G} {A : Nat → Prop} {H0 : Heap} {cI cJ cZ : ClassId} {ad : Nat → Nat} {r1 : Int32} {S1 : MS} (E : mE p c cX12_isGreater s m args (Cond.code yX12_isGreater cX12_isGreater 3 (some .boolean) :: wsM) D cI cJ cZ) (hA : ∀ q : Nat, H0.size ≤ q → A q) (hR : sR s) (hml : c.maxLocals = 3) (kr42 : ∀ (H : Heap) (locs : List Loc) (ls : Array Slot), (r1 = 0 ∨ r1 = 1) → mG D cI cJ cZ ad A H0 H locs S1 → W p l e { frames := 1, cells := 0, slots := 0, locals := 0 } s m args below meth c H locs 0 0 Q (F0 m 42 ls [.int r1])) : ∀ (S : MS) (H : Heap) (locs : List Loc) (ls : Array Slot) (s0 : Int32), fr_isGreater_b42 S s0 = some (r1, S1) → mG D cI cJ cZ ad A H0 H locs S → lv_has ls 3 [] → W p l e { frames := 1, cells := 0, slots := 0, locals := 0 } s m args below meth c H locs 0 0 Q (F0 m 42 ls [.int s0]) := by
  have hx := E.1
  have hb := E.2.1
  have hts := E.2.2.1
  have hown := E.2.2.2.1
  have hK := E.2.2.2.2.1
  intro S H locs ls s0 h G hl
  unfold fr_isGreater_b42 at h
  obtain ⟨gz, h⟩ := oif_some h
  have gr : r1 = 0 ∨ r1 = 1 := by rw [← (osome2 h).1]; exact gz
  rw [(osome2 h).2] at G
  refine lv_to (osome2 h).1 ?_
  exact kr42 _ _ _ gr G
def fr_isGreater_b37  (S : MS)  : Option (Int32 × MS) := fr_isGreater_b42 S 1
set_option maxHeartbeats 4000000 in
set_option maxRecDepth 100000 in
theorem tr_isGreater_b37 {p : Program} {l : Launch} {e : Env} {s : State} {m : MethodId} {args : Array Value} {below : List Frame} {meth : Method} {c : Code} {Q : State → Prop} {D : va_G} {A : Nat → Prop} {H0 : Heap} {cI cJ cZ : ClassId} {ad : Nat → Nat} {r1 : Int32} {S1 : MS} (E : mE p c cX12_isGreater s m args (Cond.code yX12_isGreater cX12_isGreater 3 (some .boolean) :: wsM) D cI cJ cZ) (hA : ∀ q : Nat, H0.size ≤ q → A q) (hR : sR s) (hml : c.maxLocals = 3) (kr42 : ∀ (H : Heap) (locs : List Loc) (ls : Array Slot), (r1 = 0 ∨ r1 = 1) → mG D cI cJ cZ ad A H0 H locs S1 → W p l e { frames := 1, cells := 0, slots := 0, locals := 0 } s m args below meth c H locs 0 0 Q (F0 m 42 ls [.int r1])) : ∀ (S : MS) (H : Heap) (locs : List Loc) (ls : Array Slot), fr_isGreater_b37 S = some (r1, S1) → mG D cI cJ cZ ad A H0 H locs S → lv_has ls 3 [] → W p l e { frames := 1, cells := 0, slots := 0, locals := 0 } s m args below meth c H locs 0 0 Q (F0 m 37 ls []) := by
  have hx := E.1
  have hb := E.2.1
  have hts := E.2.2.1
  have hown := E.2.2.2.1
  have hK := E.2.2.2.2.1
  intro S H locs ls h G hl
  unfold fr_isGreater_b37 at h
  refine lv_iconst (v := 1) hx hb dX12_isGreater_37 (by decide) ?_
  refine lv_goto (tgt := 42) hx hb dX12_isGreater_38 (by decide) ?_
  have hl := lv_sub hl [] rfl
  exact tr_isGreater_b42 E hA hR hml kr42 _ _ _ _ _ h G hl
def fr_isGreater_b41  (S : MS)  : Option (Int32 × MS) := fr_isGreater_b42 S 0
set_option maxHeartbeats 4000000 in
set_option maxRecDepth 100000 in
theorem tr_isGreater_b41 {p : Program} {l : Launch} {e : Env} {s : State} {m : MethodId} {args : Array Value} {below : List Frame} {meth : Method} {c : Code} {Q : State → Prop} {D : va_G} {A : Nat → Prop} {H0 : Heap} {cI cJ cZ : ClassId} {ad : Nat → Nat} {r1 : Int32} {S1 : MS} (E : mE p c cX12_isGreater s m args (Cond.code yX12_isGreater cX12_isGreater 3 (some .boolean) :: wsM) D cI cJ cZ) (hA : ∀ q : Nat, H0.size ≤ q → A q) (hR : sR s) (hml : c.maxLocals = 3) (kr42 : ∀ (H : Heap) (locs : List Loc) (ls : Array Slot), (r1 = 0 ∨ r1 = 1) → mG D cI cJ cZ ad A H0 H locs S1 → W p l e { frames := 1, cells := 0, slots := 0, locals := 0 } s m args below meth c H locs 0 0 Q (F0 m 42 ls [.int r1])) : ∀ (S : MS) (H : Heap) (locs : List Loc) (ls : Array Slot), fr_isGreater_b41 S = some (r1, S1) → mG D cI cJ cZ ad A H0 H locs S → lv_has ls 3 [] → W p l e { frames := 1, cells := 0, slots := 0, locals := 0 } s m args below meth c H locs 0 0 Q (F0 m 41 ls []) := by
  have hx := E.1
  have hb := E.2.1
  have hts := E.2.2.1
  have hown := E.2.2.2.1
  have hK := E.2.2.2.2.1
  intro S H locs ls h G hl
  unfold fr_isGreater_b41 at h
  refine lv_iconst (v := 0) hx hb dX12_isGreater_41 (by decide) ?_
  have hl := lv_sub hl [] rfl
  exact tr_isGreater_b42 E hA hR hml kr42 _ _ _ _ _ h G hl
def fr_isGreater (S : MS) (a0 : Int32) (a1 : Int32) : Option (Int32 × MS) := oif (inb a0 144 = true) <| elet (S.2.2 25 a0.toNatClampNeg) fun v3 => oif (inb a1 144 = true) <| elet (S.2.2 25 a1.toNatClampNeg) fun v5 => elet (lg_cmp v3 v5) fun v6 => if 0 < v6 then (fr_isGreater_b37 S) else (oif (inb a0 144 = true) <| elet (S.2.2 25 a0.toNatClampNeg) fun v9 => oif (inb a1 144 = true) <| elet (S.2.2 25 a1.toNatClampNeg) fun v11 => elet (lg_cmp v9 v11) fun v12 => if v12 = 0 then (if a1 ≤ a0 then (fr_isGreater_b41 S) else (fr_isGreater_b37 S)) else (fr_isGreater_b41 S))
set_option maxHeartbeats 4000000 in
set_option maxRecDepth 100000 in
theorem tr_isGreater (l : Launch) (D : va_G) (cI cJ cZ : ClassId) (ad : Nat → Nat) (S : MS) (a0 : Int32) (a1 : Int32) {r1 : Int32} {S1 : MS} (h : fr_isGreater S a0 a1 = some (r1, S1)) : mCi l yX12_isGreater (Cond.code yX12_isGreater cX12_isGreater 3 (some .boolean) :: wsM) 1 0 D cI cJ cZ ad S [.int a0, .int a1] (fun r S9 => r = r1 ∧ S9 = S1) := by
  intro sz
  refine Met.ofW (cc := cX12_isGreater) (maxL := 3) (ret := (some .boolean)) (by decide) rfl ?_
  intro p e s m args below meth c s₁ B hml hv
  obtain ⟨rfl, hsz, hP, hK, hD0, hR⟩ := hv
  have hx := B.exec
  have hb := B.bytes
  have hr := B.returns
  have hts := atoms_spec (ws := (Cond.code yX12_isGreater cX12_isGreater 3 (some .boolean) :: wsM)) B.pre
  have hown : s.vm.findClass RX12 = some m.cls := findClass_of_methodNamed B.named
  have hlocks := B.notSynchronized
  subst hsz
  have hD := hD0.self (sz := s.heap.size)
  generalize hAe : va_A (MW cI cJ cZ ad S) s.heap.size = A at hD ⊢
  have hA : ∀ q : Nat, s.heap.size ≤ q → A q := fun q h => by rw [← hAe]; exact Or.inr h
  have G : mG D cI cJ cZ ad A s.heap s.heap [] S := ⟨hP, hD, va_S.rf⟩
  have E : mE p c cX12_isGreater s m ([.ref (ad 0), .int a0, .int a1] : List Value).toArray (Cond.code yX12_isGreater cX12_isGreater 3 (some .boolean) :: wsM) D cI cJ cZ := ⟨hx, hb, hts, hown, hK, fun w h => .tail _ (iM_x h)⟩
  have hl := lv_entry ([.ref (ad 0), .int a0, .int a1]) (n := 3) (Nat.le_of_ble_eq_true rfl)
  rw [lg_entry_eq]
  generalize (lg_sl ([.ref (ad 0), .int a0, .int a1]) ++ List.replicate (3 - (lg_sl ([.ref (ad 0), .int a0, .int a1])).length) Slot.unset).toArray = ls at hl ⊢
  have hl : lv_has ls 3 [(0, .ref (ad 0)), (1, .int a0), (2, .int a1)] := hl
  unfold fr_isGreater at h
  refine lv_aload_n hx hb dX12_isGreater_0 rfl (lv_at hl 0 rfl) ?_
  refine m_get E G 25 (v := .ref (ad 25)) (by decide) (.tail _ qM_21) rfl dX12_isGreater_1 rfl ?_
  refine lv_iload_n hx hb dX12_isGreater_4 rfl (lv_at hl 1 rfl) ?_
  obtain ⟨g2, h⟩ := oif_some h
  refine m_lald E G 25 13 (n := 144) (k := a0.toNatClampNeg) rfl (inb_k g2).1 (inb_k g2).2 (by decide) dX12_isGreater_5 ?_
  refine lv_topl (fun v3 ev3 => ?_)
  have h := elet_at ev3 h
  clear ev3
  refine lv_aload_n hx hb dX12_isGreater_6 rfl (lv_at hl 0 rfl) ?_
  refine m_get E G 25 (v := .ref (ad 25)) (by decide) (.tail _ qM_21) rfl dX12_isGreater_7 rfl ?_
  refine lv_iload_n hx hb dX12_isGreater_10 rfl (lv_at hl 2 rfl) ?_
  obtain ⟨g4, h⟩ := oif_some h
  refine m_lald E G 25 13 (n := 144) (k := a1.toNatClampNeg) rfl (inb_k g4).1 (inb_k g4).2 (by decide) dX12_isGreater_11 ?_
  refine lv_topl (fun v5 ev5 => ?_)
  have h := elet_at ev5 h
  clear ev5
  refine W.lcmp hx hb dX12_isGreater_12 ?_
  refine lv_topi (fun v6 ev6 => ?_)
  have h := elet_at ev6 h
  clear ev6
  refine lv_if_gt (tgt := 37) hx hb dX12_isGreater_13 (by decide) (fun c7 => ?_) (fun c7 => ?_)
  · have h := oif_pos c7 h
    have hl := lv_sub hl [] rfl
    exact tr_isGreater_b37 E hA hR hml (fun H locs ls gz G => W.zret (v := r1) hx hb hr (nar01 gz) (fun t ht hW => ⟨⟨r1, S1, rfl, ⟨rfl, rfl⟩, ⟨by rw [ht]; exact G.1, va_K.moved hW.alike hK, G.2.1⟩⟩, G.2.2.F ht⟩) G.2.2.2.2 dX12_isGreater_42) _ _ _ _ h G hl
  · have h := oif_neg c7 h
    refine lv_aload_n hx hb dX12_isGreater_16 rfl (lv_at hl 0 rfl) ?_
    refine m_get E G 25 (v := .ref (ad 25)) (by decide) (.tail _ qM_21) rfl dX12_isGreater_17 rfl ?_
    refine lv_iload_n hx hb dX12_isGreater_20 rfl (lv_at hl 1 rfl) ?_
    obtain ⟨g8, h⟩ := oif_some h
    refine m_lald E G 25 13 (n := 144) (k := a0.toNatClampNeg) rfl (inb_k g8).1 (inb_k g8).2 (by decide) dX12_isGreater_21 ?_
    refine lv_topl (fun v9 ev9 => ?_)
    have h := elet_at ev9 h
    clear ev9
    refine lv_aload_n hx hb dX12_isGreater_22 rfl (lv_at hl 0 rfl) ?_
    refine m_get E G 25 (v := .ref (ad 25)) (by decide) (.tail _ qM_21) rfl dX12_isGreater_23 rfl ?_
    refine lv_iload_n hx hb dX12_isGreater_26 rfl (lv_at hl 2 rfl) ?_
    obtain ⟨g10, h⟩ := oif_some h
    refine m_lald E G 25 13 (n := 144) (k := a1.toNatClampNeg) rfl (inb_k g10).1 (inb_k g10).2 (by decide) dX12_isGreater_27 ?_
    refine lv_topl (fun v11 ev11 => ?_)
    have h := elet_at ev11 h
    clear ev11
    refine W.lcmp hx hb dX12_isGreater_28 ?_
    refine lv_topi (fun v12 ev12 => ?_)
    have h := elet_at ev12 h
    clear ev12
    refine lv_if_ne (tgt := 41) hx hb dX12_isGreater_29 (by decide) (fun c13 => ?_) (fun c13 => ?_)
    · have h := oif_neg c13 h
      have hl := lv_sub hl [] rfl
      exact tr_isGreater_b41 E hA hR hml (fun H locs ls gz G => W.zret (v := r1) hx hb hr (nar01 gz) (fun t ht hW => ⟨⟨r1, S1, rfl, ⟨rfl, rfl⟩, ⟨by rw [ht]; exact G.1, va_K.moved hW.alike hK, G.2.1⟩⟩, G.2.2.F ht⟩) G.2.2.2.2 dX12_isGreater_42) _ _ _ _ h G hl
    · have h := oif_pos c13 h
      refine lv_iload_n hx hb dX12_isGreater_32 rfl (lv_at hl 1 rfl) ?_
      refine lv_iload_n hx hb dX12_isGreater_33 rfl (lv_at hl 2 rfl) ?_
      refine lv_icmp_ge (tgt := 41) hx hb dX12_isGreater_34 (by decide) (fun c14 => ?_) (fun c14 => ?_)
      · have h := oif_pos c14 h
        have hl := lv_sub hl [] rfl
        exact tr_isGreater_b41 E hA hR hml (fun H locs ls gz G => W.zret (v := r1) hx hb hr (nar01 gz) (fun t ht hW => ⟨⟨r1, S1, rfl, ⟨rfl, rfl⟩, ⟨by rw [ht]; exact G.1, va_K.moved hW.alike hK, G.2.1⟩⟩, G.2.2.F ht⟩) G.2.2.2.2 dX12_isGreater_42) _ _ _ _ h G hl
      · have h := oif_neg c14 h
        have hl := lv_sub hl [] rfl
        exact tr_isGreater_b37 E hA hR hml (fun H locs ls gz G => W.zret (v := r1) hx hb hr (nar01 gz) (fun t ht hW => ⟨⟨r1, S1, rfl, ⟨rfl, rfl⟩, ⟨by rw [ht]; exact G.1, va_K.moved hW.alike hK, G.2.1⟩⟩, G.2.2.F ht⟩) G.2.2.2.2 dX12_isGreater_42) _ _ _ _ h G hl
def fr_peakAt_b99 (k20 : MS → Int32 → Int32 → Option (Int32 × MS)) (S : MS) (l1 : Int32) (l2 : Int32) : Option (Int32 × MS) := elet (l2 + Int32.ofInt (1)) fun v2 => k20 S l1 v2
set_option maxHeartbeats 4000000 in
set_option maxRecDepth 100000 in
theorem tr_peakAt_b99 {p : Program} {l : Launch} {e : Env} {s : State} {m : MethodId} {args : Array Value} {below : List Frame} {meth : Method} {c : Code} {Q : State → Prop} {D : va_G} {A : Nat → Prop} {H0 : Heap} {cI cJ cZ : ClassId} {ad : Nat → Nat} {r1 : Int32} {S1 : MS} (E : mE p c cX12_peakAt s m args (Cond.code yX12_peakAt cX12_peakAt 5 (some .int) :: wsM) D cI cJ cZ) (hA : ∀ q : Nat, H0.size ≤ q → A q) (hR : sR s) (hml : c.maxLocals = 5) (kr9 : ∀ (H : Heap) (locs : List Loc) (ls : Array Slot), mG D cI cJ cZ ad A H0 H locs S1 → W p l e { frames := 7, cells := 0, slots := 0, locals := 140 } s m args below meth c H locs 0 0 Q (F0 m 9 ls [.int r1])) (kr98 : ∀ (H : Heap) (locs : List Loc) (ls : Array Slot), mG D cI cJ cZ ad A H0 H locs S1 → W p l e { frames := 7, cells := 0, slots := 0, locals := 140 } s m args below meth c H locs 0 0 Q (F0 m 98 ls [.int r1])) (kr110 : ∀ (H : Heap) (locs : List Loc) (ls : Array Slot), mG D cI cJ cZ ad A H0 H locs S1 → W p l e { frames := 7, cells := 0, slots := 0, locals := 140 } s m args below meth c H locs 0 0 Q (F0 m 110 ls [.int r1])) {k20 : MS → Int32 → Int32 → Option (Int32 × MS)} (hk20 : ∀ (S : MS) (H : Heap) (locs : List Loc) (ls : Array Slot) (l1 : Int32) (l2 : Int32), k20 S l1 l2 = some (r1, S1) → mG D cI cJ cZ ad A H0 H locs S → lv_has ls 5 [(0, .ref (ad 0)), (1, .int l1), (2, .int l2)] → W p l e { frames := 7, cells := 0, slots := 0, locals := 140 } s m args below meth c H locs 0 0 Q (F0 m 20 ls [])) : ∀ (S : MS) (H : Heap) (locs : List Loc) (ls : Array Slot) (l1 : Int32) (l2 : Int32), fr_peakAt_b99 k20 S l1 l2 = some (r1, S1) → mG D cI cJ cZ ad A H0 H locs S → lv_has ls 5 [(0, .ref (ad 0)), (1, .int l1), (2, .int l2)] → W p l e { frames := 7, cells := 0, slots := 0, locals := 140 } s m args below meth c H locs 0 0 Q (F0 m 99 ls []) := by
  have hx := E.1
  have hb := E.2.1
  have hts := E.2.2.1
  have hown := E.2.2.2.1
  have hK := E.2.2.2.2.1
  intro S H locs ls l1 l2 h G hl
  unfold fr_peakAt_b99 at h
  obtain ⟨v2, ev2, h⟩ := elet_some h
  refine lv_iinc (v := v2) (lv' := [(2, .int v2), (0, .ref (ad 0)), (1, .int l1)]) hx hb dX12_peakAt_99 hl (k := 2) rfl ev2.symm (by decide) rfl (fun ls hl => ?_)
  refine lv_goto (tgt := 20) hx hb dX12_peakAt_102 (by decide) ?_
  have hl := lv_sub hl [1, 2, 0] rfl
  exact hk20 _ _ _ _ _ _ h G hl
def fr_peakAt_b84 (k20 : MS → Int32 → Int32 → Option (Int32 × MS)) (k44 : MS → Int32 → Int32 → Int32 → Int32 → Option (Int32 × MS)) (S : MS) (s0 : Int32) (s1 : Int32) (l1 : Int32) (l2 : Int32) (l4 : Int32) : Option (Int32 × MS) := elet (s1 + s0) fun v2 => elet (l4 + Int32.ofInt (1)) fun v3 => k44 S l1 l2 v2 v3
set_option maxHeartbeats 4000000 in
set_option maxRecDepth 100000 in
theorem tr_peakAt_b84 {p : Program} {l : Launch} {e : Env} {s : State} {m : MethodId} {args : Array Value} {below : List Frame} {meth : Method} {c : Code} {Q : State → Prop} {D : va_G} {A : Nat → Prop} {H0 : Heap} {cI cJ cZ : ClassId} {ad : Nat → Nat} {r1 : Int32} {S1 : MS} (E : mE p c cX12_peakAt s m args (Cond.code yX12_peakAt cX12_peakAt 5 (some .int) :: wsM) D cI cJ cZ) (hA : ∀ q : Nat, H0.size ≤ q → A q) (hR : sR s) (hml : c.maxLocals = 5) (kr9 : ∀ (H : Heap) (locs : List Loc) (ls : Array Slot), mG D cI cJ cZ ad A H0 H locs S1 → W p l e { frames := 7, cells := 0, slots := 0, locals := 140 } s m args below meth c H locs 0 0 Q (F0 m 9 ls [.int r1])) (kr98 : ∀ (H : Heap) (locs : List Loc) (ls : Array Slot), mG D cI cJ cZ ad A H0 H locs S1 → W p l e { frames := 7, cells := 0, slots := 0, locals := 140 } s m args below meth c H locs 0 0 Q (F0 m 98 ls [.int r1])) (kr110 : ∀ (H : Heap) (locs : List Loc) (ls : Array Slot), mG D cI cJ cZ ad A H0 H locs S1 → W p l e { frames := 7, cells := 0, slots := 0, locals := 140 } s m args below meth c H locs 0 0 Q (F0 m 110 ls [.int r1])) {k20 : MS → Int32 → Int32 → Option (Int32 × MS)} {k44 : MS → Int32 → Int32 → Int32 → Int32 → Option (Int32 × MS)} (hk20 : ∀ (S : MS) (H : Heap) (locs : List Loc) (ls : Array Slot) (l1 : Int32) (l2 : Int32), k20 S l1 l2 = some (r1, S1) → mG D cI cJ cZ ad A H0 H locs S → lv_has ls 5 [(0, .ref (ad 0)), (1, .int l1), (2, .int l2)] → W p l e { frames := 7, cells := 0, slots := 0, locals := 140 } s m args below meth c H locs 0 0 Q (F0 m 20 ls [])) (hk44 : ∀ (S : MS) (H : Heap) (locs : List Loc) (ls : Array Slot) (l1 : Int32) (l2 : Int32) (l3 : Int32) (l4 : Int32), k44 S l1 l2 l3 l4 = some (r1, S1) → mG D cI cJ cZ ad A H0 H locs S → lv_has ls 5 [(0, .ref (ad 0)), (1, .int l1), (2, .int l2), (3, .int l3), (4, .int l4)] → W p l e { frames := 7, cells := 0, slots := 0, locals := 140 } s m args below meth c H locs 0 0 Q (F0 m 44 ls [])) : ∀ (S : MS) (H : Heap) (locs : List Loc) (ls : Array Slot) (s0 : Int32) (s1 : Int32) (l1 : Int32) (l2 : Int32) (l4 : Int32), fr_peakAt_b84 k20 k44 S s0 s1 l1 l2 l4 = some (r1, S1) → mG D cI cJ cZ ad A H0 H locs S → lv_has ls 5 [(0, .ref (ad 0)), (1, .int l1), (2, .int l2), (4, .int l4)] → W p l e { frames := 7, cells := 0, slots := 0, locals := 140 } s m args below meth c H locs 0 0 Q (F0 m 84 ls [.int s0, .int s1]) := by
  have hx := E.1
  have hb := E.2.1
  have hts := E.2.2.1
  have hown := E.2.2.2.1
  have hK := E.2.2.2.2.1
  intro S H locs ls s0 s1 l1 l2 l4 h G hl
  unfold fr_peakAt_b84 at h
  refine lv_iadd hx hb dX12_peakAt_84 ?_
  refine lv_topi (fun v2 ev2 => ?_)
  have h := elet_at ev2 h
  clear ev2
  refine lv_istore_n (lv' := [(3, .int v2), (0, .ref (ad 0)), (1, .int l1), (2, .int l2), (4, .int l4)]) hx hb dX12_peakAt_85 rfl hl (by decide) rfl (fun ls hl => ?_)
  obtain ⟨v3, ev3, h⟩ := elet_some h
  refine lv_iinc (v := v3) (lv' := [(4, .int v3), (3, .int v2), (0, .ref (ad 0)), (1, .int l1), (2, .int l2)]) hx hb dX12_peakAt_86 hl (k := 4) rfl ev3.symm (by decide) rfl (fun ls hl => ?_)
  refine lv_goto (tgt := 44) hx hb dX12_peakAt_89 (by decide) ?_
  have hl := lv_sub hl [2, 3, 4, 1, 0] rfl
  exact hk44 _ _ _ _ _ _ _ _ h G hl
def fr_peakAt_b83 (k20 : MS → Int32 → Int32 → Option (Int32 × MS)) (k44 : MS → Int32 → Int32 → Int32 → Int32 → Option (Int32 × MS)) (S : MS) (s0 : Int32) (l1 : Int32) (l2 : Int32) (l4 : Int32) : Option (Int32 × MS) := fr_peakAt_b84 k20 k44 S 0 s0 l1 l2 l4
set_option maxHeartbeats 4000000 in
set_option maxRecDepth 100000 in
theorem tr_peakAt_b83 {p : Program} {l : Launch} {e : Env} {s : State} {m : MethodId} {args : Array Value} {below : List Frame} {meth : Method} {c : Code} {Q : State → Prop} {D : va_G} {A : Nat → Prop} {H0 : Heap} {cI cJ cZ : ClassId} {ad : Nat → Nat} {r1 : Int32} {S1 : MS} (E : mE p c cX12_peakAt s m args (Cond.code yX12_peakAt cX12_peakAt 5 (some .int) :: wsM) D cI cJ cZ) (hA : ∀ q : Nat, H0.size ≤ q → A q) (hR : sR s) (hml : c.maxLocals = 5) (kr9 : ∀ (H : Heap) (locs : List Loc) (ls : Array Slot), mG D cI cJ cZ ad A H0 H locs S1 → W p l e { frames := 7, cells := 0, slots := 0, locals := 140 } s m args below meth c H locs 0 0 Q (F0 m 9 ls [.int r1])) (kr98 : ∀ (H : Heap) (locs : List Loc) (ls : Array Slot), mG D cI cJ cZ ad A H0 H locs S1 → W p l e { frames := 7, cells := 0, slots := 0, locals := 140 } s m args below meth c H locs 0 0 Q (F0 m 98 ls [.int r1])) (kr110 : ∀ (H : Heap) (locs : List Loc) (ls : Array Slot), mG D cI cJ cZ ad A H0 H locs S1 → W p l e { frames := 7, cells := 0, slots := 0, locals := 140 } s m args below meth c H locs 0 0 Q (F0 m 110 ls [.int r1])) {k20 : MS → Int32 → Int32 → Option (Int32 × MS)} {k44 : MS → Int32 → Int32 → Int32 → Int32 → Option (Int32 × MS)} (hk20 : ∀ (S : MS) (H : Heap) (locs : List Loc) (ls : Array Slot) (l1 : Int32) (l2 : Int32), k20 S l1 l2 = some (r1, S1) → mG D cI cJ cZ ad A H0 H locs S → lv_has ls 5 [(0, .ref (ad 0)), (1, .int l1), (2, .int l2)] → W p l e { frames := 7, cells := 0, slots := 0, locals := 140 } s m args below meth c H locs 0 0 Q (F0 m 20 ls [])) (hk44 : ∀ (S : MS) (H : Heap) (locs : List Loc) (ls : Array Slot) (l1 : Int32) (l2 : Int32) (l3 : Int32) (l4 : Int32), k44 S l1 l2 l3 l4 = some (r1, S1) → mG D cI cJ cZ ad A H0 H locs S → lv_has ls 5 [(0, .ref (ad 0)), (1, .int l1), (2, .int l2), (3, .int l3), (4, .int l4)] → W p l e { frames := 7, cells := 0, slots := 0, locals := 140 } s m args below meth c H locs 0 0 Q (F0 m 44 ls [])) : ∀ (S : MS) (H : Heap) (locs : List Loc) (ls : Array Slot) (s0 : Int32) (l1 : Int32) (l2 : Int32) (l4 : Int32), fr_peakAt_b83 k20 k44 S s0 l1 l2 l4 = some (r1, S1) → mG D cI cJ cZ ad A H0 H locs S → lv_has ls 5 [(0, .ref (ad 0)), (1, .int l1), (2, .int l2), (4, .int l4)] → W p l e { frames := 7, cells := 0, slots := 0, locals := 140 } s m args below meth c H locs 0 0 Q (F0 m 83 ls [.int s0]) := by
  have hx := E.1
  have hb := E.2.1
  have hts := E.2.2.1
  have hown := E.2.2.2.1
  have hK := E.2.2.2.2.1
  intro S H locs ls s0 l1 l2 l4 h G hl
  unfold fr_peakAt_b83 at h
  refine lv_iconst (v := 0) hx hb dX12_peakAt_83 (by decide) ?_
  have hl := lv_sub hl [0, 1, 2, 3] rfl
  exact tr_peakAt_b84 E hA hR hml kr9 kr98 kr110 hk20 hk44 _ _ _ _ _ _ _ _ _ h G hl
def fr_peakAt_b44 (k20 : MS → Int32 → Int32 → Option (Int32 × MS)) : Nat → MS → Int32 → Int32 → Int32 → Int32 → Option (Int32 × MS)
  | 0, _, _, _, _, _ => none
  | n + 1, S, l1, l2, l3, l4 => obind2 (fr_cellCount S) fun r5 S2 => if r5 ≤ l4 then (if l3 = l1 then (some (l2, S2)) else (fr_peakAt_b99 k20 S2 l1 l2)) else (if l4 = l2 then (fr_peakAt_b83 k20 (fr_peakAt_b44 k20 n) S2 l3 l1 l2 l4) else (obind2 (fr_isTop S2 l4) fun r12 S9 => if r12 = 0 then (fr_peakAt_b83 k20 (fr_peakAt_b44 k20 n) S9 l3 l1 l2 l4) else (obind2 (fr_isGreater S9 l4 l2) fun r17 S14 => if r17 = 0 then (fr_peakAt_b83 k20 (fr_peakAt_b44 k20 n) S14 l3 l1 l2 l4) else (fr_peakAt_b84 k20 (fr_peakAt_b44 k20 n) S14 1 l3 l1 l2 l4))))
set_option maxHeartbeats 4000000 in
set_option maxRecDepth 100000 in
theorem tr_peakAt_b44 {p : Program} {l : Launch} {e : Env} {s : State} {m : MethodId} {args : Array Value} {below : List Frame} {meth : Method} {c : Code} {Q : State → Prop} {D : va_G} {A : Nat → Prop} {H0 : Heap} {cI cJ cZ : ClassId} {ad : Nat → Nat} {r1 : Int32} {S1 : MS} (E : mE p c cX12_peakAt s m args (Cond.code yX12_peakAt cX12_peakAt 5 (some .int) :: wsM) D cI cJ cZ) (hA : ∀ q : Nat, H0.size ≤ q → A q) (hR : sR s) (hml : c.maxLocals = 5) (kr9 : ∀ (H : Heap) (locs : List Loc) (ls : Array Slot), mG D cI cJ cZ ad A H0 H locs S1 → W p l e { frames := 7, cells := 0, slots := 0, locals := 140 } s m args below meth c H locs 0 0 Q (F0 m 9 ls [.int r1])) (kr98 : ∀ (H : Heap) (locs : List Loc) (ls : Array Slot), mG D cI cJ cZ ad A H0 H locs S1 → W p l e { frames := 7, cells := 0, slots := 0, locals := 140 } s m args below meth c H locs 0 0 Q (F0 m 98 ls [.int r1])) (kr110 : ∀ (H : Heap) (locs : List Loc) (ls : Array Slot), mG D cI cJ cZ ad A H0 H locs S1 → W p l e { frames := 7, cells := 0, slots := 0, locals := 140 } s m args below meth c H locs 0 0 Q (F0 m 110 ls [.int r1])) {k20 : MS → Int32 → Int32 → Option (Int32 × MS)} (hk20 : ∀ (S : MS) (H : Heap) (locs : List Loc) (ls : Array Slot) (l1 : Int32) (l2 : Int32), k20 S l1 l2 = some (r1, S1) → mG D cI cJ cZ ad A H0 H locs S → lv_has ls 5 [(0, .ref (ad 0)), (1, .int l1), (2, .int l2)] → W p l e { frames := 7, cells := 0, slots := 0, locals := 140 } s m args below meth c H locs 0 0 Q (F0 m 20 ls [])) : ∀ n : Nat, ∀ (S : MS) (H : Heap) (locs : List Loc) (ls : Array Slot) (l1 : Int32) (l2 : Int32) (l3 : Int32) (l4 : Int32), fr_peakAt_b44 k20 n S l1 l2 l3 l4 = some (r1, S1) → mG D cI cJ cZ ad A H0 H locs S → lv_has ls 5 [(0, .ref (ad 0)), (1, .int l1), (2, .int l2), (3, .int l3), (4, .int l4)] → W p l e { frames := 7, cells := 0, slots := 0, locals := 140 } s m args below meth c H locs 0 0 Q (F0 m 44 ls []) := by
  have hx := E.1
  have hb := E.2.1
  have hts := E.2.2.1
  have hown := E.2.2.2.1
  have hK := E.2.2.2.2.1
  intro n
  induction n with
  | zero =>
    intro S H locs ls l1 l2 l3 l4 h
    have h : (none : Option (Int32 × MS)) = some (r1, S1) := h
    cases h
  | succ n ih =>
    intro S H locs ls l1 l2 l3 l4 h G hl
    unfold fr_peakAt_b44 at h
    refine lv_iload hx hb dX12_peakAt_44 (lv_at hl 4 rfl) ?_
    refine lv_aload_n hx hb dX12_peakAt_46 rfl (lv_at hl 0 rfl) ?_
    obtain ⟨r5, S2, eS2, h⟩ := obind2_some h
    refine m_calli (As := []) (rest := [.int l4]) E G hA hR hml (tr_cellCount l D cI cJ cZ ad S eS2) (cwV 0 hts (gmV qM_204 qM_205 qM_206 qM_35 qM_207) rfl rfl rfl (by decide +kernel) ⟨Nat.le_of_ble_eq_true rfl, Nat.le_of_ble_eq_true rfl⟩) rfl hl.1 rfl (lv_room (Nat.le_of_ble_eq_true rfl)) dX12_peakAt_47 ⟨Nat.zero_le _, Nat.zero_le _⟩ (fun q3 S4 H locs hq G => ?_)
    obtain ⟨hq1, hq2⟩ := hq
    rw [hq2] at G
    refine lv_to hq1 ?_
    clear hq1 hq2 eS2
    refine lv_icmp_ge (tgt := 92) hx hb dX12_peakAt_50 (by decide) (fun c6 => ?_) (fun c6 => ?_)
    · have h := oif_pos c6 h
      refine lv_iload_n hx hb dX12_peakAt_92 rfl (lv_at hl 3 rfl) ?_
      refine lv_iload_n hx hb dX12_peakAt_93 rfl (lv_at hl 1 rfl) ?_
      refine lv_icmp_ne (tgt := 99) hx hb dX12_peakAt_94 (by decide) (fun c7 => ?_) (fun c7 => ?_)
      · have h := oif_neg c7 h
        have hl := lv_sub hl [0, 1, 2] rfl
        exact tr_peakAt_b99 E hA hR hml kr9 kr98 kr110 hk20 _ _ _ _ _ _ h G hl
      · have h := oif_pos c7 h
        refine lv_iload_n hx hb dX12_peakAt_97 rfl (lv_at hl 2 rfl) ?_
        rw [(osome2 h).2] at G
        refine lv_to (osome2 h).1 ?_
        exact kr98 _ _ _ G
    · have h := oif_neg c6 h
      refine lv_iload_n hx hb dX12_peakAt_53 rfl (lv_at hl 3 rfl) ?_
      refine lv_iload hx hb dX12_peakAt_54 (lv_at hl 4 rfl) ?_
      refine lv_iload_n hx hb dX12_peakAt_56 rfl (lv_at hl 2 rfl) ?_
      refine lv_icmp_eq (tgt := 83) hx hb dX12_peakAt_57 (by decide) (fun c8 => ?_) (fun c8 => ?_)
      · have h := oif_pos c8 h
        have hl := lv_sub hl [0, 1, 2, 4] rfl
        exact tr_peakAt_b83 E hA hR hml kr9 kr98 kr110 hk20 ih _ _ _ _ _ _ _ _ h G hl
      · have h := oif_neg c8 h
        refine lv_aload_n hx hb dX12_peakAt_60 rfl (lv_at hl 0 rfl) ?_
        refine lv_iload hx hb dX12_peakAt_61 (lv_at hl 4 rfl) ?_
        obtain ⟨r12, S9, eS9, h⟩ := obind2_some h
        refine m_calli (As := [.int l4]) (rest := [.int l3]) E G hA hR hml (tr_isTop l D cI cJ cZ ad S2 l4 eS9) (cwV 1 hts (gmV qM_367 qM_368 qM_369 qM_35 qM_365) rfl rfl rfl (by decide +kernel) ⟨Nat.le_of_ble_eq_true rfl, Nat.le_of_ble_eq_true rfl⟩) rfl hl.1 rfl (lv_room (Nat.le_of_ble_eq_true rfl)) dX12_peakAt_63 ⟨Nat.zero_le _, Nat.zero_le _⟩ (fun q10 S11 H locs hq G => ?_)
        obtain ⟨hq1, hq2⟩ := hq
        rw [hq2] at G
        refine lv_to hq1 ?_
        clear hq1 hq2 eS9
        refine lv_if_eq (tgt := 83) hx hb dX12_peakAt_66 (by decide) (fun c13 => ?_) (fun c13 => ?_)
        · have h := oif_pos c13 h
          have hl := lv_sub hl [0, 1, 2, 4] rfl
          exact tr_peakAt_b83 E hA hR hml kr9 kr98 kr110 hk20 ih _ _ _ _ _ _ _ _ h G hl
        · have h := oif_neg c13 h
          refine lv_aload_n hx hb dX12_peakAt_69 rfl (lv_at hl 0 rfl) ?_
          refine lv_iload hx hb dX12_peakAt_70 (lv_at hl 4 rfl) ?_
          refine lv_iload_n hx hb dX12_peakAt_72 rfl (lv_at hl 2 rfl) ?_
          obtain ⟨r17, S14, eS14, h⟩ := obind2_some h
          refine m_calli (As := [.int l4, .int l2]) (rest := [.int l3]) E G hA hR hml (tr_isGreater l D cI cJ cZ ad S9 l4 l2 eS14) (cwV 2 hts (gmV qM_372 qM_373 qM_374 qM_35 qM_370) rfl rfl rfl (by decide +kernel) ⟨Nat.le_of_ble_eq_true rfl, Nat.le_of_ble_eq_true rfl⟩) rfl hl.1 rfl (lv_room (Nat.le_of_ble_eq_true rfl)) dX12_peakAt_73 ⟨Nat.zero_le _, Nat.zero_le _⟩ (fun q15 S16 H locs hq G => ?_)
          obtain ⟨hq1, hq2⟩ := hq
          rw [hq2] at G
          refine lv_to hq1 ?_
          clear hq1 hq2 eS14
          refine lv_if_eq (tgt := 83) hx hb dX12_peakAt_76 (by decide) (fun c18 => ?_) (fun c18 => ?_)
          · have h := oif_pos c18 h
            have hl := lv_sub hl [0, 1, 2, 4] rfl
            exact tr_peakAt_b83 E hA hR hml kr9 kr98 kr110 hk20 ih _ _ _ _ _ _ _ _ h G hl
          · have h := oif_neg c18 h
            refine lv_iconst (v := 1) hx hb dX12_peakAt_79 (by decide) ?_
            refine lv_goto (tgt := 84) hx hb dX12_peakAt_80 (by decide) ?_
            have hl := lv_sub hl [0, 1, 2, 4] rfl
            exact tr_peakAt_b84 E hA hR hml kr9 kr98 kr110 hk20 ih _ _ _ _ _ _ _ _ _ h G hl
def fr_peakAt_b20  : Nat → MS → Int32 → Int32 → Option (Int32 × MS)
  | 0, _, _, _ => none
  | n + 1, S, l1, l2 => obind2 (fr_cellCount S) fun r5 S2 => if r5 ≤ l2 then (obind2 (fr_throwsAt S2 2) fun r10 S7 => some (r10, S7)) else (obind2 (fr_isTop S2 l2) fun r14 S11 => if r14 = 0 then (fr_peakAt_b99 (fr_peakAt_b20 n) S11 l1 l2) else (fr_peakAt_b44 (fr_peakAt_b20 n) 16384 S11 l1 l2 0 0))
set_option maxHeartbeats 4000000 in
set_option maxRecDepth 100000 in
theorem tr_peakAt_b20 {p : Program} {l : Launch} {e : Env} {s : State} {m : MethodId} {args : Array Value} {below : List Frame} {meth : Method} {c : Code} {Q : State → Prop} {D : va_G} {A : Nat → Prop} {H0 : Heap} {cI cJ cZ : ClassId} {ad : Nat → Nat} {r1 : Int32} {S1 : MS} (E : mE p c cX12_peakAt s m args (Cond.code yX12_peakAt cX12_peakAt 5 (some .int) :: wsM) D cI cJ cZ) (hA : ∀ q : Nat, H0.size ≤ q → A q) (hR : sR s) (hml : c.maxLocals = 5) (kr9 : ∀ (H : Heap) (locs : List Loc) (ls : Array Slot), mG D cI cJ cZ ad A H0 H locs S1 → W p l e { frames := 7, cells := 0, slots := 0, locals := 140 } s m args below meth c H locs 0 0 Q (F0 m 9 ls [.int r1])) (kr98 : ∀ (H : Heap) (locs : List Loc) (ls : Array Slot), mG D cI cJ cZ ad A H0 H locs S1 → W p l e { frames := 7, cells := 0, slots := 0, locals := 140 } s m args below meth c H locs 0 0 Q (F0 m 98 ls [.int r1])) (kr110 : ∀ (H : Heap) (locs : List Loc) (ls : Array Slot), mG D cI cJ cZ ad A H0 H locs S1 → W p l e { frames := 7, cells := 0, slots := 0, locals := 140 } s m args below meth c H locs 0 0 Q (F0 m 110 ls [.int r1])) : ∀ n : Nat, ∀ (S : MS) (H : Heap) (locs : List Loc) (ls : Array Slot) (l1 : Int32) (l2 : Int32), fr_peakAt_b20 n S l1 l2 = some (r1, S1) → mG D cI cJ cZ ad A H0 H locs S → lv_has ls 5 [(0, .ref (ad 0)), (1, .int l1), (2, .int l2)] → W p l e { frames := 7, cells := 0, slots := 0, locals := 140 } s m args below meth c H locs 0 0 Q (F0 m 20 ls []) := by
  have hx := E.1
  have hb := E.2.1
  have hts := E.2.2.1
  have hown := E.2.2.2.1
  have hK := E.2.2.2.2.1
  intro n
  induction n with
  | zero =>
    intro S H locs ls l1 l2 h
    have h : (none : Option (Int32 × MS)) = some (r1, S1) := h
    cases h
  | succ n ih =>
    intro S H locs ls l1 l2 h G hl
    unfold fr_peakAt_b20 at h
    refine lv_iload_n hx hb dX12_peakAt_20 rfl (lv_at hl 2 rfl) ?_
    refine lv_aload_n hx hb dX12_peakAt_21 rfl (lv_at hl 0 rfl) ?_
    obtain ⟨r5, S2, eS2, h⟩ := obind2_some h
    refine m_calli (As := []) (rest := [.int l2]) E G hA hR hml (tr_cellCount l D cI cJ cZ ad S eS2) (cwV 0 hts (gmV qM_204 qM_205 qM_206 qM_35 qM_207) rfl rfl rfl (by decide +kernel) ⟨Nat.le_of_ble_eq_true rfl, Nat.le_of_ble_eq_true rfl⟩) rfl hl.1 rfl (lv_room (Nat.le_of_ble_eq_true rfl)) dX12_peakAt_22 ⟨Nat.zero_le _, Nat.zero_le _⟩ (fun q3 S4 H locs hq G => ?_)
    obtain ⟨hq1, hq2⟩ := hq
    rw [hq2] at G
    refine lv_to hq1 ?_
    clear hq1 hq2 eS2
    refine lv_icmp_ge (tgt := 105) hx hb dX12_peakAt_25 (by decide) (fun c6 => ?_) (fun c6 => ?_)
    · have h := oif_pos c6 h
      refine lv_aload_n hx hb dX12_peakAt_105 rfl (lv_at hl 0 rfl) ?_
      refine lv_iconst (v := 2) hx hb dX12_peakAt_106 (by decide) ?_
      obtain ⟨r10, S7, eS7, h⟩ := obind2_some h
      refine m_calli (As := [.int 2]) (rest := []) E G hA hR hml (tr_throwsAt l D cI cJ cZ ad S2 2 eS7) (cwV 1 hts (gmV qM_195 qM_196 qM_197 qM_35 qM_28) rfl rfl rfl (by decide +kernel) ⟨Nat.le_of_ble_eq_true rfl, Nat.le_of_ble_eq_true rfl⟩) rfl hl.1 rfl (lv_room (Nat.le_of_ble_eq_true rfl)) dX12_peakAt_107 ⟨Nat.zero_le _, Nat.zero_le _⟩ (fun q8 S9 H locs hq G => ?_)
      obtain ⟨hq1, hq2⟩ := hq
      rw [hq2] at G
      refine lv_to hq1 ?_
      clear hq1 hq2 eS7
      rw [(osome2 h).2] at G
      refine lv_to (osome2 h).1 ?_
      exact kr110 _ _ _ G
    · have h := oif_neg c6 h
      refine lv_aload_n hx hb dX12_peakAt_28 rfl (lv_at hl 0 rfl) ?_
      refine lv_iload_n hx hb dX12_peakAt_29 rfl (lv_at hl 2 rfl) ?_
      obtain ⟨r14, S11, eS11, h⟩ := obind2_some h
      refine m_calli (As := [.int l2]) (rest := []) E G hA hR hml (tr_isTop l D cI cJ cZ ad S2 l2 eS11) (cwV 1 hts (gmV qM_367 qM_368 qM_369 qM_35 qM_365) rfl rfl rfl (by decide +kernel) ⟨Nat.le_of_ble_eq_true rfl, Nat.le_of_ble_eq_true rfl⟩) rfl hl.1 rfl (lv_room (Nat.le_of_ble_eq_true rfl)) dX12_peakAt_30 ⟨Nat.zero_le _, Nat.zero_le _⟩ (fun q12 S13 H locs hq G => ?_)
      obtain ⟨hq1, hq2⟩ := hq
      rw [hq2] at G
      refine lv_to hq1 ?_
      clear hq1 hq2 eS11
      refine lv_if_ne (tgt := 39) hx hb dX12_peakAt_33 (by decide) (fun c15 => ?_) (fun c15 => ?_)
      · have h := oif_neg c15 h
        refine lv_iconst (v := 0) hx hb dX12_peakAt_39 (by decide) ?_
        refine lv_istore_n (lv' := [(3, .int 0), (0, .ref (ad 0)), (1, .int l1), (2, .int l2)]) hx hb dX12_peakAt_40 rfl hl (by decide) rfl (fun ls hl => ?_)
        refine lv_iconst (v := 0) hx hb dX12_peakAt_41 (by decide) ?_
        refine lv_istore (lv' := [(4, .int 0), (3, .int 0), (0, .ref (ad 0)), (1, .int l1), (2, .int l2)]) hx hb dX12_peakAt_42 hl (by decide) rfl (fun ls hl => ?_)
        have hl := lv_sub hl [2, 3, 4, 1, 0] rfl
        exact tr_peakAt_b44 E hA hR hml kr9 kr98 kr110 ih _ _ _ _ _ _ _ _ _ h G hl
      · have h := oif_pos c15 h
        refine lv_goto (tgt := 99) hx hb dX12_peakAt_36 (by decide) ?_
        have hl := lv_sub hl [0, 1, 2] rfl
        exact tr_peakAt_b99 E hA hR hml kr9 kr98 kr110 ih _ _ _ _ _ _ h G hl
def fr_peakAt (S : MS) (a0 : Int32) : Option (Int32 × MS) := obind2 (fr_mayAsk S 1) fun r5 S2 => if r5 = 0 then (some (0, S2)) else (obind (fr_laysPowers_12 S2) fun S7 => fr_peakAt_b20 16384 S7 a0 0)
set_option maxHeartbeats 4000000 in
set_option maxRecDepth 100000 in
theorem tr_peakAt (l : Launch) (D : va_G) (cI cJ cZ : ClassId) (ad : Nat → Nat) (S : MS) (a0 : Int32) {r1 : Int32} {S1 : MS} (h : fr_peakAt S a0 = some (r1, S1)) : mCi l yX12_peakAt (Cond.code yX12_peakAt cX12_peakAt 5 (some .int) :: wsM) 7 140 D cI cJ cZ ad S [.int a0] (fun r S9 => r = r1 ∧ S9 = S1) := by
  intro sz
  refine Met.ofW (cc := cX12_peakAt) (maxL := 5) (ret := (some .int)) (by decide) rfl ?_
  intro p e s m args below meth c s₁ B hml hv
  obtain ⟨rfl, hsz, hP, hK, hD0, hR⟩ := hv
  have hx := B.exec
  have hb := B.bytes
  have hr := B.returns
  have hts := atoms_spec (ws := (Cond.code yX12_peakAt cX12_peakAt 5 (some .int) :: wsM)) B.pre
  have hown : s.vm.findClass RX12 = some m.cls := findClass_of_methodNamed B.named
  have hlocks := B.notSynchronized
  subst hsz
  have hD := hD0.self (sz := s.heap.size)
  generalize hAe : va_A (MW cI cJ cZ ad S) s.heap.size = A at hD ⊢
  have hA : ∀ q : Nat, s.heap.size ≤ q → A q := fun q h => by rw [← hAe]; exact Or.inr h
  have G : mG D cI cJ cZ ad A s.heap s.heap [] S := ⟨hP, hD, va_S.rf⟩
  have E : mE p c cX12_peakAt s m ([.ref (ad 0), .int a0] : List Value).toArray (Cond.code yX12_peakAt cX12_peakAt 5 (some .int) :: wsM) D cI cJ cZ := ⟨hx, hb, hts, hown, hK, fun w h => .tail _ (iM_x h)⟩
  have hl := lv_entry ([.ref (ad 0), .int a0]) (n := 5) (Nat.le_of_ble_eq_true rfl)
  rw [lg_entry_eq]
  generalize (lg_sl ([.ref (ad 0), .int a0]) ++ List.replicate (5 - (lg_sl ([.ref (ad 0), .int a0])).length) Slot.unset).toArray = ls at hl ⊢
  have hl : lv_has ls 5 [(0, .ref (ad 0)), (1, .int a0)] := hl
  unfold fr_peakAt at h
  refine lv_aload_n hx hb dX12_peakAt_0 rfl (lv_at hl 0 rfl) ?_
  refine lv_iconst (v := 1) hx hb dX12_peakAt_1 (by decide) ?_
  obtain ⟨r5, S2, eS2, h⟩ := obind2_some h
  refine m_calli (As := [.int 1]) (rest := []) E G hA hR hml (tr_mayAsk l D cI cJ cZ ad S 1 eS2) (cwV 1 hts (gmV qM_319 qM_320 qM_321 qM_35 qM_304) rfl rfl rfl (by decide +kernel) ⟨Nat.le_of_ble_eq_true rfl, Nat.le_of_ble_eq_true rfl⟩) rfl hl.1 rfl (lv_room (Nat.le_of_ble_eq_true rfl)) dX12_peakAt_2 ⟨Nat.zero_le _, Nat.zero_le _⟩ (fun q3 S4 H locs hq G => ?_)
  obtain ⟨hq1, hq2⟩ := hq
  rw [hq2] at G
  refine lv_to hq1 ?_
  clear hq1 hq2 eS2
  refine lv_if_ne (tgt := 10) hx hb dX12_peakAt_5 (by decide) (fun c6 => ?_) (fun c6 => ?_)
  · have h := oif_neg c6 h
    refine lv_aload_n hx hb dX12_peakAt_10 rfl (lv_at hl 0 rfl) ?_
    refine lv_aload_n hx hb dX12_peakAt_11 rfl (lv_at hl 0 rfl) ?_
    refine m_get E G 12 (v := .ref (ad 12)) (by decide) (.tail _ qM_9) rfl dX12_peakAt_12 rfl ?_
    obtain ⟨S7, eS7, h⟩ := obind_some h
    refine m_callv (As := [.ref (ad 12)]) (rest := []) E G hA hR hml (tr_laysPowers_12 l D cI cJ cZ ad S2 eS7) (cwV 1 hts (gmV qM_301 qM_302 qM_303 qM_35 qM_296) rfl rfl rfl (by decide +kernel) ⟨Nat.le_of_ble_eq_true rfl, Nat.le_of_ble_eq_true rfl⟩) rfl hl.1 rfl (lv_room (Nat.le_of_ble_eq_true rfl)) dX12_peakAt_15 ⟨Nat.zero_le _, Nat.zero_le _⟩ (fun S9 H locs hq G => ?_)
    rw [hq] at G
    clear hq eS7
    refine lv_iconst (v := 0) hx hb dX12_peakAt_18 (by decide) ?_
    refine lv_istore_n (lv' := [(2, .int 0), (0, .ref (ad 0)), (1, .int a0)]) hx hb dX12_peakAt_19 rfl hl (by decide) rfl (fun ls hl => ?_)
    have hl := lv_sub hl [1, 2, 0] rfl
    exact tr_peakAt_b20 E hA hR hml (fun H locs ls G => W.iret (v := r1) hx hb hr (fun t ht hW => ⟨⟨r1, S1, rfl, ⟨rfl, rfl⟩, ⟨by rw [ht]; exact G.1, va_K.moved hW.alike hK, G.2.1⟩⟩, G.2.2.F ht⟩) G.2.2.2.2 dX12_peakAt_9) (fun H locs ls G => W.iret (v := r1) hx hb hr (fun t ht hW => ⟨⟨r1, S1, rfl, ⟨rfl, rfl⟩, ⟨by rw [ht]; exact G.1, va_K.moved hW.alike hK, G.2.1⟩⟩, G.2.2.F ht⟩) G.2.2.2.2 dX12_peakAt_98) (fun H locs ls G => W.iret (v := r1) hx hb hr (fun t ht hW => ⟨⟨r1, S1, rfl, ⟨rfl, rfl⟩, ⟨by rw [ht]; exact G.1, va_K.moved hW.alike hK, G.2.1⟩⟩, G.2.2.F ht⟩) G.2.2.2.2 dX12_peakAt_110) _ _ _ _ _ _ _ h G hl
  · have h := oif_pos c6 h
    refine lv_iconst (v := 0) hx hb dX12_peakAt_8 (by decide) ?_
    exact W.iret (v := 0) hx hb hr (fun t ht hW => ⟨⟨0, S2, rfl, osome2 h, ⟨by rw [ht]; exact G.1, va_K.moved hW.alike hK, G.2.1⟩⟩, G.2.2.F ht⟩) G.2.2.2.2 dX12_peakAt_9
def fr_isPeak (S : MS) (a0 : Int32) : Option (Int32 × MS) := obind2 (fr_isCell S a0) fun r5 S2 => obind2 (fr_mayAsk S2 r5) fun r9 S6 => if r9 = 0 then (some (0, S6)) else (obind (fr_laysPowers_12 S6) fun S11 => obind2 (fr_isTop S11 a0) fun r17 S14 => oif (r17 = 0 ∨ r17 = 1) <| some (r17, S14))
set_option maxHeartbeats 4000000 in
set_option maxRecDepth 100000 in
theorem tr_isPeak (l : Launch) (D : va_G) (cI cJ cZ : ClassId) (ad : Nat → Nat) (S : MS) (a0 : Int32) {r1 : Int32} {S1 : MS} (h : fr_isPeak S a0 = some (r1, S1)) : mCi l yX12_isPeak (Cond.code yX12_isPeak cX12_isPeak 2 (some .boolean) :: wsM) 7 140 D cI cJ cZ ad S [.int a0] (fun r S9 => r = r1 ∧ S9 = S1) := by
  intro sz
  refine Met.ofW (cc := cX12_isPeak) (maxL := 2) (ret := (some .boolean)) (by decide) rfl ?_
  intro p e s m args below meth c s₁ B hml hv
  obtain ⟨rfl, hsz, hP, hK, hD0, hR⟩ := hv
  have hx := B.exec
  have hb := B.bytes
  have hr := B.returns
  have hts := atoms_spec (ws := (Cond.code yX12_isPeak cX12_isPeak 2 (some .boolean) :: wsM)) B.pre
  have hown : s.vm.findClass RX12 = some m.cls := findClass_of_methodNamed B.named
  have hlocks := B.notSynchronized
  subst hsz
  have hD := hD0.self (sz := s.heap.size)
  generalize hAe : va_A (MW cI cJ cZ ad S) s.heap.size = A at hD ⊢
  have hA : ∀ q : Nat, s.heap.size ≤ q → A q := fun q h => by rw [← hAe]; exact Or.inr h
  have G : mG D cI cJ cZ ad A s.heap s.heap [] S := ⟨hP, hD, va_S.rf⟩
  have E : mE p c cX12_isPeak s m ([.ref (ad 0), .int a0] : List Value).toArray (Cond.code yX12_isPeak cX12_isPeak 2 (some .boolean) :: wsM) D cI cJ cZ := ⟨hx, hb, hts, hown, hK, fun w h => .tail _ (iM_x h)⟩
  have hl := lv_entry ([.ref (ad 0), .int a0]) (n := 2) (Nat.le_of_ble_eq_true rfl)
  rw [lg_entry_eq]
  generalize (lg_sl ([.ref (ad 0), .int a0]) ++ List.replicate (2 - (lg_sl ([.ref (ad 0), .int a0])).length) Slot.unset).toArray = ls at hl ⊢
  have hl : lv_has ls 2 [(0, .ref (ad 0)), (1, .int a0)] := hl
  unfold fr_isPeak at h
  refine lv_aload_n hx hb dX12_isPeak_0 rfl (lv_at hl 0 rfl) ?_
  refine lv_aload_n hx hb dX12_isPeak_1 rfl (lv_at hl 0 rfl) ?_
  refine lv_iload_n hx hb dX12_isPeak_2 rfl (lv_at hl 1 rfl) ?_
  obtain ⟨r5, S2, eS2, h⟩ := obind2_some h
  refine m_calli (As := [.int a0]) (rest := [.ref (ad 0)]) E G hA hR hml (tr_isCell l D cI cJ cZ ad S a0 eS2) (cwV 1 hts (gmV qM_326 qM_327 qM_328 qM_35 qM_307) rfl rfl rfl (by decide +kernel) ⟨Nat.le_of_ble_eq_true rfl, Nat.le_of_ble_eq_true rfl⟩) rfl hl.1 rfl (lv_room (Nat.le_of_ble_eq_true rfl)) dX12_isPeak_3 ⟨Nat.zero_le _, Nat.zero_le _⟩ (fun q3 S4 H locs hq G => ?_)
  obtain ⟨hq1, hq2⟩ := hq
  rw [hq2] at G
  refine lv_to hq1 ?_
  clear hq1 hq2 eS2
  obtain ⟨r9, S6, eS6, h⟩ := obind2_some h
  refine m_calli (As := [.int r5]) (rest := []) E G hA hR hml (tr_mayAsk l D cI cJ cZ ad S2 r5 eS6) (cwV 1 hts (gmV qM_319 qM_320 qM_321 qM_35 qM_304) rfl rfl rfl (by decide +kernel) ⟨Nat.le_of_ble_eq_true rfl, Nat.le_of_ble_eq_true rfl⟩) rfl hl.1 rfl (lv_room (Nat.le_of_ble_eq_true rfl)) dX12_isPeak_6 ⟨Nat.zero_le _, Nat.zero_le _⟩ (fun q7 S8 H locs hq G => ?_)
  obtain ⟨hq1, hq2⟩ := hq
  rw [hq2] at G
  refine lv_to hq1 ?_
  clear hq1 hq2 eS6
  refine lv_if_ne (tgt := 14) hx hb dX12_isPeak_9 (by decide) (fun c10 => ?_) (fun c10 => ?_)
  · have h := oif_neg c10 h
    refine lv_aload_n hx hb dX12_isPeak_14 rfl (lv_at hl 0 rfl) ?_
    refine lv_aload_n hx hb dX12_isPeak_15 rfl (lv_at hl 0 rfl) ?_
    refine m_get E G 12 (v := .ref (ad 12)) (by decide) (.tail _ qM_9) rfl dX12_isPeak_16 rfl ?_
    obtain ⟨S11, eS11, h⟩ := obind_some h
    refine m_callv (As := [.ref (ad 12)]) (rest := []) E G hA hR hml (tr_laysPowers_12 l D cI cJ cZ ad S6 eS11) (cwV 1 hts (gmV qM_301 qM_302 qM_303 qM_35 qM_296) rfl rfl rfl (by decide +kernel) ⟨Nat.le_of_ble_eq_true rfl, Nat.le_of_ble_eq_true rfl⟩) rfl hl.1 rfl (lv_room (Nat.le_of_ble_eq_true rfl)) dX12_isPeak_19 ⟨Nat.zero_le _, Nat.zero_le _⟩ (fun S13 H locs hq G => ?_)
    rw [hq] at G
    clear hq eS11
    refine lv_aload_n hx hb dX12_isPeak_22 rfl (lv_at hl 0 rfl) ?_
    refine lv_iload_n hx hb dX12_isPeak_23 rfl (lv_at hl 1 rfl) ?_
    obtain ⟨r17, S14, eS14, h⟩ := obind2_some h
    refine m_calli (As := [.int a0]) (rest := []) E G hA hR hml (tr_isTop l D cI cJ cZ ad S11 a0 eS14) (cwV 1 hts (gmV qM_367 qM_368 qM_369 qM_35 qM_365) rfl rfl rfl (by decide +kernel) ⟨Nat.le_of_ble_eq_true rfl, Nat.le_of_ble_eq_true rfl⟩) rfl hl.1 rfl (lv_room (Nat.le_of_ble_eq_true rfl)) dX12_isPeak_24 ⟨Nat.zero_le _, Nat.zero_le _⟩ (fun q15 S16 H locs hq G => ?_)
    obtain ⟨hq1, hq2⟩ := hq
    rw [hq2] at G
    refine lv_to hq1 ?_
    clear hq1 hq2 eS14
    obtain ⟨gz, h⟩ := oif_some h
    exact W.zret (v := r17) hx hb hr (nar01 gz) (fun t ht hW => ⟨⟨r17, S14, rfl, osome2 h, ⟨by rw [ht]; exact G.1, va_K.moved hW.alike hK, G.2.1⟩⟩, G.2.2.F ht⟩) G.2.2.2.2 dX12_isPeak_27
  · have h := oif_pos c10 h
    refine lv_iconst (v := 0) hx hb dX12_isPeak_12 (by decide) ?_
    exact W.zret (v := 0) hx hb hr rfl (fun t ht hW => ⟨⟨0, S6, rfl, osome2 h, ⟨by rw [ht]; exact G.1, va_K.moved hW.alike hK, G.2.1⟩⟩, G.2.2.F ht⟩) G.2.2.2.2 dX12_isPeak_13
def fr_contrast_b81  (S : MS) (s0 : UInt32) : Option (UInt32 × MS) := some (s0, S)
set_option maxHeartbeats 4000000 in
set_option maxRecDepth 100000 in
theorem tr_contrast_b81 {p : Program} {l : Launch} {e : Env} {s : State} {m : MethodId} {args : Array Value} {below : List Frame} {meth : Method} {c : Code} {Q : State → Prop} {D : va_G} {A : Nat → Prop} {H0 : Heap} {cI cJ cZ : ClassId} {ad : Nat → Nat} {r1 : UInt32} {S1 : MS} (E : mE p c cX12_contrast s m args (Cond.code yX12_contrast cX12_contrast 5 (some .float) :: wsM) D cI cJ cZ) (hA : ∀ q : Nat, H0.size ≤ q → A q) (hR : sR s) (hml : c.maxLocals = 5) (kr9 : ∀ (H : Heap) (locs : List Loc) (ls : Array Slot), mG D cI cJ cZ ad A H0 H locs S1 → W p l e { frames := 8, cells := 0, slots := 0, locals := 163 } s m args below meth c H locs 0 0 Q (F0 m 9 ls [.float r1])) (kr81 : ∀ (H : Heap) (locs : List Loc) (ls : Array Slot), mG D cI cJ cZ ad A H0 H locs S1 → W p l e { frames := 8, cells := 0, slots := 0, locals := 163 } s m args below meth c H locs 0 0 Q (F0 m 81 ls [.float r1])) : ∀ (S : MS) (H : Heap) (locs : List Loc) (ls : Array Slot) (s0 : UInt32), fr_contrast_b81 S s0 = some (r1, S1) → mG D cI cJ cZ ad A H0 H locs S → lv_has ls 5 [] → W p l e { frames := 8, cells := 0, slots := 0, locals := 163 } s m args below meth c H locs 0 0 Q (F0 m 81 ls [.float s0]) := by
  have hx := E.1
  have hb := E.2.1
  have hts := E.2.2.1
  have hown := E.2.2.2.1
  have hK := E.2.2.2.2.1
  intro S H locs ls s0 h G hl
  unfold fr_contrast_b81 at h
  rw [(osome2 h).2] at G
  refine lv_tof (osome2 h).1 ?_
  exact kr81 _ _ _ G
def fr_contrast_b54 (k24 : MS → Int32 → Int64 → Int32 → Option (UInt32 × MS)) (S : MS) (s0 : Int64) (l1 : Int32) (l4 : Int32) : Option (UInt32 × MS) := elet (l4 + Int32.ofInt (1)) fun v2 => k24 S l1 s0 v2
set_option maxHeartbeats 4000000 in
set_option maxRecDepth 100000 in
theorem tr_contrast_b54 {p : Program} {l : Launch} {e : Env} {s : State} {m : MethodId} {args : Array Value} {below : List Frame} {meth : Method} {c : Code} {Q : State → Prop} {D : va_G} {A : Nat → Prop} {H0 : Heap} {cI cJ cZ : ClassId} {ad : Nat → Nat} {r1 : UInt32} {S1 : MS} (E : mE p c cX12_contrast s m args (Cond.code yX12_contrast cX12_contrast 5 (some .float) :: wsM) D cI cJ cZ) (hA : ∀ q : Nat, H0.size ≤ q → A q) (hR : sR s) (hml : c.maxLocals = 5) (kr9 : ∀ (H : Heap) (locs : List Loc) (ls : Array Slot), mG D cI cJ cZ ad A H0 H locs S1 → W p l e { frames := 8, cells := 0, slots := 0, locals := 163 } s m args below meth c H locs 0 0 Q (F0 m 9 ls [.float r1])) (kr81 : ∀ (H : Heap) (locs : List Loc) (ls : Array Slot), mG D cI cJ cZ ad A H0 H locs S1 → W p l e { frames := 8, cells := 0, slots := 0, locals := 163 } s m args below meth c H locs 0 0 Q (F0 m 81 ls [.float r1])) {k24 : MS → Int32 → Int64 → Int32 → Option (UInt32 × MS)} (hk24 : ∀ (S : MS) (H : Heap) (locs : List Loc) (ls : Array Slot) (l1 : Int32) (l2 : Int64) (l4 : Int32), k24 S l1 l2 l4 = some (r1, S1) → mG D cI cJ cZ ad A H0 H locs S → lv_has ls 5 [(0, .ref (ad 0)), (1, .int l1), (2, .long l2), (4, .int l4)] → W p l e { frames := 8, cells := 0, slots := 0, locals := 163 } s m args below meth c H locs 0 0 Q (F0 m 24 ls [])) : ∀ (S : MS) (H : Heap) (locs : List Loc) (ls : Array Slot) (s0 : Int64) (l1 : Int32) (l4 : Int32), fr_contrast_b54 k24 S s0 l1 l4 = some (r1, S1) → mG D cI cJ cZ ad A H0 H locs S → lv_has ls 5 [(0, .ref (ad 0)), (1, .int l1), (4, .int l4)] → W p l e { frames := 8, cells := 0, slots := 0, locals := 163 } s m args below meth c H locs 0 0 Q (F0 m 54 ls [.long s0]) := by
  have hx := E.1
  have hb := E.2.1
  have hts := E.2.2.1
  have hown := E.2.2.2.1
  have hK := E.2.2.2.2.1
  intro S H locs ls s0 l1 l4 h G hl
  unfold fr_contrast_b54 at h
  refine lv_lstore_n (lv' := [(2, .long s0), (0, .ref (ad 0)), (1, .int l1), (4, .int l4)]) hx hb dX12_contrast_54 rfl hl (by decide) rfl (fun ls hl => ?_)
  obtain ⟨v2, ev2, h⟩ := elet_some h
  refine lv_iinc (v := v2) (lv' := [(4, .int v2), (2, .long s0), (0, .ref (ad 0)), (1, .int l1)]) hx hb dX12_contrast_55 hl (k := 3) rfl ev2.symm (by decide) rfl (fun ls hl => ?_)
  refine lv_goto (tgt := 24) hx hb dX12_contrast_58 (by decide) ?_
  have hl := lv_sub hl [2, 3, 1, 0] rfl
  exact hk24 _ _ _ _ _ _ _ h G hl
def fr_contrast_b24  : Nat → MS → Int32 → Int64 → Int32 → Option (UInt32 × MS)
  | 0, _, _, _, _ => none
  | n + 1, S, l1, l2, l4 => obind2 (fr_cellCount S) fun r5 S2 => if r5 ≤ l4 then (elet (lg_cmp l2 (0 : Int64)) fun v7 => if v7 = 0 then (fr_contrast_b81 S2 FP.fconst0) else (oif (inb l1 144 = true) <| elet (S2.2.2 25 l1.toNatClampNeg) fun v10 => elet (FP.l2f v10) fun v11 => elet (FP.l2f l2) fun v12 => oif (FP.fdiv v11 v12 &&& 0x7fffffff ≤ 0x7f800000) <| elet (FP.fdiv v11 v12) fun v14 => fr_contrast_b81 S2 v14)) else (if l4 = l1 then (fr_contrast_b54 (fr_contrast_b24 n) S2 l2 l1 l4) else (oif (inb l4 144 = true) <| elet (S2.2.2 25 l4.toNatClampNeg) fun v17 => elet (if v17 < l2 then l2 else v17) fun v18 => fr_contrast_b54 (fr_contrast_b24 n) S2 v18 l1 l4))
set_option maxHeartbeats 4000000 in
set_option maxRecDepth 100000 in
theorem tr_contrast_b24 {p : Program} {l : Launch} {e : Env} {s : State} {m : MethodId} {args : Array Value} {below : List Frame} {meth : Method} {c : Code} {Q : State → Prop} {D : va_G} {A : Nat → Prop} {H0 : Heap} {cI cJ cZ : ClassId} {ad : Nat → Nat} {r1 : UInt32} {S1 : MS} (E : mE p c cX12_contrast s m args (Cond.code yX12_contrast cX12_contrast 5 (some .float) :: wsM) D cI cJ cZ) (hA : ∀ q : Nat, H0.size ≤ q → A q) (hR : sR s) (hml : c.maxLocals = 5) (kr9 : ∀ (H : Heap) (locs : List Loc) (ls : Array Slot), mG D cI cJ cZ ad A H0 H locs S1 → W p l e { frames := 8, cells := 0, slots := 0, locals := 163 } s m args below meth c H locs 0 0 Q (F0 m 9 ls [.float r1])) (kr81 : ∀ (H : Heap) (locs : List Loc) (ls : Array Slot), mG D cI cJ cZ ad A H0 H locs S1 → W p l e { frames := 8, cells := 0, slots := 0, locals := 163 } s m args below meth c H locs 0 0 Q (F0 m 81 ls [.float r1])) : ∀ n : Nat, ∀ (S : MS) (H : Heap) (locs : List Loc) (ls : Array Slot) (l1 : Int32) (l2 : Int64) (l4 : Int32), fr_contrast_b24 n S l1 l2 l4 = some (r1, S1) → mG D cI cJ cZ ad A H0 H locs S → lv_has ls 5 [(0, .ref (ad 0)), (1, .int l1), (2, .long l2), (4, .int l4)] → W p l e { frames := 8, cells := 0, slots := 0, locals := 163 } s m args below meth c H locs 0 0 Q (F0 m 24 ls []) := by
  have hx := E.1
  have hb := E.2.1
  have hts := E.2.2.1
  have hown := E.2.2.2.1
  have hK := E.2.2.2.2.1
  intro n
  induction n with
  | zero =>
    intro S H locs ls l1 l2 l4 h
    have h : (none : Option (UInt32 × MS)) = some (r1, S1) := h
    cases h
  | succ n ih =>
    intro S H locs ls l1 l2 l4 h G hl
    unfold fr_contrast_b24 at h
    refine lv_iload hx hb dX12_contrast_24 (lv_at hl 3 rfl) ?_
    refine lv_aload_n hx hb dX12_contrast_26 rfl (lv_at hl 0 rfl) ?_
    obtain ⟨r5, S2, eS2, h⟩ := obind2_some h
    refine m_calli (As := []) (rest := [.int l4]) E G hA hR hml (tr_cellCount l D cI cJ cZ ad S eS2) (cwV 0 hts (gmV qM_204 qM_205 qM_206 qM_35 qM_207) rfl rfl rfl (by decide +kernel) ⟨Nat.le_of_ble_eq_true rfl, Nat.le_of_ble_eq_true rfl⟩) rfl hl.1 rfl (lv_room (Nat.le_of_ble_eq_true rfl)) dX12_contrast_27 ⟨Nat.zero_le _, Nat.zero_le _⟩ (fun q3 S4 H locs hq G => ?_)
    obtain ⟨hq1, hq2⟩ := hq
    rw [hq2] at G
    refine lv_to hq1 ?_
    clear hq1 hq2 eS2
    refine lv_icmp_ge (tgt := 61) hx hb dX12_contrast_30 (by decide) (fun c6 => ?_) (fun c6 => ?_)
    · have h := oif_pos c6 h
      refine lv_lload_n hx hb dX12_contrast_61 rfl (lv_at hl 2 rfl) ?_
      refine lv_lconst (v := 0) hx hb dX12_contrast_62 (by decide) ?_
      refine W.lcmp hx hb dX12_contrast_63 ?_
      refine lv_topi (fun v7 ev7 => ?_)
      have h := elet_at ev7 h
      clear ev7
      refine lv_if_ne (tgt := 71) hx hb dX12_contrast_64 (by decide) (fun c8 => ?_) (fun c8 => ?_)
      · have h := oif_neg c8 h
        refine lv_aload_n hx hb dX12_contrast_71 rfl (lv_at hl 0 rfl) ?_
        refine m_get E G 25 (v := .ref (ad 25)) (by decide) (.tail _ qM_21) rfl dX12_contrast_72 rfl ?_
        refine lv_iload_n hx hb dX12_contrast_75 rfl (lv_at hl 1 rfl) ?_
        obtain ⟨g9, h⟩ := oif_some h
        refine m_lald E G 25 13 (n := 144) (k := l1.toNatClampNeg) rfl (inb_k g9).1 (inb_k g9).2 (by decide) dX12_contrast_76 ?_
        refine lv_topl (fun v10 ev10 => ?_)
        have h := elet_at ev10 h
        clear ev10
        refine lv_l2f hx hb dX12_contrast_77 ?_
        refine lv_topf (fun v11 ev11 => ?_)
        have h := elet_at ev11 h
        clear ev11
        refine lv_lload_n hx hb dX12_contrast_78 rfl (lv_at hl 2 rfl) ?_
        refine lv_l2f hx hb dX12_contrast_79 ?_
        refine lv_topf (fun v12 ev12 => ?_)
        have h := elet_at ev12 h
        clear ev12
        obtain ⟨g13, h⟩ := oif_some h
        refine lv_fdiv hx hb dX12_contrast_80 g13 ?_
        refine lv_topf (fun v14 ev14 => ?_)
        have h := elet_at ev14 h
        clear ev14
        have hl := lv_sub hl [] rfl
        exact tr_contrast_b81 E hA hR hml kr9 kr81 _ _ _ _ _ h G hl
      · have h := oif_pos c8 h
        refine lv_fconst0 hx hb dX12_contrast_67 ?_
        refine lv_goto (tgt := 81) hx hb dX12_contrast_68 (by decide) ?_
        have hl := lv_sub hl [] rfl
        exact tr_contrast_b81 E hA hR hml kr9 kr81 _ _ _ _ _ h G hl
    · have h := oif_neg c6 h
      refine lv_iload hx hb dX12_contrast_33 (lv_at hl 3 rfl) ?_
      refine lv_iload_n hx hb dX12_contrast_35 rfl (lv_at hl 1 rfl) ?_
      refine lv_icmp_ne (tgt := 43) hx hb dX12_contrast_36 (by decide) (fun c15 => ?_) (fun c15 => ?_)
      · have h := oif_neg c15 h
        refine lv_lload_n hx hb dX12_contrast_43 rfl (lv_at hl 2 rfl) ?_
        refine lv_aload_n hx hb dX12_contrast_44 rfl (lv_at hl 0 rfl) ?_
        refine m_get E G 25 (v := .ref (ad 25)) (by decide) (.tail _ qM_21) rfl dX12_contrast_45 rfl ?_
        refine lv_iload hx hb dX12_contrast_48 (lv_at hl 3 rfl) ?_
        obtain ⟨g16, h⟩ := oif_some h
        refine m_lald E G 25 13 (n := 144) (k := l4.toNatClampNeg) rfl (inb_k g16).1 (inb_k g16).2 (by decide) dX12_contrast_50 ?_
        refine lv_topl (fun v17 ev17 => ?_)
        have h := elet_at ev17 h
        clear ev17
        refine va_mmax_long hx hb (hml.trans hl.1.symm) hown (hts _ (.tail _ qM_377)) (hts _ (.tail _ qM_378)) (hts _ (.tail _ qM_247)) (hts _ (.tail _ qM_379)) (Nat.le_of_ble_eq_true rfl) (Nat.le_of_ble_eq_true rfl) (Nat.zero_le _) (Nat.zero_le _) dX12_contrast_51 ?_
        refine lv_topl (fun v18 ev18 => ?_)
        have h := elet_at ev18 h
        clear ev18
        have hl := lv_sub hl [0, 1, 3] rfl
        exact tr_contrast_b54 E hA hR hml kr9 kr81 ih _ _ _ _ _ _ _ h G hl
      · have h := oif_pos c15 h
        refine lv_lload_n hx hb dX12_contrast_39 rfl (lv_at hl 2 rfl) ?_
        refine lv_goto (tgt := 54) hx hb dX12_contrast_40 (by decide) ?_
        have hl := lv_sub hl [0, 1, 3] rfl
        exact tr_contrast_b54 E hA hR hml kr9 kr81 ih _ _ _ _ _ _ _ h G hl
def fr_contrast (S : MS)  : Option (UInt32 × MS) := obind2 (fr_mayAsk S 1) fun r5 S2 => if r5 = 0 then (some (FP.fconst0, S2)) else (obind2 (fr_bestIn_12 S2) fun r10 S7 => fr_contrast_b24 16384 S7 r10 (0 : Int64) 0)
set_option maxHeartbeats 4000000 in
set_option maxRecDepth 100000 in
theorem tr_contrast (l : Launch) (D : va_G) (cI cJ cZ : ClassId) (ad : Nat → Nat) (S : MS)  {r1 : UInt32} {S1 : MS} (h : fr_contrast S = some (r1, S1)) : mCf l yX12_contrast (Cond.code yX12_contrast cX12_contrast 5 (some .float) :: wsM) 8 163 D cI cJ cZ ad S [] (fun r S9 => r = r1 ∧ S9 = S1) := by
  intro sz
  refine Met.ofW (cc := cX12_contrast) (maxL := 5) (ret := (some .float)) (by decide) rfl ?_
  intro p e s m args below meth c s₁ B hml hv
  obtain ⟨rfl, hsz, hP, hK, hD0, hR⟩ := hv
  have hx := B.exec
  have hb := B.bytes
  have hr := B.returns
  have hts := atoms_spec (ws := (Cond.code yX12_contrast cX12_contrast 5 (some .float) :: wsM)) B.pre
  have hown : s.vm.findClass RX12 = some m.cls := findClass_of_methodNamed B.named
  have hlocks := B.notSynchronized
  subst hsz
  have hD := hD0.self (sz := s.heap.size)
  generalize hAe : va_A (MW cI cJ cZ ad S) s.heap.size = A at hD ⊢
  have hA : ∀ q : Nat, s.heap.size ≤ q → A q := fun q h => by rw [← hAe]; exact Or.inr h
  have G : mG D cI cJ cZ ad A s.heap s.heap [] S := ⟨hP, hD, va_S.rf⟩
  have E : mE p c cX12_contrast s m ([.ref (ad 0)] : List Value).toArray (Cond.code yX12_contrast cX12_contrast 5 (some .float) :: wsM) D cI cJ cZ := ⟨hx, hb, hts, hown, hK, fun w h => .tail _ (iM_x h)⟩
  have hl := lv_entry ([.ref (ad 0)]) (n := 5) (Nat.le_of_ble_eq_true rfl)
  rw [lg_entry_eq]
  generalize (lg_sl ([.ref (ad 0)]) ++ List.replicate (5 - (lg_sl ([.ref (ad 0)])).length) Slot.unset).toArray = ls at hl ⊢
  have hl : lv_has ls 5 [(0, .ref (ad 0))] := hl
  unfold fr_contrast at h
  refine lv_aload_n hx hb dX12_contrast_0 rfl (lv_at hl 0 rfl) ?_
  refine lv_iconst (v := 1) hx hb dX12_contrast_1 (by decide) ?_
  obtain ⟨r5, S2, eS2, h⟩ := obind2_some h
  refine m_calli (As := [.int 1]) (rest := []) E G hA hR hml (tr_mayAsk l D cI cJ cZ ad S 1 eS2) (cwV 1 hts (gmV qM_319 qM_320 qM_321 qM_35 qM_304) rfl rfl rfl (by decide +kernel) ⟨Nat.le_of_ble_eq_true rfl, Nat.le_of_ble_eq_true rfl⟩) rfl hl.1 rfl (lv_room (Nat.le_of_ble_eq_true rfl)) dX12_contrast_2 ⟨Nat.zero_le _, Nat.zero_le _⟩ (fun q3 S4 H locs hq G => ?_)
  obtain ⟨hq1, hq2⟩ := hq
  rw [hq2] at G
  refine lv_to hq1 ?_
  clear hq1 hq2 eS2
  refine lv_if_ne (tgt := 10) hx hb dX12_contrast_5 (by decide) (fun c6 => ?_) (fun c6 => ?_)
  · have h := oif_neg c6 h
    refine lv_aload_n hx hb dX12_contrast_10 rfl (lv_at hl 0 rfl) ?_
    refine lv_aload_n hx hb dX12_contrast_11 rfl (lv_at hl 0 rfl) ?_
    refine m_get E G 12 (v := .ref (ad 12)) (by decide) (.tail _ qM_9) rfl dX12_contrast_12 rfl ?_
    obtain ⟨r10, S7, eS7, h⟩ := obind2_some h
    refine m_calli (As := [.ref (ad 12)]) (rest := []) E G hA hR hml (tr_bestIn_12 l D cI cJ cZ ad S2 eS7) (cwV 1 hts (gmV qM_360 qM_361 qM_362 qM_35 qM_300) rfl rfl rfl (by decide +kernel) ⟨Nat.le_of_ble_eq_true rfl, Nat.le_of_ble_eq_true rfl⟩) rfl hl.1 rfl (lv_room (Nat.le_of_ble_eq_true rfl)) dX12_contrast_15 ⟨Nat.zero_le _, Nat.zero_le _⟩ (fun q8 S9 H locs hq G => ?_)
    obtain ⟨hq1, hq2⟩ := hq
    rw [hq2] at G
    refine lv_to hq1 ?_
    clear hq1 hq2 eS7
    refine lv_istore_n (lv' := [(1, .int r10), (0, .ref (ad 0))]) hx hb dX12_contrast_18 rfl hl (by decide) rfl (fun ls hl => ?_)
    refine lv_lconst (v := 0) hx hb dX12_contrast_19 (by decide) ?_
    refine lv_lstore_n (lv' := [(2, .long (0 : Int64)), (1, .int r10), (0, .ref (ad 0))]) hx hb dX12_contrast_20 rfl hl (by decide) rfl (fun ls hl => ?_)
    refine lv_iconst (v := 0) hx hb dX12_contrast_21 (by decide) ?_
    refine lv_istore (lv' := [(4, .int 0), (2, .long (0 : Int64)), (1, .int r10), (0, .ref (ad 0))]) hx hb dX12_contrast_22 hl (by decide) rfl (fun ls hl => ?_)
    have hl := lv_sub hl [3, 2, 1, 0] rfl
    exact tr_contrast_b24 E hA hR hml (fun H locs ls G => W.fret (v := r1) hx hb hr (fun t ht hW => ⟨⟨r1, S1, rfl, ⟨rfl, rfl⟩, ⟨by rw [ht]; exact G.1, va_K.moved hW.alike hK, G.2.1⟩⟩, G.2.2.F ht⟩) G.2.2.2.2 dX12_contrast_9) (fun H locs ls G => W.fret (v := r1) hx hb hr (fun t ht hW => ⟨⟨r1, S1, rfl, ⟨rfl, rfl⟩, ⟨by rw [ht]; exact G.1, va_K.moved hW.alike hK, G.2.1⟩⟩, G.2.2.F ht⟩) G.2.2.2.2 dX12_contrast_81) _ _ _ _ _ _ _ _ h G hl
  · have h := oif_pos c6 h
    refine lv_fconst0 hx hb dX12_contrast_8 ?_
    exact W.fret (v := FP.fconst0) hx hb hr (fun t ht hW => ⟨⟨FP.fconst0, S2, rfl, osome2 h, ⟨by rw [ht]; exact G.1, va_K.moved hW.alike hK, G.2.1⟩⟩, G.2.2.F ht⟩) G.2.2.2.2 dX12_contrast_9
def fr_shift (S : MS) (a0 : Int32) (a1 : Int32) (a2 : Int32) : Option (Int32 × MS) := elet (12 * a0) fun v2 => elet (v2 + a2) fun v3 => oif (inb v3 1728 = true) <| elet (S.2.1 17 v3.toNatClampNeg) fun v5 => elet (12 * a1) fun v6 => elet (v6 + a2) fun v7 => oif (inb v7 1728 = true) <| elet (S.2.1 17 v7.toNatClampNeg) fun v9 => elet (v5 - v9) fun v10 => some (v10, S)
set_option maxHeartbeats 4000000 in
set_option maxRecDepth 100000 in
theorem tr_shift (l : Launch) (D : va_G) (cI cJ cZ : ClassId) (ad : Nat → Nat) (S : MS) (a0 : Int32) (a1 : Int32) (a2 : Int32) {r1 : Int32} {S1 : MS} (h : fr_shift S a0 a1 a2 = some (r1, S1)) : mCi l yX12_shift (Cond.code yX12_shift cX12_shift 4 (some .int) :: wsM) 1 0 D cI cJ cZ ad S [.int a0, .int a1, .int a2] (fun r S9 => r = r1 ∧ S9 = S1) := by
  intro sz
  refine Met.ofW (cc := cX12_shift) (maxL := 4) (ret := (some .int)) (by decide) rfl ?_
  intro p e s m args below meth c s₁ B hml hv
  obtain ⟨rfl, hsz, hP, hK, hD0, hR⟩ := hv
  have hx := B.exec
  have hb := B.bytes
  have hr := B.returns
  have hts := atoms_spec (ws := (Cond.code yX12_shift cX12_shift 4 (some .int) :: wsM)) B.pre
  have hown : s.vm.findClass RX12 = some m.cls := findClass_of_methodNamed B.named
  have hlocks := B.notSynchronized
  subst hsz
  have hD := hD0.self (sz := s.heap.size)
  generalize hAe : va_A (MW cI cJ cZ ad S) s.heap.size = A at hD ⊢
  have hA : ∀ q : Nat, s.heap.size ≤ q → A q := fun q h => by rw [← hAe]; exact Or.inr h
  have G : mG D cI cJ cZ ad A s.heap s.heap [] S := ⟨hP, hD, va_S.rf⟩
  have E : mE p c cX12_shift s m ([.ref (ad 0), .int a0, .int a1, .int a2] : List Value).toArray (Cond.code yX12_shift cX12_shift 4 (some .int) :: wsM) D cI cJ cZ := ⟨hx, hb, hts, hown, hK, fun w h => .tail _ (iM_x h)⟩
  have hl := lv_entry ([.ref (ad 0), .int a0, .int a1, .int a2]) (n := 4) (Nat.le_of_ble_eq_true rfl)
  rw [lg_entry_eq]
  generalize (lg_sl ([.ref (ad 0), .int a0, .int a1, .int a2]) ++ List.replicate (4 - (lg_sl ([.ref (ad 0), .int a0, .int a1, .int a2])).length) Slot.unset).toArray = ls at hl ⊢
  have hl : lv_has ls 4 [(0, .ref (ad 0)), (1, .int a0), (2, .int a1), (3, .int a2)] := hl
  unfold fr_shift at h
  refine lv_aload_n hx hb dX12_shift_0 rfl (lv_at hl 0 rfl) ?_
  refine m_get E G 17 (v := .ref (ad 17)) (by decide) (.tail _ qM_14) rfl dX12_shift_1 rfl ?_
  refine lv_bipush (v := 12) hx hb dX12_shift_4 (by decide) ?_
  refine lv_iload_n hx hb dX12_shift_6 rfl (lv_at hl 1 rfl) ?_
  refine lv_imul hx hb dX12_shift_7 ?_
  refine lv_topi (fun v2 ev2 => ?_)
  have h := elet_at ev2 h
  clear ev2
  refine lv_iload_n hx hb dX12_shift_8 rfl (lv_at hl 3 rfl) ?_
  refine lv_iadd hx hb dX12_shift_9 ?_
  refine lv_topi (fun v3 ev3 => ?_)
  have h := elet_at ev3 h
  clear ev3
  obtain ⟨g4, h⟩ := oif_some h
  refine m_iald E G 17 9 (n := 1728) (k := v3.toNatClampNeg) rfl (inb_k g4).1 (inb_k g4).2 (by decide) dX12_shift_10 ?_
  refine lv_topi (fun v5 ev5 => ?_)
  have h := elet_at ev5 h
  clear ev5
  refine lv_aload_n hx hb dX12_shift_11 rfl (lv_at hl 0 rfl) ?_
  refine m_get E G 17 (v := .ref (ad 17)) (by decide) (.tail _ qM_14) rfl dX12_shift_12 rfl ?_
  refine lv_bipush (v := 12) hx hb dX12_shift_15 (by decide) ?_
  refine lv_iload_n hx hb dX12_shift_17 rfl (lv_at hl 2 rfl) ?_
  refine lv_imul hx hb dX12_shift_18 ?_
  refine lv_topi (fun v6 ev6 => ?_)
  have h := elet_at ev6 h
  clear ev6
  refine lv_iload_n hx hb dX12_shift_19 rfl (lv_at hl 3 rfl) ?_
  refine lv_iadd hx hb dX12_shift_20 ?_
  refine lv_topi (fun v7 ev7 => ?_)
  have h := elet_at ev7 h
  clear ev7
  obtain ⟨g8, h⟩ := oif_some h
  refine m_iald E G 17 9 (n := 1728) (k := v7.toNatClampNeg) rfl (inb_k g8).1 (inb_k g8).2 (by decide) dX12_shift_21 ?_
  refine lv_topi (fun v9 ev9 => ?_)
  have h := elet_at ev9 h
  clear ev9
  refine lv_isub hx hb dX12_shift_22 ?_
  refine lv_topi (fun v10 ev10 => ?_)
  have h := elet_at ev10 h
  clear ev10
  exact W.iret (v := v10) hx hb hr (fun t ht hW => ⟨⟨v10, S, rfl, osome2 h, ⟨by rw [ht]; exact G.1, va_K.moved hW.alike hK, G.2.1⟩⟩, G.2.2.F ht⟩) G.2.2.2.2 dX12_shift_23
def fr_confusion_b110 (k6 : MS → Int32 → Int32 → Int32 → Int32 → Int32 → Option (Int32 × MS)) (S : MS) (s0 : Int32) (l1 : Int32) (l2 : Int32) (l3 : Int32) (l5 : Int32) : Option (Int32 × MS) := elet (l5 + Int32.ofInt (1)) fun v2 => k6 S l1 l2 l3 s0 v2
set_option maxHeartbeats 4000000 in
set_option maxRecDepth 100000 in
theorem tr_confusion_b110 {p : Program} {l : Launch} {e : Env} {s : State} {m : MethodId} {args : Array Value} {below : List Frame} {meth : Method} {c : Code} {Q : State → Prop} {D : va_G} {A : Nat → Prop} {H0 : Heap} {cI cJ cZ : ClassId} {ad : Nat → Nat} {r1 : Int32} {S1 : MS} (E : mE p c cX12_confusion s m args (Cond.code yX12_confusion cX12_confusion 8 (some .int) :: wsM) D cI cJ cZ) (hA : ∀ q : Nat, H0.size ≤ q → A q) (hR : sR s) (hml : c.maxLocals = 8) (kr120 : ∀ (H : Heap) (locs : List Loc) (ls : Array Slot), mG D cI cJ cZ ad A H0 H locs S1 → W p l e { frames := 2, cells := 0, slots := 0, locals := 23 } s m args below meth c H locs 0 0 Q (F0 m 120 ls [.int r1])) {k6 : MS → Int32 → Int32 → Int32 → Int32 → Int32 → Option (Int32 × MS)} (hk6 : ∀ (S : MS) (H : Heap) (locs : List Loc) (ls : Array Slot) (l1 : Int32) (l2 : Int32) (l3 : Int32) (l4 : Int32) (l5 : Int32), k6 S l1 l2 l3 l4 l5 = some (r1, S1) → mG D cI cJ cZ ad A H0 H locs S → lv_has ls 8 [(0, .ref (ad 0)), (1, .int l1), (2, .int l2), (3, .int l3), (4, .int l4), (5, .int l5)] → W p l e { frames := 2, cells := 0, slots := 0, locals := 23 } s m args below meth c H locs 0 0 Q (F0 m 6 ls [])) : ∀ (S : MS) (H : Heap) (locs : List Loc) (ls : Array Slot) (s0 : Int32) (l1 : Int32) (l2 : Int32) (l3 : Int32) (l5 : Int32), fr_confusion_b110 k6 S s0 l1 l2 l3 l5 = some (r1, S1) → mG D cI cJ cZ ad A H0 H locs S → lv_has ls 8 [(0, .ref (ad 0)), (1, .int l1), (2, .int l2), (3, .int l3), (5, .int l5)] → W p l e { frames := 2, cells := 0, slots := 0, locals := 23 } s m args below meth c H locs 0 0 Q (F0 m 110 ls [.int s0]) := by
  have hx := E.1
  have hb := E.2.1
  have hts := E.2.2.1
  have hown := E.2.2.2.1
  have hK := E.2.2.2.2.1
  intro S H locs ls s0 l1 l2 l3 l5 h G hl
  unfold fr_confusion_b110 at h
  refine lv_istore (lv' := [(4, .int s0), (0, .ref (ad 0)), (1, .int l1), (2, .int l2), (3, .int l3), (5, .int l5)]) hx hb dX12_confusion_110 hl (by decide) rfl (fun ls hl => ?_)
  obtain ⟨v2, ev2, h⟩ := elet_some h
  refine lv_iinc (v := v2) (lv' := [(5, .int v2), (4, .int s0), (0, .ref (ad 0)), (1, .int l1), (2, .int l2), (3, .int l3)]) hx hb dX12_confusion_112 hl (k := 5) rfl ev2.symm (by decide) rfl (fun ls hl => ?_)
  refine lv_goto (tgt := 6) hx hb dX12_confusion_115 (by decide) ?_
  have hl := lv_sub hl [2, 3, 4, 5, 1, 0] rfl
  exact hk6 _ _ _ _ _ _ _ _ _ h G hl
def fr_confusion_b76 (k6 : MS → Int32 → Int32 → Int32 → Int32 → Int32 → Option (Int32 × MS)) (k23 : MS → Int32 → Int32 → Int32 → Int32 → Int32 → Int32 → Int32 → Option (Int32 × MS)) (S : MS) (s0 : Int32) (s1 : Int32) (l1 : Int32) (l2 : Int32) (l3 : Int32) (l4 : Int32) (l5 : Int32) (l7 : Int32) : Option (Int32 × MS) := elet (s1 + s0) fun v2 => elet (l7 + Int32.ofInt (1)) fun v3 => k23 S l1 l2 l3 l4 l5 v2 v3
set_option maxHeartbeats 4000000 in
set_option maxRecDepth 100000 in
theorem tr_confusion_b76 {p : Program} {l : Launch} {e : Env} {s : State} {m : MethodId} {args : Array Value} {below : List Frame} {meth : Method} {c : Code} {Q : State → Prop} {D : va_G} {A : Nat → Prop} {H0 : Heap} {cI cJ cZ : ClassId} {ad : Nat → Nat} {r1 : Int32} {S1 : MS} (E : mE p c cX12_confusion s m args (Cond.code yX12_confusion cX12_confusion 8 (some .int) :: wsM) D cI cJ cZ) (hA : ∀ q : Nat, H0.size ≤ q → A q) (hR : sR s) (hml : c.maxLocals = 8) (kr120 : ∀ (H : Heap) (locs : List Loc) (ls : Array Slot), mG D cI cJ cZ ad A H0 H locs S1 → W p l e { frames := 2, cells := 0, slots := 0, locals := 23 } s m args below meth c H locs 0 0 Q (F0 m 120 ls [.int r1])) {k6 : MS → Int32 → Int32 → Int32 → Int32 → Int32 → Option (Int32 × MS)} {k23 : MS → Int32 → Int32 → Int32 → Int32 → Int32 → Int32 → Int32 → Option (Int32 × MS)} (hk6 : ∀ (S : MS) (H : Heap) (locs : List Loc) (ls : Array Slot) (l1 : Int32) (l2 : Int32) (l3 : Int32) (l4 : Int32) (l5 : Int32), k6 S l1 l2 l3 l4 l5 = some (r1, S1) → mG D cI cJ cZ ad A H0 H locs S → lv_has ls 8 [(0, .ref (ad 0)), (1, .int l1), (2, .int l2), (3, .int l3), (4, .int l4), (5, .int l5)] → W p l e { frames := 2, cells := 0, slots := 0, locals := 23 } s m args below meth c H locs 0 0 Q (F0 m 6 ls [])) (hk23 : ∀ (S : MS) (H : Heap) (locs : List Loc) (ls : Array Slot) (l1 : Int32) (l2 : Int32) (l3 : Int32) (l4 : Int32) (l5 : Int32) (l6 : Int32) (l7 : Int32), k23 S l1 l2 l3 l4 l5 l6 l7 = some (r1, S1) → mG D cI cJ cZ ad A H0 H locs S → lv_has ls 8 [(0, .ref (ad 0)), (1, .int l1), (2, .int l2), (3, .int l3), (4, .int l4), (5, .int l5), (6, .int l6), (7, .int l7)] → W p l e { frames := 2, cells := 0, slots := 0, locals := 23 } s m args below meth c H locs 0 0 Q (F0 m 23 ls [])) : ∀ (S : MS) (H : Heap) (locs : List Loc) (ls : Array Slot) (s0 : Int32) (s1 : Int32) (l1 : Int32) (l2 : Int32) (l3 : Int32) (l4 : Int32) (l5 : Int32) (l7 : Int32), fr_confusion_b76 k6 k23 S s0 s1 l1 l2 l3 l4 l5 l7 = some (r1, S1) → mG D cI cJ cZ ad A H0 H locs S → lv_has ls 8 [(0, .ref (ad 0)), (1, .int l1), (2, .int l2), (3, .int l3), (4, .int l4), (5, .int l5), (7, .int l7)] → W p l e { frames := 2, cells := 0, slots := 0, locals := 23 } s m args below meth c H locs 0 0 Q (F0 m 76 ls [.int s0, .int s1]) := by
  have hx := E.1
  have hb := E.2.1
  have hts := E.2.2.1
  have hown := E.2.2.2.1
  have hK := E.2.2.2.2.1
  intro S H locs ls s0 s1 l1 l2 l3 l4 l5 l7 h G hl
  unfold fr_confusion_b76 at h
  refine lv_iadd hx hb dX12_confusion_76 ?_
  refine lv_topi (fun v2 ev2 => ?_)
  have h := elet_at ev2 h
  clear ev2
  refine lv_istore (lv' := [(6, .int v2), (0, .ref (ad 0)), (1, .int l1), (2, .int l2), (3, .int l3), (4, .int l4), (5, .int l5), (7, .int l7)]) hx hb dX12_confusion_77 hl (by decide) rfl (fun ls hl => ?_)
  obtain ⟨v3, ev3, h⟩ := elet_some h
  refine lv_iinc (v := v3) (lv' := [(7, .int v3), (6, .int v2), (0, .ref (ad 0)), (1, .int l1), (2, .int l2), (3, .int l3), (4, .int l4), (5, .int l5)]) hx hb dX12_confusion_79 hl (k := 7) rfl ev3.symm (by decide) rfl (fun ls hl => ?_)
  refine lv_goto (tgt := 23) hx hb dX12_confusion_82 (by decide) ?_
  have hl := lv_sub hl [2, 3, 4, 5, 6, 7, 1, 0] rfl
  exact hk23 _ _ _ _ _ _ _ _ _ _ _ h G hl
def fr_confusion_b75 (k6 : MS → Int32 → Int32 → Int32 → Int32 → Int32 → Option (Int32 × MS)) (k23 : MS → Int32 → Int32 → Int32 → Int32 → Int32 → Int32 → Int32 → Option (Int32 × MS)) (S : MS) (s0 : Int32) (l1 : Int32) (l2 : Int32) (l3 : Int32) (l4 : Int32) (l5 : Int32) (l7 : Int32) : Option (Int32 × MS) := fr_confusion_b76 k6 k23 S 0 s0 l1 l2 l3 l4 l5 l7
set_option maxHeartbeats 4000000 in
set_option maxRecDepth 100000 in
theorem tr_confusion_b75 {p : Program} {l : Launch} {e : Env} {s : State} {m : MethodId} {args : Array Value} {below : List Frame} {meth : Method} {c : Code} {Q : State → Prop} {D : va_G} {A : Nat → Prop} {H0 : Heap} {cI cJ cZ : ClassId} {ad : Nat → Nat} {r1 : Int32} {S1 : MS} (E : mE p c cX12_confusion s m args (Cond.code yX12_confusion cX12_confusion 8 (some .int) :: wsM) D cI cJ cZ) (hA : ∀ q : Nat, H0.size ≤ q → A q) (hR : sR s) (hml : c.maxLocals = 8) (kr120 : ∀ (H : Heap) (locs : List Loc) (ls : Array Slot), mG D cI cJ cZ ad A H0 H locs S1 → W p l e { frames := 2, cells := 0, slots := 0, locals := 23 } s m args below meth c H locs 0 0 Q (F0 m 120 ls [.int r1])) {k6 : MS → Int32 → Int32 → Int32 → Int32 → Int32 → Option (Int32 × MS)} {k23 : MS → Int32 → Int32 → Int32 → Int32 → Int32 → Int32 → Int32 → Option (Int32 × MS)} (hk6 : ∀ (S : MS) (H : Heap) (locs : List Loc) (ls : Array Slot) (l1 : Int32) (l2 : Int32) (l3 : Int32) (l4 : Int32) (l5 : Int32), k6 S l1 l2 l3 l4 l5 = some (r1, S1) → mG D cI cJ cZ ad A H0 H locs S → lv_has ls 8 [(0, .ref (ad 0)), (1, .int l1), (2, .int l2), (3, .int l3), (4, .int l4), (5, .int l5)] → W p l e { frames := 2, cells := 0, slots := 0, locals := 23 } s m args below meth c H locs 0 0 Q (F0 m 6 ls [])) (hk23 : ∀ (S : MS) (H : Heap) (locs : List Loc) (ls : Array Slot) (l1 : Int32) (l2 : Int32) (l3 : Int32) (l4 : Int32) (l5 : Int32) (l6 : Int32) (l7 : Int32), k23 S l1 l2 l3 l4 l5 l6 l7 = some (r1, S1) → mG D cI cJ cZ ad A H0 H locs S → lv_has ls 8 [(0, .ref (ad 0)), (1, .int l1), (2, .int l2), (3, .int l3), (4, .int l4), (5, .int l5), (6, .int l6), (7, .int l7)] → W p l e { frames := 2, cells := 0, slots := 0, locals := 23 } s m args below meth c H locs 0 0 Q (F0 m 23 ls [])) : ∀ (S : MS) (H : Heap) (locs : List Loc) (ls : Array Slot) (s0 : Int32) (l1 : Int32) (l2 : Int32) (l3 : Int32) (l4 : Int32) (l5 : Int32) (l7 : Int32), fr_confusion_b75 k6 k23 S s0 l1 l2 l3 l4 l5 l7 = some (r1, S1) → mG D cI cJ cZ ad A H0 H locs S → lv_has ls 8 [(0, .ref (ad 0)), (1, .int l1), (2, .int l2), (3, .int l3), (4, .int l4), (5, .int l5), (7, .int l7)] → W p l e { frames := 2, cells := 0, slots := 0, locals := 23 } s m args below meth c H locs 0 0 Q (F0 m 75 ls [.int s0]) := by
  have hx := E.1
  have hb := E.2.1
  have hts := E.2.2.1
  have hown := E.2.2.2.1
  have hK := E.2.2.2.2.1
  intro S H locs ls s0 l1 l2 l3 l4 l5 l7 h G hl
  unfold fr_confusion_b75 at h
  refine lv_iconst (v := 0) hx hb dX12_confusion_75 (by decide) ?_
  have hl := lv_sub hl [0, 1, 2, 3, 4, 5, 6] rfl
  exact tr_confusion_b76 E hA hR hml kr120 hk6 hk23 _ _ _ _ _ _ _ _ _ _ _ _ h G hl
def fr_confusion_b23 (k6 : MS → Int32 → Int32 → Int32 → Int32 → Int32 → Option (Int32 × MS)) : Nat → MS → Int32 → Int32 → Int32 → Int32 → Int32 → Int32 → Int32 → Option (Int32 × MS)
  | 0, _, _, _, _, _, _, _, _ => none
  | n + 1, S, l1, l2, l3, l4, l5, l6, l7 => elet (S.2.1 10 4) fun v2 => if v2 ≤ l7 then (obind2 (fr_hears_12 S l5) fun r7 S4 => if r7 = 0 then (fr_confusion_b110 k6 S4 l4 l1 l2 l3 l5) else (elet (if l4 < l6 then l6 else l4) fun v9 => fr_confusion_b110 k6 S4 v9 l1 l2 l3 l5)) else (obind2 (fr_hears_12 S l7) fun r13 S10 => if r13 = 0 then (fr_confusion_b75 k6 (fr_confusion_b23 k6 n) S10 l6 l1 l2 l3 l4 l5 l7) else (obind2 (fr_shift S10 l1 l2 l7) fun r18 S15 => obind2 (fr_shift S15 l1 l2 l5) fun r22 S19 => elet (r18 - r22) fun v23 => oif (¬ l3 = 0) <| elet (v23 - v23 / l3 * l3) fun v25 => if v25 = 0 then (fr_confusion_b76 k6 (fr_confusion_b23 k6 n) S19 1 l6 l1 l2 l3 l4 l5 l7) else (fr_confusion_b75 k6 (fr_confusion_b23 k6 n) S19 l6 l1 l2 l3 l4 l5 l7)))
set_option maxHeartbeats 4000000 in
set_option maxRecDepth 100000 in
theorem tr_confusion_b23 {p : Program} {l : Launch} {e : Env} {s : State} {m : MethodId} {args : Array Value} {below : List Frame} {meth : Method} {c : Code} {Q : State → Prop} {D : va_G} {A : Nat → Prop} {H0 : Heap} {cI cJ cZ : ClassId} {ad : Nat → Nat} {r1 : Int32} {S1 : MS} (E : mE p c cX12_confusion s m args (Cond.code yX12_confusion cX12_confusion 8 (some .int) :: wsM) D cI cJ cZ) (hA : ∀ q : Nat, H0.size ≤ q → A q) (hR : sR s) (hml : c.maxLocals = 8) (kr120 : ∀ (H : Heap) (locs : List Loc) (ls : Array Slot), mG D cI cJ cZ ad A H0 H locs S1 → W p l e { frames := 2, cells := 0, slots := 0, locals := 23 } s m args below meth c H locs 0 0 Q (F0 m 120 ls [.int r1])) {k6 : MS → Int32 → Int32 → Int32 → Int32 → Int32 → Option (Int32 × MS)} (hk6 : ∀ (S : MS) (H : Heap) (locs : List Loc) (ls : Array Slot) (l1 : Int32) (l2 : Int32) (l3 : Int32) (l4 : Int32) (l5 : Int32), k6 S l1 l2 l3 l4 l5 = some (r1, S1) → mG D cI cJ cZ ad A H0 H locs S → lv_has ls 8 [(0, .ref (ad 0)), (1, .int l1), (2, .int l2), (3, .int l3), (4, .int l4), (5, .int l5)] → W p l e { frames := 2, cells := 0, slots := 0, locals := 23 } s m args below meth c H locs 0 0 Q (F0 m 6 ls [])) : ∀ n : Nat, ∀ (S : MS) (H : Heap) (locs : List Loc) (ls : Array Slot) (l1 : Int32) (l2 : Int32) (l3 : Int32) (l4 : Int32) (l5 : Int32) (l6 : Int32) (l7 : Int32), fr_confusion_b23 k6 n S l1 l2 l3 l4 l5 l6 l7 = some (r1, S1) → mG D cI cJ cZ ad A H0 H locs S → lv_has ls 8 [(0, .ref (ad 0)), (1, .int l1), (2, .int l2), (3, .int l3), (4, .int l4), (5, .int l5), (6, .int l6), (7, .int l7)] → W p l e { frames := 2, cells := 0, slots := 0, locals := 23 } s m args below meth c H locs 0 0 Q (F0 m 23 ls []) := by
  have hx := E.1
  have hb := E.2.1
  have hts := E.2.2.1
  have hown := E.2.2.2.1
  have hK := E.2.2.2.2.1
  intro n
  induction n with
  | zero =>
    intro S H locs ls l1 l2 l3 l4 l5 l6 l7 h
    have h : (none : Option (Int32 × MS)) = some (r1, S1) := h
    cases h
  | succ n ih =>
    intro S H locs ls l1 l2 l3 l4 l5 l6 l7 h G hl
    unfold fr_confusion_b23 at h
    refine lv_iload hx hb dX12_confusion_23 (lv_at hl 7 rfl) ?_
    refine lv_aload_n hx hb dX12_confusion_25 rfl (lv_at hl 0 rfl) ?_
    refine m_get E G 10 (v := .ref (ad 10)) (by decide) (.tail _ qM_7) rfl dX12_confusion_26 rfl ?_
    refine lv_iconst (v := 4) hx hb dX12_confusion_29 (by decide) ?_
    refine m_iald E G 10 2 (n := 131) (k := 4) rfl rfl (by decide) (by decide) dX12_confusion_30 ?_
    refine lv_topi (fun v2 ev2 => ?_)
    have h := elet_at ev2 h
    clear ev2
    refine lv_icmp_ge (tgt := 85) hx hb dX12_confusion_31 (by decide) (fun c3 => ?_) (fun c3 => ?_)
    · have h := oif_pos c3 h
      refine lv_aload_n hx hb dX12_confusion_85 rfl (lv_at hl 0 rfl) ?_
      refine lv_aload_n hx hb dX12_confusion_86 rfl (lv_at hl 0 rfl) ?_
      refine m_get E G 12 (v := .ref (ad 12)) (by decide) (.tail _ qM_9) rfl dX12_confusion_87 rfl ?_
      refine lv_iload hx hb dX12_confusion_90 (lv_at hl 5 rfl) ?_
      obtain ⟨r7, S4, eS4, h⟩ := obind2_some h
      refine m_calli (As := [.ref (ad 12), .int l5]) (rest := []) E G hA hR hml (tr_hears_12 l D cI cJ cZ ad S l5 eS4) (cwV 2 hts (gmV qM_274 qM_275 qM_276 qM_35 qM_272) rfl rfl rfl (by decide +kernel) ⟨Nat.le_of_ble_eq_true rfl, Nat.le_of_ble_eq_true rfl⟩) rfl hl.1 rfl (lv_room (Nat.le_of_ble_eq_true rfl)) dX12_confusion_92 ⟨Nat.zero_le _, Nat.zero_le _⟩ (fun q5 S6 H locs hq G => ?_)
      obtain ⟨hq1, hq2⟩ := hq
      rw [hq2] at G
      refine lv_to hq1 ?_
      clear hq1 hq2 eS4
      refine lv_if_eq (tgt := 108) hx hb dX12_confusion_95 (by decide) (fun c8 => ?_) (fun c8 => ?_)
      · have h := oif_pos c8 h
        refine lv_iload hx hb dX12_confusion_108 (lv_at hl 4 rfl) ?_
        have hl := lv_sub hl [0, 1, 2, 3, 5] rfl
        exact tr_confusion_b110 E hA hR hml kr120 hk6 _ _ _ _ _ _ _ _ _ h G hl
      · have h := oif_neg c8 h
        refine lv_iload hx hb dX12_confusion_98 (lv_at hl 4 rfl) ?_
        refine lv_iload hx hb dX12_confusion_100 (lv_at hl 6 rfl) ?_
        refine va_mmax hx hb (hml.trans hl.1.symm) hown (hts _ (.tail _ qM_265)) (hts _ (.tail _ qM_266)) (hts _ (.tail _ qM_247)) (hts _ (.tail _ qM_267)) (Nat.le_of_ble_eq_true rfl) (Nat.le_of_ble_eq_true rfl) (Nat.zero_le _) (Nat.zero_le _) dX12_confusion_102 ?_
        refine lv_topi (fun v9 ev9 => ?_)
        have h := elet_at ev9 h
        clear ev9
        refine lv_goto (tgt := 110) hx hb dX12_confusion_105 (by decide) ?_
        have hl := lv_sub hl [0, 1, 2, 3, 5] rfl
        exact tr_confusion_b110 E hA hR hml kr120 hk6 _ _ _ _ _ _ _ _ _ h G hl
    · have h := oif_neg c3 h
      refine lv_iload hx hb dX12_confusion_34 (lv_at hl 6 rfl) ?_
      refine lv_aload_n hx hb dX12_confusion_36 rfl (lv_at hl 0 rfl) ?_
      refine lv_aload_n hx hb dX12_confusion_37 rfl (lv_at hl 0 rfl) ?_
      refine m_get E G 12 (v := .ref (ad 12)) (by decide) (.tail _ qM_9) rfl dX12_confusion_38 rfl ?_
      refine lv_iload hx hb dX12_confusion_41 (lv_at hl 7 rfl) ?_
      obtain ⟨r13, S10, eS10, h⟩ := obind2_some h
      refine m_calli (As := [.ref (ad 12), .int l7]) (rest := [.int l6]) E G hA hR hml (tr_hears_12 l D cI cJ cZ ad S l7 eS10) (cwV 2 hts (gmV qM_274 qM_275 qM_276 qM_35 qM_272) rfl rfl rfl (by decide +kernel) ⟨Nat.le_of_ble_eq_true rfl, Nat.le_of_ble_eq_true rfl⟩) rfl hl.1 rfl (lv_room (Nat.le_of_ble_eq_true rfl)) dX12_confusion_43 ⟨Nat.zero_le _, Nat.zero_le _⟩ (fun q11 S12 H locs hq G => ?_)
      obtain ⟨hq1, hq2⟩ := hq
      rw [hq2] at G
      refine lv_to hq1 ?_
      clear hq1 hq2 eS10
      refine lv_if_eq (tgt := 75) hx hb dX12_confusion_46 (by decide) (fun c14 => ?_) (fun c14 => ?_)
      · have h := oif_pos c14 h
        have hl := lv_sub hl [0, 1, 2, 3, 4, 5, 7] rfl
        exact tr_confusion_b75 E hA hR hml kr120 hk6 ih _ _ _ _ _ _ _ _ _ _ _ h G hl
      · have h := oif_neg c14 h
        refine lv_aload_n hx hb dX12_confusion_49 rfl (lv_at hl 0 rfl) ?_
        refine lv_iload_n hx hb dX12_confusion_50 rfl (lv_at hl 1 rfl) ?_
        refine lv_iload_n hx hb dX12_confusion_51 rfl (lv_at hl 2 rfl) ?_
        refine lv_iload hx hb dX12_confusion_52 (lv_at hl 7 rfl) ?_
        obtain ⟨r18, S15, eS15, h⟩ := obind2_some h
        refine m_calli (As := [.int l1, .int l2, .int l7]) (rest := [.int l6]) E G hA hR hml (tr_shift l D cI cJ cZ ad S10 l1 l2 l7 eS15) (cwV 3 hts (gmV qM_381 qM_382 qM_383 qM_35 qM_384) rfl rfl rfl (by decide +kernel) ⟨Nat.le_of_ble_eq_true rfl, Nat.le_of_ble_eq_true rfl⟩) rfl hl.1 rfl (lv_room (Nat.le_of_ble_eq_true rfl)) dX12_confusion_54 ⟨Nat.zero_le _, Nat.zero_le _⟩ (fun q16 S17 H locs hq G => ?_)
        obtain ⟨hq1, hq2⟩ := hq
        rw [hq2] at G
        refine lv_to hq1 ?_
        clear hq1 hq2 eS15
        refine lv_aload_n hx hb dX12_confusion_57 rfl (lv_at hl 0 rfl) ?_
        refine lv_iload_n hx hb dX12_confusion_58 rfl (lv_at hl 1 rfl) ?_
        refine lv_iload_n hx hb dX12_confusion_59 rfl (lv_at hl 2 rfl) ?_
        refine lv_iload hx hb dX12_confusion_60 (lv_at hl 5 rfl) ?_
        obtain ⟨r22, S19, eS19, h⟩ := obind2_some h
        refine m_calli (As := [.int l1, .int l2, .int l5]) (rest := [.int r18, .int l6]) E G hA hR hml (tr_shift l D cI cJ cZ ad S15 l1 l2 l5 eS19) (cwV 3 hts (gmV qM_381 qM_382 qM_383 qM_35 qM_384) rfl rfl rfl (by decide +kernel) ⟨Nat.le_of_ble_eq_true rfl, Nat.le_of_ble_eq_true rfl⟩) rfl hl.1 rfl (lv_room (Nat.le_of_ble_eq_true rfl)) dX12_confusion_62 ⟨Nat.zero_le _, Nat.zero_le _⟩ (fun q20 S21 H locs hq G => ?_)
        obtain ⟨hq1, hq2⟩ := hq
        rw [hq2] at G
        refine lv_to hq1 ?_
        clear hq1 hq2 eS19
        refine lv_isub hx hb dX12_confusion_65 ?_
        refine lv_topi (fun v23 ev23 => ?_)
        have h := elet_at ev23 h
        clear ev23
        refine lv_iload_n hx hb dX12_confusion_66 rfl (lv_at hl 3 rfl) ?_
        obtain ⟨g24, h⟩ := oif_some h
        refine lv_irem hx hb dX12_confusion_67 g24 ?_
        refine lv_topi (fun v25 ev25 => ?_)
        have h := elet_at ev25 h
        clear ev25
        refine lv_if_ne (tgt := 75) hx hb dX12_confusion_68 (by decide) (fun c26 => ?_) (fun c26 => ?_)
        · have h := oif_neg c26 h
          have hl := lv_sub hl [0, 1, 2, 3, 4, 5, 7] rfl
          exact tr_confusion_b75 E hA hR hml kr120 hk6 ih _ _ _ _ _ _ _ _ _ _ _ h G hl
        · have h := oif_pos c26 h
          refine lv_iconst (v := 1) hx hb dX12_confusion_71 (by decide) ?_
          refine lv_goto (tgt := 76) hx hb dX12_confusion_72 (by decide) ?_
          have hl := lv_sub hl [0, 1, 2, 3, 4, 5, 7] rfl
          exact tr_confusion_b76 E hA hR hml kr120 hk6 ih _ _ _ _ _ _ _ _ _ _ _ _ h G hl
def fr_confusion_b6  : Nat → MS → Int32 → Int32 → Int32 → Int32 → Int32 → Option (Int32 × MS)
  | 0, _, _, _, _, _, _ => none
  | n + 1, S, l1, l2, l3, l4, l5 => elet (S.2.1 10 4) fun v2 => if v2 ≤ l5 then (some (l4, S)) else (fr_confusion_b23 (fr_confusion_b6 n) 16384 S l1 l2 l3 l4 l5 0 0)
set_option maxHeartbeats 4000000 in
set_option maxRecDepth 100000 in
theorem tr_confusion_b6 {p : Program} {l : Launch} {e : Env} {s : State} {m : MethodId} {args : Array Value} {below : List Frame} {meth : Method} {c : Code} {Q : State → Prop} {D : va_G} {A : Nat → Prop} {H0 : Heap} {cI cJ cZ : ClassId} {ad : Nat → Nat} {r1 : Int32} {S1 : MS} (E : mE p c cX12_confusion s m args (Cond.code yX12_confusion cX12_confusion 8 (some .int) :: wsM) D cI cJ cZ) (hA : ∀ q : Nat, H0.size ≤ q → A q) (hR : sR s) (hml : c.maxLocals = 8) (kr120 : ∀ (H : Heap) (locs : List Loc) (ls : Array Slot), mG D cI cJ cZ ad A H0 H locs S1 → W p l e { frames := 2, cells := 0, slots := 0, locals := 23 } s m args below meth c H locs 0 0 Q (F0 m 120 ls [.int r1])) : ∀ n : Nat, ∀ (S : MS) (H : Heap) (locs : List Loc) (ls : Array Slot) (l1 : Int32) (l2 : Int32) (l3 : Int32) (l4 : Int32) (l5 : Int32), fr_confusion_b6 n S l1 l2 l3 l4 l5 = some (r1, S1) → mG D cI cJ cZ ad A H0 H locs S → lv_has ls 8 [(0, .ref (ad 0)), (1, .int l1), (2, .int l2), (3, .int l3), (4, .int l4), (5, .int l5)] → W p l e { frames := 2, cells := 0, slots := 0, locals := 23 } s m args below meth c H locs 0 0 Q (F0 m 6 ls []) := by
  have hx := E.1
  have hb := E.2.1
  have hts := E.2.2.1
  have hown := E.2.2.2.1
  have hK := E.2.2.2.2.1
  intro n
  induction n with
  | zero =>
    intro S H locs ls l1 l2 l3 l4 l5 h
    have h : (none : Option (Int32 × MS)) = some (r1, S1) := h
    cases h
  | succ n ih =>
    intro S H locs ls l1 l2 l3 l4 l5 h G hl
    unfold fr_confusion_b6 at h
    refine lv_iload hx hb dX12_confusion_6 (lv_at hl 5 rfl) ?_
    refine lv_aload_n hx hb dX12_confusion_8 rfl (lv_at hl 0 rfl) ?_
    refine m_get E G 10 (v := .ref (ad 10)) (by decide) (.tail _ qM_7) rfl dX12_confusion_9 rfl ?_
    refine lv_iconst (v := 4) hx hb dX12_confusion_12 (by decide) ?_
    refine m_iald E G 10 2 (n := 131) (k := 4) rfl rfl (by decide) (by decide) dX12_confusion_13 ?_
    refine lv_topi (fun v2 ev2 => ?_)
    have h := elet_at ev2 h
    clear ev2
    refine lv_icmp_ge (tgt := 118) hx hb dX12_confusion_14 (by decide) (fun c3 => ?_) (fun c3 => ?_)
    · have h := oif_pos c3 h
      refine lv_iload hx hb dX12_confusion_118 (lv_at hl 4 rfl) ?_
      rw [(osome2 h).2] at G
      refine lv_to (osome2 h).1 ?_
      exact kr120 _ _ _ G
    · have h := oif_neg c3 h
      refine lv_iconst (v := 0) hx hb dX12_confusion_17 (by decide) ?_
      refine lv_istore (lv' := [(6, .int 0), (0, .ref (ad 0)), (1, .int l1), (2, .int l2), (3, .int l3), (4, .int l4), (5, .int l5)]) hx hb dX12_confusion_18 hl (by decide) rfl (fun ls hl => ?_)
      refine lv_iconst (v := 0) hx hb dX12_confusion_20 (by decide) ?_
      refine lv_istore (lv' := [(7, .int 0), (6, .int 0), (0, .ref (ad 0)), (1, .int l1), (2, .int l2), (3, .int l3), (4, .int l4), (5, .int l5)]) hx hb dX12_confusion_21 hl (by decide) rfl (fun ls hl => ?_)
      have hl := lv_sub hl [2, 3, 4, 5, 6, 7, 1, 0] rfl
      exact tr_confusion_b23 E hA hR hml kr120 ih _ _ _ _ _ _ _ _ _ _ _ _ h G hl
def fr_confusion (S : MS) (a0 : Int32) (a1 : Int32) (a2 : Int32) : Option (Int32 × MS) := fr_confusion_b6 16384 S a0 a1 a2 0 0
set_option maxHeartbeats 4000000 in
set_option maxRecDepth 100000 in
theorem tr_confusion (l : Launch) (D : va_G) (cI cJ cZ : ClassId) (ad : Nat → Nat) (S : MS) (a0 : Int32) (a1 : Int32) (a2 : Int32) {r1 : Int32} {S1 : MS} (h : fr_confusion S a0 a1 a2 = some (r1, S1)) : mCi l yX12_confusion (Cond.code yX12_confusion cX12_confusion 8 (some .int) :: wsM) 2 23 D cI cJ cZ ad S [.int a0, .int a1, .int a2] (fun r S9 => r = r1 ∧ S9 = S1) := by
  intro sz
  refine Met.ofW (cc := cX12_confusion) (maxL := 8) (ret := (some .int)) (by decide) rfl ?_
  intro p e s m args below meth c s₁ B hml hv
  obtain ⟨rfl, hsz, hP, hK, hD0, hR⟩ := hv
  have hx := B.exec
  have hb := B.bytes
  have hr := B.returns
  have hts := atoms_spec (ws := (Cond.code yX12_confusion cX12_confusion 8 (some .int) :: wsM)) B.pre
  have hown : s.vm.findClass RX12 = some m.cls := findClass_of_methodNamed B.named
  have hlocks := B.notSynchronized
  subst hsz
  have hD := hD0.self (sz := s.heap.size)
  generalize hAe : va_A (MW cI cJ cZ ad S) s.heap.size = A at hD ⊢
  have hA : ∀ q : Nat, s.heap.size ≤ q → A q := fun q h => by rw [← hAe]; exact Or.inr h
  have G : mG D cI cJ cZ ad A s.heap s.heap [] S := ⟨hP, hD, va_S.rf⟩
  have E : mE p c cX12_confusion s m ([.ref (ad 0), .int a0, .int a1, .int a2] : List Value).toArray (Cond.code yX12_confusion cX12_confusion 8 (some .int) :: wsM) D cI cJ cZ := ⟨hx, hb, hts, hown, hK, fun w h => .tail _ (iM_x h)⟩
  have hl := lv_entry ([.ref (ad 0), .int a0, .int a1, .int a2]) (n := 8) (Nat.le_of_ble_eq_true rfl)
  rw [lg_entry_eq]
  generalize (lg_sl ([.ref (ad 0), .int a0, .int a1, .int a2]) ++ List.replicate (8 - (lg_sl ([.ref (ad 0), .int a0, .int a1, .int a2])).length) Slot.unset).toArray = ls at hl ⊢
  have hl : lv_has ls 8 [(0, .ref (ad 0)), (1, .int a0), (2, .int a1), (3, .int a2)] := hl
  unfold fr_confusion at h
  refine lv_iconst (v := 0) hx hb dX12_confusion_0 (by decide) ?_
  refine lv_istore (lv' := [(4, .int 0), (0, .ref (ad 0)), (1, .int a0), (2, .int a1), (3, .int a2)]) hx hb dX12_confusion_1 hl (by decide) rfl (fun ls hl => ?_)
  refine lv_iconst (v := 0) hx hb dX12_confusion_3 (by decide) ?_
  refine lv_istore (lv' := [(5, .int 0), (4, .int 0), (0, .ref (ad 0)), (1, .int a0), (2, .int a1), (3, .int a2)]) hx hb dX12_confusion_4 hl (by decide) rfl (fun ls hl => ?_)
  have hl := lv_sub hl [2, 3, 4, 5, 1, 0] rfl
  exact tr_confusion_b6 E hA hR hml (fun H locs ls G => W.iret (v := r1) hx hb hr (fun t ht hW => ⟨⟨r1, S1, rfl, ⟨rfl, rfl⟩, ⟨by rw [ht]; exact G.1, va_K.moved hW.alike hK, G.2.1⟩⟩, G.2.2.F ht⟩) G.2.2.2.2 dX12_confusion_120) _ _ _ _ _ _ _ _ _ _ h G hl
def fr_alias_b52  (S : MS) (s0 : Int32) : Option (Int32 × MS) := some (s0, S)
set_option maxHeartbeats 4000000 in
set_option maxRecDepth 100000 in
theorem tr_alias_b52 {p : Program} {l : Launch} {e : Env} {s : State} {m : MethodId} {args : Array Value} {below : List Frame} {meth : Method} {c : Code} {Q : State → Prop} {D : va_G} {A : Nat → Prop} {H0 : Heap} {cI cJ cZ : ClassId} {ad : Nat → Nat} {r1 : Int32} {S1 : MS} (E : mE p c cX12_alias s m args (Cond.code yX12_alias cX12_alias 4 (some .int) :: wsM) D cI cJ cZ) (hA : ∀ q : Nat, H0.size ≤ q → A q) (hR : sR s) (hml : c.maxLocals = 4) (kr29 : ∀ (H : Heap) (locs : List Loc) (ls : Array Slot), mG D cI cJ cZ ad A H0 H locs S1 → W p l e { frames := 3, cells := 0, slots := 0, locals := 50 } s m args below meth c H locs 0 0 Q (F0 m 29 ls [.int r1])) (kr52 : ∀ (H : Heap) (locs : List Loc) (ls : Array Slot), mG D cI cJ cZ ad A H0 H locs S1 → W p l e { frames := 3, cells := 0, slots := 0, locals := 50 } s m args below meth c H locs 0 0 Q (F0 m 52 ls [.int r1])) : ∀ (S : MS) (H : Heap) (locs : List Loc) (ls : Array Slot) (s0 : Int32), fr_alias_b52 S s0 = some (r1, S1) → mG D cI cJ cZ ad A H0 H locs S → lv_has ls 4 [] → W p l e { frames := 3, cells := 0, slots := 0, locals := 50 } s m args below meth c H locs 0 0 Q (F0 m 52 ls [.int s0]) := by
  have hx := E.1
  have hb := E.2.1
  have hts := E.2.2.1
  have hown := E.2.2.2.1
  have hK := E.2.2.2.2.1
  intro S H locs ls s0 h G hl
  unfold fr_alias_b52 at h
  rw [(osome2 h).2] at G
  refine lv_to (osome2 h).1 ?_
  exact kr52 _ _ _ G
def fr_alias_b22  (S : MS) (s0 : Int32) (l1 : Int32) (l2 : Int32) (l3 : Int32) : Option (Int32 × MS) := obind2 (fr_mayAsk S s0) fun r5 S2 => if r5 = 0 then (some (0, S2)) else (obind (fr_isPeriod l3) fun r7 => if r7 = 0 then (obind2 (fr_throwsAt S2 3) fun r13 S10 => fr_alias_b52 S10 r13) else (obind2 (fr_confusion S2 l1 l2 l3) fun r17 S14 => fr_alias_b52 S14 r17))
set_option maxHeartbeats 4000000 in
set_option maxRecDepth 100000 in
theorem tr_alias_b22 {p : Program} {l : Launch} {e : Env} {s : State} {m : MethodId} {args : Array Value} {below : List Frame} {meth : Method} {c : Code} {Q : State → Prop} {D : va_G} {A : Nat → Prop} {H0 : Heap} {cI cJ cZ : ClassId} {ad : Nat → Nat} {r1 : Int32} {S1 : MS} (E : mE p c cX12_alias s m args (Cond.code yX12_alias cX12_alias 4 (some .int) :: wsM) D cI cJ cZ) (hA : ∀ q : Nat, H0.size ≤ q → A q) (hR : sR s) (hml : c.maxLocals = 4) (kr29 : ∀ (H : Heap) (locs : List Loc) (ls : Array Slot), mG D cI cJ cZ ad A H0 H locs S1 → W p l e { frames := 3, cells := 0, slots := 0, locals := 50 } s m args below meth c H locs 0 0 Q (F0 m 29 ls [.int r1])) (kr52 : ∀ (H : Heap) (locs : List Loc) (ls : Array Slot), mG D cI cJ cZ ad A H0 H locs S1 → W p l e { frames := 3, cells := 0, slots := 0, locals := 50 } s m args below meth c H locs 0 0 Q (F0 m 52 ls [.int r1])) : ∀ (S : MS) (H : Heap) (locs : List Loc) (ls : Array Slot) (s0 : Int32) (l1 : Int32) (l2 : Int32) (l3 : Int32), fr_alias_b22 S s0 l1 l2 l3 = some (r1, S1) → mG D cI cJ cZ ad A H0 H locs S → lv_has ls 4 [(0, .ref (ad 0)), (1, .int l1), (2, .int l2), (3, .int l3)] → W p l e { frames := 3, cells := 0, slots := 0, locals := 50 } s m args below meth c H locs 0 0 Q (F0 m 22 ls [.int s0, .ref (ad 0)]) := by
  have hx := E.1
  have hb := E.2.1
  have hts := E.2.2.1
  have hown := E.2.2.2.1
  have hK := E.2.2.2.2.1
  intro S H locs ls s0 l1 l2 l3 h G hl
  unfold fr_alias_b22 at h
  obtain ⟨r5, S2, eS2, h⟩ := obind2_some h
  refine m_calli (As := [.int s0]) (rest := []) E G hA hR hml (tr_mayAsk l D cI cJ cZ ad S s0 eS2) (cwV 1 hts (gmV qM_319 qM_320 qM_321 qM_35 qM_304) rfl rfl rfl (by decide +kernel) ⟨Nat.le_of_ble_eq_true rfl, Nat.le_of_ble_eq_true rfl⟩) rfl hl.1 rfl (lv_room (Nat.le_of_ble_eq_true rfl)) dX12_alias_22 ⟨Nat.zero_le _, Nat.zero_le _⟩ (fun q3 S4 H locs hq G => ?_)
  obtain ⟨hq1, hq2⟩ := hq
  rw [hq2] at G
  refine lv_to hq1 ?_
  clear hq1 hq2 eS2
  refine lv_if_ne (tgt := 30) hx hb dX12_alias_25 (by decide) (fun c6 => ?_) (fun c6 => ?_)
  · have h := oif_neg c6 h
    refine lv_iload_n hx hb dX12_alias_30 rfl (lv_at hl 3 rfl) ?_
    obtain ⟨r7, er7, h⟩ := obind_some h
    refine m_stat (As := [.int l3]) (rest := []) ⟨hx, hb, hml, hown, hts⟩ (tr_isPeriod l l3 er7) (cwS 1 hts (gmS qM_386 qM_387 qM_35 qM_310) rfl rfl rfl (by decide +kernel) ⟨Nat.le_of_ble_eq_true rfl, Nat.le_of_ble_eq_true rfl⟩) rfl hl.1 rfl (lv_room (Nat.le_of_ble_eq_true rfl)) dX12_alias_31 ⟨Nat.zero_le _, Nat.zero_le _⟩ (fun q8 hq => ?_)
    refine lv_to hq ?_
    clear hq er7
    refine lv_if_eq (tgt := 47) hx hb dX12_alias_34 (by decide) (fun c9 => ?_) (fun c9 => ?_)
    · have h := oif_pos c9 h
      refine lv_aload_n hx hb dX12_alias_47 rfl (lv_at hl 0 rfl) ?_
      refine lv_iconst (v := 3) hx hb dX12_alias_48 (by decide) ?_
      obtain ⟨r13, S10, eS10, h⟩ := obind2_some h
      refine m_calli (As := [.int 3]) (rest := []) E G hA hR hml (tr_throwsAt l D cI cJ cZ ad S2 3 eS10) (cwV 1 hts (gmV qM_195 qM_196 qM_197 qM_35 qM_28) rfl rfl rfl (by decide +kernel) ⟨Nat.le_of_ble_eq_true rfl, Nat.le_of_ble_eq_true rfl⟩) rfl hl.1 rfl (lv_room (Nat.le_of_ble_eq_true rfl)) dX12_alias_49 ⟨Nat.zero_le _, Nat.zero_le _⟩ (fun q11 S12 H locs hq G => ?_)
      obtain ⟨hq1, hq2⟩ := hq
      rw [hq2] at G
      refine lv_to hq1 ?_
      clear hq1 hq2 eS10
      have hl := lv_sub hl [] rfl
      exact tr_alias_b52 E hA hR hml kr29 kr52 _ _ _ _ _ h G hl
    · have h := oif_neg c9 h
      refine lv_aload_n hx hb dX12_alias_37 rfl (lv_at hl 0 rfl) ?_
      refine lv_iload_n hx hb dX12_alias_38 rfl (lv_at hl 1 rfl) ?_
      refine lv_iload_n hx hb dX12_alias_39 rfl (lv_at hl 2 rfl) ?_
      refine lv_iload_n hx hb dX12_alias_40 rfl (lv_at hl 3 rfl) ?_
      obtain ⟨r17, S14, eS14, h⟩ := obind2_some h
      refine m_calli (As := [.int l1, .int l2, .int l3]) (rest := []) E G hA hR hml (tr_confusion l D cI cJ cZ ad S2 l1 l2 l3 eS14) (cwV 3 hts (gmV qM_388 qM_389 qM_390 qM_35 qM_380) rfl rfl rfl (by decide +kernel) ⟨Nat.le_of_ble_eq_true rfl, Nat.le_of_ble_eq_true rfl⟩) rfl hl.1 rfl (lv_room (Nat.le_of_ble_eq_true rfl)) dX12_alias_41 ⟨Nat.zero_le _, Nat.zero_le _⟩ (fun q15 S16 H locs hq G => ?_)
      obtain ⟨hq1, hq2⟩ := hq
      rw [hq2] at G
      refine lv_to hq1 ?_
      clear hq1 hq2 eS14
      refine lv_goto (tgt := 52) hx hb dX12_alias_44 (by decide) ?_
      have hl := lv_sub hl [] rfl
      exact tr_alias_b52 E hA hR hml kr29 kr52 _ _ _ _ _ h G hl
  · have h := oif_pos c6 h
    refine lv_iconst (v := 0) hx hb dX12_alias_28 (by decide) ?_
    rw [(osome2 h).2] at G
    refine lv_to (osome2 h).1 ?_
    exact kr29 _ _ _ G
def fr_alias_b21  (S : MS) (l1 : Int32) (l2 : Int32) (l3 : Int32) : Option (Int32 × MS) := fr_alias_b22 S 0 l1 l2 l3
set_option maxHeartbeats 4000000 in
set_option maxRecDepth 100000 in
theorem tr_alias_b21 {p : Program} {l : Launch} {e : Env} {s : State} {m : MethodId} {args : Array Value} {below : List Frame} {meth : Method} {c : Code} {Q : State → Prop} {D : va_G} {A : Nat → Prop} {H0 : Heap} {cI cJ cZ : ClassId} {ad : Nat → Nat} {r1 : Int32} {S1 : MS} (E : mE p c cX12_alias s m args (Cond.code yX12_alias cX12_alias 4 (some .int) :: wsM) D cI cJ cZ) (hA : ∀ q : Nat, H0.size ≤ q → A q) (hR : sR s) (hml : c.maxLocals = 4) (kr29 : ∀ (H : Heap) (locs : List Loc) (ls : Array Slot), mG D cI cJ cZ ad A H0 H locs S1 → W p l e { frames := 3, cells := 0, slots := 0, locals := 50 } s m args below meth c H locs 0 0 Q (F0 m 29 ls [.int r1])) (kr52 : ∀ (H : Heap) (locs : List Loc) (ls : Array Slot), mG D cI cJ cZ ad A H0 H locs S1 → W p l e { frames := 3, cells := 0, slots := 0, locals := 50 } s m args below meth c H locs 0 0 Q (F0 m 52 ls [.int r1])) : ∀ (S : MS) (H : Heap) (locs : List Loc) (ls : Array Slot) (l1 : Int32) (l2 : Int32) (l3 : Int32), fr_alias_b21 S l1 l2 l3 = some (r1, S1) → mG D cI cJ cZ ad A H0 H locs S → lv_has ls 4 [(0, .ref (ad 0)), (1, .int l1), (2, .int l2), (3, .int l3)] → W p l e { frames := 3, cells := 0, slots := 0, locals := 50 } s m args below meth c H locs 0 0 Q (F0 m 21 ls [.ref (ad 0)]) := by
  have hx := E.1
  have hb := E.2.1
  have hts := E.2.2.1
  have hown := E.2.2.2.1
  have hK := E.2.2.2.2.1
  intro S H locs ls l1 l2 l3 h G hl
  unfold fr_alias_b21 at h
  refine lv_iconst (v := 0) hx hb dX12_alias_21 (by decide) ?_
  have hl := lv_sub hl [0, 1, 2, 3] rfl
  exact tr_alias_b22 E hA hR hml kr29 kr52 _ _ _ _ _ _ _ _ h G hl
def fr_alias (S : MS) (a0 : Int32) (a1 : Int32) (a2 : Int32) : Option (Int32 × MS) := obind2 (fr_isCell S a0) fun r5 S2 => if r5 = 0 then (fr_alias_b21 S2 a0 a1 a2) else (obind2 (fr_isCell S2 a1) fun r10 S7 => if r10 = 0 then (fr_alias_b21 S7 a0 a1 a2) else (fr_alias_b22 S7 1 a0 a1 a2))
set_option maxHeartbeats 4000000 in
set_option maxRecDepth 100000 in
theorem tr_alias (l : Launch) (D : va_G) (cI cJ cZ : ClassId) (ad : Nat → Nat) (S : MS) (a0 : Int32) (a1 : Int32) (a2 : Int32) {r1 : Int32} {S1 : MS} (h : fr_alias S a0 a1 a2 = some (r1, S1)) : mCi l yX12_alias (Cond.code yX12_alias cX12_alias 4 (some .int) :: wsM) 3 50 D cI cJ cZ ad S [.int a0, .int a1, .int a2] (fun r S9 => r = r1 ∧ S9 = S1) := by
  intro sz
  refine Met.ofW (cc := cX12_alias) (maxL := 4) (ret := (some .int)) (by decide) rfl ?_
  intro p e s m args below meth c s₁ B hml hv
  obtain ⟨rfl, hsz, hP, hK, hD0, hR⟩ := hv
  have hx := B.exec
  have hb := B.bytes
  have hr := B.returns
  have hts := atoms_spec (ws := (Cond.code yX12_alias cX12_alias 4 (some .int) :: wsM)) B.pre
  have hown : s.vm.findClass RX12 = some m.cls := findClass_of_methodNamed B.named
  have hlocks := B.notSynchronized
  subst hsz
  have hD := hD0.self (sz := s.heap.size)
  generalize hAe : va_A (MW cI cJ cZ ad S) s.heap.size = A at hD ⊢
  have hA : ∀ q : Nat, s.heap.size ≤ q → A q := fun q h => by rw [← hAe]; exact Or.inr h
  have G : mG D cI cJ cZ ad A s.heap s.heap [] S := ⟨hP, hD, va_S.rf⟩
  have E : mE p c cX12_alias s m ([.ref (ad 0), .int a0, .int a1, .int a2] : List Value).toArray (Cond.code yX12_alias cX12_alias 4 (some .int) :: wsM) D cI cJ cZ := ⟨hx, hb, hts, hown, hK, fun w h => .tail _ (iM_x h)⟩
  have hl := lv_entry ([.ref (ad 0), .int a0, .int a1, .int a2]) (n := 4) (Nat.le_of_ble_eq_true rfl)
  rw [lg_entry_eq]
  generalize (lg_sl ([.ref (ad 0), .int a0, .int a1, .int a2]) ++ List.replicate (4 - (lg_sl ([.ref (ad 0), .int a0, .int a1, .int a2])).length) Slot.unset).toArray = ls at hl ⊢
  have hl : lv_has ls 4 [(0, .ref (ad 0)), (1, .int a0), (2, .int a1), (3, .int a2)] := hl
  unfold fr_alias at h
  refine lv_aload_n hx hb dX12_alias_0 rfl (lv_at hl 0 rfl) ?_
  refine lv_aload_n hx hb dX12_alias_1 rfl (lv_at hl 0 rfl) ?_
  refine lv_iload_n hx hb dX12_alias_2 rfl (lv_at hl 1 rfl) ?_
  obtain ⟨r5, S2, eS2, h⟩ := obind2_some h
  refine m_calli (As := [.int a0]) (rest := [.ref (ad 0)]) E G hA hR hml (tr_isCell l D cI cJ cZ ad S a0 eS2) (cwV 1 hts (gmV qM_326 qM_327 qM_328 qM_35 qM_307) rfl rfl rfl (by decide +kernel) ⟨Nat.le_of_ble_eq_true rfl, Nat.le_of_ble_eq_true rfl⟩) rfl hl.1 rfl (lv_room (Nat.le_of_ble_eq_true rfl)) dX12_alias_3 ⟨Nat.zero_le _, Nat.zero_le _⟩ (fun q3 S4 H locs hq G => ?_)
  obtain ⟨hq1, hq2⟩ := hq
  rw [hq2] at G
  refine lv_to hq1 ?_
  clear hq1 hq2 eS2
  refine lv_if_eq (tgt := 21) hx hb dX12_alias_6 (by decide) (fun c6 => ?_) (fun c6 => ?_)
  · have h := oif_pos c6 h
    have hl := lv_sub hl [0, 1, 2, 3] rfl
    exact tr_alias_b21 E hA hR hml (fun H locs ls G => W.iret (v := r1) hx hb hr (fun t ht hW => ⟨⟨r1, S1, rfl, ⟨rfl, rfl⟩, ⟨by rw [ht]; exact G.1, va_K.moved hW.alike hK, G.2.1⟩⟩, G.2.2.F ht⟩) G.2.2.2.2 dX12_alias_29) (fun H locs ls G => W.iret (v := r1) hx hb hr (fun t ht hW => ⟨⟨r1, S1, rfl, ⟨rfl, rfl⟩, ⟨by rw [ht]; exact G.1, va_K.moved hW.alike hK, G.2.1⟩⟩, G.2.2.F ht⟩) G.2.2.2.2 dX12_alias_52) _ _ _ _ _ _ _ h G hl
  · have h := oif_neg c6 h
    refine lv_aload_n hx hb dX12_alias_9 rfl (lv_at hl 0 rfl) ?_
    refine lv_iload_n hx hb dX12_alias_10 rfl (lv_at hl 2 rfl) ?_
    obtain ⟨r10, S7, eS7, h⟩ := obind2_some h
    refine m_calli (As := [.int a1]) (rest := [.ref (ad 0)]) E G hA hR hml (tr_isCell l D cI cJ cZ ad S2 a1 eS7) (cwV 1 hts (gmV qM_326 qM_327 qM_328 qM_35 qM_307) rfl rfl rfl (by decide +kernel) ⟨Nat.le_of_ble_eq_true rfl, Nat.le_of_ble_eq_true rfl⟩) rfl hl.1 rfl (lv_room (Nat.le_of_ble_eq_true rfl)) dX12_alias_11 ⟨Nat.zero_le _, Nat.zero_le _⟩ (fun q8 S9 H locs hq G => ?_)
    obtain ⟨hq1, hq2⟩ := hq
    rw [hq2] at G
    refine lv_to hq1 ?_
    clear hq1 hq2 eS7
    refine lv_if_eq (tgt := 21) hx hb dX12_alias_14 (by decide) (fun c11 => ?_) (fun c11 => ?_)
    · have h := oif_pos c11 h
      have hl := lv_sub hl [0, 1, 2, 3] rfl
      exact tr_alias_b21 E hA hR hml (fun H locs ls G => W.iret (v := r1) hx hb hr (fun t ht hW => ⟨⟨r1, S1, rfl, ⟨rfl, rfl⟩, ⟨by rw [ht]; exact G.1, va_K.moved hW.alike hK, G.2.1⟩⟩, G.2.2.F ht⟩) G.2.2.2.2 dX12_alias_29) (fun H locs ls G => W.iret (v := r1) hx hb hr (fun t ht hW => ⟨⟨r1, S1, rfl, ⟨rfl, rfl⟩, ⟨by rw [ht]; exact G.1, va_K.moved hW.alike hK, G.2.1⟩⟩, G.2.2.F ht⟩) G.2.2.2.2 dX12_alias_52) _ _ _ _ _ _ _ h G hl
    · have h := oif_neg c11 h
      refine lv_iconst (v := 1) hx hb dX12_alias_17 (by decide) ?_
      refine lv_goto (tgt := 22) hx hb dX12_alias_18 (by decide) ?_
      have hl := lv_sub hl [0, 1, 2, 3] rfl
      exact tr_alias_b22 E hA hR hml (fun H locs ls G => W.iret (v := r1) hx hb hr (fun t ht hW => ⟨⟨r1, S1, rfl, ⟨rfl, rfl⟩, ⟨by rw [ht]; exact G.1, va_K.moved hW.alike hK, G.2.1⟩⟩, G.2.2.F ht⟩) G.2.2.2.2 dX12_alias_29) (fun H locs ls G => W.iret (v := r1) hx hb hr (fun t ht hW => ⟨⟨r1, S1, rfl, ⟨rfl, rfl⟩, ⟨by rw [ht]; exact G.1, va_K.moved hW.alike hK, G.2.1⟩⟩, G.2.2.F ht⟩) G.2.2.2.2 dX12_alias_52) _ _ _ _ _ _ _ _ h G hl
def fr_isMark_b45  (S : MS) (s0 : Int32) : Option (Int32 × MS) := oif (s0 = 0 ∨ s0 = 1) <| some (s0, S)
set_option maxHeartbeats 4000000 in
set_option maxRecDepth 100000 in
theorem tr_isMark_b45 {p : Program} {l : Launch} {e : Env} {s : State} {m : MethodId} {args : Array Value} {below : List Frame} {meth : Method} {c : Code} {Q : State → Prop} {D : va_G} {A : Nat → Prop} {H0 : Heap} {cI cJ cZ : ClassId} {ad : Nat → Nat} {r1 : Int32} {S1 : MS} (E : mE p c cX12_isMark s m args (Cond.code yX12_isMark cX12_isMark 5 (some .boolean) :: wsM) D cI cJ cZ) (hA : ∀ q : Nat, H0.size ≤ q → A q) (hR : sR s) (hml : c.maxLocals = 5) (kr45 : ∀ (H : Heap) (locs : List Loc) (ls : Array Slot), (r1 = 0 ∨ r1 = 1) → mG D cI cJ cZ ad A H0 H locs S1 → W p l e { frames := 3, cells := 0, slots := 0, locals := 50 } s m args below meth c H locs 0 0 Q (F0 m 45 ls [.int r1])) : ∀ (S : MS) (H : Heap) (locs : List Loc) (ls : Array Slot) (s0 : Int32), fr_isMark_b45 S s0 = some (r1, S1) → mG D cI cJ cZ ad A H0 H locs S → lv_has ls 5 [] → W p l e { frames := 3, cells := 0, slots := 0, locals := 50 } s m args below meth c H locs 0 0 Q (F0 m 45 ls [.int s0]) := by
  have hx := E.1
  have hb := E.2.1
  have hts := E.2.2.1
  have hown := E.2.2.2.1
  have hK := E.2.2.2.2.1
  intro S H locs ls s0 h G hl
  unfold fr_isMark_b45 at h
  obtain ⟨gz, h⟩ := oif_some h
  have gr : r1 = 0 ∨ r1 = 1 := by rw [← (osome2 h).1]; exact gz
  rw [(osome2 h).2] at G
  refine lv_to (osome2 h).1 ?_
  exact kr45 _ _ _ gr G
def fr_isMark_b44  (S : MS)  : Option (Int32 × MS) := fr_isMark_b45 S 0
set_option maxHeartbeats 4000000 in
set_option maxRecDepth 100000 in
theorem tr_isMark_b44 {p : Program} {l : Launch} {e : Env} {s : State} {m : MethodId} {args : Array Value} {below : List Frame} {meth : Method} {c : Code} {Q : State → Prop} {D : va_G} {A : Nat → Prop} {H0 : Heap} {cI cJ cZ : ClassId} {ad : Nat → Nat} {r1 : Int32} {S1 : MS} (E : mE p c cX12_isMark s m args (Cond.code yX12_isMark cX12_isMark 5 (some .boolean) :: wsM) D cI cJ cZ) (hA : ∀ q : Nat, H0.size ≤ q → A q) (hR : sR s) (hml : c.maxLocals = 5) (kr45 : ∀ (H : Heap) (locs : List Loc) (ls : Array Slot), (r1 = 0 ∨ r1 = 1) → mG D cI cJ cZ ad A H0 H locs S1 → W p l e { frames := 3, cells := 0, slots := 0, locals := 50 } s m args below meth c H locs 0 0 Q (F0 m 45 ls [.int r1])) : ∀ (S : MS) (H : Heap) (locs : List Loc) (ls : Array Slot), fr_isMark_b44 S = some (r1, S1) → mG D cI cJ cZ ad A H0 H locs S → lv_has ls 5 [] → W p l e { frames := 3, cells := 0, slots := 0, locals := 50 } s m args below meth c H locs 0 0 Q (F0 m 44 ls []) := by
  have hx := E.1
  have hb := E.2.1
  have hts := E.2.2.1
  have hown := E.2.2.2.1
  have hK := E.2.2.2.2.1
  intro S H locs ls h G hl
  unfold fr_isMark_b44 at h
  refine lv_iconst (v := 0) hx hb dX12_isMark_44 (by decide) ?_
  have hl := lv_sub hl [] rfl
  exact tr_isMark_b45 E hA hR hml kr45 _ _ _ _ _ h G hl
def fr_isMark (S : MS) (a0 : Int32) (a1 : Int32) (a2 : Int32) (a3 : Int32) : Option (Int32 × MS) := if a0 = a1 then (fr_isMark_b44 S) else (obind2 (fr_isTop S a0) fun r6 S3 => if r6 = 0 then (fr_isMark_b44 S3) else (obind2 (fr_activeCount S3) fun r11 S8 => if r11 ≤ 0 then (fr_isMark_b44 S8) else (obind2 (fr_confusion S8 a0 a1 a2) fun r16 S13 => elet (100 * r16) fun v17 => obind2 (fr_activeCount S13) fun r21 S18 => elet (a3 * r21) fun v22 => if v17 < v22 then (fr_isMark_b44 S18) else (fr_isMark_b45 S18 1))))
set_option maxHeartbeats 4000000 in
set_option maxRecDepth 100000 in
theorem tr_isMark (l : Launch) (D : va_G) (cI cJ cZ : ClassId) (ad : Nat → Nat) (S : MS) (a0 : Int32) (a1 : Int32) (a2 : Int32) (a3 : Int32) {r1 : Int32} {S1 : MS} (h : fr_isMark S a0 a1 a2 a3 = some (r1, S1)) : mCi l yX12_isMark (Cond.code yX12_isMark cX12_isMark 5 (some .boolean) :: wsM) 3 50 D cI cJ cZ ad S [.int a0, .int a1, .int a2, .int a3] (fun r S9 => r = r1 ∧ S9 = S1) := by
  intro sz
  refine Met.ofW (cc := cX12_isMark) (maxL := 5) (ret := (some .boolean)) (by decide) rfl ?_
  intro p e s m args below meth c s₁ B hml hv
  obtain ⟨rfl, hsz, hP, hK, hD0, hR⟩ := hv
  have hx := B.exec
  have hb := B.bytes
  have hr := B.returns
  have hts := atoms_spec (ws := (Cond.code yX12_isMark cX12_isMark 5 (some .boolean) :: wsM)) B.pre
  have hown : s.vm.findClass RX12 = some m.cls := findClass_of_methodNamed B.named
  have hlocks := B.notSynchronized
  subst hsz
  have hD := hD0.self (sz := s.heap.size)
  generalize hAe : va_A (MW cI cJ cZ ad S) s.heap.size = A at hD ⊢
  have hA : ∀ q : Nat, s.heap.size ≤ q → A q := fun q h => by rw [← hAe]; exact Or.inr h
  have G : mG D cI cJ cZ ad A s.heap s.heap [] S := ⟨hP, hD, va_S.rf⟩
  have E : mE p c cX12_isMark s m ([.ref (ad 0), .int a0, .int a1, .int a2, .int a3] : List Value).toArray (Cond.code yX12_isMark cX12_isMark 5 (some .boolean) :: wsM) D cI cJ cZ := ⟨hx, hb, hts, hown, hK, fun w h => .tail _ (iM_x h)⟩
  have hl := lv_entry ([.ref (ad 0), .int a0, .int a1, .int a2, .int a3]) (n := 5) (Nat.le_of_ble_eq_true rfl)
  rw [lg_entry_eq]
  generalize (lg_sl ([.ref (ad 0), .int a0, .int a1, .int a2, .int a3]) ++ List.replicate (5 - (lg_sl ([.ref (ad 0), .int a0, .int a1, .int a2, .int a3])).length) Slot.unset).toArray = ls at hl ⊢
  have hl : lv_has ls 5 [(0, .ref (ad 0)), (1, .int a0), (2, .int a1), (3, .int a2), (4, .int a3)] := hl
  unfold fr_isMark at h
  refine lv_iload_n hx hb dX12_isMark_0 rfl (lv_at hl 1 rfl) ?_
  refine lv_iload_n hx hb dX12_isMark_1 rfl (lv_at hl 2 rfl) ?_
  refine lv_icmp_eq (tgt := 44) hx hb dX12_isMark_2 (by decide) (fun c2 => ?_) (fun c2 => ?_)
  · have h := oif_pos c2 h
    have hl := lv_sub hl [] rfl
    exact tr_isMark_b44 E hA hR hml (fun H locs ls gz G => W.zret (v := r1) hx hb hr (nar01 gz) (fun t ht hW => ⟨⟨r1, S1, rfl, ⟨rfl, rfl⟩, ⟨by rw [ht]; exact G.1, va_K.moved hW.alike hK, G.2.1⟩⟩, G.2.2.F ht⟩) G.2.2.2.2 dX12_isMark_45) _ _ _ _ h G hl
  · have h := oif_neg c2 h
    refine lv_aload_n hx hb dX12_isMark_5 rfl (lv_at hl 0 rfl) ?_
    refine lv_iload_n hx hb dX12_isMark_6 rfl (lv_at hl 1 rfl) ?_
    obtain ⟨r6, S3, eS3, h⟩ := obind2_some h
    refine m_calli (As := [.int a0]) (rest := []) E G hA hR hml (tr_isTop l D cI cJ cZ ad S a0 eS3) (cwV 1 hts (gmV qM_367 qM_368 qM_369 qM_35 qM_365) rfl rfl rfl (by decide +kernel) ⟨Nat.le_of_ble_eq_true rfl, Nat.le_of_ble_eq_true rfl⟩) rfl hl.1 rfl (lv_room (Nat.le_of_ble_eq_true rfl)) dX12_isMark_7 ⟨Nat.zero_le _, Nat.zero_le _⟩ (fun q4 S5 H locs hq G => ?_)
    obtain ⟨hq1, hq2⟩ := hq
    rw [hq2] at G
    refine lv_to hq1 ?_
    clear hq1 hq2 eS3
    refine lv_if_eq (tgt := 44) hx hb dX12_isMark_10 (by decide) (fun c7 => ?_) (fun c7 => ?_)
    · have h := oif_pos c7 h
      have hl := lv_sub hl [] rfl
      exact tr_isMark_b44 E hA hR hml (fun H locs ls gz G => W.zret (v := r1) hx hb hr (nar01 gz) (fun t ht hW => ⟨⟨r1, S1, rfl, ⟨rfl, rfl⟩, ⟨by rw [ht]; exact G.1, va_K.moved hW.alike hK, G.2.1⟩⟩, G.2.2.F ht⟩) G.2.2.2.2 dX12_isMark_45) _ _ _ _ h G hl
    · have h := oif_neg c7 h
      refine lv_aload_n hx hb dX12_isMark_13 rfl (lv_at hl 0 rfl) ?_
      obtain ⟨r11, S8, eS8, h⟩ := obind2_some h
      refine m_calli (As := []) (rest := []) E G hA hR hml (tr_activeCount l D cI cJ cZ ad S3 eS8) (cwV 0 hts (gmV qM_348 qM_349 qM_350 qM_35 qM_345) rfl rfl rfl (by decide +kernel) ⟨Nat.le_of_ble_eq_true rfl, Nat.le_of_ble_eq_true rfl⟩) rfl hl.1 rfl (lv_room (Nat.le_of_ble_eq_true rfl)) dX12_isMark_14 ⟨Nat.zero_le _, Nat.zero_le _⟩ (fun q9 S10 H locs hq G => ?_)
      obtain ⟨hq1, hq2⟩ := hq
      rw [hq2] at G
      refine lv_to hq1 ?_
      clear hq1 hq2 eS8
      refine lv_if_le (tgt := 44) hx hb dX12_isMark_17 (by decide) (fun c12 => ?_) (fun c12 => ?_)
      · have h := oif_pos c12 h
        have hl := lv_sub hl [] rfl
        exact tr_isMark_b44 E hA hR hml (fun H locs ls gz G => W.zret (v := r1) hx hb hr (nar01 gz) (fun t ht hW => ⟨⟨r1, S1, rfl, ⟨rfl, rfl⟩, ⟨by rw [ht]; exact G.1, va_K.moved hW.alike hK, G.2.1⟩⟩, G.2.2.F ht⟩) G.2.2.2.2 dX12_isMark_45) _ _ _ _ h G hl
      · have h := oif_neg c12 h
        refine lv_bipush (v := 100) hx hb dX12_isMark_20 (by decide) ?_
        refine lv_aload_n hx hb dX12_isMark_22 rfl (lv_at hl 0 rfl) ?_
        refine lv_iload_n hx hb dX12_isMark_23 rfl (lv_at hl 1 rfl) ?_
        refine lv_iload_n hx hb dX12_isMark_24 rfl (lv_at hl 2 rfl) ?_
        refine lv_iload_n hx hb dX12_isMark_25 rfl (lv_at hl 3 rfl) ?_
        obtain ⟨r16, S13, eS13, h⟩ := obind2_some h
        refine m_calli (As := [.int a0, .int a1, .int a2]) (rest := [.int 100]) E G hA hR hml (tr_confusion l D cI cJ cZ ad S8 a0 a1 a2 eS13) (cwV 3 hts (gmV qM_388 qM_389 qM_390 qM_35 qM_380) rfl rfl rfl (by decide +kernel) ⟨Nat.le_of_ble_eq_true rfl, Nat.le_of_ble_eq_true rfl⟩) rfl hl.1 rfl (lv_room (Nat.le_of_ble_eq_true rfl)) dX12_isMark_26 ⟨Nat.zero_le _, Nat.zero_le _⟩ (fun q14 S15 H locs hq G => ?_)
        obtain ⟨hq1, hq2⟩ := hq
        rw [hq2] at G
        refine lv_to hq1 ?_
        clear hq1 hq2 eS13
        refine lv_imul hx hb dX12_isMark_29 ?_
        refine lv_topi (fun v17 ev17 => ?_)
        have h := elet_at ev17 h
        clear ev17
        refine lv_iload hx hb dX12_isMark_30 (lv_at hl 4 rfl) ?_
        refine lv_aload_n hx hb dX12_isMark_32 rfl (lv_at hl 0 rfl) ?_
        obtain ⟨r21, S18, eS18, h⟩ := obind2_some h
        refine m_calli (As := []) (rest := [.int a3, .int v17]) E G hA hR hml (tr_activeCount l D cI cJ cZ ad S13 eS18) (cwV 0 hts (gmV qM_348 qM_349 qM_350 qM_35 qM_345) rfl rfl rfl (by decide +kernel) ⟨Nat.le_of_ble_eq_true rfl, Nat.le_of_ble_eq_true rfl⟩) rfl hl.1 rfl (lv_room (Nat.le_of_ble_eq_true rfl)) dX12_isMark_33 ⟨Nat.zero_le _, Nat.zero_le _⟩ (fun q19 S20 H locs hq G => ?_)
        obtain ⟨hq1, hq2⟩ := hq
        rw [hq2] at G
        refine lv_to hq1 ?_
        clear hq1 hq2 eS18
        refine lv_imul hx hb dX12_isMark_36 ?_
        refine lv_topi (fun v22 ev22 => ?_)
        have h := elet_at ev22 h
        clear ev22
        refine lv_icmp_lt (tgt := 44) hx hb dX12_isMark_37 (by decide) (fun c23 => ?_) (fun c23 => ?_)
        · have h := oif_pos c23 h
          have hl := lv_sub hl [] rfl
          exact tr_isMark_b44 E hA hR hml (fun H locs ls gz G => W.zret (v := r1) hx hb hr (nar01 gz) (fun t ht hW => ⟨⟨r1, S1, rfl, ⟨rfl, rfl⟩, ⟨by rw [ht]; exact G.1, va_K.moved hW.alike hK, G.2.1⟩⟩, G.2.2.F ht⟩) G.2.2.2.2 dX12_isMark_45) _ _ _ _ h G hl
        · have h := oif_neg c23 h
          refine lv_iconst (v := 1) hx hb dX12_isMark_40 (by decide) ?_
          refine lv_goto (tgt := 45) hx hb dX12_isMark_41 (by decide) ?_
          have hl := lv_sub hl [] rfl
          exact tr_isMark_b45 E hA hR hml (fun H locs ls gz G => W.zret (v := r1) hx hb hr (nar01 gz) (fun t ht hW => ⟨⟨r1, S1, rfl, ⟨rfl, rfl⟩, ⟨by rw [ht]; exact G.1, va_K.moved hW.alike hK, G.2.1⟩⟩, G.2.2.F ht⟩) G.2.2.2.2 dX12_isMark_45) _ _ _ _ _ h G hl
def fr_isShare  (a0 : Int32) : Option (Int32) := obind (fr_in a0 1 100) fun r2 => oif (r2 = 0 ∨ r2 = 1) <| some r2
set_option maxHeartbeats 4000000 in
set_option maxRecDepth 100000 in
theorem tr_isShare (l : Launch) (a0 : Int32) {r1 : Int32} (h : fr_isShare a0 = some r1) : Met l yX12_isShare (Cond.code yX12_isShare cX12_isShare 1 (some .boolean) :: wsM) { frames := 2, cells := 0, slots := 0, locals := 22 } (va_Pc [.int a0] (fun _ => True)) (vp_Si (fun r => r = r1)) 0 0 (fun _ => False) := by
  refine Met.ofW (cc := cX12_isShare) (maxL := 1) (ret := (some .boolean)) (by decide) rfl ?_
  intro p e s m args below meth c s₁ B hml hv
  obtain ⟨rfl, -⟩ := hv
  have hx := B.exec
  have hb := B.bytes
  have hr := B.returns
  have hts := atoms_spec (ws := (Cond.code yX12_isShare cX12_isShare 1 (some .boolean) :: wsM)) B.pre
  have hown : s.vm.findClass RX12 = some m.cls := findClass_of_methodNamed B.named
  have hlocks := B.notSynchronized
  have E : p.tables.exec = Jvm.exec ∧ c.code = cX12_isShare ∧ (∀ w ∈ (Cond.code yX12_isShare cX12_isShare 1 (some .boolean) :: wsM), w.before ([.int a0] : List Value).toArray s = true) ∧ s.vm.findClass RX12 = some m.cls := ⟨hx, hb, hts, hown⟩
  have hl := lv_entry ([.int a0]) (n := 1) (Nat.le_of_ble_eq_true rfl)
  rw [lg_entry_eq]
  generalize (lg_sl ([.int a0]) ++ List.replicate (1 - (lg_sl ([.int a0])).length) Slot.unset).toArray = ls at hl ⊢
  have hl : lv_has ls 1 [(0, .int a0)] := hl
  unfold fr_isShare at h
  refine lv_iload_n hx hb dX12_isShare_0 rfl (lv_at hl 0 rfl) ?_
  refine lv_iconst (v := 1) hx hb dX12_isShare_1 (by decide) ?_
  refine lv_bipush (v := 100) hx hb dX12_isShare_2 (by decide) ?_
  obtain ⟨r2, er2, h⟩ := obind_some h
  refine m_stat (As := [.int a0, .int 1, .int 100]) (rest := []) ⟨hx, hb, hml, hown, hts⟩ (tr_in l a0 1 100 er2) (cwS 3 hts (gmS qM_52 qM_53 qM_35 qM_27) rfl rfl rfl (by decide +kernel) ⟨Nat.le_of_ble_eq_true rfl, Nat.le_of_ble_eq_true rfl⟩) rfl hl.1 rfl (lv_room (Nat.le_of_ble_eq_true rfl)) dX12_isShare_4 ⟨Nat.zero_le _, Nat.zero_le _⟩ (fun q3 hq => ?_)
  refine lv_to hq ?_
  clear hq er2
  obtain ⟨gz, h⟩ := oif_some h
  exact W.zret (v := r2) hx hb hr (nar01 gz) (fun t ht hW => ⟨r2, rfl, osome1 h, ht⟩) (fun _ h => absurd h List.not_mem_nil) dX12_isShare_7
def fr_isAlias_b67  (S : MS) (s0 : Int32) : Option (Int32 × MS) := oif (s0 = 0 ∨ s0 = 1) <| some (s0, S)
set_option maxHeartbeats 4000000 in
set_option maxRecDepth 100000 in
theorem tr_isAlias_b67 {p : Program} {l : Launch} {e : Env} {s : State} {m : MethodId} {args : Array Value} {below : List Frame} {meth : Method} {c : Code} {Q : State → Prop} {D : va_G} {A : Nat → Prop} {H0 : Heap} {cI cJ cZ : ClassId} {ad : Nat → Nat} {r1 : Int32} {S1 : MS} (E : mE p c cX12_isAlias s m args (Cond.code yX12_isAlias cX12_isAlias 4 (some .boolean) :: wsM) D cI cJ cZ) (hA : ∀ q : Nat, H0.size ≤ q → A q) (hR : sR s) (hml : c.maxLocals = 4) (kr13 : ∀ (H : Heap) (locs : List Loc) (ls : Array Slot), (r1 = 0 ∨ r1 = 1) → mG D cI cJ cZ ad A H0 H locs S1 → W p l e { frames := 8, cells := 0, slots := 0, locals := 163 } s m args below meth c H locs 0 0 Q (F0 m 13 ls [.int r1])) (kr67 : ∀ (H : Heap) (locs : List Loc) (ls : Array Slot), (r1 = 0 ∨ r1 = 1) → mG D cI cJ cZ ad A H0 H locs S1 → W p l e { frames := 8, cells := 0, slots := 0, locals := 163 } s m args below meth c H locs 0 0 Q (F0 m 67 ls [.int r1])) : ∀ (S : MS) (H : Heap) (locs : List Loc) (ls : Array Slot) (s0 : Int32), fr_isAlias_b67 S s0 = some (r1, S1) → mG D cI cJ cZ ad A H0 H locs S → lv_has ls 4 [] → W p l e { frames := 8, cells := 0, slots := 0, locals := 163 } s m args below meth c H locs 0 0 Q (F0 m 67 ls [.int s0]) := by
  have hx := E.1
  have hb := E.2.1
  have hts := E.2.2.1
  have hown := E.2.2.2.1
  have hK := E.2.2.2.2.1
  intro S H locs ls s0 h G hl
  unfold fr_isAlias_b67 at h
  obtain ⟨gz, h⟩ := oif_some h
  have gr : r1 = 0 ∨ r1 = 1 := by rw [← (osome2 h).1]; exact gz
  rw [(osome2 h).2] at G
  refine lv_to (osome2 h).1 ?_
  exact kr67 _ _ _ gr G
def fr_isAlias_b66  (S : MS)  : Option (Int32 × MS) := fr_isAlias_b67 S 0
set_option maxHeartbeats 4000000 in
set_option maxRecDepth 100000 in
theorem tr_isAlias_b66 {p : Program} {l : Launch} {e : Env} {s : State} {m : MethodId} {args : Array Value} {below : List Frame} {meth : Method} {c : Code} {Q : State → Prop} {D : va_G} {A : Nat → Prop} {H0 : Heap} {cI cJ cZ : ClassId} {ad : Nat → Nat} {r1 : Int32} {S1 : MS} (E : mE p c cX12_isAlias s m args (Cond.code yX12_isAlias cX12_isAlias 4 (some .boolean) :: wsM) D cI cJ cZ) (hA : ∀ q : Nat, H0.size ≤ q → A q) (hR : sR s) (hml : c.maxLocals = 4) (kr13 : ∀ (H : Heap) (locs : List Loc) (ls : Array Slot), (r1 = 0 ∨ r1 = 1) → mG D cI cJ cZ ad A H0 H locs S1 → W p l e { frames := 8, cells := 0, slots := 0, locals := 163 } s m args below meth c H locs 0 0 Q (F0 m 13 ls [.int r1])) (kr67 : ∀ (H : Heap) (locs : List Loc) (ls : Array Slot), (r1 = 0 ∨ r1 = 1) → mG D cI cJ cZ ad A H0 H locs S1 → W p l e { frames := 8, cells := 0, slots := 0, locals := 163 } s m args below meth c H locs 0 0 Q (F0 m 67 ls [.int r1])) : ∀ (S : MS) (H : Heap) (locs : List Loc) (ls : Array Slot), fr_isAlias_b66 S = some (r1, S1) → mG D cI cJ cZ ad A H0 H locs S → lv_has ls 4 [] → W p l e { frames := 8, cells := 0, slots := 0, locals := 163 } s m args below meth c H locs 0 0 Q (F0 m 66 ls []) := by
  have hx := E.1
  have hb := E.2.1
  have hts := E.2.2.1
  have hown := E.2.2.2.1
  have hK := E.2.2.2.2.1
  intro S H locs ls h G hl
  unfold fr_isAlias_b66 at h
  refine lv_iconst (v := 0) hx hb dX12_isAlias_66 (by decide) ?_
  have hl := lv_sub hl [] rfl
  exact tr_isAlias_b67 E hA hR hml kr13 kr67 _ _ _ _ _ h G hl
def fr_isAlias_b34  (S : MS) (s0 : Int32) (l1 : Int32) (l2 : Int32) (l3 : Int32) : Option (Int32 × MS) := elet (mi S 0 s0) fun S2 => elet (S2.1 0) fun v3 => if v3 = 0 then (obind2 (fr_bestIn_12 S2) fun r8 S5 => obind2 (fr_isMark S5 l1 r8 l2 l3) fun r12 S9 => if r12 = 0 then (fr_isAlias_b66 S9) else (fr_isAlias_b67 S9 1)) else (fr_isAlias_b66 S2)
set_option maxHeartbeats 4000000 in
set_option maxRecDepth 100000 in
theorem tr_isAlias_b34 {p : Program} {l : Launch} {e : Env} {s : State} {m : MethodId} {args : Array Value} {below : List Frame} {meth : Method} {c : Code} {Q : State → Prop} {D : va_G} {A : Nat → Prop} {H0 : Heap} {cI cJ cZ : ClassId} {ad : Nat → Nat} {r1 : Int32} {S1 : MS} (E : mE p c cX12_isAlias s m args (Cond.code yX12_isAlias cX12_isAlias 4 (some .boolean) :: wsM) D cI cJ cZ) (hA : ∀ q : Nat, H0.size ≤ q → A q) (hR : sR s) (hml : c.maxLocals = 4) (kr13 : ∀ (H : Heap) (locs : List Loc) (ls : Array Slot), (r1 = 0 ∨ r1 = 1) → mG D cI cJ cZ ad A H0 H locs S1 → W p l e { frames := 8, cells := 0, slots := 0, locals := 163 } s m args below meth c H locs 0 0 Q (F0 m 13 ls [.int r1])) (kr67 : ∀ (H : Heap) (locs : List Loc) (ls : Array Slot), (r1 = 0 ∨ r1 = 1) → mG D cI cJ cZ ad A H0 H locs S1 → W p l e { frames := 8, cells := 0, slots := 0, locals := 163 } s m args below meth c H locs 0 0 Q (F0 m 67 ls [.int r1])) : ∀ (S : MS) (H : Heap) (locs : List Loc) (ls : Array Slot) (s0 : Int32) (l1 : Int32) (l2 : Int32) (l3 : Int32), fr_isAlias_b34 S s0 l1 l2 l3 = some (r1, S1) → mG D cI cJ cZ ad A H0 H locs S → lv_has ls 4 [(0, .ref (ad 0)), (1, .int l1), (2, .int l2), (3, .int l3)] → W p l e { frames := 8, cells := 0, slots := 0, locals := 163 } s m args below meth c H locs 0 0 Q (F0 m 34 ls [.int s0, .ref (ad 0)]) := by
  have hx := E.1
  have hb := E.2.1
  have hts := E.2.2.1
  have hown := E.2.2.2.1
  have hK := E.2.2.2.2.1
  intro S H locs ls s0 l1 l2 l3 h G hl
  unfold fr_isAlias_b34 at h
  refine m_put E G 0 (by decide) (.tail _ qM_26) (mw_i0 _ _ _ _ _ s0) dX12_isAlias_34 ⟨rfl, rfl, rfl⟩ rfl rfl (fun H locs G => ?_)
  obtain ⟨S2, eS2, h⟩ := elet_some h
  rw [← eS2] at G
  clear eS2
  refine lv_aload_n hx hb dX12_isAlias_37 rfl (lv_at hl 0 rfl) ?_
  refine m_get E G 0 (v := .int (S2.1 0)) (by decide) (.tail _ qM_26) rfl dX12_isAlias_38 rfl ?_
  refine lv_topi (fun v3 ev3 => ?_)
  have h := elet_at ev3 h
  clear ev3
  refine lv_if_ne (tgt := 66) hx hb dX12_isAlias_41 (by decide) (fun c4 => ?_) (fun c4 => ?_)
  · have h := oif_neg c4 h
    have hl := lv_sub hl [] rfl
    exact tr_isAlias_b66 E hA hR hml kr13 kr67 _ _ _ _ h G hl
  · have h := oif_pos c4 h
    refine lv_aload_n hx hb dX12_isAlias_44 rfl (lv_at hl 0 rfl) ?_
    refine lv_iload_n hx hb dX12_isAlias_45 rfl (lv_at hl 1 rfl) ?_
    refine lv_aload_n hx hb dX12_isAlias_46 rfl (lv_at hl 0 rfl) ?_
    refine lv_aload_n hx hb dX12_isAlias_47 rfl (lv_at hl 0 rfl) ?_
    refine m_get E G 12 (v := .ref (ad 12)) (by decide) (.tail _ qM_9) rfl dX12_isAlias_48 rfl ?_
    obtain ⟨r8, S5, eS5, h⟩ := obind2_some h
    refine m_calli (As := [.ref (ad 12)]) (rest := [.int l1, .ref (ad 0)]) E G hA hR hml (tr_bestIn_12 l D cI cJ cZ ad S2 eS5) (cwV 1 hts (gmV qM_360 qM_361 qM_362 qM_35 qM_300) rfl rfl rfl (by decide +kernel) ⟨Nat.le_of_ble_eq_true rfl, Nat.le_of_ble_eq_true rfl⟩) rfl hl.1 rfl (lv_room (Nat.le_of_ble_eq_true rfl)) dX12_isAlias_51 ⟨Nat.zero_le _, Nat.zero_le _⟩ (fun q6 S7 H locs hq G => ?_)
    obtain ⟨hq1, hq2⟩ := hq
    rw [hq2] at G
    refine lv_to hq1 ?_
    clear hq1 hq2 eS5
    refine lv_iload_n hx hb dX12_isAlias_54 rfl (lv_at hl 2 rfl) ?_
    refine lv_iload_n hx hb dX12_isAlias_55 rfl (lv_at hl 3 rfl) ?_
    obtain ⟨r12, S9, eS9, h⟩ := obind2_some h
    refine m_calli (As := [.int l1, .int r8, .int l2, .int l3]) (rest := []) E G hA hR hml (tr_isMark l D cI cJ cZ ad S5 l1 r8 l2 l3 eS9) (cwV 4 hts (gmV qM_396 qM_397 qM_398 qM_35 qM_391) rfl rfl rfl (by decide +kernel) ⟨Nat.le_of_ble_eq_true rfl, Nat.le_of_ble_eq_true rfl⟩) rfl hl.1 rfl (lv_room (Nat.le_of_ble_eq_true rfl)) dX12_isAlias_56 ⟨Nat.zero_le _, Nat.zero_le _⟩ (fun q10 S11 H locs hq G => ?_)
    obtain ⟨hq1, hq2⟩ := hq
    rw [hq2] at G
    refine lv_to hq1 ?_
    clear hq1 hq2 eS9
    refine lv_if_eq (tgt := 66) hx hb dX12_isAlias_59 (by decide) (fun c13 => ?_) (fun c13 => ?_)
    · have h := oif_pos c13 h
      have hl := lv_sub hl [] rfl
      exact tr_isAlias_b66 E hA hR hml kr13 kr67 _ _ _ _ h G hl
    · have h := oif_neg c13 h
      refine lv_iconst (v := 1) hx hb dX12_isAlias_62 (by decide) ?_
      refine lv_goto (tgt := 67) hx hb dX12_isAlias_63 (by decide) ?_
      have hl := lv_sub hl [] rfl
      exact tr_isAlias_b67 E hA hR hml kr13 kr67 _ _ _ _ _ h G hl
def fr_isAlias_b33  (S : MS) (l1 : Int32) (l2 : Int32) (l3 : Int32) : Option (Int32 × MS) := fr_isAlias_b34 S 3 l1 l2 l3
set_option maxHeartbeats 4000000 in
set_option maxRecDepth 100000 in
theorem tr_isAlias_b33 {p : Program} {l : Launch} {e : Env} {s : State} {m : MethodId} {args : Array Value} {below : List Frame} {meth : Method} {c : Code} {Q : State → Prop} {D : va_G} {A : Nat → Prop} {H0 : Heap} {cI cJ cZ : ClassId} {ad : Nat → Nat} {r1 : Int32} {S1 : MS} (E : mE p c cX12_isAlias s m args (Cond.code yX12_isAlias cX12_isAlias 4 (some .boolean) :: wsM) D cI cJ cZ) (hA : ∀ q : Nat, H0.size ≤ q → A q) (hR : sR s) (hml : c.maxLocals = 4) (kr13 : ∀ (H : Heap) (locs : List Loc) (ls : Array Slot), (r1 = 0 ∨ r1 = 1) → mG D cI cJ cZ ad A H0 H locs S1 → W p l e { frames := 8, cells := 0, slots := 0, locals := 163 } s m args below meth c H locs 0 0 Q (F0 m 13 ls [.int r1])) (kr67 : ∀ (H : Heap) (locs : List Loc) (ls : Array Slot), (r1 = 0 ∨ r1 = 1) → mG D cI cJ cZ ad A H0 H locs S1 → W p l e { frames := 8, cells := 0, slots := 0, locals := 163 } s m args below meth c H locs 0 0 Q (F0 m 67 ls [.int r1])) : ∀ (S : MS) (H : Heap) (locs : List Loc) (ls : Array Slot) (l1 : Int32) (l2 : Int32) (l3 : Int32), fr_isAlias_b33 S l1 l2 l3 = some (r1, S1) → mG D cI cJ cZ ad A H0 H locs S → lv_has ls 4 [(0, .ref (ad 0)), (1, .int l1), (2, .int l2), (3, .int l3)] → W p l e { frames := 8, cells := 0, slots := 0, locals := 163 } s m args below meth c H locs 0 0 Q (F0 m 33 ls [.ref (ad 0)]) := by
  have hx := E.1
  have hb := E.2.1
  have hts := E.2.2.1
  have hown := E.2.2.2.1
  have hK := E.2.2.2.2.1
  intro S H locs ls l1 l2 l3 h G hl
  unfold fr_isAlias_b33 at h
  refine lv_iconst (v := 3) hx hb dX12_isAlias_33 (by decide) ?_
  have hl := lv_sub hl [0, 1, 2, 3] rfl
  exact tr_isAlias_b34 E hA hR hml kr13 kr67 _ _ _ _ _ _ _ _ h G hl
def fr_isAlias (S : MS) (a0 : Int32) (a1 : Int32) (a2 : Int32) : Option (Int32 × MS) := obind2 (fr_isCell S a0) fun r5 S2 => obind2 (fr_mayAsk S2 r5) fun r9 S6 => if r9 = 0 then (some (0, S6)) else (obind (fr_isPeriod a1) fun r11 => if r11 = 0 then (fr_isAlias_b33 S6 a0 a1 a2) else (obind (fr_isShare a2) fun r14 => if r14 = 0 then (fr_isAlias_b33 S6 a0 a1 a2) else (fr_isAlias_b34 S6 0 a0 a1 a2)))
set_option maxHeartbeats 4000000 in
set_option maxRecDepth 100000 in
theorem tr_isAlias (l : Launch) (D : va_G) (cI cJ cZ : ClassId) (ad : Nat → Nat) (S : MS) (a0 : Int32) (a1 : Int32) (a2 : Int32) {r1 : Int32} {S1 : MS} (h : fr_isAlias S a0 a1 a2 = some (r1, S1)) : mCi l yX12_isAlias (Cond.code yX12_isAlias cX12_isAlias 4 (some .boolean) :: wsM) 8 163 D cI cJ cZ ad S [.int a0, .int a1, .int a2] (fun r S9 => r = r1 ∧ S9 = S1) := by
  intro sz
  refine Met.ofW (cc := cX12_isAlias) (maxL := 4) (ret := (some .boolean)) (by decide) rfl ?_
  intro p e s m args below meth c s₁ B hml hv
  obtain ⟨rfl, hsz, hP, hK, hD0, hR⟩ := hv
  have hx := B.exec
  have hb := B.bytes
  have hr := B.returns
  have hts := atoms_spec (ws := (Cond.code yX12_isAlias cX12_isAlias 4 (some .boolean) :: wsM)) B.pre
  have hown : s.vm.findClass RX12 = some m.cls := findClass_of_methodNamed B.named
  have hlocks := B.notSynchronized
  subst hsz
  have hD := hD0.self (sz := s.heap.size)
  generalize hAe : va_A (MW cI cJ cZ ad S) s.heap.size = A at hD ⊢
  have hA : ∀ q : Nat, s.heap.size ≤ q → A q := fun q h => by rw [← hAe]; exact Or.inr h
  have G : mG D cI cJ cZ ad A s.heap s.heap [] S := ⟨hP, hD, va_S.rf⟩
  have E : mE p c cX12_isAlias s m ([.ref (ad 0), .int a0, .int a1, .int a2] : List Value).toArray (Cond.code yX12_isAlias cX12_isAlias 4 (some .boolean) :: wsM) D cI cJ cZ := ⟨hx, hb, hts, hown, hK, fun w h => .tail _ (iM_x h)⟩
  have hl := lv_entry ([.ref (ad 0), .int a0, .int a1, .int a2]) (n := 4) (Nat.le_of_ble_eq_true rfl)
  rw [lg_entry_eq]
  generalize (lg_sl ([.ref (ad 0), .int a0, .int a1, .int a2]) ++ List.replicate (4 - (lg_sl ([.ref (ad 0), .int a0, .int a1, .int a2])).length) Slot.unset).toArray = ls at hl ⊢
  have hl : lv_has ls 4 [(0, .ref (ad 0)), (1, .int a0), (2, .int a1), (3, .int a2)] := hl
  unfold fr_isAlias at h
  refine lv_aload_n hx hb dX12_isAlias_0 rfl (lv_at hl 0 rfl) ?_
  refine lv_aload_n hx hb dX12_isAlias_1 rfl (lv_at hl 0 rfl) ?_
  refine lv_iload_n hx hb dX12_isAlias_2 rfl (lv_at hl 1 rfl) ?_
  obtain ⟨r5, S2, eS2, h⟩ := obind2_some h
  refine m_calli (As := [.int a0]) (rest := [.ref (ad 0)]) E G hA hR hml (tr_isCell l D cI cJ cZ ad S a0 eS2) (cwV 1 hts (gmV qM_326 qM_327 qM_328 qM_35 qM_307) rfl rfl rfl (by decide +kernel) ⟨Nat.le_of_ble_eq_true rfl, Nat.le_of_ble_eq_true rfl⟩) rfl hl.1 rfl (lv_room (Nat.le_of_ble_eq_true rfl)) dX12_isAlias_3 ⟨Nat.zero_le _, Nat.zero_le _⟩ (fun q3 S4 H locs hq G => ?_)
  obtain ⟨hq1, hq2⟩ := hq
  rw [hq2] at G
  refine lv_to hq1 ?_
  clear hq1 hq2 eS2
  obtain ⟨r9, S6, eS6, h⟩ := obind2_some h
  refine m_calli (As := [.int r5]) (rest := []) E G hA hR hml (tr_mayAsk l D cI cJ cZ ad S2 r5 eS6) (cwV 1 hts (gmV qM_319 qM_320 qM_321 qM_35 qM_304) rfl rfl rfl (by decide +kernel) ⟨Nat.le_of_ble_eq_true rfl, Nat.le_of_ble_eq_true rfl⟩) rfl hl.1 rfl (lv_room (Nat.le_of_ble_eq_true rfl)) dX12_isAlias_6 ⟨Nat.zero_le _, Nat.zero_le _⟩ (fun q7 S8 H locs hq G => ?_)
  obtain ⟨hq1, hq2⟩ := hq
  rw [hq2] at G
  refine lv_to hq1 ?_
  clear hq1 hq2 eS6
  refine lv_if_ne (tgt := 14) hx hb dX12_isAlias_9 (by decide) (fun c10 => ?_) (fun c10 => ?_)
  · have h := oif_neg c10 h
    refine lv_aload_n hx hb dX12_isAlias_14 rfl (lv_at hl 0 rfl) ?_
    refine lv_iload_n hx hb dX12_isAlias_15 rfl (lv_at hl 2 rfl) ?_
    obtain ⟨r11, er11, h⟩ := obind_some h
    refine m_stat (As := [.int a1]) (rest := [.ref (ad 0)]) ⟨hx, hb, hml, hown, hts⟩ (tr_isPeriod l a1 er11) (cwS 1 hts (gmS qM_386 qM_387 qM_35 qM_310) rfl rfl rfl (by decide +kernel) ⟨Nat.le_of_ble_eq_true rfl, Nat.le_of_ble_eq_true rfl⟩) rfl hl.1 rfl (lv_room (Nat.le_of_ble_eq_true rfl)) dX12_isAlias_16 ⟨Nat.zero_le _, Nat.zero_le _⟩ (fun q12 hq => ?_)
    refine lv_to hq ?_
    clear hq er11
    refine lv_if_eq (tgt := 33) hx hb dX12_isAlias_19 (by decide) (fun c13 => ?_) (fun c13 => ?_)
    · have h := oif_pos c13 h
      have hl := lv_sub hl [0, 1, 2, 3] rfl
      exact tr_isAlias_b33 E hA hR hml (fun H locs ls gz G => W.zret (v := r1) hx hb hr (nar01 gz) (fun t ht hW => ⟨⟨r1, S1, rfl, ⟨rfl, rfl⟩, ⟨by rw [ht]; exact G.1, va_K.moved hW.alike hK, G.2.1⟩⟩, G.2.2.F ht⟩) G.2.2.2.2 dX12_isAlias_13) (fun H locs ls gz G => W.zret (v := r1) hx hb hr (nar01 gz) (fun t ht hW => ⟨⟨r1, S1, rfl, ⟨rfl, rfl⟩, ⟨by rw [ht]; exact G.1, va_K.moved hW.alike hK, G.2.1⟩⟩, G.2.2.F ht⟩) G.2.2.2.2 dX12_isAlias_67) _ _ _ _ _ _ _ h G hl
    · have h := oif_neg c13 h
      refine lv_iload_n hx hb dX12_isAlias_22 rfl (lv_at hl 3 rfl) ?_
      obtain ⟨r14, er14, h⟩ := obind_some h
      refine m_stat (As := [.int a2]) (rest := [.ref (ad 0)]) ⟨hx, hb, hml, hown, hts⟩ (tr_isShare l a2 er14) (cwS 1 hts (gmS qM_394 qM_395 qM_35 qM_392) rfl rfl rfl (by decide +kernel) ⟨Nat.le_of_ble_eq_true rfl, Nat.le_of_ble_eq_true rfl⟩) rfl hl.1 rfl (lv_room (Nat.le_of_ble_eq_true rfl)) dX12_isAlias_23 ⟨Nat.zero_le _, Nat.zero_le _⟩ (fun q15 hq => ?_)
      refine lv_to hq ?_
      clear hq er14
      refine lv_if_eq (tgt := 33) hx hb dX12_isAlias_26 (by decide) (fun c16 => ?_) (fun c16 => ?_)
      · have h := oif_pos c16 h
        have hl := lv_sub hl [0, 1, 2, 3] rfl
        exact tr_isAlias_b33 E hA hR hml (fun H locs ls gz G => W.zret (v := r1) hx hb hr (nar01 gz) (fun t ht hW => ⟨⟨r1, S1, rfl, ⟨rfl, rfl⟩, ⟨by rw [ht]; exact G.1, va_K.moved hW.alike hK, G.2.1⟩⟩, G.2.2.F ht⟩) G.2.2.2.2 dX12_isAlias_13) (fun H locs ls gz G => W.zret (v := r1) hx hb hr (nar01 gz) (fun t ht hW => ⟨⟨r1, S1, rfl, ⟨rfl, rfl⟩, ⟨by rw [ht]; exact G.1, va_K.moved hW.alike hK, G.2.1⟩⟩, G.2.2.F ht⟩) G.2.2.2.2 dX12_isAlias_67) _ _ _ _ _ _ _ h G hl
      · have h := oif_neg c16 h
        refine lv_iconst (v := 0) hx hb dX12_isAlias_29 (by decide) ?_
        refine lv_goto (tgt := 34) hx hb dX12_isAlias_30 (by decide) ?_
        have hl := lv_sub hl [0, 1, 2, 3] rfl
        exact tr_isAlias_b34 E hA hR hml (fun H locs ls gz G => W.zret (v := r1) hx hb hr (nar01 gz) (fun t ht hW => ⟨⟨r1, S1, rfl, ⟨rfl, rfl⟩, ⟨by rw [ht]; exact G.1, va_K.moved hW.alike hK, G.2.1⟩⟩, G.2.2.F ht⟩) G.2.2.2.2 dX12_isAlias_13) (fun H locs ls gz G => W.zret (v := r1) hx hb hr (nar01 gz) (fun t ht hW => ⟨⟨r1, S1, rfl, ⟨rfl, rfl⟩, ⟨by rw [ht]; exact G.1, va_K.moved hW.alike hK, G.2.1⟩⟩, G.2.2.F ht⟩) G.2.2.2.2 dX12_isAlias_67) _ _ _ _ _ _ _ _ h G hl
  · have h := oif_pos c10 h
    refine lv_iconst (v := 0) hx hb dX12_isAlias_12 (by decide) ?_
    exact W.zret (v := 0) hx hb hr rfl (fun t ht hW => ⟨⟨0, S6, rfl, osome2 h, ⟨by rw [ht]; exact G.1, va_K.moved hW.alike hK, G.2.1⟩⟩, G.2.2.F ht⟩) G.2.2.2.2 dX12_isAlias_13
def fr_aliases_b71 (k43 : MS → Int32 → Int32 → Int32 → Int32 → Int32 → Option (Int32 × MS)) (S : MS) (s0 : Int32) (s1 : Int32) (l1 : Int32) (l2 : Int32) (l3 : Int32) (l5 : Int32) : Option (Int32 × MS) := elet (s1 + s0) fun v2 => elet (l5 + Int32.ofInt (1)) fun v3 => k43 S l1 l2 l3 v2 v3
set_option maxHeartbeats 4000000 in
set_option maxRecDepth 100000 in
theorem tr_aliases_b71 {p : Program} {l : Launch} {e : Env} {s : State} {m : MethodId} {args : Array Value} {below : List Frame} {meth : Method} {c : Code} {Q : State → Prop} {D : va_G} {A : Nat → Prop} {H0 : Heap} {cI cJ cZ : ClassId} {ad : Nat → Nat} {r1 : Int32} {S1 : MS} (E : mE p c cX12_aliases s m args (Cond.code yX12_aliases cX12_aliases 6 (some .int) :: wsM) D cI cJ cZ) (hA : ∀ q : Nat, H0.size ≤ q → A q) (hR : sR s) (hml : c.maxLocals = 6) (kr27 : ∀ (H : Heap) (locs : List Loc) (ls : Array Slot), mG D cI cJ cZ ad A H0 H locs S1 → W p l e { frames := 8, cells := 0, slots := 0, locals := 163 } s m args below meth c H locs 0 0 Q (F0 m 27 ls [.int r1])) (kr82 : ∀ (H : Heap) (locs : List Loc) (ls : Array Slot), mG D cI cJ cZ ad A H0 H locs S1 → W p l e { frames := 8, cells := 0, slots := 0, locals := 163 } s m args below meth c H locs 0 0 Q (F0 m 82 ls [.int r1])) {k43 : MS → Int32 → Int32 → Int32 → Int32 → Int32 → Option (Int32 × MS)} (hk43 : ∀ (S : MS) (H : Heap) (locs : List Loc) (ls : Array Slot) (l1 : Int32) (l2 : Int32) (l3 : Int32) (l4 : Int32) (l5 : Int32), k43 S l1 l2 l3 l4 l5 = some (r1, S1) → mG D cI cJ cZ ad A H0 H locs S → lv_has ls 6 [(0, .ref (ad 0)), (1, .int l1), (2, .int l2), (3, .int l3), (4, .int l4), (5, .int l5)] → W p l e { frames := 8, cells := 0, slots := 0, locals := 163 } s m args below meth c H locs 0 0 Q (F0 m 43 ls [])) : ∀ (S : MS) (H : Heap) (locs : List Loc) (ls : Array Slot) (s0 : Int32) (s1 : Int32) (l1 : Int32) (l2 : Int32) (l3 : Int32) (l5 : Int32), fr_aliases_b71 k43 S s0 s1 l1 l2 l3 l5 = some (r1, S1) → mG D cI cJ cZ ad A H0 H locs S → lv_has ls 6 [(0, .ref (ad 0)), (1, .int l1), (2, .int l2), (3, .int l3), (5, .int l5)] → W p l e { frames := 8, cells := 0, slots := 0, locals := 163 } s m args below meth c H locs 0 0 Q (F0 m 71 ls [.int s0, .int s1]) := by
  have hx := E.1
  have hb := E.2.1
  have hts := E.2.2.1
  have hown := E.2.2.2.1
  have hK := E.2.2.2.2.1
  intro S H locs ls s0 s1 l1 l2 l3 l5 h G hl
  unfold fr_aliases_b71 at h
  refine lv_iadd hx hb dX12_aliases_71 ?_
  refine lv_topi (fun v2 ev2 => ?_)
  have h := elet_at ev2 h
  clear ev2
  refine lv_istore (lv' := [(4, .int v2), (0, .ref (ad 0)), (1, .int l1), (2, .int l2), (3, .int l3), (5, .int l5)]) hx hb dX12_aliases_72 hl (by decide) rfl (fun ls hl => ?_)
  obtain ⟨v3, ev3, h⟩ := elet_some h
  refine lv_iinc (v := v3) (lv' := [(5, .int v3), (4, .int v2), (0, .ref (ad 0)), (1, .int l1), (2, .int l2), (3, .int l3)]) hx hb dX12_aliases_74 hl (k := 5) rfl ev3.symm (by decide) rfl (fun ls hl => ?_)
  refine lv_goto (tgt := 43) hx hb dX12_aliases_77 (by decide) ?_
  have hl := lv_sub hl [2, 3, 4, 5, 1, 0] rfl
  exact hk43 _ _ _ _ _ _ _ _ _ h G hl
def fr_aliases_b43  : Nat → MS → Int32 → Int32 → Int32 → Int32 → Int32 → Option (Int32 × MS)
  | 0, _, _, _, _, _, _ => none
  | n + 1, S, l1, l2, l3, l4, l5 => obind2 (fr_cellCount S) fun r5 S2 => if r5 ≤ l5 then (some (l4, S2)) else (obind2 (fr_isMark S2 l5 l3 l1 l2) fun r10 S7 => if r10 = 0 then (fr_aliases_b71 (fr_aliases_b43 n) S7 0 l4 l1 l2 l3 l5) else (fr_aliases_b71 (fr_aliases_b43 n) S7 1 l4 l1 l2 l3 l5))
set_option maxHeartbeats 4000000 in
set_option maxRecDepth 100000 in
theorem tr_aliases_b43 {p : Program} {l : Launch} {e : Env} {s : State} {m : MethodId} {args : Array Value} {below : List Frame} {meth : Method} {c : Code} {Q : State → Prop} {D : va_G} {A : Nat → Prop} {H0 : Heap} {cI cJ cZ : ClassId} {ad : Nat → Nat} {r1 : Int32} {S1 : MS} (E : mE p c cX12_aliases s m args (Cond.code yX12_aliases cX12_aliases 6 (some .int) :: wsM) D cI cJ cZ) (hA : ∀ q : Nat, H0.size ≤ q → A q) (hR : sR s) (hml : c.maxLocals = 6) (kr27 : ∀ (H : Heap) (locs : List Loc) (ls : Array Slot), mG D cI cJ cZ ad A H0 H locs S1 → W p l e { frames := 8, cells := 0, slots := 0, locals := 163 } s m args below meth c H locs 0 0 Q (F0 m 27 ls [.int r1])) (kr82 : ∀ (H : Heap) (locs : List Loc) (ls : Array Slot), mG D cI cJ cZ ad A H0 H locs S1 → W p l e { frames := 8, cells := 0, slots := 0, locals := 163 } s m args below meth c H locs 0 0 Q (F0 m 82 ls [.int r1])) : ∀ n : Nat, ∀ (S : MS) (H : Heap) (locs : List Loc) (ls : Array Slot) (l1 : Int32) (l2 : Int32) (l3 : Int32) (l4 : Int32) (l5 : Int32), fr_aliases_b43 n S l1 l2 l3 l4 l5 = some (r1, S1) → mG D cI cJ cZ ad A H0 H locs S → lv_has ls 6 [(0, .ref (ad 0)), (1, .int l1), (2, .int l2), (3, .int l3), (4, .int l4), (5, .int l5)] → W p l e { frames := 8, cells := 0, slots := 0, locals := 163 } s m args below meth c H locs 0 0 Q (F0 m 43 ls []) := by
  have hx := E.1
  have hb := E.2.1
  have hts := E.2.2.1
  have hown := E.2.2.2.1
  have hK := E.2.2.2.2.1
  intro n
  induction n with
  | zero =>
    intro S H locs ls l1 l2 l3 l4 l5 h
    have h : (none : Option (Int32 × MS)) = some (r1, S1) := h
    cases h
  | succ n ih =>
    intro S H locs ls l1 l2 l3 l4 l5 h G hl
    unfold fr_aliases_b43 at h
    refine lv_iload hx hb dX12_aliases_43 (lv_at hl 5 rfl) ?_
    refine lv_aload_n hx hb dX12_aliases_45 rfl (lv_at hl 0 rfl) ?_
    obtain ⟨r5, S2, eS2, h⟩ := obind2_some h
    refine m_calli (As := []) (rest := [.int l5]) E G hA hR hml (tr_cellCount l D cI cJ cZ ad S eS2) (cwV 0 hts (gmV qM_204 qM_205 qM_206 qM_35 qM_207) rfl rfl rfl (by decide +kernel) ⟨Nat.le_of_ble_eq_true rfl, Nat.le_of_ble_eq_true rfl⟩) rfl hl.1 rfl (lv_room (Nat.le_of_ble_eq_true rfl)) dX12_aliases_46 ⟨Nat.zero_le _, Nat.zero_le _⟩ (fun q3 S4 H locs hq G => ?_)
    obtain ⟨hq1, hq2⟩ := hq
    rw [hq2] at G
    refine lv_to hq1 ?_
    clear hq1 hq2 eS2
    refine lv_icmp_ge (tgt := 80) hx hb dX12_aliases_49 (by decide) (fun c6 => ?_) (fun c6 => ?_)
    · have h := oif_pos c6 h
      refine lv_iload hx hb dX12_aliases_80 (lv_at hl 4 rfl) ?_
      rw [(osome2 h).2] at G
      refine lv_to (osome2 h).1 ?_
      exact kr82 _ _ _ G
    · have h := oif_neg c6 h
      refine lv_iload hx hb dX12_aliases_52 (lv_at hl 4 rfl) ?_
      refine lv_aload_n hx hb dX12_aliases_54 rfl (lv_at hl 0 rfl) ?_
      refine lv_iload hx hb dX12_aliases_55 (lv_at hl 5 rfl) ?_
      refine lv_iload_n hx hb dX12_aliases_57 rfl (lv_at hl 3 rfl) ?_
      refine lv_iload_n hx hb dX12_aliases_58 rfl (lv_at hl 1 rfl) ?_
      refine lv_iload_n hx hb dX12_aliases_59 rfl (lv_at hl 2 rfl) ?_
      obtain ⟨r10, S7, eS7, h⟩ := obind2_some h
      refine m_calli (As := [.int l5, .int l3, .int l1, .int l2]) (rest := [.int l4]) E G hA hR hml (tr_isMark l D cI cJ cZ ad S2 l5 l3 l1 l2 eS7) (cwV 4 hts (gmV qM_396 qM_397 qM_398 qM_35 qM_391) rfl rfl rfl (by decide +kernel) ⟨Nat.le_of_ble_eq_true rfl, Nat.le_of_ble_eq_true rfl⟩) rfl hl.1 rfl (lv_room (Nat.le_of_ble_eq_true rfl)) dX12_aliases_60 ⟨Nat.zero_le _, Nat.zero_le _⟩ (fun q8 S9 H locs hq G => ?_)
      obtain ⟨hq1, hq2⟩ := hq
      rw [hq2] at G
      refine lv_to hq1 ?_
      clear hq1 hq2 eS7
      refine lv_if_eq (tgt := 70) hx hb dX12_aliases_63 (by decide) (fun c11 => ?_) (fun c11 => ?_)
      · have h := oif_pos c11 h
        refine lv_iconst (v := 0) hx hb dX12_aliases_70 (by decide) ?_
        have hl := lv_sub hl [0, 1, 2, 3, 5] rfl
        exact tr_aliases_b71 E hA hR hml kr27 kr82 ih _ _ _ _ _ _ _ _ _ _ h G hl
      · have h := oif_neg c11 h
        refine lv_iconst (v := 1) hx hb dX12_aliases_66 (by decide) ?_
        refine lv_goto (tgt := 71) hx hb dX12_aliases_67 (by decide) ?_
        have hl := lv_sub hl [0, 1, 2, 3, 5] rfl
        exact tr_aliases_b71 E hA hR hml kr27 kr82 ih _ _ _ _ _ _ _ _ _ _ h G hl
def fr_aliases_b20  (S : MS) (s0 : Int32) (l1 : Int32) (l2 : Int32) : Option (Int32 × MS) := obind2 (fr_mayAsk S s0) fun r5 S2 => if r5 = 0 then (some (0, S2)) else (obind2 (fr_bestIn_12 S2) fun r10 S7 => fr_aliases_b43 16384 S7 l1 l2 r10 0 0)
set_option maxHeartbeats 4000000 in
set_option maxRecDepth 100000 in
theorem tr_aliases_b20 {p : Program} {l : Launch} {e : Env} {s : State} {m : MethodId} {args : Array Value} {below : List Frame} {meth : Method} {c : Code} {Q : State → Prop} {D : va_G} {A : Nat → Prop} {H0 : Heap} {cI cJ cZ : ClassId} {ad : Nat → Nat} {r1 : Int32} {S1 : MS} (E : mE p c cX12_aliases s m args (Cond.code yX12_aliases cX12_aliases 6 (some .int) :: wsM) D cI cJ cZ) (hA : ∀ q : Nat, H0.size ≤ q → A q) (hR : sR s) (hml : c.maxLocals = 6) (kr27 : ∀ (H : Heap) (locs : List Loc) (ls : Array Slot), mG D cI cJ cZ ad A H0 H locs S1 → W p l e { frames := 8, cells := 0, slots := 0, locals := 163 } s m args below meth c H locs 0 0 Q (F0 m 27 ls [.int r1])) (kr82 : ∀ (H : Heap) (locs : List Loc) (ls : Array Slot), mG D cI cJ cZ ad A H0 H locs S1 → W p l e { frames := 8, cells := 0, slots := 0, locals := 163 } s m args below meth c H locs 0 0 Q (F0 m 82 ls [.int r1])) : ∀ (S : MS) (H : Heap) (locs : List Loc) (ls : Array Slot) (s0 : Int32) (l1 : Int32) (l2 : Int32), fr_aliases_b20 S s0 l1 l2 = some (r1, S1) → mG D cI cJ cZ ad A H0 H locs S → lv_has ls 6 [(0, .ref (ad 0)), (1, .int l1), (2, .int l2)] → W p l e { frames := 8, cells := 0, slots := 0, locals := 163 } s m args below meth c H locs 0 0 Q (F0 m 20 ls [.int s0, .ref (ad 0)]) := by
  have hx := E.1
  have hb := E.2.1
  have hts := E.2.2.1
  have hown := E.2.2.2.1
  have hK := E.2.2.2.2.1
  intro S H locs ls s0 l1 l2 h G hl
  unfold fr_aliases_b20 at h
  obtain ⟨r5, S2, eS2, h⟩ := obind2_some h
  refine m_calli (As := [.int s0]) (rest := []) E G hA hR hml (tr_mayAsk l D cI cJ cZ ad S s0 eS2) (cwV 1 hts (gmV qM_319 qM_320 qM_321 qM_35 qM_304) rfl rfl rfl (by decide +kernel) ⟨Nat.le_of_ble_eq_true rfl, Nat.le_of_ble_eq_true rfl⟩) rfl hl.1 rfl (lv_room (Nat.le_of_ble_eq_true rfl)) dX12_aliases_20 ⟨Nat.zero_le _, Nat.zero_le _⟩ (fun q3 S4 H locs hq G => ?_)
  obtain ⟨hq1, hq2⟩ := hq
  rw [hq2] at G
  refine lv_to hq1 ?_
  clear hq1 hq2 eS2
  refine lv_if_ne (tgt := 28) hx hb dX12_aliases_23 (by decide) (fun c6 => ?_) (fun c6 => ?_)
  · have h := oif_neg c6 h
    refine lv_aload_n hx hb dX12_aliases_28 rfl (lv_at hl 0 rfl) ?_
    refine lv_aload_n hx hb dX12_aliases_29 rfl (lv_at hl 0 rfl) ?_
    refine m_get E G 12 (v := .ref (ad 12)) (by decide) (.tail _ qM_9) rfl dX12_aliases_30 rfl ?_
    obtain ⟨r10, S7, eS7, h⟩ := obind2_some h
    refine m_calli (As := [.ref (ad 12)]) (rest := []) E G hA hR hml (tr_bestIn_12 l D cI cJ cZ ad S2 eS7) (cwV 1 hts (gmV qM_360 qM_361 qM_362 qM_35 qM_300) rfl rfl rfl (by decide +kernel) ⟨Nat.le_of_ble_eq_true rfl, Nat.le_of_ble_eq_true rfl⟩) rfl hl.1 rfl (lv_room (Nat.le_of_ble_eq_true rfl)) dX12_aliases_33 ⟨Nat.zero_le _, Nat.zero_le _⟩ (fun q8 S9 H locs hq G => ?_)
    obtain ⟨hq1, hq2⟩ := hq
    rw [hq2] at G
    refine lv_to hq1 ?_
    clear hq1 hq2 eS7
    refine lv_istore_n (lv' := [(3, .int r10), (0, .ref (ad 0)), (1, .int l1), (2, .int l2)]) hx hb dX12_aliases_36 rfl hl (by decide) rfl (fun ls hl => ?_)
    refine lv_iconst (v := 0) hx hb dX12_aliases_37 (by decide) ?_
    refine lv_istore (lv' := [(4, .int 0), (3, .int r10), (0, .ref (ad 0)), (1, .int l1), (2, .int l2)]) hx hb dX12_aliases_38 hl (by decide) rfl (fun ls hl => ?_)
    refine lv_iconst (v := 0) hx hb dX12_aliases_40 (by decide) ?_
    refine lv_istore (lv' := [(5, .int 0), (4, .int 0), (3, .int r10), (0, .ref (ad 0)), (1, .int l1), (2, .int l2)]) hx hb dX12_aliases_41 hl (by decide) rfl (fun ls hl => ?_)
    have hl := lv_sub hl [3, 4, 5, 2, 1, 0] rfl
    exact tr_aliases_b43 E hA hR hml kr27 kr82 _ _ _ _ _ _ _ _ _ _ h G hl
  · have h := oif_pos c6 h
    refine lv_iconst (v := 0) hx hb dX12_aliases_26 (by decide) ?_
    rw [(osome2 h).2] at G
    refine lv_to (osome2 h).1 ?_
    exact kr27 _ _ _ G
def fr_aliases_b19  (S : MS) (l1 : Int32) (l2 : Int32) : Option (Int32 × MS) := fr_aliases_b20 S 0 l1 l2
set_option maxHeartbeats 4000000 in
set_option maxRecDepth 100000 in
theorem tr_aliases_b19 {p : Program} {l : Launch} {e : Env} {s : State} {m : MethodId} {args : Array Value} {below : List Frame} {meth : Method} {c : Code} {Q : State → Prop} {D : va_G} {A : Nat → Prop} {H0 : Heap} {cI cJ cZ : ClassId} {ad : Nat → Nat} {r1 : Int32} {S1 : MS} (E : mE p c cX12_aliases s m args (Cond.code yX12_aliases cX12_aliases 6 (some .int) :: wsM) D cI cJ cZ) (hA : ∀ q : Nat, H0.size ≤ q → A q) (hR : sR s) (hml : c.maxLocals = 6) (kr27 : ∀ (H : Heap) (locs : List Loc) (ls : Array Slot), mG D cI cJ cZ ad A H0 H locs S1 → W p l e { frames := 8, cells := 0, slots := 0, locals := 163 } s m args below meth c H locs 0 0 Q (F0 m 27 ls [.int r1])) (kr82 : ∀ (H : Heap) (locs : List Loc) (ls : Array Slot), mG D cI cJ cZ ad A H0 H locs S1 → W p l e { frames := 8, cells := 0, slots := 0, locals := 163 } s m args below meth c H locs 0 0 Q (F0 m 82 ls [.int r1])) : ∀ (S : MS) (H : Heap) (locs : List Loc) (ls : Array Slot) (l1 : Int32) (l2 : Int32), fr_aliases_b19 S l1 l2 = some (r1, S1) → mG D cI cJ cZ ad A H0 H locs S → lv_has ls 6 [(0, .ref (ad 0)), (1, .int l1), (2, .int l2)] → W p l e { frames := 8, cells := 0, slots := 0, locals := 163 } s m args below meth c H locs 0 0 Q (F0 m 19 ls [.ref (ad 0)]) := by
  have hx := E.1
  have hb := E.2.1
  have hts := E.2.2.1
  have hown := E.2.2.2.1
  have hK := E.2.2.2.2.1
  intro S H locs ls l1 l2 h G hl
  unfold fr_aliases_b19 at h
  refine lv_iconst (v := 0) hx hb dX12_aliases_19 (by decide) ?_
  have hl := lv_sub hl [0, 1, 2] rfl
  exact tr_aliases_b20 E hA hR hml kr27 kr82 _ _ _ _ _ _ _ h G hl
def fr_aliases (S : MS) (a0 : Int32) (a1 : Int32) : Option (Int32 × MS) := obind (fr_isPeriod a0) fun r2 => if r2 = 0 then (fr_aliases_b19 S a0 a1) else (obind (fr_isShare a1) fun r5 => if r5 = 0 then (fr_aliases_b19 S a0 a1) else (fr_aliases_b20 S 1 a0 a1))
set_option maxHeartbeats 4000000 in
set_option maxRecDepth 100000 in
theorem tr_aliases (l : Launch) (D : va_G) (cI cJ cZ : ClassId) (ad : Nat → Nat) (S : MS) (a0 : Int32) (a1 : Int32) {r1 : Int32} {S1 : MS} (h : fr_aliases S a0 a1 = some (r1, S1)) : mCi l yX12_aliases (Cond.code yX12_aliases cX12_aliases 6 (some .int) :: wsM) 8 163 D cI cJ cZ ad S [.int a0, .int a1] (fun r S9 => r = r1 ∧ S9 = S1) := by
  intro sz
  refine Met.ofW (cc := cX12_aliases) (maxL := 6) (ret := (some .int)) (by decide) rfl ?_
  intro p e s m args below meth c s₁ B hml hv
  obtain ⟨rfl, hsz, hP, hK, hD0, hR⟩ := hv
  have hx := B.exec
  have hb := B.bytes
  have hr := B.returns
  have hts := atoms_spec (ws := (Cond.code yX12_aliases cX12_aliases 6 (some .int) :: wsM)) B.pre
  have hown : s.vm.findClass RX12 = some m.cls := findClass_of_methodNamed B.named
  have hlocks := B.notSynchronized
  subst hsz
  have hD := hD0.self (sz := s.heap.size)
  generalize hAe : va_A (MW cI cJ cZ ad S) s.heap.size = A at hD ⊢
  have hA : ∀ q : Nat, s.heap.size ≤ q → A q := fun q h => by rw [← hAe]; exact Or.inr h
  have G : mG D cI cJ cZ ad A s.heap s.heap [] S := ⟨hP, hD, va_S.rf⟩
  have E : mE p c cX12_aliases s m ([.ref (ad 0), .int a0, .int a1] : List Value).toArray (Cond.code yX12_aliases cX12_aliases 6 (some .int) :: wsM) D cI cJ cZ := ⟨hx, hb, hts, hown, hK, fun w h => .tail _ (iM_x h)⟩
  have hl := lv_entry ([.ref (ad 0), .int a0, .int a1]) (n := 6) (Nat.le_of_ble_eq_true rfl)
  rw [lg_entry_eq]
  generalize (lg_sl ([.ref (ad 0), .int a0, .int a1]) ++ List.replicate (6 - (lg_sl ([.ref (ad 0), .int a0, .int a1])).length) Slot.unset).toArray = ls at hl ⊢
  have hl : lv_has ls 6 [(0, .ref (ad 0)), (1, .int a0), (2, .int a1)] := hl
  unfold fr_aliases at h
  refine lv_aload_n hx hb dX12_aliases_0 rfl (lv_at hl 0 rfl) ?_
  refine lv_iload_n hx hb dX12_aliases_1 rfl (lv_at hl 1 rfl) ?_
  obtain ⟨r2, er2, h⟩ := obind_some h
  refine m_stat (As := [.int a0]) (rest := [.ref (ad 0)]) ⟨hx, hb, hml, hown, hts⟩ (tr_isPeriod l a0 er2) (cwS 1 hts (gmS qM_386 qM_387 qM_35 qM_310) rfl rfl rfl (by decide +kernel) ⟨Nat.le_of_ble_eq_true rfl, Nat.le_of_ble_eq_true rfl⟩) rfl hl.1 rfl (lv_room (Nat.le_of_ble_eq_true rfl)) dX12_aliases_2 ⟨Nat.zero_le _, Nat.zero_le _⟩ (fun q3 hq => ?_)
  refine lv_to hq ?_
  clear hq er2
  refine lv_if_eq (tgt := 19) hx hb dX12_aliases_5 (by decide) (fun c4 => ?_) (fun c4 => ?_)
  · have h := oif_pos c4 h
    have hl := lv_sub hl [0, 1, 2] rfl
    exact tr_aliases_b19 E hA hR hml (fun H locs ls G => W.iret (v := r1) hx hb hr (fun t ht hW => ⟨⟨r1, S1, rfl, ⟨rfl, rfl⟩, ⟨by rw [ht]; exact G.1, va_K.moved hW.alike hK, G.2.1⟩⟩, G.2.2.F ht⟩) G.2.2.2.2 dX12_aliases_27) (fun H locs ls G => W.iret (v := r1) hx hb hr (fun t ht hW => ⟨⟨r1, S1, rfl, ⟨rfl, rfl⟩, ⟨by rw [ht]; exact G.1, va_K.moved hW.alike hK, G.2.1⟩⟩, G.2.2.F ht⟩) G.2.2.2.2 dX12_aliases_82) _ _ _ _ _ _ h G hl
  · have h := oif_neg c4 h
    refine lv_iload_n hx hb dX12_aliases_8 rfl (lv_at hl 2 rfl) ?_
    obtain ⟨r5, er5, h⟩ := obind_some h
    refine m_stat (As := [.int a1]) (rest := [.ref (ad 0)]) ⟨hx, hb, hml, hown, hts⟩ (tr_isShare l a1 er5) (cwS 1 hts (gmS qM_394 qM_395 qM_35 qM_392) rfl rfl rfl (by decide +kernel) ⟨Nat.le_of_ble_eq_true rfl, Nat.le_of_ble_eq_true rfl⟩) rfl hl.1 rfl (lv_room (Nat.le_of_ble_eq_true rfl)) dX12_aliases_9 ⟨Nat.zero_le _, Nat.zero_le _⟩ (fun q6 hq => ?_)
    refine lv_to hq ?_
    clear hq er5
    refine lv_if_eq (tgt := 19) hx hb dX12_aliases_12 (by decide) (fun c7 => ?_) (fun c7 => ?_)
    · have h := oif_pos c7 h
      have hl := lv_sub hl [0, 1, 2] rfl
      exact tr_aliases_b19 E hA hR hml (fun H locs ls G => W.iret (v := r1) hx hb hr (fun t ht hW => ⟨⟨r1, S1, rfl, ⟨rfl, rfl⟩, ⟨by rw [ht]; exact G.1, va_K.moved hW.alike hK, G.2.1⟩⟩, G.2.2.F ht⟩) G.2.2.2.2 dX12_aliases_27) (fun H locs ls G => W.iret (v := r1) hx hb hr (fun t ht hW => ⟨⟨r1, S1, rfl, ⟨rfl, rfl⟩, ⟨by rw [ht]; exact G.1, va_K.moved hW.alike hK, G.2.1⟩⟩, G.2.2.F ht⟩) G.2.2.2.2 dX12_aliases_82) _ _ _ _ _ _ h G hl
    · have h := oif_neg c7 h
      refine lv_iconst (v := 1) hx hb dX12_aliases_15 (by decide) ?_
      refine lv_goto (tgt := 20) hx hb dX12_aliases_16 (by decide) ?_
      have hl := lv_sub hl [0, 1, 2] rfl
      exact tr_aliases_b20 E hA hR hml (fun H locs ls G => W.iret (v := r1) hx hb hr (fun t ht hW => ⟨⟨r1, S1, rfl, ⟨rfl, rfl⟩, ⟨by rw [ht]; exact G.1, va_K.moved hW.alike hK, G.2.1⟩⟩, G.2.2.F ht⟩) G.2.2.2.2 dX12_aliases_27) (fun H locs ls G => W.iret (v := r1) hx hb hr (fun t ht hW => ⟨⟨r1, S1, rfl, ⟨rfl, rfl⟩, ⟨by rw [ht]; exact G.1, va_K.moved hW.alike hK, G.2.1⟩⟩, G.2.2.F ht⟩) G.2.2.2.2 dX12_aliases_82) _ _ _ _ _ _ _ h G hl
def fr_blockOf (S : MS) (a0 : Int32) (a1 : Int32) (a2 : Int32) : Option (Int64 × MS) := obind (fr_laysCell S a0) fun S2 => obind2 (fr_windowOf_12 S2) fun r8 S5 => elet (a1 + a2) fun v9 => elet (if v9 < r8 then v9 else r8) fun v10 => obind2 (fr_energy_12 S5 a1 v10) fun r14 S11 => elet (a2.toInt64) fun v15 => oif (¬ v15 = 0) <| elet (r14 / v15) fun v17 => some (v17, S11)
set_option maxHeartbeats 4000000 in
set_option maxRecDepth 100000 in
theorem tr_blockOf (l : Launch) (D : va_G) (cI cJ cZ : ClassId) (ad : Nat → Nat) (S : MS) (a0 : Int32) (a1 : Int32) (a2 : Int32) {r1 : Int64} {S1 : MS} (h : fr_blockOf S a0 a1 a2 = some (r1, S1)) : mCl l yX12_blockOf (Cond.code yX12_blockOf cX12_blockOf 4 (some .long) :: wsM) 4 74 D cI cJ cZ ad S [.int a0, .int a1, .int a2] (fun r S9 => r = r1 ∧ S9 = S1) := by
  intro sz
  refine Met.ofW (cc := cX12_blockOf) (maxL := 4) (ret := (some .long)) (by decide) rfl ?_
  intro p e s m args below meth c s₁ B hml hv
  obtain ⟨rfl, hsz, hP, hK, hD0, hR⟩ := hv
  have hx := B.exec
  have hb := B.bytes
  have hr := B.returns
  have hts := atoms_spec (ws := (Cond.code yX12_blockOf cX12_blockOf 4 (some .long) :: wsM)) B.pre
  have hown : s.vm.findClass RX12 = some m.cls := findClass_of_methodNamed B.named
  have hlocks := B.notSynchronized
  subst hsz
  have hD := hD0.self (sz := s.heap.size)
  generalize hAe : va_A (MW cI cJ cZ ad S) s.heap.size = A at hD ⊢
  have hA : ∀ q : Nat, s.heap.size ≤ q → A q := fun q h => by rw [← hAe]; exact Or.inr h
  have G : mG D cI cJ cZ ad A s.heap s.heap [] S := ⟨hP, hD, va_S.rf⟩
  have E : mE p c cX12_blockOf s m ([.ref (ad 0), .int a0, .int a1, .int a2] : List Value).toArray (Cond.code yX12_blockOf cX12_blockOf 4 (some .long) :: wsM) D cI cJ cZ := ⟨hx, hb, hts, hown, hK, fun w h => .tail _ (iM_x h)⟩
  have hl := lv_entry ([.ref (ad 0), .int a0, .int a1, .int a2]) (n := 4) (Nat.le_of_ble_eq_true rfl)
  rw [lg_entry_eq]
  generalize (lg_sl ([.ref (ad 0), .int a0, .int a1, .int a2]) ++ List.replicate (4 - (lg_sl ([.ref (ad 0), .int a0, .int a1, .int a2])).length) Slot.unset).toArray = ls at hl ⊢
  have hl : lv_has ls 4 [(0, .ref (ad 0)), (1, .int a0), (2, .int a1), (3, .int a2)] := hl
  unfold fr_blockOf at h
  refine lv_aload_n hx hb dX12_blockOf_0 rfl (lv_at hl 0 rfl) ?_
  refine lv_iload_n hx hb dX12_blockOf_1 rfl (lv_at hl 1 rfl) ?_
  obtain ⟨S2, eS2, h⟩ := obind_some h
  refine m_callv (As := [.int a0]) (rest := []) E G hA hR hml (tr_laysCell l D cI cJ cZ ad S a0 eS2) (cwV 1 hts (gmV qM_290 qM_291 qM_292 qM_35 qM_270) rfl rfl rfl (by decide +kernel) ⟨Nat.le_of_ble_eq_true rfl, Nat.le_of_ble_eq_true rfl⟩) rfl hl.1 rfl (lv_room (Nat.le_of_ble_eq_true rfl)) dX12_blockOf_2 ⟨Nat.zero_le _, Nat.zero_le _⟩ (fun S4 H locs hq G => ?_)
  rw [hq] at G
  clear hq eS2
  refine lv_aload_n hx hb dX12_blockOf_5 rfl (lv_at hl 0 rfl) ?_
  refine lv_aload_n hx hb dX12_blockOf_6 rfl (lv_at hl 0 rfl) ?_
  refine m_get E G 12 (v := .ref (ad 12)) (by decide) (.tail _ qM_9) rfl dX12_blockOf_7 rfl ?_
  refine lv_iload_n hx hb dX12_blockOf_10 rfl (lv_at hl 2 rfl) ?_
  refine lv_aload_n hx hb dX12_blockOf_11 rfl (lv_at hl 0 rfl) ?_
  refine lv_aload_n hx hb dX12_blockOf_12 rfl (lv_at hl 0 rfl) ?_
  refine m_get E G 12 (v := .ref (ad 12)) (by decide) (.tail _ qM_9) rfl dX12_blockOf_13 rfl ?_
  obtain ⟨r8, S5, eS5, h⟩ := obind2_some h
  refine m_calli (As := [.ref (ad 12)]) (rest := [.int a1, .ref (ad 12), .ref (ad 0)]) E G hA hR hml (tr_windowOf_12 l D cI cJ cZ ad S2 eS5) (cwV 1 hts (gmV qM_283 qM_284 qM_285 qM_35 qM_273) rfl rfl rfl (by decide +kernel) ⟨Nat.le_of_ble_eq_true rfl, Nat.le_of_ble_eq_true rfl⟩) rfl hl.1 rfl (lv_room (Nat.le_of_ble_eq_true rfl)) dX12_blockOf_16 ⟨Nat.zero_le _, Nat.zero_le _⟩ (fun q6 S7 H locs hq G => ?_)
  obtain ⟨hq1, hq2⟩ := hq
  rw [hq2] at G
  refine lv_to hq1 ?_
  clear hq1 hq2 eS5
  refine lv_iload_n hx hb dX12_blockOf_19 rfl (lv_at hl 2 rfl) ?_
  refine lv_iload_n hx hb dX12_blockOf_20 rfl (lv_at hl 3 rfl) ?_
  refine lv_iadd hx hb dX12_blockOf_21 ?_
  refine lv_topi (fun v9 ev9 => ?_)
  have h := elet_at ev9 h
  clear ev9
  refine va_mmin hx hb (hml.trans hl.1.symm) hown (hts _ (.tail _ qM_262)) (hts _ (.tail _ qM_263)) (hts _ (.tail _ qM_247)) (hts _ (.tail _ qM_264)) (Nat.le_of_ble_eq_true rfl) (Nat.le_of_ble_eq_true rfl) (Nat.zero_le _) (Nat.zero_le _) dX12_blockOf_22 ?_
  refine lv_topi (fun v10 ev10 => ?_)
  have h := elet_at ev10 h
  clear ev10
  obtain ⟨r14, S11, eS11, h⟩ := obind2_some h
  refine m_calll (As := [.ref (ad 12), .int a1, .int v10]) (rest := []) E G hA hR hml (tr_energy_12 l D cI cJ cZ ad S5 a1 v10 eS11) (cwV 3 hts (gmV qM_286 qM_287 qM_288 qM_35 qM_278) rfl rfl rfl (by decide +kernel) ⟨Nat.le_of_ble_eq_true rfl, Nat.le_of_ble_eq_true rfl⟩) rfl hl.1 rfl (lv_room (Nat.le_of_ble_eq_true rfl)) dX12_blockOf_25 ⟨Nat.zero_le _, Nat.zero_le _⟩ (fun q12 S13 H locs hq G => ?_)
  obtain ⟨hq1, hq2⟩ := hq
  rw [hq2] at G
  refine lv_tol hq1 ?_
  clear hq1 hq2 eS11
  refine lv_iload_n hx hb dX12_blockOf_28 rfl (lv_at hl 3 rfl) ?_
  refine lv_i2l (v := a2.toInt64) hx hb dX12_blockOf_29 rfl ?_
  refine lv_topl (fun v15 ev15 => ?_)
  have h := elet_at ev15 h
  clear ev15
  obtain ⟨g16, h⟩ := oif_some h
  refine lv_ldiv hx hb dX12_blockOf_30 g16 ?_
  refine lv_topl (fun v17 ev17 => ?_)
  have h := elet_at ev17 h
  clear ev17
  exact W.lret (v := v17) hx hb hr (fun t ht hW => ⟨⟨v17, S11, rfl, osome2 h, ⟨by rw [ht]; exact G.1, va_K.moved hW.alike hK, G.2.1⟩⟩, G.2.2.F ht⟩) G.2.2.2.2 dX12_blockOf_31
def fr_isBlock_b27  (S : MS) (s0 : Int32) : Option (Int32 × MS) := oif (s0 = 0 ∨ s0 = 1) <| some (s0, S)
set_option maxHeartbeats 4000000 in
set_option maxRecDepth 100000 in
theorem tr_isBlock_b27 {p : Program} {l : Launch} {e : Env} {s : State} {m : MethodId} {args : Array Value} {below : List Frame} {meth : Method} {c : Code} {Q : State → Prop} {D : va_G} {A : Nat → Prop} {H0 : Heap} {cI cJ cZ : ClassId} {ad : Nat → Nat} {r1 : Int32} {S1 : MS} (E : mE p c cX12_isBlock s m args (Cond.code yX12_isBlock cX12_isBlock 3 (some .boolean) :: wsM) D cI cJ cZ) (hA : ∀ q : Nat, H0.size ≤ q → A q) (hR : sR s) (hml : c.maxLocals = 3) (kr27 : ∀ (H : Heap) (locs : List Loc) (ls : Array Slot), (r1 = 0 ∨ r1 = 1) → mG D cI cJ cZ ad A H0 H locs S1 → W p l e { frames := 3, cells := 0, slots := 0, locals := 43 } s m args below meth c H locs 0 0 Q (F0 m 27 ls [.int r1])) : ∀ (S : MS) (H : Heap) (locs : List Loc) (ls : Array Slot) (s0 : Int32), fr_isBlock_b27 S s0 = some (r1, S1) → mG D cI cJ cZ ad A H0 H locs S → lv_has ls 3 [] → W p l e { frames := 3, cells := 0, slots := 0, locals := 43 } s m args below meth c H locs 0 0 Q (F0 m 27 ls [.int s0]) := by
  have hx := E.1
  have hb := E.2.1
  have hts := E.2.2.1
  have hown := E.2.2.2.1
  have hK := E.2.2.2.2.1
  intro S H locs ls s0 h G hl
  unfold fr_isBlock_b27 at h
  obtain ⟨gz, h⟩ := oif_some h
  have gr : r1 = 0 ∨ r1 = 1 := by rw [← (osome2 h).1]; exact gz
  rw [(osome2 h).2] at G
  refine lv_to (osome2 h).1 ?_
  exact kr27 _ _ _ gr G
def fr_isBlock_b26  (S : MS)  : Option (Int32 × MS) := fr_isBlock_b27 S 0
set_option maxHeartbeats 4000000 in
set_option maxRecDepth 100000 in
theorem tr_isBlock_b26 {p : Program} {l : Launch} {e : Env} {s : State} {m : MethodId} {args : Array Value} {below : List Frame} {meth : Method} {c : Code} {Q : State → Prop} {D : va_G} {A : Nat → Prop} {H0 : Heap} {cI cJ cZ : ClassId} {ad : Nat → Nat} {r1 : Int32} {S1 : MS} (E : mE p c cX12_isBlock s m args (Cond.code yX12_isBlock cX12_isBlock 3 (some .boolean) :: wsM) D cI cJ cZ) (hA : ∀ q : Nat, H0.size ≤ q → A q) (hR : sR s) (hml : c.maxLocals = 3) (kr27 : ∀ (H : Heap) (locs : List Loc) (ls : Array Slot), (r1 = 0 ∨ r1 = 1) → mG D cI cJ cZ ad A H0 H locs S1 → W p l e { frames := 3, cells := 0, slots := 0, locals := 43 } s m args below meth c H locs 0 0 Q (F0 m 27 ls [.int r1])) : ∀ (S : MS) (H : Heap) (locs : List Loc) (ls : Array Slot), fr_isBlock_b26 S = some (r1, S1) → mG D cI cJ cZ ad A H0 H locs S → lv_has ls 3 [] → W p l e { frames := 3, cells := 0, slots := 0, locals := 43 } s m args below meth c H locs 0 0 Q (F0 m 26 ls []) := by
  have hx := E.1
  have hb := E.2.1
  have hts := E.2.2.1
  have hown := E.2.2.2.1
  have hK := E.2.2.2.2.1
  intro S H locs ls h G hl
  unfold fr_isBlock_b26 at h
  refine lv_iconst (v := 0) hx hb dX12_isBlock_26 (by decide) ?_
  have hl := lv_sub hl [] rfl
  exact tr_isBlock_b27 E hA hR hml kr27 _ _ _ _ _ h G hl
def fr_isBlock (S : MS) (a0 : Int32) (a1 : Int32) : Option (Int32 × MS) := obind2 (fr_isTime S a0) fun r5 S2 => if r5 = 0 then (fr_isBlock_b26 S2) else (elet (S2.2.1 10 2) fun v7 => obind (fr_in a1 1 v7) fun r8 => if r8 = 0 then (fr_isBlock_b26 S2) else (fr_isBlock_b27 S2 1))
set_option maxHeartbeats 4000000 in
set_option maxRecDepth 100000 in
theorem tr_isBlock (l : Launch) (D : va_G) (cI cJ cZ : ClassId) (ad : Nat → Nat) (S : MS) (a0 : Int32) (a1 : Int32) {r1 : Int32} {S1 : MS} (h : fr_isBlock S a0 a1 = some (r1, S1)) : mCi l yX12_isBlock (Cond.code yX12_isBlock cX12_isBlock 3 (some .boolean) :: wsM) 3 43 D cI cJ cZ ad S [.int a0, .int a1] (fun r S9 => r = r1 ∧ S9 = S1) := by
  intro sz
  refine Met.ofW (cc := cX12_isBlock) (maxL := 3) (ret := (some .boolean)) (by decide) rfl ?_
  intro p e s m args below meth c s₁ B hml hv
  obtain ⟨rfl, hsz, hP, hK, hD0, hR⟩ := hv
  have hx := B.exec
  have hb := B.bytes
  have hr := B.returns
  have hts := atoms_spec (ws := (Cond.code yX12_isBlock cX12_isBlock 3 (some .boolean) :: wsM)) B.pre
  have hown : s.vm.findClass RX12 = some m.cls := findClass_of_methodNamed B.named
  have hlocks := B.notSynchronized
  subst hsz
  have hD := hD0.self (sz := s.heap.size)
  generalize hAe : va_A (MW cI cJ cZ ad S) s.heap.size = A at hD ⊢
  have hA : ∀ q : Nat, s.heap.size ≤ q → A q := fun q h => by rw [← hAe]; exact Or.inr h
  have G : mG D cI cJ cZ ad A s.heap s.heap [] S := ⟨hP, hD, va_S.rf⟩
  have E : mE p c cX12_isBlock s m ([.ref (ad 0), .int a0, .int a1] : List Value).toArray (Cond.code yX12_isBlock cX12_isBlock 3 (some .boolean) :: wsM) D cI cJ cZ := ⟨hx, hb, hts, hown, hK, fun w h => .tail _ (iM_x h)⟩
  have hl := lv_entry ([.ref (ad 0), .int a0, .int a1]) (n := 3) (Nat.le_of_ble_eq_true rfl)
  rw [lg_entry_eq]
  generalize (lg_sl ([.ref (ad 0), .int a0, .int a1]) ++ List.replicate (3 - (lg_sl ([.ref (ad 0), .int a0, .int a1])).length) Slot.unset).toArray = ls at hl ⊢
  have hl : lv_has ls 3 [(0, .ref (ad 0)), (1, .int a0), (2, .int a1)] := hl
  unfold fr_isBlock at h
  refine lv_aload_n hx hb dX12_isBlock_0 rfl (lv_at hl 0 rfl) ?_
  refine lv_iload_n hx hb dX12_isBlock_1 rfl (lv_at hl 1 rfl) ?_
  obtain ⟨r5, S2, eS2, h⟩ := obind2_some h
  refine m_calli (As := [.int a0]) (rest := []) E G hA hR hml (tr_isTime l D cI cJ cZ ad S a0 eS2) (cwV 1 hts (gmV qM_334 qM_335 qM_336 qM_35 qM_309) rfl rfl rfl (by decide +kernel) ⟨Nat.le_of_ble_eq_true rfl, Nat.le_of_ble_eq_true rfl⟩) rfl hl.1 rfl (lv_room (Nat.le_of_ble_eq_true rfl)) dX12_isBlock_2 ⟨Nat.zero_le _, Nat.zero_le _⟩ (fun q3 S4 H locs hq G => ?_)
  obtain ⟨hq1, hq2⟩ := hq
  rw [hq2] at G
  refine lv_to hq1 ?_
  clear hq1 hq2 eS2
  refine lv_if_eq (tgt := 26) hx hb dX12_isBlock_5 (by decide) (fun c6 => ?_) (fun c6 => ?_)
  · have h := oif_pos c6 h
    have hl := lv_sub hl [] rfl
    exact tr_isBlock_b26 E hA hR hml (fun H locs ls gz G => W.zret (v := r1) hx hb hr (nar01 gz) (fun t ht hW => ⟨⟨r1, S1, rfl, ⟨rfl, rfl⟩, ⟨by rw [ht]; exact G.1, va_K.moved hW.alike hK, G.2.1⟩⟩, G.2.2.F ht⟩) G.2.2.2.2 dX12_isBlock_27) _ _ _ _ h G hl
  · have h := oif_neg c6 h
    refine lv_iload_n hx hb dX12_isBlock_8 rfl (lv_at hl 2 rfl) ?_
    refine lv_iconst (v := 1) hx hb dX12_isBlock_9 (by decide) ?_
    refine lv_aload_n hx hb dX12_isBlock_10 rfl (lv_at hl 0 rfl) ?_
    refine m_get E G 10 (v := .ref (ad 10)) (by decide) (.tail _ qM_7) rfl dX12_isBlock_11 rfl ?_
    refine lv_iconst (v := 2) hx hb dX12_isBlock_14 (by decide) ?_
    refine m_iald E G 10 2 (n := 131) (k := 2) rfl rfl (by decide) (by decide) dX12_isBlock_15 ?_
    refine lv_topi (fun v7 ev7 => ?_)
    have h := elet_at ev7 h
    clear ev7
    obtain ⟨r8, er8, h⟩ := obind_some h
    refine m_stat (As := [.int a1, .int 1, .int v7]) (rest := []) ⟨hx, hb, hml, hown, hts⟩ (tr_in l a1 1 v7 er8) (cwS 3 hts (gmS qM_52 qM_53 qM_35 qM_27) rfl rfl rfl (by decide +kernel) ⟨Nat.le_of_ble_eq_true rfl, Nat.le_of_ble_eq_true rfl⟩) rfl hl.1 rfl (lv_room (Nat.le_of_ble_eq_true rfl)) dX12_isBlock_16 ⟨Nat.zero_le _, Nat.zero_le _⟩ (fun q9 hq => ?_)
    refine lv_to hq ?_
    clear hq er8
    refine lv_if_eq (tgt := 26) hx hb dX12_isBlock_19 (by decide) (fun c10 => ?_) (fun c10 => ?_)
    · have h := oif_pos c10 h
      have hl := lv_sub hl [] rfl
      exact tr_isBlock_b26 E hA hR hml (fun H locs ls gz G => W.zret (v := r1) hx hb hr (nar01 gz) (fun t ht hW => ⟨⟨r1, S1, rfl, ⟨rfl, rfl⟩, ⟨by rw [ht]; exact G.1, va_K.moved hW.alike hK, G.2.1⟩⟩, G.2.2.F ht⟩) G.2.2.2.2 dX12_isBlock_27) _ _ _ _ h G hl
    · have h := oif_neg c10 h
      refine lv_iconst (v := 1) hx hb dX12_isBlock_22 (by decide) ?_
      refine lv_goto (tgt := 27) hx hb dX12_isBlock_23 (by decide) ?_
      have hl := lv_sub hl [] rfl
      exact tr_isBlock_b27 E hA hR hml (fun H locs ls gz G => W.zret (v := r1) hx hb hr (nar01 gz) (fun t ht hW => ⟨⟨r1, S1, rfl, ⟨rfl, rfl⟩, ⟨by rw [ht]; exact G.1, va_K.moved hW.alike hK, G.2.1⟩⟩, G.2.2.F ht⟩) G.2.2.2.2 dX12_isBlock_27) _ _ _ _ _ h G hl
def fr_blockPower_b39  (S : MS) (s0 : Int64) : Option (Int64 × MS) := some (s0, S)
set_option maxHeartbeats 4000000 in
set_option maxRecDepth 100000 in
theorem tr_blockPower_b39 {p : Program} {l : Launch} {e : Env} {s : State} {m : MethodId} {args : Array Value} {below : List Frame} {meth : Method} {c : Code} {Q : State → Prop} {D : va_G} {A : Nat → Prop} {H0 : Heap} {cI cJ cZ : ClassId} {ad : Nat → Nat} {r1 : Int64} {S1 : MS} (E : mE p c cX12_blockPower s m args (Cond.code yX12_blockPower cX12_blockPower 4 (some .long) :: wsM) D cI cJ cZ) (hA : ∀ q : Nat, H0.size ≤ q → A q) (hR : sR s) (hml : c.maxLocals = 4) (kr13 : ∀ (H : Heap) (locs : List Loc) (ls : Array Slot), mG D cI cJ cZ ad A H0 H locs S1 → W p l e { frames := 5, cells := 0, slots := 0, locals := 97 } s m args below meth c H locs 0 0 Q (F0 m 13 ls [.long r1])) (kr39 : ∀ (H : Heap) (locs : List Loc) (ls : Array Slot), mG D cI cJ cZ ad A H0 H locs S1 → W p l e { frames := 5, cells := 0, slots := 0, locals := 97 } s m args below meth c H locs 0 0 Q (F0 m 39 ls [.long r1])) : ∀ (S : MS) (H : Heap) (locs : List Loc) (ls : Array Slot) (s0 : Int64), fr_blockPower_b39 S s0 = some (r1, S1) → mG D cI cJ cZ ad A H0 H locs S → lv_has ls 4 [] → W p l e { frames := 5, cells := 0, slots := 0, locals := 97 } s m args below meth c H locs 0 0 Q (F0 m 39 ls [.long s0]) := by
  have hx := E.1
  have hb := E.2.1
  have hts := E.2.2.1
  have hown := E.2.2.2.1
  have hK := E.2.2.2.2.1
  intro S H locs ls s0 h G hl
  unfold fr_blockPower_b39 at h
  rw [(osome2 h).2] at G
  refine lv_tol (osome2 h).1 ?_
  exact kr39 _ _ _ G
def fr_blockPower (S : MS) (a0 : Int32) (a1 : Int32) (a2 : Int32) : Option (Int64 × MS) := obind2 (fr_isCell S a0) fun r5 S2 => obind2 (fr_mayAsk S2 r5) fun r9 S6 => if r9 = 0 then (some ((0 : Int64), S6)) else (obind2 (fr_isBlock S6 a1 a2) fun r14 S11 => if r14 = 0 then (obind2 (fr_throwsAt S11 3) fun r19 S16 => elet (r19.toInt64) fun v20 => fr_blockPower_b39 S16 v20) else (obind2 (fr_blockOf S11 a0 a1 a2) fun r24 S21 => fr_blockPower_b39 S21 r24))
set_option maxHeartbeats 4000000 in
set_option maxRecDepth 100000 in
theorem tr_blockPower (l : Launch) (D : va_G) (cI cJ cZ : ClassId) (ad : Nat → Nat) (S : MS) (a0 : Int32) (a1 : Int32) (a2 : Int32) {r1 : Int64} {S1 : MS} (h : fr_blockPower S a0 a1 a2 = some (r1, S1)) : mCl l yX12_blockPower (Cond.code yX12_blockPower cX12_blockPower 4 (some .long) :: wsM) 5 97 D cI cJ cZ ad S [.int a0, .int a1, .int a2] (fun r S9 => r = r1 ∧ S9 = S1) := by
  intro sz
  refine Met.ofW (cc := cX12_blockPower) (maxL := 4) (ret := (some .long)) (by decide) rfl ?_
  intro p e s m args below meth c s₁ B hml hv
  obtain ⟨rfl, hsz, hP, hK, hD0, hR⟩ := hv
  have hx := B.exec
  have hb := B.bytes
  have hr := B.returns
  have hts := atoms_spec (ws := (Cond.code yX12_blockPower cX12_blockPower 4 (some .long) :: wsM)) B.pre
  have hown : s.vm.findClass RX12 = some m.cls := findClass_of_methodNamed B.named
  have hlocks := B.notSynchronized
  subst hsz
  have hD := hD0.self (sz := s.heap.size)
  generalize hAe : va_A (MW cI cJ cZ ad S) s.heap.size = A at hD ⊢
  have hA : ∀ q : Nat, s.heap.size ≤ q → A q := fun q h => by rw [← hAe]; exact Or.inr h
  have G : mG D cI cJ cZ ad A s.heap s.heap [] S := ⟨hP, hD, va_S.rf⟩
  have E : mE p c cX12_blockPower s m ([.ref (ad 0), .int a0, .int a1, .int a2] : List Value).toArray (Cond.code yX12_blockPower cX12_blockPower 4 (some .long) :: wsM) D cI cJ cZ := ⟨hx, hb, hts, hown, hK, fun w h => .tail _ (iM_x h)⟩
  have hl := lv_entry ([.ref (ad 0), .int a0, .int a1, .int a2]) (n := 4) (Nat.le_of_ble_eq_true rfl)
  rw [lg_entry_eq]
  generalize (lg_sl ([.ref (ad 0), .int a0, .int a1, .int a2]) ++ List.replicate (4 - (lg_sl ([.ref (ad 0), .int a0, .int a1, .int a2])).length) Slot.unset).toArray = ls at hl ⊢
  have hl : lv_has ls 4 [(0, .ref (ad 0)), (1, .int a0), (2, .int a1), (3, .int a2)] := hl
  unfold fr_blockPower at h
  refine lv_aload_n hx hb dX12_blockPower_0 rfl (lv_at hl 0 rfl) ?_
  refine lv_aload_n hx hb dX12_blockPower_1 rfl (lv_at hl 0 rfl) ?_
  refine lv_iload_n hx hb dX12_blockPower_2 rfl (lv_at hl 1 rfl) ?_
  obtain ⟨r5, S2, eS2, h⟩ := obind2_some h
  refine m_calli (As := [.int a0]) (rest := [.ref (ad 0)]) E G hA hR hml (tr_isCell l D cI cJ cZ ad S a0 eS2) (cwV 1 hts (gmV qM_326 qM_327 qM_328 qM_35 qM_307) rfl rfl rfl (by decide +kernel) ⟨Nat.le_of_ble_eq_true rfl, Nat.le_of_ble_eq_true rfl⟩) rfl hl.1 rfl (lv_room (Nat.le_of_ble_eq_true rfl)) dX12_blockPower_3 ⟨Nat.zero_le _, Nat.zero_le _⟩ (fun q3 S4 H locs hq G => ?_)
  obtain ⟨hq1, hq2⟩ := hq
  rw [hq2] at G
  refine lv_to hq1 ?_
  clear hq1 hq2 eS2
  obtain ⟨r9, S6, eS6, h⟩ := obind2_some h
  refine m_calli (As := [.int r5]) (rest := []) E G hA hR hml (tr_mayAsk l D cI cJ cZ ad S2 r5 eS6) (cwV 1 hts (gmV qM_319 qM_320 qM_321 qM_35 qM_304) rfl rfl rfl (by decide +kernel) ⟨Nat.le_of_ble_eq_true rfl, Nat.le_of_ble_eq_true rfl⟩) rfl hl.1 rfl (lv_room (Nat.le_of_ble_eq_true rfl)) dX12_blockPower_6 ⟨Nat.zero_le _, Nat.zero_le _⟩ (fun q7 S8 H locs hq G => ?_)
  obtain ⟨hq1, hq2⟩ := hq
  rw [hq2] at G
  refine lv_to hq1 ?_
  clear hq1 hq2 eS6
  refine lv_if_ne (tgt := 14) hx hb dX12_blockPower_9 (by decide) (fun c10 => ?_) (fun c10 => ?_)
  · have h := oif_neg c10 h
    refine lv_aload_n hx hb dX12_blockPower_14 rfl (lv_at hl 0 rfl) ?_
    refine lv_iload_n hx hb dX12_blockPower_15 rfl (lv_at hl 2 rfl) ?_
    refine lv_iload_n hx hb dX12_blockPower_16 rfl (lv_at hl 3 rfl) ?_
    obtain ⟨r14, S11, eS11, h⟩ := obind2_some h
    refine m_calli (As := [.int a1, .int a2]) (rest := []) E G hA hR hml (tr_isBlock l D cI cJ cZ ad S6 a1 a2 eS11) (cwV 2 hts (gmV qM_403 qM_404 qM_405 qM_35 qM_401) rfl rfl rfl (by decide +kernel) ⟨Nat.le_of_ble_eq_true rfl, Nat.le_of_ble_eq_true rfl⟩) rfl hl.1 rfl (lv_room (Nat.le_of_ble_eq_true rfl)) dX12_blockPower_17 ⟨Nat.zero_le _, Nat.zero_le _⟩ (fun q12 S13 H locs hq G => ?_)
    obtain ⟨hq1, hq2⟩ := hq
    rw [hq2] at G
    refine lv_to hq1 ?_
    clear hq1 hq2 eS11
    refine lv_if_eq (tgt := 33) hx hb dX12_blockPower_20 (by decide) (fun c15 => ?_) (fun c15 => ?_)
    · have h := oif_pos c15 h
      refine lv_aload_n hx hb dX12_blockPower_33 rfl (lv_at hl 0 rfl) ?_
      refine lv_iconst (v := 3) hx hb dX12_blockPower_34 (by decide) ?_
      obtain ⟨r19, S16, eS16, h⟩ := obind2_some h
      refine m_calli (As := [.int 3]) (rest := []) E G hA hR hml (tr_throwsAt l D cI cJ cZ ad S11 3 eS16) (cwV 1 hts (gmV qM_195 qM_196 qM_197 qM_35 qM_28) rfl rfl rfl (by decide +kernel) ⟨Nat.le_of_ble_eq_true rfl, Nat.le_of_ble_eq_true rfl⟩) rfl hl.1 rfl (lv_room (Nat.le_of_ble_eq_true rfl)) dX12_blockPower_35 ⟨Nat.zero_le _, Nat.zero_le _⟩ (fun q17 S18 H locs hq G => ?_)
      obtain ⟨hq1, hq2⟩ := hq
      rw [hq2] at G
      refine lv_to hq1 ?_
      clear hq1 hq2 eS16
      refine lv_i2l (v := r19.toInt64) hx hb dX12_blockPower_38 rfl ?_
      refine lv_topl (fun v20 ev20 => ?_)
      have h := elet_at ev20 h
      clear ev20
      have hl := lv_sub hl [] rfl
      exact tr_blockPower_b39 E hA hR hml (fun H locs ls G => W.lret (v := r1) hx hb hr (fun t ht hW => ⟨⟨r1, S1, rfl, ⟨rfl, rfl⟩, ⟨by rw [ht]; exact G.1, va_K.moved hW.alike hK, G.2.1⟩⟩, G.2.2.F ht⟩) G.2.2.2.2 dX12_blockPower_13) (fun H locs ls G => W.lret (v := r1) hx hb hr (fun t ht hW => ⟨⟨r1, S1, rfl, ⟨rfl, rfl⟩, ⟨by rw [ht]; exact G.1, va_K.moved hW.alike hK, G.2.1⟩⟩, G.2.2.F ht⟩) G.2.2.2.2 dX12_blockPower_39) _ _ _ _ _ h G hl
    · have h := oif_neg c15 h
      refine lv_aload_n hx hb dX12_blockPower_23 rfl (lv_at hl 0 rfl) ?_
      refine lv_iload_n hx hb dX12_blockPower_24 rfl (lv_at hl 1 rfl) ?_
      refine lv_iload_n hx hb dX12_blockPower_25 rfl (lv_at hl 2 rfl) ?_
      refine lv_iload_n hx hb dX12_blockPower_26 rfl (lv_at hl 3 rfl) ?_
      obtain ⟨r24, S21, eS21, h⟩ := obind2_some h
      refine m_calll (As := [.int a0, .int a1, .int a2]) (rest := []) E G hA hR hml (tr_blockOf l D cI cJ cZ ad S11 a0 a1 a2 eS21) (cwV 3 hts (gmV qM_406 qM_407 qM_408 qM_35 qM_400) rfl rfl rfl (by decide +kernel) ⟨Nat.le_of_ble_eq_true rfl, Nat.le_of_ble_eq_true rfl⟩) rfl hl.1 rfl (lv_room (Nat.le_of_ble_eq_true rfl)) dX12_blockPower_27 ⟨Nat.zero_le _, Nat.zero_le _⟩ (fun q22 S23 H locs hq G => ?_)
      obtain ⟨hq1, hq2⟩ := hq
      rw [hq2] at G
      refine lv_tol hq1 ?_
      clear hq1 hq2 eS21
      refine lv_goto (tgt := 39) hx hb dX12_blockPower_30 (by decide) ?_
      have hl := lv_sub hl [] rfl
      exact tr_blockPower_b39 E hA hR hml (fun H locs ls G => W.lret (v := r1) hx hb hr (fun t ht hW => ⟨⟨r1, S1, rfl, ⟨rfl, rfl⟩, ⟨by rw [ht]; exact G.1, va_K.moved hW.alike hK, G.2.1⟩⟩, G.2.2.F ht⟩) G.2.2.2.2 dX12_blockPower_13) (fun H locs ls G => W.lret (v := r1) hx hb hr (fun t ht hW => ⟨⟨r1, S1, rfl, ⟨rfl, rfl⟩, ⟨by rw [ht]; exact G.1, va_K.moved hW.alike hK, G.2.1⟩⟩, G.2.2.F ht⟩) G.2.2.2.2 dX12_blockPower_39) _ _ _ _ _ h G hl
  · have h := oif_pos c10 h
    refine lv_lconst (v := 0) hx hb dX12_blockPower_12 (by decide) ?_
    exact W.lret (v := (0 : Int64)) hx hb hr (fun t ht hW => ⟨⟨(0 : Int64), S6, rfl, osome2 h, ⟨by rw [ht]; exact G.1, va_K.moved hW.alike hK, G.2.1⟩⟩, G.2.2.F ht⟩) G.2.2.2.2 dX12_blockPower_13
def fr_bestOfBlock_b51 (k14 : MS → Int32 → Int32 → Int32 → Int64 → Int32 → Option (Int32 × MS)) (S : MS) (l1 : Int32) (l2 : Int32) (l3 : Int32) (l4 : Int64) (l6 : Int32) : Option (Int32 × MS) := elet (l6 + Int32.ofInt (1)) fun v2 => k14 S l1 l2 l3 l4 v2
set_option maxHeartbeats 4000000 in
set_option maxRecDepth 100000 in
theorem tr_bestOfBlock_b51 {p : Program} {l : Launch} {e : Env} {s : State} {m : MethodId} {args : Array Value} {below : List Frame} {meth : Method} {c : Code} {Q : State → Prop} {D : va_G} {A : Nat → Prop} {H0 : Heap} {cI cJ cZ : ClassId} {ad : Nat → Nat} {r1 : Int32} {S1 : MS} (E : mE p c cX12_bestOfBlock s m args (Cond.code yX12_bestOfBlock cX12_bestOfBlock 9 (some .int) :: wsM) D cI cJ cZ) (hA : ∀ q : Nat, H0.size ≤ q → A q) (hR : sR s) (hml : c.maxLocals = 9) (kr58 : ∀ (H : Heap) (locs : List Loc) (ls : Array Slot), mG D cI cJ cZ ad A H0 H locs S1 → W p l e { frames := 5, cells := 0, slots := 0, locals := 97 } s m args below meth c H locs 0 0 Q (F0 m 58 ls [.int r1])) {k14 : MS → Int32 → Int32 → Int32 → Int64 → Int32 → Option (Int32 × MS)} (hk14 : ∀ (S : MS) (H : Heap) (locs : List Loc) (ls : Array Slot) (l1 : Int32) (l2 : Int32) (l3 : Int32) (l4 : Int64) (l6 : Int32), k14 S l1 l2 l3 l4 l6 = some (r1, S1) → mG D cI cJ cZ ad A H0 H locs S → lv_has ls 9 [(0, .ref (ad 0)), (1, .int l1), (2, .int l2), (3, .int l3), (4, .long l4), (6, .int l6)] → W p l e { frames := 5, cells := 0, slots := 0, locals := 97 } s m args below meth c H locs 0 0 Q (F0 m 14 ls [])) : ∀ (S : MS) (H : Heap) (locs : List Loc) (ls : Array Slot) (l1 : Int32) (l2 : Int32) (l3 : Int32) (l4 : Int64) (l6 : Int32), fr_bestOfBlock_b51 k14 S l1 l2 l3 l4 l6 = some (r1, S1) → mG D cI cJ cZ ad A H0 H locs S → lv_has ls 9 [(0, .ref (ad 0)), (1, .int l1), (2, .int l2), (3, .int l3), (4, .long l4), (6, .int l6)] → W p l e { frames := 5, cells := 0, slots := 0, locals := 97 } s m args below meth c H locs 0 0 Q (F0 m 51 ls []) := by
  have hx := E.1
  have hb := E.2.1
  have hts := E.2.2.1
  have hown := E.2.2.2.1
  have hK := E.2.2.2.2.1
  intro S H locs ls l1 l2 l3 l4 l6 h G hl
  unfold fr_bestOfBlock_b51 at h
  obtain ⟨v2, ev2, h⟩ := elet_some h
  refine lv_iinc (v := v2) (lv' := [(6, .int v2), (0, .ref (ad 0)), (1, .int l1), (2, .int l2), (3, .int l3), (4, .long l4)]) hx hb dX12_bestOfBlock_51 hl (k := 5) rfl ev2.symm (by decide) rfl (fun ls hl => ?_)
  refine lv_goto (tgt := 14) hx hb dX12_bestOfBlock_54 (by decide) ?_
  have hl := lv_sub hl [1, 2, 3, 4, 5, 0] rfl
  exact hk14 _ _ _ _ _ _ _ _ _ h G hl
def fr_bestOfBlock_b14  : Nat → MS → Int32 → Int32 → Int32 → Int64 → Int32 → Option (Int32 × MS)
  | 0, _, _, _, _, _, _ => none
  | n + 1, S, l1, l2, l3, l4, l6 => obind2 (fr_cellCount S) fun r5 S2 => if r5 ≤ l6 then (some (l3, S2)) else (obind2 (fr_blockOf S2 l6 l1 l2) fun r10 S7 => elet (lg_cmp r10 l4) fun v11 => if 0 < v11 then (fr_bestOfBlock_b51 (fr_bestOfBlock_b14 n) S7 l1 l2 l6 r10 l6) else (fr_bestOfBlock_b51 (fr_bestOfBlock_b14 n) S7 l1 l2 l3 l4 l6))
set_option maxHeartbeats 4000000 in
set_option maxRecDepth 100000 in
theorem tr_bestOfBlock_b14 {p : Program} {l : Launch} {e : Env} {s : State} {m : MethodId} {args : Array Value} {below : List Frame} {meth : Method} {c : Code} {Q : State → Prop} {D : va_G} {A : Nat → Prop} {H0 : Heap} {cI cJ cZ : ClassId} {ad : Nat → Nat} {r1 : Int32} {S1 : MS} (E : mE p c cX12_bestOfBlock s m args (Cond.code yX12_bestOfBlock cX12_bestOfBlock 9 (some .int) :: wsM) D cI cJ cZ) (hA : ∀ q : Nat, H0.size ≤ q → A q) (hR : sR s) (hml : c.maxLocals = 9) (kr58 : ∀ (H : Heap) (locs : List Loc) (ls : Array Slot), mG D cI cJ cZ ad A H0 H locs S1 → W p l e { frames := 5, cells := 0, slots := 0, locals := 97 } s m args below meth c H locs 0 0 Q (F0 m 58 ls [.int r1])) : ∀ n : Nat, ∀ (S : MS) (H : Heap) (locs : List Loc) (ls : Array Slot) (l1 : Int32) (l2 : Int32) (l3 : Int32) (l4 : Int64) (l6 : Int32), fr_bestOfBlock_b14 n S l1 l2 l3 l4 l6 = some (r1, S1) → mG D cI cJ cZ ad A H0 H locs S → lv_has ls 9 [(0, .ref (ad 0)), (1, .int l1), (2, .int l2), (3, .int l3), (4, .long l4), (6, .int l6)] → W p l e { frames := 5, cells := 0, slots := 0, locals := 97 } s m args below meth c H locs 0 0 Q (F0 m 14 ls []) := by
  have hx := E.1
  have hb := E.2.1
  have hts := E.2.2.1
  have hown := E.2.2.2.1
  have hK := E.2.2.2.2.1
  intro n
  induction n with
  | zero =>
    intro S H locs ls l1 l2 l3 l4 l6 h
    have h : (none : Option (Int32 × MS)) = some (r1, S1) := h
    cases h
  | succ n ih =>
    intro S H locs ls l1 l2 l3 l4 l6 h G hl
    unfold fr_bestOfBlock_b14 at h
    refine lv_iload hx hb dX12_bestOfBlock_14 (lv_at hl 5 rfl) ?_
    refine lv_aload_n hx hb dX12_bestOfBlock_16 rfl (lv_at hl 0 rfl) ?_
    obtain ⟨r5, S2, eS2, h⟩ := obind2_some h
    refine m_calli (As := []) (rest := [.int l6]) E G hA hR hml (tr_cellCount l D cI cJ cZ ad S eS2) (cwV 0 hts (gmV qM_204 qM_205 qM_206 qM_35 qM_207) rfl rfl rfl (by decide +kernel) ⟨Nat.le_of_ble_eq_true rfl, Nat.le_of_ble_eq_true rfl⟩) rfl hl.1 rfl (lv_room (Nat.le_of_ble_eq_true rfl)) dX12_bestOfBlock_17 ⟨Nat.zero_le _, Nat.zero_le _⟩ (fun q3 S4 H locs hq G => ?_)
    obtain ⟨hq1, hq2⟩ := hq
    rw [hq2] at G
    refine lv_to hq1 ?_
    clear hq1 hq2 eS2
    refine lv_icmp_ge (tgt := 57) hx hb dX12_bestOfBlock_20 (by decide) (fun c6 => ?_) (fun c6 => ?_)
    · have h := oif_pos c6 h
      refine lv_iload_n hx hb dX12_bestOfBlock_57 rfl (lv_at hl 3 rfl) ?_
      rw [(osome2 h).2] at G
      refine lv_to (osome2 h).1 ?_
      exact kr58 _ _ _ G
    · have h := oif_neg c6 h
      refine lv_aload_n hx hb dX12_bestOfBlock_23 rfl (lv_at hl 0 rfl) ?_
      refine lv_iload hx hb dX12_bestOfBlock_24 (lv_at hl 5 rfl) ?_
      refine lv_iload_n hx hb dX12_bestOfBlock_26 rfl (lv_at hl 1 rfl) ?_
      refine lv_iload_n hx hb dX12_bestOfBlock_27 rfl (lv_at hl 2 rfl) ?_
      obtain ⟨r10, S7, eS7, h⟩ := obind2_some h
      refine m_calll (As := [.int l6, .int l1, .int l2]) (rest := []) E G hA hR hml (tr_blockOf l D cI cJ cZ ad S2 l6 l1 l2 eS7) (cwV 3 hts (gmV qM_406 qM_407 qM_408 qM_35 qM_400) rfl rfl rfl (by decide +kernel) ⟨Nat.le_of_ble_eq_true rfl, Nat.le_of_ble_eq_true rfl⟩) rfl hl.1 rfl (lv_room (Nat.le_of_ble_eq_true rfl)) dX12_bestOfBlock_28 ⟨Nat.zero_le _, Nat.zero_le _⟩ (fun q8 S9 H locs hq G => ?_)
      obtain ⟨hq1, hq2⟩ := hq
      rw [hq2] at G
      refine lv_tol hq1 ?_
      clear hq1 hq2 eS7
      refine lv_lstore (lv' := [(7, .long r10), (0, .ref (ad 0)), (1, .int l1), (2, .int l2), (3, .int l3), (4, .long l4), (6, .int l6)]) hx hb dX12_bestOfBlock_31 hl (by decide) rfl (fun ls hl => ?_)
      refine lv_lload hx hb dX12_bestOfBlock_33 (lv_at hl 0 rfl) ?_
      refine lv_lload hx hb dX12_bestOfBlock_35 (lv_at hl 5 rfl) ?_
      refine W.lcmp hx hb dX12_bestOfBlock_37 ?_
      refine lv_topi (fun v11 ev11 => ?_)
      have h := elet_at ev11 h
      clear ev11
      refine lv_if_gt (tgt := 44) hx hb dX12_bestOfBlock_38 (by decide) (fun c12 => ?_) (fun c12 => ?_)
      · have h := oif_pos c12 h
        refine lv_iload hx hb dX12_bestOfBlock_44 (lv_at hl 6 rfl) ?_
        refine lv_istore_n (lv' := [(3, .int l6), (7, .long r10), (0, .ref (ad 0)), (1, .int l1), (2, .int l2), (4, .long l4), (6, .int l6)]) hx hb dX12_bestOfBlock_46 rfl hl (by decide) rfl (fun ls hl => ?_)
        refine lv_lload hx hb dX12_bestOfBlock_47 (lv_at hl 1 rfl) ?_
        refine lv_lstore (lv' := [(4, .long r10), (3, .int l6), (7, .long r10), (0, .ref (ad 0)), (1, .int l1), (2, .int l2), (6, .int l6)]) hx hb dX12_bestOfBlock_49 hl (by decide) rfl (fun ls hl => ?_)
        have hl := lv_sub hl [3, 4, 5, 1, 0, 6] rfl
        exact tr_bestOfBlock_b51 E hA hR hml kr58 ih _ _ _ _ _ _ _ _ _ h G hl
      · have h := oif_neg c12 h
        refine lv_goto (tgt := 51) hx hb dX12_bestOfBlock_41 (by decide) ?_
        have hl := lv_sub hl [1, 2, 3, 4, 5, 6] rfl
        exact tr_bestOfBlock_b51 E hA hR hml kr58 ih _ _ _ _ _ _ _ _ _ h G hl
def fr_bestOfBlock (S : MS) (a0 : Int32) (a1 : Int32) : Option (Int32 × MS) := obind2 (fr_blockOf S 0 a0 a1) fun r5 S2 => fr_bestOfBlock_b14 16384 S2 a0 a1 0 r5 1
set_option maxHeartbeats 4000000 in
set_option maxRecDepth 100000 in
theorem tr_bestOfBlock (l : Launch) (D : va_G) (cI cJ cZ : ClassId) (ad : Nat → Nat) (S : MS) (a0 : Int32) (a1 : Int32) {r1 : Int32} {S1 : MS} (h : fr_bestOfBlock S a0 a1 = some (r1, S1)) : mCi l yX12_bestOfBlock (Cond.code yX12_bestOfBlock cX12_bestOfBlock 9 (some .int) :: wsM) 5 97 D cI cJ cZ ad S [.int a0, .int a1] (fun r S9 => r = r1 ∧ S9 = S1) := by
  intro sz
  refine Met.ofW (cc := cX12_bestOfBlock) (maxL := 9) (ret := (some .int)) (by decide) rfl ?_
  intro p e s m args below meth c s₁ B hml hv
  obtain ⟨rfl, hsz, hP, hK, hD0, hR⟩ := hv
  have hx := B.exec
  have hb := B.bytes
  have hr := B.returns
  have hts := atoms_spec (ws := (Cond.code yX12_bestOfBlock cX12_bestOfBlock 9 (some .int) :: wsM)) B.pre
  have hown : s.vm.findClass RX12 = some m.cls := findClass_of_methodNamed B.named
  have hlocks := B.notSynchronized
  subst hsz
  have hD := hD0.self (sz := s.heap.size)
  generalize hAe : va_A (MW cI cJ cZ ad S) s.heap.size = A at hD ⊢
  have hA : ∀ q : Nat, s.heap.size ≤ q → A q := fun q h => by rw [← hAe]; exact Or.inr h
  have G : mG D cI cJ cZ ad A s.heap s.heap [] S := ⟨hP, hD, va_S.rf⟩
  have E : mE p c cX12_bestOfBlock s m ([.ref (ad 0), .int a0, .int a1] : List Value).toArray (Cond.code yX12_bestOfBlock cX12_bestOfBlock 9 (some .int) :: wsM) D cI cJ cZ := ⟨hx, hb, hts, hown, hK, fun w h => .tail _ (iM_x h)⟩
  have hl := lv_entry ([.ref (ad 0), .int a0, .int a1]) (n := 9) (Nat.le_of_ble_eq_true rfl)
  rw [lg_entry_eq]
  generalize (lg_sl ([.ref (ad 0), .int a0, .int a1]) ++ List.replicate (9 - (lg_sl ([.ref (ad 0), .int a0, .int a1])).length) Slot.unset).toArray = ls at hl ⊢
  have hl : lv_has ls 9 [(0, .ref (ad 0)), (1, .int a0), (2, .int a1)] := hl
  unfold fr_bestOfBlock at h
  refine lv_iconst (v := 0) hx hb dX12_bestOfBlock_0 (by decide) ?_
  refine lv_istore_n (lv' := [(3, .int 0), (0, .ref (ad 0)), (1, .int a0), (2, .int a1)]) hx hb dX12_bestOfBlock_1 rfl hl (by decide) rfl (fun ls hl => ?_)
  refine lv_aload_n hx hb dX12_bestOfBlock_2 rfl (lv_at hl 1 rfl) ?_
  refine lv_iconst (v := 0) hx hb dX12_bestOfBlock_3 (by decide) ?_
  refine lv_iload_n hx hb dX12_bestOfBlock_4 rfl (lv_at hl 2 rfl) ?_
  refine lv_iload_n hx hb dX12_bestOfBlock_5 rfl (lv_at hl 3 rfl) ?_
  obtain ⟨r5, S2, eS2, h⟩ := obind2_some h
  refine m_calll (As := [.int 0, .int a0, .int a1]) (rest := []) E G hA hR hml (tr_blockOf l D cI cJ cZ ad S 0 a0 a1 eS2) (cwV 3 hts (gmV qM_406 qM_407 qM_408 qM_35 qM_400) rfl rfl rfl (by decide +kernel) ⟨Nat.le_of_ble_eq_true rfl, Nat.le_of_ble_eq_true rfl⟩) rfl hl.1 rfl (lv_room (Nat.le_of_ble_eq_true rfl)) dX12_bestOfBlock_6 ⟨Nat.zero_le _, Nat.zero_le _⟩ (fun q3 S4 H locs hq G => ?_)
  obtain ⟨hq1, hq2⟩ := hq
  rw [hq2] at G
  refine lv_tol hq1 ?_
  clear hq1 hq2 eS2
  refine lv_lstore (lv' := [(4, .long r5), (3, .int 0), (0, .ref (ad 0)), (1, .int a0), (2, .int a1)]) hx hb dX12_bestOfBlock_9 hl (by decide) rfl (fun ls hl => ?_)
  refine lv_iconst (v := 1) hx hb dX12_bestOfBlock_11 (by decide) ?_
  refine lv_istore (lv' := [(6, .int 1), (4, .long r5), (3, .int 0), (0, .ref (ad 0)), (1, .int a0), (2, .int a1)]) hx hb dX12_bestOfBlock_12 hl (by decide) rfl (fun ls hl => ?_)
  have hl := lv_sub hl [3, 4, 5, 2, 1, 0] rfl
  exact tr_bestOfBlock_b14 E hA hR hml (fun H locs ls G => W.iret (v := r1) hx hb hr (fun t ht hW => ⟨⟨r1, S1, rfl, ⟨rfl, rfl⟩, ⟨by rw [ht]; exact G.1, va_K.moved hW.alike hK, G.2.1⟩⟩, G.2.2.F ht⟩) G.2.2.2.2 dX12_bestOfBlock_58) _ _ _ _ _ _ _ _ _ _ h G hl
end
