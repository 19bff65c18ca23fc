section
/-! 11h.dec6.lean.txt -/
def fr_blockBest_b23  (S : MS) (s0 : Int32) : Option (Int32 × MS) := some (s0, S)
set_option maxHeartbeats 4000000 in
set_option maxRecDepth 100000 in
theorem tr_blockBest_b23 {p : Program} {l : Launch} {e : Env} {s : State} {m : MethodId} {args : Array Value} {below : List Frame} {meth : Method} {c : Code} {Q : State → Prop} {D : va_G} {A : Nat → Prop} {H0 : Heap} {cI cJ cZ : ClassId} {ad : Nat → Nat} {r1 : Int32} {S1 : MS} (E : mE p c cX12_blockBest s m args (Cond.code yX12_blockBest cX12_blockBest 3 (some .int) :: wsM) D cI cJ cZ) (hA : ∀ q : Nat, H0.size ≤ q → A q) (hR : sR s) (hml : c.maxLocals = 3) (kr23 : ∀ (H : Heap) (locs : List Loc) (ls : Array Slot), mG D cI cJ cZ ad A H0 H locs S1 → W p l e { frames := 6, cells := 0, slots := 0, locals := 125 } s m args below meth c H locs 0 0 Q (F0 m 23 ls [.int r1])) : ∀ (S : MS) (H : Heap) (locs : List Loc) (ls : Array Slot) (s0 : Int32), fr_blockBest_b23 S s0 = some (r1, S1) → mG D cI cJ cZ ad A H0 H locs S → lv_has ls 3 [] → W p l e { frames := 6, cells := 0, slots := 0, locals := 125 } s m args below meth c H locs 0 0 Q (F0 m 23 ls [.int s0]) := by
  have hx := E.1
  have hb := E.2.1
  have hts := E.2.2.1
  have hown := E.2.2.2.1
  have hK := E.2.2.2.2.1
  intro S H locs ls s0 h G hl
  unfold fr_blockBest_b23 at h
  rw [(osome2 h).2] at G
  refine lv_to (osome2 h).1 ?_
  exact kr23 _ _ _ G
def fr_blockBest (S : MS) (a0 : Int32) (a1 : Int32) : Option (Int32 × MS) := obind2 (fr_isBlock S a0 a1) fun r5 S2 => obind2 (fr_mayAsk S2 r5) fun r9 S6 => if r9 = 0 then (fr_blockBest_b23 S6 0) else (obind2 (fr_bestOfBlock S6 a0 a1) fun r14 S11 => fr_blockBest_b23 S11 r14)
set_option maxHeartbeats 4000000 in
set_option maxRecDepth 100000 in
theorem tr_blockBest (l : Launch) (D : va_G) (cI cJ cZ : ClassId) (ad : Nat → Nat) (S : MS) (a0 : Int32) (a1 : Int32) {r1 : Int32} {S1 : MS} (h : fr_blockBest S a0 a1 = some (r1, S1)) : mCi l yX12_blockBest (Cond.code yX12_blockBest cX12_blockBest 3 (some .int) :: wsM) 6 125 D cI cJ cZ ad S [.int a0, .int a1] (fun r S9 => r = r1 ∧ S9 = S1) := by
  intro sz
  refine Met.ofW (cc := cX12_blockBest) (maxL := 3) (ret := (some .int)) (by decide) rfl ?_
  intro p e s m args below meth c s₁ B hml hv
  obtain ⟨rfl, hsz, hP, hK, hD0, hR⟩ := hv
  have hx := B.exec
  have hb := B.bytes
  have hr := B.returns
  have hts := atoms_spec (ws := (Cond.code yX12_blockBest cX12_blockBest 3 (some .int) :: wsM)) B.pre
  have hown : s.vm.findClass RX12 = some m.cls := findClass_of_methodNamed B.named
  have hlocks := B.notSynchronized
  subst hsz
  have hD := hD0.self (sz := s.heap.size)
  generalize hAe : va_A (MW cI cJ cZ ad S) s.heap.size = A at hD ⊢
  have hA : ∀ q : Nat, s.heap.size ≤ q → A q := fun q h => by rw [← hAe]; exact Or.inr h
  have G : mG D cI cJ cZ ad A s.heap s.heap [] S := ⟨hP, hD, va_S.rf⟩
  have E : mE p c cX12_blockBest s m ([.ref (ad 0), .int a0, .int a1] : List Value).toArray (Cond.code yX12_blockBest cX12_blockBest 3 (some .int) :: wsM) D cI cJ cZ := ⟨hx, hb, hts, hown, hK, fun w h => .tail _ (iM_x h)⟩
  have hl := lv_entry ([.ref (ad 0), .int a0, .int a1]) (n := 3) (Nat.le_of_ble_eq_true rfl)
  rw [lg_entry_eq]
  generalize (lg_sl ([.ref (ad 0), .int a0, .int a1]) ++ List.replicate (3 - (lg_sl ([.ref (ad 0), .int a0, .int a1])).length) Slot.unset).toArray = ls at hl ⊢
  have hl : lv_has ls 3 [(0, .ref (ad 0)), (1, .int a0), (2, .int a1)] := hl
  unfold fr_blockBest at h
  refine lv_aload_n hx hb dX12_blockBest_0 rfl (lv_at hl 0 rfl) ?_
  refine lv_aload_n hx hb dX12_blockBest_1 rfl (lv_at hl 0 rfl) ?_
  refine lv_iload_n hx hb dX12_blockBest_2 rfl (lv_at hl 1 rfl) ?_
  refine lv_iload_n hx hb dX12_blockBest_3 rfl (lv_at hl 2 rfl) ?_
  obtain ⟨r5, S2, eS2, h⟩ := obind2_some h
  refine m_calli (As := [.int a0, .int a1]) (rest := [.ref (ad 0)]) E G hA hR hml (tr_isBlock l D cI cJ cZ ad S a0 a1 eS2) (cwV 2 hts (gmV qM_403 qM_404 qM_405 qM_35 qM_401) rfl rfl rfl (by decide +kernel) ⟨Nat.le_of_ble_eq_true rfl, Nat.le_of_ble_eq_true rfl⟩) rfl hl.1 rfl (lv_room (Nat.le_of_ble_eq_true rfl)) dX12_blockBest_4 ⟨Nat.zero_le _, Nat.zero_le _⟩ (fun q3 S4 H locs hq G => ?_)
  obtain ⟨hq1, hq2⟩ := hq
  rw [hq2] at G
  refine lv_to hq1 ?_
  clear hq1 hq2 eS2
  obtain ⟨r9, S6, eS6, h⟩ := obind2_some h
  refine m_calli (As := [.int r5]) (rest := []) E G hA hR hml (tr_mayAsk l D cI cJ cZ ad S2 r5 eS6) (cwV 1 hts (gmV qM_319 qM_320 qM_321 qM_35 qM_304) rfl rfl rfl (by decide +kernel) ⟨Nat.le_of_ble_eq_true rfl, Nat.le_of_ble_eq_true rfl⟩) rfl hl.1 rfl (lv_room (Nat.le_of_ble_eq_true rfl)) dX12_blockBest_7 ⟨Nat.zero_le _, Nat.zero_le _⟩ (fun q7 S8 H locs hq G => ?_)
  obtain ⟨hq1, hq2⟩ := hq
  rw [hq2] at G
  refine lv_to hq1 ?_
  clear hq1 hq2 eS6
  refine lv_if_eq (tgt := 22) hx hb dX12_blockBest_10 (by decide) (fun c10 => ?_) (fun c10 => ?_)
  · have h := oif_pos c10 h
    refine lv_iconst (v := 0) hx hb dX12_blockBest_22 (by decide) ?_
    have hl := lv_sub hl [] rfl
    exact tr_blockBest_b23 E hA hR hml (fun H locs ls G => W.iret (v := r1) hx hb hr (fun t ht hW => ⟨⟨r1, S1, rfl, ⟨rfl, rfl⟩, ⟨by rw [ht]; exact G.1, va_K.moved hW.alike hK, G.2.1⟩⟩, G.2.2.F ht⟩) G.2.2.2.2 dX12_blockBest_23) _ _ _ _ _ h G hl
  · have h := oif_neg c10 h
    refine lv_aload_n hx hb dX12_blockBest_13 rfl (lv_at hl 0 rfl) ?_
    refine lv_iload_n hx hb dX12_blockBest_14 rfl (lv_at hl 1 rfl) ?_
    refine lv_iload_n hx hb dX12_blockBest_15 rfl (lv_at hl 2 rfl) ?_
    obtain ⟨r14, S11, eS11, h⟩ := obind2_some h
    refine m_calli (As := [.int a0, .int a1]) (rest := []) E G hA hR hml (tr_bestOfBlock l D cI cJ cZ ad S6 a0 a1 eS11) (cwV 2 hts (gmV qM_411 qM_412 qM_413 qM_35 qM_409) rfl rfl rfl (by decide +kernel) ⟨Nat.le_of_ble_eq_true rfl, Nat.le_of_ble_eq_true rfl⟩) rfl hl.1 rfl (lv_room (Nat.le_of_ble_eq_true rfl)) dX12_blockBest_16 ⟨Nat.zero_le _, Nat.zero_le _⟩ (fun q12 S13 H locs hq G => ?_)
    obtain ⟨hq1, hq2⟩ := hq
    rw [hq2] at G
    refine lv_to hq1 ?_
    clear hq1 hq2 eS11
    refine lv_goto (tgt := 23) hx hb dX12_blockBest_19 (by decide) ?_
    have hl := lv_sub hl [] rfl
    exact tr_blockBest_b23 E hA hR hml (fun H locs ls G => W.iret (v := r1) hx hb hr (fun t ht hW => ⟨⟨r1, S1, rfl, ⟨rfl, rfl⟩, ⟨by rw [ht]; exact G.1, va_K.moved hW.alike hK, G.2.1⟩⟩, G.2.2.F ht⟩) G.2.2.2.2 dX12_blockBest_23) _ _ _ _ _ h G hl
def fr_path_b66 (k32 : MS → Int32 → Int32 → Int32 → Int32 → Option (Int32 × MS)) (S : MS) (s0 : Int32) (s1 : Int32) (l1 : Int32) (l4 : Int32) (l5 : Int32) : Option (Int32 × MS) := elet (s1 + s0) fun v2 => elet (l4 + l1) fun v3 => k32 S l1 v2 l5 v3
set_option maxHeartbeats 4000000 in
set_option maxRecDepth 100000 in
theorem tr_path_b66 {p : Program} {l : Launch} {e : Env} {s : State} {m : MethodId} {args : Array Value} {below : List Frame} {meth : Method} {c : Code} {Q : State → Prop} {D : va_G} {A : Nat → Prop} {H0 : Heap} {cI cJ cZ : ClassId} {ad : Nat → Nat} {r1 : Int32} {S1 : MS} (E : mE p c cX12_path s m args (Cond.code yX12_path cX12_path 6 (some .int) :: wsM) D cI cJ cZ) (hA : ∀ q : Nat, H0.size ≤ q → A q) (hR : sR s) (hml : c.maxLocals = 6) (kr19 : ∀ (H : Heap) (locs : List Loc) (ls : Array Slot), mG D cI cJ cZ ad A H0 H locs S1 → W p l e { frames := 6, cells := 0, slots := 0, locals := 125 } s m args below meth c H locs 0 0 Q (F0 m 19 ls [.int r1])) (kr81 : ∀ (H : Heap) (locs : List Loc) (ls : Array Slot), mG D cI cJ cZ ad A H0 H locs S1 → W p l e { frames := 6, cells := 0, slots := 0, locals := 125 } s m args below meth c H locs 0 0 Q (F0 m 81 ls [.int r1])) {k32 : MS → Int32 → Int32 → Int32 → Int32 → Option (Int32 × MS)} (hk32 : ∀ (S : MS) (H : Heap) (locs : List Loc) (ls : Array Slot) (l1 : Int32) (l2 : Int32) (l3 : Int32) (l4 : Int32), k32 S l1 l2 l3 l4 = some (r1, S1) → mG D cI cJ cZ ad A H0 H locs S → lv_has ls 6 [(0, .ref (ad 0)), (1, .int l1), (2, .int l2), (3, .int l3), (4, .int l4)] → W p l e { frames := 6, cells := 0, slots := 0, locals := 125 } s m args below meth c H locs 0 0 Q (F0 m 32 ls [])) : ∀ (S : MS) (H : Heap) (locs : List Loc) (ls : Array Slot) (s0 : Int32) (s1 : Int32) (l1 : Int32) (l4 : Int32) (l5 : Int32), fr_path_b66 k32 S s0 s1 l1 l4 l5 = some (r1, S1) → mG D cI cJ cZ ad A H0 H locs S → lv_has ls 6 [(0, .ref (ad 0)), (1, .int l1), (4, .int l4), (5, .int l5)] → W p l e { frames := 6, cells := 0, slots := 0, locals := 125 } s m args below meth c H locs 0 0 Q (F0 m 66 ls [.int s0, .int s1]) := by
  have hx := E.1
  have hb := E.2.1
  have hts := E.2.2.1
  have hown := E.2.2.2.1
  have hK := E.2.2.2.2.1
  intro S H locs ls s0 s1 l1 l4 l5 h G hl
  unfold fr_path_b66 at h
  refine lv_iadd hx hb dX12_path_66 ?_
  refine lv_topi (fun v2 ev2 => ?_)
  have h := elet_at ev2 h
  clear ev2
  refine lv_istore_n (lv' := [(2, .int v2), (0, .ref (ad 0)), (1, .int l1), (4, .int l4), (5, .int l5)]) hx hb dX12_path_67 rfl hl (by decide) rfl (fun ls hl => ?_)
  refine lv_iload hx hb dX12_path_68 (lv_at hl 4 rfl) ?_
  refine lv_istore_n (lv' := [(3, .int l5), (2, .int v2), (0, .ref (ad 0)), (1, .int l1), (4, .int l4), (5, .int l5)]) hx hb dX12_path_70 rfl hl (by decide) rfl (fun ls hl => ?_)
  refine lv_iload hx hb dX12_path_71 (lv_at hl 4 rfl) ?_
  refine lv_iload_n hx hb dX12_path_73 rfl (lv_at hl 3 rfl) ?_
  refine lv_iadd hx hb dX12_path_74 ?_
  refine lv_topi (fun v3 ev3 => ?_)
  have h := elet_at ev3 h
  clear ev3
  refine lv_istore (lv' := [(4, .int v3), (3, .int l5), (2, .int v2), (0, .ref (ad 0)), (1, .int l1), (5, .int l5)]) hx hb dX12_path_75 hl (by decide) rfl (fun ls hl => ?_)
  refine lv_goto (tgt := 32) hx hb dX12_path_77 (by decide) ?_
  have hl := lv_sub hl [3, 4, 2, 1, 0] rfl
  exact hk32 _ _ _ _ _ _ _ _ h G hl
def fr_path_b32  : Nat → MS → Int32 → Int32 → Int32 → Int32 → Option (Int32 × MS)
  | 0, _, _, _, _, _ => none
  | n + 1, S, l1, l2, l3, l4 => elet (l4 + l1) fun v2 => elet (S.2.1 10 2) fun v3 => if v3 < v2 then (some (l2, S)) else (obind2 (fr_bestOfBlock S l4 l1) fun r8 S5 => if r8 = l3 then (fr_path_b66 (fr_path_b32 n) S5 0 l2 l1 l4 r8) else (fr_path_b66 (fr_path_b32 n) S5 1 l2 l1 l4 r8))
set_option maxHeartbeats 4000000 in
set_option maxRecDepth 100000 in
theorem tr_path_b32 {p : Program} {l : Launch} {e : Env} {s : State} {m : MethodId} {args : Array Value} {below : List Frame} {meth : Method} {c : Code} {Q : State → Prop} {D : va_G} {A : Nat → Prop} {H0 : Heap} {cI cJ cZ : ClassId} {ad : Nat → Nat} {r1 : Int32} {S1 : MS} (E : mE p c cX12_path s m args (Cond.code yX12_path cX12_path 6 (some .int) :: wsM) D cI cJ cZ) (hA : ∀ q : Nat, H0.size ≤ q → A q) (hR : sR s) (hml : c.maxLocals = 6) (kr19 : ∀ (H : Heap) (locs : List Loc) (ls : Array Slot), mG D cI cJ cZ ad A H0 H locs S1 → W p l e { frames := 6, cells := 0, slots := 0, locals := 125 } s m args below meth c H locs 0 0 Q (F0 m 19 ls [.int r1])) (kr81 : ∀ (H : Heap) (locs : List Loc) (ls : Array Slot), mG D cI cJ cZ ad A H0 H locs S1 → W p l e { frames := 6, cells := 0, slots := 0, locals := 125 } s m args below meth c H locs 0 0 Q (F0 m 81 ls [.int r1])) : ∀ n : Nat, ∀ (S : MS) (H : Heap) (locs : List Loc) (ls : Array Slot) (l1 : Int32) (l2 : Int32) (l3 : Int32) (l4 : Int32), fr_path_b32 n S l1 l2 l3 l4 = some (r1, S1) → mG D cI cJ cZ ad A H0 H locs S → lv_has ls 6 [(0, .ref (ad 0)), (1, .int l1), (2, .int l2), (3, .int l3), (4, .int l4)] → W p l e { frames := 6, cells := 0, slots := 0, locals := 125 } s m args below meth c H locs 0 0 Q (F0 m 32 ls []) := by
  have hx := E.1
  have hb := E.2.1
  have hts := E.2.2.1
  have hown := E.2.2.2.1
  have hK := E.2.2.2.2.1
  intro n
  induction n with
  | zero =>
    intro S H locs ls l1 l2 l3 l4 h
    have h : (none : Option (Int32 × MS)) = some (r1, S1) := h
    cases h
  | succ n ih =>
    intro S H locs ls l1 l2 l3 l4 h G hl
    unfold fr_path_b32 at h
    refine lv_iload hx hb dX12_path_32 (lv_at hl 4 rfl) ?_
    refine lv_iload_n hx hb dX12_path_34 rfl (lv_at hl 1 rfl) ?_
    refine lv_iadd hx hb dX12_path_35 ?_
    refine lv_topi (fun v2 ev2 => ?_)
    have h := elet_at ev2 h
    clear ev2
    refine lv_aload_n hx hb dX12_path_36 rfl (lv_at hl 0 rfl) ?_
    refine m_get E G 10 (v := .ref (ad 10)) (by decide) (.tail _ qM_7) rfl dX12_path_37 rfl ?_
    refine lv_iconst (v := 2) hx hb dX12_path_40 (by decide) ?_
    refine m_iald E G 10 2 (n := 131) (k := 2) rfl rfl (by decide) (by decide) dX12_path_41 ?_
    refine lv_topi (fun v3 ev3 => ?_)
    have h := elet_at ev3 h
    clear ev3
    refine lv_icmp_gt (tgt := 80) hx hb dX12_path_42 (by decide) (fun c4 => ?_) (fun c4 => ?_)
    · have h := oif_pos c4 h
      refine lv_iload_n hx hb dX12_path_80 rfl (lv_at hl 2 rfl) ?_
      rw [(osome2 h).2] at G
      refine lv_to (osome2 h).1 ?_
      exact kr81 _ _ _ G
    · have h := oif_neg c4 h
      refine lv_aload_n hx hb dX12_path_45 rfl (lv_at hl 0 rfl) ?_
      refine lv_iload hx hb dX12_path_46 (lv_at hl 4 rfl) ?_
      refine lv_iload_n hx hb dX12_path_48 rfl (lv_at hl 1 rfl) ?_
      obtain ⟨r8, S5, eS5, h⟩ := obind2_some h
      refine m_calli (As := [.int l4, .int l1]) (rest := []) E G hA hR hml (tr_bestOfBlock l D cI cJ cZ ad S l4 l1 eS5) (cwV 2 hts (gmV qM_411 qM_412 qM_413 qM_35 qM_409) rfl rfl rfl (by decide +kernel) ⟨Nat.le_of_ble_eq_true rfl, Nat.le_of_ble_eq_true rfl⟩) rfl hl.1 rfl (lv_room (Nat.le_of_ble_eq_true rfl)) dX12_path_49 ⟨Nat.zero_le _, Nat.zero_le _⟩ (fun q6 S7 H locs hq G => ?_)
      obtain ⟨hq1, hq2⟩ := hq
      rw [hq2] at G
      refine lv_to hq1 ?_
      clear hq1 hq2 eS5
      refine lv_istore (lv' := [(5, .int r8), (0, .ref (ad 0)), (1, .int l1), (2, .int l2), (3, .int l3), (4, .int l4)]) hx hb dX12_path_52 hl (by decide) rfl (fun ls hl => ?_)
      refine lv_iload_n hx hb dX12_path_54 rfl (lv_at hl 3 rfl) ?_
      refine lv_iload hx hb dX12_path_55 (lv_at hl 0 rfl) ?_
      refine lv_iload_n hx hb dX12_path_57 rfl (lv_at hl 4 rfl) ?_
      refine lv_icmp_eq (tgt := 65) hx hb dX12_path_58 (by decide) (fun c9 => ?_) (fun c9 => ?_)
      · have h := oif_pos c9 h
        refine lv_iconst (v := 0) hx hb dX12_path_65 (by decide) ?_
        have hl := lv_sub hl [1, 2, 5, 0] rfl
        exact tr_path_b66 E hA hR hml kr19 kr81 ih _ _ _ _ _ _ _ _ _ h G hl
      · have h := oif_neg c9 h
        refine lv_iconst (v := 1) hx hb dX12_path_61 (by decide) ?_
        refine lv_goto (tgt := 66) hx hb dX12_path_62 (by decide) ?_
        have hl := lv_sub hl [1, 2, 5, 0] rfl
        exact tr_path_b66 E hA hR hml kr19 kr81 ih _ _ _ _ _ _ _ _ _ h G hl
def fr_path (S : MS) (a0 : Int32) : Option (Int32 × MS) := elet (S.2.1 10 2) fun v2 => obind (fr_in a0 4 v2) fun r3 => obind2 (fr_mayAsk S r3) fun r8 S5 => if r8 = 0 then (some (0, S5)) else (obind2 (fr_bestOfBlock S5 0 a0) fun r13 S10 => fr_path_b32 16384 S10 a0 0 r13 a0)
set_option maxHeartbeats 4000000 in
set_option maxRecDepth 100000 in
theorem tr_path (l : Launch) (D : va_G) (cI cJ cZ : ClassId) (ad : Nat → Nat) (S : MS) (a0 : Int32) {r1 : Int32} {S1 : MS} (h : fr_path S a0 = some (r1, S1)) : mCi l yX12_path (Cond.code yX12_path cX12_path 6 (some .int) :: wsM) 6 125 D cI cJ cZ ad S [.int a0] (fun r S9 => r = r1 ∧ S9 = S1) := by
  intro sz
  refine Met.ofW (cc := cX12_path) (maxL := 6) (ret := (some .int)) (by decide) rfl ?_
  intro p e s m args below meth c s₁ B hml hv
  obtain ⟨rfl, hsz, hP, hK, hD0, hR⟩ := hv
  have hx := B.exec
  have hb := B.bytes
  have hr := B.returns
  have hts := atoms_spec (ws := (Cond.code yX12_path cX12_path 6 (some .int) :: wsM)) B.pre
  have hown : s.vm.findClass RX12 = some m.cls := findClass_of_methodNamed B.named
  have hlocks := B.notSynchronized
  subst hsz
  have hD := hD0.self (sz := s.heap.size)
  generalize hAe : va_A (MW cI cJ cZ ad S) s.heap.size = A at hD ⊢
  have hA : ∀ q : Nat, s.heap.size ≤ q → A q := fun q h => by rw [← hAe]; exact Or.inr h
  have G : mG D cI cJ cZ ad A s.heap s.heap [] S := ⟨hP, hD, va_S.rf⟩
  have E : mE p c cX12_path s m ([.ref (ad 0), .int a0] : List Value).toArray (Cond.code yX12_path cX12_path 6 (some .int) :: wsM) D cI cJ cZ := ⟨hx, hb, hts, hown, hK, fun w h => .tail _ (iM_x h)⟩
  have hl := lv_entry ([.ref (ad 0), .int a0]) (n := 6) (Nat.le_of_ble_eq_true rfl)
  rw [lg_entry_eq]
  generalize (lg_sl ([.ref (ad 0), .int a0]) ++ List.replicate (6 - (lg_sl ([.ref (ad 0), .int a0])).length) Slot.unset).toArray = ls at hl ⊢
  have hl : lv_has ls 6 [(0, .ref (ad 0)), (1, .int a0)] := hl
  unfold fr_path at h
  refine lv_aload_n hx hb dX12_path_0 rfl (lv_at hl 0 rfl) ?_
  refine lv_iload_n hx hb dX12_path_1 rfl (lv_at hl 1 rfl) ?_
  refine lv_iconst (v := 4) hx hb dX12_path_2 (by decide) ?_
  refine lv_aload_n hx hb dX12_path_3 rfl (lv_at hl 0 rfl) ?_
  refine m_get E G 10 (v := .ref (ad 10)) (by decide) (.tail _ qM_7) rfl dX12_path_4 rfl ?_
  refine lv_iconst (v := 2) hx hb dX12_path_7 (by decide) ?_
  refine m_iald E G 10 2 (n := 131) (k := 2) rfl rfl (by decide) (by decide) dX12_path_8 ?_
  refine lv_topi (fun v2 ev2 => ?_)
  have h := elet_at ev2 h
  clear ev2
  obtain ⟨r3, er3, h⟩ := obind_some h
  refine m_stat (As := [.int a0, .int 4, .int v2]) (rest := [.ref (ad 0)]) ⟨hx, hb, hml, hown, hts⟩ (tr_in l a0 4 v2 er3) (cwS 3 hts (gmS qM_52 qM_53 qM_35 qM_27) rfl rfl rfl (by decide +kernel) ⟨Nat.le_of_ble_eq_true rfl, Nat.le_of_ble_eq_true rfl⟩) rfl hl.1 rfl (lv_room (Nat.le_of_ble_eq_true rfl)) dX12_path_9 ⟨Nat.zero_le _, Nat.zero_le _⟩ (fun q4 hq => ?_)
  refine lv_to hq ?_
  clear hq er3
  obtain ⟨r8, S5, eS5, h⟩ := obind2_some h
  refine m_calli (As := [.int r3]) (rest := []) E G hA hR hml (tr_mayAsk l D cI cJ cZ ad S r3 eS5) (cwV 1 hts (gmV qM_319 qM_320 qM_321 qM_35 qM_304) rfl rfl rfl (by decide +kernel) ⟨Nat.le_of_ble_eq_true rfl, Nat.le_of_ble_eq_true rfl⟩) rfl hl.1 rfl (lv_room (Nat.le_of_ble_eq_true rfl)) dX12_path_12 ⟨Nat.zero_le _, Nat.zero_le _⟩ (fun q6 S7 H locs hq G => ?_)
  obtain ⟨hq1, hq2⟩ := hq
  rw [hq2] at G
  refine lv_to hq1 ?_
  clear hq1 hq2 eS5
  refine lv_if_ne (tgt := 20) hx hb dX12_path_15 (by decide) (fun c9 => ?_) (fun c9 => ?_)
  · have h := oif_neg c9 h
    refine lv_iconst (v := 0) hx hb dX12_path_20 (by decide) ?_
    refine lv_istore_n (lv' := [(2, .int 0), (0, .ref (ad 0)), (1, .int a0)]) hx hb dX12_path_21 rfl hl (by decide) rfl (fun ls hl => ?_)
    refine lv_aload_n hx hb dX12_path_22 rfl (lv_at hl 1 rfl) ?_
    refine lv_iconst (v := 0) hx hb dX12_path_23 (by decide) ?_
    refine lv_iload_n hx hb dX12_path_24 rfl (lv_at hl 2 rfl) ?_
    obtain ⟨r13, S10, eS10, h⟩ := obind2_some h
    refine m_calli (As := [.int 0, .int a0]) (rest := []) E G hA hR hml (tr_bestOfBlock l D cI cJ cZ ad S5 0 a0 eS10) (cwV 2 hts (gmV qM_411 qM_412 qM_413 qM_35 qM_409) rfl rfl rfl (by decide +kernel) ⟨Nat.le_of_ble_eq_true rfl, Nat.le_of_ble_eq_true rfl⟩) rfl hl.1 rfl (lv_room (Nat.le_of_ble_eq_true rfl)) dX12_path_25 ⟨Nat.zero_le _, Nat.zero_le _⟩ (fun q11 S12 H locs hq G => ?_)
    obtain ⟨hq1, hq2⟩ := hq
    rw [hq2] at G
    refine lv_to hq1 ?_
    clear hq1 hq2 eS10
    refine lv_istore_n (lv' := [(3, .int r13), (2, .int 0), (0, .ref (ad 0)), (1, .int a0)]) hx hb dX12_path_28 rfl hl (by decide) rfl (fun ls hl => ?_)
    refine lv_iload_n hx hb dX12_path_29 rfl (lv_at hl 3 rfl) ?_
    refine lv_istore (lv' := [(4, .int a0), (3, .int r13), (2, .int 0), (0, .ref (ad 0)), (1, .int a0)]) hx hb dX12_path_30 hl (by decide) rfl (fun ls hl => ?_)
    have hl := lv_sub hl [3, 4, 2, 1, 0] rfl
    exact tr_path_b32 E hA hR hml (fun H locs ls G => W.iret (v := r1) hx hb hr (fun t ht hW => ⟨⟨r1, S1, rfl, ⟨rfl, rfl⟩, ⟨by rw [ht]; exact G.1, va_K.moved hW.alike hK, G.2.1⟩⟩, G.2.2.F ht⟩) G.2.2.2.2 dX12_path_19) (fun H locs ls G => W.iret (v := r1) hx hb hr (fun t ht hW => ⟨⟨r1, S1, rfl, ⟨rfl, rfl⟩, ⟨by rw [ht]; exact G.1, va_K.moved hW.alike hK, G.2.1⟩⟩, G.2.2.F ht⟩) G.2.2.2.2 dX12_path_81) _ _ _ _ _ _ _ _ _ h G hl
  · have h := oif_pos c9 h
    refine lv_iconst (v := 0) hx hb dX12_path_18 (by decide) ?_
    exact W.iret (v := 0) hx hb hr (fun t ht hW => ⟨⟨0, S5, rfl, osome2 h, ⟨by rw [ht]; exact G.1, va_K.moved hW.alike hK, G.2.1⟩⟩, G.2.2.F ht⟩) G.2.2.2.2 dX12_path_19
def fr_blockCount (S : MS) (a0 : Int32) : Option (Int32 × MS) := elet (S.2.1 10 2) fun v2 => oif (¬ a0 = 0) <| elet (v2 / a0) fun v4 => some (v4, S)
set_option maxHeartbeats 4000000 in
set_option maxRecDepth 100000 in
theorem tr_blockCount (l : Launch) (D : va_G) (cI cJ cZ : ClassId) (ad : Nat → Nat) (S : MS) (a0 : Int32) {r1 : Int32} {S1 : MS} (h : fr_blockCount S a0 = some (r1, S1)) : mCi l yX12_blockCount (Cond.code yX12_blockCount cX12_blockCount 2 (some .int) :: wsM) 1 0 D cI cJ cZ ad S [.int a0] (fun r S9 => r = r1 ∧ S9 = S1) := by
  intro sz
  refine Met.ofW (cc := cX12_blockCount) (maxL := 2) (ret := (some .int)) (by decide) rfl ?_
  intro p e s m args below meth c s₁ B hml hv
  obtain ⟨rfl, hsz, hP, hK, hD0, hR⟩ := hv
  have hx := B.exec
  have hb := B.bytes
  have hr := B.returns
  have hts := atoms_spec (ws := (Cond.code yX12_blockCount cX12_blockCount 2 (some .int) :: wsM)) B.pre
  have hown : s.vm.findClass RX12 = some m.cls := findClass_of_methodNamed B.named
  have hlocks := B.notSynchronized
  subst hsz
  have hD := hD0.self (sz := s.heap.size)
  generalize hAe : va_A (MW cI cJ cZ ad S) s.heap.size = A at hD ⊢
  have hA : ∀ q : Nat, s.heap.size ≤ q → A q := fun q h => by rw [← hAe]; exact Or.inr h
  have G : mG D cI cJ cZ ad A s.heap s.heap [] S := ⟨hP, hD, va_S.rf⟩
  have E : mE p c cX12_blockCount s m ([.ref (ad 0), .int a0] : List Value).toArray (Cond.code yX12_blockCount cX12_blockCount 2 (some .int) :: wsM) D cI cJ cZ := ⟨hx, hb, hts, hown, hK, fun w h => .tail _ (iM_x h)⟩
  have hl := lv_entry ([.ref (ad 0), .int a0]) (n := 2) (Nat.le_of_ble_eq_true rfl)
  rw [lg_entry_eq]
  generalize (lg_sl ([.ref (ad 0), .int a0]) ++ List.replicate (2 - (lg_sl ([.ref (ad 0), .int a0])).length) Slot.unset).toArray = ls at hl ⊢
  have hl : lv_has ls 2 [(0, .ref (ad 0)), (1, .int a0)] := hl
  unfold fr_blockCount at h
  refine lv_aload_n hx hb dX12_blockCount_0 rfl (lv_at hl 0 rfl) ?_
  refine m_get E G 10 (v := .ref (ad 10)) (by decide) (.tail _ qM_7) rfl dX12_blockCount_1 rfl ?_
  refine lv_iconst (v := 2) hx hb dX12_blockCount_4 (by decide) ?_
  refine m_iald E G 10 2 (n := 131) (k := 2) rfl rfl (by decide) (by decide) dX12_blockCount_5 ?_
  refine lv_topi (fun v2 ev2 => ?_)
  have h := elet_at ev2 h
  clear ev2
  refine lv_iload_n hx hb dX12_blockCount_6 rfl (lv_at hl 1 rfl) ?_
  obtain ⟨g3, h⟩ := oif_some h
  refine lv_idiv hx hb dX12_blockCount_7 g3 ?_
  refine lv_topi (fun v4 ev4 => ?_)
  have h := elet_at ev4 h
  clear ev4
  exact W.iret (v := v4) hx hb hr (fun t ht hW => ⟨⟨v4, S, rfl, osome2 h, ⟨by rw [ht]; exact G.1, va_K.moved hW.alike hK, G.2.1⟩⟩, G.2.2.F ht⟩) G.2.2.2.2 dX12_blockCount_8
def fr_areNear_b57  (S : MS) (s0 : Int32) : Option (Int32 × MS) := oif (s0 = 0 ∨ s0 = 1) <| some (s0, S)
set_option maxHeartbeats 4000000 in
set_option maxRecDepth 100000 in
theorem tr_areNear_b57 {p : Program} {l : Launch} {e : Env} {s : State} {m : MethodId} {args : Array Value} {below : List Frame} {meth : Method} {c : Code} {Q : State → Prop} {D : va_G} {A : Nat → Prop} {H0 : Heap} {cI cJ cZ : ClassId} {ad : Nat → Nat} {r1 : Int32} {S1 : MS} (E : mE p c cX12_areNear s m args (Cond.code yX12_areNear cX12_areNear 3 (some .boolean) :: wsM) D cI cJ cZ) (hA : ∀ q : Nat, H0.size ≤ q → A q) (hR : sR s) (hml : c.maxLocals = 3) (kr57 : ∀ (H : Heap) (locs : List Loc) (ls : Array Slot), (r1 = 0 ∨ r1 = 1) → mG D cI cJ cZ ad A H0 H locs S1 → W p l e { frames := 1, cells := 0, slots := 0, locals := 15 } s m args below meth c H locs 0 0 Q (F0 m 57 ls [.int r1])) : ∀ (S : MS) (H : Heap) (locs : List Loc) (ls : Array Slot) (s0 : Int32), fr_areNear_b57 S s0 = some (r1, S1) → mG D cI cJ cZ ad A H0 H locs S → lv_has ls 3 [] → W p l e { frames := 1, cells := 0, slots := 0, locals := 15 } s m args below meth c H locs 0 0 Q (F0 m 57 ls [.int s0]) := by
  have hx := E.1
  have hb := E.2.1
  have hts := E.2.2.1
  have hown := E.2.2.2.1
  have hK := E.2.2.2.2.1
  intro S H locs ls s0 h G hl
  unfold fr_areNear_b57 at h
  obtain ⟨gz, h⟩ := oif_some h
  have gr : r1 = 0 ∨ r1 = 1 := by rw [← (osome2 h).1]; exact gz
  rw [(osome2 h).2] at G
  refine lv_to (osome2 h).1 ?_
  exact kr57 _ _ _ gr G
def fr_areNear_b56  (S : MS)  : Option (Int32 × MS) := fr_areNear_b57 S 0
set_option maxHeartbeats 4000000 in
set_option maxRecDepth 100000 in
theorem tr_areNear_b56 {p : Program} {l : Launch} {e : Env} {s : State} {m : MethodId} {args : Array Value} {below : List Frame} {meth : Method} {c : Code} {Q : State → Prop} {D : va_G} {A : Nat → Prop} {H0 : Heap} {cI cJ cZ : ClassId} {ad : Nat → Nat} {r1 : Int32} {S1 : MS} (E : mE p c cX12_areNear s m args (Cond.code yX12_areNear cX12_areNear 3 (some .boolean) :: wsM) D cI cJ cZ) (hA : ∀ q : Nat, H0.size ≤ q → A q) (hR : sR s) (hml : c.maxLocals = 3) (kr57 : ∀ (H : Heap) (locs : List Loc) (ls : Array Slot), (r1 = 0 ∨ r1 = 1) → mG D cI cJ cZ ad A H0 H locs S1 → W p l e { frames := 1, cells := 0, slots := 0, locals := 15 } s m args below meth c H locs 0 0 Q (F0 m 57 ls [.int r1])) : ∀ (S : MS) (H : Heap) (locs : List Loc) (ls : Array Slot), fr_areNear_b56 S = some (r1, S1) → mG D cI cJ cZ ad A H0 H locs S → lv_has ls 3 [] → W p l e { frames := 1, cells := 0, slots := 0, locals := 15 } s m args below meth c H locs 0 0 Q (F0 m 56 ls []) := by
  have hx := E.1
  have hb := E.2.1
  have hts := E.2.2.1
  have hown := E.2.2.2.1
  have hK := E.2.2.2.2.1
  intro S H locs ls h G hl
  unfold fr_areNear_b56 at h
  refine lv_iconst (v := 0) hx hb dX12_areNear_56 (by decide) ?_
  have hl := lv_sub hl [] rfl
  exact tr_areNear_b57 E hA hR hml kr57 _ _ _ _ _ h G hl
def fr_areNear (S : MS) (a0 : Int32) (a1 : Int32) : Option (Int32 × MS) := elet (S.2.1 10 9) fun v2 => oif (¬ v2 = 0) <| elet (a0 - a0 / v2 * v2) fun v4 => elet (S.2.1 10 9) fun v5 => oif (¬ v5 = 0) <| elet (a1 - a1 / v5 * v5) fun v7 => elet (v4 - v7) fun v8 => elet (if 0 ≤ v8 then v8 else 0 - v8) fun v9 => if 1 < v9 then (fr_areNear_b56 S) else (elet (S.2.1 10 9) fun v11 => oif (¬ v11 = 0) <| elet (a0 / v11) fun v13 => elet (S.2.1 10 9) fun v14 => oif (¬ v14 = 0) <| elet (a1 / v14) fun v16 => elet (v13 - v16) fun v17 => elet (if 0 ≤ v17 then v17 else 0 - v17) fun v18 => if 1 < v18 then (fr_areNear_b56 S) else (fr_areNear_b57 S 1))
set_option maxHeartbeats 4000000 in
set_option maxRecDepth 100000 in
theorem tr_areNear (l : Launch) (D : va_G) (cI cJ cZ : ClassId) (ad : Nat → Nat) (S : MS) (a0 : Int32) (a1 : Int32) {r1 : Int32} {S1 : MS} (h : fr_areNear S a0 a1 = some (r1, S1)) : mCi l yX12_areNear (Cond.code yX12_areNear cX12_areNear 3 (some .boolean) :: wsM) 1 15 D cI cJ cZ ad S [.int a0, .int a1] (fun r S9 => r = r1 ∧ S9 = S1) := by
  intro sz
  refine Met.ofW (cc := cX12_areNear) (maxL := 3) (ret := (some .boolean)) (by decide) rfl ?_
  intro p e s m args below meth c s₁ B hml hv
  obtain ⟨rfl, hsz, hP, hK, hD0, hR⟩ := hv
  have hx := B.exec
  have hb := B.bytes
  have hr := B.returns
  have hts := atoms_spec (ws := (Cond.code yX12_areNear cX12_areNear 3 (some .boolean) :: wsM)) B.pre
  have hown : s.vm.findClass RX12 = some m.cls := findClass_of_methodNamed B.named
  have hlocks := B.notSynchronized
  subst hsz
  have hD := hD0.self (sz := s.heap.size)
  generalize hAe : va_A (MW cI cJ cZ ad S) s.heap.size = A at hD ⊢
  have hA : ∀ q : Nat, s.heap.size ≤ q → A q := fun q h => by rw [← hAe]; exact Or.inr h
  have G : mG D cI cJ cZ ad A s.heap s.heap [] S := ⟨hP, hD, va_S.rf⟩
  have E : mE p c cX12_areNear s m ([.ref (ad 0), .int a0, .int a1] : List Value).toArray (Cond.code yX12_areNear cX12_areNear 3 (some .boolean) :: wsM) D cI cJ cZ := ⟨hx, hb, hts, hown, hK, fun w h => .tail _ (iM_x h)⟩
  have hl := lv_entry ([.ref (ad 0), .int a0, .int a1]) (n := 3) (Nat.le_of_ble_eq_true rfl)
  rw [lg_entry_eq]
  generalize (lg_sl ([.ref (ad 0), .int a0, .int a1]) ++ List.replicate (3 - (lg_sl ([.ref (ad 0), .int a0, .int a1])).length) Slot.unset).toArray = ls at hl ⊢
  have hl : lv_has ls 3 [(0, .ref (ad 0)), (1, .int a0), (2, .int a1)] := hl
  unfold fr_areNear at h
  refine lv_iload_n hx hb dX12_areNear_0 rfl (lv_at hl 1 rfl) ?_
  refine lv_aload_n hx hb dX12_areNear_1 rfl (lv_at hl 0 rfl) ?_
  refine m_get E G 10 (v := .ref (ad 10)) (by decide) (.tail _ qM_7) rfl dX12_areNear_2 rfl ?_
  refine lv_bipush (v := 9) hx hb dX12_areNear_5 (by decide) ?_
  refine m_iald E G 10 2 (n := 131) (k := 9) rfl rfl (by decide) (by decide) dX12_areNear_7 ?_
  refine lv_topi (fun v2 ev2 => ?_)
  have h := elet_at ev2 h
  clear ev2
  obtain ⟨g3, h⟩ := oif_some h
  refine lv_irem hx hb dX12_areNear_8 g3 ?_
  refine lv_topi (fun v4 ev4 => ?_)
  have h := elet_at ev4 h
  clear ev4
  refine lv_iload_n hx hb dX12_areNear_9 rfl (lv_at hl 2 rfl) ?_
  refine lv_aload_n hx hb dX12_areNear_10 rfl (lv_at hl 0 rfl) ?_
  refine m_get E G 10 (v := .ref (ad 10)) (by decide) (.tail _ qM_7) rfl dX12_areNear_11 rfl ?_
  refine lv_bipush (v := 9) hx hb dX12_areNear_14 (by decide) ?_
  refine m_iald E G 10 2 (n := 131) (k := 9) rfl rfl (by decide) (by decide) dX12_areNear_16 ?_
  refine lv_topi (fun v5 ev5 => ?_)
  have h := elet_at ev5 h
  clear ev5
  obtain ⟨g6, h⟩ := oif_some h
  refine lv_irem hx hb dX12_areNear_17 g6 ?_
  refine lv_topi (fun v7 ev7 => ?_)
  have h := elet_at ev7 h
  clear ev7
  refine lv_isub hx hb dX12_areNear_18 ?_
  refine lv_topi (fun v8 ev8 => ?_)
  have h := elet_at ev8 h
  clear ev8
  refine va_mabs hx hb (hml.trans hl.1.symm) hown (hts _ (.tail _ qM_245)) (hts _ (.tail _ qM_246)) (hts _ (.tail _ qM_247)) (hts _ (.tail _ qM_248)) (Nat.le_of_ble_eq_true rfl) (Nat.le_of_ble_eq_true rfl) (Nat.zero_le _) (Nat.zero_le _) dX12_areNear_19 ?_
  refine lv_topi (fun v9 ev9 => ?_)
  have h := elet_at ev9 h
  clear ev9
  refine lv_iconst (v := 1) hx hb dX12_areNear_22 (by decide) ?_
  refine lv_icmp_gt (tgt := 56) hx hb dX12_areNear_23 (by decide) (fun c10 => ?_) (fun c10 => ?_)
  · have h := oif_pos c10 h
    have hl := lv_sub hl [] rfl
    exact tr_areNear_b56 E hA hR hml (fun H locs ls gz G => W.zret (v := r1) hx hb hr (nar01 gz) (fun t ht hW => ⟨⟨r1, S1, rfl, ⟨rfl, rfl⟩, ⟨by rw [ht]; exact G.1, va_K.moved hW.alike hK, G.2.1⟩⟩, G.2.2.F ht⟩) G.2.2.2.2 dX12_areNear_57) _ _ _ _ h G hl
  · have h := oif_neg c10 h
    refine lv_iload_n hx hb dX12_areNear_26 rfl (lv_at hl 1 rfl) ?_
    refine lv_aload_n hx hb dX12_areNear_27 rfl (lv_at hl 0 rfl) ?_
    refine m_get E G 10 (v := .ref (ad 10)) (by decide) (.tail _ qM_7) rfl dX12_areNear_28 rfl ?_
    refine lv_bipush (v := 9) hx hb dX12_areNear_31 (by decide) ?_
    refine m_iald E G 10 2 (n := 131) (k := 9) rfl rfl (by decide) (by decide) dX12_areNear_33 ?_
    refine lv_topi (fun v11 ev11 => ?_)
    have h := elet_at ev11 h
    clear ev11
    obtain ⟨g12, h⟩ := oif_some h
    refine lv_idiv hx hb dX12_areNear_34 g12 ?_
    refine lv_topi (fun v13 ev13 => ?_)
    have h := elet_at ev13 h
    clear ev13
    refine lv_iload_n hx hb dX12_areNear_35 rfl (lv_at hl 2 rfl) ?_
    refine lv_aload_n hx hb dX12_areNear_36 rfl (lv_at hl 0 rfl) ?_
    refine m_get E G 10 (v := .ref (ad 10)) (by decide) (.tail _ qM_7) rfl dX12_areNear_37 rfl ?_
    refine lv_bipush (v := 9) hx hb dX12_areNear_40 (by decide) ?_
    refine m_iald E G 10 2 (n := 131) (k := 9) rfl rfl (by decide) (by decide) dX12_areNear_42 ?_
    refine lv_topi (fun v14 ev14 => ?_)
    have h := elet_at ev14 h
    clear ev14
    obtain ⟨g15, h⟩ := oif_some h
    refine lv_idiv hx hb dX12_areNear_43 g15 ?_
    refine lv_topi (fun v16 ev16 => ?_)
    have h := elet_at ev16 h
    clear ev16
    refine lv_isub hx hb dX12_areNear_44 ?_
    refine lv_topi (fun v17 ev17 => ?_)
    have h := elet_at ev17 h
    clear ev17
    refine va_mabs hx hb (hml.trans hl.1.symm) hown (hts _ (.tail _ qM_245)) (hts _ (.tail _ qM_246)) (hts _ (.tail _ qM_247)) (hts _ (.tail _ qM_248)) (Nat.le_of_ble_eq_true rfl) (Nat.le_of_ble_eq_true rfl) (Nat.zero_le _) (Nat.zero_le _) dX12_areNear_45 ?_
    refine lv_topi (fun v18 ev18 => ?_)
    have h := elet_at ev18 h
    clear ev18
    refine lv_iconst (v := 1) hx hb dX12_areNear_48 (by decide) ?_
    refine lv_icmp_gt (tgt := 56) hx hb dX12_areNear_49 (by decide) (fun c19 => ?_) (fun c19 => ?_)
    · have h := oif_pos c19 h
      have hl := lv_sub hl [] rfl
      exact tr_areNear_b56 E hA hR hml (fun H locs ls gz G => W.zret (v := r1) hx hb hr (nar01 gz) (fun t ht hW => ⟨⟨r1, S1, rfl, ⟨rfl, rfl⟩, ⟨by rw [ht]; exact G.1, va_K.moved hW.alike hK, G.2.1⟩⟩, G.2.2.F ht⟩) G.2.2.2.2 dX12_areNear_57) _ _ _ _ h G hl
    · have h := oif_neg c19 h
      refine lv_iconst (v := 1) hx hb dX12_areNear_52 (by decide) ?_
      refine lv_goto (tgt := 57) hx hb dX12_areNear_53 (by decide) ?_
      have hl := lv_sub hl [] rfl
      exact tr_areNear_b57 E hA hR hml (fun H locs ls gz G => W.zret (v := r1) hx hb hr (nar01 gz) (fun t ht hW => ⟨⟨r1, S1, rfl, ⟨rfl, rfl⟩, ⟨by rw [ht]; exact G.1, va_K.moved hW.alike hK, G.2.1⟩⟩, G.2.2.F ht⟩) G.2.2.2.2 dX12_areNear_57) _ _ _ _ _ h G hl
def fr_bestBehind_b69 (k5 : MS → Int32 → Int32 → Int32 → Int32 → Option (Int32 × MS)) (S : MS) (l1 : Int32) (l2 : Int32) (l3 : Int32) (l4 : Int32) : Option (Int32 × MS) := elet (l4 + Int32.ofInt (1)) fun v2 => k5 S l1 l2 l3 v2
set_option maxHeartbeats 4000000 in
set_option maxRecDepth 100000 in
theorem tr_bestBehind_b69 {p : Program} {l : Launch} {e : Env} {s : State} {m : MethodId} {args : Array Value} {below : List Frame} {meth : Method} {c : Code} {Q : State → Prop} {D : va_G} {A : Nat → Prop} {H0 : Heap} {cI cJ cZ : ClassId} {ad : Nat → Nat} {r1 : Int32} {S1 : MS} (E : mE p c cX12_bestBehind s m args (Cond.code yX12_bestBehind cX12_bestBehind 5 (some .int) :: wsM) D cI cJ cZ) (hA : ∀ q : Nat, H0.size ≤ q → A q) (hR : sR s) (hml : c.maxLocals = 5) (kr76 : ∀ (H : Heap) (locs : List Loc) (ls : Array Slot), mG D cI cJ cZ ad A H0 H locs S1 → W p l e { frames := 2, cells := 0, slots := 0, locals := 37 } s m args below meth c H locs 0 0 Q (F0 m 76 ls [.int r1])) {k5 : MS → Int32 → Int32 → Int32 → Int32 → Option (Int32 × MS)} (hk5 : ∀ (S : MS) (H : Heap) (locs : List Loc) (ls : Array Slot) (l1 : Int32) (l2 : Int32) (l3 : Int32) (l4 : Int32), k5 S l1 l2 l3 l4 = some (r1, S1) → mG D cI cJ cZ ad A H0 H locs S → lv_has ls 5 [(0, .ref (ad 0)), (1, .int l1), (2, .int l2), (3, .int l3), (4, .int l4)] → W p l e { frames := 2, cells := 0, slots := 0, locals := 37 } s m args below meth c H locs 0 0 Q (F0 m 5 ls [])) : ∀ (S : MS) (H : Heap) (locs : List Loc) (ls : Array Slot) (l1 : Int32) (l2 : Int32) (l3 : Int32) (l4 : Int32), fr_bestBehind_b69 k5 S l1 l2 l3 l4 = some (r1, S1) → mG D cI cJ cZ ad A H0 H locs S → lv_has ls 5 [(0, .ref (ad 0)), (1, .int l1), (2, .int l2), (3, .int l3), (4, .int l4)] → W p l e { frames := 2, cells := 0, slots := 0, locals := 37 } s m args below meth c H locs 0 0 Q (F0 m 69 ls []) := by
  have hx := E.1
  have hb := E.2.1
  have hts := E.2.2.1
  have hown := E.2.2.2.1
  have hK := E.2.2.2.2.1
  intro S H locs ls l1 l2 l3 l4 h G hl
  unfold fr_bestBehind_b69 at h
  obtain ⟨v2, ev2, h⟩ := elet_some h
  refine lv_iinc (v := v2) (lv' := [(4, .int v2), (0, .ref (ad 0)), (1, .int l1), (2, .int l2), (3, .int l3)]) hx hb dX12_bestBehind_69 hl (k := 4) rfl ev2.symm (by decide) rfl (fun ls hl => ?_)
  refine lv_goto (tgt := 5) hx hb dX12_bestBehind_72 (by decide) ?_
  have hl := lv_sub hl [1, 2, 3, 4, 0] rfl
  exact hk5 _ _ _ _ _ _ _ _ h G hl
def fr_bestBehind_b66 (k5 : MS → Int32 → Int32 → Int32 → Int32 → Option (Int32 × MS)) (S : MS) (l1 : Int32) (l2 : Int32) (l4 : Int32) : Option (Int32 × MS) := fr_bestBehind_b69 k5 S l1 l2 l4 l4
set_option maxHeartbeats 4000000 in
set_option maxRecDepth 100000 in
theorem tr_bestBehind_b66 {p : Program} {l : Launch} {e : Env} {s : State} {m : MethodId} {args : Array Value} {below : List Frame} {meth : Method} {c : Code} {Q : State → Prop} {D : va_G} {A : Nat → Prop} {H0 : Heap} {cI cJ cZ : ClassId} {ad : Nat → Nat} {r1 : Int32} {S1 : MS} (E : mE p c cX12_bestBehind s m args (Cond.code yX12_bestBehind cX12_bestBehind 5 (some .int) :: wsM) D cI cJ cZ) (hA : ∀ q : Nat, H0.size ≤ q → A q) (hR : sR s) (hml : c.maxLocals = 5) (kr76 : ∀ (H : Heap) (locs : List Loc) (ls : Array Slot), mG D cI cJ cZ ad A H0 H locs S1 → W p l e { frames := 2, cells := 0, slots := 0, locals := 37 } s m args below meth c H locs 0 0 Q (F0 m 76 ls [.int r1])) {k5 : MS → Int32 → Int32 → Int32 → Int32 → Option (Int32 × MS)} (hk5 : ∀ (S : MS) (H : Heap) (locs : List Loc) (ls : Array Slot) (l1 : Int32) (l2 : Int32) (l3 : Int32) (l4 : Int32), k5 S l1 l2 l3 l4 = some (r1, S1) → mG D cI cJ cZ ad A H0 H locs S → lv_has ls 5 [(0, .ref (ad 0)), (1, .int l1), (2, .int l2), (3, .int l3), (4, .int l4)] → W p l e { frames := 2, cells := 0, slots := 0, locals := 37 } s m args below meth c H locs 0 0 Q (F0 m 5 ls [])) : ∀ (S : MS) (H : Heap) (locs : List Loc) (ls : Array Slot) (l1 : Int32) (l2 : Int32) (l4 : Int32), fr_bestBehind_b66 k5 S l1 l2 l4 = some (r1, S1) → mG D cI cJ cZ ad A H0 H locs S → lv_has ls 5 [(0, .ref (ad 0)), (1, .int l1), (2, .int l2), (4, .int l4)] → W p l e { frames := 2, cells := 0, slots := 0, locals := 37 } s m args below meth c H locs 0 0 Q (F0 m 66 ls []) := by
  have hx := E.1
  have hb := E.2.1
  have hts := E.2.2.1
  have hown := E.2.2.2.1
  have hK := E.2.2.2.2.1
  intro S H locs ls l1 l2 l4 h G hl
  unfold fr_bestBehind_b66 at h
  refine lv_iload hx hb dX12_bestBehind_66 (lv_at hl 3 rfl) ?_
  refine lv_istore_n (lv' := [(3, .int l4), (0, .ref (ad 0)), (1, .int l1), (2, .int l2), (4, .int l4)]) hx hb dX12_bestBehind_68 rfl hl (by decide) rfl (fun ls hl => ?_)
  have hl := lv_sub hl [1, 2, 3, 0, 4] rfl
  exact tr_bestBehind_b69 E hA hR hml kr76 hk5 _ _ _ _ _ _ _ _ h G hl
def fr_bestBehind_b29 (k5 : MS → Int32 → Int32 → Int32 → Int32 → Option (Int32 × MS)) (S : MS) (l1 : Int32) (l2 : Int32) (l3 : Int32) (l4 : Int32) : Option (Int32 × MS) := if l3 = (-1) then (fr_bestBehind_b66 k5 S l1 l2 l4) else (elet (144 * l1) fun v3 => elet (v3 + l4) fun v4 => oif (inb v4 7200 = true) <| elet (S.2.2 26 v4.toNatClampNeg) fun v6 => elet (144 * l1) fun v7 => elet (v7 + l3) fun v8 => oif (inb v8 7200 = true) <| elet (S.2.2 26 v8.toNatClampNeg) fun v10 => elet (lg_cmp v6 v10) fun v11 => if 0 < v11 then (fr_bestBehind_b66 k5 S l1 l2 l4) else (fr_bestBehind_b69 k5 S l1 l2 l3 l4))
set_option maxHeartbeats 4000000 in
set_option maxRecDepth 100000 in
theorem tr_bestBehind_b29 {p : Program} {l : Launch} {e : Env} {s : State} {m : MethodId} {args : Array Value} {below : List Frame} {meth : Method} {c : Code} {Q : State → Prop} {D : va_G} {A : Nat → Prop} {H0 : Heap} {cI cJ cZ : ClassId} {ad : Nat → Nat} {r1 : Int32} {S1 : MS} (E : mE p c cX12_bestBehind s m args (Cond.code yX12_bestBehind cX12_bestBehind 5 (some .int) :: wsM) D cI cJ cZ) (hA : ∀ q : Nat, H0.size ≤ q → A q) (hR : sR s) (hml : c.maxLocals = 5) (kr76 : ∀ (H : Heap) (locs : List Loc) (ls : Array Slot), mG D cI cJ cZ ad A H0 H locs S1 → W p l e { frames := 2, cells := 0, slots := 0, locals := 37 } s m args below meth c H locs 0 0 Q (F0 m 76 ls [.int r1])) {k5 : MS → Int32 → Int32 → Int32 → Int32 → Option (Int32 × MS)} (hk5 : ∀ (S : MS) (H : Heap) (locs : List Loc) (ls : Array Slot) (l1 : Int32) (l2 : Int32) (l3 : Int32) (l4 : Int32), k5 S l1 l2 l3 l4 = some (r1, S1) → mG D cI cJ cZ ad A H0 H locs S → lv_has ls 5 [(0, .ref (ad 0)), (1, .int l1), (2, .int l2), (3, .int l3), (4, .int l4)] → W p l e { frames := 2, cells := 0, slots := 0, locals := 37 } s m args below meth c H locs 0 0 Q (F0 m 5 ls [])) : ∀ (S : MS) (H : Heap) (locs : List Loc) (ls : Array Slot) (l1 : Int32) (l2 : Int32) (l3 : Int32) (l4 : Int32), fr_bestBehind_b29 k5 S l1 l2 l3 l4 = some (r1, S1) → mG D cI cJ cZ ad A H0 H locs S → lv_has ls 5 [(0, .ref (ad 0)), (1, .int l1), (2, .int l2), (3, .int l3), (4, .int l4)] → W p l e { frames := 2, cells := 0, slots := 0, locals := 37 } s m args below meth c H locs 0 0 Q (F0 m 29 ls []) := by
  have hx := E.1
  have hb := E.2.1
  have hts := E.2.2.1
  have hown := E.2.2.2.1
  have hK := E.2.2.2.2.1
  intro S H locs ls l1 l2 l3 l4 h G hl
  unfold fr_bestBehind_b29 at h
  refine lv_iload_n hx hb dX12_bestBehind_29 rfl (lv_at hl 3 rfl) ?_
  refine lv_iconst (v := (-1)) hx hb dX12_bestBehind_30 (by decide) ?_
  refine lv_icmp_eq (tgt := 66) hx hb dX12_bestBehind_31 (by decide) (fun c2 => ?_) (fun c2 => ?_)
  · have h := oif_pos c2 h
    have hl := lv_sub hl [0, 1, 2, 4] rfl
    exact tr_bestBehind_b66 E hA hR hml kr76 hk5 _ _ _ _ _ _ _ h G hl
  · have h := oif_neg c2 h
    refine lv_aload_n hx hb dX12_bestBehind_34 rfl (lv_at hl 0 rfl) ?_
    refine m_get E G 26 (v := .ref (ad 26)) (by decide) (.tail _ qM_22) rfl dX12_bestBehind_35 rfl ?_
    refine lv_sipush (v := 144) hx hb dX12_bestBehind_38 (by decide) ?_
    refine lv_iload_n hx hb dX12_bestBehind_41 rfl (lv_at hl 1 rfl) ?_
    refine lv_imul hx hb dX12_bestBehind_42 ?_
    refine lv_topi (fun v3 ev3 => ?_)
    have h := elet_at ev3 h
    clear ev3
    refine lv_iload hx hb dX12_bestBehind_43 (lv_at hl 4 rfl) ?_
    refine lv_iadd hx hb dX12_bestBehind_45 ?_
    refine lv_topi (fun v4 ev4 => ?_)
    have h := elet_at ev4 h
    clear ev4
    obtain ⟨g5, h⟩ := oif_some h
    refine m_lald E G 26 14 (n := 7200) (k := v4.toNatClampNeg) rfl (inb_k g5).1 (inb_k g5).2 (by decide) dX12_bestBehind_46 ?_
    refine lv_topl (fun v6 ev6 => ?_)
    have h := elet_at ev6 h
    clear ev6
    refine lv_aload_n hx hb dX12_bestBehind_47 rfl (lv_at hl 0 rfl) ?_
    refine m_get E G 26 (v := .ref (ad 26)) (by decide) (.tail _ qM_22) rfl dX12_bestBehind_48 rfl ?_
    refine lv_sipush (v := 144) hx hb dX12_bestBehind_51 (by decide) ?_
    refine lv_iload_n hx hb dX12_bestBehind_54 rfl (lv_at hl 1 rfl) ?_
    refine lv_imul hx hb dX12_bestBehind_55 ?_
    refine lv_topi (fun v7 ev7 => ?_)
    have h := elet_at ev7 h
    clear ev7
    refine lv_iload_n hx hb dX12_bestBehind_56 rfl (lv_at hl 3 rfl) ?_
    refine lv_iadd hx hb dX12_bestBehind_57 ?_
    refine lv_topi (fun v8 ev8 => ?_)
    have h := elet_at ev8 h
    clear ev8
    obtain ⟨g9, h⟩ := oif_some h
    refine m_lald E G 26 14 (n := 7200) (k := v8.toNatClampNeg) rfl (inb_k g9).1 (inb_k g9).2 (by decide) dX12_bestBehind_58 ?_
    refine lv_topl (fun v10 ev10 => ?_)
    have h := elet_at ev10 h
    clear ev10
    refine W.lcmp hx hb dX12_bestBehind_59 ?_
    refine lv_topi (fun v11 ev11 => ?_)
    have h := elet_at ev11 h
    clear ev11
    refine lv_if_gt (tgt := 66) hx hb dX12_bestBehind_60 (by decide) (fun c12 => ?_) (fun c12 => ?_)
    · have h := oif_pos c12 h
      have hl := lv_sub hl [0, 1, 2, 4] rfl
      exact tr_bestBehind_b66 E hA hR hml kr76 hk5 _ _ _ _ _ _ _ h G hl
    · have h := oif_neg c12 h
      refine lv_goto (tgt := 69) hx hb dX12_bestBehind_63 (by decide) ?_
      have hl := lv_sub hl [0, 1, 2, 3, 4] rfl
      exact tr_bestBehind_b69 E hA hR hml kr76 hk5 _ _ _ _ _ _ _ _ h G hl
def fr_bestBehind_b5  : Nat → MS → Int32 → Int32 → Int32 → Int32 → Option (Int32 × MS)
  | 0, _, _, _, _, _ => none
  | n + 1, S, l1, l2, l3, l4 => obind2 (fr_cellCount S) fun r5 S2 => if r5 ≤ l4 then (some (l3, S2)) else (if l2 = (-1) then (fr_bestBehind_b29 (fr_bestBehind_b5 n) S2 l1 l2 l3 l4) else (obind2 (fr_areNear S2 l2 l4) fun r11 S8 => if r11 = 0 then (fr_bestBehind_b69 (fr_bestBehind_b5 n) S8 l1 l2 l3 l4) else (fr_bestBehind_b29 (fr_bestBehind_b5 n) S8 l1 l2 l3 l4)))
set_option maxHeartbeats 4000000 in
set_option maxRecDepth 100000 in
theorem tr_bestBehind_b5 {p : Program} {l : Launch} {e : Env} {s : State} {m : MethodId} {args : Array Value} {below : List Frame} {meth : Method} {c : Code} {Q : State → Prop} {D : va_G} {A : Nat → Prop} {H0 : Heap} {cI cJ cZ : ClassId} {ad : Nat → Nat} {r1 : Int32} {S1 : MS} (E : mE p c cX12_bestBehind s m args (Cond.code yX12_bestBehind cX12_bestBehind 5 (some .int) :: wsM) D cI cJ cZ) (hA : ∀ q : Nat, H0.size ≤ q → A q) (hR : sR s) (hml : c.maxLocals = 5) (kr76 : ∀ (H : Heap) (locs : List Loc) (ls : Array Slot), mG D cI cJ cZ ad A H0 H locs S1 → W p l e { frames := 2, cells := 0, slots := 0, locals := 37 } s m args below meth c H locs 0 0 Q (F0 m 76 ls [.int r1])) : ∀ n : Nat, ∀ (S : MS) (H : Heap) (locs : List Loc) (ls : Array Slot) (l1 : Int32) (l2 : Int32) (l3 : Int32) (l4 : Int32), fr_bestBehind_b5 n S l1 l2 l3 l4 = some (r1, S1) → mG D cI cJ cZ ad A H0 H locs S → lv_has ls 5 [(0, .ref (ad 0)), (1, .int l1), (2, .int l2), (3, .int l3), (4, .int l4)] → W p l e { frames := 2, cells := 0, slots := 0, locals := 37 } s m args below meth c H locs 0 0 Q (F0 m 5 ls []) := by
  have hx := E.1
  have hb := E.2.1
  have hts := E.2.2.1
  have hown := E.2.2.2.1
  have hK := E.2.2.2.2.1
  intro n
  induction n with
  | zero =>
    intro S H locs ls l1 l2 l3 l4 h
    have h : (none : Option (Int32 × MS)) = some (r1, S1) := h
    cases h
  | succ n ih =>
    intro S H locs ls l1 l2 l3 l4 h G hl
    unfold fr_bestBehind_b5 at h
    refine lv_iload hx hb dX12_bestBehind_5 (lv_at hl 4 rfl) ?_
    refine lv_aload_n hx hb dX12_bestBehind_7 rfl (lv_at hl 0 rfl) ?_
    obtain ⟨r5, S2, eS2, h⟩ := obind2_some h
    refine m_calli (As := []) (rest := [.int l4]) E G hA hR hml (tr_cellCount l D cI cJ cZ ad S eS2) (cwV 0 hts (gmV qM_204 qM_205 qM_206 qM_35 qM_207) rfl rfl rfl (by decide +kernel) ⟨Nat.le_of_ble_eq_true rfl, Nat.le_of_ble_eq_true rfl⟩) rfl hl.1 rfl (lv_room (Nat.le_of_ble_eq_true rfl)) dX12_bestBehind_8 ⟨Nat.zero_le _, Nat.zero_le _⟩ (fun q3 S4 H locs hq G => ?_)
    obtain ⟨hq1, hq2⟩ := hq
    rw [hq2] at G
    refine lv_to hq1 ?_
    clear hq1 hq2 eS2
    refine lv_icmp_ge (tgt := 75) hx hb dX12_bestBehind_11 (by decide) (fun c6 => ?_) (fun c6 => ?_)
    · have h := oif_pos c6 h
      refine lv_iload_n hx hb dX12_bestBehind_75 rfl (lv_at hl 3 rfl) ?_
      rw [(osome2 h).2] at G
      refine lv_to (osome2 h).1 ?_
      exact kr76 _ _ _ G
    · have h := oif_neg c6 h
      refine lv_iload_n hx hb dX12_bestBehind_14 rfl (lv_at hl 2 rfl) ?_
      refine lv_iconst (v := (-1)) hx hb dX12_bestBehind_15 (by decide) ?_
      refine lv_icmp_eq (tgt := 29) hx hb dX12_bestBehind_16 (by decide) (fun c7 => ?_) (fun c7 => ?_)
      · have h := oif_pos c7 h
        have hl := lv_sub hl [0, 1, 2, 3, 4] rfl
        exact tr_bestBehind_b29 E hA hR hml kr76 ih _ _ _ _ _ _ _ _ h G hl
      · have h := oif_neg c7 h
        refine lv_aload_n hx hb dX12_bestBehind_19 rfl (lv_at hl 0 rfl) ?_
        refine lv_iload_n hx hb dX12_bestBehind_20 rfl (lv_at hl 2 rfl) ?_
        refine lv_iload hx hb dX12_bestBehind_21 (lv_at hl 4 rfl) ?_
        obtain ⟨r11, S8, eS8, h⟩ := obind2_some h
        refine m_calli (As := [.int l2, .int l4]) (rest := []) E G hA hR hml (tr_areNear l D cI cJ cZ ad S2 l2 l4 eS8) (cwV 2 hts (gmV qM_418 qM_419 qM_420 qM_35 qM_416) rfl rfl rfl (by decide +kernel) ⟨Nat.le_of_ble_eq_true rfl, Nat.le_of_ble_eq_true rfl⟩) rfl hl.1 rfl (lv_room (Nat.le_of_ble_eq_true rfl)) dX12_bestBehind_23 ⟨Nat.zero_le _, Nat.zero_le _⟩ (fun q9 S10 H locs hq G => ?_)
        obtain ⟨hq1, hq2⟩ := hq
        rw [hq2] at G
        refine lv_to hq1 ?_
        clear hq1 hq2 eS8
        refine lv_if_eq (tgt := 69) hx hb dX12_bestBehind_26 (by decide) (fun c12 => ?_) (fun c12 => ?_)
        · have h := oif_pos c12 h
          have hl := lv_sub hl [0, 1, 2, 3, 4] rfl
          exact tr_bestBehind_b69 E hA hR hml kr76 ih _ _ _ _ _ _ _ _ h G hl
        · have h := oif_neg c12 h
          have hl := lv_sub hl [0, 1, 2, 3, 4] rfl
          exact tr_bestBehind_b29 E hA hR hml kr76 ih _ _ _ _ _ _ _ _ h G hl
def fr_bestBehind (S : MS) (a0 : Int32) (a1 : Int32) : Option (Int32 × MS) := fr_bestBehind_b5 16384 S a0 a1 (-1) 0
set_option maxHeartbeats 4000000 in
set_option maxRecDepth 100000 in
theorem tr_bestBehind (l : Launch) (D : va_G) (cI cJ cZ : ClassId) (ad : Nat → Nat) (S : MS) (a0 : Int32) (a1 : Int32) {r1 : Int32} {S1 : MS} (h : fr_bestBehind S a0 a1 = some (r1, S1)) : mCi l yX12_bestBehind (Cond.code yX12_bestBehind cX12_bestBehind 5 (some .int) :: wsM) 2 37 D cI cJ cZ ad S [.int a0, .int a1] (fun r S9 => r = r1 ∧ S9 = S1) := by
  intro sz
  refine Met.ofW (cc := cX12_bestBehind) (maxL := 5) (ret := (some .int)) (by decide) rfl ?_
  intro p e s m args below meth c s₁ B hml hv
  obtain ⟨rfl, hsz, hP, hK, hD0, hR⟩ := hv
  have hx := B.exec
  have hb := B.bytes
  have hr := B.returns
  have hts := atoms_spec (ws := (Cond.code yX12_bestBehind cX12_bestBehind 5 (some .int) :: wsM)) B.pre
  have hown : s.vm.findClass RX12 = some m.cls := findClass_of_methodNamed B.named
  have hlocks := B.notSynchronized
  subst hsz
  have hD := hD0.self (sz := s.heap.size)
  generalize hAe : va_A (MW cI cJ cZ ad S) s.heap.size = A at hD ⊢
  have hA : ∀ q : Nat, s.heap.size ≤ q → A q := fun q h => by rw [← hAe]; exact Or.inr h
  have G : mG D cI cJ cZ ad A s.heap s.heap [] S := ⟨hP, hD, va_S.rf⟩
  have E : mE p c cX12_bestBehind s m ([.ref (ad 0), .int a0, .int a1] : List Value).toArray (Cond.code yX12_bestBehind cX12_bestBehind 5 (some .int) :: wsM) D cI cJ cZ := ⟨hx, hb, hts, hown, hK, fun w h => .tail _ (iM_x h)⟩
  have hl := lv_entry ([.ref (ad 0), .int a0, .int a1]) (n := 5) (Nat.le_of_ble_eq_true rfl)
  rw [lg_entry_eq]
  generalize (lg_sl ([.ref (ad 0), .int a0, .int a1]) ++ List.replicate (5 - (lg_sl ([.ref (ad 0), .int a0, .int a1])).length) Slot.unset).toArray = ls at hl ⊢
  have hl : lv_has ls 5 [(0, .ref (ad 0)), (1, .int a0), (2, .int a1)] := hl
  unfold fr_bestBehind at h
  refine lv_iconst (v := (-1)) hx hb dX12_bestBehind_0 (by decide) ?_
  refine lv_istore_n (lv' := [(3, .int (-1)), (0, .ref (ad 0)), (1, .int a0), (2, .int a1)]) hx hb dX12_bestBehind_1 rfl hl (by decide) rfl (fun ls hl => ?_)
  refine lv_iconst (v := 0) hx hb dX12_bestBehind_2 (by decide) ?_
  refine lv_istore (lv' := [(4, .int 0), (3, .int (-1)), (0, .ref (ad 0)), (1, .int a0), (2, .int a1)]) hx hb dX12_bestBehind_3 hl (by decide) rfl (fun ls hl => ?_)
  have hl := lv_sub hl [2, 3, 4, 1, 0] rfl
  exact tr_bestBehind_b5 E hA hR hml (fun H locs ls G => W.iret (v := r1) hx hb hr (fun t ht hW => ⟨⟨r1, S1, rfl, ⟨rfl, rfl⟩, ⟨by rw [ht]; exact G.1, va_K.moved hW.alike hK, G.2.1⟩⟩, G.2.2.F ht⟩) G.2.2.2.2 dX12_bestBehind_76) _ _ _ _ _ _ _ _ _ h G hl
def fr_laysScores_b93 (k8 : MS → Int32 → Int32 → Option (MS)) (k32 : MS → Int32 → Int32 → Int32 → Int32 → Option (MS)) (S : MS) (s0 : Int64) (s1 : Int64) (s2 : Int32) (l1 : Int32) (l2 : Int32) (l3 : Int32) (l4 : Int32) : Option (MS) := elet (s1 + s0) fun v2 => oif (inb s2 7200 = true) <| elet (mg S 26 (vp_updL (S.2.2 26) s2.toNatClampNeg v2)) fun S4 => elet (l4 + Int32.ofInt (1)) fun v5 => k32 S4 l1 l2 l3 v5
set_option maxHeartbeats 4000000 in
set_option maxRecDepth 100000 in
theorem tr_laysScores_b93 {p : Program} {l : Launch} {e : Env} {s : State} {m : MethodId} {args : Array Value} {below : List Frame} {meth : Method} {c : Code} {Q : State → Prop} {D : va_G} {A : Nat → Prop} {H0 : Heap} {cI cJ cZ : ClassId} {ad : Nat → Nat} {S1 : MS} (E : mE p c cX12_laysScores s m args (Cond.code yX12_laysScores cX12_laysScores 5 none :: wsM) D cI cJ cZ) (hA : ∀ q : Nat, H0.size ≤ q → A q) (hR : sR s) (hml : c.maxLocals = 5) (kr107 : ∀ (H : Heap) (locs : List Loc) (ls : Array Slot), mG D cI cJ cZ ad A H0 H locs S1 → W p l e { frames := 5, cells := 0, slots := 0, locals := 97 } s m args below meth c H locs 0 0 Q (F0 m 107 ls [])) {k8 : MS → Int32 → Int32 → Option (MS)} {k32 : MS → Int32 → Int32 → Int32 → Int32 → Option (MS)} (hk8 : ∀ (S : MS) (H : Heap) (locs : List Loc) (ls : Array Slot) (l1 : Int32) (l2 : Int32), k8 S l1 l2 = some S1 → mG D cI cJ cZ ad A H0 H locs S → lv_has ls 5 [(0, .ref (ad 0)), (1, .int l1), (2, .int l2)] → W p l e { frames := 5, cells := 0, slots := 0, locals := 97 } s m args below meth c H locs 0 0 Q (F0 m 8 ls [])) (hk32 : ∀ (S : MS) (H : Heap) (locs : List Loc) (ls : Array Slot) (l1 : Int32) (l2 : Int32) (l3 : Int32) (l4 : Int32), k32 S l1 l2 l3 l4 = some S1 → mG D cI cJ cZ ad A H0 H locs S → lv_has ls 5 [(0, .ref (ad 0)), (1, .int l1), (2, .int l2), (3, .int l3), (4, .int l4)] → W p l e { frames := 5, cells := 0, slots := 0, locals := 97 } s m args below meth c H locs 0 0 Q (F0 m 32 ls [])) : ∀ (S : MS) (H : Heap) (locs : List Loc) (ls : Array Slot) (s0 : Int64) (s1 : Int64) (s2 : Int32) (l1 : Int32) (l2 : Int32) (l3 : Int32) (l4 : Int32), fr_laysScores_b93 k8 k32 S s0 s1 s2 l1 l2 l3 l4 = some S1 → mG D cI cJ cZ ad A H0 H locs S → lv_has ls 5 [(0, .ref (ad 0)), (1, .int l1), (2, .int l2), (3, .int l3), (4, .int l4)] → W p l e { frames := 5, cells := 0, slots := 0, locals := 97 } s m args below meth c H locs 0 0 Q (F0 m 93 ls [.long s0, .long s1, .int s2, .ref (ad 26)]) := by
  have hx := E.1
  have hb := E.2.1
  have hts := E.2.2.1
  have hown := E.2.2.2.1
  have hK := E.2.2.2.2.1
  intro S H locs ls s0 s1 s2 l1 l2 l3 l4 h G hl
  unfold fr_laysScores_b93 at h
  refine lv_ladd hx hb dX12_laysScores_93 ?_
  refine lv_topl (fun v2 ev2 => ?_)
  have h := elet_at ev2 h
  clear ev2
  obtain ⟨g3, h⟩ := oif_some h
  refine m_last E G 26 14 (k := s2.toNatClampNeg) (v := v2) rfl (fun _ => rfl) (inb_k g3).1 (inb_k g3).2 (by decide) dX12_laysScores_94 (fun H locs G => ?_)
  obtain ⟨S4, eS4, h⟩ := elet_some h
  rw [← eS4] at G
  clear eS4
  obtain ⟨v5, ev5, h⟩ := elet_some h
  refine lv_iinc (v := v5) (lv' := [(4, .int v5), (0, .ref (ad 0)), (1, .int l1), (2, .int l2), (3, .int l3)]) hx hb dX12_laysScores_95 hl (k := 4) rfl ev5.symm (by decide) rfl (fun ls hl => ?_)
  refine lv_goto (tgt := 32) hx hb dX12_laysScores_98 (by decide) ?_
  have hl := lv_sub hl [1, 2, 3, 4, 0] rfl
  exact hk32 _ _ _ _ _ _ _ _ h G hl
def fr_laysScores_b32 (k8 : MS → Int32 → Int32 → Option (MS)) : Nat → MS → Int32 → Int32 → Int32 → Int32 → Option (MS)
  | 0, _, _, _, _, _ => none
  | n + 1, S, l1, l2, l3, l4 => obind2 (fr_cellCount S) fun r5 S2 => if r5 ≤ l4 then (elet (l2 + Int32.ofInt (-1)) fun v7 => k8 S2 l1 v7) else (elet (144 * l2) fun v8 => elet (v8 + l4) fun v9 => elet (l1 * l2) fun v10 => obind2 (fr_blockOf S2 l4 v10 l1) fun r14 S11 => if l3 = 0 then (elet (l2 + 1) fun v16 => elet (144 * v16) fun v17 => elet (l2 + 1) fun v18 => obind2 (fr_bestBehind S11 v18 l4) fun r22 S19 => elet (v17 + r22) fun v23 => oif (inb v23 7200 = true) <| elet (S19.2.2 26 v23.toNatClampNeg) fun v25 => fr_laysScores_b93 k8 (fr_laysScores_b32 k8 n) S19 v25 r14 v9 l1 l2 l3 l4) else (fr_laysScores_b93 k8 (fr_laysScores_b32 k8 n) S11 (0 : Int64) r14 v9 l1 l2 l3 l4))
set_option maxHeartbeats 4000000 in
set_option maxRecDepth 100000 in
theorem tr_laysScores_b32 {p : Program} {l : Launch} {e : Env} {s : State} {m : MethodId} {args : Array Value} {below : List Frame} {meth : Method} {c : Code} {Q : State → Prop} {D : va_G} {A : Nat → Prop} {H0 : Heap} {cI cJ cZ : ClassId} {ad : Nat → Nat} {S1 : MS} (E : mE p c cX12_laysScores s m args (Cond.code yX12_laysScores cX12_laysScores 5 none :: wsM) D cI cJ cZ) (hA : ∀ q : Nat, H0.size ≤ q → A q) (hR : sR s) (hml : c.maxLocals = 5) (kr107 : ∀ (H : Heap) (locs : List Loc) (ls : Array Slot), mG D cI cJ cZ ad A H0 H locs S1 → W p l e { frames := 5, cells := 0, slots := 0, locals := 97 } s m args below meth c H locs 0 0 Q (F0 m 107 ls [])) {k8 : MS → Int32 → Int32 → Option (MS)} (hk8 : ∀ (S : MS) (H : Heap) (locs : List Loc) (ls : Array Slot) (l1 : Int32) (l2 : Int32), k8 S l1 l2 = some S1 → mG D cI cJ cZ ad A H0 H locs S → lv_has ls 5 [(0, .ref (ad 0)), (1, .int l1), (2, .int l2)] → W p l e { frames := 5, cells := 0, slots := 0, locals := 97 } s m args below meth c H locs 0 0 Q (F0 m 8 ls [])) : ∀ n : Nat, ∀ (S : MS) (H : Heap) (locs : List Loc) (ls : Array Slot) (l1 : Int32) (l2 : Int32) (l3 : Int32) (l4 : Int32), fr_laysScores_b32 k8 n S l1 l2 l3 l4 = some S1 → mG D cI cJ cZ ad A H0 H locs S → lv_has ls 5 [(0, .ref (ad 0)), (1, .int l1), (2, .int l2), (3, .int l3), (4, .int l4)] → W p l e { frames := 5, cells := 0, slots := 0, locals := 97 } s m args below meth c H locs 0 0 Q (F0 m 32 ls []) := by
  have hx := E.1
  have hb := E.2.1
  have hts := E.2.2.1
  have hown := E.2.2.2.1
  have hK := E.2.2.2.2.1
  intro n
  induction n with
  | zero =>
    intro S H locs ls l1 l2 l3 l4 h
    have h : (none : Option (MS)) = some S1 := h
    cases h
  | succ n ih =>
    intro S H locs ls l1 l2 l3 l4 h G hl
    unfold fr_laysScores_b32 at h
    refine lv_iload hx hb dX12_laysScores_32 (lv_at hl 4 rfl) ?_
    refine lv_aload_n hx hb dX12_laysScores_34 rfl (lv_at hl 0 rfl) ?_
    obtain ⟨r5, S2, eS2, h⟩ := obind2_some h
    refine m_calli (As := []) (rest := [.int l4]) E G hA hR hml (tr_cellCount l D cI cJ cZ ad S eS2) (cwV 0 hts (gmV qM_204 qM_205 qM_206 qM_35 qM_207) rfl rfl rfl (by decide +kernel) ⟨Nat.le_of_ble_eq_true rfl, Nat.le_of_ble_eq_true rfl⟩) rfl hl.1 rfl (lv_room (Nat.le_of_ble_eq_true rfl)) dX12_laysScores_35 ⟨Nat.zero_le _, Nat.zero_le _⟩ (fun q3 S4 H locs hq G => ?_)
    obtain ⟨hq1, hq2⟩ := hq
    rw [hq2] at G
    refine lv_to hq1 ?_
    clear hq1 hq2 eS2
    refine lv_icmp_ge (tgt := 101) hx hb dX12_laysScores_38 (by decide) (fun c6 => ?_) (fun c6 => ?_)
    · have h := oif_pos c6 h
      obtain ⟨v7, ev7, h⟩ := elet_some h
      refine lv_iinc (v := v7) (lv' := [(2, .int v7), (0, .ref (ad 0)), (1, .int l1), (3, .int l3), (4, .int l4)]) hx hb dX12_laysScores_101 hl (k := 2) rfl ev7.symm (by decide) rfl (fun ls hl => ?_)
      refine lv_goto (tgt := 8) hx hb dX12_laysScores_104 (by decide) ?_
      have hl := lv_sub hl [1, 2, 0] rfl
      exact hk8 _ _ _ _ _ _ h G hl
    · have h := oif_neg c6 h
      refine lv_aload_n hx hb dX12_laysScores_41 rfl (lv_at hl 0 rfl) ?_
      refine m_get E G 26 (v := .ref (ad 26)) (by decide) (.tail _ qM_22) rfl dX12_laysScores_42 rfl ?_
      refine lv_sipush (v := 144) hx hb dX12_laysScores_45 (by decide) ?_
      refine lv_iload_n hx hb dX12_laysScores_48 rfl (lv_at hl 2 rfl) ?_
      refine lv_imul hx hb dX12_laysScores_49 ?_
      refine lv_topi (fun v8 ev8 => ?_)
      have h := elet_at ev8 h
      clear ev8
      refine lv_iload hx hb dX12_laysScores_50 (lv_at hl 4 rfl) ?_
      refine lv_iadd hx hb dX12_laysScores_52 ?_
      refine lv_topi (fun v9 ev9 => ?_)
      have h := elet_at ev9 h
      clear ev9
      refine lv_aload_n hx hb dX12_laysScores_53 rfl (lv_at hl 0 rfl) ?_
      refine lv_iload hx hb dX12_laysScores_54 (lv_at hl 4 rfl) ?_
      refine lv_iload_n hx hb dX12_laysScores_56 rfl (lv_at hl 1 rfl) ?_
      refine lv_iload_n hx hb dX12_laysScores_57 rfl (lv_at hl 2 rfl) ?_
      refine lv_imul hx hb dX12_laysScores_58 ?_
      refine lv_topi (fun v10 ev10 => ?_)
      have h := elet_at ev10 h
      clear ev10
      refine lv_iload_n hx hb dX12_laysScores_59 rfl (lv_at hl 1 rfl) ?_
      obtain ⟨r14, S11, eS11, h⟩ := obind2_some h
      refine m_calll (As := [.int l4, .int v10, .int l1]) (rest := [.int v9, .ref (ad 26)]) E G hA hR hml (tr_blockOf l D cI cJ cZ ad S2 l4 v10 l1 eS11) (cwV 3 hts (gmV qM_406 qM_407 qM_408 qM_35 qM_400) rfl rfl rfl (by decide +kernel) ⟨Nat.le_of_ble_eq_true rfl, Nat.le_of_ble_eq_true rfl⟩) rfl hl.1 rfl (lv_room (Nat.le_of_ble_eq_true rfl)) dX12_laysScores_60 ⟨Nat.zero_le _, Nat.zero_le _⟩ (fun q12 S13 H locs hq G => ?_)
      obtain ⟨hq1, hq2⟩ := hq
      rw [hq2] at G
      refine lv_tol hq1 ?_
      clear hq1 hq2 eS11
      refine lv_iload_n hx hb dX12_laysScores_63 rfl (lv_at hl 3 rfl) ?_
      refine lv_if_eq (tgt := 71) hx hb dX12_laysScores_64 (by decide) (fun c15 => ?_) (fun c15 => ?_)
      · have h := oif_pos c15 h
        refine lv_aload_n hx hb dX12_laysScores_71 rfl (lv_at hl 0 rfl) ?_
        refine m_get E G 26 (v := .ref (ad 26)) (by decide) (.tail _ qM_22) rfl dX12_laysScores_72 rfl ?_
        refine lv_sipush (v := 144) hx hb dX12_laysScores_75 (by decide) ?_
        refine lv_iload_n hx hb dX12_laysScores_78 rfl (lv_at hl 2 rfl) ?_
        refine lv_iconst (v := 1) hx hb dX12_laysScores_79 (by decide) ?_
        refine lv_iadd hx hb dX12_laysScores_80 ?_
        refine lv_topi (fun v16 ev16 => ?_)
        have h := elet_at ev16 h
        clear ev16
        refine lv_imul hx hb dX12_laysScores_81 ?_
        refine lv_topi (fun v17 ev17 => ?_)
        have h := elet_at ev17 h
        clear ev17
        refine lv_aload_n hx hb dX12_laysScores_82 rfl (lv_at hl 0 rfl) ?_
        refine lv_iload_n hx hb dX12_laysScores_83 rfl (lv_at hl 2 rfl) ?_
        refine lv_iconst (v := 1) hx hb dX12_laysScores_84 (by decide) ?_
        refine lv_iadd hx hb dX12_laysScores_85 ?_
        refine lv_topi (fun v18 ev18 => ?_)
        have h := elet_at ev18 h
        clear ev18
        refine lv_iload hx hb dX12_laysScores_86 (lv_at hl 4 rfl) ?_
        obtain ⟨r22, S19, eS19, h⟩ := obind2_some h
        refine m_calli (As := [.int v18, .int l4]) (rest := [.int v17, .ref (ad 26), .long r14, .int v9, .ref (ad 26)]) E G hA hR hml (tr_bestBehind l D cI cJ cZ ad S11 v18 l4 eS19) (cwV 2 hts (gmV qM_425 qM_426 qM_427 qM_35 qM_417) rfl rfl rfl (by decide +kernel) ⟨Nat.le_of_ble_eq_true rfl, Nat.le_of_ble_eq_true rfl⟩) rfl hl.1 rfl (lv_room (Nat.le_of_ble_eq_true rfl)) dX12_laysScores_88 ⟨Nat.zero_le _, Nat.zero_le _⟩ (fun q20 S21 H locs hq G => ?_)
        obtain ⟨hq1, hq2⟩ := hq
        rw [hq2] at G
        refine lv_to hq1 ?_
        clear hq1 hq2 eS19
        refine lv_iadd hx hb dX12_laysScores_91 ?_
        refine lv_topi (fun v23 ev23 => ?_)
        have h := elet_at ev23 h
        clear ev23
        obtain ⟨g24, h⟩ := oif_some h
        refine m_lald E G 26 14 (n := 7200) (k := v23.toNatClampNeg) rfl (inb_k g24).1 (inb_k g24).2 (by decide) dX12_laysScores_92 ?_
        refine lv_topl (fun v25 ev25 => ?_)
        have h := elet_at ev25 h
        clear ev25
        have hl := lv_sub hl [0, 1, 2, 3, 4] rfl
        exact tr_laysScores_b93 E hA hR hml kr107 hk8 ih _ _ _ _ _ _ _ _ _ _ _ h G hl
      · have h := oif_neg c15 h
        refine lv_lconst (v := 0) hx hb dX12_laysScores_67 (by decide) ?_
        refine lv_goto (tgt := 93) hx hb dX12_laysScores_68 (by decide) ?_
        have hl := lv_sub hl [0, 1, 2, 3, 4] rfl
        exact tr_laysScores_b93 E hA hR hml kr107 hk8 ih _ _ _ _ _ _ _ _ _ _ _ h G hl
def fr_laysScores_b28 (k8 : MS → Int32 → Int32 → Option (MS)) (S : MS) (s0 : Int32) (l1 : Int32) (l2 : Int32) : Option (MS) := fr_laysScores_b32 k8 16384 S l1 l2 s0 0
set_option maxHeartbeats 4000000 in
set_option maxRecDepth 100000 in
theorem tr_laysScores_b28 {p : Program} {l : Launch} {e : Env} {s : State} {m : MethodId} {args : Array Value} {below : List Frame} {meth : Method} {c : Code} {Q : State → Prop} {D : va_G} {A : Nat → Prop} {H0 : Heap} {cI cJ cZ : ClassId} {ad : Nat → Nat} {S1 : MS} (E : mE p c cX12_laysScores s m args (Cond.code yX12_laysScores cX12_laysScores 5 none :: wsM) D cI cJ cZ) (hA : ∀ q : Nat, H0.size ≤ q → A q) (hR : sR s) (hml : c.maxLocals = 5) (kr107 : ∀ (H : Heap) (locs : List Loc) (ls : Array Slot), mG D cI cJ cZ ad A H0 H locs S1 → W p l e { frames := 5, cells := 0, slots := 0, locals := 97 } s m args below meth c H locs 0 0 Q (F0 m 107 ls [])) {k8 : MS → Int32 → Int32 → Option (MS)} (hk8 : ∀ (S : MS) (H : Heap) (locs : List Loc) (ls : Array Slot) (l1 : Int32) (l2 : Int32), k8 S l1 l2 = some S1 → mG D cI cJ cZ ad A H0 H locs S → lv_has ls 5 [(0, .ref (ad 0)), (1, .int l1), (2, .int l2)] → W p l e { frames := 5, cells := 0, slots := 0, locals := 97 } s m args below meth c H locs 0 0 Q (F0 m 8 ls [])) : ∀ (S : MS) (H : Heap) (locs : List Loc) (ls : Array Slot) (s0 : Int32) (l1 : Int32) (l2 : Int32), fr_laysScores_b28 k8 S s0 l1 l2 = some S1 → mG D cI cJ cZ ad A H0 H locs S → lv_has ls 5 [(0, .ref (ad 0)), (1, .int l1), (2, .int l2)] → W p l e { frames := 5, cells := 0, slots := 0, locals := 97 } s m args below meth c H locs 0 0 Q (F0 m 28 ls [.int s0]) := by
  have hx := E.1
  have hb := E.2.1
  have hts := E.2.2.1
  have hown := E.2.2.2.1
  have hK := E.2.2.2.2.1
  intro S H locs ls s0 l1 l2 h G hl
  unfold fr_laysScores_b28 at h
  refine lv_istore_n (lv' := [(3, .int s0), (0, .ref (ad 0)), (1, .int l1), (2, .int l2)]) hx hb dX12_laysScores_28 rfl hl (by decide) rfl (fun ls hl => ?_)
  refine lv_iconst (v := 0) hx hb dX12_laysScores_29 (by decide) ?_
  refine lv_istore (lv' := [(4, .int 0), (3, .int s0), (0, .ref (ad 0)), (1, .int l1), (2, .int l2)]) hx hb dX12_laysScores_30 hl (by decide) rfl (fun ls hl => ?_)
  have hl := lv_sub hl [2, 3, 4, 1, 0] rfl
  exact tr_laysScores_b32 E hA hR hml kr107 hk8 _ _ _ _ _ _ _ _ _ h G hl
def fr_laysScores_b8  : Nat → MS → Int32 → Int32 → Option (MS)
  | 0, _, _, _ => none
  | n + 1, S, l1, l2 => if l2 < 0 then (some S) else (obind2 (fr_blockCount S l1) fun r6 S3 => elet (r6 - 1) fun v7 => if l2 = v7 then (fr_laysScores_b28 (fr_laysScores_b8 n) S3 1 l1 l2) else (fr_laysScores_b28 (fr_laysScores_b8 n) S3 0 l1 l2))
set_option maxHeartbeats 4000000 in
set_option maxRecDepth 100000 in
theorem tr_laysScores_b8 {p : Program} {l : Launch} {e : Env} {s : State} {m : MethodId} {args : Array Value} {below : List Frame} {meth : Method} {c : Code} {Q : State → Prop} {D : va_G} {A : Nat → Prop} {H0 : Heap} {cI cJ cZ : ClassId} {ad : Nat → Nat} {S1 : MS} (E : mE p c cX12_laysScores s m args (Cond.code yX12_laysScores cX12_laysScores 5 none :: wsM) D cI cJ cZ) (hA : ∀ q : Nat, H0.size ≤ q → A q) (hR : sR s) (hml : c.maxLocals = 5) (kr107 : ∀ (H : Heap) (locs : List Loc) (ls : Array Slot), mG D cI cJ cZ ad A H0 H locs S1 → W p l e { frames := 5, cells := 0, slots := 0, locals := 97 } s m args below meth c H locs 0 0 Q (F0 m 107 ls [])) : ∀ n : Nat, ∀ (S : MS) (H : Heap) (locs : List Loc) (ls : Array Slot) (l1 : Int32) (l2 : Int32), fr_laysScores_b8 n S l1 l2 = some S1 → mG D cI cJ cZ ad A H0 H locs S → lv_has ls 5 [(0, .ref (ad 0)), (1, .int l1), (2, .int l2)] → W p l e { frames := 5, cells := 0, slots := 0, locals := 97 } s m args below meth c H locs 0 0 Q (F0 m 8 ls []) := by
  have hx := E.1
  have hb := E.2.1
  have hts := E.2.2.1
  have hown := E.2.2.2.1
  have hK := E.2.2.2.2.1
  intro n
  induction n with
  | zero =>
    intro S H locs ls l1 l2 h
    have h : (none : Option (MS)) = some S1 := h
    cases h
  | succ n ih =>
    intro S H locs ls l1 l2 h G hl
    unfold fr_laysScores_b8 at h
    refine lv_iload_n hx hb dX12_laysScores_8 rfl (lv_at hl 2 rfl) ?_
    refine lv_if_lt (tgt := 107) hx hb dX12_laysScores_9 (by decide) (fun c2 => ?_) (fun c2 => ?_)
    · have h := oif_pos c2 h
      rw [osome1 h] at G
      exact kr107 _ _ _ G
    · have h := oif_neg c2 h
      refine lv_iload_n hx hb dX12_laysScores_12 rfl (lv_at hl 2 rfl) ?_
      refine lv_aload_n hx hb dX12_laysScores_13 rfl (lv_at hl 0 rfl) ?_
      refine lv_iload_n hx hb dX12_laysScores_14 rfl (lv_at hl 1 rfl) ?_
      obtain ⟨r6, S3, eS3, h⟩ := obind2_some h
      refine m_calli (As := [.int l1]) (rest := [.int l2]) E G hA hR hml (tr_blockCount l D cI cJ cZ ad S l1 eS3) (cwV 1 hts (gmV qM_422 qM_423 qM_424 qM_35 qM_415) rfl rfl rfl (by decide +kernel) ⟨Nat.le_of_ble_eq_true rfl, Nat.le_of_ble_eq_true rfl⟩) rfl hl.1 rfl (lv_room (Nat.le_of_ble_eq_true rfl)) dX12_laysScores_15 ⟨Nat.zero_le _, Nat.zero_le _⟩ (fun q4 S5 H locs hq G => ?_)
      obtain ⟨hq1, hq2⟩ := hq
      rw [hq2] at G
      refine lv_to hq1 ?_
      clear hq1 hq2 eS3
      refine lv_iconst (v := 1) hx hb dX12_laysScores_18 (by decide) ?_
      refine lv_isub hx hb dX12_laysScores_19 ?_
      refine lv_topi (fun v7 ev7 => ?_)
      have h := elet_at ev7 h
      clear ev7
      refine lv_icmp_ne (tgt := 27) hx hb dX12_laysScores_20 (by decide) (fun c8 => ?_) (fun c8 => ?_)
      · have h := oif_neg c8 h
        refine lv_iconst (v := 0) hx hb dX12_laysScores_27 (by decide) ?_
        have hl := lv_sub hl [0, 1, 2] rfl
        exact tr_laysScores_b28 E hA hR hml kr107 ih _ _ _ _ _ _ _ h G hl
      · have h := oif_pos c8 h
        refine lv_iconst (v := 1) hx hb dX12_laysScores_23 (by decide) ?_
        refine lv_goto (tgt := 28) hx hb dX12_laysScores_24 (by decide) ?_
        have hl := lv_sub hl [0, 1, 2] rfl
        exact tr_laysScores_b28 E hA hR hml kr107 ih _ _ _ _ _ _ _ h G hl
def fr_laysScores (S : MS) (a0 : Int32) : Option (MS) := obind2 (fr_blockCount S a0) fun r5 S2 => elet (r5 - 1) fun v6 => fr_laysScores_b8 16384 S2 a0 v6
set_option maxHeartbeats 4000000 in
set_option maxRecDepth 100000 in
theorem tr_laysScores (l : Launch) (D : va_G) (cI cJ cZ : ClassId) (ad : Nat → Nat) (S : MS) (a0 : Int32) {S1 : MS} (h : fr_laysScores S a0 = some S1) : mCv l yX12_laysScores (Cond.code yX12_laysScores cX12_laysScores 5 none :: wsM) 5 97 D cI cJ cZ ad S [.int a0] (fun S9 => S9 = S1) := by
  intro sz
  refine Met.ofW (cc := cX12_laysScores) (maxL := 5) (ret := none) (by decide) rfl ?_
  intro p e s m args below meth c s₁ B hml hv
  obtain ⟨rfl, hsz, hP, hK, hD0, hR⟩ := hv
  have hx := B.exec
  have hb := B.bytes
  have hr := B.returns
  have hts := atoms_spec (ws := (Cond.code yX12_laysScores cX12_laysScores 5 none :: wsM)) B.pre
  have hown : s.vm.findClass RX12 = some m.cls := findClass_of_methodNamed B.named
  have hlocks := B.notSynchronized
  subst hsz
  have hD := hD0.self (sz := s.heap.size)
  generalize hAe : va_A (MW cI cJ cZ ad S) s.heap.size = A at hD ⊢
  have hA : ∀ q : Nat, s.heap.size ≤ q → A q := fun q h => by rw [← hAe]; exact Or.inr h
  have G : mG D cI cJ cZ ad A s.heap s.heap [] S := ⟨hP, hD, va_S.rf⟩
  have E : mE p c cX12_laysScores s m ([.ref (ad 0), .int a0] : List Value).toArray (Cond.code yX12_laysScores cX12_laysScores 5 none :: wsM) D cI cJ cZ := ⟨hx, hb, hts, hown, hK, fun w h => .tail _ (iM_x h)⟩
  have hl := lv_entry ([.ref (ad 0), .int a0]) (n := 5) (Nat.le_of_ble_eq_true rfl)
  rw [lg_entry_eq]
  generalize (lg_sl ([.ref (ad 0), .int a0]) ++ List.replicate (5 - (lg_sl ([.ref (ad 0), .int a0])).length) Slot.unset).toArray = ls at hl ⊢
  have hl : lv_has ls 5 [(0, .ref (ad 0)), (1, .int a0)] := hl
  unfold fr_laysScores at h
  refine lv_aload_n hx hb dX12_laysScores_0 rfl (lv_at hl 0 rfl) ?_
  refine lv_iload_n hx hb dX12_laysScores_1 rfl (lv_at hl 1 rfl) ?_
  obtain ⟨r5, S2, eS2, h⟩ := obind2_some h
  refine m_calli (As := [.int a0]) (rest := []) E G hA hR hml (tr_blockCount l D cI cJ cZ ad S a0 eS2) (cwV 1 hts (gmV qM_422 qM_423 qM_424 qM_35 qM_415) rfl rfl rfl (by decide +kernel) ⟨Nat.le_of_ble_eq_true rfl, Nat.le_of_ble_eq_true rfl⟩) rfl hl.1 rfl (lv_room (Nat.le_of_ble_eq_true rfl)) dX12_laysScores_2 ⟨Nat.zero_le _, Nat.zero_le _⟩ (fun q3 S4 H locs hq G => ?_)
  obtain ⟨hq1, hq2⟩ := hq
  rw [hq2] at G
  refine lv_to hq1 ?_
  clear hq1 hq2 eS2
  refine lv_iconst (v := 1) hx hb dX12_laysScores_5 (by decide) ?_
  refine lv_isub hx hb dX12_laysScores_6 ?_
  refine lv_topi (fun v6 ev6 => ?_)
  have h := elet_at ev6 h
  clear ev6
  refine lv_istore_n (lv' := [(2, .int v6), (0, .ref (ad 0)), (1, .int a0)]) hx hb dX12_laysScores_7 rfl hl (by decide) rfl (fun ls hl => ?_)
  have hl := lv_sub hl [1, 2, 0] rfl
  exact tr_laysScores_b8 E hA hR hml (fun H locs ls G => W.vret hx hb hr (fun t ht hW => ⟨⟨S1, rfl, rfl, ⟨by rw [ht]; exact G.1, va_K.moved hW.alike hK, G.2.1⟩⟩, G.2.2.F ht⟩) G.2.2.2.2 dX12_laysScores_107) _ _ _ _ _ _ _ h G hl
def fr_isLength (S : MS) (a0 : Int32) : Option (Int32 × MS) := elet (S.2.1 10 2) fun v2 => obind (fr_in a0 4 v2) fun r3 => oif (r3 = 0 ∨ r3 = 1) <| some (r3, S)
set_option maxHeartbeats 4000000 in
set_option maxRecDepth 100000 in
theorem tr_isLength (l : Launch) (D : va_G) (cI cJ cZ : ClassId) (ad : Nat → Nat) (S : MS) (a0 : Int32) {r1 : Int32} {S1 : MS} (h : fr_isLength S a0 = some (r1, S1)) : mCi l yX12_isLength (Cond.code yX12_isLength cX12_isLength 2 (some .boolean) :: wsM) 2 22 D cI cJ cZ ad S [.int a0] (fun r S9 => r = r1 ∧ S9 = S1) := by
  intro sz
  refine Met.ofW (cc := cX12_isLength) (maxL := 2) (ret := (some .boolean)) (by decide) rfl ?_
  intro p e s m args below meth c s₁ B hml hv
  obtain ⟨rfl, hsz, hP, hK, hD0, hR⟩ := hv
  have hx := B.exec
  have hb := B.bytes
  have hr := B.returns
  have hts := atoms_spec (ws := (Cond.code yX12_isLength cX12_isLength 2 (some .boolean) :: wsM)) B.pre
  have hown : s.vm.findClass RX12 = some m.cls := findClass_of_methodNamed B.named
  have hlocks := B.notSynchronized
  subst hsz
  have hD := hD0.self (sz := s.heap.size)
  generalize hAe : va_A (MW cI cJ cZ ad S) s.heap.size = A at hD ⊢
  have hA : ∀ q : Nat, s.heap.size ≤ q → A q := fun q h => by rw [← hAe]; exact Or.inr h
  have G : mG D cI cJ cZ ad A s.heap s.heap [] S := ⟨hP, hD, va_S.rf⟩
  have E : mE p c cX12_isLength s m ([.ref (ad 0), .int a0] : List Value).toArray (Cond.code yX12_isLength cX12_isLength 2 (some .boolean) :: wsM) D cI cJ cZ := ⟨hx, hb, hts, hown, hK, fun w h => .tail _ (iM_x h)⟩
  have hl := lv_entry ([.ref (ad 0), .int a0]) (n := 2) (Nat.le_of_ble_eq_true rfl)
  rw [lg_entry_eq]
  generalize (lg_sl ([.ref (ad 0), .int a0]) ++ List.replicate (2 - (lg_sl ([.ref (ad 0), .int a0])).length) Slot.unset).toArray = ls at hl ⊢
  have hl : lv_has ls 2 [(0, .ref (ad 0)), (1, .int a0)] := hl
  unfold fr_isLength at h
  refine lv_iload_n hx hb dX12_isLength_0 rfl (lv_at hl 1 rfl) ?_
  refine lv_iconst (v := 4) hx hb dX12_isLength_1 (by decide) ?_
  refine lv_aload_n hx hb dX12_isLength_2 rfl (lv_at hl 0 rfl) ?_
  refine m_get E G 10 (v := .ref (ad 10)) (by decide) (.tail _ qM_7) rfl dX12_isLength_3 rfl ?_
  refine lv_iconst (v := 2) hx hb dX12_isLength_6 (by decide) ?_
  refine m_iald E G 10 2 (n := 131) (k := 2) rfl rfl (by decide) (by decide) dX12_isLength_7 ?_
  refine lv_topi (fun v2 ev2 => ?_)
  have h := elet_at ev2 h
  clear ev2
  obtain ⟨r3, er3, h⟩ := obind_some h
  refine m_stat (As := [.int a0, .int 4, .int v2]) (rest := []) ⟨hx, hb, hml, hown, hts⟩ (tr_in l a0 4 v2 er3) (cwS 3 hts (gmS qM_52 qM_53 qM_35 qM_27) rfl rfl rfl (by decide +kernel) ⟨Nat.le_of_ble_eq_true rfl, Nat.le_of_ble_eq_true rfl⟩) rfl hl.1 rfl (lv_room (Nat.le_of_ble_eq_true rfl)) dX12_isLength_8 ⟨Nat.zero_le _, Nat.zero_le _⟩ (fun q4 hq => ?_)
  refine lv_to hq ?_
  clear hq er3
  obtain ⟨gz, h⟩ := oif_some h
  exact W.zret (v := r3) hx hb hr (nar01 gz) (fun t ht hW => ⟨⟨r3, S, rfl, osome2 h, ⟨by rw [ht]; exact G.1, va_K.moved hW.alike hK, G.2.1⟩⟩, G.2.2.F ht⟩) G.2.2.2.2 dX12_isLength_11
def fr_trackScore (S : MS) (a0 : Int32) : Option (Int64 × MS) := obind2 (fr_isLength S a0) fun r5 S2 => obind2 (fr_mayAsk S2 r5) fun r9 S6 => if r9 = 0 then (some ((0 : Int64), S6)) else (obind (fr_laysScores S6 a0) fun S11 => obind2 (fr_bestBehind S11 0 (-1)) fun r17 S14 => oif (inb r17 7200 = true) <| elet (S14.2.2 26 r17.toNatClampNeg) fun v19 => some (v19, S14))
set_option maxHeartbeats 4000000 in
set_option maxRecDepth 100000 in
theorem tr_trackScore (l : Launch) (D : va_G) (cI cJ cZ : ClassId) (ad : Nat → Nat) (S : MS) (a0 : Int32) {r1 : Int64} {S1 : MS} (h : fr_trackScore S a0 = some (r1, S1)) : mCl l yX12_trackScore (Cond.code yX12_trackScore cX12_trackScore 2 (some .long) :: wsM) 6 121 D cI cJ cZ ad S [.int a0] (fun r S9 => r = r1 ∧ S9 = S1) := by
  intro sz
  refine Met.ofW (cc := cX12_trackScore) (maxL := 2) (ret := (some .long)) (by decide) rfl ?_
  intro p e s m args below meth c s₁ B hml hv
  obtain ⟨rfl, hsz, hP, hK, hD0, hR⟩ := hv
  have hx := B.exec
  have hb := B.bytes
  have hr := B.returns
  have hts := atoms_spec (ws := (Cond.code yX12_trackScore cX12_trackScore 2 (some .long) :: wsM)) B.pre
  have hown : s.vm.findClass RX12 = some m.cls := findClass_of_methodNamed B.named
  have hlocks := B.notSynchronized
  subst hsz
  have hD := hD0.self (sz := s.heap.size)
  generalize hAe : va_A (MW cI cJ cZ ad S) s.heap.size = A at hD ⊢
  have hA : ∀ q : Nat, s.heap.size ≤ q → A q := fun q h => by rw [← hAe]; exact Or.inr h
  have G : mG D cI cJ cZ ad A s.heap s.heap [] S := ⟨hP, hD, va_S.rf⟩
  have E : mE p c cX12_trackScore s m ([.ref (ad 0), .int a0] : List Value).toArray (Cond.code yX12_trackScore cX12_trackScore 2 (some .long) :: wsM) D cI cJ cZ := ⟨hx, hb, hts, hown, hK, fun w h => .tail _ (iM_x h)⟩
  have hl := lv_entry ([.ref (ad 0), .int a0]) (n := 2) (Nat.le_of_ble_eq_true rfl)
  rw [lg_entry_eq]
  generalize (lg_sl ([.ref (ad 0), .int a0]) ++ List.replicate (2 - (lg_sl ([.ref (ad 0), .int a0])).length) Slot.unset).toArray = ls at hl ⊢
  have hl : lv_has ls 2 [(0, .ref (ad 0)), (1, .int a0)] := hl
  unfold fr_trackScore at h
  refine lv_aload_n hx hb dX12_trackScore_0 rfl (lv_at hl 0 rfl) ?_
  refine lv_aload_n hx hb dX12_trackScore_1 rfl (lv_at hl 0 rfl) ?_
  refine lv_iload_n hx hb dX12_trackScore_2 rfl (lv_at hl 1 rfl) ?_
  obtain ⟨r5, S2, eS2, h⟩ := obind2_some h
  refine m_calli (As := [.int a0]) (rest := [.ref (ad 0)]) E G hA hR hml (tr_isLength l D cI cJ cZ ad S a0 eS2) (cwV 1 hts (gmV qM_430 qM_431 qM_432 qM_35 qM_428) rfl rfl rfl (by decide +kernel) ⟨Nat.le_of_ble_eq_true rfl, Nat.le_of_ble_eq_true rfl⟩) rfl hl.1 rfl (lv_room (Nat.le_of_ble_eq_true rfl)) dX12_trackScore_3 ⟨Nat.zero_le _, Nat.zero_le _⟩ (fun q3 S4 H locs hq G => ?_)
  obtain ⟨hq1, hq2⟩ := hq
  rw [hq2] at G
  refine lv_to hq1 ?_
  clear hq1 hq2 eS2
  obtain ⟨r9, S6, eS6, h⟩ := obind2_some h
  refine m_calli (As := [.int r5]) (rest := []) E G hA hR hml (tr_mayAsk l D cI cJ cZ ad S2 r5 eS6) (cwV 1 hts (gmV qM_319 qM_320 qM_321 qM_35 qM_304) rfl rfl rfl (by decide +kernel) ⟨Nat.le_of_ble_eq_true rfl, Nat.le_of_ble_eq_true rfl⟩) rfl hl.1 rfl (lv_room (Nat.le_of_ble_eq_true rfl)) dX12_trackScore_6 ⟨Nat.zero_le _, Nat.zero_le _⟩ (fun q7 S8 H locs hq G => ?_)
  obtain ⟨hq1, hq2⟩ := hq
  rw [hq2] at G
  refine lv_to hq1 ?_
  clear hq1 hq2 eS6
  refine lv_if_ne (tgt := 14) hx hb dX12_trackScore_9 (by decide) (fun c10 => ?_) (fun c10 => ?_)
  · have h := oif_neg c10 h
    refine lv_aload_n hx hb dX12_trackScore_14 rfl (lv_at hl 0 rfl) ?_
    refine lv_iload_n hx hb dX12_trackScore_15 rfl (lv_at hl 1 rfl) ?_
    obtain ⟨S11, eS11, h⟩ := obind_some h
    refine m_callv (As := [.int a0]) (rest := []) E G hA hR hml (tr_laysScores l D cI cJ cZ ad S6 a0 eS11) (cwV 1 hts (gmV qM_433 qM_434 qM_435 qM_35 qM_421) rfl rfl rfl (by decide +kernel) ⟨Nat.le_of_ble_eq_true rfl, Nat.le_of_ble_eq_true rfl⟩) rfl hl.1 rfl (lv_room (Nat.le_of_ble_eq_true rfl)) dX12_trackScore_16 ⟨Nat.zero_le _, Nat.zero_le _⟩ (fun S13 H locs hq G => ?_)
    rw [hq] at G
    clear hq eS11
    refine lv_aload_n hx hb dX12_trackScore_19 rfl (lv_at hl 0 rfl) ?_
    refine m_get E G 26 (v := .ref (ad 26)) (by decide) (.tail _ qM_22) rfl dX12_trackScore_20 rfl ?_
    refine lv_aload_n hx hb dX12_trackScore_23 rfl (lv_at hl 0 rfl) ?_
    refine lv_iconst (v := 0) hx hb dX12_trackScore_24 (by decide) ?_
    refine lv_iconst (v := (-1)) hx hb dX12_trackScore_25 (by decide) ?_
    obtain ⟨r17, S14, eS14, h⟩ := obind2_some h
    refine m_calli (As := [.int 0, .int (-1)]) (rest := [.ref (ad 26)]) E G hA hR hml (tr_bestBehind l D cI cJ cZ ad S11 0 (-1) eS14) (cwV 2 hts (gmV qM_425 qM_426 qM_427 qM_35 qM_417) rfl rfl rfl (by decide +kernel) ⟨Nat.le_of_ble_eq_true rfl, Nat.le_of_ble_eq_true rfl⟩) rfl hl.1 rfl (lv_room (Nat.le_of_ble_eq_true rfl)) dX12_trackScore_26 ⟨Nat.zero_le _, Nat.zero_le _⟩ (fun q15 S16 H locs hq G => ?_)
    obtain ⟨hq1, hq2⟩ := hq
    rw [hq2] at G
    refine lv_to hq1 ?_
    clear hq1 hq2 eS14
    obtain ⟨g18, h⟩ := oif_some h
    refine m_lald E G 26 14 (n := 7200) (k := r17.toNatClampNeg) rfl (inb_k g18).1 (inb_k g18).2 (by decide) dX12_trackScore_29 ?_
    refine lv_topl (fun v19 ev19 => ?_)
    have h := elet_at ev19 h
    clear ev19
    exact W.lret (v := v19) hx hb hr (fun t ht hW => ⟨⟨v19, S14, rfl, osome2 h, ⟨by rw [ht]; exact G.1, va_K.moved hW.alike hK, G.2.1⟩⟩, G.2.2.F ht⟩) G.2.2.2.2 dX12_trackScore_30
  · have h := oif_pos c10 h
    refine lv_lconst (v := 0) hx hb dX12_trackScore_12 (by decide) ?_
    exact W.lret (v := (0 : Int64)) hx hb hr (fun t ht hW => ⟨⟨(0 : Int64), S6, rfl, osome2 h, ⟨by rw [ht]; exact G.1, va_K.moved hW.alike hK, G.2.1⟩⟩, G.2.2.F ht⟩) G.2.2.2.2 dX12_trackScore_13
def fr_trackCell_b61  : Nat → MS → Int32 → Int32 → Int32 → Option (Int32 × MS)
  | 0, _, _, _, _ => none
  | n + 1, S, l2, l3, l4 => if l2 < l4 then (some (l3, S)) else (obind2 (fr_bestBehind S l4 l3) fun r6 S3 => elet (l4 + Int32.ofInt (1)) fun v7 => fr_trackCell_b61 n S3 l2 r6 v7)
set_option maxHeartbeats 4000000 in
set_option maxRecDepth 100000 in
theorem tr_trackCell_b61 {p : Program} {l : Launch} {e : Env} {s : State} {m : MethodId} {args : Array Value} {below : List Frame} {meth : Method} {c : Code} {Q : State → Prop} {D : va_G} {A : Nat → Prop} {H0 : Heap} {cI cJ cZ : ClassId} {ad : Nat → Nat} {r1 : Int32} {S1 : MS} (E : mE p c cX12_trackCell s m args (Cond.code yX12_trackCell cX12_trackCell 5 (some .int) :: wsM) D cI cJ cZ) (hA : ∀ q : Nat, H0.size ≤ q → A q) (hR : sR s) (hml : c.maxLocals = 5) (kr36 : ∀ (H : Heap) (locs : List Loc) (ls : Array Slot), mG D cI cJ cZ ad A H0 H locs S1 → W p l e { frames := 6, cells := 0, slots := 0, locals := 121 } s m args below meth c H locs 0 0 Q (F0 m 36 ls [.int r1])) (kr50 : ∀ (H : Heap) (locs : List Loc) (ls : Array Slot), mG D cI cJ cZ ad A H0 H locs S1 → W p l e { frames := 6, cells := 0, slots := 0, locals := 121 } s m args below meth c H locs 0 0 Q (F0 m 50 ls [.int r1])) (kr82 : ∀ (H : Heap) (locs : List Loc) (ls : Array Slot), mG D cI cJ cZ ad A H0 H locs S1 → W p l e { frames := 6, cells := 0, slots := 0, locals := 121 } s m args below meth c H locs 0 0 Q (F0 m 82 ls [.int r1])) : ∀ n : Nat, ∀ (S : MS) (H : Heap) (locs : List Loc) (ls : Array Slot) (l2 : Int32) (l3 : Int32) (l4 : Int32), fr_trackCell_b61 n S l2 l3 l4 = some (r1, S1) → mG D cI cJ cZ ad A H0 H locs S → lv_has ls 5 [(0, .ref (ad 0)), (2, .int l2), (3, .int l3), (4, .int l4)] → W p l e { frames := 6, cells := 0, slots := 0, locals := 121 } s m args below meth c H locs 0 0 Q (F0 m 61 ls []) := by
  have hx := E.1
  have hb := E.2.1
  have hts := E.2.2.1
  have hown := E.2.2.2.1
  have hK := E.2.2.2.2.1
  intro n
  induction n with
  | zero =>
    intro S H locs ls l2 l3 l4 h
    have h : (none : Option (Int32 × MS)) = some (r1, S1) := h
    cases h
  | succ n ih =>
    intro S H locs ls l2 l3 l4 h G hl
    unfold fr_trackCell_b61 at h
    refine lv_iload hx hb dX12_trackCell_61 (lv_at hl 3 rfl) ?_
    refine lv_iload_n hx hb dX12_trackCell_63 rfl (lv_at hl 1 rfl) ?_
    refine lv_icmp_gt (tgt := 81) hx hb dX12_trackCell_64 (by decide) (fun c2 => ?_) (fun c2 => ?_)
    · have h := oif_pos c2 h
      refine lv_iload_n hx hb dX12_trackCell_81 rfl (lv_at hl 2 rfl) ?_
      rw [(osome2 h).2] at G
      refine lv_to (osome2 h).1 ?_
      exact kr82 _ _ _ G
    · have h := oif_neg c2 h
      refine lv_aload_n hx hb dX12_trackCell_67 rfl (lv_at hl 0 rfl) ?_
      refine lv_iload hx hb dX12_trackCell_68 (lv_at hl 3 rfl) ?_
      refine lv_iload_n hx hb dX12_trackCell_70 rfl (lv_at hl 2 rfl) ?_
      obtain ⟨r6, S3, eS3, h⟩ := obind2_some h
      refine m_calli (As := [.int l4, .int l3]) (rest := []) E G hA hR hml (tr_bestBehind l D cI cJ cZ ad S l4 l3 eS3) (cwV 2 hts (gmV qM_425 qM_426 qM_427 qM_35 qM_417) rfl rfl rfl (by decide +kernel) ⟨Nat.le_of_ble_eq_true rfl, Nat.le_of_ble_eq_true rfl⟩) rfl hl.1 rfl (lv_room (Nat.le_of_ble_eq_true rfl)) dX12_trackCell_71 ⟨Nat.zero_le _, Nat.zero_le _⟩ (fun q4 S5 H locs hq G => ?_)
      obtain ⟨hq1, hq2⟩ := hq
      rw [hq2] at G
      refine lv_to hq1 ?_
      clear hq1 hq2 eS3
      refine lv_istore_n (lv' := [(3, .int r6), (0, .ref (ad 0)), (2, .int l2), (4, .int l4)]) hx hb dX12_trackCell_74 rfl hl (by decide) rfl (fun ls hl => ?_)
      obtain ⟨v7, ev7, h⟩ := elet_some h
      refine lv_iinc (v := v7) (lv' := [(4, .int v7), (3, .int r6), (0, .ref (ad 0)), (2, .int l2)]) hx hb dX12_trackCell_75 hl (k := 3) rfl ev7.symm (by decide) rfl (fun ls hl => ?_)
      refine lv_goto (tgt := 61) hx hb dX12_trackCell_78 (by decide) ?_
      have hl := lv_sub hl [2, 3, 1, 0] rfl
      exact ih _ _ _ _ _ _ _ h G hl
def fr_trackCell_b29  (S : MS) (s0 : Int32) (l1 : Int32) (l2 : Int32) : Option (Int32 × MS) := obind2 (fr_mayAsk S s0) fun r5 S2 => if r5 = 0 then (some (0, S2)) else (obind2 (fr_isLength S2 l1) fun r10 S7 => if r10 = 0 then (obind2 (fr_throwsAt S7 3) fun r15 S12 => some (r15, S12)) else (obind (fr_laysScores S7 l1) fun S16 => fr_trackCell_b61 16384 S16 l2 (-1) 0))
set_option maxHeartbeats 4000000 in
set_option maxRecDepth 100000 in
theorem tr_trackCell_b29 {p : Program} {l : Launch} {e : Env} {s : State} {m : MethodId} {args : Array Value} {below : List Frame} {meth : Method} {c : Code} {Q : State → Prop} {D : va_G} {A : Nat → Prop} {H0 : Heap} {cI cJ cZ : ClassId} {ad : Nat → Nat} {r1 : Int32} {S1 : MS} (E : mE p c cX12_trackCell s m args (Cond.code yX12_trackCell cX12_trackCell 5 (some .int) :: wsM) D cI cJ cZ) (hA : ∀ q : Nat, H0.size ≤ q → A q) (hR : sR s) (hml : c.maxLocals = 5) (kr36 : ∀ (H : Heap) (locs : List Loc) (ls : Array Slot), mG D cI cJ cZ ad A H0 H locs S1 → W p l e { frames := 6, cells := 0, slots := 0, locals := 121 } s m args below meth c H locs 0 0 Q (F0 m 36 ls [.int r1])) (kr50 : ∀ (H : Heap) (locs : List Loc) (ls : Array Slot), mG D cI cJ cZ ad A H0 H locs S1 → W p l e { frames := 6, cells := 0, slots := 0, locals := 121 } s m args below meth c H locs 0 0 Q (F0 m 50 ls [.int r1])) (kr82 : ∀ (H : Heap) (locs : List Loc) (ls : Array Slot), mG D cI cJ cZ ad A H0 H locs S1 → W p l e { frames := 6, cells := 0, slots := 0, locals := 121 } s m args below meth c H locs 0 0 Q (F0 m 82 ls [.int r1])) : ∀ (S : MS) (H : Heap) (locs : List Loc) (ls : Array Slot) (s0 : Int32) (l1 : Int32) (l2 : Int32), fr_trackCell_b29 S s0 l1 l2 = some (r1, S1) → mG D cI cJ cZ ad A H0 H locs S → lv_has ls 5 [(0, .ref (ad 0)), (1, .int l1), (2, .int l2)] → W p l e { frames := 6, cells := 0, slots := 0, locals := 121 } s m args below meth c H locs 0 0 Q (F0 m 29 ls [.int s0, .ref (ad 0)]) := by
  have hx := E.1
  have hb := E.2.1
  have hts := E.2.2.1
  have hown := E.2.2.2.1
  have hK := E.2.2.2.2.1
  intro S H locs ls s0 l1 l2 h G hl
  unfold fr_trackCell_b29 at h
  obtain ⟨r5, S2, eS2, h⟩ := obind2_some h
  refine m_calli (As := [.int s0]) (rest := []) E G hA hR hml (tr_mayAsk l D cI cJ cZ ad S s0 eS2) (cwV 1 hts (gmV qM_319 qM_320 qM_321 qM_35 qM_304) rfl rfl rfl (by decide +kernel) ⟨Nat.le_of_ble_eq_true rfl, Nat.le_of_ble_eq_true rfl⟩) rfl hl.1 rfl (lv_room (Nat.le_of_ble_eq_true rfl)) dX12_trackCell_29 ⟨Nat.zero_le _, Nat.zero_le _⟩ (fun q3 S4 H locs hq G => ?_)
  obtain ⟨hq1, hq2⟩ := hq
  rw [hq2] at G
  refine lv_to hq1 ?_
  clear hq1 hq2 eS2
  refine lv_if_ne (tgt := 37) hx hb dX12_trackCell_32 (by decide) (fun c6 => ?_) (fun c6 => ?_)
  · have h := oif_neg c6 h
    refine lv_aload_n hx hb dX12_trackCell_37 rfl (lv_at hl 0 rfl) ?_
    refine lv_iload_n hx hb dX12_trackCell_38 rfl (lv_at hl 1 rfl) ?_
    obtain ⟨r10, S7, eS7, h⟩ := obind2_some h
    refine m_calli (As := [.int l1]) (rest := []) E G hA hR hml (tr_isLength l D cI cJ cZ ad S2 l1 eS7) (cwV 1 hts (gmV qM_430 qM_431 qM_432 qM_35 qM_428) rfl rfl rfl (by decide +kernel) ⟨Nat.le_of_ble_eq_true rfl, Nat.le_of_ble_eq_true rfl⟩) rfl hl.1 rfl (lv_room (Nat.le_of_ble_eq_true rfl)) dX12_trackCell_39 ⟨Nat.zero_le _, Nat.zero_le _⟩ (fun q8 S9 H locs hq G => ?_)
    obtain ⟨hq1, hq2⟩ := hq
    rw [hq2] at G
    refine lv_to hq1 ?_
    clear hq1 hq2 eS7
    refine lv_if_ne (tgt := 51) hx hb dX12_trackCell_42 (by decide) (fun c11 => ?_) (fun c11 => ?_)
    · have h := oif_neg c11 h
      refine lv_aload_n hx hb dX12_trackCell_51 rfl (lv_at hl 0 rfl) ?_
      refine lv_iload_n hx hb dX12_trackCell_52 rfl (lv_at hl 1 rfl) ?_
      obtain ⟨S16, eS16, h⟩ := obind_some h
      refine m_callv (As := [.int l1]) (rest := []) E G hA hR hml (tr_laysScores l D cI cJ cZ ad S7 l1 eS16) (cwV 1 hts (gmV qM_433 qM_434 qM_435 qM_35 qM_421) rfl rfl rfl (by decide +kernel) ⟨Nat.le_of_ble_eq_true rfl, Nat.le_of_ble_eq_true rfl⟩) rfl hl.1 rfl (lv_room (Nat.le_of_ble_eq_true rfl)) dX12_trackCell_53 ⟨Nat.zero_le _, Nat.zero_le _⟩ (fun S18 H locs hq G => ?_)
      rw [hq] at G
      clear hq eS16
      refine lv_iconst (v := (-1)) hx hb dX12_trackCell_56 (by decide) ?_
      refine lv_istore_n (lv' := [(3, .int (-1)), (0, .ref (ad 0)), (1, .int l1), (2, .int l2)]) hx hb dX12_trackCell_57 rfl hl (by decide) rfl (fun ls hl => ?_)
      refine lv_iconst (v := 0) hx hb dX12_trackCell_58 (by decide) ?_
      refine lv_istore (lv' := [(4, .int 0), (3, .int (-1)), (0, .ref (ad 0)), (1, .int l1), (2, .int l2)]) hx hb dX12_trackCell_59 hl (by decide) rfl (fun ls hl => ?_)
      have hl := lv_sub hl [2, 4, 1, 0] rfl
      exact tr_trackCell_b61 E hA hR hml kr36 kr50 kr82 _ _ _ _ _ _ _ _ h G hl
    · have h := oif_pos c11 h
      refine lv_aload_n hx hb dX12_trackCell_45 rfl (lv_at hl 0 rfl) ?_
      refine lv_iconst (v := 3) hx hb dX12_trackCell_46 (by decide) ?_
      obtain ⟨r15, S12, eS12, h⟩ := obind2_some h
      refine m_calli (As := [.int 3]) (rest := []) E G hA hR hml (tr_throwsAt l D cI cJ cZ ad S7 3 eS12) (cwV 1 hts (gmV qM_195 qM_196 qM_197 qM_35 qM_28) rfl rfl rfl (by decide +kernel) ⟨Nat.le_of_ble_eq_true rfl, Nat.le_of_ble_eq_true rfl⟩) rfl hl.1 rfl (lv_room (Nat.le_of_ble_eq_true rfl)) dX12_trackCell_47 ⟨Nat.zero_le _, Nat.zero_le _⟩ (fun q13 S14 H locs hq G => ?_)
      obtain ⟨hq1, hq2⟩ := hq
      rw [hq2] at G
      refine lv_to hq1 ?_
      clear hq1 hq2 eS12
      rw [(osome2 h).2] at G
      refine lv_to (osome2 h).1 ?_
      exact kr50 _ _ _ G
  · have h := oif_pos c6 h
    refine lv_iconst (v := 0) hx hb dX12_trackCell_35 (by decide) ?_
    rw [(osome2 h).2] at G
    refine lv_to (osome2 h).1 ?_
    exact kr36 _ _ _ G
def fr_trackCell_b24  (S : MS) (l1 : Int32) (l2 : Int32) : Option (Int32 × MS) := fr_trackCell_b29 S 1 l1 l2
set_option maxHeartbeats 4000000 in
set_option maxRecDepth 100000 in
theorem tr_trackCell_b24 {p : Program} {l : Launch} {e : Env} {s : State} {m : MethodId} {args : Array Value} {below : List Frame} {meth : Method} {c : Code} {Q : State → Prop} {D : va_G} {A : Nat → Prop} {H0 : Heap} {cI cJ cZ : ClassId} {ad : Nat → Nat} {r1 : Int32} {S1 : MS} (E : mE p c cX12_trackCell s m args (Cond.code yX12_trackCell cX12_trackCell 5 (some .int) :: wsM) D cI cJ cZ) (hA : ∀ q : Nat, H0.size ≤ q → A q) (hR : sR s) (hml : c.maxLocals = 5) (kr36 : ∀ (H : Heap) (locs : List Loc) (ls : Array Slot), mG D cI cJ cZ ad A H0 H locs S1 → W p l e { frames := 6, cells := 0, slots := 0, locals := 121 } s m args below meth c H locs 0 0 Q (F0 m 36 ls [.int r1])) (kr50 : ∀ (H : Heap) (locs : List Loc) (ls : Array Slot), mG D cI cJ cZ ad A H0 H locs S1 → W p l e { frames := 6, cells := 0, slots := 0, locals := 121 } s m args below meth c H locs 0 0 Q (F0 m 50 ls [.int r1])) (kr82 : ∀ (H : Heap) (locs : List Loc) (ls : Array Slot), mG D cI cJ cZ ad A H0 H locs S1 → W p l e { frames := 6, cells := 0, slots := 0, locals := 121 } s m args below meth c H locs 0 0 Q (F0 m 82 ls [.int r1])) : ∀ (S : MS) (H : Heap) (locs : List Loc) (ls : Array Slot) (l1 : Int32) (l2 : Int32), fr_trackCell_b24 S l1 l2 = some (r1, S1) → mG D cI cJ cZ ad A H0 H locs S → lv_has ls 5 [(0, .ref (ad 0)), (1, .int l1), (2, .int l2)] → W p l e { frames := 6, cells := 0, slots := 0, locals := 121 } s m args below meth c H locs 0 0 Q (F0 m 24 ls [.ref (ad 0)]) := by
  have hx := E.1
  have hb := E.2.1
  have hts := E.2.2.1
  have hown := E.2.2.2.1
  have hK := E.2.2.2.2.1
  intro S H locs ls l1 l2 h G hl
  unfold fr_trackCell_b24 at h
  refine lv_iconst (v := 1) hx hb dX12_trackCell_24 (by decide) ?_
  refine lv_goto (tgt := 29) hx hb dX12_trackCell_25 (by decide) ?_
  have hl := lv_sub hl [0, 1, 2] rfl
  exact tr_trackCell_b29 E hA hR hml kr36 kr50 kr82 _ _ _ _ _ _ _ h G hl
def fr_trackCell (S : MS) (a0 : Int32) (a1 : Int32) : Option (Int32 × MS) := obind2 (fr_isLength S a0) fun r5 S2 => if r5 = 0 then (fr_trackCell_b24 S2 a0 a1) else (obind2 (fr_blockCount S2 a0) fun r10 S7 => elet (r10 - 1) fun v11 => obind (fr_in a1 0 v11) fun r12 => if r12 = 0 then (fr_trackCell_b29 S7 0 a0 a1) else (fr_trackCell_b24 S7 a0 a1))
set_option maxHeartbeats 4000000 in
set_option maxRecDepth 100000 in
theorem tr_trackCell (l : Launch) (D : va_G) (cI cJ cZ : ClassId) (ad : Nat → Nat) (S : MS) (a0 : Int32) (a1 : Int32) {r1 : Int32} {S1 : MS} (h : fr_trackCell S a0 a1 = some (r1, S1)) : mCi l yX12_trackCell (Cond.code yX12_trackCell cX12_trackCell 5 (some .int) :: wsM) 6 121 D cI cJ cZ ad S [.int a0, .int a1] (fun r S9 => r = r1 ∧ S9 = S1) := by
  intro sz
  refine Met.ofW (cc := cX12_trackCell) (maxL := 5) (ret := (some .int)) (by decide) rfl ?_
  intro p e s m args below meth c s₁ B hml hv
  obtain ⟨rfl, hsz, hP, hK, hD0, hR⟩ := hv
  have hx := B.exec
  have hb := B.bytes
  have hr := B.returns
  have hts := atoms_spec (ws := (Cond.code yX12_trackCell cX12_trackCell 5 (some .int) :: wsM)) B.pre
  have hown : s.vm.findClass RX12 = some m.cls := findClass_of_methodNamed B.named
  have hlocks := B.notSynchronized
  subst hsz
  have hD := hD0.self (sz := s.heap.size)
  generalize hAe : va_A (MW cI cJ cZ ad S) s.heap.size = A at hD ⊢
  have hA : ∀ q : Nat, s.heap.size ≤ q → A q := fun q h => by rw [← hAe]; exact Or.inr h
  have G : mG D cI cJ cZ ad A s.heap s.heap [] S := ⟨hP, hD, va_S.rf⟩
  have E : mE p c cX12_trackCell s m ([.ref (ad 0), .int a0, .int a1] : List Value).toArray (Cond.code yX12_trackCell cX12_trackCell 5 (some .int) :: wsM) D cI cJ cZ := ⟨hx, hb, hts, hown, hK, fun w h => .tail _ (iM_x h)⟩
  have hl := lv_entry ([.ref (ad 0), .int a0, .int a1]) (n := 5) (Nat.le_of_ble_eq_true rfl)
  rw [lg_entry_eq]
  generalize (lg_sl ([.ref (ad 0), .int a0, .int a1]) ++ List.replicate (5 - (lg_sl ([.ref (ad 0), .int a0, .int a1])).length) Slot.unset).toArray = ls at hl ⊢
  have hl : lv_has ls 5 [(0, .ref (ad 0)), (1, .int a0), (2, .int a1)] := hl
  unfold fr_trackCell at h
  refine lv_aload_n hx hb dX12_trackCell_0 rfl (lv_at hl 0 rfl) ?_
  refine lv_aload_n hx hb dX12_trackCell_1 rfl (lv_at hl 0 rfl) ?_
  refine lv_iload_n hx hb dX12_trackCell_2 rfl (lv_at hl 1 rfl) ?_
  obtain ⟨r5, S2, eS2, h⟩ := obind2_some h
  refine m_calli (As := [.int a0]) (rest := [.ref (ad 0)]) E G hA hR hml (tr_isLength l D cI cJ cZ ad S a0 eS2) (cwV 1 hts (gmV qM_430 qM_431 qM_432 qM_35 qM_428) rfl rfl rfl (by decide +kernel) ⟨Nat.le_of_ble_eq_true rfl, Nat.le_of_ble_eq_true rfl⟩) rfl hl.1 rfl (lv_room (Nat.le_of_ble_eq_true rfl)) dX12_trackCell_3 ⟨Nat.zero_le _, Nat.zero_le _⟩ (fun q3 S4 H locs hq G => ?_)
  obtain ⟨hq1, hq2⟩ := hq
  rw [hq2] at G
  refine lv_to hq1 ?_
  clear hq1 hq2 eS2
  refine lv_if_eq (tgt := 24) hx hb dX12_trackCell_6 (by decide) (fun c6 => ?_) (fun c6 => ?_)
  · have h := oif_pos c6 h
    have hl := lv_sub hl [0, 1, 2] rfl
    exact tr_trackCell_b24 E hA hR hml (fun H locs ls G => W.iret (v := r1) hx hb hr (fun t ht hW => ⟨⟨r1, S1, rfl, ⟨rfl, rfl⟩, ⟨by rw [ht]; exact G.1, va_K.moved hW.alike hK, G.2.1⟩⟩, G.2.2.F ht⟩) G.2.2.2.2 dX12_trackCell_36) (fun H locs ls G => W.iret (v := r1) hx hb hr (fun t ht hW => ⟨⟨r1, S1, rfl, ⟨rfl, rfl⟩, ⟨by rw [ht]; exact G.1, va_K.moved hW.alike hK, G.2.1⟩⟩, G.2.2.F ht⟩) G.2.2.2.2 dX12_trackCell_50) (fun H locs ls G => W.iret (v := r1) hx hb hr (fun t ht hW => ⟨⟨r1, S1, rfl, ⟨rfl, rfl⟩, ⟨by rw [ht]; exact G.1, va_K.moved hW.alike hK, G.2.1⟩⟩, G.2.2.F ht⟩) G.2.2.2.2 dX12_trackCell_82) _ _ _ _ _ _ h G hl
  · have h := oif_neg c6 h
    refine lv_iload_n hx hb dX12_trackCell_9 rfl (lv_at hl 2 rfl) ?_
    refine lv_iconst (v := 0) hx hb dX12_trackCell_10 (by decide) ?_
    refine lv_aload_n hx hb dX12_trackCell_11 rfl (lv_at hl 0 rfl) ?_
    refine lv_iload_n hx hb dX12_trackCell_12 rfl (lv_at hl 1 rfl) ?_
    obtain ⟨r10, S7, eS7, h⟩ := obind2_some h
    refine m_calli (As := [.int a0]) (rest := [.int 0, .int a1, .ref (ad 0)]) E G hA hR hml (tr_blockCount l D cI cJ cZ ad S2 a0 eS7) (cwV 1 hts (gmV qM_422 qM_423 qM_424 qM_35 qM_415) rfl rfl rfl (by decide +kernel) ⟨Nat.le_of_ble_eq_true rfl, Nat.le_of_ble_eq_true rfl⟩) rfl hl.1 rfl (lv_room (Nat.le_of_ble_eq_true rfl)) dX12_trackCell_13 ⟨Nat.zero_le _, Nat.zero_le _⟩ (fun q8 S9 H locs hq G => ?_)
    obtain ⟨hq1, hq2⟩ := hq
    rw [hq2] at G
    refine lv_to hq1 ?_
    clear hq1 hq2 eS7
    refine lv_iconst (v := 1) hx hb dX12_trackCell_16 (by decide) ?_
    refine lv_isub hx hb dX12_trackCell_17 ?_
    refine lv_topi (fun v11 ev11 => ?_)
    have h := elet_at ev11 h
    clear ev11
    obtain ⟨r12, er12, h⟩ := obind_some h
    refine m_stat (As := [.int a1, .int 0, .int v11]) (rest := [.ref (ad 0)]) ⟨hx, hb, hml, hown, hts⟩ (tr_in l a1 0 v11 er12) (cwS 3 hts (gmS qM_52 qM_53 qM_35 qM_27) rfl rfl rfl (by decide +kernel) ⟨Nat.le_of_ble_eq_true rfl, Nat.le_of_ble_eq_true rfl⟩) rfl hl.1 rfl (lv_room (Nat.le_of_ble_eq_true rfl)) dX12_trackCell_18 ⟨Nat.zero_le _, Nat.zero_le _⟩ (fun q13 hq => ?_)
    refine lv_to hq ?_
    clear hq er12
    refine lv_if_eq (tgt := 28) hx hb dX12_trackCell_21 (by decide) (fun c14 => ?_) (fun c14 => ?_)
    · have h := oif_pos c14 h
      refine lv_iconst (v := 0) hx hb dX12_trackCell_28 (by decide) ?_
      have hl := lv_sub hl [0, 1, 2] rfl
      exact tr_trackCell_b29 E hA hR hml (fun H locs ls G => W.iret (v := r1) hx hb hr (fun t ht hW => ⟨⟨r1, S1, rfl, ⟨rfl, rfl⟩, ⟨by rw [ht]; exact G.1, va_K.moved hW.alike hK, G.2.1⟩⟩, G.2.2.F ht⟩) G.2.2.2.2 dX12_trackCell_36) (fun H locs ls G => W.iret (v := r1) hx hb hr (fun t ht hW => ⟨⟨r1, S1, rfl, ⟨rfl, rfl⟩, ⟨by rw [ht]; exact G.1, va_K.moved hW.alike hK, G.2.1⟩⟩, G.2.2.F ht⟩) G.2.2.2.2 dX12_trackCell_50) (fun H locs ls G => W.iret (v := r1) hx hb hr (fun t ht hW => ⟨⟨r1, S1, rfl, ⟨rfl, rfl⟩, ⟨by rw [ht]; exact G.1, va_K.moved hW.alike hK, G.2.1⟩⟩, G.2.2.F ht⟩) G.2.2.2.2 dX12_trackCell_82) _ _ _ _ _ _ _ h G hl
    · have h := oif_neg c14 h
      have hl := lv_sub hl [0, 1, 2] rfl
      exact tr_trackCell_b24 E hA hR hml (fun H locs ls G => W.iret (v := r1) hx hb hr (fun t ht hW => ⟨⟨r1, S1, rfl, ⟨rfl, rfl⟩, ⟨by rw [ht]; exact G.1, va_K.moved hW.alike hK, G.2.1⟩⟩, G.2.2.F ht⟩) G.2.2.2.2 dX12_trackCell_36) (fun H locs ls G => W.iret (v := r1) hx hb hr (fun t ht hW => ⟨⟨r1, S1, rfl, ⟨rfl, rfl⟩, ⟨by rw [ht]; exact G.1, va_K.moved hW.alike hK, G.2.1⟩⟩, G.2.2.F ht⟩) G.2.2.2.2 dX12_trackCell_50) (fun H locs ls G => W.iret (v := r1) hx hb hr (fun t ht hW => ⟨⟨r1, S1, rfl, ⟨rfl, rfl⟩, ⟨by rw [ht]; exact G.1, va_K.moved hW.alike hK, G.2.1⟩⟩, G.2.2.F ht⟩) G.2.2.2.2 dX12_trackCell_82) _ _ _ _ _ _ h G hl
def fr_isZone (S : MS) (a0 : Int32) : Option (Int32 × MS) := elet (S.2.1 10 101) fun v2 => elet (v2 - 1) fun v3 => obind (fr_in a0 0 v3) fun r4 => oif (r4 = 0 ∨ r4 = 1) <| some (r4, S)
set_option maxHeartbeats 4000000 in
set_option maxRecDepth 100000 in
theorem tr_isZone (l : Launch) (D : va_G) (cI cJ cZ : ClassId) (ad : Nat → Nat) (S : MS) (a0 : Int32) {r1 : Int32} {S1 : MS} (h : fr_isZone S a0 = some (r1, S1)) : mCi l yX12_isZone (Cond.code yX12_isZone cX12_isZone 2 (some .boolean) :: wsM) 2 22 D cI cJ cZ ad S [.int a0] (fun r S9 => r = r1 ∧ S9 = S1) := by
  intro sz
  refine Met.ofW (cc := cX12_isZone) (maxL := 2) (ret := (some .boolean)) (by decide) rfl ?_
  intro p e s m args below meth c s₁ B hml hv
  obtain ⟨rfl, hsz, hP, hK, hD0, hR⟩ := hv
  have hx := B.exec
  have hb := B.bytes
  have hr := B.returns
  have hts := atoms_spec (ws := (Cond.code yX12_isZone cX12_isZone 2 (some .boolean) :: wsM)) B.pre
  have hown : s.vm.findClass RX12 = some m.cls := findClass_of_methodNamed B.named
  have hlocks := B.notSynchronized
  subst hsz
  have hD := hD0.self (sz := s.heap.size)
  generalize hAe : va_A (MW cI cJ cZ ad S) s.heap.size = A at hD ⊢
  have hA : ∀ q : Nat, s.heap.size ≤ q → A q := fun q h => by rw [← hAe]; exact Or.inr h
  have G : mG D cI cJ cZ ad A s.heap s.heap [] S := ⟨hP, hD, va_S.rf⟩
  have E : mE p c cX12_isZone s m ([.ref (ad 0), .int a0] : List Value).toArray (Cond.code yX12_isZone cX12_isZone 2 (some .boolean) :: wsM) D cI cJ cZ := ⟨hx, hb, hts, hown, hK, fun w h => .tail _ (iM_x h)⟩
  have hl := lv_entry ([.ref (ad 0), .int a0]) (n := 2) (Nat.le_of_ble_eq_true rfl)
  rw [lg_entry_eq]
  generalize (lg_sl ([.ref (ad 0), .int a0]) ++ List.replicate (2 - (lg_sl ([.ref (ad 0), .int a0])).length) Slot.unset).toArray = ls at hl ⊢
  have hl : lv_has ls 2 [(0, .ref (ad 0)), (1, .int a0)] := hl
  unfold fr_isZone at h
  refine lv_iload_n hx hb dX12_isZone_0 rfl (lv_at hl 1 rfl) ?_
  refine lv_iconst (v := 0) hx hb dX12_isZone_1 (by decide) ?_
  refine lv_aload_n hx hb dX12_isZone_2 rfl (lv_at hl 0 rfl) ?_
  refine m_get E G 10 (v := .ref (ad 10)) (by decide) (.tail _ qM_7) rfl dX12_isZone_3 rfl ?_
  refine lv_bipush (v := 101) hx hb dX12_isZone_6 (by decide) ?_
  refine m_iald E G 10 2 (n := 131) (k := 101) rfl rfl (by decide) (by decide) dX12_isZone_8 ?_
  refine lv_topi (fun v2 ev2 => ?_)
  have h := elet_at ev2 h
  clear ev2
  refine lv_iconst (v := 1) hx hb dX12_isZone_9 (by decide) ?_
  refine lv_isub hx hb dX12_isZone_10 ?_
  refine lv_topi (fun v3 ev3 => ?_)
  have h := elet_at ev3 h
  clear ev3
  obtain ⟨r4, er4, h⟩ := obind_some h
  refine m_stat (As := [.int a0, .int 0, .int v3]) (rest := []) ⟨hx, hb, hml, hown, hts⟩ (tr_in l a0 0 v3 er4) (cwS 3 hts (gmS qM_52 qM_53 qM_35 qM_27) rfl rfl rfl (by decide +kernel) ⟨Nat.le_of_ble_eq_true rfl, Nat.le_of_ble_eq_true rfl⟩) rfl hl.1 rfl (lv_room (Nat.le_of_ble_eq_true rfl)) dX12_isZone_11 ⟨Nat.zero_le _, Nat.zero_le _⟩ (fun q5 hq => ?_)
  refine lv_to hq ?_
  clear hq er4
  obtain ⟨gz, h⟩ := oif_some h
  exact W.zret (v := r4) hx hb hr (nar01 gz) (fun t ht hW => ⟨⟨r4, S, rfl, osome2 h, ⟨by rw [ht]; exact G.1, va_K.moved hW.alike hK, G.2.1⟩⟩, G.2.2.F ht⟩) G.2.2.2.2 dX12_isZone_14
def fr_isInZone_b72  (S : MS) (s0 : Int32) : Option (Int32 × MS) := oif (s0 = 0 ∨ s0 = 1) <| some (s0, S)
set_option maxHeartbeats 4000000 in
set_option maxRecDepth 100000 in
theorem tr_isInZone_b72 {p : Program} {l : Launch} {e : Env} {s : State} {m : MethodId} {args : Array Value} {below : List Frame} {meth : Method} {c : Code} {Q : State → Prop} {D : va_G} {A : Nat → Prop} {H0 : Heap} {cI cJ cZ : ClassId} {ad : Nat → Nat} {r1 : Int32} {S1 : MS} (E : mE p c cX12_isInZone s m args (Cond.code yX12_isInZone cX12_isInZone 4 (some .boolean) :: wsM) D cI cJ cZ) (hA : ∀ q : Nat, H0.size ≤ q → A q) (hR : sR s) (hml : c.maxLocals = 4) (kr72 : ∀ (H : Heap) (locs : List Loc) (ls : Array Slot), (r1 = 0 ∨ r1 = 1) → mG D cI cJ cZ ad A H0 H locs S1 → W p l e { frames := 2, cells := 0, slots := 0, locals := 22 } s m args below meth c H locs 0 0 Q (F0 m 72 ls [.int r1])) : ∀ (S : MS) (H : Heap) (locs : List Loc) (ls : Array Slot) (s0 : Int32), fr_isInZone_b72 S s0 = some (r1, S1) → mG D cI cJ cZ ad A H0 H locs S → lv_has ls 4 [] → W p l e { frames := 2, cells := 0, slots := 0, locals := 22 } s m args below meth c H locs 0 0 Q (F0 m 72 ls [.int s0]) := by
  have hx := E.1
  have hb := E.2.1
  have hts := E.2.2.1
  have hown := E.2.2.2.1
  have hK := E.2.2.2.2.1
  intro S H locs ls s0 h G hl
  unfold fr_isInZone_b72 at h
  obtain ⟨gz, h⟩ := oif_some h
  have gr : r1 = 0 ∨ r1 = 1 := by rw [← (osome2 h).1]; exact gz
  rw [(osome2 h).2] at G
  refine lv_to (osome2 h).1 ?_
  exact kr72 _ _ _ gr G
def fr_isInZone_b71  (S : MS)  : Option (Int32 × MS) := fr_isInZone_b72 S 0
set_option maxHeartbeats 4000000 in
set_option maxRecDepth 100000 in
theorem tr_isInZone_b71 {p : Program} {l : Launch} {e : Env} {s : State} {m : MethodId} {args : Array Value} {below : List Frame} {meth : Method} {c : Code} {Q : State → Prop} {D : va_G} {A : Nat → Prop} {H0 : Heap} {cI cJ cZ : ClassId} {ad : Nat → Nat} {r1 : Int32} {S1 : MS} (E : mE p c cX12_isInZone s m args (Cond.code yX12_isInZone cX12_isInZone 4 (some .boolean) :: wsM) D cI cJ cZ) (hA : ∀ q : Nat, H0.size ≤ q → A q) (hR : sR s) (hml : c.maxLocals = 4) (kr72 : ∀ (H : Heap) (locs : List Loc) (ls : Array Slot), (r1 = 0 ∨ r1 = 1) → mG D cI cJ cZ ad A H0 H locs S1 → W p l e { frames := 2, cells := 0, slots := 0, locals := 22 } s m args below meth c H locs 0 0 Q (F0 m 72 ls [.int r1])) : ∀ (S : MS) (H : Heap) (locs : List Loc) (ls : Array Slot), fr_isInZone_b71 S = some (r1, S1) → mG D cI cJ cZ ad A H0 H locs S → lv_has ls 4 [] → W p l e { frames := 2, cells := 0, slots := 0, locals := 22 } s m args below meth c H locs 0 0 Q (F0 m 71 ls []) := by
  have hx := E.1
  have hb := E.2.1
  have hts := E.2.2.1
  have hown := E.2.2.2.1
  have hK := E.2.2.2.2.1
  intro S H locs ls h G hl
  unfold fr_isInZone_b71 at h
  refine lv_iconst (v := 0) hx hb dX12_isInZone_71 (by decide) ?_
  have hl := lv_sub hl [] rfl
  exact tr_isInZone_b72 E hA hR hml kr72 _ _ _ _ _ h G hl
def fr_isInZone (S : MS) (a0 : Int32) (a1 : Int32) : Option (Int32 × MS) := elet (4 * a0) fun v2 => elet (102 + v2) fun v3 => elet (S.2.1 10 9) fun v4 => oif (¬ v4 = 0) <| elet (a1 - a1 / v4 * v4) fun v6 => oif (inb v3 131 = true) <| elet (S.2.1 10 v3.toNatClampNeg) fun v8 => elet (v3 + 2) fun v9 => oif (inb v9 131 = true) <| elet (S.2.1 10 v9.toNatClampNeg) fun v11 => obind (fr_in v6 v8 v11) fun r12 => if r12 = 0 then (fr_isInZone_b71 S) else (elet (S.2.1 10 9) fun v15 => oif (¬ v15 = 0) <| elet (a1 / v15) fun v17 => elet (v3 + 1) fun v18 => oif (inb v18 131 = true) <| elet (S.2.1 10 v18.toNatClampNeg) fun v20 => elet (v3 + 3) fun v21 => oif (inb v21 131 = true) <| elet (S.2.1 10 v21.toNatClampNeg) fun v23 => obind (fr_in v17 v20 v23) fun r24 => if r24 = 0 then (fr_isInZone_b71 S) else (fr_isInZone_b72 S 1))
set_option maxHeartbeats 4000000 in
set_option maxRecDepth 100000 in
theorem tr_isInZone (l : Launch) (D : va_G) (cI cJ cZ : ClassId) (ad : Nat → Nat) (S : MS) (a0 : Int32) (a1 : Int32) {r1 : Int32} {S1 : MS} (h : fr_isInZone S a0 a1 = some (r1, S1)) : mCi l yX12_isInZone (Cond.code yX12_isInZone cX12_isInZone 4 (some .boolean) :: wsM) 2 22 D cI cJ cZ ad S [.int a0, .int a1] (fun r S9 => r = r1 ∧ S9 = S1) := by
  intro sz
  refine Met.ofW (cc := cX12_isInZone) (maxL := 4) (ret := (some .boolean)) (by decide) rfl ?_
  intro p e s m args below meth c s₁ B hml hv
  obtain ⟨rfl, hsz, hP, hK, hD0, hR⟩ := hv
  have hx := B.exec
  have hb := B.bytes
  have hr := B.returns
  have hts := atoms_spec (ws := (Cond.code yX12_isInZone cX12_isInZone 4 (some .boolean) :: wsM)) B.pre
  have hown : s.vm.findClass RX12 = some m.cls := findClass_of_methodNamed B.named
  have hlocks := B.notSynchronized
  subst hsz
  have hD := hD0.self (sz := s.heap.size)
  generalize hAe : va_A (MW cI cJ cZ ad S) s.heap.size = A at hD ⊢
  have hA : ∀ q : Nat, s.heap.size ≤ q → A q := fun q h => by rw [← hAe]; exact Or.inr h
  have G : mG D cI cJ cZ ad A s.heap s.heap [] S := ⟨hP, hD, va_S.rf⟩
  have E : mE p c cX12_isInZone s m ([.ref (ad 0), .int a0, .int a1] : List Value).toArray (Cond.code yX12_isInZone cX12_isInZone 4 (some .boolean) :: wsM) D cI cJ cZ := ⟨hx, hb, hts, hown, hK, fun w h => .tail _ (iM_x h)⟩
  have hl := lv_entry ([.ref (ad 0), .int a0, .int a1]) (n := 4) (Nat.le_of_ble_eq_true rfl)
  rw [lg_entry_eq]
  generalize (lg_sl ([.ref (ad 0), .int a0, .int a1]) ++ List.replicate (4 - (lg_sl ([.ref (ad 0), .int a0, .int a1])).length) Slot.unset).toArray = ls at hl ⊢
  have hl : lv_has ls 4 [(0, .ref (ad 0)), (1, .int a0), (2, .int a1)] := hl
  unfold fr_isInZone at h
  refine lv_bipush (v := 102) hx hb dX12_isInZone_0 (by decide) ?_
  refine lv_iconst (v := 4) hx hb dX12_isInZone_2 (by decide) ?_
  refine lv_iload_n hx hb dX12_isInZone_3 rfl (lv_at hl 1 rfl) ?_
  refine lv_imul hx hb dX12_isInZone_4 ?_
  refine lv_topi (fun v2 ev2 => ?_)
  have h := elet_at ev2 h
  clear ev2
  refine lv_iadd hx hb dX12_isInZone_5 ?_
  refine lv_topi (fun v3 ev3 => ?_)
  have h := elet_at ev3 h
  clear ev3
  refine lv_istore_n (lv' := [(3, .int v3), (0, .ref (ad 0)), (1, .int a0), (2, .int a1)]) hx hb dX12_isInZone_6 rfl hl (by decide) rfl (fun ls hl => ?_)
  refine lv_iload_n hx hb dX12_isInZone_7 rfl (lv_at hl 3 rfl) ?_
  refine lv_aload_n hx hb dX12_isInZone_8 rfl (lv_at hl 1 rfl) ?_
  refine m_get E G 10 (v := .ref (ad 10)) (by decide) (.tail _ qM_7) rfl dX12_isInZone_9 rfl ?_
  refine lv_bipush (v := 9) hx hb dX12_isInZone_12 (by decide) ?_
  refine m_iald E G 10 2 (n := 131) (k := 9) rfl rfl (by decide) (by decide) dX12_isInZone_14 ?_
  refine lv_topi (fun v4 ev4 => ?_)
  have h := elet_at ev4 h
  clear ev4
  obtain ⟨g5, h⟩ := oif_some h
  refine lv_irem hx hb dX12_isInZone_15 g5 ?_
  refine lv_topi (fun v6 ev6 => ?_)
  have h := elet_at ev6 h
  clear ev6
  refine lv_aload_n hx hb dX12_isInZone_16 rfl (lv_at hl 1 rfl) ?_
  refine m_get E G 10 (v := .ref (ad 10)) (by decide) (.tail _ qM_7) rfl dX12_isInZone_17 rfl ?_
  refine lv_iload_n hx hb dX12_isInZone_20 rfl (lv_at hl 0 rfl) ?_
  obtain ⟨g7, h⟩ := oif_some h
  refine m_iald E G 10 2 (n := 131) (k := v3.toNatClampNeg) rfl (inb_k g7).1 (inb_k g7).2 (by decide) dX12_isInZone_21 ?_
  refine lv_topi (fun v8 ev8 => ?_)
  have h := elet_at ev8 h
  clear ev8
  refine lv_aload_n hx hb dX12_isInZone_22 rfl (lv_at hl 1 rfl) ?_
  refine m_get E G 10 (v := .ref (ad 10)) (by decide) (.tail _ qM_7) rfl dX12_isInZone_23 rfl ?_
  refine lv_iload_n hx hb dX12_isInZone_26 rfl (lv_at hl 0 rfl) ?_
  refine lv_iconst (v := 2) hx hb dX12_isInZone_27 (by decide) ?_
  refine lv_iadd hx hb dX12_isInZone_28 ?_
  refine lv_topi (fun v9 ev9 => ?_)
  have h := elet_at ev9 h
  clear ev9
  obtain ⟨g10, h⟩ := oif_some h
  refine m_iald E G 10 2 (n := 131) (k := v9.toNatClampNeg) rfl (inb_k g10).1 (inb_k g10).2 (by decide) dX12_isInZone_29 ?_
  refine lv_topi (fun v11 ev11 => ?_)
  have h := elet_at ev11 h
  clear ev11
  obtain ⟨r12, er12, h⟩ := obind_some h
  refine m_stat (As := [.int v6, .int v8, .int v11]) (rest := []) ⟨hx, hb, hml, hown, hts⟩ (tr_in l v6 v8 v11 er12) (cwS 3 hts (gmS qM_52 qM_53 qM_35 qM_27) rfl rfl rfl (by decide +kernel) ⟨Nat.le_of_ble_eq_true rfl, Nat.le_of_ble_eq_true rfl⟩) rfl hl.1 rfl (lv_room (Nat.le_of_ble_eq_true rfl)) dX12_isInZone_30 ⟨Nat.zero_le _, Nat.zero_le _⟩ (fun q13 hq => ?_)
  refine lv_to hq ?_
  clear hq er12
  refine lv_if_eq (tgt := 71) hx hb dX12_isInZone_33 (by decide) (fun c14 => ?_) (fun c14 => ?_)
  · have h := oif_pos c14 h
    have hl := lv_sub hl [] rfl
    exact tr_isInZone_b71 E hA hR hml (fun H locs ls gz G => W.zret (v := r1) hx hb hr (nar01 gz) (fun t ht hW => ⟨⟨r1, S1, rfl, ⟨rfl, rfl⟩, ⟨by rw [ht]; exact G.1, va_K.moved hW.alike hK, G.2.1⟩⟩, G.2.2.F ht⟩) G.2.2.2.2 dX12_isInZone_72) _ _ _ _ h G hl
  · have h := oif_neg c14 h
    refine lv_iload_n hx hb dX12_isInZone_36 rfl (lv_at hl 3 rfl) ?_
    refine lv_aload_n hx hb dX12_isInZone_37 rfl (lv_at hl 1 rfl) ?_
    refine m_get E G 10 (v := .ref (ad 10)) (by decide) (.tail _ qM_7) rfl dX12_isInZone_38 rfl ?_
    refine lv_bipush (v := 9) hx hb dX12_isInZone_41 (by decide) ?_
    refine m_iald E G 10 2 (n := 131) (k := 9) rfl rfl (by decide) (by decide) dX12_isInZone_43 ?_
    refine lv_topi (fun v15 ev15 => ?_)
    have h := elet_at ev15 h
    clear ev15
    obtain ⟨g16, h⟩ := oif_some h
    refine lv_idiv hx hb dX12_isInZone_44 g16 ?_
    refine lv_topi (fun v17 ev17 => ?_)
    have h := elet_at ev17 h
    clear ev17
    refine lv_aload_n hx hb dX12_isInZone_45 rfl (lv_at hl 1 rfl) ?_
    refine m_get E G 10 (v := .ref (ad 10)) (by decide) (.tail _ qM_7) rfl dX12_isInZone_46 rfl ?_
    refine lv_iload_n hx hb dX12_isInZone_49 rfl (lv_at hl 0 rfl) ?_
    refine lv_iconst (v := 1) hx hb dX12_isInZone_50 (by decide) ?_
    refine lv_iadd hx hb dX12_isInZone_51 ?_
    refine lv_topi (fun v18 ev18 => ?_)
    have h := elet_at ev18 h
    clear ev18
    obtain ⟨g19, h⟩ := oif_some h
    refine m_iald E G 10 2 (n := 131) (k := v18.toNatClampNeg) rfl (inb_k g19).1 (inb_k g19).2 (by decide) dX12_isInZone_52 ?_
    refine lv_topi (fun v20 ev20 => ?_)
    have h := elet_at ev20 h
    clear ev20
    refine lv_aload_n hx hb dX12_isInZone_53 rfl (lv_at hl 1 rfl) ?_
    refine m_get E G 10 (v := .ref (ad 10)) (by decide) (.tail _ qM_7) rfl dX12_isInZone_54 rfl ?_
    refine lv_iload_n hx hb dX12_isInZone_57 rfl (lv_at hl 0 rfl) ?_
    refine lv_iconst (v := 3) hx hb dX12_isInZone_58 (by decide) ?_
    refine lv_iadd hx hb dX12_isInZone_59 ?_
    refine lv_topi (fun v21 ev21 => ?_)
    have h := elet_at ev21 h
    clear ev21
    obtain ⟨g22, h⟩ := oif_some h
    refine m_iald E G 10 2 (n := 131) (k := v21.toNatClampNeg) rfl (inb_k g22).1 (inb_k g22).2 (by decide) dX12_isInZone_60 ?_
    refine lv_topi (fun v23 ev23 => ?_)
    have h := elet_at ev23 h
    clear ev23
    obtain ⟨r24, er24, h⟩ := obind_some h
    refine m_stat (As := [.int v17, .int v20, .int v23]) (rest := []) ⟨hx, hb, hml, hown, hts⟩ (tr_in l v17 v20 v23 er24) (cwS 3 hts (gmS qM_52 qM_53 qM_35 qM_27) rfl rfl rfl (by decide +kernel) ⟨Nat.le_of_ble_eq_true rfl, Nat.le_of_ble_eq_true rfl⟩) rfl hl.1 rfl (lv_room (Nat.le_of_ble_eq_true rfl)) dX12_isInZone_61 ⟨Nat.zero_le _, Nat.zero_le _⟩ (fun q25 hq => ?_)
    refine lv_to hq ?_
    clear hq er24
    refine lv_if_eq (tgt := 71) hx hb dX12_isInZone_64 (by decide) (fun c26 => ?_) (fun c26 => ?_)
    · have h := oif_pos c26 h
      have hl := lv_sub hl [] rfl
      exact tr_isInZone_b71 E hA hR hml (fun H locs ls gz G => W.zret (v := r1) hx hb hr (nar01 gz) (fun t ht hW => ⟨⟨r1, S1, rfl, ⟨rfl, rfl⟩, ⟨by rw [ht]; exact G.1, va_K.moved hW.alike hK, G.2.1⟩⟩, G.2.2.F ht⟩) G.2.2.2.2 dX12_isInZone_72) _ _ _ _ h G hl
    · have h := oif_neg c26 h
      refine lv_iconst (v := 1) hx hb dX12_isInZone_67 (by decide) ?_
      refine lv_goto (tgt := 72) hx hb dX12_isInZone_68 (by decide) ?_
      have hl := lv_sub hl [] rfl
      exact tr_isInZone_b72 E hA hR hml (fun H locs ls gz G => W.zret (v := r1) hx hb hr (nar01 gz) (fun t ht hW => ⟨⟨r1, S1, rfl, ⟨rfl, rfl⟩, ⟨by rw [ht]; exact G.1, va_K.moved hW.alike hK, G.2.1⟩⟩, G.2.2.F ht⟩) G.2.2.2.2 dX12_isInZone_72) _ _ _ _ _ h G hl
def fr_zonePower_b53 (k19 : MS → Int32 → Int64 → Int32 → Option (Int64 × MS)) (S : MS) (s0 : Int64) (s1 : Int64) (l1 : Int32) (l4 : Int32) : Option (Int64 × MS) := elet (s1 + s0) fun v2 => elet (l4 + Int32.ofInt (1)) fun v3 => k19 S l1 v2 v3
set_option maxHeartbeats 4000000 in
set_option maxRecDepth 100000 in
theorem tr_zonePower_b53 {p : Program} {l : Launch} {e : Env} {s : State} {m : MethodId} {args : Array Value} {below : List Frame} {meth : Method} {c : Code} {Q : State → Prop} {D : va_G} {A : Nat → Prop} {H0 : Heap} {cI cJ cZ : ClassId} {ad : Nat → Nat} {r1 : Int64} {S1 : MS} (E : mE p c cX12_zonePower s m args (Cond.code yX12_zonePower cX12_zonePower 5 (some .long) :: wsM) D cI cJ cZ) (hA : ∀ q : Nat, H0.size ≤ q → A q) (hR : sR s) (hml : c.maxLocals = 5) (kr13 : ∀ (H : Heap) (locs : List Loc) (ls : Array Slot), mG D cI cJ cZ ad A H0 H locs S1 → W p l e { frames := 6, cells := 0, slots := 0, locals := 118 } s m args below meth c H locs 0 0 Q (F0 m 13 ls [.long r1])) (kr62 : ∀ (H : Heap) (locs : List Loc) (ls : Array Slot), mG D cI cJ cZ ad A H0 H locs S1 → W p l e { frames := 6, cells := 0, slots := 0, locals := 118 } s m args below meth c H locs 0 0 Q (F0 m 62 ls [.long r1])) {k19 : MS → Int32 → Int64 → Int32 → Option (Int64 × MS)} (hk19 : ∀ (S : MS) (H : Heap) (locs : List Loc) (ls : Array Slot) (l1 : Int32) (l2 : Int64) (l4 : Int32), k19 S l1 l2 l4 = some (r1, S1) → mG D cI cJ cZ ad A H0 H locs S → lv_has ls 5 [(0, .ref (ad 0)), (1, .int l1), (2, .long l2), (4, .int l4)] → W p l e { frames := 6, cells := 0, slots := 0, locals := 118 } s m args below meth c H locs 0 0 Q (F0 m 19 ls [])) : ∀ (S : MS) (H : Heap) (locs : List Loc) (ls : Array Slot) (s0 : Int64) (s1 : Int64) (l1 : Int32) (l4 : Int32), fr_zonePower_b53 k19 S s0 s1 l1 l4 = some (r1, S1) → mG D cI cJ cZ ad A H0 H locs S → lv_has ls 5 [(0, .ref (ad 0)), (1, .int l1), (4, .int l4)] → W p l e { frames := 6, cells := 0, slots := 0, locals := 118 } s m args below meth c H locs 0 0 Q (F0 m 53 ls [.long s0, .long s1]) := by
  have hx := E.1
  have hb := E.2.1
  have hts := E.2.2.1
  have hown := E.2.2.2.1
  have hK := E.2.2.2.2.1
  intro S H locs ls s0 s1 l1 l4 h G hl
  unfold fr_zonePower_b53 at h
  refine lv_ladd hx hb dX12_zonePower_53 ?_
  refine lv_topl (fun v2 ev2 => ?_)
  have h := elet_at ev2 h
  clear ev2
  refine lv_lstore_n (lv' := [(2, .long v2), (0, .ref (ad 0)), (1, .int l1), (4, .int l4)]) hx hb dX12_zonePower_54 rfl hl (by decide) rfl (fun ls hl => ?_)
  obtain ⟨v3, ev3, h⟩ := elet_some h
  refine lv_iinc (v := v3) (lv' := [(4, .int v3), (2, .long v2), (0, .ref (ad 0)), (1, .int l1)]) hx hb dX12_zonePower_55 hl (k := 3) rfl ev3.symm (by decide) rfl (fun ls hl => ?_)
  refine lv_goto (tgt := 19) hx hb dX12_zonePower_58 (by decide) ?_
  have hl := lv_sub hl [2, 3, 1, 0] rfl
  exact hk19 _ _ _ _ _ _ _ h G hl
def fr_zonePower_b19  : Nat → MS → Int32 → Int64 → Int32 → Option (Int64 × MS)
  | 0, _, _, _, _ => none
  | n + 1, S, l1, l2, l4 => obind2 (fr_cellCount S) fun r5 S2 => if r5 ≤ l4 then (some (l2, S2)) else (obind2 (fr_isInZone S2 l1 l4) fun r10 S7 => if r10 = 0 then (fr_zonePower_b53 (fr_zonePower_b19 n) S7 (0 : Int64) l2 l1 l4) else (obind2 (fr_powerOf_12 S7 l4) fun r15 S12 => fr_zonePower_b53 (fr_zonePower_b19 n) S12 r15 l2 l1 l4))
set_option maxHeartbeats 4000000 in
set_option maxRecDepth 100000 in
theorem tr_zonePower_b19 {p : Program} {l : Launch} {e : Env} {s : State} {m : MethodId} {args : Array Value} {below : List Frame} {meth : Method} {c : Code} {Q : State → Prop} {D : va_G} {A : Nat → Prop} {H0 : Heap} {cI cJ cZ : ClassId} {ad : Nat → Nat} {r1 : Int64} {S1 : MS} (E : mE p c cX12_zonePower s m args (Cond.code yX12_zonePower cX12_zonePower 5 (some .long) :: wsM) D cI cJ cZ) (hA : ∀ q : Nat, H0.size ≤ q → A q) (hR : sR s) (hml : c.maxLocals = 5) (kr13 : ∀ (H : Heap) (locs : List Loc) (ls : Array Slot), mG D cI cJ cZ ad A H0 H locs S1 → W p l e { frames := 6, cells := 0, slots := 0, locals := 118 } s m args below meth c H locs 0 0 Q (F0 m 13 ls [.long r1])) (kr62 : ∀ (H : Heap) (locs : List Loc) (ls : Array Slot), mG D cI cJ cZ ad A H0 H locs S1 → W p l e { frames := 6, cells := 0, slots := 0, locals := 118 } s m args below meth c H locs 0 0 Q (F0 m 62 ls [.long r1])) : ∀ n : Nat, ∀ (S : MS) (H : Heap) (locs : List Loc) (ls : Array Slot) (l1 : Int32) (l2 : Int64) (l4 : Int32), fr_zonePower_b19 n S l1 l2 l4 = some (r1, S1) → mG D cI cJ cZ ad A H0 H locs S → lv_has ls 5 [(0, .ref (ad 0)), (1, .int l1), (2, .long l2), (4, .int l4)] → W p l e { frames := 6, cells := 0, slots := 0, locals := 118 } s m args below meth c H locs 0 0 Q (F0 m 19 ls []) := by
  have hx := E.1
  have hb := E.2.1
  have hts := E.2.2.1
  have hown := E.2.2.2.1
  have hK := E.2.2.2.2.1
  intro n
  induction n with
  | zero =>
    intro S H locs ls l1 l2 l4 h
    have h : (none : Option (Int64 × MS)) = some (r1, S1) := h
    cases h
  | succ n ih =>
    intro S H locs ls l1 l2 l4 h G hl
    unfold fr_zonePower_b19 at h
    refine lv_iload hx hb dX12_zonePower_19 (lv_at hl 3 rfl) ?_
    refine lv_aload_n hx hb dX12_zonePower_21 rfl (lv_at hl 0 rfl) ?_
    obtain ⟨r5, S2, eS2, h⟩ := obind2_some h
    refine m_calli (As := []) (rest := [.int l4]) E G hA hR hml (tr_cellCount l D cI cJ cZ ad S eS2) (cwV 0 hts (gmV qM_204 qM_205 qM_206 qM_35 qM_207) rfl rfl rfl (by decide +kernel) ⟨Nat.le_of_ble_eq_true rfl, Nat.le_of_ble_eq_true rfl⟩) rfl hl.1 rfl (lv_room (Nat.le_of_ble_eq_true rfl)) dX12_zonePower_22 ⟨Nat.zero_le _, Nat.zero_le _⟩ (fun q3 S4 H locs hq G => ?_)
    obtain ⟨hq1, hq2⟩ := hq
    rw [hq2] at G
    refine lv_to hq1 ?_
    clear hq1 hq2 eS2
    refine lv_icmp_ge (tgt := 61) hx hb dX12_zonePower_25 (by decide) (fun c6 => ?_) (fun c6 => ?_)
    · have h := oif_pos c6 h
      refine lv_lload_n hx hb dX12_zonePower_61 rfl (lv_at hl 2 rfl) ?_
      rw [(osome2 h).2] at G
      refine lv_tol (osome2 h).1 ?_
      exact kr62 _ _ _ G
    · have h := oif_neg c6 h
      refine lv_lload_n hx hb dX12_zonePower_28 rfl (lv_at hl 2 rfl) ?_
      refine lv_aload_n hx hb dX12_zonePower_29 rfl (lv_at hl 0 rfl) ?_
      refine lv_iload_n hx hb dX12_zonePower_30 rfl (lv_at hl 1 rfl) ?_
      refine lv_iload hx hb dX12_zonePower_31 (lv_at hl 3 rfl) ?_
      obtain ⟨r10, S7, eS7, h⟩ := obind2_some h
      refine m_calli (As := [.int l1, .int l4]) (rest := [.long l2]) E G hA hR hml (tr_isInZone l D cI cJ cZ ad S2 l1 l4 eS7) (cwV 2 hts (gmV qM_443 qM_444 qM_445 qM_35 qM_438) rfl rfl rfl (by decide +kernel) ⟨Nat.le_of_ble_eq_true rfl, Nat.le_of_ble_eq_true rfl⟩) rfl hl.1 rfl (lv_room (Nat.le_of_ble_eq_true rfl)) dX12_zonePower_33 ⟨Nat.zero_le _, Nat.zero_le _⟩ (fun q8 S9 H locs hq G => ?_)
      obtain ⟨hq1, hq2⟩ := hq
      rw [hq2] at G
      refine lv_to hq1 ?_
      clear hq1 hq2 eS7
      refine lv_if_eq (tgt := 52) hx hb dX12_zonePower_36 (by decide) (fun c11 => ?_) (fun c11 => ?_)
      · have h := oif_pos c11 h
        refine lv_lconst (v := 0) hx hb dX12_zonePower_52 (by decide) ?_
        have hl := lv_sub hl [0, 1, 3] rfl
        exact tr_zonePower_b53 E hA hR hml kr13 kr62 ih _ _ _ _ _ _ _ _ h G hl
      · have h := oif_neg c11 h
        refine lv_aload_n hx hb dX12_zonePower_39 rfl (lv_at hl 0 rfl) ?_
        refine lv_aload_n hx hb dX12_zonePower_40 rfl (lv_at hl 0 rfl) ?_
        refine m_get E G 12 (v := .ref (ad 12)) (by decide) (.tail _ qM_9) rfl dX12_zonePower_41 rfl ?_
        refine lv_iload hx hb dX12_zonePower_44 (lv_at hl 3 rfl) ?_
        obtain ⟨r15, S12, eS12, h⟩ := obind2_some h
        refine m_calll (As := [.ref (ad 12), .int l4]) (rest := [.long l2]) E G hA hR hml (tr_powerOf_12 l D cI cJ cZ ad S7 l4 eS12) (cwV 2 hts (gmV qM_297 qM_298 qM_299 qM_35 qM_289) rfl rfl rfl (by decide +kernel) ⟨Nat.le_of_ble_eq_true rfl, Nat.le_of_ble_eq_true rfl⟩) rfl hl.1 rfl (lv_room (Nat.le_of_ble_eq_true rfl)) dX12_zonePower_46 ⟨Nat.zero_le _, Nat.zero_le _⟩ (fun q13 S14 H locs hq G => ?_)
        obtain ⟨hq1, hq2⟩ := hq
        rw [hq2] at G
        refine lv_tol hq1 ?_
        clear hq1 hq2 eS12
        refine lv_goto (tgt := 53) hx hb dX12_zonePower_49 (by decide) ?_
        have hl := lv_sub hl [0, 1, 3] rfl
        exact tr_zonePower_b53 E hA hR hml kr13 kr62 ih _ _ _ _ _ _ _ _ h G hl
def fr_zonePower (S : MS) (a0 : Int32) : Option (Int64 × MS) := obind2 (fr_isZone S a0) fun r5 S2 => obind2 (fr_mayAsk S2 r5) fun r9 S6 => if r9 = 0 then (some ((0 : Int64), S6)) else (fr_zonePower_b19 16384 S6 a0 (0 : Int64) 0)
set_option maxHeartbeats 4000000 in
set_option maxRecDepth 100000 in
theorem tr_zonePower (l : Launch) (D : va_G) (cI cJ cZ : ClassId) (ad : Nat → Nat) (S : MS) (a0 : Int32) {r1 : Int64} {S1 : MS} (h : fr_zonePower S a0 = some (r1, S1)) : mCl l yX12_zonePower (Cond.code yX12_zonePower cX12_zonePower 5 (some .long) :: wsM) 6 118 D cI cJ cZ ad S [.int a0] (fun r S9 => r = r1 ∧ S9 = S1) := by
  intro sz
  refine Met.ofW (cc := cX12_zonePower) (maxL := 5) (ret := (some .long)) (by decide) rfl ?_
  intro p e s m args below meth c s₁ B hml hv
  obtain ⟨rfl, hsz, hP, hK, hD0, hR⟩ := hv
  have hx := B.exec
  have hb := B.bytes
  have hr := B.returns
  have hts := atoms_spec (ws := (Cond.code yX12_zonePower cX12_zonePower 5 (some .long) :: wsM)) B.pre
  have hown : s.vm.findClass RX12 = some m.cls := findClass_of_methodNamed B.named
  have hlocks := B.notSynchronized
  subst hsz
  have hD := hD0.self (sz := s.heap.size)
  generalize hAe : va_A (MW cI cJ cZ ad S) s.heap.size = A at hD ⊢
  have hA : ∀ q : Nat, s.heap.size ≤ q → A q := fun q h => by rw [← hAe]; exact Or.inr h
  have G : mG D cI cJ cZ ad A s.heap s.heap [] S := ⟨hP, hD, va_S.rf⟩
  have E : mE p c cX12_zonePower s m ([.ref (ad 0), .int a0] : List Value).toArray (Cond.code yX12_zonePower cX12_zonePower 5 (some .long) :: wsM) D cI cJ cZ := ⟨hx, hb, hts, hown, hK, fun w h => .tail _ (iM_x h)⟩
  have hl := lv_entry ([.ref (ad 0), .int a0]) (n := 5) (Nat.le_of_ble_eq_true rfl)
  rw [lg_entry_eq]
  generalize (lg_sl ([.ref (ad 0), .int a0]) ++ List.replicate (5 - (lg_sl ([.ref (ad 0), .int a0])).length) Slot.unset).toArray = ls at hl ⊢
  have hl : lv_has ls 5 [(0, .ref (ad 0)), (1, .int a0)] := hl
  unfold fr_zonePower at h
  refine lv_aload_n hx hb dX12_zonePower_0 rfl (lv_at hl 0 rfl) ?_
  refine lv_aload_n hx hb dX12_zonePower_1 rfl (lv_at hl 0 rfl) ?_
  refine lv_iload_n hx hb dX12_zonePower_2 rfl (lv_at hl 1 rfl) ?_
  obtain ⟨r5, S2, eS2, h⟩ := obind2_some h
  refine m_calli (As := [.int a0]) (rest := [.ref (ad 0)]) E G hA hR hml (tr_isZone l D cI cJ cZ ad S a0 eS2) (cwV 1 hts (gmV qM_440 qM_441 qM_442 qM_35 qM_437) rfl rfl rfl (by decide +kernel) ⟨Nat.le_of_ble_eq_true rfl, Nat.le_of_ble_eq_true rfl⟩) rfl hl.1 rfl (lv_room (Nat.le_of_ble_eq_true rfl)) dX12_zonePower_3 ⟨Nat.zero_le _, Nat.zero_le _⟩ (fun q3 S4 H locs hq G => ?_)
  obtain ⟨hq1, hq2⟩ := hq
  rw [hq2] at G
  refine lv_to hq1 ?_
  clear hq1 hq2 eS2
  obtain ⟨r9, S6, eS6, h⟩ := obind2_some h
  refine m_calli (As := [.int r5]) (rest := []) E G hA hR hml (tr_mayAsk l D cI cJ cZ ad S2 r5 eS6) (cwV 1 hts (gmV qM_319 qM_320 qM_321 qM_35 qM_304) rfl rfl rfl (by decide +kernel) ⟨Nat.le_of_ble_eq_true rfl, Nat.le_of_ble_eq_true rfl⟩) rfl hl.1 rfl (lv_room (Nat.le_of_ble_eq_true rfl)) dX12_zonePower_6 ⟨Nat.zero_le _, Nat.zero_le _⟩ (fun q7 S8 H locs hq G => ?_)
  obtain ⟨hq1, hq2⟩ := hq
  rw [hq2] at G
  refine lv_to hq1 ?_
  clear hq1 hq2 eS6
  refine lv_if_ne (tgt := 14) hx hb dX12_zonePower_9 (by decide) (fun c10 => ?_) (fun c10 => ?_)
  · have h := oif_neg c10 h
    refine lv_lconst (v := 0) hx hb dX12_zonePower_14 (by decide) ?_
    refine lv_lstore_n (lv' := [(2, .long (0 : Int64)), (0, .ref (ad 0)), (1, .int a0)]) hx hb dX12_zonePower_15 rfl hl (by decide) rfl (fun ls hl => ?_)
    refine lv_iconst (v := 0) hx hb dX12_zonePower_16 (by decide) ?_
    refine lv_istore (lv' := [(4, .int 0), (2, .long (0 : Int64)), (0, .ref (ad 0)), (1, .int a0)]) hx hb dX12_zonePower_17 hl (by decide) rfl (fun ls hl => ?_)
    have hl := lv_sub hl [2, 3, 1, 0] rfl
    exact tr_zonePower_b19 E hA hR hml (fun H locs ls G => W.lret (v := r1) hx hb hr (fun t ht hW => ⟨⟨r1, S1, rfl, ⟨rfl, rfl⟩, ⟨by rw [ht]; exact G.1, va_K.moved hW.alike hK, G.2.1⟩⟩, G.2.2.F ht⟩) G.2.2.2.2 dX12_zonePower_13) (fun H locs ls G => W.lret (v := r1) hx hb hr (fun t ht hW => ⟨⟨r1, S1, rfl, ⟨rfl, rfl⟩, ⟨by rw [ht]; exact G.1, va_K.moved hW.alike hK, G.2.1⟩⟩, G.2.2.F ht⟩) G.2.2.2.2 dX12_zonePower_62) _ _ _ _ _ _ _ _ h G hl
  · have h := oif_pos c10 h
    refine lv_lconst (v := 0) hx hb dX12_zonePower_12 (by decide) ?_
    exact W.lret (v := (0 : Int64)) hx hb hr (fun t ht hW => ⟨⟨(0 : Int64), S6, rfl, osome2 h, ⟨by rw [ht]; exact G.1, va_K.moved hW.alike hK, G.2.1⟩⟩, G.2.2.F ht⟩) G.2.2.2.2 dX12_zonePower_13
def fr_zoneBest_b66 (k26 : MS → Int32 → Int32 → Int32 → Option (Int32 × MS)) (S : MS) (l1 : Int32) (l2 : Int32) (l3 : Int32) : Option (Int32 × MS) := elet (l3 + Int32.ofInt (1)) fun v2 => k26 S l1 l2 v2
set_option maxHeartbeats 4000000 in
set_option maxRecDepth 100000 in
theorem tr_zoneBest_b66 {p : Program} {l : Launch} {e : Env} {s : State} {m : MethodId} {args : Array Value} {below : List Frame} {meth : Method} {c : Code} {Q : State → Prop} {D : va_G} {A : Nat → Prop} {H0 : Heap} {cI cJ cZ : ClassId} {ad : Nat → Nat} {r1 : Int32} {S1 : MS} (E : mE p c cX12_zoneBest s m args (Cond.code yX12_zoneBest cX12_zoneBest 4 (some .int) :: wsM) D cI cJ cZ) (hA : ∀ q : Nat, H0.size ≤ q → A q) (hR : sR s) (hml : c.maxLocals = 4) (kr13 : ∀ (H : Heap) (locs : List Loc) (ls : Array Slot), mG D cI cJ cZ ad A H0 H locs S1 → W p l e { frames := 7, cells := 0, slots := 0, locals := 140 } s m args below meth c H locs 0 0 Q (F0 m 13 ls [.int r1])) (kr73 : ∀ (H : Heap) (locs : List Loc) (ls : Array Slot), mG D cI cJ cZ ad A H0 H locs S1 → W p l e { frames := 7, cells := 0, slots := 0, locals := 140 } s m args below meth c H locs 0 0 Q (F0 m 73 ls [.int r1])) {k26 : MS → Int32 → Int32 → Int32 → Option (Int32 × MS)} (hk26 : ∀ (S : MS) (H : Heap) (locs : List Loc) (ls : Array Slot) (l1 : Int32) (l2 : Int32) (l3 : Int32), k26 S l1 l2 l3 = some (r1, S1) → mG D cI cJ cZ ad A H0 H locs S → lv_has ls 4 [(0, .ref (ad 0)), (1, .int l1), (2, .int l2), (3, .int l3)] → W p l e { frames := 7, cells := 0, slots := 0, locals := 140 } s m args below meth c H locs 0 0 Q (F0 m 26 ls [])) : ∀ (S : MS) (H : Heap) (locs : List Loc) (ls : Array Slot) (l1 : Int32) (l2 : Int32) (l3 : Int32), fr_zoneBest_b66 k26 S l1 l2 l3 = some (r1, S1) → mG D cI cJ cZ ad A H0 H locs S → lv_has ls 4 [(0, .ref (ad 0)), (1, .int l1), (2, .int l2), (3, .int l3)] → W p l e { frames := 7, cells := 0, slots := 0, locals := 140 } s m args below meth c H locs 0 0 Q (F0 m 66 ls []) := by
  have hx := E.1
  have hb := E.2.1
  have hts := E.2.2.1
  have hown := E.2.2.2.1
  have hK := E.2.2.2.2.1
  intro S H locs ls l1 l2 l3 h G hl
  unfold fr_zoneBest_b66 at h
  obtain ⟨v2, ev2, h⟩ := elet_some h
  refine lv_iinc (v := v2) (lv' := [(3, .int v2), (0, .ref (ad 0)), (1, .int l1), (2, .int l2)]) hx hb dX12_zoneBest_66 hl (k := 3) rfl ev2.symm (by decide) rfl (fun ls hl => ?_)
  refine lv_goto (tgt := 26) hx hb dX12_zoneBest_69 (by decide) ?_
  have hl := lv_sub hl [1, 2, 3, 0] rfl
  exact hk26 _ _ _ _ _ _ _ h G hl
def fr_zoneBest_b64 (k26 : MS → Int32 → Int32 → Int32 → Option (Int32 × MS)) (S : MS) (l1 : Int32) (l3 : Int32) : Option (Int32 × MS) := fr_zoneBest_b66 k26 S l1 l3 l3
set_option maxHeartbeats 4000000 in
set_option maxRecDepth 100000 in
theorem tr_zoneBest_b64 {p : Program} {l : Launch} {e : Env} {s : State} {m : MethodId} {args : Array Value} {below : List Frame} {meth : Method} {c : Code} {Q : State → Prop} {D : va_G} {A : Nat → Prop} {H0 : Heap} {cI cJ cZ : ClassId} {ad : Nat → Nat} {r1 : Int32} {S1 : MS} (E : mE p c cX12_zoneBest s m args (Cond.code yX12_zoneBest cX12_zoneBest 4 (some .int) :: wsM) D cI cJ cZ) (hA : ∀ q : Nat, H0.size ≤ q → A q) (hR : sR s) (hml : c.maxLocals = 4) (kr13 : ∀ (H : Heap) (locs : List Loc) (ls : Array Slot), mG D cI cJ cZ ad A H0 H locs S1 → W p l e { frames := 7, cells := 0, slots := 0, locals := 140 } s m args below meth c H locs 0 0 Q (F0 m 13 ls [.int r1])) (kr73 : ∀ (H : Heap) (locs : List Loc) (ls : Array Slot), mG D cI cJ cZ ad A H0 H locs S1 → W p l e { frames := 7, cells := 0, slots := 0, locals := 140 } s m args below meth c H locs 0 0 Q (F0 m 73 ls [.int r1])) {k26 : MS → Int32 → Int32 → Int32 → Option (Int32 × MS)} (hk26 : ∀ (S : MS) (H : Heap) (locs : List Loc) (ls : Array Slot) (l1 : Int32) (l2 : Int32) (l3 : Int32), k26 S l1 l2 l3 = some (r1, S1) → mG D cI cJ cZ ad A H0 H locs S → lv_has ls 4 [(0, .ref (ad 0)), (1, .int l1), (2, .int l2), (3, .int l3)] → W p l e { frames := 7, cells := 0, slots := 0, locals := 140 } s m args below meth c H locs 0 0 Q (F0 m 26 ls [])) : ∀ (S : MS) (H : Heap) (locs : List Loc) (ls : Array Slot) (l1 : Int32) (l3 : Int32), fr_zoneBest_b64 k26 S l1 l3 = some (r1, S1) → mG D cI cJ cZ ad A H0 H locs S → lv_has ls 4 [(0, .ref (ad 0)), (1, .int l1), (3, .int l3)] → W p l e { frames := 7, cells := 0, slots := 0, locals := 140 } s m args below meth c H locs 0 0 Q (F0 m 64 ls []) := by
  have hx := E.1
  have hb := E.2.1
  have hts := E.2.2.1
  have hown := E.2.2.2.1
  have hK := E.2.2.2.2.1
  intro S H locs ls l1 l3 h G hl
  unfold fr_zoneBest_b64 at h
  refine lv_iload_n hx hb dX12_zoneBest_64 rfl (lv_at hl 2 rfl) ?_
  refine lv_istore_n (lv' := [(2, .int l3), (0, .ref (ad 0)), (1, .int l1), (3, .int l3)]) hx hb dX12_zoneBest_65 rfl hl (by decide) rfl (fun ls hl => ?_)
  have hl := lv_sub hl [1, 2, 0, 3] rfl
  exact tr_zoneBest_b66 E hA hR hml kr13 kr73 hk26 _ _ _ _ _ _ _ h G hl
def fr_zoneBest_b26  : Nat → MS → Int32 → Int32 → Int32 → Option (Int32 × MS)
  | 0, _, _, _, _ => none
  | n + 1, S, l1, l2, l3 => obind2 (fr_cellCount S) fun r5 S2 => if r5 ≤ l3 then (some (l2, S2)) else (obind2 (fr_isInZone S2 l1 l3) fun r10 S7 => if r10 = 0 then (fr_zoneBest_b66 (fr_zoneBest_b26 n) S7 l1 l2 l3) else (if l2 = (-1) then (fr_zoneBest_b64 (fr_zoneBest_b26 n) S7 l1 l3) else (oif (inb l3 144 = true) <| elet (S7.2.2 25 l3.toNatClampNeg) fun v14 => oif (inb l2 144 = true) <| elet (S7.2.2 25 l2.toNatClampNeg) fun v16 => elet (lg_cmp v14 v16) fun v17 => if v17 ≤ 0 then (fr_zoneBest_b66 (fr_zoneBest_b26 n) S7 l1 l2 l3) else (fr_zoneBest_b64 (fr_zoneBest_b26 n) S7 l1 l3))))
set_option maxHeartbeats 4000000 in
set_option maxRecDepth 100000 in
theorem tr_zoneBest_b26 {p : Program} {l : Launch} {e : Env} {s : State} {m : MethodId} {args : Array Value} {below : List Frame} {meth : Method} {c : Code} {Q : State → Prop} {D : va_G} {A : Nat → Prop} {H0 : Heap} {cI cJ cZ : ClassId} {ad : Nat → Nat} {r1 : Int32} {S1 : MS} (E : mE p c cX12_zoneBest s m args (Cond.code yX12_zoneBest cX12_zoneBest 4 (some .int) :: wsM) D cI cJ cZ) (hA : ∀ q : Nat, H0.size ≤ q → A q) (hR : sR s) (hml : c.maxLocals = 4) (kr13 : ∀ (H : Heap) (locs : List Loc) (ls : Array Slot), mG D cI cJ cZ ad A H0 H locs S1 → W p l e { frames := 7, cells := 0, slots := 0, locals := 140 } s m args below meth c H locs 0 0 Q (F0 m 13 ls [.int r1])) (kr73 : ∀ (H : Heap) (locs : List Loc) (ls : Array Slot), mG D cI cJ cZ ad A H0 H locs S1 → W p l e { frames := 7, cells := 0, slots := 0, locals := 140 } s m args below meth c H locs 0 0 Q (F0 m 73 ls [.int r1])) : ∀ n : Nat, ∀ (S : MS) (H : Heap) (locs : List Loc) (ls : Array Slot) (l1 : Int32) (l2 : Int32) (l3 : Int32), fr_zoneBest_b26 n S l1 l2 l3 = some (r1, S1) → mG D cI cJ cZ ad A H0 H locs S → lv_has ls 4 [(0, .ref (ad 0)), (1, .int l1), (2, .int l2), (3, .int l3)] → W p l e { frames := 7, cells := 0, slots := 0, locals := 140 } s m args below meth c H locs 0 0 Q (F0 m 26 ls []) := by
  have hx := E.1
  have hb := E.2.1
  have hts := E.2.2.1
  have hown := E.2.2.2.1
  have hK := E.2.2.2.2.1
  intro n
  induction n with
  | zero =>
    intro S H locs ls l1 l2 l3 h
    have h : (none : Option (Int32 × MS)) = some (r1, S1) := h
    cases h
  | succ n ih =>
    intro S H locs ls l1 l2 l3 h G hl
    unfold fr_zoneBest_b26 at h
    refine lv_iload_n hx hb dX12_zoneBest_26 rfl (lv_at hl 3 rfl) ?_
    refine lv_aload_n hx hb dX12_zoneBest_27 rfl (lv_at hl 0 rfl) ?_
    obtain ⟨r5, S2, eS2, h⟩ := obind2_some h
    refine m_calli (As := []) (rest := [.int l3]) E G hA hR hml (tr_cellCount l D cI cJ cZ ad S eS2) (cwV 0 hts (gmV qM_204 qM_205 qM_206 qM_35 qM_207) rfl rfl rfl (by decide +kernel) ⟨Nat.le_of_ble_eq_true rfl, Nat.le_of_ble_eq_true rfl⟩) rfl hl.1 rfl (lv_room (Nat.le_of_ble_eq_true rfl)) dX12_zoneBest_28 ⟨Nat.zero_le _, Nat.zero_le _⟩ (fun q3 S4 H locs hq G => ?_)
    obtain ⟨hq1, hq2⟩ := hq
    rw [hq2] at G
    refine lv_to hq1 ?_
    clear hq1 hq2 eS2
    refine lv_icmp_ge (tgt := 72) hx hb dX12_zoneBest_31 (by decide) (fun c6 => ?_) (fun c6 => ?_)
    · have h := oif_pos c6 h
      refine lv_iload_n hx hb dX12_zoneBest_72 rfl (lv_at hl 2 rfl) ?_
      rw [(osome2 h).2] at G
      refine lv_to (osome2 h).1 ?_
      exact kr73 _ _ _ G
    · have h := oif_neg c6 h
      refine lv_aload_n hx hb dX12_zoneBest_34 rfl (lv_at hl 0 rfl) ?_
      refine lv_iload_n hx hb dX12_zoneBest_35 rfl (lv_at hl 1 rfl) ?_
      refine lv_iload_n hx hb dX12_zoneBest_36 rfl (lv_at hl 3 rfl) ?_
      obtain ⟨r10, S7, eS7, h⟩ := obind2_some h
      refine m_calli (As := [.int l1, .int l3]) (rest := []) E G hA hR hml (tr_isInZone l D cI cJ cZ ad S2 l1 l3 eS7) (cwV 2 hts (gmV qM_443 qM_444 qM_445 qM_35 qM_438) rfl rfl rfl (by decide +kernel) ⟨Nat.le_of_ble_eq_true rfl, Nat.le_of_ble_eq_true rfl⟩) rfl hl.1 rfl (lv_room (Nat.le_of_ble_eq_true rfl)) dX12_zoneBest_37 ⟨Nat.zero_le _, Nat.zero_le _⟩ (fun q8 S9 H locs hq G => ?_)
      obtain ⟨hq1, hq2⟩ := hq
      rw [hq2] at G
      refine lv_to hq1 ?_
      clear hq1 hq2 eS7
      refine lv_if_eq (tgt := 66) hx hb dX12_zoneBest_40 (by decide) (fun c11 => ?_) (fun c11 => ?_)
      · have h := oif_pos c11 h
        have hl := lv_sub hl [0, 1, 2, 3] rfl
        exact tr_zoneBest_b66 E hA hR hml kr13 kr73 ih _ _ _ _ _ _ _ h G hl
      · have h := oif_neg c11 h
        refine lv_iload_n hx hb dX12_zoneBest_43 rfl (lv_at hl 2 rfl) ?_
        refine lv_iconst (v := (-1)) hx hb dX12_zoneBest_44 (by decide) ?_
        refine lv_icmp_eq (tgt := 64) hx hb dX12_zoneBest_45 (by decide) (fun c12 => ?_) (fun c12 => ?_)
        · have h := oif_pos c12 h
          have hl := lv_sub hl [0, 1, 3] rfl
          exact tr_zoneBest_b64 E hA hR hml kr13 kr73 ih _ _ _ _ _ _ h G hl
        · have h := oif_neg c12 h
          refine lv_aload_n hx hb dX12_zoneBest_48 rfl (lv_at hl 0 rfl) ?_
          refine m_get E G 25 (v := .ref (ad 25)) (by decide) (.tail _ qM_21) rfl dX12_zoneBest_49 rfl ?_
          refine lv_iload_n hx hb dX12_zoneBest_52 rfl (lv_at hl 3 rfl) ?_
          obtain ⟨g13, h⟩ := oif_some h
          refine m_lald E G 25 13 (n := 144) (k := l3.toNatClampNeg) rfl (inb_k g13).1 (inb_k g13).2 (by decide) dX12_zoneBest_53 ?_
          refine lv_topl (fun v14 ev14 => ?_)
          have h := elet_at ev14 h
          clear ev14
          refine lv_aload_n hx hb dX12_zoneBest_54 rfl (lv_at hl 0 rfl) ?_
          refine m_get E G 25 (v := .ref (ad 25)) (by decide) (.tail _ qM_21) rfl dX12_zoneBest_55 rfl ?_
          refine lv_iload_n hx hb dX12_zoneBest_58 rfl (lv_at hl 2 rfl) ?_
          obtain ⟨g15, h⟩ := oif_some h
          refine m_lald E G 25 13 (n := 144) (k := l2.toNatClampNeg) rfl (inb_k g15).1 (inb_k g15).2 (by decide) dX12_zoneBest_59 ?_
          refine lv_topl (fun v16 ev16 => ?_)
          have h := elet_at ev16 h
          clear ev16
          refine W.lcmp hx hb dX12_zoneBest_60 ?_
          refine lv_topi (fun v17 ev17 => ?_)
          have h := elet_at ev17 h
          clear ev17
          refine lv_if_le (tgt := 66) hx hb dX12_zoneBest_61 (by decide) (fun c18 => ?_) (fun c18 => ?_)
          · have h := oif_pos c18 h
            have hl := lv_sub hl [0, 1, 2, 3] rfl
            exact tr_zoneBest_b66 E hA hR hml kr13 kr73 ih _ _ _ _ _ _ _ h G hl
          · have h := oif_neg c18 h
            have hl := lv_sub hl [0, 1, 3] rfl
            exact tr_zoneBest_b64 E hA hR hml kr13 kr73 ih _ _ _ _ _ _ h G hl
def fr_zoneBest (S : MS) (a0 : Int32) : Option (Int32 × MS) := obind2 (fr_isZone S a0) fun r5 S2 => obind2 (fr_mayAsk S2 r5) fun r9 S6 => if r9 = 0 then (some (0, S6)) else (obind (fr_laysPowers_12 S6) fun S11 => fr_zoneBest_b26 16384 S11 a0 (-1) 0)
set_option maxHeartbeats 4000000 in
set_option maxRecDepth 100000 in
theorem tr_zoneBest (l : Launch) (D : va_G) (cI cJ cZ : ClassId) (ad : Nat → Nat) (S : MS) (a0 : Int32) {r1 : Int32} {S1 : MS} (h : fr_zoneBest S a0 = some (r1, S1)) : mCi l yX12_zoneBest (Cond.code yX12_zoneBest cX12_zoneBest 4 (some .int) :: wsM) 7 140 D cI cJ cZ ad S [.int a0] (fun r S9 => r = r1 ∧ S9 = S1) := by
  intro sz
  refine Met.ofW (cc := cX12_zoneBest) (maxL := 4) (ret := (some .int)) (by decide) rfl ?_
  intro p e s m args below meth c s₁ B hml hv
  obtain ⟨rfl, hsz, hP, hK, hD0, hR⟩ := hv
  have hx := B.exec
  have hb := B.bytes
  have hr := B.returns
  have hts := atoms_spec (ws := (Cond.code yX12_zoneBest cX12_zoneBest 4 (some .int) :: wsM)) B.pre
  have hown : s.vm.findClass RX12 = some m.cls := findClass_of_methodNamed B.named
  have hlocks := B.notSynchronized
  subst hsz
  have hD := hD0.self (sz := s.heap.size)
  generalize hAe : va_A (MW cI cJ cZ ad S) s.heap.size = A at hD ⊢
  have hA : ∀ q : Nat, s.heap.size ≤ q → A q := fun q h => by rw [← hAe]; exact Or.inr h
  have G : mG D cI cJ cZ ad A s.heap s.heap [] S := ⟨hP, hD, va_S.rf⟩
  have E : mE p c cX12_zoneBest s m ([.ref (ad 0), .int a0] : List Value).toArray (Cond.code yX12_zoneBest cX12_zoneBest 4 (some .int) :: wsM) D cI cJ cZ := ⟨hx, hb, hts, hown, hK, fun w h => .tail _ (iM_x h)⟩
  have hl := lv_entry ([.ref (ad 0), .int a0]) (n := 4) (Nat.le_of_ble_eq_true rfl)
  rw [lg_entry_eq]
  generalize (lg_sl ([.ref (ad 0), .int a0]) ++ List.replicate (4 - (lg_sl ([.ref (ad 0), .int a0])).length) Slot.unset).toArray = ls at hl ⊢
  have hl : lv_has ls 4 [(0, .ref (ad 0)), (1, .int a0)] := hl
  unfold fr_zoneBest at h
  refine lv_aload_n hx hb dX12_zoneBest_0 rfl (lv_at hl 0 rfl) ?_
  refine lv_aload_n hx hb dX12_zoneBest_1 rfl (lv_at hl 0 rfl) ?_
  refine lv_iload_n hx hb dX12_zoneBest_2 rfl (lv_at hl 1 rfl) ?_
  obtain ⟨r5, S2, eS2, h⟩ := obind2_some h
  refine m_calli (As := [.int a0]) (rest := [.ref (ad 0)]) E G hA hR hml (tr_isZone l D cI cJ cZ ad S a0 eS2) (cwV 1 hts (gmV qM_440 qM_441 qM_442 qM_35 qM_437) rfl rfl rfl (by decide +kernel) ⟨Nat.le_of_ble_eq_true rfl, Nat.le_of_ble_eq_true rfl⟩) rfl hl.1 rfl (lv_room (Nat.le_of_ble_eq_true rfl)) dX12_zoneBest_3 ⟨Nat.zero_le _, Nat.zero_le _⟩ (fun q3 S4 H locs hq G => ?_)
  obtain ⟨hq1, hq2⟩ := hq
  rw [hq2] at G
  refine lv_to hq1 ?_
  clear hq1 hq2 eS2
  obtain ⟨r9, S6, eS6, h⟩ := obind2_some h
  refine m_calli (As := [.int r5]) (rest := []) E G hA hR hml (tr_mayAsk l D cI cJ cZ ad S2 r5 eS6) (cwV 1 hts (gmV qM_319 qM_320 qM_321 qM_35 qM_304) rfl rfl rfl (by decide +kernel) ⟨Nat.le_of_ble_eq_true rfl, Nat.le_of_ble_eq_true rfl⟩) rfl hl.1 rfl (lv_room (Nat.le_of_ble_eq_true rfl)) dX12_zoneBest_6 ⟨Nat.zero_le _, Nat.zero_le _⟩ (fun q7 S8 H locs hq G => ?_)
  obtain ⟨hq1, hq2⟩ := hq
  rw [hq2] at G
  refine lv_to hq1 ?_
  clear hq1 hq2 eS6
  refine lv_if_ne (tgt := 14) hx hb dX12_zoneBest_9 (by decide) (fun c10 => ?_) (fun c10 => ?_)
  · have h := oif_neg c10 h
    refine lv_aload_n hx hb dX12_zoneBest_14 rfl (lv_at hl 0 rfl) ?_
    refine lv_aload_n hx hb dX12_zoneBest_15 rfl (lv_at hl 0 rfl) ?_
    refine m_get E G 12 (v := .ref (ad 12)) (by decide) (.tail _ qM_9) rfl dX12_zoneBest_16 rfl ?_
    obtain ⟨S11, eS11, h⟩ := obind_some h
    refine m_callv (As := [.ref (ad 12)]) (rest := []) E G hA hR hml (tr_laysPowers_12 l D cI cJ cZ ad S6 eS11) (cwV 1 hts (gmV qM_301 qM_302 qM_303 qM_35 qM_296) rfl rfl rfl (by decide +kernel) ⟨Nat.le_of_ble_eq_true rfl, Nat.le_of_ble_eq_true rfl⟩) rfl hl.1 rfl (lv_room (Nat.le_of_ble_eq_true rfl)) dX12_zoneBest_19 ⟨Nat.zero_le _, Nat.zero_le _⟩ (fun S13 H locs hq G => ?_)
    rw [hq] at G
    clear hq eS11
    refine lv_iconst (v := (-1)) hx hb dX12_zoneBest_22 (by decide) ?_
    refine lv_istore_n (lv' := [(2, .int (-1)), (0, .ref (ad 0)), (1, .int a0)]) hx hb dX12_zoneBest_23 rfl hl (by decide) rfl (fun ls hl => ?_)
    refine lv_iconst (v := 0) hx hb dX12_zoneBest_24 (by decide) ?_
    refine lv_istore_n (lv' := [(3, .int 0), (2, .int (-1)), (0, .ref (ad 0)), (1, .int a0)]) hx hb dX12_zoneBest_25 rfl hl (by decide) rfl (fun ls hl => ?_)
    have hl := lv_sub hl [2, 3, 1, 0] rfl
    exact tr_zoneBest_b26 E hA hR hml (fun H locs ls G => W.iret (v := r1) hx hb hr (fun t ht hW => ⟨⟨r1, S1, rfl, ⟨rfl, rfl⟩, ⟨by rw [ht]; exact G.1, va_K.moved hW.alike hK, G.2.1⟩⟩, G.2.2.F ht⟩) G.2.2.2.2 dX12_zoneBest_13) (fun H locs ls G => W.iret (v := r1) hx hb hr (fun t ht hW => ⟨⟨r1, S1, rfl, ⟨rfl, rfl⟩, ⟨by rw [ht]; exact G.1, va_K.moved hW.alike hK, G.2.1⟩⟩, G.2.2.F ht⟩) G.2.2.2.2 dX12_zoneBest_73) _ _ _ _ _ _ _ _ h G hl
  · have h := oif_pos c10 h
    refine lv_iconst (v := 0) hx hb dX12_zoneBest_12 (by decide) ?_
    exact W.iret (v := 0) hx hb hr (fun t ht hW => ⟨⟨0, S6, rfl, osome2 h, ⟨by rw [ht]; exact G.1, va_K.moved hW.alike hK, G.2.1⟩⟩, G.2.2.F ht⟩) G.2.2.2.2 dX12_zoneBest_13
def fr_movingOf_b6  : Nat → MS → Int32 → Int32 → Int32 → Int64 → Int32 → Option (Int64 × MS)
  | 0, _, _, _, _, _, _ => none
  | n + 1, S, l1, l2, l3, l4, l6 => elet (S.2.1 10 2) fun v2 => if v2 ≤ l6 then (elet (S.2.1 10 2) fun v4 => elet (v4.toInt64) fun v5 => oif (¬ v5 = 0) <| elet (l4 / v5) fun v7 => some (v7, S)) else (obind2 (fr_centre S l1 0) fun r11 S8 => elet (l2 * l6) fun v12 => elet (v12 / 100) fun v13 => elet (r11 + v13) fun v14 => obind2 (fr_centre S8 l1 1) fun r18 S15 => elet (l3 * l6) fun v19 => elet (v19 / 100) fun v20 => elet (r18 + v20) fun v21 => obind (fr_laysPoint S15 v14 v21) fun S22 => obind2 (fr_beamAt_12 S22 l6) fun r28 S25 => elet (r28.toInt64) fun v29 => elet (v29 * v29) fun v30 => elet (l4 + v30) fun v31 => elet (l6 + Int32.ofInt (1)) fun v32 => fr_movingOf_b6 n S25 l1 l2 l3 v31 v32)
set_option maxHeartbeats 4000000 in
set_option maxRecDepth 100000 in
theorem tr_movingOf_b6 {p : Program} {l : Launch} {e : Env} {s : State} {m : MethodId} {args : Array Value} {below : List Frame} {meth : Method} {c : Code} {Q : State → Prop} {D : va_G} {A : Nat → Prop} {H0 : Heap} {cI cJ cZ : ClassId} {ad : Nat → Nat} {r1 : Int64} {S1 : MS} (E : mE p c cX12_movingOf s m args (Cond.code yX12_movingOf cX12_movingOf 9 (some .long) :: wsM) D cI cJ cZ) (hA : ∀ q : Nat, H0.size ≤ q → A q) (hR : sR s) (hml : c.maxLocals = 9) (kr88 : ∀ (H : Heap) (locs : List Loc) (ls : Array Slot), mG D cI cJ cZ ad A H0 H locs S1 → W p l e { frames := 4, cells := 0, slots := 0, locals := 73 } s m args below meth c H locs 0 0 Q (F0 m 88 ls [.long r1])) : ∀ n : Nat, ∀ (S : MS) (H : Heap) (locs : List Loc) (ls : Array Slot) (l1 : Int32) (l2 : Int32) (l3 : Int32) (l4 : Int64) (l6 : Int32), fr_movingOf_b6 n S l1 l2 l3 l4 l6 = some (r1, S1) → mG D cI cJ cZ ad A H0 H locs S → lv_has ls 9 [(0, .ref (ad 0)), (1, .int l1), (2, .int l2), (3, .int l3), (4, .long l4), (6, .int l6)] → W p l e { frames := 4, cells := 0, slots := 0, locals := 73 } s m args below meth c H locs 0 0 Q (F0 m 6 ls []) := by
  have hx := E.1
  have hb := E.2.1
  have hts := E.2.2.1
  have hown := E.2.2.2.1
  have hK := E.2.2.2.2.1
  intro n
  induction n with
  | zero =>
    intro S H locs ls l1 l2 l3 l4 l6 h
    have h : (none : Option (Int64 × MS)) = some (r1, S1) := h
    cases h
  | succ n ih =>
    intro S H locs ls l1 l2 l3 l4 l6 h G hl
    unfold fr_movingOf_b6 at h
    refine lv_iload hx hb dX12_movingOf_6 (lv_at hl 5 rfl) ?_
    refine lv_aload_n hx hb dX12_movingOf_8 rfl (lv_at hl 0 rfl) ?_
    refine m_get E G 10 (v := .ref (ad 10)) (by decide) (.tail _ qM_7) rfl dX12_movingOf_9 rfl ?_
    refine lv_iconst (v := 2) hx hb dX12_movingOf_12 (by decide) ?_
    refine m_iald E G 10 2 (n := 131) (k := 2) rfl rfl (by decide) (by decide) dX12_movingOf_13 ?_
    refine lv_topi (fun v2 ev2 => ?_)
    have h := elet_at ev2 h
    clear ev2
    refine lv_icmp_ge (tgt := 78) hx hb dX12_movingOf_14 (by decide) (fun c3 => ?_) (fun c3 => ?_)
    · have h := oif_pos c3 h
      refine lv_lload hx hb dX12_movingOf_78 (lv_at hl 4 rfl) ?_
      refine lv_aload_n hx hb dX12_movingOf_80 rfl (lv_at hl 0 rfl) ?_
      refine m_get E G 10 (v := .ref (ad 10)) (by decide) (.tail _ qM_7) rfl dX12_movingOf_81 rfl ?_
      refine lv_iconst (v := 2) hx hb dX12_movingOf_84 (by decide) ?_
      refine m_iald E G 10 2 (n := 131) (k := 2) rfl rfl (by decide) (by decide) dX12_movingOf_85 ?_
      refine lv_topi (fun v4 ev4 => ?_)
      have h := elet_at ev4 h
      clear ev4
      refine lv_i2l (v := v4.toInt64) hx hb dX12_movingOf_86 rfl ?_
      refine lv_topl (fun v5 ev5 => ?_)
      have h := elet_at ev5 h
      clear ev5
      obtain ⟨g6, h⟩ := oif_some h
      refine lv_ldiv hx hb dX12_movingOf_87 g6 ?_
      refine lv_topl (fun v7 ev7 => ?_)
      have h := elet_at ev7 h
      clear ev7
      rw [(osome2 h).2] at G
      refine lv_tol (osome2 h).1 ?_
      exact kr88 _ _ _ G
    · have h := oif_neg c3 h
      refine lv_aload_n hx hb dX12_movingOf_17 rfl (lv_at hl 0 rfl) ?_
      refine lv_aload_n hx hb dX12_movingOf_18 rfl (lv_at hl 0 rfl) ?_
      refine lv_iload_n hx hb dX12_movingOf_19 rfl (lv_at hl 1 rfl) ?_
      refine lv_iconst (v := 0) hx hb dX12_movingOf_20 (by decide) ?_
      obtain ⟨r11, S8, eS8, h⟩ := obind2_some h
      refine m_calli (As := [.int l1, .int 0]) (rest := [.ref (ad 0)]) E G hA hR hml (tr_centre l D cI cJ cZ ad S l1 0 eS8) (cwV 2 hts (gmV qM_208 qM_209 qM_210 qM_35 qM_211) rfl rfl rfl (by decide +kernel) ⟨Nat.le_of_ble_eq_true rfl, Nat.le_of_ble_eq_true rfl⟩) rfl hl.1 rfl (lv_room (Nat.le_of_ble_eq_true rfl)) dX12_movingOf_21 ⟨Nat.zero_le _, Nat.zero_le _⟩ (fun q9 S10 H locs hq G => ?_)
      obtain ⟨hq1, hq2⟩ := hq
      rw [hq2] at G
      refine lv_to hq1 ?_
      clear hq1 hq2 eS8
      refine lv_iload_n hx hb dX12_movingOf_24 rfl (lv_at hl 2 rfl) ?_
      refine lv_iload hx hb dX12_movingOf_25 (lv_at hl 5 rfl) ?_
      refine lv_imul hx hb dX12_movingOf_27 ?_
      refine lv_topi (fun v12 ev12 => ?_)
      have h := elet_at ev12 h
      clear ev12
      refine lv_bipush (v := 100) hx hb dX12_movingOf_28 (by decide) ?_
      refine lv_idiv hx hb dX12_movingOf_30 (by decide) ?_
      refine lv_topi (fun v13 ev13 => ?_)
      have h := elet_at ev13 h
      clear ev13
      refine lv_iadd hx hb dX12_movingOf_31 ?_
      refine lv_topi (fun v14 ev14 => ?_)
      have h := elet_at ev14 h
      clear ev14
      refine lv_aload_n hx hb dX12_movingOf_32 rfl (lv_at hl 0 rfl) ?_
      refine lv_iload_n hx hb dX12_movingOf_33 rfl (lv_at hl 1 rfl) ?_
      refine lv_iconst (v := 1) hx hb dX12_movingOf_34 (by decide) ?_
      obtain ⟨r18, S15, eS15, h⟩ := obind2_some h
      refine m_calli (As := [.int l1, .int 1]) (rest := [.int v14, .ref (ad 0)]) E G hA hR hml (tr_centre l D cI cJ cZ ad S8 l1 1 eS15) (cwV 2 hts (gmV qM_208 qM_209 qM_210 qM_35 qM_211) rfl rfl rfl (by decide +kernel) ⟨Nat.le_of_ble_eq_true rfl, Nat.le_of_ble_eq_true rfl⟩) rfl hl.1 rfl (lv_room (Nat.le_of_ble_eq_true rfl)) dX12_movingOf_35 ⟨Nat.zero_le _, Nat.zero_le _⟩ (fun q16 S17 H locs hq G => ?_)
      obtain ⟨hq1, hq2⟩ := hq
      rw [hq2] at G
      refine lv_to hq1 ?_
      clear hq1 hq2 eS15
      refine lv_iload_n hx hb dX12_movingOf_38 rfl (lv_at hl 3 rfl) ?_
      refine lv_iload hx hb dX12_movingOf_39 (lv_at hl 5 rfl) ?_
      refine lv_imul hx hb dX12_movingOf_41 ?_
      refine lv_topi (fun v19 ev19 => ?_)
      have h := elet_at ev19 h
      clear ev19
      refine lv_bipush (v := 100) hx hb dX12_movingOf_42 (by decide) ?_
      refine lv_idiv hx hb dX12_movingOf_44 (by decide) ?_
      refine lv_topi (fun v20 ev20 => ?_)
      have h := elet_at ev20 h
      clear ev20
      refine lv_iadd hx hb dX12_movingOf_45 ?_
      refine lv_topi (fun v21 ev21 => ?_)
      have h := elet_at ev21 h
      clear ev21
      obtain ⟨S22, eS22, h⟩ := obind_some h
      refine m_callv (As := [.int v14, .int v21]) (rest := []) E G hA hR hml (tr_laysPoint l D cI cJ cZ ad S15 v14 v21 eS22) (cwV 2 hts (gmV qM_356 qM_357 qM_358 qM_35 qM_271) rfl rfl rfl (by decide +kernel) ⟨Nat.le_of_ble_eq_true rfl, Nat.le_of_ble_eq_true rfl⟩) rfl hl.1 rfl (lv_room (Nat.le_of_ble_eq_true rfl)) dX12_movingOf_46 ⟨Nat.zero_le _, Nat.zero_le _⟩ (fun S24 H locs hq G => ?_)
      rw [hq] at G
      clear hq eS22
      refine lv_aload_n hx hb dX12_movingOf_49 rfl (lv_at hl 0 rfl) ?_
      refine lv_aload_n hx hb dX12_movingOf_50 rfl (lv_at hl 0 rfl) ?_
      refine m_get E G 12 (v := .ref (ad 12)) (by decide) (.tail _ qM_9) rfl dX12_movingOf_51 rfl ?_
      refine lv_iload hx hb dX12_movingOf_54 (lv_at hl 5 rfl) ?_
      obtain ⟨r28, S25, eS25, h⟩ := obind2_some h
      refine m_calli (As := [.ref (ad 12), .int l6]) (rest := []) E G hA hR hml (tr_beamAt_12 l D cI cJ cZ ad S22 l6 eS25) (cwV 2 hts (gmV qM_279 qM_280 qM_281 qM_35 qM_277) rfl rfl rfl (by decide +kernel) ⟨Nat.le_of_ble_eq_true rfl, Nat.le_of_ble_eq_true rfl⟩) rfl hl.1 rfl (lv_room (Nat.le_of_ble_eq_true rfl)) dX12_movingOf_56 ⟨Nat.zero_le _, Nat.zero_le _⟩ (fun q26 S27 H locs hq G => ?_)
      obtain ⟨hq1, hq2⟩ := hq
      rw [hq2] at G
      refine lv_to hq1 ?_
      clear hq1 hq2 eS25
      refine lv_i2l (v := r28.toInt64) hx hb dX12_movingOf_59 rfl ?_
      refine lv_topl (fun v29 ev29 => ?_)
      have h := elet_at ev29 h
      clear ev29
      refine lv_lstore (lv' := [(7, .long v29), (0, .ref (ad 0)), (1, .int l1), (2, .int l2), (3, .int l3), (4, .long l4), (6, .int l6)]) hx hb dX12_movingOf_60 hl (by decide) rfl (fun ls hl => ?_)
      refine lv_lload hx hb dX12_movingOf_62 (lv_at hl 5 rfl) ?_
      refine lv_lload hx hb dX12_movingOf_64 (lv_at hl 0 rfl) ?_
      refine lv_lload hx hb dX12_movingOf_66 (lv_at hl 0 rfl) ?_
      refine lv_lmul hx hb dX12_movingOf_68 ?_
      refine lv_topl (fun v30 ev30 => ?_)
      have h := elet_at ev30 h
      clear ev30
      refine lv_ladd hx hb dX12_movingOf_69 ?_
      refine lv_topl (fun v31 ev31 => ?_)
      have h := elet_at ev31 h
      clear ev31
      refine lv_lstore (lv' := [(4, .long v31), (7, .long v29), (0, .ref (ad 0)), (1, .int l1), (2, .int l2), (3, .int l3), (6, .int l6)]) hx hb dX12_movingOf_70 hl (by decide) rfl (fun ls hl => ?_)
      obtain ⟨v32, ev32, h⟩ := elet_some h
      refine lv_iinc (v := v32) (lv' := [(6, .int v32), (4, .long v31), (7, .long v29), (0, .ref (ad 0)), (1, .int l1), (2, .int l2), (3, .int l3)]) hx hb dX12_movingOf_72 hl (k := 6) rfl ev32.symm (by decide) rfl (fun ls hl => ?_)
      refine lv_goto (tgt := 6) hx hb dX12_movingOf_75 (by decide) ?_
      have hl := lv_sub hl [3, 4, 5, 6, 1, 0] rfl
      exact ih _ _ _ _ _ _ _ _ _ h G hl
def fr_movingOf (S : MS) (a0 : Int32) (a1 : Int32) (a2 : Int32) : Option (Int64 × MS) := fr_movingOf_b6 16384 S a0 a1 a2 (0 : Int64) 0
set_option maxHeartbeats 4000000 in
set_option maxRecDepth 100000 in
theorem tr_movingOf (l : Launch) (D : va_G) (cI cJ cZ : ClassId) (ad : Nat → Nat) (S : MS) (a0 : Int32) (a1 : Int32) (a2 : Int32) {r1 : Int64} {S1 : MS} (h : fr_movingOf S a0 a1 a2 = some (r1, S1)) : mCl l yX12_movingOf (Cond.code yX12_movingOf cX12_movingOf 9 (some .long) :: wsM) 4 73 D cI cJ cZ ad S [.int a0, .int a1, .int a2] (fun r S9 => r = r1 ∧ S9 = S1) := by
  intro sz
  refine Met.ofW (cc := cX12_movingOf) (maxL := 9) (ret := (some .long)) (by decide) rfl ?_
  intro p e s m args below meth c s₁ B hml hv
  obtain ⟨rfl, hsz, hP, hK, hD0, hR⟩ := hv
  have hx := B.exec
  have hb := B.bytes
  have hr := B.returns
  have hts := atoms_spec (ws := (Cond.code yX12_movingOf cX12_movingOf 9 (some .long) :: wsM)) B.pre
  have hown : s.vm.findClass RX12 = some m.cls := findClass_of_methodNamed B.named
  have hlocks := B.notSynchronized
  subst hsz
  have hD := hD0.self (sz := s.heap.size)
  generalize hAe : va_A (MW cI cJ cZ ad S) s.heap.size = A at hD ⊢
  have hA : ∀ q : Nat, s.heap.size ≤ q → A q := fun q h => by rw [← hAe]; exact Or.inr h
  have G : mG D cI cJ cZ ad A s.heap s.heap [] S := ⟨hP, hD, va_S.rf⟩
  have E : mE p c cX12_movingOf s m ([.ref (ad 0), .int a0, .int a1, .int a2] : List Value).toArray (Cond.code yX12_movingOf cX12_movingOf 9 (some .long) :: wsM) D cI cJ cZ := ⟨hx, hb, hts, hown, hK, fun w h => .tail _ (iM_x h)⟩
  have hl := lv_entry ([.ref (ad 0), .int a0, .int a1, .int a2]) (n := 9) (Nat.le_of_ble_eq_true rfl)
  rw [lg_entry_eq]
  generalize (lg_sl ([.ref (ad 0), .int a0, .int a1, .int a2]) ++ List.replicate (9 - (lg_sl ([.ref (ad 0), .int a0, .int a1, .int a2])).length) Slot.unset).toArray = ls at hl ⊢
  have hl : lv_has ls 9 [(0, .ref (ad 0)), (1, .int a0), (2, .int a1), (3, .int a2)] := hl
  unfold fr_movingOf at h
  refine lv_lconst (v := 0) hx hb dX12_movingOf_0 (by decide) ?_
  refine lv_lstore (lv' := [(4, .long (0 : Int64)), (0, .ref (ad 0)), (1, .int a0), (2, .int a1), (3, .int a2)]) hx hb dX12_movingOf_1 hl (by decide) rfl (fun ls hl => ?_)
  refine lv_iconst (v := 0) hx hb dX12_movingOf_3 (by decide) ?_
  refine lv_istore (lv' := [(6, .int 0), (4, .long (0 : Int64)), (0, .ref (ad 0)), (1, .int a0), (2, .int a1), (3, .int a2)]) hx hb dX12_movingOf_4 hl (by decide) rfl (fun ls hl => ?_)
  have hl := lv_sub hl [2, 3, 4, 5, 1, 0] rfl
  exact tr_movingOf_b6 E hA hR hml (fun H locs ls G => W.lret (v := r1) hx hb hr (fun t ht hW => ⟨⟨r1, S1, rfl, ⟨rfl, rfl⟩, ⟨by rw [ht]; exact G.1, va_K.moved hW.alike hK, G.2.1⟩⟩, G.2.2.F ht⟩) G.2.2.2.2 dX12_movingOf_88) _ _ _ _ _ _ _ _ _ _ h G hl
def fr_isVelocity_b31   (s0 : Int32) : Option (Int32) := oif (s0 = 0 ∨ s0 = 1) <| some s0
set_option maxHeartbeats 4000000 in
set_option maxRecDepth 100000 in
theorem tr_isVelocity_b31 {p : Program} {l : Launch} {e : Env} {s : State} {m : MethodId} {args : Array Value} {below : List Frame} {meth : Method} {c : Code} {Q : State → Prop} {r1 : Int32} (E : p.tables.exec = Jvm.exec ∧ c.code = cX12_isVelocity ∧ (∀ w ∈ (Cond.code yX12_isVelocity cX12_isVelocity 2 (some .boolean) :: wsM), w.before args s = true) ∧ s.vm.findClass RX12 = some m.cls) (hml : c.maxLocals = 2) (kr31 : ∀ (ls : Array Slot), (r1 = 0 ∨ r1 = 1) → W p l e { frames := 2, cells := 0, slots := 0, locals := 22 } s m args below meth c s.heap [] 0 0 Q (F0 m 31 ls [.int r1])) : ∀ (ls : Array Slot) (s0 : Int32), fr_isVelocity_b31 s0 = some r1 → lv_has ls 2 [] → W p l e { frames := 2, cells := 0, slots := 0, locals := 22 } s m args below meth c s.heap [] 0 0 Q (F0 m 31 ls [.int s0]) := by
  have hx := E.1
  have hb := E.2.1
  have hts := E.2.2.1
  have hown := E.2.2.2
  intro ls s0 h hl
  unfold fr_isVelocity_b31 at h
  obtain ⟨gz, h⟩ := oif_some h
  have gr : r1 = 0 ∨ r1 = 1 := by rw [← osome1 h]; exact gz
  refine lv_to (osome1 h) ?_
  exact kr31 _ gr
def fr_isVelocity_b30    : Option (Int32) := fr_isVelocity_b31 0
set_option maxHeartbeats 4000000 in
set_option maxRecDepth 100000 in
theorem tr_isVelocity_b30 {p : Program} {l : Launch} {e : Env} {s : State} {m : MethodId} {args : Array Value} {below : List Frame} {meth : Method} {c : Code} {Q : State → Prop} {r1 : Int32} (E : p.tables.exec = Jvm.exec ∧ c.code = cX12_isVelocity ∧ (∀ w ∈ (Cond.code yX12_isVelocity cX12_isVelocity 2 (some .boolean) :: wsM), w.before args s = true) ∧ s.vm.findClass RX12 = some m.cls) (hml : c.maxLocals = 2) (kr31 : ∀ (ls : Array Slot), (r1 = 0 ∨ r1 = 1) → W p l e { frames := 2, cells := 0, slots := 0, locals := 22 } s m args below meth c s.heap [] 0 0 Q (F0 m 31 ls [.int r1])) : ∀ (ls : Array Slot), fr_isVelocity_b30 = some r1 → lv_has ls 2 [] → W p l e { frames := 2, cells := 0, slots := 0, locals := 22 } s m args below meth c s.heap [] 0 0 Q (F0 m 30 ls []) := by
  have hx := E.1
  have hb := E.2.1
  have hts := E.2.2.1
  have hown := E.2.2.2
  intro ls h hl
  unfold fr_isVelocity_b30 at h
  refine lv_iconst (v := 0) hx hb dX12_isVelocity_30 (by decide) ?_
  have hl := lv_sub hl [] rfl
  exact tr_isVelocity_b31 E hml kr31 _ _ h hl
def fr_isVelocity  (a0 : Int32) (a1 : Int32) : Option (Int32) := obind (fr_in a0 (-999) 999) fun r2 => if r2 = 0 then (fr_isVelocity_b30) else (obind (fr_in a1 (-999) 999) fun r5 => if r5 = 0 then (fr_isVelocity_b30) else (fr_isVelocity_b31 1))
set_option maxHeartbeats 4000000 in
set_option maxRecDepth 100000 in
theorem tr_isVelocity (l : Launch) (a0 : Int32) (a1 : Int32) {r1 : Int32} (h : fr_isVelocity a0 a1 = some r1) : Met l yX12_isVelocity (Cond.code yX12_isVelocity cX12_isVelocity 2 (some .boolean) :: wsM) { frames := 2, cells := 0, slots := 0, locals := 22 } (va_Pc [.int a0, .int a1] (fun _ => True)) (vp_Si (fun r => r = r1)) 0 0 (fun _ => False) := by
  refine Met.ofW (cc := cX12_isVelocity) (maxL := 2) (ret := (some .boolean)) (by decide) rfl ?_
  intro p e s m args below meth c s₁ B hml hv
  obtain ⟨rfl, -⟩ := hv
  have hx := B.exec
  have hb := B.bytes
  have hr := B.returns
  have hts := atoms_spec (ws := (Cond.code yX12_isVelocity cX12_isVelocity 2 (some .boolean) :: wsM)) B.pre
  have hown : s.vm.findClass RX12 = some m.cls := findClass_of_methodNamed B.named
  have hlocks := B.notSynchronized
  have E : p.tables.exec = Jvm.exec ∧ c.code = cX12_isVelocity ∧ (∀ w ∈ (Cond.code yX12_isVelocity cX12_isVelocity 2 (some .boolean) :: wsM), w.before ([.int a0, .int a1] : List Value).toArray s = true) ∧ s.vm.findClass RX12 = some m.cls := ⟨hx, hb, hts, hown⟩
  have hl := lv_entry ([.int a0, .int a1]) (n := 2) (Nat.le_of_ble_eq_true rfl)
  rw [lg_entry_eq]
  generalize (lg_sl ([.int a0, .int a1]) ++ List.replicate (2 - (lg_sl ([.int a0, .int a1])).length) Slot.unset).toArray = ls at hl ⊢
  have hl : lv_has ls 2 [(0, .int a0), (1, .int a1)] := hl
  unfold fr_isVelocity at h
  refine lv_iload_n hx hb dX12_isVelocity_0 rfl (lv_at hl 0 rfl) ?_
  refine lv_sipush (v := (-999)) hx hb dX12_isVelocity_1 (by decide) ?_
  refine lv_sipush (v := 999) hx hb dX12_isVelocity_4 (by decide) ?_
  obtain ⟨r2, er2, h⟩ := obind_some h
  refine m_stat (As := [.int a0, .int (-999), .int 999]) (rest := []) ⟨hx, hb, hml, hown, hts⟩ (tr_in l a0 (-999) 999 er2) (cwS 3 hts (gmS qM_52 qM_53 qM_35 qM_27) rfl rfl rfl (by decide +kernel) ⟨Nat.le_of_ble_eq_true rfl, Nat.le_of_ble_eq_true rfl⟩) rfl hl.1 rfl (lv_room (Nat.le_of_ble_eq_true rfl)) dX12_isVelocity_7 ⟨Nat.zero_le _, Nat.zero_le _⟩ (fun q3 hq => ?_)
  refine lv_to hq ?_
  clear hq er2
  refine lv_if_eq (tgt := 30) hx hb dX12_isVelocity_10 (by decide) (fun c4 => ?_) (fun c4 => ?_)
  · have h := oif_pos c4 h
    have hl := lv_sub hl [] rfl
    exact tr_isVelocity_b30 E hml (fun ls gz => W.zret (v := r1) hx hb hr (nar01 gz) (fun t ht hW => ⟨r1, rfl, rfl, ht⟩) (fun _ h => absurd h List.not_mem_nil) dX12_isVelocity_31) _ h hl
  · have h := oif_neg c4 h
    refine lv_iload_n hx hb dX12_isVelocity_13 rfl (lv_at hl 1 rfl) ?_
    refine lv_sipush (v := (-999)) hx hb dX12_isVelocity_14 (by decide) ?_
    refine lv_sipush (v := 999) hx hb dX12_isVelocity_17 (by decide) ?_
    obtain ⟨r5, er5, h⟩ := obind_some h
    refine m_stat (As := [.int a1, .int (-999), .int 999]) (rest := []) ⟨hx, hb, hml, hown, hts⟩ (tr_in l a1 (-999) 999 er5) (cwS 3 hts (gmS qM_52 qM_53 qM_35 qM_27) rfl rfl rfl (by decide +kernel) ⟨Nat.le_of_ble_eq_true rfl, Nat.le_of_ble_eq_true rfl⟩) rfl hl.1 rfl (lv_room (Nat.le_of_ble_eq_true rfl)) dX12_isVelocity_20 ⟨Nat.zero_le _, Nat.zero_le _⟩ (fun q6 hq => ?_)
    refine lv_to hq ?_
    clear hq er5
    refine lv_if_eq (tgt := 30) hx hb dX12_isVelocity_23 (by decide) (fun c7 => ?_) (fun c7 => ?_)
    · have h := oif_pos c7 h
      have hl := lv_sub hl [] rfl
      exact tr_isVelocity_b30 E hml (fun ls gz => W.zret (v := r1) hx hb hr (nar01 gz) (fun t ht hW => ⟨r1, rfl, rfl, ht⟩) (fun _ h => absurd h List.not_mem_nil) dX12_isVelocity_31) _ h hl
    · have h := oif_neg c7 h
      refine lv_iconst (v := 1) hx hb dX12_isVelocity_26 (by decide) ?_
      refine lv_goto (tgt := 31) hx hb dX12_isVelocity_27 (by decide) ?_
      have hl := lv_sub hl [] rfl
      exact tr_isVelocity_b31 E hml (fun ls gz => W.zret (v := r1) hx hb hr (nar01 gz) (fun t ht hW => ⟨r1, rfl, rfl, ht⟩) (fun _ h => absurd h List.not_mem_nil) dX12_isVelocity_31) _ _ h hl
def fr_movingPower_b38  (S : MS) (s0 : Int64) : Option (Int64 × MS) := some (s0, S)
set_option maxHeartbeats 4000000 in
set_option maxRecDepth 100000 in
theorem tr_movingPower_b38 {p : Program} {l : Launch} {e : Env} {s : State} {m : MethodId} {args : Array Value} {below : List Frame} {meth : Method} {c : Code} {Q : State → Prop} {D : va_G} {A : Nat → Prop} {H0 : Heap} {cI cJ cZ : ClassId} {ad : Nat → Nat} {r1 : Int64} {S1 : MS} (E : mE p c cX12_movingPower s m args (Cond.code yX12_movingPower cX12_movingPower 4 (some .long) :: wsM) D cI cJ cZ) (hA : ∀ q : Nat, H0.size ≤ q → A q) (hR : sR s) (hml : c.maxLocals = 4) (kr13 : ∀ (H : Heap) (locs : List Loc) (ls : Array Slot), mG D cI cJ cZ ad A H0 H locs S1 → W p l e { frames := 5, cells := 0, slots := 0, locals := 101 } s m args below meth c H locs 0 0 Q (F0 m 13 ls [.long r1])) (kr38 : ∀ (H : Heap) (locs : List Loc) (ls : Array Slot), mG D cI cJ cZ ad A H0 H locs S1 → W p l e { frames := 5, cells := 0, slots := 0, locals := 101 } s m args below meth c H locs 0 0 Q (F0 m 38 ls [.long r1])) : ∀ (S : MS) (H : Heap) (locs : List Loc) (ls : Array Slot) (s0 : Int64), fr_movingPower_b38 S s0 = some (r1, S1) → mG D cI cJ cZ ad A H0 H locs S → lv_has ls 4 [] → W p l e { frames := 5, cells := 0, slots := 0, locals := 101 } s m args below meth c H locs 0 0 Q (F0 m 38 ls [.long s0]) := by
  have hx := E.1
  have hb := E.2.1
  have hts := E.2.2.1
  have hown := E.2.2.2.1
  have hK := E.2.2.2.2.1
  intro S H locs ls s0 h G hl
  unfold fr_movingPower_b38 at h
  rw [(osome2 h).2] at G
  refine lv_tol (osome2 h).1 ?_
  exact kr38 _ _ _ G
def fr_movingPower (S : MS) (a0 : Int32) (a1 : Int32) (a2 : Int32) : Option (Int64 × MS) := obind2 (fr_isCell S a0) fun r5 S2 => obind2 (fr_mayAsk S2 r5) fun r9 S6 => if r9 = 0 then (some ((0 : Int64), S6)) else (obind (fr_isVelocity a1 a2) fun r11 => if r11 = 0 then (obind2 (fr_throwsAt S6 3) fun r17 S14 => elet (r17.toInt64) fun v18 => fr_movingPower_b38 S14 v18) else (obind2 (fr_movingOf S6 a0 a1 a2) fun r22 S19 => fr_movingPower_b38 S19 r22))
set_option maxHeartbeats 4000000 in
set_option maxRecDepth 100000 in
theorem tr_movingPower (l : Launch) (D : va_G) (cI cJ cZ : ClassId) (ad : Nat → Nat) (S : MS) (a0 : Int32) (a1 : Int32) (a2 : Int32) {r1 : Int64} {S1 : MS} (h : fr_movingPower S a0 a1 a2 = some (r1, S1)) : mCl l yX12_movingPower (Cond.code yX12_movingPower cX12_movingPower 4 (some .long) :: wsM) 5 101 D cI cJ cZ ad S [.int a0, .int a1, .int a2] (fun r S9 => r = r1 ∧ S9 = S1) := by
  intro sz
  refine Met.ofW (cc := cX12_movingPower) (maxL := 4) (ret := (some .long)) (by decide) rfl ?_
  intro p e s m args below meth c s₁ B hml hv
  obtain ⟨rfl, hsz, hP, hK, hD0, hR⟩ := hv
  have hx := B.exec
  have hb := B.bytes
  have hr := B.returns
  have hts := atoms_spec (ws := (Cond.code yX12_movingPower cX12_movingPower 4 (some .long) :: wsM)) B.pre
  have hown : s.vm.findClass RX12 = some m.cls := findClass_of_methodNamed B.named
  have hlocks := B.notSynchronized
  subst hsz
  have hD := hD0.self (sz := s.heap.size)
  generalize hAe : va_A (MW cI cJ cZ ad S) s.heap.size = A at hD ⊢
  have hA : ∀ q : Nat, s.heap.size ≤ q → A q := fun q h => by rw [← hAe]; exact Or.inr h
  have G : mG D cI cJ cZ ad A s.heap s.heap [] S := ⟨hP, hD, va_S.rf⟩
  have E : mE p c cX12_movingPower s m ([.ref (ad 0), .int a0, .int a1, .int a2] : List Value).toArray (Cond.code yX12_movingPower cX12_movingPower 4 (some .long) :: wsM) D cI cJ cZ := ⟨hx, hb, hts, hown, hK, fun w h => .tail _ (iM_x h)⟩
  have hl := lv_entry ([.ref (ad 0), .int a0, .int a1, .int a2]) (n := 4) (Nat.le_of_ble_eq_true rfl)
  rw [lg_entry_eq]
  generalize (lg_sl ([.ref (ad 0), .int a0, .int a1, .int a2]) ++ List.replicate (4 - (lg_sl ([.ref (ad 0), .int a0, .int a1, .int a2])).length) Slot.unset).toArray = ls at hl ⊢
  have hl : lv_has ls 4 [(0, .ref (ad 0)), (1, .int a0), (2, .int a1), (3, .int a2)] := hl
  unfold fr_movingPower at h
  refine lv_aload_n hx hb dX12_movingPower_0 rfl (lv_at hl 0 rfl) ?_
  refine lv_aload_n hx hb dX12_movingPower_1 rfl (lv_at hl 0 rfl) ?_
  refine lv_iload_n hx hb dX12_movingPower_2 rfl (lv_at hl 1 rfl) ?_
  obtain ⟨r5, S2, eS2, h⟩ := obind2_some h
  refine m_calli (As := [.int a0]) (rest := [.ref (ad 0)]) E G hA hR hml (tr_isCell l D cI cJ cZ ad S a0 eS2) (cwV 1 hts (gmV qM_326 qM_327 qM_328 qM_35 qM_307) rfl rfl rfl (by decide +kernel) ⟨Nat.le_of_ble_eq_true rfl, Nat.le_of_ble_eq_true rfl⟩) rfl hl.1 rfl (lv_room (Nat.le_of_ble_eq_true rfl)) dX12_movingPower_3 ⟨Nat.zero_le _, Nat.zero_le _⟩ (fun q3 S4 H locs hq G => ?_)
  obtain ⟨hq1, hq2⟩ := hq
  rw [hq2] at G
  refine lv_to hq1 ?_
  clear hq1 hq2 eS2
  obtain ⟨r9, S6, eS6, h⟩ := obind2_some h
  refine m_calli (As := [.int r5]) (rest := []) E G hA hR hml (tr_mayAsk l D cI cJ cZ ad S2 r5 eS6) (cwV 1 hts (gmV qM_319 qM_320 qM_321 qM_35 qM_304) rfl rfl rfl (by decide +kernel) ⟨Nat.le_of_ble_eq_true rfl, Nat.le_of_ble_eq_true rfl⟩) rfl hl.1 rfl (lv_room (Nat.le_of_ble_eq_true rfl)) dX12_movingPower_6 ⟨Nat.zero_le _, Nat.zero_le _⟩ (fun q7 S8 H locs hq G => ?_)
  obtain ⟨hq1, hq2⟩ := hq
  rw [hq2] at G
  refine lv_to hq1 ?_
  clear hq1 hq2 eS6
  refine lv_if_ne (tgt := 14) hx hb dX12_movingPower_9 (by decide) (fun c10 => ?_) (fun c10 => ?_)
  · have h := oif_neg c10 h
    refine lv_iload_n hx hb dX12_movingPower_14 rfl (lv_at hl 2 rfl) ?_
    refine lv_iload_n hx hb dX12_movingPower_15 rfl (lv_at hl 3 rfl) ?_
    obtain ⟨r11, er11, h⟩ := obind_some h
    refine m_stat (As := [.int a1, .int a2]) (rest := []) ⟨hx, hb, hml, hown, hts⟩ (tr_isVelocity l a1 a2 er11) (cwS 2 hts (gmS qM_450 qM_451 qM_35 qM_448) rfl rfl rfl (by decide +kernel) ⟨Nat.le_of_ble_eq_true rfl, Nat.le_of_ble_eq_true rfl⟩) rfl hl.1 rfl (lv_room (Nat.le_of_ble_eq_true rfl)) dX12_movingPower_16 ⟨Nat.zero_le _, Nat.zero_le _⟩ (fun q12 hq => ?_)
    refine lv_to hq ?_
    clear hq er11
    refine lv_if_eq (tgt := 32) hx hb dX12_movingPower_19 (by decide) (fun c13 => ?_) (fun c13 => ?_)
    · have h := oif_pos c13 h
      refine lv_aload_n hx hb dX12_movingPower_32 rfl (lv_at hl 0 rfl) ?_
      refine lv_iconst (v := 3) hx hb dX12_movingPower_33 (by decide) ?_
      obtain ⟨r17, S14, eS14, h⟩ := obind2_some h
      refine m_calli (As := [.int 3]) (rest := []) E G hA hR hml (tr_throwsAt l D cI cJ cZ ad S6 3 eS14) (cwV 1 hts (gmV qM_195 qM_196 qM_197 qM_35 qM_28) rfl rfl rfl (by decide +kernel) ⟨Nat.le_of_ble_eq_true rfl, Nat.le_of_ble_eq_true rfl⟩) rfl hl.1 rfl (lv_room (Nat.le_of_ble_eq_true rfl)) dX12_movingPower_34 ⟨Nat.zero_le _, Nat.zero_le _⟩ (fun q15 S16 H locs hq G => ?_)
      obtain ⟨hq1, hq2⟩ := hq
      rw [hq2] at G
      refine lv_to hq1 ?_
      clear hq1 hq2 eS14
      refine lv_i2l (v := r17.toInt64) hx hb dX12_movingPower_37 rfl ?_
      refine lv_topl (fun v18 ev18 => ?_)
      have h := elet_at ev18 h
      clear ev18
      have hl := lv_sub hl [] rfl
      exact tr_movingPower_b38 E hA hR hml (fun H locs ls G => W.lret (v := r1) hx hb hr (fun t ht hW => ⟨⟨r1, S1, rfl, ⟨rfl, rfl⟩, ⟨by rw [ht]; exact G.1, va_K.moved hW.alike hK, G.2.1⟩⟩, G.2.2.F ht⟩) G.2.2.2.2 dX12_movingPower_13) (fun H locs ls G => W.lret (v := r1) hx hb hr (fun t ht hW => ⟨⟨r1, S1, rfl, ⟨rfl, rfl⟩, ⟨by rw [ht]; exact G.1, va_K.moved hW.alike hK, G.2.1⟩⟩, G.2.2.F ht⟩) G.2.2.2.2 dX12_movingPower_38) _ _ _ _ _ h G hl
    · have h := oif_neg c13 h
      refine lv_aload_n hx hb dX12_movingPower_22 rfl (lv_at hl 0 rfl) ?_
      refine lv_iload_n hx hb dX12_movingPower_23 rfl (lv_at hl 1 rfl) ?_
      refine lv_iload_n hx hb dX12_movingPower_24 rfl (lv_at hl 2 rfl) ?_
      refine lv_iload_n hx hb dX12_movingPower_25 rfl (lv_at hl 3 rfl) ?_
      obtain ⟨r22, S19, eS19, h⟩ := obind2_some h
      refine m_calll (As := [.int a0, .int a1, .int a2]) (rest := []) E G hA hR hml (tr_movingOf l D cI cJ cZ ad S6 a0 a1 a2 eS19) (cwV 3 hts (gmV qM_452 qM_453 qM_454 qM_35 qM_447) rfl rfl rfl (by decide +kernel) ⟨Nat.le_of_ble_eq_true rfl, Nat.le_of_ble_eq_true rfl⟩) rfl hl.1 rfl (lv_room (Nat.le_of_ble_eq_true rfl)) dX12_movingPower_26 ⟨Nat.zero_le _, Nat.zero_le _⟩ (fun q20 S21 H locs hq G => ?_)
      obtain ⟨hq1, hq2⟩ := hq
      rw [hq2] at G
      refine lv_tol hq1 ?_
      clear hq1 hq2 eS19
      refine lv_goto (tgt := 38) hx hb dX12_movingPower_29 (by decide) ?_
      have hl := lv_sub hl [] rfl
      exact tr_movingPower_b38 E hA hR hml (fun H locs ls G => W.lret (v := r1) hx hb hr (fun t ht hW => ⟨⟨r1, S1, rfl, ⟨rfl, rfl⟩, ⟨by rw [ht]; exact G.1, va_K.moved hW.alike hK, G.2.1⟩⟩, G.2.2.F ht⟩) G.2.2.2.2 dX12_movingPower_13) (fun H locs ls G => W.lret (v := r1) hx hb hr (fun t ht hW => ⟨⟨r1, S1, rfl, ⟨rfl, rfl⟩, ⟨by rw [ht]; exact G.1, va_K.moved hW.alike hK, G.2.1⟩⟩, G.2.2.F ht⟩) G.2.2.2.2 dX12_movingPower_38) _ _ _ _ _ h G hl
  · have h := oif_pos c10 h
    refine lv_lconst (v := 0) hx hb dX12_movingPower_12 (by decide) ?_
    exact W.lret (v := (0 : Int64)) hx hb hr (fun t ht hW => ⟨⟨(0 : Int64), S6, rfl, osome2 h, ⟨by rw [ht]; exact G.1, va_K.moved hW.alike hK, G.2.1⟩⟩, G.2.2.F ht⟩) G.2.2.2.2 dX12_movingPower_13
def fr_bestVelocity_b33  (S : MS)  : Option (Int32 × MS) := obind2 (fr_throwsAt S 3) fun r5 S2 => some (r5, S2)
set_option maxHeartbeats 4000000 in
set_option maxRecDepth 100000 in
theorem tr_bestVelocity_b33 {p : Program} {l : Launch} {e : Env} {s : State} {m : MethodId} {args : Array Value} {below : List Frame} {meth : Method} {c : Code} {Q : State → Prop} {D : va_G} {A : Nat → Prop} {H0 : Heap} {cI cJ cZ : ClassId} {ad : Nat → Nat} {r1 : Int32} {S1 : MS} (E : mE p c cX12_bestVelocity s m args (Cond.code yX12_bestVelocity cX12_bestVelocity 11 (some .int) :: wsM) D cI cJ cZ) (hA : ∀ q : Nat, H0.size ≤ q → A q) (hR : sR s) (hml : c.maxLocals = 11) (kr13 : ∀ (H : Heap) (locs : List Loc) (ls : Array Slot), mG D cI cJ cZ ad A H0 H locs S1 → W p l e { frames := 5, cells := 0, slots := 0, locals := 101 } s m args below meth c H locs 0 0 Q (F0 m 13 ls [.int r1])) (kr38 : ∀ (H : Heap) (locs : List Loc) (ls : Array Slot), mG D cI cJ cZ ad A H0 H locs S1 → W p l e { frames := 5, cells := 0, slots := 0, locals := 101 } s m args below meth c H locs 0 0 Q (F0 m 38 ls [.int r1])) (kr129 : ∀ (H : Heap) (locs : List Loc) (ls : Array Slot), mG D cI cJ cZ ad A H0 H locs S1 → W p l e { frames := 5, cells := 0, slots := 0, locals := 101 } s m args below meth c H locs 0 0 Q (F0 m 129 ls [.int r1])) : ∀ (S : MS) (H : Heap) (locs : List Loc) (ls : Array Slot), fr_bestVelocity_b33 S = some (r1, S1) → mG D cI cJ cZ ad A H0 H locs S → lv_has ls 11 [(0, .ref (ad 0))] → W p l e { frames := 5, cells := 0, slots := 0, locals := 101 } s m args below meth c H locs 0 0 Q (F0 m 33 ls []) := by
  have hx := E.1
  have hb := E.2.1
  have hts := E.2.2.1
  have hown := E.2.2.2.1
  have hK := E.2.2.2.2.1
  intro S H locs ls h G hl
  unfold fr_bestVelocity_b33 at h
  refine lv_aload_n hx hb dX12_bestVelocity_33 rfl (lv_at hl 0 rfl) ?_
  refine lv_iconst (v := 3) hx hb dX12_bestVelocity_34 (by decide) ?_
  obtain ⟨r5, S2, eS2, h⟩ := obind2_some h
  refine m_calli (As := [.int 3]) (rest := []) E G hA hR hml (tr_throwsAt l D cI cJ cZ ad S 3 eS2) (cwV 1 hts (gmV qM_195 qM_196 qM_197 qM_35 qM_28) rfl rfl rfl (by decide +kernel) ⟨Nat.le_of_ble_eq_true rfl, Nat.le_of_ble_eq_true rfl⟩) rfl hl.1 rfl (lv_room (Nat.le_of_ble_eq_true rfl)) dX12_bestVelocity_35 ⟨Nat.zero_le _, Nat.zero_le _⟩ (fun q3 S4 H locs hq G => ?_)
  obtain ⟨hq1, hq2⟩ := hq
  rw [hq2] at G
  refine lv_to hq1 ?_
  clear hq1 hq2 eS2
  rw [(osome2 h).2] at G
  refine lv_to (osome2 h).1 ?_
  exact kr38 _ _ _ G
def fr_bestVelocity_b115 (k49 : MS → Int32 → Int32 → Int32 → Int32 → Int64 → Int32 → Option (Int32 × MS)) (k59 : MS → Int32 → Int32 → Int32 → Int32 → Int64 → Int32 → Int32 → Option (Int32 × MS)) (S : MS) (l1 : Int32) (l2 : Int32) (l3 : Int32) (l4 : Int32) (l5 : Int64) (l7 : Int32) (l8 : Int32) : Option (Int32 × MS) := elet (l8 + Int32.ofInt (1)) fun v2 => k59 S l1 l2 l3 l4 l5 l7 v2
set_option maxHeartbeats 4000000 in
set_option maxRecDepth 100000 in
theorem tr_bestVelocity_b115 {p : Program} {l : Launch} {e : Env} {s : State} {m : MethodId} {args : Array Value} {below : List Frame} {meth : Method} {c : Code} {Q : State → Prop} {D : va_G} {A : Nat → Prop} {H0 : Heap} {cI cJ cZ : ClassId} {ad : Nat → Nat} {r1 : Int32} {S1 : MS} (E : mE p c cX12_bestVelocity s m args (Cond.code yX12_bestVelocity cX12_bestVelocity 11 (some .int) :: wsM) D cI cJ cZ) (hA : ∀ q : Nat, H0.size ≤ q → A q) (hR : sR s) (hml : c.maxLocals = 11) (kr13 : ∀ (H : Heap) (locs : List Loc) (ls : Array Slot), mG D cI cJ cZ ad A H0 H locs S1 → W p l e { frames := 5, cells := 0, slots := 0, locals := 101 } s m args below meth c H locs 0 0 Q (F0 m 13 ls [.int r1])) (kr38 : ∀ (H : Heap) (locs : List Loc) (ls : Array Slot), mG D cI cJ cZ ad A H0 H locs S1 → W p l e { frames := 5, cells := 0, slots := 0, locals := 101 } s m args below meth c H locs 0 0 Q (F0 m 38 ls [.int r1])) (kr129 : ∀ (H : Heap) (locs : List Loc) (ls : Array Slot), mG D cI cJ cZ ad A H0 H locs S1 → W p l e { frames := 5, cells := 0, slots := 0, locals := 101 } s m args below meth c H locs 0 0 Q (F0 m 129 ls [.int r1])) {k49 : MS → Int32 → Int32 → Int32 → Int32 → Int64 → Int32 → Option (Int32 × MS)} {k59 : MS → Int32 → Int32 → Int32 → Int32 → Int64 → Int32 → Int32 → Option (Int32 × MS)} (hk49 : ∀ (S : MS) (H : Heap) (locs : List Loc) (ls : Array Slot) (l1 : Int32) (l2 : Int32) (l3 : Int32) (l4 : Int32) (l5 : Int64) (l7 : Int32), k49 S l1 l2 l3 l4 l5 l7 = some (r1, S1) → mG D cI cJ cZ ad A H0 H locs S → lv_has ls 11 [(0, .ref (ad 0)), (1, .int l1), (2, .int l2), (3, .int l3), (4, .int l4), (5, .long l5), (7, .int l7)] → W p l e { frames := 5, cells := 0, slots := 0, locals := 101 } s m args below meth c H locs 0 0 Q (F0 m 49 ls [])) (hk59 : ∀ (S : MS) (H : Heap) (locs : List Loc) (ls : Array Slot) (l1 : Int32) (l2 : Int32) (l3 : Int32) (l4 : Int32) (l5 : Int64) (l7 : Int32) (l8 : Int32), k59 S l1 l2 l3 l4 l5 l7 l8 = some (r1, S1) → mG D cI cJ cZ ad A H0 H locs S → lv_has ls 11 [(0, .ref (ad 0)), (1, .int l1), (2, .int l2), (3, .int l3), (4, .int l4), (5, .long l5), (7, .int l7), (8, .int l8)] → W p l e { frames := 5, cells := 0, slots := 0, locals := 101 } s m args below meth c H locs 0 0 Q (F0 m 59 ls [])) : ∀ (S : MS) (H : Heap) (locs : List Loc) (ls : Array Slot) (l1 : Int32) (l2 : Int32) (l3 : Int32) (l4 : Int32) (l5 : Int64) (l7 : Int32) (l8 : Int32), fr_bestVelocity_b115 k49 k59 S l1 l2 l3 l4 l5 l7 l8 = some (r1, S1) → mG D cI cJ cZ ad A H0 H locs S → lv_has ls 11 [(0, .ref (ad 0)), (1, .int l1), (2, .int l2), (3, .int l3), (4, .int l4), (5, .long l5), (7, .int l7), (8, .int l8)] → W p l e { frames := 5, cells := 0, slots := 0, locals := 101 } s m args below meth c H locs 0 0 Q (F0 m 115 ls []) := by
  have hx := E.1
  have hb := E.2.1
  have hts := E.2.2.1
  have hown := E.2.2.2.1
  have hK := E.2.2.2.2.1
  intro S H locs ls l1 l2 l3 l4 l5 l7 l8 h G hl
  unfold fr_bestVelocity_b115 at h
  obtain ⟨v2, ev2, h⟩ := elet_some h
  refine lv_iinc (v := v2) (lv' := [(8, .int v2), (0, .ref (ad 0)), (1, .int l1), (2, .int l2), (3, .int l3), (4, .int l4), (5, .long l5), (7, .int l7)]) hx hb dX12_bestVelocity_115 hl (k := 7) rfl ev2.symm (by decide) rfl (fun ls hl => ?_)
  refine lv_goto (tgt := 59) hx hb dX12_bestVelocity_118 (by decide) ?_
  have hl := lv_sub hl [1, 2, 3, 4, 5, 6, 7, 0] rfl
  exact hk59 _ _ _ _ _ _ _ _ _ _ _ h G hl
def fr_bestVelocity_b97 (k49 : MS → Int32 → Int32 → Int32 → Int32 → Int64 → Int32 → Option (Int32 × MS)) (k59 : MS → Int32 → Int32 → Int32 → Int32 → Int64 → Int32 → Int32 → Option (Int32 × MS)) (S : MS) (l1 : Int32) (l2 : Int32) (l3 : Int32) (l7 : Int32) (l8 : Int32) (l9 : Int64) : Option (Int32 × MS) := elet (l7 + l3) fun v2 => elet (100 * v2) fun v3 => elet (v3 + l8) fun v4 => elet (v4 + l3) fun v5 => fr_bestVelocity_b115 k49 k59 S l1 l2 l3 v5 l9 l7 l8
set_option maxHeartbeats 4000000 in
set_option maxRecDepth 100000 in
theorem tr_bestVelocity_b97 {p : Program} {l : Launch} {e : Env} {s : State} {m : MethodId} {args : Array Value} {below : List Frame} {meth : Method} {c : Code} {Q : State → Prop} {D : va_G} {A : Nat → Prop} {H0 : Heap} {cI cJ cZ : ClassId} {ad : Nat → Nat} {r1 : Int32} {S1 : MS} (E : mE p c cX12_bestVelocity s m args (Cond.code yX12_bestVelocity cX12_bestVelocity 11 (some .int) :: wsM) D cI cJ cZ) (hA : ∀ q : Nat, H0.size ≤ q → A q) (hR : sR s) (hml : c.maxLocals = 11) (kr13 : ∀ (H : Heap) (locs : List Loc) (ls : Array Slot), mG D cI cJ cZ ad A H0 H locs S1 → W p l e { frames := 5, cells := 0, slots := 0, locals := 101 } s m args below meth c H locs 0 0 Q (F0 m 13 ls [.int r1])) (kr38 : ∀ (H : Heap) (locs : List Loc) (ls : Array Slot), mG D cI cJ cZ ad A H0 H locs S1 → W p l e { frames := 5, cells := 0, slots := 0, locals := 101 } s m args below meth c H locs 0 0 Q (F0 m 38 ls [.int r1])) (kr129 : ∀ (H : Heap) (locs : List Loc) (ls : Array Slot), mG D cI cJ cZ ad A H0 H locs S1 → W p l e { frames := 5, cells := 0, slots := 0, locals := 101 } s m args below meth c H locs 0 0 Q (F0 m 129 ls [.int r1])) {k49 : MS → Int32 → Int32 → Int32 → Int32 → Int64 → Int32 → Option (Int32 × MS)} {k59 : MS → Int32 → Int32 → Int32 → Int32 → Int64 → Int32 → Int32 → Option (Int32 × MS)} (hk49 : ∀ (S : MS) (H : Heap) (locs : List Loc) (ls : Array Slot) (l1 : Int32) (l2 : Int32) (l3 : Int32) (l4 : Int32) (l5 : Int64) (l7 : Int32), k49 S l1 l2 l3 l4 l5 l7 = some (r1, S1) → mG D cI cJ cZ ad A H0 H locs S → lv_has ls 11 [(0, .ref (ad 0)), (1, .int l1), (2, .int l2), (3, .int l3), (4, .int l4), (5, .long l5), (7, .int l7)] → W p l e { frames := 5, cells := 0, slots := 0, locals := 101 } s m args below meth c H locs 0 0 Q (F0 m 49 ls [])) (hk59 : ∀ (S : MS) (H : Heap) (locs : List Loc) (ls : Array Slot) (l1 : Int32) (l2 : Int32) (l3 : Int32) (l4 : Int32) (l5 : Int64) (l7 : Int32) (l8 : Int32), k59 S l1 l2 l3 l4 l5 l7 l8 = some (r1, S1) → mG D cI cJ cZ ad A H0 H locs S → lv_has ls 11 [(0, .ref (ad 0)), (1, .int l1), (2, .int l2), (3, .int l3), (4, .int l4), (5, .long l5), (7, .int l7), (8, .int l8)] → W p l e { frames := 5, cells := 0, slots := 0, locals := 101 } s m args below meth c H locs 0 0 Q (F0 m 59 ls [])) : ∀ (S : MS) (H : Heap) (locs : List Loc) (ls : Array Slot) (l1 : Int32) (l2 : Int32) (l3 : Int32) (l7 : Int32) (l8 : Int32) (l9 : Int64), fr_bestVelocity_b97 k49 k59 S l1 l2 l3 l7 l8 l9 = some (r1, S1) → mG D cI cJ cZ ad A H0 H locs S → lv_has ls 11 [(0, .ref (ad 0)), (1, .int l1), (2, .int l2), (3, .int l3), (7, .int l7), (8, .int l8), (9, .long l9)] → W p l e { frames := 5, cells := 0, slots := 0, locals := 101 } s m args below meth c H locs 0 0 Q (F0 m 97 ls []) := by
  have hx := E.1
  have hb := E.2.1
  have hts := E.2.2.1
  have hown := E.2.2.2.1
  have hK := E.2.2.2.2.1
  intro S H locs ls l1 l2 l3 l7 l8 l9 h G hl
  unfold fr_bestVelocity_b97 at h
  refine lv_bipush (v := 100) hx hb dX12_bestVelocity_97 (by decide) ?_
  refine lv_iload hx hb dX12_bestVelocity_99 (lv_at hl 4 rfl) ?_
  refine lv_iload_n hx hb dX12_bestVelocity_101 rfl (lv_at hl 3 rfl) ?_
  refine lv_iadd hx hb dX12_bestVelocity_102 ?_
  refine lv_topi (fun v2 ev2 => ?_)
  have h := elet_at ev2 h
  clear ev2
  refine lv_imul hx hb dX12_bestVelocity_103 ?_
  refine lv_topi (fun v3 ev3 => ?_)
  have h := elet_at ev3 h
  clear ev3
  refine lv_iload hx hb dX12_bestVelocity_104 (lv_at hl 5 rfl) ?_
  refine lv_iadd hx hb dX12_bestVelocity_106 ?_
  refine lv_topi (fun v4 ev4 => ?_)
  have h := elet_at ev4 h
  clear ev4
  refine lv_iload_n hx hb dX12_bestVelocity_107 rfl (lv_at hl 3 rfl) ?_
  refine lv_iadd hx hb dX12_bestVelocity_108 ?_
  refine lv_topi (fun v5 ev5 => ?_)
  have h := elet_at ev5 h
  clear ev5
  refine lv_istore (lv' := [(4, .int v5), (0, .ref (ad 0)), (1, .int l1), (2, .int l2), (3, .int l3), (7, .int l7), (8, .int l8), (9, .long l9)]) hx hb dX12_bestVelocity_109 hl (by decide) rfl (fun ls hl => ?_)
  refine lv_lload hx hb dX12_bestVelocity_111 (lv_at hl 7 rfl) ?_
  refine lv_lstore (lv' := [(5, .long l9), (4, .int v5), (0, .ref (ad 0)), (1, .int l1), (2, .int l2), (3, .int l3), (7, .int l7), (8, .int l8), (9, .long l9)]) hx hb dX12_bestVelocity_113 hl (by decide) rfl (fun ls hl => ?_)
  have hl := lv_sub hl [2, 3, 4, 5, 1, 0, 6, 7] rfl
  exact tr_bestVelocity_b115 E hA hR hml kr13 kr38 kr129 hk49 hk59 _ _ _ _ _ _ _ _ _ _ _ h G hl
def fr_bestVelocity_b59 (k49 : MS → Int32 → Int32 → Int32 → Int32 → Int64 → Int32 → Option (Int32 × MS)) : Nat → MS → Int32 → Int32 → Int32 → Int32 → Int64 → Int32 → Int32 → Option (Int32 × MS)
  | 0, _, _, _, _, _, _, _, _ => none
  | n + 1, S, l1, l2, l3, l4, l5, l7, l8 => if l3 < l8 then (elet (l7 + Int32.ofInt (1)) fun v3 => k49 S l1 l2 l3 l4 l5 v3) else (elet (l2 * l7) fun v4 => elet (l2 * l8) fun v5 => obind2 (fr_movingOf S l1 v4 v5) fun r9 S6 => if l4 = (-1) then (fr_bestVelocity_b97 k49 (fr_bestVelocity_b59 k49 n) S6 l1 l2 l3 l7 l8 r9) else (elet (lg_cmp r9 l5) fun v11 => if 0 < v11 then (fr_bestVelocity_b97 k49 (fr_bestVelocity_b59 k49 n) S6 l1 l2 l3 l7 l8 r9) else (fr_bestVelocity_b115 k49 (fr_bestVelocity_b59 k49 n) S6 l1 l2 l3 l4 l5 l7 l8)))
set_option maxHeartbeats 4000000 in
set_option maxRecDepth 100000 in
theorem tr_bestVelocity_b59 {p : Program} {l : Launch} {e : Env} {s : State} {m : MethodId} {args : Array Value} {below : List Frame} {meth : Method} {c : Code} {Q : State → Prop} {D : va_G} {A : Nat → Prop} {H0 : Heap} {cI cJ cZ : ClassId} {ad : Nat → Nat} {r1 : Int32} {S1 : MS} (E : mE p c cX12_bestVelocity s m args (Cond.code yX12_bestVelocity cX12_bestVelocity 11 (some .int) :: wsM) D cI cJ cZ) (hA : ∀ q : Nat, H0.size ≤ q → A q) (hR : sR s) (hml : c.maxLocals = 11) (kr13 : ∀ (H : Heap) (locs : List Loc) (ls : Array Slot), mG D cI cJ cZ ad A H0 H locs S1 → W p l e { frames := 5, cells := 0, slots := 0, locals := 101 } s m args below meth c H locs 0 0 Q (F0 m 13 ls [.int r1])) (kr38 : ∀ (H : Heap) (locs : List Loc) (ls : Array Slot), mG D cI cJ cZ ad A H0 H locs S1 → W p l e { frames := 5, cells := 0, slots := 0, locals := 101 } s m args below meth c H locs 0 0 Q (F0 m 38 ls [.int r1])) (kr129 : ∀ (H : Heap) (locs : List Loc) (ls : Array Slot), mG D cI cJ cZ ad A H0 H locs S1 → W p l e { frames := 5, cells := 0, slots := 0, locals := 101 } s m args below meth c H locs 0 0 Q (F0 m 129 ls [.int r1])) {k49 : MS → Int32 → Int32 → Int32 → Int32 → Int64 → Int32 → Option (Int32 × MS)} (hk49 : ∀ (S : MS) (H : Heap) (locs : List Loc) (ls : Array Slot) (l1 : Int32) (l2 : Int32) (l3 : Int32) (l4 : Int32) (l5 : Int64) (l7 : Int32), k49 S l1 l2 l3 l4 l5 l7 = some (r1, S1) → mG D cI cJ cZ ad A H0 H locs S → lv_has ls 11 [(0, .ref (ad 0)), (1, .int l1), (2, .int l2), (3, .int l3), (4, .int l4), (5, .long l5), (7, .int l7)] → W p l e { frames := 5, cells := 0, slots := 0, locals := 101 } s m args below meth c H locs 0 0 Q (F0 m 49 ls [])) : ∀ n : Nat, ∀ (S : MS) (H : Heap) (locs : List Loc) (ls : Array Slot) (l1 : Int32) (l2 : Int32) (l3 : Int32) (l4 : Int32) (l5 : Int64) (l7 : Int32) (l8 : Int32), fr_bestVelocity_b59 k49 n S l1 l2 l3 l4 l5 l7 l8 = some (r1, S1) → mG D cI cJ cZ ad A H0 H locs S → lv_has ls 11 [(0, .ref (ad 0)), (1, .int l1), (2, .int l2), (3, .int l3), (4, .int l4), (5, .long l5), (7, .int l7), (8, .int l8)] → W p l e { frames := 5, cells := 0, slots := 0, locals := 101 } s m args below meth c H locs 0 0 Q (F0 m 59 ls []) := by
  have hx := E.1
  have hb := E.2.1
  have hts := E.2.2.1
  have hown := E.2.2.2.1
  have hK := E.2.2.2.2.1
  intro n
  induction n with
  | zero =>
    intro S H locs ls l1 l2 l3 l4 l5 l7 l8 h
    have h : (none : Option (Int32 × MS)) = some (r1, S1) := h
    cases h
  | succ n ih =>
    intro S H locs ls l1 l2 l3 l4 l5 l7 l8 h G hl
    unfold fr_bestVelocity_b59 at h
    refine lv_iload hx hb dX12_bestVelocity_59 (lv_at hl 7 rfl) ?_
    refine lv_iload_n hx hb dX12_bestVelocity_61 rfl (lv_at hl 3 rfl) ?_
    refine lv_icmp_gt (tgt := 121) hx hb dX12_bestVelocity_62 (by decide) (fun c2 => ?_) (fun c2 => ?_)
    · have h := oif_pos c2 h
      obtain ⟨v3, ev3, h⟩ := elet_some h
      refine lv_iinc (v := v3) (lv' := [(7, .int v3), (0, .ref (ad 0)), (1, .int l1), (2, .int l2), (3, .int l3), (4, .int l4), (5, .long l5), (8, .int l8)]) hx hb dX12_bestVelocity_121 hl (k := 6) rfl ev3.symm (by decide) rfl (fun ls hl => ?_)
      refine lv_goto (tgt := 49) hx hb dX12_bestVelocity_124 (by decide) ?_
      have hl := lv_sub hl [1, 2, 3, 4, 5, 6, 0] rfl
      exact hk49 _ _ _ _ _ _ _ _ _ _ h G hl
    · have h := oif_neg c2 h
      refine lv_aload_n hx hb dX12_bestVelocity_65 rfl (lv_at hl 0 rfl) ?_
      refine lv_iload_n hx hb dX12_bestVelocity_66 rfl (lv_at hl 1 rfl) ?_
      refine lv_iload_n hx hb dX12_bestVelocity_67 rfl (lv_at hl 2 rfl) ?_
      refine lv_iload hx hb dX12_bestVelocity_68 (lv_at hl 6 rfl) ?_
      refine lv_imul hx hb dX12_bestVelocity_70 ?_
      refine lv_topi (fun v4 ev4 => ?_)
      have h := elet_at ev4 h
      clear ev4
      refine lv_iload_n hx hb dX12_bestVelocity_71 rfl (lv_at hl 2 rfl) ?_
      refine lv_iload hx hb dX12_bestVelocity_72 (lv_at hl 7 rfl) ?_
      refine lv_imul hx hb dX12_bestVelocity_74 ?_
      refine lv_topi (fun v5 ev5 => ?_)
      have h := elet_at ev5 h
      clear ev5
      obtain ⟨r9, S6, eS6, h⟩ := obind2_some h
      refine m_calll (As := [.int l1, .int v4, .int v5]) (rest := []) E G hA hR hml (tr_movingOf l D cI cJ cZ ad S l1 v4 v5 eS6) (cwV 3 hts (gmV qM_452 qM_453 qM_454 qM_35 qM_447) rfl rfl rfl (by decide +kernel) ⟨Nat.le_of_ble_eq_true rfl, Nat.le_of_ble_eq_true rfl⟩) rfl hl.1 rfl (lv_room (Nat.le_of_ble_eq_true rfl)) dX12_bestVelocity_75 ⟨Nat.zero_le _, Nat.zero_le _⟩ (fun q7 S8 H locs hq G => ?_)
      obtain ⟨hq1, hq2⟩ := hq
      rw [hq2] at G
      refine lv_tol hq1 ?_
      clear hq1 hq2 eS6
      refine lv_lstore (lv' := [(9, .long r9), (0, .ref (ad 0)), (1, .int l1), (2, .int l2), (3, .int l3), (4, .int l4), (5, .long l5), (7, .int l7), (8, .int l8)]) hx hb dX12_bestVelocity_78 hl (by decide) rfl (fun ls hl => ?_)
      refine lv_iload hx hb dX12_bestVelocity_80 (lv_at hl 5 rfl) ?_
      refine lv_iconst (v := (-1)) hx hb dX12_bestVelocity_82 (by decide) ?_
      refine lv_icmp_eq (tgt := 97) hx hb dX12_bestVelocity_83 (by decide) (fun c10 => ?_) (fun c10 => ?_)
      · have h := oif_pos c10 h
        have hl := lv_sub hl [1, 2, 3, 4, 7, 8, 0] rfl
        exact tr_bestVelocity_b97 E hA hR hml kr13 kr38 kr129 hk49 ih _ _ _ _ _ _ _ _ _ _ h G hl
      · have h := oif_neg c10 h
        refine lv_lload hx hb dX12_bestVelocity_86 (lv_at hl 0 rfl) ?_
        refine lv_lload hx hb dX12_bestVelocity_88 (lv_at hl 6 rfl) ?_
        refine W.lcmp hx hb dX12_bestVelocity_90 ?_
        refine lv_topi (fun v11 ev11 => ?_)
        have h := elet_at ev11 h
        clear ev11
        refine lv_if_gt (tgt := 97) hx hb dX12_bestVelocity_91 (by decide) (fun c12 => ?_) (fun c12 => ?_)
        · have h := oif_pos c12 h
          have hl := lv_sub hl [1, 2, 3, 4, 7, 8, 0] rfl
          exact tr_bestVelocity_b97 E hA hR hml kr13 kr38 kr129 hk49 ih _ _ _ _ _ _ _ _ _ _ h G hl
        · have h := oif_neg c12 h
          refine lv_goto (tgt := 115) hx hb dX12_bestVelocity_94 (by decide) ?_
          have hl := lv_sub hl [1, 2, 3, 4, 5, 6, 7, 8] rfl
          exact tr_bestVelocity_b115 E hA hR hml kr13 kr38 kr129 hk49 ih _ _ _ _ _ _ _ _ _ _ _ h G hl
def fr_bestVelocity_b49  : Nat → MS → Int32 → Int32 → Int32 → Int32 → Int64 → Int32 → Option (Int32 × MS)
  | 0, _, _, _, _, _, _, _ => none
  | n + 1, S, l1, l2, l3, l4, l5, l7 => if l3 < l7 then (some (l4, S)) else (elet (-l3) fun v3 => fr_bestVelocity_b59 (fr_bestVelocity_b49 n) 16384 S l1 l2 l3 l4 l5 l7 v3)
set_option maxHeartbeats 4000000 in
set_option maxRecDepth 100000 in
theorem tr_bestVelocity_b49 {p : Program} {l : Launch} {e : Env} {s : State} {m : MethodId} {args : Array Value} {below : List Frame} {meth : Method} {c : Code} {Q : State → Prop} {D : va_G} {A : Nat → Prop} {H0 : Heap} {cI cJ cZ : ClassId} {ad : Nat → Nat} {r1 : Int32} {S1 : MS} (E : mE p c cX12_bestVelocity s m args (Cond.code yX12_bestVelocity cX12_bestVelocity 11 (some .int) :: wsM) D cI cJ cZ) (hA : ∀ q : Nat, H0.size ≤ q → A q) (hR : sR s) (hml : c.maxLocals = 11) (kr13 : ∀ (H : Heap) (locs : List Loc) (ls : Array Slot), mG D cI cJ cZ ad A H0 H locs S1 → W p l e { frames := 5, cells := 0, slots := 0, locals := 101 } s m args below meth c H locs 0 0 Q (F0 m 13 ls [.int r1])) (kr38 : ∀ (H : Heap) (locs : List Loc) (ls : Array Slot), mG D cI cJ cZ ad A H0 H locs S1 → W p l e { frames := 5, cells := 0, slots := 0, locals := 101 } s m args below meth c H locs 0 0 Q (F0 m 38 ls [.int r1])) (kr129 : ∀ (H : Heap) (locs : List Loc) (ls : Array Slot), mG D cI cJ cZ ad A H0 H locs S1 → W p l e { frames := 5, cells := 0, slots := 0, locals := 101 } s m args below meth c H locs 0 0 Q (F0 m 129 ls [.int r1])) : ∀ n : Nat, ∀ (S : MS) (H : Heap) (locs : List Loc) (ls : Array Slot) (l1 : Int32) (l2 : Int32) (l3 : Int32) (l4 : Int32) (l5 : Int64) (l7 : Int32), fr_bestVelocity_b49 n S l1 l2 l3 l4 l5 l7 = some (r1, S1) → mG D cI cJ cZ ad A H0 H locs S → lv_has ls 11 [(0, .ref (ad 0)), (1, .int l1), (2, .int l2), (3, .int l3), (4, .int l4), (5, .long l5), (7, .int l7)] → W p l e { frames := 5, cells := 0, slots := 0, locals := 101 } s m args below meth c H locs 0 0 Q (F0 m 49 ls []) := by
  have hx := E.1
  have hb := E.2.1
  have hts := E.2.2.1
  have hown := E.2.2.2.1
  have hK := E.2.2.2.2.1
  intro n
  induction n with
  | zero =>
    intro S H locs ls l1 l2 l3 l4 l5 l7 h
    have h : (none : Option (Int32 × MS)) = some (r1, S1) := h
    cases h
  | succ n ih =>
    intro S H locs ls l1 l2 l3 l4 l5 l7 h G hl
    unfold fr_bestVelocity_b49 at h
    refine lv_iload hx hb dX12_bestVelocity_49 (lv_at hl 6 rfl) ?_
    refine lv_iload_n hx hb dX12_bestVelocity_51 rfl (lv_at hl 3 rfl) ?_
    refine lv_icmp_gt (tgt := 127) hx hb dX12_bestVelocity_52 (by decide) (fun c2 => ?_) (fun c2 => ?_)
    · have h := oif_pos c2 h
      refine lv_iload hx hb dX12_bestVelocity_127 (lv_at hl 4 rfl) ?_
      rw [(osome2 h).2] at G
      refine lv_to (osome2 h).1 ?_
      exact kr129 _ _ _ G
    · have h := oif_neg c2 h
      refine lv_iload_n hx hb dX12_bestVelocity_55 rfl (lv_at hl 3 rfl) ?_
      refine lv_ineg hx hb dX12_bestVelocity_56 ?_
      refine lv_topi (fun v3 ev3 => ?_)
      have h := elet_at ev3 h
      clear ev3
      refine lv_istore (lv' := [(8, .int v3), (0, .ref (ad 0)), (1, .int l1), (2, .int l2), (3, .int l3), (4, .int l4), (5, .long l5), (7, .int l7)]) hx hb dX12_bestVelocity_57 hl (by decide) rfl (fun ls hl => ?_)
      have hl := lv_sub hl [1, 2, 3, 4, 5, 6, 7, 0] rfl
      exact tr_bestVelocity_b59 E hA hR hml kr13 kr38 kr129 ih _ _ _ _ _ _ _ _ _ _ _ _ h G hl
def fr_bestVelocity (S : MS) (a0 : Int32) (a1 : Int32) (a2 : Int32) : Option (Int32 × MS) := obind2 (fr_isCell S a0) fun r5 S2 => obind2 (fr_mayAsk S2 r5) fun r9 S6 => if r9 = 0 then (some (0, S6)) else (obind (fr_in a1 1 99) fun r11 => if r11 = 0 then (fr_bestVelocity_b33 S6) else (obind (fr_in a2 0 4) fun r14 => if r14 = 0 then (fr_bestVelocity_b33 S6) else (elet (-a2) fun v17 => fr_bestVelocity_b49 16384 S6 a0 a1 a2 (-1) (0 : Int64) v17)))
set_option maxHeartbeats 4000000 in
set_option maxRecDepth 100000 in
theorem tr_bestVelocity (l : Launch) (D : va_G) (cI cJ cZ : ClassId) (ad : Nat → Nat) (S : MS) (a0 : Int32) (a1 : Int32) (a2 : Int32) {r1 : Int32} {S1 : MS} (h : fr_bestVelocity S a0 a1 a2 = some (r1, S1)) : mCi l yX12_bestVelocity (Cond.code yX12_bestVelocity cX12_bestVelocity 11 (some .int) :: wsM) 5 101 D cI cJ cZ ad S [.int a0, .int a1, .int a2] (fun r S9 => r = r1 ∧ S9 = S1) := by
  intro sz
  refine Met.ofW (cc := cX12_bestVelocity) (maxL := 11) (ret := (some .int)) (by decide) rfl ?_
  intro p e s m args below meth c s₁ B hml hv
  obtain ⟨rfl, hsz, hP, hK, hD0, hR⟩ := hv
  have hx := B.exec
  have hb := B.bytes
  have hr := B.returns
  have hts := atoms_spec (ws := (Cond.code yX12_bestVelocity cX12_bestVelocity 11 (some .int) :: wsM)) B.pre
  have hown : s.vm.findClass RX12 = some m.cls := findClass_of_methodNamed B.named
  have hlocks := B.notSynchronized
  subst hsz
  have hD := hD0.self (sz := s.heap.size)
  generalize hAe : va_A (MW cI cJ cZ ad S) s.heap.size = A at hD ⊢
  have hA : ∀ q : Nat, s.heap.size ≤ q → A q := fun q h => by rw [← hAe]; exact Or.inr h
  have G : mG D cI cJ cZ ad A s.heap s.heap [] S := ⟨hP, hD, va_S.rf⟩
  have E : mE p c cX12_bestVelocity s m ([.ref (ad 0), .int a0, .int a1, .int a2] : List Value).toArray (Cond.code yX12_bestVelocity cX12_bestVelocity 11 (some .int) :: wsM) D cI cJ cZ := ⟨hx, hb, hts, hown, hK, fun w h => .tail _ (iM_x h)⟩
  have hl := lv_entry ([.ref (ad 0), .int a0, .int a1, .int a2]) (n := 11) (Nat.le_of_ble_eq_true rfl)
  rw [lg_entry_eq]
  generalize (lg_sl ([.ref (ad 0), .int a0, .int a1, .int a2]) ++ List.replicate (11 - (lg_sl ([.ref (ad 0), .int a0, .int a1, .int a2])).length) Slot.unset).toArray = ls at hl ⊢
  have hl : lv_has ls 11 [(0, .ref (ad 0)), (1, .int a0), (2, .int a1), (3, .int a2)] := hl
  unfold fr_bestVelocity at h
  refine lv_aload_n hx hb dX12_bestVelocity_0 rfl (lv_at hl 0 rfl) ?_
  refine lv_aload_n hx hb dX12_bestVelocity_1 rfl (lv_at hl 0 rfl) ?_
  refine lv_iload_n hx hb dX12_bestVelocity_2 rfl (lv_at hl 1 rfl) ?_
  obtain ⟨r5, S2, eS2, h⟩ := obind2_some h
  refine m_calli (As := [.int a0]) (rest := [.ref (ad 0)]) E G hA hR hml (tr_isCell l D cI cJ cZ ad S a0 eS2) (cwV 1 hts (gmV qM_326 qM_327 qM_328 qM_35 qM_307) rfl rfl rfl (by decide +kernel) ⟨Nat.le_of_ble_eq_true rfl, Nat.le_of_ble_eq_true rfl⟩) rfl hl.1 rfl (lv_room (Nat.le_of_ble_eq_true rfl)) dX12_bestVelocity_3 ⟨Nat.zero_le _, Nat.zero_le _⟩ (fun q3 S4 H locs hq G => ?_)
  obtain ⟨hq1, hq2⟩ := hq
  rw [hq2] at G
  refine lv_to hq1 ?_
  clear hq1 hq2 eS2
  obtain ⟨r9, S6, eS6, h⟩ := obind2_some h
  refine m_calli (As := [.int r5]) (rest := []) E G hA hR hml (tr_mayAsk l D cI cJ cZ ad S2 r5 eS6) (cwV 1 hts (gmV qM_319 qM_320 qM_321 qM_35 qM_304) rfl rfl rfl (by decide +kernel) ⟨Nat.le_of_ble_eq_true rfl, Nat.le_of_ble_eq_true rfl⟩) rfl hl.1 rfl (lv_room (Nat.le_of_ble_eq_true rfl)) dX12_bestVelocity_6 ⟨Nat.zero_le _, Nat.zero_le _⟩ (fun q7 S8 H locs hq G => ?_)
  obtain ⟨hq1, hq2⟩ := hq
  rw [hq2] at G
  refine lv_to hq1 ?_
  clear hq1 hq2 eS6
  refine lv_if_ne (tgt := 14) hx hb dX12_bestVelocity_9 (by decide) (fun c10 => ?_) (fun c10 => ?_)
  · have h := oif_neg c10 h
    refine lv_iload_n hx hb dX12_bestVelocity_14 rfl (lv_at hl 2 rfl) ?_
    refine lv_iconst (v := 1) hx hb dX12_bestVelocity_15 (by decide) ?_
    refine lv_bipush (v := 99) hx hb dX12_bestVelocity_16 (by decide) ?_
    obtain ⟨r11, er11, h⟩ := obind_some h
    refine m_stat (As := [.int a1, .int 1, .int 99]) (rest := []) ⟨hx, hb, hml, hown, hts⟩ (tr_in l a1 1 99 er11) (cwS 3 hts (gmS qM_52 qM_53 qM_35 qM_27) rfl rfl rfl (by decide +kernel) ⟨Nat.le_of_ble_eq_true rfl, Nat.le_of_ble_eq_true rfl⟩) rfl hl.1 rfl (lv_room (Nat.le_of_ble_eq_true rfl)) dX12_bestVelocity_18 ⟨Nat.zero_le _, Nat.zero_le _⟩ (fun q12 hq => ?_)
    refine lv_to hq ?_
    clear hq er11
    refine lv_if_eq (tgt := 33) hx hb dX12_bestVelocity_21 (by decide) (fun c13 => ?_) (fun c13 => ?_)
    · have h := oif_pos c13 h
      have hl := lv_sub hl [0] rfl
      exact tr_bestVelocity_b33 E hA hR hml (fun H locs ls G => W.iret (v := r1) hx hb hr (fun t ht hW => ⟨⟨r1, S1, rfl, ⟨rfl, rfl⟩, ⟨by rw [ht]; exact G.1, va_K.moved hW.alike hK, G.2.1⟩⟩, G.2.2.F ht⟩) G.2.2.2.2 dX12_bestVelocity_13) (fun H locs ls G => W.iret (v := r1) hx hb hr (fun t ht hW => ⟨⟨r1, S1, rfl, ⟨rfl, rfl⟩, ⟨by rw [ht]; exact G.1, va_K.moved hW.alike hK, G.2.1⟩⟩, G.2.2.F ht⟩) G.2.2.2.2 dX12_bestVelocity_38) (fun H locs ls G => W.iret (v := r1) hx hb hr (fun t ht hW => ⟨⟨r1, S1, rfl, ⟨rfl, rfl⟩, ⟨by rw [ht]; exact G.1, va_K.moved hW.alike hK, G.2.1⟩⟩, G.2.2.F ht⟩) G.2.2.2.2 dX12_bestVelocity_129) _ _ _ _ h G hl
    · have h := oif_neg c13 h
      refine lv_iload_n hx hb dX12_bestVelocity_24 rfl (lv_at hl 3 rfl) ?_
      refine lv_iconst (v := 0) hx hb dX12_bestVelocity_25 (by decide) ?_
      refine lv_iconst (v := 4) hx hb dX12_bestVelocity_26 (by decide) ?_
      obtain ⟨r14, er14, h⟩ := obind_some h
      refine m_stat (As := [.int a2, .int 0, .int 4]) (rest := []) ⟨hx, hb, hml, hown, hts⟩ (tr_in l a2 0 4 er14) (cwS 3 hts (gmS qM_52 qM_53 qM_35 qM_27) rfl rfl rfl (by decide +kernel) ⟨Nat.le_of_ble_eq_true rfl, Nat.le_of_ble_eq_true rfl⟩) rfl hl.1 rfl (lv_room (Nat.le_of_ble_eq_true rfl)) dX12_bestVelocity_27 ⟨Nat.zero_le _, Nat.zero_le _⟩ (fun q15 hq => ?_)
      refine lv_to hq ?_
      clear hq er14
      refine lv_if_ne (tgt := 39) hx hb dX12_bestVelocity_30 (by decide) (fun c16 => ?_) (fun c16 => ?_)
      · have h := oif_neg c16 h
        refine lv_iconst (v := (-1)) hx hb dX12_bestVelocity_39 (by decide) ?_
        refine lv_istore (lv' := [(4, .int (-1)), (0, .ref (ad 0)), (1, .int a0), (2, .int a1), (3, .int a2)]) hx hb dX12_bestVelocity_40 hl (by decide) rfl (fun ls hl => ?_)
        refine lv_lconst (v := 0) hx hb dX12_bestVelocity_42 (by decide) ?_
        refine lv_lstore (lv' := [(5, .long (0 : Int64)), (4, .int (-1)), (0, .ref (ad 0)), (1, .int a0), (2, .int a1), (3, .int a2)]) hx hb dX12_bestVelocity_43 hl (by decide) rfl (fun ls hl => ?_)
        refine lv_iload_n hx hb dX12_bestVelocity_45 rfl (lv_at hl 5 rfl) ?_
        refine lv_ineg hx hb dX12_bestVelocity_46 ?_
        refine lv_topi (fun v17 ev17 => ?_)
        have h := elet_at ev17 h
        clear ev17
        refine lv_istore (lv' := [(7, .int v17), (5, .long (0 : Int64)), (4, .int (-1)), (0, .ref (ad 0)), (1, .int a0), (2, .int a1), (3, .int a2)]) hx hb dX12_bestVelocity_47 hl (by decide) rfl (fun ls hl => ?_)
        have hl := lv_sub hl [3, 4, 5, 6, 2, 1, 0] rfl
        exact tr_bestVelocity_b49 E hA hR hml (fun H locs ls G => W.iret (v := r1) hx hb hr (fun t ht hW => ⟨⟨r1, S1, rfl, ⟨rfl, rfl⟩, ⟨by rw [ht]; exact G.1, va_K.moved hW.alike hK, G.2.1⟩⟩, G.2.2.F ht⟩) G.2.2.2.2 dX12_bestVelocity_13) (fun H locs ls G => W.iret (v := r1) hx hb hr (fun t ht hW => ⟨⟨r1, S1, rfl, ⟨rfl, rfl⟩, ⟨by rw [ht]; exact G.1, va_K.moved hW.alike hK, G.2.1⟩⟩, G.2.2.F ht⟩) G.2.2.2.2 dX12_bestVelocity_38) (fun H locs ls G => W.iret (v := r1) hx hb hr (fun t ht hW => ⟨⟨r1, S1, rfl, ⟨rfl, rfl⟩, ⟨by rw [ht]; exact G.1, va_K.moved hW.alike hK, G.2.1⟩⟩, G.2.2.F ht⟩) G.2.2.2.2 dX12_bestVelocity_129) _ _ _ _ _ _ _ _ _ _ _ h G hl
      · have h := oif_pos c16 h
        have hl := lv_sub hl [0] rfl
        exact tr_bestVelocity_b33 E hA hR hml (fun H locs ls G => W.iret (v := r1) hx hb hr (fun t ht hW => ⟨⟨r1, S1, rfl, ⟨rfl, rfl⟩, ⟨by rw [ht]; exact G.1, va_K.moved hW.alike hK, G.2.1⟩⟩, G.2.2.F ht⟩) G.2.2.2.2 dX12_bestVelocity_13) (fun H locs ls G => W.iret (v := r1) hx hb hr (fun t ht hW => ⟨⟨r1, S1, rfl, ⟨rfl, rfl⟩, ⟨by rw [ht]; exact G.1, va_K.moved hW.alike hK, G.2.1⟩⟩, G.2.2.F ht⟩) G.2.2.2.2 dX12_bestVelocity_38) (fun H locs ls G => W.iret (v := r1) hx hb hr (fun t ht hW => ⟨⟨r1, S1, rfl, ⟨rfl, rfl⟩, ⟨by rw [ht]; exact G.1, va_K.moved hW.alike hK, G.2.1⟩⟩, G.2.2.F ht⟩) G.2.2.2.2 dX12_bestVelocity_129) _ _ _ _ h G hl
  · have h := oif_pos c10 h
    refine lv_iconst (v := 0) hx hb dX12_bestVelocity_12 (by decide) ?_
    exact W.iret (v := 0) hx hb hr (fun t ht hW => ⟨⟨0, S6, rfl, osome2 h, ⟨by rw [ht]; exact G.1, va_K.moved hW.alike hK, G.2.1⟩⟩, G.2.2.F ht⟩) G.2.2.2.2 dX12_bestVelocity_13
def fr_together_b6  : Nat → MS → Int32 → Int32 → Int32 → Int64 → Int32 → Option (Int64 × MS)
  | 0, _, _, _, _, _, _ => none
  | n + 1, S, l1, l2, l3, l4, l6 => elet (l6 + l3) fun v2 => elet (S.2.1 10 2) fun v3 => if v3 ≤ v2 then (some (l4, S)) else (elet (200 * l1) fun v5 => elet (55 + v5) fun v6 => elet (v6 + l6) fun v7 => oif (inb v7 2455 = true) <| elet (S.2.1 12 v7.toNatClampNeg) fun v9 => elet (v9.toInt64) fun v10 => elet (200 * l2) fun v11 => elet (55 + v11) fun v12 => elet (v12 + l6) fun v13 => elet (v13 + l3) fun v14 => oif (inb v14 2455 = true) <| elet (S.2.1 12 v14.toNatClampNeg) fun v16 => elet (v16.toInt64) fun v17 => elet (v10 * v17) fun v18 => elet (l4 + v18) fun v19 => elet (l6 + Int32.ofInt (1)) fun v20 => fr_together_b6 n S l1 l2 l3 v19 v20)
set_option maxHeartbeats 4000000 in
set_option maxRecDepth 100000 in
theorem tr_together_b6 {p : Program} {l : Launch} {e : Env} {s : State} {m : MethodId} {args : Array Value} {below : List Frame} {meth : Method} {c : Code} {Q : State → Prop} {D : va_G} {A : Nat → Prop} {H0 : Heap} {cI cJ cZ : ClassId} {ad : Nat → Nat} {r1 : Int64} {S1 : MS} (E : mE p c cX12_together s m args (Cond.code yX12_together cX12_together 7 (some .long) :: wsM) D cI cJ cZ) (hA : ∀ q : Nat, H0.size ≤ q → A q) (hR : sR s) (hml : c.maxLocals = 7) (kr69 : ∀ (H : Heap) (locs : List Loc) (ls : Array Slot), mG D cI cJ cZ ad A H0 H locs S1 → W p l e { frames := 1, cells := 0, slots := 0, locals := 0 } s m args below meth c H locs 0 0 Q (F0 m 69 ls [.long r1])) : ∀ n : Nat, ∀ (S : MS) (H : Heap) (locs : List Loc) (ls : Array Slot) (l1 : Int32) (l2 : Int32) (l3 : Int32) (l4 : Int64) (l6 : Int32), fr_together_b6 n S l1 l2 l3 l4 l6 = some (r1, S1) → mG D cI cJ cZ ad A H0 H locs S → lv_has ls 7 [(0, .ref (ad 0)), (1, .int l1), (2, .int l2), (3, .int l3), (4, .long l4), (6, .int l6)] → W p l e { frames := 1, cells := 0, slots := 0, locals := 0 } s m args below meth c H locs 0 0 Q (F0 m 6 ls []) := by
  have hx := E.1
  have hb := E.2.1
  have hts := E.2.2.1
  have hown := E.2.2.2.1
  have hK := E.2.2.2.2.1
  intro n
  induction n with
  | zero =>
    intro S H locs ls l1 l2 l3 l4 l6 h
    have h : (none : Option (Int64 × MS)) = some (r1, S1) := h
    cases h
  | succ n ih =>
    intro S H locs ls l1 l2 l3 l4 l6 h G hl
    unfold fr_together_b6 at h
    refine lv_iload hx hb dX12_together_6 (lv_at hl 5 rfl) ?_
    refine lv_iload_n hx hb dX12_together_8 rfl (lv_at hl 3 rfl) ?_
    refine lv_iadd hx hb dX12_together_9 ?_
    refine lv_topi (fun v2 ev2 => ?_)
    have h := elet_at ev2 h
    clear ev2
    refine lv_aload_n hx hb dX12_together_10 rfl (lv_at hl 0 rfl) ?_
    refine m_get E G 10 (v := .ref (ad 10)) (by decide) (.tail _ qM_7) rfl dX12_together_11 rfl ?_
    refine lv_iconst (v := 2) hx hb dX12_together_14 (by decide) ?_
    refine m_iald E G 10 2 (n := 131) (k := 2) rfl rfl (by decide) (by decide) dX12_together_15 ?_
    refine lv_topi (fun v3 ev3 => ?_)
    have h := elet_at ev3 h
    clear ev3
    refine lv_icmp_ge (tgt := 67) hx hb dX12_together_16 (by decide) (fun c4 => ?_) (fun c4 => ?_)
    · have h := oif_pos c4 h
      refine lv_lload hx hb dX12_together_67 (lv_at hl 4 rfl) ?_
      rw [(osome2 h).2] at G
      refine lv_tol (osome2 h).1 ?_
      exact kr69 _ _ _ G
    · have h := oif_neg c4 h
      refine lv_lload hx hb dX12_together_19 (lv_at hl 4 rfl) ?_
      refine lv_aload_n hx hb dX12_together_21 rfl (lv_at hl 0 rfl) ?_
      refine m_get E G 12 (v := .ref (ad 12)) (by decide) (.tail _ qM_9) rfl dX12_together_22 rfl ?_
      refine lv_bipush (v := 55) hx hb dX12_together_25 (by decide) ?_
      refine lv_sipush (v := 200) hx hb dX12_together_27 (by decide) ?_
      refine lv_iload_n hx hb dX12_together_30 rfl (lv_at hl 1 rfl) ?_
      refine lv_imul hx hb dX12_together_31 ?_
      refine lv_topi (fun v5 ev5 => ?_)
      have h := elet_at ev5 h
      clear ev5
      refine lv_iadd hx hb dX12_together_32 ?_
      refine lv_topi (fun v6 ev6 => ?_)
      have h := elet_at ev6 h
      clear ev6
      refine lv_iload hx hb dX12_together_33 (lv_at hl 5 rfl) ?_
      refine lv_iadd hx hb dX12_together_35 ?_
      refine lv_topi (fun v7 ev7 => ?_)
      have h := elet_at ev7 h
      clear ev7
      obtain ⟨g8, h⟩ := oif_some h
      refine m_iald E G 12 4 (n := 2455) (k := v7.toNatClampNeg) rfl (inb_k g8).1 (inb_k g8).2 (by decide) dX12_together_36 ?_
      refine lv_topi (fun v9 ev9 => ?_)
      have h := elet_at ev9 h
      clear ev9
      refine lv_i2l (v := v9.toInt64) hx hb dX12_together_37 rfl ?_
      refine lv_topl (fun v10 ev10 => ?_)
      have h := elet_at ev10 h
      clear ev10
      refine lv_aload_n hx hb dX12_together_38 rfl (lv_at hl 0 rfl) ?_
      refine m_get E G 12 (v := .ref (ad 12)) (by decide) (.tail _ qM_9) rfl dX12_together_39 rfl ?_
      refine lv_bipush (v := 55) hx hb dX12_together_42 (by decide) ?_
      refine lv_sipush (v := 200) hx hb dX12_together_44 (by decide) ?_
      refine lv_iload_n hx hb dX12_together_47 rfl (lv_at hl 2 rfl) ?_
      refine lv_imul hx hb dX12_together_48 ?_
      refine lv_topi (fun v11 ev11 => ?_)
      have h := elet_at ev11 h
      clear ev11
      refine lv_iadd hx hb dX12_together_49 ?_
      refine lv_topi (fun v12 ev12 => ?_)
      have h := elet_at ev12 h
      clear ev12
      refine lv_iload hx hb dX12_together_50 (lv_at hl 5 rfl) ?_
      refine lv_iadd hx hb dX12_together_52 ?_
      refine lv_topi (fun v13 ev13 => ?_)
      have h := elet_at ev13 h
      clear ev13
      refine lv_iload_n hx hb dX12_together_53 rfl (lv_at hl 3 rfl) ?_
      refine lv_iadd hx hb dX12_together_54 ?_
      refine lv_topi (fun v14 ev14 => ?_)
      have h := elet_at ev14 h
      clear ev14
      obtain ⟨g15, h⟩ := oif_some h
      refine m_iald E G 12 4 (n := 2455) (k := v14.toNatClampNeg) rfl (inb_k g15).1 (inb_k g15).2 (by decide) dX12_together_55 ?_
      refine lv_topi (fun v16 ev16 => ?_)
      have h := elet_at ev16 h
      clear ev16
      refine lv_i2l (v := v16.toInt64) hx hb dX12_together_56 rfl ?_
      refine lv_topl (fun v17 ev17 => ?_)
      have h := elet_at ev17 h
      clear ev17
      refine lv_lmul hx hb dX12_together_57 ?_
      refine lv_topl (fun v18 ev18 => ?_)
      have h := elet_at ev18 h
      clear ev18
      refine lv_ladd hx hb dX12_together_58 ?_
      refine lv_topl (fun v19 ev19 => ?_)
      have h := elet_at ev19 h
      clear ev19
      refine lv_lstore (lv' := [(4, .long v19), (0, .ref (ad 0)), (1, .int l1), (2, .int l2), (3, .int l3), (6, .int l6)]) hx hb dX12_together_59 hl (by decide) rfl (fun ls hl => ?_)
      obtain ⟨v20, ev20, h⟩ := elet_some h
      refine lv_iinc (v := v20) (lv' := [(6, .int v20), (4, .long v19), (0, .ref (ad 0)), (1, .int l1), (2, .int l2), (3, .int l3)]) hx hb dX12_together_61 hl (k := 5) rfl ev20.symm (by decide) rfl (fun ls hl => ?_)
      refine lv_goto (tgt := 6) hx hb dX12_together_64 (by decide) ?_
      have hl := lv_sub hl [2, 3, 4, 5, 1, 0] rfl
      exact ih _ _ _ _ _ _ _ _ _ h G hl
def fr_together (S : MS) (a0 : Int32) (a1 : Int32) (a2 : Int32) : Option (Int64 × MS) := fr_together_b6 16384 S a0 a1 a2 (0 : Int64) 0
set_option maxHeartbeats 4000000 in
set_option maxRecDepth 100000 in
theorem tr_together (l : Launch) (D : va_G) (cI cJ cZ : ClassId) (ad : Nat → Nat) (S : MS) (a0 : Int32) (a1 : Int32) (a2 : Int32) {r1 : Int64} {S1 : MS} (h : fr_together S a0 a1 a2 = some (r1, S1)) : mCl l yX12_together (Cond.code yX12_together cX12_together 7 (some .long) :: wsM) 1 0 D cI cJ cZ ad S [.int a0, .int a1, .int a2] (fun r S9 => r = r1 ∧ S9 = S1) := by
  intro sz
  refine Met.ofW (cc := cX12_together) (maxL := 7) (ret := (some .long)) (by decide) rfl ?_
  intro p e s m args below meth c s₁ B hml hv
  obtain ⟨rfl, hsz, hP, hK, hD0, hR⟩ := hv
  have hx := B.exec
  have hb := B.bytes
  have hr := B.returns
  have hts := atoms_spec (ws := (Cond.code yX12_together cX12_together 7 (some .long) :: wsM)) B.pre
  have hown : s.vm.findClass RX12 = some m.cls := findClass_of_methodNamed B.named
  have hlocks := B.notSynchronized
  subst hsz
  have hD := hD0.self (sz := s.heap.size)
  generalize hAe : va_A (MW cI cJ cZ ad S) s.heap.size = A at hD ⊢
  have hA : ∀ q : Nat, s.heap.size ≤ q → A q := fun q h => by rw [← hAe]; exact Or.inr h
  have G : mG D cI cJ cZ ad A s.heap s.heap [] S := ⟨hP, hD, va_S.rf⟩
  have E : mE p c cX12_together s m ([.ref (ad 0), .int a0, .int a1, .int a2] : List Value).toArray (Cond.code yX12_together cX12_together 7 (some .long) :: wsM) D cI cJ cZ := ⟨hx, hb, hts, hown, hK, fun w h => .tail _ (iM_x h)⟩
  have hl := lv_entry ([.ref (ad 0), .int a0, .int a1, .int a2]) (n := 7) (Nat.le_of_ble_eq_true rfl)
  rw [lg_entry_eq]
  generalize (lg_sl ([.ref (ad 0), .int a0, .int a1, .int a2]) ++ List.replicate (7 - (lg_sl ([.ref (ad 0), .int a0, .int a1, .int a2])).length) Slot.unset).toArray = ls at hl ⊢
  have hl : lv_has ls 7 [(0, .ref (ad 0)), (1, .int a0), (2, .int a1), (3, .int a2)] := hl
  unfold fr_together at h
  refine lv_lconst (v := 0) hx hb dX12_together_0 (by decide) ?_
  refine lv_lstore (lv' := [(4, .long (0 : Int64)), (0, .ref (ad 0)), (1, .int a0), (2, .int a1), (3, .int a2)]) hx hb dX12_together_1 hl (by decide) rfl (fun ls hl => ?_)
  refine lv_iconst (v := 0) hx hb dX12_together_3 (by decide) ?_
  refine lv_istore (lv' := [(6, .int 0), (4, .long (0 : Int64)), (0, .ref (ad 0)), (1, .int a0), (2, .int a1), (3, .int a2)]) hx hb dX12_together_4 hl (by decide) rfl (fun ls hl => ?_)
  have hl := lv_sub hl [2, 3, 4, 5, 1, 0] rfl
  exact tr_together_b6 E hA hR hml (fun H locs ls G => W.lret (v := r1) hx hb hr (fun t ht hW => ⟨⟨r1, S1, rfl, ⟨rfl, rfl⟩, ⟨by rw [ht]; exact G.1, va_K.moved hW.alike hK, G.2.1⟩⟩, G.2.2.F ht⟩) G.2.2.2.2 dX12_together_69) _ _ _ _ _ _ _ _ _ _ h G hl
def fr_correlation_b54  (S : MS) (s0 : Int64) : Option (Int64 × MS) := some (s0, S)
set_option maxHeartbeats 4000000 in
set_option maxRecDepth 100000 in
theorem tr_correlation_b54 {p : Program} {l : Launch} {e : Env} {s : State} {m : MethodId} {args : Array Value} {below : List Frame} {meth : Method} {c : Code} {Q : State → Prop} {D : va_G} {A : Nat → Prop} {H0 : Heap} {cI cJ cZ : ClassId} {ad : Nat → Nat} {r1 : Int64} {S1 : MS} (E : mE p c cX12_correlation s m args (Cond.code yX12_correlation cX12_correlation 4 (some .long) :: wsM) D cI cJ cZ) (hA : ∀ q : Nat, H0.size ≤ q → A q) (hR : sR s) (hml : c.maxLocals = 4) (kr29 : ∀ (H : Heap) (locs : List Loc) (ls : Array Slot), mG D cI cJ cZ ad A H0 H locs S1 → W p l e { frames := 3, cells := 0, slots := 0, locals := 43 } s m args below meth c H locs 0 0 Q (F0 m 29 ls [.long r1])) (kr54 : ∀ (H : Heap) (locs : List Loc) (ls : Array Slot), mG D cI cJ cZ ad A H0 H locs S1 → W p l e { frames := 3, cells := 0, slots := 0, locals := 43 } s m args below meth c H locs 0 0 Q (F0 m 54 ls [.long r1])) : ∀ (S : MS) (H : Heap) (locs : List Loc) (ls : Array Slot) (s0 : Int64), fr_correlation_b54 S s0 = some (r1, S1) → mG D cI cJ cZ ad A H0 H locs S → lv_has ls 4 [] → W p l e { frames := 3, cells := 0, slots := 0, locals := 43 } s m args below meth c H locs 0 0 Q (F0 m 54 ls [.long s0]) := by
  have hx := E.1
  have hb := E.2.1
  have hts := E.2.2.1
  have hown := E.2.2.2.1
  have hK := E.2.2.2.2.1
  intro S H locs ls s0 h G hl
  unfold fr_correlation_b54 at h
  rw [(osome2 h).2] at G
  refine lv_tol (osome2 h).1 ?_
  exact kr54 _ _ _ G
def fr_correlation_b22  (S : MS) (s0 : Int32) (l1 : Int32) (l2 : Int32) (l3 : Int32) : Option (Int64 × MS) := obind2 (fr_mayAsk S s0) fun r5 S2 => if r5 = 0 then (some ((0 : Int64), S2)) else (obind2 (fr_isTime S2 l3) fun r10 S7 => if r10 = 0 then (obind2 (fr_throwsAt S7 3) fun r15 S12 => elet (r15.toInt64) fun v16 => fr_correlation_b54 S12 v16) else (obind2 (fr_together S7 l1 l2 l3) fun r20 S17 => fr_correlation_b54 S17 r20))
set_option maxHeartbeats 4000000 in
set_option maxRecDepth 100000 in
theorem tr_correlation_b22 {p : Program} {l : Launch} {e : Env} {s : State} {m : MethodId} {args : Array Value} {below : List Frame} {meth : Method} {c : Code} {Q : State → Prop} {D : va_G} {A : Nat → Prop} {H0 : Heap} {cI cJ cZ : ClassId} {ad : Nat → Nat} {r1 : Int64} {S1 : MS} (E : mE p c cX12_correlation s m args (Cond.code yX12_correlation cX12_correlation 4 (some .long) :: wsM) D cI cJ cZ) (hA : ∀ q : Nat, H0.size ≤ q → A q) (hR : sR s) (hml : c.maxLocals = 4) (kr29 : ∀ (H : Heap) (locs : List Loc) (ls : Array Slot), mG D cI cJ cZ ad A H0 H locs S1 → W p l e { frames := 3, cells := 0, slots := 0, locals := 43 } s m args below meth c H locs 0 0 Q (F0 m 29 ls [.long r1])) (kr54 : ∀ (H : Heap) (locs : List Loc) (ls : Array Slot), mG D cI cJ cZ ad A H0 H locs S1 → W p l e { frames := 3, cells := 0, slots := 0, locals := 43 } s m args below meth c H locs 0 0 Q (F0 m 54 ls [.long r1])) : ∀ (S : MS) (H : Heap) (locs : List Loc) (ls : Array Slot) (s0 : Int32) (l1 : Int32) (l2 : Int32) (l3 : Int32), fr_correlation_b22 S s0 l1 l2 l3 = some (r1, S1) → mG D cI cJ cZ ad A H0 H locs S → lv_has ls 4 [(0, .ref (ad 0)), (1, .int l1), (2, .int l2), (3, .int l3)] → W p l e { frames := 3, cells := 0, slots := 0, locals := 43 } s m args below meth c H locs 0 0 Q (F0 m 22 ls [.int s0, .ref (ad 0)]) := by
  have hx := E.1
  have hb := E.2.1
  have hts := E.2.2.1
  have hown := E.2.2.2.1
  have hK := E.2.2.2.2.1
  intro S H locs ls s0 l1 l2 l3 h G hl
  unfold fr_correlation_b22 at h
  obtain ⟨r5, S2, eS2, h⟩ := obind2_some h
  refine m_calli (As := [.int s0]) (rest := []) E G hA hR hml (tr_mayAsk l D cI cJ cZ ad S s0 eS2) (cwV 1 hts (gmV qM_319 qM_320 qM_321 qM_35 qM_304) rfl rfl rfl (by decide +kernel) ⟨Nat.le_of_ble_eq_true rfl, Nat.le_of_ble_eq_true rfl⟩) rfl hl.1 rfl (lv_room (Nat.le_of_ble_eq_true rfl)) dX12_correlation_22 ⟨Nat.zero_le _, Nat.zero_le _⟩ (fun q3 S4 H locs hq G => ?_)
  obtain ⟨hq1, hq2⟩ := hq
  rw [hq2] at G
  refine lv_to hq1 ?_
  clear hq1 hq2 eS2
  refine lv_if_ne (tgt := 30) hx hb dX12_correlation_25 (by decide) (fun c6 => ?_) (fun c6 => ?_)
  · have h := oif_neg c6 h
    refine lv_aload_n hx hb dX12_correlation_30 rfl (lv_at hl 0 rfl) ?_
    refine lv_iload_n hx hb dX12_correlation_31 rfl (lv_at hl 3 rfl) ?_
    obtain ⟨r10, S7, eS7, h⟩ := obind2_some h
    refine m_calli (As := [.int l3]) (rest := []) E G hA hR hml (tr_isTime l D cI cJ cZ ad S2 l3 eS7) (cwV 1 hts (gmV qM_334 qM_335 qM_336 qM_35 qM_309) rfl rfl rfl (by decide +kernel) ⟨Nat.le_of_ble_eq_true rfl, Nat.le_of_ble_eq_true rfl⟩) rfl hl.1 rfl (lv_room (Nat.le_of_ble_eq_true rfl)) dX12_correlation_32 ⟨Nat.zero_le _, Nat.zero_le _⟩ (fun q8 S9 H locs hq G => ?_)
    obtain ⟨hq1, hq2⟩ := hq
    rw [hq2] at G
    refine lv_to hq1 ?_
    clear hq1 hq2 eS7
    refine lv_if_eq (tgt := 48) hx hb dX12_correlation_35 (by decide) (fun c11 => ?_) (fun c11 => ?_)
    · have h := oif_pos c11 h
      refine lv_aload_n hx hb dX12_correlation_48 rfl (lv_at hl 0 rfl) ?_
      refine lv_iconst (v := 3) hx hb dX12_correlation_49 (by decide) ?_
      obtain ⟨r15, S12, eS12, h⟩ := obind2_some h
      refine m_calli (As := [.int 3]) (rest := []) E G hA hR hml (tr_throwsAt l D cI cJ cZ ad S7 3 eS12) (cwV 1 hts (gmV qM_195 qM_196 qM_197 qM_35 qM_28) rfl rfl rfl (by decide +kernel) ⟨Nat.le_of_ble_eq_true rfl, Nat.le_of_ble_eq_true rfl⟩) rfl hl.1 rfl (lv_room (Nat.le_of_ble_eq_true rfl)) dX12_correlation_50 ⟨Nat.zero_le _, Nat.zero_le _⟩ (fun q13 S14 H locs hq G => ?_)
      obtain ⟨hq1, hq2⟩ := hq
      rw [hq2] at G
      refine lv_to hq1 ?_
      clear hq1 hq2 eS12
      refine lv_i2l (v := r15.toInt64) hx hb dX12_correlation_53 rfl ?_
      refine lv_topl (fun v16 ev16 => ?_)
      have h := elet_at ev16 h
      clear ev16
      have hl := lv_sub hl [] rfl
      exact tr_correlation_b54 E hA hR hml kr29 kr54 _ _ _ _ _ h G hl
    · have h := oif_neg c11 h
      refine lv_aload_n hx hb dX12_correlation_38 rfl (lv_at hl 0 rfl) ?_
      refine lv_iload_n hx hb dX12_correlation_39 rfl (lv_at hl 1 rfl) ?_
      refine lv_iload_n hx hb dX12_correlation_40 rfl (lv_at hl 2 rfl) ?_
      refine lv_iload_n hx hb dX12_correlation_41 rfl (lv_at hl 3 rfl) ?_
      obtain ⟨r20, S17, eS17, h⟩ := obind2_some h
      refine m_calll (As := [.int l1, .int l2, .int l3]) (rest := []) E G hA hR hml (tr_together l D cI cJ cZ ad S7 l1 l2 l3 eS17) (cwV 3 hts (gmV qM_458 qM_459 qM_460 qM_35 qM_456) rfl rfl rfl (by decide +kernel) ⟨Nat.le_of_ble_eq_true rfl, Nat.le_of_ble_eq_true rfl⟩) rfl hl.1 rfl (lv_room (Nat.le_of_ble_eq_true rfl)) dX12_correlation_42 ⟨Nat.zero_le _, Nat.zero_le _⟩ (fun q18 S19 H locs hq G => ?_)
      obtain ⟨hq1, hq2⟩ := hq
      rw [hq2] at G
      refine lv_tol hq1 ?_
      clear hq1 hq2 eS17
      refine lv_goto (tgt := 54) hx hb dX12_correlation_45 (by decide) ?_
      have hl := lv_sub hl [] rfl
      exact tr_correlation_b54 E hA hR hml kr29 kr54 _ _ _ _ _ h G hl
  · have h := oif_pos c6 h
    refine lv_lconst (v := 0) hx hb dX12_correlation_28 (by decide) ?_
    rw [(osome2 h).2] at G
    refine lv_tol (osome2 h).1 ?_
    exact kr29 _ _ _ G
def fr_correlation_b21  (S : MS) (l1 : Int32) (l2 : Int32) (l3 : Int32) : Option (Int64 × MS) := fr_correlation_b22 S 0 l1 l2 l3
set_option maxHeartbeats 4000000 in
set_option maxRecDepth 100000 in
theorem tr_correlation_b21 {p : Program} {l : Launch} {e : Env} {s : State} {m : MethodId} {args : Array Value} {below : List Frame} {meth : Method} {c : Code} {Q : State → Prop} {D : va_G} {A : Nat → Prop} {H0 : Heap} {cI cJ cZ : ClassId} {ad : Nat → Nat} {r1 : Int64} {S1 : MS} (E : mE p c cX12_correlation s m args (Cond.code yX12_correlation cX12_correlation 4 (some .long) :: wsM) D cI cJ cZ) (hA : ∀ q : Nat, H0.size ≤ q → A q) (hR : sR s) (hml : c.maxLocals = 4) (kr29 : ∀ (H : Heap) (locs : List Loc) (ls : Array Slot), mG D cI cJ cZ ad A H0 H locs S1 → W p l e { frames := 3, cells := 0, slots := 0, locals := 43 } s m args below meth c H locs 0 0 Q (F0 m 29 ls [.long r1])) (kr54 : ∀ (H : Heap) (locs : List Loc) (ls : Array Slot), mG D cI cJ cZ ad A H0 H locs S1 → W p l e { frames := 3, cells := 0, slots := 0, locals := 43 } s m args below meth c H locs 0 0 Q (F0 m 54 ls [.long r1])) : ∀ (S : MS) (H : Heap) (locs : List Loc) (ls : Array Slot) (l1 : Int32) (l2 : Int32) (l3 : Int32), fr_correlation_b21 S l1 l2 l3 = some (r1, S1) → mG D cI cJ cZ ad A H0 H locs S → lv_has ls 4 [(0, .ref (ad 0)), (1, .int l1), (2, .int l2), (3, .int l3)] → W p l e { frames := 3, cells := 0, slots := 0, locals := 43 } s m args below meth c H locs 0 0 Q (F0 m 21 ls [.ref (ad 0)]) := by
  have hx := E.1
  have hb := E.2.1
  have hts := E.2.2.1
  have hown := E.2.2.2.1
  have hK := E.2.2.2.2.1
  intro S H locs ls l1 l2 l3 h G hl
  unfold fr_correlation_b21 at h
  refine lv_iconst (v := 0) hx hb dX12_correlation_21 (by decide) ?_
  have hl := lv_sub hl [0, 1, 2, 3] rfl
  exact tr_correlation_b22 E hA hR hml kr29 kr54 _ _ _ _ _ _ _ _ h G hl
def fr_correlation (S : MS) (a0 : Int32) (a1 : Int32) (a2 : Int32) : Option (Int64 × MS) := obind2 (fr_isMic S a0) fun r5 S2 => if r5 = 0 then (fr_correlation_b21 S2 a0 a1 a2) else (obind2 (fr_isMic S2 a1) fun r10 S7 => if r10 = 0 then (fr_correlation_b21 S7 a0 a1 a2) else (fr_correlation_b22 S7 1 a0 a1 a2))
set_option maxHeartbeats 4000000 in
set_option maxRecDepth 100000 in
theorem tr_correlation (l : Launch) (D : va_G) (cI cJ cZ : ClassId) (ad : Nat → Nat) (S : MS) (a0 : Int32) (a1 : Int32) (a2 : Int32) {r1 : Int64} {S1 : MS} (h : fr_correlation S a0 a1 a2 = some (r1, S1)) : mCl l yX12_correlation (Cond.code yX12_correlation cX12_correlation 4 (some .long) :: wsM) 3 43 D cI cJ cZ ad S [.int a0, .int a1, .int a2] (fun r S9 => r = r1 ∧ S9 = S1) := by
  intro sz
  refine Met.ofW (cc := cX12_correlation) (maxL := 4) (ret := (some .long)) (by decide) rfl ?_
  intro p e s m args below meth c s₁ B hml hv
  obtain ⟨rfl, hsz, hP, hK, hD0, hR⟩ := hv
  have hx := B.exec
  have hb := B.bytes
  have hr := B.returns
  have hts := atoms_spec (ws := (Cond.code yX12_correlation cX12_correlation 4 (some .long) :: wsM)) B.pre
  have hown : s.vm.findClass RX12 = some m.cls := findClass_of_methodNamed B.named
  have hlocks := B.notSynchronized
  subst hsz
  have hD := hD0.self (sz := s.heap.size)
  generalize hAe : va_A (MW cI cJ cZ ad S) s.heap.size = A at hD ⊢
  have hA : ∀ q : Nat, s.heap.size ≤ q → A q := fun q h => by rw [← hAe]; exact Or.inr h
  have G : mG D cI cJ cZ ad A s.heap s.heap [] S := ⟨hP, hD, va_S.rf⟩
  have E : mE p c cX12_correlation s m ([.ref (ad 0), .int a0, .int a1, .int a2] : List Value).toArray (Cond.code yX12_correlation cX12_correlation 4 (some .long) :: wsM) D cI cJ cZ := ⟨hx, hb, hts, hown, hK, fun w h => .tail _ (iM_x h)⟩
  have hl := lv_entry ([.ref (ad 0), .int a0, .int a1, .int a2]) (n := 4) (Nat.le_of_ble_eq_true rfl)
  rw [lg_entry_eq]
  generalize (lg_sl ([.ref (ad 0), .int a0, .int a1, .int a2]) ++ List.replicate (4 - (lg_sl ([.ref (ad 0), .int a0, .int a1, .int a2])).length) Slot.unset).toArray = ls at hl ⊢
  have hl : lv_has ls 4 [(0, .ref (ad 0)), (1, .int a0), (2, .int a1), (3, .int a2)] := hl
  unfold fr_correlation at h
  refine lv_aload_n hx hb dX12_correlation_0 rfl (lv_at hl 0 rfl) ?_
  refine lv_aload_n hx hb dX12_correlation_1 rfl (lv_at hl 0 rfl) ?_
  refine lv_iload_n hx hb dX12_correlation_2 rfl (lv_at hl 1 rfl) ?_
  obtain ⟨r5, S2, eS2, h⟩ := obind2_some h
  refine m_calli (As := [.int a0]) (rest := [.ref (ad 0)]) E G hA hR hml (tr_isMic l D cI cJ cZ ad S a0 eS2) (cwV 1 hts (gmV qM_316 qM_317 qM_318 qM_35 qM_306) rfl rfl rfl (by decide +kernel) ⟨Nat.le_of_ble_eq_true rfl, Nat.le_of_ble_eq_true rfl⟩) rfl hl.1 rfl (lv_room (Nat.le_of_ble_eq_true rfl)) dX12_correlation_3 ⟨Nat.zero_le _, Nat.zero_le _⟩ (fun q3 S4 H locs hq G => ?_)
  obtain ⟨hq1, hq2⟩ := hq
  rw [hq2] at G
  refine lv_to hq1 ?_
  clear hq1 hq2 eS2
  refine lv_if_eq (tgt := 21) hx hb dX12_correlation_6 (by decide) (fun c6 => ?_) (fun c6 => ?_)
  · have h := oif_pos c6 h
    have hl := lv_sub hl [0, 1, 2, 3] rfl
    exact tr_correlation_b21 E hA hR hml (fun H locs ls G => W.lret (v := r1) hx hb hr (fun t ht hW => ⟨⟨r1, S1, rfl, ⟨rfl, rfl⟩, ⟨by rw [ht]; exact G.1, va_K.moved hW.alike hK, G.2.1⟩⟩, G.2.2.F ht⟩) G.2.2.2.2 dX12_correlation_29) (fun H locs ls G => W.lret (v := r1) hx hb hr (fun t ht hW => ⟨⟨r1, S1, rfl, ⟨rfl, rfl⟩, ⟨by rw [ht]; exact G.1, va_K.moved hW.alike hK, G.2.1⟩⟩, G.2.2.F ht⟩) G.2.2.2.2 dX12_correlation_54) _ _ _ _ _ _ _ h G hl
  · have h := oif_neg c6 h
    refine lv_aload_n hx hb dX12_correlation_9 rfl (lv_at hl 0 rfl) ?_
    refine lv_iload_n hx hb dX12_correlation_10 rfl (lv_at hl 2 rfl) ?_
    obtain ⟨r10, S7, eS7, h⟩ := obind2_some h
    refine m_calli (As := [.int a1]) (rest := [.ref (ad 0)]) E G hA hR hml (tr_isMic l D cI cJ cZ ad S2 a1 eS7) (cwV 1 hts (gmV qM_316 qM_317 qM_318 qM_35 qM_306) rfl rfl rfl (by decide +kernel) ⟨Nat.le_of_ble_eq_true rfl, Nat.le_of_ble_eq_true rfl⟩) rfl hl.1 rfl (lv_room (Nat.le_of_ble_eq_true rfl)) dX12_correlation_11 ⟨Nat.zero_le _, Nat.zero_le _⟩ (fun q8 S9 H locs hq G => ?_)
    obtain ⟨hq1, hq2⟩ := hq
    rw [hq2] at G
    refine lv_to hq1 ?_
    clear hq1 hq2 eS7
    refine lv_if_eq (tgt := 21) hx hb dX12_correlation_14 (by decide) (fun c11 => ?_) (fun c11 => ?_)
    · have h := oif_pos c11 h
      have hl := lv_sub hl [0, 1, 2, 3] rfl
      exact tr_correlation_b21 E hA hR hml (fun H locs ls G => W.lret (v := r1) hx hb hr (fun t ht hW => ⟨⟨r1, S1, rfl, ⟨rfl, rfl⟩, ⟨by rw [ht]; exact G.1, va_K.moved hW.alike hK, G.2.1⟩⟩, G.2.2.F ht⟩) G.2.2.2.2 dX12_correlation_29) (fun H locs ls G => W.lret (v := r1) hx hb hr (fun t ht hW => ⟨⟨r1, S1, rfl, ⟨rfl, rfl⟩, ⟨by rw [ht]; exact G.1, va_K.moved hW.alike hK, G.2.1⟩⟩, G.2.2.F ht⟩) G.2.2.2.2 dX12_correlation_54) _ _ _ _ _ _ _ h G hl
    · have h := oif_neg c11 h
      refine lv_iconst (v := 1) hx hb dX12_correlation_17 (by decide) ?_
      refine lv_goto (tgt := 22) hx hb dX12_correlation_18 (by decide) ?_
      have hl := lv_sub hl [0, 1, 2, 3] rfl
      exact tr_correlation_b22 E hA hR hml (fun H locs ls G => W.lret (v := r1) hx hb hr (fun t ht hW => ⟨⟨r1, S1, rfl, ⟨rfl, rfl⟩, ⟨by rw [ht]; exact G.1, va_K.moved hW.alike hK, G.2.1⟩⟩, G.2.2.F ht⟩) G.2.2.2.2 dX12_correlation_29) (fun H locs ls G => W.lret (v := r1) hx hb hr (fun t ht hW => ⟨⟨r1, S1, rfl, ⟨rfl, rfl⟩, ⟨by rw [ht]; exact G.1, va_K.moved hW.alike hK, G.2.1⟩⟩, G.2.2.F ht⟩) G.2.2.2.2 dX12_correlation_54) _ _ _ _ _ _ _ _ h G hl
end
section
/-! 11i.dec7.lean.txt -/
def fr_bestLag_b83 (k50 : MS → Int32 → Int32 → Int32 → Int32 → Int32 → Option (Int32 × MS)) (S : MS) (s0 : Int32) (l1 : Int32) (l2 : Int32) (l3 : Int32) (l5 : Int32) : Option (Int32 × MS) := elet (l5 + Int32.ofInt (1)) fun v2 => k50 S l1 l2 l3 s0 v2
set_option maxHeartbeats 4000000 in
set_option maxRecDepth 100000 in
theorem tr_bestLag_b83 {p : Program} {l : Launch} {e : Env} {s : State} {m : MethodId} {args : Array Value} {below : List Frame} {meth : Method} {c : Code} {Q : State → Prop} {D : va_G} {A : Nat → Prop} {H0 : Heap} {cI cJ cZ : ClassId} {ad : Nat → Nat} {r1 : Int32} {S1 : MS} (E : mE p c cX12_bestLag s m args (Cond.code yX12_bestLag cX12_bestLag 6 (some .int) :: wsM) D cI cJ cZ) (hA : ∀ q : Nat, H0.size ≤ q → A q) (hR : sR s) (hml : c.maxLocals = 6) (kr29 : ∀ (H : Heap) (locs : List Loc) (ls : Array Slot), mG D cI cJ cZ ad A H0 H locs S1 → W p l e { frames := 3, cells := 0, slots := 0, locals := 43 } s m args below meth c H locs 0 0 Q (F0 m 29 ls [.int r1])) (kr43 : ∀ (H : Heap) (locs : List Loc) (ls : Array Slot), mG D cI cJ cZ ad A H0 H locs S1 → W p l e { frames := 3, cells := 0, slots := 0, locals := 43 } s m args below meth c H locs 0 0 Q (F0 m 43 ls [.int r1])) (kr93 : ∀ (H : Heap) (locs : List Loc) (ls : Array Slot), mG D cI cJ cZ ad A H0 H locs S1 → W p l e { frames := 3, cells := 0, slots := 0, locals := 43 } s m args below meth c H locs 0 0 Q (F0 m 93 ls [.int r1])) {k50 : MS → Int32 → Int32 → Int32 → Int32 → Int32 → Option (Int32 × MS)} (hk50 : ∀ (S : MS) (H : Heap) (locs : List Loc) (ls : Array Slot) (l1 : Int32) (l2 : Int32) (l3 : Int32) (l4 : Int32) (l5 : Int32), k50 S l1 l2 l3 l4 l5 = some (r1, S1) → mG D cI cJ cZ ad A H0 H locs S → lv_has ls 6 [(0, .ref (ad 0)), (1, .int l1), (2, .int l2), (3, .int l3), (4, .int l4), (5, .int l5)] → W p l e { frames := 3, cells := 0, slots := 0, locals := 43 } s m args below meth c H locs 0 0 Q (F0 m 50 ls [])) : ∀ (S : MS) (H : Heap) (locs : List Loc) (ls : Array Slot) (s0 : Int32) (l1 : Int32) (l2 : Int32) (l3 : Int32) (l5 : Int32), fr_bestLag_b83 k50 S s0 l1 l2 l3 l5 = some (r1, S1) → mG D cI cJ cZ ad A H0 H locs S → lv_has ls 6 [(0, .ref (ad 0)), (1, .int l1), (2, .int l2), (3, .int l3), (5, .int l5)] → W p l e { frames := 3, cells := 0, slots := 0, locals := 43 } s m args below meth c H locs 0 0 Q (F0 m 83 ls [.int s0]) := by
  have hx := E.1
  have hb := E.2.1
  have hts := E.2.2.1
  have hown := E.2.2.2.1
  have hK := E.2.2.2.2.1
  intro S H locs ls s0 l1 l2 l3 l5 h G hl
  unfold fr_bestLag_b83 at h
  refine lv_istore (lv' := [(4, .int s0), (0, .ref (ad 0)), (1, .int l1), (2, .int l2), (3, .int l3), (5, .int l5)]) hx hb dX12_bestLag_83 hl (by decide) rfl (fun ls hl => ?_)
  obtain ⟨v2, ev2, h⟩ := elet_some h
  refine lv_iinc (v := v2) (lv' := [(5, .int v2), (4, .int s0), (0, .ref (ad 0)), (1, .int l1), (2, .int l2), (3, .int l3)]) hx hb dX12_bestLag_85 hl (k := 5) rfl ev2.symm (by decide) rfl (fun ls hl => ?_)
  refine lv_goto (tgt := 50) hx hb dX12_bestLag_88 (by decide) ?_
  have hl := lv_sub hl [2, 3, 4, 5, 1, 0] rfl
  exact hk50 _ _ _ _ _ _ _ _ _ h G hl
def fr_bestLag_b50  : Nat → MS → Int32 → Int32 → Int32 → Int32 → Int32 → Option (Int32 × MS)
  | 0, _, _, _, _, _, _ => none
  | n + 1, S, l1, l2, l3, l4, l5 => if l3 < l5 then (some (l4, S)) else (obind2 (fr_together S l1 l2 l5) fun r6 S3 => obind2 (fr_together S3 l1 l2 l4) fun r10 S7 => elet (lg_cmp r6 r10) fun v11 => if v11 ≤ 0 then (fr_bestLag_b83 (fr_bestLag_b50 n) S7 l4 l1 l2 l3 l5) else (fr_bestLag_b83 (fr_bestLag_b50 n) S7 l5 l1 l2 l3 l5))
set_option maxHeartbeats 4000000 in
set_option maxRecDepth 100000 in
theorem tr_bestLag_b50 {p : Program} {l : Launch} {e : Env} {s : State} {m : MethodId} {args : Array Value} {below : List Frame} {meth : Method} {c : Code} {Q : State → Prop} {D : va_G} {A : Nat → Prop} {H0 : Heap} {cI cJ cZ : ClassId} {ad : Nat → Nat} {r1 : Int32} {S1 : MS} (E : mE p c cX12_bestLag s m args (Cond.code yX12_bestLag cX12_bestLag 6 (some .int) :: wsM) D cI cJ cZ) (hA : ∀ q : Nat, H0.size ≤ q → A q) (hR : sR s) (hml : c.maxLocals = 6) (kr29 : ∀ (H : Heap) (locs : List Loc) (ls : Array Slot), mG D cI cJ cZ ad A H0 H locs S1 → W p l e { frames := 3, cells := 0, slots := 0, locals := 43 } s m args below meth c H locs 0 0 Q (F0 m 29 ls [.int r1])) (kr43 : ∀ (H : Heap) (locs : List Loc) (ls : Array Slot), mG D cI cJ cZ ad A H0 H locs S1 → W p l e { frames := 3, cells := 0, slots := 0, locals := 43 } s m args below meth c H locs 0 0 Q (F0 m 43 ls [.int r1])) (kr93 : ∀ (H : Heap) (locs : List Loc) (ls : Array Slot), mG D cI cJ cZ ad A H0 H locs S1 → W p l e { frames := 3, cells := 0, slots := 0, locals := 43 } s m args below meth c H locs 0 0 Q (F0 m 93 ls [.int r1])) : ∀ n : Nat, ∀ (S : MS) (H : Heap) (locs : List Loc) (ls : Array Slot) (l1 : Int32) (l2 : Int32) (l3 : Int32) (l4 : Int32) (l5 : Int32), fr_bestLag_b50 n S l1 l2 l3 l4 l5 = some (r1, S1) → mG D cI cJ cZ ad A H0 H locs S → lv_has ls 6 [(0, .ref (ad 0)), (1, .int l1), (2, .int l2), (3, .int l3), (4, .int l4), (5, .int l5)] → W p l e { frames := 3, cells := 0, slots := 0, locals := 43 } s m args below meth c H locs 0 0 Q (F0 m 50 ls []) := by
  have hx := E.1
  have hb := E.2.1
  have hts := E.2.2.1
  have hown := E.2.2.2.1
  have hK := E.2.2.2.2.1
  intro n
  induction n with
  | zero =>
    intro S H locs ls l1 l2 l3 l4 l5 h
    have h : (none : Option (Int32 × MS)) = some (r1, S1) := h
    cases h
  | succ n ih =>
    intro S H locs ls l1 l2 l3 l4 l5 h G hl
    unfold fr_bestLag_b50 at h
    refine lv_iload hx hb dX12_bestLag_50 (lv_at hl 5 rfl) ?_
    refine lv_iload_n hx hb dX12_bestLag_52 rfl (lv_at hl 3 rfl) ?_
    refine lv_icmp_gt (tgt := 91) hx hb dX12_bestLag_53 (by decide) (fun c2 => ?_) (fun c2 => ?_)
    · have h := oif_pos c2 h
      refine lv_iload hx hb dX12_bestLag_91 (lv_at hl 4 rfl) ?_
      rw [(osome2 h).2] at G
      refine lv_to (osome2 h).1 ?_
      exact kr93 _ _ _ G
    · have h := oif_neg c2 h
      refine lv_aload_n hx hb dX12_bestLag_56 rfl (lv_at hl 0 rfl) ?_
      refine lv_iload_n hx hb dX12_bestLag_57 rfl (lv_at hl 1 rfl) ?_
      refine lv_iload_n hx hb dX12_bestLag_58 rfl (lv_at hl 2 rfl) ?_
      refine lv_iload hx hb dX12_bestLag_59 (lv_at hl 5 rfl) ?_
      obtain ⟨r6, S3, eS3, h⟩ := obind2_some h
      refine m_calll (As := [.int l1, .int l2, .int l5]) (rest := []) E G hA hR hml (tr_together l D cI cJ cZ ad S l1 l2 l5 eS3) (cwV 3 hts (gmV qM_458 qM_459 qM_460 qM_35 qM_456) rfl rfl rfl (by decide +kernel) ⟨Nat.le_of_ble_eq_true rfl, Nat.le_of_ble_eq_true rfl⟩) rfl hl.1 rfl (lv_room (Nat.le_of_ble_eq_true rfl)) dX12_bestLag_61 ⟨Nat.zero_le _, Nat.zero_le _⟩ (fun q4 S5 H locs hq G => ?_)
      obtain ⟨hq1, hq2⟩ := hq
      rw [hq2] at G
      refine lv_tol hq1 ?_
      clear hq1 hq2 eS3
      refine lv_aload_n hx hb dX12_bestLag_64 rfl (lv_at hl 0 rfl) ?_
      refine lv_iload_n hx hb dX12_bestLag_65 rfl (lv_at hl 1 rfl) ?_
      refine lv_iload_n hx hb dX12_bestLag_66 rfl (lv_at hl 2 rfl) ?_
      refine lv_iload hx hb dX12_bestLag_67 (lv_at hl 4 rfl) ?_
      obtain ⟨r10, S7, eS7, h⟩ := obind2_some h
      refine m_calll (As := [.int l1, .int l2, .int l4]) (rest := [.long r6]) E G hA hR hml (tr_together l D cI cJ cZ ad S3 l1 l2 l4 eS7) (cwV 3 hts (gmV qM_458 qM_459 qM_460 qM_35 qM_456) rfl rfl rfl (by decide +kernel) ⟨Nat.le_of_ble_eq_true rfl, Nat.le_of_ble_eq_true rfl⟩) rfl hl.1 rfl (lv_room (Nat.le_of_ble_eq_true rfl)) dX12_bestLag_69 ⟨Nat.zero_le _, Nat.zero_le _⟩ (fun q8 S9 H locs hq G => ?_)
      obtain ⟨hq1, hq2⟩ := hq
      rw [hq2] at G
      refine lv_tol hq1 ?_
      clear hq1 hq2 eS7
      refine W.lcmp hx hb dX12_bestLag_72 ?_
      refine lv_topi (fun v11 ev11 => ?_)
      have h := elet_at ev11 h
      clear ev11
      refine lv_if_le (tgt := 81) hx hb dX12_bestLag_73 (by decide) (fun c12 => ?_) (fun c12 => ?_)
      · have h := oif_pos c12 h
        refine lv_iload hx hb dX12_bestLag_81 (lv_at hl 4 rfl) ?_
        have hl := lv_sub hl [0, 1, 2, 3, 5] rfl
        exact tr_bestLag_b83 E hA hR hml kr29 kr43 kr93 ih _ _ _ _ _ _ _ _ _ h G hl
      · have h := oif_neg c12 h
        refine lv_iload hx hb dX12_bestLag_76 (lv_at hl 5 rfl) ?_
        refine lv_goto (tgt := 83) hx hb dX12_bestLag_78 (by decide) ?_
        have hl := lv_sub hl [0, 1, 2, 3, 5] rfl
        exact tr_bestLag_b83 E hA hR hml kr29 kr43 kr93 ih _ _ _ _ _ _ _ _ _ h G hl
def fr_bestLag_b22  (S : MS) (s0 : Int32) (l1 : Int32) (l2 : Int32) (l3 : Int32) : Option (Int32 × MS) := obind2 (fr_mayAsk S s0) fun r5 S2 => if r5 = 0 then (some (0, S2)) else (obind2 (fr_isTime S2 l3) fun r10 S7 => if r10 = 0 then (obind2 (fr_throwsAt S7 3) fun r15 S12 => some (r15, S12)) else (fr_bestLag_b50 16384 S7 l1 l2 l3 0 1))
set_option maxHeartbeats 4000000 in
set_option maxRecDepth 100000 in
theorem tr_bestLag_b22 {p : Program} {l : Launch} {e : Env} {s : State} {m : MethodId} {args : Array Value} {below : List Frame} {meth : Method} {c : Code} {Q : State → Prop} {D : va_G} {A : Nat → Prop} {H0 : Heap} {cI cJ cZ : ClassId} {ad : Nat → Nat} {r1 : Int32} {S1 : MS} (E : mE p c cX12_bestLag s m args (Cond.code yX12_bestLag cX12_bestLag 6 (some .int) :: wsM) D cI cJ cZ) (hA : ∀ q : Nat, H0.size ≤ q → A q) (hR : sR s) (hml : c.maxLocals = 6) (kr29 : ∀ (H : Heap) (locs : List Loc) (ls : Array Slot), mG D cI cJ cZ ad A H0 H locs S1 → W p l e { frames := 3, cells := 0, slots := 0, locals := 43 } s m args below meth c H locs 0 0 Q (F0 m 29 ls [.int r1])) (kr43 : ∀ (H : Heap) (locs : List Loc) (ls : Array Slot), mG D cI cJ cZ ad A H0 H locs S1 → W p l e { frames := 3, cells := 0, slots := 0, locals := 43 } s m args below meth c H locs 0 0 Q (F0 m 43 ls [.int r1])) (kr93 : ∀ (H : Heap) (locs : List Loc) (ls : Array Slot), mG D cI cJ cZ ad A H0 H locs S1 → W p l e { frames := 3, cells := 0, slots := 0, locals := 43 } s m args below meth c H locs 0 0 Q (F0 m 93 ls [.int r1])) : ∀ (S : MS) (H : Heap) (locs : List Loc) (ls : Array Slot) (s0 : Int32) (l1 : Int32) (l2 : Int32) (l3 : Int32), fr_bestLag_b22 S s0 l1 l2 l3 = some (r1, S1) → mG D cI cJ cZ ad A H0 H locs S → lv_has ls 6 [(0, .ref (ad 0)), (1, .int l1), (2, .int l2), (3, .int l3)] → W p l e { frames := 3, cells := 0, slots := 0, locals := 43 } s m args below meth c H locs 0 0 Q (F0 m 22 ls [.int s0, .ref (ad 0)]) := by
  have hx := E.1
  have hb := E.2.1
  have hts := E.2.2.1
  have hown := E.2.2.2.1
  have hK := E.2.2.2.2.1
  intro S H locs ls s0 l1 l2 l3 h G hl
  unfold fr_bestLag_b22 at h
  obtain ⟨r5, S2, eS2, h⟩ := obind2_some h
  refine m_calli (As := [.int s0]) (rest := []) E G hA hR hml (tr_mayAsk l D cI cJ cZ ad S s0 eS2) (cwV 1 hts (gmV qM_319 qM_320 qM_321 qM_35 qM_304) rfl rfl rfl (by decide +kernel) ⟨Nat.le_of_ble_eq_true rfl, Nat.le_of_ble_eq_true rfl⟩) rfl hl.1 rfl (lv_room (Nat.le_of_ble_eq_true rfl)) dX12_bestLag_22 ⟨Nat.zero_le _, Nat.zero_le _⟩ (fun q3 S4 H locs hq G => ?_)
  obtain ⟨hq1, hq2⟩ := hq
  rw [hq2] at G
  refine lv_to hq1 ?_
  clear hq1 hq2 eS2
  refine lv_if_ne (tgt := 30) hx hb dX12_bestLag_25 (by decide) (fun c6 => ?_) (fun c6 => ?_)
  · have h := oif_neg c6 h
    refine lv_aload_n hx hb dX12_bestLag_30 rfl (lv_at hl 0 rfl) ?_
    refine lv_iload_n hx hb dX12_bestLag_31 rfl (lv_at hl 3 rfl) ?_
    obtain ⟨r10, S7, eS7, h⟩ := obind2_some h
    refine m_calli (As := [.int l3]) (rest := []) E G hA hR hml (tr_isTime l D cI cJ cZ ad S2 l3 eS7) (cwV 1 hts (gmV qM_334 qM_335 qM_336 qM_35 qM_309) rfl rfl rfl (by decide +kernel) ⟨Nat.le_of_ble_eq_true rfl, Nat.le_of_ble_eq_true rfl⟩) rfl hl.1 rfl (lv_room (Nat.le_of_ble_eq_true rfl)) dX12_bestLag_32 ⟨Nat.zero_le _, Nat.zero_le _⟩ (fun q8 S9 H locs hq G => ?_)
    obtain ⟨hq1, hq2⟩ := hq
    rw [hq2] at G
    refine lv_to hq1 ?_
    clear hq1 hq2 eS7
    refine lv_if_ne (tgt := 44) hx hb dX12_bestLag_35 (by decide) (fun c11 => ?_) (fun c11 => ?_)
    · have h := oif_neg c11 h
      refine lv_iconst (v := 0) hx hb dX12_bestLag_44 (by decide) ?_
      refine lv_istore (lv' := [(4, .int 0), (0, .ref (ad 0)), (1, .int l1), (2, .int l2), (3, .int l3)]) hx hb dX12_bestLag_45 hl (by decide) rfl (fun ls hl => ?_)
      refine lv_iconst (v := 1) hx hb dX12_bestLag_47 (by decide) ?_
      refine lv_istore (lv' := [(5, .int 1), (4, .int 0), (0, .ref (ad 0)), (1, .int l1), (2, .int l2), (3, .int l3)]) hx hb dX12_bestLag_48 hl (by decide) rfl (fun ls hl => ?_)
      have hl := lv_sub hl [2, 3, 4, 5, 1, 0] rfl
      exact tr_bestLag_b50 E hA hR hml kr29 kr43 kr93 _ _ _ _ _ _ _ _ _ _ h G hl
    · have h := oif_pos c11 h
      refine lv_aload_n hx hb dX12_bestLag_38 rfl (lv_at hl 0 rfl) ?_
      refine lv_iconst (v := 3) hx hb dX12_bestLag_39 (by decide) ?_
      obtain ⟨r15, S12, eS12, h⟩ := obind2_some h
      refine m_calli (As := [.int 3]) (rest := []) E G hA hR hml (tr_throwsAt l D cI cJ cZ ad S7 3 eS12) (cwV 1 hts (gmV qM_195 qM_196 qM_197 qM_35 qM_28) rfl rfl rfl (by decide +kernel) ⟨Nat.le_of_ble_eq_true rfl, Nat.le_of_ble_eq_true rfl⟩) rfl hl.1 rfl (lv_room (Nat.le_of_ble_eq_true rfl)) dX12_bestLag_40 ⟨Nat.zero_le _, Nat.zero_le _⟩ (fun q13 S14 H locs hq G => ?_)
      obtain ⟨hq1, hq2⟩ := hq
      rw [hq2] at G
      refine lv_to hq1 ?_
      clear hq1 hq2 eS12
      rw [(osome2 h).2] at G
      refine lv_to (osome2 h).1 ?_
      exact kr43 _ _ _ G
  · have h := oif_pos c6 h
    refine lv_iconst (v := 0) hx hb dX12_bestLag_28 (by decide) ?_
    rw [(osome2 h).2] at G
    refine lv_to (osome2 h).1 ?_
    exact kr29 _ _ _ G
def fr_bestLag_b21  (S : MS) (l1 : Int32) (l2 : Int32) (l3 : Int32) : Option (Int32 × MS) := fr_bestLag_b22 S 0 l1 l2 l3
set_option maxHeartbeats 4000000 in
set_option maxRecDepth 100000 in
theorem tr_bestLag_b21 {p : Program} {l : Launch} {e : Env} {s : State} {m : MethodId} {args : Array Value} {below : List Frame} {meth : Method} {c : Code} {Q : State → Prop} {D : va_G} {A : Nat → Prop} {H0 : Heap} {cI cJ cZ : ClassId} {ad : Nat → Nat} {r1 : Int32} {S1 : MS} (E : mE p c cX12_bestLag s m args (Cond.code yX12_bestLag cX12_bestLag 6 (some .int) :: wsM) D cI cJ cZ) (hA : ∀ q : Nat, H0.size ≤ q → A q) (hR : sR s) (hml : c.maxLocals = 6) (kr29 : ∀ (H : Heap) (locs : List Loc) (ls : Array Slot), mG D cI cJ cZ ad A H0 H locs S1 → W p l e { frames := 3, cells := 0, slots := 0, locals := 43 } s m args below meth c H locs 0 0 Q (F0 m 29 ls [.int r1])) (kr43 : ∀ (H : Heap) (locs : List Loc) (ls : Array Slot), mG D cI cJ cZ ad A H0 H locs S1 → W p l e { frames := 3, cells := 0, slots := 0, locals := 43 } s m args below meth c H locs 0 0 Q (F0 m 43 ls [.int r1])) (kr93 : ∀ (H : Heap) (locs : List Loc) (ls : Array Slot), mG D cI cJ cZ ad A H0 H locs S1 → W p l e { frames := 3, cells := 0, slots := 0, locals := 43 } s m args below meth c H locs 0 0 Q (F0 m 93 ls [.int r1])) : ∀ (S : MS) (H : Heap) (locs : List Loc) (ls : Array Slot) (l1 : Int32) (l2 : Int32) (l3 : Int32), fr_bestLag_b21 S l1 l2 l3 = some (r1, S1) → mG D cI cJ cZ ad A H0 H locs S → lv_has ls 6 [(0, .ref (ad 0)), (1, .int l1), (2, .int l2), (3, .int l3)] → W p l e { frames := 3, cells := 0, slots := 0, locals := 43 } s m args below meth c H locs 0 0 Q (F0 m 21 ls [.ref (ad 0)]) := by
  have hx := E.1
  have hb := E.2.1
  have hts := E.2.2.1
  have hown := E.2.2.2.1
  have hK := E.2.2.2.2.1
  intro S H locs ls l1 l2 l3 h G hl
  unfold fr_bestLag_b21 at h
  refine lv_iconst (v := 0) hx hb dX12_bestLag_21 (by decide) ?_
  have hl := lv_sub hl [0, 1, 2, 3] rfl
  exact tr_bestLag_b22 E hA hR hml kr29 kr43 kr93 _ _ _ _ _ _ _ _ h G hl
def fr_bestLag (S : MS) (a0 : Int32) (a1 : Int32) (a2 : Int32) : Option (Int32 × MS) := obind2 (fr_isMic S a0) fun r5 S2 => if r5 = 0 then (fr_bestLag_b21 S2 a0 a1 a2) else (obind2 (fr_isMic S2 a1) fun r10 S7 => if r10 = 0 then (fr_bestLag_b21 S7 a0 a1 a2) else (fr_bestLag_b22 S7 1 a0 a1 a2))
set_option maxHeartbeats 4000000 in
set_option maxRecDepth 100000 in
theorem tr_bestLag (l : Launch) (D : va_G) (cI cJ cZ : ClassId) (ad : Nat → Nat) (S : MS) (a0 : Int32) (a1 : Int32) (a2 : Int32) {r1 : Int32} {S1 : MS} (h : fr_bestLag S a0 a1 a2 = some (r1, S1)) : mCi l yX12_bestLag (Cond.code yX12_bestLag cX12_bestLag 6 (some .int) :: wsM) 3 43 D cI cJ cZ ad S [.int a0, .int a1, .int a2] (fun r S9 => r = r1 ∧ S9 = S1) := by
  intro sz
  refine Met.ofW (cc := cX12_bestLag) (maxL := 6) (ret := (some .int)) (by decide) rfl ?_
  intro p e s m args below meth c s₁ B hml hv
  obtain ⟨rfl, hsz, hP, hK, hD0, hR⟩ := hv
  have hx := B.exec
  have hb := B.bytes
  have hr := B.returns
  have hts := atoms_spec (ws := (Cond.code yX12_bestLag cX12_bestLag 6 (some .int) :: wsM)) B.pre
  have hown : s.vm.findClass RX12 = some m.cls := findClass_of_methodNamed B.named
  have hlocks := B.notSynchronized
  subst hsz
  have hD := hD0.self (sz := s.heap.size)
  generalize hAe : va_A (MW cI cJ cZ ad S) s.heap.size = A at hD ⊢
  have hA : ∀ q : Nat, s.heap.size ≤ q → A q := fun q h => by rw [← hAe]; exact Or.inr h
  have G : mG D cI cJ cZ ad A s.heap s.heap [] S := ⟨hP, hD, va_S.rf⟩
  have E : mE p c cX12_bestLag s m ([.ref (ad 0), .int a0, .int a1, .int a2] : List Value).toArray (Cond.code yX12_bestLag cX12_bestLag 6 (some .int) :: wsM) D cI cJ cZ := ⟨hx, hb, hts, hown, hK, fun w h => .tail _ (iM_x h)⟩
  have hl := lv_entry ([.ref (ad 0), .int a0, .int a1, .int a2]) (n := 6) (Nat.le_of_ble_eq_true rfl)
  rw [lg_entry_eq]
  generalize (lg_sl ([.ref (ad 0), .int a0, .int a1, .int a2]) ++ List.replicate (6 - (lg_sl ([.ref (ad 0), .int a0, .int a1, .int a2])).length) Slot.unset).toArray = ls at hl ⊢
  have hl : lv_has ls 6 [(0, .ref (ad 0)), (1, .int a0), (2, .int a1), (3, .int a2)] := hl
  unfold fr_bestLag at h
  refine lv_aload_n hx hb dX12_bestLag_0 rfl (lv_at hl 0 rfl) ?_
  refine lv_aload_n hx hb dX12_bestLag_1 rfl (lv_at hl 0 rfl) ?_
  refine lv_iload_n hx hb dX12_bestLag_2 rfl (lv_at hl 1 rfl) ?_
  obtain ⟨r5, S2, eS2, h⟩ := obind2_some h
  refine m_calli (As := [.int a0]) (rest := [.ref (ad 0)]) E G hA hR hml (tr_isMic l D cI cJ cZ ad S a0 eS2) (cwV 1 hts (gmV qM_316 qM_317 qM_318 qM_35 qM_306) rfl rfl rfl (by decide +kernel) ⟨Nat.le_of_ble_eq_true rfl, Nat.le_of_ble_eq_true rfl⟩) rfl hl.1 rfl (lv_room (Nat.le_of_ble_eq_true rfl)) dX12_bestLag_3 ⟨Nat.zero_le _, Nat.zero_le _⟩ (fun q3 S4 H locs hq G => ?_)
  obtain ⟨hq1, hq2⟩ := hq
  rw [hq2] at G
  refine lv_to hq1 ?_
  clear hq1 hq2 eS2
  refine lv_if_eq (tgt := 21) hx hb dX12_bestLag_6 (by decide) (fun c6 => ?_) (fun c6 => ?_)
  · have h := oif_pos c6 h
    have hl := lv_sub hl [0, 1, 2, 3] rfl
    exact tr_bestLag_b21 E hA hR hml (fun H locs ls G => W.iret (v := r1) hx hb hr (fun t ht hW => ⟨⟨r1, S1, rfl, ⟨rfl, rfl⟩, ⟨by rw [ht]; exact G.1, va_K.moved hW.alike hK, G.2.1⟩⟩, G.2.2.F ht⟩) G.2.2.2.2 dX12_bestLag_29) (fun H locs ls G => W.iret (v := r1) hx hb hr (fun t ht hW => ⟨⟨r1, S1, rfl, ⟨rfl, rfl⟩, ⟨by rw [ht]; exact G.1, va_K.moved hW.alike hK, G.2.1⟩⟩, G.2.2.F ht⟩) G.2.2.2.2 dX12_bestLag_43) (fun H locs ls G => W.iret (v := r1) hx hb hr (fun t ht hW => ⟨⟨r1, S1, rfl, ⟨rfl, rfl⟩, ⟨by rw [ht]; exact G.1, va_K.moved hW.alike hK, G.2.1⟩⟩, G.2.2.F ht⟩) G.2.2.2.2 dX12_bestLag_93) _ _ _ _ _ _ _ h G hl
  · have h := oif_neg c6 h
    refine lv_aload_n hx hb dX12_bestLag_9 rfl (lv_at hl 0 rfl) ?_
    refine lv_iload_n hx hb dX12_bestLag_10 rfl (lv_at hl 2 rfl) ?_
    obtain ⟨r10, S7, eS7, h⟩ := obind2_some h
    refine m_calli (As := [.int a1]) (rest := [.ref (ad 0)]) E G hA hR hml (tr_isMic l D cI cJ cZ ad S2 a1 eS7) (cwV 1 hts (gmV qM_316 qM_317 qM_318 qM_35 qM_306) rfl rfl rfl (by decide +kernel) ⟨Nat.le_of_ble_eq_true rfl, Nat.le_of_ble_eq_true rfl⟩) rfl hl.1 rfl (lv_room (Nat.le_of_ble_eq_true rfl)) dX12_bestLag_11 ⟨Nat.zero_le _, Nat.zero_le _⟩ (fun q8 S9 H locs hq G => ?_)
    obtain ⟨hq1, hq2⟩ := hq
    rw [hq2] at G
    refine lv_to hq1 ?_
    clear hq1 hq2 eS7
    refine lv_if_eq (tgt := 21) hx hb dX12_bestLag_14 (by decide) (fun c11 => ?_) (fun c11 => ?_)
    · have h := oif_pos c11 h
      have hl := lv_sub hl [0, 1, 2, 3] rfl
      exact tr_bestLag_b21 E hA hR hml (fun H locs ls G => W.iret (v := r1) hx hb hr (fun t ht hW => ⟨⟨r1, S1, rfl, ⟨rfl, rfl⟩, ⟨by rw [ht]; exact G.1, va_K.moved hW.alike hK, G.2.1⟩⟩, G.2.2.F ht⟩) G.2.2.2.2 dX12_bestLag_29) (fun H locs ls G => W.iret (v := r1) hx hb hr (fun t ht hW => ⟨⟨r1, S1, rfl, ⟨rfl, rfl⟩, ⟨by rw [ht]; exact G.1, va_K.moved hW.alike hK, G.2.1⟩⟩, G.2.2.F ht⟩) G.2.2.2.2 dX12_bestLag_43) (fun H locs ls G => W.iret (v := r1) hx hb hr (fun t ht hW => ⟨⟨r1, S1, rfl, ⟨rfl, rfl⟩, ⟨by rw [ht]; exact G.1, va_K.moved hW.alike hK, G.2.1⟩⟩, G.2.2.F ht⟩) G.2.2.2.2 dX12_bestLag_93) _ _ _ _ _ _ _ h G hl
    · have h := oif_neg c11 h
      refine lv_iconst (v := 1) hx hb dX12_bestLag_17 (by decide) ?_
      refine lv_goto (tgt := 22) hx hb dX12_bestLag_18 (by decide) ?_
      have hl := lv_sub hl [0, 1, 2, 3] rfl
      exact tr_bestLag_b22 E hA hR hml (fun H locs ls G => W.iret (v := r1) hx hb hr (fun t ht hW => ⟨⟨r1, S1, rfl, ⟨rfl, rfl⟩, ⟨by rw [ht]; exact G.1, va_K.moved hW.alike hK, G.2.1⟩⟩, G.2.2.F ht⟩) G.2.2.2.2 dX12_bestLag_29) (fun H locs ls G => W.iret (v := r1) hx hb hr (fun t ht hW => ⟨⟨r1, S1, rfl, ⟨rfl, rfl⟩, ⟨by rw [ht]; exact G.1, va_K.moved hW.alike hK, G.2.1⟩⟩, G.2.2.F ht⟩) G.2.2.2.2 dX12_bestLag_43) (fun H locs ls G => W.iret (v := r1) hx hb hr (fun t ht hW => ⟨⟨r1, S1, rfl, ⟨rfl, rfl⟩, ⟨by rw [ht]; exact G.1, va_K.moved hW.alike hK, G.2.1⟩⟩, G.2.2.F ht⟩) G.2.2.2.2 dX12_bestLag_93) _ _ _ _ _ _ _ _ h G hl
def fr_levelOf (S : MS) (a0 : Int32) : Option (Int64 × MS) := obind2 (fr_together S a0 a0 0) fun r5 S2 => elet (S2.2.1 10 2) fun v6 => elet (v6.toInt64) fun v7 => oif (¬ v7 = 0) <| elet (r5 / v7) fun v9 => some (v9, S2)
set_option maxHeartbeats 4000000 in
set_option maxRecDepth 100000 in
theorem tr_levelOf (l : Launch) (D : va_G) (cI cJ cZ : ClassId) (ad : Nat → Nat) (S : MS) (a0 : Int32) {r1 : Int64} {S1 : MS} (h : fr_levelOf S a0 = some (r1, S1)) : mCl l yX12_levelOf (Cond.code yX12_levelOf cX12_levelOf 2 (some .long) :: wsM) 2 26 D cI cJ cZ ad S [.int a0] (fun r S9 => r = r1 ∧ S9 = S1) := by
  intro sz
  refine Met.ofW (cc := cX12_levelOf) (maxL := 2) (ret := (some .long)) (by decide) rfl ?_
  intro p e s m args below meth c s₁ B hml hv
  obtain ⟨rfl, hsz, hP, hK, hD0, hR⟩ := hv
  have hx := B.exec
  have hb := B.bytes
  have hr := B.returns
  have hts := atoms_spec (ws := (Cond.code yX12_levelOf cX12_levelOf 2 (some .long) :: wsM)) B.pre
  have hown : s.vm.findClass RX12 = some m.cls := findClass_of_methodNamed B.named
  have hlocks := B.notSynchronized
  subst hsz
  have hD := hD0.self (sz := s.heap.size)
  generalize hAe : va_A (MW cI cJ cZ ad S) s.heap.size = A at hD ⊢
  have hA : ∀ q : Nat, s.heap.size ≤ q → A q := fun q h => by rw [← hAe]; exact Or.inr h
  have G : mG D cI cJ cZ ad A s.heap s.heap [] S := ⟨hP, hD, va_S.rf⟩
  have E : mE p c cX12_levelOf s m ([.ref (ad 0), .int a0] : List Value).toArray (Cond.code yX12_levelOf cX12_levelOf 2 (some .long) :: wsM) D cI cJ cZ := ⟨hx, hb, hts, hown, hK, fun w h => .tail _ (iM_x h)⟩
  have hl := lv_entry ([.ref (ad 0), .int a0]) (n := 2) (Nat.le_of_ble_eq_true rfl)
  rw [lg_entry_eq]
  generalize (lg_sl ([.ref (ad 0), .int a0]) ++ List.replicate (2 - (lg_sl ([.ref (ad 0), .int a0])).length) Slot.unset).toArray = ls at hl ⊢
  have hl : lv_has ls 2 [(0, .ref (ad 0)), (1, .int a0)] := hl
  unfold fr_levelOf at h
  refine lv_aload_n hx hb dX12_levelOf_0 rfl (lv_at hl 0 rfl) ?_
  refine lv_iload_n hx hb dX12_levelOf_1 rfl (lv_at hl 1 rfl) ?_
  refine lv_iload_n hx hb dX12_levelOf_2 rfl (lv_at hl 1 rfl) ?_
  refine lv_iconst (v := 0) hx hb dX12_levelOf_3 (by decide) ?_
  obtain ⟨r5, S2, eS2, h⟩ := obind2_some h
  refine m_calll (As := [.int a0, .int a0, .int 0]) (rest := []) E G hA hR hml (tr_together l D cI cJ cZ ad S a0 a0 0 eS2) (cwV 3 hts (gmV qM_458 qM_459 qM_460 qM_35 qM_456) rfl rfl rfl (by decide +kernel) ⟨Nat.le_of_ble_eq_true rfl, Nat.le_of_ble_eq_true rfl⟩) rfl hl.1 rfl (lv_room (Nat.le_of_ble_eq_true rfl)) dX12_levelOf_4 ⟨Nat.zero_le _, Nat.zero_le _⟩ (fun q3 S4 H locs hq G => ?_)
  obtain ⟨hq1, hq2⟩ := hq
  rw [hq2] at G
  refine lv_tol hq1 ?_
  clear hq1 hq2 eS2
  refine lv_aload_n hx hb dX12_levelOf_7 rfl (lv_at hl 0 rfl) ?_
  refine m_get E G 10 (v := .ref (ad 10)) (by decide) (.tail _ qM_7) rfl dX12_levelOf_8 rfl ?_
  refine lv_iconst (v := 2) hx hb dX12_levelOf_11 (by decide) ?_
  refine m_iald E G 10 2 (n := 131) (k := 2) rfl rfl (by decide) (by decide) dX12_levelOf_12 ?_
  refine lv_topi (fun v6 ev6 => ?_)
  have h := elet_at ev6 h
  clear ev6
  refine lv_i2l (v := v6.toInt64) hx hb dX12_levelOf_13 rfl ?_
  refine lv_topl (fun v7 ev7 => ?_)
  have h := elet_at ev7 h
  clear ev7
  obtain ⟨g8, h⟩ := oif_some h
  refine lv_ldiv hx hb dX12_levelOf_14 g8 ?_
  refine lv_topl (fun v9 ev9 => ?_)
  have h := elet_at ev9 h
  clear ev9
  exact W.lret (v := v9) hx hb hr (fun t ht hW => ⟨⟨v9, S2, rfl, osome2 h, ⟨by rw [ht]; exact G.1, va_K.moved hW.alike hK, G.2.1⟩⟩, G.2.2.F ht⟩) G.2.2.2.2 dX12_levelOf_15
def fr_level_b21  (S : MS) (s0 : Int64) : Option (Int64 × MS) := some (s0, S)
set_option maxHeartbeats 4000000 in
set_option maxRecDepth 100000 in
theorem tr_level_b21 {p : Program} {l : Launch} {e : Env} {s : State} {m : MethodId} {args : Array Value} {below : List Frame} {meth : Method} {c : Code} {Q : State → Prop} {D : va_G} {A : Nat → Prop} {H0 : Heap} {cI cJ cZ : ClassId} {ad : Nat → Nat} {r1 : Int64} {S1 : MS} (E : mE p c cX12_level s m args (Cond.code yX12_level cX12_level 2 (some .long) :: wsM) D cI cJ cZ) (hA : ∀ q : Nat, H0.size ≤ q → A q) (hR : sR s) (hml : c.maxLocals = 2) (kr21 : ∀ (H : Heap) (locs : List Loc) (ls : Array Slot), mG D cI cJ cZ ad A H0 H locs S1 → W p l e { frames := 3, cells := 0, slots := 0, locals := 47 } s m args below meth c H locs 0 0 Q (F0 m 21 ls [.long r1])) : ∀ (S : MS) (H : Heap) (locs : List Loc) (ls : Array Slot) (s0 : Int64), fr_level_b21 S s0 = some (r1, S1) → mG D cI cJ cZ ad A H0 H locs S → lv_has ls 2 [] → W p l e { frames := 3, cells := 0, slots := 0, locals := 47 } s m args below meth c H locs 0 0 Q (F0 m 21 ls [.long s0]) := by
  have hx := E.1
  have hb := E.2.1
  have hts := E.2.2.1
  have hown := E.2.2.2.1
  have hK := E.2.2.2.2.1
  intro S H locs ls s0 h G hl
  unfold fr_level_b21 at h
  rw [(osome2 h).2] at G
  refine lv_tol (osome2 h).1 ?_
  exact kr21 _ _ _ G
def fr_level (S : MS) (a0 : Int32) : Option (Int64 × MS) := obind2 (fr_isMic S a0) fun r5 S2 => obind2 (fr_mayAsk S2 r5) fun r9 S6 => if r9 = 0 then (fr_level_b21 S6 (0 : Int64)) else (obind2 (fr_levelOf S6 a0) fun r14 S11 => fr_level_b21 S11 r14)
set_option maxHeartbeats 4000000 in
set_option maxRecDepth 100000 in
theorem tr_level (l : Launch) (D : va_G) (cI cJ cZ : ClassId) (ad : Nat → Nat) (S : MS) (a0 : Int32) {r1 : Int64} {S1 : MS} (h : fr_level S a0 = some (r1, S1)) : mCl l yX12_level (Cond.code yX12_level cX12_level 2 (some .long) :: wsM) 3 47 D cI cJ cZ ad S [.int a0] (fun r S9 => r = r1 ∧ S9 = S1) := by
  intro sz
  refine Met.ofW (cc := cX12_level) (maxL := 2) (ret := (some .long)) (by decide) rfl ?_
  intro p e s m args below meth c s₁ B hml hv
  obtain ⟨rfl, hsz, hP, hK, hD0, hR⟩ := hv
  have hx := B.exec
  have hb := B.bytes
  have hr := B.returns
  have hts := atoms_spec (ws := (Cond.code yX12_level cX12_level 2 (some .long) :: wsM)) B.pre
  have hown : s.vm.findClass RX12 = some m.cls := findClass_of_methodNamed B.named
  have hlocks := B.notSynchronized
  subst hsz
  have hD := hD0.self (sz := s.heap.size)
  generalize hAe : va_A (MW cI cJ cZ ad S) s.heap.size = A at hD ⊢
  have hA : ∀ q : Nat, s.heap.size ≤ q → A q := fun q h => by rw [← hAe]; exact Or.inr h
  have G : mG D cI cJ cZ ad A s.heap s.heap [] S := ⟨hP, hD, va_S.rf⟩
  have E : mE p c cX12_level s m ([.ref (ad 0), .int a0] : List Value).toArray (Cond.code yX12_level cX12_level 2 (some .long) :: wsM) D cI cJ cZ := ⟨hx, hb, hts, hown, hK, fun w h => .tail _ (iM_x h)⟩
  have hl := lv_entry ([.ref (ad 0), .int a0]) (n := 2) (Nat.le_of_ble_eq_true rfl)
  rw [lg_entry_eq]
  generalize (lg_sl ([.ref (ad 0), .int a0]) ++ List.replicate (2 - (lg_sl ([.ref (ad 0), .int a0])).length) Slot.unset).toArray = ls at hl ⊢
  have hl : lv_has ls 2 [(0, .ref (ad 0)), (1, .int a0)] := hl
  unfold fr_level at h
  refine lv_aload_n hx hb dX12_level_0 rfl (lv_at hl 0 rfl) ?_
  refine lv_aload_n hx hb dX12_level_1 rfl (lv_at hl 0 rfl) ?_
  refine lv_iload_n hx hb dX12_level_2 rfl (lv_at hl 1 rfl) ?_
  obtain ⟨r5, S2, eS2, h⟩ := obind2_some h
  refine m_calli (As := [.int a0]) (rest := [.ref (ad 0)]) E G hA hR hml (tr_isMic l D cI cJ cZ ad S a0 eS2) (cwV 1 hts (gmV qM_316 qM_317 qM_318 qM_35 qM_306) rfl rfl rfl (by decide +kernel) ⟨Nat.le_of_ble_eq_true rfl, Nat.le_of_ble_eq_true rfl⟩) rfl hl.1 rfl (lv_room (Nat.le_of_ble_eq_true rfl)) dX12_level_3 ⟨Nat.zero_le _, Nat.zero_le _⟩ (fun q3 S4 H locs hq G => ?_)
  obtain ⟨hq1, hq2⟩ := hq
  rw [hq2] at G
  refine lv_to hq1 ?_
  clear hq1 hq2 eS2
  obtain ⟨r9, S6, eS6, h⟩ := obind2_some h
  refine m_calli (As := [.int r5]) (rest := []) E G hA hR hml (tr_mayAsk l D cI cJ cZ ad S2 r5 eS6) (cwV 1 hts (gmV qM_319 qM_320 qM_321 qM_35 qM_304) rfl rfl rfl (by decide +kernel) ⟨Nat.le_of_ble_eq_true rfl, Nat.le_of_ble_eq_true rfl⟩) rfl hl.1 rfl (lv_room (Nat.le_of_ble_eq_true rfl)) dX12_level_6 ⟨Nat.zero_le _, Nat.zero_le _⟩ (fun q7 S8 H locs hq G => ?_)
  obtain ⟨hq1, hq2⟩ := hq
  rw [hq2] at G
  refine lv_to hq1 ?_
  clear hq1 hq2 eS6
  refine lv_if_eq (tgt := 20) hx hb dX12_level_9 (by decide) (fun c10 => ?_) (fun c10 => ?_)
  · have h := oif_pos c10 h
    refine lv_lconst (v := 0) hx hb dX12_level_20 (by decide) ?_
    have hl := lv_sub hl [] rfl
    exact tr_level_b21 E hA hR hml (fun H locs ls G => W.lret (v := r1) hx hb hr (fun t ht hW => ⟨⟨r1, S1, rfl, ⟨rfl, rfl⟩, ⟨by rw [ht]; exact G.1, va_K.moved hW.alike hK, G.2.1⟩⟩, G.2.2.F ht⟩) G.2.2.2.2 dX12_level_21) _ _ _ _ _ h G hl
  · have h := oif_neg c10 h
    refine lv_aload_n hx hb dX12_level_12 rfl (lv_at hl 0 rfl) ?_
    refine lv_iload_n hx hb dX12_level_13 rfl (lv_at hl 1 rfl) ?_
    obtain ⟨r14, S11, eS11, h⟩ := obind2_some h
    refine m_calll (As := [.int a0]) (rest := []) E G hA hR hml (tr_levelOf l D cI cJ cZ ad S6 a0 eS11) (cwV 1 hts (gmV qM_464 qM_465 qM_466 qM_35 qM_462) rfl rfl rfl (by decide +kernel) ⟨Nat.le_of_ble_eq_true rfl, Nat.le_of_ble_eq_true rfl⟩) rfl hl.1 rfl (lv_room (Nat.le_of_ble_eq_true rfl)) dX12_level_14 ⟨Nat.zero_le _, Nat.zero_le _⟩ (fun q12 S13 H locs hq G => ?_)
    obtain ⟨hq1, hq2⟩ := hq
    rw [hq2] at G
    refine lv_tol hq1 ?_
    clear hq1 hq2 eS11
    refine lv_goto (tgt := 21) hx hb dX12_level_17 (by decide) ?_
    have hl := lv_sub hl [] rfl
    exact tr_level_b21 E hA hR hml (fun H locs ls G => W.lret (v := r1) hx hb hr (fun t ht hW => ⟨⟨r1, S1, rfl, ⟨rfl, rfl⟩, ⟨by rw [ht]; exact G.1, va_K.moved hW.alike hK, G.2.1⟩⟩, G.2.2.F ht⟩) G.2.2.2.2 dX12_level_21) _ _ _ _ _ h G hl
def fr_loudest_b84 (k16 : MS → Int32 → Int32 → Option (Int32 × MS)) (k31 : MS → Int32 → Int32 → Int32 → Int32 → Option (Int32 × MS)) (S : MS) (s0 : Int32) (s1 : Int32) (l1 : Int32) (l2 : Int32) (l4 : Int32) : Option (Int32 × MS) := elet (s1 + s0) fun v2 => elet (l4 + Int32.ofInt (1)) fun v3 => k31 S l1 l2 v2 v3
set_option maxHeartbeats 4000000 in
set_option maxRecDepth 100000 in
theorem tr_loudest_b84 {p : Program} {l : Launch} {e : Env} {s : State} {m : MethodId} {args : Array Value} {below : List Frame} {meth : Method} {c : Code} {Q : State → Prop} {D : va_G} {A : Nat → Prop} {H0 : Heap} {cI cJ cZ : ClassId} {ad : Nat → Nat} {r1 : Int32} {S1 : MS} (E : mE p c cX12_loudest s m args (Cond.code yX12_loudest cX12_loudest 5 (some .int) :: wsM) D cI cJ cZ) (hA : ∀ q : Nat, H0.size ≤ q → A q) (hR : sR s) (hml : c.maxLocals = 5) (kr13 : ∀ (H : Heap) (locs : List Loc) (ls : Array Slot), mG D cI cJ cZ ad A H0 H locs S1 → W p l e { frames := 3, cells := 0, slots := 0, locals := 47 } s m args below meth c H locs 0 0 Q (F0 m 13 ls [.int r1])) (kr98 : ∀ (H : Heap) (locs : List Loc) (ls : Array Slot), mG D cI cJ cZ ad A H0 H locs S1 → W p l e { frames := 3, cells := 0, slots := 0, locals := 47 } s m args below meth c H locs 0 0 Q (F0 m 98 ls [.int r1])) (kr106 : ∀ (H : Heap) (locs : List Loc) (ls : Array Slot), mG D cI cJ cZ ad A H0 H locs S1 → W p l e { frames := 3, cells := 0, slots := 0, locals := 47 } s m args below meth c H locs 0 0 Q (F0 m 106 ls [.int r1])) {k16 : MS → Int32 → Int32 → Option (Int32 × MS)} {k31 : MS → Int32 → Int32 → Int32 → Int32 → Option (Int32 × MS)} (hk16 : ∀ (S : MS) (H : Heap) (locs : List Loc) (ls : Array Slot) (l1 : Int32) (l2 : Int32), k16 S l1 l2 = some (r1, S1) → mG D cI cJ cZ ad A H0 H locs S → lv_has ls 5 [(0, .ref (ad 0)), (1, .int l1), (2, .int l2)] → W p l e { frames := 3, cells := 0, slots := 0, locals := 47 } s m args below meth c H locs 0 0 Q (F0 m 16 ls [])) (hk31 : ∀ (S : MS) (H : Heap) (locs : List Loc) (ls : Array Slot) (l1 : Int32) (l2 : Int32) (l3 : Int32) (l4 : Int32), k31 S l1 l2 l3 l4 = some (r1, S1) → mG D cI cJ cZ ad A H0 H locs S → lv_has ls 5 [(0, .ref (ad 0)), (1, .int l1), (2, .int l2), (3, .int l3), (4, .int l4)] → W p l e { frames := 3, cells := 0, slots := 0, locals := 47 } s m args below meth c H locs 0 0 Q (F0 m 31 ls [])) : ∀ (S : MS) (H : Heap) (locs : List Loc) (ls : Array Slot) (s0 : Int32) (s1 : Int32) (l1 : Int32) (l2 : Int32) (l4 : Int32), fr_loudest_b84 k16 k31 S s0 s1 l1 l2 l4 = some (r1, S1) → mG D cI cJ cZ ad A H0 H locs S → lv_has ls 5 [(0, .ref (ad 0)), (1, .int l1), (2, .int l2), (4, .int l4)] → W p l e { frames := 3, cells := 0, slots := 0, locals := 47 } s m args below meth c H locs 0 0 Q (F0 m 84 ls [.int s0, .int s1]) := by
  have hx := E.1
  have hb := E.2.1
  have hts := E.2.2.1
  have hown := E.2.2.2.1
  have hK := E.2.2.2.2.1
  intro S H locs ls s0 s1 l1 l2 l4 h G hl
  unfold fr_loudest_b84 at h
  refine lv_iadd hx hb dX12_loudest_84 ?_
  refine lv_topi (fun v2 ev2 => ?_)
  have h := elet_at ev2 h
  clear ev2
  refine lv_istore_n (lv' := [(3, .int v2), (0, .ref (ad 0)), (1, .int l1), (2, .int l2), (4, .int l4)]) hx hb dX12_loudest_85 rfl hl (by decide) rfl (fun ls hl => ?_)
  obtain ⟨v3, ev3, h⟩ := elet_some h
  refine lv_iinc (v := v3) (lv' := [(4, .int v3), (3, .int v2), (0, .ref (ad 0)), (1, .int l1), (2, .int l2)]) hx hb dX12_loudest_86 hl (k := 4) rfl ev3.symm (by decide) rfl (fun ls hl => ?_)
  refine lv_goto (tgt := 31) hx hb dX12_loudest_89 (by decide) ?_
  have hl := lv_sub hl [2, 3, 4, 1, 0] rfl
  exact hk31 _ _ _ _ _ _ _ _ h G hl
def fr_loudest_b79 (k16 : MS → Int32 → Int32 → Option (Int32 × MS)) (k31 : MS → Int32 → Int32 → Int32 → Int32 → Option (Int32 × MS)) (S : MS) (s0 : Int32) (l1 : Int32) (l2 : Int32) (l4 : Int32) : Option (Int32 × MS) := fr_loudest_b84 k16 k31 S 1 s0 l1 l2 l4
set_option maxHeartbeats 4000000 in
set_option maxRecDepth 100000 in
theorem tr_loudest_b79 {p : Program} {l : Launch} {e : Env} {s : State} {m : MethodId} {args : Array Value} {below : List Frame} {meth : Method} {c : Code} {Q : State → Prop} {D : va_G} {A : Nat → Prop} {H0 : Heap} {cI cJ cZ : ClassId} {ad : Nat → Nat} {r1 : Int32} {S1 : MS} (E : mE p c cX12_loudest s m args (Cond.code yX12_loudest cX12_loudest 5 (some .int) :: wsM) D cI cJ cZ) (hA : ∀ q : Nat, H0.size ≤ q → A q) (hR : sR s) (hml : c.maxLocals = 5) (kr13 : ∀ (H : Heap) (locs : List Loc) (ls : Array Slot), mG D cI cJ cZ ad A H0 H locs S1 → W p l e { frames := 3, cells := 0, slots := 0, locals := 47 } s m args below meth c H locs 0 0 Q (F0 m 13 ls [.int r1])) (kr98 : ∀ (H : Heap) (locs : List Loc) (ls : Array Slot), mG D cI cJ cZ ad A H0 H locs S1 → W p l e { frames := 3, cells := 0, slots := 0, locals := 47 } s m args below meth c H locs 0 0 Q (F0 m 98 ls [.int r1])) (kr106 : ∀ (H : Heap) (locs : List Loc) (ls : Array Slot), mG D cI cJ cZ ad A H0 H locs S1 → W p l e { frames := 3, cells := 0, slots := 0, locals := 47 } s m args below meth c H locs 0 0 Q (F0 m 106 ls [.int r1])) {k16 : MS → Int32 → Int32 → Option (Int32 × MS)} {k31 : MS → Int32 → Int32 → Int32 → Int32 → Option (Int32 × MS)} (hk16 : ∀ (S : MS) (H : Heap) (locs : List Loc) (ls : Array Slot) (l1 : Int32) (l2 : Int32), k16 S l1 l2 = some (r1, S1) → mG D cI cJ cZ ad A H0 H locs S → lv_has ls 5 [(0, .ref (ad 0)), (1, .int l1), (2, .int l2)] → W p l e { frames := 3, cells := 0, slots := 0, locals := 47 } s m args below meth c H locs 0 0 Q (F0 m 16 ls [])) (hk31 : ∀ (S : MS) (H : Heap) (locs : List Loc) (ls : Array Slot) (l1 : Int32) (l2 : Int32) (l3 : Int32) (l4 : Int32), k31 S l1 l2 l3 l4 = some (r1, S1) → mG D cI cJ cZ ad A H0 H locs S → lv_has ls 5 [(0, .ref (ad 0)), (1, .int l1), (2, .int l2), (3, .int l3), (4, .int l4)] → W p l e { frames := 3, cells := 0, slots := 0, locals := 47 } s m args below meth c H locs 0 0 Q (F0 m 31 ls [])) : ∀ (S : MS) (H : Heap) (locs : List Loc) (ls : Array Slot) (s0 : Int32) (l1 : Int32) (l2 : Int32) (l4 : Int32), fr_loudest_b79 k16 k31 S s0 l1 l2 l4 = some (r1, S1) → mG D cI cJ cZ ad A H0 H locs S → lv_has ls 5 [(0, .ref (ad 0)), (1, .int l1), (2, .int l2), (4, .int l4)] → W p l e { frames := 3, cells := 0, slots := 0, locals := 47 } s m args below meth c H locs 0 0 Q (F0 m 79 ls [.int s0]) := by
  have hx := E.1
  have hb := E.2.1
  have hts := E.2.2.1
  have hown := E.2.2.2.1
  have hK := E.2.2.2.2.1
  intro S H locs ls s0 l1 l2 l4 h G hl
  unfold fr_loudest_b79 at h
  refine lv_iconst (v := 1) hx hb dX12_loudest_79 (by decide) ?_
  refine lv_goto (tgt := 84) hx hb dX12_loudest_80 (by decide) ?_
  have hl := lv_sub hl [0, 1, 2, 3] rfl
  exact tr_loudest_b84 E hA hR hml kr13 kr98 kr106 hk16 hk31 _ _ _ _ _ _ _ _ _ h G hl
def fr_loudest_b83 (k16 : MS → Int32 → Int32 → Option (Int32 × MS)) (k31 : MS → Int32 → Int32 → Int32 → Int32 → Option (Int32 × MS)) (S : MS) (s0 : Int32) (l1 : Int32) (l2 : Int32) (l4 : Int32) : Option (Int32 × MS) := fr_loudest_b84 k16 k31 S 0 s0 l1 l2 l4
set_option maxHeartbeats 4000000 in
set_option maxRecDepth 100000 in
theorem tr_loudest_b83 {p : Program} {l : Launch} {e : Env} {s : State} {m : MethodId} {args : Array Value} {below : List Frame} {meth : Method} {c : Code} {Q : State → Prop} {D : va_G} {A : Nat → Prop} {H0 : Heap} {cI cJ cZ : ClassId} {ad : Nat → Nat} {r1 : Int32} {S1 : MS} (E : mE p c cX12_loudest s m args (Cond.code yX12_loudest cX12_loudest 5 (some .int) :: wsM) D cI cJ cZ) (hA : ∀ q : Nat, H0.size ≤ q → A q) (hR : sR s) (hml : c.maxLocals = 5) (kr13 : ∀ (H : Heap) (locs : List Loc) (ls : Array Slot), mG D cI cJ cZ ad A H0 H locs S1 → W p l e { frames := 3, cells := 0, slots := 0, locals := 47 } s m args below meth c H locs 0 0 Q (F0 m 13 ls [.int r1])) (kr98 : ∀ (H : Heap) (locs : List Loc) (ls : Array Slot), mG D cI cJ cZ ad A H0 H locs S1 → W p l e { frames := 3, cells := 0, slots := 0, locals := 47 } s m args below meth c H locs 0 0 Q (F0 m 98 ls [.int r1])) (kr106 : ∀ (H : Heap) (locs : List Loc) (ls : Array Slot), mG D cI cJ cZ ad A H0 H locs S1 → W p l e { frames := 3, cells := 0, slots := 0, locals := 47 } s m args below meth c H locs 0 0 Q (F0 m 106 ls [.int r1])) {k16 : MS → Int32 → Int32 → Option (Int32 × MS)} {k31 : MS → Int32 → Int32 → Int32 → Int32 → Option (Int32 × MS)} (hk16 : ∀ (S : MS) (H : Heap) (locs : List Loc) (ls : Array Slot) (l1 : Int32) (l2 : Int32), k16 S l1 l2 = some (r1, S1) → mG D cI cJ cZ ad A H0 H locs S → lv_has ls 5 [(0, .ref (ad 0)), (1, .int l1), (2, .int l2)] → W p l e { frames := 3, cells := 0, slots := 0, locals := 47 } s m args below meth c H locs 0 0 Q (F0 m 16 ls [])) (hk31 : ∀ (S : MS) (H : Heap) (locs : List Loc) (ls : Array Slot) (l1 : Int32) (l2 : Int32) (l3 : Int32) (l4 : Int32), k31 S l1 l2 l3 l4 = some (r1, S1) → mG D cI cJ cZ ad A H0 H locs S → lv_has ls 5 [(0, .ref (ad 0)), (1, .int l1), (2, .int l2), (3, .int l3), (4, .int l4)] → W p l e { frames := 3, cells := 0, slots := 0, locals := 47 } s m args below meth c H locs 0 0 Q (F0 m 31 ls [])) : ∀ (S : MS) (H : Heap) (locs : List Loc) (ls : Array Slot) (s0 : Int32) (l1 : Int32) (l2 : Int32) (l4 : Int32), fr_loudest_b83 k16 k31 S s0 l1 l2 l4 = some (r1, S1) → mG D cI cJ cZ ad A H0 H locs S → lv_has ls 5 [(0, .ref (ad 0)), (1, .int l1), (2, .int l2), (4, .int l4)] → W p l e { frames := 3, cells := 0, slots := 0, locals := 47 } s m args below meth c H locs 0 0 Q (F0 m 83 ls [.int s0]) := by
  have hx := E.1
  have hb := E.2.1
  have hts := E.2.2.1
  have hown := E.2.2.2.1
  have hK := E.2.2.2.2.1
  intro S H locs ls s0 l1 l2 l4 h G hl
  unfold fr_loudest_b83 at h
  refine lv_iconst (v := 0) hx hb dX12_loudest_83 (by decide) ?_
  have hl := lv_sub hl [0, 1, 2, 3] rfl
  exact tr_loudest_b84 E hA hR hml kr13 kr98 kr106 hk16 hk31 _ _ _ _ _ _ _ _ _ h G hl
def fr_loudest_b31 (k16 : MS → Int32 → Int32 → Option (Int32 × MS)) : Nat → MS → Int32 → Int32 → Int32 → Int32 → Option (Int32 × MS)
  | 0, _, _, _, _, _ => none
  | n + 1, S, l1, l2, l3, l4 => elet (S.2.1 10 4) fun v2 => if v2 ≤ l4 then (if l3 = l1 then (some (l2, S)) else (elet (l2 + Int32.ofInt (1)) fun v5 => k16 S l1 v5)) else (obind2 (fr_levelOf S l4) fun r9 S6 => obind2 (fr_levelOf S6 l2) fun r13 S10 => elet (lg_cmp r9 r13) fun v14 => if 0 < v14 then (fr_loudest_b79 k16 (fr_loudest_b31 k16 n) S10 l3 l1 l2 l4) else (obind2 (fr_levelOf S10 l4) fun r19 S16 => obind2 (fr_levelOf S16 l2) fun r23 S20 => elet (lg_cmp r19 r23) fun v24 => if v24 = 0 then (if l2 ≤ l4 then (fr_loudest_b83 k16 (fr_loudest_b31 k16 n) S20 l3 l1 l2 l4) else (fr_loudest_b79 k16 (fr_loudest_b31 k16 n) S20 l3 l1 l2 l4)) else (fr_loudest_b83 k16 (fr_loudest_b31 k16 n) S20 l3 l1 l2 l4)))
set_option maxHeartbeats 4000000 in
set_option maxRecDepth 100000 in
theorem tr_loudest_b31 {p : Program} {l : Launch} {e : Env} {s : State} {m : MethodId} {args : Array Value} {below : List Frame} {meth : Method} {c : Code} {Q : State → Prop} {D : va_G} {A : Nat → Prop} {H0 : Heap} {cI cJ cZ : ClassId} {ad : Nat → Nat} {r1 : Int32} {S1 : MS} (E : mE p c cX12_loudest s m args (Cond.code yX12_loudest cX12_loudest 5 (some .int) :: wsM) D cI cJ cZ) (hA : ∀ q : Nat, H0.size ≤ q → A q) (hR : sR s) (hml : c.maxLocals = 5) (kr13 : ∀ (H : Heap) (locs : List Loc) (ls : Array Slot), mG D cI cJ cZ ad A H0 H locs S1 → W p l e { frames := 3, cells := 0, slots := 0, locals := 47 } s m args below meth c H locs 0 0 Q (F0 m 13 ls [.int r1])) (kr98 : ∀ (H : Heap) (locs : List Loc) (ls : Array Slot), mG D cI cJ cZ ad A H0 H locs S1 → W p l e { frames := 3, cells := 0, slots := 0, locals := 47 } s m args below meth c H locs 0 0 Q (F0 m 98 ls [.int r1])) (kr106 : ∀ (H : Heap) (locs : List Loc) (ls : Array Slot), mG D cI cJ cZ ad A H0 H locs S1 → W p l e { frames := 3, cells := 0, slots := 0, locals := 47 } s m args below meth c H locs 0 0 Q (F0 m 106 ls [.int r1])) {k16 : MS → Int32 → Int32 → Option (Int32 × MS)} (hk16 : ∀ (S : MS) (H : Heap) (locs : List Loc) (ls : Array Slot) (l1 : Int32) (l2 : Int32), k16 S l1 l2 = some (r1, S1) → mG D cI cJ cZ ad A H0 H locs S → lv_has ls 5 [(0, .ref (ad 0)), (1, .int l1), (2, .int l2)] → W p l e { frames := 3, cells := 0, slots := 0, locals := 47 } s m args below meth c H locs 0 0 Q (F0 m 16 ls [])) : ∀ n : Nat, ∀ (S : MS) (H : Heap) (locs : List Loc) (ls : Array Slot) (l1 : Int32) (l2 : Int32) (l3 : Int32) (l4 : Int32), fr_loudest_b31 k16 n S l1 l2 l3 l4 = some (r1, S1) → mG D cI cJ cZ ad A H0 H locs S → lv_has ls 5 [(0, .ref (ad 0)), (1, .int l1), (2, .int l2), (3, .int l3), (4, .int l4)] → W p l e { frames := 3, cells := 0, slots := 0, locals := 47 } s m args below meth c H locs 0 0 Q (F0 m 31 ls []) := by
  have hx := E.1
  have hb := E.2.1
  have hts := E.2.2.1
  have hown := E.2.2.2.1
  have hK := E.2.2.2.2.1
  intro n
  induction n with
  | zero =>
    intro S H locs ls l1 l2 l3 l4 h
    have h : (none : Option (Int32 × MS)) = some (r1, S1) := h
    cases h
  | succ n ih =>
    intro S H locs ls l1 l2 l3 l4 h G hl
    unfold fr_loudest_b31 at h
    refine lv_iload hx hb dX12_loudest_31 (lv_at hl 4 rfl) ?_
    refine lv_aload_n hx hb dX12_loudest_33 rfl (lv_at hl 0 rfl) ?_
    refine m_get E G 10 (v := .ref (ad 10)) (by decide) (.tail _ qM_7) rfl dX12_loudest_34 rfl ?_
    refine lv_iconst (v := 4) hx hb dX12_loudest_37 (by decide) ?_
    refine m_iald E G 10 2 (n := 131) (k := 4) rfl rfl (by decide) (by decide) dX12_loudest_38 ?_
    refine lv_topi (fun v2 ev2 => ?_)
    have h := elet_at ev2 h
    clear ev2
    refine lv_icmp_ge (tgt := 92) hx hb dX12_loudest_39 (by decide) (fun c3 => ?_) (fun c3 => ?_)
    · have h := oif_pos c3 h
      refine lv_iload_n hx hb dX12_loudest_92 rfl (lv_at hl 3 rfl) ?_
      refine lv_iload_n hx hb dX12_loudest_93 rfl (lv_at hl 1 rfl) ?_
      refine lv_icmp_ne (tgt := 99) hx hb dX12_loudest_94 (by decide) (fun c4 => ?_) (fun c4 => ?_)
      · have h := oif_neg c4 h
        obtain ⟨v5, ev5, h⟩ := elet_some h
        refine lv_iinc (v := v5) (lv' := [(2, .int v5), (0, .ref (ad 0)), (1, .int l1), (3, .int l3), (4, .int l4)]) hx hb dX12_loudest_99 hl (k := 2) rfl ev5.symm (by decide) rfl (fun ls hl => ?_)
        refine lv_goto (tgt := 16) hx hb dX12_loudest_102 (by decide) ?_
        have hl := lv_sub hl [1, 2, 0] rfl
        exact hk16 _ _ _ _ _ _ h G hl
      · have h := oif_pos c4 h
        refine lv_iload_n hx hb dX12_loudest_97 rfl (lv_at hl 2 rfl) ?_
        rw [(osome2 h).2] at G
        refine lv_to (osome2 h).1 ?_
        exact kr98 _ _ _ G
    · have h := oif_neg c3 h
      refine lv_iload_n hx hb dX12_loudest_42 rfl (lv_at hl 3 rfl) ?_
      refine lv_aload_n hx hb dX12_loudest_43 rfl (lv_at hl 0 rfl) ?_
      refine lv_iload hx hb dX12_loudest_44 (lv_at hl 4 rfl) ?_
      obtain ⟨r9, S6, eS6, h⟩ := obind2_some h
      refine m_calll (As := [.int l4]) (rest := [.int l3]) E G hA hR hml (tr_levelOf l D cI cJ cZ ad S l4 eS6) (cwV 1 hts (gmV qM_464 qM_465 qM_466 qM_35 qM_462) rfl rfl rfl (by decide +kernel) ⟨Nat.le_of_ble_eq_true rfl, Nat.le_of_ble_eq_true rfl⟩) rfl hl.1 rfl (lv_room (Nat.le_of_ble_eq_true rfl)) dX12_loudest_46 ⟨Nat.zero_le _, Nat.zero_le _⟩ (fun q7 S8 H locs hq G => ?_)
      obtain ⟨hq1, hq2⟩ := hq
      rw [hq2] at G
      refine lv_tol hq1 ?_
      clear hq1 hq2 eS6
      refine lv_aload_n hx hb dX12_loudest_49 rfl (lv_at hl 0 rfl) ?_
      refine lv_iload_n hx hb dX12_loudest_50 rfl (lv_at hl 2 rfl) ?_
      obtain ⟨r13, S10, eS10, h⟩ := obind2_some h
      refine m_calll (As := [.int l2]) (rest := [.long r9, .int l3]) E G hA hR hml (tr_levelOf l D cI cJ cZ ad S6 l2 eS10) (cwV 1 hts (gmV qM_464 qM_465 qM_466 qM_35 qM_462) rfl rfl rfl (by decide +kernel) ⟨Nat.le_of_ble_eq_true rfl, Nat.le_of_ble_eq_true rfl⟩) rfl hl.1 rfl (lv_room (Nat.le_of_ble_eq_true rfl)) dX12_loudest_51 ⟨Nat.zero_le _, Nat.zero_le _⟩ (fun q11 S12 H locs hq G => ?_)
      obtain ⟨hq1, hq2⟩ := hq
      rw [hq2] at G
      refine lv_tol hq1 ?_
      clear hq1 hq2 eS10
      refine W.lcmp hx hb dX12_loudest_54 ?_
      refine lv_topi (fun v14 ev14 => ?_)
      have h := elet_at ev14 h
      clear ev14
      refine lv_if_gt (tgt := 79) hx hb dX12_loudest_55 (by decide) (fun c15 => ?_) (fun c15 => ?_)
      · have h := oif_pos c15 h
        have hl := lv_sub hl [0, 1, 2, 4] rfl
        exact tr_loudest_b79 E hA hR hml kr13 kr98 kr106 hk16 ih _ _ _ _ _ _ _ _ h G hl
      · have h := oif_neg c15 h
        refine lv_aload_n hx hb dX12_loudest_58 rfl (lv_at hl 0 rfl) ?_
        refine lv_iload hx hb dX12_loudest_59 (lv_at hl 4 rfl) ?_
        obtain ⟨r19, S16, eS16, h⟩ := obind2_some h
        refine m_calll (As := [.int l4]) (rest := [.int l3]) E G hA hR hml (tr_levelOf l D cI cJ cZ ad S10 l4 eS16) (cwV 1 hts (gmV qM_464 qM_465 qM_466 qM_35 qM_462) rfl rfl rfl (by decide +kernel) ⟨Nat.le_of_ble_eq_true rfl, Nat.le_of_ble_eq_true rfl⟩) rfl hl.1 rfl (lv_room (Nat.le_of_ble_eq_true rfl)) dX12_loudest_61 ⟨Nat.zero_le _, Nat.zero_le _⟩ (fun q17 S18 H locs hq G => ?_)
        obtain ⟨hq1, hq2⟩ := hq
        rw [hq2] at G
        refine lv_tol hq1 ?_
        clear hq1 hq2 eS16
        refine lv_aload_n hx hb dX12_loudest_64 rfl (lv_at hl 0 rfl) ?_
        refine lv_iload_n hx hb dX12_loudest_65 rfl (lv_at hl 2 rfl) ?_
        obtain ⟨r23, S20, eS20, h⟩ := obind2_some h
        refine m_calll (As := [.int l2]) (rest := [.long r19, .int l3]) E G hA hR hml (tr_levelOf l D cI cJ cZ ad S16 l2 eS20) (cwV 1 hts (gmV qM_464 qM_465 qM_466 qM_35 qM_462) rfl rfl rfl (by decide +kernel) ⟨Nat.le_of_ble_eq_true rfl, Nat.le_of_ble_eq_true rfl⟩) rfl hl.1 rfl (lv_room (Nat.le_of_ble_eq_true rfl)) dX12_loudest_66 ⟨Nat.zero_le _, Nat.zero_le _⟩ (fun q21 S22 H locs hq G => ?_)
        obtain ⟨hq1, hq2⟩ := hq
        rw [hq2] at G
        refine lv_tol hq1 ?_
        clear hq1 hq2 eS20
        refine W.lcmp hx hb dX12_loudest_69 ?_
        refine lv_topi (fun v24 ev24 => ?_)
        have h := elet_at ev24 h
        clear ev24
        refine lv_if_ne (tgt := 83) hx hb dX12_loudest_70 (by decide) (fun c25 => ?_) (fun c25 => ?_)
        · have h := oif_neg c25 h
          have hl := lv_sub hl [0, 1, 2, 4] rfl
          exact tr_loudest_b83 E hA hR hml kr13 kr98 kr106 hk16 ih _ _ _ _ _ _ _ _ h G hl
        · have h := oif_pos c25 h
          refine lv_iload hx hb dX12_loudest_73 (lv_at hl 4 rfl) ?_
          refine lv_iload_n hx hb dX12_loudest_75 rfl (lv_at hl 2 rfl) ?_
          refine lv_icmp_ge (tgt := 83) hx hb dX12_loudest_76 (by decide) (fun c26 => ?_) (fun c26 => ?_)
          · have h := oif_pos c26 h
            have hl := lv_sub hl [0, 1, 2, 4] rfl
            exact tr_loudest_b83 E hA hR hml kr13 kr98 kr106 hk16 ih _ _ _ _ _ _ _ _ h G hl
          · have h := oif_neg c26 h
            have hl := lv_sub hl [0, 1, 2, 4] rfl
            exact tr_loudest_b79 E hA hR hml kr13 kr98 kr106 hk16 ih _ _ _ _ _ _ _ _ h G hl
def fr_loudest_b16  : Nat → MS → Int32 → Int32 → Option (Int32 × MS)
  | 0, _, _, _ => none
  | n + 1, S, l1, l2 => elet (S.2.1 10 4) fun v2 => if v2 ≤ l2 then (some ((-1), S)) else (fr_loudest_b31 (fr_loudest_b16 n) 16384 S l1 l2 0 0)
set_option maxHeartbeats 4000000 in
set_option maxRecDepth 100000 in
theorem tr_loudest_b16 {p : Program} {l : Launch} {e : Env} {s : State} {m : MethodId} {args : Array Value} {below : List Frame} {meth : Method} {c : Code} {Q : State → Prop} {D : va_G} {A : Nat → Prop} {H0 : Heap} {cI cJ cZ : ClassId} {ad : Nat → Nat} {r1 : Int32} {S1 : MS} (E : mE p c cX12_loudest s m args (Cond.code yX12_loudest cX12_loudest 5 (some .int) :: wsM) D cI cJ cZ) (hA : ∀ q : Nat, H0.size ≤ q → A q) (hR : sR s) (hml : c.maxLocals = 5) (kr13 : ∀ (H : Heap) (locs : List Loc) (ls : Array Slot), mG D cI cJ cZ ad A H0 H locs S1 → W p l e { frames := 3, cells := 0, slots := 0, locals := 47 } s m args below meth c H locs 0 0 Q (F0 m 13 ls [.int r1])) (kr98 : ∀ (H : Heap) (locs : List Loc) (ls : Array Slot), mG D cI cJ cZ ad A H0 H locs S1 → W p l e { frames := 3, cells := 0, slots := 0, locals := 47 } s m args below meth c H locs 0 0 Q (F0 m 98 ls [.int r1])) (kr106 : ∀ (H : Heap) (locs : List Loc) (ls : Array Slot), mG D cI cJ cZ ad A H0 H locs S1 → W p l e { frames := 3, cells := 0, slots := 0, locals := 47 } s m args below meth c H locs 0 0 Q (F0 m 106 ls [.int r1])) : ∀ n : Nat, ∀ (S : MS) (H : Heap) (locs : List Loc) (ls : Array Slot) (l1 : Int32) (l2 : Int32), fr_loudest_b16 n S l1 l2 = some (r1, S1) → mG D cI cJ cZ ad A H0 H locs S → lv_has ls 5 [(0, .ref (ad 0)), (1, .int l1), (2, .int l2)] → W p l e { frames := 3, cells := 0, slots := 0, locals := 47 } s m args below meth c H locs 0 0 Q (F0 m 16 ls []) := by
  have hx := E.1
  have hb := E.2.1
  have hts := E.2.2.1
  have hown := E.2.2.2.1
  have hK := E.2.2.2.2.1
  intro n
  induction n with
  | zero =>
    intro S H locs ls l1 l2 h
    have h : (none : Option (Int32 × MS)) = some (r1, S1) := h
    cases h
  | succ n ih =>
    intro S H locs ls l1 l2 h G hl
    unfold fr_loudest_b16 at h
    refine lv_iload_n hx hb dX12_loudest_16 rfl (lv_at hl 2 rfl) ?_
    refine lv_aload_n hx hb dX12_loudest_17 rfl (lv_at hl 0 rfl) ?_
    refine m_get E G 10 (v := .ref (ad 10)) (by decide) (.tail _ qM_7) rfl dX12_loudest_18 rfl ?_
    refine lv_iconst (v := 4) hx hb dX12_loudest_21 (by decide) ?_
    refine m_iald E G 10 2 (n := 131) (k := 4) rfl rfl (by decide) (by decide) dX12_loudest_22 ?_
    refine lv_topi (fun v2 ev2 => ?_)
    have h := elet_at ev2 h
    clear ev2
    refine lv_icmp_ge (tgt := 105) hx hb dX12_loudest_23 (by decide) (fun c3 => ?_) (fun c3 => ?_)
    · have h := oif_pos c3 h
      refine lv_iconst (v := (-1)) hx hb dX12_loudest_105 (by decide) ?_
      rw [(osome2 h).2] at G
      refine lv_to (osome2 h).1 ?_
      exact kr106 _ _ _ G
    · have h := oif_neg c3 h
      refine lv_iconst (v := 0) hx hb dX12_loudest_26 (by decide) ?_
      refine lv_istore_n (lv' := [(3, .int 0), (0, .ref (ad 0)), (1, .int l1), (2, .int l2)]) hx hb dX12_loudest_27 rfl hl (by decide) rfl (fun ls hl => ?_)
      refine lv_iconst (v := 0) hx hb dX12_loudest_28 (by decide) ?_
      refine lv_istore (lv' := [(4, .int 0), (3, .int 0), (0, .ref (ad 0)), (1, .int l1), (2, .int l2)]) hx hb dX12_loudest_29 hl (by decide) rfl (fun ls hl => ?_)
      have hl := lv_sub hl [2, 3, 4, 1, 0] rfl
      exact tr_loudest_b31 E hA hR hml kr13 kr98 kr106 ih _ _ _ _ _ _ _ _ _ h G hl
def fr_loudest (S : MS) (a0 : Int32) : Option (Int32 × MS) := obind2 (fr_isMic S a0) fun r5 S2 => obind2 (fr_mayAsk S2 r5) fun r9 S6 => if r9 = 0 then (some (0, S6)) else (fr_loudest_b16 16384 S6 a0 0)
set_option maxHeartbeats 4000000 in
set_option maxRecDepth 100000 in
theorem tr_loudest (l : Launch) (D : va_G) (cI cJ cZ : ClassId) (ad : Nat → Nat) (S : MS) (a0 : Int32) {r1 : Int32} {S1 : MS} (h : fr_loudest S a0 = some (r1, S1)) : mCi l yX12_loudest (Cond.code yX12_loudest cX12_loudest 5 (some .int) :: wsM) 3 47 D cI cJ cZ ad S [.int a0] (fun r S9 => r = r1 ∧ S9 = S1) := by
  intro sz
  refine Met.ofW (cc := cX12_loudest) (maxL := 5) (ret := (some .int)) (by decide) rfl ?_
  intro p e s m args below meth c s₁ B hml hv
  obtain ⟨rfl, hsz, hP, hK, hD0, hR⟩ := hv
  have hx := B.exec
  have hb := B.bytes
  have hr := B.returns
  have hts := atoms_spec (ws := (Cond.code yX12_loudest cX12_loudest 5 (some .int) :: wsM)) B.pre
  have hown : s.vm.findClass RX12 = some m.cls := findClass_of_methodNamed B.named
  have hlocks := B.notSynchronized
  subst hsz
  have hD := hD0.self (sz := s.heap.size)
  generalize hAe : va_A (MW cI cJ cZ ad S) s.heap.size = A at hD ⊢
  have hA : ∀ q : Nat, s.heap.size ≤ q → A q := fun q h => by rw [← hAe]; exact Or.inr h
  have G : mG D cI cJ cZ ad A s.heap s.heap [] S := ⟨hP, hD, va_S.rf⟩
  have E : mE p c cX12_loudest s m ([.ref (ad 0), .int a0] : List Value).toArray (Cond.code yX12_loudest cX12_loudest 5 (some .int) :: wsM) D cI cJ cZ := ⟨hx, hb, hts, hown, hK, fun w h => .tail _ (iM_x h)⟩
  have hl := lv_entry ([.ref (ad 0), .int a0]) (n := 5) (Nat.le_of_ble_eq_true rfl)
  rw [lg_entry_eq]
  generalize (lg_sl ([.ref (ad 0), .int a0]) ++ List.replicate (5 - (lg_sl ([.ref (ad 0), .int a0])).length) Slot.unset).toArray = ls at hl ⊢
  have hl : lv_has ls 5 [(0, .ref (ad 0)), (1, .int a0)] := hl
  unfold fr_loudest at h
  refine lv_aload_n hx hb dX12_loudest_0 rfl (lv_at hl 0 rfl) ?_
  refine lv_aload_n hx hb dX12_loudest_1 rfl (lv_at hl 0 rfl) ?_
  refine lv_iload_n hx hb dX12_loudest_2 rfl (lv_at hl 1 rfl) ?_
  obtain ⟨r5, S2, eS2, h⟩ := obind2_some h
  refine m_calli (As := [.int a0]) (rest := [.ref (ad 0)]) E G hA hR hml (tr_isMic l D cI cJ cZ ad S a0 eS2) (cwV 1 hts (gmV qM_316 qM_317 qM_318 qM_35 qM_306) rfl rfl rfl (by decide +kernel) ⟨Nat.le_of_ble_eq_true rfl, Nat.le_of_ble_eq_true rfl⟩) rfl hl.1 rfl (lv_room (Nat.le_of_ble_eq_true rfl)) dX12_loudest_3 ⟨Nat.zero_le _, Nat.zero_le _⟩ (fun q3 S4 H locs hq G => ?_)
  obtain ⟨hq1, hq2⟩ := hq
  rw [hq2] at G
  refine lv_to hq1 ?_
  clear hq1 hq2 eS2
  obtain ⟨r9, S6, eS6, h⟩ := obind2_some h
  refine m_calli (As := [.int r5]) (rest := []) E G hA hR hml (tr_mayAsk l D cI cJ cZ ad S2 r5 eS6) (cwV 1 hts (gmV qM_319 qM_320 qM_321 qM_35 qM_304) rfl rfl rfl (by decide +kernel) ⟨Nat.le_of_ble_eq_true rfl, Nat.le_of_ble_eq_true rfl⟩) rfl hl.1 rfl (lv_room (Nat.le_of_ble_eq_true rfl)) dX12_loudest_6 ⟨Nat.zero_le _, Nat.zero_le _⟩ (fun q7 S8 H locs hq G => ?_)
  obtain ⟨hq1, hq2⟩ := hq
  rw [hq2] at G
  refine lv_to hq1 ?_
  clear hq1 hq2 eS6
  refine lv_if_ne (tgt := 14) hx hb dX12_loudest_9 (by decide) (fun c10 => ?_) (fun c10 => ?_)
  · have h := oif_neg c10 h
    refine lv_iconst (v := 0) hx hb dX12_loudest_14 (by decide) ?_
    refine lv_istore_n (lv' := [(2, .int 0), (0, .ref (ad 0)), (1, .int a0)]) hx hb dX12_loudest_15 rfl hl (by decide) rfl (fun ls hl => ?_)
    have hl := lv_sub hl [1, 2, 0] rfl
    exact tr_loudest_b16 E hA hR hml (fun H locs ls G => W.iret (v := r1) hx hb hr (fun t ht hW => ⟨⟨r1, S1, rfl, ⟨rfl, rfl⟩, ⟨by rw [ht]; exact G.1, va_K.moved hW.alike hK, G.2.1⟩⟩, G.2.2.F ht⟩) G.2.2.2.2 dX12_loudest_13) (fun H locs ls G => W.iret (v := r1) hx hb hr (fun t ht hW => ⟨⟨r1, S1, rfl, ⟨rfl, rfl⟩, ⟨by rw [ht]; exact G.1, va_K.moved hW.alike hK, G.2.1⟩⟩, G.2.2.F ht⟩) G.2.2.2.2 dX12_loudest_98) (fun H locs ls G => W.iret (v := r1) hx hb hr (fun t ht hW => ⟨⟨r1, S1, rfl, ⟨rfl, rfl⟩, ⟨by rw [ht]; exact G.1, va_K.moved hW.alike hK, G.2.1⟩⟩, G.2.2.F ht⟩) G.2.2.2.2 dX12_loudest_106) _ _ _ _ _ _ _ h G hl
  · have h := oif_pos c10 h
    refine lv_iconst (v := 0) hx hb dX12_loudest_12 (by decide) ?_
    exact W.iret (v := 0) hx hb hr (fun t ht hW => ⟨⟨0, S6, rfl, osome2 h, ⟨by rw [ht]; exact G.1, va_K.moved hW.alike hK, G.2.1⟩⟩, G.2.2.F ht⟩) G.2.2.2.2 dX12_loudest_13
def fr_writeMap_b109 (k31 : MS → Int64 → Int32 → Option (Int32 × MS)) (S : MS) (s0 : Int32) (s1 : Int32) (s2 : Int32) (l1 : Int64) (l3 : Int32) : Option (Int32 × MS) := elet (s1 + s0) fun v2 => oif (inb s2 160 = true) <| elet (mf S 27 (upd (S.2.1 27) s2.toNatClampNeg v2)) fun S4 => elet (S4.1 28) fun v5 => elet (v5 + 1) fun v6 => elet (mi S4 28 v6) fun S7 => elet (l3 + Int32.ofInt (1)) fun v8 => k31 S7 l1 v8
set_option maxHeartbeats 4000000 in
set_option maxRecDepth 100000 in
theorem tr_writeMap_b109 {p : Program} {l : Launch} {e : Env} {s : State} {m : MethodId} {args : Array Value} {below : List Frame} {meth : Method} {c : Code} {Q : State → Prop} {D : va_G} {A : Nat → Prop} {H0 : Heap} {cI cJ cZ : ClassId} {ad : Nat → Nat} {r1 : Int32} {S1 : MS} (E : mE p c cX12_writeMap s m args (Cond.code yX12_writeMap cX12_writeMap 4 (some .int) :: wsM) D cI cJ cZ) (hA : ∀ q : Nat, H0.size ≤ q → A q) (hR : sR s) (hml : c.maxLocals = 4) (kr9 : ∀ (H : Heap) (locs : List Loc) (ls : Array Slot), mG D cI cJ cZ ad A H0 H locs S1 → W p l e { frames := 8, cells := 0, slots := 0, locals := 163 } s m args below meth c H locs 0 0 Q (F0 m 9 ls [.int r1])) (kr131 : ∀ (H : Heap) (locs : List Loc) (ls : Array Slot), mG D cI cJ cZ ad A H0 H locs S1 → W p l e { frames := 8, cells := 0, slots := 0, locals := 163 } s m args below meth c H locs 0 0 Q (F0 m 131 ls [.int r1])) {k31 : MS → Int64 → Int32 → Option (Int32 × MS)} (hk31 : ∀ (S : MS) (H : Heap) (locs : List Loc) (ls : Array Slot) (l1 : Int64) (l3 : Int32), k31 S l1 l3 = some (r1, S1) → mG D cI cJ cZ ad A H0 H locs S → lv_has ls 4 [(0, .ref (ad 0)), (1, .long l1), (3, .int l3)] → W p l e { frames := 8, cells := 0, slots := 0, locals := 163 } s m args below meth c H locs 0 0 Q (F0 m 31 ls [])) : ∀ (S : MS) (H : Heap) (locs : List Loc) (ls : Array Slot) (s0 : Int32) (s1 : Int32) (s2 : Int32) (l1 : Int64) (l3 : Int32), fr_writeMap_b109 k31 S s0 s1 s2 l1 l3 = some (r1, S1) → mG D cI cJ cZ ad A H0 H locs S → lv_has ls 4 [(0, .ref (ad 0)), (1, .long l1), (3, .int l3)] → W p l e { frames := 8, cells := 0, slots := 0, locals := 163 } s m args below meth c H locs 0 0 Q (F0 m 109 ls [.int s0, .int s1, .int s2, .ref (ad 27)]) := by
  have hx := E.1
  have hb := E.2.1
  have hts := E.2.2.1
  have hown := E.2.2.2.1
  have hK := E.2.2.2.2.1
  intro S H locs ls s0 s1 s2 l1 l3 h G hl
  unfold fr_writeMap_b109 at h
  refine lv_iadd hx hb dX12_writeMap_109 ?_
  refine lv_topi (fun v2 ev2 => ?_)
  have h := elet_at ev2 h
  clear ev2
  obtain ⟨g3, h⟩ := oif_some h
  refine m_iast E G 27 15 (k := s2.toNatClampNeg) (v := v2) rfl (fun _ => rfl) (inb_k g3).1 (inb_k g3).2 (by decide) dX12_writeMap_110 (fun H locs G => ?_)
  obtain ⟨S4, eS4, h⟩ := elet_some h
  rw [← eS4] at G
  clear eS4
  refine lv_aload_n hx hb dX12_writeMap_111 rfl (lv_at hl 0 rfl) ?_
  refine lv_dup hx hb dX12_writeMap_112 rfl ?_
  refine m_get E G 28 (v := .int (S4.1 28)) (by decide) (.tail _ qM_469) rfl dX12_writeMap_113 rfl ?_
  refine lv_topi (fun v5 ev5 => ?_)
  have h := elet_at ev5 h
  clear ev5
  refine lv_iconst (v := 1) hx hb dX12_writeMap_116 (by decide) ?_
  refine lv_iadd hx hb dX12_writeMap_117 ?_
  refine lv_topi (fun v6 ev6 => ?_)
  have h := elet_at ev6 h
  clear ev6
  refine m_put E G 28 (by decide) (.tail _ qM_469) (mw_i28 _ _ _ _ _ v6) dX12_writeMap_118 ⟨rfl, rfl, rfl⟩ rfl rfl (fun H locs G => ?_)
  obtain ⟨S7, eS7, h⟩ := elet_some h
  rw [← eS7] at G
  clear eS7
  obtain ⟨v8, ev8, h⟩ := elet_some h
  refine lv_iinc (v := v8) (lv' := [(3, .int v8), (0, .ref (ad 0)), (1, .long l1)]) hx hb dX12_writeMap_121 hl (k := 2) rfl ev8.symm (by decide) rfl (fun ls hl => ?_)
  refine lv_goto (tgt := 31) hx hb dX12_writeMap_124 (by decide) ?_
  have hl := lv_sub hl [1, 2, 0] rfl
  exact hk31 _ _ _ _ _ _ h G hl
def fr_writeMap_b76 (k31 : MS → Int64 → Int32 → Option (Int32 × MS)) (S : MS) (l1 : Int64) (l3 : Int32) : Option (Int32 × MS) := elet (S.1 28) fun v2 => elet (lg_cmp l1 (0 : Int64)) fun v3 => if v3 = 0 then (fr_writeMap_b109 k31 S 0 48 v2 l1 l3) else (oif (inb l3 144 = true) <| elet (S.2.2 25 l3.toNatClampNeg) fun v6 => elet ((9 : Int64) * v6) fun v7 => oif (¬ l1 = 0) <| elet (v7 / l1) fun v9 => elet (v9.toInt32) fun v10 => fr_writeMap_b109 k31 S v10 48 v2 l1 l3)
set_option maxHeartbeats 4000000 in
set_option maxRecDepth 100000 in
theorem tr_writeMap_b76 {p : Program} {l : Launch} {e : Env} {s : State} {m : MethodId} {args : Array Value} {below : List Frame} {meth : Method} {c : Code} {Q : State → Prop} {D : va_G} {A : Nat → Prop} {H0 : Heap} {cI cJ cZ : ClassId} {ad : Nat → Nat} {r1 : Int32} {S1 : MS} (E : mE p c cX12_writeMap s m args (Cond.code yX12_writeMap cX12_writeMap 4 (some .int) :: wsM) D cI cJ cZ) (hA : ∀ q : Nat, H0.size ≤ q → A q) (hR : sR s) (hml : c.maxLocals = 4) (kr9 : ∀ (H : Heap) (locs : List Loc) (ls : Array Slot), mG D cI cJ cZ ad A H0 H locs S1 → W p l e { frames := 8, cells := 0, slots := 0, locals := 163 } s m args below meth c H locs 0 0 Q (F0 m 9 ls [.int r1])) (kr131 : ∀ (H : Heap) (locs : List Loc) (ls : Array Slot), mG D cI cJ cZ ad A H0 H locs S1 → W p l e { frames := 8, cells := 0, slots := 0, locals := 163 } s m args below meth c H locs 0 0 Q (F0 m 131 ls [.int r1])) {k31 : MS → Int64 → Int32 → Option (Int32 × MS)} (hk31 : ∀ (S : MS) (H : Heap) (locs : List Loc) (ls : Array Slot) (l1 : Int64) (l3 : Int32), k31 S l1 l3 = some (r1, S1) → mG D cI cJ cZ ad A H0 H locs S → lv_has ls 4 [(0, .ref (ad 0)), (1, .long l1), (3, .int l3)] → W p l e { frames := 8, cells := 0, slots := 0, locals := 163 } s m args below meth c H locs 0 0 Q (F0 m 31 ls [])) : ∀ (S : MS) (H : Heap) (locs : List Loc) (ls : Array Slot) (l1 : Int64) (l3 : Int32), fr_writeMap_b76 k31 S l1 l3 = some (r1, S1) → mG D cI cJ cZ ad A H0 H locs S → lv_has ls 4 [(0, .ref (ad 0)), (1, .long l1), (3, .int l3)] → W p l e { frames := 8, cells := 0, slots := 0, locals := 163 } s m args below meth c H locs 0 0 Q (F0 m 76 ls []) := by
  have hx := E.1
  have hb := E.2.1
  have hts := E.2.2.1
  have hown := E.2.2.2.1
  have hK := E.2.2.2.2.1
  intro S H locs ls l1 l3 h G hl
  unfold fr_writeMap_b76 at h
  refine lv_aload_n hx hb dX12_writeMap_76 rfl (lv_at hl 0 rfl) ?_
  refine m_get E G 27 (v := .ref (ad 27)) (by decide) (.tail _ qM_23) rfl dX12_writeMap_77 rfl ?_
  refine lv_aload_n hx hb dX12_writeMap_80 rfl (lv_at hl 0 rfl) ?_
  refine m_get E G 28 (v := .int (S.1 28)) (by decide) (.tail _ qM_469) rfl dX12_writeMap_81 rfl ?_
  refine lv_topi (fun v2 ev2 => ?_)
  have h := elet_at ev2 h
  clear ev2
  refine lv_bipush (v := 48) hx hb dX12_writeMap_84 (by decide) ?_
  refine lv_lload_n hx hb dX12_writeMap_86 rfl (lv_at hl 1 rfl) ?_
  refine lv_lconst (v := 0) hx hb dX12_writeMap_87 (by decide) ?_
  refine W.lcmp hx hb dX12_writeMap_88 ?_
  refine lv_topi (fun v3 ev3 => ?_)
  have h := elet_at ev3 h
  clear ev3
  refine lv_if_ne (tgt := 96) hx hb dX12_writeMap_89 (by decide) (fun c4 => ?_) (fun c4 => ?_)
  · have h := oif_neg c4 h
    refine lv_ldc2 (v := 9) hx hb hown (hts (.constantLong RX12 442 (9)) (.tail _ qM_470)) dX12_writeMap_96 ?_
    refine lv_aload_n hx hb dX12_writeMap_99 rfl (lv_at hl 0 rfl) ?_
    refine m_get E G 25 (v := .ref (ad 25)) (by decide) (.tail _ qM_21) rfl dX12_writeMap_100 rfl ?_
    refine lv_iload_n hx hb dX12_writeMap_103 rfl (lv_at hl 2 rfl) ?_
    obtain ⟨g5, h⟩ := oif_some h
    refine m_lald E G 25 13 (n := 144) (k := l3.toNatClampNeg) rfl (inb_k g5).1 (inb_k g5).2 (by decide) dX12_writeMap_104 ?_
    refine lv_topl (fun v6 ev6 => ?_)
    have h := elet_at ev6 h
    clear ev6
    refine lv_lmul hx hb dX12_writeMap_105 ?_
    refine lv_topl (fun v7 ev7 => ?_)
    have h := elet_at ev7 h
    clear ev7
    refine lv_lload_n hx hb dX12_writeMap_106 rfl (lv_at hl 1 rfl) ?_
    obtain ⟨g8, h⟩ := oif_some h
    refine lv_ldiv hx hb dX12_writeMap_107 g8 ?_
    refine lv_topl (fun v9 ev9 => ?_)
    have h := elet_at ev9 h
    clear ev9
    refine lv_l2i (v := v9.toInt32) hx hb dX12_writeMap_108 rfl ?_
    refine lv_topi (fun v10 ev10 => ?_)
    have h := elet_at ev10 h
    clear ev10
    have hl := lv_sub hl [0, 1, 2] rfl
    exact tr_writeMap_b109 E hA hR hml kr9 kr131 hk31 _ _ _ _ _ _ _ _ _ h G hl
  · have h := oif_pos c4 h
    refine lv_iconst (v := 0) hx hb dX12_writeMap_92 (by decide) ?_
    refine lv_goto (tgt := 109) hx hb dX12_writeMap_93 (by decide) ?_
    have hl := lv_sub hl [0, 1, 2] rfl
    exact tr_writeMap_b109 E hA hR hml kr9 kr131 hk31 _ _ _ _ _ _ _ _ _ h G hl
def fr_writeMap_b31  : Nat → MS → Int64 → Int32 → Option (Int32 × MS)
  | 0, _, _, _ => none
  | n + 1, S, l1, l3 => obind2 (fr_cellCount S) fun r5 S2 => if r5 ≤ l3 then (elet (S2.1 28) fun v7 => some (v7, S2)) else (if l3 ≤ 0 then (fr_writeMap_b76 (fr_writeMap_b31 n) S2 l1 l3) else (elet (S2.2.1 10 9) fun v9 => oif (¬ v9 = 0) <| elet (l3 - l3 / v9 * v9) fun v11 => if v11 = 0 then (elet (S2.1 28) fun v13 => oif (inb v13 160 = true) <| elet (mf S2 27 (upd (S2.2.1 27) v13.toNatClampNeg 59)) fun S15 => elet (S15.1 28) fun v16 => elet (v16 + 1) fun v17 => elet (mi S15 28 v17) fun S18 => fr_writeMap_b76 (fr_writeMap_b31 n) S18 l1 l3) else (fr_writeMap_b76 (fr_writeMap_b31 n) S2 l1 l3)))
set_option maxHeartbeats 4000000 in
set_option maxRecDepth 100000 in
theorem tr_writeMap_b31 {p : Program} {l : Launch} {e : Env} {s : State} {m : MethodId} {args : Array Value} {below : List Frame} {meth : Method} {c : Code} {Q : State → Prop} {D : va_G} {A : Nat → Prop} {H0 : Heap} {cI cJ cZ : ClassId} {ad : Nat → Nat} {r1 : Int32} {S1 : MS} (E : mE p c cX12_writeMap s m args (Cond.code yX12_writeMap cX12_writeMap 4 (some .int) :: wsM) D cI cJ cZ) (hA : ∀ q : Nat, H0.size ≤ q → A q) (hR : sR s) (hml : c.maxLocals = 4) (kr9 : ∀ (H : Heap) (locs : List Loc) (ls : Array Slot), mG D cI cJ cZ ad A H0 H locs S1 → W p l e { frames := 8, cells := 0, slots := 0, locals := 163 } s m args below meth c H locs 0 0 Q (F0 m 9 ls [.int r1])) (kr131 : ∀ (H : Heap) (locs : List Loc) (ls : Array Slot), mG D cI cJ cZ ad A H0 H locs S1 → W p l e { frames := 8, cells := 0, slots := 0, locals := 163 } s m args below meth c H locs 0 0 Q (F0 m 131 ls [.int r1])) : ∀ n : Nat, ∀ (S : MS) (H : Heap) (locs : List Loc) (ls : Array Slot) (l1 : Int64) (l3 : Int32), fr_writeMap_b31 n S l1 l3 = some (r1, S1) → mG D cI cJ cZ ad A H0 H locs S → lv_has ls 4 [(0, .ref (ad 0)), (1, .long l1), (3, .int l3)] → W p l e { frames := 8, cells := 0, slots := 0, locals := 163 } s m args below meth c H locs 0 0 Q (F0 m 31 ls []) := by
  have hx := E.1
  have hb := E.2.1
  have hts := E.2.2.1
  have hown := E.2.2.2.1
  have hK := E.2.2.2.2.1
  intro n
  induction n with
  | zero =>
    intro S H locs ls l1 l3 h
    have h : (none : Option (Int32 × MS)) = some (r1, S1) := h
    cases h
  | succ n ih =>
    intro S H locs ls l1 l3 h G hl
    unfold fr_writeMap_b31 at h
    refine lv_iload_n hx hb dX12_writeMap_31 rfl (lv_at hl 2 rfl) ?_
    refine lv_aload_n hx hb dX12_writeMap_32 rfl (lv_at hl 0 rfl) ?_
    obtain ⟨r5, S2, eS2, h⟩ := obind2_some h
    refine m_calli (As := []) (rest := [.int l3]) E G hA hR hml (tr_cellCount l D cI cJ cZ ad S eS2) (cwV 0 hts (gmV qM_204 qM_205 qM_206 qM_35 qM_207) rfl rfl rfl (by decide +kernel) ⟨Nat.le_of_ble_eq_true rfl, Nat.le_of_ble_eq_true rfl⟩) rfl hl.1 rfl (lv_room (Nat.le_of_ble_eq_true rfl)) dX12_writeMap_33 ⟨Nat.zero_le _, Nat.zero_le _⟩ (fun q3 S4 H locs hq G => ?_)
    obtain ⟨hq1, hq2⟩ := hq
    rw [hq2] at G
    refine lv_to hq1 ?_
    clear hq1 hq2 eS2
    refine lv_icmp_ge (tgt := 127) hx hb dX12_writeMap_36 (by decide) (fun c6 => ?_) (fun c6 => ?_)
    · have h := oif_pos c6 h
      refine lv_aload_n hx hb dX12_writeMap_127 rfl (lv_at hl 0 rfl) ?_
      refine m_get E G 28 (v := .int (S2.1 28)) (by decide) (.tail _ qM_469) rfl dX12_writeMap_128 rfl ?_
      refine lv_topi (fun v7 ev7 => ?_)
      have h := elet_at ev7 h
      clear ev7
      rw [(osome2 h).2] at G
      refine lv_to (osome2 h).1 ?_
      exact kr131 _ _ _ G
    · have h := oif_neg c6 h
      refine lv_iload_n hx hb dX12_writeMap_39 rfl (lv_at hl 2 rfl) ?_
      refine lv_if_le (tgt := 76) hx hb dX12_writeMap_40 (by decide) (fun c8 => ?_) (fun c8 => ?_)
      · have h := oif_pos c8 h
        have hl := lv_sub hl [0, 1, 2] rfl
        exact tr_writeMap_b76 E hA hR hml kr9 kr131 ih _ _ _ _ _ _ h G hl
      · have h := oif_neg c8 h
        refine lv_iload_n hx hb dX12_writeMap_43 rfl (lv_at hl 2 rfl) ?_
        refine lv_aload_n hx hb dX12_writeMap_44 rfl (lv_at hl 0 rfl) ?_
        refine m_get E G 10 (v := .ref (ad 10)) (by decide) (.tail _ qM_7) rfl dX12_writeMap_45 rfl ?_
        refine lv_bipush (v := 9) hx hb dX12_writeMap_48 (by decide) ?_
        refine m_iald E G 10 2 (n := 131) (k := 9) rfl rfl (by decide) (by decide) dX12_writeMap_50 ?_
        refine lv_topi (fun v9 ev9 => ?_)
        have h := elet_at ev9 h
        clear ev9
        obtain ⟨g10, h⟩ := oif_some h
        refine lv_irem hx hb dX12_writeMap_51 g10 ?_
        refine lv_topi (fun v11 ev11 => ?_)
        have h := elet_at ev11 h
        clear ev11
        refine lv_if_ne (tgt := 76) hx hb dX12_writeMap_52 (by decide) (fun c12 => ?_) (fun c12 => ?_)
        · have h := oif_neg c12 h
          have hl := lv_sub hl [0, 1, 2] rfl
          exact tr_writeMap_b76 E hA hR hml kr9 kr131 ih _ _ _ _ _ _ h G hl
        · have h := oif_pos c12 h
          refine lv_aload_n hx hb dX12_writeMap_55 rfl (lv_at hl 0 rfl) ?_
          refine m_get E G 27 (v := .ref (ad 27)) (by decide) (.tail _ qM_23) rfl dX12_writeMap_56 rfl ?_
          refine lv_aload_n hx hb dX12_writeMap_59 rfl (lv_at hl 0 rfl) ?_
          refine m_get E G 28 (v := .int (S2.1 28)) (by decide) (.tail _ qM_469) rfl dX12_writeMap_60 rfl ?_
          refine lv_topi (fun v13 ev13 => ?_)
          have h := elet_at ev13 h
          clear ev13
          refine lv_bipush (v := 59) hx hb dX12_writeMap_63 (by decide) ?_
          obtain ⟨g14, h⟩ := oif_some h
          refine m_iast E G 27 15 (k := v13.toNatClampNeg) (v := 59) rfl (fun _ => rfl) (inb_k g14).1 (inb_k g14).2 (by decide) dX12_writeMap_65 (fun H locs G => ?_)
          obtain ⟨S15, eS15, h⟩ := elet_some h
          rw [← eS15] at G
          clear eS15
          refine lv_aload_n hx hb dX12_writeMap_66 rfl (lv_at hl 0 rfl) ?_
          refine lv_dup hx hb dX12_writeMap_67 rfl ?_
          refine m_get E G 28 (v := .int (S15.1 28)) (by decide) (.tail _ qM_469) rfl dX12_writeMap_68 rfl ?_
          refine lv_topi (fun v16 ev16 => ?_)
          have h := elet_at ev16 h
          clear ev16
          refine lv_iconst (v := 1) hx hb dX12_writeMap_71 (by decide) ?_
          refine lv_iadd hx hb dX12_writeMap_72 ?_
          refine lv_topi (fun v17 ev17 => ?_)
          have h := elet_at ev17 h
          clear ev17
          refine m_put E G 28 (by decide) (.tail _ qM_469) (mw_i28 _ _ _ _ _ v17) dX12_writeMap_73 ⟨rfl, rfl, rfl⟩ rfl rfl (fun H locs G => ?_)
          obtain ⟨S18, eS18, h⟩ := elet_some h
          rw [← eS18] at G
          clear eS18
          have hl := lv_sub hl [0, 1, 2] rfl
          exact tr_writeMap_b76 E hA hR hml kr9 kr131 ih _ _ _ _ _ _ h G hl
def fr_writeMap (S : MS)  : Option (Int32 × MS) := obind2 (fr_mayAsk S 1) fun r5 S2 => if r5 = 0 then (some (0, S2)) else (obind2 (fr_bestIn_12 S2) fun r10 S7 => oif (inb r10 144 = true) <| elet (S7.2.2 25 r10.toNatClampNeg) fun v12 => elet (mi S7 28 0) fun S13 => fr_writeMap_b31 16384 S13 v12 0)
set_option maxHeartbeats 4000000 in
set_option maxRecDepth 100000 in
theorem tr_writeMap (l : Launch) (D : va_G) (cI cJ cZ : ClassId) (ad : Nat → Nat) (S : MS)  {r1 : Int32} {S1 : MS} (h : fr_writeMap S = some (r1, S1)) : mCi l yX12_writeMap (Cond.code yX12_writeMap cX12_writeMap 4 (some .int) :: wsM) 8 163 D cI cJ cZ ad S [] (fun r S9 => r = r1 ∧ S9 = S1) := by
  intro sz
  refine Met.ofW (cc := cX12_writeMap) (maxL := 4) (ret := (some .int)) (by decide) rfl ?_
  intro p e s m args below meth c s₁ B hml hv
  obtain ⟨rfl, hsz, hP, hK, hD0, hR⟩ := hv
  have hx := B.exec
  have hb := B.bytes
  have hr := B.returns
  have hts := atoms_spec (ws := (Cond.code yX12_writeMap cX12_writeMap 4 (some .int) :: wsM)) B.pre
  have hown : s.vm.findClass RX12 = some m.cls := findClass_of_methodNamed B.named
  have hlocks := B.notSynchronized
  subst hsz
  have hD := hD0.self (sz := s.heap.size)
  generalize hAe : va_A (MW cI cJ cZ ad S) s.heap.size = A at hD ⊢
  have hA : ∀ q : Nat, s.heap.size ≤ q → A q := fun q h => by rw [← hAe]; exact Or.inr h
  have G : mG D cI cJ cZ ad A s.heap s.heap [] S := ⟨hP, hD, va_S.rf⟩
  have E : mE p c cX12_writeMap s m ([.ref (ad 0)] : List Value).toArray (Cond.code yX12_writeMap cX12_writeMap 4 (some .int) :: wsM) D cI cJ cZ := ⟨hx, hb, hts, hown, hK, fun w h => .tail _ (iM_x h)⟩
  have hl := lv_entry ([.ref (ad 0)]) (n := 4) (Nat.le_of_ble_eq_true rfl)
  rw [lg_entry_eq]
  generalize (lg_sl ([.ref (ad 0)]) ++ List.replicate (4 - (lg_sl ([.ref (ad 0)])).length) Slot.unset).toArray = ls at hl ⊢
  have hl : lv_has ls 4 [(0, .ref (ad 0))] := hl
  unfold fr_writeMap at h
  refine lv_aload_n hx hb dX12_writeMap_0 rfl (lv_at hl 0 rfl) ?_
  refine lv_iconst (v := 1) hx hb dX12_writeMap_1 (by decide) ?_
  obtain ⟨r5, S2, eS2, h⟩ := obind2_some h
  refine m_calli (As := [.int 1]) (rest := []) E G hA hR hml (tr_mayAsk l D cI cJ cZ ad S 1 eS2) (cwV 1 hts (gmV qM_319 qM_320 qM_321 qM_35 qM_304) rfl rfl rfl (by decide +kernel) ⟨Nat.le_of_ble_eq_true rfl, Nat.le_of_ble_eq_true rfl⟩) rfl hl.1 rfl (lv_room (Nat.le_of_ble_eq_true rfl)) dX12_writeMap_2 ⟨Nat.zero_le _, Nat.zero_le _⟩ (fun q3 S4 H locs hq G => ?_)
  obtain ⟨hq1, hq2⟩ := hq
  rw [hq2] at G
  refine lv_to hq1 ?_
  clear hq1 hq2 eS2
  refine lv_if_ne (tgt := 10) hx hb dX12_writeMap_5 (by decide) (fun c6 => ?_) (fun c6 => ?_)
  · have h := oif_neg c6 h
    refine lv_aload_n hx hb dX12_writeMap_10 rfl (lv_at hl 0 rfl) ?_
    refine m_get E G 25 (v := .ref (ad 25)) (by decide) (.tail _ qM_21) rfl dX12_writeMap_11 rfl ?_
    refine lv_aload_n hx hb dX12_writeMap_14 rfl (lv_at hl 0 rfl) ?_
    refine lv_aload_n hx hb dX12_writeMap_15 rfl (lv_at hl 0 rfl) ?_
    refine m_get E G 12 (v := .ref (ad 12)) (by decide) (.tail _ qM_9) rfl dX12_writeMap_16 rfl ?_
    obtain ⟨r10, S7, eS7, h⟩ := obind2_some h
    refine m_calli (As := [.ref (ad 12)]) (rest := [.ref (ad 25)]) E G hA hR hml (tr_bestIn_12 l D cI cJ cZ ad S2 eS7) (cwV 1 hts (gmV qM_360 qM_361 qM_362 qM_35 qM_300) rfl rfl rfl (by decide +kernel) ⟨Nat.le_of_ble_eq_true rfl, Nat.le_of_ble_eq_true rfl⟩) rfl hl.1 rfl (lv_room (Nat.le_of_ble_eq_true rfl)) dX12_writeMap_19 ⟨Nat.zero_le _, Nat.zero_le _⟩ (fun q8 S9 H locs hq G => ?_)
    obtain ⟨hq1, hq2⟩ := hq
    rw [hq2] at G
    refine lv_to hq1 ?_
    clear hq1 hq2 eS7
    obtain ⟨g11, h⟩ := oif_some h
    refine m_lald E G 25 13 (n := 144) (k := r10.toNatClampNeg) rfl (inb_k g11).1 (inb_k g11).2 (by decide) dX12_writeMap_22 ?_
    refine lv_topl (fun v12 ev12 => ?_)
    have h := elet_at ev12 h
    clear ev12
    refine lv_lstore_n (lv' := [(1, .long v12), (0, .ref (ad 0))]) hx hb dX12_writeMap_23 rfl hl (by decide) rfl (fun ls hl => ?_)
    refine lv_aload_n hx hb dX12_writeMap_24 rfl (lv_at hl 1 rfl) ?_
    refine lv_iconst (v := 0) hx hb dX12_writeMap_25 (by decide) ?_
    refine m_put E G 28 (by decide) (.tail _ qM_469) (mw_i28 _ _ _ _ _ 0) dX12_writeMap_26 ⟨rfl, rfl, rfl⟩ rfl rfl (fun H locs G => ?_)
    obtain ⟨S13, eS13, h⟩ := elet_some h
    rw [← eS13] at G
    clear eS13
    refine lv_iconst (v := 0) hx hb dX12_writeMap_29 (by decide) ?_
    refine lv_istore_n (lv' := [(3, .int 0), (1, .long v12), (0, .ref (ad 0))]) hx hb dX12_writeMap_30 rfl hl (by decide) rfl (fun ls hl => ?_)
    have hl := lv_sub hl [2, 1, 0] rfl
    exact tr_writeMap_b31 E hA hR hml (fun H locs ls G => W.iret (v := r1) hx hb hr (fun t ht hW => ⟨⟨r1, S1, rfl, ⟨rfl, rfl⟩, ⟨by rw [ht]; exact G.1, va_K.moved hW.alike hK, G.2.1⟩⟩, G.2.2.F ht⟩) G.2.2.2.2 dX12_writeMap_9) (fun H locs ls G => W.iret (v := r1) hx hb hr (fun t ht hW => ⟨⟨r1, S1, rfl, ⟨rfl, rfl⟩, ⟨by rw [ht]; exact G.1, va_K.moved hW.alike hK, G.2.1⟩⟩, G.2.2.F ht⟩) G.2.2.2.2 dX12_writeMap_131) _ _ _ _ _ _ _ h G hl
  · have h := oif_pos c6 h
    refine lv_iconst (v := 0) hx hb dX12_writeMap_8 (by decide) ?_
    exact W.iret (v := 0) hx hb hr (fun t ht hW => ⟨⟨0, S2, rfl, osome2 h, ⟨by rw [ht]; exact G.1, va_K.moved hW.alike hK, G.2.1⟩⟩, G.2.2.F ht⟩) G.2.2.2.2 dX12_writeMap_9
def fr_mapByte_b40  (S : MS) (s0 : Int32) : Option (Int32 × MS) := some (s0, S)
set_option maxHeartbeats 4000000 in
set_option maxRecDepth 100000 in
theorem tr_mapByte_b40 {p : Program} {l : Launch} {e : Env} {s : State} {m : MethodId} {args : Array Value} {below : List Frame} {meth : Method} {c : Code} {Q : State → Prop} {D : va_G} {A : Nat → Prop} {H0 : Heap} {cI cJ cZ : ClassId} {ad : Nat → Nat} {r1 : Int32} {S1 : MS} (E : mE p c cX12_mapByte s m args (Cond.code yX12_mapByte cX12_mapByte 2 (some .int) :: wsM) D cI cJ cZ) (hA : ∀ q : Nat, H0.size ≤ q → A q) (hR : sR s) (hml : c.maxLocals = 2) (kr40 : ∀ (H : Heap) (locs : List Loc) (ls : Array Slot), mG D cI cJ cZ ad A H0 H locs S1 → W p l e { frames := 2, cells := 0, slots := 0, locals := 22 } s m args below meth c H locs 0 0 Q (F0 m 40 ls [.int r1])) : ∀ (S : MS) (H : Heap) (locs : List Loc) (ls : Array Slot) (s0 : Int32), fr_mapByte_b40 S s0 = some (r1, S1) → mG D cI cJ cZ ad A H0 H locs S → lv_has ls 2 [] → W p l e { frames := 2, cells := 0, slots := 0, locals := 22 } s m args below meth c H locs 0 0 Q (F0 m 40 ls [.int s0]) := by
  have hx := E.1
  have hb := E.2.1
  have hts := E.2.2.1
  have hown := E.2.2.2.1
  have hK := E.2.2.2.2.1
  intro S H locs ls s0 h G hl
  unfold fr_mapByte_b40 at h
  rw [(osome2 h).2] at G
  refine lv_to (osome2 h).1 ?_
  exact kr40 _ _ _ G
def fr_mapByte_b20  (S : MS) (s0 : Int32) (l1 : Int32) : Option (Int32 × MS) := elet (mi S 0 s0) fun S2 => elet (S2.1 0) fun v3 => if v3 = 0 then (oif (inb l1 160 = true) <| elet (S2.2.1 27 l1.toNatClampNeg) fun v6 => fr_mapByte_b40 S2 v6) else (fr_mapByte_b40 S2 0)
set_option maxHeartbeats 4000000 in
set_option maxRecDepth 100000 in
theorem tr_mapByte_b20 {p : Program} {l : Launch} {e : Env} {s : State} {m : MethodId} {args : Array Value} {below : List Frame} {meth : Method} {c : Code} {Q : State → Prop} {D : va_G} {A : Nat → Prop} {H0 : Heap} {cI cJ cZ : ClassId} {ad : Nat → Nat} {r1 : Int32} {S1 : MS} (E : mE p c cX12_mapByte s m args (Cond.code yX12_mapByte cX12_mapByte 2 (some .int) :: wsM) D cI cJ cZ) (hA : ∀ q : Nat, H0.size ≤ q → A q) (hR : sR s) (hml : c.maxLocals = 2) (kr40 : ∀ (H : Heap) (locs : List Loc) (ls : Array Slot), mG D cI cJ cZ ad A H0 H locs S1 → W p l e { frames := 2, cells := 0, slots := 0, locals := 22 } s m args below meth c H locs 0 0 Q (F0 m 40 ls [.int r1])) : ∀ (S : MS) (H : Heap) (locs : List Loc) (ls : Array Slot) (s0 : Int32) (l1 : Int32), fr_mapByte_b20 S s0 l1 = some (r1, S1) → mG D cI cJ cZ ad A H0 H locs S → lv_has ls 2 [(0, .ref (ad 0)), (1, .int l1)] → W p l e { frames := 2, cells := 0, slots := 0, locals := 22 } s m args below meth c H locs 0 0 Q (F0 m 20 ls [.int s0, .ref (ad 0)]) := by
  have hx := E.1
  have hb := E.2.1
  have hts := E.2.2.1
  have hown := E.2.2.2.1
  have hK := E.2.2.2.2.1
  intro S H locs ls s0 l1 h G hl
  unfold fr_mapByte_b20 at h
  refine m_put E G 0 (by decide) (.tail _ qM_26) (mw_i0 _ _ _ _ _ s0) dX12_mapByte_20 ⟨rfl, rfl, rfl⟩ rfl rfl (fun H locs G => ?_)
  obtain ⟨S2, eS2, h⟩ := elet_some h
  rw [← eS2] at G
  clear eS2
  refine lv_aload_n hx hb dX12_mapByte_23 rfl (lv_at hl 0 rfl) ?_
  refine m_get E G 0 (v := .int (S2.1 0)) (by decide) (.tail _ qM_26) rfl dX12_mapByte_24 rfl ?_
  refine lv_topi (fun v3 ev3 => ?_)
  have h := elet_at ev3 h
  clear ev3
  refine lv_if_ne (tgt := 39) hx hb dX12_mapByte_27 (by decide) (fun c4 => ?_) (fun c4 => ?_)
  · have h := oif_neg c4 h
    refine lv_iconst (v := 0) hx hb dX12_mapByte_39 (by decide) ?_
    have hl := lv_sub hl [] rfl
    exact tr_mapByte_b40 E hA hR hml kr40 _ _ _ _ _ h G hl
  · have h := oif_pos c4 h
    refine lv_aload_n hx hb dX12_mapByte_30 rfl (lv_at hl 0 rfl) ?_
    refine m_get E G 27 (v := .ref (ad 27)) (by decide) (.tail _ qM_23) rfl dX12_mapByte_31 rfl ?_
    refine lv_iload_n hx hb dX12_mapByte_34 rfl (lv_at hl 1 rfl) ?_
    obtain ⟨g5, h⟩ := oif_some h
    refine m_iald E G 27 15 (n := 160) (k := l1.toNatClampNeg) rfl (inb_k g5).1 (inb_k g5).2 (by decide) dX12_mapByte_35 ?_
    refine lv_topi (fun v6 ev6 => ?_)
    have h := elet_at ev6 h
    clear ev6
    refine lv_goto (tgt := 40) hx hb dX12_mapByte_36 (by decide) ?_
    have hl := lv_sub hl [] rfl
    exact tr_mapByte_b40 E hA hR hml kr40 _ _ _ _ _ h G hl
def fr_mapByte (S : MS) (a0 : Int32) : Option (Int32 × MS) := elet (S.1 28) fun v2 => elet (v2 - 1) fun v3 => obind (fr_in a0 0 v3) fun r4 => if r4 = 0 then (fr_mapByte_b20 S 1 a0) else (fr_mapByte_b20 S 0 a0)
set_option maxHeartbeats 4000000 in
set_option maxRecDepth 100000 in
theorem tr_mapByte (l : Launch) (D : va_G) (cI cJ cZ : ClassId) (ad : Nat → Nat) (S : MS) (a0 : Int32) {r1 : Int32} {S1 : MS} (h : fr_mapByte S a0 = some (r1, S1)) : mCi l yX12_mapByte (Cond.code yX12_mapByte cX12_mapByte 2 (some .int) :: wsM) 2 22 D cI cJ cZ ad S [.int a0] (fun r S9 => r = r1 ∧ S9 = S1) := by
  intro sz
  refine Met.ofW (cc := cX12_mapByte) (maxL := 2) (ret := (some .int)) (by decide) rfl ?_
  intro p e s m args below meth c s₁ B hml hv
  obtain ⟨rfl, hsz, hP, hK, hD0, hR⟩ := hv
  have hx := B.exec
  have hb := B.bytes
  have hr := B.returns
  have hts := atoms_spec (ws := (Cond.code yX12_mapByte cX12_mapByte 2 (some .int) :: wsM)) B.pre
  have hown : s.vm.findClass RX12 = some m.cls := findClass_of_methodNamed B.named
  have hlocks := B.notSynchronized
  subst hsz
  have hD := hD0.self (sz := s.heap.size)
  generalize hAe : va_A (MW cI cJ cZ ad S) s.heap.size = A at hD ⊢
  have hA : ∀ q : Nat, s.heap.size ≤ q → A q := fun q h => by rw [← hAe]; exact Or.inr h
  have G : mG D cI cJ cZ ad A s.heap s.heap [] S := ⟨hP, hD, va_S.rf⟩
  have E : mE p c cX12_mapByte s m ([.ref (ad 0), .int a0] : List Value).toArray (Cond.code yX12_mapByte cX12_mapByte 2 (some .int) :: wsM) D cI cJ cZ := ⟨hx, hb, hts, hown, hK, fun w h => .tail _ (iM_x h)⟩
  have hl := lv_entry ([.ref (ad 0), .int a0]) (n := 2) (Nat.le_of_ble_eq_true rfl)
  rw [lg_entry_eq]
  generalize (lg_sl ([.ref (ad 0), .int a0]) ++ List.replicate (2 - (lg_sl ([.ref (ad 0), .int a0])).length) Slot.unset).toArray = ls at hl ⊢
  have hl : lv_has ls 2 [(0, .ref (ad 0)), (1, .int a0)] := hl
  unfold fr_mapByte at h
  refine lv_aload_n hx hb dX12_mapByte_0 rfl (lv_at hl 0 rfl) ?_
  refine lv_iload_n hx hb dX12_mapByte_1 rfl (lv_at hl 1 rfl) ?_
  refine lv_iconst (v := 0) hx hb dX12_mapByte_2 (by decide) ?_
  refine lv_aload_n hx hb dX12_mapByte_3 rfl (lv_at hl 0 rfl) ?_
  refine m_get E G 28 (v := .int (S.1 28)) (by decide) (.tail _ qM_469) rfl dX12_mapByte_4 rfl ?_
  refine lv_topi (fun v2 ev2 => ?_)
  have h := elet_at ev2 h
  clear ev2
  refine lv_iconst (v := 1) hx hb dX12_mapByte_7 (by decide) ?_
  refine lv_isub hx hb dX12_mapByte_8 ?_
  refine lv_topi (fun v3 ev3 => ?_)
  have h := elet_at ev3 h
  clear ev3
  obtain ⟨r4, er4, h⟩ := obind_some h
  refine m_stat (As := [.int a0, .int 0, .int v3]) (rest := [.ref (ad 0)]) ⟨hx, hb, hml, hown, hts⟩ (tr_in l a0 0 v3 er4) (cwS 3 hts (gmS qM_52 qM_53 qM_35 qM_27) rfl rfl rfl (by decide +kernel) ⟨Nat.le_of_ble_eq_true rfl, Nat.le_of_ble_eq_true rfl⟩) rfl hl.1 rfl (lv_room (Nat.le_of_ble_eq_true rfl)) dX12_mapByte_9 ⟨Nat.zero_le _, Nat.zero_le _⟩ (fun q5 hq => ?_)
  refine lv_to hq ?_
  clear hq er4
  refine lv_if_eq (tgt := 19) hx hb dX12_mapByte_12 (by decide) (fun c6 => ?_) (fun c6 => ?_)
  · have h := oif_pos c6 h
    refine lv_iconst (v := 1) hx hb dX12_mapByte_19 (by decide) ?_
    have hl := lv_sub hl [0, 1] rfl
    exact tr_mapByte_b20 E hA hR hml (fun H locs ls G => W.iret (v := r1) hx hb hr (fun t ht hW => ⟨⟨r1, S1, rfl, ⟨rfl, rfl⟩, ⟨by rw [ht]; exact G.1, va_K.moved hW.alike hK, G.2.1⟩⟩, G.2.2.F ht⟩) G.2.2.2.2 dX12_mapByte_40) _ _ _ _ _ _ h G hl
  · have h := oif_neg c6 h
    refine lv_iconst (v := 0) hx hb dX12_mapByte_15 (by decide) ?_
    refine lv_goto (tgt := 20) hx hb dX12_mapByte_16 (by decide) ?_
    have hl := lv_sub hl [0, 1] rfl
    exact tr_mapByte_b20 E hA hR hml (fun H locs ls G => W.iret (v := r1) hx hb hr (fun t ht hW => ⟨⟨r1, S1, rfl, ⟨rfl, rfl⟩, ⟨by rw [ht]; exact G.1, va_K.moved hW.alike hK, G.2.1⟩⟩, G.2.2.F ht⟩) G.2.2.2.2 dX12_mapByte_40) _ _ _ _ _ _ h G hl
def fr_copy_12_14_b3  : Nat → MS → Int32 → Int32 → Int32 → Option (MS)
  | 0, _, _, _, _ => none
  | n + 1, S, l1, l3, l4 => if 2455 ≤ l4 then (some S) else (elet (l3 + l4) fun v3 => elet (l1 + l4) fun v4 => oif (inb v4 2455 = true) <| elet (S.2.1 12 v4.toNatClampNeg) fun v6 => oif (inb v3 2455 = true) <| elet (mf S 14 (upd (S.2.1 14) v3.toNatClampNeg v6)) fun S8 => elet (l4 + Int32.ofInt (1)) fun v9 => fr_copy_12_14_b3 n S8 l1 l3 v9)
set_option maxHeartbeats 4000000 in
set_option maxRecDepth 100000 in
theorem tr_copy_12_14_b3 {p : Program} {l : Launch} {e : Env} {s : State} {m : MethodId} {args : Array Value} {below : List Frame} {meth : Method} {c : Code} {Q : State → Prop} {D : va_G} {A : Nat → Prop} {H0 : Heap} {cI cJ cZ : ClassId} {ad : Nat → Nat} {S1 : MS} (E : mE p c cX12_copy s m args (Cond.code yX12_copy cX12_copy 5 none :: wsM) D cI cJ cZ) (hA : ∀ q : Nat, H0.size ≤ q → A q) (hR : sR s) (hml : c.maxLocals = 5) (kr29 : ∀ (H : Heap) (locs : List Loc) (ls : Array Slot), mG D cI cJ cZ ad A H0 H locs S1 → W p l e { frames := 1, cells := 0, slots := 0, locals := 0 } s m args below meth c H locs 0 0 Q (F0 m 29 ls [])) : ∀ n : Nat, ∀ (S : MS) (H : Heap) (locs : List Loc) (ls : Array Slot) (l1 : Int32) (l3 : Int32) (l4 : Int32), fr_copy_12_14_b3 n S l1 l3 l4 = some S1 → mG D cI cJ cZ ad A H0 H locs S → lv_has ls 5 [(0, .ref (ad 12)), (1, .int l1), (2, .ref (ad 14)), (3, .int l3), (4, .int l4)] → W p l e { frames := 1, cells := 0, slots := 0, locals := 0 } s m args below meth c H locs 0 0 Q (F0 m 3 ls []) := by
  have hx := E.1
  have hb := E.2.1
  have hts := E.2.2.1
  have hown := E.2.2.2.1
  have hK := E.2.2.2.2.1
  intro n
  induction n with
  | zero =>
    intro S H locs ls l1 l3 l4 h
    have h : (none : Option (MS)) = some S1 := h
    cases h
  | succ n ih =>
    intro S H locs ls l1 l3 l4 h G hl
    unfold fr_copy_12_14_b3 at h
    refine lv_iload hx hb dX12_copy_3 (lv_at hl 4 rfl) ?_
    refine lv_sipush (v := 2455) hx hb dX12_copy_5 (by decide) ?_
    refine lv_icmp_ge (tgt := 29) hx hb dX12_copy_8 (by decide) (fun c2 => ?_) (fun c2 => ?_)
    · have h := oif_pos c2 h
      rw [osome1 h] at G
      exact kr29 _ _ _ G
    · have h := oif_neg c2 h
      refine lv_aload_n hx hb dX12_copy_11 rfl (lv_at hl 2 rfl) ?_
      refine lv_iload_n hx hb dX12_copy_12 rfl (lv_at hl 3 rfl) ?_
      refine lv_iload hx hb dX12_copy_13 (lv_at hl 4 rfl) ?_
      refine lv_iadd hx hb dX12_copy_15 ?_
      refine lv_topi (fun v3 ev3 => ?_)
      have h := elet_at ev3 h
      clear ev3
      refine lv_aload_n hx hb dX12_copy_16 rfl (lv_at hl 0 rfl) ?_
      refine lv_iload_n hx hb dX12_copy_17 rfl (lv_at hl 1 rfl) ?_
      refine lv_iload hx hb dX12_copy_18 (lv_at hl 4 rfl) ?_
      refine lv_iadd hx hb dX12_copy_20 ?_
      refine lv_topi (fun v4 ev4 => ?_)
      have h := elet_at ev4 h
      clear ev4
      obtain ⟨g5, h⟩ := oif_some h
      refine m_iald E G 12 4 (n := 2455) (k := v4.toNatClampNeg) rfl (inb_k g5).1 (inb_k g5).2 (by decide) dX12_copy_21 ?_
      refine lv_topi (fun v6 ev6 => ?_)
      have h := elet_at ev6 h
      clear ev6
      obtain ⟨g7, h⟩ := oif_some h
      refine m_iast E G 14 6 (k := v3.toNatClampNeg) (v := v6) rfl (fun _ => rfl) (inb_k g7).1 (inb_k g7).2 (by decide) dX12_copy_22 (fun H locs G => ?_)
      obtain ⟨S8, eS8, h⟩ := elet_some h
      rw [← eS8] at G
      clear eS8
      obtain ⟨v9, ev9, h⟩ := elet_some h
      refine lv_iinc (v := v9) (lv' := [(4, .int v9), (0, .ref (ad 12)), (1, .int l1), (2, .ref (ad 14)), (3, .int l3)]) hx hb dX12_copy_23 hl (k := 4) rfl ev9.symm (by decide) rfl (fun ls hl => ?_)
      refine lv_goto (tgt := 3) hx hb dX12_copy_26 (by decide) ?_
      have hl := lv_sub hl [1, 2, 3, 4, 0] rfl
      exact ih _ _ _ _ _ _ _ h G hl
def fr_copy_12_14 (S : MS) (a1 : Int32) (a3 : Int32) : Option (MS) := fr_copy_12_14_b3 16384 S a1 a3 0
set_option maxHeartbeats 4000000 in
set_option maxRecDepth 100000 in
theorem tr_copy_12_14 (l : Launch) (D : va_G) (cI cJ cZ : ClassId) (ad : Nat → Nat) (S : MS) (a1 : Int32) (a3 : Int32) {S1 : MS} (h : fr_copy_12_14 S a1 a3 = some S1) : mCs l yX12_copy (Cond.code yX12_copy cX12_copy 5 none :: wsM) 1 0 D cI cJ cZ ad S [.ref (ad 12), .int a1, .ref (ad 14), .int a3] (fun S9 => S9 = S1) := by
  intro sz
  refine Met.ofW (cc := cX12_copy) (maxL := 5) (ret := none) (by decide) rfl ?_
  intro p e s m args below meth c s₁ B hml hv
  obtain ⟨rfl, hsz, hP, hK, hD0, hR⟩ := hv
  have hx := B.exec
  have hb := B.bytes
  have hr := B.returns
  have hts := atoms_spec (ws := (Cond.code yX12_copy cX12_copy 5 none :: wsM)) B.pre
  have hown : s.vm.findClass RX12 = some m.cls := findClass_of_methodNamed B.named
  have hlocks := B.notSynchronized
  subst hsz
  have hD := hD0.self (sz := s.heap.size)
  generalize hAe : va_A (MW cI cJ cZ ad S) s.heap.size = A at hD ⊢
  have hA : ∀ q : Nat, s.heap.size ≤ q → A q := fun q h => by rw [← hAe]; exact Or.inr h
  have G : mG D cI cJ cZ ad A s.heap s.heap [] S := ⟨hP, hD, va_S.rf⟩
  have E : mE p c cX12_copy s m ([.ref (ad 12), .int a1, .ref (ad 14), .int a3] : List Value).toArray (Cond.code yX12_copy cX12_copy 5 none :: wsM) D cI cJ cZ := ⟨hx, hb, hts, hown, hK, fun w h => .tail _ (iM_x h)⟩
  have hl := lv_entry ([.ref (ad 12), .int a1, .ref (ad 14), .int a3]) (n := 5) (Nat.le_of_ble_eq_true rfl)
  rw [lg_entry_eq]
  generalize (lg_sl ([.ref (ad 12), .int a1, .ref (ad 14), .int a3]) ++ List.replicate (5 - (lg_sl ([.ref (ad 12), .int a1, .ref (ad 14), .int a3])).length) Slot.unset).toArray = ls at hl ⊢
  have hl : lv_has ls 5 [(0, .ref (ad 12)), (1, .int a1), (2, .ref (ad 14)), (3, .int a3)] := hl
  unfold fr_copy_12_14 at h
  refine lv_iconst (v := 0) hx hb dX12_copy_0 (by decide) ?_
  refine lv_istore (lv' := [(4, .int 0), (0, .ref (ad 12)), (1, .int a1), (2, .ref (ad 14)), (3, .int a3)]) hx hb dX12_copy_1 hl (by decide) rfl (fun ls hl => ?_)
  have hl := lv_sub hl [1, 2, 3, 4, 0] rfl
  exact tr_copy_12_14_b3 E hA hR hml (fun H locs ls G => W.vret hx hb hr (fun t ht hW => ⟨⟨S1, rfl, rfl, ⟨by rw [ht]; exact G.1, va_K.moved hW.alike hK, G.2.1⟩⟩, G.2.2.F ht⟩) G.2.2.2.2 dX12_copy_29) _ _ _ _ _ _ _ _ h G hl
def fr_sourcePlace_14_b45  (S : MS) (s0 : Int32) : Option (Int32 × MS) := some (s0, S)
set_option maxHeartbeats 4000000 in
set_option maxRecDepth 100000 in
theorem tr_sourcePlace_14_b45 {p : Program} {l : Launch} {e : Env} {s : State} {m : MethodId} {args : Array Value} {below : List Frame} {meth : Method} {c : Code} {Q : State → Prop} {D : va_G} {A : Nat → Prop} {H0 : Heap} {cI cJ cZ : ClassId} {ad : Nat → Nat} {r1 : Int32} {S1 : MS} (E : mE p c cX12_sourcePlace s m args (Cond.code yX12_sourcePlace cX12_sourcePlace 5 (some .int) :: wsM) D cI cJ cZ) (hA : ∀ q : Nat, H0.size ≤ q → A q) (hR : sR s) (hml : c.maxLocals = 5) (kr45 : ∀ (H : Heap) (locs : List Loc) (ls : Array Slot), mG D cI cJ cZ ad A H0 H locs S1 → W p l e { frames := 1, cells := 0, slots := 0, locals := 0 } s m args below meth c H locs 0 0 Q (F0 m 45 ls [.int r1])) : ∀ (S : MS) (H : Heap) (locs : List Loc) (ls : Array Slot) (s0 : Int32), fr_sourcePlace_14_b45 S s0 = some (r1, S1) → mG D cI cJ cZ ad A H0 H locs S → lv_has ls 5 [] → W p l e { frames := 1, cells := 0, slots := 0, locals := 0 } s m args below meth c H locs 0 0 Q (F0 m 45 ls [.int s0]) := by
  have hx := E.1
  have hb := E.2.1
  have hts := E.2.2.1
  have hown := E.2.2.2.1
  have hK := E.2.2.2.2.1
  intro S H locs ls s0 h G hl
  unfold fr_sourcePlace_14_b45 at h
  rw [(osome2 h).2] at G
  refine lv_to (osome2 h).1 ?_
  exact kr45 _ _ _ G
def fr_sourcePlace_14 (S : MS) (a1 : Int32) (a2 : Int32) (a3 : Int32) : Option (Int32 × MS) := if a2 = 0 then (elet (31 + a1) fun v3 => oif (inb v3 2455 = true) <| elet (S.2.1 14 v3.toNatClampNeg) fun v5 => elet (43 + a1) fun v6 => oif (inb v6 2455 = true) <| elet (S.2.1 14 v6.toNatClampNeg) fun v8 => elet (v8 * a3) fun v9 => elet (v9 / 100) fun v10 => elet (v5 + v10) fun v11 => fr_sourcePlace_14_b45 S v11) else (elet (37 + a1) fun v12 => oif (inb v12 2455 = true) <| elet (S.2.1 14 v12.toNatClampNeg) fun v14 => elet (49 + a1) fun v15 => oif (inb v15 2455 = true) <| elet (S.2.1 14 v15.toNatClampNeg) fun v17 => elet (v17 * a3) fun v18 => elet (v18 / 100) fun v19 => elet (v14 + v19) fun v20 => fr_sourcePlace_14_b45 S v20)
set_option maxHeartbeats 4000000 in
set_option maxRecDepth 100000 in
theorem tr_sourcePlace_14 (l : Launch) (D : va_G) (cI cJ cZ : ClassId) (ad : Nat → Nat) (S : MS) (a1 : Int32) (a2 : Int32) (a3 : Int32) {r1 : Int32} {S1 : MS} (h : fr_sourcePlace_14 S a1 a2 a3 = some (r1, S1)) : mCi l yX12_sourcePlace (Cond.code yX12_sourcePlace cX12_sourcePlace 5 (some .int) :: wsM) 1 0 D cI cJ cZ ad S [.ref (ad 14), .int a1, .int a2, .int a3] (fun r S9 => r = r1 ∧ S9 = S1) := by
  intro sz
  refine Met.ofW (cc := cX12_sourcePlace) (maxL := 5) (ret := (some .int)) (by decide) rfl ?_
  intro p e s m args below meth c s₁ B hml hv
  obtain ⟨rfl, hsz, hP, hK, hD0, hR⟩ := hv
  have hx := B.exec
  have hb := B.bytes
  have hr := B.returns
  have hts := atoms_spec (ws := (Cond.code yX12_sourcePlace cX12_sourcePlace 5 (some .int) :: wsM)) B.pre
  have hown : s.vm.findClass RX12 = some m.cls := findClass_of_methodNamed B.named
  have hlocks := B.notSynchronized
  subst hsz
  have hD := hD0.self (sz := s.heap.size)
  generalize hAe : va_A (MW cI cJ cZ ad S) s.heap.size = A at hD ⊢
  have hA : ∀ q : Nat, s.heap.size ≤ q → A q := fun q h => by rw [← hAe]; exact Or.inr h
  have G : mG D cI cJ cZ ad A s.heap s.heap [] S := ⟨hP, hD, va_S.rf⟩
  have E : mE p c cX12_sourcePlace s m ([.ref (ad 0), .ref (ad 14), .int a1, .int a2, .int a3] : List Value).toArray (Cond.code yX12_sourcePlace cX12_sourcePlace 5 (some .int) :: wsM) D cI cJ cZ := ⟨hx, hb, hts, hown, hK, fun w h => .tail _ (iM_x h)⟩
  have hl := lv_entry ([.ref (ad 0), .ref (ad 14), .int a1, .int a2, .int a3]) (n := 5) (Nat.le_of_ble_eq_true rfl)
  rw [lg_entry_eq]
  generalize (lg_sl ([.ref (ad 0), .ref (ad 14), .int a1, .int a2, .int a3]) ++ List.replicate (5 - (lg_sl ([.ref (ad 0), .ref (ad 14), .int a1, .int a2, .int a3])).length) Slot.unset).toArray = ls at hl ⊢
  have hl : lv_has ls 5 [(0, .ref (ad 0)), (1, .ref (ad 14)), (2, .int a1), (3, .int a2), (4, .int a3)] := hl
  unfold fr_sourcePlace_14 at h
  refine lv_iload_n hx hb dX12_sourcePlace_0 rfl (lv_at hl 3 rfl) ?_
  refine lv_if_ne (tgt := 26) hx hb dX12_sourcePlace_1 (by decide) (fun c2 => ?_) (fun c2 => ?_)
  · have h := oif_neg c2 h
    refine lv_aload_n hx hb dX12_sourcePlace_26 rfl (lv_at hl 1 rfl) ?_
    refine lv_bipush (v := 37) hx hb dX12_sourcePlace_27 (by decide) ?_
    refine lv_iload_n hx hb dX12_sourcePlace_29 rfl (lv_at hl 2 rfl) ?_
    refine lv_iadd hx hb dX12_sourcePlace_30 ?_
    refine lv_topi (fun v12 ev12 => ?_)
    have h := elet_at ev12 h
    clear ev12
    obtain ⟨g13, h⟩ := oif_some h
    refine m_iald E G 14 6 (n := 2455) (k := v12.toNatClampNeg) rfl (inb_k g13).1 (inb_k g13).2 (by decide) dX12_sourcePlace_31 ?_
    refine lv_topi (fun v14 ev14 => ?_)
    have h := elet_at ev14 h
    clear ev14
    refine lv_aload_n hx hb dX12_sourcePlace_32 rfl (lv_at hl 1 rfl) ?_
    refine lv_bipush (v := 49) hx hb dX12_sourcePlace_33 (by decide) ?_
    refine lv_iload_n hx hb dX12_sourcePlace_35 rfl (lv_at hl 2 rfl) ?_
    refine lv_iadd hx hb dX12_sourcePlace_36 ?_
    refine lv_topi (fun v15 ev15 => ?_)
    have h := elet_at ev15 h
    clear ev15
    obtain ⟨g16, h⟩ := oif_some h
    refine m_iald E G 14 6 (n := 2455) (k := v15.toNatClampNeg) rfl (inb_k g16).1 (inb_k g16).2 (by decide) dX12_sourcePlace_37 ?_
    refine lv_topi (fun v17 ev17 => ?_)
    have h := elet_at ev17 h
    clear ev17
    refine lv_iload hx hb dX12_sourcePlace_38 (lv_at hl 4 rfl) ?_
    refine lv_imul hx hb dX12_sourcePlace_40 ?_
    refine lv_topi (fun v18 ev18 => ?_)
    have h := elet_at ev18 h
    clear ev18
    refine lv_bipush (v := 100) hx hb dX12_sourcePlace_41 (by decide) ?_
    refine lv_idiv hx hb dX12_sourcePlace_43 (by decide) ?_
    refine lv_topi (fun v19 ev19 => ?_)
    have h := elet_at ev19 h
    clear ev19
    refine lv_iadd hx hb dX12_sourcePlace_44 ?_
    refine lv_topi (fun v20 ev20 => ?_)
    have h := elet_at ev20 h
    clear ev20
    have hl := lv_sub hl [] rfl
    exact tr_sourcePlace_14_b45 E hA hR hml (fun H locs ls G => W.iret (v := r1) hx hb hr (fun t ht hW => ⟨⟨r1, S1, rfl, ⟨rfl, rfl⟩, ⟨by rw [ht]; exact G.1, va_K.moved hW.alike hK, G.2.1⟩⟩, G.2.2.F ht⟩) G.2.2.2.2 dX12_sourcePlace_45) _ _ _ _ _ h G hl
  · have h := oif_pos c2 h
    refine lv_aload_n hx hb dX12_sourcePlace_4 rfl (lv_at hl 1 rfl) ?_
    refine lv_bipush (v := 31) hx hb dX12_sourcePlace_5 (by decide) ?_
    refine lv_iload_n hx hb dX12_sourcePlace_7 rfl (lv_at hl 2 rfl) ?_
    refine lv_iadd hx hb dX12_sourcePlace_8 ?_
    refine lv_topi (fun v3 ev3 => ?_)
    have h := elet_at ev3 h
    clear ev3
    obtain ⟨g4, h⟩ := oif_some h
    refine m_iald E G 14 6 (n := 2455) (k := v3.toNatClampNeg) rfl (inb_k g4).1 (inb_k g4).2 (by decide) dX12_sourcePlace_9 ?_
    refine lv_topi (fun v5 ev5 => ?_)
    have h := elet_at ev5 h
    clear ev5
    refine lv_aload_n hx hb dX12_sourcePlace_10 rfl (lv_at hl 1 rfl) ?_
    refine lv_bipush (v := 43) hx hb dX12_sourcePlace_11 (by decide) ?_
    refine lv_iload_n hx hb dX12_sourcePlace_13 rfl (lv_at hl 2 rfl) ?_
    refine lv_iadd hx hb dX12_sourcePlace_14 ?_
    refine lv_topi (fun v6 ev6 => ?_)
    have h := elet_at ev6 h
    clear ev6
    obtain ⟨g7, h⟩ := oif_some h
    refine m_iald E G 14 6 (n := 2455) (k := v6.toNatClampNeg) rfl (inb_k g7).1 (inb_k g7).2 (by decide) dX12_sourcePlace_15 ?_
    refine lv_topi (fun v8 ev8 => ?_)
    have h := elet_at ev8 h
    clear ev8
    refine lv_iload hx hb dX12_sourcePlace_16 (lv_at hl 4 rfl) ?_
    refine lv_imul hx hb dX12_sourcePlace_18 ?_
    refine lv_topi (fun v9 ev9 => ?_)
    have h := elet_at ev9 h
    clear ev9
    refine lv_bipush (v := 100) hx hb dX12_sourcePlace_19 (by decide) ?_
    refine lv_idiv hx hb dX12_sourcePlace_21 (by decide) ?_
    refine lv_topi (fun v10 ev10 => ?_)
    have h := elet_at ev10 h
    clear ev10
    refine lv_iadd hx hb dX12_sourcePlace_22 ?_
    refine lv_topi (fun v11 ev11 => ?_)
    have h := elet_at ev11 h
    clear ev11
    refine lv_goto (tgt := 45) hx hb dX12_sourcePlace_23 (by decide) ?_
    have hl := lv_sub hl [] rfl
    exact tr_sourcePlace_14_b45 E hA hR hml (fun H locs ls G => W.iret (v := r1) hx hb hr (fun t ht hW => ⟨⟨r1, S1, rfl, ⟨rfl, rfl⟩, ⟨by rw [ht]; exact G.1, va_K.moved hW.alike hK, G.2.1⟩⟩, G.2.2.F ht⟩) G.2.2.2.2 dX12_sourcePlace_45) _ _ _ _ _ h G hl
def fr_rawAt_14_b127 (k71 : MS → Int32 → Int32 → Int32 → Int32 → Option (Int32 × MS)) (S : MS) (s0 : Int32) (s1 : Int32) (l2 : Int32) (l4 : Int32) (l6 : Int32) : Option (Int32 × MS) := elet (s1 + s0) fun v2 => elet (l6 + Int32.ofInt (1)) fun v3 => k71 S l2 l4 v2 v3
set_option maxHeartbeats 4000000 in
set_option maxRecDepth 100000 in
theorem tr_rawAt_14_b127 {p : Program} {l : Launch} {e : Env} {s : State} {m : MethodId} {args : Array Value} {below : List Frame} {meth : Method} {c : Code} {Q : State → Prop} {D : va_G} {A : Nat → Prop} {H0 : Heap} {cI cJ cZ : ClassId} {ad : Nat → Nat} {r1 : Int32} {S1 : MS} (E : mE p c cX12_rawAt s m args (Cond.code yX12_rawAt cX12_rawAt 7 (some .int) :: wsM) D cI cJ cZ) (hA : ∀ q : Nat, H0.size ≤ q → A q) (hR : sR s) (hml : c.maxLocals = 7) (kr19 : ∀ (H : Heap) (locs : List Loc) (ls : Array Slot), mG D cI cJ cZ ad A H0 H locs S1 → W p l e { frames := 5, cells := 0, slots := 0, locals := 120 } s m args below meth c H locs 0 0 Q (F0 m 19 ls [.int r1])) (kr64 : ∀ (H : Heap) (locs : List Loc) (ls : Array Slot), mG D cI cJ cZ ad A H0 H locs S1 → W p l e { frames := 5, cells := 0, slots := 0, locals := 120 } s m args below meth c H locs 0 0 Q (F0 m 64 ls [.int r1])) (kr148 : ∀ (H : Heap) (locs : List Loc) (ls : Array Slot), mG D cI cJ cZ ad A H0 H locs S1 → W p l e { frames := 5, cells := 0, slots := 0, locals := 120 } s m args below meth c H locs 0 0 Q (F0 m 148 ls [.int r1])) {k71 : MS → Int32 → Int32 → Int32 → Int32 → Option (Int32 × MS)} (hk71 : ∀ (S : MS) (H : Heap) (locs : List Loc) (ls : Array Slot) (l2 : Int32) (l4 : Int32) (l5 : Int32) (l6 : Int32), k71 S l2 l4 l5 l6 = some (r1, S1) → mG D cI cJ cZ ad A H0 H locs S → lv_has ls 7 [(0, .ref (ad 0)), (1, .ref (ad 14)), (2, .int l2), (4, .int l4), (5, .int l5), (6, .int l6)] → W p l e { frames := 5, cells := 0, slots := 0, locals := 120 } s m args below meth c H locs 0 0 Q (F0 m 71 ls [])) : ∀ (S : MS) (H : Heap) (locs : List Loc) (ls : Array Slot) (s0 : Int32) (s1 : Int32) (l2 : Int32) (l4 : Int32) (l6 : Int32), fr_rawAt_14_b127 k71 S s0 s1 l2 l4 l6 = some (r1, S1) → mG D cI cJ cZ ad A H0 H locs S → lv_has ls 7 [(0, .ref (ad 0)), (1, .ref (ad 14)), (2, .int l2), (4, .int l4), (6, .int l6)] → W p l e { frames := 5, cells := 0, slots := 0, locals := 120 } s m args below meth c H locs 0 0 Q (F0 m 127 ls [.int s0, .int s1]) := by
  have hx := E.1
  have hb := E.2.1
  have hts := E.2.2.1
  have hown := E.2.2.2.1
  have hK := E.2.2.2.2.1
  intro S H locs ls s0 s1 l2 l4 l6 h G hl
  unfold fr_rawAt_14_b127 at h
  refine lv_iadd hx hb dX12_rawAt_127 ?_
  refine lv_topi (fun v2 ev2 => ?_)
  have h := elet_at ev2 h
  clear ev2
  refine lv_istore (lv' := [(5, .int v2), (0, .ref (ad 0)), (1, .ref (ad 14)), (2, .int l2), (4, .int l4), (6, .int l6)]) hx hb dX12_rawAt_128 hl (by decide) rfl (fun ls hl => ?_)
  obtain ⟨v3, ev3, h⟩ := elet_some h
  refine lv_iinc (v := v3) (lv' := [(6, .int v3), (5, .int v2), (0, .ref (ad 0)), (1, .ref (ad 14)), (2, .int l2), (4, .int l4)]) hx hb dX12_rawAt_130 hl (k := 5) rfl ev3.symm (by decide) rfl (fun ls hl => ?_)
  refine lv_goto (tgt := 71) hx hb dX12_rawAt_133 (by decide) ?_
  have hl := lv_sub hl [2, 3, 4, 5, 1, 0] rfl
  exact hk71 _ _ _ _ _ _ _ _ h G hl
def fr_rawAt_14_b71  : Nat → MS → Int32 → Int32 → Int32 → Int32 → Option (Int32 × MS)
  | 0, _, _, _, _, _ => none
  | n + 1, S, l2, l4, l5, l6 => elet (S.2.1 10 5) fun v2 => if v2 ≤ l6 then (elet (35 + l2) fun v4 => oif (inb v4 131 = true) <| elet (S.2.1 10 v4.toNatClampNeg) fun v6 => elet (v6 * l5) fun v7 => some (v7, S)) else (elet (25 + l6) fun v8 => oif (inb v8 2455 = true) <| elet (S.2.1 14 v8.toNatClampNeg) fun v10 => if v10 = 0 then (fr_rawAt_14_b127 (fr_rawAt_14_b71 n) S 0 l5 l2 l4 l6) else (obind2 (fr_sourcePlace_14 S l6 0 l4) fun r15 S12 => obind2 (fr_sourcePlace_14 S12 l6 1 l4) fun r19 S16 => obind2 (fr_heardOf S16 l2 r15 r19 l6 l4) fun r23 S20 => fr_rawAt_14_b127 (fr_rawAt_14_b71 n) S20 r23 l5 l2 l4 l6))
set_option maxHeartbeats 4000000 in
set_option maxRecDepth 100000 in
theorem tr_rawAt_14_b71 {p : Program} {l : Launch} {e : Env} {s : State} {m : MethodId} {args : Array Value} {below : List Frame} {meth : Method} {c : Code} {Q : State → Prop} {D : va_G} {A : Nat → Prop} {H0 : Heap} {cI cJ cZ : ClassId} {ad : Nat → Nat} {r1 : Int32} {S1 : MS} (E : mE p c cX12_rawAt s m args (Cond.code yX12_rawAt cX12_rawAt 7 (some .int) :: wsM) D cI cJ cZ) (hA : ∀ q : Nat, H0.size ≤ q → A q) (hR : sR s) (hml : c.maxLocals = 7) (kr19 : ∀ (H : Heap) (locs : List Loc) (ls : Array Slot), mG D cI cJ cZ ad A H0 H locs S1 → W p l e { frames := 5, cells := 0, slots := 0, locals := 120 } s m args below meth c H locs 0 0 Q (F0 m 19 ls [.int r1])) (kr64 : ∀ (H : Heap) (locs : List Loc) (ls : Array Slot), mG D cI cJ cZ ad A H0 H locs S1 → W p l e { frames := 5, cells := 0, slots := 0, locals := 120 } s m args below meth c H locs 0 0 Q (F0 m 64 ls [.int r1])) (kr148 : ∀ (H : Heap) (locs : List Loc) (ls : Array Slot), mG D cI cJ cZ ad A H0 H locs S1 → W p l e { frames := 5, cells := 0, slots := 0, locals := 120 } s m args below meth c H locs 0 0 Q (F0 m 148 ls [.int r1])) : ∀ n : Nat, ∀ (S : MS) (H : Heap) (locs : List Loc) (ls : Array Slot) (l2 : Int32) (l4 : Int32) (l5 : Int32) (l6 : Int32), fr_rawAt_14_b71 n S l2 l4 l5 l6 = some (r1, S1) → mG D cI cJ cZ ad A H0 H locs S → lv_has ls 7 [(0, .ref (ad 0)), (1, .ref (ad 14)), (2, .int l2), (4, .int l4), (5, .int l5), (6, .int l6)] → W p l e { frames := 5, cells := 0, slots := 0, locals := 120 } s m args below meth c H locs 0 0 Q (F0 m 71 ls []) := by
  have hx := E.1
  have hb := E.2.1
  have hts := E.2.2.1
  have hown := E.2.2.2.1
  have hK := E.2.2.2.2.1
  intro n
  induction n with
  | zero =>
    intro S H locs ls l2 l4 l5 l6 h
    have h : (none : Option (Int32 × MS)) = some (r1, S1) := h
    cases h
  | succ n ih =>
    intro S H locs ls l2 l4 l5 l6 h G hl
    unfold fr_rawAt_14_b71 at h
    refine lv_iload hx hb dX12_rawAt_71 (lv_at hl 5 rfl) ?_
    refine lv_aload_n hx hb dX12_rawAt_73 rfl (lv_at hl 0 rfl) ?_
    refine m_get E G 10 (v := .ref (ad 10)) (by decide) (.tail _ qM_7) rfl dX12_rawAt_74 rfl ?_
    refine lv_iconst (v := 5) hx hb dX12_rawAt_77 (by decide) ?_
    refine m_iald E G 10 2 (n := 131) (k := 5) rfl rfl (by decide) (by decide) dX12_rawAt_78 ?_
    refine lv_topi (fun v2 ev2 => ?_)
    have h := elet_at ev2 h
    clear ev2
    refine lv_icmp_ge (tgt := 136) hx hb dX12_rawAt_79 (by decide) (fun c3 => ?_) (fun c3 => ?_)
    · have h := oif_pos c3 h
      refine lv_aload_n hx hb dX12_rawAt_136 rfl (lv_at hl 0 rfl) ?_
      refine m_get E G 10 (v := .ref (ad 10)) (by decide) (.tail _ qM_7) rfl dX12_rawAt_137 rfl ?_
      refine lv_bipush (v := 35) hx hb dX12_rawAt_140 (by decide) ?_
      refine lv_iload_n hx hb dX12_rawAt_142 rfl (lv_at hl 2 rfl) ?_
      refine lv_iadd hx hb dX12_rawAt_143 ?_
      refine lv_topi (fun v4 ev4 => ?_)
      have h := elet_at ev4 h
      clear ev4
      obtain ⟨g5, h⟩ := oif_some h
      refine m_iald E G 10 2 (n := 131) (k := v4.toNatClampNeg) rfl (inb_k g5).1 (inb_k g5).2 (by decide) dX12_rawAt_144 ?_
      refine lv_topi (fun v6 ev6 => ?_)
      have h := elet_at ev6 h
      clear ev6
      refine lv_iload hx hb dX12_rawAt_145 (lv_at hl 4 rfl) ?_
      refine lv_imul hx hb dX12_rawAt_147 ?_
      refine lv_topi (fun v7 ev7 => ?_)
      have h := elet_at ev7 h
      clear ev7
      rw [(osome2 h).2] at G
      refine lv_to (osome2 h).1 ?_
      exact kr148 _ _ _ G
    · have h := oif_neg c3 h
      refine lv_iload hx hb dX12_rawAt_82 (lv_at hl 4 rfl) ?_
      refine lv_aload_n hx hb dX12_rawAt_84 rfl (lv_at hl 1 rfl) ?_
      refine lv_bipush (v := 25) hx hb dX12_rawAt_85 (by decide) ?_
      refine lv_iload hx hb dX12_rawAt_87 (lv_at hl 5 rfl) ?_
      refine lv_iadd hx hb dX12_rawAt_89 ?_
      refine lv_topi (fun v8 ev8 => ?_)
      have h := elet_at ev8 h
      clear ev8
      obtain ⟨g9, h⟩ := oif_some h
      refine m_iald E G 14 6 (n := 2455) (k := v8.toNatClampNeg) rfl (inb_k g9).1 (inb_k g9).2 (by decide) dX12_rawAt_90 ?_
      refine lv_topi (fun v10 ev10 => ?_)
      have h := elet_at ev10 h
      clear ev10
      refine lv_if_ne (tgt := 98) hx hb dX12_rawAt_91 (by decide) (fun c11 => ?_) (fun c11 => ?_)
      · have h := oif_neg c11 h
        refine lv_aload_n hx hb dX12_rawAt_98 rfl (lv_at hl 0 rfl) ?_
        refine lv_iload_n hx hb dX12_rawAt_99 rfl (lv_at hl 2 rfl) ?_
        refine lv_aload_n hx hb dX12_rawAt_100 rfl (lv_at hl 0 rfl) ?_
        refine lv_aload_n hx hb dX12_rawAt_101 rfl (lv_at hl 1 rfl) ?_
        refine lv_iload hx hb dX12_rawAt_102 (lv_at hl 5 rfl) ?_
        refine lv_iconst (v := 0) hx hb dX12_rawAt_104 (by decide) ?_
        refine lv_iload hx hb dX12_rawAt_105 (lv_at hl 3 rfl) ?_
        obtain ⟨r15, S12, eS12, h⟩ := obind2_some h
        refine m_calli (As := [.ref (ad 14), .int l6, .int 0, .int l4]) (rest := [.int l2, .ref (ad 0), .int l5]) E G hA hR hml (tr_sourcePlace_14 l D cI cJ cZ ad S l6 0 l4 eS12) (cwV 4 hts (gmV qM_250 qM_251 qM_252 qM_35 qM_253) rfl rfl rfl (by decide +kernel) ⟨Nat.le_of_ble_eq_true rfl, Nat.le_of_ble_eq_true rfl⟩) rfl hl.1 rfl (lv_room (Nat.le_of_ble_eq_true rfl)) dX12_rawAt_107 ⟨Nat.zero_le _, Nat.zero_le _⟩ (fun q13 S14 H locs hq G => ?_)
        obtain ⟨hq1, hq2⟩ := hq
        rw [hq2] at G
        refine lv_to hq1 ?_
        clear hq1 hq2 eS12
        refine lv_aload_n hx hb dX12_rawAt_110 rfl (lv_at hl 0 rfl) ?_
        refine lv_aload_n hx hb dX12_rawAt_111 rfl (lv_at hl 1 rfl) ?_
        refine lv_iload hx hb dX12_rawAt_112 (lv_at hl 5 rfl) ?_
        refine lv_iconst (v := 1) hx hb dX12_rawAt_114 (by decide) ?_
        refine lv_iload hx hb dX12_rawAt_115 (lv_at hl 3 rfl) ?_
        obtain ⟨r19, S16, eS16, h⟩ := obind2_some h
        refine m_calli (As := [.ref (ad 14), .int l6, .int 1, .int l4]) (rest := [.int r15, .int l2, .ref (ad 0), .int l5]) E G hA hR hml (tr_sourcePlace_14 l D cI cJ cZ ad S12 l6 1 l4 eS16) (cwV 4 hts (gmV qM_250 qM_251 qM_252 qM_35 qM_253) rfl rfl rfl (by decide +kernel) ⟨Nat.le_of_ble_eq_true rfl, Nat.le_of_ble_eq_true rfl⟩) rfl hl.1 rfl (lv_room (Nat.le_of_ble_eq_true rfl)) dX12_rawAt_117 ⟨Nat.zero_le _, Nat.zero_le _⟩ (fun q17 S18 H locs hq G => ?_)
        obtain ⟨hq1, hq2⟩ := hq
        rw [hq2] at G
        refine lv_to hq1 ?_
        clear hq1 hq2 eS16
        refine lv_iload hx hb dX12_rawAt_120 (lv_at hl 5 rfl) ?_
        refine lv_iload hx hb dX12_rawAt_122 (lv_at hl 3 rfl) ?_
        obtain ⟨r23, S20, eS20, h⟩ := obind2_some h
        refine m_calli (As := [.int l2, .int r15, .int r19, .int l6, .int l4]) (rest := [.int l5]) E G hA hR hml (tr_heardOf l D cI cJ cZ ad S16 l2 r15 r19 l6 l4 eS20) (cwV 5 hts (gmV qM_228 qM_229 qM_230 qM_35 qM_231) rfl rfl rfl (by decide +kernel) ⟨Nat.le_of_ble_eq_true rfl, Nat.le_of_ble_eq_true rfl⟩) rfl hl.1 rfl (lv_room (Nat.le_of_ble_eq_true rfl)) dX12_rawAt_124 ⟨Nat.zero_le _, Nat.zero_le _⟩ (fun q21 S22 H locs hq G => ?_)
        obtain ⟨hq1, hq2⟩ := hq
        rw [hq2] at G
        refine lv_to hq1 ?_
        clear hq1 hq2 eS20
        have hl := lv_sub hl [0, 1, 2, 3, 5] rfl
        exact tr_rawAt_14_b127 E hA hR hml kr19 kr64 kr148 ih _ _ _ _ _ _ _ _ _ h G hl
      · have h := oif_pos c11 h
        refine lv_iconst (v := 0) hx hb dX12_rawAt_94 (by decide) ?_
        refine lv_goto (tgt := 127) hx hb dX12_rawAt_95 (by decide) ?_
        have hl := lv_sub hl [0, 1, 2, 3, 5] rfl
        exact tr_rawAt_14_b127 E hA hR hml kr19 kr64 kr148 ih _ _ _ _ _ _ _ _ _ h G hl
def fr_rawAt_14 (S : MS) (a1 : Int32) (a2 : Int32) : Option (Int32 × MS) := elet (83 + a1) fun v2 => oif (inb v2 131 = true) <| elet (S.2.1 10 v2.toNatClampNeg) fun v4 => elet (a2 - v4) fun v5 => if 0 ≤ v5 then (elet (S.1 21) fun v7 => if v7 = (-1) then (fr_rawAt_14_b71 16384 S a1 v5 0 0) else (elet (35 + a1) fun v9 => oif (inb v9 131 = true) <| elet (S.2.1 10 v9.toNatClampNeg) fun v11 => elet (S.1 21) fun v12 => obind2 (fr_centre S v12 0) fun r16 S13 => elet (S13.1 21) fun v17 => obind2 (fr_centre S13 v17 1) fun r21 S18 => obind2 (fr_heardOf S18 a1 r16 r21 0 v5) fun r25 S22 => elet (v11 * r25) fun v26 => some (v26, S22))) else (some (0, S))
set_option maxHeartbeats 4000000 in
set_option maxRecDepth 100000 in
theorem tr_rawAt_14 (l : Launch) (D : va_G) (cI cJ cZ : ClassId) (ad : Nat → Nat) (S : MS) (a1 : Int32) (a2 : Int32) {r1 : Int32} {S1 : MS} (h : fr_rawAt_14 S a1 a2 = some (r1, S1)) : mCi l yX12_rawAt (Cond.code yX12_rawAt cX12_rawAt 7 (some .int) :: wsM) 5 120 D cI cJ cZ ad S [.ref (ad 14), .int a1, .int a2] (fun r S9 => r = r1 ∧ S9 = S1) := by
  intro sz
  refine Met.ofW (cc := cX12_rawAt) (maxL := 7) (ret := (some .int)) (by decide) rfl ?_
  intro p e s m args below meth c s₁ B hml hv
  obtain ⟨rfl, hsz, hP, hK, hD0, hR⟩ := hv
  have hx := B.exec
  have hb := B.bytes
  have hr := B.returns
  have hts := atoms_spec (ws := (Cond.code yX12_rawAt cX12_rawAt 7 (some .int) :: wsM)) B.pre
  have hown : s.vm.findClass RX12 = some m.cls := findClass_of_methodNamed B.named
  have hlocks := B.notSynchronized
  subst hsz
  have hD := hD0.self (sz := s.heap.size)
  generalize hAe : va_A (MW cI cJ cZ ad S) s.heap.size = A at hD ⊢
  have hA : ∀ q : Nat, s.heap.size ≤ q → A q := fun q h => by rw [← hAe]; exact Or.inr h
  have G : mG D cI cJ cZ ad A s.heap s.heap [] S := ⟨hP, hD, va_S.rf⟩
  have E : mE p c cX12_rawAt s m ([.ref (ad 0), .ref (ad 14), .int a1, .int a2] : List Value).toArray (Cond.code yX12_rawAt cX12_rawAt 7 (some .int) :: wsM) D cI cJ cZ := ⟨hx, hb, hts, hown, hK, fun w h => .tail _ (iM_x h)⟩
  have hl := lv_entry ([.ref (ad 0), .ref (ad 14), .int a1, .int a2]) (n := 7) (Nat.le_of_ble_eq_true rfl)
  rw [lg_entry_eq]
  generalize (lg_sl ([.ref (ad 0), .ref (ad 14), .int a1, .int a2]) ++ List.replicate (7 - (lg_sl ([.ref (ad 0), .ref (ad 14), .int a1, .int a2])).length) Slot.unset).toArray = ls at hl ⊢
  have hl : lv_has ls 7 [(0, .ref (ad 0)), (1, .ref (ad 14)), (2, .int a1), (3, .int a2)] := hl
  unfold fr_rawAt_14 at h
  refine lv_iload_n hx hb dX12_rawAt_0 rfl (lv_at hl 3 rfl) ?_
  refine lv_aload_n hx hb dX12_rawAt_1 rfl (lv_at hl 0 rfl) ?_
  refine m_get E G 10 (v := .ref (ad 10)) (by decide) (.tail _ qM_7) rfl dX12_rawAt_2 rfl ?_
  refine lv_bipush (v := 83) hx hb dX12_rawAt_5 (by decide) ?_
  refine lv_iload_n hx hb dX12_rawAt_7 rfl (lv_at hl 2 rfl) ?_
  refine lv_iadd hx hb dX12_rawAt_8 ?_
  refine lv_topi (fun v2 ev2 => ?_)
  have h := elet_at ev2 h
  clear ev2
  obtain ⟨g3, h⟩ := oif_some h
  refine m_iald E G 10 2 (n := 131) (k := v2.toNatClampNeg) rfl (inb_k g3).1 (inb_k g3).2 (by decide) dX12_rawAt_9 ?_
  refine lv_topi (fun v4 ev4 => ?_)
  have h := elet_at ev4 h
  clear ev4
  refine lv_isub hx hb dX12_rawAt_10 ?_
  refine lv_topi (fun v5 ev5 => ?_)
  have h := elet_at ev5 h
  clear ev5
  refine lv_istore (lv' := [(4, .int v5), (0, .ref (ad 0)), (1, .ref (ad 14)), (2, .int a1), (3, .int a2)]) hx hb dX12_rawAt_11 hl (by decide) rfl (fun ls hl => ?_)
  refine lv_iload hx hb dX12_rawAt_13 (lv_at hl 0 rfl) ?_
  refine lv_if_ge (tgt := 20) hx hb dX12_rawAt_15 (by decide) (fun c6 => ?_) (fun c6 => ?_)
  · have h := oif_pos c6 h
    refine lv_aload_n hx hb dX12_rawAt_20 rfl (lv_at hl 1 rfl) ?_
    refine m_get E G 21 (v := .int (S.1 21)) (by decide) (.tail _ qM_17) rfl dX12_rawAt_21 rfl ?_
    refine lv_topi (fun v7 ev7 => ?_)
    have h := elet_at ev7 h
    clear ev7
    refine lv_iconst (v := (-1)) hx hb dX12_rawAt_24 (by decide) ?_
    refine lv_icmp_eq (tgt := 65) hx hb dX12_rawAt_25 (by decide) (fun c8 => ?_) (fun c8 => ?_)
    · have h := oif_pos c8 h
      refine lv_iconst (v := 0) hx hb dX12_rawAt_65 (by decide) ?_
      refine lv_istore (lv' := [(5, .int 0), (4, .int v5), (0, .ref (ad 0)), (1, .ref (ad 14)), (2, .int a1), (3, .int a2)]) hx hb dX12_rawAt_66 hl (by decide) rfl (fun ls hl => ?_)
      refine lv_iconst (v := 0) hx hb dX12_rawAt_68 (by decide) ?_
      refine lv_istore (lv' := [(6, .int 0), (5, .int 0), (4, .int v5), (0, .ref (ad 0)), (1, .ref (ad 14)), (2, .int a1), (3, .int a2)]) hx hb dX12_rawAt_69 hl (by decide) rfl (fun ls hl => ?_)
      have hl := lv_sub hl [3, 4, 5, 2, 1, 0] rfl
      exact tr_rawAt_14_b71 E hA hR hml (fun H locs ls G => W.iret (v := r1) hx hb hr (fun t ht hW => ⟨⟨r1, S1, rfl, ⟨rfl, rfl⟩, ⟨by rw [ht]; exact G.1, va_K.moved hW.alike hK, G.2.1⟩⟩, G.2.2.F ht⟩) G.2.2.2.2 dX12_rawAt_19) (fun H locs ls G => W.iret (v := r1) hx hb hr (fun t ht hW => ⟨⟨r1, S1, rfl, ⟨rfl, rfl⟩, ⟨by rw [ht]; exact G.1, va_K.moved hW.alike hK, G.2.1⟩⟩, G.2.2.F ht⟩) G.2.2.2.2 dX12_rawAt_64) (fun H locs ls G => W.iret (v := r1) hx hb hr (fun t ht hW => ⟨⟨r1, S1, rfl, ⟨rfl, rfl⟩, ⟨by rw [ht]; exact G.1, va_K.moved hW.alike hK, G.2.1⟩⟩, G.2.2.F ht⟩) G.2.2.2.2 dX12_rawAt_148) _ _ _ _ _ _ _ _ _ h G hl
    · have h := oif_neg c8 h
      refine lv_aload_n hx hb dX12_rawAt_28 rfl (lv_at hl 1 rfl) ?_
      refine m_get E G 10 (v := .ref (ad 10)) (by decide) (.tail _ qM_7) rfl dX12_rawAt_29 rfl ?_
      refine lv_bipush (v := 35) hx hb dX12_rawAt_32 (by decide) ?_
      refine lv_iload_n hx hb dX12_rawAt_34 rfl (lv_at hl 3 rfl) ?_
      refine lv_iadd hx hb dX12_rawAt_35 ?_
      refine lv_topi (fun v9 ev9 => ?_)
      have h := elet_at ev9 h
      clear ev9
      obtain ⟨g10, h⟩ := oif_some h
      refine m_iald E G 10 2 (n := 131) (k := v9.toNatClampNeg) rfl (inb_k g10).1 (inb_k g10).2 (by decide) dX12_rawAt_36 ?_
      refine lv_topi (fun v11 ev11 => ?_)
      have h := elet_at ev11 h
      clear ev11
      refine lv_aload_n hx hb dX12_rawAt_37 rfl (lv_at hl 1 rfl) ?_
      refine lv_iload_n hx hb dX12_rawAt_38 rfl (lv_at hl 3 rfl) ?_
      refine lv_aload_n hx hb dX12_rawAt_39 rfl (lv_at hl 1 rfl) ?_
      refine lv_aload_n hx hb dX12_rawAt_40 rfl (lv_at hl 1 rfl) ?_
      refine m_get E G 21 (v := .int (S.1 21)) (by decide) (.tail _ qM_17) rfl dX12_rawAt_41 rfl ?_
      refine lv_topi (fun v12 ev12 => ?_)
      have h := elet_at ev12 h
      clear ev12
      refine lv_iconst (v := 0) hx hb dX12_rawAt_44 (by decide) ?_
      obtain ⟨r16, S13, eS13, h⟩ := obind2_some h
      refine m_calli (As := [.int v12, .int 0]) (rest := [.int a1, .ref (ad 0), .int v11]) E G hA hR hml (tr_centre l D cI cJ cZ ad S v12 0 eS13) (cwV 2 hts (gmV qM_208 qM_209 qM_210 qM_35 qM_211) rfl rfl rfl (by decide +kernel) ⟨Nat.le_of_ble_eq_true rfl, Nat.le_of_ble_eq_true rfl⟩) rfl hl.1 rfl (lv_room (Nat.le_of_ble_eq_true rfl)) dX12_rawAt_45 ⟨Nat.zero_le _, Nat.zero_le _⟩ (fun q14 S15 H locs hq G => ?_)
      obtain ⟨hq1, hq2⟩ := hq
      rw [hq2] at G
      refine lv_to hq1 ?_
      clear hq1 hq2 eS13
      refine lv_aload_n hx hb dX12_rawAt_48 rfl (lv_at hl 1 rfl) ?_
      refine lv_aload_n hx hb dX12_rawAt_49 rfl (lv_at hl 1 rfl) ?_
      refine m_get E G 21 (v := .int (S13.1 21)) (by decide) (.tail _ qM_17) rfl dX12_rawAt_50 rfl ?_
      refine lv_topi (fun v17 ev17 => ?_)
      have h := elet_at ev17 h
      clear ev17
      refine lv_iconst (v := 1) hx hb dX12_rawAt_53 (by decide) ?_
      obtain ⟨r21, S18, eS18, h⟩ := obind2_some h
      refine m_calli (As := [.int v17, .int 1]) (rest := [.int r16, .int a1, .ref (ad 0), .int v11]) E G hA hR hml (tr_centre l D cI cJ cZ ad S13 v17 1 eS18) (cwV 2 hts (gmV qM_208 qM_209 qM_210 qM_35 qM_211) rfl rfl rfl (by decide +kernel) ⟨Nat.le_of_ble_eq_true rfl, Nat.le_of_ble_eq_true rfl⟩) rfl hl.1 rfl (lv_room (Nat.le_of_ble_eq_true rfl)) dX12_rawAt_54 ⟨Nat.zero_le _, Nat.zero_le _⟩ (fun q19 S20 H locs hq G => ?_)
      obtain ⟨hq1, hq2⟩ := hq
      rw [hq2] at G
      refine lv_to hq1 ?_
      clear hq1 hq2 eS18
      refine lv_iconst (v := 0) hx hb dX12_rawAt_57 (by decide) ?_
      refine lv_iload hx hb dX12_rawAt_58 (lv_at hl 0 rfl) ?_
      obtain ⟨r25, S22, eS22, h⟩ := obind2_some h
      refine m_calli (As := [.int a1, .int r16, .int r21, .int 0, .int v5]) (rest := [.int v11]) E G hA hR hml (tr_heardOf l D cI cJ cZ ad S18 a1 r16 r21 0 v5 eS22) (cwV 5 hts (gmV qM_228 qM_229 qM_230 qM_35 qM_231) rfl rfl rfl (by decide +kernel) ⟨Nat.le_of_ble_eq_true rfl, Nat.le_of_ble_eq_true rfl⟩) rfl hl.1 rfl (lv_room (Nat.le_of_ble_eq_true rfl)) dX12_rawAt_60 ⟨Nat.zero_le _, Nat.zero_le _⟩ (fun q23 S24 H locs hq G => ?_)
      obtain ⟨hq1, hq2⟩ := hq
      rw [hq2] at G
      refine lv_to hq1 ?_
      clear hq1 hq2 eS22
      refine lv_imul hx hb dX12_rawAt_63 ?_
      refine lv_topi (fun v26 ev26 => ?_)
      have h := elet_at ev26 h
      clear ev26
      exact W.iret (v := v26) hx hb hr (fun t ht hW => ⟨⟨v26, S22, rfl, osome2 h, ⟨by rw [ht]; exact G.1, va_K.moved hW.alike hK, G.2.1⟩⟩, G.2.2.F ht⟩) G.2.2.2.2 dX12_rawAt_64
  · have h := oif_neg c6 h
    refine lv_iconst (v := 0) hx hb dX12_rawAt_18 (by decide) ?_
    exact W.iret (v := 0) hx hb hr (fun t ht hW => ⟨⟨0, S, rfl, osome2 h, ⟨by rw [ht]; exact G.1, va_K.moved hW.alike hK, G.2.1⟩⟩, G.2.2.F ht⟩) G.2.2.2.2 dX12_rawAt_19
def fr_records_14_b49 (k6 : MS → Int32 → Option (MS)) : Nat → MS → Int32 → Int32 → Option (MS)
  | 0, _, _, _ => none
  | n + 1, S, l2, l3 => elet (S.2.1 10 2) fun v2 => if v2 ≤ l3 then (elet (l2 + Int32.ofInt (1)) fun v4 => k6 S v4) else (elet (200 * l2) fun v5 => elet (55 + v5) fun v6 => elet (v6 + l3) fun v7 => obind2 (fr_filtered S l3) fun r11 S8 => obind2 (fr_bounded S8 r11) fun r15 S12 => oif (inb v7 2455 = true) <| elet (mf S12 14 (upd (S12.2.1 14) v7.toNatClampNeg r15)) fun S17 => elet (l3 + Int32.ofInt (1)) fun v18 => fr_records_14_b49 k6 n S17 l2 v18)
set_option maxHeartbeats 4000000 in
set_option maxRecDepth 100000 in
theorem tr_records_14_b49 {p : Program} {l : Launch} {e : Env} {s : State} {m : MethodId} {args : Array Value} {below : List Frame} {meth : Method} {c : Code} {Q : State → Prop} {D : va_G} {A : Nat → Prop} {H0 : Heap} {cI cJ cZ : ClassId} {ad : Nat → Nat} {S1 : MS} (E : mE p c cX12_records s m args (Cond.code yX12_records cX12_records 4 none :: wsM) D cI cJ cZ) (hA : ∀ q : Nat, H0.size ≤ q → A q) (hR : sR s) (hml : c.maxLocals = 4) (kr92 : ∀ (H : Heap) (locs : List Loc) (ls : Array Slot), mG D cI cJ cZ ad A H0 H locs S1 → W p l e { frames := 6, cells := 0, slots := 0, locals := 146 } s m args below meth c H locs 0 0 Q (F0 m 92 ls [])) {k6 : MS → Int32 → Option (MS)} (hk6 : ∀ (S : MS) (H : Heap) (locs : List Loc) (ls : Array Slot) (l2 : Int32), k6 S l2 = some S1 → mG D cI cJ cZ ad A H0 H locs S → lv_has ls 4 [(0, .ref (ad 0)), (1, .ref (ad 14)), (2, .int l2)] → W p l e { frames := 6, cells := 0, slots := 0, locals := 146 } s m args below meth c H locs 0 0 Q (F0 m 6 ls [])) : ∀ n : Nat, ∀ (S : MS) (H : Heap) (locs : List Loc) (ls : Array Slot) (l2 : Int32) (l3 : Int32), fr_records_14_b49 k6 n S l2 l3 = some S1 → mG D cI cJ cZ ad A H0 H locs S → lv_has ls 4 [(0, .ref (ad 0)), (1, .ref (ad 14)), (2, .int l2), (3, .int l3)] → W p l e { frames := 6, cells := 0, slots := 0, locals := 146 } s m args below meth c H locs 0 0 Q (F0 m 49 ls []) := by
  have hx := E.1
  have hb := E.2.1
  have hts := E.2.2.1
  have hown := E.2.2.2.1
  have hK := E.2.2.2.2.1
  intro n
  induction n with
  | zero =>
    intro S H locs ls l2 l3 h
    have h : (none : Option (MS)) = some S1 := h
    cases h
  | succ n ih =>
    intro S H locs ls l2 l3 h G hl
    unfold fr_records_14_b49 at h
    refine lv_iload_n hx hb dX12_records_49 rfl (lv_at hl 3 rfl) ?_
    refine lv_aload_n hx hb dX12_records_50 rfl (lv_at hl 0 rfl) ?_
    refine m_get E G 10 (v := .ref (ad 10)) (by decide) (.tail _ qM_7) rfl dX12_records_51 rfl ?_
    refine lv_iconst (v := 2) hx hb dX12_records_54 (by decide) ?_
    refine m_iald E G 10 2 (n := 131) (k := 2) rfl rfl (by decide) (by decide) dX12_records_55 ?_
    refine lv_topi (fun v2 ev2 => ?_)
    have h := elet_at ev2 h
    clear ev2
    refine lv_icmp_ge (tgt := 86) hx hb dX12_records_56 (by decide) (fun c3 => ?_) (fun c3 => ?_)
    · have h := oif_pos c3 h
      obtain ⟨v4, ev4, h⟩ := elet_some h
      refine lv_iinc (v := v4) (lv' := [(2, .int v4), (0, .ref (ad 0)), (1, .ref (ad 14)), (3, .int l3)]) hx hb dX12_records_86 hl (k := 2) rfl ev4.symm (by decide) rfl (fun ls hl => ?_)
      refine lv_goto (tgt := 6) hx hb dX12_records_89 (by decide) ?_
      have hl := lv_sub hl [1, 2, 0] rfl
      exact hk6 _ _ _ _ _ h G hl
    · have h := oif_neg c3 h
      refine lv_aload_n hx hb dX12_records_59 rfl (lv_at hl 1 rfl) ?_
      refine lv_bipush (v := 55) hx hb dX12_records_60 (by decide) ?_
      refine lv_sipush (v := 200) hx hb dX12_records_62 (by decide) ?_
      refine lv_iload_n hx hb dX12_records_65 rfl (lv_at hl 2 rfl) ?_
      refine lv_imul hx hb dX12_records_66 ?_
      refine lv_topi (fun v5 ev5 => ?_)
      have h := elet_at ev5 h
      clear ev5
      refine lv_iadd hx hb dX12_records_67 ?_
      refine lv_topi (fun v6 ev6 => ?_)
      have h := elet_at ev6 h
      clear ev6
      refine lv_iload_n hx hb dX12_records_68 rfl (lv_at hl 3 rfl) ?_
      refine lv_iadd hx hb dX12_records_69 ?_
      refine lv_topi (fun v7 ev7 => ?_)
      have h := elet_at ev7 h
      clear ev7
      refine lv_aload_n hx hb dX12_records_70 rfl (lv_at hl 0 rfl) ?_
      refine lv_aload_n hx hb dX12_records_71 rfl (lv_at hl 0 rfl) ?_
      refine lv_iload_n hx hb dX12_records_72 rfl (lv_at hl 3 rfl) ?_
      obtain ⟨r11, S8, eS8, h⟩ := obind2_some h
      refine m_calli (As := [.int l3]) (rest := [.ref (ad 0), .int v7, .ref (ad 14)]) E G hA hR hml (tr_filtered l D cI cJ cZ ad S l3 eS8) (cwV 1 hts (gmV qM_254 qM_255 qM_256 qM_35 qM_257) rfl rfl rfl (by decide +kernel) ⟨Nat.le_of_ble_eq_true rfl, Nat.le_of_ble_eq_true rfl⟩) rfl hl.1 rfl (lv_room (Nat.le_of_ble_eq_true rfl)) dX12_records_73 ⟨Nat.zero_le _, Nat.zero_le _⟩ (fun q9 S10 H locs hq G => ?_)
      obtain ⟨hq1, hq2⟩ := hq
      rw [hq2] at G
      refine lv_to hq1 ?_
      clear hq1 hq2 eS8
      obtain ⟨r15, S12, eS12, h⟩ := obind2_some h
      refine m_calli (As := [.int r11]) (rest := [.int v7, .ref (ad 14)]) E G hA hR hml (tr_bounded l D cI cJ cZ ad S8 r11 eS12) (cwV 1 hts (gmV qM_258 qM_259 qM_260 qM_35 qM_261) rfl rfl rfl (by decide +kernel) ⟨Nat.le_of_ble_eq_true rfl, Nat.le_of_ble_eq_true rfl⟩) rfl hl.1 rfl (lv_room (Nat.le_of_ble_eq_true rfl)) dX12_records_76 ⟨Nat.zero_le _, Nat.zero_le _⟩ (fun q13 S14 H locs hq G => ?_)
      obtain ⟨hq1, hq2⟩ := hq
      rw [hq2] at G
      refine lv_to hq1 ?_
      clear hq1 hq2 eS12
      obtain ⟨g16, h⟩ := oif_some h
      refine m_iast E G 14 6 (k := v7.toNatClampNeg) (v := r15) rfl (fun _ => rfl) (inb_k g16).1 (inb_k g16).2 (by decide) dX12_records_79 (fun H locs G => ?_)
      obtain ⟨S17, eS17, h⟩ := elet_some h
      rw [← eS17] at G
      clear eS17
      obtain ⟨v18, ev18, h⟩ := elet_some h
      refine lv_iinc (v := v18) (lv' := [(3, .int v18), (0, .ref (ad 0)), (1, .ref (ad 14)), (2, .int l2)]) hx hb dX12_records_80 hl (k := 3) rfl ev18.symm (by decide) rfl (fun ls hl => ?_)
      refine lv_goto (tgt := 49) hx hb dX12_records_83 (by decide) ?_
      have hl := lv_sub hl [1, 2, 3, 0] rfl
      exact ih _ _ _ _ _ _ h G hl
def fr_records_14_b18 (k6 : MS → Int32 → Option (MS)) : Nat → MS → Int32 → Int32 → Option (MS)
  | 0, _, _, _ => none
  | n + 1, S, l2, l3 => elet (S.2.1 10 2) fun v2 => if v2 ≤ l3 then (fr_records_14_b49 k6 16384 S l2 0) else (obind2 (fr_rawAt_14 S l2 l3) fun r7 S4 => oif (inb l3 200 = true) <| elet (mf S4 23 (upd (S4.2.1 23) l3.toNatClampNeg r7)) fun S9 => elet (l3 + Int32.ofInt (1)) fun v10 => fr_records_14_b18 k6 n S9 l2 v10)
set_option maxHeartbeats 4000000 in
set_option maxRecDepth 100000 in
theorem tr_records_14_b18 {p : Program} {l : Launch} {e : Env} {s : State} {m : MethodId} {args : Array Value} {below : List Frame} {meth : Method} {c : Code} {Q : State → Prop} {D : va_G} {A : Nat → Prop} {H0 : Heap} {cI cJ cZ : ClassId} {ad : Nat → Nat} {S1 : MS} (E : mE p c cX12_records s m args (Cond.code yX12_records cX12_records 4 none :: wsM) D cI cJ cZ) (hA : ∀ q : Nat, H0.size ≤ q → A q) (hR : sR s) (hml : c.maxLocals = 4) (kr92 : ∀ (H : Heap) (locs : List Loc) (ls : Array Slot), mG D cI cJ cZ ad A H0 H locs S1 → W p l e { frames := 6, cells := 0, slots := 0, locals := 146 } s m args below meth c H locs 0 0 Q (F0 m 92 ls [])) {k6 : MS → Int32 → Option (MS)} (hk6 : ∀ (S : MS) (H : Heap) (locs : List Loc) (ls : Array Slot) (l2 : Int32), k6 S l2 = some S1 → mG D cI cJ cZ ad A H0 H locs S → lv_has ls 4 [(0, .ref (ad 0)), (1, .ref (ad 14)), (2, .int l2)] → W p l e { frames := 6, cells := 0, slots := 0, locals := 146 } s m args below meth c H locs 0 0 Q (F0 m 6 ls [])) : ∀ n : Nat, ∀ (S : MS) (H : Heap) (locs : List Loc) (ls : Array Slot) (l2 : Int32) (l3 : Int32), fr_records_14_b18 k6 n S l2 l3 = some S1 → mG D cI cJ cZ ad A H0 H locs S → lv_has ls 4 [(0, .ref (ad 0)), (1, .ref (ad 14)), (2, .int l2), (3, .int l3)] → W p l e { frames := 6, cells := 0, slots := 0, locals := 146 } s m args below meth c H locs 0 0 Q (F0 m 18 ls []) := by
  have hx := E.1
  have hb := E.2.1
  have hts := E.2.2.1
  have hown := E.2.2.2.1
  have hK := E.2.2.2.2.1
  intro n
  induction n with
  | zero =>
    intro S H locs ls l2 l3 h
    have h : (none : Option (MS)) = some S1 := h
    cases h
  | succ n ih =>
    intro S H locs ls l2 l3 h G hl
    unfold fr_records_14_b18 at h
    refine lv_iload_n hx hb dX12_records_18 rfl (lv_at hl 3 rfl) ?_
    refine lv_aload_n hx hb dX12_records_19 rfl (lv_at hl 0 rfl) ?_
    refine m_get E G 10 (v := .ref (ad 10)) (by decide) (.tail _ qM_7) rfl dX12_records_20 rfl ?_
    refine lv_iconst (v := 2) hx hb dX12_records_23 (by decide) ?_
    refine m_iald E G 10 2 (n := 131) (k := 2) rfl rfl (by decide) (by decide) dX12_records_24 ?_
    refine lv_topi (fun v2 ev2 => ?_)
    have h := elet_at ev2 h
    clear ev2
    refine lv_icmp_ge (tgt := 47) hx hb dX12_records_25 (by decide) (fun c3 => ?_) (fun c3 => ?_)
    · have h := oif_pos c3 h
      refine lv_iconst (v := 0) hx hb dX12_records_47 (by decide) ?_
      refine lv_istore_n (lv' := [(3, .int 0), (0, .ref (ad 0)), (1, .ref (ad 14)), (2, .int l2)]) hx hb dX12_records_48 rfl hl (by decide) rfl (fun ls hl => ?_)
      have hl := lv_sub hl [1, 2, 3, 0] rfl
      exact tr_records_14_b49 E hA hR hml kr92 hk6 _ _ _ _ _ _ _ h G hl
    · have h := oif_neg c3 h
      refine lv_aload_n hx hb dX12_records_28 rfl (lv_at hl 0 rfl) ?_
      refine m_get E G 23 (v := .ref (ad 23)) (by decide) (.tail _ qM_18) rfl dX12_records_29 rfl ?_
      refine lv_iload_n hx hb dX12_records_32 rfl (lv_at hl 3 rfl) ?_
      refine lv_aload_n hx hb dX12_records_33 rfl (lv_at hl 0 rfl) ?_
      refine lv_aload_n hx hb dX12_records_34 rfl (lv_at hl 1 rfl) ?_
      refine lv_iload_n hx hb dX12_records_35 rfl (lv_at hl 2 rfl) ?_
      refine lv_iload_n hx hb dX12_records_36 rfl (lv_at hl 3 rfl) ?_
      obtain ⟨r7, S4, eS4, h⟩ := obind2_some h
      refine m_calli (As := [.ref (ad 14), .int l2, .int l3]) (rest := [.int l3, .ref (ad 23)]) E G hA hR hml (tr_rawAt_14 l D cI cJ cZ ad S l2 l3 eS4) (cwV 3 hts (gmV qM_224 qM_225 qM_226 qM_35 qM_227) rfl rfl rfl (by decide +kernel) ⟨Nat.le_of_ble_eq_true rfl, Nat.le_of_ble_eq_true rfl⟩) rfl hl.1 rfl (lv_room (Nat.le_of_ble_eq_true rfl)) dX12_records_37 ⟨Nat.zero_le _, Nat.zero_le _⟩ (fun q5 S6 H locs hq G => ?_)
      obtain ⟨hq1, hq2⟩ := hq
      rw [hq2] at G
      refine lv_to hq1 ?_
      clear hq1 hq2 eS4
      obtain ⟨g8, h⟩ := oif_some h
      refine m_iast E G 23 11 (k := l3.toNatClampNeg) (v := r7) rfl (fun _ => rfl) (inb_k g8).1 (inb_k g8).2 (by decide) dX12_records_40 (fun H locs G => ?_)
      obtain ⟨S9, eS9, h⟩ := elet_some h
      rw [← eS9] at G
      clear eS9
      obtain ⟨v10, ev10, h⟩ := elet_some h
      refine lv_iinc (v := v10) (lv' := [(3, .int v10), (0, .ref (ad 0)), (1, .ref (ad 14)), (2, .int l2)]) hx hb dX12_records_41 hl (k := 3) rfl ev10.symm (by decide) rfl (fun ls hl => ?_)
      refine lv_goto (tgt := 18) hx hb dX12_records_44 (by decide) ?_
      have hl := lv_sub hl [1, 2, 3, 0] rfl
      exact ih _ _ _ _ _ _ h G hl
def fr_records_14_b6  : Nat → MS → Int32 → Option (MS)
  | 0, _, _ => none
  | n + 1, S, l2 => elet (S.2.1 10 4) fun v2 => if v2 ≤ l2 then (some S) else (fr_records_14_b18 (fr_records_14_b6 n) 16384 S l2 0)
set_option maxHeartbeats 4000000 in
set_option maxRecDepth 100000 in
theorem tr_records_14_b6 {p : Program} {l : Launch} {e : Env} {s : State} {m : MethodId} {args : Array Value} {below : List Frame} {meth : Method} {c : Code} {Q : State → Prop} {D : va_G} {A : Nat → Prop} {H0 : Heap} {cI cJ cZ : ClassId} {ad : Nat → Nat} {S1 : MS} (E : mE p c cX12_records s m args (Cond.code yX12_records cX12_records 4 none :: wsM) D cI cJ cZ) (hA : ∀ q : Nat, H0.size ≤ q → A q) (hR : sR s) (hml : c.maxLocals = 4) (kr92 : ∀ (H : Heap) (locs : List Loc) (ls : Array Slot), mG D cI cJ cZ ad A H0 H locs S1 → W p l e { frames := 6, cells := 0, slots := 0, locals := 146 } s m args below meth c H locs 0 0 Q (F0 m 92 ls [])) : ∀ n : Nat, ∀ (S : MS) (H : Heap) (locs : List Loc) (ls : Array Slot) (l2 : Int32), fr_records_14_b6 n S l2 = some S1 → mG D cI cJ cZ ad A H0 H locs S → lv_has ls 4 [(0, .ref (ad 0)), (1, .ref (ad 14)), (2, .int l2)] → W p l e { frames := 6, cells := 0, slots := 0, locals := 146 } s m args below meth c H locs 0 0 Q (F0 m 6 ls []) := by
  have hx := E.1
  have hb := E.2.1
  have hts := E.2.2.1
  have hown := E.2.2.2.1
  have hK := E.2.2.2.2.1
  intro n
  induction n with
  | zero =>
    intro S H locs ls l2 h
    have h : (none : Option (MS)) = some S1 := h
    cases h
  | succ n ih =>
    intro S H locs ls l2 h G hl
    unfold fr_records_14_b6 at h
    refine lv_iload_n hx hb dX12_records_6 rfl (lv_at hl 2 rfl) ?_
    refine lv_aload_n hx hb dX12_records_7 rfl (lv_at hl 0 rfl) ?_
    refine m_get E G 10 (v := .ref (ad 10)) (by decide) (.tail _ qM_7) rfl dX12_records_8 rfl ?_
    refine lv_iconst (v := 4) hx hb dX12_records_11 (by decide) ?_
    refine m_iald E G 10 2 (n := 131) (k := 4) rfl rfl (by decide) (by decide) dX12_records_12 ?_
    refine lv_topi (fun v2 ev2 => ?_)
    have h := elet_at ev2 h
    clear ev2
    refine lv_icmp_ge (tgt := 92) hx hb dX12_records_13 (by decide) (fun c3 => ?_) (fun c3 => ?_)
    · have h := oif_pos c3 h
      rw [osome1 h] at G
      exact kr92 _ _ _ G
    · have h := oif_neg c3 h
      refine lv_iconst (v := 0) hx hb dX12_records_16 (by decide) ?_
      refine lv_istore_n (lv' := [(3, .int 0), (0, .ref (ad 0)), (1, .ref (ad 14)), (2, .int l2)]) hx hb dX12_records_17 rfl hl (by decide) rfl (fun ls hl => ?_)
      have hl := lv_sub hl [1, 2, 3, 0] rfl
      exact tr_records_14_b18 E hA hR hml kr92 ih _ _ _ _ _ _ _ h G hl
def fr_records_14 (S : MS)  : Option (MS) := elet (mf S 14 (upd (S.2.1 14) 0 0)) fun S2 => fr_records_14_b6 16384 S2 0
set_option maxHeartbeats 4000000 in
set_option maxRecDepth 100000 in
theorem tr_records_14 (l : Launch) (D : va_G) (cI cJ cZ : ClassId) (ad : Nat → Nat) (S : MS)  {S1 : MS} (h : fr_records_14 S = some S1) : mCv l yX12_records (Cond.code yX12_records cX12_records 4 none :: wsM) 6 146 D cI cJ cZ ad S [.ref (ad 14)] (fun S9 => S9 = S1) := by
  intro sz
  refine Met.ofW (cc := cX12_records) (maxL := 4) (ret := none) (by decide) rfl ?_
  intro p e s m args below meth c s₁ B hml hv
  obtain ⟨rfl, hsz, hP, hK, hD0, hR⟩ := hv
  have hx := B.exec
  have hb := B.bytes
  have hr := B.returns
  have hts := atoms_spec (ws := (Cond.code yX12_records cX12_records 4 none :: wsM)) B.pre
  have hown : s.vm.findClass RX12 = some m.cls := findClass_of_methodNamed B.named
  have hlocks := B.notSynchronized
  subst hsz
  have hD := hD0.self (sz := s.heap.size)
  generalize hAe : va_A (MW cI cJ cZ ad S) s.heap.size = A at hD ⊢
  have hA : ∀ q : Nat, s.heap.size ≤ q → A q := fun q h => by rw [← hAe]; exact Or.inr h
  have G : mG D cI cJ cZ ad A s.heap s.heap [] S := ⟨hP, hD, va_S.rf⟩
  have E : mE p c cX12_records s m ([.ref (ad 0), .ref (ad 14)] : List Value).toArray (Cond.code yX12_records cX12_records 4 none :: wsM) D cI cJ cZ := ⟨hx, hb, hts, hown, hK, fun w h => .tail _ (iM_x h)⟩
  have hl := lv_entry ([.ref (ad 0), .ref (ad 14)]) (n := 4) (Nat.le_of_ble_eq_true rfl)
  rw [lg_entry_eq]
  generalize (lg_sl ([.ref (ad 0), .ref (ad 14)]) ++ List.replicate (4 - (lg_sl ([.ref (ad 0), .ref (ad 14)])).length) Slot.unset).toArray = ls at hl ⊢
  have hl : lv_has ls 4 [(0, .ref (ad 0)), (1, .ref (ad 14))] := hl
  unfold fr_records_14 at h
  refine lv_aload_n hx hb dX12_records_0 rfl (lv_at hl 1 rfl) ?_
  refine lv_iconst (v := 0) hx hb dX12_records_1 (by decide) ?_
  refine lv_iconst (v := 0) hx hb dX12_records_2 (by decide) ?_
  refine m_iast E G 14 6 (k := 0) (v := 0) rfl (fun _ => rfl) rfl (by decide) (by decide) dX12_records_3 (fun H locs G => ?_)
  obtain ⟨S2, eS2, h⟩ := elet_some h
  rw [← eS2] at G
  clear eS2
  refine lv_iconst (v := 0) hx hb dX12_records_4 (by decide) ?_
  refine lv_istore_n (lv' := [(2, .int 0), (0, .ref (ad 0)), (1, .ref (ad 14))]) hx hb dX12_records_5 rfl hl (by decide) rfl (fun ls hl => ?_)
  have hl := lv_sub hl [1, 2, 0] rfl
  exact tr_records_14_b6 E hA hR hml (fun H locs ls G => W.vret hx hb hr (fun t ht hW => ⟨⟨S1, rfl, rfl, ⟨by rw [ht]; exact G.1, va_K.moved hW.alike hK, G.2.1⟩⟩, G.2.2.F ht⟩) G.2.2.2.2 dX12_records_92) _ _ _ _ _ _ h G hl
def fr_recordsPoint_14 (S : MS) (a1 : Int32) (a2 : Int32) : Option (MS) := elet (mi S 21 a1) fun S2 => elet (mi S2 22 a2) fun S3 => obind (fr_records_14 S3) fun S4 => elet (mi S4 21 (-1)) fun S7 => some S7
set_option maxHeartbeats 4000000 in
set_option maxRecDepth 100000 in
theorem tr_recordsPoint_14 (l : Launch) (D : va_G) (cI cJ cZ : ClassId) (ad : Nat → Nat) (S : MS) (a1 : Int32) (a2 : Int32) {S1 : MS} (h : fr_recordsPoint_14 S a1 a2 = some S1) : mCv l yX12_recordsPoint (Cond.code yX12_recordsPoint cX12_recordsPoint 4 none :: wsM) 7 169 D cI cJ cZ ad S [.ref (ad 14), .int a1, .int a2] (fun S9 => S9 = S1) := by
  intro sz
  refine Met.ofW (cc := cX12_recordsPoint) (maxL := 4) (ret := none) (by decide) rfl ?_
  intro p e s m args below meth c s₁ B hml hv
  obtain ⟨rfl, hsz, hP, hK, hD0, hR⟩ := hv
  have hx := B.exec
  have hb := B.bytes
  have hr := B.returns
  have hts := atoms_spec (ws := (Cond.code yX12_recordsPoint cX12_recordsPoint 4 none :: wsM)) B.pre
  have hown : s.vm.findClass RX12 = some m.cls := findClass_of_methodNamed B.named
  have hlocks := B.notSynchronized
  subst hsz
  have hD := hD0.self (sz := s.heap.size)
  generalize hAe : va_A (MW cI cJ cZ ad S) s.heap.size = A at hD ⊢
  have hA : ∀ q : Nat, s.heap.size ≤ q → A q := fun q h => by rw [← hAe]; exact Or.inr h
  have G : mG D cI cJ cZ ad A s.heap s.heap [] S := ⟨hP, hD, va_S.rf⟩
  have E : mE p c cX12_recordsPoint s m ([.ref (ad 0), .ref (ad 14), .int a1, .int a2] : List Value).toArray (Cond.code yX12_recordsPoint cX12_recordsPoint 4 none :: wsM) D cI cJ cZ := ⟨hx, hb, hts, hown, hK, fun w h => .tail _ (iM_x h)⟩
  have hl := lv_entry ([.ref (ad 0), .ref (ad 14), .int a1, .int a2]) (n := 4) (Nat.le_of_ble_eq_true rfl)
  rw [lg_entry_eq]
  generalize (lg_sl ([.ref (ad 0), .ref (ad 14), .int a1, .int a2]) ++ List.replicate (4 - (lg_sl ([.ref (ad 0), .ref (ad 14), .int a1, .int a2])).length) Slot.unset).toArray = ls at hl ⊢
  have hl : lv_has ls 4 [(0, .ref (ad 0)), (1, .ref (ad 14)), (2, .int a1), (3, .int a2)] := hl
  unfold fr_recordsPoint_14 at h
  refine lv_aload_n hx hb dX12_recordsPoint_0 rfl (lv_at hl 0 rfl) ?_
  refine lv_iload_n hx hb dX12_recordsPoint_1 rfl (lv_at hl 2 rfl) ?_
  refine m_put E G 21 (by decide) (.tail _ qM_17) (mw_i21 _ _ _ _ _ a1) dX12_recordsPoint_2 ⟨rfl, rfl, rfl⟩ rfl rfl (fun H locs G => ?_)
  obtain ⟨S2, eS2, h⟩ := elet_some h
  rw [← eS2] at G
  clear eS2
  refine lv_aload_n hx hb dX12_recordsPoint_5 rfl (lv_at hl 0 rfl) ?_
  refine lv_iload_n hx hb dX12_recordsPoint_6 rfl (lv_at hl 3 rfl) ?_
  refine m_put E G 22 (by decide) (.tail _ qM_240) (mw_i22 _ _ _ _ _ a2) dX12_recordsPoint_7 ⟨rfl, rfl, rfl⟩ rfl rfl (fun H locs G => ?_)
  obtain ⟨S3, eS3, h⟩ := elet_some h
  rw [← eS3] at G
  clear eS3
  refine lv_aload_n hx hb dX12_recordsPoint_10 rfl (lv_at hl 0 rfl) ?_
  refine lv_aload_n hx hb dX12_recordsPoint_11 rfl (lv_at hl 1 rfl) ?_
  obtain ⟨S4, eS4, h⟩ := obind_some h
  refine m_callv (As := [.ref (ad 14)]) (rest := []) E G hA hR hml (tr_records_14 l D cI cJ cZ ad S3 eS4) (cwV 1 hts (gmV qM_220 qM_221 qM_222 qM_35 qM_223) rfl rfl rfl (by decide +kernel) ⟨Nat.le_of_ble_eq_true rfl, Nat.le_of_ble_eq_true rfl⟩) rfl hl.1 rfl (lv_room (Nat.le_of_ble_eq_true rfl)) dX12_recordsPoint_12 ⟨Nat.zero_le _, Nat.zero_le _⟩ (fun S6 H locs hq G => ?_)
  rw [hq] at G
  clear hq eS4
  refine lv_aload_n hx hb dX12_recordsPoint_15 rfl (lv_at hl 0 rfl) ?_
  refine lv_iconst (v := (-1)) hx hb dX12_recordsPoint_16 (by decide) ?_
  refine m_put E G 21 (by decide) (.tail _ qM_17) (mw_i21 _ _ _ _ _ (-1)) dX12_recordsPoint_17 ⟨rfl, rfl, rfl⟩ rfl rfl (fun H locs G => ?_)
  obtain ⟨S7, eS7, h⟩ := elet_some h
  rw [← eS7] at G
  clear eS7
  exact W.vret hx hb hr (fun t ht hW => ⟨⟨S7, rfl, osome1 h, ⟨by rw [ht]; exact G.1, va_K.moved hW.alike hK, G.2.1⟩⟩, G.2.2.F ht⟩) G.2.2.2.2 dX12_recordsPoint_20
def fr_hears_14_b13  (S : MS) (s0 : Int32) : Option (Int32 × MS) := oif (s0 = 0 ∨ s0 = 1) <| some (s0, S)
set_option maxHeartbeats 4000000 in
set_option maxRecDepth 100000 in
theorem tr_hears_14_b13 {p : Program} {l : Launch} {e : Env} {s : State} {m : MethodId} {args : Array Value} {below : List Frame} {meth : Method} {c : Code} {Q : State → Prop} {D : va_G} {A : Nat → Prop} {H0 : Heap} {cI cJ cZ : ClassId} {ad : Nat → Nat} {r1 : Int32} {S1 : MS} (E : mE p c cX12_hears s m args (Cond.code yX12_hears cX12_hears 3 (some .boolean) :: wsM) D cI cJ cZ) (hA : ∀ q : Nat, H0.size ≤ q → A q) (hR : sR s) (hml : c.maxLocals = 3) (kr13 : ∀ (H : Heap) (locs : List Loc) (ls : Array Slot), (r1 = 0 ∨ r1 = 1) → mG D cI cJ cZ ad A H0 H locs S1 → W p l e { frames := 1, cells := 0, slots := 0, locals := 0 } s m args below meth c H locs 0 0 Q (F0 m 13 ls [.int r1])) : ∀ (S : MS) (H : Heap) (locs : List Loc) (ls : Array Slot) (s0 : Int32), fr_hears_14_b13 S s0 = some (r1, S1) → mG D cI cJ cZ ad A H0 H locs S → lv_has ls 3 [] → W p l e { frames := 1, cells := 0, slots := 0, locals := 0 } s m args below meth c H locs 0 0 Q (F0 m 13 ls [.int s0]) := by
  have hx := E.1
  have hb := E.2.1
  have hts := E.2.2.1
  have hown := E.2.2.2.1
  have hK := E.2.2.2.2.1
  intro S H locs ls s0 h G hl
  unfold fr_hears_14_b13 at h
  obtain ⟨gz, h⟩ := oif_some h
  have gr : r1 = 0 ∨ r1 = 1 := by rw [← (osome2 h).1]; exact gz
  rw [(osome2 h).2] at G
  refine lv_to (osome2 h).1 ?_
  exact kr13 _ _ _ gr G
def fr_hears_14 (S : MS) (a1 : Int32) : Option (Int32 × MS) := elet (1 + a1) fun v2 => oif (inb v2 2455 = true) <| elet (S.2.1 14 v2.toNatClampNeg) fun v4 => if v4 = 0 then (fr_hears_14_b13 S 1) else (fr_hears_14_b13 S 0)
set_option maxHeartbeats 4000000 in
set_option maxRecDepth 100000 in
theorem tr_hears_14 (l : Launch) (D : va_G) (cI cJ cZ : ClassId) (ad : Nat → Nat) (S : MS) (a1 : Int32) {r1 : Int32} {S1 : MS} (h : fr_hears_14 S a1 = some (r1, S1)) : mCi l yX12_hears (Cond.code yX12_hears cX12_hears 3 (some .boolean) :: wsM) 1 0 D cI cJ cZ ad S [.ref (ad 14), .int a1] (fun r S9 => r = r1 ∧ S9 = S1) := by
  intro sz
  refine Met.ofW (cc := cX12_hears) (maxL := 3) (ret := (some .boolean)) (by decide) rfl ?_
  intro p e s m args below meth c s₁ B hml hv
  obtain ⟨rfl, hsz, hP, hK, hD0, hR⟩ := hv
  have hx := B.exec
  have hb := B.bytes
  have hr := B.returns
  have hts := atoms_spec (ws := (Cond.code yX12_hears cX12_hears 3 (some .boolean) :: wsM)) B.pre
  have hown : s.vm.findClass RX12 = some m.cls := findClass_of_methodNamed B.named
  have hlocks := B.notSynchronized
  subst hsz
  have hD := hD0.self (sz := s.heap.size)
  generalize hAe : va_A (MW cI cJ cZ ad S) s.heap.size = A at hD ⊢
  have hA : ∀ q : Nat, s.heap.size ≤ q → A q := fun q h => by rw [← hAe]; exact Or.inr h
  have G : mG D cI cJ cZ ad A s.heap s.heap [] S := ⟨hP, hD, va_S.rf⟩
  have E : mE p c cX12_hears s m ([.ref (ad 0), .ref (ad 14), .int a1] : List Value).toArray (Cond.code yX12_hears cX12_hears 3 (some .boolean) :: wsM) D cI cJ cZ := ⟨hx, hb, hts, hown, hK, fun w h => .tail _ (iM_x h)⟩
  have hl := lv_entry ([.ref (ad 0), .ref (ad 14), .int a1]) (n := 3) (Nat.le_of_ble_eq_true rfl)
  rw [lg_entry_eq]
  generalize (lg_sl ([.ref (ad 0), .ref (ad 14), .int a1]) ++ List.replicate (3 - (lg_sl ([.ref (ad 0), .ref (ad 14), .int a1])).length) Slot.unset).toArray = ls at hl ⊢
  have hl : lv_has ls 3 [(0, .ref (ad 0)), (1, .ref (ad 14)), (2, .int a1)] := hl
  unfold fr_hears_14 at h
  refine lv_aload_n hx hb dX12_hears_0 rfl (lv_at hl 1 rfl) ?_
  refine lv_iconst (v := 1) hx hb dX12_hears_1 (by decide) ?_
  refine lv_iload_n hx hb dX12_hears_2 rfl (lv_at hl 2 rfl) ?_
  refine lv_iadd hx hb dX12_hears_3 ?_
  refine lv_topi (fun v2 ev2 => ?_)
  have h := elet_at ev2 h
  clear ev2
  obtain ⟨g3, h⟩ := oif_some h
  refine m_iald E G 14 6 (n := 2455) (k := v2.toNatClampNeg) rfl (inb_k g3).1 (inb_k g3).2 (by decide) dX12_hears_4 ?_
  refine lv_topi (fun v4 ev4 => ?_)
  have h := elet_at ev4 h
  clear ev4
  refine lv_if_ne (tgt := 12) hx hb dX12_hears_5 (by decide) (fun c5 => ?_) (fun c5 => ?_)
  · have h := oif_neg c5 h
    refine lv_iconst (v := 0) hx hb dX12_hears_12 (by decide) ?_
    have hl := lv_sub hl [] rfl
    exact tr_hears_14_b13 E hA hR hml (fun H locs ls gz G => W.zret (v := r1) hx hb hr (nar01 gz) (fun t ht hW => ⟨⟨r1, S1, rfl, ⟨rfl, rfl⟩, ⟨by rw [ht]; exact G.1, va_K.moved hW.alike hK, G.2.1⟩⟩, G.2.2.F ht⟩) G.2.2.2.2 dX12_hears_13) _ _ _ _ _ h G hl
  · have h := oif_pos c5 h
    refine lv_iconst (v := 1) hx hb dX12_hears_8 (by decide) ?_
    refine lv_goto (tgt := 13) hx hb dX12_hears_9 (by decide) ?_
    have hl := lv_sub hl [] rfl
    exact tr_hears_14_b13 E hA hR hml (fun H locs ls gz G => W.zret (v := r1) hx hb hr (nar01 gz) (fun t ht hW => ⟨⟨r1, S1, rfl, ⟨rfl, rfl⟩, ⟨by rw [ht]; exact G.1, va_K.moved hW.alike hK, G.2.1⟩⟩, G.2.2.F ht⟩) G.2.2.2.2 dX12_hears_13) _ _ _ _ _ h G hl
def fr_windowOf_14_b37 (k4 : MS → Int32 → Int32 → Option (Int32 × MS)) (S : MS) (s0 : Int32) (l3 : Int32) : Option (Int32 × MS) := elet (l3 + Int32.ofInt (1)) fun v2 => k4 S s0 v2
set_option maxHeartbeats 4000000 in
set_option maxRecDepth 100000 in
theorem tr_windowOf_14_b37 {p : Program} {l : Launch} {e : Env} {s : State} {m : MethodId} {args : Array Value} {below : List Frame} {meth : Method} {c : Code} {Q : State → Prop} {D : va_G} {A : Nat → Prop} {H0 : Heap} {cI cJ cZ : ClassId} {ad : Nat → Nat} {r1 : Int32} {S1 : MS} (E : mE p c cX12_windowOf s m args (Cond.code yX12_windowOf cX12_windowOf 4 (some .int) :: wsM) D cI cJ cZ) (hA : ∀ q : Nat, H0.size ≤ q → A q) (hR : sR s) (hml : c.maxLocals = 4) (kr56 : ∀ (H : Heap) (locs : List Loc) (ls : Array Slot), mG D cI cJ cZ ad A H0 H locs S1 → W p l e { frames := 2, cells := 0, slots := 0, locals := 22 } s m args below meth c H locs 0 0 Q (F0 m 56 ls [.int r1])) {k4 : MS → Int32 → Int32 → Option (Int32 × MS)} (hk4 : ∀ (S : MS) (H : Heap) (locs : List Loc) (ls : Array Slot) (l2 : Int32) (l3 : Int32), k4 S l2 l3 = some (r1, S1) → mG D cI cJ cZ ad A H0 H locs S → lv_has ls 4 [(0, .ref (ad 0)), (1, .ref (ad 14)), (2, .int l2), (3, .int l3)] → W p l e { frames := 2, cells := 0, slots := 0, locals := 22 } s m args below meth c H locs 0 0 Q (F0 m 4 ls [])) : ∀ (S : MS) (H : Heap) (locs : List Loc) (ls : Array Slot) (s0 : Int32) (l3 : Int32), fr_windowOf_14_b37 k4 S s0 l3 = some (r1, S1) → mG D cI cJ cZ ad A H0 H locs S → lv_has ls 4 [(0, .ref (ad 0)), (1, .ref (ad 14)), (3, .int l3)] → W p l e { frames := 2, cells := 0, slots := 0, locals := 22 } s m args below meth c H locs 0 0 Q (F0 m 37 ls [.int s0]) := by
  have hx := E.1
  have hb := E.2.1
  have hts := E.2.2.1
  have hown := E.2.2.2.1
  have hK := E.2.2.2.2.1
  intro S H locs ls s0 l3 h G hl
  unfold fr_windowOf_14_b37 at h
  refine lv_istore_n (lv' := [(2, .int s0), (0, .ref (ad 0)), (1, .ref (ad 14)), (3, .int l3)]) hx hb dX12_windowOf_37 rfl hl (by decide) rfl (fun ls hl => ?_)
  obtain ⟨v2, ev2, h⟩ := elet_some h
  refine lv_iinc (v := v2) (lv' := [(3, .int v2), (2, .int s0), (0, .ref (ad 0)), (1, .ref (ad 14))]) hx hb dX12_windowOf_38 hl (k := 3) rfl ev2.symm (by decide) rfl (fun ls hl => ?_)
  refine lv_goto (tgt := 4) hx hb dX12_windowOf_41 (by decide) ?_
  have hl := lv_sub hl [2, 3, 1, 0] rfl
  exact hk4 _ _ _ _ _ _ h G hl
def fr_windowOf_14_b4  : Nat → MS → Int32 → Int32 → Option (Int32 × MS)
  | 0, _, _, _ => none
  | n + 1, S, l2, l3 => elet (S.2.1 10 4) fun v2 => if v2 ≤ l3 then (elet (S.2.1 10 2) fun v4 => elet (v4 - l2) fun v5 => elet (if 0 < v5 then v5 else 0) fun v6 => some (v6, S)) else (obind2 (fr_hears_14 S l3) fun r10 S7 => if r10 = 0 then (fr_windowOf_14_b37 (fr_windowOf_14_b4 n) S7 l2 l3) else (oif (inb l3 12 = true) <| elet (S7.2.1 24 l3.toNatClampNeg) fun v13 => elet (if l2 < v13 then v13 else l2) fun v14 => fr_windowOf_14_b37 (fr_windowOf_14_b4 n) S7 v14 l3))
set_option maxHeartbeats 4000000 in
set_option maxRecDepth 100000 in
theorem tr_windowOf_14_b4 {p : Program} {l : Launch} {e : Env} {s : State} {m : MethodId} {args : Array Value} {below : List Frame} {meth : Method} {c : Code} {Q : State → Prop} {D : va_G} {A : Nat → Prop} {H0 : Heap} {cI cJ cZ : ClassId} {ad : Nat → Nat} {r1 : Int32} {S1 : MS} (E : mE p c cX12_windowOf s m args (Cond.code yX12_windowOf cX12_windowOf 4 (some .int) :: wsM) D cI cJ cZ) (hA : ∀ q : Nat, H0.size ≤ q → A q) (hR : sR s) (hml : c.maxLocals = 4) (kr56 : ∀ (H : Heap) (locs : List Loc) (ls : Array Slot), mG D cI cJ cZ ad A H0 H locs S1 → W p l e { frames := 2, cells := 0, slots := 0, locals := 22 } s m args below meth c H locs 0 0 Q (F0 m 56 ls [.int r1])) : ∀ n : Nat, ∀ (S : MS) (H : Heap) (locs : List Loc) (ls : Array Slot) (l2 : Int32) (l3 : Int32), fr_windowOf_14_b4 n S l2 l3 = some (r1, S1) → mG D cI cJ cZ ad A H0 H locs S → lv_has ls 4 [(0, .ref (ad 0)), (1, .ref (ad 14)), (2, .int l2), (3, .int l3)] → W p l e { frames := 2, cells := 0, slots := 0, locals := 22 } s m args below meth c H locs 0 0 Q (F0 m 4 ls []) := by
  have hx := E.1
  have hb := E.2.1
  have hts := E.2.2.1
  have hown := E.2.2.2.1
  have hK := E.2.2.2.2.1
  intro n
  induction n with
  | zero =>
    intro S H locs ls l2 l3 h
    have h : (none : Option (Int32 × MS)) = some (r1, S1) := h
    cases h
  | succ n ih =>
    intro S H locs ls l2 l3 h G hl
    unfold fr_windowOf_14_b4 at h
    refine lv_iload_n hx hb dX12_windowOf_4 rfl (lv_at hl 3 rfl) ?_
    refine lv_aload_n hx hb dX12_windowOf_5 rfl (lv_at hl 0 rfl) ?_
    refine m_get E G 10 (v := .ref (ad 10)) (by decide) (.tail _ qM_7) rfl dX12_windowOf_6 rfl ?_
    refine lv_iconst (v := 4) hx hb dX12_windowOf_9 (by decide) ?_
    refine m_iald E G 10 2 (n := 131) (k := 4) rfl rfl (by decide) (by decide) dX12_windowOf_10 ?_
    refine lv_topi (fun v2 ev2 => ?_)
    have h := elet_at ev2 h
    clear ev2
    refine lv_icmp_ge (tgt := 44) hx hb dX12_windowOf_11 (by decide) (fun c3 => ?_) (fun c3 => ?_)
    · have h := oif_pos c3 h
      refine lv_iconst (v := 0) hx hb dX12_windowOf_44 (by decide) ?_
      refine lv_aload_n hx hb dX12_windowOf_45 rfl (lv_at hl 0 rfl) ?_
      refine m_get E G 10 (v := .ref (ad 10)) (by decide) (.tail _ qM_7) rfl dX12_windowOf_46 rfl ?_
      refine lv_iconst (v := 2) hx hb dX12_windowOf_49 (by decide) ?_
      refine m_iald E G 10 2 (n := 131) (k := 2) rfl rfl (by decide) (by decide) dX12_windowOf_50 ?_
      refine lv_topi (fun v4 ev4 => ?_)
      have h := elet_at ev4 h
      clear ev4
      refine lv_iload_n hx hb dX12_windowOf_51 rfl (lv_at hl 2 rfl) ?_
      refine lv_isub hx hb dX12_windowOf_52 ?_
      refine lv_topi (fun v5 ev5 => ?_)
      have h := elet_at ev5 h
      clear ev5
      refine va_mmax hx hb (hml.trans hl.1.symm) hown (hts _ (.tail _ qM_265)) (hts _ (.tail _ qM_266)) (hts _ (.tail _ qM_247)) (hts _ (.tail _ qM_267)) (Nat.le_of_ble_eq_true rfl) (Nat.le_of_ble_eq_true rfl) (Nat.zero_le _) (Nat.zero_le _) dX12_windowOf_53 ?_
      refine lv_topi (fun v6 ev6 => ?_)
      have h := elet_at ev6 h
      clear ev6
      rw [(osome2 h).2] at G
      refine lv_to (osome2 h).1 ?_
      exact kr56 _ _ _ G
    · have h := oif_neg c3 h
      refine lv_aload_n hx hb dX12_windowOf_14 rfl (lv_at hl 0 rfl) ?_
      refine lv_aload_n hx hb dX12_windowOf_15 rfl (lv_at hl 1 rfl) ?_
      refine lv_iload_n hx hb dX12_windowOf_16 rfl (lv_at hl 3 rfl) ?_
      obtain ⟨r10, S7, eS7, h⟩ := obind2_some h
      refine m_calli (As := [.ref (ad 14), .int l3]) (rest := []) E G hA hR hml (tr_hears_14 l D cI cJ cZ ad S l3 eS7) (cwV 2 hts (gmV qM_274 qM_275 qM_276 qM_35 qM_272) rfl rfl rfl (by decide +kernel) ⟨Nat.le_of_ble_eq_true rfl, Nat.le_of_ble_eq_true rfl⟩) rfl hl.1 rfl (lv_room (Nat.le_of_ble_eq_true rfl)) dX12_windowOf_17 ⟨Nat.zero_le _, Nat.zero_le _⟩ (fun q8 S9 H locs hq G => ?_)
      obtain ⟨hq1, hq2⟩ := hq
      rw [hq2] at G
      refine lv_to hq1 ?_
      clear hq1 hq2 eS7
      refine lv_if_eq (tgt := 36) hx hb dX12_windowOf_20 (by decide) (fun c11 => ?_) (fun c11 => ?_)
      · have h := oif_pos c11 h
        refine lv_iload_n hx hb dX12_windowOf_36 rfl (lv_at hl 2 rfl) ?_
        have hl := lv_sub hl [0, 1, 3] rfl
        exact tr_windowOf_14_b37 E hA hR hml kr56 ih _ _ _ _ _ _ h G hl
      · have h := oif_neg c11 h
        refine lv_iload_n hx hb dX12_windowOf_23 rfl (lv_at hl 2 rfl) ?_
        refine lv_aload_n hx hb dX12_windowOf_24 rfl (lv_at hl 0 rfl) ?_
        refine m_get E G 24 (v := .ref (ad 24)) (by decide) (.tail _ qM_19) rfl dX12_windowOf_25 rfl ?_
        refine lv_iload_n hx hb dX12_windowOf_28 rfl (lv_at hl 3 rfl) ?_
        obtain ⟨g12, h⟩ := oif_some h
        refine m_iald E G 24 12 (n := 12) (k := l3.toNatClampNeg) rfl (inb_k g12).1 (inb_k g12).2 (by decide) dX12_windowOf_29 ?_
        refine lv_topi (fun v13 ev13 => ?_)
        have h := elet_at ev13 h
        clear ev13
        refine va_mmax hx hb (hml.trans hl.1.symm) hown (hts _ (.tail _ qM_265)) (hts _ (.tail _ qM_266)) (hts _ (.tail _ qM_247)) (hts _ (.tail _ qM_267)) (Nat.le_of_ble_eq_true rfl) (Nat.le_of_ble_eq_true rfl) (Nat.zero_le _) (Nat.zero_le _) dX12_windowOf_30 ?_
        refine lv_topi (fun v14 ev14 => ?_)
        have h := elet_at ev14 h
        clear ev14
        refine lv_goto (tgt := 37) hx hb dX12_windowOf_33 (by decide) ?_
        have hl := lv_sub hl [0, 1, 3] rfl
        exact tr_windowOf_14_b37 E hA hR hml kr56 ih _ _ _ _ _ _ h G hl
def fr_windowOf_14 (S : MS)  : Option (Int32 × MS) := fr_windowOf_14_b4 16384 S 0 0
set_option maxHeartbeats 4000000 in
set_option maxRecDepth 100000 in
theorem tr_windowOf_14 (l : Launch) (D : va_G) (cI cJ cZ : ClassId) (ad : Nat → Nat) (S : MS)  {r1 : Int32} {S1 : MS} (h : fr_windowOf_14 S = some (r1, S1)) : mCi l yX12_windowOf (Cond.code yX12_windowOf cX12_windowOf 4 (some .int) :: wsM) 2 22 D cI cJ cZ ad S [.ref (ad 14)] (fun r S9 => r = r1 ∧ S9 = S1) := by
  intro sz
  refine Met.ofW (cc := cX12_windowOf) (maxL := 4) (ret := (some .int)) (by decide) rfl ?_
  intro p e s m args below meth c s₁ B hml hv
  obtain ⟨rfl, hsz, hP, hK, hD0, hR⟩ := hv
  have hx := B.exec
  have hb := B.bytes
  have hr := B.returns
  have hts := atoms_spec (ws := (Cond.code yX12_windowOf cX12_windowOf 4 (some .int) :: wsM)) B.pre
  have hown : s.vm.findClass RX12 = some m.cls := findClass_of_methodNamed B.named
  have hlocks := B.notSynchronized
  subst hsz
  have hD := hD0.self (sz := s.heap.size)
  generalize hAe : va_A (MW cI cJ cZ ad S) s.heap.size = A at hD ⊢
  have hA : ∀ q : Nat, s.heap.size ≤ q → A q := fun q h => by rw [← hAe]; exact Or.inr h
  have G : mG D cI cJ cZ ad A s.heap s.heap [] S := ⟨hP, hD, va_S.rf⟩
  have E : mE p c cX12_windowOf s m ([.ref (ad 0), .ref (ad 14)] : List Value).toArray (Cond.code yX12_windowOf cX12_windowOf 4 (some .int) :: wsM) D cI cJ cZ := ⟨hx, hb, hts, hown, hK, fun w h => .tail _ (iM_x h)⟩
  have hl := lv_entry ([.ref (ad 0), .ref (ad 14)]) (n := 4) (Nat.le_of_ble_eq_true rfl)
  rw [lg_entry_eq]
  generalize (lg_sl ([.ref (ad 0), .ref (ad 14)]) ++ List.replicate (4 - (lg_sl ([.ref (ad 0), .ref (ad 14)])).length) Slot.unset).toArray = ls at hl ⊢
  have hl : lv_has ls 4 [(0, .ref (ad 0)), (1, .ref (ad 14))] := hl
  unfold fr_windowOf_14 at h
  refine lv_iconst (v := 0) hx hb dX12_windowOf_0 (by decide) ?_
  refine lv_istore_n (lv' := [(2, .int 0), (0, .ref (ad 0)), (1, .ref (ad 14))]) hx hb dX12_windowOf_1 rfl hl (by decide) rfl (fun ls hl => ?_)
  refine lv_iconst (v := 0) hx hb dX12_windowOf_2 (by decide) ?_
  refine lv_istore_n (lv' := [(3, .int 0), (2, .int 0), (0, .ref (ad 0)), (1, .ref (ad 14))]) hx hb dX12_windowOf_3 rfl hl (by decide) rfl (fun ls hl => ?_)
  have hl := lv_sub hl [2, 3, 1, 0] rfl
  exact tr_windowOf_14_b4 E hA hR hml (fun H locs ls G => W.iret (v := r1) hx hb hr (fun t ht hW => ⟨⟨r1, S1, rfl, ⟨rfl, rfl⟩, ⟨by rw [ht]; exact G.1, va_K.moved hW.alike hK, G.2.1⟩⟩, G.2.2.F ht⟩) G.2.2.2.2 dX12_windowOf_56) _ _ _ _ _ _ _ h G hl
def fr_beamAt_14_b78 (k5 : MS → Int32 → Int32 → Int32 → Option (Int32 × MS)) (S : MS) (s0 : Int32) (s1 : Int32) (l2 : Int32) (l4 : Int32) : Option (Int32 × MS) := elet (s1 + s0) fun v2 => elet (l4 + Int32.ofInt (1)) fun v3 => k5 S l2 v2 v3
set_option maxHeartbeats 4000000 in
set_option maxRecDepth 100000 in
theorem tr_beamAt_14_b78 {p : Program} {l : Launch} {e : Env} {s : State} {m : MethodId} {args : Array Value} {below : List Frame} {meth : Method} {c : Code} {Q : State → Prop} {D : va_G} {A : Nat → Prop} {H0 : Heap} {cI cJ cZ : ClassId} {ad : Nat → Nat} {r1 : Int32} {S1 : MS} (E : mE p c cX12_beamAt s m args (Cond.code yX12_beamAt cX12_beamAt 5 (some .int) :: wsM) D cI cJ cZ) (hA : ∀ q : Nat, H0.size ≤ q → A q) (hR : sR s) (hml : c.maxLocals = 5) (kr87 : ∀ (H : Heap) (locs : List Loc) (ls : Array Slot), mG D cI cJ cZ ad A H0 H locs S1 → W p l e { frames := 2, cells := 0, slots := 0, locals := 22 } s m args below meth c H locs 0 0 Q (F0 m 87 ls [.int r1])) {k5 : MS → Int32 → Int32 → Int32 → Option (Int32 × MS)} (hk5 : ∀ (S : MS) (H : Heap) (locs : List Loc) (ls : Array Slot) (l2 : Int32) (l3 : Int32) (l4 : Int32), k5 S l2 l3 l4 = some (r1, S1) → mG D cI cJ cZ ad A H0 H locs S → lv_has ls 5 [(0, .ref (ad 0)), (1, .ref (ad 14)), (2, .int l2), (3, .int l3), (4, .int l4)] → W p l e { frames := 2, cells := 0, slots := 0, locals := 22 } s m args below meth c H locs 0 0 Q (F0 m 5 ls [])) : ∀ (S : MS) (H : Heap) (locs : List Loc) (ls : Array Slot) (s0 : Int32) (s1 : Int32) (l2 : Int32) (l4 : Int32), fr_beamAt_14_b78 k5 S s0 s1 l2 l4 = some (r1, S1) → mG D cI cJ cZ ad A H0 H locs S → lv_has ls 5 [(0, .ref (ad 0)), (1, .ref (ad 14)), (2, .int l2), (4, .int l4)] → W p l e { frames := 2, cells := 0, slots := 0, locals := 22 } s m args below meth c H locs 0 0 Q (F0 m 78 ls [.int s0, .int s1]) := by
  have hx := E.1
  have hb := E.2.1
  have hts := E.2.2.1
  have hown := E.2.2.2.1
  have hK := E.2.2.2.2.1
  intro S H locs ls s0 s1 l2 l4 h G hl
  unfold fr_beamAt_14_b78 at h
  refine lv_iadd hx hb dX12_beamAt_78 ?_
  refine lv_topi (fun v2 ev2 => ?_)
  have h := elet_at ev2 h
  clear ev2
  refine lv_istore_n (lv' := [(3, .int v2), (0, .ref (ad 0)), (1, .ref (ad 14)), (2, .int l2), (4, .int l4)]) hx hb dX12_beamAt_79 rfl hl (by decide) rfl (fun ls hl => ?_)
  obtain ⟨v3, ev3, h⟩ := elet_some h
  refine lv_iinc (v := v3) (lv' := [(4, .int v3), (3, .int v2), (0, .ref (ad 0)), (1, .ref (ad 14)), (2, .int l2)]) hx hb dX12_beamAt_80 hl (k := 4) rfl ev3.symm (by decide) rfl (fun ls hl => ?_)
  refine lv_goto (tgt := 5) hx hb dX12_beamAt_83 (by decide) ?_
  have hl := lv_sub hl [2, 3, 4, 1, 0] rfl
  exact hk5 _ _ _ _ _ _ _ h G hl
def fr_beamAt_14_b77 (k5 : MS → Int32 → Int32 → Int32 → Option (Int32 × MS)) (S : MS) (s0 : Int32) (l2 : Int32) (l4 : Int32) : Option (Int32 × MS) := fr_beamAt_14_b78 k5 S 0 s0 l2 l4
set_option maxHeartbeats 4000000 in
set_option maxRecDepth 100000 in
theorem tr_beamAt_14_b77 {p : Program} {l : Launch} {e : Env} {s : State} {m : MethodId} {args : Array Value} {below : List Frame} {meth : Method} {c : Code} {Q : State → Prop} {D : va_G} {A : Nat → Prop} {H0 : Heap} {cI cJ cZ : ClassId} {ad : Nat → Nat} {r1 : Int32} {S1 : MS} (E : mE p c cX12_beamAt s m args (Cond.code yX12_beamAt cX12_beamAt 5 (some .int) :: wsM) D cI cJ cZ) (hA : ∀ q : Nat, H0.size ≤ q → A q) (hR : sR s) (hml : c.maxLocals = 5) (kr87 : ∀ (H : Heap) (locs : List Loc) (ls : Array Slot), mG D cI cJ cZ ad A H0 H locs S1 → W p l e { frames := 2, cells := 0, slots := 0, locals := 22 } s m args below meth c H locs 0 0 Q (F0 m 87 ls [.int r1])) {k5 : MS → Int32 → Int32 → Int32 → Option (Int32 × MS)} (hk5 : ∀ (S : MS) (H : Heap) (locs : List Loc) (ls : Array Slot) (l2 : Int32) (l3 : Int32) (l4 : Int32), k5 S l2 l3 l4 = some (r1, S1) → mG D cI cJ cZ ad A H0 H locs S → lv_has ls 5 [(0, .ref (ad 0)), (1, .ref (ad 14)), (2, .int l2), (3, .int l3), (4, .int l4)] → W p l e { frames := 2, cells := 0, slots := 0, locals := 22 } s m args below meth c H locs 0 0 Q (F0 m 5 ls [])) : ∀ (S : MS) (H : Heap) (locs : List Loc) (ls : Array Slot) (s0 : Int32) (l2 : Int32) (l4 : Int32), fr_beamAt_14_b77 k5 S s0 l2 l4 = some (r1, S1) → mG D cI cJ cZ ad A H0 H locs S → lv_has ls 5 [(0, .ref (ad 0)), (1, .ref (ad 14)), (2, .int l2), (4, .int l4)] → W p l e { frames := 2, cells := 0, slots := 0, locals := 22 } s m args below meth c H locs 0 0 Q (F0 m 77 ls [.int s0]) := by
  have hx := E.1
  have hb := E.2.1
  have hts := E.2.2.1
  have hown := E.2.2.2.1
  have hK := E.2.2.2.2.1
  intro S H locs ls s0 l2 l4 h G hl
  unfold fr_beamAt_14_b77 at h
  refine lv_iconst (v := 0) hx hb dX12_beamAt_77 (by decide) ?_
  have hl := lv_sub hl [0, 1, 2, 3] rfl
  exact tr_beamAt_14_b78 E hA hR hml kr87 hk5 _ _ _ _ _ _ _ _ h G hl
def fr_beamAt_14_b5  : Nat → MS → Int32 → Int32 → Int32 → Option (Int32 × MS)
  | 0, _, _, _, _ => none
  | n + 1, S, l2, l3, l4 => elet (S.2.1 10 4) fun v2 => if v2 ≤ l4 then (some (l3, S)) else (obind2 (fr_hears_14 S l4) fun r7 S4 => if r7 = 0 then (fr_beamAt_14_b77 (fr_beamAt_14_b5 n) S4 l3 l2 l4) else (oif (inb l4 12 = true) <| elet (S4.2.1 24 l4.toNatClampNeg) fun v10 => elet (l2 + v10) fun v11 => elet (S4.2.1 10 2) fun v12 => if v12 ≤ v11 then (fr_beamAt_14_b77 (fr_beamAt_14_b5 n) S4 l3 l2 l4) else (elet (13 + l4) fun v14 => oif (inb v14 2455 = true) <| elet (S4.2.1 14 v14.toNatClampNeg) fun v16 => elet (200 * l4) fun v17 => elet (55 + v17) fun v18 => elet (v18 + l2) fun v19 => oif (inb l4 12 = true) <| elet (S4.2.1 24 l4.toNatClampNeg) fun v21 => elet (v19 + v21) fun v22 => oif (inb v22 2455 = true) <| elet (S4.2.1 14 v22.toNatClampNeg) fun v24 => elet (v16 * v24) fun v25 => fr_beamAt_14_b78 (fr_beamAt_14_b5 n) S4 v25 l3 l2 l4)))
set_option maxHeartbeats 4000000 in
set_option maxRecDepth 100000 in
theorem tr_beamAt_14_b5 {p : Program} {l : Launch} {e : Env} {s : State} {m : MethodId} {args : Array Value} {below : List Frame} {meth : Method} {c : Code} {Q : State → Prop} {D : va_G} {A : Nat → Prop} {H0 : Heap} {cI cJ cZ : ClassId} {ad : Nat → Nat} {r1 : Int32} {S1 : MS} (E : mE p c cX12_beamAt s m args (Cond.code yX12_beamAt cX12_beamAt 5 (some .int) :: wsM) D cI cJ cZ) (hA : ∀ q : Nat, H0.size ≤ q → A q) (hR : sR s) (hml : c.maxLocals = 5) (kr87 : ∀ (H : Heap) (locs : List Loc) (ls : Array Slot), mG D cI cJ cZ ad A H0 H locs S1 → W p l e { frames := 2, cells := 0, slots := 0, locals := 22 } s m args below meth c H locs 0 0 Q (F0 m 87 ls [.int r1])) : ∀ n : Nat, ∀ (S : MS) (H : Heap) (locs : List Loc) (ls : Array Slot) (l2 : Int32) (l3 : Int32) (l4 : Int32), fr_beamAt_14_b5 n S l2 l3 l4 = some (r1, S1) → mG D cI cJ cZ ad A H0 H locs S → lv_has ls 5 [(0, .ref (ad 0)), (1, .ref (ad 14)), (2, .int l2), (3, .int l3), (4, .int l4)] → W p l e { frames := 2, cells := 0, slots := 0, locals := 22 } s m args below meth c H locs 0 0 Q (F0 m 5 ls []) := by
  have hx := E.1
  have hb := E.2.1
  have hts := E.2.2.1
  have hown := E.2.2.2.1
  have hK := E.2.2.2.2.1
  intro n
  induction n with
  | zero =>
    intro S H locs ls l2 l3 l4 h
    have h : (none : Option (Int32 × MS)) = some (r1, S1) := h
    cases h
  | succ n ih =>
    intro S H locs ls l2 l3 l4 h G hl
    unfold fr_beamAt_14_b5 at h
    refine lv_iload hx hb dX12_beamAt_5 (lv_at hl 4 rfl) ?_
    refine lv_aload_n hx hb dX12_beamAt_7 rfl (lv_at hl 0 rfl) ?_
    refine m_get E G 10 (v := .ref (ad 10)) (by decide) (.tail _ qM_7) rfl dX12_beamAt_8 rfl ?_
    refine lv_iconst (v := 4) hx hb dX12_beamAt_11 (by decide) ?_
    refine m_iald E G 10 2 (n := 131) (k := 4) rfl rfl (by decide) (by decide) dX12_beamAt_12 ?_
    refine lv_topi (fun v2 ev2 => ?_)
    have h := elet_at ev2 h
    clear ev2
    refine lv_icmp_ge (tgt := 86) hx hb dX12_beamAt_13 (by decide) (fun c3 => ?_) (fun c3 => ?_)
    · have h := oif_pos c3 h
      refine lv_iload_n hx hb dX12_beamAt_86 rfl (lv_at hl 3 rfl) ?_
      rw [(osome2 h).2] at G
      refine lv_to (osome2 h).1 ?_
      exact kr87 _ _ _ G
    · have h := oif_neg c3 h
      refine lv_iload_n hx hb dX12_beamAt_16 rfl (lv_at hl 3 rfl) ?_
      refine lv_aload_n hx hb dX12_beamAt_17 rfl (lv_at hl 0 rfl) ?_
      refine lv_aload_n hx hb dX12_beamAt_18 rfl (lv_at hl 1 rfl) ?_
      refine lv_iload hx hb dX12_beamAt_19 (lv_at hl 4 rfl) ?_
      obtain ⟨r7, S4, eS4, h⟩ := obind2_some h
      refine m_calli (As := [.ref (ad 14), .int l4]) (rest := [.int l3]) E G hA hR hml (tr_hears_14 l D cI cJ cZ ad S l4 eS4) (cwV 2 hts (gmV qM_274 qM_275 qM_276 qM_35 qM_272) rfl rfl rfl (by decide +kernel) ⟨Nat.le_of_ble_eq_true rfl, Nat.le_of_ble_eq_true rfl⟩) rfl hl.1 rfl (lv_room (Nat.le_of_ble_eq_true rfl)) dX12_beamAt_21 ⟨Nat.zero_le _, Nat.zero_le _⟩ (fun q5 S6 H locs hq G => ?_)
      obtain ⟨hq1, hq2⟩ := hq
      rw [hq2] at G
      refine lv_to hq1 ?_
      clear hq1 hq2 eS4
      refine lv_if_eq (tgt := 77) hx hb dX12_beamAt_24 (by decide) (fun c8 => ?_) (fun c8 => ?_)
      · have h := oif_pos c8 h
        have hl := lv_sub hl [0, 1, 2, 4] rfl
        exact tr_beamAt_14_b77 E hA hR hml kr87 ih _ _ _ _ _ _ _ h G hl
      · have h := oif_neg c8 h
        refine lv_iload_n hx hb dX12_beamAt_27 rfl (lv_at hl 2 rfl) ?_
        refine lv_aload_n hx hb dX12_beamAt_28 rfl (lv_at hl 0 rfl) ?_
        refine m_get E G 24 (v := .ref (ad 24)) (by decide) (.tail _ qM_19) rfl dX12_beamAt_29 rfl ?_
        refine lv_iload hx hb dX12_beamAt_32 (lv_at hl 4 rfl) ?_
        obtain ⟨g9, h⟩ := oif_some h
        refine m_iald E G 24 12 (n := 12) (k := l4.toNatClampNeg) rfl (inb_k g9).1 (inb_k g9).2 (by decide) dX12_beamAt_34 ?_
        refine lv_topi (fun v10 ev10 => ?_)
        have h := elet_at ev10 h
        clear ev10
        refine lv_iadd hx hb dX12_beamAt_35 ?_
        refine lv_topi (fun v11 ev11 => ?_)
        have h := elet_at ev11 h
        clear ev11
        refine lv_aload_n hx hb dX12_beamAt_36 rfl (lv_at hl 0 rfl) ?_
        refine m_get E G 10 (v := .ref (ad 10)) (by decide) (.tail _ qM_7) rfl dX12_beamAt_37 rfl ?_
        refine lv_iconst (v := 2) hx hb dX12_beamAt_40 (by decide) ?_
        refine m_iald E G 10 2 (n := 131) (k := 2) rfl rfl (by decide) (by decide) dX12_beamAt_41 ?_
        refine lv_topi (fun v12 ev12 => ?_)
        have h := elet_at ev12 h
        clear ev12
        refine lv_icmp_ge (tgt := 77) hx hb dX12_beamAt_42 (by decide) (fun c13 => ?_) (fun c13 => ?_)
        · have h := oif_pos c13 h
          have hl := lv_sub hl [0, 1, 2, 4] rfl
          exact tr_beamAt_14_b77 E hA hR hml kr87 ih _ _ _ _ _ _ _ h G hl
        · have h := oif_neg c13 h
          refine lv_aload_n hx hb dX12_beamAt_45 rfl (lv_at hl 1 rfl) ?_
          refine lv_bipush (v := 13) hx hb dX12_beamAt_46 (by decide) ?_
          refine lv_iload hx hb dX12_beamAt_48 (lv_at hl 4 rfl) ?_
          refine lv_iadd hx hb dX12_beamAt_50 ?_
          refine lv_topi (fun v14 ev14 => ?_)
          have h := elet_at ev14 h
          clear ev14
          obtain ⟨g15, h⟩ := oif_some h
          refine m_iald E G 14 6 (n := 2455) (k := v14.toNatClampNeg) rfl (inb_k g15).1 (inb_k g15).2 (by decide) dX12_beamAt_51 ?_
          refine lv_topi (fun v16 ev16 => ?_)
          have h := elet_at ev16 h
          clear ev16
          refine lv_aload_n hx hb dX12_beamAt_52 rfl (lv_at hl 1 rfl) ?_
          refine lv_bipush (v := 55) hx hb dX12_beamAt_53 (by decide) ?_
          refine lv_sipush (v := 200) hx hb dX12_beamAt_55 (by decide) ?_
          refine lv_iload hx hb dX12_beamAt_58 (lv_at hl 4 rfl) ?_
          refine lv_imul hx hb dX12_beamAt_60 ?_
          refine lv_topi (fun v17 ev17 => ?_)
          have h := elet_at ev17 h
          clear ev17
          refine lv_iadd hx hb dX12_beamAt_61 ?_
          refine lv_topi (fun v18 ev18 => ?_)
          have h := elet_at ev18 h
          clear ev18
          refine lv_iload_n hx hb dX12_beamAt_62 rfl (lv_at hl 2 rfl) ?_
          refine lv_iadd hx hb dX12_beamAt_63 ?_
          refine lv_topi (fun v19 ev19 => ?_)
          have h := elet_at ev19 h
          clear ev19
          refine lv_aload_n hx hb dX12_beamAt_64 rfl (lv_at hl 0 rfl) ?_
          refine m_get E G 24 (v := .ref (ad 24)) (by decide) (.tail _ qM_19) rfl dX12_beamAt_65 rfl ?_
          refine lv_iload hx hb dX12_beamAt_68 (lv_at hl 4 rfl) ?_
          obtain ⟨g20, h⟩ := oif_some h
          refine m_iald E G 24 12 (n := 12) (k := l4.toNatClampNeg) rfl (inb_k g20).1 (inb_k g20).2 (by decide) dX12_beamAt_70 ?_
          refine lv_topi (fun v21 ev21 => ?_)
          have h := elet_at ev21 h
          clear ev21
          refine lv_iadd hx hb dX12_beamAt_71 ?_
          refine lv_topi (fun v22 ev22 => ?_)
          have h := elet_at ev22 h
          clear ev22
          obtain ⟨g23, h⟩ := oif_some h
          refine m_iald E G 14 6 (n := 2455) (k := v22.toNatClampNeg) rfl (inb_k g23).1 (inb_k g23).2 (by decide) dX12_beamAt_72 ?_
          refine lv_topi (fun v24 ev24 => ?_)
          have h := elet_at ev24 h
          clear ev24
          refine lv_imul hx hb dX12_beamAt_73 ?_
          refine lv_topi (fun v25 ev25 => ?_)
          have h := elet_at ev25 h
          clear ev25
          refine lv_goto (tgt := 78) hx hb dX12_beamAt_74 (by decide) ?_
          have hl := lv_sub hl [0, 1, 2, 4] rfl
          exact tr_beamAt_14_b78 E hA hR hml kr87 ih _ _ _ _ _ _ _ _ h G hl
def fr_beamAt_14 (S : MS) (a1 : Int32) : Option (Int32 × MS) := fr_beamAt_14_b5 16384 S a1 0 0
set_option maxHeartbeats 4000000 in
set_option maxRecDepth 100000 in
theorem tr_beamAt_14 (l : Launch) (D : va_G) (cI cJ cZ : ClassId) (ad : Nat → Nat) (S : MS) (a1 : Int32) {r1 : Int32} {S1 : MS} (h : fr_beamAt_14 S a1 = some (r1, S1)) : mCi l yX12_beamAt (Cond.code yX12_beamAt cX12_beamAt 5 (some .int) :: wsM) 2 22 D cI cJ cZ ad S [.ref (ad 14), .int a1] (fun r S9 => r = r1 ∧ S9 = S1) := by
  intro sz
  refine Met.ofW (cc := cX12_beamAt) (maxL := 5) (ret := (some .int)) (by decide) rfl ?_
  intro p e s m args below meth c s₁ B hml hv
  obtain ⟨rfl, hsz, hP, hK, hD0, hR⟩ := hv
  have hx := B.exec
  have hb := B.bytes
  have hr := B.returns
  have hts := atoms_spec (ws := (Cond.code yX12_beamAt cX12_beamAt 5 (some .int) :: wsM)) B.pre
  have hown : s.vm.findClass RX12 = some m.cls := findClass_of_methodNamed B.named
  have hlocks := B.notSynchronized
  subst hsz
  have hD := hD0.self (sz := s.heap.size)
  generalize hAe : va_A (MW cI cJ cZ ad S) s.heap.size = A at hD ⊢
  have hA : ∀ q : Nat, s.heap.size ≤ q → A q := fun q h => by rw [← hAe]; exact Or.inr h
  have G : mG D cI cJ cZ ad A s.heap s.heap [] S := ⟨hP, hD, va_S.rf⟩
  have E : mE p c cX12_beamAt s m ([.ref (ad 0), .ref (ad 14), .int a1] : List Value).toArray (Cond.code yX12_beamAt cX12_beamAt 5 (some .int) :: wsM) D cI cJ cZ := ⟨hx, hb, hts, hown, hK, fun w h => .tail _ (iM_x h)⟩
  have hl := lv_entry ([.ref (ad 0), .ref (ad 14), .int a1]) (n := 5) (Nat.le_of_ble_eq_true rfl)
  rw [lg_entry_eq]
  generalize (lg_sl ([.ref (ad 0), .ref (ad 14), .int a1]) ++ List.replicate (5 - (lg_sl ([.ref (ad 0), .ref (ad 14), .int a1])).length) Slot.unset).toArray = ls at hl ⊢
  have hl : lv_has ls 5 [(0, .ref (ad 0)), (1, .ref (ad 14)), (2, .int a1)] := hl
  unfold fr_beamAt_14 at h
  refine lv_iconst (v := 0) hx hb dX12_beamAt_0 (by decide) ?_
  refine lv_istore_n (lv' := [(3, .int 0), (0, .ref (ad 0)), (1, .ref (ad 14)), (2, .int a1)]) hx hb dX12_beamAt_1 rfl hl (by decide) rfl (fun ls hl => ?_)
  refine lv_iconst (v := 0) hx hb dX12_beamAt_2 (by decide) ?_
  refine lv_istore (lv' := [(4, .int 0), (3, .int 0), (0, .ref (ad 0)), (1, .ref (ad 14)), (2, .int a1)]) hx hb dX12_beamAt_3 hl (by decide) rfl (fun ls hl => ?_)
  have hl := lv_sub hl [2, 3, 4, 1, 0] rfl
  exact tr_beamAt_14_b5 E hA hR hml (fun H locs ls G => W.iret (v := r1) hx hb hr (fun t ht hW => ⟨⟨r1, S1, rfl, ⟨rfl, rfl⟩, ⟨by rw [ht]; exact G.1, va_K.moved hW.alike hK, G.2.1⟩⟩, G.2.2.F ht⟩) G.2.2.2.2 dX12_beamAt_87) _ _ _ _ _ _ _ _ h G hl
def fr_energy_14_b6  : Nat → MS → Int32 → Int64 → Int32 → Option (Int64 × MS)
  | 0, _, _, _, _ => none
  | n + 1, S, l3, l4, l6 => if l3 ≤ l6 then (some (l4, S)) else (obind2 (fr_beamAt_14 S l6) fun r6 S3 => elet (r6.toInt64) fun v7 => elet (v7 * v7) fun v8 => elet (l4 + v8) fun v9 => elet (l6 + Int32.ofInt (1)) fun v10 => fr_energy_14_b6 n S3 l3 v9 v10)
set_option maxHeartbeats 4000000 in
set_option maxRecDepth 100000 in
theorem tr_energy_14_b6 {p : Program} {l : Launch} {e : Env} {s : State} {m : MethodId} {args : Array Value} {below : List Frame} {meth : Method} {c : Code} {Q : State → Prop} {D : va_G} {A : Nat → Prop} {H0 : Heap} {cI cJ cZ : ClassId} {ad : Nat → Nat} {r1 : Int64} {S1 : MS} (E : mE p c cX12_energy s m args (Cond.code yX12_energy cX12_energy 9 (some .long) :: wsM) D cI cJ cZ) (hA : ∀ q : Nat, H0.size ≤ q → A q) (hR : sR s) (hml : c.maxLocals = 9) (kr40 : ∀ (H : Heap) (locs : List Loc) (ls : Array Slot), mG D cI cJ cZ ad A H0 H locs S1 → W p l e { frames := 3, cells := 0, slots := 0, locals := 46 } s m args below meth c H locs 0 0 Q (F0 m 40 ls [.long r1])) : ∀ n : Nat, ∀ (S : MS) (H : Heap) (locs : List Loc) (ls : Array Slot) (l3 : Int32) (l4 : Int64) (l6 : Int32), fr_energy_14_b6 n S l3 l4 l6 = some (r1, S1) → mG D cI cJ cZ ad A H0 H locs S → lv_has ls 9 [(0, .ref (ad 0)), (1, .ref (ad 14)), (3, .int l3), (4, .long l4), (6, .int l6)] → W p l e { frames := 3, cells := 0, slots := 0, locals := 46 } s m args below meth c H locs 0 0 Q (F0 m 6 ls []) := by
  have hx := E.1
  have hb := E.2.1
  have hts := E.2.2.1
  have hown := E.2.2.2.1
  have hK := E.2.2.2.2.1
  intro n
  induction n with
  | zero =>
    intro S H locs ls l3 l4 l6 h
    have h : (none : Option (Int64 × MS)) = some (r1, S1) := h
    cases h
  | succ n ih =>
    intro S H locs ls l3 l4 l6 h G hl
    unfold fr_energy_14_b6 at h
    refine lv_iload hx hb dX12_energy_6 (lv_at hl 4 rfl) ?_
    refine lv_iload_n hx hb dX12_energy_8 rfl (lv_at hl 2 rfl) ?_
    refine lv_icmp_ge (tgt := 38) hx hb dX12_energy_9 (by decide) (fun c2 => ?_) (fun c2 => ?_)
    · have h := oif_pos c2 h
      refine lv_lload hx hb dX12_energy_38 (lv_at hl 3 rfl) ?_
      rw [(osome2 h).2] at G
      refine lv_tol (osome2 h).1 ?_
      exact kr40 _ _ _ G
    · have h := oif_neg c2 h
      refine lv_aload_n hx hb dX12_energy_12 rfl (lv_at hl 0 rfl) ?_
      refine lv_aload_n hx hb dX12_energy_13 rfl (lv_at hl 1 rfl) ?_
      refine lv_iload hx hb dX12_energy_14 (lv_at hl 4 rfl) ?_
      obtain ⟨r6, S3, eS3, h⟩ := obind2_some h
      refine m_calli (As := [.ref (ad 14), .int l6]) (rest := []) E G hA hR hml (tr_beamAt_14 l D cI cJ cZ ad S l6 eS3) (cwV 2 hts (gmV qM_279 qM_280 qM_281 qM_35 qM_277) rfl rfl rfl (by decide +kernel) ⟨Nat.le_of_ble_eq_true rfl, Nat.le_of_ble_eq_true rfl⟩) rfl hl.1 rfl (lv_room (Nat.le_of_ble_eq_true rfl)) dX12_energy_16 ⟨Nat.zero_le _, Nat.zero_le _⟩ (fun q4 S5 H locs hq G => ?_)
      obtain ⟨hq1, hq2⟩ := hq
      rw [hq2] at G
      refine lv_to hq1 ?_
      clear hq1 hq2 eS3
      refine lv_i2l (v := r6.toInt64) hx hb dX12_energy_19 rfl ?_
      refine lv_topl (fun v7 ev7 => ?_)
      have h := elet_at ev7 h
      clear ev7
      refine lv_lstore (lv' := [(7, .long v7), (0, .ref (ad 0)), (1, .ref (ad 14)), (3, .int l3), (4, .long l4), (6, .int l6)]) hx hb dX12_energy_20 hl (by decide) rfl (fun ls hl => ?_)
      refine lv_lload hx hb dX12_energy_22 (lv_at hl 4 rfl) ?_
      refine lv_lload hx hb dX12_energy_24 (lv_at hl 0 rfl) ?_
      refine lv_lload hx hb dX12_energy_26 (lv_at hl 0 rfl) ?_
      refine lv_lmul hx hb dX12_energy_28 ?_
      refine lv_topl (fun v8 ev8 => ?_)
      have h := elet_at ev8 h
      clear ev8
      refine lv_ladd hx hb dX12_energy_29 ?_
      refine lv_topl (fun v9 ev9 => ?_)
      have h := elet_at ev9 h
      clear ev9
      refine lv_lstore (lv' := [(4, .long v9), (7, .long v7), (0, .ref (ad 0)), (1, .ref (ad 14)), (3, .int l3), (6, .int l6)]) hx hb dX12_energy_30 hl (by decide) rfl (fun ls hl => ?_)
      obtain ⟨v10, ev10, h⟩ := elet_some h
      refine lv_iinc (v := v10) (lv' := [(6, .int v10), (4, .long v9), (7, .long v7), (0, .ref (ad 0)), (1, .ref (ad 14)), (3, .int l3)]) hx hb dX12_energy_32 hl (k := 5) rfl ev10.symm (by decide) rfl (fun ls hl => ?_)
      refine lv_goto (tgt := 6) hx hb dX12_energy_35 (by decide) ?_
      have hl := lv_sub hl [3, 4, 5, 1, 0] rfl
      exact ih _ _ _ _ _ _ _ h G hl
def fr_energy_14 (S : MS) (a1 : Int32) (a2 : Int32) : Option (Int64 × MS) := fr_energy_14_b6 16384 S a2 (0 : Int64) a1
set_option maxHeartbeats 4000000 in
set_option maxRecDepth 100000 in
theorem tr_energy_14 (l : Launch) (D : va_G) (cI cJ cZ : ClassId) (ad : Nat → Nat) (S : MS) (a1 : Int32) (a2 : Int32) {r1 : Int64} {S1 : MS} (h : fr_energy_14 S a1 a2 = some (r1, S1)) : mCl l yX12_energy (Cond.code yX12_energy cX12_energy 9 (some .long) :: wsM) 3 46 D cI cJ cZ ad S [.ref (ad 14), .int a1, .int a2] (fun r S9 => r = r1 ∧ S9 = S1) := by
  intro sz
  refine Met.ofW (cc := cX12_energy) (maxL := 9) (ret := (some .long)) (by decide) rfl ?_
  intro p e s m args below meth c s₁ B hml hv
  obtain ⟨rfl, hsz, hP, hK, hD0, hR⟩ := hv
  have hx := B.exec
  have hb := B.bytes
  have hr := B.returns
  have hts := atoms_spec (ws := (Cond.code yX12_energy cX12_energy 9 (some .long) :: wsM)) B.pre
  have hown : s.vm.findClass RX12 = some m.cls := findClass_of_methodNamed B.named
  have hlocks := B.notSynchronized
  subst hsz
  have hD := hD0.self (sz := s.heap.size)
  generalize hAe : va_A (MW cI cJ cZ ad S) s.heap.size = A at hD ⊢
  have hA : ∀ q : Nat, s.heap.size ≤ q → A q := fun q h => by rw [← hAe]; exact Or.inr h
  have G : mG D cI cJ cZ ad A s.heap s.heap [] S := ⟨hP, hD, va_S.rf⟩
  have E : mE p c cX12_energy s m ([.ref (ad 0), .ref (ad 14), .int a1, .int a2] : List Value).toArray (Cond.code yX12_energy cX12_energy 9 (some .long) :: wsM) D cI cJ cZ := ⟨hx, hb, hts, hown, hK, fun w h => .tail _ (iM_x h)⟩
  have hl := lv_entry ([.ref (ad 0), .ref (ad 14), .int a1, .int a2]) (n := 9) (Nat.le_of_ble_eq_true rfl)
  rw [lg_entry_eq]
  generalize (lg_sl ([.ref (ad 0), .ref (ad 14), .int a1, .int a2]) ++ List.replicate (9 - (lg_sl ([.ref (ad 0), .ref (ad 14), .int a1, .int a2])).length) Slot.unset).toArray = ls at hl ⊢
  have hl : lv_has ls 9 [(0, .ref (ad 0)), (1, .ref (ad 14)), (2, .int a1), (3, .int a2)] := hl
  unfold fr_energy_14 at h
  refine lv_lconst (v := 0) hx hb dX12_energy_0 (by decide) ?_
  refine lv_lstore (lv' := [(4, .long (0 : Int64)), (0, .ref (ad 0)), (1, .ref (ad 14)), (2, .int a1), (3, .int a2)]) hx hb dX12_energy_1 hl (by decide) rfl (fun ls hl => ?_)
  refine lv_iload_n hx hb dX12_energy_3 rfl (lv_at hl 3 rfl) ?_
  refine lv_istore (lv' := [(6, .int a1), (4, .long (0 : Int64)), (0, .ref (ad 0)), (1, .ref (ad 14)), (2, .int a1), (3, .int a2)]) hx hb dX12_energy_4 hl (by decide) rfl (fun ls hl => ?_)
  have hl := lv_sub hl [2, 3, 5, 1, 0] rfl
  exact tr_energy_14_b6 E hA hR hml (fun H locs ls G => W.lret (v := r1) hx hb hr (fun t ht hW => ⟨⟨r1, S1, rfl, ⟨rfl, rfl⟩, ⟨by rw [ht]; exact G.1, va_K.moved hW.alike hK, G.2.1⟩⟩, G.2.2.F ht⟩) G.2.2.2.2 dX12_energy_40) _ _ _ _ _ _ _ _ h G hl
def fr_powerHere_14_b24  (S : MS) (s0 : Int64) : Option (Int64 × MS) := some (s0, S)
set_option maxHeartbeats 4000000 in
set_option maxRecDepth 100000 in
theorem tr_powerHere_14_b24 {p : Program} {l : Launch} {e : Env} {s : State} {m : MethodId} {args : Array Value} {below : List Frame} {meth : Method} {c : Code} {Q : State → Prop} {D : va_G} {A : Nat → Prop} {H0 : Heap} {cI cJ cZ : ClassId} {ad : Nat → Nat} {r1 : Int64} {S1 : MS} (E : mE p c cX12_powerHere s m args (Cond.code yX12_powerHere cX12_powerHere 3 (some .long) :: wsM) D cI cJ cZ) (hA : ∀ q : Nat, H0.size ≤ q → A q) (hR : sR s) (hml : c.maxLocals = 3) (kr24 : ∀ (H : Heap) (locs : List Loc) (ls : Array Slot), mG D cI cJ cZ ad A H0 H locs S1 → W p l e { frames := 4, cells := 0, slots := 0, locals := 74 } s m args below meth c H locs 0 0 Q (F0 m 24 ls [.long r1])) : ∀ (S : MS) (H : Heap) (locs : List Loc) (ls : Array Slot) (s0 : Int64), fr_powerHere_14_b24 S s0 = some (r1, S1) → mG D cI cJ cZ ad A H0 H locs S → lv_has ls 3 [] → W p l e { frames := 4, cells := 0, slots := 0, locals := 74 } s m args below meth c H locs 0 0 Q (F0 m 24 ls [.long s0]) := by
  have hx := E.1
  have hb := E.2.1
  have hts := E.2.2.1
  have hown := E.2.2.2.1
  have hK := E.2.2.2.2.1
  intro S H locs ls s0 h G hl
  unfold fr_powerHere_14_b24 at h
  rw [(osome2 h).2] at G
  refine lv_tol (osome2 h).1 ?_
  exact kr24 _ _ _ G
def fr_powerHere_14 (S : MS)  : Option (Int64 × MS) := obind2 (fr_windowOf_14 S) fun r5 S2 => if r5 = 0 then (fr_powerHere_14_b24 S2 (0 : Int64)) else (obind2 (fr_energy_14 S2 0 r5) fun r10 S7 => elet (r5.toInt64) fun v11 => oif (¬ v11 = 0) <| elet (r10 / v11) fun v13 => fr_powerHere_14_b24 S7 v13)
set_option maxHeartbeats 4000000 in
set_option maxRecDepth 100000 in
theorem tr_powerHere_14 (l : Launch) (D : va_G) (cI cJ cZ : ClassId) (ad : Nat → Nat) (S : MS)  {r1 : Int64} {S1 : MS} (h : fr_powerHere_14 S = some (r1, S1)) : mCl l yX12_powerHere (Cond.code yX12_powerHere cX12_powerHere 3 (some .long) :: wsM) 4 74 D cI cJ cZ ad S [.ref (ad 14)] (fun r S9 => r = r1 ∧ S9 = S1) := by
  intro sz
  refine Met.ofW (cc := cX12_powerHere) (maxL := 3) (ret := (some .long)) (by decide) rfl ?_
  intro p e s m args below meth c s₁ B hml hv
  obtain ⟨rfl, hsz, hP, hK, hD0, hR⟩ := hv
  have hx := B.exec
  have hb := B.bytes
  have hr := B.returns
  have hts := atoms_spec (ws := (Cond.code yX12_powerHere cX12_powerHere 3 (some .long) :: wsM)) B.pre
  have hown : s.vm.findClass RX12 = some m.cls := findClass_of_methodNamed B.named
  have hlocks := B.notSynchronized
  subst hsz
  have hD := hD0.self (sz := s.heap.size)
  generalize hAe : va_A (MW cI cJ cZ ad S) s.heap.size = A at hD ⊢
  have hA : ∀ q : Nat, s.heap.size ≤ q → A q := fun q h => by rw [← hAe]; exact Or.inr h
  have G : mG D cI cJ cZ ad A s.heap s.heap [] S := ⟨hP, hD, va_S.rf⟩
  have E : mE p c cX12_powerHere s m ([.ref (ad 0), .ref (ad 14)] : List Value).toArray (Cond.code yX12_powerHere cX12_powerHere 3 (some .long) :: wsM) D cI cJ cZ := ⟨hx, hb, hts, hown, hK, fun w h => .tail _ (iM_x h)⟩
  have hl := lv_entry ([.ref (ad 0), .ref (ad 14)]) (n := 3) (Nat.le_of_ble_eq_true rfl)
  rw [lg_entry_eq]
  generalize (lg_sl ([.ref (ad 0), .ref (ad 14)]) ++ List.replicate (3 - (lg_sl ([.ref (ad 0), .ref (ad 14)])).length) Slot.unset).toArray = ls at hl ⊢
  have hl : lv_has ls 3 [(0, .ref (ad 0)), (1, .ref (ad 14))] := hl
  unfold fr_powerHere_14 at h
  refine lv_aload_n hx hb dX12_powerHere_0 rfl (lv_at hl 0 rfl) ?_
  refine lv_aload_n hx hb dX12_powerHere_1 rfl (lv_at hl 1 rfl) ?_
  obtain ⟨r5, S2, eS2, h⟩ := obind2_some h
  refine m_calli (As := [.ref (ad 14)]) (rest := []) E G hA hR hml (tr_windowOf_14 l D cI cJ cZ ad S eS2) (cwV 1 hts (gmV qM_283 qM_284 qM_285 qM_35 qM_273) rfl rfl rfl (by decide +kernel) ⟨Nat.le_of_ble_eq_true rfl, Nat.le_of_ble_eq_true rfl⟩) rfl hl.1 rfl (lv_room (Nat.le_of_ble_eq_true rfl)) dX12_powerHere_2 ⟨Nat.zero_le _, Nat.zero_le _⟩ (fun q3 S4 H locs hq G => ?_)
  obtain ⟨hq1, hq2⟩ := hq
  rw [hq2] at G
  refine lv_to hq1 ?_
  clear hq1 hq2 eS2
  refine lv_istore_n (lv' := [(2, .int r5), (0, .ref (ad 0)), (1, .ref (ad 14))]) hx hb dX12_powerHere_5 rfl hl (by decide) rfl (fun ls hl => ?_)
  refine lv_iload_n hx hb dX12_powerHere_6 rfl (lv_at hl 0 rfl) ?_
  refine lv_if_ne (tgt := 14) hx hb dX12_powerHere_7 (by decide) (fun c6 => ?_) (fun c6 => ?_)
  · have h := oif_neg c6 h
    refine lv_aload_n hx hb dX12_powerHere_14 rfl (lv_at hl 1 rfl) ?_
    refine lv_aload_n hx hb dX12_powerHere_15 rfl (lv_at hl 2 rfl) ?_
    refine lv_iconst (v := 0) hx hb dX12_powerHere_16 (by decide) ?_
    refine lv_iload_n hx hb dX12_powerHere_17 rfl (lv_at hl 0 rfl) ?_
    obtain ⟨r10, S7, eS7, h⟩ := obind2_some h
    refine m_calll (As := [.ref (ad 14), .int 0, .int r5]) (rest := []) E G hA hR hml (tr_energy_14 l D cI cJ cZ ad S2 0 r5 eS7) (cwV 3 hts (gmV qM_286 qM_287 qM_288 qM_35 qM_278) rfl rfl rfl (by decide +kernel) ⟨Nat.le_of_ble_eq_true rfl, Nat.le_of_ble_eq_true rfl⟩) rfl hl.1 rfl (lv_room (Nat.le_of_ble_eq_true rfl)) dX12_powerHere_18 ⟨Nat.zero_le _, Nat.zero_le _⟩ (fun q8 S9 H locs hq G => ?_)
    obtain ⟨hq1, hq2⟩ := hq
    rw [hq2] at G
    refine lv_tol hq1 ?_
    clear hq1 hq2 eS7
    refine lv_iload_n hx hb dX12_powerHere_21 rfl (lv_at hl 0 rfl) ?_
    refine lv_i2l (v := r5.toInt64) hx hb dX12_powerHere_22 rfl ?_
    refine lv_topl (fun v11 ev11 => ?_)
    have h := elet_at ev11 h
    clear ev11
    obtain ⟨g12, h⟩ := oif_some h
    refine lv_ldiv hx hb dX12_powerHere_23 g12 ?_
    refine lv_topl (fun v13 ev13 => ?_)
    have h := elet_at ev13 h
    clear ev13
    have hl := lv_sub hl [] rfl
    exact tr_powerHere_14_b24 E hA hR hml (fun H locs ls G => W.lret (v := r1) hx hb hr (fun t ht hW => ⟨⟨r1, S1, rfl, ⟨rfl, rfl⟩, ⟨by rw [ht]; exact G.1, va_K.moved hW.alike hK, G.2.1⟩⟩, G.2.2.F ht⟩) G.2.2.2.2 dX12_powerHere_24) _ _ _ _ _ h G hl
  · have h := oif_pos c6 h
    refine lv_lconst (v := 0) hx hb dX12_powerHere_10 (by decide) ?_
    refine lv_goto (tgt := 24) hx hb dX12_powerHere_11 (by decide) ?_
    have hl := lv_sub hl [] rfl
    exact tr_powerHere_14_b24 E hA hR hml (fun H locs ls G => W.lret (v := r1) hx hb hr (fun t ht hW => ⟨⟨r1, S1, rfl, ⟨rfl, rfl⟩, ⟨by rw [ht]; exact G.1, va_K.moved hW.alike hK, G.2.1⟩⟩, G.2.2.F ht⟩) G.2.2.2.2 dX12_powerHere_24) _ _ _ _ _ h G hl
def fr_powerOf_14 (S : MS) (a1 : Int32) : Option (Int64 × MS) := obind (fr_laysCell S a1) fun S2 => obind2 (fr_powerHere_14 S2) fun r8 S5 => some (r8, S5)
set_option maxHeartbeats 4000000 in
set_option maxRecDepth 100000 in
theorem tr_powerOf_14 (l : Launch) (D : va_G) (cI cJ cZ : ClassId) (ad : Nat → Nat) (S : MS) (a1 : Int32) {r1 : Int64} {S1 : MS} (h : fr_powerOf_14 S a1 = some (r1, S1)) : mCl l yX12_powerOf (Cond.code yX12_powerOf cX12_powerOf 3 (some .long) :: wsM) 5 96 D cI cJ cZ ad S [.ref (ad 14), .int a1] (fun r S9 => r = r1 ∧ S9 = S1) := by
  intro sz
  refine Met.ofW (cc := cX12_powerOf) (maxL := 3) (ret := (some .long)) (by decide) rfl ?_
  intro p e s m args below meth c s₁ B hml hv
  obtain ⟨rfl, hsz, hP, hK, hD0, hR⟩ := hv
  have hx := B.exec
  have hb := B.bytes
  have hr := B.returns
  have hts := atoms_spec (ws := (Cond.code yX12_powerOf cX12_powerOf 3 (some .long) :: wsM)) B.pre
  have hown : s.vm.findClass RX12 = some m.cls := findClass_of_methodNamed B.named
  have hlocks := B.notSynchronized
  subst hsz
  have hD := hD0.self (sz := s.heap.size)
  generalize hAe : va_A (MW cI cJ cZ ad S) s.heap.size = A at hD ⊢
  have hA : ∀ q : Nat, s.heap.size ≤ q → A q := fun q h => by rw [← hAe]; exact Or.inr h
  have G : mG D cI cJ cZ ad A s.heap s.heap [] S := ⟨hP, hD, va_S.rf⟩
  have E : mE p c cX12_powerOf s m ([.ref (ad 0), .ref (ad 14), .int a1] : List Value).toArray (Cond.code yX12_powerOf cX12_powerOf 3 (some .long) :: wsM) D cI cJ cZ := ⟨hx, hb, hts, hown, hK, fun w h => .tail _ (iM_x h)⟩
  have hl := lv_entry ([.ref (ad 0), .ref (ad 14), .int a1]) (n := 3) (Nat.le_of_ble_eq_true rfl)
  rw [lg_entry_eq]
  generalize (lg_sl ([.ref (ad 0), .ref (ad 14), .int a1]) ++ List.replicate (3 - (lg_sl ([.ref (ad 0), .ref (ad 14), .int a1])).length) Slot.unset).toArray = ls at hl ⊢
  have hl : lv_has ls 3 [(0, .ref (ad 0)), (1, .ref (ad 14)), (2, .int a1)] := hl
  unfold fr_powerOf_14 at h
  refine lv_aload_n hx hb dX12_powerOf_0 rfl (lv_at hl 0 rfl) ?_
  refine lv_iload_n hx hb dX12_powerOf_1 rfl (lv_at hl 2 rfl) ?_
  obtain ⟨S2, eS2, h⟩ := obind_some h
  refine m_callv (As := [.int a1]) (rest := []) E G hA hR hml (tr_laysCell l D cI cJ cZ ad S a1 eS2) (cwV 1 hts (gmV qM_290 qM_291 qM_292 qM_35 qM_270) rfl rfl rfl (by decide +kernel) ⟨Nat.le_of_ble_eq_true rfl, Nat.le_of_ble_eq_true rfl⟩) rfl hl.1 rfl (lv_room (Nat.le_of_ble_eq_true rfl)) dX12_powerOf_2 ⟨Nat.zero_le _, Nat.zero_le _⟩ (fun S4 H locs hq G => ?_)
  rw [hq] at G
  clear hq eS2
  refine lv_aload_n hx hb dX12_powerOf_5 rfl (lv_at hl 0 rfl) ?_
  refine lv_aload_n hx hb dX12_powerOf_6 rfl (lv_at hl 1 rfl) ?_
  obtain ⟨r8, S5, eS5, h⟩ := obind2_some h
  refine m_calll (As := [.ref (ad 14)]) (rest := []) E G hA hR hml (tr_powerHere_14 l D cI cJ cZ ad S2 eS5) (cwV 1 hts (gmV qM_293 qM_294 qM_295 qM_35 qM_282) rfl rfl rfl (by decide +kernel) ⟨Nat.le_of_ble_eq_true rfl, Nat.le_of_ble_eq_true rfl⟩) rfl hl.1 rfl (lv_room (Nat.le_of_ble_eq_true rfl)) dX12_powerOf_7 ⟨Nat.zero_le _, Nat.zero_le _⟩ (fun q6 S7 H locs hq G => ?_)
  obtain ⟨hq1, hq2⟩ := hq
  rw [hq2] at G
  refine lv_tol hq1 ?_
  clear hq1 hq2 eS5
  exact W.lret (v := r8) hx hb hr (fun t ht hW => ⟨⟨r8, S5, rfl, osome2 h, ⟨by rw [ht]; exact G.1, va_K.moved hW.alike hK, G.2.1⟩⟩, G.2.2.F ht⟩) G.2.2.2.2 dX12_powerOf_10
def fr_laysPowers_14_b2  : Nat → MS → Int32 → Option (MS)
  | 0, _, _ => none
  | n + 1, S, l2 => obind2 (fr_cellCount S) fun r5 S2 => if r5 ≤ l2 then (some S2) else (obind2 (fr_powerOf_14 S2 l2) fun r10 S7 => oif (inb l2 144 = true) <| elet (mg S7 25 (vp_updL (S7.2.2 25) l2.toNatClampNeg r10)) fun S12 => elet (l2 + Int32.ofInt (1)) fun v13 => fr_laysPowers_14_b2 n S12 v13)
set_option maxHeartbeats 4000000 in
set_option maxRecDepth 100000 in
theorem tr_laysPowers_14_b2 {p : Program} {l : Launch} {e : Env} {s : State} {m : MethodId} {args : Array Value} {below : List Frame} {meth : Method} {c : Code} {Q : State → Prop} {D : va_G} {A : Nat → Prop} {H0 : Heap} {cI cJ cZ : ClassId} {ad : Nat → Nat} {S1 : MS} (E : mE p c cX12_laysPowers s m args (Cond.code yX12_laysPowers cX12_laysPowers 3 none :: wsM) D cI cJ cZ) (hA : ∀ q : Nat, H0.size ≤ q → A q) (hR : sR s) (hml : c.maxLocals = 3) (kr28 : ∀ (H : Heap) (locs : List Loc) (ls : Array Slot), mG D cI cJ cZ ad A H0 H locs S1 → W p l e { frames := 6, cells := 0, slots := 0, locals := 118 } s m args below meth c H locs 0 0 Q (F0 m 28 ls [])) : ∀ n : Nat, ∀ (S : MS) (H : Heap) (locs : List Loc) (ls : Array Slot) (l2 : Int32), fr_laysPowers_14_b2 n S l2 = some S1 → mG D cI cJ cZ ad A H0 H locs S → lv_has ls 3 [(0, .ref (ad 0)), (1, .ref (ad 14)), (2, .int l2)] → W p l e { frames := 6, cells := 0, slots := 0, locals := 118 } s m args below meth c H locs 0 0 Q (F0 m 2 ls []) := by
  have hx := E.1
  have hb := E.2.1
  have hts := E.2.2.1
  have hown := E.2.2.2.1
  have hK := E.2.2.2.2.1
  intro n
  induction n with
  | zero =>
    intro S H locs ls l2 h
    have h : (none : Option (MS)) = some S1 := h
    cases h
  | succ n ih =>
    intro S H locs ls l2 h G hl
    unfold fr_laysPowers_14_b2 at h
    refine lv_iload_n hx hb dX12_laysPowers_2 rfl (lv_at hl 2 rfl) ?_
    refine lv_aload_n hx hb dX12_laysPowers_3 rfl (lv_at hl 0 rfl) ?_
    obtain ⟨r5, S2, eS2, h⟩ := obind2_some h
    refine m_calli (As := []) (rest := [.int l2]) E G hA hR hml (tr_cellCount l D cI cJ cZ ad S eS2) (cwV 0 hts (gmV qM_204 qM_205 qM_206 qM_35 qM_207) rfl rfl rfl (by decide +kernel) ⟨Nat.le_of_ble_eq_true rfl, Nat.le_of_ble_eq_true rfl⟩) rfl hl.1 rfl (lv_room (Nat.le_of_ble_eq_true rfl)) dX12_laysPowers_4 ⟨Nat.zero_le _, Nat.zero_le _⟩ (fun q3 S4 H locs hq G => ?_)
    obtain ⟨hq1, hq2⟩ := hq
    rw [hq2] at G
    refine lv_to hq1 ?_
    clear hq1 hq2 eS2
    refine lv_icmp_ge (tgt := 28) hx hb dX12_laysPowers_7 (by decide) (fun c6 => ?_) (fun c6 => ?_)
    · have h := oif_pos c6 h
      rw [osome1 h] at G
      exact kr28 _ _ _ G
    · have h := oif_neg c6 h
      refine lv_aload_n hx hb dX12_laysPowers_10 rfl (lv_at hl 0 rfl) ?_
      refine m_get E G 25 (v := .ref (ad 25)) (by decide) (.tail _ qM_21) rfl dX12_laysPowers_11 rfl ?_
      refine lv_iload_n hx hb dX12_laysPowers_14 rfl (lv_at hl 2 rfl) ?_
      refine lv_aload_n hx hb dX12_laysPowers_15 rfl (lv_at hl 0 rfl) ?_
      refine lv_aload_n hx hb dX12_laysPowers_16 rfl (lv_at hl 1 rfl) ?_
      refine lv_iload_n hx hb dX12_laysPowers_17 rfl (lv_at hl 2 rfl) ?_
      obtain ⟨r10, S7, eS7, h⟩ := obind2_some h
      refine m_calll (As := [.ref (ad 14), .int l2]) (rest := [.int l2, .ref (ad 25)]) E G hA hR hml (tr_powerOf_14 l D cI cJ cZ ad S2 l2 eS7) (cwV 2 hts (gmV qM_297 qM_298 qM_299 qM_35 qM_289) rfl rfl rfl (by decide +kernel) ⟨Nat.le_of_ble_eq_true rfl, Nat.le_of_ble_eq_true rfl⟩) rfl hl.1 rfl (lv_room (Nat.le_of_ble_eq_true rfl)) dX12_laysPowers_18 ⟨Nat.zero_le _, Nat.zero_le _⟩ (fun q8 S9 H locs hq G => ?_)
      obtain ⟨hq1, hq2⟩ := hq
      rw [hq2] at G
      refine lv_tol hq1 ?_
      clear hq1 hq2 eS7
      obtain ⟨g11, h⟩ := oif_some h
      refine m_last E G 25 13 (k := l2.toNatClampNeg) (v := r10) rfl (fun _ => rfl) (inb_k g11).1 (inb_k g11).2 (by decide) dX12_laysPowers_21 (fun H locs G => ?_)
      obtain ⟨S12, eS12, h⟩ := elet_some h
      rw [← eS12] at G
      clear eS12
      obtain ⟨v13, ev13, h⟩ := elet_some h
      refine lv_iinc (v := v13) (lv' := [(2, .int v13), (0, .ref (ad 0)), (1, .ref (ad 14))]) hx hb dX12_laysPowers_22 hl (k := 2) rfl ev13.symm (by decide) rfl (fun ls hl => ?_)
      refine lv_goto (tgt := 2) hx hb dX12_laysPowers_25 (by decide) ?_
      have hl := lv_sub hl [1, 2, 0] rfl
      exact ih _ _ _ _ _ h G hl
def fr_laysPowers_14 (S : MS)  : Option (MS) := fr_laysPowers_14_b2 16384 S 0
set_option maxHeartbeats 4000000 in
set_option maxRecDepth 100000 in
theorem tr_laysPowers_14 (l : Launch) (D : va_G) (cI cJ cZ : ClassId) (ad : Nat → Nat) (S : MS)  {S1 : MS} (h : fr_laysPowers_14 S = some S1) : mCv l yX12_laysPowers (Cond.code yX12_laysPowers cX12_laysPowers 3 none :: wsM) 6 118 D cI cJ cZ ad S [.ref (ad 14)] (fun S9 => S9 = S1) := by
  intro sz
  refine Met.ofW (cc := cX12_laysPowers) (maxL := 3) (ret := none) (by decide) rfl ?_
  intro p e s m args below meth c s₁ B hml hv
  obtain ⟨rfl, hsz, hP, hK, hD0, hR⟩ := hv
  have hx := B.exec
  have hb := B.bytes
  have hr := B.returns
  have hts := atoms_spec (ws := (Cond.code yX12_laysPowers cX12_laysPowers 3 none :: wsM)) B.pre
  have hown : s.vm.findClass RX12 = some m.cls := findClass_of_methodNamed B.named
  have hlocks := B.notSynchronized
  subst hsz
  have hD := hD0.self (sz := s.heap.size)
  generalize hAe : va_A (MW cI cJ cZ ad S) s.heap.size = A at hD ⊢
  have hA : ∀ q : Nat, s.heap.size ≤ q → A q := fun q h => by rw [← hAe]; exact Or.inr h
  have G : mG D cI cJ cZ ad A s.heap s.heap [] S := ⟨hP, hD, va_S.rf⟩
  have E : mE p c cX12_laysPowers s m ([.ref (ad 0), .ref (ad 14)] : List Value).toArray (Cond.code yX12_laysPowers cX12_laysPowers 3 none :: wsM) D cI cJ cZ := ⟨hx, hb, hts, hown, hK, fun w h => .tail _ (iM_x h)⟩
  have hl := lv_entry ([.ref (ad 0), .ref (ad 14)]) (n := 3) (Nat.le_of_ble_eq_true rfl)
  rw [lg_entry_eq]
  generalize (lg_sl ([.ref (ad 0), .ref (ad 14)]) ++ List.replicate (3 - (lg_sl ([.ref (ad 0), .ref (ad 14)])).length) Slot.unset).toArray = ls at hl ⊢
  have hl : lv_has ls 3 [(0, .ref (ad 0)), (1, .ref (ad 14))] := hl
  unfold fr_laysPowers_14 at h
  refine lv_iconst (v := 0) hx hb dX12_laysPowers_0 (by decide) ?_
  refine lv_istore_n (lv' := [(2, .int 0), (0, .ref (ad 0)), (1, .ref (ad 14))]) hx hb dX12_laysPowers_1 rfl hl (by decide) rfl (fun ls hl => ?_)
  have hl := lv_sub hl [1, 2, 0] rfl
  exact tr_laysPowers_14_b2 E hA hR hml (fun H locs ls G => W.vret hx hb hr (fun t ht hW => ⟨⟨S1, rfl, rfl, ⟨by rw [ht]; exact G.1, va_K.moved hW.alike hK, G.2.1⟩⟩, G.2.2.F ht⟩) G.2.2.2.2 dX12_laysPowers_28) _ _ _ _ _ _ h G hl
def fr_bestIn_14_b38 (k9 : MS → Int32 → Int32 → Option (Int32 × MS)) (S : MS) (s0 : Int32) (l3 : Int32) : Option (Int32 × MS) := elet (l3 + Int32.ofInt (1)) fun v2 => k9 S s0 v2
set_option maxHeartbeats 4000000 in
set_option maxRecDepth 100000 in
theorem tr_bestIn_14_b38 {p : Program} {l : Launch} {e : Env} {s : State} {m : MethodId} {args : Array Value} {below : List Frame} {meth : Method} {c : Code} {Q : State → Prop} {D : va_G} {A : Nat → Prop} {H0 : Heap} {cI cJ cZ : ClassId} {ad : Nat → Nat} {r1 : Int32} {S1 : MS} (E : mE p c cX12_bestIn s m args (Cond.code yX12_bestIn cX12_bestIn 4 (some .int) :: wsM) D cI cJ cZ) (hA : ∀ q : Nat, H0.size ≤ q → A q) (hR : sR s) (hml : c.maxLocals = 4) (kr46 : ∀ (H : Heap) (locs : List Loc) (ls : Array Slot), mG D cI cJ cZ ad A H0 H locs S1 → W p l e { frames := 7, cells := 0, slots := 0, locals := 140 } s m args below meth c H locs 0 0 Q (F0 m 46 ls [.int r1])) {k9 : MS → Int32 → Int32 → Option (Int32 × MS)} (hk9 : ∀ (S : MS) (H : Heap) (locs : List Loc) (ls : Array Slot) (l2 : Int32) (l3 : Int32), k9 S l2 l3 = some (r1, S1) → mG D cI cJ cZ ad A H0 H locs S → lv_has ls 4 [(0, .ref (ad 0)), (2, .int l2), (3, .int l3)] → W p l e { frames := 7, cells := 0, slots := 0, locals := 140 } s m args below meth c H locs 0 0 Q (F0 m 9 ls [])) : ∀ (S : MS) (H : Heap) (locs : List Loc) (ls : Array Slot) (s0 : Int32) (l3 : Int32), fr_bestIn_14_b38 k9 S s0 l3 = some (r1, S1) → mG D cI cJ cZ ad A H0 H locs S → lv_has ls 4 [(0, .ref (ad 0)), (3, .int l3)] → W p l e { frames := 7, cells := 0, slots := 0, locals := 140 } s m args below meth c H locs 0 0 Q (F0 m 38 ls [.int s0]) := by
  have hx := E.1
  have hb := E.2.1
  have hts := E.2.2.1
  have hown := E.2.2.2.1
  have hK := E.2.2.2.2.1
  intro S H locs ls s0 l3 h G hl
  unfold fr_bestIn_14_b38 at h
  refine lv_istore_n (lv' := [(2, .int s0), (0, .ref (ad 0)), (3, .int l3)]) hx hb dX12_bestIn_38 rfl hl (by decide) rfl (fun ls hl => ?_)
  obtain ⟨v2, ev2, h⟩ := elet_some h
  refine lv_iinc (v := v2) (lv' := [(3, .int v2), (2, .int s0), (0, .ref (ad 0))]) hx hb dX12_bestIn_39 hl (k := 2) rfl ev2.symm (by decide) rfl (fun ls hl => ?_)
  refine lv_goto (tgt := 9) hx hb dX12_bestIn_42 (by decide) ?_
  have hl := lv_sub hl [2, 1, 0] rfl
  exact hk9 _ _ _ _ _ _ h G hl
def fr_bestIn_14_b9  : Nat → MS → Int32 → Int32 → Option (Int32 × MS)
  | 0, _, _, _ => none
  | n + 1, S, l2, l3 => obind2 (fr_cellCount S) fun r5 S2 => if r5 ≤ l3 then (some (l2, S2)) else (oif (inb l3 144 = true) <| elet (S2.2.2 25 l3.toNatClampNeg) fun v8 => oif (inb l2 144 = true) <| elet (S2.2.2 25 l2.toNatClampNeg) fun v10 => elet (lg_cmp v8 v10) fun v11 => if v11 ≤ 0 then (fr_bestIn_14_b38 (fr_bestIn_14_b9 n) S2 l2 l3) else (fr_bestIn_14_b38 (fr_bestIn_14_b9 n) S2 l3 l3))
set_option maxHeartbeats 4000000 in
set_option maxRecDepth 100000 in
theorem tr_bestIn_14_b9 {p : Program} {l : Launch} {e : Env} {s : State} {m : MethodId} {args : Array Value} {below : List Frame} {meth : Method} {c : Code} {Q : State → Prop} {D : va_G} {A : Nat → Prop} {H0 : Heap} {cI cJ cZ : ClassId} {ad : Nat → Nat} {r1 : Int32} {S1 : MS} (E : mE p c cX12_bestIn s m args (Cond.code yX12_bestIn cX12_bestIn 4 (some .int) :: wsM) D cI cJ cZ) (hA : ∀ q : Nat, H0.size ≤ q → A q) (hR : sR s) (hml : c.maxLocals = 4) (kr46 : ∀ (H : Heap) (locs : List Loc) (ls : Array Slot), mG D cI cJ cZ ad A H0 H locs S1 → W p l e { frames := 7, cells := 0, slots := 0, locals := 140 } s m args below meth c H locs 0 0 Q (F0 m 46 ls [.int r1])) : ∀ n : Nat, ∀ (S : MS) (H : Heap) (locs : List Loc) (ls : Array Slot) (l2 : Int32) (l3 : Int32), fr_bestIn_14_b9 n S l2 l3 = some (r1, S1) → mG D cI cJ cZ ad A H0 H locs S → lv_has ls 4 [(0, .ref (ad 0)), (2, .int l2), (3, .int l3)] → W p l e { frames := 7, cells := 0, slots := 0, locals := 140 } s m args below meth c H locs 0 0 Q (F0 m 9 ls []) := by
  have hx := E.1
  have hb := E.2.1
  have hts := E.2.2.1
  have hown := E.2.2.2.1
  have hK := E.2.2.2.2.1
  intro n
  induction n with
  | zero =>
    intro S H locs ls l2 l3 h
    have h : (none : Option (Int32 × MS)) = some (r1, S1) := h
    cases h
  | succ n ih =>
    intro S H locs ls l2 l3 h G hl
    unfold fr_bestIn_14_b9 at h
    refine lv_iload_n hx hb dX12_bestIn_9 rfl (lv_at hl 2 rfl) ?_
    refine lv_aload_n hx hb dX12_bestIn_10 rfl (lv_at hl 0 rfl) ?_
    obtain ⟨r5, S2, eS2, h⟩ := obind2_some h
    refine m_calli (As := []) (rest := [.int l3]) E G hA hR hml (tr_cellCount l D cI cJ cZ ad S eS2) (cwV 0 hts (gmV qM_204 qM_205 qM_206 qM_35 qM_207) rfl rfl rfl (by decide +kernel) ⟨Nat.le_of_ble_eq_true rfl, Nat.le_of_ble_eq_true rfl⟩) rfl hl.1 rfl (lv_room (Nat.le_of_ble_eq_true rfl)) dX12_bestIn_11 ⟨Nat.zero_le _, Nat.zero_le _⟩ (fun q3 S4 H locs hq G => ?_)
    obtain ⟨hq1, hq2⟩ := hq
    rw [hq2] at G
    refine lv_to hq1 ?_
    clear hq1 hq2 eS2
    refine lv_icmp_ge (tgt := 45) hx hb dX12_bestIn_14 (by decide) (fun c6 => ?_) (fun c6 => ?_)
    · have h := oif_pos c6 h
      refine lv_iload_n hx hb dX12_bestIn_45 rfl (lv_at hl 1 rfl) ?_
      rw [(osome2 h).2] at G
      refine lv_to (osome2 h).1 ?_
      exact kr46 _ _ _ G
    · have h := oif_neg c6 h
      refine lv_aload_n hx hb dX12_bestIn_17 rfl (lv_at hl 0 rfl) ?_
      refine m_get E G 25 (v := .ref (ad 25)) (by decide) (.tail _ qM_21) rfl dX12_bestIn_18 rfl ?_
      refine lv_iload_n hx hb dX12_bestIn_21 rfl (lv_at hl 2 rfl) ?_
      obtain ⟨g7, h⟩ := oif_some h
      refine m_lald E G 25 13 (n := 144) (k := l3.toNatClampNeg) rfl (inb_k g7).1 (inb_k g7).2 (by decide) dX12_bestIn_22 ?_
      refine lv_topl (fun v8 ev8 => ?_)
      have h := elet_at ev8 h
      clear ev8
      refine lv_aload_n hx hb dX12_bestIn_23 rfl (lv_at hl 0 rfl) ?_
      refine m_get E G 25 (v := .ref (ad 25)) (by decide) (.tail _ qM_21) rfl dX12_bestIn_24 rfl ?_
      refine lv_iload_n hx hb dX12_bestIn_27 rfl (lv_at hl 1 rfl) ?_
      obtain ⟨g9, h⟩ := oif_some h
      refine m_lald E G 25 13 (n := 144) (k := l2.toNatClampNeg) rfl (inb_k g9).1 (inb_k g9).2 (by decide) dX12_bestIn_28 ?_
      refine lv_topl (fun v10 ev10 => ?_)
      have h := elet_at ev10 h
      clear ev10
      refine W.lcmp hx hb dX12_bestIn_29 ?_
      refine lv_topi (fun v11 ev11 => ?_)
      have h := elet_at ev11 h
      clear ev11
      refine lv_if_le (tgt := 37) hx hb dX12_bestIn_30 (by decide) (fun c12 => ?_) (fun c12 => ?_)
      · have h := oif_pos c12 h
        refine lv_iload_n hx hb dX12_bestIn_37 rfl (lv_at hl 1 rfl) ?_
        have hl := lv_sub hl [0, 2] rfl
        exact tr_bestIn_14_b38 E hA hR hml kr46 ih _ _ _ _ _ _ h G hl
      · have h := oif_neg c12 h
        refine lv_iload_n hx hb dX12_bestIn_33 rfl (lv_at hl 2 rfl) ?_
        refine lv_goto (tgt := 38) hx hb dX12_bestIn_34 (by decide) ?_
        have hl := lv_sub hl [0, 2] rfl
        exact tr_bestIn_14_b38 E hA hR hml kr46 ih _ _ _ _ _ _ h G hl
def fr_bestIn_14 (S : MS)  : Option (Int32 × MS) := obind (fr_laysPowers_14 S) fun S2 => fr_bestIn_14_b9 16384 S2 0 1
set_option maxHeartbeats 4000000 in
set_option maxRecDepth 100000 in
theorem tr_bestIn_14 (l : Launch) (D : va_G) (cI cJ cZ : ClassId) (ad : Nat → Nat) (S : MS)  {r1 : Int32} {S1 : MS} (h : fr_bestIn_14 S = some (r1, S1)) : mCi l yX12_bestIn (Cond.code yX12_bestIn cX12_bestIn 4 (some .int) :: wsM) 7 140 D cI cJ cZ ad S [.ref (ad 14)] (fun r S9 => r = r1 ∧ S9 = S1) := by
  intro sz
  refine Met.ofW (cc := cX12_bestIn) (maxL := 4) (ret := (some .int)) (by decide) rfl ?_
  intro p e s m args below meth c s₁ B hml hv
  obtain ⟨rfl, hsz, hP, hK, hD0, hR⟩ := hv
  have hx := B.exec
  have hb := B.bytes
  have hr := B.returns
  have hts := atoms_spec (ws := (Cond.code yX12_bestIn cX12_bestIn 4 (some .int) :: wsM)) B.pre
  have hown : s.vm.findClass RX12 = some m.cls := findClass_of_methodNamed B.named
  have hlocks := B.notSynchronized
  subst hsz
  have hD := hD0.self (sz := s.heap.size)
  generalize hAe : va_A (MW cI cJ cZ ad S) s.heap.size = A at hD ⊢
  have hA : ∀ q : Nat, s.heap.size ≤ q → A q := fun q h => by rw [← hAe]; exact Or.inr h
  have G : mG D cI cJ cZ ad A s.heap s.heap [] S := ⟨hP, hD, va_S.rf⟩
  have E : mE p c cX12_bestIn s m ([.ref (ad 0), .ref (ad 14)] : List Value).toArray (Cond.code yX12_bestIn cX12_bestIn 4 (some .int) :: wsM) D cI cJ cZ := ⟨hx, hb, hts, hown, hK, fun w h => .tail _ (iM_x h)⟩
  have hl := lv_entry ([.ref (ad 0), .ref (ad 14)]) (n := 4) (Nat.le_of_ble_eq_true rfl)
  rw [lg_entry_eq]
  generalize (lg_sl ([.ref (ad 0), .ref (ad 14)]) ++ List.replicate (4 - (lg_sl ([.ref (ad 0), .ref (ad 14)])).length) Slot.unset).toArray = ls at hl ⊢
  have hl : lv_has ls 4 [(0, .ref (ad 0)), (1, .ref (ad 14))] := hl
  unfold fr_bestIn_14 at h
  refine lv_aload_n hx hb dX12_bestIn_0 rfl (lv_at hl 0 rfl) ?_
  refine lv_aload_n hx hb dX12_bestIn_1 rfl (lv_at hl 1 rfl) ?_
  obtain ⟨S2, eS2, h⟩ := obind_some h
  refine m_callv (As := [.ref (ad 14)]) (rest := []) E G hA hR hml (tr_laysPowers_14 l D cI cJ cZ ad S eS2) (cwV 1 hts (gmV qM_301 qM_302 qM_303 qM_35 qM_296) rfl rfl rfl (by decide +kernel) ⟨Nat.le_of_ble_eq_true rfl, Nat.le_of_ble_eq_true rfl⟩) rfl hl.1 rfl (lv_room (Nat.le_of_ble_eq_true rfl)) dX12_bestIn_2 ⟨Nat.zero_le _, Nat.zero_le _⟩ (fun S4 H locs hq G => ?_)
  rw [hq] at G
  clear hq eS2
  refine lv_iconst (v := 0) hx hb dX12_bestIn_5 (by decide) ?_
  refine lv_istore_n (lv' := [(2, .int 0), (0, .ref (ad 0)), (1, .ref (ad 14))]) hx hb dX12_bestIn_6 rfl hl (by decide) rfl (fun ls hl => ?_)
  refine lv_iconst (v := 1) hx hb dX12_bestIn_7 (by decide) ?_
  refine lv_istore_n (lv' := [(3, .int 1), (2, .int 0), (0, .ref (ad 0)), (1, .ref (ad 14))]) hx hb dX12_bestIn_8 rfl hl (by decide) rfl (fun ls hl => ?_)
  have hl := lv_sub hl [2, 1, 0] rfl
  exact tr_bestIn_14_b9 E hA hR hml (fun H locs ls G => W.iret (v := r1) hx hb hr (fun t ht hW => ⟨⟨r1, S1, rfl, ⟨rfl, rfl⟩, ⟨by rw [ht]; exact G.1, va_K.moved hW.alike hK, G.2.1⟩⟩, G.2.2.F ht⟩) G.2.2.2.2 dX12_bestIn_46) _ _ _ _ _ _ _ h G hl
def fr_pointBest (S : MS) (a0 : Int32) (a1 : Int32) : Option (Int32 × MS) := obind2 (fr_isCell S a0) fun r5 S2 => obind2 (fr_mayAsk S2 r5) fun r9 S6 => if r9 = 0 then (some (0, S6)) else (obind (fr_isPeriod a1) fun r11 => if r11 = 0 then (obind2 (fr_throwsAt S6 3) fun r17 S14 => some (r17, S14)) else (obind (fr_copy_12_14 S6 0 0) fun S18 => obind (fr_recordsPoint_14 S18 a0 a1) fun S21 => obind2 (fr_bestIn_14 S21) fun r27 S24 => some (r27, S24)))
set_option maxHeartbeats 4000000 in
set_option maxRecDepth 100000 in
theorem tr_pointBest (l : Launch) (D : va_G) (cI cJ cZ : ClassId) (ad : Nat → Nat) (S : MS) (a0 : Int32) (a1 : Int32) {r1 : Int32} {S1 : MS} (h : fr_pointBest S a0 a1 = some (r1, S1)) : mCi l yX12_pointBest (Cond.code yX12_pointBest cX12_pointBest 3 (some .int) :: wsM) 8 192 D cI cJ cZ ad S [.int a0, .int a1] (fun r S9 => r = r1 ∧ S9 = S1) := by
  intro sz
  refine Met.ofW (cc := cX12_pointBest) (maxL := 3) (ret := (some .int)) (by decide) rfl ?_
  intro p e s m args below meth c s₁ B hml hv
  obtain ⟨rfl, hsz, hP, hK, hD0, hR⟩ := hv
  have hx := B.exec
  have hb := B.bytes
  have hr := B.returns
  have hts := atoms_spec (ws := (Cond.code yX12_pointBest cX12_pointBest 3 (some .int) :: wsM)) B.pre
  have hown : s.vm.findClass RX12 = some m.cls := findClass_of_methodNamed B.named
  have hlocks := B.notSynchronized
  subst hsz
  have hD := hD0.self (sz := s.heap.size)
  generalize hAe : va_A (MW cI cJ cZ ad S) s.heap.size = A at hD ⊢
  have hA : ∀ q : Nat, s.heap.size ≤ q → A q := fun q h => by rw [← hAe]; exact Or.inr h
  have G : mG D cI cJ cZ ad A s.heap s.heap [] S := ⟨hP, hD, va_S.rf⟩
  have E : mE p c cX12_pointBest s m ([.ref (ad 0), .int a0, .int a1] : List Value).toArray (Cond.code yX12_pointBest cX12_pointBest 3 (some .int) :: wsM) D cI cJ cZ := ⟨hx, hb, hts, hown, hK, fun w h => .tail _ (iM_x h)⟩
  have hl := lv_entry ([.ref (ad 0), .int a0, .int a1]) (n := 3) (Nat.le_of_ble_eq_true rfl)
  rw [lg_entry_eq]
  generalize (lg_sl ([.ref (ad 0), .int a0, .int a1]) ++ List.replicate (3 - (lg_sl ([.ref (ad 0), .int a0, .int a1])).length) Slot.unset).toArray = ls at hl ⊢
  have hl : lv_has ls 3 [(0, .ref (ad 0)), (1, .int a0), (2, .int a1)] := hl
  unfold fr_pointBest at h
  refine lv_aload_n hx hb dX12_pointBest_0 rfl (lv_at hl 0 rfl) ?_
  refine lv_aload_n hx hb dX12_pointBest_1 rfl (lv_at hl 0 rfl) ?_
  refine lv_iload_n hx hb dX12_pointBest_2 rfl (lv_at hl 1 rfl) ?_
  obtain ⟨r5, S2, eS2, h⟩ := obind2_some h
  refine m_calli (As := [.int a0]) (rest := [.ref (ad 0)]) E G hA hR hml (tr_isCell l D cI cJ cZ ad S a0 eS2) (cwV 1 hts (gmV qM_326 qM_327 qM_328 qM_35 qM_307) rfl rfl rfl (by decide +kernel) ⟨Nat.le_of_ble_eq_true rfl, Nat.le_of_ble_eq_true rfl⟩) rfl hl.1 rfl (lv_room (Nat.le_of_ble_eq_true rfl)) dX12_pointBest_3 ⟨Nat.zero_le _, Nat.zero_le _⟩ (fun q3 S4 H locs hq G => ?_)
  obtain ⟨hq1, hq2⟩ := hq
  rw [hq2] at G
  refine lv_to hq1 ?_
  clear hq1 hq2 eS2
  obtain ⟨r9, S6, eS6, h⟩ := obind2_some h
  refine m_calli (As := [.int r5]) (rest := []) E G hA hR hml (tr_mayAsk l D cI cJ cZ ad S2 r5 eS6) (cwV 1 hts (gmV qM_319 qM_320 qM_321 qM_35 qM_304) rfl rfl rfl (by decide +kernel) ⟨Nat.le_of_ble_eq_true rfl, Nat.le_of_ble_eq_true rfl⟩) rfl hl.1 rfl (lv_room (Nat.le_of_ble_eq_true rfl)) dX12_pointBest_6 ⟨Nat.zero_le _, Nat.zero_le _⟩ (fun q7 S8 H locs hq G => ?_)
  obtain ⟨hq1, hq2⟩ := hq
  rw [hq2] at G
  refine lv_to hq1 ?_
  clear hq1 hq2 eS6
  refine lv_if_ne (tgt := 14) hx hb dX12_pointBest_9 (by decide) (fun c10 => ?_) (fun c10 => ?_)
  · have h := oif_neg c10 h
    refine lv_iload_n hx hb dX12_pointBest_14 rfl (lv_at hl 2 rfl) ?_
    obtain ⟨r11, er11, h⟩ := obind_some h
    refine m_stat (As := [.int a1]) (rest := []) ⟨hx, hb, hml, hown, hts⟩ (tr_isPeriod l a1 er11) (cwS 1 hts (gmS qM_386 qM_387 qM_35 qM_310) rfl rfl rfl (by decide +kernel) ⟨Nat.le_of_ble_eq_true rfl, Nat.le_of_ble_eq_true rfl⟩) rfl hl.1 rfl (lv_room (Nat.le_of_ble_eq_true rfl)) dX12_pointBest_15 ⟨Nat.zero_le _, Nat.zero_le _⟩ (fun q12 hq => ?_)
    refine lv_to hq ?_
    clear hq er11
    refine lv_if_ne (tgt := 27) hx hb dX12_pointBest_18 (by decide) (fun c13 => ?_) (fun c13 => ?_)
    · have h := oif_neg c13 h
      refine lv_aload_n hx hb dX12_pointBest_27 rfl (lv_at hl 0 rfl) ?_
      refine m_get E G 12 (v := .ref (ad 12)) (by decide) (.tail _ qM_9) rfl dX12_pointBest_28 rfl ?_
      refine lv_iconst (v := 0) hx hb dX12_pointBest_31 (by decide) ?_
      refine lv_aload_n hx hb dX12_pointBest_32 rfl (lv_at hl 0 rfl) ?_
      refine m_get E G 14 (v := .ref (ad 14)) (by decide) (.tail _ qM_11) rfl dX12_pointBest_33 rfl ?_
      refine lv_iconst (v := 0) hx hb dX12_pointBest_36 (by decide) ?_
      obtain ⟨S18, eS18, h⟩ := obind_some h
      refine m_calls (As := [.ref (ad 12), .int 0, .ref (ad 14), .int 0]) (rest := []) E G hA hR hml (tr_copy_12_14 l D cI cJ cZ ad S6 0 0 eS18) (cwS 4 hts (gmS qM_201 qM_202 qM_35 qM_203) rfl rfl rfl (by decide +kernel) ⟨Nat.le_of_ble_eq_true rfl, Nat.le_of_ble_eq_true rfl⟩) rfl hl.1 rfl (lv_room (Nat.le_of_ble_eq_true rfl)) dX12_pointBest_37 ⟨Nat.zero_le _, Nat.zero_le _⟩ (fun S20 H locs hq G => ?_)
      rw [hq] at G
      clear hq eS18
      refine lv_aload_n hx hb dX12_pointBest_40 rfl (lv_at hl 0 rfl) ?_
      refine lv_aload_n hx hb dX12_pointBest_41 rfl (lv_at hl 0 rfl) ?_
      refine m_get E G 14 (v := .ref (ad 14)) (by decide) (.tail _ qM_11) rfl dX12_pointBest_42 rfl ?_
      refine lv_iload_n hx hb dX12_pointBest_45 rfl (lv_at hl 1 rfl) ?_
      refine lv_iload_n hx hb dX12_pointBest_46 rfl (lv_at hl 2 rfl) ?_
      obtain ⟨S21, eS21, h⟩ := obind_some h
      refine m_callv (As := [.ref (ad 14), .int a0, .int a1]) (rest := []) E G hA hR hml (tr_recordsPoint_14 l D cI cJ cZ ad S18 a0 a1 eS21) (cwV 3 hts (gmV qM_473 qM_474 qM_475 qM_35 qM_269) rfl rfl rfl (by decide +kernel) ⟨Nat.le_of_ble_eq_true rfl, Nat.le_of_ble_eq_true rfl⟩) rfl hl.1 rfl (lv_room (Nat.le_of_ble_eq_true rfl)) dX12_pointBest_47 ⟨Nat.zero_le _, Nat.zero_le _⟩ (fun S23 H locs hq G => ?_)
      rw [hq] at G
      clear hq eS21
      refine lv_aload_n hx hb dX12_pointBest_50 rfl (lv_at hl 0 rfl) ?_
      refine lv_aload_n hx hb dX12_pointBest_51 rfl (lv_at hl 0 rfl) ?_
      refine m_get E G 14 (v := .ref (ad 14)) (by decide) (.tail _ qM_11) rfl dX12_pointBest_52 rfl ?_
      obtain ⟨r27, S24, eS24, h⟩ := obind2_some h
      refine m_calli (As := [.ref (ad 14)]) (rest := []) E G hA hR hml (tr_bestIn_14 l D cI cJ cZ ad S21 eS24) (cwV 1 hts (gmV qM_360 qM_361 qM_362 qM_35 qM_300) rfl rfl rfl (by decide +kernel) ⟨Nat.le_of_ble_eq_true rfl, Nat.le_of_ble_eq_true rfl⟩) rfl hl.1 rfl (lv_room (Nat.le_of_ble_eq_true rfl)) dX12_pointBest_55 ⟨Nat.zero_le _, Nat.zero_le _⟩ (fun q25 S26 H locs hq G => ?_)
      obtain ⟨hq1, hq2⟩ := hq
      rw [hq2] at G
      refine lv_to hq1 ?_
      clear hq1 hq2 eS24
      exact W.iret (v := r27) hx hb hr (fun t ht hW => ⟨⟨r27, S24, rfl, osome2 h, ⟨by rw [ht]; exact G.1, va_K.moved hW.alike hK, G.2.1⟩⟩, G.2.2.F ht⟩) G.2.2.2.2 dX12_pointBest_58
    · have h := oif_pos c13 h
      refine lv_aload_n hx hb dX12_pointBest_21 rfl (lv_at hl 0 rfl) ?_
      refine lv_iconst (v := 3) hx hb dX12_pointBest_22 (by decide) ?_
      obtain ⟨r17, S14, eS14, h⟩ := obind2_some h
      refine m_calli (As := [.int 3]) (rest := []) E G hA hR hml (tr_throwsAt l D cI cJ cZ ad S6 3 eS14) (cwV 1 hts (gmV qM_195 qM_196 qM_197 qM_35 qM_28) rfl rfl rfl (by decide +kernel) ⟨Nat.le_of_ble_eq_true rfl, Nat.le_of_ble_eq_true rfl⟩) rfl hl.1 rfl (lv_room (Nat.le_of_ble_eq_true rfl)) dX12_pointBest_23 ⟨Nat.zero_le _, Nat.zero_le _⟩ (fun q15 S16 H locs hq G => ?_)
      obtain ⟨hq1, hq2⟩ := hq
      rw [hq2] at G
      refine lv_to hq1 ?_
      clear hq1 hq2 eS14
      exact W.iret (v := r17) hx hb hr (fun t ht hW => ⟨⟨r17, S14, rfl, osome2 h, ⟨by rw [ht]; exact G.1, va_K.moved hW.alike hK, G.2.1⟩⟩, G.2.2.F ht⟩) G.2.2.2.2 dX12_pointBest_26
  · have h := oif_pos c10 h
    refine lv_iconst (v := 0) hx hb dX12_pointBest_12 (by decide) ?_
    exact W.iret (v := 0) hx hb hr (fun t ht hW => ⟨⟨0, S6, rfl, osome2 h, ⟨by rw [ht]; exact G.1, va_K.moved hW.alike hK, G.2.1⟩⟩, G.2.2.F ht⟩) G.2.2.2.2 dX12_pointBest_13
end
