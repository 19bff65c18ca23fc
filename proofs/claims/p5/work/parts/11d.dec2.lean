def fr_readWall_b18  (S : MS) (l1 : Int32) : Option (MS) := obind (fr_nextToken S) fun S2 => obind2 (fr_signed S2 (-2000) 2000) fun r8 S5 => obind2 (fr_number S5 1 100) fun r12 S9 => elet (S9.1 5) fun v13 => if v13 ≤ 0 then (elet (72 + l1) fun v15 => oif (inb v15 131 = true) <| elet (mf S9 11 (upd (S9.2.1 11) v15.toNatClampNeg r8)) fun S17 => elet (74 + l1) fun v18 => oif (inb v18 131 = true) <| elet (mf S17 11 (upd (S17.2.1 11) v18.toNatClampNeg r12)) fun S20 => elet (S20.2.1 11 71) fun v21 => elet (v21 + 1) fun v22 => elet (mf S20 11 (upd (S20.2.1 11) 71 v22)) fun S23 => some S23) else (some S9)
set_option maxHeartbeats 4000000 in
set_option maxRecDepth 100000 in
theorem tr_readWall_b18 {p : Program} {l : Launch} {e : Env} {s : State} {m : MethodId} {args : Array Value} {below : List Frame} {meth : Method} {c : Code} {Q : State → Prop} {D : va_G} {A : Nat → Prop} {H0 : Heap} {cI cJ cZ : ClassId} {ad : Nat → Nat} {S1 : MS} (E : mE p c cX12_readWall s m args (Cond.code yX12_readWall cX12_readWall 4 none :: wsM) D cI cJ cZ) (hA : ∀ q : Nat, H0.size ≤ q → A q) (hR : sR s) (hml : c.maxLocals = 4) (kr48 : ∀ (H : Heap) (locs : List Loc) (ls : Array Slot), mG D cI cJ cZ ad A H0 H locs S1 → W p l e { frames := 5, cells := 0, slots := 0, locals := 90 } s m args below meth c H locs 0 0 Q (F0 m 48 ls [])) (kr80 : ∀ (H : Heap) (locs : List Loc) (ls : Array Slot), mG D cI cJ cZ ad A H0 H locs S1 → W p l e { frames := 5, cells := 0, slots := 0, locals := 90 } s m args below meth c H locs 0 0 Q (F0 m 80 ls [])) : ∀ (S : MS) (H : Heap) (locs : List Loc) (ls : Array Slot) (l1 : Int32), fr_readWall_b18 S l1 = some S1 → mG D cI cJ cZ ad A H0 H locs S → lv_has ls 4 [(0, .ref (ad 0)), (1, .int l1)] → W p l e { frames := 5, cells := 0, slots := 0, locals := 90 } s m args below meth c H locs 0 0 Q (F0 m 18 ls []) := by
  have hx := E.1
  have hb := E.2.1
  have hts := E.2.2.1
  have hown := E.2.2.2.1
  have hK := E.2.2.2.2.1
  intro S H locs ls l1 h G hl
  unfold fr_readWall_b18 at h
  refine lv_aload_n hx hb dX12_readWall_18 rfl (lv_at hl 0 rfl) ?_
  obtain ⟨S2, eS2, h⟩ := obind_some h
  refine m_callv (As := []) (rest := []) E G hA hR hml (tr_nextToken l D cI cJ cZ ad S eS2) (cwV 0 hts (gmV qM_111 qM_112 qM_113 qM_35 qM_45) rfl rfl rfl (by decide +kernel) ⟨Nat.le_of_ble_eq_true rfl, Nat.le_of_ble_eq_true rfl⟩) rfl hl.1 rfl (lv_room (Nat.le_of_ble_eq_true rfl)) dX12_readWall_19 ⟨Nat.zero_le _, Nat.zero_le _⟩ (fun S4 H locs hq G => ?_)
  rw [hq] at G
  clear hq eS2
  refine lv_aload_n hx hb dX12_readWall_22 rfl (lv_at hl 0 rfl) ?_
  refine lv_sipush (v := (-2000)) hx hb dX12_readWall_23 (by decide) ?_
  refine lv_sipush (v := 2000) hx hb dX12_readWall_26 (by decide) ?_
  obtain ⟨r8, S5, eS5, h⟩ := obind2_some h
  refine m_calli (As := [.int (-2000), .int 2000]) (rest := []) E G hA hR hml (tr_signed l D cI cJ cZ ad S2 (-2000) 2000 eS5) (cwV 2 hts (gmV qM_142 qM_143 qM_144 qM_35 qM_133) rfl rfl rfl (by decide +kernel) ⟨Nat.le_of_ble_eq_true rfl, Nat.le_of_ble_eq_true rfl⟩) rfl hl.1 rfl (lv_room (Nat.le_of_ble_eq_true rfl)) dX12_readWall_29 ⟨Nat.zero_le _, Nat.zero_le _⟩ (fun q6 S7 H locs hq G => ?_)
  obtain ⟨hq1, hq2⟩ := hq
  rw [hq2] at G
  refine lv_to hq1 ?_
  clear hq1 hq2 eS5
  refine lv_istore_n (lv' := [(2, .int r8), (0, .ref (ad 0)), (1, .int l1)]) hx hb dX12_readWall_32 rfl hl (by decide) rfl (fun ls hl => ?_)
  refine lv_aload_n hx hb dX12_readWall_33 rfl (lv_at hl 1 rfl) ?_
  refine lv_iconst (v := 1) hx hb dX12_readWall_34 (by decide) ?_
  refine lv_bipush (v := 100) hx hb dX12_readWall_35 (by decide) ?_
  obtain ⟨r12, S9, eS9, h⟩ := obind2_some h
  refine m_calli (As := [.int 1, .int 100]) (rest := []) E G hA hR hml (tr_number l D cI cJ cZ ad S5 1 100 eS9) (cwV 2 hts (gmV qM_130 qM_131 qM_132 qM_35 qM_122) rfl rfl rfl (by decide +kernel) ⟨Nat.le_of_ble_eq_true rfl, Nat.le_of_ble_eq_true rfl⟩) rfl hl.1 rfl (lv_room (Nat.le_of_ble_eq_true rfl)) dX12_readWall_37 ⟨Nat.zero_le _, Nat.zero_le _⟩ (fun q10 S11 H locs hq G => ?_)
  obtain ⟨hq1, hq2⟩ := hq
  rw [hq2] at G
  refine lv_to hq1 ?_
  clear hq1 hq2 eS9
  refine lv_istore_n (lv' := [(3, .int r12), (2, .int r8), (0, .ref (ad 0)), (1, .int l1)]) hx hb dX12_readWall_40 rfl hl (by decide) rfl (fun ls hl => ?_)
  refine lv_aload_n hx hb dX12_readWall_41 rfl (lv_at hl 2 rfl) ?_
  refine m_get E G 5 (v := .int (S9.1 5)) (by decide) (.tail _ qM_38) rfl dX12_readWall_42 rfl ?_
  refine lv_topi (fun v13 ev13 => ?_)
  have h := elet_at ev13 h
  clear ev13
  refine lv_if_le (tgt := 49) hx hb dX12_readWall_45 (by decide) (fun c14 => ?_) (fun c14 => ?_)
  · have h := oif_pos c14 h
    refine lv_aload_n hx hb dX12_readWall_49 rfl (lv_at hl 2 rfl) ?_
    refine m_get E G 11 (v := .ref (ad 11)) (by decide) (.tail _ qM_8) rfl dX12_readWall_50 rfl ?_
    refine lv_bipush (v := 72) hx hb dX12_readWall_53 (by decide) ?_
    refine lv_iload_n hx hb dX12_readWall_55 rfl (lv_at hl 3 rfl) ?_
    refine lv_iadd hx hb dX12_readWall_56 ?_
    refine lv_topi (fun v15 ev15 => ?_)
    have h := elet_at ev15 h
    clear ev15
    refine lv_iload_n hx hb dX12_readWall_57 rfl (lv_at hl 1 rfl) ?_
    obtain ⟨g16, h⟩ := oif_some h
    refine m_iast E G 11 3 (k := v15.toNatClampNeg) (v := r8) rfl (fun _ => rfl) (inb_k g16).1 (inb_k g16).2 (by decide) dX12_readWall_58 (fun H locs G => ?_)
    obtain ⟨S17, eS17, h⟩ := elet_some h
    rw [← eS17] at G
    clear eS17
    refine lv_aload_n hx hb dX12_readWall_59 rfl (lv_at hl 2 rfl) ?_
    refine m_get E G 11 (v := .ref (ad 11)) (by decide) (.tail _ qM_8) rfl dX12_readWall_60 rfl ?_
    refine lv_bipush (v := 74) hx hb dX12_readWall_63 (by decide) ?_
    refine lv_iload_n hx hb dX12_readWall_65 rfl (lv_at hl 3 rfl) ?_
    refine lv_iadd hx hb dX12_readWall_66 ?_
    refine lv_topi (fun v18 ev18 => ?_)
    have h := elet_at ev18 h
    clear ev18
    refine lv_iload_n hx hb dX12_readWall_67 rfl (lv_at hl 0 rfl) ?_
    obtain ⟨g19, h⟩ := oif_some h
    refine m_iast E G 11 3 (k := v18.toNatClampNeg) (v := r12) rfl (fun _ => rfl) (inb_k g19).1 (inb_k g19).2 (by decide) dX12_readWall_68 (fun H locs G => ?_)
    obtain ⟨S20, eS20, h⟩ := elet_some h
    rw [← eS20] at G
    clear eS20
    refine lv_aload_n hx hb dX12_readWall_69 rfl (lv_at hl 2 rfl) ?_
    refine m_get E G 11 (v := .ref (ad 11)) (by decide) (.tail _ qM_8) rfl dX12_readWall_70 rfl ?_
    refine lv_bipush (v := 71) hx hb dX12_readWall_73 (by decide) ?_
    refine lv_dup2_11 hx hb dX12_readWall_75 rfl rfl ?_
    refine m_iald E G 11 3 (n := 131) (k := 71) rfl rfl (by decide) (by decide) dX12_readWall_76 ?_
    refine lv_topi (fun v21 ev21 => ?_)
    have h := elet_at ev21 h
    clear ev21
    refine lv_iconst (v := 1) hx hb dX12_readWall_77 (by decide) ?_
    refine lv_iadd hx hb dX12_readWall_78 ?_
    refine lv_topi (fun v22 ev22 => ?_)
    have h := elet_at ev22 h
    clear ev22
    refine m_iast E G 11 3 (k := 71) (v := v22) rfl (fun _ => rfl) rfl (by decide) (by decide) dX12_readWall_79 (fun H locs G => ?_)
    obtain ⟨S23, eS23, h⟩ := elet_some h
    rw [← eS23] at G
    clear eS23
    rw [osome1 h] at G
    exact kr80 _ _ _ G
  · have h := oif_neg c14 h
    rw [osome1 h] at G
    exact kr48 _ _ _ G
def fr_readWall (S : MS)  : Option (MS) := elet (S.2.1 11 71) fun v2 => if v2 = 2 then (obind (fr_faults S 4) fun S4 => fr_readWall_b18 S4 v2) else (fr_readWall_b18 S v2)
set_option maxHeartbeats 4000000 in
set_option maxRecDepth 100000 in
theorem tr_readWall (l : Launch) (D : va_G) (cI cJ cZ : ClassId) (ad : Nat → Nat) (S : MS)  {S1 : MS} (h : fr_readWall S = some S1) : mCv l yX12_readWall (Cond.code yX12_readWall cX12_readWall 4 none :: wsM) 5 90 D cI cJ cZ ad S [] (fun S9 => S9 = S1) := by
  intro sz
  refine Met.ofW (cc := cX12_readWall) (maxL := 4) (ret := none) (by decide) rfl ?_
  intro p e s m args below meth c s₁ B hml hv
  obtain ⟨rfl, hsz, hP, hK, hD0, hR⟩ := hv
  have hx := B.exec
  have hb := B.bytes
  have hr := B.returns
  have hts := atoms_spec (ws := (Cond.code yX12_readWall cX12_readWall 4 none :: wsM)) B.pre
  have hown : s.vm.findClass RX12 = some m.cls := findClass_of_methodNamed B.named
  have hlocks := B.notSynchronized
  subst hsz
  have hD := hD0.self (sz := s.heap.size)
  generalize hAe : va_A (MW cI cJ cZ ad S) s.heap.size = A at hD ⊢
  have hA : ∀ q : Nat, s.heap.size ≤ q → A q := fun q h => by rw [← hAe]; exact Or.inr h
  have G : mG D cI cJ cZ ad A s.heap s.heap [] S := ⟨hP, hD, va_S.rf⟩
  have E : mE p c cX12_readWall s m ([.ref (ad 0)] : List Value).toArray (Cond.code yX12_readWall cX12_readWall 4 none :: wsM) D cI cJ cZ := ⟨hx, hb, hts, hown, hK, fun w h => .tail _ (iM_x h)⟩
  have hl := lv_entry ([.ref (ad 0)]) (n := 4) (Nat.le_of_ble_eq_true rfl)
  rw [lg_entry_eq]
  generalize (lg_sl ([.ref (ad 0)]) ++ List.replicate (4 - (lg_sl ([.ref (ad 0)])).length) Slot.unset).toArray = ls at hl ⊢
  have hl : lv_has ls 4 [(0, .ref (ad 0))] := hl
  unfold fr_readWall at h
  refine lv_aload_n hx hb dX12_readWall_0 rfl (lv_at hl 0 rfl) ?_
  refine m_get E G 11 (v := .ref (ad 11)) (by decide) (.tail _ qM_8) rfl dX12_readWall_1 rfl ?_
  refine lv_bipush (v := 71) hx hb dX12_readWall_4 (by decide) ?_
  refine m_iald E G 11 3 (n := 131) (k := 71) rfl rfl (by decide) (by decide) dX12_readWall_6 ?_
  refine lv_topi (fun v2 ev2 => ?_)
  have h := elet_at ev2 h
  clear ev2
  refine lv_istore_n (lv' := [(1, .int v2), (0, .ref (ad 0))]) hx hb dX12_readWall_7 rfl hl (by decide) rfl (fun ls hl => ?_)
  refine lv_iload_n hx hb dX12_readWall_8 rfl (lv_at hl 0 rfl) ?_
  refine lv_iconst (v := 2) hx hb dX12_readWall_9 (by decide) ?_
  refine lv_icmp_ne (tgt := 18) hx hb dX12_readWall_10 (by decide) (fun c3 => ?_) (fun c3 => ?_)
  · have h := oif_neg c3 h
    have hl := lv_sub hl [1, 0] rfl
    exact tr_readWall_b18 E hA hR hml (fun H locs ls G => W.vret hx hb hr (fun t ht hW => ⟨⟨S1, rfl, rfl, ⟨by rw [ht]; exact G.1, va_K.moved hW.alike hK, G.2.1⟩⟩, G.2.2.F ht⟩) G.2.2.2.2 dX12_readWall_48) (fun H locs ls G => W.vret hx hb hr (fun t ht hW => ⟨⟨S1, rfl, rfl, ⟨by rw [ht]; exact G.1, va_K.moved hW.alike hK, G.2.1⟩⟩, G.2.2.F ht⟩) G.2.2.2.2 dX12_readWall_80) _ _ _ _ _ h G hl
  · have h := oif_pos c3 h
    refine lv_aload_n hx hb dX12_readWall_13 rfl (lv_at hl 1 rfl) ?_
    refine lv_iconst (v := 4) hx hb dX12_readWall_14 (by decide) ?_
    obtain ⟨S4, eS4, h⟩ := obind_some h
    refine m_callv (As := [.int 4]) (rest := []) E G hA hR hml (tr_faults l D cI cJ cZ ad S 4 eS4) (cwV 1 hts (gmV qM_118 qM_119 qM_120 qM_35 qM_42) rfl rfl rfl (by decide +kernel) ⟨Nat.le_of_ble_eq_true rfl, Nat.le_of_ble_eq_true rfl⟩) rfl hl.1 rfl (lv_room (Nat.le_of_ble_eq_true rfl)) dX12_readWall_15 ⟨Nat.zero_le _, Nat.zero_le _⟩ (fun S6 H locs hq G => ?_)
    rw [hq] at G
    clear hq eS4
    have hl := lv_sub hl [1, 0] rfl
    exact tr_readWall_b18 E hA hR hml (fun H locs ls G => W.vret hx hb hr (fun t ht hW => ⟨⟨S1, rfl, rfl, ⟨by rw [ht]; exact G.1, va_K.moved hW.alike hK, G.2.1⟩⟩, G.2.2.F ht⟩) G.2.2.2.2 dX12_readWall_48) (fun H locs ls G => W.vret hx hb hr (fun t ht hW => ⟨⟨S1, rfl, rfl, ⟨by rw [ht]; exact G.1, va_K.moved hW.alike hK, G.2.1⟩⟩, G.2.2.F ht⟩) G.2.2.2.2 dX12_readWall_80) _ _ _ _ _ h G hl
def fr_readFade_b43  (S : MS)  : Option (MS) := some S
set_option maxHeartbeats 4000000 in
set_option maxRecDepth 100000 in
theorem tr_readFade_b43 {p : Program} {l : Launch} {e : Env} {s : State} {m : MethodId} {args : Array Value} {below : List Frame} {meth : Method} {c : Code} {Q : State → Prop} {D : va_G} {A : Nat → Prop} {H0 : Heap} {cI cJ cZ : ClassId} {ad : Nat → Nat} {S1 : MS} (E : mE p c cX12_readFade s m args (Cond.code yX12_readFade cX12_readFade 2 none :: wsM) D cI cJ cZ) (hA : ∀ q : Nat, H0.size ≤ q → A q) (hR : sR s) (hml : c.maxLocals = 2) (kr43 : ∀ (H : Heap) (locs : List Loc) (ls : Array Slot), mG D cI cJ cZ ad A H0 H locs S1 → W p l e { frames := 4, cells := 0, slots := 0, locals := 67 } s m args below meth c H locs 0 0 Q (F0 m 43 ls [])) : ∀ (S : MS) (H : Heap) (locs : List Loc) (ls : Array Slot), fr_readFade_b43 S = some S1 → mG D cI cJ cZ ad A H0 H locs S → lv_has ls 2 [] → W p l e { frames := 4, cells := 0, slots := 0, locals := 67 } s m args below meth c H locs 0 0 Q (F0 m 43 ls []) := by
  have hx := E.1
  have hb := E.2.1
  have hts := E.2.2.1
  have hown := E.2.2.2.1
  have hK := E.2.2.2.2.1
  intro S H locs ls h G hl
  unfold fr_readFade_b43 at h
  rw [osome1 h] at G
  exact kr43 _ _ _ G
def fr_readFade_b15  (S : MS)  : Option (MS) := obind (fr_nextToken S) fun S2 => obind2 (fr_number S2 1 999) fun r8 S5 => elet (S5.1 5) fun v9 => if v9 = 0 then (elet (mf S5 11 (upd (S5.2.1 11) 76 r8)) fun S11 => fr_readFade_b43 S11) else (fr_readFade_b43 S5)
set_option maxHeartbeats 4000000 in
set_option maxRecDepth 100000 in
theorem tr_readFade_b15 {p : Program} {l : Launch} {e : Env} {s : State} {m : MethodId} {args : Array Value} {below : List Frame} {meth : Method} {c : Code} {Q : State → Prop} {D : va_G} {A : Nat → Prop} {H0 : Heap} {cI cJ cZ : ClassId} {ad : Nat → Nat} {S1 : MS} (E : mE p c cX12_readFade s m args (Cond.code yX12_readFade cX12_readFade 2 none :: wsM) D cI cJ cZ) (hA : ∀ q : Nat, H0.size ≤ q → A q) (hR : sR s) (hml : c.maxLocals = 2) (kr43 : ∀ (H : Heap) (locs : List Loc) (ls : Array Slot), mG D cI cJ cZ ad A H0 H locs S1 → W p l e { frames := 4, cells := 0, slots := 0, locals := 67 } s m args below meth c H locs 0 0 Q (F0 m 43 ls [])) : ∀ (S : MS) (H : Heap) (locs : List Loc) (ls : Array Slot), fr_readFade_b15 S = some S1 → mG D cI cJ cZ ad A H0 H locs S → lv_has ls 2 [(0, .ref (ad 0))] → W p l e { frames := 4, cells := 0, slots := 0, locals := 67 } s m args below meth c H locs 0 0 Q (F0 m 15 ls []) := by
  have hx := E.1
  have hb := E.2.1
  have hts := E.2.2.1
  have hown := E.2.2.2.1
  have hK := E.2.2.2.2.1
  intro S H locs ls h G hl
  unfold fr_readFade_b15 at h
  refine lv_aload_n hx hb dX12_readFade_15 rfl (lv_at hl 0 rfl) ?_
  obtain ⟨S2, eS2, h⟩ := obind_some h
  refine m_callv (As := []) (rest := []) E G hA hR hml (tr_nextToken l D cI cJ cZ ad S eS2) (cwV 0 hts (gmV qM_111 qM_112 qM_113 qM_35 qM_45) rfl rfl rfl (by decide +kernel) ⟨Nat.le_of_ble_eq_true rfl, Nat.le_of_ble_eq_true rfl⟩) rfl hl.1 rfl (lv_room (Nat.le_of_ble_eq_true rfl)) dX12_readFade_16 ⟨Nat.zero_le _, Nat.zero_le _⟩ (fun S4 H locs hq G => ?_)
  rw [hq] at G
  clear hq eS2
  refine lv_aload_n hx hb dX12_readFade_19 rfl (lv_at hl 0 rfl) ?_
  refine lv_iconst (v := 1) hx hb dX12_readFade_20 (by decide) ?_
  refine lv_sipush (v := 999) hx hb dX12_readFade_21 (by decide) ?_
  obtain ⟨r8, S5, eS5, h⟩ := obind2_some h
  refine m_calli (As := [.int 1, .int 999]) (rest := []) E G hA hR hml (tr_number l D cI cJ cZ ad S2 1 999 eS5) (cwV 2 hts (gmV qM_130 qM_131 qM_132 qM_35 qM_122) rfl rfl rfl (by decide +kernel) ⟨Nat.le_of_ble_eq_true rfl, Nat.le_of_ble_eq_true rfl⟩) rfl hl.1 rfl (lv_room (Nat.le_of_ble_eq_true rfl)) dX12_readFade_24 ⟨Nat.zero_le _, Nat.zero_le _⟩ (fun q6 S7 H locs hq G => ?_)
  obtain ⟨hq1, hq2⟩ := hq
  rw [hq2] at G
  refine lv_to hq1 ?_
  clear hq1 hq2 eS5
  refine lv_istore_n (lv' := [(1, .int r8), (0, .ref (ad 0))]) hx hb dX12_readFade_27 rfl hl (by decide) rfl (fun ls hl => ?_)
  refine lv_aload_n hx hb dX12_readFade_28 rfl (lv_at hl 1 rfl) ?_
  refine m_get E G 5 (v := .int (S5.1 5)) (by decide) (.tail _ qM_38) rfl dX12_readFade_29 rfl ?_
  refine lv_topi (fun v9 ev9 => ?_)
  have h := elet_at ev9 h
  clear ev9
  refine lv_if_ne (tgt := 43) hx hb dX12_readFade_32 (by decide) (fun c10 => ?_) (fun c10 => ?_)
  · have h := oif_neg c10 h
    have hl := lv_sub hl [] rfl
    exact tr_readFade_b43 E hA hR hml kr43 _ _ _ _ h G hl
  · have h := oif_pos c10 h
    refine lv_aload_n hx hb dX12_readFade_35 rfl (lv_at hl 1 rfl) ?_
    refine m_get E G 11 (v := .ref (ad 11)) (by decide) (.tail _ qM_8) rfl dX12_readFade_36 rfl ?_
    refine lv_bipush (v := 76) hx hb dX12_readFade_39 (by decide) ?_
    refine lv_iload_n hx hb dX12_readFade_41 rfl (lv_at hl 0 rfl) ?_
    refine m_iast E G 11 3 (k := 76) (v := r8) rfl (fun _ => rfl) rfl (by decide) (by decide) dX12_readFade_42 (fun H locs G => ?_)
    obtain ⟨S11, eS11, h⟩ := elet_some h
    rw [← eS11] at G
    clear eS11
    have hl := lv_sub hl [] rfl
    exact tr_readFade_b43 E hA hR hml kr43 _ _ _ _ h G hl
def fr_readFade (S : MS)  : Option (MS) := elet (S.2.1 11 76) fun v2 => if v2 ≤ 0 then (fr_readFade_b15 S) else (obind (fr_faults S 3) fun S4 => fr_readFade_b15 S4)
set_option maxHeartbeats 4000000 in
set_option maxRecDepth 100000 in
theorem tr_readFade (l : Launch) (D : va_G) (cI cJ cZ : ClassId) (ad : Nat → Nat) (S : MS)  {S1 : MS} (h : fr_readFade S = some S1) : mCv l yX12_readFade (Cond.code yX12_readFade cX12_readFade 2 none :: wsM) 4 67 D cI cJ cZ ad S [] (fun S9 => S9 = S1) := by
  intro sz
  refine Met.ofW (cc := cX12_readFade) (maxL := 2) (ret := none) (by decide) rfl ?_
  intro p e s m args below meth c s₁ B hml hv
  obtain ⟨rfl, hsz, hP, hK, hD0, hR⟩ := hv
  have hx := B.exec
  have hb := B.bytes
  have hr := B.returns
  have hts := atoms_spec (ws := (Cond.code yX12_readFade cX12_readFade 2 none :: wsM)) B.pre
  have hown : s.vm.findClass RX12 = some m.cls := findClass_of_methodNamed B.named
  have hlocks := B.notSynchronized
  subst hsz
  have hD := hD0.self (sz := s.heap.size)
  generalize hAe : va_A (MW cI cJ cZ ad S) s.heap.size = A at hD ⊢
  have hA : ∀ q : Nat, s.heap.size ≤ q → A q := fun q h => by rw [← hAe]; exact Or.inr h
  have G : mG D cI cJ cZ ad A s.heap s.heap [] S := ⟨hP, hD, va_S.rf⟩
  have E : mE p c cX12_readFade s m ([.ref (ad 0)] : List Value).toArray (Cond.code yX12_readFade cX12_readFade 2 none :: wsM) D cI cJ cZ := ⟨hx, hb, hts, hown, hK, fun w h => .tail _ (iM_x h)⟩
  have hl := lv_entry ([.ref (ad 0)]) (n := 2) (Nat.le_of_ble_eq_true rfl)
  rw [lg_entry_eq]
  generalize (lg_sl ([.ref (ad 0)]) ++ List.replicate (2 - (lg_sl ([.ref (ad 0)])).length) Slot.unset).toArray = ls at hl ⊢
  have hl : lv_has ls 2 [(0, .ref (ad 0))] := hl
  unfold fr_readFade at h
  refine lv_aload_n hx hb dX12_readFade_0 rfl (lv_at hl 0 rfl) ?_
  refine m_get E G 11 (v := .ref (ad 11)) (by decide) (.tail _ qM_8) rfl dX12_readFade_1 rfl ?_
  refine lv_bipush (v := 76) hx hb dX12_readFade_4 (by decide) ?_
  refine m_iald E G 11 3 (n := 131) (k := 76) rfl rfl (by decide) (by decide) dX12_readFade_6 ?_
  refine lv_topi (fun v2 ev2 => ?_)
  have h := elet_at ev2 h
  clear ev2
  refine lv_if_le (tgt := 15) hx hb dX12_readFade_7 (by decide) (fun c3 => ?_) (fun c3 => ?_)
  · have h := oif_pos c3 h
    have hl := lv_sub hl [0] rfl
    exact tr_readFade_b15 E hA hR hml (fun H locs ls G => W.vret hx hb hr (fun t ht hW => ⟨⟨S1, rfl, rfl, ⟨by rw [ht]; exact G.1, va_K.moved hW.alike hK, G.2.1⟩⟩, G.2.2.F ht⟩) G.2.2.2.2 dX12_readFade_43) _ _ _ _ h G hl
  · have h := oif_neg c3 h
    refine lv_aload_n hx hb dX12_readFade_10 rfl (lv_at hl 0 rfl) ?_
    refine lv_iconst (v := 3) hx hb dX12_readFade_11 (by decide) ?_
    obtain ⟨S4, eS4, h⟩ := obind_some h
    refine m_callv (As := [.int 3]) (rest := []) E G hA hR hml (tr_faults l D cI cJ cZ ad S 3 eS4) (cwV 1 hts (gmV qM_118 qM_119 qM_120 qM_35 qM_42) rfl rfl rfl (by decide +kernel) ⟨Nat.le_of_ble_eq_true rfl, Nat.le_of_ble_eq_true rfl⟩) rfl hl.1 rfl (lv_room (Nat.le_of_ble_eq_true rfl)) dX12_readFade_12 ⟨Nat.zero_le _, Nat.zero_le _⟩ (fun S6 H locs hq G => ?_)
    rw [hq] at G
    clear hq eS4
    have hl := lv_sub hl [0] rfl
    exact tr_readFade_b15 E hA hR hml (fun H locs ls G => W.vret hx hb hr (fun t ht hW => ⟨⟨S1, rfl, rfl, ⟨by rw [ht]; exact G.1, va_K.moved hW.alike hK, G.2.1⟩⟩, G.2.2.F ht⟩) G.2.2.2.2 dX12_readFade_43) _ _ _ _ h G hl
def fr_readFilter_b65 (k19 : MS → Option (MS)) (S : MS)  : Option (MS) := obind2 (fr_signed S (-9) 9) fun r5 S2 => elet (S2.1 5) fun v6 => if v6 ≤ 0 then (elet (S2.2.1 11 77) fun v8 => elet (78 + v8) fun v9 => oif (inb v9 131 = true) <| elet (mf S2 11 (upd (S2.2.1 11) v9.toNatClampNeg r5)) fun S11 => elet (S11.2.1 11 77) fun v12 => elet (v12 + 1) fun v13 => elet (mf S11 11 (upd (S11.2.1 11) 77 v13)) fun S14 => elet (S14.1 7) fun v15 => if v15 = 3 then (k19 S14) else (obind2 (fr_isSignHere S14 45) fun r20 S17 => if r20 = 0 then (some S17) else (k19 S17))) else (some S2)
set_option maxHeartbeats 4000000 in
set_option maxRecDepth 100000 in
theorem tr_readFilter_b65 {p : Program} {l : Launch} {e : Env} {s : State} {m : MethodId} {args : Array Value} {below : List Frame} {meth : Method} {c : Code} {Q : State → Prop} {D : va_G} {A : Nat → Prop} {H0 : Heap} {cI cJ cZ : ClassId} {ad : Nat → Nat} {S1 : MS} (E : mE p c cX12_readFilter s m args (Cond.code yX12_readFilter cX12_readFilter 3 none :: wsM) D cI cJ cZ) (hA : ∀ q : Nat, H0.size ≤ q → A q) (hR : sR s) (hml : c.maxLocals = 3) (kr81 : ∀ (H : Heap) (locs : List Loc) (ls : Array Slot), mG D cI cJ cZ ad A H0 H locs S1 → W p l e { frames := 5, cells := 0, slots := 0, locals := 90 } s m args below meth c H locs 0 0 Q (F0 m 81 ls [])) (kr126 : ∀ (H : Heap) (locs : List Loc) (ls : Array Slot), mG D cI cJ cZ ad A H0 H locs S1 → W p l e { frames := 5, cells := 0, slots := 0, locals := 90 } s m args below meth c H locs 0 0 Q (F0 m 126 ls [])) {k19 : MS → Option (MS)} (hk19 : ∀ (S : MS) (H : Heap) (locs : List Loc) (ls : Array Slot), k19 S = some S1 → mG D cI cJ cZ ad A H0 H locs S → lv_has ls 3 [(0, .ref (ad 0))] → W p l e { frames := 5, cells := 0, slots := 0, locals := 90 } s m args below meth c H locs 0 0 Q (F0 m 19 ls [])) : ∀ (S : MS) (H : Heap) (locs : List Loc) (ls : Array Slot), fr_readFilter_b65 k19 S = some S1 → mG D cI cJ cZ ad A H0 H locs S → lv_has ls 3 [(0, .ref (ad 0))] → W p l e { frames := 5, cells := 0, slots := 0, locals := 90 } s m args below meth c H locs 0 0 Q (F0 m 65 ls []) := by
  have hx := E.1
  have hb := E.2.1
  have hts := E.2.2.1
  have hown := E.2.2.2.1
  have hK := E.2.2.2.2.1
  intro S H locs ls h G hl
  unfold fr_readFilter_b65 at h
  refine lv_aload_n hx hb dX12_readFilter_65 rfl (lv_at hl 0 rfl) ?_
  refine lv_bipush (v := (-9)) hx hb dX12_readFilter_66 (by decide) ?_
  refine lv_bipush (v := 9) hx hb dX12_readFilter_68 (by decide) ?_
  obtain ⟨r5, S2, eS2, h⟩ := obind2_some h
  refine m_calli (As := [.int (-9), .int 9]) (rest := []) E G hA hR hml (tr_signed l D cI cJ cZ ad S (-9) 9 eS2) (cwV 2 hts (gmV qM_142 qM_143 qM_144 qM_35 qM_133) rfl rfl rfl (by decide +kernel) ⟨Nat.le_of_ble_eq_true rfl, Nat.le_of_ble_eq_true rfl⟩) rfl hl.1 rfl (lv_room (Nat.le_of_ble_eq_true rfl)) dX12_readFilter_70 ⟨Nat.zero_le _, Nat.zero_le _⟩ (fun q3 S4 H locs hq G => ?_)
  obtain ⟨hq1, hq2⟩ := hq
  rw [hq2] at G
  refine lv_to hq1 ?_
  clear hq1 hq2 eS2
  refine lv_istore_n (lv' := [(2, .int r5), (0, .ref (ad 0))]) hx hb dX12_readFilter_73 rfl hl (by decide) rfl (fun ls hl => ?_)
  refine lv_aload_n hx hb dX12_readFilter_74 rfl (lv_at hl 1 rfl) ?_
  refine m_get E G 5 (v := .int (S2.1 5)) (by decide) (.tail _ qM_38) rfl dX12_readFilter_75 rfl ?_
  refine lv_topi (fun v6 ev6 => ?_)
  have h := elet_at ev6 h
  clear ev6
  refine lv_if_le (tgt := 82) hx hb dX12_readFilter_78 (by decide) (fun c7 => ?_) (fun c7 => ?_)
  · have h := oif_pos c7 h
    refine lv_aload_n hx hb dX12_readFilter_82 rfl (lv_at hl 1 rfl) ?_
    refine m_get E G 11 (v := .ref (ad 11)) (by decide) (.tail _ qM_8) rfl dX12_readFilter_83 rfl ?_
    refine lv_bipush (v := 78) hx hb dX12_readFilter_86 (by decide) ?_
    refine lv_aload_n hx hb dX12_readFilter_88 rfl (lv_at hl 1 rfl) ?_
    refine m_get E G 11 (v := .ref (ad 11)) (by decide) (.tail _ qM_8) rfl dX12_readFilter_89 rfl ?_
    refine lv_bipush (v := 77) hx hb dX12_readFilter_92 (by decide) ?_
    refine m_iald E G 11 3 (n := 131) (k := 77) rfl rfl (by decide) (by decide) dX12_readFilter_94 ?_
    refine lv_topi (fun v8 ev8 => ?_)
    have h := elet_at ev8 h
    clear ev8
    refine lv_iadd hx hb dX12_readFilter_95 ?_
    refine lv_topi (fun v9 ev9 => ?_)
    have h := elet_at ev9 h
    clear ev9
    refine lv_iload_n hx hb dX12_readFilter_96 rfl (lv_at hl 0 rfl) ?_
    obtain ⟨g10, h⟩ := oif_some h
    refine m_iast E G 11 3 (k := v9.toNatClampNeg) (v := r5) rfl (fun _ => rfl) (inb_k g10).1 (inb_k g10).2 (by decide) dX12_readFilter_97 (fun H locs G => ?_)
    obtain ⟨S11, eS11, h⟩ := elet_some h
    rw [← eS11] at G
    clear eS11
    refine lv_aload_n hx hb dX12_readFilter_98 rfl (lv_at hl 1 rfl) ?_
    refine m_get E G 11 (v := .ref (ad 11)) (by decide) (.tail _ qM_8) rfl dX12_readFilter_99 rfl ?_
    refine lv_bipush (v := 77) hx hb dX12_readFilter_102 (by decide) ?_
    refine lv_dup2_11 hx hb dX12_readFilter_104 rfl rfl ?_
    refine m_iald E G 11 3 (n := 131) (k := 77) rfl rfl (by decide) (by decide) dX12_readFilter_105 ?_
    refine lv_topi (fun v12 ev12 => ?_)
    have h := elet_at ev12 h
    clear ev12
    refine lv_iconst (v := 1) hx hb dX12_readFilter_106 (by decide) ?_
    refine lv_iadd hx hb dX12_readFilter_107 ?_
    refine lv_topi (fun v13 ev13 => ?_)
    have h := elet_at ev13 h
    clear ev13
    refine m_iast E G 11 3 (k := 77) (v := v13) rfl (fun _ => rfl) rfl (by decide) (by decide) dX12_readFilter_108 (fun H locs G => ?_)
    obtain ⟨S14, eS14, h⟩ := elet_some h
    rw [← eS14] at G
    clear eS14
    refine lv_aload_n hx hb dX12_readFilter_109 rfl (lv_at hl 1 rfl) ?_
    refine m_get E G 7 (v := .int (S14.1 7)) (by decide) (.tail _ qM_47) rfl dX12_readFilter_110 rfl ?_
    refine lv_topi (fun v15 ev15 => ?_)
    have h := elet_at ev15 h
    clear ev15
    refine lv_iconst (v := 3) hx hb dX12_readFilter_113 (by decide) ?_
    refine lv_icmp_eq (tgt := 19) hx hb dX12_readFilter_114 (by decide) (fun c16 => ?_) (fun c16 => ?_)
    · have h := oif_pos c16 h
      have hl := lv_sub hl [1] rfl
      exact hk19 _ _ _ _ h G hl
    · have h := oif_neg c16 h
      refine lv_aload_n hx hb dX12_readFilter_117 rfl (lv_at hl 1 rfl) ?_
      refine lv_bipush (v := 45) hx hb dX12_readFilter_118 (by decide) ?_
      obtain ⟨r20, S17, eS17, h⟩ := obind2_some h
      refine m_calli (As := [.int 45]) (rest := []) E G hA hR hml (tr_isSignHere l D cI cJ cZ ad S14 45 eS17) (cwV 1 hts (gmV qM_134 qM_135 qM_136 qM_35 qM_56) rfl rfl rfl (by decide +kernel) ⟨Nat.le_of_ble_eq_true rfl, Nat.le_of_ble_eq_true rfl⟩) rfl hl.1 rfl (lv_room (Nat.le_of_ble_eq_true rfl)) dX12_readFilter_120 ⟨Nat.zero_le _, Nat.zero_le _⟩ (fun q18 S19 H locs hq G => ?_)
      obtain ⟨hq1, hq2⟩ := hq
      rw [hq2] at G
      refine lv_to hq1 ?_
      clear hq1 hq2 eS17
      refine lv_if_ne (tgt := 19) hx hb dX12_readFilter_123 (by decide) (fun c21 => ?_) (fun c21 => ?_)
      · have h := oif_neg c21 h
        have hl := lv_sub hl [1] rfl
        exact hk19 _ _ _ _ h G hl
      · have h := oif_pos c21 h
        rw [osome1 h] at G
        exact kr126 _ _ _ G
  · have h := oif_neg c7 h
    rw [osome1 h] at G
    exact kr81 _ _ _ G
def fr_readFilter_b56 (k19 : MS → Option (MS)) (S : MS) (l1 : Int32) : Option (MS) := if l1 = 0 then (fr_readFilter_b65 k19 S) else (obind (fr_faults S 4) fun S3 => fr_readFilter_b65 k19 S3)
set_option maxHeartbeats 4000000 in
set_option maxRecDepth 100000 in
theorem tr_readFilter_b56 {p : Program} {l : Launch} {e : Env} {s : State} {m : MethodId} {args : Array Value} {below : List Frame} {meth : Method} {c : Code} {Q : State → Prop} {D : va_G} {A : Nat → Prop} {H0 : Heap} {cI cJ cZ : ClassId} {ad : Nat → Nat} {S1 : MS} (E : mE p c cX12_readFilter s m args (Cond.code yX12_readFilter cX12_readFilter 3 none :: wsM) D cI cJ cZ) (hA : ∀ q : Nat, H0.size ≤ q → A q) (hR : sR s) (hml : c.maxLocals = 3) (kr81 : ∀ (H : Heap) (locs : List Loc) (ls : Array Slot), mG D cI cJ cZ ad A H0 H locs S1 → W p l e { frames := 5, cells := 0, slots := 0, locals := 90 } s m args below meth c H locs 0 0 Q (F0 m 81 ls [])) (kr126 : ∀ (H : Heap) (locs : List Loc) (ls : Array Slot), mG D cI cJ cZ ad A H0 H locs S1 → W p l e { frames := 5, cells := 0, slots := 0, locals := 90 } s m args below meth c H locs 0 0 Q (F0 m 126 ls [])) {k19 : MS → Option (MS)} (hk19 : ∀ (S : MS) (H : Heap) (locs : List Loc) (ls : Array Slot), k19 S = some S1 → mG D cI cJ cZ ad A H0 H locs S → lv_has ls 3 [(0, .ref (ad 0))] → W p l e { frames := 5, cells := 0, slots := 0, locals := 90 } s m args below meth c H locs 0 0 Q (F0 m 19 ls [])) : ∀ (S : MS) (H : Heap) (locs : List Loc) (ls : Array Slot) (l1 : Int32), fr_readFilter_b56 k19 S l1 = some S1 → mG D cI cJ cZ ad A H0 H locs S → lv_has ls 3 [(0, .ref (ad 0)), (1, .int l1)] → W p l e { frames := 5, cells := 0, slots := 0, locals := 90 } s m args below meth c H locs 0 0 Q (F0 m 56 ls []) := by
  have hx := E.1
  have hb := E.2.1
  have hts := E.2.2.1
  have hown := E.2.2.2.1
  have hK := E.2.2.2.2.1
  intro S H locs ls l1 h G hl
  unfold fr_readFilter_b56 at h
  refine lv_iload_n hx hb dX12_readFilter_56 rfl (lv_at hl 1 rfl) ?_
  refine lv_if_eq (tgt := 65) hx hb dX12_readFilter_57 (by decide) (fun c2 => ?_) (fun c2 => ?_)
  · have h := oif_pos c2 h
    have hl := lv_sub hl [0] rfl
    exact tr_readFilter_b65 E hA hR hml kr81 kr126 hk19 _ _ _ _ h G hl
  · have h := oif_neg c2 h
    refine lv_aload_n hx hb dX12_readFilter_60 rfl (lv_at hl 0 rfl) ?_
    refine lv_iconst (v := 4) hx hb dX12_readFilter_61 (by decide) ?_
    obtain ⟨S3, eS3, h⟩ := obind_some h
    refine m_callv (As := [.int 4]) (rest := []) E G hA hR hml (tr_faults l D cI cJ cZ ad S 4 eS3) (cwV 1 hts (gmV qM_118 qM_119 qM_120 qM_35 qM_42) rfl rfl rfl (by decide +kernel) ⟨Nat.le_of_ble_eq_true rfl, Nat.le_of_ble_eq_true rfl⟩) rfl hl.1 rfl (lv_room (Nat.le_of_ble_eq_true rfl)) dX12_readFilter_62 ⟨Nat.zero_le _, Nat.zero_le _⟩ (fun S5 H locs hq G => ?_)
    rw [hq] at G
    clear hq eS3
    have hl := lv_sub hl [0] rfl
    exact tr_readFilter_b65 E hA hR hml kr81 kr126 hk19 _ _ _ _ h G hl
def fr_readFilter_b35 (k19 : MS → Option (MS)) (S : MS) (s0 : Int32) : Option (MS) := if s0 = 0 then (fr_readFilter_b56 k19 S s0) else (elet (S.1 7) fun v3 => if v3 = 3 then (obind2 (fr_look S 0 9) fun r8 S5 => fr_readFilter_b56 k19 S5 s0) else (fr_readFilter_b56 k19 S s0))
set_option maxHeartbeats 4000000 in
set_option maxRecDepth 100000 in
theorem tr_readFilter_b35 {p : Program} {l : Launch} {e : Env} {s : State} {m : MethodId} {args : Array Value} {below : List Frame} {meth : Method} {c : Code} {Q : State → Prop} {D : va_G} {A : Nat → Prop} {H0 : Heap} {cI cJ cZ : ClassId} {ad : Nat → Nat} {S1 : MS} (E : mE p c cX12_readFilter s m args (Cond.code yX12_readFilter cX12_readFilter 3 none :: wsM) D cI cJ cZ) (hA : ∀ q : Nat, H0.size ≤ q → A q) (hR : sR s) (hml : c.maxLocals = 3) (kr81 : ∀ (H : Heap) (locs : List Loc) (ls : Array Slot), mG D cI cJ cZ ad A H0 H locs S1 → W p l e { frames := 5, cells := 0, slots := 0, locals := 90 } s m args below meth c H locs 0 0 Q (F0 m 81 ls [])) (kr126 : ∀ (H : Heap) (locs : List Loc) (ls : Array Slot), mG D cI cJ cZ ad A H0 H locs S1 → W p l e { frames := 5, cells := 0, slots := 0, locals := 90 } s m args below meth c H locs 0 0 Q (F0 m 126 ls [])) {k19 : MS → Option (MS)} (hk19 : ∀ (S : MS) (H : Heap) (locs : List Loc) (ls : Array Slot), k19 S = some S1 → mG D cI cJ cZ ad A H0 H locs S → lv_has ls 3 [(0, .ref (ad 0))] → W p l e { frames := 5, cells := 0, slots := 0, locals := 90 } s m args below meth c H locs 0 0 Q (F0 m 19 ls [])) : ∀ (S : MS) (H : Heap) (locs : List Loc) (ls : Array Slot) (s0 : Int32), fr_readFilter_b35 k19 S s0 = some S1 → mG D cI cJ cZ ad A H0 H locs S → lv_has ls 3 [(0, .ref (ad 0))] → W p l e { frames := 5, cells := 0, slots := 0, locals := 90 } s m args below meth c H locs 0 0 Q (F0 m 35 ls [.int s0]) := by
  have hx := E.1
  have hb := E.2.1
  have hts := E.2.2.1
  have hown := E.2.2.2.1
  have hK := E.2.2.2.2.1
  intro S H locs ls s0 h G hl
  unfold fr_readFilter_b35 at h
  refine lv_istore_n (lv' := [(1, .int s0), (0, .ref (ad 0))]) hx hb dX12_readFilter_35 rfl hl (by decide) rfl (fun ls hl => ?_)
  refine lv_iload_n hx hb dX12_readFilter_36 rfl (lv_at hl 0 rfl) ?_
  refine lv_if_eq (tgt := 56) hx hb dX12_readFilter_37 (by decide) (fun c2 => ?_) (fun c2 => ?_)
  · have h := oif_pos c2 h
    have hl := lv_sub hl [1, 0] rfl
    exact tr_readFilter_b56 E hA hR hml kr81 kr126 hk19 _ _ _ _ _ h G hl
  · have h := oif_neg c2 h
    refine lv_aload_n hx hb dX12_readFilter_40 rfl (lv_at hl 1 rfl) ?_
    refine m_get E G 7 (v := .int (S.1 7)) (by decide) (.tail _ qM_47) rfl dX12_readFilter_41 rfl ?_
    refine lv_topi (fun v3 ev3 => ?_)
    have h := elet_at ev3 h
    clear ev3
    refine lv_iconst (v := 3) hx hb dX12_readFilter_44 (by decide) ?_
    refine lv_icmp_ne (tgt := 56) hx hb dX12_readFilter_45 (by decide) (fun c4 => ?_) (fun c4 => ?_)
    · have h := oif_neg c4 h
      have hl := lv_sub hl [1, 0] rfl
      exact tr_readFilter_b56 E hA hR hml kr81 kr126 hk19 _ _ _ _ _ h G hl
    · have h := oif_pos c4 h
      refine lv_aload_n hx hb dX12_readFilter_48 rfl (lv_at hl 1 rfl) ?_
      refine lv_iconst (v := 0) hx hb dX12_readFilter_49 (by decide) ?_
      refine lv_bipush (v := 9) hx hb dX12_readFilter_50 (by decide) ?_
      obtain ⟨r8, S5, eS5, h⟩ := obind2_some h
      refine m_calli (As := [.int 0, .int 9]) (rest := []) E G hA hR hml (tr_look l D cI cJ cZ ad S 0 9 eS5) (cwV 2 hts (gmV qM_123 qM_124 qM_125 qM_35 qM_121) rfl rfl rfl (by decide +kernel) ⟨Nat.le_of_ble_eq_true rfl, Nat.le_of_ble_eq_true rfl⟩) rfl hl.1 rfl (lv_room (Nat.le_of_ble_eq_true rfl)) dX12_readFilter_52 ⟨Nat.zero_le _, Nat.zero_le _⟩ (fun q6 S7 H locs hq G => ?_)
      obtain ⟨hq1, hq2⟩ := hq
      rw [hq2] at G
      refine lv_to hq1 ?_
      clear hq1 hq2 eS5
      refine lv_pop hx hb dX12_readFilter_55 rfl ?_
      have hl := lv_sub hl [1, 0] rfl
      exact tr_readFilter_b56 E hA hR hml kr81 kr126 hk19 _ _ _ _ _ h G hl
def fr_readFilter_b19  : Nat → MS → Option (MS)
  | 0, _ => none
  | n + 1, S => elet (S.2.1 11 77) fun v2 => if v2 = 5 then (fr_readFilter_b35 (fr_readFilter_b19 n) S 1) else (fr_readFilter_b35 (fr_readFilter_b19 n) S 0)
set_option maxHeartbeats 4000000 in
set_option maxRecDepth 100000 in
theorem tr_readFilter_b19 {p : Program} {l : Launch} {e : Env} {s : State} {m : MethodId} {args : Array Value} {below : List Frame} {meth : Method} {c : Code} {Q : State → Prop} {D : va_G} {A : Nat → Prop} {H0 : Heap} {cI cJ cZ : ClassId} {ad : Nat → Nat} {S1 : MS} (E : mE p c cX12_readFilter s m args (Cond.code yX12_readFilter cX12_readFilter 3 none :: wsM) D cI cJ cZ) (hA : ∀ q : Nat, H0.size ≤ q → A q) (hR : sR s) (hml : c.maxLocals = 3) (kr81 : ∀ (H : Heap) (locs : List Loc) (ls : Array Slot), mG D cI cJ cZ ad A H0 H locs S1 → W p l e { frames := 5, cells := 0, slots := 0, locals := 90 } s m args below meth c H locs 0 0 Q (F0 m 81 ls [])) (kr126 : ∀ (H : Heap) (locs : List Loc) (ls : Array Slot), mG D cI cJ cZ ad A H0 H locs S1 → W p l e { frames := 5, cells := 0, slots := 0, locals := 90 } s m args below meth c H locs 0 0 Q (F0 m 126 ls [])) : ∀ n : Nat, ∀ (S : MS) (H : Heap) (locs : List Loc) (ls : Array Slot), fr_readFilter_b19 n S = some S1 → mG D cI cJ cZ ad A H0 H locs S → lv_has ls 3 [(0, .ref (ad 0))] → W p l e { frames := 5, cells := 0, slots := 0, locals := 90 } s m args below meth c H locs 0 0 Q (F0 m 19 ls []) := by
  have hx := E.1
  have hb := E.2.1
  have hts := E.2.2.1
  have hown := E.2.2.2.1
  have hK := E.2.2.2.2.1
  intro n
  induction n with
  | zero =>
    intro S H locs ls h
    have h : (none : Option (MS)) = some S1 := h
    cases h
  | succ n ih =>
    intro S H locs ls h G hl
    unfold fr_readFilter_b19 at h
    refine lv_aload_n hx hb dX12_readFilter_19 rfl (lv_at hl 0 rfl) ?_
    refine m_get E G 11 (v := .ref (ad 11)) (by decide) (.tail _ qM_8) rfl dX12_readFilter_20 rfl ?_
    refine lv_bipush (v := 77) hx hb dX12_readFilter_23 (by decide) ?_
    refine m_iald E G 11 3 (n := 131) (k := 77) rfl rfl (by decide) (by decide) dX12_readFilter_25 ?_
    refine lv_topi (fun v2 ev2 => ?_)
    have h := elet_at ev2 h
    clear ev2
    refine lv_iconst (v := 5) hx hb dX12_readFilter_26 (by decide) ?_
    refine lv_icmp_ne (tgt := 34) hx hb dX12_readFilter_27 (by decide) (fun c3 => ?_) (fun c3 => ?_)
    · have h := oif_neg c3 h
      refine lv_iconst (v := 0) hx hb dX12_readFilter_34 (by decide) ?_
      have hl := lv_sub hl [0] rfl
      exact tr_readFilter_b35 E hA hR hml kr81 kr126 ih _ _ _ _ _ h G hl
    · have h := oif_pos c3 h
      refine lv_iconst (v := 1) hx hb dX12_readFilter_30 (by decide) ?_
      refine lv_goto (tgt := 35) hx hb dX12_readFilter_31 (by decide) ?_
      have hl := lv_sub hl [0] rfl
      exact tr_readFilter_b35 E hA hR hml kr81 kr126 ih _ _ _ _ _ h G hl
def fr_readFilter_b15  (S : MS)  : Option (MS) := obind (fr_nextToken S) fun S2 => fr_readFilter_b19 16384 S2
set_option maxHeartbeats 4000000 in
set_option maxRecDepth 100000 in
theorem tr_readFilter_b15 {p : Program} {l : Launch} {e : Env} {s : State} {m : MethodId} {args : Array Value} {below : List Frame} {meth : Method} {c : Code} {Q : State → Prop} {D : va_G} {A : Nat → Prop} {H0 : Heap} {cI cJ cZ : ClassId} {ad : Nat → Nat} {S1 : MS} (E : mE p c cX12_readFilter s m args (Cond.code yX12_readFilter cX12_readFilter 3 none :: wsM) D cI cJ cZ) (hA : ∀ q : Nat, H0.size ≤ q → A q) (hR : sR s) (hml : c.maxLocals = 3) (kr81 : ∀ (H : Heap) (locs : List Loc) (ls : Array Slot), mG D cI cJ cZ ad A H0 H locs S1 → W p l e { frames := 5, cells := 0, slots := 0, locals := 90 } s m args below meth c H locs 0 0 Q (F0 m 81 ls [])) (kr126 : ∀ (H : Heap) (locs : List Loc) (ls : Array Slot), mG D cI cJ cZ ad A H0 H locs S1 → W p l e { frames := 5, cells := 0, slots := 0, locals := 90 } s m args below meth c H locs 0 0 Q (F0 m 126 ls [])) : ∀ (S : MS) (H : Heap) (locs : List Loc) (ls : Array Slot), fr_readFilter_b15 S = some S1 → mG D cI cJ cZ ad A H0 H locs S → lv_has ls 3 [(0, .ref (ad 0))] → W p l e { frames := 5, cells := 0, slots := 0, locals := 90 } s m args below meth c H locs 0 0 Q (F0 m 15 ls []) := by
  have hx := E.1
  have hb := E.2.1
  have hts := E.2.2.1
  have hown := E.2.2.2.1
  have hK := E.2.2.2.2.1
  intro S H locs ls h G hl
  unfold fr_readFilter_b15 at h
  refine lv_aload_n hx hb dX12_readFilter_15 rfl (lv_at hl 0 rfl) ?_
  obtain ⟨S2, eS2, h⟩ := obind_some h
  refine m_callv (As := []) (rest := []) E G hA hR hml (tr_nextToken l D cI cJ cZ ad S eS2) (cwV 0 hts (gmV qM_111 qM_112 qM_113 qM_35 qM_45) rfl rfl rfl (by decide +kernel) ⟨Nat.le_of_ble_eq_true rfl, Nat.le_of_ble_eq_true rfl⟩) rfl hl.1 rfl (lv_room (Nat.le_of_ble_eq_true rfl)) dX12_readFilter_16 ⟨Nat.zero_le _, Nat.zero_le _⟩ (fun S4 H locs hq G => ?_)
  rw [hq] at G
  clear hq eS2
  have hl := lv_sub hl [0] rfl
  exact tr_readFilter_b19 E hA hR hml kr81 kr126 _ _ _ _ _ h G hl
def fr_readFilter (S : MS)  : Option (MS) := elet (S.2.1 11 77) fun v2 => if v2 ≤ 0 then (fr_readFilter_b15 S) else (obind (fr_faults S 3) fun S4 => fr_readFilter_b15 S4)
set_option maxHeartbeats 4000000 in
set_option maxRecDepth 100000 in
theorem tr_readFilter (l : Launch) (D : va_G) (cI cJ cZ : ClassId) (ad : Nat → Nat) (S : MS)  {S1 : MS} (h : fr_readFilter S = some S1) : mCv l yX12_readFilter (Cond.code yX12_readFilter cX12_readFilter 3 none :: wsM) 5 90 D cI cJ cZ ad S [] (fun S9 => S9 = S1) := by
  intro sz
  refine Met.ofW (cc := cX12_readFilter) (maxL := 3) (ret := none) (by decide) rfl ?_
  intro p e s m args below meth c s₁ B hml hv
  obtain ⟨rfl, hsz, hP, hK, hD0, hR⟩ := hv
  have hx := B.exec
  have hb := B.bytes
  have hr := B.returns
  have hts := atoms_spec (ws := (Cond.code yX12_readFilter cX12_readFilter 3 none :: wsM)) B.pre
  have hown : s.vm.findClass RX12 = some m.cls := findClass_of_methodNamed B.named
  have hlocks := B.notSynchronized
  subst hsz
  have hD := hD0.self (sz := s.heap.size)
  generalize hAe : va_A (MW cI cJ cZ ad S) s.heap.size = A at hD ⊢
  have hA : ∀ q : Nat, s.heap.size ≤ q → A q := fun q h => by rw [← hAe]; exact Or.inr h
  have G : mG D cI cJ cZ ad A s.heap s.heap [] S := ⟨hP, hD, va_S.rf⟩
  have E : mE p c cX12_readFilter s m ([.ref (ad 0)] : List Value).toArray (Cond.code yX12_readFilter cX12_readFilter 3 none :: wsM) D cI cJ cZ := ⟨hx, hb, hts, hown, hK, fun w h => .tail _ (iM_x h)⟩
  have hl := lv_entry ([.ref (ad 0)]) (n := 3) (Nat.le_of_ble_eq_true rfl)
  rw [lg_entry_eq]
  generalize (lg_sl ([.ref (ad 0)]) ++ List.replicate (3 - (lg_sl ([.ref (ad 0)])).length) Slot.unset).toArray = ls at hl ⊢
  have hl : lv_has ls 3 [(0, .ref (ad 0))] := hl
  unfold fr_readFilter at h
  refine lv_aload_n hx hb dX12_readFilter_0 rfl (lv_at hl 0 rfl) ?_
  refine m_get E G 11 (v := .ref (ad 11)) (by decide) (.tail _ qM_8) rfl dX12_readFilter_1 rfl ?_
  refine lv_bipush (v := 77) hx hb dX12_readFilter_4 (by decide) ?_
  refine m_iald E G 11 3 (n := 131) (k := 77) rfl rfl (by decide) (by decide) dX12_readFilter_6 ?_
  refine lv_topi (fun v2 ev2 => ?_)
  have h := elet_at ev2 h
  clear ev2
  refine lv_if_le (tgt := 15) hx hb dX12_readFilter_7 (by decide) (fun c3 => ?_) (fun c3 => ?_)
  · have h := oif_pos c3 h
    have hl := lv_sub hl [0] rfl
    exact tr_readFilter_b15 E hA hR hml (fun H locs ls G => W.vret hx hb hr (fun t ht hW => ⟨⟨S1, rfl, rfl, ⟨by rw [ht]; exact G.1, va_K.moved hW.alike hK, G.2.1⟩⟩, G.2.2.F ht⟩) G.2.2.2.2 dX12_readFilter_81) (fun H locs ls G => W.vret hx hb hr (fun t ht hW => ⟨⟨S1, rfl, rfl, ⟨by rw [ht]; exact G.1, va_K.moved hW.alike hK, G.2.1⟩⟩, G.2.2.F ht⟩) G.2.2.2.2 dX12_readFilter_126) _ _ _ _ h G hl
  · have h := oif_neg c3 h
    refine lv_aload_n hx hb dX12_readFilter_10 rfl (lv_at hl 0 rfl) ?_
    refine lv_iconst (v := 3) hx hb dX12_readFilter_11 (by decide) ?_
    obtain ⟨S4, eS4, h⟩ := obind_some h
    refine m_callv (As := [.int 3]) (rest := []) E G hA hR hml (tr_faults l D cI cJ cZ ad S 3 eS4) (cwV 1 hts (gmV qM_118 qM_119 qM_120 qM_35 qM_42) rfl rfl rfl (by decide +kernel) ⟨Nat.le_of_ble_eq_true rfl, Nat.le_of_ble_eq_true rfl⟩) rfl hl.1 rfl (lv_room (Nat.le_of_ble_eq_true rfl)) dX12_readFilter_12 ⟨Nat.zero_le _, Nat.zero_le _⟩ (fun S6 H locs hq G => ?_)
    rw [hq] at G
    clear hq eS4
    have hl := lv_sub hl [0] rfl
    exact tr_readFilter_b15 E hA hR hml (fun H locs ls G => W.vret hx hb hr (fun t ht hW => ⟨⟨S1, rfl, rfl, ⟨by rw [ht]; exact G.1, va_K.moved hW.alike hK, G.2.1⟩⟩, G.2.2.F ht⟩) G.2.2.2.2 dX12_readFilter_81) (fun H locs ls G => W.vret hx hb hr (fun t ht hW => ⟨⟨S1, rfl, rfl, ⟨by rw [ht]; exact G.1, va_K.moved hW.alike hK, G.2.1⟩⟩, G.2.2.F ht⟩) G.2.2.2.2 dX12_readFilter_126) _ _ _ _ h G hl
def fr_readClock_b71  (S : MS)  : Option (MS) := some S
set_option maxHeartbeats 4000000 in
set_option maxRecDepth 100000 in
theorem tr_readClock_b71 {p : Program} {l : Launch} {e : Env} {s : State} {m : MethodId} {args : Array Value} {below : List Frame} {meth : Method} {c : Code} {Q : State → Prop} {D : va_G} {A : Nat → Prop} {H0 : Heap} {cI cJ cZ : ClassId} {ad : Nat → Nat} {S1 : MS} (E : mE p c cX12_readClock s m args (Cond.code yX12_readClock cX12_readClock 3 none :: wsM) D cI cJ cZ) (hA : ∀ q : Nat, H0.size ≤ q → A q) (hR : sR s) (hml : c.maxLocals = 3) (kr71 : ∀ (H : Heap) (locs : List Loc) (ls : Array Slot), mG D cI cJ cZ ad A H0 H locs S1 → W p l e { frames := 4, cells := 0, slots := 0, locals := 67 } s m args below meth c H locs 0 0 Q (F0 m 71 ls [])) : ∀ (S : MS) (H : Heap) (locs : List Loc) (ls : Array Slot), fr_readClock_b71 S = some S1 → mG D cI cJ cZ ad A H0 H locs S → lv_has ls 3 [] → W p l e { frames := 4, cells := 0, slots := 0, locals := 67 } s m args below meth c H locs 0 0 Q (F0 m 71 ls []) := by
  have hx := E.1
  have hb := E.2.1
  have hts := E.2.2.1
  have hown := E.2.2.2.1
  have hK := E.2.2.2.2.1
  intro S H locs ls h G hl
  unfold fr_readClock_b71 at h
  rw [osome1 h] at G
  exact kr71 _ _ _ G
def fr_readClock_b42  (S : MS) (l1 : Int32) : Option (MS) := obind (fr_nextToken S) fun S2 => obind2 (fr_number S2 1 31) fun r8 S5 => elet (S5.1 5) fun v9 => if v9 = 0 then (elet (83 + l1) fun v11 => oif (inb v11 131 = true) <| elet (mf S5 11 (upd (S5.2.1 11) v11.toNatClampNeg r8)) fun S13 => fr_readClock_b71 S13) else (fr_readClock_b71 S5)
set_option maxHeartbeats 4000000 in
set_option maxRecDepth 100000 in
theorem tr_readClock_b42 {p : Program} {l : Launch} {e : Env} {s : State} {m : MethodId} {args : Array Value} {below : List Frame} {meth : Method} {c : Code} {Q : State → Prop} {D : va_G} {A : Nat → Prop} {H0 : Heap} {cI cJ cZ : ClassId} {ad : Nat → Nat} {S1 : MS} (E : mE p c cX12_readClock s m args (Cond.code yX12_readClock cX12_readClock 3 none :: wsM) D cI cJ cZ) (hA : ∀ q : Nat, H0.size ≤ q → A q) (hR : sR s) (hml : c.maxLocals = 3) (kr71 : ∀ (H : Heap) (locs : List Loc) (ls : Array Slot), mG D cI cJ cZ ad A H0 H locs S1 → W p l e { frames := 4, cells := 0, slots := 0, locals := 67 } s m args below meth c H locs 0 0 Q (F0 m 71 ls [])) : ∀ (S : MS) (H : Heap) (locs : List Loc) (ls : Array Slot) (l1 : Int32), fr_readClock_b42 S l1 = some S1 → mG D cI cJ cZ ad A H0 H locs S → lv_has ls 3 [(0, .ref (ad 0)), (1, .int l1)] → W p l e { frames := 4, cells := 0, slots := 0, locals := 67 } s m args below meth c H locs 0 0 Q (F0 m 42 ls []) := by
  have hx := E.1
  have hb := E.2.1
  have hts := E.2.2.1
  have hown := E.2.2.2.1
  have hK := E.2.2.2.2.1
  intro S H locs ls l1 h G hl
  unfold fr_readClock_b42 at h
  refine lv_aload_n hx hb dX12_readClock_42 rfl (lv_at hl 0 rfl) ?_
  obtain ⟨S2, eS2, h⟩ := obind_some h
  refine m_callv (As := []) (rest := []) E G hA hR hml (tr_nextToken l D cI cJ cZ ad S eS2) (cwV 0 hts (gmV qM_111 qM_112 qM_113 qM_35 qM_45) rfl rfl rfl (by decide +kernel) ⟨Nat.le_of_ble_eq_true rfl, Nat.le_of_ble_eq_true rfl⟩) rfl hl.1 rfl (lv_room (Nat.le_of_ble_eq_true rfl)) dX12_readClock_43 ⟨Nat.zero_le _, Nat.zero_le _⟩ (fun S4 H locs hq G => ?_)
  rw [hq] at G
  clear hq eS2
  refine lv_aload_n hx hb dX12_readClock_46 rfl (lv_at hl 0 rfl) ?_
  refine lv_iconst (v := 1) hx hb dX12_readClock_47 (by decide) ?_
  refine lv_bipush (v := 31) hx hb dX12_readClock_48 (by decide) ?_
  obtain ⟨r8, S5, eS5, h⟩ := obind2_some h
  refine m_calli (As := [.int 1, .int 31]) (rest := []) E G hA hR hml (tr_number l D cI cJ cZ ad S2 1 31 eS5) (cwV 2 hts (gmV qM_130 qM_131 qM_132 qM_35 qM_122) rfl rfl rfl (by decide +kernel) ⟨Nat.le_of_ble_eq_true rfl, Nat.le_of_ble_eq_true rfl⟩) rfl hl.1 rfl (lv_room (Nat.le_of_ble_eq_true rfl)) dX12_readClock_50 ⟨Nat.zero_le _, Nat.zero_le _⟩ (fun q6 S7 H locs hq G => ?_)
  obtain ⟨hq1, hq2⟩ := hq
  rw [hq2] at G
  refine lv_to hq1 ?_
  clear hq1 hq2 eS5
  refine lv_istore_n (lv' := [(2, .int r8), (0, .ref (ad 0)), (1, .int l1)]) hx hb dX12_readClock_53 rfl hl (by decide) rfl (fun ls hl => ?_)
  refine lv_aload_n hx hb dX12_readClock_54 rfl (lv_at hl 1 rfl) ?_
  refine m_get E G 5 (v := .int (S5.1 5)) (by decide) (.tail _ qM_38) rfl dX12_readClock_55 rfl ?_
  refine lv_topi (fun v9 ev9 => ?_)
  have h := elet_at ev9 h
  clear ev9
  refine lv_if_ne (tgt := 71) hx hb dX12_readClock_58 (by decide) (fun c10 => ?_) (fun c10 => ?_)
  · have h := oif_neg c10 h
    have hl := lv_sub hl [] rfl
    exact tr_readClock_b71 E hA hR hml kr71 _ _ _ _ h G hl
  · have h := oif_pos c10 h
    refine lv_aload_n hx hb dX12_readClock_61 rfl (lv_at hl 1 rfl) ?_
    refine m_get E G 11 (v := .ref (ad 11)) (by decide) (.tail _ qM_8) rfl dX12_readClock_62 rfl ?_
    refine lv_bipush (v := 83) hx hb dX12_readClock_65 (by decide) ?_
    refine lv_iload_n hx hb dX12_readClock_67 rfl (lv_at hl 2 rfl) ?_
    refine lv_iadd hx hb dX12_readClock_68 ?_
    refine lv_topi (fun v11 ev11 => ?_)
    have h := elet_at ev11 h
    clear ev11
    refine lv_iload_n hx hb dX12_readClock_69 rfl (lv_at hl 0 rfl) ?_
    obtain ⟨g12, h⟩ := oif_some h
    refine m_iast E G 11 3 (k := v11.toNatClampNeg) (v := r8) rfl (fun _ => rfl) (inb_k g12).1 (inb_k g12).2 (by decide) dX12_readClock_70 (fun H locs G => ?_)
    obtain ⟨S13, eS13, h⟩ := elet_some h
    rw [← eS13] at G
    clear eS13
    have hl := lv_sub hl [] rfl
    exact tr_readClock_b71 E hA hR hml kr71 _ _ _ _ h G hl
def fr_readClock (S : MS)  : Option (MS) := obind (fr_nextToken S) fun S2 => elet (S2.2.1 11 4) fun v5 => elet (v5 - 1) fun v6 => obind2 (fr_look S2 0 v6) fun r10 S7 => elet (S7.1 5) fun v11 => if v11 = 0 then (elet (83 + r10) fun v13 => oif (inb v13 131 = true) <| elet (S7.2.1 11 v13.toNatClampNeg) fun v15 => if v15 ≤ 0 then (fr_readClock_b42 S7 r10) else (obind (fr_faults S7 3) fun S17 => fr_readClock_b42 S17 r10)) else (fr_readClock_b42 S7 r10)
set_option maxHeartbeats 4000000 in
set_option maxRecDepth 100000 in
theorem tr_readClock (l : Launch) (D : va_G) (cI cJ cZ : ClassId) (ad : Nat → Nat) (S : MS)  {S1 : MS} (h : fr_readClock S = some S1) : mCv l yX12_readClock (Cond.code yX12_readClock cX12_readClock 3 none :: wsM) 4 67 D cI cJ cZ ad S [] (fun S9 => S9 = S1) := by
  intro sz
  refine Met.ofW (cc := cX12_readClock) (maxL := 3) (ret := none) (by decide) rfl ?_
  intro p e s m args below meth c s₁ B hml hv
  obtain ⟨rfl, hsz, hP, hK, hD0, hR⟩ := hv
  have hx := B.exec
  have hb := B.bytes
  have hr := B.returns
  have hts := atoms_spec (ws := (Cond.code yX12_readClock cX12_readClock 3 none :: wsM)) B.pre
  have hown : s.vm.findClass RX12 = some m.cls := findClass_of_methodNamed B.named
  have hlocks := B.notSynchronized
  subst hsz
  have hD := hD0.self (sz := s.heap.size)
  generalize hAe : va_A (MW cI cJ cZ ad S) s.heap.size = A at hD ⊢
  have hA : ∀ q : Nat, s.heap.size ≤ q → A q := fun q h => by rw [← hAe]; exact Or.inr h
  have G : mG D cI cJ cZ ad A s.heap s.heap [] S := ⟨hP, hD, va_S.rf⟩
  have E : mE p c cX12_readClock s m ([.ref (ad 0)] : List Value).toArray (Cond.code yX12_readClock cX12_readClock 3 none :: wsM) D cI cJ cZ := ⟨hx, hb, hts, hown, hK, fun w h => .tail _ (iM_x h)⟩
  have hl := lv_entry ([.ref (ad 0)]) (n := 3) (Nat.le_of_ble_eq_true rfl)
  rw [lg_entry_eq]
  generalize (lg_sl ([.ref (ad 0)]) ++ List.replicate (3 - (lg_sl ([.ref (ad 0)])).length) Slot.unset).toArray = ls at hl ⊢
  have hl : lv_has ls 3 [(0, .ref (ad 0))] := hl
  unfold fr_readClock at h
  refine lv_aload_n hx hb dX12_readClock_0 rfl (lv_at hl 0 rfl) ?_
  obtain ⟨S2, eS2, h⟩ := obind_some h
  refine m_callv (As := []) (rest := []) E G hA hR hml (tr_nextToken l D cI cJ cZ ad S eS2) (cwV 0 hts (gmV qM_111 qM_112 qM_113 qM_35 qM_45) rfl rfl rfl (by decide +kernel) ⟨Nat.le_of_ble_eq_true rfl, Nat.le_of_ble_eq_true rfl⟩) rfl hl.1 rfl (lv_room (Nat.le_of_ble_eq_true rfl)) dX12_readClock_1 ⟨Nat.zero_le _, Nat.zero_le _⟩ (fun S4 H locs hq G => ?_)
  rw [hq] at G
  clear hq eS2
  refine lv_aload_n hx hb dX12_readClock_4 rfl (lv_at hl 0 rfl) ?_
  refine lv_iconst (v := 0) hx hb dX12_readClock_5 (by decide) ?_
  refine lv_aload_n hx hb dX12_readClock_6 rfl (lv_at hl 0 rfl) ?_
  refine m_get E G 11 (v := .ref (ad 11)) (by decide) (.tail _ qM_8) rfl dX12_readClock_7 rfl ?_
  refine lv_iconst (v := 4) hx hb dX12_readClock_10 (by decide) ?_
  refine m_iald E G 11 3 (n := 131) (k := 4) rfl rfl (by decide) (by decide) dX12_readClock_11 ?_
  refine lv_topi (fun v5 ev5 => ?_)
  have h := elet_at ev5 h
  clear ev5
  refine lv_iconst (v := 1) hx hb dX12_readClock_12 (by decide) ?_
  refine lv_isub hx hb dX12_readClock_13 ?_
  refine lv_topi (fun v6 ev6 => ?_)
  have h := elet_at ev6 h
  clear ev6
  obtain ⟨r10, S7, eS7, h⟩ := obind2_some h
  refine m_calli (As := [.int 0, .int v6]) (rest := []) E G hA hR hml (tr_look l D cI cJ cZ ad S2 0 v6 eS7) (cwV 2 hts (gmV qM_123 qM_124 qM_125 qM_35 qM_121) rfl rfl rfl (by decide +kernel) ⟨Nat.le_of_ble_eq_true rfl, Nat.le_of_ble_eq_true rfl⟩) rfl hl.1 rfl (lv_room (Nat.le_of_ble_eq_true rfl)) dX12_readClock_14 ⟨Nat.zero_le _, Nat.zero_le _⟩ (fun q8 S9 H locs hq G => ?_)
  obtain ⟨hq1, hq2⟩ := hq
  rw [hq2] at G
  refine lv_to hq1 ?_
  clear hq1 hq2 eS7
  refine lv_istore_n (lv' := [(1, .int r10), (0, .ref (ad 0))]) hx hb dX12_readClock_17 rfl hl (by decide) rfl (fun ls hl => ?_)
  refine lv_aload_n hx hb dX12_readClock_18 rfl (lv_at hl 1 rfl) ?_
  refine m_get E G 5 (v := .int (S7.1 5)) (by decide) (.tail _ qM_38) rfl dX12_readClock_19 rfl ?_
  refine lv_topi (fun v11 ev11 => ?_)
  have h := elet_at ev11 h
  clear ev11
  refine lv_if_ne (tgt := 42) hx hb dX12_readClock_22 (by decide) (fun c12 => ?_) (fun c12 => ?_)
  · have h := oif_neg c12 h
    have hl := lv_sub hl [1, 0] rfl
    exact tr_readClock_b42 E hA hR hml (fun H locs ls G => W.vret hx hb hr (fun t ht hW => ⟨⟨S1, rfl, rfl, ⟨by rw [ht]; exact G.1, va_K.moved hW.alike hK, G.2.1⟩⟩, G.2.2.F ht⟩) G.2.2.2.2 dX12_readClock_71) _ _ _ _ _ h G hl
  · have h := oif_pos c12 h
    refine lv_aload_n hx hb dX12_readClock_25 rfl (lv_at hl 1 rfl) ?_
    refine m_get E G 11 (v := .ref (ad 11)) (by decide) (.tail _ qM_8) rfl dX12_readClock_26 rfl ?_
    refine lv_bipush (v := 83) hx hb dX12_readClock_29 (by decide) ?_
    refine lv_iload_n hx hb dX12_readClock_31 rfl (lv_at hl 0 rfl) ?_
    refine lv_iadd hx hb dX12_readClock_32 ?_
    refine lv_topi (fun v13 ev13 => ?_)
    have h := elet_at ev13 h
    clear ev13
    obtain ⟨g14, h⟩ := oif_some h
    refine m_iald E G 11 3 (n := 131) (k := v13.toNatClampNeg) rfl (inb_k g14).1 (inb_k g14).2 (by decide) dX12_readClock_33 ?_
    refine lv_topi (fun v15 ev15 => ?_)
    have h := elet_at ev15 h
    clear ev15
    refine lv_if_le (tgt := 42) hx hb dX12_readClock_34 (by decide) (fun c16 => ?_) (fun c16 => ?_)
    · have h := oif_pos c16 h
      have hl := lv_sub hl [1, 0] rfl
      exact tr_readClock_b42 E hA hR hml (fun H locs ls G => W.vret hx hb hr (fun t ht hW => ⟨⟨S1, rfl, rfl, ⟨by rw [ht]; exact G.1, va_K.moved hW.alike hK, G.2.1⟩⟩, G.2.2.F ht⟩) G.2.2.2.2 dX12_readClock_71) _ _ _ _ _ h G hl
    · have h := oif_neg c16 h
      refine lv_aload_n hx hb dX12_readClock_37 rfl (lv_at hl 1 rfl) ?_
      refine lv_iconst (v := 3) hx hb dX12_readClock_38 (by decide) ?_
      obtain ⟨S17, eS17, h⟩ := obind_some h
      refine m_callv (As := [.int 3]) (rest := []) E G hA hR hml (tr_faults l D cI cJ cZ ad S7 3 eS17) (cwV 1 hts (gmV qM_118 qM_119 qM_120 qM_35 qM_42) rfl rfl rfl (by decide +kernel) ⟨Nat.le_of_ble_eq_true rfl, Nat.le_of_ble_eq_true rfl⟩) rfl hl.1 rfl (lv_room (Nat.le_of_ble_eq_true rfl)) dX12_readClock_39 ⟨Nat.zero_le _, Nat.zero_le _⟩ (fun S19 H locs hq G => ?_)
      rw [hq] at G
      clear hq eS17
      have hl := lv_sub hl [1, 0] rfl
      exact tr_readClock_b42 E hA hR hml (fun H locs ls G => W.vret hx hb hr (fun t ht hW => ⟨⟨S1, rfl, rfl, ⟨by rw [ht]; exact G.1, va_K.moved hW.alike hK, G.2.1⟩⟩, G.2.2.F ht⟩) G.2.2.2.2 dX12_readClock_71) _ _ _ _ _ h G hl
def fr_readShade_b44 (k19 : MS → Option (MS)) (S : MS) (l1 : Int32) : Option (MS) := obind (fr_nextToken S) fun S2 => elet (S2.1 5) fun v5 => if v5 ≤ 0 then (elet (S2.2.1 11 118) fun v7 => elet (119 + v7) fun v8 => oif (inb v8 131 = true) <| elet (mf S2 11 (upd (S2.2.1 11) v8.toNatClampNeg l1)) fun S10 => elet (S10.2.1 11 118) fun v11 => elet (v11 + 1) fun v12 => elet (mf S10 11 (upd (S10.2.1 11) 118 v12)) fun S13 => elet (S13.1 7) fun v14 => if v14 = 3 then (k19 S13) else (some S13)) else (some S2)
set_option maxHeartbeats 4000000 in
set_option maxRecDepth 100000 in
theorem tr_readShade_b44 {p : Program} {l : Launch} {e : Env} {s : State} {m : MethodId} {args : Array Value} {below : List Frame} {meth : Method} {c : Code} {Q : State → Prop} {D : va_G} {A : Nat → Prop} {H0 : Heap} {cI cJ cZ : ClassId} {ad : Nat → Nat} {S1 : MS} (E : mE p c cX12_readShade s m args (Cond.code yX12_readShade cX12_readShade 2 none :: wsM) D cI cJ cZ) (hA : ∀ q : Nat, H0.size ≤ q → A q) (hR : sR s) (hml : c.maxLocals = 2) (kr55 : ∀ (H : Heap) (locs : List Loc) (ls : Array Slot), mG D cI cJ cZ ad A H0 H locs S1 → W p l e { frames := 3, cells := 0, slots := 0, locals := 44 } s m args below meth c H locs 0 0 Q (F0 m 55 ls [])) (kr91 : ∀ (H : Heap) (locs : List Loc) (ls : Array Slot), mG D cI cJ cZ ad A H0 H locs S1 → W p l e { frames := 3, cells := 0, slots := 0, locals := 44 } s m args below meth c H locs 0 0 Q (F0 m 91 ls [])) {k19 : MS → Option (MS)} (hk19 : ∀ (S : MS) (H : Heap) (locs : List Loc) (ls : Array Slot), k19 S = some S1 → mG D cI cJ cZ ad A H0 H locs S → lv_has ls 2 [(0, .ref (ad 0))] → W p l e { frames := 3, cells := 0, slots := 0, locals := 44 } s m args below meth c H locs 0 0 Q (F0 m 19 ls [])) : ∀ (S : MS) (H : Heap) (locs : List Loc) (ls : Array Slot) (l1 : Int32), fr_readShade_b44 k19 S l1 = some S1 → mG D cI cJ cZ ad A H0 H locs S → lv_has ls 2 [(0, .ref (ad 0)), (1, .int l1)] → W p l e { frames := 3, cells := 0, slots := 0, locals := 44 } s m args below meth c H locs 0 0 Q (F0 m 44 ls []) := by
  have hx := E.1
  have hb := E.2.1
  have hts := E.2.2.1
  have hown := E.2.2.2.1
  have hK := E.2.2.2.2.1
  intro S H locs ls l1 h G hl
  unfold fr_readShade_b44 at h
  refine lv_aload_n hx hb dX12_readShade_44 rfl (lv_at hl 0 rfl) ?_
  obtain ⟨S2, eS2, h⟩ := obind_some h
  refine m_callv (As := []) (rest := []) E G hA hR hml (tr_nextToken l D cI cJ cZ ad S eS2) (cwV 0 hts (gmV qM_111 qM_112 qM_113 qM_35 qM_45) rfl rfl rfl (by decide +kernel) ⟨Nat.le_of_ble_eq_true rfl, Nat.le_of_ble_eq_true rfl⟩) rfl hl.1 rfl (lv_room (Nat.le_of_ble_eq_true rfl)) dX12_readShade_45 ⟨Nat.zero_le _, Nat.zero_le _⟩ (fun S4 H locs hq G => ?_)
  rw [hq] at G
  clear hq eS2
  refine lv_aload_n hx hb dX12_readShade_48 rfl (lv_at hl 0 rfl) ?_
  refine m_get E G 5 (v := .int (S2.1 5)) (by decide) (.tail _ qM_38) rfl dX12_readShade_49 rfl ?_
  refine lv_topi (fun v5 ev5 => ?_)
  have h := elet_at ev5 h
  clear ev5
  refine lv_if_le (tgt := 56) hx hb dX12_readShade_52 (by decide) (fun c6 => ?_) (fun c6 => ?_)
  · have h := oif_pos c6 h
    refine lv_aload_n hx hb dX12_readShade_56 rfl (lv_at hl 0 rfl) ?_
    refine m_get E G 11 (v := .ref (ad 11)) (by decide) (.tail _ qM_8) rfl dX12_readShade_57 rfl ?_
    refine lv_bipush (v := 119) hx hb dX12_readShade_60 (by decide) ?_
    refine lv_aload_n hx hb dX12_readShade_62 rfl (lv_at hl 0 rfl) ?_
    refine m_get E G 11 (v := .ref (ad 11)) (by decide) (.tail _ qM_8) rfl dX12_readShade_63 rfl ?_
    refine lv_bipush (v := 118) hx hb dX12_readShade_66 (by decide) ?_
    refine m_iald E G 11 3 (n := 131) (k := 118) rfl rfl (by decide) (by decide) dX12_readShade_68 ?_
    refine lv_topi (fun v7 ev7 => ?_)
    have h := elet_at ev7 h
    clear ev7
    refine lv_iadd hx hb dX12_readShade_69 ?_
    refine lv_topi (fun v8 ev8 => ?_)
    have h := elet_at ev8 h
    clear ev8
    refine lv_iload_n hx hb dX12_readShade_70 rfl (lv_at hl 1 rfl) ?_
    obtain ⟨g9, h⟩ := oif_some h
    refine m_iast E G 11 3 (k := v8.toNatClampNeg) (v := l1) rfl (fun _ => rfl) (inb_k g9).1 (inb_k g9).2 (by decide) dX12_readShade_71 (fun H locs G => ?_)
    obtain ⟨S10, eS10, h⟩ := elet_some h
    rw [← eS10] at G
    clear eS10
    refine lv_aload_n hx hb dX12_readShade_72 rfl (lv_at hl 0 rfl) ?_
    refine m_get E G 11 (v := .ref (ad 11)) (by decide) (.tail _ qM_8) rfl dX12_readShade_73 rfl ?_
    refine lv_bipush (v := 118) hx hb dX12_readShade_76 (by decide) ?_
    refine lv_dup2_11 hx hb dX12_readShade_78 rfl rfl ?_
    refine m_iald E G 11 3 (n := 131) (k := 118) rfl rfl (by decide) (by decide) dX12_readShade_79 ?_
    refine lv_topi (fun v11 ev11 => ?_)
    have h := elet_at ev11 h
    clear ev11
    refine lv_iconst (v := 1) hx hb dX12_readShade_80 (by decide) ?_
    refine lv_iadd hx hb dX12_readShade_81 ?_
    refine lv_topi (fun v12 ev12 => ?_)
    have h := elet_at ev12 h
    clear ev12
    refine m_iast E G 11 3 (k := 118) (v := v12) rfl (fun _ => rfl) rfl (by decide) (by decide) dX12_readShade_82 (fun H locs G => ?_)
    obtain ⟨S13, eS13, h⟩ := elet_some h
    rw [← eS13] at G
    clear eS13
    refine lv_aload_n hx hb dX12_readShade_83 rfl (lv_at hl 0 rfl) ?_
    refine m_get E G 7 (v := .int (S13.1 7)) (by decide) (.tail _ qM_47) rfl dX12_readShade_84 rfl ?_
    refine lv_topi (fun v14 ev14 => ?_)
    have h := elet_at ev14 h
    clear ev14
    refine lv_iconst (v := 3) hx hb dX12_readShade_87 (by decide) ?_
    refine lv_icmp_eq (tgt := 19) hx hb dX12_readShade_88 (by decide) (fun c15 => ?_) (fun c15 => ?_)
    · have h := oif_pos c15 h
      have hl := lv_sub hl [0] rfl
      exact hk19 _ _ _ _ h G hl
    · have h := oif_neg c15 h
      rw [osome1 h] at G
      exact kr91 _ _ _ G
  · have h := oif_neg c6 h
    rw [osome1 h] at G
    exact kr55 _ _ _ G
def fr_readShade_b19  : Nat → MS → Option (MS)
  | 0, _ => none
  | n + 1, S => obind2 (fr_look S 0 9) fun r5 S2 => elet (S2.2.1 11 118) fun v6 => if v6 = 12 then (obind (fr_faults S2 4) fun S8 => fr_readShade_b44 (fr_readShade_b19 n) S8 r5) else (fr_readShade_b44 (fr_readShade_b19 n) S2 r5)
set_option maxHeartbeats 4000000 in
set_option maxRecDepth 100000 in
theorem tr_readShade_b19 {p : Program} {l : Launch} {e : Env} {s : State} {m : MethodId} {args : Array Value} {below : List Frame} {meth : Method} {c : Code} {Q : State → Prop} {D : va_G} {A : Nat → Prop} {H0 : Heap} {cI cJ cZ : ClassId} {ad : Nat → Nat} {S1 : MS} (E : mE p c cX12_readShade s m args (Cond.code yX12_readShade cX12_readShade 2 none :: wsM) D cI cJ cZ) (hA : ∀ q : Nat, H0.size ≤ q → A q) (hR : sR s) (hml : c.maxLocals = 2) (kr55 : ∀ (H : Heap) (locs : List Loc) (ls : Array Slot), mG D cI cJ cZ ad A H0 H locs S1 → W p l e { frames := 3, cells := 0, slots := 0, locals := 44 } s m args below meth c H locs 0 0 Q (F0 m 55 ls [])) (kr91 : ∀ (H : Heap) (locs : List Loc) (ls : Array Slot), mG D cI cJ cZ ad A H0 H locs S1 → W p l e { frames := 3, cells := 0, slots := 0, locals := 44 } s m args below meth c H locs 0 0 Q (F0 m 91 ls [])) : ∀ n : Nat, ∀ (S : MS) (H : Heap) (locs : List Loc) (ls : Array Slot), fr_readShade_b19 n S = some S1 → mG D cI cJ cZ ad A H0 H locs S → lv_has ls 2 [(0, .ref (ad 0))] → W p l e { frames := 3, cells := 0, slots := 0, locals := 44 } s m args below meth c H locs 0 0 Q (F0 m 19 ls []) := by
  have hx := E.1
  have hb := E.2.1
  have hts := E.2.2.1
  have hown := E.2.2.2.1
  have hK := E.2.2.2.2.1
  intro n
  induction n with
  | zero =>
    intro S H locs ls h
    have h : (none : Option (MS)) = some S1 := h
    cases h
  | succ n ih =>
    intro S H locs ls h G hl
    unfold fr_readShade_b19 at h
    refine lv_aload_n hx hb dX12_readShade_19 rfl (lv_at hl 0 rfl) ?_
    refine lv_iconst (v := 0) hx hb dX12_readShade_20 (by decide) ?_
    refine lv_bipush (v := 9) hx hb dX12_readShade_21 (by decide) ?_
    obtain ⟨r5, S2, eS2, h⟩ := obind2_some h
    refine m_calli (As := [.int 0, .int 9]) (rest := []) E G hA hR hml (tr_look l D cI cJ cZ ad S 0 9 eS2) (cwV 2 hts (gmV qM_123 qM_124 qM_125 qM_35 qM_121) rfl rfl rfl (by decide +kernel) ⟨Nat.le_of_ble_eq_true rfl, Nat.le_of_ble_eq_true rfl⟩) rfl hl.1 rfl (lv_room (Nat.le_of_ble_eq_true rfl)) dX12_readShade_23 ⟨Nat.zero_le _, Nat.zero_le _⟩ (fun q3 S4 H locs hq G => ?_)
    obtain ⟨hq1, hq2⟩ := hq
    rw [hq2] at G
    refine lv_to hq1 ?_
    clear hq1 hq2 eS2
    refine lv_istore_n (lv' := [(1, .int r5), (0, .ref (ad 0))]) hx hb dX12_readShade_26 rfl hl (by decide) rfl (fun ls hl => ?_)
    refine lv_aload_n hx hb dX12_readShade_27 rfl (lv_at hl 1 rfl) ?_
    refine m_get E G 11 (v := .ref (ad 11)) (by decide) (.tail _ qM_8) rfl dX12_readShade_28 rfl ?_
    refine lv_bipush (v := 118) hx hb dX12_readShade_31 (by decide) ?_
    refine m_iald E G 11 3 (n := 131) (k := 118) rfl rfl (by decide) (by decide) dX12_readShade_33 ?_
    refine lv_topi (fun v6 ev6 => ?_)
    have h := elet_at ev6 h
    clear ev6
    refine lv_bipush (v := 12) hx hb dX12_readShade_34 (by decide) ?_
    refine lv_icmp_ne (tgt := 44) hx hb dX12_readShade_36 (by decide) (fun c7 => ?_) (fun c7 => ?_)
    · have h := oif_neg c7 h
      have hl := lv_sub hl [1, 0] rfl
      exact tr_readShade_b44 E hA hR hml kr55 kr91 ih _ _ _ _ _ h G hl
    · have h := oif_pos c7 h
      refine lv_aload_n hx hb dX12_readShade_39 rfl (lv_at hl 1 rfl) ?_
      refine lv_iconst (v := 4) hx hb dX12_readShade_40 (by decide) ?_
      obtain ⟨S8, eS8, h⟩ := obind_some h
      refine m_callv (As := [.int 4]) (rest := []) E G hA hR hml (tr_faults l D cI cJ cZ ad S2 4 eS8) (cwV 1 hts (gmV qM_118 qM_119 qM_120 qM_35 qM_42) rfl rfl rfl (by decide +kernel) ⟨Nat.le_of_ble_eq_true rfl, Nat.le_of_ble_eq_true rfl⟩) rfl hl.1 rfl (lv_room (Nat.le_of_ble_eq_true rfl)) dX12_readShade_41 ⟨Nat.zero_le _, Nat.zero_le _⟩ (fun S10 H locs hq G => ?_)
      rw [hq] at G
      clear hq eS8
      have hl := lv_sub hl [1, 0] rfl
      exact tr_readShade_b44 E hA hR hml kr55 kr91 ih _ _ _ _ _ h G hl
def fr_readShade_b15  (S : MS)  : Option (MS) := obind (fr_nextToken S) fun S2 => fr_readShade_b19 16384 S2
set_option maxHeartbeats 4000000 in
set_option maxRecDepth 100000 in
theorem tr_readShade_b15 {p : Program} {l : Launch} {e : Env} {s : State} {m : MethodId} {args : Array Value} {below : List Frame} {meth : Method} {c : Code} {Q : State → Prop} {D : va_G} {A : Nat → Prop} {H0 : Heap} {cI cJ cZ : ClassId} {ad : Nat → Nat} {S1 : MS} (E : mE p c cX12_readShade s m args (Cond.code yX12_readShade cX12_readShade 2 none :: wsM) D cI cJ cZ) (hA : ∀ q : Nat, H0.size ≤ q → A q) (hR : sR s) (hml : c.maxLocals = 2) (kr55 : ∀ (H : Heap) (locs : List Loc) (ls : Array Slot), mG D cI cJ cZ ad A H0 H locs S1 → W p l e { frames := 3, cells := 0, slots := 0, locals := 44 } s m args below meth c H locs 0 0 Q (F0 m 55 ls [])) (kr91 : ∀ (H : Heap) (locs : List Loc) (ls : Array Slot), mG D cI cJ cZ ad A H0 H locs S1 → W p l e { frames := 3, cells := 0, slots := 0, locals := 44 } s m args below meth c H locs 0 0 Q (F0 m 91 ls [])) : ∀ (S : MS) (H : Heap) (locs : List Loc) (ls : Array Slot), fr_readShade_b15 S = some S1 → mG D cI cJ cZ ad A H0 H locs S → lv_has ls 2 [(0, .ref (ad 0))] → W p l e { frames := 3, cells := 0, slots := 0, locals := 44 } s m args below meth c H locs 0 0 Q (F0 m 15 ls []) := by
  have hx := E.1
  have hb := E.2.1
  have hts := E.2.2.1
  have hown := E.2.2.2.1
  have hK := E.2.2.2.2.1
  intro S H locs ls h G hl
  unfold fr_readShade_b15 at h
  refine lv_aload_n hx hb dX12_readShade_15 rfl (lv_at hl 0 rfl) ?_
  obtain ⟨S2, eS2, h⟩ := obind_some h
  refine m_callv (As := []) (rest := []) E G hA hR hml (tr_nextToken l D cI cJ cZ ad S eS2) (cwV 0 hts (gmV qM_111 qM_112 qM_113 qM_35 qM_45) rfl rfl rfl (by decide +kernel) ⟨Nat.le_of_ble_eq_true rfl, Nat.le_of_ble_eq_true rfl⟩) rfl hl.1 rfl (lv_room (Nat.le_of_ble_eq_true rfl)) dX12_readShade_16 ⟨Nat.zero_le _, Nat.zero_le _⟩ (fun S4 H locs hq G => ?_)
  rw [hq] at G
  clear hq eS2
  have hl := lv_sub hl [0] rfl
  exact tr_readShade_b19 E hA hR hml kr55 kr91 _ _ _ _ _ h G hl
def fr_readShade (S : MS)  : Option (MS) := elet (S.2.1 11 118) fun v2 => if v2 ≤ 0 then (fr_readShade_b15 S) else (obind (fr_faults S 3) fun S4 => fr_readShade_b15 S4)
set_option maxHeartbeats 4000000 in
set_option maxRecDepth 100000 in
theorem tr_readShade (l : Launch) (D : va_G) (cI cJ cZ : ClassId) (ad : Nat → Nat) (S : MS)  {S1 : MS} (h : fr_readShade S = some S1) : mCv l yX12_readShade (Cond.code yX12_readShade cX12_readShade 2 none :: wsM) 3 44 D cI cJ cZ ad S [] (fun S9 => S9 = S1) := by
  intro sz
  refine Met.ofW (cc := cX12_readShade) (maxL := 2) (ret := none) (by decide) rfl ?_
  intro p e s m args below meth c s₁ B hml hv
  obtain ⟨rfl, hsz, hP, hK, hD0, hR⟩ := hv
  have hx := B.exec
  have hb := B.bytes
  have hr := B.returns
  have hts := atoms_spec (ws := (Cond.code yX12_readShade cX12_readShade 2 none :: wsM)) B.pre
  have hown : s.vm.findClass RX12 = some m.cls := findClass_of_methodNamed B.named
  have hlocks := B.notSynchronized
  subst hsz
  have hD := hD0.self (sz := s.heap.size)
  generalize hAe : va_A (MW cI cJ cZ ad S) s.heap.size = A at hD ⊢
  have hA : ∀ q : Nat, s.heap.size ≤ q → A q := fun q h => by rw [← hAe]; exact Or.inr h
  have G : mG D cI cJ cZ ad A s.heap s.heap [] S := ⟨hP, hD, va_S.rf⟩
  have E : mE p c cX12_readShade s m ([.ref (ad 0)] : List Value).toArray (Cond.code yX12_readShade cX12_readShade 2 none :: wsM) D cI cJ cZ := ⟨hx, hb, hts, hown, hK, fun w h => .tail _ (iM_x h)⟩
  have hl := lv_entry ([.ref (ad 0)]) (n := 2) (Nat.le_of_ble_eq_true rfl)
  rw [lg_entry_eq]
  generalize (lg_sl ([.ref (ad 0)]) ++ List.replicate (2 - (lg_sl ([.ref (ad 0)])).length) Slot.unset).toArray = ls at hl ⊢
  have hl : lv_has ls 2 [(0, .ref (ad 0))] := hl
  unfold fr_readShade at h
  refine lv_aload_n hx hb dX12_readShade_0 rfl (lv_at hl 0 rfl) ?_
  refine m_get E G 11 (v := .ref (ad 11)) (by decide) (.tail _ qM_8) rfl dX12_readShade_1 rfl ?_
  refine lv_bipush (v := 118) hx hb dX12_readShade_4 (by decide) ?_
  refine m_iald E G 11 3 (n := 131) (k := 118) rfl rfl (by decide) (by decide) dX12_readShade_6 ?_
  refine lv_topi (fun v2 ev2 => ?_)
  have h := elet_at ev2 h
  clear ev2
  refine lv_if_le (tgt := 15) hx hb dX12_readShade_7 (by decide) (fun c3 => ?_) (fun c3 => ?_)
  · have h := oif_pos c3 h
    have hl := lv_sub hl [0] rfl
    exact tr_readShade_b15 E hA hR hml (fun H locs ls G => W.vret hx hb hr (fun t ht hW => ⟨⟨S1, rfl, rfl, ⟨by rw [ht]; exact G.1, va_K.moved hW.alike hK, G.2.1⟩⟩, G.2.2.F ht⟩) G.2.2.2.2 dX12_readShade_55) (fun H locs ls G => W.vret hx hb hr (fun t ht hW => ⟨⟨S1, rfl, rfl, ⟨by rw [ht]; exact G.1, va_K.moved hW.alike hK, G.2.1⟩⟩, G.2.2.F ht⟩) G.2.2.2.2 dX12_readShade_91) _ _ _ _ h G hl
  · have h := oif_neg c3 h
    refine lv_aload_n hx hb dX12_readShade_10 rfl (lv_at hl 0 rfl) ?_
    refine lv_iconst (v := 3) hx hb dX12_readShade_11 (by decide) ?_
    obtain ⟨S4, eS4, h⟩ := obind_some h
    refine m_callv (As := [.int 3]) (rest := []) E G hA hR hml (tr_faults l D cI cJ cZ ad S 3 eS4) (cwV 1 hts (gmV qM_118 qM_119 qM_120 qM_35 qM_42) rfl rfl rfl (by decide +kernel) ⟨Nat.le_of_ble_eq_true rfl, Nat.le_of_ble_eq_true rfl⟩) rfl hl.1 rfl (lv_room (Nat.le_of_ble_eq_true rfl)) dX12_readShade_12 ⟨Nat.zero_le _, Nat.zero_le _⟩ (fun S6 H locs hq G => ?_)
    rw [hq] at G
    clear hq eS4
    have hl := lv_sub hl [0] rfl
    exact tr_readShade_b15 E hA hR hml (fun H locs ls G => W.vret hx hb hr (fun t ht hW => ⟨⟨S1, rfl, rfl, ⟨by rw [ht]; exact G.1, va_K.moved hW.alike hK, G.2.1⟩⟩, G.2.2.F ht⟩) G.2.2.2.2 dX12_readShade_55) (fun H locs ls G => W.vret hx hb hr (fun t ht hW => ⟨⟨S1, rfl, rfl, ⟨by rw [ht]; exact G.1, va_K.moved hW.alike hK, G.2.1⟩⟩, G.2.2.F ht⟩) G.2.2.2.2 dX12_readShade_91) _ _ _ _ h G hl
def fr_readOff_b63  (S : MS)  : Option (MS) := some S
set_option maxHeartbeats 4000000 in
set_option maxRecDepth 100000 in
theorem tr_readOff_b63 {p : Program} {l : Launch} {e : Env} {s : State} {m : MethodId} {args : Array Value} {below : List Frame} {meth : Method} {c : Code} {Q : State → Prop} {D : va_G} {A : Nat → Prop} {H0 : Heap} {cI cJ cZ : ClassId} {ad : Nat → Nat} {S1 : MS} (E : mE p c cX12_readOff s m args (Cond.code yX12_readOff cX12_readOff 2 none :: wsM) D cI cJ cZ) (hA : ∀ q : Nat, H0.size ≤ q → A q) (hR : sR s) (hml : c.maxLocals = 2) (kr63 : ∀ (H : Heap) (locs : List Loc) (ls : Array Slot), mG D cI cJ cZ ad A H0 H locs S1 → W p l e { frames := 3, cells := 0, slots := 0, locals := 44 } s m args below meth c H locs 0 0 Q (F0 m 63 ls [])) : ∀ (S : MS) (H : Heap) (locs : List Loc) (ls : Array Slot), fr_readOff_b63 S = some S1 → mG D cI cJ cZ ad A H0 H locs S → lv_has ls 2 [] → W p l e { frames := 3, cells := 0, slots := 0, locals := 44 } s m args below meth c H locs 0 0 Q (F0 m 63 ls []) := by
  have hx := E.1
  have hb := E.2.1
  have hts := E.2.2.1
  have hown := E.2.2.2.1
  have hK := E.2.2.2.2.1
  intro S H locs ls h G hl
  unfold fr_readOff_b63 at h
  rw [osome1 h] at G
  exact kr63 _ _ _ G
def fr_readOff_b42  (S : MS) (l1 : Int32) : Option (MS) := obind (fr_nextToken S) fun S2 => elet (S2.1 5) fun v5 => if v5 = 0 then (elet (25 + l1) fun v7 => oif (inb v7 2455 = true) <| elet (mf S2 13 (upd (S2.2.1 13) v7.toNatClampNeg 0)) fun S9 => fr_readOff_b63 S9) else (fr_readOff_b63 S2)
set_option maxHeartbeats 4000000 in
set_option maxRecDepth 100000 in
theorem tr_readOff_b42 {p : Program} {l : Launch} {e : Env} {s : State} {m : MethodId} {args : Array Value} {below : List Frame} {meth : Method} {c : Code} {Q : State → Prop} {D : va_G} {A : Nat → Prop} {H0 : Heap} {cI cJ cZ : ClassId} {ad : Nat → Nat} {S1 : MS} (E : mE p c cX12_readOff s m args (Cond.code yX12_readOff cX12_readOff 2 none :: wsM) D cI cJ cZ) (hA : ∀ q : Nat, H0.size ≤ q → A q) (hR : sR s) (hml : c.maxLocals = 2) (kr63 : ∀ (H : Heap) (locs : List Loc) (ls : Array Slot), mG D cI cJ cZ ad A H0 H locs S1 → W p l e { frames := 3, cells := 0, slots := 0, locals := 44 } s m args below meth c H locs 0 0 Q (F0 m 63 ls [])) : ∀ (S : MS) (H : Heap) (locs : List Loc) (ls : Array Slot) (l1 : Int32), fr_readOff_b42 S l1 = some S1 → mG D cI cJ cZ ad A H0 H locs S → lv_has ls 2 [(0, .ref (ad 0)), (1, .int l1)] → W p l e { frames := 3, cells := 0, slots := 0, locals := 44 } s m args below meth c H locs 0 0 Q (F0 m 42 ls []) := by
  have hx := E.1
  have hb := E.2.1
  have hts := E.2.2.1
  have hown := E.2.2.2.1
  have hK := E.2.2.2.2.1
  intro S H locs ls l1 h G hl
  unfold fr_readOff_b42 at h
  refine lv_aload_n hx hb dX12_readOff_42 rfl (lv_at hl 0 rfl) ?_
  obtain ⟨S2, eS2, h⟩ := obind_some h
  refine m_callv (As := []) (rest := []) E G hA hR hml (tr_nextToken l D cI cJ cZ ad S eS2) (cwV 0 hts (gmV qM_111 qM_112 qM_113 qM_35 qM_45) rfl rfl rfl (by decide +kernel) ⟨Nat.le_of_ble_eq_true rfl, Nat.le_of_ble_eq_true rfl⟩) rfl hl.1 rfl (lv_room (Nat.le_of_ble_eq_true rfl)) dX12_readOff_43 ⟨Nat.zero_le _, Nat.zero_le _⟩ (fun S4 H locs hq G => ?_)
  rw [hq] at G
  clear hq eS2
  refine lv_aload_n hx hb dX12_readOff_46 rfl (lv_at hl 0 rfl) ?_
  refine m_get E G 5 (v := .int (S2.1 5)) (by decide) (.tail _ qM_38) rfl dX12_readOff_47 rfl ?_
  refine lv_topi (fun v5 ev5 => ?_)
  have h := elet_at ev5 h
  clear ev5
  refine lv_if_ne (tgt := 63) hx hb dX12_readOff_50 (by decide) (fun c6 => ?_) (fun c6 => ?_)
  · have h := oif_neg c6 h
    have hl := lv_sub hl [] rfl
    exact tr_readOff_b63 E hA hR hml kr63 _ _ _ _ h G hl
  · have h := oif_pos c6 h
    refine lv_aload_n hx hb dX12_readOff_53 rfl (lv_at hl 0 rfl) ?_
    refine m_get E G 13 (v := .ref (ad 13)) (by decide) (.tail _ qM_10) rfl dX12_readOff_54 rfl ?_
    refine lv_bipush (v := 25) hx hb dX12_readOff_57 (by decide) ?_
    refine lv_iload_n hx hb dX12_readOff_59 rfl (lv_at hl 1 rfl) ?_
    refine lv_iadd hx hb dX12_readOff_60 ?_
    refine lv_topi (fun v7 ev7 => ?_)
    have h := elet_at ev7 h
    clear ev7
    refine lv_iconst (v := 0) hx hb dX12_readOff_61 (by decide) ?_
    obtain ⟨g8, h⟩ := oif_some h
    refine m_iast E G 13 5 (k := v7.toNatClampNeg) (v := 0) rfl (fun _ => rfl) (inb_k g8).1 (inb_k g8).2 (by decide) dX12_readOff_62 (fun H locs G => ?_)
    obtain ⟨S9, eS9, h⟩ := elet_some h
    rw [← eS9] at G
    clear eS9
    have hl := lv_sub hl [] rfl
    exact tr_readOff_b63 E hA hR hml kr63 _ _ _ _ h G hl
def fr_readOff (S : MS)  : Option (MS) := obind (fr_nextToken S) fun S2 => elet (S2.2.1 11 5) fun v5 => elet (v5 - 1) fun v6 => obind2 (fr_look S2 0 v6) fun r10 S7 => elet (S7.1 5) fun v11 => if v11 = 0 then (elet (25 + r10) fun v13 => oif (inb v13 2455 = true) <| elet (S7.2.1 13 v13.toNatClampNeg) fun v15 => if v15 = 0 then (obind (fr_faults S7 3) fun S17 => fr_readOff_b42 S17 r10) else (fr_readOff_b42 S7 r10)) else (fr_readOff_b42 S7 r10)
set_option maxHeartbeats 4000000 in
set_option maxRecDepth 100000 in
theorem tr_readOff (l : Launch) (D : va_G) (cI cJ cZ : ClassId) (ad : Nat → Nat) (S : MS)  {S1 : MS} (h : fr_readOff S = some S1) : mCv l yX12_readOff (Cond.code yX12_readOff cX12_readOff 2 none :: wsM) 3 44 D cI cJ cZ ad S [] (fun S9 => S9 = S1) := by
  intro sz
  refine Met.ofW (cc := cX12_readOff) (maxL := 2) (ret := none) (by decide) rfl ?_
  intro p e s m args below meth c s₁ B hml hv
  obtain ⟨rfl, hsz, hP, hK, hD0, hR⟩ := hv
  have hx := B.exec
  have hb := B.bytes
  have hr := B.returns
  have hts := atoms_spec (ws := (Cond.code yX12_readOff cX12_readOff 2 none :: wsM)) B.pre
  have hown : s.vm.findClass RX12 = some m.cls := findClass_of_methodNamed B.named
  have hlocks := B.notSynchronized
  subst hsz
  have hD := hD0.self (sz := s.heap.size)
  generalize hAe : va_A (MW cI cJ cZ ad S) s.heap.size = A at hD ⊢
  have hA : ∀ q : Nat, s.heap.size ≤ q → A q := fun q h => by rw [← hAe]; exact Or.inr h
  have G : mG D cI cJ cZ ad A s.heap s.heap [] S := ⟨hP, hD, va_S.rf⟩
  have E : mE p c cX12_readOff s m ([.ref (ad 0)] : List Value).toArray (Cond.code yX12_readOff cX12_readOff 2 none :: wsM) D cI cJ cZ := ⟨hx, hb, hts, hown, hK, fun w h => .tail _ (iM_x h)⟩
  have hl := lv_entry ([.ref (ad 0)]) (n := 2) (Nat.le_of_ble_eq_true rfl)
  rw [lg_entry_eq]
  generalize (lg_sl ([.ref (ad 0)]) ++ List.replicate (2 - (lg_sl ([.ref (ad 0)])).length) Slot.unset).toArray = ls at hl ⊢
  have hl : lv_has ls 2 [(0, .ref (ad 0))] := hl
  unfold fr_readOff at h
  refine lv_aload_n hx hb dX12_readOff_0 rfl (lv_at hl 0 rfl) ?_
  obtain ⟨S2, eS2, h⟩ := obind_some h
  refine m_callv (As := []) (rest := []) E G hA hR hml (tr_nextToken l D cI cJ cZ ad S eS2) (cwV 0 hts (gmV qM_111 qM_112 qM_113 qM_35 qM_45) rfl rfl rfl (by decide +kernel) ⟨Nat.le_of_ble_eq_true rfl, Nat.le_of_ble_eq_true rfl⟩) rfl hl.1 rfl (lv_room (Nat.le_of_ble_eq_true rfl)) dX12_readOff_1 ⟨Nat.zero_le _, Nat.zero_le _⟩ (fun S4 H locs hq G => ?_)
  rw [hq] at G
  clear hq eS2
  refine lv_aload_n hx hb dX12_readOff_4 rfl (lv_at hl 0 rfl) ?_
  refine lv_iconst (v := 0) hx hb dX12_readOff_5 (by decide) ?_
  refine lv_aload_n hx hb dX12_readOff_6 rfl (lv_at hl 0 rfl) ?_
  refine m_get E G 11 (v := .ref (ad 11)) (by decide) (.tail _ qM_8) rfl dX12_readOff_7 rfl ?_
  refine lv_iconst (v := 5) hx hb dX12_readOff_10 (by decide) ?_
  refine m_iald E G 11 3 (n := 131) (k := 5) rfl rfl (by decide) (by decide) dX12_readOff_11 ?_
  refine lv_topi (fun v5 ev5 => ?_)
  have h := elet_at ev5 h
  clear ev5
  refine lv_iconst (v := 1) hx hb dX12_readOff_12 (by decide) ?_
  refine lv_isub hx hb dX12_readOff_13 ?_
  refine lv_topi (fun v6 ev6 => ?_)
  have h := elet_at ev6 h
  clear ev6
  obtain ⟨r10, S7, eS7, h⟩ := obind2_some h
  refine m_calli (As := [.int 0, .int v6]) (rest := []) E G hA hR hml (tr_look l D cI cJ cZ ad S2 0 v6 eS7) (cwV 2 hts (gmV qM_123 qM_124 qM_125 qM_35 qM_121) rfl rfl rfl (by decide +kernel) ⟨Nat.le_of_ble_eq_true rfl, Nat.le_of_ble_eq_true rfl⟩) rfl hl.1 rfl (lv_room (Nat.le_of_ble_eq_true rfl)) dX12_readOff_14 ⟨Nat.zero_le _, Nat.zero_le _⟩ (fun q8 S9 H locs hq G => ?_)
  obtain ⟨hq1, hq2⟩ := hq
  rw [hq2] at G
  refine lv_to hq1 ?_
  clear hq1 hq2 eS7
  refine lv_istore_n (lv' := [(1, .int r10), (0, .ref (ad 0))]) hx hb dX12_readOff_17 rfl hl (by decide) rfl (fun ls hl => ?_)
  refine lv_aload_n hx hb dX12_readOff_18 rfl (lv_at hl 1 rfl) ?_
  refine m_get E G 5 (v := .int (S7.1 5)) (by decide) (.tail _ qM_38) rfl dX12_readOff_19 rfl ?_
  refine lv_topi (fun v11 ev11 => ?_)
  have h := elet_at ev11 h
  clear ev11
  refine lv_if_ne (tgt := 42) hx hb dX12_readOff_22 (by decide) (fun c12 => ?_) (fun c12 => ?_)
  · have h := oif_neg c12 h
    have hl := lv_sub hl [1, 0] rfl
    exact tr_readOff_b42 E hA hR hml (fun H locs ls G => W.vret hx hb hr (fun t ht hW => ⟨⟨S1, rfl, rfl, ⟨by rw [ht]; exact G.1, va_K.moved hW.alike hK, G.2.1⟩⟩, G.2.2.F ht⟩) G.2.2.2.2 dX12_readOff_63) _ _ _ _ _ h G hl
  · have h := oif_pos c12 h
    refine lv_aload_n hx hb dX12_readOff_25 rfl (lv_at hl 1 rfl) ?_
    refine m_get E G 13 (v := .ref (ad 13)) (by decide) (.tail _ qM_10) rfl dX12_readOff_26 rfl ?_
    refine lv_bipush (v := 25) hx hb dX12_readOff_29 (by decide) ?_
    refine lv_iload_n hx hb dX12_readOff_31 rfl (lv_at hl 0 rfl) ?_
    refine lv_iadd hx hb dX12_readOff_32 ?_
    refine lv_topi (fun v13 ev13 => ?_)
    have h := elet_at ev13 h
    clear ev13
    obtain ⟨g14, h⟩ := oif_some h
    refine m_iald E G 13 5 (n := 2455) (k := v13.toNatClampNeg) rfl (inb_k g14).1 (inb_k g14).2 (by decide) dX12_readOff_33 ?_
    refine lv_topi (fun v15 ev15 => ?_)
    have h := elet_at ev15 h
    clear ev15
    refine lv_if_ne (tgt := 42) hx hb dX12_readOff_34 (by decide) (fun c16 => ?_) (fun c16 => ?_)
    · have h := oif_neg c16 h
      have hl := lv_sub hl [1, 0] rfl
      exact tr_readOff_b42 E hA hR hml (fun H locs ls G => W.vret hx hb hr (fun t ht hW => ⟨⟨S1, rfl, rfl, ⟨by rw [ht]; exact G.1, va_K.moved hW.alike hK, G.2.1⟩⟩, G.2.2.F ht⟩) G.2.2.2.2 dX12_readOff_63) _ _ _ _ _ h G hl
    · have h := oif_pos c16 h
      refine lv_aload_n hx hb dX12_readOff_37 rfl (lv_at hl 1 rfl) ?_
      refine lv_iconst (v := 3) hx hb dX12_readOff_38 (by decide) ?_
      obtain ⟨S17, eS17, h⟩ := obind_some h
      refine m_callv (As := [.int 3]) (rest := []) E G hA hR hml (tr_faults l D cI cJ cZ ad S7 3 eS17) (cwV 1 hts (gmV qM_118 qM_119 qM_120 qM_35 qM_42) rfl rfl rfl (by decide +kernel) ⟨Nat.le_of_ble_eq_true rfl, Nat.le_of_ble_eq_true rfl⟩) rfl hl.1 rfl (lv_room (Nat.le_of_ble_eq_true rfl)) dX12_readOff_39 ⟨Nat.zero_le _, Nat.zero_le _⟩ (fun S19 H locs hq G => ?_)
      rw [hq] at G
      clear hq eS17
      have hl := lv_sub hl [1, 0] rfl
      exact tr_readOff_b42 E hA hR hml (fun H locs ls G => W.vret hx hb hr (fun t ht hW => ⟨⟨S1, rfl, rfl, ⟨by rw [ht]; exact G.1, va_K.moved hW.alike hK, G.2.1⟩⟩, G.2.2.F ht⟩) G.2.2.2.2 dX12_readOff_63) _ _ _ _ _ h G hl
def fr_readZone_b18  (S : MS) (l1 : Int32) : Option (MS) := obind (fr_nextToken S) fun S2 => elet (S2.2.1 11 9) fun v5 => elet (v5 - 1) fun v6 => obind2 (fr_number S2 0 v6) fun r10 S7 => elet (S7.2.1 11 10) fun v11 => elet (v11 - 1) fun v12 => obind2 (fr_number S7 0 v12) fun r16 S13 => elet (S13.2.1 11 9) fun v17 => elet (v17 - 1) fun v18 => obind2 (fr_number S13 r10 v18) fun r22 S19 => elet (S19.2.1 11 10) fun v23 => elet (v23 - 1) fun v24 => obind2 (fr_number S19 r16 v24) fun r28 S25 => elet (S25.1 5) fun v29 => if v29 ≤ 0 then (elet (4 * l1) fun v31 => elet (102 + v31) fun v32 => oif (inb v32 131 = true) <| elet (mf S25 11 (upd (S25.2.1 11) v32.toNatClampNeg r10)) fun S34 => elet (v32 + 1) fun v35 => oif (inb v35 131 = true) <| elet (mf S34 11 (upd (S34.2.1 11) v35.toNatClampNeg r16)) fun S37 => elet (v32 + 2) fun v38 => oif (inb v38 131 = true) <| elet (mf S37 11 (upd (S37.2.1 11) v38.toNatClampNeg r22)) fun S40 => elet (v32 + 3) fun v41 => oif (inb v41 131 = true) <| elet (mf S40 11 (upd (S40.2.1 11) v41.toNatClampNeg r28)) fun S43 => elet (S43.2.1 11 101) fun v44 => elet (v44 + 1) fun v45 => elet (mf S43 11 (upd (S43.2.1 11) 101 v45)) fun S46 => some S46) else (some S25)
set_option maxHeartbeats 4000000 in
set_option maxRecDepth 100000 in
theorem tr_readZone_b18 {p : Program} {l : Launch} {e : Env} {s : State} {m : MethodId} {args : Array Value} {below : List Frame} {meth : Method} {c : Code} {Q : State → Prop} {D : va_G} {A : Nat → Prop} {H0 : Heap} {cI cJ cZ : ClassId} {ad : Nat → Nat} {S1 : MS} (E : mE p c cX12_readZone s m args (Cond.code yX12_readZone cX12_readZone 7 none :: wsM) D cI cJ cZ) (hA : ∀ q : Nat, H0.size ≤ q → A q) (hR : sR s) (hml : c.maxLocals = 7) (kr91 : ∀ (H : Heap) (locs : List Loc) (ls : Array Slot), mG D cI cJ cZ ad A H0 H locs S1 → W p l e { frames := 4, cells := 0, slots := 0, locals := 67 } s m args below meth c H locs 0 0 Q (F0 m 91 ls [])) (kr151 : ∀ (H : Heap) (locs : List Loc) (ls : Array Slot), mG D cI cJ cZ ad A H0 H locs S1 → W p l e { frames := 4, cells := 0, slots := 0, locals := 67 } s m args below meth c H locs 0 0 Q (F0 m 151 ls [])) : ∀ (S : MS) (H : Heap) (locs : List Loc) (ls : Array Slot) (l1 : Int32), fr_readZone_b18 S l1 = some S1 → mG D cI cJ cZ ad A H0 H locs S → lv_has ls 7 [(0, .ref (ad 0)), (1, .int l1)] → W p l e { frames := 4, cells := 0, slots := 0, locals := 67 } s m args below meth c H locs 0 0 Q (F0 m 18 ls []) := by
  have hx := E.1
  have hb := E.2.1
  have hts := E.2.2.1
  have hown := E.2.2.2.1
  have hK := E.2.2.2.2.1
  intro S H locs ls l1 h G hl
  unfold fr_readZone_b18 at h
  refine lv_aload_n hx hb dX12_readZone_18 rfl (lv_at hl 0 rfl) ?_
  obtain ⟨S2, eS2, h⟩ := obind_some h
  refine m_callv (As := []) (rest := []) E G hA hR hml (tr_nextToken l D cI cJ cZ ad S eS2) (cwV 0 hts (gmV qM_111 qM_112 qM_113 qM_35 qM_45) rfl rfl rfl (by decide +kernel) ⟨Nat.le_of_ble_eq_true rfl, Nat.le_of_ble_eq_true rfl⟩) rfl hl.1 rfl (lv_room (Nat.le_of_ble_eq_true rfl)) dX12_readZone_19 ⟨Nat.zero_le _, Nat.zero_le _⟩ (fun S4 H locs hq G => ?_)
  rw [hq] at G
  clear hq eS2
  refine lv_aload_n hx hb dX12_readZone_22 rfl (lv_at hl 0 rfl) ?_
  refine lv_iconst (v := 0) hx hb dX12_readZone_23 (by decide) ?_
  refine lv_aload_n hx hb dX12_readZone_24 rfl (lv_at hl 0 rfl) ?_
  refine m_get E G 11 (v := .ref (ad 11)) (by decide) (.tail _ qM_8) rfl dX12_readZone_25 rfl ?_
  refine lv_bipush (v := 9) hx hb dX12_readZone_28 (by decide) ?_
  refine m_iald E G 11 3 (n := 131) (k := 9) rfl rfl (by decide) (by decide) dX12_readZone_30 ?_
  refine lv_topi (fun v5 ev5 => ?_)
  have h := elet_at ev5 h
  clear ev5
  refine lv_iconst (v := 1) hx hb dX12_readZone_31 (by decide) ?_
  refine lv_isub hx hb dX12_readZone_32 ?_
  refine lv_topi (fun v6 ev6 => ?_)
  have h := elet_at ev6 h
  clear ev6
  obtain ⟨r10, S7, eS7, h⟩ := obind2_some h
  refine m_calli (As := [.int 0, .int v6]) (rest := []) E G hA hR hml (tr_number l D cI cJ cZ ad S2 0 v6 eS7) (cwV 2 hts (gmV qM_130 qM_131 qM_132 qM_35 qM_122) rfl rfl rfl (by decide +kernel) ⟨Nat.le_of_ble_eq_true rfl, Nat.le_of_ble_eq_true rfl⟩) rfl hl.1 rfl (lv_room (Nat.le_of_ble_eq_true rfl)) dX12_readZone_33 ⟨Nat.zero_le _, Nat.zero_le _⟩ (fun q8 S9 H locs hq G => ?_)
  obtain ⟨hq1, hq2⟩ := hq
  rw [hq2] at G
  refine lv_to hq1 ?_
  clear hq1 hq2 eS7
  refine lv_istore_n (lv' := [(2, .int r10), (0, .ref (ad 0)), (1, .int l1)]) hx hb dX12_readZone_36 rfl hl (by decide) rfl (fun ls hl => ?_)
  refine lv_aload_n hx hb dX12_readZone_37 rfl (lv_at hl 1 rfl) ?_
  refine lv_iconst (v := 0) hx hb dX12_readZone_38 (by decide) ?_
  refine lv_aload_n hx hb dX12_readZone_39 rfl (lv_at hl 1 rfl) ?_
  refine m_get E G 11 (v := .ref (ad 11)) (by decide) (.tail _ qM_8) rfl dX12_readZone_40 rfl ?_
  refine lv_bipush (v := 10) hx hb dX12_readZone_43 (by decide) ?_
  refine m_iald E G 11 3 (n := 131) (k := 10) rfl rfl (by decide) (by decide) dX12_readZone_45 ?_
  refine lv_topi (fun v11 ev11 => ?_)
  have h := elet_at ev11 h
  clear ev11
  refine lv_iconst (v := 1) hx hb dX12_readZone_46 (by decide) ?_
  refine lv_isub hx hb dX12_readZone_47 ?_
  refine lv_topi (fun v12 ev12 => ?_)
  have h := elet_at ev12 h
  clear ev12
  obtain ⟨r16, S13, eS13, h⟩ := obind2_some h
  refine m_calli (As := [.int 0, .int v12]) (rest := []) E G hA hR hml (tr_number l D cI cJ cZ ad S7 0 v12 eS13) (cwV 2 hts (gmV qM_130 qM_131 qM_132 qM_35 qM_122) rfl rfl rfl (by decide +kernel) ⟨Nat.le_of_ble_eq_true rfl, Nat.le_of_ble_eq_true rfl⟩) rfl hl.1 rfl (lv_room (Nat.le_of_ble_eq_true rfl)) dX12_readZone_48 ⟨Nat.zero_le _, Nat.zero_le _⟩ (fun q14 S15 H locs hq G => ?_)
  obtain ⟨hq1, hq2⟩ := hq
  rw [hq2] at G
  refine lv_to hq1 ?_
  clear hq1 hq2 eS13
  refine lv_istore_n (lv' := [(3, .int r16), (2, .int r10), (0, .ref (ad 0)), (1, .int l1)]) hx hb dX12_readZone_51 rfl hl (by decide) rfl (fun ls hl => ?_)
  refine lv_aload_n hx hb dX12_readZone_52 rfl (lv_at hl 2 rfl) ?_
  refine lv_iload_n hx hb dX12_readZone_53 rfl (lv_at hl 1 rfl) ?_
  refine lv_aload_n hx hb dX12_readZone_54 rfl (lv_at hl 2 rfl) ?_
  refine m_get E G 11 (v := .ref (ad 11)) (by decide) (.tail _ qM_8) rfl dX12_readZone_55 rfl ?_
  refine lv_bipush (v := 9) hx hb dX12_readZone_58 (by decide) ?_
  refine m_iald E G 11 3 (n := 131) (k := 9) rfl rfl (by decide) (by decide) dX12_readZone_60 ?_
  refine lv_topi (fun v17 ev17 => ?_)
  have h := elet_at ev17 h
  clear ev17
  refine lv_iconst (v := 1) hx hb dX12_readZone_61 (by decide) ?_
  refine lv_isub hx hb dX12_readZone_62 ?_
  refine lv_topi (fun v18 ev18 => ?_)
  have h := elet_at ev18 h
  clear ev18
  obtain ⟨r22, S19, eS19, h⟩ := obind2_some h
  refine m_calli (As := [.int r10, .int v18]) (rest := []) E G hA hR hml (tr_number l D cI cJ cZ ad S13 r10 v18 eS19) (cwV 2 hts (gmV qM_130 qM_131 qM_132 qM_35 qM_122) rfl rfl rfl (by decide +kernel) ⟨Nat.le_of_ble_eq_true rfl, Nat.le_of_ble_eq_true rfl⟩) rfl hl.1 rfl (lv_room (Nat.le_of_ble_eq_true rfl)) dX12_readZone_63 ⟨Nat.zero_le _, Nat.zero_le _⟩ (fun q20 S21 H locs hq G => ?_)
  obtain ⟨hq1, hq2⟩ := hq
  rw [hq2] at G
  refine lv_to hq1 ?_
  clear hq1 hq2 eS19
  refine lv_istore (lv' := [(4, .int r22), (3, .int r16), (2, .int r10), (0, .ref (ad 0)), (1, .int l1)]) hx hb dX12_readZone_66 hl (by decide) rfl (fun ls hl => ?_)
  refine lv_aload_n hx hb dX12_readZone_68 rfl (lv_at hl 3 rfl) ?_
  refine lv_iload_n hx hb dX12_readZone_69 rfl (lv_at hl 1 rfl) ?_
  refine lv_aload_n hx hb dX12_readZone_70 rfl (lv_at hl 3 rfl) ?_
  refine m_get E G 11 (v := .ref (ad 11)) (by decide) (.tail _ qM_8) rfl dX12_readZone_71 rfl ?_
  refine lv_bipush (v := 10) hx hb dX12_readZone_74 (by decide) ?_
  refine m_iald E G 11 3 (n := 131) (k := 10) rfl rfl (by decide) (by decide) dX12_readZone_76 ?_
  refine lv_topi (fun v23 ev23 => ?_)
  have h := elet_at ev23 h
  clear ev23
  refine lv_iconst (v := 1) hx hb dX12_readZone_77 (by decide) ?_
  refine lv_isub hx hb dX12_readZone_78 ?_
  refine lv_topi (fun v24 ev24 => ?_)
  have h := elet_at ev24 h
  clear ev24
  obtain ⟨r28, S25, eS25, h⟩ := obind2_some h
  refine m_calli (As := [.int r16, .int v24]) (rest := []) E G hA hR hml (tr_number l D cI cJ cZ ad S19 r16 v24 eS25) (cwV 2 hts (gmV qM_130 qM_131 qM_132 qM_35 qM_122) rfl rfl rfl (by decide +kernel) ⟨Nat.le_of_ble_eq_true rfl, Nat.le_of_ble_eq_true rfl⟩) rfl hl.1 rfl (lv_room (Nat.le_of_ble_eq_true rfl)) dX12_readZone_79 ⟨Nat.zero_le _, Nat.zero_le _⟩ (fun q26 S27 H locs hq G => ?_)
  obtain ⟨hq1, hq2⟩ := hq
  rw [hq2] at G
  refine lv_to hq1 ?_
  clear hq1 hq2 eS25
  refine lv_istore (lv' := [(5, .int r28), (4, .int r22), (3, .int r16), (2, .int r10), (0, .ref (ad 0)), (1, .int l1)]) hx hb dX12_readZone_82 hl (by decide) rfl (fun ls hl => ?_)
  refine lv_aload_n hx hb dX12_readZone_84 rfl (lv_at hl 4 rfl) ?_
  refine m_get E G 5 (v := .int (S25.1 5)) (by decide) (.tail _ qM_38) rfl dX12_readZone_85 rfl ?_
  refine lv_topi (fun v29 ev29 => ?_)
  have h := elet_at ev29 h
  clear ev29
  refine lv_if_le (tgt := 92) hx hb dX12_readZone_88 (by decide) (fun c30 => ?_) (fun c30 => ?_)
  · have h := oif_pos c30 h
    refine lv_bipush (v := 102) hx hb dX12_readZone_92 (by decide) ?_
    refine lv_iconst (v := 4) hx hb dX12_readZone_94 (by decide) ?_
    refine lv_iload_n hx hb dX12_readZone_95 rfl (lv_at hl 5 rfl) ?_
    refine lv_imul hx hb dX12_readZone_96 ?_
    refine lv_topi (fun v31 ev31 => ?_)
    have h := elet_at ev31 h
    clear ev31
    refine lv_iadd hx hb dX12_readZone_97 ?_
    refine lv_topi (fun v32 ev32 => ?_)
    have h := elet_at ev32 h
    clear ev32
    refine lv_istore (lv' := [(6, .int v32), (5, .int r28), (4, .int r22), (3, .int r16), (2, .int r10), (0, .ref (ad 0)), (1, .int l1)]) hx hb dX12_readZone_98 hl (by decide) rfl (fun ls hl => ?_)
    refine lv_aload_n hx hb dX12_readZone_100 rfl (lv_at hl 5 rfl) ?_
    refine m_get E G 11 (v := .ref (ad 11)) (by decide) (.tail _ qM_8) rfl dX12_readZone_101 rfl ?_
    refine lv_iload hx hb dX12_readZone_104 (lv_at hl 0 rfl) ?_
    refine lv_iload_n hx hb dX12_readZone_106 rfl (lv_at hl 4 rfl) ?_
    obtain ⟨g33, h⟩ := oif_some h
    refine m_iast E G 11 3 (k := v32.toNatClampNeg) (v := r10) rfl (fun _ => rfl) (inb_k g33).1 (inb_k g33).2 (by decide) dX12_readZone_107 (fun H locs G => ?_)
    obtain ⟨S34, eS34, h⟩ := elet_some h
    rw [← eS34] at G
    clear eS34
    refine lv_aload_n hx hb dX12_readZone_108 rfl (lv_at hl 5 rfl) ?_
    refine m_get E G 11 (v := .ref (ad 11)) (by decide) (.tail _ qM_8) rfl dX12_readZone_109 rfl ?_
    refine lv_iload hx hb dX12_readZone_112 (lv_at hl 0 rfl) ?_
    refine lv_iconst (v := 1) hx hb dX12_readZone_114 (by decide) ?_
    refine lv_iadd hx hb dX12_readZone_115 ?_
    refine lv_topi (fun v35 ev35 => ?_)
    have h := elet_at ev35 h
    clear ev35
    refine lv_iload_n hx hb dX12_readZone_116 rfl (lv_at hl 3 rfl) ?_
    obtain ⟨g36, h⟩ := oif_some h
    refine m_iast E G 11 3 (k := v35.toNatClampNeg) (v := r16) rfl (fun _ => rfl) (inb_k g36).1 (inb_k g36).2 (by decide) dX12_readZone_117 (fun H locs G => ?_)
    obtain ⟨S37, eS37, h⟩ := elet_some h
    rw [← eS37] at G
    clear eS37
    refine lv_aload_n hx hb dX12_readZone_118 rfl (lv_at hl 5 rfl) ?_
    refine m_get E G 11 (v := .ref (ad 11)) (by decide) (.tail _ qM_8) rfl dX12_readZone_119 rfl ?_
    refine lv_iload hx hb dX12_readZone_122 (lv_at hl 0 rfl) ?_
    refine lv_iconst (v := 2) hx hb dX12_readZone_124 (by decide) ?_
    refine lv_iadd hx hb dX12_readZone_125 ?_
    refine lv_topi (fun v38 ev38 => ?_)
    have h := elet_at ev38 h
    clear ev38
    refine lv_iload hx hb dX12_readZone_126 (lv_at hl 2 rfl) ?_
    obtain ⟨g39, h⟩ := oif_some h
    refine m_iast E G 11 3 (k := v38.toNatClampNeg) (v := r22) rfl (fun _ => rfl) (inb_k g39).1 (inb_k g39).2 (by decide) dX12_readZone_128 (fun H locs G => ?_)
    obtain ⟨S40, eS40, h⟩ := elet_some h
    rw [← eS40] at G
    clear eS40
    refine lv_aload_n hx hb dX12_readZone_129 rfl (lv_at hl 5 rfl) ?_
    refine m_get E G 11 (v := .ref (ad 11)) (by decide) (.tail _ qM_8) rfl dX12_readZone_130 rfl ?_
    refine lv_iload hx hb dX12_readZone_133 (lv_at hl 0 rfl) ?_
    refine lv_iconst (v := 3) hx hb dX12_readZone_135 (by decide) ?_
    refine lv_iadd hx hb dX12_readZone_136 ?_
    refine lv_topi (fun v41 ev41 => ?_)
    have h := elet_at ev41 h
    clear ev41
    refine lv_iload hx hb dX12_readZone_137 (lv_at hl 1 rfl) ?_
    obtain ⟨g42, h⟩ := oif_some h
    refine m_iast E G 11 3 (k := v41.toNatClampNeg) (v := r28) rfl (fun _ => rfl) (inb_k g42).1 (inb_k g42).2 (by decide) dX12_readZone_139 (fun H locs G => ?_)
    obtain ⟨S43, eS43, h⟩ := elet_some h
    rw [← eS43] at G
    clear eS43
    refine lv_aload_n hx hb dX12_readZone_140 rfl (lv_at hl 5 rfl) ?_
    refine m_get E G 11 (v := .ref (ad 11)) (by decide) (.tail _ qM_8) rfl dX12_readZone_141 rfl ?_
    refine lv_bipush (v := 101) hx hb dX12_readZone_144 (by decide) ?_
    refine lv_dup2_11 hx hb dX12_readZone_146 rfl rfl ?_
    refine m_iald E G 11 3 (n := 131) (k := 101) rfl rfl (by decide) (by decide) dX12_readZone_147 ?_
    refine lv_topi (fun v44 ev44 => ?_)
    have h := elet_at ev44 h
    clear ev44
    refine lv_iconst (v := 1) hx hb dX12_readZone_148 (by decide) ?_
    refine lv_iadd hx hb dX12_readZone_149 ?_
    refine lv_topi (fun v45 ev45 => ?_)
    have h := elet_at ev45 h
    clear ev45
    refine m_iast E G 11 3 (k := 101) (v := v45) rfl (fun _ => rfl) rfl (by decide) (by decide) dX12_readZone_150 (fun H locs G => ?_)
    obtain ⟨S46, eS46, h⟩ := elet_some h
    rw [← eS46] at G
    clear eS46
    rw [osome1 h] at G
    exact kr151 _ _ _ G
  · have h := oif_neg c30 h
    rw [osome1 h] at G
    exact kr91 _ _ _ G
def fr_readZone (S : MS)  : Option (MS) := elet (S.2.1 11 101) fun v2 => if v2 = 4 then (obind (fr_faults S 4) fun S4 => fr_readZone_b18 S4 v2) else (fr_readZone_b18 S v2)
set_option maxHeartbeats 4000000 in
set_option maxRecDepth 100000 in
theorem tr_readZone (l : Launch) (D : va_G) (cI cJ cZ : ClassId) (ad : Nat → Nat) (S : MS)  {S1 : MS} (h : fr_readZone S = some S1) : mCv l yX12_readZone (Cond.code yX12_readZone cX12_readZone 7 none :: wsM) 4 67 D cI cJ cZ ad S [] (fun S9 => S9 = S1) := by
  intro sz
  refine Met.ofW (cc := cX12_readZone) (maxL := 7) (ret := none) (by decide) rfl ?_
  intro p e s m args below meth c s₁ B hml hv
  obtain ⟨rfl, hsz, hP, hK, hD0, hR⟩ := hv
  have hx := B.exec
  have hb := B.bytes
  have hr := B.returns
  have hts := atoms_spec (ws := (Cond.code yX12_readZone cX12_readZone 7 none :: wsM)) B.pre
  have hown : s.vm.findClass RX12 = some m.cls := findClass_of_methodNamed B.named
  have hlocks := B.notSynchronized
  subst hsz
  have hD := hD0.self (sz := s.heap.size)
  generalize hAe : va_A (MW cI cJ cZ ad S) s.heap.size = A at hD ⊢
  have hA : ∀ q : Nat, s.heap.size ≤ q → A q := fun q h => by rw [← hAe]; exact Or.inr h
  have G : mG D cI cJ cZ ad A s.heap s.heap [] S := ⟨hP, hD, va_S.rf⟩
  have E : mE p c cX12_readZone s m ([.ref (ad 0)] : List Value).toArray (Cond.code yX12_readZone cX12_readZone 7 none :: wsM) D cI cJ cZ := ⟨hx, hb, hts, hown, hK, fun w h => .tail _ (iM_x h)⟩
  have hl := lv_entry ([.ref (ad 0)]) (n := 7) (Nat.le_of_ble_eq_true rfl)
  rw [lg_entry_eq]
  generalize (lg_sl ([.ref (ad 0)]) ++ List.replicate (7 - (lg_sl ([.ref (ad 0)])).length) Slot.unset).toArray = ls at hl ⊢
  have hl : lv_has ls 7 [(0, .ref (ad 0))] := hl
  unfold fr_readZone at h
  refine lv_aload_n hx hb dX12_readZone_0 rfl (lv_at hl 0 rfl) ?_
  refine m_get E G 11 (v := .ref (ad 11)) (by decide) (.tail _ qM_8) rfl dX12_readZone_1 rfl ?_
  refine lv_bipush (v := 101) hx hb dX12_readZone_4 (by decide) ?_
  refine m_iald E G 11 3 (n := 131) (k := 101) rfl rfl (by decide) (by decide) dX12_readZone_6 ?_
  refine lv_topi (fun v2 ev2 => ?_)
  have h := elet_at ev2 h
  clear ev2
  refine lv_istore_n (lv' := [(1, .int v2), (0, .ref (ad 0))]) hx hb dX12_readZone_7 rfl hl (by decide) rfl (fun ls hl => ?_)
  refine lv_iload_n hx hb dX12_readZone_8 rfl (lv_at hl 0 rfl) ?_
  refine lv_iconst (v := 4) hx hb dX12_readZone_9 (by decide) ?_
  refine lv_icmp_ne (tgt := 18) hx hb dX12_readZone_10 (by decide) (fun c3 => ?_) (fun c3 => ?_)
  · have h := oif_neg c3 h
    have hl := lv_sub hl [1, 0] rfl
    exact tr_readZone_b18 E hA hR hml (fun H locs ls G => W.vret hx hb hr (fun t ht hW => ⟨⟨S1, rfl, rfl, ⟨by rw [ht]; exact G.1, va_K.moved hW.alike hK, G.2.1⟩⟩, G.2.2.F ht⟩) G.2.2.2.2 dX12_readZone_91) (fun H locs ls G => W.vret hx hb hr (fun t ht hW => ⟨⟨S1, rfl, rfl, ⟨by rw [ht]; exact G.1, va_K.moved hW.alike hK, G.2.1⟩⟩, G.2.2.F ht⟩) G.2.2.2.2 dX12_readZone_151) _ _ _ _ _ h G hl
  · have h := oif_pos c3 h
    refine lv_aload_n hx hb dX12_readZone_13 rfl (lv_at hl 1 rfl) ?_
    refine lv_iconst (v := 4) hx hb dX12_readZone_14 (by decide) ?_
    obtain ⟨S4, eS4, h⟩ := obind_some h
    refine m_callv (As := [.int 4]) (rest := []) E G hA hR hml (tr_faults l D cI cJ cZ ad S 4 eS4) (cwV 1 hts (gmV qM_118 qM_119 qM_120 qM_35 qM_42) rfl rfl rfl (by decide +kernel) ⟨Nat.le_of_ble_eq_true rfl, Nat.le_of_ble_eq_true rfl⟩) rfl hl.1 rfl (lv_room (Nat.le_of_ble_eq_true rfl)) dX12_readZone_15 ⟨Nat.zero_le _, Nat.zero_le _⟩ (fun S6 H locs hq G => ?_)
    rw [hq] at G
    clear hq eS4
    have hl := lv_sub hl [1, 0] rfl
    exact tr_readZone_b18 E hA hR hml (fun H locs ls G => W.vret hx hb hr (fun t ht hW => ⟨⟨S1, rfl, rfl, ⟨by rw [ht]; exact G.1, va_K.moved hW.alike hK, G.2.1⟩⟩, G.2.2.F ht⟩) G.2.2.2.2 dX12_readZone_91) (fun H locs ls G => W.vret hx hb hr (fun t ht hW => ⟨⟨S1, rfl, rfl, ⟨by rw [ht]; exact G.1, va_K.moved hW.alike hK, G.2.1⟩⟩, G.2.2.F ht⟩) G.2.2.2.2 dX12_readZone_151) _ _ _ _ _ h G hl
def fr_readLine_b165  (S : MS)  : Option (MS) := some S
set_option maxHeartbeats 4000000 in
set_option maxRecDepth 100000 in
theorem tr_readLine_b165 {p : Program} {l : Launch} {e : Env} {s : State} {m : MethodId} {args : Array Value} {below : List Frame} {meth : Method} {c : Code} {Q : State → Prop} {D : va_G} {A : Nat → Prop} {cI cJ cZ : ClassId} {ad : Nat → Nat} {S1 : MS} (E : mE p c cX12_readLine s m args (Cond.code yX12_readLine cX12_readLine 1 none :: wsM) D cI cJ cZ) (hA : ∀ q : Nat, s.heap.size ≤ q → A q) (hR : sR s) (hml : c.maxLocals = 1) {h0 : Nat} (hA0 : ∀ a : Nat, A a → h0 ≤ a) (hT : sAll h0 s) (kr165 : ∀ (H : Heap) (locs : List Loc) (ls : Array Slot), mG D cI cJ cZ ad A s.heap H locs S1 → W p l e { frames := 8, cells := 0, slots := 0, locals := 161 } s m args below meth c H locs 0 0 Q (F0 m 165 ls [])) : ∀ (S : MS) (H : Heap) (locs : List Loc) (ls : Array Slot), fr_readLine_b165 S = some S1 → mG D cI cJ cZ ad A s.heap H locs S → lv_has ls 1 [] → W p l e { frames := 8, cells := 0, slots := 0, locals := 161 } s m args below meth c H locs 0 0 Q (F0 m 165 ls []) := by
  have hx := E.1
  have hb := E.2.1
  have hts := E.2.2.1
  have hown := E.2.2.2.1
  have hK := E.2.2.2.2.1
  intro S H locs ls h G hl
  unfold fr_readLine_b165 at h
  rw [osome1 h] at G
  exact kr165 _ _ _ G
def fr_readLine (S : MS)  : Option (MS) := obind2 (fr_isWord S (sTx "wall")) fun r6 S3 => if r6 = 0 then (obind2 (fr_isWord S3 (sTx "fade")) fun r12 S9 => if r12 = 0 then (obind2 (fr_isWord S9 (sTx "filter")) fun r18 S15 => if r18 = 0 then (obind2 (fr_isWord S15 (sTx "clock")) fun r24 S21 => if r24 = 0 then (obind2 (fr_isWord S21 (sTx "zone")) fun r30 S27 => if r30 = 0 then (obind2 (fr_isWord S27 (sTx "shade")) fun r36 S33 => if r36 = 0 then (obind2 (fr_isWord S33 (sTx "off")) fun r42 S39 => if r42 = 0 then (obind2 (fr_isWord S39 (sTx "mic")) fun r48 S45 => if r48 = 0 then (obind2 (fr_isWord S45 (sTx "map")) fun r54 S51 => if r54 = 0 then (obind2 (fr_isWord S51 (sTx "source")) fun r60 S57 => if r60 = 0 then (obind (fr_faults S57 1) fun S62 => fr_readLine_b165 S62) else (obind (fr_readSource S57) fun S65 => fr_readLine_b165 S65)) else (obind (fr_readMap S51) fun S68 => fr_readLine_b165 S68)) else (obind (fr_readMic S45) fun S71 => fr_readLine_b165 S71)) else (obind (fr_readOff S39) fun S74 => fr_readLine_b165 S74)) else (obind (fr_readShade S33) fun S77 => fr_readLine_b165 S77)) else (obind (fr_readZone S27) fun S80 => fr_readLine_b165 S80)) else (obind (fr_readClock S21) fun S83 => fr_readLine_b165 S83)) else (obind (fr_readFilter S15) fun S86 => fr_readLine_b165 S86)) else (obind (fr_readFade S9) fun S89 => fr_readLine_b165 S89)) else (obind (fr_readWall S3) fun S92 => fr_readLine_b165 S92)
set_option maxHeartbeats 4000000 in
set_option maxRecDepth 100000 in
theorem tr_readLine (l : Launch) (D : va_G) (cI cJ cZ : ClassId) (ad : Nat → Nat) (S : MS) (h0 : Nat)  {S1 : MS} (h : fr_readLine S = some S1) : mCvX l yX12_readLine (Cond.code yX12_readLine cX12_readLine 1 none :: wsM) 8 161 D cI cJ cZ ad S [] (xT0 cI cJ cZ h0 ad S) (fun S9 => S9 = S1) := by
  intro sz
  refine Met.ofW (cc := cX12_readLine) (maxL := 1) (ret := none) (by decide) rfl ?_
  intro p e s m args below meth c s₁ B hml hv
  obtain ⟨rfl, ⟨hsz, hP, hK, hD0, hR⟩, hA1, hT⟩ := hv
  have hx := B.exec
  have hb := B.bytes
  have hr := B.returns
  have hts := atoms_spec (ws := (Cond.code yX12_readLine cX12_readLine 1 none :: wsM)) B.pre
  have hown : s.vm.findClass RX12 = some m.cls := findClass_of_methodNamed B.named
  have hlocks := B.notSynchronized
  subst hsz
  have hD := hD0.self (sz := s.heap.size)
  generalize hAe : va_A (MW cI cJ cZ ad S) s.heap.size = A at hD hA1 ⊢
  have hA : ∀ q : Nat, s.heap.size ≤ q → A q := fun q h => by rw [← hAe]; exact Or.inr h
  have G : mG D cI cJ cZ ad A s.heap s.heap [] S := ⟨hP, hD, va_S.rf⟩
  have E : mE p c cX12_readLine s m ([.ref (ad 0)] : List Value).toArray (Cond.code yX12_readLine cX12_readLine 1 none :: wsM) D cI cJ cZ := ⟨hx, hb, hts, hown, hK, fun w h => .tail _ (iM_x h)⟩
  have hA0 : ∀ a : Nat, A a → h0 ≤ a := hA1
  have hl := lv_entry ([.ref (ad 0)]) (n := 1) (Nat.le_of_ble_eq_true rfl)
  rw [lg_entry_eq]
  generalize (lg_sl ([.ref (ad 0)]) ++ List.replicate (1 - (lg_sl ([.ref (ad 0)])).length) Slot.unset).toArray = ls at hl ⊢
  have hl : lv_has ls 1 [(0, .ref (ad 0))] := hl
  unfold fr_readLine at h
  refine lv_aload_n hx hb dX12_readLine_0 rfl (lv_at hl 0 rfl) ?_
  obtain ⟨w2, hw2, ow2⟩ := hT.1 ("AcousticCameraModel", 171, "wall") (List.mem_of_getElem? (i := 25) rfl)
  refine va_ldcS hx hb hown hw2 dX12_readLine_1 ?_
  obtain ⟨r6, S3, eS3, h⟩ := obind2_some h
  refine m_calliX (As := [.ref w2]) (rest := []) E G hA hR hml (tr_isWord l D cI cJ cZ ad S h0 (q := w2) (sTx_ok (by decide +kernel)) eS3) (cwV 1 hts (gmV qM_108 qM_109 qM_110 qM_35 qM_57) rfl rfl rfl (by decide +kernel) ⟨Nat.le_of_ble_eq_true rfl, Nat.le_of_ble_eq_true rfl⟩) rfl hl.1 rfl (lv_room (Nat.le_of_ble_eq_true rfl)) dX12_readLine_3 ⟨Nat.zero_le _, Nat.zero_le _⟩ (xT1.blind) (xT1.go hT hA0 hA G ow2) (fun q4 S5 H locs hq G => ?_)
  obtain ⟨hq1, hq2⟩ := hq
  rw [hq2] at G
  refine lv_to hq1 ?_
  clear hq1 hq2 eS3
  refine lv_if_eq (tgt := 16) hx hb dX12_readLine_6 (by decide) (fun c7 => ?_) (fun c7 => ?_)
  · have h := oif_pos c7 h
    refine lv_aload_n hx hb dX12_readLine_16 rfl (lv_at hl 0 rfl) ?_
    obtain ⟨w8, hw8, ow8⟩ := hT.1 ("AcousticCameraModel", 176, "fade") (List.mem_of_getElem? (i := 26) rfl)
    refine va_ldcS hx hb hown hw8 dX12_readLine_17 ?_
    obtain ⟨r12, S9, eS9, h⟩ := obind2_some h
    refine m_calliX (As := [.ref w8]) (rest := []) E G hA hR hml (tr_isWord l D cI cJ cZ ad S3 h0 (q := w8) (sTx_ok (by decide +kernel)) eS9) (cwV 1 hts (gmV qM_108 qM_109 qM_110 qM_35 qM_57) rfl rfl rfl (by decide +kernel) ⟨Nat.le_of_ble_eq_true rfl, Nat.le_of_ble_eq_true rfl⟩) rfl hl.1 rfl (lv_room (Nat.le_of_ble_eq_true rfl)) dX12_readLine_19 ⟨Nat.zero_le _, Nat.zero_le _⟩ (xT1.blind) (xT1.go hT hA0 hA G ow8) (fun q10 S11 H locs hq G => ?_)
    obtain ⟨hq1, hq2⟩ := hq
    rw [hq2] at G
    refine lv_to hq1 ?_
    clear hq1 hq2 eS9
    refine lv_if_eq (tgt := 32) hx hb dX12_readLine_22 (by decide) (fun c13 => ?_) (fun c13 => ?_)
    · have h := oif_pos c13 h
      refine lv_aload_n hx hb dX12_readLine_32 rfl (lv_at hl 0 rfl) ?_
      obtain ⟨w14, hw14, ow14⟩ := hT.1 ("AcousticCameraModel", 181, "filter") (List.mem_of_getElem? (i := 27) rfl)
      refine va_ldcS hx hb hown hw14 dX12_readLine_33 ?_
      obtain ⟨r18, S15, eS15, h⟩ := obind2_some h
      refine m_calliX (As := [.ref w14]) (rest := []) E G hA hR hml (tr_isWord l D cI cJ cZ ad S9 h0 (q := w14) (sTx_ok (by decide +kernel)) eS15) (cwV 1 hts (gmV qM_108 qM_109 qM_110 qM_35 qM_57) rfl rfl rfl (by decide +kernel) ⟨Nat.le_of_ble_eq_true rfl, Nat.le_of_ble_eq_true rfl⟩) rfl hl.1 rfl (lv_room (Nat.le_of_ble_eq_true rfl)) dX12_readLine_35 ⟨Nat.zero_le _, Nat.zero_le _⟩ (xT1.blind) (xT1.go hT hA0 hA G ow14) (fun q16 S17 H locs hq G => ?_)
      obtain ⟨hq1, hq2⟩ := hq
      rw [hq2] at G
      refine lv_to hq1 ?_
      clear hq1 hq2 eS15
      refine lv_if_eq (tgt := 48) hx hb dX12_readLine_38 (by decide) (fun c19 => ?_) (fun c19 => ?_)
      · have h := oif_pos c19 h
        refine lv_aload_n hx hb dX12_readLine_48 rfl (lv_at hl 0 rfl) ?_
        obtain ⟨w20, hw20, ow20⟩ := hT.1 ("AcousticCameraModel", 186, "clock") (List.mem_of_getElem? (i := 28) rfl)
        refine va_ldcS hx hb hown hw20 dX12_readLine_49 ?_
        obtain ⟨r24, S21, eS21, h⟩ := obind2_some h
        refine m_calliX (As := [.ref w20]) (rest := []) E G hA hR hml (tr_isWord l D cI cJ cZ ad S15 h0 (q := w20) (sTx_ok (by decide +kernel)) eS21) (cwV 1 hts (gmV qM_108 qM_109 qM_110 qM_35 qM_57) rfl rfl rfl (by decide +kernel) ⟨Nat.le_of_ble_eq_true rfl, Nat.le_of_ble_eq_true rfl⟩) rfl hl.1 rfl (lv_room (Nat.le_of_ble_eq_true rfl)) dX12_readLine_51 ⟨Nat.zero_le _, Nat.zero_le _⟩ (xT1.blind) (xT1.go hT hA0 hA G ow20) (fun q22 S23 H locs hq G => ?_)
        obtain ⟨hq1, hq2⟩ := hq
        rw [hq2] at G
        refine lv_to hq1 ?_
        clear hq1 hq2 eS21
        refine lv_if_eq (tgt := 64) hx hb dX12_readLine_54 (by decide) (fun c25 => ?_) (fun c25 => ?_)
        · have h := oif_pos c25 h
          refine lv_aload_n hx hb dX12_readLine_64 rfl (lv_at hl 0 rfl) ?_
          obtain ⟨w26, hw26, ow26⟩ := hT.1 ("AcousticCameraModel", 191, "zone") (List.mem_of_getElem? (i := 29) rfl)
          refine va_ldcS hx hb hown hw26 dX12_readLine_65 ?_
          obtain ⟨r30, S27, eS27, h⟩ := obind2_some h
          refine m_calliX (As := [.ref w26]) (rest := []) E G hA hR hml (tr_isWord l D cI cJ cZ ad S21 h0 (q := w26) (sTx_ok (by decide +kernel)) eS27) (cwV 1 hts (gmV qM_108 qM_109 qM_110 qM_35 qM_57) rfl rfl rfl (by decide +kernel) ⟨Nat.le_of_ble_eq_true rfl, Nat.le_of_ble_eq_true rfl⟩) rfl hl.1 rfl (lv_room (Nat.le_of_ble_eq_true rfl)) dX12_readLine_67 ⟨Nat.zero_le _, Nat.zero_le _⟩ (xT1.blind) (xT1.go hT hA0 hA G ow26) (fun q28 S29 H locs hq G => ?_)
          obtain ⟨hq1, hq2⟩ := hq
          rw [hq2] at G
          refine lv_to hq1 ?_
          clear hq1 hq2 eS27
          refine lv_if_eq (tgt := 80) hx hb dX12_readLine_70 (by decide) (fun c31 => ?_) (fun c31 => ?_)
          · have h := oif_pos c31 h
            refine lv_aload_n hx hb dX12_readLine_80 rfl (lv_at hl 0 rfl) ?_
            obtain ⟨w32, hw32, ow32⟩ := hT.1 ("AcousticCameraModel", 196, "shade") (List.mem_of_getElem? (i := 30) rfl)
            refine va_ldcS hx hb hown hw32 dX12_readLine_81 ?_
            obtain ⟨r36, S33, eS33, h⟩ := obind2_some h
            refine m_calliX (As := [.ref w32]) (rest := []) E G hA hR hml (tr_isWord l D cI cJ cZ ad S27 h0 (q := w32) (sTx_ok (by decide +kernel)) eS33) (cwV 1 hts (gmV qM_108 qM_109 qM_110 qM_35 qM_57) rfl rfl rfl (by decide +kernel) ⟨Nat.le_of_ble_eq_true rfl, Nat.le_of_ble_eq_true rfl⟩) rfl hl.1 rfl (lv_room (Nat.le_of_ble_eq_true rfl)) dX12_readLine_83 ⟨Nat.zero_le _, Nat.zero_le _⟩ (xT1.blind) (xT1.go hT hA0 hA G ow32) (fun q34 S35 H locs hq G => ?_)
            obtain ⟨hq1, hq2⟩ := hq
            rw [hq2] at G
            refine lv_to hq1 ?_
            clear hq1 hq2 eS33
            refine lv_if_eq (tgt := 96) hx hb dX12_readLine_86 (by decide) (fun c37 => ?_) (fun c37 => ?_)
            · have h := oif_pos c37 h
              refine lv_aload_n hx hb dX12_readLine_96 rfl (lv_at hl 0 rfl) ?_
              obtain ⟨w38, hw38, ow38⟩ := hT.1 ("AcousticCameraModel", 201, "off") (List.mem_of_getElem? (i := 31) rfl)
              refine va_ldcS hx hb hown hw38 dX12_readLine_97 ?_
              obtain ⟨r42, S39, eS39, h⟩ := obind2_some h
              refine m_calliX (As := [.ref w38]) (rest := []) E G hA hR hml (tr_isWord l D cI cJ cZ ad S33 h0 (q := w38) (sTx_ok (by decide +kernel)) eS39) (cwV 1 hts (gmV qM_108 qM_109 qM_110 qM_35 qM_57) rfl rfl rfl (by decide +kernel) ⟨Nat.le_of_ble_eq_true rfl, Nat.le_of_ble_eq_true rfl⟩) rfl hl.1 rfl (lv_room (Nat.le_of_ble_eq_true rfl)) dX12_readLine_99 ⟨Nat.zero_le _, Nat.zero_le _⟩ (xT1.blind) (xT1.go hT hA0 hA G ow38) (fun q40 S41 H locs hq G => ?_)
              obtain ⟨hq1, hq2⟩ := hq
              rw [hq2] at G
              refine lv_to hq1 ?_
              clear hq1 hq2 eS39
              refine lv_if_eq (tgt := 112) hx hb dX12_readLine_102 (by decide) (fun c43 => ?_) (fun c43 => ?_)
              · have h := oif_pos c43 h
                refine lv_aload_n hx hb dX12_readLine_112 rfl (lv_at hl 0 rfl) ?_
                obtain ⟨w44, hw44, ow44⟩ := hT.1 ("AcousticCameraModel", 206, "mic") (List.mem_of_getElem? (i := 32) rfl)
                refine va_ldcS hx hb hown hw44 dX12_readLine_113 ?_
                obtain ⟨r48, S45, eS45, h⟩ := obind2_some h
                refine m_calliX (As := [.ref w44]) (rest := []) E G hA hR hml (tr_isWord l D cI cJ cZ ad S39 h0 (q := w44) (sTx_ok (by decide +kernel)) eS45) (cwV 1 hts (gmV qM_108 qM_109 qM_110 qM_35 qM_57) rfl rfl rfl (by decide +kernel) ⟨Nat.le_of_ble_eq_true rfl, Nat.le_of_ble_eq_true rfl⟩) rfl hl.1 rfl (lv_room (Nat.le_of_ble_eq_true rfl)) dX12_readLine_115 ⟨Nat.zero_le _, Nat.zero_le _⟩ (xT1.blind) (xT1.go hT hA0 hA G ow44) (fun q46 S47 H locs hq G => ?_)
                obtain ⟨hq1, hq2⟩ := hq
                rw [hq2] at G
                refine lv_to hq1 ?_
                clear hq1 hq2 eS45
                refine lv_if_eq (tgt := 128) hx hb dX12_readLine_118 (by decide) (fun c49 => ?_) (fun c49 => ?_)
                · have h := oif_pos c49 h
                  refine lv_aload_n hx hb dX12_readLine_128 rfl (lv_at hl 0 rfl) ?_
                  obtain ⟨w50, hw50, ow50⟩ := hT.1 ("AcousticCameraModel", 211, "map") (List.mem_of_getElem? (i := 33) rfl)
                  refine va_ldcS hx hb hown hw50 dX12_readLine_129 ?_
                  obtain ⟨r54, S51, eS51, h⟩ := obind2_some h
                  refine m_calliX (As := [.ref w50]) (rest := []) E G hA hR hml (tr_isWord l D cI cJ cZ ad S45 h0 (q := w50) (sTx_ok (by decide +kernel)) eS51) (cwV 1 hts (gmV qM_108 qM_109 qM_110 qM_35 qM_57) rfl rfl rfl (by decide +kernel) ⟨Nat.le_of_ble_eq_true rfl, Nat.le_of_ble_eq_true rfl⟩) rfl hl.1 rfl (lv_room (Nat.le_of_ble_eq_true rfl)) dX12_readLine_131 ⟨Nat.zero_le _, Nat.zero_le _⟩ (xT1.blind) (xT1.go hT hA0 hA G ow50) (fun q52 S53 H locs hq G => ?_)
                  obtain ⟨hq1, hq2⟩ := hq
                  rw [hq2] at G
                  refine lv_to hq1 ?_
                  clear hq1 hq2 eS51
                  refine lv_if_eq (tgt := 144) hx hb dX12_readLine_134 (by decide) (fun c55 => ?_) (fun c55 => ?_)
                  · have h := oif_pos c55 h
                    refine lv_aload_n hx hb dX12_readLine_144 rfl (lv_at hl 0 rfl) ?_
                    obtain ⟨w56, hw56, ow56⟩ := hT.1 ("AcousticCameraModel", 216, "source") (List.mem_of_getElem? (i := 34) rfl)
                    refine va_ldcS hx hb hown hw56 dX12_readLine_145 ?_
                    obtain ⟨r60, S57, eS57, h⟩ := obind2_some h
                    refine m_calliX (As := [.ref w56]) (rest := []) E G hA hR hml (tr_isWord l D cI cJ cZ ad S51 h0 (q := w56) (sTx_ok (by decide +kernel)) eS57) (cwV 1 hts (gmV qM_108 qM_109 qM_110 qM_35 qM_57) rfl rfl rfl (by decide +kernel) ⟨Nat.le_of_ble_eq_true rfl, Nat.le_of_ble_eq_true rfl⟩) rfl hl.1 rfl (lv_room (Nat.le_of_ble_eq_true rfl)) dX12_readLine_147 ⟨Nat.zero_le _, Nat.zero_le _⟩ (xT1.blind) (xT1.go hT hA0 hA G ow56) (fun q58 S59 H locs hq G => ?_)
                    obtain ⟨hq1, hq2⟩ := hq
                    rw [hq2] at G
                    refine lv_to hq1 ?_
                    clear hq1 hq2 eS57
                    refine lv_if_eq (tgt := 160) hx hb dX12_readLine_150 (by decide) (fun c61 => ?_) (fun c61 => ?_)
                    · have h := oif_pos c61 h
                      refine lv_aload_n hx hb dX12_readLine_160 rfl (lv_at hl 0 rfl) ?_
                      refine lv_iconst (v := 1) hx hb dX12_readLine_161 (by decide) ?_
                      obtain ⟨S62, eS62, h⟩ := obind_some h
                      refine m_callv (As := [.int 1]) (rest := []) E G hA hR hml (tr_faults l D cI cJ cZ ad S57 1 eS62) (cwV 1 hts (gmV qM_118 qM_119 qM_120 qM_35 qM_42) rfl rfl rfl (by decide +kernel) ⟨Nat.le_of_ble_eq_true rfl, Nat.le_of_ble_eq_true rfl⟩) rfl hl.1 rfl (lv_room (Nat.le_of_ble_eq_true rfl)) dX12_readLine_162 ⟨Nat.zero_le _, Nat.zero_le _⟩ (fun S64 H locs hq G => ?_)
                      rw [hq] at G
                      clear hq eS62
                      have hl := lv_sub hl [] rfl
                      exact tr_readLine_b165 E hA hR hml hA0 hT (fun H locs ls G => W.vret hx hb hr (fun t ht hW => ⟨⟨S1, rfl, rfl, ⟨by rw [ht]; exact G.1, va_K.moved hW.alike hK, G.2.1⟩⟩, G.2.2.F ht⟩) G.2.2.2.2 dX12_readLine_165) _ _ _ _ h G hl
                    · have h := oif_neg c61 h
                      refine lv_aload_n hx hb dX12_readLine_153 rfl (lv_at hl 0 rfl) ?_
                      obtain ⟨S65, eS65, h⟩ := obind_some h
                      refine m_callvX (As := []) (rest := []) E G hA hR hml (tr_readSource l D cI cJ cZ ad S57 h0 eS65) (cwV 0 hts (gmV qM_182 qM_183 qM_184 qM_35 qM_146) rfl rfl rfl (by decide +kernel) ⟨Nat.le_of_ble_eq_true rfl, Nat.le_of_ble_eq_true rfl⟩) rfl hl.1 rfl (lv_room (Nat.le_of_ble_eq_true rfl)) dX12_readLine_154 ⟨Nat.zero_le _, Nat.zero_le _⟩ (xT0.blind) (xT0.go hT hA0 hA G) (fun S67 H locs hq G => ?_)
                      rw [hq] at G
                      clear hq eS65
                      refine lv_goto (tgt := 165) hx hb dX12_readLine_157 (by decide) ?_
                      have hl := lv_sub hl [] rfl
                      exact tr_readLine_b165 E hA hR hml hA0 hT (fun H locs ls G => W.vret hx hb hr (fun t ht hW => ⟨⟨S1, rfl, rfl, ⟨by rw [ht]; exact G.1, va_K.moved hW.alike hK, G.2.1⟩⟩, G.2.2.F ht⟩) G.2.2.2.2 dX12_readLine_165) _ _ _ _ h G hl
                  · have h := oif_neg c55 h
                    refine lv_aload_n hx hb dX12_readLine_137 rfl (lv_at hl 0 rfl) ?_
                    obtain ⟨S68, eS68, h⟩ := obind_some h
                    refine m_callv (As := []) (rest := []) E G hA hR hml (tr_readMap l D cI cJ cZ ad S51 eS68) (cwV 0 hts (gmV qM_179 qM_180 qM_181 qM_35 qM_145) rfl rfl rfl (by decide +kernel) ⟨Nat.le_of_ble_eq_true rfl, Nat.le_of_ble_eq_true rfl⟩) rfl hl.1 rfl (lv_room (Nat.le_of_ble_eq_true rfl)) dX12_readLine_138 ⟨Nat.zero_le _, Nat.zero_le _⟩ (fun S70 H locs hq G => ?_)
                    rw [hq] at G
                    clear hq eS68
                    refine lv_goto (tgt := 165) hx hb dX12_readLine_141 (by decide) ?_
                    have hl := lv_sub hl [] rfl
                    exact tr_readLine_b165 E hA hR hml hA0 hT (fun H locs ls G => W.vret hx hb hr (fun t ht hW => ⟨⟨S1, rfl, rfl, ⟨by rw [ht]; exact G.1, va_K.moved hW.alike hK, G.2.1⟩⟩, G.2.2.F ht⟩) G.2.2.2.2 dX12_readLine_165) _ _ _ _ h G hl
                · have h := oif_neg c49 h
                  refine lv_aload_n hx hb dX12_readLine_121 rfl (lv_at hl 0 rfl) ?_
                  obtain ⟨S71, eS71, h⟩ := obind_some h
                  refine m_callv (As := []) (rest := []) E G hA hR hml (tr_readMic l D cI cJ cZ ad S45 eS71) (cwV 0 hts (gmV qM_176 qM_177 qM_178 qM_35 qM_141) rfl rfl rfl (by decide +kernel) ⟨Nat.le_of_ble_eq_true rfl, Nat.le_of_ble_eq_true rfl⟩) rfl hl.1 rfl (lv_room (Nat.le_of_ble_eq_true rfl)) dX12_readLine_122 ⟨Nat.zero_le _, Nat.zero_le _⟩ (fun S73 H locs hq G => ?_)
                  rw [hq] at G
                  clear hq eS71
                  refine lv_goto (tgt := 165) hx hb dX12_readLine_125 (by decide) ?_
                  have hl := lv_sub hl [] rfl
                  exact tr_readLine_b165 E hA hR hml hA0 hT (fun H locs ls G => W.vret hx hb hr (fun t ht hW => ⟨⟨S1, rfl, rfl, ⟨by rw [ht]; exact G.1, va_K.moved hW.alike hK, G.2.1⟩⟩, G.2.2.F ht⟩) G.2.2.2.2 dX12_readLine_165) _ _ _ _ h G hl
              · have h := oif_neg c43 h
                refine lv_aload_n hx hb dX12_readLine_105 rfl (lv_at hl 0 rfl) ?_
                obtain ⟨S74, eS74, h⟩ := obind_some h
                refine m_callv (As := []) (rest := []) E G hA hR hml (tr_readOff l D cI cJ cZ ad S39 eS74) (cwV 0 hts (gmV qM_173 qM_174 qM_175 qM_35 qM_152) rfl rfl rfl (by decide +kernel) ⟨Nat.le_of_ble_eq_true rfl, Nat.le_of_ble_eq_true rfl⟩) rfl hl.1 rfl (lv_room (Nat.le_of_ble_eq_true rfl)) dX12_readLine_106 ⟨Nat.zero_le _, Nat.zero_le _⟩ (fun S76 H locs hq G => ?_)
                rw [hq] at G
                clear hq eS74
                refine lv_goto (tgt := 165) hx hb dX12_readLine_109 (by decide) ?_
                have hl := lv_sub hl [] rfl
                exact tr_readLine_b165 E hA hR hml hA0 hT (fun H locs ls G => W.vret hx hb hr (fun t ht hW => ⟨⟨S1, rfl, rfl, ⟨by rw [ht]; exact G.1, va_K.moved hW.alike hK, G.2.1⟩⟩, G.2.2.F ht⟩) G.2.2.2.2 dX12_readLine_165) _ _ _ _ h G hl
            · have h := oif_neg c37 h
              refine lv_aload_n hx hb dX12_readLine_89 rfl (lv_at hl 0 rfl) ?_
              obtain ⟨S77, eS77, h⟩ := obind_some h
              refine m_callv (As := []) (rest := []) E G hA hR hml (tr_readShade l D cI cJ cZ ad S33 eS77) (cwV 0 hts (gmV qM_170 qM_171 qM_172 qM_35 qM_151) rfl rfl rfl (by decide +kernel) ⟨Nat.le_of_ble_eq_true rfl, Nat.le_of_ble_eq_true rfl⟩) rfl hl.1 rfl (lv_room (Nat.le_of_ble_eq_true rfl)) dX12_readLine_90 ⟨Nat.zero_le _, Nat.zero_le _⟩ (fun S79 H locs hq G => ?_)
              rw [hq] at G
              clear hq eS77
              refine lv_goto (tgt := 165) hx hb dX12_readLine_93 (by decide) ?_
              have hl := lv_sub hl [] rfl
              exact tr_readLine_b165 E hA hR hml hA0 hT (fun H locs ls G => W.vret hx hb hr (fun t ht hW => ⟨⟨S1, rfl, rfl, ⟨by rw [ht]; exact G.1, va_K.moved hW.alike hK, G.2.1⟩⟩, G.2.2.F ht⟩) G.2.2.2.2 dX12_readLine_165) _ _ _ _ h G hl
          · have h := oif_neg c31 h
            refine lv_aload_n hx hb dX12_readLine_73 rfl (lv_at hl 0 rfl) ?_
            obtain ⟨S80, eS80, h⟩ := obind_some h
            refine m_callv (As := []) (rest := []) E G hA hR hml (tr_readZone l D cI cJ cZ ad S27 eS80) (cwV 0 hts (gmV qM_167 qM_168 qM_169 qM_35 qM_153) rfl rfl rfl (by decide +kernel) ⟨Nat.le_of_ble_eq_true rfl, Nat.le_of_ble_eq_true rfl⟩) rfl hl.1 rfl (lv_room (Nat.le_of_ble_eq_true rfl)) dX12_readLine_74 ⟨Nat.zero_le _, Nat.zero_le _⟩ (fun S82 H locs hq G => ?_)
            rw [hq] at G
            clear hq eS80
            refine lv_goto (tgt := 165) hx hb dX12_readLine_77 (by decide) ?_
            have hl := lv_sub hl [] rfl
            exact tr_readLine_b165 E hA hR hml hA0 hT (fun H locs ls G => W.vret hx hb hr (fun t ht hW => ⟨⟨S1, rfl, rfl, ⟨by rw [ht]; exact G.1, va_K.moved hW.alike hK, G.2.1⟩⟩, G.2.2.F ht⟩) G.2.2.2.2 dX12_readLine_165) _ _ _ _ h G hl
        · have h := oif_neg c25 h
          refine lv_aload_n hx hb dX12_readLine_57 rfl (lv_at hl 0 rfl) ?_
          obtain ⟨S83, eS83, h⟩ := obind_some h
          refine m_callv (As := []) (rest := []) E G hA hR hml (tr_readClock l D cI cJ cZ ad S21 eS83) (cwV 0 hts (gmV qM_164 qM_165 qM_166 qM_35 qM_150) rfl rfl rfl (by decide +kernel) ⟨Nat.le_of_ble_eq_true rfl, Nat.le_of_ble_eq_true rfl⟩) rfl hl.1 rfl (lv_room (Nat.le_of_ble_eq_true rfl)) dX12_readLine_58 ⟨Nat.zero_le _, Nat.zero_le _⟩ (fun S85 H locs hq G => ?_)
          rw [hq] at G
          clear hq eS83
          refine lv_goto (tgt := 165) hx hb dX12_readLine_61 (by decide) ?_
          have hl := lv_sub hl [] rfl
          exact tr_readLine_b165 E hA hR hml hA0 hT (fun H locs ls G => W.vret hx hb hr (fun t ht hW => ⟨⟨S1, rfl, rfl, ⟨by rw [ht]; exact G.1, va_K.moved hW.alike hK, G.2.1⟩⟩, G.2.2.F ht⟩) G.2.2.2.2 dX12_readLine_165) _ _ _ _ h G hl
      · have h := oif_neg c19 h
        refine lv_aload_n hx hb dX12_readLine_41 rfl (lv_at hl 0 rfl) ?_
        obtain ⟨S86, eS86, h⟩ := obind_some h
        refine m_callv (As := []) (rest := []) E G hA hR hml (tr_readFilter l D cI cJ cZ ad S15 eS86) (cwV 0 hts (gmV qM_161 qM_162 qM_163 qM_35 qM_149) rfl rfl rfl (by decide +kernel) ⟨Nat.le_of_ble_eq_true rfl, Nat.le_of_ble_eq_true rfl⟩) rfl hl.1 rfl (lv_room (Nat.le_of_ble_eq_true rfl)) dX12_readLine_42 ⟨Nat.zero_le _, Nat.zero_le _⟩ (fun S88 H locs hq G => ?_)
        rw [hq] at G
        clear hq eS86
        refine lv_goto (tgt := 165) hx hb dX12_readLine_45 (by decide) ?_
        have hl := lv_sub hl [] rfl
        exact tr_readLine_b165 E hA hR hml hA0 hT (fun H locs ls G => W.vret hx hb hr (fun t ht hW => ⟨⟨S1, rfl, rfl, ⟨by rw [ht]; exact G.1, va_K.moved hW.alike hK, G.2.1⟩⟩, G.2.2.F ht⟩) G.2.2.2.2 dX12_readLine_165) _ _ _ _ h G hl
    · have h := oif_neg c13 h
      refine lv_aload_n hx hb dX12_readLine_25 rfl (lv_at hl 0 rfl) ?_
      obtain ⟨S89, eS89, h⟩ := obind_some h
      refine m_callv (As := []) (rest := []) E G hA hR hml (tr_readFade l D cI cJ cZ ad S9 eS89) (cwV 0 hts (gmV qM_158 qM_159 qM_160 qM_35 qM_148) rfl rfl rfl (by decide +kernel) ⟨Nat.le_of_ble_eq_true rfl, Nat.le_of_ble_eq_true rfl⟩) rfl hl.1 rfl (lv_room (Nat.le_of_ble_eq_true rfl)) dX12_readLine_26 ⟨Nat.zero_le _, Nat.zero_le _⟩ (fun S91 H locs hq G => ?_)
      rw [hq] at G
      clear hq eS89
      refine lv_goto (tgt := 165) hx hb dX12_readLine_29 (by decide) ?_
      have hl := lv_sub hl [] rfl
      exact tr_readLine_b165 E hA hR hml hA0 hT (fun H locs ls G => W.vret hx hb hr (fun t ht hW => ⟨⟨S1, rfl, rfl, ⟨by rw [ht]; exact G.1, va_K.moved hW.alike hK, G.2.1⟩⟩, G.2.2.F ht⟩) G.2.2.2.2 dX12_readLine_165) _ _ _ _ h G hl
  · have h := oif_neg c7 h
    refine lv_aload_n hx hb dX12_readLine_9 rfl (lv_at hl 0 rfl) ?_
    obtain ⟨S92, eS92, h⟩ := obind_some h
    refine m_callv (As := []) (rest := []) E G hA hR hml (tr_readWall l D cI cJ cZ ad S3 eS92) (cwV 0 hts (gmV qM_155 qM_156 qM_157 qM_35 qM_147) rfl rfl rfl (by decide +kernel) ⟨Nat.le_of_ble_eq_true rfl, Nat.le_of_ble_eq_true rfl⟩) rfl hl.1 rfl (lv_room (Nat.le_of_ble_eq_true rfl)) dX12_readLine_10 ⟨Nat.zero_le _, Nat.zero_le _⟩ (fun S94 H locs hq G => ?_)
    rw [hq] at G
    clear hq eS92
    refine lv_goto (tgt := 165) hx hb dX12_readLine_13 (by decide) ?_
    have hl := lv_sub hl [] rfl
    exact tr_readLine_b165 E hA hR hml hA0 hT (fun H locs ls G => W.vret hx hb hr (fun t ht hW => ⟨⟨S1, rfl, rfl, ⟨by rw [ht]; exact G.1, va_K.moved hW.alike hK, G.2.1⟩⟩, G.2.2.F ht⟩) G.2.2.2.2 dX12_readLine_165) _ _ _ _ h G hl
def fr_readText_b116  (S : MS)  : Option (MS) := some S
set_option maxHeartbeats 4000000 in
set_option maxRecDepth 100000 in
theorem tr_readText_b116 {p : Program} {l : Launch} {e : Env} {s : State} {m : MethodId} {args : Array Value} {below : List Frame} {meth : Method} {c : Code} {Q : State → Prop} {D : va_G} {A : Nat → Prop} {cI cJ cZ : ClassId} {ad : Nat → Nat} {S1 : MS} (E : mE p c cX12_readText s m args (Cond.code yX12_readText cX12_readText 2 none :: wsM) D cI cJ cZ) (hA : ∀ q : Nat, s.heap.size ≤ q → A q) (hR : sR s) (hml : c.maxLocals = 2) {h0 : Nat} (hA0 : ∀ a : Nat, A a → h0 ≤ a) (hT : sAll h0 s) (kr116 : ∀ (H : Heap) (locs : List Loc) (ls : Array Slot), mG D cI cJ cZ ad A s.heap H locs S1 → W p l e { frames := 10, cells := 0, slots := 0, locals := 195 } s m args below meth c H locs 0 0 Q (F0 m 116 ls [])) : ∀ (S : MS) (H : Heap) (locs : List Loc) (ls : Array Slot), fr_readText_b116 S = some S1 → mG D cI cJ cZ ad A s.heap H locs S → lv_has ls 2 [] → W p l e { frames := 10, cells := 0, slots := 0, locals := 195 } s m args below meth c H locs 0 0 Q (F0 m 116 ls []) := by
  have hx := E.1
  have hb := E.2.1
  have hts := E.2.2.1
  have hown := E.2.2.2.1
  have hK := E.2.2.2.2.1
  intro S H locs ls h G hl
  unfold fr_readText_b116 at h
  rw [osome1 h] at G
  exact kr116 _ _ _ G
def fr_readText_b111  (S : MS)  : Option (MS) := obind (fr_faults S 5) fun S2 => fr_readText_b116 S2
set_option maxHeartbeats 4000000 in
set_option maxRecDepth 100000 in
theorem tr_readText_b111 {p : Program} {l : Launch} {e : Env} {s : State} {m : MethodId} {args : Array Value} {below : List Frame} {meth : Method} {c : Code} {Q : State → Prop} {D : va_G} {A : Nat → Prop} {cI cJ cZ : ClassId} {ad : Nat → Nat} {S1 : MS} (E : mE p c cX12_readText s m args (Cond.code yX12_readText cX12_readText 2 none :: wsM) D cI cJ cZ) (hA : ∀ q : Nat, s.heap.size ≤ q → A q) (hR : sR s) (hml : c.maxLocals = 2) {h0 : Nat} (hA0 : ∀ a : Nat, A a → h0 ≤ a) (hT : sAll h0 s) (kr116 : ∀ (H : Heap) (locs : List Loc) (ls : Array Slot), mG D cI cJ cZ ad A s.heap H locs S1 → W p l e { frames := 10, cells := 0, slots := 0, locals := 195 } s m args below meth c H locs 0 0 Q (F0 m 116 ls [])) : ∀ (S : MS) (H : Heap) (locs : List Loc) (ls : Array Slot), fr_readText_b111 S = some S1 → mG D cI cJ cZ ad A s.heap H locs S → lv_has ls 2 [(0, .ref (ad 0))] → W p l e { frames := 10, cells := 0, slots := 0, locals := 195 } s m args below meth c H locs 0 0 Q (F0 m 111 ls []) := by
  have hx := E.1
  have hb := E.2.1
  have hts := E.2.2.1
  have hown := E.2.2.2.1
  have hK := E.2.2.2.2.1
  intro S H locs ls h G hl
  unfold fr_readText_b111 at h
  refine lv_aload_n hx hb dX12_readText_111 rfl (lv_at hl 0 rfl) ?_
  refine lv_iconst (v := 5) hx hb dX12_readText_112 (by decide) ?_
  obtain ⟨S2, eS2, h⟩ := obind_some h
  refine m_callv (As := [.int 5]) (rest := []) E G hA hR hml (tr_faults l D cI cJ cZ ad S 5 eS2) (cwV 1 hts (gmV qM_118 qM_119 qM_120 qM_35 qM_42) rfl rfl rfl (by decide +kernel) ⟨Nat.le_of_ble_eq_true rfl, Nat.le_of_ble_eq_true rfl⟩) rfl hl.1 rfl (lv_room (Nat.le_of_ble_eq_true rfl)) dX12_readText_113 ⟨Nat.zero_le _, Nat.zero_le _⟩ (fun S4 H locs hq G => ?_)
  rw [hq] at G
  clear hq eS2
  have hl := lv_sub hl [] rfl
  exact tr_readText_b116 E hA hR hml hA0 hT kr116 _ _ _ _ h G hl
def fr_readText_b92  (S : MS)  : Option (MS) := elet (S.2.1 11 4) fun v2 => if v2 = 0 then (fr_readText_b111 S) else (elet (S.2.1 11 8) fun v4 => if v4 = 0 then (fr_readText_b111 S) else (fr_readText_b116 S))
set_option maxHeartbeats 4000000 in
set_option maxRecDepth 100000 in
theorem tr_readText_b92 {p : Program} {l : Launch} {e : Env} {s : State} {m : MethodId} {args : Array Value} {below : List Frame} {meth : Method} {c : Code} {Q : State → Prop} {D : va_G} {A : Nat → Prop} {cI cJ cZ : ClassId} {ad : Nat → Nat} {S1 : MS} (E : mE p c cX12_readText s m args (Cond.code yX12_readText cX12_readText 2 none :: wsM) D cI cJ cZ) (hA : ∀ q : Nat, s.heap.size ≤ q → A q) (hR : sR s) (hml : c.maxLocals = 2) {h0 : Nat} (hA0 : ∀ a : Nat, A a → h0 ≤ a) (hT : sAll h0 s) (kr116 : ∀ (H : Heap) (locs : List Loc) (ls : Array Slot), mG D cI cJ cZ ad A s.heap H locs S1 → W p l e { frames := 10, cells := 0, slots := 0, locals := 195 } s m args below meth c H locs 0 0 Q (F0 m 116 ls [])) : ∀ (S : MS) (H : Heap) (locs : List Loc) (ls : Array Slot), fr_readText_b92 S = some S1 → mG D cI cJ cZ ad A s.heap H locs S → lv_has ls 2 [(0, .ref (ad 0))] → W p l e { frames := 10, cells := 0, slots := 0, locals := 195 } s m args below meth c H locs 0 0 Q (F0 m 92 ls []) := by
  have hx := E.1
  have hb := E.2.1
  have hts := E.2.2.1
  have hown := E.2.2.2.1
  have hK := E.2.2.2.2.1
  intro S H locs ls h G hl
  unfold fr_readText_b92 at h
  refine lv_aload_n hx hb dX12_readText_92 rfl (lv_at hl 0 rfl) ?_
  refine m_get E G 11 (v := .ref (ad 11)) (by decide) (.tail _ qM_8) rfl dX12_readText_93 rfl ?_
  refine lv_iconst (v := 4) hx hb dX12_readText_96 (by decide) ?_
  refine m_iald E G 11 3 (n := 131) (k := 4) rfl rfl (by decide) (by decide) dX12_readText_97 ?_
  refine lv_topi (fun v2 ev2 => ?_)
  have h := elet_at ev2 h
  clear ev2
  refine lv_if_eq (tgt := 111) hx hb dX12_readText_98 (by decide) (fun c3 => ?_) (fun c3 => ?_)
  · have h := oif_pos c3 h
    have hl := lv_sub hl [0] rfl
    exact tr_readText_b111 E hA hR hml hA0 hT kr116 _ _ _ _ h G hl
  · have h := oif_neg c3 h
    refine lv_aload_n hx hb dX12_readText_101 rfl (lv_at hl 0 rfl) ?_
    refine m_get E G 11 (v := .ref (ad 11)) (by decide) (.tail _ qM_8) rfl dX12_readText_102 rfl ?_
    refine lv_bipush (v := 8) hx hb dX12_readText_105 (by decide) ?_
    refine m_iald E G 11 3 (n := 131) (k := 8) rfl rfl (by decide) (by decide) dX12_readText_107 ?_
    refine lv_topi (fun v4 ev4 => ?_)
    have h := elet_at ev4 h
    clear ev4
    refine lv_if_ne (tgt := 116) hx hb dX12_readText_108 (by decide) (fun c5 => ?_) (fun c5 => ?_)
    · have h := oif_neg c5 h
      have hl := lv_sub hl [] rfl
      exact tr_readText_b116 E hA hR hml hA0 hT kr116 _ _ _ _ h G hl
    · have h := oif_pos c5 h
      have hl := lv_sub hl [0] rfl
      exact tr_readText_b111 E hA hR hml hA0 hT kr116 _ _ _ _ h G hl
def fr_readText_b52  : Nat → MS → Option (MS)
  | 0, _ => none
  | n + 1, S => obind2 (fr_isSignHere S 59) fun r5 S2 => if r5 = 0 then (elet (S2.1 5) fun v7 => if v7 = 0 then (elet (S2.1 7) fun v9 => if v9 = 1 then (fr_readText_b92 S2) else (obind (fr_faults S2 1) fun S11 => fr_readText_b92 S11)) else (fr_readText_b92 S2)) else (obind (fr_nextToken S2) fun S14 => obind (fr_readLine S14) fun S17 => fr_readText_b52 n S17)
set_option maxHeartbeats 4000000 in
set_option maxRecDepth 100000 in
theorem tr_readText_b52 {p : Program} {l : Launch} {e : Env} {s : State} {m : MethodId} {args : Array Value} {below : List Frame} {meth : Method} {c : Code} {Q : State → Prop} {D : va_G} {A : Nat → Prop} {cI cJ cZ : ClassId} {ad : Nat → Nat} {S1 : MS} (E : mE p c cX12_readText s m args (Cond.code yX12_readText cX12_readText 2 none :: wsM) D cI cJ cZ) (hA : ∀ q : Nat, s.heap.size ≤ q → A q) (hR : sR s) (hml : c.maxLocals = 2) {h0 : Nat} (hA0 : ∀ a : Nat, A a → h0 ≤ a) (hT : sAll h0 s) (kr116 : ∀ (H : Heap) (locs : List Loc) (ls : Array Slot), mG D cI cJ cZ ad A s.heap H locs S1 → W p l e { frames := 10, cells := 0, slots := 0, locals := 195 } s m args below meth c H locs 0 0 Q (F0 m 116 ls [])) : ∀ n : Nat, ∀ (S : MS) (H : Heap) (locs : List Loc) (ls : Array Slot), fr_readText_b52 n S = some S1 → mG D cI cJ cZ ad A s.heap H locs S → lv_has ls 2 [(0, .ref (ad 0))] → W p l e { frames := 10, cells := 0, slots := 0, locals := 195 } s m args below meth c H locs 0 0 Q (F0 m 52 ls []) := by
  have hx := E.1
  have hb := E.2.1
  have hts := E.2.2.1
  have hown := E.2.2.2.1
  have hK := E.2.2.2.2.1
  intro n
  induction n with
  | zero =>
    intro S H locs ls h
    have h : (none : Option (MS)) = some S1 := h
    cases h
  | succ n ih =>
    intro S H locs ls h G hl
    unfold fr_readText_b52 at h
    refine lv_aload_n hx hb dX12_readText_52 rfl (lv_at hl 0 rfl) ?_
    refine lv_bipush (v := 59) hx hb dX12_readText_53 (by decide) ?_
    obtain ⟨r5, S2, eS2, h⟩ := obind2_some h
    refine m_calli (As := [.int 59]) (rest := []) E G hA hR hml (tr_isSignHere l D cI cJ cZ ad S 59 eS2) (cwV 1 hts (gmV qM_134 qM_135 qM_136 qM_35 qM_56) rfl rfl rfl (by decide +kernel) ⟨Nat.le_of_ble_eq_true rfl, Nat.le_of_ble_eq_true rfl⟩) rfl hl.1 rfl (lv_room (Nat.le_of_ble_eq_true rfl)) dX12_readText_55 ⟨Nat.zero_le _, Nat.zero_le _⟩ (fun q3 S4 H locs hq G => ?_)
    obtain ⟨hq1, hq2⟩ := hq
    rw [hq2] at G
    refine lv_to hq1 ?_
    clear hq1 hq2 eS2
    refine lv_if_eq (tgt := 72) hx hb dX12_readText_58 (by decide) (fun c6 => ?_) (fun c6 => ?_)
    · have h := oif_pos c6 h
      refine lv_aload_n hx hb dX12_readText_72 rfl (lv_at hl 0 rfl) ?_
      refine m_get E G 5 (v := .int (S2.1 5)) (by decide) (.tail _ qM_38) rfl dX12_readText_73 rfl ?_
      refine lv_topi (fun v7 ev7 => ?_)
      have h := elet_at ev7 h
      clear ev7
      refine lv_if_ne (tgt := 92) hx hb dX12_readText_76 (by decide) (fun c8 => ?_) (fun c8 => ?_)
      · have h := oif_neg c8 h
        have hl := lv_sub hl [0] rfl
        exact tr_readText_b92 E hA hR hml hA0 hT kr116 _ _ _ _ h G hl
      · have h := oif_pos c8 h
        refine lv_aload_n hx hb dX12_readText_79 rfl (lv_at hl 0 rfl) ?_
        refine m_get E G 7 (v := .int (S2.1 7)) (by decide) (.tail _ qM_47) rfl dX12_readText_80 rfl ?_
        refine lv_topi (fun v9 ev9 => ?_)
        have h := elet_at ev9 h
        clear ev9
        refine lv_iconst (v := 1) hx hb dX12_readText_83 (by decide) ?_
        refine lv_icmp_eq (tgt := 92) hx hb dX12_readText_84 (by decide) (fun c10 => ?_) (fun c10 => ?_)
        · have h := oif_pos c10 h
          have hl := lv_sub hl [0] rfl
          exact tr_readText_b92 E hA hR hml hA0 hT kr116 _ _ _ _ h G hl
        · have h := oif_neg c10 h
          refine lv_aload_n hx hb dX12_readText_87 rfl (lv_at hl 0 rfl) ?_
          refine lv_iconst (v := 1) hx hb dX12_readText_88 (by decide) ?_
          obtain ⟨S11, eS11, h⟩ := obind_some h
          refine m_callv (As := [.int 1]) (rest := []) E G hA hR hml (tr_faults l D cI cJ cZ ad S2 1 eS11) (cwV 1 hts (gmV qM_118 qM_119 qM_120 qM_35 qM_42) rfl rfl rfl (by decide +kernel) ⟨Nat.le_of_ble_eq_true rfl, Nat.le_of_ble_eq_true rfl⟩) rfl hl.1 rfl (lv_room (Nat.le_of_ble_eq_true rfl)) dX12_readText_89 ⟨Nat.zero_le _, Nat.zero_le _⟩ (fun S13 H locs hq G => ?_)
          rw [hq] at G
          clear hq eS11
          have hl := lv_sub hl [0] rfl
          exact tr_readText_b92 E hA hR hml hA0 hT kr116 _ _ _ _ h G hl
    · have h := oif_neg c6 h
      refine lv_aload_n hx hb dX12_readText_61 rfl (lv_at hl 0 rfl) ?_
      obtain ⟨S14, eS14, h⟩ := obind_some h
      refine m_callv (As := []) (rest := []) E G hA hR hml (tr_nextToken l D cI cJ cZ ad S2 eS14) (cwV 0 hts (gmV qM_111 qM_112 qM_113 qM_35 qM_45) rfl rfl rfl (by decide +kernel) ⟨Nat.le_of_ble_eq_true rfl, Nat.le_of_ble_eq_true rfl⟩) rfl hl.1 rfl (lv_room (Nat.le_of_ble_eq_true rfl)) dX12_readText_62 ⟨Nat.zero_le _, Nat.zero_le _⟩ (fun S16 H locs hq G => ?_)
      rw [hq] at G
      clear hq eS14
      refine lv_aload_n hx hb dX12_readText_65 rfl (lv_at hl 0 rfl) ?_
      obtain ⟨S17, eS17, h⟩ := obind_some h
      refine m_callvX (As := []) (rest := []) E G hA hR hml (tr_readLine l D cI cJ cZ ad S14 h0 eS17) (cwV 0 hts (gmV qM_189 qM_190 qM_191 qM_35 qM_154) rfl rfl rfl (by decide +kernel) ⟨Nat.le_of_ble_eq_true rfl, Nat.le_of_ble_eq_true rfl⟩) rfl hl.1 rfl (lv_room (Nat.le_of_ble_eq_true rfl)) dX12_readText_66 ⟨Nat.zero_le _, Nat.zero_le _⟩ (xT0.blind) (xT0.go hT hA0 hA G) (fun S19 H locs hq G => ?_)
      rw [hq] at G
      clear hq eS17
      refine lv_goto (tgt := 52) hx hb dX12_readText_69 (by decide) ?_
      have hl := lv_sub hl [0] rfl
      exact ih _ _ _ _ h G hl
def fr_readText_b24  : Nat → MS → Int32 → Option (MS)
  | 0, _, _ => none
  | n + 1, S, l1 => if 2455 ≤ l1 then (obind (fr_nextToken S) fun S3 => obind (fr_readFirst S3) fun S6 => fr_readText_b52 16384 S6) else (oif (inb l1 2455 = true) <| elet (mf S 13 (upd (S.2.1 13) l1.toNatClampNeg 0)) fun S10 => elet (l1 + Int32.ofInt (1)) fun v11 => fr_readText_b24 n S10 v11)
set_option maxHeartbeats 4000000 in
set_option maxRecDepth 100000 in
theorem tr_readText_b24 {p : Program} {l : Launch} {e : Env} {s : State} {m : MethodId} {args : Array Value} {below : List Frame} {meth : Method} {c : Code} {Q : State → Prop} {D : va_G} {A : Nat → Prop} {cI cJ cZ : ClassId} {ad : Nat → Nat} {S1 : MS} (E : mE p c cX12_readText s m args (Cond.code yX12_readText cX12_readText 2 none :: wsM) D cI cJ cZ) (hA : ∀ q : Nat, s.heap.size ≤ q → A q) (hR : sR s) (hml : c.maxLocals = 2) {h0 : Nat} (hA0 : ∀ a : Nat, A a → h0 ≤ a) (hT : sAll h0 s) (kr116 : ∀ (H : Heap) (locs : List Loc) (ls : Array Slot), mG D cI cJ cZ ad A s.heap H locs S1 → W p l e { frames := 10, cells := 0, slots := 0, locals := 195 } s m args below meth c H locs 0 0 Q (F0 m 116 ls [])) : ∀ n : Nat, ∀ (S : MS) (H : Heap) (locs : List Loc) (ls : Array Slot) (l1 : Int32), fr_readText_b24 n S l1 = some S1 → mG D cI cJ cZ ad A s.heap H locs S → lv_has ls 2 [(0, .ref (ad 0)), (1, .int l1)] → W p l e { frames := 10, cells := 0, slots := 0, locals := 195 } s m args below meth c H locs 0 0 Q (F0 m 24 ls []) := by
  have hx := E.1
  have hb := E.2.1
  have hts := E.2.2.1
  have hown := E.2.2.2.1
  have hK := E.2.2.2.2.1
  intro n
  induction n with
  | zero =>
    intro S H locs ls l1 h
    have h : (none : Option (MS)) = some S1 := h
    cases h
  | succ n ih =>
    intro S H locs ls l1 h G hl
    unfold fr_readText_b24 at h
    refine lv_iload_n hx hb dX12_readText_24 rfl (lv_at hl 1 rfl) ?_
    refine lv_sipush (v := 2455) hx hb dX12_readText_25 (by decide) ?_
    refine lv_icmp_ge (tgt := 44) hx hb dX12_readText_28 (by decide) (fun c2 => ?_) (fun c2 => ?_)
    · have h := oif_pos c2 h
      refine lv_aload_n hx hb dX12_readText_44 rfl (lv_at hl 0 rfl) ?_
      obtain ⟨S3, eS3, h⟩ := obind_some h
      refine m_callv (As := []) (rest := []) E G hA hR hml (tr_nextToken l D cI cJ cZ ad S eS3) (cwV 0 hts (gmV qM_111 qM_112 qM_113 qM_35 qM_45) rfl rfl rfl (by decide +kernel) ⟨Nat.le_of_ble_eq_true rfl, Nat.le_of_ble_eq_true rfl⟩) rfl hl.1 rfl (lv_room (Nat.le_of_ble_eq_true rfl)) dX12_readText_45 ⟨Nat.zero_le _, Nat.zero_le _⟩ (fun S5 H locs hq G => ?_)
      rw [hq] at G
      clear hq eS3
      refine lv_aload_n hx hb dX12_readText_48 rfl (lv_at hl 0 rfl) ?_
      obtain ⟨S6, eS6, h⟩ := obind_some h
      refine m_callvX (As := []) (rest := []) E G hA hR hml (tr_readFirst l D cI cJ cZ ad S3 h0 eS6) (cwV 0 hts (gmV qM_186 qM_187 qM_188 qM_35 qM_137) rfl rfl rfl (by decide +kernel) ⟨Nat.le_of_ble_eq_true rfl, Nat.le_of_ble_eq_true rfl⟩) rfl hl.1 rfl (lv_room (Nat.le_of_ble_eq_true rfl)) dX12_readText_49 ⟨Nat.zero_le _, Nat.zero_le _⟩ (xT0.blind) (xT0.go hT hA0 hA G) (fun S8 H locs hq G => ?_)
      rw [hq] at G
      clear hq eS6
      have hl := lv_sub hl [0] rfl
      exact tr_readText_b52 E hA hR hml hA0 hT kr116 _ _ _ _ _ h G hl
    · have h := oif_neg c2 h
      refine lv_aload_n hx hb dX12_readText_31 rfl (lv_at hl 0 rfl) ?_
      refine m_get E G 13 (v := .ref (ad 13)) (by decide) (.tail _ qM_10) rfl dX12_readText_32 rfl ?_
      refine lv_iload_n hx hb dX12_readText_35 rfl (lv_at hl 1 rfl) ?_
      refine lv_iconst (v := 0) hx hb dX12_readText_36 (by decide) ?_
      obtain ⟨g9, h⟩ := oif_some h
      refine m_iast E G 13 5 (k := l1.toNatClampNeg) (v := 0) rfl (fun _ => rfl) (inb_k g9).1 (inb_k g9).2 (by decide) dX12_readText_37 (fun H locs G => ?_)
      obtain ⟨S10, eS10, h⟩ := elet_some h
      rw [← eS10] at G
      clear eS10
      obtain ⟨v11, ev11, h⟩ := elet_some h
      refine lv_iinc (v := v11) (lv' := [(1, .int v11), (0, .ref (ad 0))]) hx hb dX12_readText_38 hl (k := 1) rfl ev11.symm (by decide) rfl (fun ls hl => ?_)
      refine lv_goto (tgt := 24) hx hb dX12_readText_41 (by decide) ?_
      have hl := lv_sub hl [1, 0] rfl
      exact ih _ _ _ _ _ h G hl
def fr_readText_b2  : Nat → MS → Int32 → Option (MS)
  | 0, _, _ => none
  | n + 1, S, l1 => if 131 ≤ l1 then (fr_readText_b24 16384 S 0) else (oif (inb l1 131 = true) <| elet (mf S 11 (upd (S.2.1 11) l1.toNatClampNeg 0)) fun S4 => elet (l1 + Int32.ofInt (1)) fun v5 => fr_readText_b2 n S4 v5)
set_option maxHeartbeats 4000000 in
set_option maxRecDepth 100000 in
theorem tr_readText_b2 {p : Program} {l : Launch} {e : Env} {s : State} {m : MethodId} {args : Array Value} {below : List Frame} {meth : Method} {c : Code} {Q : State → Prop} {D : va_G} {A : Nat → Prop} {cI cJ cZ : ClassId} {ad : Nat → Nat} {S1 : MS} (E : mE p c cX12_readText s m args (Cond.code yX12_readText cX12_readText 2 none :: wsM) D cI cJ cZ) (hA : ∀ q : Nat, s.heap.size ≤ q → A q) (hR : sR s) (hml : c.maxLocals = 2) {h0 : Nat} (hA0 : ∀ a : Nat, A a → h0 ≤ a) (hT : sAll h0 s) (kr116 : ∀ (H : Heap) (locs : List Loc) (ls : Array Slot), mG D cI cJ cZ ad A s.heap H locs S1 → W p l e { frames := 10, cells := 0, slots := 0, locals := 195 } s m args below meth c H locs 0 0 Q (F0 m 116 ls [])) : ∀ n : Nat, ∀ (S : MS) (H : Heap) (locs : List Loc) (ls : Array Slot) (l1 : Int32), fr_readText_b2 n S l1 = some S1 → mG D cI cJ cZ ad A s.heap H locs S → lv_has ls 2 [(0, .ref (ad 0)), (1, .int l1)] → W p l e { frames := 10, cells := 0, slots := 0, locals := 195 } s m args below meth c H locs 0 0 Q (F0 m 2 ls []) := by
  have hx := E.1
  have hb := E.2.1
  have hts := E.2.2.1
  have hown := E.2.2.2.1
  have hK := E.2.2.2.2.1
  intro n
  induction n with
  | zero =>
    intro S H locs ls l1 h
    have h : (none : Option (MS)) = some S1 := h
    cases h
  | succ n ih =>
    intro S H locs ls l1 h G hl
    unfold fr_readText_b2 at h
    refine lv_iload_n hx hb dX12_readText_2 rfl (lv_at hl 1 rfl) ?_
    refine lv_sipush (v := 131) hx hb dX12_readText_3 (by decide) ?_
    refine lv_icmp_ge (tgt := 22) hx hb dX12_readText_6 (by decide) (fun c2 => ?_) (fun c2 => ?_)
    · have h := oif_pos c2 h
      refine lv_iconst (v := 0) hx hb dX12_readText_22 (by decide) ?_
      refine lv_istore_n (lv' := [(1, .int 0), (0, .ref (ad 0))]) hx hb dX12_readText_23 rfl hl (by decide) rfl (fun ls hl => ?_)
      have hl := lv_sub hl [1, 0] rfl
      exact tr_readText_b24 E hA hR hml hA0 hT kr116 _ _ _ _ _ _ h G hl
    · have h := oif_neg c2 h
      refine lv_aload_n hx hb dX12_readText_9 rfl (lv_at hl 0 rfl) ?_
      refine m_get E G 11 (v := .ref (ad 11)) (by decide) (.tail _ qM_8) rfl dX12_readText_10 rfl ?_
      refine lv_iload_n hx hb dX12_readText_13 rfl (lv_at hl 1 rfl) ?_
      refine lv_iconst (v := 0) hx hb dX12_readText_14 (by decide) ?_
      obtain ⟨g3, h⟩ := oif_some h
      refine m_iast E G 11 3 (k := l1.toNatClampNeg) (v := 0) rfl (fun _ => rfl) (inb_k g3).1 (inb_k g3).2 (by decide) dX12_readText_15 (fun H locs G => ?_)
      obtain ⟨S4, eS4, h⟩ := elet_some h
      rw [← eS4] at G
      clear eS4
      obtain ⟨v5, ev5, h⟩ := elet_some h
      refine lv_iinc (v := v5) (lv' := [(1, .int v5), (0, .ref (ad 0))]) hx hb dX12_readText_16 hl (k := 1) rfl ev5.symm (by decide) rfl (fun ls hl => ?_)
      refine lv_goto (tgt := 2) hx hb dX12_readText_19 (by decide) ?_
      have hl := lv_sub hl [1, 0] rfl
      exact ih _ _ _ _ _ h G hl
def fr_readText (S : MS)  : Option (MS) := fr_readText_b2 16384 S 0
set_option maxHeartbeats 4000000 in
set_option maxRecDepth 100000 in
theorem tr_readText (l : Launch) (D : va_G) (cI cJ cZ : ClassId) (ad : Nat → Nat) (S : MS) (h0 : Nat)  {S1 : MS} (h : fr_readText S = some S1) : mCvX l yX12_readText (Cond.code yX12_readText cX12_readText 2 none :: wsM) 10 195 D cI cJ cZ ad S [] (xT0 cI cJ cZ h0 ad S) (fun S9 => S9 = S1) := by
  intro sz
  refine Met.ofW (cc := cX12_readText) (maxL := 2) (ret := none) (by decide) rfl ?_
  intro p e s m args below meth c s₁ B hml hv
  obtain ⟨rfl, ⟨hsz, hP, hK, hD0, hR⟩, hA1, hT⟩ := hv
  have hx := B.exec
  have hb := B.bytes
  have hr := B.returns
  have hts := atoms_spec (ws := (Cond.code yX12_readText cX12_readText 2 none :: wsM)) B.pre
  have hown : s.vm.findClass RX12 = some m.cls := findClass_of_methodNamed B.named
  have hlocks := B.notSynchronized
  subst hsz
  have hD := hD0.self (sz := s.heap.size)
  generalize hAe : va_A (MW cI cJ cZ ad S) s.heap.size = A at hD hA1 ⊢
  have hA : ∀ q : Nat, s.heap.size ≤ q → A q := fun q h => by rw [← hAe]; exact Or.inr h
  have G : mG D cI cJ cZ ad A s.heap s.heap [] S := ⟨hP, hD, va_S.rf⟩
  have E : mE p c cX12_readText s m ([.ref (ad 0)] : List Value).toArray (Cond.code yX12_readText cX12_readText 2 none :: wsM) D cI cJ cZ := ⟨hx, hb, hts, hown, hK, fun w h => .tail _ (iM_x h)⟩
  have hA0 : ∀ a : Nat, A a → h0 ≤ a := hA1
  have hl := lv_entry ([.ref (ad 0)]) (n := 2) (Nat.le_of_ble_eq_true rfl)
  rw [lg_entry_eq]
  generalize (lg_sl ([.ref (ad 0)]) ++ List.replicate (2 - (lg_sl ([.ref (ad 0)])).length) Slot.unset).toArray = ls at hl ⊢
  have hl : lv_has ls 2 [(0, .ref (ad 0))] := hl
  unfold fr_readText at h
  refine lv_iconst (v := 0) hx hb dX12_readText_0 (by decide) ?_
  refine lv_istore_n (lv' := [(1, .int 0), (0, .ref (ad 0))]) hx hb dX12_readText_1 rfl hl (by decide) rfl (fun ls hl => ?_)
  have hl := lv_sub hl [1, 0] rfl
  exact tr_readText_b2 E hA hR hml hA0 hT (fun H locs ls G => W.vret hx hb hr (fun t ht hW => ⟨⟨S1, rfl, rfl, ⟨by rw [ht]; exact G.1, va_K.moved hW.alike hK, G.2.1⟩⟩, G.2.2.F ht⟩) G.2.2.2.2 dX12_readText_116) _ _ _ _ _ _ h G hl
def fr_copy_13_12_b3  : Nat → MS → Int32 → Int32 → Int32 → Option (MS)
  | 0, _, _, _, _ => none
  | n + 1, S, l1, l3, l4 => if 2455 ≤ l4 then (some S) else (elet (l3 + l4) fun v3 => elet (l1 + l4) fun v4 => oif (inb v4 2455 = true) <| elet (S.2.1 13 v4.toNatClampNeg) fun v6 => oif (inb v3 2455 = true) <| elet (mf S 12 (upd (S.2.1 12) v3.toNatClampNeg v6)) fun S8 => elet (l4 + Int32.ofInt (1)) fun v9 => fr_copy_13_12_b3 n S8 l1 l3 v9)
set_option maxHeartbeats 4000000 in
set_option maxRecDepth 100000 in
theorem tr_copy_13_12_b3 {p : Program} {l : Launch} {e : Env} {s : State} {m : MethodId} {args : Array Value} {below : List Frame} {meth : Method} {c : Code} {Q : State → Prop} {D : va_G} {A : Nat → Prop} {H0 : Heap} {cI cJ cZ : ClassId} {ad : Nat → Nat} {S1 : MS} (E : mE p c cX12_copy s m args (Cond.code yX12_copy cX12_copy 5 none :: wsM) D cI cJ cZ) (hA : ∀ q : Nat, H0.size ≤ q → A q) (hR : sR s) (hml : c.maxLocals = 5) (kr29 : ∀ (H : Heap) (locs : List Loc) (ls : Array Slot), mG D cI cJ cZ ad A H0 H locs S1 → W p l e { frames := 1, cells := 0, slots := 0, locals := 0 } s m args below meth c H locs 0 0 Q (F0 m 29 ls [])) : ∀ n : Nat, ∀ (S : MS) (H : Heap) (locs : List Loc) (ls : Array Slot) (l1 : Int32) (l3 : Int32) (l4 : Int32), fr_copy_13_12_b3 n S l1 l3 l4 = some S1 → mG D cI cJ cZ ad A H0 H locs S → lv_has ls 5 [(0, .ref (ad 13)), (1, .int l1), (2, .ref (ad 12)), (3, .int l3), (4, .int l4)] → W p l e { frames := 1, cells := 0, slots := 0, locals := 0 } s m args below meth c H locs 0 0 Q (F0 m 3 ls []) := by
  have hx := E.1
  have hb := E.2.1
  have hts := E.2.2.1
  have hown := E.2.2.2.1
  have hK := E.2.2.2.2.1
  intro n
  induction n with
  | zero =>
    intro S H locs ls l1 l3 l4 h
    have h : (none : Option (MS)) = some S1 := h
    cases h
  | succ n ih =>
    intro S H locs ls l1 l3 l4 h G hl
    unfold fr_copy_13_12_b3 at h
    refine lv_iload hx hb dX12_copy_3 (lv_at hl 4 rfl) ?_
    refine lv_sipush (v := 2455) hx hb dX12_copy_5 (by decide) ?_
    refine lv_icmp_ge (tgt := 29) hx hb dX12_copy_8 (by decide) (fun c2 => ?_) (fun c2 => ?_)
    · have h := oif_pos c2 h
      rw [osome1 h] at G
      exact kr29 _ _ _ G
    · have h := oif_neg c2 h
      refine lv_aload_n hx hb dX12_copy_11 rfl (lv_at hl 2 rfl) ?_
      refine lv_iload_n hx hb dX12_copy_12 rfl (lv_at hl 3 rfl) ?_
      refine lv_iload hx hb dX12_copy_13 (lv_at hl 4 rfl) ?_
      refine lv_iadd hx hb dX12_copy_15 ?_
      refine lv_topi (fun v3 ev3 => ?_)
      have h := elet_at ev3 h
      clear ev3
      refine lv_aload_n hx hb dX12_copy_16 rfl (lv_at hl 0 rfl) ?_
      refine lv_iload_n hx hb dX12_copy_17 rfl (lv_at hl 1 rfl) ?_
      refine lv_iload hx hb dX12_copy_18 (lv_at hl 4 rfl) ?_
      refine lv_iadd hx hb dX12_copy_20 ?_
      refine lv_topi (fun v4 ev4 => ?_)
      have h := elet_at ev4 h
      clear ev4
      obtain ⟨g5, h⟩ := oif_some h
      refine m_iald E G 13 5 (n := 2455) (k := v4.toNatClampNeg) rfl (inb_k g5).1 (inb_k g5).2 (by decide) dX12_copy_21 ?_
      refine lv_topi (fun v6 ev6 => ?_)
      have h := elet_at ev6 h
      clear ev6
      obtain ⟨g7, h⟩ := oif_some h
      refine m_iast E G 12 4 (k := v3.toNatClampNeg) (v := v6) rfl (fun _ => rfl) (inb_k g7).1 (inb_k g7).2 (by decide) dX12_copy_22 (fun H locs G => ?_)
      obtain ⟨S8, eS8, h⟩ := elet_some h
      rw [← eS8] at G
      clear eS8
      obtain ⟨v9, ev9, h⟩ := elet_some h
      refine lv_iinc (v := v9) (lv' := [(4, .int v9), (0, .ref (ad 13)), (1, .int l1), (2, .ref (ad 12)), (3, .int l3)]) hx hb dX12_copy_23 hl (k := 4) rfl ev9.symm (by decide) rfl (fun ls hl => ?_)
      refine lv_goto (tgt := 3) hx hb dX12_copy_26 (by decide) ?_
      have hl := lv_sub hl [1, 2, 3, 4, 0] rfl
      exact ih _ _ _ _ _ _ _ h G hl
def fr_copy_13_12 (S : MS) (a1 : Int32) (a3 : Int32) : Option (MS) := fr_copy_13_12_b3 16384 S a1 a3 0
set_option maxHeartbeats 4000000 in
set_option maxRecDepth 100000 in
theorem tr_copy_13_12 (l : Launch) (D : va_G) (cI cJ cZ : ClassId) (ad : Nat → Nat) (S : MS) (a1 : Int32) (a3 : Int32) {S1 : MS} (h : fr_copy_13_12 S a1 a3 = some S1) : mCs l yX12_copy (Cond.code yX12_copy cX12_copy 5 none :: wsM) 1 0 D cI cJ cZ ad S [.ref (ad 13), .int a1, .ref (ad 12), .int a3] (fun S9 => S9 = S1) := by
  intro sz
  refine Met.ofW (cc := cX12_copy) (maxL := 5) (ret := none) (by decide) rfl ?_
  intro p e s m args below meth c s₁ B hml hv
  obtain ⟨rfl, hsz, hP, hK, hD0, hR⟩ := hv
  have hx := B.exec
  have hb := B.bytes
  have hr := B.returns
  have hts := atoms_spec (ws := (Cond.code yX12_copy cX12_copy 5 none :: wsM)) B.pre
  have hown : s.vm.findClass RX12 = some m.cls := findClass_of_methodNamed B.named
  have hlocks := B.notSynchronized
  subst hsz
  have hD := hD0.self (sz := s.heap.size)
  generalize hAe : va_A (MW cI cJ cZ ad S) s.heap.size = A at hD ⊢
  have hA : ∀ q : Nat, s.heap.size ≤ q → A q := fun q h => by rw [← hAe]; exact Or.inr h
  have G : mG D cI cJ cZ ad A s.heap s.heap [] S := ⟨hP, hD, va_S.rf⟩
  have E : mE p c cX12_copy s m ([.ref (ad 13), .int a1, .ref (ad 12), .int a3] : List Value).toArray (Cond.code yX12_copy cX12_copy 5 none :: wsM) D cI cJ cZ := ⟨hx, hb, hts, hown, hK, fun w h => .tail _ (iM_x h)⟩
  have hl := lv_entry ([.ref (ad 13), .int a1, .ref (ad 12), .int a3]) (n := 5) (Nat.le_of_ble_eq_true rfl)
  rw [lg_entry_eq]
  generalize (lg_sl ([.ref (ad 13), .int a1, .ref (ad 12), .int a3]) ++ List.replicate (5 - (lg_sl ([.ref (ad 13), .int a1, .ref (ad 12), .int a3])).length) Slot.unset).toArray = ls at hl ⊢
  have hl : lv_has ls 5 [(0, .ref (ad 13)), (1, .int a1), (2, .ref (ad 12)), (3, .int a3)] := hl
  unfold fr_copy_13_12 at h
  refine lv_iconst (v := 0) hx hb dX12_copy_0 (by decide) ?_
  refine lv_istore (lv' := [(4, .int 0), (0, .ref (ad 13)), (1, .int a1), (2, .ref (ad 12)), (3, .int a3)]) hx hb dX12_copy_1 hl (by decide) rfl (fun ls hl => ?_)
  have hl := lv_sub hl [1, 2, 3, 4, 0] rfl
  exact tr_copy_13_12_b3 E hA hR hml (fun H locs ls G => W.vret hx hb hr (fun t ht hW => ⟨⟨S1, rfl, rfl, ⟨by rw [ht]; exact G.1, va_K.moved hW.alike hK, G.2.1⟩⟩, G.2.2.F ht⟩) G.2.2.2.2 dX12_copy_29) _ _ _ _ _ _ _ _ h G hl
def fr_cellCount (S : MS)  : Option (Int32 × MS) := elet (S.2.1 10 9) fun v2 => elet (S.2.1 10 10) fun v3 => elet (v2 * v3) fun v4 => some (v4, S)
set_option maxHeartbeats 4000000 in
set_option maxRecDepth 100000 in
theorem tr_cellCount (l : Launch) (D : va_G) (cI cJ cZ : ClassId) (ad : Nat → Nat) (S : MS)  {r1 : Int32} {S1 : MS} (h : fr_cellCount S = some (r1, S1)) : mCi l yX12_cellCount (Cond.code yX12_cellCount cX12_cellCount 1 (some .int) :: wsM) 1 0 D cI cJ cZ ad S [] (fun r S9 => r = r1 ∧ S9 = S1) := by
  intro sz
  refine Met.ofW (cc := cX12_cellCount) (maxL := 1) (ret := (some .int)) (by decide) rfl ?_
  intro p e s m args below meth c s₁ B hml hv
  obtain ⟨rfl, hsz, hP, hK, hD0, hR⟩ := hv
  have hx := B.exec
  have hb := B.bytes
  have hr := B.returns
  have hts := atoms_spec (ws := (Cond.code yX12_cellCount cX12_cellCount 1 (some .int) :: wsM)) B.pre
  have hown : s.vm.findClass RX12 = some m.cls := findClass_of_methodNamed B.named
  have hlocks := B.notSynchronized
  subst hsz
  have hD := hD0.self (sz := s.heap.size)
  generalize hAe : va_A (MW cI cJ cZ ad S) s.heap.size = A at hD ⊢
  have hA : ∀ q : Nat, s.heap.size ≤ q → A q := fun q h => by rw [← hAe]; exact Or.inr h
  have G : mG D cI cJ cZ ad A s.heap s.heap [] S := ⟨hP, hD, va_S.rf⟩
  have E : mE p c cX12_cellCount s m ([.ref (ad 0)] : List Value).toArray (Cond.code yX12_cellCount cX12_cellCount 1 (some .int) :: wsM) D cI cJ cZ := ⟨hx, hb, hts, hown, hK, fun w h => .tail _ (iM_x h)⟩
  have hl := lv_entry ([.ref (ad 0)]) (n := 1) (Nat.le_of_ble_eq_true rfl)
  rw [lg_entry_eq]
  generalize (lg_sl ([.ref (ad 0)]) ++ List.replicate (1 - (lg_sl ([.ref (ad 0)])).length) Slot.unset).toArray = ls at hl ⊢
  have hl : lv_has ls 1 [(0, .ref (ad 0))] := hl
  unfold fr_cellCount at h
  refine lv_aload_n hx hb dX12_cellCount_0 rfl (lv_at hl 0 rfl) ?_
  refine m_get E G 10 (v := .ref (ad 10)) (by decide) (.tail _ qM_7) rfl dX12_cellCount_1 rfl ?_
  refine lv_bipush (v := 9) hx hb dX12_cellCount_4 (by decide) ?_
  refine m_iald E G 10 2 (n := 131) (k := 9) rfl rfl (by decide) (by decide) dX12_cellCount_6 ?_
  refine lv_topi (fun v2 ev2 => ?_)
  have h := elet_at ev2 h
  clear ev2
  refine lv_aload_n hx hb dX12_cellCount_7 rfl (lv_at hl 0 rfl) ?_
  refine m_get E G 10 (v := .ref (ad 10)) (by decide) (.tail _ qM_7) rfl dX12_cellCount_8 rfl ?_
  refine lv_bipush (v := 10) hx hb dX12_cellCount_11 (by decide) ?_
  refine m_iald E G 10 2 (n := 131) (k := 10) rfl rfl (by decide) (by decide) dX12_cellCount_13 ?_
  refine lv_topi (fun v3 ev3 => ?_)
  have h := elet_at ev3 h
  clear ev3
  refine lv_imul hx hb dX12_cellCount_14 ?_
  refine lv_topi (fun v4 ev4 => ?_)
  have h := elet_at ev4 h
  clear ev4
  exact W.iret (v := v4) hx hb hr (fun t ht hW => ⟨⟨v4, S, rfl, osome2 h, ⟨by rw [ht]; exact G.1, va_K.moved hW.alike hK, G.2.1⟩⟩, G.2.2.F ht⟩) G.2.2.2.2 dX12_cellCount_15
def fr_centre_b57  (S : MS) (s0 : Int32) : Option (Int32 × MS) := some (s0, S)
set_option maxHeartbeats 4000000 in
set_option maxRecDepth 100000 in
theorem tr_centre_b57 {p : Program} {l : Launch} {e : Env} {s : State} {m : MethodId} {args : Array Value} {below : List Frame} {meth : Method} {c : Code} {Q : State → Prop} {D : va_G} {A : Nat → Prop} {H0 : Heap} {cI cJ cZ : ClassId} {ad : Nat → Nat} {r1 : Int32} {S1 : MS} (E : mE p c cX12_centre s m args (Cond.code yX12_centre cX12_centre 3 (some .int) :: wsM) D cI cJ cZ) (hA : ∀ q : Nat, H0.size ≤ q → A q) (hR : sR s) (hml : c.maxLocals = 3) (kr57 : ∀ (H : Heap) (locs : List Loc) (ls : Array Slot), mG D cI cJ cZ ad A H0 H locs S1 → W p l e { frames := 1, cells := 0, slots := 0, locals := 0 } s m args below meth c H locs 0 0 Q (F0 m 57 ls [.int r1])) : ∀ (S : MS) (H : Heap) (locs : List Loc) (ls : Array Slot) (s0 : Int32), fr_centre_b57 S s0 = some (r1, S1) → mG D cI cJ cZ ad A H0 H locs S → lv_has ls 3 [] → W p l e { frames := 1, cells := 0, slots := 0, locals := 0 } s m args below meth c H locs 0 0 Q (F0 m 57 ls [.int s0]) := by
  have hx := E.1
  have hb := E.2.1
  have hts := E.2.2.1
  have hown := E.2.2.2.1
  have hK := E.2.2.2.2.1
  intro S H locs ls s0 h G hl
  unfold fr_centre_b57 at h
  rw [(osome2 h).2] at G
  refine lv_to (osome2 h).1 ?_
  exact kr57 _ _ _ G
def fr_centre (S : MS) (a0 : Int32) (a1 : Int32) : Option (Int32 × MS) := if a1 = 0 then (elet (S.2.1 10 6) fun v3 => elet (S.2.1 10 8) fun v4 => elet (S.2.1 10 9) fun v5 => oif (¬ v5 = 0) <| elet (a0 - a0 / v5 * v5) fun v7 => elet (v4 * v7) fun v8 => elet (v3 + v8) fun v9 => fr_centre_b57 S v9) else (elet (S.2.1 10 7) fun v10 => elet (S.2.1 10 8) fun v11 => elet (S.2.1 10 9) fun v12 => oif (¬ v12 = 0) <| elet (a0 / v12) fun v14 => elet (v11 * v14) fun v15 => elet (v10 + v15) fun v16 => fr_centre_b57 S v16)
set_option maxHeartbeats 4000000 in
set_option maxRecDepth 100000 in
theorem tr_centre (l : Launch) (D : va_G) (cI cJ cZ : ClassId) (ad : Nat → Nat) (S : MS) (a0 : Int32) (a1 : Int32) {r1 : Int32} {S1 : MS} (h : fr_centre S a0 a1 = some (r1, S1)) : mCi l yX12_centre (Cond.code yX12_centre cX12_centre 3 (some .int) :: wsM) 1 0 D cI cJ cZ ad S [.int a0, .int a1] (fun r S9 => r = r1 ∧ S9 = S1) := by
  intro sz
  refine Met.ofW (cc := cX12_centre) (maxL := 3) (ret := (some .int)) (by decide) rfl ?_
  intro p e s m args below meth c s₁ B hml hv
  obtain ⟨rfl, hsz, hP, hK, hD0, hR⟩ := hv
  have hx := B.exec
  have hb := B.bytes
  have hr := B.returns
  have hts := atoms_spec (ws := (Cond.code yX12_centre cX12_centre 3 (some .int) :: wsM)) B.pre
  have hown : s.vm.findClass RX12 = some m.cls := findClass_of_methodNamed B.named
  have hlocks := B.notSynchronized
  subst hsz
  have hD := hD0.self (sz := s.heap.size)
  generalize hAe : va_A (MW cI cJ cZ ad S) s.heap.size = A at hD ⊢
  have hA : ∀ q : Nat, s.heap.size ≤ q → A q := fun q h => by rw [← hAe]; exact Or.inr h
  have G : mG D cI cJ cZ ad A s.heap s.heap [] S := ⟨hP, hD, va_S.rf⟩
  have E : mE p c cX12_centre s m ([.ref (ad 0), .int a0, .int a1] : List Value).toArray (Cond.code yX12_centre cX12_centre 3 (some .int) :: wsM) D cI cJ cZ := ⟨hx, hb, hts, hown, hK, fun w h => .tail _ (iM_x h)⟩
  have hl := lv_entry ([.ref (ad 0), .int a0, .int a1]) (n := 3) (Nat.le_of_ble_eq_true rfl)
  rw [lg_entry_eq]
  generalize (lg_sl ([.ref (ad 0), .int a0, .int a1]) ++ List.replicate (3 - (lg_sl ([.ref (ad 0), .int a0, .int a1])).length) Slot.unset).toArray = ls at hl ⊢
  have hl : lv_has ls 3 [(0, .ref (ad 0)), (1, .int a0), (2, .int a1)] := hl
  unfold fr_centre at h
  refine lv_iload_n hx hb dX12_centre_0 rfl (lv_at hl 2 rfl) ?_
  refine lv_if_ne (tgt := 32) hx hb dX12_centre_1 (by decide) (fun c2 => ?_) (fun c2 => ?_)
  · have h := oif_neg c2 h
    refine lv_aload_n hx hb dX12_centre_32 rfl (lv_at hl 0 rfl) ?_
    refine m_get E G 10 (v := .ref (ad 10)) (by decide) (.tail _ qM_7) rfl dX12_centre_33 rfl ?_
    refine lv_bipush (v := 7) hx hb dX12_centre_36 (by decide) ?_
    refine m_iald E G 10 2 (n := 131) (k := 7) rfl rfl (by decide) (by decide) dX12_centre_38 ?_
    refine lv_topi (fun v10 ev10 => ?_)
    have h := elet_at ev10 h
    clear ev10
    refine lv_aload_n hx hb dX12_centre_39 rfl (lv_at hl 0 rfl) ?_
    refine m_get E G 10 (v := .ref (ad 10)) (by decide) (.tail _ qM_7) rfl dX12_centre_40 rfl ?_
    refine lv_bipush (v := 8) hx hb dX12_centre_43 (by decide) ?_
    refine m_iald E G 10 2 (n := 131) (k := 8) rfl rfl (by decide) (by decide) dX12_centre_45 ?_
    refine lv_topi (fun v11 ev11 => ?_)
    have h := elet_at ev11 h
    clear ev11
    refine lv_iload_n hx hb dX12_centre_46 rfl (lv_at hl 1 rfl) ?_
    refine lv_aload_n hx hb dX12_centre_47 rfl (lv_at hl 0 rfl) ?_
    refine m_get E G 10 (v := .ref (ad 10)) (by decide) (.tail _ qM_7) rfl dX12_centre_48 rfl ?_
    refine lv_bipush (v := 9) hx hb dX12_centre_51 (by decide) ?_
    refine m_iald E G 10 2 (n := 131) (k := 9) rfl rfl (by decide) (by decide) dX12_centre_53 ?_
    refine lv_topi (fun v12 ev12 => ?_)
    have h := elet_at ev12 h
    clear ev12
    obtain ⟨g13, h⟩ := oif_some h
    refine lv_idiv hx hb dX12_centre_54 g13 ?_
    refine lv_topi (fun v14 ev14 => ?_)
    have h := elet_at ev14 h
    clear ev14
    refine lv_imul hx hb dX12_centre_55 ?_
    refine lv_topi (fun v15 ev15 => ?_)
    have h := elet_at ev15 h
    clear ev15
    refine lv_iadd hx hb dX12_centre_56 ?_
    refine lv_topi (fun v16 ev16 => ?_)
    have h := elet_at ev16 h
    clear ev16
    have hl := lv_sub hl [] rfl
    exact tr_centre_b57 E hA hR hml (fun H locs ls G => W.iret (v := r1) hx hb hr (fun t ht hW => ⟨⟨r1, S1, rfl, ⟨rfl, rfl⟩, ⟨by rw [ht]; exact G.1, va_K.moved hW.alike hK, G.2.1⟩⟩, G.2.2.F ht⟩) G.2.2.2.2 dX12_centre_57) _ _ _ _ _ h G hl
  · have h := oif_pos c2 h
    refine lv_aload_n hx hb dX12_centre_4 rfl (lv_at hl 0 rfl) ?_
    refine m_get E G 10 (v := .ref (ad 10)) (by decide) (.tail _ qM_7) rfl dX12_centre_5 rfl ?_
    refine lv_bipush (v := 6) hx hb dX12_centre_8 (by decide) ?_
    refine m_iald E G 10 2 (n := 131) (k := 6) rfl rfl (by decide) (by decide) dX12_centre_10 ?_
    refine lv_topi (fun v3 ev3 => ?_)
    have h := elet_at ev3 h
    clear ev3
    refine lv_aload_n hx hb dX12_centre_11 rfl (lv_at hl 0 rfl) ?_
    refine m_get E G 10 (v := .ref (ad 10)) (by decide) (.tail _ qM_7) rfl dX12_centre_12 rfl ?_
    refine lv_bipush (v := 8) hx hb dX12_centre_15 (by decide) ?_
    refine m_iald E G 10 2 (n := 131) (k := 8) rfl rfl (by decide) (by decide) dX12_centre_17 ?_
    refine lv_topi (fun v4 ev4 => ?_)
    have h := elet_at ev4 h
    clear ev4
    refine lv_iload_n hx hb dX12_centre_18 rfl (lv_at hl 1 rfl) ?_
    refine lv_aload_n hx hb dX12_centre_19 rfl (lv_at hl 0 rfl) ?_
    refine m_get E G 10 (v := .ref (ad 10)) (by decide) (.tail _ qM_7) rfl dX12_centre_20 rfl ?_
    refine lv_bipush (v := 9) hx hb dX12_centre_23 (by decide) ?_
    refine m_iald E G 10 2 (n := 131) (k := 9) rfl rfl (by decide) (by decide) dX12_centre_25 ?_
    refine lv_topi (fun v5 ev5 => ?_)
    have h := elet_at ev5 h
    clear ev5
    obtain ⟨g6, h⟩ := oif_some h
    refine lv_irem hx hb dX12_centre_26 g6 ?_
    refine lv_topi (fun v7 ev7 => ?_)
    have h := elet_at ev7 h
    clear ev7
    refine lv_imul hx hb dX12_centre_27 ?_
    refine lv_topi (fun v8 ev8 => ?_)
    have h := elet_at ev8 h
    clear ev8
    refine lv_iadd hx hb dX12_centre_28 ?_
    refine lv_topi (fun v9 ev9 => ?_)
    have h := elet_at ev9 h
    clear ev9
    refine lv_goto (tgt := 57) hx hb dX12_centre_29 (by decide) ?_
    have hl := lv_sub hl [] rfl
    exact tr_centre_b57 E hA hR hml (fun H locs ls G => W.iret (v := r1) hx hb hr (fun t ht hW => ⟨⟨r1, S1, rfl, ⟨rfl, rfl⟩, ⟨by rw [ht]; exact G.1, va_K.moved hW.alike hK, G.2.1⟩⟩, G.2.2.F ht⟩) G.2.2.2.2 dX12_centre_57) _ _ _ _ _ h G hl
def fr_root_b28 (k6 : Int32 → Int32 → Int32 → Option (Int32))  (l0 : Int32) (l1 : Int32) (l2 : Int32) : Option (Int32) := elet (l2 / 2) fun v2 => k6 l0 l1 v2
set_option maxHeartbeats 4000000 in
set_option maxRecDepth 100000 in
theorem tr_root_b28 {p : Program} {l : Launch} {e : Env} {s : State} {m : MethodId} {args : Array Value} {below : List Frame} {meth : Method} {c : Code} {Q : State → Prop} {r1 : Int32} (E : p.tables.exec = Jvm.exec ∧ c.code = cX12_root ∧ (∀ w ∈ (Cond.code yX12_root cX12_root 5 (some .int) :: wsM), w.before args s = true) ∧ s.vm.findClass RX12 = some m.cls) (hml : c.maxLocals = 5) (kr36 : ∀ (ls : Array Slot), W p l e { frames := 1, cells := 0, slots := 0, locals := 0 } s m args below meth c s.heap [] 0 0 Q (F0 m 36 ls [.int r1])) {k6 : Int32 → Int32 → Int32 → Option (Int32)} (hk6 : ∀ (ls : Array Slot) (l0 : Int32) (l1 : Int32) (l2 : Int32), k6 l0 l1 l2 = some r1 → lv_has ls 5 [(0, .int l0), (1, .int l1), (2, .int l2)] → W p l e { frames := 1, cells := 0, slots := 0, locals := 0 } s m args below meth c s.heap [] 0 0 Q (F0 m 6 ls [])) : ∀ (ls : Array Slot) (l0 : Int32) (l1 : Int32) (l2 : Int32), fr_root_b28 k6 l0 l1 l2 = some r1 → lv_has ls 5 [(0, .int l0), (1, .int l1), (2, .int l2)] → W p l e { frames := 1, cells := 0, slots := 0, locals := 0 } s m args below meth c s.heap [] 0 0 Q (F0 m 28 ls []) := by
  have hx := E.1
  have hb := E.2.1
  have hts := E.2.2.1
  have hown := E.2.2.2
  intro ls l0 l1 l2 h hl
  unfold fr_root_b28 at h
  refine lv_iload_n hx hb dX12_root_28 rfl (lv_at hl 2 rfl) ?_
  refine lv_iconst (v := 2) hx hb dX12_root_29 (by decide) ?_
  refine lv_idiv hx hb dX12_root_30 (by decide) ?_
  refine lv_topi (fun v2 ev2 => ?_)
  have h := elet_at ev2 h
  clear ev2
  refine lv_istore_n (lv' := [(2, .int v2), (0, .int l0), (1, .int l1)]) hx hb dX12_root_31 rfl hl (by decide) rfl (fun ls hl => ?_)
  refine lv_goto (tgt := 6) hx hb dX12_root_32 (by decide) ?_
  have hl := lv_sub hl [1, 2, 0] rfl
  exact hk6 _ _ _ _ h hl
def fr_root_b6  : Nat → Int32 → Int32 → Int32 → Option (Int32)
  | 0, _, _, _ => none
  | n + 1, l0, l1, l2 => if l2 ≤ 0 then (some l1) else (elet (l1 + l2) fun v3 => elet (v3.toInt64) fun v4 => elet (v4 * v4) fun v5 => elet (l0.toInt64) fun v6 => elet (lg_cmp v5 v6) fun v7 => if 0 < v7 then (fr_root_b28 (fr_root_b6 n) l0 l1 l2) else (elet (l1 + l2) fun v9 => fr_root_b28 (fr_root_b6 n) l0 v9 l2))
set_option maxHeartbeats 4000000 in
set_option maxRecDepth 100000 in
theorem tr_root_b6 {p : Program} {l : Launch} {e : Env} {s : State} {m : MethodId} {args : Array Value} {below : List Frame} {meth : Method} {c : Code} {Q : State → Prop} {r1 : Int32} (E : p.tables.exec = Jvm.exec ∧ c.code = cX12_root ∧ (∀ w ∈ (Cond.code yX12_root cX12_root 5 (some .int) :: wsM), w.before args s = true) ∧ s.vm.findClass RX12 = some m.cls) (hml : c.maxLocals = 5) (kr36 : ∀ (ls : Array Slot), W p l e { frames := 1, cells := 0, slots := 0, locals := 0 } s m args below meth c s.heap [] 0 0 Q (F0 m 36 ls [.int r1])) : ∀ n : Nat, ∀ (ls : Array Slot) (l0 : Int32) (l1 : Int32) (l2 : Int32), fr_root_b6 n l0 l1 l2 = some r1 → lv_has ls 5 [(0, .int l0), (1, .int l1), (2, .int l2)] → W p l e { frames := 1, cells := 0, slots := 0, locals := 0 } s m args below meth c s.heap [] 0 0 Q (F0 m 6 ls []) := by
  have hx := E.1
  have hb := E.2.1
  have hts := E.2.2.1
  have hown := E.2.2.2
  intro n
  induction n with
  | zero =>
    intro ls l0 l1 l2 h
    have h : (none : Option (Int32)) = some r1 := h
    cases h
  | succ n ih =>
    intro ls l0 l1 l2 h hl
    unfold fr_root_b6 at h
    refine lv_iload_n hx hb dX12_root_6 rfl (lv_at hl 2 rfl) ?_
    refine lv_if_le (tgt := 35) hx hb dX12_root_7 (by decide) (fun c2 => ?_) (fun c2 => ?_)
    · have h := oif_pos c2 h
      refine lv_iload_n hx hb dX12_root_35 rfl (lv_at hl 1 rfl) ?_
      refine lv_to (osome1 h) ?_
      exact kr36 _
    · have h := oif_neg c2 h
      refine lv_iload_n hx hb dX12_root_10 rfl (lv_at hl 1 rfl) ?_
      refine lv_iload_n hx hb dX12_root_11 rfl (lv_at hl 2 rfl) ?_
      refine lv_iadd hx hb dX12_root_12 ?_
      refine lv_topi (fun v3 ev3 => ?_)
      have h := elet_at ev3 h
      clear ev3
      refine lv_i2l (v := v3.toInt64) hx hb dX12_root_13 rfl ?_
      refine lv_topl (fun v4 ev4 => ?_)
      have h := elet_at ev4 h
      clear ev4
      refine lv_lstore_n (lv' := [(3, .long v4), (0, .int l0), (1, .int l1), (2, .int l2)]) hx hb dX12_root_14 rfl hl (by decide) rfl (fun ls hl => ?_)
      refine lv_lload_n hx hb dX12_root_15 rfl (lv_at hl 0 rfl) ?_
      refine lv_lload_n hx hb dX12_root_16 rfl (lv_at hl 0 rfl) ?_
      refine lv_lmul hx hb dX12_root_17 ?_
      refine lv_topl (fun v5 ev5 => ?_)
      have h := elet_at ev5 h
      clear ev5
      refine lv_iload_n hx hb dX12_root_18 rfl (lv_at hl 1 rfl) ?_
      refine lv_i2l (v := l0.toInt64) hx hb dX12_root_19 rfl ?_
      refine lv_topl (fun v6 ev6 => ?_)
      have h := elet_at ev6 h
      clear ev6
      refine W.lcmp hx hb dX12_root_20 ?_
      refine lv_topi (fun v7 ev7 => ?_)
      have h := elet_at ev7 h
      clear ev7
      refine lv_if_gt (tgt := 28) hx hb dX12_root_21 (by decide) (fun c8 => ?_) (fun c8 => ?_)
      · have h := oif_pos c8 h
        have hl := lv_sub hl [1, 2, 3] rfl
        exact tr_root_b28 E hml kr36 ih _ _ _ _ h hl
      · have h := oif_neg c8 h
        refine lv_iload_n hx hb dX12_root_24 rfl (lv_at hl 2 rfl) ?_
        refine lv_iload_n hx hb dX12_root_25 rfl (lv_at hl 3 rfl) ?_
        refine lv_iadd hx hb dX12_root_26 ?_
        refine lv_topi (fun v9 ev9 => ?_)
        have h := elet_at ev9 h
        clear ev9
        refine lv_istore_n (lv' := [(1, .int v9), (3, .long v4), (0, .int l0), (2, .int l2)]) hx hb dX12_root_27 rfl hl (by decide) rfl (fun ls hl => ?_)
        have hl := lv_sub hl [2, 0, 3] rfl
        exact tr_root_b28 E hml kr36 ih _ _ _ _ h hl
def fr_root  (a0 : Int32) : Option (Int32) := fr_root_b6 16384 a0 0 32768
set_option maxHeartbeats 4000000 in
set_option maxRecDepth 100000 in
theorem tr_root (l : Launch) (a0 : Int32) {r1 : Int32} (h : fr_root a0 = some r1) : Met l yX12_root (Cond.code yX12_root cX12_root 5 (some .int) :: wsM) { frames := 1, cells := 0, slots := 0, locals := 0 } (va_Pc [.int a0] (fun _ => True)) (vp_Si (fun r => r = r1)) 0 0 (fun _ => False) := by
  refine Met.ofW (cc := cX12_root) (maxL := 5) (ret := (some .int)) (by decide) rfl ?_
  intro p e s m args below meth c s₁ B hml hv
  obtain ⟨rfl, -⟩ := hv
  have hx := B.exec
  have hb := B.bytes
  have hr := B.returns
  have hts := atoms_spec (ws := (Cond.code yX12_root cX12_root 5 (some .int) :: wsM)) B.pre
  have hown : s.vm.findClass RX12 = some m.cls := findClass_of_methodNamed B.named
  have hlocks := B.notSynchronized
  have E : p.tables.exec = Jvm.exec ∧ c.code = cX12_root ∧ (∀ w ∈ (Cond.code yX12_root cX12_root 5 (some .int) :: wsM), w.before ([.int a0] : List Value).toArray s = true) ∧ s.vm.findClass RX12 = some m.cls := ⟨hx, hb, hts, hown⟩
  have hl := lv_entry ([.int a0]) (n := 5) (Nat.le_of_ble_eq_true rfl)
  rw [lg_entry_eq]
  generalize (lg_sl ([.int a0]) ++ List.replicate (5 - (lg_sl ([.int a0])).length) Slot.unset).toArray = ls at hl ⊢
  have hl : lv_has ls 5 [(0, .int a0)] := hl
  unfold fr_root at h
  refine lv_iconst (v := 0) hx hb dX12_root_0 (by decide) ?_
  refine lv_istore_n (lv' := [(1, .int 0), (0, .int a0)]) hx hb dX12_root_1 rfl hl (by decide) rfl (fun ls hl => ?_)
  refine lv_ldcw (v := 32768) hx hb hown (hts (.constant RX12 258 (32768)) (.tail _ qM_219)) dX12_root_2 ?_
  refine lv_istore_n (lv' := [(2, .int 32768), (1, .int 0), (0, .int a0)]) hx hb dX12_root_5 rfl hl (by decide) rfl (fun ls hl => ?_)
  have hl := lv_sub hl [2, 1, 0] rfl
  exact tr_root_b6 E hml (fun ls => W.iret (v := r1) hx hb hr (fun t ht hW => ⟨r1, rfl, rfl, ht⟩) (fun _ h => absurd h List.not_mem_nil) dX12_root_36) _ _ _ _ _ h hl
def fr_delayFrom (S : MS) (a0 : Int32) (a1 : Int32) (a2 : Int32) : Option (Int32 × MS) := elet (11 + a0) fun v2 => oif (inb v2 131 = true) <| elet (S.2.1 10 v2.toNatClampNeg) fun v4 => elet (a1 - v4) fun v5 => elet (23 + a0) fun v6 => oif (inb v6 131 = true) <| elet (S.2.1 10 v6.toNatClampNeg) fun v8 => elet (a2 - v8) fun v9 => elet (S.2.1 10 0) fun v10 => elet (v5 * v5) fun v11 => elet (v9 * v9) fun v12 => elet (v11 + v12) fun v13 => elet (v10 * v10) fun v14 => elet (v13 + v14) fun v15 => obind (fr_root v15) fun r16 => elet (S.2.1 10 1) fun v18 => oif (¬ v18 = 0) <| elet (r16 / v18) fun v20 => elet (S.2.1 10 1) fun v21 => oif (¬ v21 = 0) <| elet (v10 / v21) fun v23 => elet (v20 - v23) fun v24 => some (v24, S)
set_option maxHeartbeats 4000000 in
set_option maxRecDepth 100000 in
theorem tr_delayFrom (l : Launch) (D : va_G) (cI cJ cZ : ClassId) (ad : Nat → Nat) (S : MS) (a0 : Int32) (a1 : Int32) (a2 : Int32) {r1 : Int32} {S1 : MS} (h : fr_delayFrom S a0 a1 a2 = some (r1, S1)) : mCi l yX12_delayFrom (Cond.code yX12_delayFrom cX12_delayFrom 7 (some .int) :: wsM) 2 24 D cI cJ cZ ad S [.int a0, .int a1, .int a2] (fun r S9 => r = r1 ∧ S9 = S1) := by
  intro sz
  refine Met.ofW (cc := cX12_delayFrom) (maxL := 7) (ret := (some .int)) (by decide) rfl ?_
  intro p e s m args below meth c s₁ B hml hv
  obtain ⟨rfl, hsz, hP, hK, hD0, hR⟩ := hv
  have hx := B.exec
  have hb := B.bytes
  have hr := B.returns
  have hts := atoms_spec (ws := (Cond.code yX12_delayFrom cX12_delayFrom 7 (some .int) :: wsM)) B.pre
  have hown : s.vm.findClass RX12 = some m.cls := findClass_of_methodNamed B.named
  have hlocks := B.notSynchronized
  subst hsz
  have hD := hD0.self (sz := s.heap.size)
  generalize hAe : va_A (MW cI cJ cZ ad S) s.heap.size = A at hD ⊢
  have hA : ∀ q : Nat, s.heap.size ≤ q → A q := fun q h => by rw [← hAe]; exact Or.inr h
  have G : mG D cI cJ cZ ad A s.heap s.heap [] S := ⟨hP, hD, va_S.rf⟩
  have E : mE p c cX12_delayFrom s m ([.ref (ad 0), .int a0, .int a1, .int a2] : List Value).toArray (Cond.code yX12_delayFrom cX12_delayFrom 7 (some .int) :: wsM) D cI cJ cZ := ⟨hx, hb, hts, hown, hK, fun w h => .tail _ (iM_x h)⟩
  have hl := lv_entry ([.ref (ad 0), .int a0, .int a1, .int a2]) (n := 7) (Nat.le_of_ble_eq_true rfl)
  rw [lg_entry_eq]
  generalize (lg_sl ([.ref (ad 0), .int a0, .int a1, .int a2]) ++ List.replicate (7 - (lg_sl ([.ref (ad 0), .int a0, .int a1, .int a2])).length) Slot.unset).toArray = ls at hl ⊢
  have hl : lv_has ls 7 [(0, .ref (ad 0)), (1, .int a0), (2, .int a1), (3, .int a2)] := hl
  unfold fr_delayFrom at h
  refine lv_iload_n hx hb dX12_delayFrom_0 rfl (lv_at hl 2 rfl) ?_
  refine lv_aload_n hx hb dX12_delayFrom_1 rfl (lv_at hl 0 rfl) ?_
  refine m_get E G 10 (v := .ref (ad 10)) (by decide) (.tail _ qM_7) rfl dX12_delayFrom_2 rfl ?_
  refine lv_bipush (v := 11) hx hb dX12_delayFrom_5 (by decide) ?_
  refine lv_iload_n hx hb dX12_delayFrom_7 rfl (lv_at hl 1 rfl) ?_
  refine lv_iadd hx hb dX12_delayFrom_8 ?_
  refine lv_topi (fun v2 ev2 => ?_)
  have h := elet_at ev2 h
  clear ev2
  obtain ⟨g3, h⟩ := oif_some h
  refine m_iald E G 10 2 (n := 131) (k := v2.toNatClampNeg) rfl (inb_k g3).1 (inb_k g3).2 (by decide) dX12_delayFrom_9 ?_
  refine lv_topi (fun v4 ev4 => ?_)
  have h := elet_at ev4 h
  clear ev4
  refine lv_isub hx hb dX12_delayFrom_10 ?_
  refine lv_topi (fun v5 ev5 => ?_)
  have h := elet_at ev5 h
  clear ev5
  refine lv_istore (lv' := [(4, .int v5), (0, .ref (ad 0)), (1, .int a0), (2, .int a1), (3, .int a2)]) hx hb dX12_delayFrom_11 hl (by decide) rfl (fun ls hl => ?_)
  refine lv_iload_n hx hb dX12_delayFrom_13 rfl (lv_at hl 4 rfl) ?_
  refine lv_aload_n hx hb dX12_delayFrom_14 rfl (lv_at hl 1 rfl) ?_
  refine m_get E G 10 (v := .ref (ad 10)) (by decide) (.tail _ qM_7) rfl dX12_delayFrom_15 rfl ?_
  refine lv_bipush (v := 23) hx hb dX12_delayFrom_18 (by decide) ?_
  refine lv_iload_n hx hb dX12_delayFrom_20 rfl (lv_at hl 2 rfl) ?_
  refine lv_iadd hx hb dX12_delayFrom_21 ?_
  refine lv_topi (fun v6 ev6 => ?_)
  have h := elet_at ev6 h
  clear ev6
  obtain ⟨g7, h⟩ := oif_some h
  refine m_iald E G 10 2 (n := 131) (k := v6.toNatClampNeg) rfl (inb_k g7).1 (inb_k g7).2 (by decide) dX12_delayFrom_22 ?_
  refine lv_topi (fun v8 ev8 => ?_)
  have h := elet_at ev8 h
  clear ev8
  refine lv_isub hx hb dX12_delayFrom_23 ?_
  refine lv_topi (fun v9 ev9 => ?_)
  have h := elet_at ev9 h
  clear ev9
  refine lv_istore (lv' := [(5, .int v9), (4, .int v5), (0, .ref (ad 0)), (1, .int a0), (2, .int a1), (3, .int a2)]) hx hb dX12_delayFrom_24 hl (by decide) rfl (fun ls hl => ?_)
  refine lv_aload_n hx hb dX12_delayFrom_26 rfl (lv_at hl 2 rfl) ?_
  refine m_get E G 10 (v := .ref (ad 10)) (by decide) (.tail _ qM_7) rfl dX12_delayFrom_27 rfl ?_
  refine lv_iconst (v := 0) hx hb dX12_delayFrom_30 (by decide) ?_
  refine m_iald E G 10 2 (n := 131) (k := 0) rfl rfl (by decide) (by decide) dX12_delayFrom_31 ?_
  refine lv_topi (fun v10 ev10 => ?_)
  have h := elet_at ev10 h
  clear ev10
  refine lv_istore (lv' := [(6, .int v10), (5, .int v9), (4, .int v5), (0, .ref (ad 0)), (1, .int a0), (2, .int a1), (3, .int a2)]) hx hb dX12_delayFrom_32 hl (by decide) rfl (fun ls hl => ?_)
  refine lv_iload hx hb dX12_delayFrom_34 (lv_at hl 2 rfl) ?_
  refine lv_iload hx hb dX12_delayFrom_36 (lv_at hl 2 rfl) ?_
  refine lv_imul hx hb dX12_delayFrom_38 ?_
  refine lv_topi (fun v11 ev11 => ?_)
  have h := elet_at ev11 h
  clear ev11
  refine lv_iload hx hb dX12_delayFrom_39 (lv_at hl 1 rfl) ?_
  refine lv_iload hx hb dX12_delayFrom_41 (lv_at hl 1 rfl) ?_
  refine lv_imul hx hb dX12_delayFrom_43 ?_
  refine lv_topi (fun v12 ev12 => ?_)
  have h := elet_at ev12 h
  clear ev12
  refine lv_iadd hx hb dX12_delayFrom_44 ?_
  refine lv_topi (fun v13 ev13 => ?_)
  have h := elet_at ev13 h
  clear ev13
  refine lv_iload hx hb dX12_delayFrom_45 (lv_at hl 0 rfl) ?_
  refine lv_iload hx hb dX12_delayFrom_47 (lv_at hl 0 rfl) ?_
  refine lv_imul hx hb dX12_delayFrom_49 ?_
  refine lv_topi (fun v14 ev14 => ?_)
  have h := elet_at ev14 h
  clear ev14
  refine lv_iadd hx hb dX12_delayFrom_50 ?_
  refine lv_topi (fun v15 ev15 => ?_)
  have h := elet_at ev15 h
  clear ev15
  obtain ⟨r16, er16, h⟩ := obind_some h
  refine m_stat (As := [.int v15]) (rest := []) ⟨hx, hb, hml, hown, hts⟩ (tr_root l v15 er16) (cwS 1 hts (gmS qM_216 qM_217 qM_35 qM_218) rfl rfl rfl (by decide +kernel) ⟨Nat.le_of_ble_eq_true rfl, Nat.le_of_ble_eq_true rfl⟩) rfl hl.1 rfl (lv_room (Nat.le_of_ble_eq_true rfl)) dX12_delayFrom_51 ⟨Nat.zero_le _, Nat.zero_le _⟩ (fun q17 hq => ?_)
  refine lv_to hq ?_
  clear hq er16
  refine lv_aload_n hx hb dX12_delayFrom_54 rfl (lv_at hl 3 rfl) ?_
  refine m_get E G 10 (v := .ref (ad 10)) (by decide) (.tail _ qM_7) rfl dX12_delayFrom_55 rfl ?_
  refine lv_iconst (v := 1) hx hb dX12_delayFrom_58 (by decide) ?_
  refine m_iald E G 10 2 (n := 131) (k := 1) rfl rfl (by decide) (by decide) dX12_delayFrom_59 ?_
  refine lv_topi (fun v18 ev18 => ?_)
  have h := elet_at ev18 h
  clear ev18
  obtain ⟨g19, h⟩ := oif_some h
  refine lv_idiv hx hb dX12_delayFrom_60 g19 ?_
  refine lv_topi (fun v20 ev20 => ?_)
  have h := elet_at ev20 h
  clear ev20
  refine lv_iload hx hb dX12_delayFrom_61 (lv_at hl 0 rfl) ?_
  refine lv_aload_n hx hb dX12_delayFrom_63 rfl (lv_at hl 3 rfl) ?_
  refine m_get E G 10 (v := .ref (ad 10)) (by decide) (.tail _ qM_7) rfl dX12_delayFrom_64 rfl ?_
  refine lv_iconst (v := 1) hx hb dX12_delayFrom_67 (by decide) ?_
  refine m_iald E G 10 2 (n := 131) (k := 1) rfl rfl (by decide) (by decide) dX12_delayFrom_68 ?_
  refine lv_topi (fun v21 ev21 => ?_)
  have h := elet_at ev21 h
  clear ev21
  obtain ⟨g22, h⟩ := oif_some h
  refine lv_idiv hx hb dX12_delayFrom_69 g22 ?_
  refine lv_topi (fun v23 ev23 => ?_)
  have h := elet_at ev23 h
  clear ev23
  refine lv_isub hx hb dX12_delayFrom_70 ?_
  refine lv_topi (fun v24 ev24 => ?_)
  have h := elet_at ev24 h
  clear ev24
  exact W.iret (v := v24) hx hb hr (fun t ht hW => ⟨⟨v24, S, rfl, osome2 h, ⟨by rw [ht]; exact G.1, va_K.moved hW.alike hK, G.2.1⟩⟩, G.2.2.F ht⟩) G.2.2.2.2 dX12_delayFrom_71
def fr_wave_b103  (S : MS) (s0 : Int32) : Option (Int32 × MS) := some (s0, S)
set_option maxHeartbeats 4000000 in
set_option maxRecDepth 100000 in
theorem tr_wave_b103 {p : Program} {l : Launch} {e : Env} {s : State} {m : MethodId} {args : Array Value} {below : List Frame} {meth : Method} {c : Code} {Q : State → Prop} {D : va_G} {A : Nat → Prop} {H0 : Heap} {cI cJ cZ : ClassId} {ad : Nat → Nat} {r1 : Int32} {S1 : MS} (E : mE p c cX12_wave s m args (Cond.code yX12_wave cX12_wave 6 (some .int) :: wsM) D cI cJ cZ) (hA : ∀ q : Nat, H0.size ≤ q → A q) (hR : sR s) (hml : c.maxLocals = 6) (kr35 : ∀ (H : Heap) (locs : List Loc) (ls : Array Slot), mG D cI cJ cZ ad A H0 H locs S1 → W p l e { frames := 1, cells := 0, slots := 0, locals := 19 } s m args below meth c H locs 0 0 Q (F0 m 35 ls [.int r1])) (kr103 : ∀ (H : Heap) (locs : List Loc) (ls : Array Slot), mG D cI cJ cZ ad A H0 H locs S1 → W p l e { frames := 1, cells := 0, slots := 0, locals := 19 } s m args below meth c H locs 0 0 Q (F0 m 103 ls [.int r1])) (kr124 : ∀ (H : Heap) (locs : List Loc) (ls : Array Slot), mG D cI cJ cZ ad A H0 H locs S1 → W p l e { frames := 1, cells := 0, slots := 0, locals := 19 } s m args below meth c H locs 0 0 Q (F0 m 124 ls [.int r1])) (kr135 : ∀ (H : Heap) (locs : List Loc) (ls : Array Slot), mG D cI cJ cZ ad A H0 H locs S1 → W p l e { frames := 1, cells := 0, slots := 0, locals := 19 } s m args below meth c H locs 0 0 Q (F0 m 135 ls [.int r1])) (kr170 : ∀ (H : Heap) (locs : List Loc) (ls : Array Slot), mG D cI cJ cZ ad A H0 H locs S1 → W p l e { frames := 1, cells := 0, slots := 0, locals := 19 } s m args below meth c H locs 0 0 Q (F0 m 170 ls [.int r1])) : ∀ (S : MS) (H : Heap) (locs : List Loc) (ls : Array Slot) (s0 : Int32), fr_wave_b103 S s0 = some (r1, S1) → mG D cI cJ cZ ad A H0 H locs S → lv_has ls 6 [] → W p l e { frames := 1, cells := 0, slots := 0, locals := 19 } s m args below meth c H locs 0 0 Q (F0 m 103 ls [.int s0]) := by
  have hx := E.1
  have hb := E.2.1
  have hts := E.2.2.1
  have hown := E.2.2.2.1
  have hK := E.2.2.2.2.1
  intro S H locs ls s0 h G hl
  unfold fr_wave_b103 at h
  rw [(osome2 h).2] at G
  refine lv_to (osome2 h).1 ?_
  exact kr103 _ _ _ G
def fr_wave_b135  (S : MS) (s0 : Int32) : Option (Int32 × MS) := some (s0, S)
set_option maxHeartbeats 4000000 in
set_option maxRecDepth 100000 in
theorem tr_wave_b135 {p : Program} {l : Launch} {e : Env} {s : State} {m : MethodId} {args : Array Value} {below : List Frame} {meth : Method} {c : Code} {Q : State → Prop} {D : va_G} {A : Nat → Prop} {H0 : Heap} {cI cJ cZ : ClassId} {ad : Nat → Nat} {r1 : Int32} {S1 : MS} (E : mE p c cX12_wave s m args (Cond.code yX12_wave cX12_wave 6 (some .int) :: wsM) D cI cJ cZ) (hA : ∀ q : Nat, H0.size ≤ q → A q) (hR : sR s) (hml : c.maxLocals = 6) (kr35 : ∀ (H : Heap) (locs : List Loc) (ls : Array Slot), mG D cI cJ cZ ad A H0 H locs S1 → W p l e { frames := 1, cells := 0, slots := 0, locals := 19 } s m args below meth c H locs 0 0 Q (F0 m 35 ls [.int r1])) (kr103 : ∀ (H : Heap) (locs : List Loc) (ls : Array Slot), mG D cI cJ cZ ad A H0 H locs S1 → W p l e { frames := 1, cells := 0, slots := 0, locals := 19 } s m args below meth c H locs 0 0 Q (F0 m 103 ls [.int r1])) (kr124 : ∀ (H : Heap) (locs : List Loc) (ls : Array Slot), mG D cI cJ cZ ad A H0 H locs S1 → W p l e { frames := 1, cells := 0, slots := 0, locals := 19 } s m args below meth c H locs 0 0 Q (F0 m 124 ls [.int r1])) (kr135 : ∀ (H : Heap) (locs : List Loc) (ls : Array Slot), mG D cI cJ cZ ad A H0 H locs S1 → W p l e { frames := 1, cells := 0, slots := 0, locals := 19 } s m args below meth c H locs 0 0 Q (F0 m 135 ls [.int r1])) (kr170 : ∀ (H : Heap) (locs : List Loc) (ls : Array Slot), mG D cI cJ cZ ad A H0 H locs S1 → W p l e { frames := 1, cells := 0, slots := 0, locals := 19 } s m args below meth c H locs 0 0 Q (F0 m 170 ls [.int r1])) : ∀ (S : MS) (H : Heap) (locs : List Loc) (ls : Array Slot) (s0 : Int32), fr_wave_b135 S s0 = some (r1, S1) → mG D cI cJ cZ ad A H0 H locs S → lv_has ls 6 [] → W p l e { frames := 1, cells := 0, slots := 0, locals := 19 } s m args below meth c H locs 0 0 Q (F0 m 135 ls [.int s0]) := by
  have hx := E.1
  have hb := E.2.1
  have hts := E.2.2.1
  have hown := E.2.2.2.1
  have hK := E.2.2.2.2.1
  intro S H locs ls s0 h G hl
  unfold fr_wave_b135 at h
  rw [(osome2 h).2] at G
  refine lv_to (osome2 h).1 ?_
  exact kr135 _ _ _ G
def fr_wave (S : MS) (a0 : Int32) (a1 : Int32) : Option (Int32 × MS) := elet (53 + a0) fun v2 => oif (inb v2 131 = true) <| elet (S.2.1 10 v2.toNatClampNeg) fun v4 => elet (59 + a0) fun v5 => oif (inb v5 131 = true) <| elet (S.2.1 10 v5.toNatClampNeg) fun v7 => elet (95 + a0) fun v8 => oif (inb v8 131 = true) <| elet (S.2.1 10 v8.toNatClampNeg) fun v10 => if v10 ≤ a1 then (elet (65 + a0) fun v12 => oif (inb v12 131 = true) <| elet (S.2.1 10 v12.toNatClampNeg) fun v14 => elet (a1 + v14) fun v15 => oif (¬ v7 = 0) <| elet (v15 - v15 / v7 * v7) fun v17 => elet (47 + a0) fun v18 => oif (inb v18 131 = true) <| elet (S.2.1 10 v18.toNatClampNeg) fun v20 => if v20 = 0 then (elet (v7 / 2) fun v22 => if v22 ≤ v17 then (elet (-v4) fun v24 => fr_wave_b103 S v24) else (fr_wave_b103 S v4)) else (if v20 = 1 then (elet (v7 / 2) fun v26 => elet (v17 - v26) fun v27 => elet (if 0 ≤ v27 then v27 else 0 - v27) fun v28 => elet (4 * v28) fun v29 => elet (v29 - v7) fun v30 => elet (v4 * v30) fun v31 => oif (¬ v7 = 0) <| elet (v31 / v7) fun v33 => some (v33, S)) else (if v20 = 2 then (if v17 = 0 then (fr_wave_b135 S v4) else (fr_wave_b135 S 0)) else (elet (31 * a1) fun v36 => elet (v36 * a1) fun v37 => elet (7919 * a1) fun v38 => elet (v37 + v38) fun v39 => elet (65 + a0) fun v40 => oif (inb v40 131 = true) <| elet (S.2.1 10 v40.toNatClampNeg) fun v42 => elet (104729 * v42) fun v43 => elet (v39 + v43) fun v44 => elet (2 * v4) fun v45 => elet (v45 + 1) fun v46 => oif (¬ v46 = 0) <| elet (v44 - v44 / v46 * v46) fun v48 => elet (v48 - v4) fun v49 => some (v49, S))))) else (some (0, S))
set_option maxHeartbeats 4000000 in
set_option maxRecDepth 100000 in
theorem tr_wave (l : Launch) (D : va_G) (cI cJ cZ : ClassId) (ad : Nat → Nat) (S : MS) (a0 : Int32) (a1 : Int32) {r1 : Int32} {S1 : MS} (h : fr_wave S a0 a1 = some (r1, S1)) : mCi l yX12_wave (Cond.code yX12_wave cX12_wave 6 (some .int) :: wsM) 1 19 D cI cJ cZ ad S [.int a0, .int a1] (fun r S9 => r = r1 ∧ S9 = S1) := by
  intro sz
  refine Met.ofW (cc := cX12_wave) (maxL := 6) (ret := (some .int)) (by decide) rfl ?_
  intro p e s m args below meth c s₁ B hml hv
  obtain ⟨rfl, hsz, hP, hK, hD0, hR⟩ := hv
  have hx := B.exec
  have hb := B.bytes
  have hr := B.returns
  have hts := atoms_spec (ws := (Cond.code yX12_wave cX12_wave 6 (some .int) :: wsM)) B.pre
  have hown : s.vm.findClass RX12 = some m.cls := findClass_of_methodNamed B.named
  have hlocks := B.notSynchronized
  subst hsz
  have hD := hD0.self (sz := s.heap.size)
  generalize hAe : va_A (MW cI cJ cZ ad S) s.heap.size = A at hD ⊢
  have hA : ∀ q : Nat, s.heap.size ≤ q → A q := fun q h => by rw [← hAe]; exact Or.inr h
  have G : mG D cI cJ cZ ad A s.heap s.heap [] S := ⟨hP, hD, va_S.rf⟩
  have E : mE p c cX12_wave s m ([.ref (ad 0), .int a0, .int a1] : List Value).toArray (Cond.code yX12_wave cX12_wave 6 (some .int) :: wsM) D cI cJ cZ := ⟨hx, hb, hts, hown, hK, fun w h => .tail _ (iM_x h)⟩
  have hl := lv_entry ([.ref (ad 0), .int a0, .int a1]) (n := 6) (Nat.le_of_ble_eq_true rfl)
  rw [lg_entry_eq]
  generalize (lg_sl ([.ref (ad 0), .int a0, .int a1]) ++ List.replicate (6 - (lg_sl ([.ref (ad 0), .int a0, .int a1])).length) Slot.unset).toArray = ls at hl ⊢
  have hl : lv_has ls 6 [(0, .ref (ad 0)), (1, .int a0), (2, .int a1)] := hl
  unfold fr_wave at h
  refine lv_aload_n hx hb dX12_wave_0 rfl (lv_at hl 0 rfl) ?_
  refine m_get E G 10 (v := .ref (ad 10)) (by decide) (.tail _ qM_7) rfl dX12_wave_1 rfl ?_
  refine lv_bipush (v := 53) hx hb dX12_wave_4 (by decide) ?_
  refine lv_iload_n hx hb dX12_wave_6 rfl (lv_at hl 1 rfl) ?_
  refine lv_iadd hx hb dX12_wave_7 ?_
  refine lv_topi (fun v2 ev2 => ?_)
  have h := elet_at ev2 h
  clear ev2
  obtain ⟨g3, h⟩ := oif_some h
  refine m_iald E G 10 2 (n := 131) (k := v2.toNatClampNeg) rfl (inb_k g3).1 (inb_k g3).2 (by decide) dX12_wave_8 ?_
  refine lv_topi (fun v4 ev4 => ?_)
  have h := elet_at ev4 h
  clear ev4
  refine lv_istore_n (lv' := [(3, .int v4), (0, .ref (ad 0)), (1, .int a0), (2, .int a1)]) hx hb dX12_wave_9 rfl hl (by decide) rfl (fun ls hl => ?_)
  refine lv_aload_n hx hb dX12_wave_10 rfl (lv_at hl 1 rfl) ?_
  refine m_get E G 10 (v := .ref (ad 10)) (by decide) (.tail _ qM_7) rfl dX12_wave_11 rfl ?_
  refine lv_bipush (v := 59) hx hb dX12_wave_14 (by decide) ?_
  refine lv_iload_n hx hb dX12_wave_16 rfl (lv_at hl 2 rfl) ?_
  refine lv_iadd hx hb dX12_wave_17 ?_
  refine lv_topi (fun v5 ev5 => ?_)
  have h := elet_at ev5 h
  clear ev5
  obtain ⟨g6, h⟩ := oif_some h
  refine m_iald E G 10 2 (n := 131) (k := v5.toNatClampNeg) rfl (inb_k g6).1 (inb_k g6).2 (by decide) dX12_wave_18 ?_
  refine lv_topi (fun v7 ev7 => ?_)
  have h := elet_at ev7 h
  clear ev7
  refine lv_istore (lv' := [(4, .int v7), (3, .int v4), (0, .ref (ad 0)), (1, .int a0), (2, .int a1)]) hx hb dX12_wave_19 hl (by decide) rfl (fun ls hl => ?_)
  refine lv_iload_n hx hb dX12_wave_21 rfl (lv_at hl 4 rfl) ?_
  refine lv_aload_n hx hb dX12_wave_22 rfl (lv_at hl 2 rfl) ?_
  refine m_get E G 10 (v := .ref (ad 10)) (by decide) (.tail _ qM_7) rfl dX12_wave_23 rfl ?_
  refine lv_bipush (v := 95) hx hb dX12_wave_26 (by decide) ?_
  refine lv_iload_n hx hb dX12_wave_28 rfl (lv_at hl 3 rfl) ?_
  refine lv_iadd hx hb dX12_wave_29 ?_
  refine lv_topi (fun v8 ev8 => ?_)
  have h := elet_at ev8 h
  clear ev8
  obtain ⟨g9, h⟩ := oif_some h
  refine m_iald E G 10 2 (n := 131) (k := v8.toNatClampNeg) rfl (inb_k g9).1 (inb_k g9).2 (by decide) dX12_wave_30 ?_
  refine lv_topi (fun v10 ev10 => ?_)
  have h := elet_at ev10 h
  clear ev10
  refine lv_icmp_ge (tgt := 36) hx hb dX12_wave_31 (by decide) (fun c11 => ?_) (fun c11 => ?_)
  · have h := oif_pos c11 h
    refine lv_iload_n hx hb dX12_wave_36 rfl (lv_at hl 4 rfl) ?_
    refine lv_aload_n hx hb dX12_wave_37 rfl (lv_at hl 2 rfl) ?_
    refine m_get E G 10 (v := .ref (ad 10)) (by decide) (.tail _ qM_7) rfl dX12_wave_38 rfl ?_
    refine lv_bipush (v := 65) hx hb dX12_wave_41 (by decide) ?_
    refine lv_iload_n hx hb dX12_wave_43 rfl (lv_at hl 3 rfl) ?_
    refine lv_iadd hx hb dX12_wave_44 ?_
    refine lv_topi (fun v12 ev12 => ?_)
    have h := elet_at ev12 h
    clear ev12
    obtain ⟨g13, h⟩ := oif_some h
    refine m_iald E G 10 2 (n := 131) (k := v12.toNatClampNeg) rfl (inb_k g13).1 (inb_k g13).2 (by decide) dX12_wave_45 ?_
    refine lv_topi (fun v14 ev14 => ?_)
    have h := elet_at ev14 h
    clear ev14
    refine lv_iadd hx hb dX12_wave_46 ?_
    refine lv_topi (fun v15 ev15 => ?_)
    have h := elet_at ev15 h
    clear ev15
    refine lv_iload hx hb dX12_wave_47 (lv_at hl 0 rfl) ?_
    obtain ⟨g16, h⟩ := oif_some h
    refine lv_irem hx hb dX12_wave_49 g16 ?_
    refine lv_topi (fun v17 ev17 => ?_)
    have h := elet_at ev17 h
    clear ev17
    refine lv_istore (lv' := [(5, .int v17), (4, .int v7), (3, .int v4), (0, .ref (ad 0)), (1, .int a0), (2, .int a1)]) hx hb dX12_wave_50 hl (by decide) rfl (fun ls hl => ?_)
    refine lv_aload_n hx hb dX12_wave_52 rfl (lv_at hl 3 rfl) ?_
    refine m_get E G 10 (v := .ref (ad 10)) (by decide) (.tail _ qM_7) rfl dX12_wave_53 rfl ?_
    refine lv_bipush (v := 47) hx hb dX12_wave_56 (by decide) ?_
    refine lv_iload_n hx hb dX12_wave_58 rfl (lv_at hl 4 rfl) ?_
    refine lv_iadd hx hb dX12_wave_59 ?_
    refine lv_topi (fun v18 ev18 => ?_)
    have h := elet_at ev18 h
    clear ev18
    obtain ⟨g19, h⟩ := oif_some h
    refine m_iald E G 10 2 (n := 131) (k := v18.toNatClampNeg) rfl (inb_k g19).1 (inb_k g19).2 (by decide) dX12_wave_60 ?_
    refine lv_topi (fun v20 ev20 => ?_)
    have h := elet_at ev20 h
    clear ev20
    by_cases c21 : v20 = 0
    · have h := oif_pos c21 h
      refine lv_tableIn (off := 27) (tgt := 88) hx hb dX12_wave_61 (by rw [c21]; decide) (by rw [c21]; decide) (by rw [c21]; rfl) (by decide) ?_
      refine lv_iload hx hb dX12_wave_88 (lv_at hl 0 rfl) ?_
      refine lv_iload hx hb dX12_wave_90 (lv_at hl 1 rfl) ?_
      refine lv_iconst (v := 2) hx hb dX12_wave_92 (by decide) ?_
      refine lv_idiv hx hb dX12_wave_93 (by decide) ?_
      refine lv_topi (fun v22 ev22 => ?_)
      have h := elet_at ev22 h
      clear ev22
      refine lv_icmp_ge (tgt := 101) hx hb dX12_wave_94 (by decide) (fun c23 => ?_) (fun c23 => ?_)
      · have h := oif_pos c23 h
        refine lv_iload_n hx hb dX12_wave_101 rfl (lv_at hl 2 rfl) ?_
        refine lv_ineg hx hb dX12_wave_102 ?_
        refine lv_topi (fun v24 ev24 => ?_)
        have h := elet_at ev24 h
        clear ev24
        have hl := lv_sub hl [] rfl
        exact tr_wave_b103 E hA hR hml (fun H locs ls G => W.iret (v := r1) hx hb hr (fun t ht hW => ⟨⟨r1, S1, rfl, ⟨rfl, rfl⟩, ⟨by rw [ht]; exact G.1, va_K.moved hW.alike hK, G.2.1⟩⟩, G.2.2.F ht⟩) G.2.2.2.2 dX12_wave_35) (fun H locs ls G => W.iret (v := r1) hx hb hr (fun t ht hW => ⟨⟨r1, S1, rfl, ⟨rfl, rfl⟩, ⟨by rw [ht]; exact G.1, va_K.moved hW.alike hK, G.2.1⟩⟩, G.2.2.F ht⟩) G.2.2.2.2 dX12_wave_103) (fun H locs ls G => W.iret (v := r1) hx hb hr (fun t ht hW => ⟨⟨r1, S1, rfl, ⟨rfl, rfl⟩, ⟨by rw [ht]; exact G.1, va_K.moved hW.alike hK, G.2.1⟩⟩, G.2.2.F ht⟩) G.2.2.2.2 dX12_wave_124) (fun H locs ls G => W.iret (v := r1) hx hb hr (fun t ht hW => ⟨⟨r1, S1, rfl, ⟨rfl, rfl⟩, ⟨by rw [ht]; exact G.1, va_K.moved hW.alike hK, G.2.1⟩⟩, G.2.2.F ht⟩) G.2.2.2.2 dX12_wave_135) (fun H locs ls G => W.iret (v := r1) hx hb hr (fun t ht hW => ⟨⟨r1, S1, rfl, ⟨rfl, rfl⟩, ⟨by rw [ht]; exact G.1, va_K.moved hW.alike hK, G.2.1⟩⟩, G.2.2.F ht⟩) G.2.2.2.2 dX12_wave_170) _ _ _ _ _ h G hl
      · have h := oif_neg c23 h
        refine lv_iload_n hx hb dX12_wave_97 rfl (lv_at hl 2 rfl) ?_
        refine lv_goto (tgt := 103) hx hb dX12_wave_98 (by decide) ?_
        have hl := lv_sub hl [] rfl
        exact tr_wave_b103 E hA hR hml (fun H locs ls G => W.iret (v := r1) hx hb hr (fun t ht hW => ⟨⟨r1, S1, rfl, ⟨rfl, rfl⟩, ⟨by rw [ht]; exact G.1, va_K.moved hW.alike hK, G.2.1⟩⟩, G.2.2.F ht⟩) G.2.2.2.2 dX12_wave_35) (fun H locs ls G => W.iret (v := r1) hx hb hr (fun t ht hW => ⟨⟨r1, S1, rfl, ⟨rfl, rfl⟩, ⟨by rw [ht]; exact G.1, va_K.moved hW.alike hK, G.2.1⟩⟩, G.2.2.F ht⟩) G.2.2.2.2 dX12_wave_103) (fun H locs ls G => W.iret (v := r1) hx hb hr (fun t ht hW => ⟨⟨r1, S1, rfl, ⟨rfl, rfl⟩, ⟨by rw [ht]; exact G.1, va_K.moved hW.alike hK, G.2.1⟩⟩, G.2.2.F ht⟩) G.2.2.2.2 dX12_wave_124) (fun H locs ls G => W.iret (v := r1) hx hb hr (fun t ht hW => ⟨⟨r1, S1, rfl, ⟨rfl, rfl⟩, ⟨by rw [ht]; exact G.1, va_K.moved hW.alike hK, G.2.1⟩⟩, G.2.2.F ht⟩) G.2.2.2.2 dX12_wave_135) (fun H locs ls G => W.iret (v := r1) hx hb hr (fun t ht hW => ⟨⟨r1, S1, rfl, ⟨rfl, rfl⟩, ⟨by rw [ht]; exact G.1, va_K.moved hW.alike hK, G.2.1⟩⟩, G.2.2.F ht⟩) G.2.2.2.2 dX12_wave_170) _ _ _ _ _ h G hl
    have h := oif_neg c21 h
    by_cases c25 : v20 = 1
    · have h := oif_pos c25 h
      refine lv_tableIn (off := 43) (tgt := 104) hx hb dX12_wave_61 (by rw [c25]; decide) (by rw [c25]; decide) (by rw [c25]; rfl) (by decide) ?_
      refine lv_iload_n hx hb dX12_wave_104 rfl (lv_at hl 2 rfl) ?_
      refine lv_iconst (v := 4) hx hb dX12_wave_105 (by decide) ?_
      refine lv_iload hx hb dX12_wave_106 (lv_at hl 0 rfl) ?_
      refine lv_iload hx hb dX12_wave_108 (lv_at hl 1 rfl) ?_
      refine lv_iconst (v := 2) hx hb dX12_wave_110 (by decide) ?_
      refine lv_idiv hx hb dX12_wave_111 (by decide) ?_
      refine lv_topi (fun v26 ev26 => ?_)
      have h := elet_at ev26 h
      clear ev26
      refine lv_isub hx hb dX12_wave_112 ?_
      refine lv_topi (fun v27 ev27 => ?_)
      have h := elet_at ev27 h
      clear ev27
      refine va_mabs hx hb (hml.trans hl.1.symm) hown (hts _ (.tail _ qM_245)) (hts _ (.tail _ qM_246)) (hts _ (.tail _ qM_247)) (hts _ (.tail _ qM_248)) (Nat.le_of_ble_eq_true rfl) (Nat.le_of_ble_eq_true rfl) (Nat.zero_le _) (Nat.zero_le _) dX12_wave_113 ?_
      refine lv_topi (fun v28 ev28 => ?_)
      have h := elet_at ev28 h
      clear ev28
      refine lv_imul hx hb dX12_wave_116 ?_
      refine lv_topi (fun v29 ev29 => ?_)
      have h := elet_at ev29 h
      clear ev29
      refine lv_iload hx hb dX12_wave_117 (lv_at hl 1 rfl) ?_
      refine lv_isub hx hb dX12_wave_119 ?_
      refine lv_topi (fun v30 ev30 => ?_)
      have h := elet_at ev30 h
      clear ev30
      refine lv_imul hx hb dX12_wave_120 ?_
      refine lv_topi (fun v31 ev31 => ?_)
      have h := elet_at ev31 h
      clear ev31
      refine lv_iload hx hb dX12_wave_121 (lv_at hl 1 rfl) ?_
      obtain ⟨g32, h⟩ := oif_some h
      refine lv_idiv hx hb dX12_wave_123 g32 ?_
      refine lv_topi (fun v33 ev33 => ?_)
      have h := elet_at ev33 h
      clear ev33
      exact W.iret (v := v33) hx hb hr (fun t ht hW => ⟨⟨v33, S, rfl, osome2 h, ⟨by rw [ht]; exact G.1, va_K.moved hW.alike hK, G.2.1⟩⟩, G.2.2.F ht⟩) G.2.2.2.2 dX12_wave_124
    have h := oif_neg c25 h
    by_cases c34 : v20 = 2
    · have h := oif_pos c34 h
      refine lv_tableIn (off := 64) (tgt := 125) hx hb dX12_wave_61 (by rw [c34]; decide) (by rw [c34]; decide) (by rw [c34]; rfl) (by decide) ?_
      refine lv_iload hx hb dX12_wave_125 (lv_at hl 0 rfl) ?_
      refine lv_if_ne (tgt := 134) hx hb dX12_wave_127 (by decide) (fun c35 => ?_) (fun c35 => ?_)
      · have h := oif_neg c35 h
        refine lv_iconst (v := 0) hx hb dX12_wave_134 (by decide) ?_
        have hl := lv_sub hl [] rfl
        exact tr_wave_b135 E hA hR hml (fun H locs ls G => W.iret (v := r1) hx hb hr (fun t ht hW => ⟨⟨r1, S1, rfl, ⟨rfl, rfl⟩, ⟨by rw [ht]; exact G.1, va_K.moved hW.alike hK, G.2.1⟩⟩, G.2.2.F ht⟩) G.2.2.2.2 dX12_wave_35) (fun H locs ls G => W.iret (v := r1) hx hb hr (fun t ht hW => ⟨⟨r1, S1, rfl, ⟨rfl, rfl⟩, ⟨by rw [ht]; exact G.1, va_K.moved hW.alike hK, G.2.1⟩⟩, G.2.2.F ht⟩) G.2.2.2.2 dX12_wave_103) (fun H locs ls G => W.iret (v := r1) hx hb hr (fun t ht hW => ⟨⟨r1, S1, rfl, ⟨rfl, rfl⟩, ⟨by rw [ht]; exact G.1, va_K.moved hW.alike hK, G.2.1⟩⟩, G.2.2.F ht⟩) G.2.2.2.2 dX12_wave_124) (fun H locs ls G => W.iret (v := r1) hx hb hr (fun t ht hW => ⟨⟨r1, S1, rfl, ⟨rfl, rfl⟩, ⟨by rw [ht]; exact G.1, va_K.moved hW.alike hK, G.2.1⟩⟩, G.2.2.F ht⟩) G.2.2.2.2 dX12_wave_135) (fun H locs ls G => W.iret (v := r1) hx hb hr (fun t ht hW => ⟨⟨r1, S1, rfl, ⟨rfl, rfl⟩, ⟨by rw [ht]; exact G.1, va_K.moved hW.alike hK, G.2.1⟩⟩, G.2.2.F ht⟩) G.2.2.2.2 dX12_wave_170) _ _ _ _ _ h G hl
      · have h := oif_pos c35 h
        refine lv_iload_n hx hb dX12_wave_130 rfl (lv_at hl 2 rfl) ?_
        refine lv_goto (tgt := 135) hx hb dX12_wave_131 (by decide) ?_
        have hl := lv_sub hl [] rfl
        exact tr_wave_b135 E hA hR hml (fun H locs ls G => W.iret (v := r1) hx hb hr (fun t ht hW => ⟨⟨r1, S1, rfl, ⟨rfl, rfl⟩, ⟨by rw [ht]; exact G.1, va_K.moved hW.alike hK, G.2.1⟩⟩, G.2.2.F ht⟩) G.2.2.2.2 dX12_wave_35) (fun H locs ls G => W.iret (v := r1) hx hb hr (fun t ht hW => ⟨⟨r1, S1, rfl, ⟨rfl, rfl⟩, ⟨by rw [ht]; exact G.1, va_K.moved hW.alike hK, G.2.1⟩⟩, G.2.2.F ht⟩) G.2.2.2.2 dX12_wave_103) (fun H locs ls G => W.iret (v := r1) hx hb hr (fun t ht hW => ⟨⟨r1, S1, rfl, ⟨rfl, rfl⟩, ⟨by rw [ht]; exact G.1, va_K.moved hW.alike hK, G.2.1⟩⟩, G.2.2.F ht⟩) G.2.2.2.2 dX12_wave_124) (fun H locs ls G => W.iret (v := r1) hx hb hr (fun t ht hW => ⟨⟨r1, S1, rfl, ⟨rfl, rfl⟩, ⟨by rw [ht]; exact G.1, va_K.moved hW.alike hK, G.2.1⟩⟩, G.2.2.F ht⟩) G.2.2.2.2 dX12_wave_135) (fun H locs ls G => W.iret (v := r1) hx hb hr (fun t ht hW => ⟨⟨r1, S1, rfl, ⟨rfl, rfl⟩, ⟨by rw [ht]; exact G.1, va_K.moved hW.alike hK, G.2.1⟩⟩, G.2.2.F ht⟩) G.2.2.2.2 dX12_wave_170) _ _ _ _ _ h G hl
    have h := oif_neg c34 h
    refine lv_tableOut (tgt := 136) hx hb dX12_wave_61 (tsw_0_2 c21 c25 c34) (by decide) ?_
    refine lv_bipush (v := 31) hx hb dX12_wave_136 (by decide) ?_
    refine lv_iload_n hx hb dX12_wave_138 rfl (lv_at hl 5 rfl) ?_
    refine lv_imul hx hb dX12_wave_139 ?_
    refine lv_topi (fun v36 ev36 => ?_)
    have h := elet_at ev36 h
    clear ev36
    refine lv_iload_n hx hb dX12_wave_140 rfl (lv_at hl 5 rfl) ?_
    refine lv_imul hx hb dX12_wave_141 ?_
    refine lv_topi (fun v37 ev37 => ?_)
    have h := elet_at ev37 h
    clear ev37
    refine lv_sipush (v := 7919) hx hb dX12_wave_142 (by decide) ?_
    refine lv_iload_n hx hb dX12_wave_145 rfl (lv_at hl 5 rfl) ?_
    refine lv_imul hx hb dX12_wave_146 ?_
    refine lv_topi (fun v38 ev38 => ?_)
    have h := elet_at ev38 h
    clear ev38
    refine lv_iadd hx hb dX12_wave_147 ?_
    refine lv_topi (fun v39 ev39 => ?_)
    have h := elet_at ev39 h
    clear ev39
    refine lv_ldcw (v := 104729) hx hb hown (hts (.constant RX12 267 (104729)) (.tail _ qM_249)) dX12_wave_148 ?_
    refine lv_aload_n hx hb dX12_wave_151 rfl (lv_at hl 3 rfl) ?_
    refine m_get E G 10 (v := .ref (ad 10)) (by decide) (.tail _ qM_7) rfl dX12_wave_152 rfl ?_
    refine lv_bipush (v := 65) hx hb dX12_wave_155 (by decide) ?_
    refine lv_iload_n hx hb dX12_wave_157 rfl (lv_at hl 4 rfl) ?_
    refine lv_iadd hx hb dX12_wave_158 ?_
    refine lv_topi (fun v40 ev40 => ?_)
    have h := elet_at ev40 h
    clear ev40
    obtain ⟨g41, h⟩ := oif_some h
    refine m_iald E G 10 2 (n := 131) (k := v40.toNatClampNeg) rfl (inb_k g41).1 (inb_k g41).2 (by decide) dX12_wave_159 ?_
    refine lv_topi (fun v42 ev42 => ?_)
    have h := elet_at ev42 h
    clear ev42
    refine lv_imul hx hb dX12_wave_160 ?_
    refine lv_topi (fun v43 ev43 => ?_)
    have h := elet_at ev43 h
    clear ev43
    refine lv_iadd hx hb dX12_wave_161 ?_
    refine lv_topi (fun v44 ev44 => ?_)
    have h := elet_at ev44 h
    clear ev44
    refine lv_iconst (v := 2) hx hb dX12_wave_162 (by decide) ?_
    refine lv_iload_n hx hb dX12_wave_163 rfl (lv_at hl 2 rfl) ?_
    refine lv_imul hx hb dX12_wave_164 ?_
    refine lv_topi (fun v45 ev45 => ?_)
    have h := elet_at ev45 h
    clear ev45
    refine lv_iconst (v := 1) hx hb dX12_wave_165 (by decide) ?_
    refine lv_iadd hx hb dX12_wave_166 ?_
    refine lv_topi (fun v46 ev46 => ?_)
    have h := elet_at ev46 h
    clear ev46
    obtain ⟨g47, h⟩ := oif_some h
    refine lv_irem hx hb dX12_wave_167 g47 ?_
    refine lv_topi (fun v48 ev48 => ?_)
    have h := elet_at ev48 h
    clear ev48
    refine lv_iload_n hx hb dX12_wave_168 rfl (lv_at hl 2 rfl) ?_
    refine lv_isub hx hb dX12_wave_169 ?_
    refine lv_topi (fun v49 ev49 => ?_)
    have h := elet_at ev49 h
    clear ev49
    exact W.iret (v := v49) hx hb hr (fun t ht hW => ⟨⟨v49, S, rfl, osome2 h, ⟨by rw [ht]; exact G.1, va_K.moved hW.alike hK, G.2.1⟩⟩, G.2.2.F ht⟩) G.2.2.2.2 dX12_wave_170
  · have h := oif_neg c11 h
    refine lv_iconst (v := 0) hx hb dX12_wave_34 (by decide) ?_
    exact W.iret (v := 0) hx hb hr (fun t ht hW => ⟨⟨0, S, rfl, osome2 h, ⟨by rw [ht]; exact G.1, va_K.moved hW.alike hK, G.2.1⟩⟩, G.2.2.F ht⟩) G.2.2.2.2 dX12_wave_35
