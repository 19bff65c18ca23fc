section
/-! 11d.dec2.lean.txt -/
def fr_readWall_b18  (S : MS) (l1 : Int32) : Option (MS) := obind (fr_nextToken S) fun S2 => obind2 (fr_signed S2 (-2000) 2000) fun r8 S5 => obind2 (fr_number S5 1 100) fun r12 S9 => elet (S9.1 5) fun v13 => if v13 ≤ 0 then (elet (72 + l1) fun v15 => oif (inb v15 131 = true) <| elet (mf S9 11 (upd (S9.2.1 11) v15.toNatClampNeg r8)) fun S17 => elet (74 + l1) fun v18 => oif (inb v18 131 = true) <| elet (mf S17 11 (upd (S17.2.1 11) v18.toNatClampNeg r12)) fun S20 => elet (S20.2.1 11 71) fun v21 => elet (v21 + 1) fun v22 => elet (mf S20 11 (upd (S20.2.1 11) 71 v22)) fun S23 => some S23) else (some S9)
set_option maxHeartbeats 4000000 in
set_option maxRecDepth 100000 in
theorem tr_readWall_b18 {p : Program} {l : Launch} {e : Env} {s : State} {m : MethodId} {args : Array Value} {below : List Frame} {meth : Method} {c : Code} {Q : State → Prop} {D : va_G} {A : Nat → Prop} {H0 : Heap} {cI cJ cZ : ClassId} {ad : Nat → Nat} {S1 : MS} (E : mE p c cX12_readWall s m args (Cond.code yX12_readWall cX12_readWall 4 none :: wsM) D cI cJ cZ) (hA : ∀ q : Nat, H0.size ≤ q → A q) (hR : sR s) (hml : c.maxLocals = 4) (kr48 : ∀ (H : Heap) (locs : List Loc) (ls : Array Slot), mG D cI cJ cZ ad A H0 H locs S1 → W p l e { frames := 5, cells := 0, slots := 0, locals := 90 } s m args below meth c H locs 0 0 Q (F0 m 48 ls [])) (kr80 : ∀ (H : Heap) (locs : List Loc) (ls : Array Slot), mG D cI cJ cZ ad A H0 H locs S1 → W p l e { frames := 5, cells := 0, slots := 0, locals := 90 } s m args below meth c H locs 0 0 Q (F0 m 80 ls [])) : ∀ (S : MS) (H : Heap) (locs : List Loc) (ls : Array Slot) (l1 : Int32), fr_readWall_b18 S l1 = some S1 → mG D cI cJ cZ ad A H0 H locs S → lv_has ls 4 [(0, .ref (ad 0)), (1, .int l1)] → W p l e { frames := 5, cells := 0, slots := 0, locals := 90 } s m args below meth c H locs 0 0 Q (F0 m 18 ls []) := by
  have hx := E.1
  have hb := E.2.1
  have hts := E.2.2.1
  have hown := E.2.2.2.1
  have hK := E.2.2.2.2.1
  intro S H locs ls l1 h G hl
  unfold fr_readWall_b18 at h
  refine lv_aload_n hx hb dX12_readWall_18 rfl (lv_at hl 0 rfl) ?_
  obtain ⟨S2, eS2, h⟩ := obind_some h
  refine m_callv (As := []) (rest := []) E G hA hR hml (tr_nextToken l D cI cJ cZ ad S eS2) (cwV 0 hts (gmV qM_111 qM_112 qM_113 qM_35 qM_45) rfl rfl rfl (by decide +kernel) ⟨Nat.le_of_ble_eq_true rfl, Nat.le_of_ble_eq_true rfl⟩) rfl hl.1 rfl (lv_room (Nat.le_of_ble_eq_true rfl)) dX12_readWall_19 ⟨Nat.zero_le _, Nat.zero_le _⟩ (fun S4 H locs hq G => ?_)
  rw [hq] at G
  clear hq eS2
  refine lv_aload_n hx hb dX12_readWall_22 rfl (lv_at hl 0 rfl) ?_
  refine lv_sipush (v := (-2000)) hx hb dX12_readWall_23 (by decide) ?_
  refine lv_sipush (v := 2000) hx hb dX12_readWall_26 (by decide) ?_
  obtain ⟨r8, S5, eS5, h⟩ := obind2_some h
  refine m_calli (As := [.int (-2000), .int 2000]) (rest := []) E G hA hR hml (tr_signed l D cI cJ cZ ad S2 (-2000) 2000 eS5) (cwV 2 hts (gmV qM_142 qM_143 qM_144 qM_35 qM_133) rfl rfl rfl (by decide +kernel) ⟨Nat.le_of_ble_eq_true rfl, Nat.le_of_ble_eq_true rfl⟩) rfl hl.1 rfl (lv_room (Nat.le_of_ble_eq_true rfl)) dX12_readWall_29 ⟨Nat.zero_le _, Nat.zero_le _⟩ (fun q6 S7 H locs hq G => ?_)
  obtain ⟨hq1, hq2⟩ := hq
  rw [hq2] at G
  refine lv_to hq1 ?_
  clear hq1 hq2 eS5
  refine lv_istore_n (lv' := [(2, .int r8), (0, .ref (ad 0)), (1, .int l1)]) hx hb dX12_readWall_32 rfl hl (by decide) rfl (fun ls hl => ?_)
  refine lv_aload_n hx hb dX12_readWall_33 rfl (lv_at hl 1 rfl) ?_
  refine lv_iconst (v := 1) hx hb dX12_readWall_34 (by decide) ?_
  refine lv_bipush (v := 100) hx hb dX12_readWall_35 (by decide) ?_
  obtain ⟨r12, S9, eS9, h⟩ := obind2_some h
  refine m_calli (As := [.int 1, .int 100]) (rest := []) E G hA hR hml (tr_number l D cI cJ cZ ad S5 1 100 eS9) (cwV 2 hts (gmV qM_130 qM_131 qM_132 qM_35 qM_122) rfl rfl rfl (by decide +kernel) ⟨Nat.le_of_ble_eq_true rfl, Nat.le_of_ble_eq_true rfl⟩) rfl hl.1 rfl (lv_room (Nat.le_of_ble_eq_true rfl)) dX12_readWall_37 ⟨Nat.zero_le _, Nat.zero_le _⟩ (fun q10 S11 H locs hq G => ?_)
  obtain ⟨hq1, hq2⟩ := hq
  rw [hq2] at G
  refine lv_to hq1 ?_
  clear hq1 hq2 eS9
  refine lv_istore_n (lv' := [(3, .int r12), (2, .int r8), (0, .ref (ad 0)), (1, .int l1)]) hx hb dX12_readWall_40 rfl hl (by decide) rfl (fun ls hl => ?_)
  refine lv_aload_n hx hb dX12_readWall_41 rfl (lv_at hl 2 rfl) ?_
  refine m_get E G 5 (v := .int (S9.1 5)) (by decide) (.tail _ qM_38) rfl dX12_readWall_42 rfl ?_
  refine lv_topi (fun v13 ev13 => ?_)
  have h := elet_at ev13 h
  clear ev13
  refine lv_if_le (tgt := 49) hx hb dX12_readWall_45 (by decide) (fun c14 => ?_) (fun c14 => ?_)
  · have h := oif_pos c14 h
    refine lv_aload_n hx hb dX12_readWall_49 rfl (lv_at hl 2 rfl) ?_
    refine m_get E G 11 (v := .ref (ad 11)) (by decide) (.tail _ qM_8) rfl dX12_readWall_50 rfl ?_
    refine lv_bipush (v := 72) hx hb dX12_readWall_53 (by decide) ?_
    refine lv_iload_n hx hb dX12_readWall_55 rfl (lv_at hl 3 rfl) ?_
    refine lv_iadd hx hb dX12_readWall_56 ?_
    refine lv_topi (fun v15 ev15 => ?_)
    have h := elet_at ev15 h
    clear ev15
    refine lv_iload_n hx hb dX12_readWall_57 rfl (lv_at hl 1 rfl) ?_
    obtain ⟨g16, h⟩ := oif_some h
    refine m_iast E G 11 3 (k := v15.toNatClampNeg) (v := r8) rfl (fun _ => rfl) (inb_k g16).1 (inb_k g16).2 (by decide) dX12_readWall_58 (fun H locs G => ?_)
    obtain ⟨S17, eS17, h⟩ := elet_some h
    rw [← eS17] at G
    clear eS17
    refine lv_aload_n hx hb dX12_readWall_59 rfl (lv_at hl 2 rfl) ?_
    refine m_get E G 11 (v := .ref (ad 11)) (by decide) (.tail _ qM_8) rfl dX12_readWall_60 rfl ?_
    refine lv_bipush (v := 74) hx hb dX12_readWall_63 (by decide) ?_
    refine lv_iload_n hx hb dX12_readWall_65 rfl (lv_at hl 3 rfl) ?_
    refine lv_iadd hx hb dX12_readWall_66 ?_
    refine lv_topi (fun v18 ev18 => ?_)
    have h := elet_at ev18 h
    clear ev18
    refine lv_iload_n hx hb dX12_readWall_67 rfl (lv_at hl 0 rfl) ?_
    obtain ⟨g19, h⟩ := oif_some h
    refine m_iast E G 11 3 (k := v18.toNatClampNeg) (v := r12) rfl (fun _ => rfl) (inb_k g19).1 (inb_k g19).2 (by decide) dX12_readWall_68 (fun H locs G => ?_)
    obtain ⟨S20, eS20, h⟩ := elet_some h
    rw [← eS20] at G
    clear eS20
    refine lv_aload_n hx hb dX12_readWall_69 rfl (lv_at hl 2 rfl) ?_
    refine m_get E G 11 (v := .ref (ad 11)) (by decide) (.tail _ qM_8) rfl dX12_readWall_70 rfl ?_
    refine lv_bipush (v := 71) hx hb dX12_readWall_73 (by decide) ?_
    refine lv_dup2_11 hx hb dX12_readWall_75 rfl rfl ?_
    refine m_iald E G 11 3 (n := 131) (k := 71) rfl rfl (by decide) (by decide) dX12_readWall_76 ?_
    refine lv_topi (fun v21 ev21 => ?_)
    have h := elet_at ev21 h
    clear ev21
    refine lv_iconst (v := 1) hx hb dX12_readWall_77 (by decide) ?_
    refine lv_iadd hx hb dX12_readWall_78 ?_
    refine lv_topi (fun v22 ev22 => ?_)
    have h := elet_at ev22 h
    clear ev22
    refine m_iast E G 11 3 (k := 71) (v := v22) rfl (fun _ => rfl) rfl (by decide) (by decide) dX12_readWall_79 (fun H locs G => ?_)
    obtain ⟨S23, eS23, h⟩ := elet_some h
    rw [← eS23] at G
    clear eS23
    rw [osome1 h] at G
    exact kr80 _ _ _ G
  · have h := oif_neg c14 h
    rw [osome1 h] at G
    exact kr48 _ _ _ G
def fr_readWall (S : MS)  : Option (MS) := elet (S.2.1 11 71) fun v2 => if v2 = 2 then (obind (fr_faults S 4) fun S4 => fr_readWall_b18 S4 v2) else (fr_readWall_b18 S v2)
set_option maxHeartbeats 4000000 in
set_option maxRecDepth 100000 in
theorem tr_readWall (l : Launch) (D : va_G) (cI cJ cZ : ClassId) (ad : Nat → Nat) (S : MS)  {S1 : MS} (h : fr_readWall S = some S1) : mCv l yX12_readWall (Cond.code yX12_readWall cX12_readWall 4 none :: wsM) 5 90 D cI cJ cZ ad S [] (fun S9 => S9 = S1) := by
  intro sz
  refine Met.ofW (cc := cX12_readWall) (maxL := 4) (ret := none) (by decide) rfl ?_
  intro p e s m args below meth c s₁ B hml hv
  obtain ⟨rfl, hsz, hP, hK, hD0, hR⟩ := hv
  have hx := B.exec
  have hb := B.bytes
  have hr := B.returns
  have hts := atoms_spec (ws := (Cond.code yX12_readWall cX12_readWall 4 none :: wsM)) B.pre
  have hown : s.vm.findClass RX12 = some m.cls := findClass_of_methodNamed B.named
  have hlocks := B.notSynchronized
  subst hsz
  have hD := hD0.self (sz := s.heap.size)
  generalize hAe : va_A (MW cI cJ cZ ad S) s.heap.size = A at hD ⊢
  have hA : ∀ q : Nat, s.heap.size ≤ q → A q := fun q h => by rw [← hAe]; exact Or.inr h
  have G : mG D cI cJ cZ ad A s.heap s.heap [] S := ⟨hP, hD, va_S.rf⟩
  have E : mE p c cX12_readWall s m ([.ref (ad 0)] : List Value).toArray (Cond.code yX12_readWall cX12_readWall 4 none :: wsM) D cI cJ cZ := ⟨hx, hb, hts, hown, hK, fun w h => .tail _ (iM_x h)⟩
  have hl := lv_entry ([.ref (ad 0)]) (n := 4) (Nat.le_of_ble_eq_true rfl)
  rw [lg_entry_eq]
  generalize (lg_sl ([.ref (ad 0)]) ++ List.replicate (4 - (lg_sl ([.ref (ad 0)])).length) Slot.unset).toArray = ls at hl ⊢
  have hl : lv_has ls 4 [(0, .ref (ad 0))] := hl
  unfold fr_readWall at h
  refine lv_aload_n hx hb dX12_readWall_0 rfl (lv_at hl 0 rfl) ?_
  refine m_get E G 11 (v := .ref (ad 11)) (by decide) (.tail _ qM_8) rfl dX12_readWall_1 rfl ?_
  refine lv_bipush (v := 71) hx hb dX12_readWall_4 (by decide) ?_
  refine m_iald E G 11 3 (n := 131) (k := 71) rfl rfl (by decide) (by decide) dX12_readWall_6 ?_
  refine lv_topi (fun v2 ev2 => ?_)
  have h := elet_at ev2 h
  clear ev2
  refine lv_istore_n (lv' := [(1, .int v2), (0, .ref (ad 0))]) hx hb dX12_readWall_7 rfl hl (by decide) rfl (fun ls hl => ?_)
  refine lv_iload_n hx hb dX12_readWall_8 rfl (lv_at hl 0 rfl) ?_
  refine lv_iconst (v := 2) hx hb dX12_readWall_9 (by decide) ?_
  refine lv_icmp_ne (tgt := 18) hx hb dX12_readWall_10 (by decide) (fun c3 => ?_) (fun c3 => ?_)
  · have h := oif_neg c3 h
    have hl := lv_sub hl [1, 0] rfl
    exact tr_readWall_b18 E hA hR hml (fun H locs ls G => W.vret hx hb hr (fun t ht hW => ⟨⟨S1, rfl, rfl, ⟨by rw [ht]; exact G.1, va_K.moved hW.alike hK, G.2.1⟩⟩, G.2.2.F ht⟩) G.2.2.2.2 dX12_readWall_48) (fun H locs ls G => W.vret hx hb hr (fun t ht hW => ⟨⟨S1, rfl, rfl, ⟨by rw [ht]; exact G.1, va_K.moved hW.alike hK, G.2.1⟩⟩, G.2.2.F ht⟩) G.2.2.2.2 dX12_readWall_80) _ _ _ _ _ h G hl
  · have h := oif_pos c3 h
    refine lv_aload_n hx hb dX12_readWall_13 rfl (lv_at hl 1 rfl) ?_
    refine lv_iconst (v := 4) hx hb dX12_readWall_14 (by decide) ?_
    obtain ⟨S4, eS4, h⟩ := obind_some h
    refine m_callv (As := [.int 4]) (rest := []) E G hA hR hml (tr_faults l D cI cJ cZ ad S 4 eS4) (cwV 1 hts (gmV qM_118 qM_119 qM_120 qM_35 qM_42) rfl rfl rfl (by decide +kernel) ⟨Nat.le_of_ble_eq_true rfl, Nat.le_of_ble_eq_true rfl⟩) rfl hl.1 rfl (lv_room (Nat.le_of_ble_eq_true rfl)) dX12_readWall_15 ⟨Nat.zero_le _, Nat.zero_le _⟩ (fun S6 H locs hq G => ?_)
    rw [hq] at G
    clear hq eS4
    have hl := lv_sub hl [1, 0] rfl
    exact tr_readWall_b18 E hA hR hml (fun H locs ls G => W.vret hx hb hr (fun t ht hW => ⟨⟨S1, rfl, rfl, ⟨by rw [ht]; exact G.1, va_K.moved hW.alike hK, G.2.1⟩⟩, G.2.2.F ht⟩) G.2.2.2.2 dX12_readWall_48) (fun H locs ls G => W.vret hx hb hr (fun t ht hW => ⟨⟨S1, rfl, rfl, ⟨by rw [ht]; exact G.1, va_K.moved hW.alike hK, G.2.1⟩⟩, G.2.2.F ht⟩) G.2.2.2.2 dX12_readWall_80) _ _ _ _ _ h G hl
def fr_readFade_b43  (S : MS)  : Option (MS) := some S
set_option maxHeartbeats 4000000 in
set_option maxRecDepth 100000 in
theorem tr_readFade_b43 {p : Program} {l : Launch} {e : Env} {s : State} {m : MethodId} {args : Array Value} {below : List Frame} {meth : Method} {c : Code} {Q : State → Prop} {D : va_G} {A : Nat → Prop} {H0 : Heap} {cI cJ cZ : ClassId} {ad : Nat → Nat} {S1 : MS} (E : mE p c cX12_readFade s m args (Cond.code yX12_readFade cX12_readFade 2 none :: wsM) D cI cJ cZ) (hA : ∀ q : Nat, H0.size ≤ q → A q) (hR : sR s) (hml : c.maxLocals = 2) (kr43 : ∀ (H : Heap) (locs : List Loc) (ls : Array Slot), mG D cI cJ cZ ad A H0 H locs S1 → W p l e { frames := 4, cells := 0, slots := 0, locals := 67 } s m args below meth c H locs 0 0 Q (F0 m 43 ls [])) : ∀ (S : MS) (H : Heap) (locs : List Loc) (ls : Array Slot), fr_readFade_b43 S = some S1 → mG D cI cJ cZ ad A H0 H locs S → lv_has ls 2 [] → W p l e { frames := 4, cells := 0, slots := 0, locals := 67 } s m args below meth c H locs 0 0 Q (F0 m 43 ls []) := by
  have hx := E.1
  have hb := E.2.1
  have hts := E.2.2.1
  have hown := E.2.2.2.1
  have hK := E.2.2.2.2.1
  intro S H locs ls h G hl
  unfold fr_readFade_b43 at h
  rw [osome1 h] at G
  exact kr43 _ _ _ G
def fr_readFade_b15  (S : MS)  : Option (MS) := obind (fr_nextToken S) fun S2 => obind2 (fr_number S2 1 999) fun r8 S5 => elet (S5.1 5) fun v9 => if v9 = 0 then (elet (mf S5 11 (upd (S5.2.1 11) 76 r8)) fun S11 => fr_readFade_b43 S11) else (fr_readFade_b43 S5)
set_option maxHeartbeats 4000000 in
set_option maxRecDepth 100000 in
theorem tr_readFade_b15 {p : Program} {l : Launch} {e : Env} {s : State} {m : MethodId} {args : Array Value} {below : List Frame} {meth : Method} {c : Code} {Q : State → Prop} {D : va_G} {A : Nat → Prop} {H0 : Heap} {cI cJ cZ : ClassId} {ad : Nat → Nat} {S1 : MS} (E : mE p c cX12_readFade s m args (Cond.code yX12_readFade cX12_readFade 2 none :: wsM) D cI cJ cZ) (hA : ∀ q : Nat, H0.size ≤ q → A q) (hR : sR s) (hml : c.maxLocals = 2) (kr43 : ∀ (H : Heap) (locs : List Loc) (ls : Array Slot), mG D cI cJ cZ ad A H0 H locs S1 → W p l e { frames := 4, cells := 0, slots := 0, locals := 67 } s m args below meth c H locs 0 0 Q (F0 m 43 ls [])) : ∀ (S : MS) (H : Heap) (locs : List Loc) (ls : Array Slot), fr_readFade_b15 S = some S1 → mG D cI cJ cZ ad A H0 H locs S → lv_has ls 2 [(0, .ref (ad 0))] → W p l e { frames := 4, cells := 0, slots := 0, locals := 67 } s m args below meth c H locs 0 0 Q (F0 m 15 ls []) := by
  have hx := E.1
  have hb := E.2.1
  have hts := E.2.2.1
  have hown := E.2.2.2.1
  have hK := E.2.2.2.2.1
  intro S H locs ls h G hl
  unfold fr_readFade_b15 at h
  refine lv_aload_n hx hb dX12_readFade_15 rfl (lv_at hl 0 rfl) ?_
  obtain ⟨S2, eS2, h⟩ := obind_some h
  refine m_callv (As := []) (rest := []) E G hA hR hml (tr_nextToken l D cI cJ cZ ad S eS2) (cwV 0 hts (gmV qM_111 qM_112 qM_113 qM_35 qM_45) rfl rfl rfl (by decide +kernel) ⟨Nat.le_of_ble_eq_true rfl, Nat.le_of_ble_eq_true rfl⟩) rfl hl.1 rfl (lv_room (Nat.le_of_ble_eq_true rfl)) dX12_readFade_16 ⟨Nat.zero_le _, Nat.zero_le _⟩ (fun S4 H locs hq G => ?_)
  rw [hq] at G
  clear hq eS2
  refine lv_aload_n hx hb dX12_readFade_19 rfl (lv_at hl 0 rfl) ?_
  refine lv_iconst (v := 1) hx hb dX12_readFade_20 (by decide) ?_
  refine lv_sipush (v := 999) hx hb dX12_readFade_21 (by decide) ?_
  obtain ⟨r8, S5, eS5, h⟩ := obind2_some h
  refine m_calli (As := [.int 1, .int 999]) (rest := []) E G hA hR hml (tr_number l D cI cJ cZ ad S2 1 999 eS5) (cwV 2 hts (gmV qM_130 qM_131 qM_132 qM_35 qM_122) rfl rfl rfl (by decide +kernel) ⟨Nat.le_of_ble_eq_true rfl, Nat.le_of_ble_eq_true rfl⟩) rfl hl.1 rfl (lv_room (Nat.le_of_ble_eq_true rfl)) dX12_readFade_24 ⟨Nat.zero_le _, Nat.zero_le _⟩ (fun q6 S7 H locs hq G => ?_)
  obtain ⟨hq1, hq2⟩ := hq
  rw [hq2] at G
  refine lv_to hq1 ?_
  clear hq1 hq2 eS5
  refine lv_istore_n (lv' := [(1, .int r8), (0, .ref (ad 0))]) hx hb dX12_readFade_27 rfl hl (by decide) rfl (fun ls hl => ?_)
  refine lv_aload_n hx hb dX12_readFade_28 rfl (lv_at hl 1 rfl) ?_
  refine m_get E G 5 (v := .int (S5.1 5)) (by decide) (.tail _ qM_38) rfl dX12_readFade_29 rfl ?_
  refine lv_topi (fun v9 ev9 => ?_)
  have h := elet_at ev9 h
  clear ev9
  refine lv_if_ne (tgt := 43) hx hb dX12_readFade_32 (by decide) (fun c10 => ?_) (fun c10 => ?_)
  · have h := oif_neg c10 h
    have hl := lv_sub hl [] rfl
    exact tr_readFade_b43 E hA hR hml kr43 _ _ _ _ h G hl
  · have h := oif_pos c10 h
    refine lv_aload_n hx hb dX12_readFade_35 rfl (lv_at hl 1 rfl) ?_
    refine m_get E G 11 (v := .ref (ad 11)) (by decide) (.tail _ qM_8) rfl dX12_readFade_36 rfl ?_
    refine lv_bipush (v := 76) hx hb dX12_readFade_39 (by decide) ?_
    refine lv_iload_n hx hb dX12_readFade_41 rfl (lv_at hl 0 rfl) ?_
    refine m_iast E G 11 3 (k := 76) (v := r8) rfl (fun _ => rfl) rfl (by decide) (by decide) dX12_readFade_42 (fun H locs G => ?_)
    obtain ⟨S11, eS11, h⟩ := elet_some h
    rw [← eS11] at G
    clear eS11
    have hl := lv_sub hl [] rfl
    exact tr_readFade_b43 E hA hR hml kr43 _ _ _ _ h G hl
def fr_readFade (S : MS)  : Option (MS) := elet (S.2.1 11 76) fun v2 => if v2 ≤ 0 then (fr_readFade_b15 S) else (obind (fr_faults S 3) fun S4 => fr_readFade_b15 S4)
set_option maxHeartbeats 4000000 in
set_option maxRecDepth 100000 in
theorem tr_readFade (l : Launch) (D : va_G) (cI cJ cZ : ClassId) (ad : Nat → Nat) (S : MS)  {S1 : MS} (h : fr_readFade S = some S1) : mCv l yX12_readFade (Cond.code yX12_readFade cX12_readFade 2 none :: wsM) 4 67 D cI cJ cZ ad S [] (fun S9 => S9 = S1) := by
  intro sz
  refine Met.ofW (cc := cX12_readFade) (maxL := 2) (ret := none) (by decide) rfl ?_
  intro p e s m args below meth c s₁ B hml hv
  obtain ⟨rfl, hsz, hP, hK, hD0, hR⟩ := hv
  have hx := B.exec
  have hb := B.bytes
  have hr := B.returns
  have hts := atoms_spec (ws := (Cond.code yX12_readFade cX12_readFade 2 none :: wsM)) B.pre
  have hown : s.vm.findClass RX12 = some m.cls := findClass_of_methodNamed B.named
  have hlocks := B.notSynchronized
  subst hsz
  have hD := hD0.self (sz := s.heap.size)
  generalize hAe : va_A (MW cI cJ cZ ad S) s.heap.size = A at hD ⊢
  have hA : ∀ q : Nat, s.heap.size ≤ q → A q := fun q h => by rw [← hAe]; exact Or.inr h
  have G : mG D cI cJ cZ ad A s.heap s.heap [] S := ⟨hP, hD, va_S.rf⟩
  have E : mE p c cX12_readFade s m ([.ref (ad 0)] : List Value).toArray (Cond.code yX12_readFade cX12_readFade 2 none :: wsM) D cI cJ cZ := ⟨hx, hb, hts, hown, hK, fun w h => .tail _ (iM_x h)⟩
  have hl := lv_entry ([.ref (ad 0)]) (n := 2) (Nat.le_of_ble_eq_true rfl)
  rw [lg_entry_eq]
  generalize (lg_sl ([.ref (ad 0)]) ++ List.replicate (2 - (lg_sl ([.ref (ad 0)])).length) Slot.unset).toArray = ls at hl ⊢
  have hl : lv_has ls 2 [(0, .ref (ad 0))] := hl
  unfold fr_readFade at h
  refine lv_aload_n hx hb dX12_readFade_0 rfl (lv_at hl 0 rfl) ?_
  refine m_get E G 11 (v := .ref (ad 11)) (by decide) (.tail _ qM_8) rfl dX12_readFade_1 rfl ?_
  refine lv_bipush (v := 76) hx hb dX12_readFade_4 (by decide) ?_
  refine m_iald E G 11 3 (n := 131) (k := 76) rfl rfl (by decide) (by decide) dX12_readFade_6 ?_
  refine lv_topi (fun v2 ev2 => ?_)
  have h := elet_at ev2 h
  clear ev2
  refine lv_if_le (tgt := 15) hx hb dX12_readFade_7 (by decide) (fun c3 => ?_) (fun c3 => ?_)
  · have h := oif_pos c3 h
    have hl := lv_sub hl [0] rfl
    exact tr_readFade_b15 E hA hR hml (fun H locs ls G => W.vret hx hb hr (fun t ht hW => ⟨⟨S1, rfl, rfl, ⟨by rw [ht]; exact G.1, va_K.moved hW.alike hK, G.2.1⟩⟩, G.2.2.F ht⟩) G.2.2.2.2 dX12_readFade_43) _ _ _ _ h G hl
  · have h := oif_neg c3 h
    refine lv_aload_n hx hb dX12_readFade_10 rfl (lv_at hl 0 rfl) ?_
    refine lv_iconst (v := 3) hx hb dX12_readFade_11 (by decide) ?_
    obtain ⟨S4, eS4, h⟩ := obind_some h
    refine m_callv (As := [.int 3]) (rest := []) E G hA hR hml (tr_faults l D cI cJ cZ ad S 3 eS4) (cwV 1 hts (gmV qM_118 qM_119 qM_120 qM_35 qM_42) rfl rfl rfl (by decide +kernel) ⟨Nat.le_of_ble_eq_true rfl, Nat.le_of_ble_eq_true rfl⟩) rfl hl.1 rfl (lv_room (Nat.le_of_ble_eq_true rfl)) dX12_readFade_12 ⟨Nat.zero_le _, Nat.zero_le _⟩ (fun S6 H locs hq G => ?_)
    rw [hq] at G
    clear hq eS4
    have hl := lv_sub hl [0] rfl
    exact tr_readFade_b15 E hA hR hml (fun H locs ls G => W.vret hx hb hr (fun t ht hW => ⟨⟨S1, rfl, rfl, ⟨by rw [ht]; exact G.1, va_K.moved hW.alike hK, G.2.1⟩⟩, G.2.2.F ht⟩) G.2.2.2.2 dX12_readFade_43) _ _ _ _ h G hl
def fr_readFilter_b65 (k19 : MS → Option (MS)) (S : MS)  : Option (MS) := obind2 (fr_signed S (-9) 9) fun r5 S2 => elet (S2.1 5) fun v6 => if v6 ≤ 0 then (elet (S2.2.1 11 77) fun v8 => elet (78 + v8) fun v9 => oif (inb v9 131 = true) <| elet (mf S2 11 (upd (S2.2.1 11) v9.toNatClampNeg r5)) fun S11 => elet (S11.2.1 11 77) fun v12 => elet (v12 + 1) fun v13 => elet (mf S11 11 (upd (S11.2.1 11) 77 v13)) fun S14 => elet (S14.1 7) fun v15 => if v15 = 3 then (k19 S14) else (obind2 (fr_isSignHere S14 45) fun r20 S17 => if r20 = 0 then (some S17) else (k19 S17))) else (some S2)
set_option maxHeartbeats 4000000 in
set_option maxRecDepth 100000 in
theorem tr_readFilter_b65 {p : Program} {l : Launch} {e : Env} {s : State} {m : MethodId} {args : Array Value} {below : List Frame} {meth : Method} {c : Code} {Q : State → Prop} {D : va_G} {A : Nat → Prop} {H0 : Heap} {cI cJ cZ : ClassId} {ad : Nat → Nat} {S1 : MS} (E : mE p c cX12_readFilter s m args (Cond.code yX12_readFilter cX12_readFilter 3 none :: wsM) D cI cJ cZ) (hA : ∀ q : Nat, H0.size ≤ q → A q) (hR : sR s) (hml : c.maxLocals = 3) (kr81 : ∀ (H : Heap) (locs : List Loc) (ls : Array Slot), mG D cI cJ cZ ad A H0 H locs S1 → W p l e { frames := 5, cells := 0, slots := 0, locals := 90 } s m args below meth c H locs 0 0 Q (F0 m 81 ls [])) (kr126 : ∀ (H : Heap) (locs : List Loc) (ls : Array Slot), mG D cI cJ cZ ad A H0 H locs S1 → W p l e { frames := 5, cells := 0, slots := 0, locals := 90 } s m args below meth c H locs 0 0 Q (F0 m 126 ls [])) {k19 : MS → Option (MS)} (hk19 : ∀ (S : MS) (H : Heap) (locs : List Loc) (ls : Array Slot), k19 S = some S1 → mG D cI cJ cZ ad A H0 H locs S → lv_has ls 3 [(0, .ref (ad 0))] → W p l e { frames := 5, cells := 0, slots := 0, locals := 90 } s m args below meth c H locs 0 0 Q (F0 m 19 ls [])) : ∀ (S : MS) (H : Heap) (locs : List Loc) (ls : Array Slot), fr_readFilter_b65 k19 S = some S1 → mG D cI cJ cZ ad A H0 H locs S → lv_has ls 3 [(0, .ref (ad 0))] → W p l e { frames := 5, cells := 0, slots := 0, locals := 90 } s m args below meth c H locs 0 0 Q (F0 m 65 ls []) := by
  have hx := E.1
  have hb := E.2.1
  have hts := E.2.2.1
  have hown := E.2.2.2.1
  have hK := E.2.2.2.2.1
  intro S H locs ls h G hl
  unfold fr_readFilter_b65 at h
  refine lv_aload_n hx hb dX12_readFilter_65 rfl (lv_at hl 0 rfl) ?_
  refine lv_bipush (v := (-9)) hx hb dX12_readFilter_66 (by decide) ?_
  refine lv_bipush (v := 9) hx hb dX12_readFilter_68 (by decide) ?_
  obtain ⟨r5, S2, eS2, h⟩ := obind2_some h
  refine m_calli (As := [.int (-9), .int 9]) (rest := []) E G hA hR hml (tr_signed l D cI cJ cZ ad S (-9) 9 eS2) (cwV 2 hts (gmV qM_142 qM_143 qM_144 qM_35 qM_133) rfl rfl rfl (by decide +kernel) ⟨Nat.le_of_ble_eq_true rfl, Nat.le_of_ble_eq_true rfl⟩) rfl hl.1 rfl (lv_room (Nat.le_of_ble_eq_true rfl)) dX12_readFilter_70 ⟨Nat.zero_le _, Nat.zero_le _⟩ (fun q3 S4 H locs hq G => ?_)
  obtain ⟨hq1, hq2⟩ := hq
  rw [hq2] at G
  refine lv_to hq1 ?_
  clear hq1 hq2 eS2
  refine lv_istore_n (lv' := [(2, .int r5), (0, .ref (ad 0))]) hx hb dX12_readFilter_73 rfl hl (by decide) rfl (fun ls hl => ?_)
  refine lv_aload_n hx hb dX12_readFilter_74 rfl (lv_at hl 1 rfl) ?_
  refine m_get E G 5 (v := .int (S2.1 5)) (by decide) (.tail _ qM_38) rfl dX12_readFilter_75 rfl ?_
  refine lv_topi (fun v6 ev6 => ?_)
  have h := elet_at ev6 h
  clear ev6
  refine lv_if_le (tgt := 82) hx hb dX12_readFilter_78 (by decide) (fun c7 => ?_) (fun c7 => ?_)
  · have h := oif_pos c7 h
    refine lv_aload_n hx hb dX12_readFilter_82 rfl (lv_at hl 1 rfl) ?_
    refine m_get E G 11 (v := .ref (ad 11)) (by decide) (.tail _ qM_8) rfl dX12_readFilter_83 rfl ?_
    refine lv_bipush (v := 78) hx hb dX12_readFilter_86 (by decide) ?_
    refine lv_aload_n hx hb dX12_readFilter_88 rfl (lv_at hl 1 rfl) ?_
    refine m_get E G 11 (v := .ref (ad 11)) (by decide) (.tail _ qM_8) rfl dX12_readFilter_89 rfl ?_
    refine lv_bipush (v := 77) hx hb dX12_readFilter_92 (by decide) ?_
    refine m_iald E G 11 3 (n := 131) (k := 77) rfl rfl (by decide) (by decide) dX12_readFilter_94 ?_
    refine lv_topi (fun v8 ev8 => ?_)
    have h := elet_at ev8 h
    clear ev8
    refine lv_iadd hx hb dX12_readFilter_95 ?_
    refine lv_topi (fun v9 ev9 => ?_)
    have h := elet_at ev9 h
    clear ev9
    refine lv_iload_n hx hb dX12_readFilter_96 rfl (lv_at hl 0 rfl) ?_
    obtain ⟨g10, h⟩ := oif_some h
    refine m_iast E G 11 3 (k := v9.toNatClampNeg) (v := r5) rfl (fun _ => rfl) (inb_k g10).1 (inb_k g10).2 (by decide) dX12_readFilter_97 (fun H locs G => ?_)
    obtain ⟨S11, eS11, h⟩ := elet_some h
    rw [← eS11] at G
    clear eS11
    refine lv_aload_n hx hb dX12_readFilter_98 rfl (lv_at hl 1 rfl) ?_
    refine m_get E G 11 (v := .ref (ad 11)) (by decide) (.tail _ qM_8) rfl dX12_readFilter_99 rfl ?_
    refine lv_bipush (v := 77) hx hb dX12_readFilter_102 (by decide) ?_
    refine lv_dup2_11 hx hb dX12_readFilter_104 rfl rfl ?_
    refine m_iald E G 11 3 (n := 131) (k := 77) rfl rfl (by decide) (by decide) dX12_readFilter_105 ?_
    refine lv_topi (fun v12 ev12 => ?_)
    have h := elet_at ev12 h
    clear ev12
    refine lv_iconst (v := 1) hx hb dX12_readFilter_106 (by decide) ?_
    refine lv_iadd hx hb dX12_readFilter_107 ?_
    refine lv_topi (fun v13 ev13 => ?_)
    have h := elet_at ev13 h
    clear ev13
    refine m_iast E G 11 3 (k := 77) (v := v13) rfl (fun _ => rfl) rfl (by decide) (by decide) dX12_readFilter_108 (fun H locs G => ?_)
    obtain ⟨S14, eS14, h⟩ := elet_some h
    rw [← eS14] at G
    clear eS14
    refine lv_aload_n hx hb dX12_readFilter_109 rfl (lv_at hl 1 rfl) ?_
    refine m_get E G 7 (v := .int (S14.1 7)) (by decide) (.tail _ qM_47) rfl dX12_readFilter_110 rfl ?_
    refine lv_topi (fun v15 ev15 => ?_)
    have h := elet_at ev15 h
    clear ev15
    refine lv_iconst (v := 3) hx hb dX12_readFilter_113 (by decide) ?_
    refine lv_icmp_eq (tgt := 19) hx hb dX12_readFilter_114 (by decide) (fun c16 => ?_) (fun c16 => ?_)
    · have h := oif_pos c16 h
      have hl := lv_sub hl [1] rfl
      exact hk19 _ _ _ _ h G hl
    · have h := oif_neg c16 h
      refine lv_aload_n hx hb dX12_readFilter_117 rfl (lv_at hl 1 rfl) ?_
      refine lv_bipush (v := 45) hx hb dX12_readFilter_118 (by decide) ?_
      obtain ⟨r20, S17, eS17, h⟩ := obind2_some h
      refine m_calli (As := [.int 45]) (rest := []) E G hA hR hml (tr_isSignHere l D cI cJ cZ ad S14 45 eS17) (cwV 1 hts (gmV qM_134 qM_135 qM_136 qM_35 qM_56) rfl rfl rfl (by decide +kernel) ⟨Nat.le_of_ble_eq_true rfl, Nat.le_of_ble_eq_true rfl⟩) rfl hl.1 rfl (lv_room (Nat.le_of_ble_eq_true rfl)) dX12_readFilter_120 ⟨Nat.zero_le _, Nat.zero_le _⟩ (fun q18 S19 H locs hq G => ?_)
      obtain ⟨hq1, hq2⟩ := hq
      rw [hq2] at G
      refine lv_to hq1 ?_
      clear hq1 hq2 eS17
      refine lv_if_ne (tgt := 19) hx hb dX12_readFilter_123 (by decide) (fun c21 => ?_) (fun c21 => ?_)
      · have h := oif_neg c21 h
        have hl := lv_sub hl [1] rfl
        exact hk19 _ _ _ _ h G hl
      · have h := oif_pos c21 h
        rw [osome1 h] at G
        exact kr126 _ _ _ G
  · have h := oif_neg c7 h
    rw [osome1 h] at G
    exact kr81 _ _ _ G
def fr_readFilter_b56 (k19 : MS → Option (MS)) (S : MS) (l1 : Int32) : Option (MS) := if l1 = 0 then (fr_readFilter_b65 k19 S) else (obind (fr_faults S 4) fun S3 => fr_readFilter_b65 k19 S3)
set_option maxHeartbeats 4000000 in
set_option maxRecDepth 100000 in
theorem tr_readFilter_b56 {p : Program} {l : Launch} {e : Env} {s : State} {m : MethodId} {args : Array Value} {below : List Frame} {meth : Method} {c : Code} {Q : State → Prop} {D : va_G} {A : Nat → Prop} {H0 : Heap} {cI cJ cZ : ClassId} {ad : Nat → Nat} {S1 : MS} (E : mE p c cX12_readFilter s m args (Cond.code yX12_readFilter cX12_readFilter 3 none :: wsM) D cI cJ cZ) (hA : ∀ q : Nat, H0.size ≤ q → A q) (hR : sR s) (hml : c.maxLocals = 3) (kr81 : ∀ (H : Heap) (locs : List Loc) (ls : Array Slot), mG D cI cJ cZ ad A H0 H locs S1 → W p l e { frames := 5, cells := 0, slots := 0, locals := 90 } s m args below meth c H locs 0 0 Q (F0 m 81 ls [])) (kr126 : ∀ (H : Heap) (locs : List Loc) (ls : Array Slot), mG D cI cJ cZ ad A H0 H locs S1 → W p l e { frames := 5, cells := 0, slots := 0, locals := 90 } s m args below meth c H locs 0 0 Q (F0 m 126 ls [])) {k19 : MS → Option (MS)} (hk19 : ∀ (S : MS) (H : Heap) (locs : List Loc) (ls : Array Slot), k19 S = some S1 → mG D cI cJ cZ ad A H0 H locs S → lv_has ls 3 [(0, .ref (ad 0))] → W p l e { frames := 5, cells := 0, slots := 0, locals := 90 } s m args below meth c H locs 0 0 Q (F0 m 19 ls [])) : ∀ (S : MS) (H : Heap) (locs : List Loc) (ls : Array Slot) (l1 : Int32), fr_readFilter_b56 k19 S l1 = some S1 → mG D cI cJ cZ ad A H0 H locs S → lv_has ls 3 [(0, .ref (ad 0)), (1, .int l1)] → W p l e { frames := 5, cells := 0, slots := 0, locals := 90 } s m args below meth c H locs 0 0 Q (F0 m 56 ls []) := by
  have hx := E.1
  have hb := E.2.1
  have hts := E.2.2.1
  have hown := E.2.2.2.1
  have hK := E.2.2.2.2.1
  intro S H locs ls l1 h G hl
  unfold fr_readFilter_b56 at h
  refine lv_iload_n hx hb dX12_readFilter_56 rfl (lv_at hl 1 rfl) ?_
  refine lv_if_eq (tgt := 65) hx hb dX12_readFilter_57 (by decide) (fun c2 => ?_) (fun c2 => ?_)
  · have h := oif_pos c2 h
    have hl := lv_sub hl [0] rfl
    exact tr_readFilter_b65 E hA hR hml kr81 kr126 hk19 _ _ _ _ h G hl
  · have h := oif_neg c2 h
    refine lv_aload_n hx hb dX12_readFilter_60 rfl (lv_at hl 0 rfl) ?_
    refine lv_iconst (v := 4) hx hb dX12_readFilter_61 (by decide) ?_
    obtain ⟨S3, eS3, h⟩ := obind_some h
    refine m_callv (As := [.int 4]) (rest := []) E G hA hR hml (tr_faults l D cI cJ cZ ad S 4 eS3) (cwV 1 hts (gmV qM_118 qM_119 qM_120 qM_35 qM_42) rfl rfl rfl (by decide +kernel) ⟨Nat.le_of_ble_eq_true rfl, Nat.le_of_ble_eq_true rfl⟩) rfl hl.1 rfl (lv_room (Nat.le_of_ble_eq_true rfl)) dX12_readFilter_62 ⟨Nat.zero_le _, Nat.zero_le _⟩ (fun S5 H locs hq G => ?_)
    rw [hq] at G
    clear hq eS3
    have hl := lv_sub hl [0] rfl
    exact tr_readFilter_b65 E hA hR hml kr81 kr126 hk19 _ _ _ _ h G hl
def fr_readFilter_b35 (k19 : MS → Option (MS)) (S : MS) (s0 : Int32) : Option (MS) := if s0 = 0 then (fr_readFilter_b56 k19 S s0) else (elet (S.1 7) fun v3 => if v3 = 3 then (obind2 (fr_look S 0 9) fun r8 S5 => fr_readFilter_b56 k19 S5 s0) else (fr_readFilter_b56 k19 S s0))
set_option maxHeartbeats 4000000 in
set_option maxRecDepth 100000 in
theorem tr_readFilter_b35 {p : Program} {l : Launch} {e : Env} {s : State} {m : MethodId} {args : Array Value} {below : List Frame} {meth : Method} {c : Code} {Q : State → Prop} {D : va_G} {A : Nat → Prop} {H0 : Heap} {cI cJ cZ : ClassId} {ad : Nat → Nat} {S1 : MS} (E : mE p c cX12_readFilter s m args (Cond.code yX12_readFilter cX12_readFilter 3 none :: wsM) D cI cJ cZ) (hA : ∀ q : Nat, H0.size ≤ q → A q) (hR : sR s) (hml : c.maxLocals = 3) (kr81 : ∀ (H : Heap) (locs : List Loc) (ls : Array Slot), mG D cI cJ cZ ad A H0 H locs S1 → W p l e { frames := 5, cells := 0, slots := 0, locals := 90 } s m args below meth c H locs 0 0 Q (F0 m 81 ls [])) (kr126 : ∀ (H : Heap) (locs : List Loc) (ls : Array Slot), mG D cI cJ cZ ad A H0 H locs S1 → W p l e { frames := 5, cells := 0, slots := 0, locals := 90 } s m args below meth c H locs 0 0 Q (F0 m 126 ls [])) {k19 : MS → Option (MS)} (hk19 : ∀ (S : MS) (H : Heap) (locs : List Loc) (ls : Array Slot), k19 S = some S1 → mG D cI cJ cZ ad A H0 H locs S → lv_has ls 3 [(0, .ref (ad 0))] → W p l e { frames := 5, cells := 0, slots := 0, locals := 90 } s m args below meth c H locs 0 0 Q (F0 m 19 ls [])) : ∀ (S : MS) (H : Heap) (locs : List Loc) (ls : Array Slot) (s0 : Int32), fr_readFilter_b35 k19 S s0 = some S1 → mG D cI cJ cZ ad A H0 H locs S → lv_has ls 3 [(0, .ref (ad 0))] → W p l e { frames := 5, cells := 0, slots := 0, locals := 90 } s m args below meth c H locs 0 0 Q (F0 m 35 ls [.int s0]) := by
  have hx := E.1
  have hb := E.2.1
  have hts := E.2.2.1
  have hown := E.2.2.2.1
  have hK := E.2.2.2.2.1
  intro S H locs ls s0 h G hl
  unfold fr_readFilter_b35 at h
  refine lv_istore_n (lv' := [(1, .int s0), (0, .ref (ad 0))]) hx hb dX12_readFilter_35 rfl hl (by decide) rfl (fun ls hl => ?_)
  refine lv_iload_n hx hb dX12_readFilter_36 rfl (lv_at hl 0 rfl) ?_
  refine lv_if_eq (tgt := 56) hx hb dX12_readFilter_37 (by decide) (fun c2 => ?_) (fun c2 => ?_)
  · have h := oif_pos c2 h
    have hl := lv_sub hl [1, 0] rfl
    exact tr_readFilter_b56 E hA hR hml kr81 kr126 hk19 _ _ _ _ _ h G hl
  · have h := oif_neg c2 h
    refine lv_aload_n hx hb dX12_readFilter_40 rfl (lv_at hl 1 rfl) ?_
    refine m_get E G 7 (v := .int (S.1 7)) (by decide) (.tail _ qM_47) rfl dX12_readFilter_41 rfl ?_
    refine lv_topi (fun v3 ev3 => ?_)
    have h := elet_at ev3 h
    clear ev3
    refine lv_iconst (v := 3) hx hb dX12_readFilter_44 (by decide) ?_
    refine lv_icmp_ne (tgt := 56) hx hb dX12_readFilter_45 (by decide) (fun c4 => ?_) (fun c4 => ?_)
    · have h := oif_neg c4 h
      have hl := lv_sub hl [1, 0] rfl
      exact tr_readFilter_b56 E hA hR hml kr81 kr126 hk19 _ _ _ _ _ h G hl
    · have h := oif_pos c4 h
      refine lv_aload_n hx hb dX12_readFilter_48 rfl (lv_at hl 1 rfl) ?_
      refine lv_iconst (v := 0) hx hb dX12_readFilter_49 (by decide) ?_
      refine lv_bipush (v := 9) hx hb dX12_readFilter_50 (by decide) ?_
      obtain ⟨r8, S5, eS5, h⟩ := obind2_some h
      refine m_calli (As := [.int 0, .int 9]) (rest := []) E G hA hR hml (tr_look l D cI cJ cZ ad S 0 9 eS5) (cwV 2 hts (gmV qM_123 qM_124 qM_125 qM_35 qM_121) rfl rfl rfl (by decide +kernel) ⟨Nat.le_of_ble_eq_true rfl, Nat.le_of_ble_eq_true rfl⟩) rfl hl.1 rfl (lv_room (Nat.le_of_ble_eq_true rfl)) dX12_readFilter_52 ⟨Nat.zero_le _, Nat.zero_le _⟩ (fun q6 S7 H locs hq G => ?_)
      obtain ⟨hq1, hq2⟩ := hq
      rw [hq2] at G
      refine lv_to hq1 ?_
      clear hq1 hq2 eS5
      refine lv_pop hx hb dX12_readFilter_55 rfl ?_
      have hl := lv_sub hl [1, 0] rfl
      exact tr_readFilter_b56 E hA hR hml kr81 kr126 hk19 _ _ _ _ _ h G hl
def fr_readFilter_b19  : Nat → MS → Option (MS)
  | 0, _ => none
  | n + 1, S => elet (S.2.1 11 77) fun v2 => if v2 = 5 then (fr_readFilter_b35 (fr_readFilter_b19 n) S 1) else (fr_readFilter_b35 (fr_readFilter_b19 n) S 0)
set_option maxHeartbeats 4000000 in
set_option maxRecDepth 100000 in
theorem tr_readFilter_b19 {p : Program} {l : Launch} {e : Env} {s : State} {m : MethodId} {args : Array Value} {below : List Frame} {meth : Method} {c : Code} {Q : State → Prop} {D : va_G} {A : Nat → Prop} {H0 : Heap} {cI cJ cZ : ClassId} {ad : Nat → Nat} {S1 : MS} (E : mE p c cX12_readFilter s m args (Cond.code yX12_readFilter cX12_readFilter 3 none :: wsM) D cI cJ cZ) (hA : ∀ q : Nat, H0.size ≤ q → A q) (hR : sR s) (hml : c.maxLocals = 3) (kr81 : ∀ (H : Heap) (locs : List Loc) (ls : Array Slot), mG D cI cJ cZ ad A H0 H locs S1 → W p l e { frames := 5, cells := 0, slots := 0, locals := 90 } s m args below meth c H locs 0 0 Q (F0 m 81 ls [])) (kr126 : ∀ (H : Heap) (locs : List Loc) (ls : Array Slot), mG D cI cJ cZ ad A H0 H locs S1 → W p l e { frames := 5, cells := 0, slots := 0, locals := 90 } s m args below meth c H locs 0 0 Q (F0 m 126 ls [])) : ∀ n : Nat, ∀ (S : MS) (H : Heap) (locs : List Loc) (ls : Array Slot), fr_readFilter_b19 n S = some S1 → mG D cI cJ cZ ad A H0 H locs S → lv_has ls 3 [(0, .ref (ad 0))] → W p l e { frames := 5, cells := 0, slots := 0, locals := 90 } s m args below meth c H locs 0 0 Q (F0 m 19 ls []) := by
  have hx := E.1
  have hb := E.2.1
  have hts := E.2.2.1
  have hown := E.2.2.2.1
  have hK := E.2.2.2.2.1
  intro n
  induction n with
  | zero =>
    intro S H locs ls h
    have h : (none : Option (MS)) = some S1 := h
    cases h
  | succ n ih =>
    intro S H locs ls h G hl
    unfold fr_readFilter_b19 at h
    refine lv_aload_n hx hb dX12_readFilter_19 rfl (lv_at hl 0 rfl) ?_
    refine m_get E G 11 (v := .ref (ad 11)) (by decide) (.tail _ qM_8) rfl dX12_readFilter_20 rfl ?_
    refine lv_bipush (v := 77) hx hb dX12_readFilter_23 (by decide) ?_
    refine m_iald E G 11 3 (n := 131) (k := 77) rfl rfl (by decide) (by decide) dX12_readFilter_25 ?_
    refine lv_topi (fun v2 ev2 => ?_)
    have h := elet_at ev2 h
    clear ev2
    refine lv_iconst (v := 5) hx hb dX12_readFilter_26 (by decide) ?_
    refine lv_icmp_ne (tgt := 34) hx hb dX12_readFilter_27 (by decide) (fun c3 => ?_) (fun c3 => ?_)
    · have h := oif_neg c3 h
      refine lv_iconst (v := 0) hx hb dX12_readFilter_34 (by decide) ?_
      have hl := lv_sub hl [0] rfl
      exact tr_readFilter_b35 E hA hR hml kr81 kr126 ih _ _ _ _ _ h G hl
    · have h := oif_pos c3 h
      refine lv_iconst (v := 1) hx hb dX12_readFilter_30 (by decide) ?_
      refine lv_goto (tgt := 35) hx hb dX12_readFilter_31 (by decide) ?_
      have hl := lv_sub hl [0] rfl
      exact tr_readFilter_b35 E hA hR hml kr81 kr126 ih _ _ _ _ _ h G hl
def fr_readFilter_b15  (S : MS)  : Option (MS) := obind (fr_nextToken S) fun S2 => fr_readFilter_b19 16384 S2
set_option maxHeartbeats 4000000 in
set_option maxRecDepth 100000 in
theorem tr_readFilter_b15 {p : Program} {l : Launch} {e : Env} {s : State} {m : MethodId} {args : Array Value} {below : List Frame} {meth : Method} {c : Code} {Q : State → Prop} {D : va_G} {A : Nat → Prop} {H0 : Heap} {cI cJ cZ : ClassId} {ad : Nat → Nat} {S1 : MS} (E : mE p c cX12_readFilter s m args (Cond.code yX12_readFilter cX12_readFilter 3 none :: wsM) D cI cJ cZ) (hA : ∀ q : Nat, H0.size ≤ q → A q) (hR : sR s) (hml : c.maxLocals = 3) (kr81 : ∀ (H : Heap) (locs : List Loc) (ls : Array Slot), mG D cI cJ cZ ad A H0 H locs S1 → W p l e { frames := 5, cells := 0, slots := 0, locals := 90 } s m args below meth c H locs 0 0 Q (F0 m 81 ls [])) (kr126 : ∀ (H : Heap) (locs : List Loc) (ls : Array Slot), mG D cI cJ cZ ad A H0 H locs S1 → W p l e { frames := 5, cells := 0, slots := 0, locals := 90 } s m args below meth c H locs 0 0 Q (F0 m 126 ls [])) : ∀ (S : MS) (H : Heap) (locs : List Loc) (ls : Array Slot), fr_readFilter_b15 S = some S1 → mG D cI cJ cZ ad A H0 H locs S → lv_has ls 3 [(0, .ref (ad 0))] → W p l e { frames := 5, cells := 0, slots := 0, locals := 90 } s m args below meth c H locs 0 0 Q (F0 m 15 ls []) := by
  have hx := E.1
  have hb := E.2.1
  have hts := E.2.2.1
  have hown := E.2.2.2.1
  have hK := E.2.2.2.2.1
  intro S H locs ls h G hl
  unfold fr_readFilter_b15 at h
  refine lv_aload_n hx hb dX12_readFilter_15 rfl (lv_at hl 0 rfl) ?_
  obtain ⟨S2, eS2, h⟩ := obind_some h
  refine m_callv (As := []) (rest := []) E G hA hR hml (tr_nextToken l D cI cJ cZ ad S eS2) (cwV 0 hts (gmV qM_111 qM_112 qM_113 qM_35 qM_45) rfl rfl rfl (by decide +kernel) ⟨Nat.le_of_ble_eq_true rfl, Nat.le_of_ble_eq_true rfl⟩) rfl hl.1 rfl (lv_room (Nat.le_of_ble_eq_true rfl)) dX12_readFilter_16 ⟨Nat.zero_le _, Nat.zero_le _⟩ (fun S4 H locs hq G => ?_)
  rw [hq] at G
  clear hq eS2
  have hl := lv_sub hl [0] rfl
  exact tr_readFilter_b19 E hA hR hml kr81 kr126 _ _ _ _ _ h G hl
def fr_readFilter (S : MS)  : Option (MS) := elet (S.2.1 11 77) fun v2 => if v2 ≤ 0 then (fr_readFilter_b15 S) else (obind (fr_faults S 3) fun S4 => fr_readFilter_b15 S4)
set_option maxHeartbeats 4000000 in
set_option maxRecDepth 100000 in
theorem tr_readFilter (l : Launch) (D : va_G) (cI cJ cZ : ClassId) (ad : Nat → Nat) (S : MS)  {S1 : MS} (h : fr_readFilter S = some S1) : mCv l yX12_readFilter (Cond.code yX12_readFilter cX12_readFilter 3 none :: wsM) 5 90 D cI cJ cZ ad S [] (fun S9 => S9 = S1) := by
  intro sz
  refine Met.ofW (cc := cX12_readFilter) (maxL := 3) (ret := none) (by decide) rfl ?_
  intro p e s m args below meth c s₁ B hml hv
  obtain ⟨rfl, hsz, hP, hK, hD0, hR⟩ := hv
  have hx := B.exec
  have hb := B.bytes
  have hr := B.returns
  have hts := atoms_spec (ws := (Cond.code yX12_readFilter cX12_readFilter 3 none :: wsM)) B.pre
  have hown : s.vm.findClass RX12 = some m.cls := findClass_of_methodNamed B.named
  have hlocks := B.notSynchronized
  subst hsz
  have hD := hD0.self (sz := s.heap.size)
  generalize hAe : va_A (MW cI cJ cZ ad S) s.heap.size = A at hD ⊢
  have hA : ∀ q : Nat, s.heap.size ≤ q → A q := fun q h => by rw [← hAe]; exact Or.inr h
  have G : mG D cI cJ cZ ad A s.heap s.heap [] S := ⟨hP, hD, va_S.rf⟩
  have E : mE p c cX12_readFilter s m ([.ref (ad 0)] : List Value).toArray (Cond.code yX12_readFilter cX12_readFilter 3 none :: wsM) D cI cJ cZ := ⟨hx, hb, hts, hown, hK, fun w h => .tail _ (iM_x h)⟩
  have hl := lv_entry ([.ref (ad 0)]) (n := 3) (Nat.le_of_ble_eq_true rfl)
  rw [lg_entry_eq]
  generalize (lg_sl ([.ref (ad 0)]) ++ List.replicate (3 - (lg_sl ([.ref (ad 0)])).length) Slot.unset).toArray = ls at hl ⊢
  have hl : lv_has ls 3 [(0, .ref (ad 0))] := hl
  unfold fr_readFilter at h
  refine lv_aload_n hx hb dX12_readFilter_0 rfl (lv_at hl 0 rfl) ?_
  refine m_get E G 11 (v := .ref (ad 11)) (by decide) (.tail _ qM_8) rfl dX12_readFilter_1 rfl ?_
  refine lv_bipush (v := 77) hx hb dX12_readFilter_4 (by decide) ?_
  refine m_iald E G 11 3 (n := 131) (k := 77) rfl rfl (by decide) (by decide) dX12_readFilter_6 ?_
  refine lv_topi (fun v2 ev2 => ?_)
  have h := elet_at ev2 h
  clear ev2
  refine lv_if_le (tgt := 15) hx hb dX12_readFilter_7 (by decide) (fun c3 => ?_) (fun c3 => ?_)
  · have h := oif_pos c3 h
    have hl := lv_sub hl [0] rfl
    exact tr_readFilter_b15 E hA hR hml (fun H locs ls G => W.vret hx hb hr (fun t ht hW => ⟨⟨S1, rfl, rfl, ⟨by rw [ht]; exact G.1, va_K.moved hW.alike hK, G.2.1⟩⟩, G.2.2.F ht⟩) G.2.2.2.2 dX12_readFilter_81) (fun H locs ls G => W.vret hx hb hr (fun t ht hW => ⟨⟨S1, rfl, rfl, ⟨by rw [ht]; exact G.1, va_K.moved hW.alike hK, G.2.1⟩⟩, G.2.2.F ht⟩) G.2.2.2.2 dX12_readFilter_126) _ _ _ _ h G hl
  · have h := oif_neg c3 h
    refine lv_aload_n hx hb dX12_readFilter_10 rfl (lv_at hl 0 rfl) ?_
    refine lv_iconst (v := 3) hx hb dX12_readFilter_11 (by decide) ?_
    obtain ⟨S4, eS4, h⟩ := obind_some h
    refine m_callv (As := [.int 3]) (rest := []) E G hA hR hml (tr_faults l D cI cJ cZ ad S 3 eS4) (cwV 1 hts (gmV qM_118 qM_119 qM_120 qM_35 qM_42) rfl rfl rfl (by decide +kernel) ⟨Nat.le_of_ble_eq_true rfl, Nat.le_of_ble_eq_true rfl⟩) rfl hl.1 rfl (lv_room (Nat.le_of_ble_eq_true rfl)) dX12_readFilter_12 ⟨Nat.zero_le _, Nat.zero_le _⟩ (fun S6 H locs hq G => ?_)
    rw [hq] at G
    clear hq eS4
    have hl := lv_sub hl [0] rfl
    exact tr_readFilter_b15 E hA hR hml (fun H locs ls G => W.vret hx hb hr (fun t ht hW => ⟨⟨S1, rfl, rfl, ⟨by rw [ht]; exact G.1, va_K.moved hW.alike hK, G.2.1⟩⟩, G.2.2.F ht⟩) G.2.2.2.2 dX12_readFilter_81) (fun H locs ls G => W.vret hx hb hr (fun t ht hW => ⟨⟨S1, rfl, rfl, ⟨by rw [ht]; exact G.1, va_K.moved hW.alike hK, G.2.1⟩⟩, G.2.2.F ht⟩) G.2.2.2.2 dX12_readFilter_126) _ _ _ _ h G hl
def fr_readClock_b71  (S : MS)  : Option (MS) := some S
set_option maxHeartbeats 4000000 in
set_option maxRecDepth 100000 in
theorem tr_readClock_b71 {p : Program} {l : Launch} {e : Env} {s : State} {m : MethodId} {args : Array Value} {below : List Frame} {meth : Method} {c : Code} {Q : State → Prop} {D : va_G} {A : Nat → Prop} {H0 : Heap} {cI cJ cZ : ClassId} {ad : Nat → Nat} {S1 : MS} (E : mE p c cX12_readClock s m args (Cond.code yX12_readClock cX12_readClock 3 none :: wsM) D cI cJ cZ) (hA : ∀ q : Nat, H0.size ≤ q → A q) (hR : sR s) (hml : c.maxLocals = 3) (kr71 : ∀ (H : Heap) (locs : List Loc) (ls : Array Slot), mG D cI cJ cZ ad A H0 H locs S1 → W p l e { frames := 4, cells := 0, slots := 0, locals := 67 } s m args below meth c H locs 0 0 Q (F0 m 71 ls [])) : ∀ (S : MS) (H : Heap) (locs : List Loc) (ls : Array Slot), fr_readClock_b71 S = some S1 → mG D cI cJ cZ ad A H0 H locs S → lv_has ls 3 [] → W p l e { frames := 4, cells := 0, slots := 0, locals := 67 } s m args below meth c H locs 0 0 Q (F0 m 71 ls []) := by
  have hx := E.1
  have hb := E.2.1
  have hts := E.2.2.1
  have hown := E.2.2.2.1
  have hK := E.2.2.2.2.1
  intro S H locs ls h G hl
  unfold fr_readClock_b71 at h
  rw [osome1 h] at G
  exact kr71 _ _ _ G
def fr_readClock_b42  (S : MS) (l1 : Int32) : Option (MS) := obind (fr_nextToken S) fun S2 => obind2 (fr_number S2 1 31) fun r8 S5 => elet (S5.1 5) fun v9 => if v9 = 0 then (elet (83 + l1) fun v11 => oif (inb v11 131 = true) <| elet (mf S5 11 (upd (S5.2.1 11) v11.toNatClampNeg r8)) fun S13 => fr_readClock_b71 S13) else (fr_readClock_b71 S5)
set_option maxHeartbeats 4000000 in
set_option maxRecDepth 100000 in
theorem tr_readClock_b42 {p : Program} {l : Launch} {e : Env} {s : State} {m : MethodId} {args : Array Value} {below : List Frame} {meth : Method} {c : Code} {Q : State → Prop} {D : va_G} {A : Nat → Prop} {H0 : Heap} {cI cJ cZ : ClassId} {ad : Nat → Nat} {S1 : MS} (E : mE p c cX12_readClock s m args (Cond.code yX12_readClock cX12_readClock 3 none :: wsM) D cI cJ cZ) (hA : ∀ q : Nat, H0.size ≤ q → A q) (hR : sR s) (hml : c.maxLocals = 3) (kr71 : ∀ (H : Heap) (locs : List Loc) (ls : Array Slot), mG D cI cJ cZ ad A H0 H locs S1 → W p l e { frames := 4, cells := 0, slots := 0, locals := 67 } s m args below meth c H locs 0 0 Q (F0 m 71 ls [])) : ∀ (S : MS) (H : Heap) (locs : List Loc) (ls : Array Slot) (l1 : Int32), fr_readClock_b42 S l1 = some S1 → mG D cI cJ cZ ad A H0 H locs S → lv_has ls 3 [(0, .ref (ad 0)), (1, .int l1)] → W p l e { frames := 4, cells := 0, slots := 0, locals := 67 } s m args below meth c H locs 0 0 Q (F0 m 42 ls []) := by
  have hx := E.1
  have hb := E.2.1
  have hts := E.2.2.1
  have hown := E.2.2.2.1
  have hK := E.2.2.2.2.1
  intro S H locs ls l1 h G hl
  unfold fr_readClock_b42 at h
  refine lv_aload_n hx hb dX12_readClock_42 rfl (lv_at hl 0 rfl) ?_
  obtain ⟨S2, eS2, h⟩ := obind_some h
  refine m_callv (As := []) (rest := []) E G hA hR hml (tr_nextToken l D cI cJ cZ ad S eS2) (cwV 0 hts (gmV qM_111 qM_112 qM_113 qM_35 qM_45) rfl rfl rfl (by decide +kernel) ⟨Nat.le_of_ble_eq_true rfl, Nat.le_of_ble_eq_true rfl⟩) rfl hl.1 rfl (lv_room (Nat.le_of_ble_eq_true rfl)) dX12_readClock_43 ⟨Nat.zero_le _, Nat.zero_le _⟩ (fun S4 H locs hq G => ?_)
  rw [hq] at G
  clear hq eS2
  refine lv_aload_n hx hb dX12_readClock_46 rfl (lv_at hl 0 rfl) ?_
  refine lv_iconst (v := 1) hx hb dX12_readClock_47 (by decide) ?_
  refine lv_bipush (v := 31) hx hb dX12_readClock_48 (by decide) ?_
  obtain ⟨r8, S5, eS5, h⟩ := obind2_some h
  refine m_calli (As := [.int 1, .int 31]) (rest := []) E G hA hR hml (tr_number l D cI cJ cZ ad S2 1 31 eS5) (cwV 2 hts (gmV qM_130 qM_131 qM_132 qM_35 qM_122) rfl rfl rfl (by decide +kernel) ⟨Nat.le_of_ble_eq_true rfl, Nat.le_of_ble_eq_true rfl⟩) rfl hl.1 rfl (lv_room (Nat.le_of_ble_eq_true rfl)) dX12_readClock_50 ⟨Nat.zero_le _, Nat.zero_le _⟩ (fun q6 S7 H locs hq G => ?_)
  obtain ⟨hq1, hq2⟩ := hq
  rw [hq2] at G
  refine lv_to hq1 ?_
  clear hq1 hq2 eS5
  refine lv_istore_n (lv' := [(2, .int r8), (0, .ref (ad 0)), (1, .int l1)]) hx hb dX12_readClock_53 rfl hl (by decide) rfl (fun ls hl => ?_)
  refine lv_aload_n hx hb dX12_readClock_54 rfl (lv_at hl 1 rfl) ?_
  refine m_get E G 5 (v := .int (S5.1 5)) (by decide) (.tail _ qM_38) rfl dX12_readClock_55 rfl ?_
  refine lv_topi (fun v9 ev9 => ?_)
  have h := elet_at ev9 h
  clear ev9
  refine lv_if_ne (tgt := 71) hx hb dX12_readClock_58 (by decide) (fun c10 => ?_) (fun c10 => ?_)
  · have h := oif_neg c10 h
    have hl := lv_sub hl [] rfl
    exact tr_readClock_b71 E hA hR hml kr71 _ _ _ _ h G hl
  · have h := oif_pos c10 h
    refine lv_aload_n hx hb dX12_readClock_61 rfl (lv_at hl 1 rfl) ?_
    refine m_get E G 11 (v := .ref (ad 11)) (by decide) (.tail _ qM_8) rfl dX12_readClock_62 rfl ?_
    refine lv_bipush (v := 83) hx hb dX12_readClock_65 (by decide) ?_
    refine lv_iload_n hx hb dX12_readClock_67 rfl (lv_at hl 2 rfl) ?_
    refine lv_iadd hx hb dX12_readClock_68 ?_
    refine lv_topi (fun v11 ev11 => ?_)
    have h := elet_at ev11 h
    clear ev11
    refine lv_iload_n hx hb dX12_readClock_69 rfl (lv_at hl 0 rfl) ?_
    obtain ⟨g12, h⟩ := oif_some h
    refine m_iast E G 11 3 (k := v11.toNatClampNeg) (v := r8) rfl (fun _ => rfl) (inb_k g12).1 (inb_k g12).2 (by decide) dX12_readClock_70 (fun H locs G => ?_)
    obtain ⟨S13, eS13, h⟩ := elet_some h
    rw [← eS13] at G
    clear eS13
    have hl := lv_sub hl [] rfl
    exact tr_readClock_b71 E hA hR hml kr71 _ _ _ _ h G hl
def fr_readClock (S : MS)  : Option (MS) := obind (fr_nextToken S) fun S2 => elet (S2.2.1 11 4) fun v5 => elet (v5 - 1) fun v6 => obind2 (fr_look S2 0 v6) fun r10 S7 => elet (S7.1 5) fun v11 => if v11 = 0 then (elet (83 + r10) fun v13 => oif (inb v13 131 = true) <| elet (S7.2.1 11 v13.toNatClampNeg) fun v15 => if v15 ≤ 0 then (fr_readClock_b42 S7 r10) else (obind (fr_faults S7 3) fun S17 => fr_readClock_b42 S17 r10)) else (fr_readClock_b42 S7 r10)
set_option maxHeartbeats 4000000 in
set_option maxRecDepth 100000 in
theorem tr_readClock (l : Launch) (D : va_G) (cI cJ cZ : ClassId) (ad : Nat → Nat) (S : MS)  {S1 : MS} (h : fr_readClock S = some S1) : mCv l yX12_readClock (Cond.code yX12_readClock cX12_readClock 3 none :: wsM) 4 67 D cI cJ cZ ad S [] (fun S9 => S9 = S1) := by
  intro sz
  refine Met.ofW (cc := cX12_readClock) (maxL := 3) (ret := none) (by decide) rfl ?_
  intro p e s m args below meth c s₁ B hml hv
  obtain ⟨rfl, hsz, hP, hK, hD0, hR⟩ := hv
  have hx := B.exec
  have hb := B.bytes
  have hr := B.returns
  have hts := atoms_spec (ws := (Cond.code yX12_readClock cX12_readClock 3 none :: wsM)) B.pre
  have hown : s.vm.findClass RX12 = some m.cls := findClass_of_methodNamed B.named
  have hlocks := B.notSynchronized
  subst hsz
  have hD := hD0.self (sz := s.heap.size)
  generalize hAe : va_A (MW cI cJ cZ ad S) s.heap.size = A at hD ⊢
  have hA : ∀ q : Nat, s.heap.size ≤ q → A q := fun q h => by rw [← hAe]; exact Or.inr h
  have G : mG D cI cJ cZ ad A s.heap s.heap [] S := ⟨hP, hD, va_S.rf⟩
  have E : mE p c cX12_readClock s m ([.ref (ad 0)] : List Value).toArray (Cond.code yX12_readClock cX12_readClock 3 none :: wsM) D cI cJ cZ := ⟨hx, hb, hts, hown, hK, fun w h => .tail _ (iM_x h)⟩
  have hl := lv_entry ([.ref (ad 0)]) (n := 3) (Nat.le_of_ble_eq_true rfl)
  rw [lg_entry_eq]
  generalize (lg_sl ([.ref (ad 0)]) ++ List.replicate (3 - (lg_sl ([.ref (ad 0)])).length) Slot.unset).toArray = ls at hl ⊢
  have hl : lv_has ls 3 [(0, .ref (ad 0))] := hl
  unfold fr_readClock at h
  refine lv_aload_n hx hb dX12_readClock_0 rfl (lv_at hl 0 rfl) ?_
  obtain ⟨S2, eS2, h⟩ := obind_some h
  refine m_callv (As := []) (rest := []) E G hA hR hml (tr_nextToken l D cI cJ cZ ad S eS2) (cwV 0 hts (gmV qM_111 qM_112 qM_113 qM_35 qM_45) rfl rfl rfl (by decide +kernel) ⟨Nat.le_of_ble_eq_true rfl, Nat.le_of_ble_eq_true rfl⟩) rfl hl.1 rfl (lv_room (Nat.le_of_ble_eq_true rfl)) dX12_readClock_1 ⟨Nat.zero_le _, Nat.zero_le _⟩ (fun S4 H locs hq G => ?_)
  rw [hq] at G
  clear hq eS2
  refine lv_aload_n hx hb dX12_readClock_4 rfl (lv_at hl 0 rfl) ?_
  refine lv_iconst (v := 0) hx hb dX12_readClock_5 (by decide) ?_
  refine lv_aload_n hx hb dX12_readClock_6 rfl (lv_at hl 0 rfl) ?_
  refine m_get E G 11 (v := .ref (ad 11)) (by decide) (.tail _ qM_8) rfl dX12_readClock_7 rfl ?_
  refine lv_iconst (v := 4) hx hb dX12_readClock_10 (by decide) ?_
  refine m_iald E G 11 3 (n := 131) (k := 4) rfl rfl (by decide) (by decide) dX12_readClock_11 ?_
  refine lv_topi (fun v5 ev5 => ?_)
  have h := elet_at ev5 h
  clear ev5
  refine lv_iconst (v := 1) hx hb dX12_readClock_12 (by decide) ?_
  refine lv_isub hx hb dX12_readClock_13 ?_
  refine lv_topi (fun v6 ev6 => ?_)
  have h := elet_at ev6 h
  clear ev6
  obtain ⟨r10, S7, eS7, h⟩ := obind2_some h
  refine m_calli (As := [.int 0, .int v6]) (rest := []) E G hA hR hml (tr_look l D cI cJ cZ ad S2 0 v6 eS7) (cwV 2 hts (gmV qM_123 qM_124 qM_125 qM_35 qM_121) rfl rfl rfl (by decide +kernel) ⟨Nat.le_of_ble_eq_true rfl, Nat.le_of_ble_eq_true rfl⟩) rfl hl.1 rfl (lv_room (Nat.le_of_ble_eq_true rfl)) dX12_readClock_14 ⟨Nat.zero_le _, Nat.zero_le _⟩ (fun q8 S9 H locs hq G => ?_)
  obtain ⟨hq1, hq2⟩ := hq
  rw [hq2] at G
  refine lv_to hq1 ?_
  clear hq1 hq2 eS7
  refine lv_istore_n (lv' := [(1, .int r10), (0, .ref (ad 0))]) hx hb dX12_readClock_17 rfl hl (by decide) rfl (fun ls hl => ?_)
  refine lv_aload_n hx hb dX12_readClock_18 rfl (lv_at hl 1 rfl) ?_
  refine m_get E G 5 (v := .int (S7.1 5)) (by decide) (.tail _ qM_38) rfl dX12_readClock_19 rfl ?_
  refine lv_topi (fun v11 ev11 => ?_)
  have h := elet_at ev11 h
  clear ev11
  refine lv_if_ne (tgt := 42) hx hb dX12_readClock_22 (by decide) (fun c12 => ?_) (fun c12 => ?_)
  · have h := oif_neg c12 h
    have hl := lv_sub hl [1, 0] rfl
    exact tr_readClock_b42 E hA hR hml (fun H locs ls G => W.vret hx hb hr (fun t ht hW => ⟨⟨S1, rfl, rfl, ⟨by rw [ht]; exact G.1, va_K.moved hW.alike hK, G.2.1⟩⟩, G.2.2.F ht⟩) G.2.2.2.2 dX12_readClock_71) _ _ _ _ _ h G hl
  · have h := oif_pos c12 h
    refine lv_aload_n hx hb dX12_readClock_25 rfl (lv_at hl 1 rfl) ?_
    refine m_get E G 11 (v := .ref (ad 11)) (by decide) (.tail _ qM_8) rfl dX12_readClock_26 rfl ?_
    refine lv_bipush (v := 83) hx hb dX12_readClock_29 (by decide) ?_
    refine lv_iload_n hx hb dX12_readClock_31 rfl (lv_at hl 0 rfl) ?_
    refine lv_iadd hx hb dX12_readClock_32 ?_
    refine lv_topi (fun v13 ev13 => ?_)
    have h := elet_at ev13 h
    clear ev13
    obtain ⟨g14, h⟩ := oif_some h
    refine m_iald E G 11 3 (n := 131) (k := v13.toNatClampNeg) rfl (inb_k g14).1 (inb_k g14).2 (by decide) dX12_readClock_33 ?_
    refine lv_topi (fun v15 ev15 => ?_)
    have h := elet_at ev15 h
    clear ev15
    refine lv_if_le (tgt := 42) hx hb dX12_readClock_34 (by decide) (fun c16 => ?_) (fun c16 => ?_)
    · have h := oif_pos c16 h
      have hl := lv_sub hl [1, 0] rfl
      exact tr_readClock_b42 E hA hR hml (fun H locs ls G => W.vret hx hb hr (fun t ht hW => ⟨⟨S1, rfl, rfl, ⟨by rw [ht]; exact G.1, va_K.moved hW.alike hK, G.2.1⟩⟩, G.2.2.F ht⟩) G.2.2.2.2 dX12_readClock_71) _ _ _ _ _ h G hl
    · have h := oif_neg c16 h
      refine lv_aload_n hx hb dX12_readClock_37 rfl (lv_at hl 1 rfl) ?_
      refine lv_iconst (v := 3) hx hb dX12_readClock_38 (by decide) ?_
      obtain ⟨S17, eS17, h⟩ := obind_some h
      refine m_callv (As := [.int 3]) (rest := []) E G hA hR hml (tr_faults l D cI cJ cZ ad S7 3 eS17) (cwV 1 hts (gmV qM_118 qM_119 qM_120 qM_35 qM_42) rfl rfl rfl (by decide +kernel) ⟨Nat.le_of_ble_eq_true rfl, Nat.le_of_ble_eq_true rfl⟩) rfl hl.1 rfl (lv_room (Nat.le_of_ble_eq_true rfl)) dX12_readClock_39 ⟨Nat.zero_le _, Nat.zero_le _⟩ (fun S19 H locs hq G => ?_)
      rw [hq] at G
      clear hq eS17
      have hl := lv_sub hl [1, 0] rfl
      exact tr_readClock_b42 E hA hR hml (fun H locs ls G => W.vret hx hb hr (fun t ht hW => ⟨⟨S1, rfl, rfl, ⟨by rw [ht]; exact G.1, va_K.moved hW.alike hK, G.2.1⟩⟩, G.2.2.F ht⟩) G.2.2.2.2 dX12_readClock_71) _ _ _ _ _ h G hl
def fr_readShade_b44 (k19 : MS → Option (MS)) (S : MS) (l1 : Int32) : Option (MS) := obind (fr_nextToken S) fun S2 => elet (S2.1 5) fun v5 => if v5 ≤ 0 then (elet (S2.2.1 11 118) fun v7 => elet (119 + v7) fun v8 => oif (inb v8 131 = true) <| elet (mf S2 11 (upd (S2.2.1 11) v8.toNatClampNeg l1)) fun S10 => elet (S10.2.1 11 118) fun v11 => elet (v11 + 1) fun v12 => elet (mf S10 11 (upd (S10.2.1 11) 118 v12)) fun S13 => elet (S13.1 7) fun v14 => if v14 = 3 then (k19 S13) else (some S13)) else (some S2)
set_option maxHeartbeats 4000000 in
set_option maxRecDepth 100000 in
theorem tr_readShade_b44 {p : Program} {l : Launch} {e : Env} {s : State} {m : MethodId} {args : Array Value} {below : List Frame} {meth : Method} {c : Code} {Q : State → Prop} {D : va_G} {A : Nat → Prop} {H0 : Heap} {cI cJ cZ : ClassId} {ad : Nat → Nat} {S1 : MS} (E : mE p c cX12_readShade s m args (Cond.code yX12_readShade cX12_readShade 2 none :: wsM) D cI cJ cZ) (hA : ∀ q : Nat, H0.size ≤ q → A q) (hR : sR s) (hml : c.maxLocals = 2) (kr55 : ∀ (H : Heap) (locs : List Loc) (ls : Array Slot), mG D cI cJ cZ ad A H0 H locs S1 → W p l e { frames := 3, cells := 0, slots := 0, locals := 44 } s m args below meth c H locs 0 0 Q (F0 m 55 ls [])) (kr91 : ∀ (H : Heap) (locs : List Loc) (ls : Array Slot), mG D cI cJ cZ ad A H0 H locs S1 → W p l e { frames := 3, cells := 0, slots := 0, locals := 44 } s m args below meth c H locs 0 0 Q (F0 m 91 ls [])) {k19 : MS → Option (MS)} (hk19 : ∀ (S : MS) (H : Heap) (locs : List Loc) (ls : Array Slot), k19 S = some S1 → mG D cI cJ cZ ad A H0 H locs S → lv_has ls 2 [(0, .ref (ad 0))] → W p l e { frames := 3, cells := 0, slots := 0, locals := 44 } s m args below meth c H locs 0 0 Q (F0 m 19 ls [])) : ∀ (S : MS) (H : Heap) (locs : List Loc) (ls : Array Slot) (l1 : Int32), fr_readShade_b44 k19 S l1 = some S1 → mG D cI cJ cZ ad A H0 H locs S → lv_has ls 2 [(0, .ref (ad 0)), (1, .int l1)] → W p l e { frames := 3, cells := 0, slots := 0, locals := 44 } s m args below meth c H locs 0 0 Q (F0 m 44 ls []) := by
  have hx := E.1
  have hb := E.2.1
  have hts := E.2.2.1
  have hown := E.2.2.2.1
  have hK := E.2.2.2.2.1
  intro S H locs ls l1 h G hl
  unfold fr_readShade_b44 at h
  refine lv_aload_n hx hb dX12_readShade_44 rfl (lv_at hl 0 rfl) ?_
  obtain ⟨S2, eS2, h⟩ := obind_some h
  refine m_callv (As := []) (rest := []) E G hA hR hml (tr_nextToken l D cI cJ cZ ad S eS2) (cwV 0 hts (gmV qM_111 qM_112 qM_113 qM_35 qM_45) rfl rfl rfl (by decide +kernel) ⟨Nat.le_of_ble_eq_true rfl, Nat.le_of_ble_eq_true rfl⟩) rfl hl.1 rfl (lv_room (Nat.le_of_ble_eq_true rfl)) dX12_readShade_45 ⟨Nat.zero_le _, Nat.zero_le _⟩ (fun S4 H locs hq G => ?_)
  rw [hq] at G
  clear hq eS2
  refine lv_aload_n hx hb dX12_readShade_48 rfl (lv_at hl 0 rfl) ?_
  refine m_get E G 5 (v := .int (S2.1 5)) (by decide) (.tail _ qM_38) rfl dX12_readShade_49 rfl ?_
  refine lv_topi (fun v5 ev5 => ?_)
  have h := elet_at ev5 h
  clear ev5
  refine lv_if_le (tgt := 56) hx hb dX12_readShade_52 (by decide) (fun c6 => ?_) (fun c6 => ?_)
  · have h := oif_pos c6 h
    refine lv_aload_n hx hb dX12_readShade_56 rfl (lv_at hl 0 rfl) ?_
    refine m_get E G 11 (v := .ref (ad 11)) (by decide) (.tail _ qM_8) rfl dX12_readShade_57 rfl ?_
    refine lv_bipush (v := 119) hx hb dX12_readShade_60 (by decide) ?_
    refine lv_aload_n hx hb dX12_readShade_62 rfl (lv_at hl 0 rfl) ?_
    refine m_get E G 11 (v := .ref (ad 11)) (by decide) (.tail _ qM_8) rfl dX12_readShade_63 rfl ?_
    refine lv_bipush (v := 118) hx hb dX12_readShade_66 (by decide) ?_
    refine m_iald E G 11 3 (n := 131) (k := 118) rfl rfl (by decide) (by decide) dX12_readShade_68 ?_
    refine lv_topi (fun v7 ev7 => ?_)
    have h := elet_at ev7 h
    clear ev7
    refine lv_iadd hx hb dX12_readShade_69 ?_
    refine lv_topi (fun v8 ev8 => ?_)
    have h := elet_at ev8 h
    clear ev8
    refine lv_iload_n hx hb dX12_readShade_70 rfl (lv_at hl 1 rfl) ?_
    obtain ⟨g9, h⟩ := oif_some h
    refine m_iast E G 11 3 (k := v8.toNatClampNeg) (v := l1) rfl (fun _ => rfl) (inb_k g9).1 (inb_k g9).2 (by decide) dX12_readShade_71 (fun H locs G => ?_)
    obtain ⟨S10, eS10, h⟩ := elet_some h
    rw [← eS10] at G
    clear eS10
    refine lv_aload_n hx hb dX12_readShade_72 rfl (lv_at hl 0 rfl) ?_
    refine m_get E G 11 (v := .ref (ad 11)) (by decide) (.tail _ qM_8) rfl dX12_readShade_73 rfl ?_
    refine lv_bipush (v := 118) hx hb dX12_readShade_76 (by decide) ?_
    refine lv_dup2_11 hx hb dX12_readShade_78 rfl rfl ?_
    refine m_iald E G 11 3 (n := 131) (k := 118) rfl rfl (by decide) (by decide) dX12_readShade_79 ?_
    refine lv_topi (fun v11 ev11 => ?_)
    have h := elet_at ev11 h
    clear ev11
    refine lv_iconst (v := 1) hx hb dX12_readShade_80 (by decide) ?_
    refine lv_iadd hx hb dX12_readShade_81 ?_
    refine lv_topi (fun v12 ev12 => ?_)
    have h := elet_at ev12 h
    clear ev12
    refine m_iast E G 11 3 (k := 118) (v := v12) rfl (fun _ => rfl) rfl (by decide) (by decide) dX12_readShade_82 (fun H locs G => ?_)
    obtain ⟨S13, eS13, h⟩ := elet_some h
    rw [← eS13] at G
    clear eS13
    refine lv_aload_n hx hb dX12_readShade_83 rfl (lv_at hl 0 rfl) ?_
    refine m_get E G 7 (v := .int (S13.1 7)) (by decide) (.tail _ qM_47) rfl dX12_readShade_84 rfl ?_
    refine lv_topi (fun v14 ev14 => ?_)
    have h := elet_at ev14 h
    clear ev14
    refine lv_iconst (v := 3) hx hb dX12_readShade_87 (by decide) ?_
    refine lv_icmp_eq (tgt := 19) hx hb dX12_readShade_88 (by decide) (fun c15 => ?_) (fun c15 => ?_)
    · have h := oif_pos c15 h
      have hl := lv_sub hl [0] rfl
      exact hk19 _ _ _ _ h G hl
    · have h := oif_neg c15 h
      rw [osome1 h] at G
      exact kr91 _ _ _ G
  · have h := oif_neg c6 h
    rw [osome1 h] at G
    exact kr55 _ _ _ G
def fr_readShade_b19  : Nat → MS → Option (MS)
  | 0, _ => none
  | n + 1, S => obind2 (fr_look S 0 9) fun r5 S2 => elet (S2.2.1 11 118) fun v6 => if v6 = 12 then (obind (fr_faults S2 4) fun S8 => fr_readShade_b44 (fr_readShade_b19 n) S8 r5) else (fr_readShade_b44 (fr_readShade_b19 n) S2 r5)
set_option maxHeartbeats 4000000 in
set_option maxRecDepth 100000 in
theorem tr_readShade_b19 {p : Program} {l : Launch} {e : Env} {s : State} {m : MethodId} {args : Array Value} {below : List Frame} {meth : Method} {c : Code} {Q : State → Prop} {D : va_G} {A : Nat → Prop} {H0 : Heap} {cI cJ cZ : ClassId} {ad : Nat → Nat} {S1 : MS} (E : mE p c cX12_readShade s m args (Cond.code yX12_readShade cX12_readShade 2 none :: wsM) D cI cJ cZ) (hA : ∀ q : Nat, H0.size ≤ q → A q) (hR : sR s) (hml : c.maxLocals = 2) (kr55 : ∀ (H : Heap) (locs : List Loc) (ls : Array Slot), mG D cI cJ cZ ad A H0 H locs S1 → W p l e { frames := 3, cells := 0, slots := 0, locals := 44 } s m args below meth c H locs 0 0 Q (F0 m 55 ls [])) (kr91 : ∀ (H : Heap) (locs : List Loc) (ls : Array Slot), mG D cI cJ cZ ad A H0 H locs S1 → W p l e { frames := 3, cells := 0, slots := 0, locals := 44 } s m args below meth c H locs 0 0 Q (F0 m 91 ls [])) : ∀ n : Nat, ∀ (S : MS) (H : Heap) (locs : List Loc) (ls : Array Slot), fr_readShade_b19 n S = some S1 → mG D cI cJ cZ ad A H0 H locs S → lv_has ls 2 [(0, .ref (ad 0))] → W p l e { frames := 3, cells := 0, slots := 0, locals := 44 } s m args below meth c H locs 0 0 Q (F0 m 19 ls []) := by
  have hx := E.1
  have hb := E.2.1
  have hts := E.2.2.1
  have hown := E.2.2.2.1
  have hK := E.2.2.2.2.1
  intro n
  induction n with
  | zero =>
    intro S H locs ls h
    have h : (none : Option (MS)) = some S1 := h
    cases h
  | succ n ih =>
    intro S H locs ls h G hl
    unfold fr_readShade_b19 at h
    refine lv_aload_n hx hb dX12_readShade_19 rfl (lv_at hl 0 rfl) ?_
    refine lv_iconst (v := 0) hx hb dX12_readShade_20 (by decide) ?_
    refine lv_bipush (v := 9) hx hb dX12_readShade_21 (by decide) ?_
    obtain ⟨r5, S2, eS2, h⟩ := obind2_some h
    refine m_calli (As := [.int 0, .int 9]) (rest := []) E G hA hR hml (tr_look l D cI cJ cZ ad S 0 9 eS2) (cwV 2 hts (gmV qM_123 qM_124 qM_125 qM_35 qM_121) rfl rfl rfl (by decide +kernel) ⟨Nat.le_of_ble_eq_true rfl, Nat.le_of_ble_eq_true rfl⟩) rfl hl.1 rfl (lv_room (Nat.le_of_ble_eq_true rfl)) dX12_readShade_23 ⟨Nat.zero_le _, Nat.zero_le _⟩ (fun q3 S4 H locs hq G => ?_)
    obtain ⟨hq1, hq2⟩ := hq
    rw [hq2] at G
    refine lv_to hq1 ?_
    clear hq1 hq2 eS2
    refine lv_istore_n (lv' := [(1, .int r5), (0, .ref (ad 0))]) hx hb dX12_readShade_26 rfl hl (by decide) rfl (fun ls hl => ?_)
    refine lv_aload_n hx hb dX12_readShade_27 rfl (lv_at hl 1 rfl) ?_
    refine m_get E G 11 (v := .ref (ad 11)) (by decide) (.tail _ qM_8) rfl dX12_readShade_28 rfl ?_
    refine lv_bipush (v := 118) hx hb dX12_readShade_31 (by decide) ?_
    refine m_iald E G 11 3 (n := 131) (k := 118) rfl rfl (by decide) (by decide) dX12_readShade_33 ?_
    refine lv_topi (fun v6 ev6 => ?_)
    have h := elet_at ev6 h
    clear ev6
    refine lv_bipush (v := 12) hx hb dX12_readShade_34 (by decide) ?_
    refine lv_icmp_ne (tgt := 44) hx hb dX12_readShade_36 (by decide) (fun c7 => ?_) (fun c7 => ?_)
    · have h := oif_neg c7 h
      have hl := lv_sub hl [1, 0] rfl
      exact tr_readShade_b44 E hA hR hml kr55 kr91 ih _ _ _ _ _ h G hl
    · have h := oif_pos c7 h
      refine lv_aload_n hx hb dX12_readShade_39 rfl (lv_at hl 1 rfl) ?_
      refine lv_iconst (v := 4) hx hb dX12_readShade_40 (by decide) ?_
      obtain ⟨S8, eS8, h⟩ := obind_some h
      refine m_callv (As := [.int 4]) (rest := []) E G hA hR hml (tr_faults l D cI cJ cZ ad S2 4 eS8) (cwV 1 hts (gmV qM_118 qM_119 qM_120 qM_35 qM_42) rfl rfl rfl (by decide +kernel) ⟨Nat.le_of_ble_eq_true rfl, Nat.le_of_ble_eq_true rfl⟩) rfl hl.1 rfl (lv_room (Nat.le_of_ble_eq_true rfl)) dX12_readShade_41 ⟨Nat.zero_le _, Nat.zero_le _⟩ (fun S10 H locs hq G => ?_)
      rw [hq] at G
      clear hq eS8
      have hl := lv_sub hl [1, 0] rfl
      exact tr_readShade_b44 E hA hR hml kr55 kr91 ih _ _ _ _ _ h G hl
def fr_readShade_b15  (S : MS)  : Option (MS) := obind (fr_nextToken S) fun S2 => fr_readShade_b19 16384 S2
set_option maxHeartbeats 4000000 in
set_option maxRecDepth 100000 in
theorem tr_readShade_b15 {p : Program} {l : Launch} {e : Env} {s : State} {m : MethodId} {args : Array Value} {below : List Frame} {meth : Method} {c : Code} {Q : State → Prop} {D : va_G} {A : Nat → Prop} {H0 : Heap} {cI cJ cZ : ClassId} {ad : Nat → Nat} {S1 : MS} (E : mE p c cX12_readShade s m args (Cond.code yX12_readShade cX12_readShade 2 none :: wsM) D cI cJ cZ) (hA : ∀ q : Nat, H0.size ≤ q → A q) (hR : sR s) (hml : c.maxLocals = 2) (kr55 : ∀ (H : Heap) (locs : List Loc) (ls : Array Slot), mG D cI cJ cZ ad A H0 H locs S1 → W p l e { frames := 3, cells := 0, slots := 0, locals := 44 } s m args below meth c H locs 0 0 Q (F0 m 55 ls [])) (kr91 : ∀ (H : Heap) (locs : List Loc) (ls : Array Slot), mG D cI cJ cZ ad A H0 H locs S1 → W p l e { frames := 3, cells := 0, slots := 0, locals := 44 } s m args below meth c H locs 0 0 Q (F0 m 91 ls [])) : ∀ (S : MS) (H : Heap) (locs : List Loc) (ls : Array Slot), fr_readShade_b15 S = some S1 → mG D cI cJ cZ ad A H0 H locs S → lv_has ls 2 [(0, .ref (ad 0))] → W p l e { frames := 3, cells := 0, slots := 0, locals := 44 } s m args below meth c H locs 0 0 Q (F0 m 15 ls []) := by
  have hx := E.1
  have hb := E.2.1
  have hts := E.2.2.1
  have hown := E.2.2.2.1
  have hK := E.2.2.2.2.1
  intro S H locs ls h G hl
  unfold fr_readShade_b15 at h
  refine lv_aload_n hx hb dX12_readShade_15 rfl (lv_at hl 0 rfl) ?_
  obtain ⟨S2, eS2, h⟩ := obind_some h
  refine m_callv (As := []) (rest := []) E G hA hR hml (tr_nextToken l D cI cJ cZ ad S eS2) (cwV 0 hts (gmV qM_111 qM_112 qM_113 qM_35 qM_45) rfl rfl rfl (by decide +kernel) ⟨Nat.le_of_ble_eq_true rfl, Nat.le_of_ble_eq_true rfl⟩) rfl hl.1 rfl (lv_room (Nat.le_of_ble_eq_true rfl)) dX12_readShade_16 ⟨Nat.zero_le _, Nat.zero_le _⟩ (fun S4 H locs hq G => ?_)
  rw [hq] at G
  clear hq eS2
  have hl := lv_sub hl [0] rfl
  exact tr_readShade_b19 E hA hR hml kr55 kr91 _ _ _ _ _ h G hl
def fr_readShade (S : MS)  : Option (MS) := elet (S.2.1 11 118) fun v2 => if v2 ≤ 0 then (fr_readShade_b15 S) else (obind (fr_faults S 3) fun S4 => fr_readShade_b15 S4)
set_option maxHeartbeats 4000000 in
set_option maxRecDepth 100000 in
theorem tr_readShade (l : Launch) (D : va_G) (cI cJ cZ : ClassId) (ad : Nat → Nat) (S : MS)  {S1 : MS} (h : fr_readShade S = some S1) : mCv l yX12_readShade (Cond.code yX12_readShade cX12_readShade 2 none :: wsM) 3 44 D cI cJ cZ ad S [] (fun S9 => S9 = S1) := by
  intro sz
  refine Met.ofW (cc := cX12_readShade) (maxL := 2) (ret := none) (by decide) rfl ?_
  intro p e s m args below meth c s₁ B hml hv
  obtain ⟨rfl, hsz, hP, hK, hD0, hR⟩ := hv
  have hx := B.exec
  have hb := B.bytes
  have hr := B.returns
  have hts := atoms_spec (ws := (Cond.code yX12_readShade cX12_readShade 2 none :: wsM)) B.pre
  have hown : s.vm.findClass RX12 = some m.cls := findClass_of_methodNamed B.named
  have hlocks := B.notSynchronized
  subst hsz
  have hD := hD0.self (sz := s.heap.size)
  generalize hAe : va_A (MW cI cJ cZ ad S) s.heap.size = A at hD ⊢
  have hA : ∀ q : Nat, s.heap.size ≤ q → A q := fun q h => by rw [← hAe]; exact Or.inr h
  have G : mG D cI cJ cZ ad A s.heap s.heap [] S := ⟨hP, hD, va_S.rf⟩
  have E : mE p c cX12_readShade s m ([.ref (ad 0)] : List Value).toArray (Cond.code yX12_readShade cX12_readShade 2 none :: wsM) D cI cJ cZ := ⟨hx, hb, hts, hown, hK, fun w h => .tail _ (iM_x h)⟩
  have hl := lv_entry ([.ref (ad 0)]) (n := 2) (Nat.le_of_ble_eq_true rfl)
  rw [lg_entry_eq]
  generalize (lg_sl ([.ref (ad 0)]) ++ List.replicate (2 - (lg_sl ([.ref (ad 0)])).length) Slot.unset).toArray = ls at hl ⊢
  have hl : lv_has ls 2 [(0, .ref (ad 0))] := hl
  unfold fr_readShade at h
  refine lv_aload_n hx hb dX12_readShade_0 rfl (lv_at hl 0 rfl) ?_
  refine m_get E G 11 (v := .ref (ad 11)) (by decide) (.tail _ qM_8) rfl dX12_readShade_1 rfl ?_
  refine lv_bipush (v := 118) hx hb dX12_readShade_4 (by decide) ?_
  refine m_iald E G 11 3 (n := 131) (k := 118) rfl rfl (by decide) (by decide) dX12_readShade_6 ?_
  refine lv_topi (fun v2 ev2 => ?_)
  have h := elet_at ev2 h
  clear ev2
  refine lv_if_le (tgt := 15) hx hb dX12_readShade_7 (by decide) (fun c3 => ?_) (fun c3 => ?_)
  · have h := oif_pos c3 h
    have hl := lv_sub hl [0] rfl
    exact tr_readShade_b15 E hA hR hml (fun H locs ls G => W.vret hx hb hr (fun t ht hW => ⟨⟨S1, rfl, rfl, ⟨by rw [ht]; exact G.1, va_K.moved hW.alike hK, G.2.1⟩⟩, G.2.2.F ht⟩) G.2.2.2.2 dX12_readShade_55) (fun H locs ls G => W.vret hx hb hr (fun t ht hW => ⟨⟨S1, rfl, rfl, ⟨by rw [ht]; exact G.1, va_K.moved hW.alike hK, G.2.1⟩⟩, G.2.2.F ht⟩) G.2.2.2.2 dX12_readShade_91) _ _ _ _ h G hl
  · have h := oif_neg c3 h
    refine lv_aload_n hx hb dX12_readShade_10 rfl (lv_at hl 0 rfl) ?_
    refine lv_iconst (v := 3) hx hb dX12_readShade_11 (by decide) ?_
    obtain ⟨S4, eS4, h⟩ := obind_some h
    refine m_callv (As := [.int 3]) (rest := []) E G hA hR hml (tr_faults l D cI cJ cZ ad S 3 eS4) (cwV 1 hts (gmV qM_118 qM_119 qM_120 qM_35 qM_42) rfl rfl rfl (by decide +kernel) ⟨Nat.le_of_ble_eq_true rfl, Nat.le_of_ble_eq_true rfl⟩) rfl hl.1 rfl (lv_room (Nat.le_of_ble_eq_true rfl)) dX12_readShade_12 ⟨Nat.zero_le _, Nat.zero_le _⟩ (fun S6 H locs hq G => ?_)
    rw [hq] at G
    clear hq eS4
    have hl := lv_sub hl [0] rfl
    exact tr_readShade_b15 E hA hR hml (fun H locs ls G => W.vret hx hb hr (fun t ht hW => ⟨⟨S1, rfl, rfl, ⟨by rw [ht]; exact G.1, va_K.moved hW.alike hK, G.2.1⟩⟩, G.2.2.F ht⟩) G.2.2.2.2 dX12_readShade_55) (fun H locs ls G => W.vret hx hb hr (fun t ht hW => ⟨⟨S1, rfl, rfl, ⟨by rw [ht]; exact G.1, va_K.moved hW.alike hK, G.2.1⟩⟩, G.2.2.F ht⟩) G.2.2.2.2 dX12_readShade_91) _ _ _ _ h G hl
def fr_readOff_b63  (S : MS)  : Option (MS) := some S
set_option maxHeartbeats 4000000 in
set_option maxRecDepth 100000 in
theorem tr_readOff_b63 {p : Program} {l : Launch} {e : Env} {s : State} {m : MethodId} {args : Array Value} {below : List Frame} {meth : Method} {c : Code} {Q : State → Prop} {D : va_G} {A : Nat → Prop} {H0 : Heap} {cI cJ cZ : ClassId} {ad : Nat → Nat} {S1 : MS} (E : mE p c cX12_readOff s m args (Cond.code yX12_readOff cX12_readOff 2 none :: wsM) D cI cJ cZ) (hA : ∀ q : Nat, H0.size ≤ q → A q) (hR : sR s) (hml : c.maxLocals = 2) (kr63 : ∀ (H : Heap) (locs : List Loc) (ls : Array Slot), mG D cI cJ cZ ad A H0 H locs S1 → W p l e { frames := 3, cells := 0, slots := 0, locals := 44 } s m args below meth c H locs 0 0 Q (F0 m 63 ls [])) : ∀ (S : MS) (H : Heap) (locs : List Loc) (ls : Array Slot), fr_readOff_b63 S = some S1 → mG D cI cJ cZ ad A H0 H locs S → lv_has ls 2 [] → W p l e { frames := 3, cells := 0, slots := 0, locals := 44 } s m args below meth c H locs 0 0 Q (F0 m 63 ls []) := by
  have hx := E.1
  have hb := E.2.1
  have hts := E.2.2.1
  have hown := E.2.2.2.1
  have hK := E.2.2.2.2.1
  intro S H locs ls h G hl
  unfold fr_readOff_b63 at h
  rw [osome1 h] at G
  exact kr63 _ _ _ G
def fr_readOff_b42  (S : MS) (l1 : Int32) : Option (MS) := obind (fr_nextToken S) fun S2 => elet (S2.1 5) fun v5 => if v5 = 0 then (elet (25 + l1) fun v7 => oif (inb v7 2455 = true) <| elet (mf S2 13 (upd (S2.2.1 13) v7.toNatClampNeg 0)) fun S9 => fr_readOff_b63 S9) else (fr_readOff_b63 S2)
set_option maxHeartbeats 4000000 in
set_option maxRecDepth 100000 in
theorem tr_readOff_b42 {p : Program} {l : Launch} {e : Env} {s : State} {m : MethodId} {args : Array Value} {below : List Frame} {meth : Method} {c : Code} {Q : State → Prop} {D : va_G} {A : Nat → Prop} {H0 : Heap} {cI cJ cZ : ClassId} {ad : Nat → Nat} {S1 : MS} (E : mE p c cX12_readOff s m args (Cond.code yX12_readOff cX12_readOff 2 none :: wsM) D cI cJ cZ) (hA : ∀ q : Nat, H0.size ≤ q → A q) (hR : sR s) (hml : c.maxLocals = 2) (kr63 : ∀ (H : Heap) (locs : List Loc) (ls : Array Slot), mG D cI cJ cZ ad A H0 H locs S1 → W p l e { frames := 3, cells := 0, slots := 0, locals := 44 } s m args below meth c H locs 0 0 Q (F0 m 63 ls [])) : ∀ (S : MS) (H : Heap) (locs : List Loc) (ls : Array Slot) (l1 : Int32), fr_readOff_b42 S l1 = some S1 → mG D cI cJ cZ ad A H0 H locs S → lv_has ls 2 [(0, .ref (ad 0)), (1, .int l1)] → W p l e { frames := 3, cells := 0, slots := 0, locals := 44 } s m args below meth c H locs 0 0 Q (F0 m 42 ls []) := by
  have hx := E.1
  have hb := E.2.1
  have hts := E.2.2.1
  have hown := E.2.2.2.1
  have hK := E.2.2.2.2.1
  intro S H locs ls l1 h G hl
  unfold fr_readOff_b42 at h
  refine lv_aload_n hx hb dX12_readOff_42 rfl (lv_at hl 0 rfl) ?_
  obtain ⟨S2, eS2, h⟩ := obind_some h
  refine m_callv (As := []) (rest := []) E G hA hR hml (tr_nextToken l D cI cJ cZ ad S eS2) (cwV 0 hts (gmV qM_111 qM_112 qM_113 qM_35 qM_45) rfl rfl rfl (by decide +kernel) ⟨Nat.le_of_ble_eq_true rfl, Nat.le_of_ble_eq_true rfl⟩) rfl hl.1 rfl (lv_room (Nat.le_of_ble_eq_true rfl)) dX12_readOff_43 ⟨Nat.zero_le _, Nat.zero_le _⟩ (fun S4 H locs hq G => ?_)
  rw [hq] at G
  clear hq eS2
  refine lv_aload_n hx hb dX12_readOff_46 rfl (lv_at hl 0 rfl) ?_
  refine m_get E G 5 (v := .int (S2.1 5)) (by decide) (.tail _ qM_38) rfl dX12_readOff_47 rfl ?_
  refine lv_topi (fun v5 ev5 => ?_)
  have h := elet_at ev5 h
  clear ev5
  refine lv_if_ne (tgt := 63) hx hb dX12_readOff_50 (by decide) (fun c6 => ?_) (fun c6 => ?_)
  · have h := oif_neg c6 h
    have hl := lv_sub hl [] rfl
    exact tr_readOff_b63 E hA hR hml kr63 _ _ _ _ h G hl
  · have h := oif_pos c6 h
    refine lv_aload_n hx hb dX12_readOff_53 rfl (lv_at hl 0 rfl) ?_
    refine m_get E G 13 (v := .ref (ad 13)) (by decide) (.tail _ qM_10) rfl dX12_readOff_54 rfl ?_
    refine lv_bipush (v := 25) hx hb dX12_readOff_57 (by decide) ?_
    refine lv_iload_n hx hb dX12_readOff_59 rfl (lv_at hl 1 rfl) ?_
    refine lv_iadd hx hb dX12_readOff_60 ?_
    refine lv_topi (fun v7 ev7 => ?_)
    have h := elet_at ev7 h
    clear ev7
    refine lv_iconst (v := 0) hx hb dX12_readOff_61 (by decide) ?_
    obtain ⟨g8, h⟩ := oif_some h
    refine m_iast E G 13 5 (k := v7.toNatClampNeg) (v := 0) rfl (fun _ => rfl) (inb_k g8).1 (inb_k g8).2 (by decide) dX12_readOff_62 (fun H locs G => ?_)
    obtain ⟨S9, eS9, h⟩ := elet_some h
    rw [← eS9] at G
    clear eS9
    have hl := lv_sub hl [] rfl
    exact tr_readOff_b63 E hA hR hml kr63 _ _ _ _ h G hl
def fr_readOff (S : MS)  : Option (MS) := obind (fr_nextToken S) fun S2 => elet (S2.2.1 11 5) fun v5 => elet (v5 - 1) fun v6 => obind2 (fr_look S2 0 v6) fun r10 S7 => elet (S7.1 5) fun v11 => if v11 = 0 then (elet (25 + r10) fun v13 => oif (inb v13 2455 = true) <| elet (S7.2.1 13 v13.toNatClampNeg) fun v15 => if v15 = 0 then (obind (fr_faults S7 3) fun S17 => fr_readOff_b42 S17 r10) else (fr_readOff_b42 S7 r10)) else (fr_readOff_b42 S7 r10)
set_option maxHeartbeats 4000000 in
set_option maxRecDepth 100000 in
theorem tr_readOff (l : Launch) (D : va_G) (cI cJ cZ : ClassId) (ad : Nat → Nat) (S : MS)  {S1 : MS} (h : fr_readOff S = some S1) : mCv l yX12_readOff (Cond.code yX12_readOff cX12_readOff 2 none :: wsM) 3 44 D cI cJ cZ ad S [] (fun S9 => S9 = S1) := by
  intro sz
  refine Met.ofW (cc := cX12_readOff) (maxL := 2) (ret := none) (by decide) rfl ?_
  intro p e s m args below meth c s₁ B hml hv
  obtain ⟨rfl, hsz, hP, hK, hD0, hR⟩ := hv
  have hx := B.exec
  have hb := B.bytes
  have hr := B.returns
  have hts := atoms_spec (ws := (Cond.code yX12_readOff cX12_readOff 2 none :: wsM)) B.pre
  have hown : s.vm.findClass RX12 = some m.cls := findClass_of_methodNamed B.named
  have hlocks := B.notSynchronized
  subst hsz
  have hD := hD0.self (sz := s.heap.size)
  generalize hAe : va_A (MW cI cJ cZ ad S) s.heap.size = A at hD ⊢
  have hA : ∀ q : Nat, s.heap.size ≤ q → A q := fun q h => by rw [← hAe]; exact Or.inr h
  have G : mG D cI cJ cZ ad A s.heap s.heap [] S := ⟨hP, hD, va_S.rf⟩
  have E : mE p c cX12_readOff s m ([.ref (ad 0)] : List Value).toArray (Cond.code yX12_readOff cX12_readOff 2 none :: wsM) D cI cJ cZ := ⟨hx, hb, hts, hown, hK, fun w h => .tail _ (iM_x h)⟩
  have hl := lv_entry ([.ref (ad 0)]) (n := 2) (Nat.le_of_ble_eq_true rfl)
  rw [lg_entry_eq]
  generalize (lg_sl ([.ref (ad 0)]) ++ List.replicate (2 - (lg_sl ([.ref (ad 0)])).length) Slot.unset).toArray = ls at hl ⊢
  have hl : lv_has ls 2 [(0, .ref (ad 0))] := hl
  unfold fr_readOff at h
  refine lv_aload_n hx hb dX12_readOff_0 rfl (lv_at hl 0 rfl) ?_
  obtain ⟨S2, eS2, h⟩ := obind_some h
  refine m_callv (As := []) (rest := []) E G hA hR hml (tr_nextToken l D cI cJ cZ ad S eS2) (cwV 0 hts (gmV qM_111 qM_112 qM_113 qM_35 qM_45) rfl rfl rfl (by decide +kernel) ⟨Nat.le_of_ble_eq_true rfl, Nat.le_of_ble_eq_true rfl⟩) rfl hl.1 rfl (lv_room (Nat.le_of_ble_eq_true rfl)) dX12_readOff_1 ⟨Nat.zero_le _, Nat.zero_le _⟩ (fun S4 H locs hq G => ?_)
  rw [hq] at G
  clear hq eS2
  refine lv_aload_n hx hb dX12_readOff_4 rfl (lv_at hl 0 rfl) ?_
  refine lv_iconst (v := 0) hx hb dX12_readOff_5 (by decide) ?_
  refine lv_aload_n hx hb dX12_readOff_6 rfl (lv_at hl 0 rfl) ?_
  refine m_get E G 11 (v := .ref (ad 11)) (by decide) (.tail _ qM_8) rfl dX12_readOff_7 rfl ?_
  refine lv_iconst (v := 5) hx hb dX12_readOff_10 (by decide) ?_
  refine m_iald E G 11 3 (n := 131) (k := 5) rfl rfl (by decide) (by decide) dX12_readOff_11 ?_
  refine lv_topi (fun v5 ev5 => ?_)
  have h := elet_at ev5 h
  clear ev5
  refine lv_iconst (v := 1) hx hb dX12_readOff_12 (by decide) ?_
  refine lv_isub hx hb dX12_readOff_13 ?_
  refine lv_topi (fun v6 ev6 => ?_)
  have h := elet_at ev6 h
  clear ev6
  obtain ⟨r10, S7, eS7, h⟩ := obind2_some h
  refine m_calli (As := [.int 0, .int v6]) (rest := []) E G hA hR hml (tr_look l D cI cJ cZ ad S2 0 v6 eS7) (cwV 2 hts (gmV qM_123 qM_124 qM_125 qM_35 qM_121) rfl rfl rfl (by decide +kernel) ⟨Nat.le_of_ble_eq_true rfl, Nat.le_of_ble_eq_true rfl⟩) rfl hl.1 rfl (lv_room (Nat.le_of_ble_eq_true rfl)) dX12_readOff_14 ⟨Nat.zero_le _, Nat.zero_le _⟩ (fun q8 S9 H locs hq G => ?_)
  obtain ⟨hq1, hq2⟩ := hq
  rw [hq2] at G
  refine lv_to hq1 ?_
  clear hq1 hq2 eS7
  refine lv_istore_n (lv' := [(1, .int r10), (0, .ref (ad 0))]) hx hb dX12_readOff_17 rfl hl (by decide) rfl (fun ls hl => ?_)
  refine lv_aload_n hx hb dX12_readOff_18 rfl (lv_at hl 1 rfl) ?_
  refine m_get E G 5 (v := .int (S7.1 5)) (by decide) (.tail _ qM_38) rfl dX12_readOff_19 rfl ?_
  refine lv_topi (fun v11 ev11 => ?_)
  have h := elet_at ev11 h
  clear ev11
  refine lv_if_ne (tgt := 42) hx hb dX12_readOff_22 (by decide) (fun c12 => ?_) (fun c12 => ?_)
  · have h := oif_neg c12 h
    have hl := lv_sub hl [1, 0] rfl
    exact tr_readOff_b42 E hA hR hml (fun H locs ls G => W.vret hx hb hr (fun t ht hW => ⟨⟨S1, rfl, rfl, ⟨by rw [ht]; exact G.1, va_K.moved hW.alike hK, G.2.1⟩⟩, G.2.2.F ht⟩) G.2.2.2.2 dX12_readOff_63) _ _ _ _ _ h G hl
  · have h := oif_pos c12 h
    refine lv_aload_n hx hb dX12_readOff_25 rfl (lv_at hl 1 rfl) ?_
    refine m_get E G 13 (v := .ref (ad 13)) (by decide) (.tail _ qM_10) rfl dX12_readOff_26 rfl ?_
    refine lv_bipush (v := 25) hx hb dX12_readOff_29 (by decide) ?_
    refine lv_iload_n hx hb dX12_readOff_31 rfl (lv_at hl 0 rfl) ?_
    refine lv_iadd hx hb dX12_readOff_32 ?_
    refine lv_topi (fun v13 ev13 => ?_)
    have h := elet_at ev13 h
    clear ev13
    obtain ⟨g14, h⟩ := oif_some h
    refine m_iald E G 13 5 (n := 2455) (k := v13.toNatClampNeg) rfl (inb_k g14).1 (inb_k g14).2 (by decide) dX12_readOff_33 ?_
    refine lv_topi (fun v15 ev15 => ?_)
    have h := elet_at ev15 h
    clear ev15
    refine lv_if_ne (tgt := 42) hx hb dX12_readOff_34 (by decide) (fun c16 => ?_) (fun c16 => ?_)
    · have h := oif_neg c16 h
      have hl := lv_sub hl [1, 0] rfl
      exact tr_readOff_b42 E hA hR hml (fun H locs ls G => W.vret hx hb hr (fun t ht hW => ⟨⟨S1, rfl, rfl, ⟨by rw [ht]; exact G.1, va_K.moved hW.alike hK, G.2.1⟩⟩, G.2.2.F ht⟩) G.2.2.2.2 dX12_readOff_63) _ _ _ _ _ h G hl
    · have h := oif_pos c16 h
      refine lv_aload_n hx hb dX12_readOff_37 rfl (lv_at hl 1 rfl) ?_
      refine lv_iconst (v := 3) hx hb dX12_readOff_38 (by decide) ?_
      obtain ⟨S17, eS17, h⟩ := obind_some h
      refine m_callv (As := [.int 3]) (rest := []) E G hA hR hml (tr_faults l D cI cJ cZ ad S7 3 eS17) (cwV 1 hts (gmV qM_118 qM_119 qM_120 qM_35 qM_42) rfl rfl rfl (by decide +kernel) ⟨Nat.le_of_ble_eq_true rfl, Nat.le_of_ble_eq_true rfl⟩) rfl hl.1 rfl (lv_room (Nat.le_of_ble_eq_true rfl)) dX12_readOff_39 ⟨Nat.zero_le _, Nat.zero_le _⟩ (fun S19 H locs hq G => ?_)
      rw [hq] at G
      clear hq eS17
      have hl := lv_sub hl [1, 0] rfl
      exact tr_readOff_b42 E hA hR hml (fun H locs ls G => W.vret hx hb hr (fun t ht hW => ⟨⟨S1, rfl, rfl, ⟨by rw [ht]; exact G.1, va_K.moved hW.alike hK, G.2.1⟩⟩, G.2.2.F ht⟩) G.2.2.2.2 dX12_readOff_63) _ _ _ _ _ h G hl
def fr_readZone_b18  (S : MS) (l1 : Int32) : Option (MS) := obind (fr_nextToken S) fun S2 => elet (S2.2.1 11 9) fun v5 => elet (v5 - 1) fun v6 => obind2 (fr_number S2 0 v6) fun r10 S7 => elet (S7.2.1 11 10) fun v11 => elet (v11 - 1) fun v12 => obind2 (fr_number S7 0 v12) fun r16 S13 => elet (S13.2.1 11 9) fun v17 => elet (v17 - 1) fun v18 => obind2 (fr_number S13 r10 v18) fun r22 S19 => elet (S19.2.1 11 10) fun v23 => elet (v23 - 1) fun v24 => obind2 (fr_number S19 r16 v24) fun r28 S25 => elet (S25.1 5) fun v29 => if v29 ≤ 0 then (elet (4 * l1) fun v31 => elet (102 + v31) fun v32 => oif (inb v32 131 = true) <| elet (mf S25 11 (upd (S25.2.1 11) v32.toNatClampNeg r10)) fun S34 => elet (v32 + 1) fun v35 => oif (inb v35 131 = true) <| elet (mf S34 11 (upd (S34.2.1 11) v35.toNatClampNeg r16)) fun S37 => elet (v32 + 2) fun v38 => oif (inb v38 131 = true) <| elet (mf S37 11 (upd (S37.2.1 11) v38.toNatClampNeg r22)) fun S40 => elet (v32 + 3) fun v41 => oif (inb v41 131 = true) <| elet (mf S40 11 (upd (S40.2.1 11) v41.toNatClampNeg r28)) fun S43 => elet (S43.2.1 11 101) fun v44 => elet (v44 + 1) fun v45 => elet (mf S43 11 (upd (S43.2.1 11) 101 v45)) fun S46 => some S46) else (some S25)
set_option maxHeartbeats 4000000 in
set_option maxRecDepth 100000 in
theorem tr_readZone_b18 {p : Program} {l : Launch} {e : Env} {s : State} {m : MethodId} {args : Array Value} {below : List Frame} {meth : Method} {c : Code} {Q : State → Prop} {D : va_G} {A : Nat → Prop} {H0 : Heap} {cI cJ cZ : ClassId} {ad : Nat → Nat} {S1 : MS} (E : mE p c cX12_readZone s m args (Cond.code yX12_readZone cX12_readZone 7 none :: wsM) D cI cJ cZ) (hA : ∀ q : Nat, H0.size ≤ q → A q) (hR : sR s) (hml : c.maxLocals = 7) (kr91 : ∀ (H : Heap) (locs : List Loc) (ls : Array Slot), mG D cI cJ cZ ad A H0 H locs S1 → W p l e { frames := 4, cells := 0, slots := 0, locals := 67 } s m args below meth c H locs 0 0 Q (F0 m 91 ls [])) (kr151 : ∀ (H : Heap) (locs : List Loc) (ls : Array Slot), mG D cI cJ cZ ad A H0 H locs S1 → W p l e { frames := 4, cells := 0, slots := 0, locals := 67 } s m args below meth c H locs 0 0 Q (F0 m 151 ls [])) : ∀ (S : MS) (H : Heap) (locs : List Loc) (ls : Array Slot) (l1 : Int32), fr_readZone_b18 S l1 = some S1 → mG D cI cJ cZ ad A H0 H locs S → lv_has ls 7 [(0, .ref (ad 0)), (1, .int l1)] → W p l e { frames := 4, cells := 0, slots := 0, locals := 67 } s m args below meth c H locs 0 0 Q (F0 m 18 ls []) := by
  have hx := E.1
  have hb := E.2.1
  have hts := E.2.2.1
  have hown := E.2.2.2.1
  have hK := E.2.2.2.2.1
  intro S H locs ls l1 h G hl
  unfold fr_readZone_b18 at h
  refine lv_aload_n hx hb dX12_readZone_18 rfl (lv_at hl 0 rfl) ?_
  obtain ⟨S2, eS2, h⟩ := obind_some h
  refine m_callv (As := []) (rest := []) E G hA hR hml (tr_nextToken l D cI cJ cZ ad S eS2) (cwV 0 hts (gmV qM_111 qM_112 qM_113 qM_35 qM_45) rfl rfl rfl (by decide +kernel) ⟨Nat.le_of_ble_eq_true rfl, Nat.le_of_ble_eq_true rfl⟩) rfl hl.1 rfl (lv_room (Nat.le_of_ble_eq_true rfl)) dX12_readZone_19 ⟨Nat.zero_le _, Nat.zero_le _⟩ (fun S4 H locs hq G => ?_)
  rw [hq] at G
  clear hq eS2
  refine lv_aload_n hx hb dX12_readZone_22 rfl (lv_at hl 0 rfl) ?_
  refine lv_iconst (v := 0) hx hb dX12_readZone_23 (by decide) ?_
  refine lv_aload_n hx hb dX12_readZone_24 rfl (lv_at hl 0 rfl) ?_
  refine m_get E G 11 (v := .ref (ad 11)) (by decide) (.tail _ qM_8) rfl dX12_readZone_25 rfl ?_
  refine lv_bipush (v := 9) hx hb dX12_readZone_28 (by decide) ?_
  refine m_iald E G 11 3 (n := 131) (k := 9) rfl rfl (by decide) (by decide) dX12_readZone_30 ?_
  refine lv_topi (fun v5 ev5 => ?_)
  have h := elet_at ev5 h
  clear ev5
  refine lv_iconst (v := 1) hx hb dX12_readZone_31 (by decide) ?_
  refine lv_isub hx hb dX12_readZone_32 ?_
  refine lv_topi (fun v6 ev6 => ?_)
  have h := elet_at ev6 h
  clear ev6
  obtain ⟨r10, S7, eS7, h⟩ := obind2_some h
  refine m_calli (As := [.int 0, .int v6]) (rest := []) E G hA hR hml (tr_number l D cI cJ cZ ad S2 0 v6 eS7) (cwV 2 hts (gmV qM_130 qM_131 qM_132 qM_35 qM_122) rfl rfl rfl (by decide +kernel) ⟨Nat.le_of_ble_eq_true rfl, Nat.le_of_ble_eq_true rfl⟩) rfl hl.1 rfl (lv_room (Nat.le_of_ble_eq_true rfl)) dX12_readZone_33 ⟨Nat.zero_le _, Nat.zero_le _⟩ (fun q8 S9 H locs hq G => ?_)
  obtain ⟨hq1, hq2⟩ := hq
  rw [hq2] at G
  refine lv_to hq1 ?_
  clear hq1 hq2 eS7
  refine lv_istore_n (lv' := [(2, .int r10), (0, .ref (ad 0)), (1, .int l1)]) hx hb dX12_readZone_36 rfl hl (by decide) rfl (fun ls hl => ?_)
  refine lv_aload_n hx hb dX12_readZone_37 rfl (lv_at hl 1 rfl) ?_
  refine lv_iconst (v := 0) hx hb dX12_readZone_38 (by decide) ?_
  refine lv_aload_n hx hb dX12_readZone_39 rfl (lv_at hl 1 rfl) ?_
  refine m_get E G 11 (v := .ref (ad 11)) (by decide) (.tail _ qM_8) rfl dX12_readZone_40 rfl ?_
  refine lv_bipush (v := 10) hx hb dX12_readZone_43 (by decide) ?_
  refine m_iald E G 11 3 (n := 131) (k := 10) rfl rfl (by decide) (by decide) dX12_readZone_45 ?_
  refine lv_topi (fun v11 ev11 => ?_)
  have h := elet_at ev11 h
  clear ev11
  refine lv_iconst (v := 1) hx hb dX12_readZone_46 (by decide) ?_
  refine lv_isub hx hb dX12_readZone_47 ?_
  refine lv_topi (fun v12 ev12 => ?_)
  have h := elet_at ev12 h
  clear ev12
  obtain ⟨r16, S13, eS13, h⟩ := obind2_some h
  refine m_calli (As := [.int 0, .int v12]) (rest := []) E G hA hR hml (tr_number l D cI cJ cZ ad S7 0 v12 eS13) (cwV 2 hts (gmV qM_130 qM_131 qM_132 qM_35 qM_122) rfl rfl rfl (by decide +kernel) ⟨Nat.le_of_ble_eq_true rfl, Nat.le_of_ble_eq_true rfl⟩) rfl hl.1 rfl (lv_room (Nat.le_of_ble_eq_true rfl)) dX12_readZone_48 ⟨Nat.zero_le _, Nat.zero_le _⟩ (fun q14 S15 H locs hq G => ?_)
  obtain ⟨hq1, hq2⟩ := hq
  rw [hq2] at G
  refine lv_to hq1 ?_
  clear hq1 hq2 eS13
  refine lv_istore_n (lv' := [(3, .int r16), (2, .int r10), (0, .ref (ad 0)), (1, .int l1)]) hx hb dX12_readZone_51 rfl hl (by decide) rfl (fun ls hl => ?_)
  refine lv_aload_n hx hb dX12_readZone_52 rfl (lv_at hl 2 rfl) ?_
  refine lv_iload_n hx hb dX12_readZone_53 rfl (lv_at hl 1 rfl) ?_
  refine lv_aload_n hx hb dX12_readZone_54 rfl (lv_at hl 2 rfl) ?_
  refine m_get E G 11 (v := .ref (ad 11)) (by decide) (.tail _ qM_8) rfl dX12_readZone_55 rfl ?_
  refine lv_bipush (v := 9) hx hb dX12_readZone_58 (by decide) ?_
  refine m_iald E G 11 3 (n := 131) (k := 9) rfl rfl (by decide) (by decide) dX12_readZone_60 ?_
  refine lv_topi (fun v17 ev17 => ?_)
  have h := elet_at ev17 h
  clear ev17
  refine lv_iconst (v := 1) hx hb dX12_readZone_61 (by decide) ?_
  refine lv_isub hx hb dX12_readZone_62 ?_
  refine lv_topi (fun v18 ev18 => ?_)
  have h := elet_at ev18 h
  clear ev18
  obtain ⟨r22, S19, eS19, h⟩ := obind2_some h
  refine m_calli (As := [.int r10, .int v18]) (rest := []) E G hA hR hml (tr_number l D cI cJ cZ ad S13 r10 v18 eS19) (cwV 2 hts (gmV qM_130 qM_131 qM_132 qM_35 qM_122) rfl rfl rfl (by decide +kernel) ⟨Nat.le_of_ble_eq_true rfl, Nat.le_of_ble_eq_true rfl⟩) rfl hl.1 rfl (lv_room (Nat.le_of_ble_eq_true rfl)) dX12_readZone_63 ⟨Nat.zero_le _, Nat.zero_le _⟩ (fun q20 S21 H locs hq G => ?_)
  obtain ⟨hq1, hq2⟩ := hq
  rw [hq2] at G
  refine lv_to hq1 ?_
  clear hq1 hq2 eS19
  refine lv_istore (lv' := [(4, .int r22), (3, .int r16), (2, .int r10), (0, .ref (ad 0)), (1, .int l1)]) hx hb dX12_readZone_66 hl (by decide) rfl (fun ls hl => ?_)
  refine lv_aload_n hx hb dX12_readZone_68 rfl (lv_at hl 3 rfl) ?_
  refine lv_iload_n hx hb dX12_readZone_69 rfl (lv_at hl 1 rfl) ?_
  refine lv_aload_n hx hb dX12_readZone_70 rfl (lv_at hl 3 rfl) ?_
  refine m_get E G 11 (v := .ref (ad 11)) (by decide) (.tail _ qM_8) rfl dX12_readZone_71 rfl ?_
  refine lv_bipush (v := 10) hx hb dX12_readZone_74 (by decide) ?_
  refine m_iald E G 11 3 (n := 131) (k := 10) rfl rfl (by decide) (by decide) dX12_readZone_76 ?_
  refine lv_topi (fun v23 ev23 => ?_)
  have h := elet_at ev23 h
  clear ev23
  refine lv_iconst (v := 1) hx hb dX12_readZone_77 (by decide) ?_
  refine lv_isub hx hb dX12_readZone_78 ?_
  refine lv_topi (fun v24 ev24 => ?_)
  have h := elet_at ev24 h
  clear ev24
  obtain ⟨r28, S25, eS25, h⟩ := obind2_some h
  refine m_calli (As := [.int r16, .int v24]) (rest := []) E G hA hR hml (tr_number l D cI cJ cZ ad S19 r16 v24 eS25) (cwV 2 hts (gmV qM_130 qM_131 qM_132 qM_35 qM_122) rfl rfl rfl (by decide +kernel) ⟨Nat.le_of_ble_eq_true rfl, Nat.le_of_ble_eq_true rfl⟩) rfl hl.1 rfl (lv_room (Nat.le_of_ble_eq_true rfl)) dX12_readZone_79 ⟨Nat.zero_le _, Nat.zero_le _⟩ (fun q26 S27 H locs hq G => ?_)
  obtain ⟨hq1, hq2⟩ := hq
  rw [hq2] at G
  refine lv_to hq1 ?_
  clear hq1 hq2 eS25
  refine lv_istore (lv' := [(5, .int r28), (4, .int r22), (3, .int r16), (2, .int r10), (0, .ref (ad 0)), (1, .int l1)]) hx hb dX12_readZone_82 hl (by decide) rfl (fun ls hl => ?_)
  refine lv_aload_n hx hb dX12_readZone_84 rfl (lv_at hl 4 rfl) ?_
  refine m_get E G 5 (v := .int (S25.1 5)) (by decide) (.tail _ qM_38) rfl dX12_readZone_85 rfl ?_
  refine lv_topi (fun v29 ev29 => ?_)
  have h := elet_at ev29 h
  clear ev29
  refine lv_if_le (tgt := 92) hx hb dX12_readZone_88 (by decide) (fun c30 => ?_) (fun c30 => ?_)
  · have h := oif_pos c30 h
    refine lv_bipush (v := 102) hx hb dX12_readZone_92 (by decide) ?_
    refine lv_iconst (v := 4) hx hb dX12_readZone_94 (by decide) ?_
    refine lv_iload_n hx hb dX12_readZone_95 rfl (lv_at hl 5 rfl) ?_
    refine lv_imul hx hb dX12_readZone_96 ?_
    refine lv_topi (fun v31 ev31 => ?_)
    have h := elet_at ev31 h
    clear ev31
    refine lv_iadd hx hb dX12_readZone_97 ?_
    refine lv_topi (fun v32 ev32 => ?_)
    have h := elet_at ev32 h
    clear ev32
    refine lv_istore (lv' := [(6, .int v32), (5, .int r28), (4, .int r22), (3, .int r16), (2, .int r10), (0, .ref (ad 0)), (1, .int l1)]) hx hb dX12_readZone_98 hl (by decide) rfl (fun ls hl => ?_)
    refine lv_aload_n hx hb dX12_readZone_100 rfl (lv_at hl 5 rfl) ?_
    refine m_get E G 11 (v := .ref (ad 11)) (by decide) (.tail _ qM_8) rfl dX12_readZone_101 rfl ?_
    refine lv_iload hx hb dX12_readZone_104 (lv_at hl 0 rfl) ?_
    refine lv_iload_n hx hb dX12_readZone_106 rfl (lv_at hl 4 rfl) ?_
    obtain ⟨g33, h⟩ := oif_some h
    refine m_iast E G 11 3 (k := v32.toNatClampNeg) (v := r10) rfl (fun _ => rfl) (inb_k g33).1 (inb_k g33).2 (by decide) dX12_readZone_107 (fun H locs G => ?_)
    obtain ⟨S34, eS34, h⟩ := elet_some h
    rw [← eS34] at G
    clear eS34
    refine lv_aload_n hx hb dX12_readZone_108 rfl (lv_at hl 5 rfl) ?_
    refine m_get E G 11 (v := .ref (ad 11)) (by decide) (.tail _ qM_8) rfl dX12_readZone_109 rfl ?_
    refine lv_iload hx hb dX12_readZone_112 (lv_at hl 0 rfl) ?_
    refine lv_iconst (v := 1) hx hb dX12_readZone_114 (by decide) ?_
    refine lv_iadd hx hb dX12_readZone_115 ?_
    refine lv_topi (fun v35 ev35 => ?_)
    have h := elet_at ev35 h
    clear ev35
    refine lv_iload_n hx hb dX12_readZone_116 rfl (lv_at hl 3 rfl) ?_
    obtain ⟨g36, h⟩ := oif_some h
    refine m_iast E G 11 3 (k := v35.toNatClampNeg) (v := r16) rfl (fun _ => rfl) (inb_k g36).1 (inb_k g36).2 (by decide) dX12_readZone_117 (fun H locs G => ?_)
    obtain ⟨S37, eS37, h⟩ := elet_some h
    rw [← eS37] at G
    clear eS37
    refine lv_aload_n hx hb dX12_readZone_118 rfl (lv_at hl 5 rfl) ?_
    refine m_get E G 11 (v := .ref (ad 11)) (by decide) (.tail _ qM_8) rfl dX12_readZone_119 rfl ?_
    refine lv_iload hx hb dX12_readZone_122 (lv_at hl 0 rfl) ?_
    refine lv_iconst (v := 2) hx hb dX12_readZone_124 (by decide) ?_
    refine lv_iadd hx hb dX12_readZone_125 ?_
    refine lv_topi (fun v38 ev38 => ?_)
    have h := elet_at ev38 h
    clear ev38
    refine lv_iload hx hb dX12_readZone_126 (lv_at hl 2 rfl) ?_
    obtain ⟨g39, h⟩ := oif_some h
    refine m_iast E G 11 3 (k := v38.toNatClampNeg) (v := r22) rfl (fun _ => rfl) (inb_k g39).1 (inb_k g39).2 (by decide) dX12_readZone_128 (fun H locs G => ?_)
    obtain ⟨S40, eS40, h⟩ := elet_some h
    rw [← eS40] at G
    clear eS40
    refine lv_aload_n hx hb dX12_readZone_129 rfl (lv_at hl 5 rfl) ?_
    refine m_get E G 11 (v := .ref (ad 11)) (by decide) (.tail _ qM_8) rfl dX12_readZone_130 rfl ?_
    refine lv_iload hx hb dX12_readZone_133 (lv_at hl 0 rfl) ?_
    refine lv_iconst (v := 3) hx hb dX12_readZone_135 (by decide) ?_
    refine lv_iadd hx hb dX12_readZone_136 ?_
    refine lv_topi (fun v41 ev41 => ?_)
    have h := elet_at ev41 h
    clear ev41
    refine lv_iload hx hb dX12_readZone_137 (lv_at hl 1 rfl) ?_
    obtain ⟨g42, h⟩ := oif_some h
    refine m_iast E G 11 3 (k := v41.toNatClampNeg) (v := r28) rfl (fun _ => rfl) (inb_k g42).1 (inb_k g42).2 (by decide) dX12_readZone_139 (fun H locs G => ?_)
    obtain ⟨S43, eS43, h⟩ := elet_some h
    rw [← eS43] at G
    clear eS43
    refine lv_aload_n hx hb dX12_readZone_140 rfl (lv_at hl 5 rfl) ?_
    refine m_get E G 11 (v := .ref (ad 11)) (by decide) (.tail _ qM_8) rfl dX12_readZone_141 rfl ?_
    refine lv_bipush (v := 101) hx hb dX12_readZone_144 (by decide) ?_
    refine lv_dup2_11 hx hb dX12_readZone_146 rfl rfl ?_
    refine m_iald E G 11 3 (n := 131) (k := 101) rfl rfl (by decide) (by decide) dX12_readZone_147 ?_
    refine lv_topi (fun v44 ev44 => ?_)
    have h := elet_at ev44 h
    clear ev44
    refine lv_iconst (v := 1) hx hb dX12_readZone_148 (by decide) ?_
    refine lv_iadd hx hb dX12_readZone_149 ?_
    refine lv_topi (fun v45 ev45 => ?_)
    have h := elet_at ev45 h
    clear ev45
    refine m_iast E G 11 3 (k := 101) (v := v45) rfl (fun _ => rfl) rfl (by decide) (by decide) dX12_readZone_150 (fun H locs G => ?_)
    obtain ⟨S46, eS46, h⟩ := elet_some h
    rw [← eS46] at G
    clear eS46
    rw [osome1 h] at G
    exact kr151 _ _ _ G
  · have h := oif_neg c30 h
    rw [osome1 h] at G
    exact kr91 _ _ _ G
def fr_readZone (S : MS)  : Option (MS) := elet (S.2.1 11 101) fun v2 => if v2 = 4 then (obind (fr_faults S 4) fun S4 => fr_readZone_b18 S4 v2) else (fr_readZone_b18 S v2)
set_option maxHeartbeats 4000000 in
set_option maxRecDepth 100000 in
theorem tr_readZone (l : Launch) (D : va_G) (cI cJ cZ : ClassId) (ad : Nat → Nat) (S : MS)  {S1 : MS} (h : fr_readZone S = some S1) : mCv l yX12_readZone (Cond.code yX12_readZone cX12_readZone 7 none :: wsM) 4 67 D cI cJ cZ ad S [] (fun S9 => S9 = S1) := by
  intro sz
  refine Met.ofW (cc := cX12_readZone) (maxL := 7) (ret := none) (by decide) rfl ?_
  intro p e s m args below meth c s₁ B hml hv
  obtain ⟨rfl, hsz, hP, hK, hD0, hR⟩ := hv
  have hx := B.exec
  have hb := B.bytes
  have hr := B.returns
  have hts := atoms_spec (ws := (Cond.code yX12_readZone cX12_readZone 7 none :: wsM)) B.pre
  have hown : s.vm.findClass RX12 = some m.cls := findClass_of_methodNamed B.named
  have hlocks := B.notSynchronized
  subst hsz
  have hD := hD0.self (sz := s.heap.size)
  generalize hAe : va_A (MW cI cJ cZ ad S) s.heap.size = A at hD ⊢
  have hA : ∀ q : Nat, s.heap.size ≤ q → A q := fun q h => by rw [← hAe]; exact Or.inr h
  have G : mG D cI cJ cZ ad A s.heap s.heap [] S := ⟨hP, hD, va_S.rf⟩
  have E : mE p c cX12_readZone s m ([.ref (ad 0)] : List Value).toArray (Cond.code yX12_readZone cX12_readZone 7 none :: wsM) D cI cJ cZ := ⟨hx, hb, hts, hown, hK, fun w h => .tail _ (iM_x h)⟩
  have hl := lv_entry ([.ref (ad 0)]) (n := 7) (Nat.le_of_ble_eq_true rfl)
  rw [lg_entry_eq]
  generalize (lg_sl ([.ref (ad 0)]) ++ List.replicate (7 - (lg_sl ([.ref (ad 0)])).length) Slot.unset).toArray = ls at hl ⊢
  have hl : lv_has ls 7 [(0, .ref (ad 0))] := hl
  unfold fr_readZone at h
  refine lv_aload_n hx hb dX12_readZone_0 rfl (lv_at hl 0 rfl) ?_
  refine m_get E G 11 (v := .ref (ad 11)) (by decide) (.tail _ qM_8) rfl dX12_readZone_1 rfl ?_
  refine lv_bipush (v := 101) hx hb dX12_readZone_4 (by decide) ?_
  refine m_iald E G 11 3 (n := 131) (k := 101) rfl rfl (by decide) (by decide) dX12_readZone_6 ?_
  refine lv_topi (fun v2 ev2 => ?_)
  have h := elet_at ev2 h
  clear ev2
  refine lv_istore_n (lv' := [(1, .int v2), (0, .ref (ad 0))]) hx hb dX12_readZone_7 rfl hl (by decide) rfl (fun ls hl => ?_)
  refine lv_iload_n hx hb dX12_readZone_8 rfl (lv_at hl 0 rfl) ?_
  refine lv_iconst (v := 4) hx hb dX12_readZone_9 (by decide) ?_
  refine lv_icmp_ne (tgt := 18) hx hb dX12_readZone_10 (by decide) (fun c3 => ?_) (fun c3 => ?_)
  · have h := oif_neg c3 h
    have hl := lv_sub hl [1, 0] rfl
    exact tr_readZone_b18 E hA hR hml (fun H locs ls G => W.vret hx hb hr (fun t ht hW => ⟨⟨S1, rfl, rfl, ⟨by rw [ht]; exact G.1, va_K.moved hW.alike hK, G.2.1⟩⟩, G.2.2.F ht⟩) G.2.2.2.2 dX12_readZone_91) (fun H locs ls G => W.vret hx hb hr (fun t ht hW => ⟨⟨S1, rfl, rfl, ⟨by rw [ht]; exact G.1, va_K.moved hW.alike hK, G.2.1⟩⟩, G.2.2.F ht⟩) G.2.2.2.2 dX12_readZone_151) _ _ _ _ _ h G hl
  · have h := oif_pos c3 h
    refine lv_aload_n hx hb dX12_readZone_13 rfl (lv_at hl 1 rfl) ?_
    refine lv_iconst (v := 4) hx hb dX12_readZone_14 (by decide) ?_
    obtain ⟨S4, eS4, h⟩ := obind_some h
    refine m_callv (As := [.int 4]) (rest := []) E G hA hR hml (tr_faults l D cI cJ cZ ad S 4 eS4) (cwV 1 hts (gmV qM_118 qM_119 qM_120 qM_35 qM_42) rfl rfl rfl (by decide +kernel) ⟨Nat.le_of_ble_eq_true rfl, Nat.le_of_ble_eq_true rfl⟩) rfl hl.1 rfl (lv_room (Nat.le_of_ble_eq_true rfl)) dX12_readZone_15 ⟨Nat.zero_le _, Nat.zero_le _⟩ (fun S6 H locs hq G => ?_)
    rw [hq] at G
    clear hq eS4
    have hl := lv_sub hl [1, 0] rfl
    exact tr_readZone_b18 E hA hR hml (fun H locs ls G => W.vret hx hb hr (fun t ht hW => ⟨⟨S1, rfl, rfl, ⟨by rw [ht]; exact G.1, va_K.moved hW.alike hK, G.2.1⟩⟩, G.2.2.F ht⟩) G.2.2.2.2 dX12_readZone_91) (fun H locs ls G => W.vret hx hb hr (fun t ht hW => ⟨⟨S1, rfl, rfl, ⟨by rw [ht]; exact G.1, va_K.moved hW.alike hK, G.2.1⟩⟩, G.2.2.F ht⟩) G.2.2.2.2 dX12_readZone_151) _ _ _ _ _ h G hl
def fr_readLine_b165  (S : MS)  : Option (MS) := some S
set_option maxHeartbeats 4000000 in
set_option maxRecDepth 100000 in
theorem tr_readLine_b165 {p : Program} {l : Launch} {e : Env} {s : State} {m : MethodId} {args : Array Value} {below : List Frame} {meth : Method} {c : Code} {Q : State → Prop} {D : va_G} {A : Nat → Prop} {cI cJ cZ : ClassId} {ad : Nat → Nat} {S1 : MS} (E : mE p c cX12_readLine s m args (Cond.code yX12_readLine cX12_readLine 1 none :: wsM) D cI cJ cZ) (hA : ∀ q : Nat, s.heap.size ≤ q → A q) (hR : sR s) (hml : c.maxLocals = 1) {h0 : Nat} (hA0 : ∀ a : Nat, A a → h0 ≤ a) (hT : sAll h0 s) (kr165 : ∀ (H : Heap) (locs : List Loc) (ls : Array Slot), mG D cI cJ cZ ad A s.heap H locs S1 → W p l e { frames := 8, cells := 0, slots := 0, locals := 161 } s m args below meth c H locs 0 0 Q (F0 m 165 ls [])) : ∀ (S : MS) (H : Heap) (locs : List Loc) (ls : Array Slot), fr_readLine_b165 S = some S1 → mG D cI cJ cZ ad A s.heap H locs S → lv_has ls 1 [] → W p l e { frames := 8, cells := 0, slots := 0, locals := 161 } s m args below meth c H locs 0 0 Q (F0 m 165 ls []) := by
  have hx := E.1
  have hb := E.2.1
  have hts := E.2.2.1
  have hown := E.2.2.2.1
  have hK := E.2.2.2.2.1
  intro S H locs ls h G hl
  unfold fr_readLine_b165 at h
  rw [osome1 h] at G
  exact kr165 _ _ _ G
def fr_readLine (S : MS)  : Option (MS) := obind2 (fr_isWord S (sTx "wall")) fun r6 S3 => if r6 = 0 then (obind2 (fr_isWord S3 (sTx "fade")) fun r12 S9 => if r12 = 0 then (obind2 (fr_isWord S9 (sTx "filter")) fun r18 S15 => if r18 = 0 then (obind2 (fr_isWord S15 (sTx "clock")) fun r24 S21 => if r24 = 0 then (obind2 (fr_isWord S21 (sTx "zone")) fun r30 S27 => if r30 = 0 then (obind2 (fr_isWord S27 (sTx "shade")) fun r36 S33 => if r36 = 0 then (obind2 (fr_isWord S33 (sTx "off")) fun r42 S39 => if r42 = 0 then (obind2 (fr_isWord S39 (sTx "mic")) fun r48 S45 => if r48 = 0 then (obind2 (fr_isWord S45 (sTx "map")) fun r54 S51 => if r54 = 0 then (obind2 (fr_isWord S51 (sTx "source")) fun r60 S57 => if r60 = 0 then (obind (fr_faults S57 1) fun S62 => fr_readLine_b165 S62) else (obind (fr_readSource S57) fun S65 => fr_readLine_b165 S65)) else (obind (fr_readMap S51) fun S68 => fr_readLine_b165 S68)) else (obind (fr_readMic S45) fun S71 => fr_readLine_b165 S71)) else (obind (fr_readOff S39) fun S74 => fr_readLine_b165 S74)) else (obind (fr_readShade S33) fun S77 => fr_readLine_b165 S77)) else (obind (fr_readZone S27) fun S80 => fr_readLine_b165 S80)) else (obind (fr_readClock S21) fun S83 => fr_readLine_b165 S83)) else (obind (fr_readFilter S15) fun S86 => fr_readLine_b165 S86)) else (obind (fr_readFade S9) fun S89 => fr_readLine_b165 S89)) else (obind (fr_readWall S3) fun S92 => fr_readLine_b165 S92)
set_option maxHeartbeats 4000000 in
set_option maxRecDepth 100000 in
theorem tr_readLine (l : Launch) (D : va_G) (cI cJ cZ : ClassId) (ad : Nat → Nat) (S : MS) (h0 : Nat)  {S1 : MS} (h : fr_readLine S = some S1) : mCvX l yX12_readLine (Cond.code yX12_readLine cX12_readLine 1 none :: wsM) 8 161 D cI cJ cZ ad S [] (xT0 cI cJ cZ h0 ad S) (fun S9 => S9 = S1) := by
  intro sz
  refine Met.ofW (cc := cX12_readLine) (maxL := 1) (ret := none) (by decide) rfl ?_
  intro p e s m args below meth c s₁ B hml hv
  obtain ⟨rfl, ⟨hsz, hP, hK, hD0, hR⟩, hA1, hT⟩ := hv
  have hx := B.exec
  have hb := B.bytes
  have hr := B.returns
  have hts := atoms_spec (ws := (Cond.code yX12_readLine cX12_readLine 1 none :: wsM)) B.pre
  have hown : s.vm.findClass RX12 = some m.cls := findClass_of_methodNamed B.named
  have hlocks := B.notSynchronized
  subst hsz
  have hD := hD0.self (sz := s.heap.size)
  generalize hAe : va_A (MW cI cJ cZ ad S) s.heap.size = A at hD hA1 ⊢
  have hA : ∀ q : Nat, s.heap.size ≤ q → A q := fun q h => by rw [← hAe]; exact Or.inr h
  have G : mG D cI cJ cZ ad A s.heap s.heap [] S := ⟨hP, hD, va_S.rf⟩
  have E : mE p c cX12_readLine s m ([.ref (ad 0)] : List Value).toArray (Cond.code yX12_readLine cX12_readLine 1 none :: wsM) D cI cJ cZ := ⟨hx, hb, hts, hown, hK, fun w h => .tail _ (iM_x h)⟩
  have hA0 : ∀ a : Nat, A a → h0 ≤ a := hA1
  have hl := lv_entry ([.ref (ad 0)]) (n := 1) (Nat.le_of_ble_eq_true rfl)
  rw [lg_entry_eq]
  generalize (lg_sl ([.ref (ad 0)]) ++ List.replicate (1 - (lg_sl ([.ref (ad 0)])).length) Slot.unset).toArray = ls at hl ⊢
  have hl : lv_has ls 1 [(0, .ref (ad 0))] := hl
  unfold fr_readLine at h
  refine lv_aload_n hx hb dX12_readLine_0 rfl (lv_at hl 0 rfl) ?_
  obtain ⟨w2, hw2, ow2⟩ := hT.1 ("AcousticCameraModel", 171, "wall") (List.mem_of_getElem? (i := 25) rfl)
  refine va_ldcS hx hb hown hw2 dX12_readLine_1 ?_
  obtain ⟨r6, S3, eS3, h⟩ := obind2_some h
  refine m_calliX (As := [.ref w2]) (rest := []) E G hA hR hml (tr_isWord l D cI cJ cZ ad S h0 (q := w2) (sTx_ok (by decide +kernel)) eS3) (cwV 1 hts (gmV qM_108 qM_109 qM_110 qM_35 qM_57) rfl rfl rfl (by decide +kernel) ⟨Nat.le_of_ble_eq_true rfl, Nat.le_of_ble_eq_true rfl⟩) rfl hl.1 rfl (lv_room (Nat.le_of_ble_eq_true rfl)) dX12_readLine_3 ⟨Nat.zero_le _, Nat.zero_le _⟩ (xT1.blind) (xT1.go hT hA0 hA G ow2) (fun q4 S5 H locs hq G => ?_)
  obtain ⟨hq1, hq2⟩ := hq
  rw [hq2] at G
  refine lv_to hq1 ?_
  clear hq1 hq2 eS3
  refine lv_if_eq (tgt := 16) hx hb dX12_readLine_6 (by decide) (fun c7 => ?_) (fun c7 => ?_)
  · have h := oif_pos c7 h
    refine lv_aload_n hx hb dX12_readLine_16 rfl (lv_at hl 0 rfl) ?_
    obtain ⟨w8, hw8, ow8⟩ := hT.1 ("AcousticCameraModel", 176, "fade") (List.mem_of_getElem? (i := 26) rfl)
    refine va_ldcS hx hb hown hw8 dX12_readLine_17 ?_
    obtain ⟨r12, S9, eS9, h⟩ := obind2_some h
    refine m_calliX (As := [.ref w8]) (rest := []) E G hA hR hml (tr_isWord l D cI cJ cZ ad S3 h0 (q := w8) (sTx_ok (by decide +kernel)) eS9) (cwV 1 hts (gmV qM_108 qM_109 qM_110 qM_35 qM_57) rfl rfl rfl (by decide +kernel) ⟨Nat.le_of_ble_eq_true rfl, Nat.le_of_ble_eq_true rfl⟩) rfl hl.1 rfl (lv_room (Nat.le_of_ble_eq_true rfl)) dX12_readLine_19 ⟨Nat.zero_le _, Nat.zero_le _⟩ (xT1.blind) (xT1.go hT hA0 hA G ow8) (fun q10 S11 H locs hq G => ?_)
    obtain ⟨hq1, hq2⟩ := hq
    rw [hq2] at G
    refine lv_to hq1 ?_
    clear hq1 hq2 eS9
    refine lv_if_eq (tgt := 32) hx hb dX12_readLine_22 (by decide) (fun c13 => ?_) (fun c13 => ?_)
    · have h := oif_pos c13 h
      refine lv_aload_n hx hb dX12_readLine_32 rfl (lv_at hl 0 rfl) ?_
      obtain ⟨w14, hw14, ow14⟩ := hT.1 ("AcousticCameraModel", 181, "filter") (List.mem_of_getElem? (i := 27) rfl)
      refine va_ldcS hx hb hown hw14 dX12_readLine_33 ?_
      obtain ⟨r18, S15, eS15, h⟩ := obind2_some h
      refine m_calliX (As := [.ref w14]) (rest := []) E G hA hR hml (tr_isWord l D cI cJ cZ ad S9 h0 (q := w14) (sTx_ok (by decide +kernel)) eS15) (cwV 1 hts (gmV qM_108 qM_109 qM_110 qM_35 qM_57) rfl rfl rfl (by decide +kernel) ⟨Nat.le_of_ble_eq_true rfl, Nat.le_of_ble_eq_true rfl⟩) rfl hl.1 rfl (lv_room (Nat.le_of_ble_eq_true rfl)) dX12_readLine_35 ⟨Nat.zero_le _, Nat.zero_le _⟩ (xT1.blind) (xT1.go hT hA0 hA G ow14) (fun q16 S17 H locs hq G => ?_)
      obtain ⟨hq1, hq2⟩ := hq
      rw [hq2] at G
      refine lv_to hq1 ?_
      clear hq1 hq2 eS15
      refine lv_if_eq (tgt := 48) hx hb dX12_readLine_38 (by decide) (fun c19 => ?_) (fun c19 => ?_)
      · have h := oif_pos c19 h
        refine lv_aload_n hx hb dX12_readLine_48 rfl (lv_at hl 0 rfl) ?_
        obtain ⟨w20, hw20, ow20⟩ := hT.1 ("AcousticCameraModel", 186, "clock") (List.mem_of_getElem? (i := 28) rfl)
        refine va_ldcS hx hb hown hw20 dX12_readLine_49 ?_
        obtain ⟨r24, S21, eS21, h⟩ := obind2_some h
        refine m_calliX (As := [.ref w20]) (rest := []) E G hA hR hml (tr_isWord l D cI cJ cZ ad S15 h0 (q := w20) (sTx_ok (by decide +kernel)) eS21) (cwV 1 hts (gmV qM_108 qM_109 qM_110 qM_35 qM_57) rfl rfl rfl (by decide +kernel) ⟨Nat.le_of_ble_eq_true rfl, Nat.le_of_ble_eq_true rfl⟩) rfl hl.1 rfl (lv_room (Nat.le_of_ble_eq_true rfl)) dX12_readLine_51 ⟨Nat.zero_le _, Nat.zero_le _⟩ (xT1.blind) (xT1.go hT hA0 hA G ow20) (fun q22 S23 H locs hq G => ?_)
        obtain ⟨hq1, hq2⟩ := hq
        rw [hq2] at G
        refine lv_to hq1 ?_
        clear hq1 hq2 eS21
        refine lv_if_eq (tgt := 64) hx hb dX12_readLine_54 (by decide) (fun c25 => ?_) (fun c25 => ?_)
        · have h := oif_pos c25 h
          refine lv_aload_n hx hb dX12_readLine_64 rfl (lv_at hl 0 rfl) ?_
          obtain ⟨w26, hw26, ow26⟩ := hT.1 ("AcousticCameraModel", 191, "zone") (List.mem_of_getElem? (i := 29) rfl)
          refine va_ldcS hx hb hown hw26 dX12_readLine_65 ?_
          obtain ⟨r30, S27, eS27, h⟩ := obind2_some h
          refine m_calliX (As := [.ref w26]) (rest := []) E G hA hR hml (tr_isWord l D cI cJ cZ ad S21 h0 (q := w26) (sTx_ok (by decide +kernel)) eS27) (cwV 1 hts (gmV qM_108 qM_109 qM_110 qM_35 qM_57) rfl rfl rfl (by decide +kernel) ⟨Nat.le_of_ble_eq_true rfl, Nat.le_of_ble_eq_true rfl⟩) rfl hl.1 rfl (lv_room (Nat.le_of_ble_eq_true rfl)) dX12_readLine_67 ⟨Nat.zero_le _, Nat.zero_le _⟩ (xT1.blind) (xT1.go hT hA0 hA G ow26) (fun q28 S29 H locs hq G => ?_)
          obtain ⟨hq1, hq2⟩ := hq
          rw [hq2] at G
          refine lv_to hq1 ?_
          clear hq1 hq2 eS27
          refine lv_if_eq (tgt := 80) hx hb dX12_readLine_70 (by decide) (fun c31 => ?_) (fun c31 => ?_)
          · have h := oif_pos c31 h
            refine lv_aload_n hx hb dX12_readLine_80 rfl (lv_at hl 0 rfl) ?_
            obtain ⟨w32, hw32, ow32⟩ := hT.1 ("AcousticCameraModel", 196, "shade") (List.mem_of_getElem? (i := 30) rfl)
            refine va_ldcS hx hb hown hw32 dX12_readLine_81 ?_
            obtain ⟨r36, S33, eS33, h⟩ := obind2_some h
            refine m_calliX (As := [.ref w32]) (rest := []) E G hA hR hml (tr_isWord l D cI cJ cZ ad S27 h0 (q := w32) (sTx_ok (by decide +kernel)) eS33) (cwV 1 hts (gmV qM_108 qM_109 qM_110 qM_35 qM_57) rfl rfl rfl (by decide +kernel) ⟨Nat.le_of_ble_eq_true rfl, Nat.le_of_ble_eq_true rfl⟩) rfl hl.1 rfl (lv_room (Nat.le_of_ble_eq_true rfl)) dX12_readLine_83 ⟨Nat.zero_le _, Nat.zero_le _⟩ (xT1.blind) (xT1.go hT hA0 hA G ow32) (fun q34 S35 H locs hq G => ?_)
            obtain ⟨hq1, hq2⟩ := hq
            rw [hq2] at G
            refine lv_to hq1 ?_
            clear hq1 hq2 eS33
            refine lv_if_eq (tgt := 96) hx hb dX12_readLine_86 (by decide) (fun c37 => ?_) (fun c37 => ?_)
            · have h := oif_pos c37 h
              refine lv_aload_n hx hb dX12_readLine_96 rfl (lv_at hl 0 rfl) ?_
              obtain ⟨w38, hw38, ow38⟩ := hT.1 ("AcousticCameraModel", 201, "off") (List.mem_of_getElem? (i := 31) rfl)
              refine va_ldcS hx hb hown hw38 dX12_readLine_97 ?_
              obtain ⟨r42, S39, eS39, h⟩ := obind2_some h
              refine m_calliX (As := [.ref w38]) (rest := []) E G hA hR hml (tr_isWord l D cI cJ cZ ad S33 h0 (q := w38) (sTx_ok (by decide +kernel)) eS39) (cwV 1 hts (gmV qM_108 qM_109 qM_110 qM_35 qM_57) rfl rfl rfl (by decide +kernel) ⟨Nat.le_of_ble_eq_true rfl, Nat.le_of_ble_eq_true rfl⟩) rfl hl.1 rfl (lv_room (Nat.le_of_ble_eq_true rfl)) dX12_readLine_99 ⟨Nat.zero_le _, Nat.zero_le _⟩ (xT1.blind) (xT1.go hT hA0 hA G ow38) (fun q40 S41 H locs hq G => ?_)
              obtain ⟨hq1, hq2⟩ := hq
              rw [hq2] at G
              refine lv_to hq1 ?_
              clear hq1 hq2 eS39
              refine lv_if_eq (tgt := 112) hx hb dX12_readLine_102 (by decide) (fun c43 => ?_) (fun c43 => ?_)
              · have h := oif_pos c43 h
                refine lv_aload_n hx hb dX12_readLine_112 rfl (lv_at hl 0 rfl) ?_
                obtain ⟨w44, hw44, ow44⟩ := hT.1 ("AcousticCameraModel", 206, "mic") (List.mem_of_getElem? (i := 32) rfl)
                refine va_ldcS hx hb hown hw44 dX12_readLine_113 ?_
                obtain ⟨r48, S45, eS45, h⟩ := obind2_some h
                refine m_calliX (As := [.ref w44]) (rest := []) E G hA hR hml (tr_isWord l D cI cJ cZ ad S39 h0 (q := w44) (sTx_ok (by decide +kernel)) eS45) (cwV 1 hts (gmV qM_108 qM_109 qM_110 qM_35 qM_57) rfl rfl rfl (by decide +kernel) ⟨Nat.le_of_ble_eq_true rfl, Nat.le_of_ble_eq_true rfl⟩) rfl hl.1 rfl (lv_room (Nat.le_of_ble_eq_true rfl)) dX12_readLine_115 ⟨Nat.zero_le _, Nat.zero_le _⟩ (xT1.blind) (xT1.go hT hA0 hA G ow44) (fun q46 S47 H locs hq G => ?_)
                obtain ⟨hq1, hq2⟩ := hq
                rw [hq2] at G
                refine lv_to hq1 ?_
                clear hq1 hq2 eS45
                refine lv_if_eq (tgt := 128) hx hb dX12_readLine_118 (by decide) (fun c49 => ?_) (fun c49 => ?_)
                · have h := oif_pos c49 h
                  refine lv_aload_n hx hb dX12_readLine_128 rfl (lv_at hl 0 rfl) ?_
                  obtain ⟨w50, hw50, ow50⟩ := hT.1 ("AcousticCameraModel", 211, "map") (List.mem_of_getElem? (i := 33) rfl)
                  refine va_ldcS hx hb hown hw50 dX12_readLine_129 ?_
                  obtain ⟨r54, S51, eS51, h⟩ := obind2_some h
                  refine m_calliX (As := [.ref w50]) (rest := []) E G hA hR hml (tr_isWord l D cI cJ cZ ad S45 h0 (q := w50) (sTx_ok (by decide +kernel)) eS51) (cwV 1 hts (gmV qM_108 qM_109 qM_110 qM_35 qM_57) rfl rfl rfl (by decide +kernel) ⟨Nat.le_of_ble_eq_true rfl, Nat.le_of_ble_eq_true rfl⟩) rfl hl.1 rfl (lv_room (Nat.le_of_ble_eq_true rfl)) dX12_readLine_131 ⟨Nat.zero_le _, Nat.zero_le _⟩ (xT1.blind) (xT1.go hT hA0 hA G ow50) (fun q52 S53 H locs hq G => ?_)
                  obtain ⟨hq1, hq2⟩ := hq
                  rw [hq2] at G
                  refine lv_to hq1 ?_
                  clear hq1 hq2 eS51
                  refine lv_if_eq (tgt := 144) hx hb dX12_readLine_134 (by decide) (fun c55 => ?_) (fun c55 => ?_)
                  · have h := oif_pos c55 h
                    refine lv_aload_n hx hb dX12_readLine_144 rfl (lv_at hl 0 rfl) ?_
                    obtain ⟨w56, hw56, ow56⟩ := hT.1 ("AcousticCameraModel", 216, "source") (List.mem_of_getElem? (i := 34) rfl)
                    refine va_ldcS hx hb hown hw56 dX12_readLine_145 ?_
                    obtain ⟨r60, S57, eS57, h⟩ := obind2_some h
                    refine m_calliX (As := [.ref w56]) (rest := []) E G hA hR hml (tr_isWord l D cI cJ cZ ad S51 h0 (q := w56) (sTx_ok (by decide +kernel)) eS57) (cwV 1 hts (gmV qM_108 qM_109 qM_110 qM_35 qM_57) rfl rfl rfl (by decide +kernel) ⟨Nat.le_of_ble_eq_true rfl, Nat.le_of_ble_eq_true rfl⟩) rfl hl.1 rfl (lv_room (Nat.le_of_ble_eq_true rfl)) dX12_readLine_147 ⟨Nat.zero_le _, Nat.zero_le _⟩ (xT1.blind) (xT1.go hT hA0 hA G ow56) (fun q58 S59 H locs hq G => ?_)
                    obtain ⟨hq1, hq2⟩ := hq
                    rw [hq2] at G
                    refine lv_to hq1 ?_
                    clear hq1 hq2 eS57
                    refine lv_if_eq (tgt := 160) hx hb dX12_readLine_150 (by decide) (fun c61 => ?_) (fun c61 => ?_)
                    · have h := oif_pos c61 h
                      refine lv_aload_n hx hb dX12_readLine_160 rfl (lv_at hl 0 rfl) ?_
                      refine lv_iconst (v := 1) hx hb dX12_readLine_161 (by decide) ?_
                      obtain ⟨S62, eS62, h⟩ := obind_some h
                      refine m_callv (As := [.int 1]) (rest := []) E G hA hR hml (tr_faults l D cI cJ cZ ad S57 1 eS62) (cwV 1 hts (gmV qM_118 qM_119 qM_120 qM_35 qM_42) rfl rfl rfl (by decide +kernel) ⟨Nat.le_of_ble_eq_true rfl, Nat.le_of_ble_eq_true rfl⟩) rfl hl.1 rfl (lv_room (Nat.le_of_ble_eq_true rfl)) dX12_readLine_162 ⟨Nat.zero_le _, Nat.zero_le _⟩ (fun S64 H locs hq G => ?_)
                      rw [hq] at G
                      clear hq eS62
                      have hl := lv_sub hl [] rfl
                      exact tr_readLine_b165 E hA hR hml hA0 hT (fun H locs ls G => W.vret hx hb hr (fun t ht hW => ⟨⟨S1, rfl, rfl, ⟨by rw [ht]; exact G.1, va_K.moved hW.alike hK, G.2.1⟩⟩, G.2.2.F ht⟩) G.2.2.2.2 dX12_readLine_165) _ _ _ _ h G hl
                    · have h := oif_neg c61 h
                      refine lv_aload_n hx hb dX12_readLine_153 rfl (lv_at hl 0 rfl) ?_
                      obtain ⟨S65, eS65, h⟩ := obind_some h
                      refine m_callvX (As := []) (rest := []) E G hA hR hml (tr_readSource l D cI cJ cZ ad S57 h0 eS65) (cwV 0 hts (gmV qM_182 qM_183 qM_184 qM_35 qM_146) rfl rfl rfl (by decide +kernel) ⟨Nat.le_of_ble_eq_true rfl, Nat.le_of_ble_eq_true rfl⟩) rfl hl.1 rfl (lv_room (Nat.le_of_ble_eq_true rfl)) dX12_readLine_154 ⟨Nat.zero_le _, Nat.zero_le _⟩ (xT0.blind) (xT0.go hT hA0 hA G) (fun S67 H locs hq G => ?_)
                      rw [hq] at G
                      clear hq eS65
                      refine lv_goto (tgt := 165) hx hb dX12_readLine_157 (by decide) ?_
                      have hl := lv_sub hl [] rfl
                      exact tr_readLine_b165 E hA hR hml hA0 hT (fun H locs ls G => W.vret hx hb hr (fun t ht hW => ⟨⟨S1, rfl, rfl, ⟨by rw [ht]; exact G.1, va_K.moved hW.alike hK, G.2.1⟩⟩, G.2.2.F ht⟩) G.2.2.2.2 dX12_readLine_165) _ _ _ _ h G hl
                  · have h := oif_neg c55 h
                    refine lv_aload_n hx hb dX12_readLine_137 rfl (lv_at hl 0 rfl) ?_
                    obtain ⟨S68, eS68, h⟩ := obind_some h
                    refine m_callv (As := []) (rest := []) E G hA hR hml (tr_readMap l D cI cJ cZ ad S51 eS68) (cwV 0 hts (gmV qM_179 qM_180 qM_181 qM_35 qM_145) rfl rfl rfl (by decide +kernel) ⟨Nat.le_of_ble_eq_true rfl, Nat.le_of_ble_eq_true rfl⟩) rfl hl.1 rfl (lv_room (Nat.le_of_ble_eq_true rfl)) dX12_readLine_138 ⟨Nat.zero_le _, Nat.zero_le _⟩ (fun S70 H locs hq G => ?_)
                    rw [hq] at G
                    clear hq eS68
                    refine lv_goto (tgt := 165) hx hb dX12_readLine_141 (by decide) ?_
                    have hl := lv_sub hl [] rfl
                    exact tr_readLine_b165 E hA hR hml hA0 hT (fun H locs ls G => W.vret hx hb hr (fun t ht hW => ⟨⟨S1, rfl, rfl, ⟨by rw [ht]; exact G.1, va_K.moved hW.alike hK, G.2.1⟩⟩, G.2.2.F ht⟩) G.2.2.2.2 dX12_readLine_165) _ _ _ _ h G hl
                · have h := oif_neg c49 h
                  refine lv_aload_n hx hb dX12_readLine_121 rfl (lv_at hl 0 rfl) ?_
                  obtain ⟨S71, eS71, h⟩ := obind_some h
                  refine m_callv (As := []) (rest := []) E G hA hR hml (tr_readMic l D cI cJ cZ ad S45 eS71) (cwV 0 hts (gmV qM_176 qM_177 qM_178 qM_35 qM_141) rfl rfl rfl (by decide +kernel) ⟨Nat.le_of_ble_eq_true rfl, Nat.le_of_ble_eq_true rfl⟩) rfl hl.1 rfl (lv_room (Nat.le_of_ble_eq_true rfl)) dX12_readLine_122 ⟨Nat.zero_le _, Nat.zero_le _⟩ (fun S73 H locs hq G => ?_)
                  rw [hq] at G
                  clear hq eS71
                  refine lv_goto (tgt := 165) hx hb dX12_readLine_125 (by decide) ?_
                  have hl := lv_sub hl [] rfl
                  exact tr_readLine_b165 E hA hR hml hA0 hT (fun H locs ls G => W.vret hx hb hr (fun t ht hW => ⟨⟨S1, rfl, rfl, ⟨by rw [ht]; exact G.1, va_K.moved hW.alike hK, G.2.1⟩⟩, G.2.2.F ht⟩) G.2.2.2.2 dX12_readLine_165) _ _ _ _ h G hl
              · have h := oif_neg c43 h
                refine lv_aload_n hx hb dX12_readLine_105 rfl (lv_at hl 0 rfl) ?_
                obtain ⟨S74, eS74, h⟩ := obind_some h
                refine m_callv (As := []) (rest := []) E G hA hR hml (tr_readOff l D cI cJ cZ ad S39 eS74) (cwV 0 hts (gmV qM_173 qM_174 qM_175 qM_35 qM_152) rfl rfl rfl (by decide +kernel) ⟨Nat.le_of_ble_eq_true rfl, Nat.le_of_ble_eq_true rfl⟩) rfl hl.1 rfl (lv_room (Nat.le_of_ble_eq_true rfl)) dX12_readLine_106 ⟨Nat.zero_le _, Nat.zero_le _⟩ (fun S76 H locs hq G => ?_)
                rw [hq] at G
                clear hq eS74
                refine lv_goto (tgt := 165) hx hb dX12_readLine_109 (by decide) ?_
                have hl := lv_sub hl [] rfl
                exact tr_readLine_b165 E hA hR hml hA0 hT (fun H locs ls G => W.vret hx hb hr (fun t ht hW => ⟨⟨S1, rfl, rfl, ⟨by rw [ht]; exact G.1, va_K.moved hW.alike hK, G.2.1⟩⟩, G.2.2.F ht⟩) G.2.2.2.2 dX12_readLine_165) _ _ _ _ h G hl
            · have h := oif_neg c37 h
              refine lv_aload_n hx hb dX12_readLine_89 rfl (lv_at hl 0 rfl) ?_
              obtain ⟨S77, eS77, h⟩ := obind_some h
              refine m_callv (As := []) (rest := []) E G hA hR hml (tr_readShade l D cI cJ cZ ad S33 eS77) (cwV 0 hts (gmV qM_170 qM_171 qM_172 qM_35 qM_151) rfl rfl rfl (by decide +kernel) ⟨Nat.le_of_ble_eq_true rfl, Nat.le_of_ble_eq_true rfl⟩) rfl hl.1 rfl (lv_room (Nat.le_of_ble_eq_true rfl)) dX12_readLine_90 ⟨Nat.zero_le _, Nat.zero_le _⟩ (fun S79 H locs hq G => ?_)
              rw [hq] at G
              clear hq eS77
              refine lv_goto (tgt := 165) hx hb dX12_readLine_93 (by decide) ?_
              have hl := lv_sub hl [] rfl
              exact tr_readLine_b165 E hA hR hml hA0 hT (fun H locs ls G => W.vret hx hb hr (fun t ht hW => ⟨⟨S1, rfl, rfl, ⟨by rw [ht]; exact G.1, va_K.moved hW.alike hK, G.2.1⟩⟩, G.2.2.F ht⟩) G.2.2.2.2 dX12_readLine_165) _ _ _ _ h G hl
          · have h := oif_neg c31 h
            refine lv_aload_n hx hb dX12_readLine_73 rfl (lv_at hl 0 rfl) ?_
            obtain ⟨S80, eS80, h⟩ := obind_some h
            refine m_callv (As := []) (rest := []) E G hA hR hml (tr_readZone l D cI cJ cZ ad S27 eS80) (cwV 0 hts (gmV qM_167 qM_168 qM_169 qM_35 qM_153) rfl rfl rfl (by decide +kernel) ⟨Nat.le_of_ble_eq_true rfl, Nat.le_of_ble_eq_true rfl⟩) rfl hl.1 rfl (lv_room (Nat.le_of_ble_eq_true rfl)) dX12_readLine_74 ⟨Nat.zero_le _, Nat.zero_le _⟩ (fun S82 H locs hq G => ?_)
            rw [hq] at G
            clear hq eS80
            refine lv_goto (tgt := 165) hx hb dX12_readLine_77 (by decide) ?_
            have hl := lv_sub hl [] rfl
            exact tr_readLine_b165 E hA hR hml hA0 hT (fun H locs ls G => W.vret hx hb hr (fun t ht hW => ⟨⟨S1, rfl, rfl, ⟨by rw [ht]; exact G.1, va_K.moved hW.alike hK, G.2.1⟩⟩, G.2.2.F ht⟩) G.2.2.2.2 dX12_readLine_165) _ _ _ _ h G hl
        · have h := oif_neg c25 h
          refine lv_aload_n hx hb dX12_readLine_57 rfl (lv_at hl 0 rfl) ?_
          obtain ⟨S83, eS83, h⟩ := obind_some h
          refine m_callv (As := []) (rest := []) E G hA hR hml (tr_readClock l D cI cJ cZ ad S21 eS83) (cwV 0 hts (gmV qM_164 qM_165 qM_166 qM_35 qM_150) rfl rfl rfl (by decide +kernel) ⟨Nat.le_of_ble_eq_true rfl, Nat.le_of_ble_eq_true rfl⟩) rfl hl.1 rfl (lv_room (Nat.le_of_ble_eq_true rfl)) dX12_readLine_58 ⟨Nat.zero_le _, Nat.zero_le _⟩ (fun S85 H locs hq G => ?_)
          rw [hq] at G
          clear hq eS83
          refine lv_goto (tgt := 165) hx hb dX12_readLine_61 (by decide) ?_
          have hl := lv_sub hl [] rfl
          exact tr_readLine_b165 E hA hR hml hA0 hT (fun H locs ls G => W.vret hx hb hr (fun t ht hW => ⟨⟨S1, rfl, rfl, ⟨by rw [ht]; exact G.1, va_K.moved hW.alike hK, G.2.1⟩⟩, G.2.2.F ht⟩) G.2.2.2.2 dX12_readLine_165) _ _ _ _ h G hl
      · have h := oif_neg c19 h
        refine lv_aload_n hx hb dX12_readLine_41 rfl (lv_at hl 0 rfl) ?_
        obtain ⟨S86, eS86, h⟩ := obind_some h
        refine m_callv (As := []) (rest := []) E G hA hR hml (tr_readFilter l D cI cJ cZ ad S15 eS86) (cwV 0 hts (gmV qM_161 qM_162 qM_163 qM_35 qM_149) rfl rfl rfl (by decide +kernel) ⟨Nat.le_of_ble_eq_true rfl, Nat.le_of_ble_eq_true rfl⟩) rfl hl.1 rfl (lv_room (Nat.le_of_ble_eq_true rfl)) dX12_readLine_42 ⟨Nat.zero_le _, Nat.zero_le _⟩ (fun S88 H locs hq G => ?_)
        rw [hq] at G
        clear hq eS86
        refine lv_goto (tgt := 165) hx hb dX12_readLine_45 (by decide) ?_
        have hl := lv_sub hl [] rfl
        exact tr_readLine_b165 E hA hR hml hA0 hT (fun H locs ls G => W.vret hx hb hr (fun t ht hW => ⟨⟨S1, rfl, rfl, ⟨by rw [ht]; exact G.1, va_K.moved hW.alike hK, G.2.1⟩⟩, G.2.2.F ht⟩) G.2.2.2.2 dX12_readLine_165) _ _ _ _ h G hl
    · have h := oif_neg c13 h
      refine lv_aload_n hx hb dX12_readLine_25 rfl (lv_at hl 0 rfl) ?_
      obtain ⟨S89, eS89, h⟩ := obind_some h
      refine m_callv (As := []) (rest := []) E G hA hR hml (tr_readFade l D cI cJ cZ ad S9 eS89) (cwV 0 hts (gmV qM_158 qM_159 qM_160 qM_35 qM_148) rfl rfl rfl (by decide +kernel) ⟨Nat.le_of_ble_eq_true rfl, Nat.le_of_ble_eq_true rfl⟩) rfl hl.1 rfl (lv_room (Nat.le_of_ble_eq_true rfl)) dX12_readLine_26 ⟨Nat.zero_le _, Nat.zero_le _⟩ (fun S91 H locs hq G => ?_)
      rw [hq] at G
      clear hq eS89
      refine lv_goto (tgt := 165) hx hb dX12_readLine_29 (by decide) ?_
      have hl := lv_sub hl [] rfl
      exact tr_readLine_b165 E hA hR hml hA0 hT (fun H locs ls G => W.vret hx hb hr (fun t ht hW => ⟨⟨S1, rfl, rfl, ⟨by rw [ht]; exact G.1, va_K.moved hW.alike hK, G.2.1⟩⟩, G.2.2.F ht⟩) G.2.2.2.2 dX12_readLine_165) _ _ _ _ h G hl
  · have h := oif_neg c7 h
    refine lv_aload_n hx hb dX12_readLine_9 rfl (lv_at hl 0 rfl) ?_
    obtain ⟨S92, eS92, h⟩ := obind_some h
    refine m_callv (As := []) (rest := []) E G hA hR hml (tr_readWall l D cI cJ cZ ad S3 eS92) (cwV 0 hts (gmV qM_155 qM_156 qM_157 qM_35 qM_147) rfl rfl rfl (by decide +kernel) ⟨Nat.le_of_ble_eq_true rfl, Nat.le_of_ble_eq_true rfl⟩) rfl hl.1 rfl (lv_room (Nat.le_of_ble_eq_true rfl)) dX12_readLine_10 ⟨Nat.zero_le _, Nat.zero_le _⟩ (fun S94 H locs hq G => ?_)
    rw [hq] at G
    clear hq eS92
    refine lv_goto (tgt := 165) hx hb dX12_readLine_13 (by decide) ?_
    have hl := lv_sub hl [] rfl
    exact tr_readLine_b165 E hA hR hml hA0 hT (fun H locs ls G => W.vret hx hb hr (fun t ht hW => ⟨⟨S1, rfl, rfl, ⟨by rw [ht]; exact G.1, va_K.moved hW.alike hK, G.2.1⟩⟩, G.2.2.F ht⟩) G.2.2.2.2 dX12_readLine_165) _ _ _ _ h G hl
def fr_readText_b116  (S : MS)  : Option (MS) := some S
set_option maxHeartbeats 4000000 in
set_option maxRecDepth 100000 in
theorem tr_readText_b116 {p : Program} {l : Launch} {e : Env} {s : State} {m : MethodId} {args : Array Value} {below : List Frame} {meth : Method} {c : Code} {Q : State → Prop} {D : va_G} {A : Nat → Prop} {cI cJ cZ : ClassId} {ad : Nat → Nat} {S1 : MS} (E : mE p c cX12_readText s m args (Cond.code yX12_readText cX12_readText 2 none :: wsM) D cI cJ cZ) (hA : ∀ q : Nat, s.heap.size ≤ q → A q) (hR : sR s) (hml : c.maxLocals = 2) {h0 : Nat} (hA0 : ∀ a : Nat, A a → h0 ≤ a) (hT : sAll h0 s) (kr116 : ∀ (H : Heap) (locs : List Loc) (ls : Array Slot), mG D cI cJ cZ ad A s.heap H locs S1 → W p l e { frames := 10, cells := 0, slots := 0, locals := 195 } s m args below meth c H locs 0 0 Q (F0 m 116 ls [])) : ∀ (S : MS) (H : Heap) (locs : List Loc) (ls : Array Slot), fr_readText_b116 S = some S1 → mG D cI cJ cZ ad A s.heap H locs S → lv_has ls 2 [] → W p l e { frames := 10, cells := 0, slots := 0, locals := 195 } s m args below meth c H locs 0 0 Q (F0 m 116 ls []) := by
  have hx := E.1
  have hb := E.2.1
  have hts := E.2.2.1
  have hown := E.2.2.2.1
  have hK := E.2.2.2.2.1
  intro S H locs ls h G hl
  unfold fr_readText_b116 at h
  rw [osome1 h] at G
  exact kr116 _ _ _ G
def fr_readText_b111  (S : MS)  : Option (MS) := obind (fr_faults S 5) fun S2 => fr_readText_b116 S2
set_option maxHeartbeats 4000000 in
set_option maxRecDepth 100000 in
theorem tr_readText_b111 {p : Program} {l : Launch} {e : Env} {s : State} {m : MethodId} {args : Array Value} {below : List Frame} {meth : Method} {c : Code} {Q : State → Prop} {D : va_G} {A : Nat → Prop} {cI cJ cZ : ClassId} {ad : Nat → Nat} {S1 : MS} (E : mE p c cX12_readText s m args (Cond.code yX12_readText cX12_readText 2 none :: wsM) D cI cJ cZ) (hA : ∀ q : Nat, s.heap.size ≤ q → A q) (hR : sR s) (hml : c.maxLocals = 2) {h0 : Nat} (hA0 : ∀ a : Nat, A a → h0 ≤ a) (hT : sAll h0 s) (kr116 : ∀ (H : Heap) (locs : List Loc) (ls : Array Slot), mG D cI cJ cZ ad A s.heap H locs S1 → W p l e { frames := 10, cells := 0, slots := 0, locals := 195 } s m args below meth c H locs 0 0 Q (F0 m 116 ls [])) : ∀ (S : MS) (H : Heap) (locs : List Loc) (ls : Array Slot), fr_readText_b111 S = some S1 → mG D cI cJ cZ ad A s.heap H locs S → lv_has ls 2 [(0, .ref (ad 0))] → W p l e { frames := 10, cells := 0, slots := 0, locals := 195 } s m args below meth c H locs 0 0 Q (F0 m 111 ls []) := by
  have hx := E.1
  have hb := E.2.1
  have hts := E.2.2.1
  have hown := E.2.2.2.1
  have hK := E.2.2.2.2.1
  intro S H locs ls h G hl
  unfold fr_readText_b111 at h
  refine lv_aload_n hx hb dX12_readText_111 rfl (lv_at hl 0 rfl) ?_
  refine lv_iconst (v := 5) hx hb dX12_readText_112 (by decide) ?_
  obtain ⟨S2, eS2, h⟩ := obind_some h
  refine m_callv (As := [.int 5]) (rest := []) E G hA hR hml (tr_faults l D cI cJ cZ ad S 5 eS2) (cwV 1 hts (gmV qM_118 qM_119 qM_120 qM_35 qM_42) rfl rfl rfl (by decide +kernel) ⟨Nat.le_of_ble_eq_true rfl, Nat.le_of_ble_eq_true rfl⟩) rfl hl.1 rfl (lv_room (Nat.le_of_ble_eq_true rfl)) dX12_readText_113 ⟨Nat.zero_le _, Nat.zero_le _⟩ (fun S4 H locs hq G => ?_)
  rw [hq] at G
  clear hq eS2
  have hl := lv_sub hl [] rfl
  exact tr_readText_b116 E hA hR hml hA0 hT kr116 _ _ _ _ h G hl
def fr_readText_b92  (S : MS)  : Option (MS) := elet (S.2.1 11 4) fun v2 => if v2 = 0 then (fr_readText_b111 S) else (elet (S.2.1 11 8) fun v4 => if v4 = 0 then (fr_readText_b111 S) else (fr_readText_b116 S))
set_option maxHeartbeats 4000000 in
set_option maxRecDepth 100000 in
theorem tr_readText_b92 {p : Program} {l : Launch} {e : Env} {s : State} {m : MethodId} {args : Array Value} {below : List Frame} {meth : Method} {c : Code} {Q : State → Prop} {D : va_G} {A : Nat → Prop} {cI cJ cZ : ClassId} {ad : Nat → Nat} {S1 : MS} (E : mE p c cX12_readText s m args (Cond.code yX12_readText cX12_readText 2 none :: wsM) D cI cJ cZ) (hA : ∀ q : Nat, s.heap.size ≤ q → A q) (hR : sR s) (hml : c.maxLocals = 2) {h0 : Nat} (hA0 : ∀ a : Nat, A a → h0 ≤ a) (hT : sAll h0 s) (kr116 : ∀ (H : Heap) (locs : List Loc) (ls : Array Slot), mG D cI cJ cZ ad A s.heap H locs S1 → W p l e { frames := 10, cells := 0, slots := 0, locals := 195 } s m args below meth c H locs 0 0 Q (F0 m 116 ls [])) : ∀ (S : MS) (H : Heap) (locs : List Loc) (ls : Array Slot), fr_readText_b92 S = some S1 → mG D cI cJ cZ ad A s.heap H locs S → lv_has ls 2 [(0, .ref (ad 0))] → W p l e { frames := 10, cells := 0, slots := 0, locals := 195 } s m args below meth c H locs 0 0 Q (F0 m 92 ls []) := by
  have hx := E.1
  have hb := E.2.1
  have hts := E.2.2.1
  have hown := E.2.2.2.1
  have hK := E.2.2.2.2.1
  intro S H locs ls h G hl
  unfold fr_readText_b92 at h
  refine lv_aload_n hx hb dX12_readText_92 rfl (lv_at hl 0 rfl) ?_
  refine m_get E G 11 (v := .ref (ad 11)) (by decide) (.tail _ qM_8) rfl dX12_readText_93 rfl ?_
  refine lv_iconst (v := 4) hx hb dX12_readText_96 (by decide) ?_
  refine m_iald E G 11 3 (n := 131) (k := 4) rfl rfl (by decide) (by decide) dX12_readText_97 ?_
  refine lv_topi (fun v2 ev2 => ?_)
  have h := elet_at ev2 h
  clear ev2
  refine lv_if_eq (tgt := 111) hx hb dX12_readText_98 (by decide) (fun c3 => ?_) (fun c3 => ?_)
  · have h := oif_pos c3 h
    have hl := lv_sub hl [0] rfl
    exact tr_readText_b111 E hA hR hml hA0 hT kr116 _ _ _ _ h G hl
  · have h := oif_neg c3 h
    refine lv_aload_n hx hb dX12_readText_101 rfl (lv_at hl 0 rfl) ?_
    refine m_get E G 11 (v := .ref (ad 11)) (by decide) (.tail _ qM_8) rfl dX12_readText_102 rfl ?_
    refine lv_bipush (v := 8) hx hb dX12_readText_105 (by decide) ?_
    refine m_iald E G 11 3 (n := 131) (k := 8) rfl rfl (by decide) (by decide) dX12_readText_107 ?_
    refine lv_topi (fun v4 ev4 => ?_)
    have h := elet_at ev4 h
    clear ev4
    refine lv_if_ne (tgt := 116) hx hb dX12_readText_108 (by decide) (fun c5 => ?_) (fun c5 => ?_)
    · have h := oif_neg c5 h
      have hl := lv_sub hl [] rfl
      exact tr_readText_b116 E hA hR hml hA0 hT kr116 _ _ _ _ h G hl
    · have h := oif_pos c5 h
      have hl := lv_sub hl [0] rfl
      exact tr_readText_b111 E hA hR hml hA0 hT kr116 _ _ _ _ h G hl
def fr_readText_b52  : Nat → MS → Option (MS)
  | 0, _ => none
  | n + 1, S => obind2 (fr_isSignHere S 59) fun r5 S2 => if r5 = 0 then (elet (S2.1 5) fun v7 => if v7 = 0 then (elet (S2.1 7) fun v9 => if v9 = 1 then (fr_readText_b92 S2) else (obind (fr_faults S2 1) fun S11 => fr_readText_b92 S11)) else (fr_readText_b92 S2)) else (obind (fr_nextToken S2) fun S14 => obind (fr_readLine S14) fun S17 => fr_readText_b52 n S17)
set_option maxHeartbeats 4000000 in
set_option maxRecDepth 100000 in
theorem tr_readText_b52 {p : Program} {l : Launch} {e : Env} {s : State} {m : MethodId} {args : Array Value} {below : List Frame} {meth : Method} {c : Code} {Q : State → Prop} {D : va_G} {A : Nat → Prop} {cI cJ cZ : ClassId} {ad : Nat → Nat} {S1 : MS} (E : mE p c cX12_readText s m args (Cond.code yX12_readText cX12_readText 2 none :: wsM) D cI cJ cZ) (hA : ∀ q : Nat, s.heap.size ≤ q → A q) (hR : sR s) (hml : c.maxLocals = 2) {h0 : Nat} (hA0 : ∀ a : Nat, A a → h0 ≤ a) (hT : sAll h0 s) (kr116 : ∀ (H : Heap) (locs : List Loc) (ls : Array Slot), mG D cI cJ cZ ad A s.heap H locs S1 → W p l e { frames := 10, cells := 0, slots := 0, locals := 195 } s m args below meth c H locs 0 0 Q (F0 m 116 ls [])) : ∀ n : Nat, ∀ (S : MS) (H : Heap) (locs : List Loc) (ls : Array Slot), fr_readText_b52 n S = some S1 → mG D cI cJ cZ ad A s.heap H locs S → lv_has ls 2 [(0, .ref (ad 0))] → W p l e { frames := 10, cells := 0, slots := 0, locals := 195 } s m args below meth c H locs 0 0 Q (F0 m 52 ls []) := by
  have hx := E.1
  have hb := E.2.1
  have hts := E.2.2.1
  have hown := E.2.2.2.1
  have hK := E.2.2.2.2.1
  intro n
  induction n with
  | zero =>
    intro S H locs ls h
    have h : (none : Option (MS)) = some S1 := h
    cases h
  | succ n ih =>
    intro S H locs ls h G hl
    unfold fr_readText_b52 at h
    refine lv_aload_n hx hb dX12_readText_52 rfl (lv_at hl 0 rfl) ?_
    refine lv_bipush (v := 59) hx hb dX12_readText_53 (by decide) ?_
    obtain ⟨r5, S2, eS2, h⟩ := obind2_some h
    refine m_calli (As := [.int 59]) (rest := []) E G hA hR hml (tr_isSignHere l D cI cJ cZ ad S 59 eS2) (cwV 1 hts (gmV qM_134 qM_135 qM_136 qM_35 qM_56) rfl rfl rfl (by decide +kernel) ⟨Nat.le_of_ble_eq_true rfl, Nat.le_of_ble_eq_true rfl⟩) rfl hl.1 rfl (lv_room (Nat.le_of_ble_eq_true rfl)) dX12_readText_55 ⟨Nat.zero_le _, Nat.zero_le _⟩ (fun q3 S4 H locs hq G => ?_)
    obtain ⟨hq1, hq2⟩ := hq
    rw [hq2] at G
    refine lv_to hq1 ?_
    clear hq1 hq2 eS2
    refine lv_if_eq (tgt := 72) hx hb dX12_readText_58 (by decide) (fun c6 => ?_) (fun c6 => ?_)
    · have h := oif_pos c6 h
      refine lv_aload_n hx hb dX12_readText_72 rfl (lv_at hl 0 rfl) ?_
      refine m_get E G 5 (v := .int (S2.1 5)) (by decide) (.tail _ qM_38) rfl dX12_readText_73 rfl ?_
      refine lv_topi (fun v7 ev7 => ?_)
      have h := elet_at ev7 h
      clear ev7
      refine lv_if_ne (tgt := 92) hx hb dX12_readText_76 (by decide) (fun c8 => ?_) (fun c8 => ?_)
      · have h := oif_neg c8 h
        have hl := lv_sub hl [0] rfl
        exact tr_readText_b92 E hA hR hml hA0 hT kr116 _ _ _ _ h G hl
      · have h := oif_pos c8 h
        refine lv_aload_n hx hb dX12_readText_79 rfl (lv_at hl 0 rfl) ?_
        refine m_get E G 7 (v := .int (S2.1 7)) (by decide) (.tail _ qM_47) rfl dX12_readText_80 rfl ?_
        refine lv_topi (fun v9 ev9 => ?_)
        have h := elet_at ev9 h
        clear ev9
        refine lv_iconst (v := 1) hx hb dX12_readText_83 (by decide) ?_
        refine lv_icmp_eq (tgt := 92) hx hb dX12_readText_84 (by decide) (fun c10 => ?_) (fun c10 => ?_)
        · have h := oif_pos c10 h
          have hl := lv_sub hl [0] rfl
          exact tr_readText_b92 E hA hR hml hA0 hT kr116 _ _ _ _ h G hl
        · have h := oif_neg c10 h
          refine lv_aload_n hx hb dX12_readText_87 rfl (lv_at hl 0 rfl) ?_
          refine lv_iconst (v := 1) hx hb dX12_readText_88 (by decide) ?_
          obtain ⟨S11, eS11, h⟩ := obind_some h
          refine m_callv (As := [.int 1]) (rest := []) E G hA hR hml (tr_faults l D cI cJ cZ ad S2 1 eS11) (cwV 1 hts (gmV qM_118 qM_119 qM_120 qM_35 qM_42) rfl rfl rfl (by decide +kernel) ⟨Nat.le_of_ble_eq_true rfl, Nat.le_of_ble_eq_true rfl⟩) rfl hl.1 rfl (lv_room (Nat.le_of_ble_eq_true rfl)) dX12_readText_89 ⟨Nat.zero_le _, Nat.zero_le _⟩ (fun S13 H locs hq G => ?_)
          rw [hq] at G
          clear hq eS11
          have hl := lv_sub hl [0] rfl
          exact tr_readText_b92 E hA hR hml hA0 hT kr116 _ _ _ _ h G hl
    · have h := oif_neg c6 h
      refine lv_aload_n hx hb dX12_readText_61 rfl (lv_at hl 0 rfl) ?_
      obtain ⟨S14, eS14, h⟩ := obind_some h
      refine m_callv (As := []) (rest := []) E G hA hR hml (tr_nextToken l D cI cJ cZ ad S2 eS14) (cwV 0 hts (gmV qM_111 qM_112 qM_113 qM_35 qM_45) rfl rfl rfl (by decide +kernel) ⟨Nat.le_of_ble_eq_true rfl, Nat.le_of_ble_eq_true rfl⟩) rfl hl.1 rfl (lv_room (Nat.le_of_ble_eq_true rfl)) dX12_readText_62 ⟨Nat.zero_le _, Nat.zero_le _⟩ (fun S16 H locs hq G => ?_)
      rw [hq] at G
      clear hq eS14
      refine lv_aload_n hx hb dX12_readText_65 rfl (lv_at hl 0 rfl) ?_
      obtain ⟨S17, eS17, h⟩ := obind_some h
      refine m_callvX (As := []) (rest := []) E G hA hR hml (tr_readLine l D cI cJ cZ ad S14 h0 eS17) (cwV 0 hts (gmV qM_189 qM_190 qM_191 qM_35 qM_154) rfl rfl rfl (by decide +kernel) ⟨Nat.le_of_ble_eq_true rfl, Nat.le_of_ble_eq_true rfl⟩) rfl hl.1 rfl (lv_room (Nat.le_of_ble_eq_true rfl)) dX12_readText_66 ⟨Nat.zero_le _, Nat.zero_le _⟩ (xT0.blind) (xT0.go hT hA0 hA G) (fun S19 H locs hq G => ?_)
      rw [hq] at G
      clear hq eS17
      refine lv_goto (tgt := 52) hx hb dX12_readText_69 (by decide) ?_
      have hl := lv_sub hl [0] rfl
      exact ih _ _ _ _ h G hl
def fr_readText_b24  : Nat → MS → Int32 → Option (MS)
  | 0, _, _ => none
  | n + 1, S, l1 => if 2455 ≤ l1 then (obind (fr_nextToken S) fun S3 => obind (fr_readFirst S3) fun S6 => fr_readText_b52 16384 S6) else (oif (inb l1 2455 = true) <| elet (mf S 13 (upd (S.2.1 13) l1.toNatClampNeg 0)) fun S10 => elet (l1 + Int32.ofInt (1)) fun v11 => fr_readText_b24 n S10 v11)
set_option maxHeartbeats 4000000 in
set_option maxRecDepth 100000 in
theorem tr_readText_b24 {p : Program} {l : Launch} {e : Env} {s : State} {m : MethodId} {args : Array Value} {below : List Frame} {meth : Method} {c : Code} {Q : State → Prop} {D : va_G} {A : Nat → Prop} {cI cJ cZ : ClassId} {ad : Nat → Nat} {S1 : MS} (E : mE p c cX12_readText s m args (Cond.code yX12_readText cX12_readText 2 none :: wsM) D cI cJ cZ) (hA : ∀ q : Nat, s.heap.size ≤ q → A q) (hR : sR s) (hml : c.maxLocals = 2) {h0 : Nat} (hA0 : ∀ a : Nat, A a → h0 ≤ a) (hT : sAll h0 s) (kr116 : ∀ (H : Heap) (locs : List Loc) (ls : Array Slot), mG D cI cJ cZ ad A s.heap H locs S1 → W p l e { frames := 10, cells := 0, slots := 0, locals := 195 } s m args below meth c H locs 0 0 Q (F0 m 116 ls [])) : ∀ n : Nat, ∀ (S : MS) (H : Heap) (locs : List Loc) (ls : Array Slot) (l1 : Int32), fr_readText_b24 n S l1 = some S1 → mG D cI cJ cZ ad A s.heap H locs S → lv_has ls 2 [(0, .ref (ad 0)), (1, .int l1)] → W p l e { frames := 10, cells := 0, slots := 0, locals := 195 } s m args below meth c H locs 0 0 Q (F0 m 24 ls []) := by
  have hx := E.1
  have hb := E.2.1
  have hts := E.2.2.1
  have hown := E.2.2.2.1
  have hK := E.2.2.2.2.1
  intro n
  induction n with
  | zero =>
    intro S H locs ls l1 h
    have h : (none : Option (MS)) = some S1 := h
    cases h
  | succ n ih =>
    intro S H locs ls l1 h G hl
    unfold fr_readText_b24 at h
    refine lv_iload_n hx hb dX12_readText_24 rfl (lv_at hl 1 rfl) ?_
    refine lv_sipush (v := 2455) hx hb dX12_readText_25 (by decide) ?_
    refine lv_icmp_ge (tgt := 44) hx hb dX12_readText_28 (by decide) (fun c2 => ?_) (fun c2 => ?_)
    · have h := oif_pos c2 h
      refine lv_aload_n hx hb dX12_readText_44 rfl (lv_at hl 0 rfl) ?_
      obtain ⟨S3, eS3, h⟩ := obind_some h
      refine m_callv (As := []) (rest := []) E G hA hR hml (tr_nextToken l D cI cJ cZ ad S eS3) (cwV 0 hts (gmV qM_111 qM_112 qM_113 qM_35 qM_45) rfl rfl rfl (by decide +kernel) ⟨Nat.le_of_ble_eq_true rfl, Nat.le_of_ble_eq_true rfl⟩) rfl hl.1 rfl (lv_room (Nat.le_of_ble_eq_true rfl)) dX12_readText_45 ⟨Nat.zero_le _, Nat.zero_le _⟩ (fun S5 H locs hq G => ?_)
      rw [hq] at G
      clear hq eS3
      refine lv_aload_n hx hb dX12_readText_48 rfl (lv_at hl 0 rfl) ?_
      obtain ⟨S6, eS6, h⟩ := obind_some h
      refine m_callvX (As := []) (rest := []) E G hA hR hml (tr_readFirst l D cI cJ cZ ad S3 h0 eS6) (cwV 0 hts (gmV qM_186 qM_187 qM_188 qM_35 qM_137) rfl rfl rfl (by decide +kernel) ⟨Nat.le_of_ble_eq_true rfl, Nat.le_of_ble_eq_true rfl⟩) rfl hl.1 rfl (lv_room (Nat.le_of_ble_eq_true rfl)) dX12_readText_49 ⟨Nat.zero_le _, Nat.zero_le _⟩ (xT0.blind) (xT0.go hT hA0 hA G) (fun S8 H locs hq G => ?_)
      rw [hq] at G
      clear hq eS6
      have hl := lv_sub hl [0] rfl
      exact tr_readText_b52 E hA hR hml hA0 hT kr116 _ _ _ _ _ h G hl
    · have h := oif_neg c2 h
      refine lv_aload_n hx hb dX12_readText_31 rfl (lv_at hl 0 rfl) ?_
      refine m_get E G 13 (v := .ref (ad 13)) (by decide) (.tail _ qM_10) rfl dX12_readText_32 rfl ?_
      refine lv_iload_n hx hb dX12_readText_35 rfl (lv_at hl 1 rfl) ?_
      refine lv_iconst (v := 0) hx hb dX12_readText_36 (by decide) ?_
      obtain ⟨g9, h⟩ := oif_some h
      refine m_iast E G 13 5 (k := l1.toNatClampNeg) (v := 0) rfl (fun _ => rfl) (inb_k g9).1 (inb_k g9).2 (by decide) dX12_readText_37 (fun H locs G => ?_)
      obtain ⟨S10, eS10, h⟩ := elet_some h
      rw [← eS10] at G
      clear eS10
      obtain ⟨v11, ev11, h⟩ := elet_some h
      refine lv_iinc (v := v11) (lv' := [(1, .int v11), (0, .ref (ad 0))]) hx hb dX12_readText_38 hl (k := 1) rfl ev11.symm (by decide) rfl (fun ls hl => ?_)
      refine lv_goto (tgt := 24) hx hb dX12_readText_41 (by decide) ?_
      have hl := lv_sub hl [1, 0] rfl
      exact ih _ _ _ _ _ h G hl
def fr_readText_b2  : Nat → MS → Int32 → Option (MS)
  | 0, _, _ => none
  | n + 1, S, l1 => if 131 ≤ l1 then (fr_readText_b24 16384 S 0) else (oif (inb l1 131 = true) <| elet (mf S 11 (upd (S.2.1 11) l1.toNatClampNeg 0)) fun S4 => elet (l1 + Int32.ofInt (1)) fun v5 => fr_readText_b2 n S4 v5)
set_option maxHeartbeats 4000000 in
set_option maxRecDepth 100000 in
theorem tr_readText_b2 {p : Program} {l : Launch} {e : Env} {s : State} {m : MethodId} {args : Array Value} {below : List Frame} {meth : Method} {c : Code} {Q : State → Prop} {D : va_G} {A : Nat → Prop} {cI cJ cZ : ClassId} {ad : Nat → Nat} {S1 : MS} (E : mE p c cX12_readText s m args (Cond.code yX12_readText cX12_readText 2 none :: wsM) D cI cJ cZ) (hA : ∀ q : Nat, s.heap.size ≤ q → A q) (hR : sR s) (hml : c.maxLocals = 2) {h0 : Nat} (hA0 : ∀ a : Nat, A a → h0 ≤ a) (hT : sAll h0 s) (kr116 : ∀ (H : Heap) (locs : List Loc) (ls : Array Slot), mG D cI cJ cZ ad A s.heap H locs S1 → W p l e { frames := 10, cells := 0, slots := 0, locals := 195 } s m args below meth c H locs 0 0 Q (F0 m 116 ls [])) : ∀ n : Nat, ∀ (S : MS) (H : Heap) (locs : List Loc) (ls : Array Slot) (l1 : Int32), fr_readText_b2 n S l1 = some S1 → mG D cI cJ cZ ad A s.heap H locs S → lv_has ls 2 [(0, .ref (ad 0)), (1, .int l1)] → W p l e { frames := 10, cells := 0, slots := 0, locals := 195 } s m args below meth c H locs 0 0 Q (F0 m 2 ls []) := by
  have hx := E.1
  have hb := E.2.1
  have hts := E.2.2.1
  have hown := E.2.2.2.1
  have hK := E.2.2.2.2.1
  intro n
  induction n with
  | zero =>
    intro S H locs ls l1 h
    have h : (none : Option (MS)) = some S1 := h
    cases h
  | succ n ih =>
    intro S H locs ls l1 h G hl
    unfold fr_readText_b2 at h
    refine lv_iload_n hx hb dX12_readText_2 rfl (lv_at hl 1 rfl) ?_
    refine lv_sipush (v := 131) hx hb dX12_readText_3 (by decide) ?_
    refine lv_icmp_ge (tgt := 22) hx hb dX12_readText_6 (by decide) (fun c2 => ?_) (fun c2 => ?_)
    · have h := oif_pos c2 h
      refine lv_iconst (v := 0) hx hb dX12_readText_22 (by decide) ?_
      refine lv_istore_n (lv' := [(1, .int 0), (0, .ref (ad 0))]) hx hb dX12_readText_23 rfl hl (by decide) rfl (fun ls hl => ?_)
      have hl := lv_sub hl [1, 0] rfl
      exact tr_readText_b24 E hA hR hml hA0 hT kr116 _ _ _ _ _ _ h G hl
    · have h := oif_neg c2 h
      refine lv_aload_n hx hb dX12_readText_9 rfl (lv_at hl 0 rfl) ?_
      refine m_get E G 11 (v := .ref (ad 11)) (by decide) (.tail _ qM_8) rfl dX12_readText_10 rfl ?_
      refine lv_iload_n hx hb dX12_readText_13 rfl (lv_at hl 1 rfl) ?_
      refine lv_iconst (v := 0) hx hb dX12_readText_14 (by decide) ?_
      obtain ⟨g3, h⟩ := oif_some h
      refine m_iast E G 11 3 (k := l1.toNatClampNeg) (v := 0) rfl (fun _ => rfl) (inb_k g3).1 (inb_k g3).2 (by decide) dX12_readText_15 (fun H locs G => ?_)
      obtain ⟨S4, eS4, h⟩ := elet_some h
      rw [← eS4] at G
      clear eS4
      obtain ⟨v5, ev5, h⟩ := elet_some h
      refine lv_iinc (v := v5) (lv' := [(1, .int v5), (0, .ref (ad 0))]) hx hb dX12_readText_16 hl (k := 1) rfl ev5.symm (by decide) rfl (fun ls hl => ?_)
      refine lv_goto (tgt := 2) hx hb dX12_readText_19 (by decide) ?_
      have hl := lv_sub hl [1, 0] rfl
      exact ih _ _ _ _ _ h G hl
def fr_readText (S : MS)  : Option (MS) := fr_readText_b2 16384 S 0
set_option maxHeartbeats 4000000 in
set_option maxRecDepth 100000 in
theorem tr_readText (l : Launch) (D : va_G) (cI cJ cZ : ClassId) (ad : Nat → Nat) (S : MS) (h0 : Nat)  {S1 : MS} (h : fr_readText S = some S1) : mCvX l yX12_readText (Cond.code yX12_readText cX12_readText 2 none :: wsM) 10 195 D cI cJ cZ ad S [] (xT0 cI cJ cZ h0 ad S) (fun S9 => S9 = S1) := by
  intro sz
  refine Met.ofW (cc := cX12_readText) (maxL := 2) (ret := none) (by decide) rfl ?_
  intro p e s m args below meth c s₁ B hml hv
  obtain ⟨rfl, ⟨hsz, hP, hK, hD0, hR⟩, hA1, hT⟩ := hv
  have hx := B.exec
  have hb := B.bytes
  have hr := B.returns
  have hts := atoms_spec (ws := (Cond.code yX12_readText cX12_readText 2 none :: wsM)) B.pre
  have hown : s.vm.findClass RX12 = some m.cls := findClass_of_methodNamed B.named
  have hlocks := B.notSynchronized
  subst hsz
  have hD := hD0.self (sz := s.heap.size)
  generalize hAe : va_A (MW cI cJ cZ ad S) s.heap.size = A at hD hA1 ⊢
  have hA : ∀ q : Nat, s.heap.size ≤ q → A q := fun q h => by rw [← hAe]; exact Or.inr h
  have G : mG D cI cJ cZ ad A s.heap s.heap [] S := ⟨hP, hD, va_S.rf⟩
  have E : mE p c cX12_readText s m ([.ref (ad 0)] : List Value).toArray (Cond.code yX12_readText cX12_readText 2 none :: wsM) D cI cJ cZ := ⟨hx, hb, hts, hown, hK, fun w h => .tail _ (iM_x h)⟩
  have hA0 : ∀ a : Nat, A a → h0 ≤ a := hA1
  have hl := lv_entry ([.ref (ad 0)]) (n := 2) (Nat.le_of_ble_eq_true rfl)
  rw [lg_entry_eq]
  generalize (lg_sl ([.ref (ad 0)]) ++ List.replicate (2 - (lg_sl ([.ref (ad 0)])).length) Slot.unset).toArray = ls at hl ⊢
  have hl : lv_has ls 2 [(0, .ref (ad 0))] := hl
  unfold fr_readText at h
  refine lv_iconst (v := 0) hx hb dX12_readText_0 (by decide) ?_
  refine lv_istore_n (lv' := [(1, .int 0), (0, .ref (ad 0))]) hx hb dX12_readText_1 rfl hl (by decide) rfl (fun ls hl => ?_)
  have hl := lv_sub hl [1, 0] rfl
  exact tr_readText_b2 E hA hR hml hA0 hT (fun H locs ls G => W.vret hx hb hr (fun t ht hW => ⟨⟨S1, rfl, rfl, ⟨by rw [ht]; exact G.1, va_K.moved hW.alike hK, G.2.1⟩⟩, G.2.2.F ht⟩) G.2.2.2.2 dX12_readText_116) _ _ _ _ _ _ h G hl
def fr_copy_13_12_b3  : Nat → MS → Int32 → Int32 → Int32 → Option (MS)
  | 0, _, _, _, _ => none
  | n + 1, S, l1, l3, l4 => if 2455 ≤ l4 then (some S) else (elet (l3 + l4) fun v3 => elet (l1 + l4) fun v4 => oif (inb v4 2455 = true) <| elet (S.2.1 13 v4.toNatClampNeg) fun v6 => oif (inb v3 2455 = true) <| elet (mf S 12 (upd (S.2.1 12) v3.toNatClampNeg v6)) fun S8 => elet (l4 + Int32.ofInt (1)) fun v9 => fr_copy_13_12_b3 n S8 l1 l3 v9)
set_option maxHeartbeats 4000000 in
set_option maxRecDepth 100000 in
theorem tr_copy_13_12_b3 {p : Program} {l : Launch} {e : Env} {s : State} {m : MethodId} {args : Array Value} {below : List Frame} {meth : Method} {c : Code} {Q : State → Prop} {D : va_G} {A : Nat → Prop} {H0 : Heap} {cI cJ cZ : ClassId} {ad : Nat → Nat} {S1 : MS} (E : mE p c cX12_copy s m args (Cond.code yX12_copy cX12_copy 5 none :: wsM) D cI cJ cZ) (hA : ∀ q : Nat, H0.size ≤ q → A q) (hR : sR s) (hml : c.maxLocals = 5) (kr29 : ∀ (H : Heap) (locs : List Loc) (ls : Array Slot), mG D cI cJ cZ ad A H0 H locs S1 → W p l e { frames := 1, cells := 0, slots := 0, locals := 0 } s m args below meth c H locs 0 0 Q (F0 m 29 ls [])) : ∀ n : Nat, ∀ (S : MS) (H : Heap) (locs : List Loc) (ls : Array Slot) (l1 : Int32) (l3 : Int32) (l4 : Int32), fr_copy_13_12_b3 n S l1 l3 l4 = some S1 → mG D cI cJ cZ ad A H0 H locs S → lv_has ls 5 [(0, .ref (ad 13)), (1, .int l1), (2, .ref (ad 12)), (3, .int l3), (4, .int l4)] → W p l e { frames := 1, cells := 0, slots := 0, locals := 0 } s m args below meth c H locs 0 0 Q (F0 m 3 ls []) := by
  have hx := E.1
  have hb := E.2.1
  have hts := E.2.2.1
  have hown := E.2.2.2.1
  have hK := E.2.2.2.2.1
  intro n
  induction n with
  | zero =>
    intro S H locs ls l1 l3 l4 h
    have h : (none : Option (MS)) = some S1 := h
    cases h
  | succ n ih =>
    intro S H locs ls l1 l3 l4 h G hl
    unfold fr_copy_13_12_b3 at h
    refine lv_iload hx hb dX12_copy_3 (lv_at hl 4 rfl) ?_
    refine lv_sipush (v := 2455) hx hb dX12_copy_5 (by decide) ?_
    refine lv_icmp_ge (tgt := 29) hx hb dX12_copy_8 (by decide) (fun c2 => ?_) (fun c2 => ?_)
    · have h := oif_pos c2 h
      rw [osome1 h] at G
      exact kr29 _ _ _ G
    · have h := oif_neg c2 h
      refine lv_aload_n hx hb dX12_copy_11 rfl (lv_at hl 2 rfl) ?_
      refine lv_iload_n hx hb dX12_copy_12 rfl (lv_at hl 3 rfl) ?_
      refine lv_iload hx hb dX12_copy_13 (lv_at hl 4 rfl) ?_
      refine lv_iadd hx hb dX12_copy_15 ?_
      refine lv_topi (fun v3 ev3 => ?_)
      have h := elet_at ev3 h
      clear ev3
      refine lv_aload_n hx hb dX12_copy_16 rfl (lv_at hl 0 rfl) ?_
      refine lv_iload_n hx hb dX12_copy_17 rfl (lv_at hl 1 rfl) ?_
      refine lv_iload hx hb dX12_copy_18 (lv_at hl 4 rfl) ?_
      refine lv_iadd hx hb dX12_copy_20 ?_
      refine lv_topi (fun v4 ev4 => ?_)
      have h := elet_at ev4 h
      clear ev4
      obtain ⟨g5, h⟩ := oif_some h
      refine m_iald E G 13 5 (n := 2455) (k := v4.toNatClampNeg) rfl (inb_k g5).1 (inb_k g5).2 (by decide) dX12_copy_21 ?_
      refine lv_topi (fun v6 ev6 => ?_)
      have h := elet_at ev6 h
      clear ev6
      obtain ⟨g7, h⟩ := oif_some h
      refine m_iast E G 12 4 (k := v3.toNatClampNeg) (v := v6) rfl (fun _ => rfl) (inb_k g7).1 (inb_k g7).2 (by decide) dX12_copy_22 (fun H locs G => ?_)
      obtain ⟨S8, eS8, h⟩ := elet_some h
      rw [← eS8] at G
      clear eS8
      obtain ⟨v9, ev9, h⟩ := elet_some h
      refine lv_iinc (v := v9) (lv' := [(4, .int v9), (0, .ref (ad 13)), (1, .int l1), (2, .ref (ad 12)), (3, .int l3)]) hx hb dX12_copy_23 hl (k := 4) rfl ev9.symm (by decide) rfl (fun ls hl => ?_)
      refine lv_goto (tgt := 3) hx hb dX12_copy_26 (by decide) ?_
      have hl := lv_sub hl [1, 2, 3, 4, 0] rfl
      exact ih _ _ _ _ _ _ _ h G hl
def fr_copy_13_12 (S : MS) (a1 : Int32) (a3 : Int32) : Option (MS) := fr_copy_13_12_b3 16384 S a1 a3 0
set_option maxHeartbeats 4000000 in
set_option maxRecDepth 100000 in
theorem tr_copy_13_12 (l : Launch) (D : va_G) (cI cJ cZ : ClassId) (ad : Nat → Nat) (S : MS) (a1 : Int32) (a3 : Int32) {S1 : MS} (h : fr_copy_13_12 S a1 a3 = some S1) : mCs l yX12_copy (Cond.code yX12_copy cX12_copy 5 none :: wsM) 1 0 D cI cJ cZ ad S [.ref (ad 13), .int a1, .ref (ad 12), .int a3] (fun S9 => S9 = S1) := by
  intro sz
  refine Met.ofW (cc := cX12_copy) (maxL := 5) (ret := none) (by decide) rfl ?_
  intro p e s m args below meth c s₁ B hml hv
  obtain ⟨rfl, hsz, hP, hK, hD0, hR⟩ := hv
  have hx := B.exec
  have hb := B.bytes
  have hr := B.returns
  have hts := atoms_spec (ws := (Cond.code yX12_copy cX12_copy 5 none :: wsM)) B.pre
  have hown : s.vm.findClass RX12 = some m.cls := findClass_of_methodNamed B.named
  have hlocks := B.notSynchronized
  subst hsz
  have hD := hD0.self (sz := s.heap.size)
  generalize hAe : va_A (MW cI cJ cZ ad S) s.heap.size = A at hD ⊢
  have hA : ∀ q : Nat, s.heap.size ≤ q → A q := fun q h => by rw [← hAe]; exact Or.inr h
  have G : mG D cI cJ cZ ad A s.heap s.heap [] S := ⟨hP, hD, va_S.rf⟩
  have E : mE p c cX12_copy s m ([.ref (ad 13), .int a1, .ref (ad 12), .int a3] : List Value).toArray (Cond.code yX12_copy cX12_copy 5 none :: wsM) D cI cJ cZ := ⟨hx, hb, hts, hown, hK, fun w h => .tail _ (iM_x h)⟩
  have hl := lv_entry ([.ref (ad 13), .int a1, .ref (ad 12), .int a3]) (n := 5) (Nat.le_of_ble_eq_true rfl)
  rw [lg_entry_eq]
  generalize (lg_sl ([.ref (ad 13), .int a1, .ref (ad 12), .int a3]) ++ List.replicate (5 - (lg_sl ([.ref (ad 13), .int a1, .ref (ad 12), .int a3])).length) Slot.unset).toArray = ls at hl ⊢
  have hl : lv_has ls 5 [(0, .ref (ad 13)), (1, .int a1), (2, .ref (ad 12)), (3, .int a3)] := hl
  unfold fr_copy_13_12 at h
  refine lv_iconst (v := 0) hx hb dX12_copy_0 (by decide) ?_
  refine lv_istore (lv' := [(4, .int 0), (0, .ref (ad 13)), (1, .int a1), (2, .ref (ad 12)), (3, .int a3)]) hx hb dX12_copy_1 hl (by decide) rfl (fun ls hl => ?_)
  have hl := lv_sub hl [1, 2, 3, 4, 0] rfl
  exact tr_copy_13_12_b3 E hA hR hml (fun H locs ls G => W.vret hx hb hr (fun t ht hW => ⟨⟨S1, rfl, rfl, ⟨by rw [ht]; exact G.1, va_K.moved hW.alike hK, G.2.1⟩⟩, G.2.2.F ht⟩) G.2.2.2.2 dX12_copy_29) _ _ _ _ _ _ _ _ h G hl
def fr_cellCount (S : MS)  : Option (Int32 × MS) := elet (S.2.1 10 9) fun v2 => elet (S.2.1 10 10) fun v3 => elet (v2 * v3) fun v4 => some (v4, S)
set_option maxHeartbeats 4000000 in
set_option maxRecDepth 100000 in
theorem tr_cellCount (l : Launch) (D : va_G) (cI cJ cZ : ClassId) (ad : Nat → Nat) (S : MS)  {r1 : Int32} {S1 : MS} (h : fr_cellCount S = some (r1, S1)) : mCi l yX12_cellCount (Cond.code yX12_cellCount cX12_cellCount 1 (some .int) :: wsM) 1 0 D cI cJ cZ ad S [] (fun r S9 => r = r1 ∧ S9 = S1) := by
  intro sz
  refine Met.ofW (cc := cX12_cellCount) (maxL := 1) (ret := (some .int)) (by decide) rfl ?_
  intro p e s m args below meth c s₁ B hml hv
  obtain ⟨rfl, hsz, hP, hK, hD0, hR⟩ := hv
  have hx := B.exec
  have hb := B.bytes
  have hr := B.returns
  have hts := atoms_spec (ws := (Cond.code yX12_cellCount cX12_cellCount 1 (some .int) :: wsM)) B.pre
  have hown : s.vm.findClass RX12 = some m.cls := findClass_of_methodNamed B.named
  have hlocks := B.notSynchronized
  subst hsz
  have hD := hD0.self (sz := s.heap.size)
  generalize hAe : va_A (MW cI cJ cZ ad S) s.heap.size = A at hD ⊢
  have hA : ∀ q : Nat, s.heap.size ≤ q → A q := fun q h => by rw [← hAe]; exact Or.inr h
  have G : mG D cI cJ cZ ad A s.heap s.heap [] S := ⟨hP, hD, va_S.rf⟩
  have E : mE p c cX12_cellCount s m ([.ref (ad 0)] : List Value).toArray (Cond.code yX12_cellCount cX12_cellCount 1 (some .int) :: wsM) D cI cJ cZ := ⟨hx, hb, hts, hown, hK, fun w h => .tail _ (iM_x h)⟩
  have hl := lv_entry ([.ref (ad 0)]) (n := 1) (Nat.le_of_ble_eq_true rfl)
  rw [lg_entry_eq]
  generalize (lg_sl ([.ref (ad 0)]) ++ List.replicate (1 - (lg_sl ([.ref (ad 0)])).length) Slot.unset).toArray = ls at hl ⊢
  have hl : lv_has ls 1 [(0, .ref (ad 0))] := hl
  unfold fr_cellCount at h
  refine lv_aload_n hx hb dX12_cellCount_0 rfl (lv_at hl 0 rfl) ?_
  refine m_get E G 10 (v := .ref (ad 10)) (by decide) (.tail _ qM_7) rfl dX12_cellCount_1 rfl ?_
  refine lv_bipush (v := 9) hx hb dX12_cellCount_4 (by decide) ?_
  refine m_iald E G 10 2 (n := 131) (k := 9) rfl rfl (by decide) (by decide) dX12_cellCount_6 ?_
  refine lv_topi (fun v2 ev2 => ?_)
  have h := elet_at ev2 h
  clear ev2
  refine lv_aload_n hx hb dX12_cellCount_7 rfl (lv_at hl 0 rfl) ?_
  refine m_get E G 10 (v := .ref (ad 10)) (by decide) (.tail _ qM_7) rfl dX12_cellCount_8 rfl ?_
  refine lv_bipush (v := 10) hx hb dX12_cellCount_11 (by decide) ?_
  refine m_iald E G 10 2 (n := 131) (k := 10) rfl rfl (by decide) (by decide) dX12_cellCount_13 ?_
  refine lv_topi (fun v3 ev3 => ?_)
  have h := elet_at ev3 h
  clear ev3
  refine lv_imul hx hb dX12_cellCount_14 ?_
  refine lv_topi (fun v4 ev4 => ?_)
  have h := elet_at ev4 h
  clear ev4
  exact W.iret (v := v4) hx hb hr (fun t ht hW => ⟨⟨v4, S, rfl, osome2 h, ⟨by rw [ht]; exact G.1, va_K.moved hW.alike hK, G.2.1⟩⟩, G.2.2.F ht⟩) G.2.2.2.2 dX12_cellCount_15
def fr_centre_b57  (S : MS) (s0 : Int32) : Option (Int32 × MS) := some (s0, S)
set_option maxHeartbeats 4000000 in
set_option maxRecDepth 100000 in
theorem tr_centre_b57 {p : Program} {l : Launch} {e : Env} {s : State} {m : MethodId} {args : Array Value} {below : List Frame} {meth : Method} {c : Code} {Q : State → Prop} {D : va_G} {A : Nat → Prop} {H0 : Heap} {cI cJ cZ : ClassId} {ad : Nat → Nat} {r1 : Int32} {S1 : MS} (E : mE p c cX12_centre s m args (Cond.code yX12_centre cX12_centre 3 (some .int) :: wsM) D cI cJ cZ) (hA : ∀ q : Nat, H0.size ≤ q → A q) (hR : sR s) (hml : c.maxLocals = 3) (kr57 : ∀ (H : Heap) (locs : List Loc) (ls : Array Slot), mG D cI cJ cZ ad A H0 H locs S1 → W p l e { frames := 1, cells := 0, slots := 0, locals := 0 } s m args below meth c H locs 0 0 Q (F0 m 57 ls [.int r1])) : ∀ (S : MS) (H : Heap) (locs : List Loc) (ls : Array Slot) (s0 : Int32), fr_centre_b57 S s0 = some (r1, S1) → mG D cI cJ cZ ad A H0 H locs S → lv_has ls 3 [] → W p l e { frames := 1, cells := 0, slots := 0, locals := 0 } s m args below meth c H locs 0 0 Q (F0 m 57 ls [.int s0]) := by
  have hx := E.1
  have hb := E.2.1
  have hts := E.2.2.1
  have hown := E.2.2.2.1
  have hK := E.2.2.2.2.1
  intro S H locs ls s0 h G hl
  unfold fr_centre_b57 at h
  rw [(osome2 h).2] at G
  refine lv_to (osome2 h).1 ?_
  exact kr57 _ _ _ G
def fr_centre (S : MS) (a0 : Int32) (a1 : Int32) : Option (Int32 × MS) := if a1 = 0 then (elet (S.2.1 10 6) fun v3 => elet (S.2.1 10 8) fun v4 => elet (S.2.1 10 9) fun v5 => oif (¬ v5 = 0) <| elet (a0 - a0 / v5 * v5) fun v7 => elet (v4 * v7) fun v8 => elet (v3 + v8) fun v9 => fr_centre_b57 S v9) else (elet (S.2.1 10 7) fun v10 => elet (S.2.1 10 8) fun v11 => elet (S.2.1 10 9) fun v12 => oif (¬ v12 = 0) <| elet (a0 / v12) fun v14 => elet (v11 * v14) fun v15 => elet (v10 + v15) fun v16 => fr_centre_b57 S v16)
set_option maxHeartbeats 4000000 in
set_option maxRecDepth 100000 in
theorem tr_centre (l : Launch) (D : va_G) (cI cJ cZ : ClassId) (ad : Nat → Nat) (S : MS) (a0 : Int32) (a1 : Int32) {r1 : Int32} {S1 : MS} (h : fr_centre S a0 a1 = some (r1, S1)) : mCi l yX12_centre (Cond.code yX12_centre cX12_centre 3 (some .int) :: wsM) 1 0 D cI cJ cZ ad S [.int a0, .int a1] (fun r S9 => r = r1 ∧ S9 = S1) := by
  intro sz
  refine Met.ofW (cc := cX12_centre) (maxL := 3) (ret := (some .int)) (by decide) rfl ?_
  intro p e s m args below meth c s₁ B hml hv
  obtain ⟨rfl, hsz, hP, hK, hD0, hR⟩ := hv
  have hx := B.exec
  have hb := B.bytes
  have hr := B.returns
  have hts := atoms_spec (ws := (Cond.code yX12_centre cX12_centre 3 (some .int) :: wsM)) B.pre
  have hown : s.vm.findClass RX12 = some m.cls := findClass_of_methodNamed B.named
  have hlocks := B.notSynchronized
  subst hsz
  have hD := hD0.self (sz := s.heap.size)
  generalize hAe : va_A (MW cI cJ cZ ad S) s.heap.size = A at hD ⊢
  have hA : ∀ q : Nat, s.heap.size ≤ q → A q := fun q h => by rw [← hAe]; exact Or.inr h
  have G : mG D cI cJ cZ ad A s.heap s.heap [] S := ⟨hP, hD, va_S.rf⟩
  have E : mE p c cX12_centre s m ([.ref (ad 0), .int a0, .int a1] : List Value).toArray (Cond.code yX12_centre cX12_centre 3 (some .int) :: wsM) D cI cJ cZ := ⟨hx, hb, hts, hown, hK, fun w h => .tail _ (iM_x h)⟩
  have hl := lv_entry ([.ref (ad 0), .int a0, .int a1]) (n := 3) (Nat.le_of_ble_eq_true rfl)
  rw [lg_entry_eq]
  generalize (lg_sl ([.ref (ad 0), .int a0, .int a1]) ++ List.replicate (3 - (lg_sl ([.ref (ad 0), .int a0, .int a1])).length) Slot.unset).toArray = ls at hl ⊢
  have hl : lv_has ls 3 [(0, .ref (ad 0)), (1, .int a0), (2, .int a1)] := hl
  unfold fr_centre at h
  refine lv_iload_n hx hb dX12_centre_0 rfl (lv_at hl 2 rfl) ?_
  refine lv_if_ne (tgt := 32) hx hb dX12_centre_1 (by decide) (fun c2 => ?_) (fun c2 => ?_)
  · have h := oif_neg c2 h
    refine lv_aload_n hx hb dX12_centre_32 rfl (lv_at hl 0 rfl) ?_
    refine m_get E G 10 (v := .ref (ad 10)) (by decide) (.tail _ qM_7) rfl dX12_centre_33 rfl ?_
    refine lv_bipush (v := 7) hx hb dX12_centre_36 (by decide) ?_
    refine m_iald E G 10 2 (n := 131) (k := 7) rfl rfl (by decide) (by decide) dX12_centre_38 ?_
    refine lv_topi (fun v10 ev10 => ?_)
    have h := elet_at ev10 h
    clear ev10
    refine lv_aload_n hx hb dX12_centre_39 rfl (lv_at hl 0 rfl) ?_
    refine m_get E G 10 (v := .ref (ad 10)) (by decide) (.tail _ qM_7) rfl dX12_centre_40 rfl ?_
    refine lv_bipush (v := 8) hx hb dX12_centre_43 (by decide) ?_
    refine m_iald E G 10 2 (n := 131) (k := 8) rfl rfl (by decide) (by decide) dX12_centre_45 ?_
    refine lv_topi (fun v11 ev11 => ?_)
    have h := elet_at ev11 h
    clear ev11
    refine lv_iload_n hx hb dX12_centre_46 rfl (lv_at hl 1 rfl) ?_
    refine lv_aload_n hx hb dX12_centre_47 rfl (lv_at hl 0 rfl) ?_
    refine m_get E G 10 (v := .ref (ad 10)) (by decide) (.tail _ qM_7) rfl dX12_centre_48 rfl ?_
    refine lv_bipush (v := 9) hx hb dX12_centre_51 (by decide) ?_
    refine m_iald E G 10 2 (n := 131) (k := 9) rfl rfl (by decide) (by decide) dX12_centre_53 ?_
    refine lv_topi (fun v12 ev12 => ?_)
    have h := elet_at ev12 h
    clear ev12
    obtain ⟨g13, h⟩ := oif_some h
    refine lv_idiv hx hb dX12_centre_54 g13 ?_
    refine lv_topi (fun v14 ev14 => ?_)
    have h := elet_at ev14 h
    clear ev14
    refine lv_imul hx hb dX12_centre_55 ?_
    refine lv_topi (fun v15 ev15 => ?_)
    have h := elet_at ev15 h
    clear ev15
    refine lv_iadd hx hb dX12_centre_56 ?_
    refine lv_topi (fun v16 ev16 => ?_)
    have h := elet_at ev16 h
    clear ev16
    have hl := lv_sub hl [] rfl
    exact tr_centre_b57 E hA hR hml (fun H locs ls G => W.iret (v := r1) hx hb hr (fun t ht hW => ⟨⟨r1, S1, rfl, ⟨rfl, rfl⟩, ⟨by rw [ht]; exact G.1, va_K.moved hW.alike hK, G.2.1⟩⟩, G.2.2.F ht⟩) G.2.2.2.2 dX12_centre_57) _ _ _ _ _ h G hl
  · have h := oif_pos c2 h
    refine lv_aload_n hx hb dX12_centre_4 rfl (lv_at hl 0 rfl) ?_
    refine m_get E G 10 (v := .ref (ad 10)) (by decide) (.tail _ qM_7) rfl dX12_centre_5 rfl ?_
    refine lv_bipush (v := 6) hx hb dX12_centre_8 (by decide) ?_
    refine m_iald E G 10 2 (n := 131) (k := 6) rfl rfl (by decide) (by decide) dX12_centre_10 ?_
    refine lv_topi (fun v3 ev3 => ?_)
    have h := elet_at ev3 h
    clear ev3
    refine lv_aload_n hx hb dX12_centre_11 rfl (lv_at hl 0 rfl) ?_
    refine m_get E G 10 (v := .ref (ad 10)) (by decide) (.tail _ qM_7) rfl dX12_centre_12 rfl ?_
    refine lv_bipush (v := 8) hx hb dX12_centre_15 (by decide) ?_
    refine m_iald E G 10 2 (n := 131) (k := 8) rfl rfl (by decide) (by decide) dX12_centre_17 ?_
    refine lv_topi (fun v4 ev4 => ?_)
    have h := elet_at ev4 h
    clear ev4
    refine lv_iload_n hx hb dX12_centre_18 rfl (lv_at hl 1 rfl) ?_
    refine lv_aload_n hx hb dX12_centre_19 rfl (lv_at hl 0 rfl) ?_
    refine m_get E G 10 (v := .ref (ad 10)) (by decide) (.tail _ qM_7) rfl dX12_centre_20 rfl ?_
    refine lv_bipush (v := 9) hx hb dX12_centre_23 (by decide) ?_
    refine m_iald E G 10 2 (n := 131) (k := 9) rfl rfl (by decide) (by decide) dX12_centre_25 ?_
    refine lv_topi (fun v5 ev5 => ?_)
    have h := elet_at ev5 h
    clear ev5
    obtain ⟨g6, h⟩ := oif_some h
    refine lv_irem hx hb dX12_centre_26 g6 ?_
    refine lv_topi (fun v7 ev7 => ?_)
    have h := elet_at ev7 h
    clear ev7
    refine lv_imul hx hb dX12_centre_27 ?_
    refine lv_topi (fun v8 ev8 => ?_)
    have h := elet_at ev8 h
    clear ev8
    refine lv_iadd hx hb dX12_centre_28 ?_
    refine lv_topi (fun v9 ev9 => ?_)
    have h := elet_at ev9 h
    clear ev9
    refine lv_goto (tgt := 57) hx hb dX12_centre_29 (by decide) ?_
    have hl := lv_sub hl [] rfl
    exact tr_centre_b57 E hA hR hml (fun H locs ls G => W.iret (v := r1) hx hb hr (fun t ht hW => ⟨⟨r1, S1, rfl, ⟨rfl, rfl⟩, ⟨by rw [ht]; exact G.1, va_K.moved hW.alike hK, G.2.1⟩⟩, G.2.2.F ht⟩) G.2.2.2.2 dX12_centre_57) _ _ _ _ _ h G hl
def fr_root_b28 (k6 : Int32 → Int32 → Int32 → Option (Int32))  (l0 : Int32) (l1 : Int32) (l2 : Int32) : Option (Int32) := elet (l2 / 2) fun v2 => k6 l0 l1 v2
set_option maxHeartbeats 4000000 in
set_option maxRecDepth 100000 in
theorem tr_root_b28 {p : Program} {l : Launch} {e : Env} {s : State} {m : MethodId} {args : Array Value} {below : List Frame} {meth : Method} {c : Code} {Q : State → Prop} {r1 : Int32} (E : p.tables.exec = Jvm.exec ∧ c.code = cX12_root ∧ (∀ w ∈ (Cond.code yX12_root cX12_root 5 (some .int) :: wsM), w.before args s = true) ∧ s.vm.findClass RX12 = some m.cls) (hml : c.maxLocals = 5) (kr36 : ∀ (ls : Array Slot), W p l e { frames := 1, cells := 0, slots := 0, locals := 0 } s m args below meth c s.heap [] 0 0 Q (F0 m 36 ls [.int r1])) {k6 : Int32 → Int32 → Int32 → Option (Int32)} (hk6 : ∀ (ls : Array Slot) (l0 : Int32) (l1 : Int32) (l2 : Int32), k6 l0 l1 l2 = some r1 → lv_has ls 5 [(0, .int l0), (1, .int l1), (2, .int l2)] → W p l e { frames := 1, cells := 0, slots := 0, locals := 0 } s m args below meth c s.heap [] 0 0 Q (F0 m 6 ls [])) : ∀ (ls : Array Slot) (l0 : Int32) (l1 : Int32) (l2 : Int32), fr_root_b28 k6 l0 l1 l2 = some r1 → lv_has ls 5 [(0, .int l0), (1, .int l1), (2, .int l2)] → W p l e { frames := 1, cells := 0, slots := 0, locals := 0 } s m args below meth c s.heap [] 0 0 Q (F0 m 28 ls []) := by
  have hx := E.1
  have hb := E.2.1
  have hts := E.2.2.1
  have hown := E.2.2.2
  intro ls l0 l1 l2 h hl
  unfold fr_root_b28 at h
  refine lv_iload_n hx hb dX12_root_28 rfl (lv_at hl 2 rfl) ?_
  refine lv_iconst (v := 2) hx hb dX12_root_29 (by decide) ?_
  refine lv_idiv hx hb dX12_root_30 (by decide) ?_
  refine lv_topi (fun v2 ev2 => ?_)
  have h := elet_at ev2 h
  clear ev2
  refine lv_istore_n (lv' := [(2, .int v2), (0, .int l0), (1, .int l1)]) hx hb dX12_root_31 rfl hl (by decide) rfl (fun ls hl => ?_)
  refine lv_goto (tgt := 6) hx hb dX12_root_32 (by decide) ?_
  have hl := lv_sub hl [1, 2, 0] rfl
  exact hk6 _ _ _ _ h hl
def fr_root_b6  : Nat → Int32 → Int32 → Int32 → Option (Int32)
  | 0, _, _, _ => none
  | n + 1, l0, l1, l2 => if l2 ≤ 0 then (some l1) else (elet (l1 + l2) fun v3 => elet (v3.toInt64) fun v4 => elet (v4 * v4) fun v5 => elet (l0.toInt64) fun v6 => elet (lg_cmp v5 v6) fun v7 => if 0 < v7 then (fr_root_b28 (fr_root_b6 n) l0 l1 l2) else (elet (l1 + l2) fun v9 => fr_root_b28 (fr_root_b6 n) l0 v9 l2))
set_option maxHeartbeats 4000000 in
set_option maxRecDepth 100000 in
theorem tr_root_b6 {p : Program} {l : Launch} {e : Env} {s : State} {m : MethodId} {args : Array Value} {below : List Frame} {meth : Method} {c : Code} {Q : State → Prop} {r1 : Int32} (E : p.tables.exec = Jvm.exec ∧ c.code = cX12_root ∧ (∀ w ∈ (Cond.code yX12_root cX12_root 5 (some .int) :: wsM), w.before args s = true) ∧ s.vm.findClass RX12 = some m.cls) (hml : c.maxLocals = 5) (kr36 : ∀ (ls : Array Slot), W p l e { frames := 1, cells := 0, slots := 0, locals := 0 } s m args below meth c s.heap [] 0 0 Q (F0 m 36 ls [.int r1])) : ∀ n : Nat, ∀ (ls : Array Slot) (l0 : Int32) (l1 : Int32) (l2 : Int32), fr_root_b6 n l0 l1 l2 = some r1 → lv_has ls 5 [(0, .int l0), (1, .int l1), (2, .int l2)] → W p l e { frames := 1, cells := 0, slots := 0, locals := 0 } s m args below meth c s.heap [] 0 0 Q (F0 m 6 ls []) := by
  have hx := E.1
  have hb := E.2.1
  have hts := E.2.2.1
  have hown := E.2.2.2
  intro n
  induction n with
  | zero =>
    intro ls l0 l1 l2 h
    have h : (none : Option (Int32)) = some r1 := h
    cases h
  | succ n ih =>
    intro ls l0 l1 l2 h hl
    unfold fr_root_b6 at h
    refine lv_iload_n hx hb dX12_root_6 rfl (lv_at hl 2 rfl) ?_
    refine lv_if_le (tgt := 35) hx hb dX12_root_7 (by decide) (fun c2 => ?_) (fun c2 => ?_)
    · have h := oif_pos c2 h
      refine lv_iload_n hx hb dX12_root_35 rfl (lv_at hl 1 rfl) ?_
      refine lv_to (osome1 h) ?_
      exact kr36 _
    · have h := oif_neg c2 h
      refine lv_iload_n hx hb dX12_root_10 rfl (lv_at hl 1 rfl) ?_
      refine lv_iload_n hx hb dX12_root_11 rfl (lv_at hl 2 rfl) ?_
      refine lv_iadd hx hb dX12_root_12 ?_
      refine lv_topi (fun v3 ev3 => ?_)
      have h := elet_at ev3 h
      clear ev3
      refine lv_i2l (v := v3.toInt64) hx hb dX12_root_13 rfl ?_
      refine lv_topl (fun v4 ev4 => ?_)
      have h := elet_at ev4 h
      clear ev4
      refine lv_lstore_n (lv' := [(3, .long v4), (0, .int l0), (1, .int l1), (2, .int l2)]) hx hb dX12_root_14 rfl hl (by decide) rfl (fun ls hl => ?_)
      refine lv_lload_n hx hb dX12_root_15 rfl (lv_at hl 0 rfl) ?_
      refine lv_lload_n hx hb dX12_root_16 rfl (lv_at hl 0 rfl) ?_
      refine lv_lmul hx hb dX12_root_17 ?_
      refine lv_topl (fun v5 ev5 => ?_)
      have h := elet_at ev5 h
      clear ev5
      refine lv_iload_n hx hb dX12_root_18 rfl (lv_at hl 1 rfl) ?_
      refine lv_i2l (v := l0.toInt64) hx hb dX12_root_19 rfl ?_
      refine lv_topl (fun v6 ev6 => ?_)
      have h := elet_at ev6 h
      clear ev6
      refine W.lcmp hx hb dX12_root_20 ?_
      refine lv_topi (fun v7 ev7 => ?_)
      have h := elet_at ev7 h
      clear ev7
      refine lv_if_gt (tgt := 28) hx hb dX12_root_21 (by decide) (fun c8 => ?_) (fun c8 => ?_)
      · have h := oif_pos c8 h
        have hl := lv_sub hl [1, 2, 3] rfl
        exact tr_root_b28 E hml kr36 ih _ _ _ _ h hl
      · have h := oif_neg c8 h
        refine lv_iload_n hx hb dX12_root_24 rfl (lv_at hl 2 rfl) ?_
        refine lv_iload_n hx hb dX12_root_25 rfl (lv_at hl 3 rfl) ?_
        refine lv_iadd hx hb dX12_root_26 ?_
        refine lv_topi (fun v9 ev9 => ?_)
        have h := elet_at ev9 h
        clear ev9
        refine lv_istore_n (lv' := [(1, .int v9), (3, .long v4), (0, .int l0), (2, .int l2)]) hx hb dX12_root_27 rfl hl (by decide) rfl (fun ls hl => ?_)
        have hl := lv_sub hl [2, 0, 3] rfl
        exact tr_root_b28 E hml kr36 ih _ _ _ _ h hl
def fr_root  (a0 : Int32) : Option (Int32) := fr_root_b6 16384 a0 0 32768
set_option maxHeartbeats 4000000 in
set_option maxRecDepth 100000 in
theorem tr_root (l : Launch) (a0 : Int32) {r1 : Int32} (h : fr_root a0 = some r1) : Met l yX12_root (Cond.code yX12_root cX12_root 5 (some .int) :: wsM) { frames := 1, cells := 0, slots := 0, locals := 0 } (va_Pc [.int a0] (fun _ => True)) (vp_Si (fun r => r = r1)) 0 0 (fun _ => False) := by
  refine Met.ofW (cc := cX12_root) (maxL := 5) (ret := (some .int)) (by decide) rfl ?_
  intro p e s m args below meth c s₁ B hml hv
  obtain ⟨rfl, -⟩ := hv
  have hx := B.exec
  have hb := B.bytes
  have hr := B.returns
  have hts := atoms_spec (ws := (Cond.code yX12_root cX12_root 5 (some .int) :: wsM)) B.pre
  have hown : s.vm.findClass RX12 = some m.cls := findClass_of_methodNamed B.named
  have hlocks := B.notSynchronized
  have E : p.tables.exec = Jvm.exec ∧ c.code = cX12_root ∧ (∀ w ∈ (Cond.code yX12_root cX12_root 5 (some .int) :: wsM), w.before ([.int a0] : List Value).toArray s = true) ∧ s.vm.findClass RX12 = some m.cls := ⟨hx, hb, hts, hown⟩
  have hl := lv_entry ([.int a0]) (n := 5) (Nat.le_of_ble_eq_true rfl)
  rw [lg_entry_eq]
  generalize (lg_sl ([.int a0]) ++ List.replicate (5 - (lg_sl ([.int a0])).length) Slot.unset).toArray = ls at hl ⊢
  have hl : lv_has ls 5 [(0, .int a0)] := hl
  unfold fr_root at h
  refine lv_iconst (v := 0) hx hb dX12_root_0 (by decide) ?_
  refine lv_istore_n (lv' := [(1, .int 0), (0, .int a0)]) hx hb dX12_root_1 rfl hl (by decide) rfl (fun ls hl => ?_)
  refine lv_ldcw (v := 32768) hx hb hown (hts (.constant RX12 258 (32768)) (.tail _ qM_219)) dX12_root_2 ?_
  refine lv_istore_n (lv' := [(2, .int 32768), (1, .int 0), (0, .int a0)]) hx hb dX12_root_5 rfl hl (by decide) rfl (fun ls hl => ?_)
  have hl := lv_sub hl [2, 1, 0] rfl
  exact tr_root_b6 E hml (fun ls => W.iret (v := r1) hx hb hr (fun t ht hW => ⟨r1, rfl, rfl, ht⟩) (fun _ h => absurd h List.not_mem_nil) dX12_root_36) _ _ _ _ _ h hl
def fr_delayFrom (S : MS) (a0 : Int32) (a1 : Int32) (a2 : Int32) : Option (Int32 × MS) := elet (11 + a0) fun v2 => oif (inb v2 131 = true) <| elet (S.2.1 10 v2.toNatClampNeg) fun v4 => elet (a1 - v4) fun v5 => elet (23 + a0) fun v6 => oif (inb v6 131 = true) <| elet (S.2.1 10 v6.toNatClampNeg) fun v8 => elet (a2 - v8) fun v9 => elet (S.2.1 10 0) fun v10 => elet (v5 * v5) fun v11 => elet (v9 * v9) fun v12 => elet (v11 + v12) fun v13 => elet (v10 * v10) fun v14 => elet (v13 + v14) fun v15 => obind (fr_root v15) fun r16 => elet (S.2.1 10 1) fun v18 => oif (¬ v18 = 0) <| elet (r16 / v18) fun v20 => elet (S.2.1 10 1) fun v21 => oif (¬ v21 = 0) <| elet (v10 / v21) fun v23 => elet (v20 - v23) fun v24 => some (v24, S)
set_option maxHeartbeats 4000000 in
set_option maxRecDepth 100000 in
theorem tr_delayFrom (l : Launch) (D : va_G) (cI cJ cZ : ClassId) (ad : Nat → Nat) (S : MS) (a0 : Int32) (a1 : Int32) (a2 : Int32) {r1 : Int32} {S1 : MS} (h : fr_delayFrom S a0 a1 a2 = some (r1, S1)) : mCi l yX12_delayFrom (Cond.code yX12_delayFrom cX12_delayFrom 7 (some .int) :: wsM) 2 24 D cI cJ cZ ad S [.int a0, .int a1, .int a2] (fun r S9 => r = r1 ∧ S9 = S1) := by
  intro sz
  refine Met.ofW (cc := cX12_delayFrom) (maxL := 7) (ret := (some .int)) (by decide) rfl ?_
  intro p e s m args below meth c s₁ B hml hv
  obtain ⟨rfl, hsz, hP, hK, hD0, hR⟩ := hv
  have hx := B.exec
  have hb := B.bytes
  have hr := B.returns
  have hts := atoms_spec (ws := (Cond.code yX12_delayFrom cX12_delayFrom 7 (some .int) :: wsM)) B.pre
  have hown : s.vm.findClass RX12 = some m.cls := findClass_of_methodNamed B.named
  have hlocks := B.notSynchronized
  subst hsz
  have hD := hD0.self (sz := s.heap.size)
  generalize hAe : va_A (MW cI cJ cZ ad S) s.heap.size = A at hD ⊢
  have hA : ∀ q : Nat, s.heap.size ≤ q → A q := fun q h => by rw [← hAe]; exact Or.inr h
  have G : mG D cI cJ cZ ad A s.heap s.heap [] S := ⟨hP, hD, va_S.rf⟩
  have E : mE p c cX12_delayFrom s m ([.ref (ad 0), .int a0, .int a1, .int a2] : List Value).toArray (Cond.code yX12_delayFrom cX12_delayFrom 7 (some .int) :: wsM) D cI cJ cZ := ⟨hx, hb, hts, hown, hK, fun w h => .tail _ (iM_x h)⟩
  have hl := lv_entry ([.ref (ad 0), .int a0, .int a1, .int a2]) (n := 7) (Nat.le_of_ble_eq_true rfl)
  rw [lg_entry_eq]
  generalize (lg_sl ([.ref (ad 0), .int a0, .int a1, .int a2]) ++ List.replicate (7 - (lg_sl ([.ref (ad 0), .int a0, .int a1, .int a2])).length) Slot.unset).toArray = ls at hl ⊢
  have hl : lv_has ls 7 [(0, .ref (ad 0)), (1, .int a0), (2, .int a1), (3, .int a2)] := hl
  unfold fr_delayFrom at h
  refine lv_iload_n hx hb dX12_delayFrom_0 rfl (lv_at hl 2 rfl) ?_
  refine lv_aload_n hx hb dX12_delayFrom_1 rfl (lv_at hl 0 rfl) ?_
  refine m_get E G 10 (v := .ref (ad 10)) (by decide) (.tail _ qM_7) rfl dX12_delayFrom_2 rfl ?_
  refine lv_bipush (v := 11) hx hb dX12_delayFrom_5 (by decide) ?_
  refine lv_iload_n hx hb dX12_delayFrom_7 rfl (lv_at hl 1 rfl) ?_
  refine lv_iadd hx hb dX12_delayFrom_8 ?_
  refine lv_topi (fun v2 ev2 => ?_)
  have h := elet_at ev2 h
  clear ev2
  obtain ⟨g3, h⟩ := oif_some h
  refine m_iald E G 10 2 (n := 131) (k := v2.toNatClampNeg) rfl (inb_k g3).1 (inb_k g3).2 (by decide) dX12_delayFrom_9 ?_
  refine lv_topi (fun v4 ev4 => ?_)
  have h := elet_at ev4 h
  clear ev4
  refine lv_isub hx hb dX12_delayFrom_10 ?_
  refine lv_topi (fun v5 ev5 => ?_)
  have h := elet_at ev5 h
  clear ev5
  refine lv_istore (lv' := [(4, .int v5), (0, .ref (ad 0)), (1, .int a0), (2, .int a1), (3, .int a2)]) hx hb dX12_delayFrom_11 hl (by decide) rfl (fun ls hl => ?_)
  refine lv_iload_n hx hb dX12_delayFrom_13 rfl (lv_at hl 4 rfl) ?_
  refine lv_aload_n hx hb dX12_delayFrom_14 rfl (lv_at hl 1 rfl) ?_
  refine m_get E G 10 (v := .ref (ad 10)) (by decide) (.tail _ qM_7) rfl dX12_delayFrom_15 rfl ?_
  refine lv_bipush (v := 23) hx hb dX12_delayFrom_18 (by decide) ?_
  refine lv_iload_n hx hb dX12_delayFrom_20 rfl (lv_at hl 2 rfl) ?_
  refine lv_iadd hx hb dX12_delayFrom_21 ?_
  refine lv_topi (fun v6 ev6 => ?_)
  have h := elet_at ev6 h
  clear ev6
  obtain ⟨g7, h⟩ := oif_some h
  refine m_iald E G 10 2 (n := 131) (k := v6.toNatClampNeg) rfl (inb_k g7).1 (inb_k g7).2 (by decide) dX12_delayFrom_22 ?_
  refine lv_topi (fun v8 ev8 => ?_)
  have h := elet_at ev8 h
  clear ev8
  refine lv_isub hx hb dX12_delayFrom_23 ?_
  refine lv_topi (fun v9 ev9 => ?_)
  have h := elet_at ev9 h
  clear ev9
  refine lv_istore (lv' := [(5, .int v9), (4, .int v5), (0, .ref (ad 0)), (1, .int a0), (2, .int a1), (3, .int a2)]) hx hb dX12_delayFrom_24 hl (by decide) rfl (fun ls hl => ?_)
  refine lv_aload_n hx hb dX12_delayFrom_26 rfl (lv_at hl 2 rfl) ?_
  refine m_get E G 10 (v := .ref (ad 10)) (by decide) (.tail _ qM_7) rfl dX12_delayFrom_27 rfl ?_
  refine lv_iconst (v := 0) hx hb dX12_delayFrom_30 (by decide) ?_
  refine m_iald E G 10 2 (n := 131) (k := 0) rfl rfl (by decide) (by decide) dX12_delayFrom_31 ?_
  refine lv_topi (fun v10 ev10 => ?_)
  have h := elet_at ev10 h
  clear ev10
  refine lv_istore (lv' := [(6, .int v10), (5, .int v9), (4, .int v5), (0, .ref (ad 0)), (1, .int a0), (2, .int a1), (3, .int a2)]) hx hb dX12_delayFrom_32 hl (by decide) rfl (fun ls hl => ?_)
  refine lv_iload hx hb dX12_delayFrom_34 (lv_at hl 2 rfl) ?_
  refine lv_iload hx hb dX12_delayFrom_36 (lv_at hl 2 rfl) ?_
  refine lv_imul hx hb dX12_delayFrom_38 ?_
  refine lv_topi (fun v11 ev11 => ?_)
  have h := elet_at ev11 h
  clear ev11
  refine lv_iload hx hb dX12_delayFrom_39 (lv_at hl 1 rfl) ?_
  refine lv_iload hx hb dX12_delayFrom_41 (lv_at hl 1 rfl) ?_
  refine lv_imul hx hb dX12_delayFrom_43 ?_
  refine lv_topi (fun v12 ev12 => ?_)
  have h := elet_at ev12 h
  clear ev12
  refine lv_iadd hx hb dX12_delayFrom_44 ?_
  refine lv_topi (fun v13 ev13 => ?_)
  have h := elet_at ev13 h
  clear ev13
  refine lv_iload hx hb dX12_delayFrom_45 (lv_at hl 0 rfl) ?_
  refine lv_iload hx hb dX12_delayFrom_47 (lv_at hl 0 rfl) ?_
  refine lv_imul hx hb dX12_delayFrom_49 ?_
  refine lv_topi (fun v14 ev14 => ?_)
  have h := elet_at ev14 h
  clear ev14
  refine lv_iadd hx hb dX12_delayFrom_50 ?_
  refine lv_topi (fun v15 ev15 => ?_)
  have h := elet_at ev15 h
  clear ev15
  obtain ⟨r16, er16, h⟩ := obind_some h
  refine m_stat (As := [.int v15]) (rest := []) ⟨hx, hb, hml, hown, hts⟩ (tr_root l v15 er16) (cwS 1 hts (gmS qM_216 qM_217 qM_35 qM_218) rfl rfl rfl (by decide +kernel) ⟨Nat.le_of_ble_eq_true rfl, Nat.le_of_ble_eq_true rfl⟩) rfl hl.1 rfl (lv_room (Nat.le_of_ble_eq_true rfl)) dX12_delayFrom_51 ⟨Nat.zero_le _, Nat.zero_le _⟩ (fun q17 hq => ?_)
  refine lv_to hq ?_
  clear hq er16
  refine lv_aload_n hx hb dX12_delayFrom_54 rfl (lv_at hl 3 rfl) ?_
  refine m_get E G 10 (v := .ref (ad 10)) (by decide) (.tail _ qM_7) rfl dX12_delayFrom_55 rfl ?_
  refine lv_iconst (v := 1) hx hb dX12_delayFrom_58 (by decide) ?_
  refine m_iald E G 10 2 (n := 131) (k := 1) rfl rfl (by decide) (by decide) dX12_delayFrom_59 ?_
  refine lv_topi (fun v18 ev18 => ?_)
  have h := elet_at ev18 h
  clear ev18
  obtain ⟨g19, h⟩ := oif_some h
  refine lv_idiv hx hb dX12_delayFrom_60 g19 ?_
  refine lv_topi (fun v20 ev20 => ?_)
  have h := elet_at ev20 h
  clear ev20
  refine lv_iload hx hb dX12_delayFrom_61 (lv_at hl 0 rfl) ?_
  refine lv_aload_n hx hb dX12_delayFrom_63 rfl (lv_at hl 3 rfl) ?_
  refine m_get E G 10 (v := .ref (ad 10)) (by decide) (.tail _ qM_7) rfl dX12_delayFrom_64 rfl ?_
  refine lv_iconst (v := 1) hx hb dX12_delayFrom_67 (by decide) ?_
  refine m_iald E G 10 2 (n := 131) (k := 1) rfl rfl (by decide) (by decide) dX12_delayFrom_68 ?_
  refine lv_topi (fun v21 ev21 => ?_)
  have h := elet_at ev21 h
  clear ev21
  obtain ⟨g22, h⟩ := oif_some h
  refine lv_idiv hx hb dX12_delayFrom_69 g22 ?_
  refine lv_topi (fun v23 ev23 => ?_)
  have h := elet_at ev23 h
  clear ev23
  refine lv_isub hx hb dX12_delayFrom_70 ?_
  refine lv_topi (fun v24 ev24 => ?_)
  have h := elet_at ev24 h
  clear ev24
  exact W.iret (v := v24) hx hb hr (fun t ht hW => ⟨⟨v24, S, rfl, osome2 h, ⟨by rw [ht]; exact G.1, va_K.moved hW.alike hK, G.2.1⟩⟩, G.2.2.F ht⟩) G.2.2.2.2 dX12_delayFrom_71
def fr_wave_b103  (S : MS) (s0 : Int32) : Option (Int32 × MS) := some (s0, S)
set_option maxHeartbeats 4000000 in
set_option maxRecDepth 100000 in
theorem tr_wave_b103 {p : Program} {l : Launch} {e : Env} {s : State} {m : MethodId} {args : Array Value} {below : List Frame} {meth : Method} {c : Code} {Q : State → Prop} {D : va_G} {A : Nat → Prop} {H0 : Heap} {cI cJ cZ : ClassId} {ad : Nat → Nat} {r1 : Int32} {S1 : MS} (E : mE p c cX12_wave s m args (Cond.code yX12_wave cX12_wave 6 (some .int) :: wsM) D cI cJ cZ) (hA : ∀ q : Nat, H0.size ≤ q → A q) (hR : sR s) (hml : c.maxLocals = 6) (kr35 : ∀ (H : Heap) (locs : List Loc) (ls : Array Slot), mG D cI cJ cZ ad A H0 H locs S1 → W p l e { frames := 1, cells := 0, slots := 0, locals := 19 } s m args below meth c H locs 0 0 Q (F0 m 35 ls [.int r1])) (kr103 : ∀ (H : Heap) (locs : List Loc) (ls : Array Slot), mG D cI cJ cZ ad A H0 H locs S1 → W p l e { frames := 1, cells := 0, slots := 0, locals := 19 } s m args below meth c H locs 0 0 Q (F0 m 103 ls [.int r1])) (kr124 : ∀ (H : Heap) (locs : List Loc) (ls : Array Slot), mG D cI cJ cZ ad A H0 H locs S1 → W p l e { frames := 1, cells := 0, slots := 0, locals := 19 } s m args below meth c H locs 0 0 Q (F0 m 124 ls [.int r1])) (kr135 : ∀ (H : Heap) (locs : List Loc) (ls : Array Slot), mG D cI cJ cZ ad A H0 H locs S1 → W p l e { frames := 1, cells := 0, slots := 0, locals := 19 } s m args below meth c H locs 0 0 Q (F0 m 135 ls [.int r1])) (kr170 : ∀ (H : Heap) (locs : List Loc) (ls : Array Slot), mG D cI cJ cZ ad A H0 H locs S1 → W p l e { frames := 1, cells := 0, slots := 0, locals := 19 } s m args below meth c H locs 0 0 Q (F0 m 170 ls [.int r1])) : ∀ (S : MS) (H : Heap) (locs : List Loc) (ls : Array Slot) (s0 : Int32), fr_wave_b103 S s0 = some (r1, S1) → mG D cI cJ cZ ad A H0 H locs S → lv_has ls 6 [] → W p l e { frames := 1, cells := 0, slots := 0, locals := 19 } s m args below meth c H locs 0 0 Q (F0 m 103 ls [.int s0]) := by
  have hx := E.1
  have hb := E.2.1
  have hts := E.2.2.1
  have hown := E.2.2.2.1
  have hK := E.2.2.2.2.1
  intro S H locs ls s0 h G hl
  unfold fr_wave_b103 at h
  rw [(osome2 h).2] at G
  refine lv_to (osome2 h).1 ?_
  exact kr103 _ _ _ G
def fr_wave_b135  (S : MS) (s0 : Int32) : Option (Int32 × MS) := some (s0, S)
set_option maxHeartbeats 4000000 in
set_option maxRecDepth 100000 in
theorem tr_wave_b135 {p : Program} {l : Launch} {e : Env} {s : State} {m : MethodId} {args : Array Value} {below : List Frame} {meth : Method} {c : Code} {Q : State → Prop} {D : va_G} {A : Nat → Prop} {H0 : Heap} {cI cJ cZ : ClassId} {ad : Nat → Nat} {r1 : Int32} {S1 : MS} (E : mE p c cX12_wave s m args (Cond.code yX12_wave cX12_wave 6 (some .int) :: wsM) D cI cJ cZ) (hA : ∀ q : Nat, H0.size ≤ q → A q) (hR : sR s) (hml : c.maxLocals = 6) (kr35 : ∀ (H : Heap) (locs : List Loc) (ls : Array Slot), mG D cI cJ cZ ad A H0 H locs S1 → W p l e { frames := 1, cells := 0, slots := 0, locals := 19 } s m args below meth c H locs 0 0 Q (F0 m 35 ls [.int r1])) (kr103 : ∀ (H : Heap) (locs : List Loc) (ls : Array Slot), mG D cI cJ cZ ad A H0 H locs S1 → W p l e { frames := 1, cells := 0, slots := 0, locals := 19 } s m args below meth c H locs 0 0 Q (F0 m 103 ls [.int r1])) (kr124 : ∀ (H : Heap) (locs : List Loc) (ls : Array Slot), mG D cI cJ cZ ad A H0 H locs S1 → W p l e { frames := 1, cells := 0, slots := 0, locals := 19 } s m args below meth c H locs 0 0 Q (F0 m 124 ls [.int r1])) (kr135 : ∀ (H : Heap) (locs : List Loc) (ls : Array Slot), mG D cI cJ cZ ad A H0 H locs S1 → W p l e { frames := 1, cells := 0, slots := 0, locals := 19 } s m args below meth c H locs 0 0 Q (F0 m 135 ls [.int r1])) (kr170 : ∀ (H : Heap) (locs : List Loc) (ls : Array Slot), mG D cI cJ cZ ad A H0 H locs S1 → W p l e { frames := 1, cells := 0, slots := 0, locals := 19 } s m args below meth c H locs 0 0 Q (F0 m 170 ls [.int r1])) : ∀ (S : MS) (H : Heap) (locs : List Loc) (ls : Array Slot) (s0 : Int32), fr_wave_b135 S s0 = some (r1, S1) → mG D cI cJ cZ ad A H0 H locs S → lv_has ls 6 [] → W p l e { frames := 1, cells := 0, slots := 0, locals := 19 } s m args below meth c H locs 0 0 Q (F0 m 135 ls [.int s0]) := by
  have hx := E.1
  have hb := E.2.1
  have hts := E.2.2.1
  have hown := E.2.2.2.1
  have hK := E.2.2.2.2.1
  intro S H locs ls s0 h G hl
  unfold fr_wave_b135 at h
  rw [(osome2 h).2] at G
  refine lv_to (osome2 h).1 ?_
  exact kr135 _ _ _ G
def fr_wave (S : MS) (a0 : Int32) (a1 : Int32) : Option (Int32 × MS) := elet (53 + a0) fun v2 => oif (inb v2 131 = true) <| elet (S.2.1 10 v2.toNatClampNeg) fun v4 => elet (59 + a0) fun v5 => oif (inb v5 131 = true) <| elet (S.2.1 10 v5.toNatClampNeg) fun v7 => elet (95 + a0) fun v8 => oif (inb v8 131 = true) <| elet (S.2.1 10 v8.toNatClampNeg) fun v10 => if v10 ≤ a1 then (elet (65 + a0) fun v12 => oif (inb v12 131 = true) <| elet (S.2.1 10 v12.toNatClampNeg) fun v14 => elet (a1 + v14) fun v15 => oif (¬ v7 = 0) <| elet (v15 - v15 / v7 * v7) fun v17 => elet (47 + a0) fun v18 => oif (inb v18 131 = true) <| elet (S.2.1 10 v18.toNatClampNeg) fun v20 => if v20 = 0 then (elet (v7 / 2) fun v22 => if v22 ≤ v17 then (elet (-v4) fun v24 => fr_wave_b103 S v24) else (fr_wave_b103 S v4)) else (if v20 = 1 then (elet (v7 / 2) fun v26 => elet (v17 - v26) fun v27 => elet (if 0 ≤ v27 then v27 else 0 - v27) fun v28 => elet (4 * v28) fun v29 => elet (v29 - v7) fun v30 => elet (v4 * v30) fun v31 => oif (¬ v7 = 0) <| elet (v31 / v7) fun v33 => some (v33, S)) else (if v20 = 2 then (if v17 = 0 then (fr_wave_b135 S v4) else (fr_wave_b135 S 0)) else (elet (31 * a1) fun v36 => elet (v36 * a1) fun v37 => elet (7919 * a1) fun v38 => elet (v37 + v38) fun v39 => elet (65 + a0) fun v40 => oif (inb v40 131 = true) <| elet (S.2.1 10 v40.toNatClampNeg) fun v42 => elet (104729 * v42) fun v43 => elet (v39 + v43) fun v44 => elet (2 * v4) fun v45 => elet (v45 + 1) fun v46 => oif (¬ v46 = 0) <| elet (v44 - v44 / v46 * v46) fun v48 => elet (v48 - v4) fun v49 => some (v49, S))))) else (some (0, S))
set_option maxHeartbeats 4000000 in
set_option maxRecDepth 100000 in
theorem tr_wave (l : Launch) (D : va_G) (cI cJ cZ : ClassId) (ad : Nat → Nat) (S : MS) (a0 : Int32) (a1 : Int32) {r1 : Int32} {S1 : MS} (h : fr_wave S a0 a1 = some (r1, S1)) : mCi l yX12_wave (Cond.code yX12_wave cX12_wave 6 (some .int) :: wsM) 1 19 D cI cJ cZ ad S [.int a0, .int a1] (fun r S9 => r = r1 ∧ S9 = S1) := by
  intro sz
  refine Met.ofW (cc := cX12_wave) (maxL := 6) (ret := (some .int)) (by decide) rfl ?_
  intro p e s m args below meth c s₁ B hml hv
  obtain ⟨rfl, hsz, hP, hK, hD0, hR⟩ := hv
  have hx := B.exec
  have hb := B.bytes
  have hr := B.returns
  have hts := atoms_spec (ws := (Cond.code yX12_wave cX12_wave 6 (some .int) :: wsM)) B.pre
  have hown : s.vm.findClass RX12 = some m.cls := findClass_of_methodNamed B.named
  have hlocks := B.notSynchronized
  subst hsz
  have hD := hD0.self (sz := s.heap.size)
  generalize hAe : va_A (MW cI cJ cZ ad S) s.heap.size = A at hD ⊢
  have hA : ∀ q : Nat, s.heap.size ≤ q → A q := fun q h => by rw [← hAe]; exact Or.inr h
  have G : mG D cI cJ cZ ad A s.heap s.heap [] S := ⟨hP, hD, va_S.rf⟩
  have E : mE p c cX12_wave s m ([.ref (ad 0), .int a0, .int a1] : List Value).toArray (Cond.code yX12_wave cX12_wave 6 (some .int) :: wsM) D cI cJ cZ := ⟨hx, hb, hts, hown, hK, fun w h => .tail _ (iM_x h)⟩
  have hl := lv_entry ([.ref (ad 0), .int a0, .int a1]) (n := 6) (Nat.le_of_ble_eq_true rfl)
  rw [lg_entry_eq]
  generalize (lg_sl ([.ref (ad 0), .int a0, .int a1]) ++ List.replicate (6 - (lg_sl ([.ref (ad 0), .int a0, .int a1])).length) Slot.unset).toArray = ls at hl ⊢
  have hl : lv_has ls 6 [(0, .ref (ad 0)), (1, .int a0), (2, .int a1)] := hl
  unfold fr_wave at h
  refine lv_aload_n hx hb dX12_wave_0 rfl (lv_at hl 0 rfl) ?_
  refine m_get E G 10 (v := .ref (ad 10)) (by decide) (.tail _ qM_7) rfl dX12_wave_1 rfl ?_
  refine lv_bipush (v := 53) hx hb dX12_wave_4 (by decide) ?_
  refine lv_iload_n hx hb dX12_wave_6 rfl (lv_at hl 1 rfl) ?_
  refine lv_iadd hx hb dX12_wave_7 ?_
  refine lv_topi (fun v2 ev2 => ?_)
  have h := elet_at ev2 h
  clear ev2
  obtain ⟨g3, h⟩ := oif_some h
  refine m_iald E G 10 2 (n := 131) (k := v2.toNatClampNeg) rfl (inb_k g3).1 (inb_k g3).2 (by decide) dX12_wave_8 ?_
  refine lv_topi (fun v4 ev4 => ?_)
  have h := elet_at ev4 h
  clear ev4
  refine lv_istore_n (lv' := [(3, .int v4), (0, .ref (ad 0)), (1, .int a0), (2, .int a1)]) hx hb dX12_wave_9 rfl hl (by decide) rfl (fun ls hl => ?_)
  refine lv_aload_n hx hb dX12_wave_10 rfl (lv_at hl 1 rfl) ?_
  refine m_get E G 10 (v := .ref (ad 10)) (by decide) (.tail _ qM_7) rfl dX12_wave_11 rfl ?_
  refine lv_bipush (v := 59) hx hb dX12_wave_14 (by decide) ?_
  refine lv_iload_n hx hb dX12_wave_16 rfl (lv_at hl 2 rfl) ?_
  refine lv_iadd hx hb dX12_wave_17 ?_
  refine lv_topi (fun v5 ev5 => ?_)
  have h := elet_at ev5 h
  clear ev5
  obtain ⟨g6, h⟩ := oif_some h
  refine m_iald E G 10 2 (n := 131) (k := v5.toNatClampNeg) rfl (inb_k g6).1 (inb_k g6).2 (by decide) dX12_wave_18 ?_
  refine lv_topi (fun v7 ev7 => ?_)
  have h := elet_at ev7 h
  clear ev7
  refine lv_istore (lv' := [(4, .int v7), (3, .int v4), (0, .ref (ad 0)), (1, .int a0), (2, .int a1)]) hx hb dX12_wave_19 hl (by decide) rfl (fun ls hl => ?_)
  refine lv_iload_n hx hb dX12_wave_21 rfl (lv_at hl 4 rfl) ?_
  refine lv_aload_n hx hb dX12_wave_22 rfl (lv_at hl 2 rfl) ?_
  refine m_get E G 10 (v := .ref (ad 10)) (by decide) (.tail _ qM_7) rfl dX12_wave_23 rfl ?_
  refine lv_bipush (v := 95) hx hb dX12_wave_26 (by decide) ?_
  refine lv_iload_n hx hb dX12_wave_28 rfl (lv_at hl 3 rfl) ?_
  refine lv_iadd hx hb dX12_wave_29 ?_
  refine lv_topi (fun v8 ev8 => ?_)
  have h := elet_at ev8 h
  clear ev8
  obtain ⟨g9, h⟩ := oif_some h
  refine m_iald E G 10 2 (n := 131) (k := v8.toNatClampNeg) rfl (inb_k g9).1 (inb_k g9).2 (by decide) dX12_wave_30 ?_
  refine lv_topi (fun v10 ev10 => ?_)
  have h := elet_at ev10 h
  clear ev10
  refine lv_icmp_ge (tgt := 36) hx hb dX12_wave_31 (by decide) (fun c11 => ?_) (fun c11 => ?_)
  · have h := oif_pos c11 h
    refine lv_iload_n hx hb dX12_wave_36 rfl (lv_at hl 4 rfl) ?_
    refine lv_aload_n hx hb dX12_wave_37 rfl (lv_at hl 2 rfl) ?_
    refine m_get E G 10 (v := .ref (ad 10)) (by decide) (.tail _ qM_7) rfl dX12_wave_38 rfl ?_
    refine lv_bipush (v := 65) hx hb dX12_wave_41 (by decide) ?_
    refine lv_iload_n hx hb dX12_wave_43 rfl (lv_at hl 3 rfl) ?_
    refine lv_iadd hx hb dX12_wave_44 ?_
    refine lv_topi (fun v12 ev12 => ?_)
    have h := elet_at ev12 h
    clear ev12
    obtain ⟨g13, h⟩ := oif_some h
    refine m_iald E G 10 2 (n := 131) (k := v12.toNatClampNeg) rfl (inb_k g13).1 (inb_k g13).2 (by decide) dX12_wave_45 ?_
    refine lv_topi (fun v14 ev14 => ?_)
    have h := elet_at ev14 h
    clear ev14
    refine lv_iadd hx hb dX12_wave_46 ?_
    refine lv_topi (fun v15 ev15 => ?_)
    have h := elet_at ev15 h
    clear ev15
    refine lv_iload hx hb dX12_wave_47 (lv_at hl 0 rfl) ?_
    obtain ⟨g16, h⟩ := oif_some h
    refine lv_irem hx hb dX12_wave_49 g16 ?_
    refine lv_topi (fun v17 ev17 => ?_)
    have h := elet_at ev17 h
    clear ev17
    refine lv_istore (lv' := [(5, .int v17), (4, .int v7), (3, .int v4), (0, .ref (ad 0)), (1, .int a0), (2, .int a1)]) hx hb dX12_wave_50 hl (by decide) rfl (fun ls hl => ?_)
    refine lv_aload_n hx hb dX12_wave_52 rfl (lv_at hl 3 rfl) ?_
    refine m_get E G 10 (v := .ref (ad 10)) (by decide) (.tail _ qM_7) rfl dX12_wave_53 rfl ?_
    refine lv_bipush (v := 47) hx hb dX12_wave_56 (by decide) ?_
    refine lv_iload_n hx hb dX12_wave_58 rfl (lv_at hl 4 rfl) ?_
    refine lv_iadd hx hb dX12_wave_59 ?_
    refine lv_topi (fun v18 ev18 => ?_)
    have h := elet_at ev18 h
    clear ev18
    obtain ⟨g19, h⟩ := oif_some h
    refine m_iald E G 10 2 (n := 131) (k := v18.toNatClampNeg) rfl (inb_k g19).1 (inb_k g19).2 (by decide) dX12_wave_60 ?_
    refine lv_topi (fun v20 ev20 => ?_)
    have h := elet_at ev20 h
    clear ev20
    by_cases c21 : v20 = 0
    · have h := oif_pos c21 h
      refine lv_tableIn (off := 27) (tgt := 88) hx hb dX12_wave_61 (by rw [c21]; decide) (by rw [c21]; decide) (by rw [c21]; rfl) (by decide) ?_
      refine lv_iload hx hb dX12_wave_88 (lv_at hl 0 rfl) ?_
      refine lv_iload hx hb dX12_wave_90 (lv_at hl 1 rfl) ?_
      refine lv_iconst (v := 2) hx hb dX12_wave_92 (by decide) ?_
      refine lv_idiv hx hb dX12_wave_93 (by decide) ?_
      refine lv_topi (fun v22 ev22 => ?_)
      have h := elet_at ev22 h
      clear ev22
      refine lv_icmp_ge (tgt := 101) hx hb dX12_wave_94 (by decide) (fun c23 => ?_) (fun c23 => ?_)
      · have h := oif_pos c23 h
        refine lv_iload_n hx hb dX12_wave_101 rfl (lv_at hl 2 rfl) ?_
        refine lv_ineg hx hb dX12_wave_102 ?_
        refine lv_topi (fun v24 ev24 => ?_)
        have h := elet_at ev24 h
        clear ev24
        have hl := lv_sub hl [] rfl
        exact tr_wave_b103 E hA hR hml (fun H locs ls G => W.iret (v := r1) hx hb hr (fun t ht hW => ⟨⟨r1, S1, rfl, ⟨rfl, rfl⟩, ⟨by rw [ht]; exact G.1, va_K.moved hW.alike hK, G.2.1⟩⟩, G.2.2.F ht⟩) G.2.2.2.2 dX12_wave_35) (fun H locs ls G => W.iret (v := r1) hx hb hr (fun t ht hW => ⟨⟨r1, S1, rfl, ⟨rfl, rfl⟩, ⟨by rw [ht]; exact G.1, va_K.moved hW.alike hK, G.2.1⟩⟩, G.2.2.F ht⟩) G.2.2.2.2 dX12_wave_103) (fun H locs ls G => W.iret (v := r1) hx hb hr (fun t ht hW => ⟨⟨r1, S1, rfl, ⟨rfl, rfl⟩, ⟨by rw [ht]; exact G.1, va_K.moved hW.alike hK, G.2.1⟩⟩, G.2.2.F ht⟩) G.2.2.2.2 dX12_wave_124) (fun H locs ls G => W.iret (v := r1) hx hb hr (fun t ht hW => ⟨⟨r1, S1, rfl, ⟨rfl, rfl⟩, ⟨by rw [ht]; exact G.1, va_K.moved hW.alike hK, G.2.1⟩⟩, G.2.2.F ht⟩) G.2.2.2.2 dX12_wave_135) (fun H locs ls G => W.iret (v := r1) hx hb hr (fun t ht hW => ⟨⟨r1, S1, rfl, ⟨rfl, rfl⟩, ⟨by rw [ht]; exact G.1, va_K.moved hW.alike hK, G.2.1⟩⟩, G.2.2.F ht⟩) G.2.2.2.2 dX12_wave_170) _ _ _ _ _ h G hl
      · have h := oif_neg c23 h
        refine lv_iload_n hx hb dX12_wave_97 rfl (lv_at hl 2 rfl) ?_
        refine lv_goto (tgt := 103) hx hb dX12_wave_98 (by decide) ?_
        have hl := lv_sub hl [] rfl
        exact tr_wave_b103 E hA hR hml (fun H locs ls G => W.iret (v := r1) hx hb hr (fun t ht hW => ⟨⟨r1, S1, rfl, ⟨rfl, rfl⟩, ⟨by rw [ht]; exact G.1, va_K.moved hW.alike hK, G.2.1⟩⟩, G.2.2.F ht⟩) G.2.2.2.2 dX12_wave_35) (fun H locs ls G => W.iret (v := r1) hx hb hr (fun t ht hW => ⟨⟨r1, S1, rfl, ⟨rfl, rfl⟩, ⟨by rw [ht]; exact G.1, va_K.moved hW.alike hK, G.2.1⟩⟩, G.2.2.F ht⟩) G.2.2.2.2 dX12_wave_103) (fun H locs ls G => W.iret (v := r1) hx hb hr (fun t ht hW => ⟨⟨r1, S1, rfl, ⟨rfl, rfl⟩, ⟨by rw [ht]; exact G.1, va_K.moved hW.alike hK, G.2.1⟩⟩, G.2.2.F ht⟩) G.2.2.2.2 dX12_wave_124) (fun H locs ls G => W.iret (v := r1) hx hb hr (fun t ht hW => ⟨⟨r1, S1, rfl, ⟨rfl, rfl⟩, ⟨by rw [ht]; exact G.1, va_K.moved hW.alike hK, G.2.1⟩⟩, G.2.2.F ht⟩) G.2.2.2.2 dX12_wave_135) (fun H locs ls G => W.iret (v := r1) hx hb hr (fun t ht hW => ⟨⟨r1, S1, rfl, ⟨rfl, rfl⟩, ⟨by rw [ht]; exact G.1, va_K.moved hW.alike hK, G.2.1⟩⟩, G.2.2.F ht⟩) G.2.2.2.2 dX12_wave_170) _ _ _ _ _ h G hl
    have h := oif_neg c21 h
    by_cases c25 : v20 = 1
    · have h := oif_pos c25 h
      refine lv_tableIn (off := 43) (tgt := 104) hx hb dX12_wave_61 (by rw [c25]; decide) (by rw [c25]; decide) (by rw [c25]; rfl) (by decide) ?_
      refine lv_iload_n hx hb dX12_wave_104 rfl (lv_at hl 2 rfl) ?_
      refine lv_iconst (v := 4) hx hb dX12_wave_105 (by decide) ?_
      refine lv_iload hx hb dX12_wave_106 (lv_at hl 0 rfl) ?_
      refine lv_iload hx hb dX12_wave_108 (lv_at hl 1 rfl) ?_
      refine lv_iconst (v := 2) hx hb dX12_wave_110 (by decide) ?_
      refine lv_idiv hx hb dX12_wave_111 (by decide) ?_
      refine lv_topi (fun v26 ev26 => ?_)
      have h := elet_at ev26 h
      clear ev26
      refine lv_isub hx hb dX12_wave_112 ?_
      refine lv_topi (fun v27 ev27 => ?_)
      have h := elet_at ev27 h
      clear ev27
      refine va_mabs hx hb (hml.trans hl.1.symm) hown (hts _ (.tail _ qM_245)) (hts _ (.tail _ qM_246)) (hts _ (.tail _ qM_247)) (hts _ (.tail _ qM_248)) (Nat.le_of_ble_eq_true rfl) (Nat.le_of_ble_eq_true rfl) (Nat.zero_le _) (Nat.zero_le _) dX12_wave_113 ?_
      refine lv_topi (fun v28 ev28 => ?_)
      have h := elet_at ev28 h
      clear ev28
      refine lv_imul hx hb dX12_wave_116 ?_
      refine lv_topi (fun v29 ev29 => ?_)
      have h := elet_at ev29 h
      clear ev29
      refine lv_iload hx hb dX12_wave_117 (lv_at hl 1 rfl) ?_
      refine lv_isub hx hb dX12_wave_119 ?_
      refine lv_topi (fun v30 ev30 => ?_)
      have h := elet_at ev30 h
      clear ev30
      refine lv_imul hx hb dX12_wave_120 ?_
      refine lv_topi (fun v31 ev31 => ?_)
      have h := elet_at ev31 h
      clear ev31
      refine lv_iload hx hb dX12_wave_121 (lv_at hl 1 rfl) ?_
      obtain ⟨g32, h⟩ := oif_some h
      refine lv_idiv hx hb dX12_wave_123 g32 ?_
      refine lv_topi (fun v33 ev33 => ?_)
      have h := elet_at ev33 h
      clear ev33
      exact W.iret (v := v33) hx hb hr (fun t ht hW => ⟨⟨v33, S, rfl, osome2 h, ⟨by rw [ht]; exact G.1, va_K.moved hW.alike hK, G.2.1⟩⟩, G.2.2.F ht⟩) G.2.2.2.2 dX12_wave_124
    have h := oif_neg c25 h
    by_cases c34 : v20 = 2
    · have h := oif_pos c34 h
      refine lv_tableIn (off := 64) (tgt := 125) hx hb dX12_wave_61 (by rw [c34]; decide) (by rw [c34]; decide) (by rw [c34]; rfl) (by decide) ?_
      refine lv_iload hx hb dX12_wave_125 (lv_at hl 0 rfl) ?_
      refine lv_if_ne (tgt := 134) hx hb dX12_wave_127 (by decide) (fun c35 => ?_) (fun c35 => ?_)
      · have h := oif_neg c35 h
        refine lv_iconst (v := 0) hx hb dX12_wave_134 (by decide) ?_
        have hl := lv_sub hl [] rfl
        exact tr_wave_b135 E hA hR hml (fun H locs ls G => W.iret (v := r1) hx hb hr (fun t ht hW => ⟨⟨r1, S1, rfl, ⟨rfl, rfl⟩, ⟨by rw [ht]; exact G.1, va_K.moved hW.alike hK, G.2.1⟩⟩, G.2.2.F ht⟩) G.2.2.2.2 dX12_wave_35) (fun H locs ls G => W.iret (v := r1) hx hb hr (fun t ht hW => ⟨⟨r1, S1, rfl, ⟨rfl, rfl⟩, ⟨by rw [ht]; exact G.1, va_K.moved hW.alike hK, G.2.1⟩⟩, G.2.2.F ht⟩) G.2.2.2.2 dX12_wave_103) (fun H locs ls G => W.iret (v := r1) hx hb hr (fun t ht hW => ⟨⟨r1, S1, rfl, ⟨rfl, rfl⟩, ⟨by rw [ht]; exact G.1, va_K.moved hW.alike hK, G.2.1⟩⟩, G.2.2.F ht⟩) G.2.2.2.2 dX12_wave_124) (fun H locs ls G => W.iret (v := r1) hx hb hr (fun t ht hW => ⟨⟨r1, S1, rfl, ⟨rfl, rfl⟩, ⟨by rw [ht]; exact G.1, va_K.moved hW.alike hK, G.2.1⟩⟩, G.2.2.F ht⟩) G.2.2.2.2 dX12_wave_135) (fun H locs ls G => W.iret (v := r1) hx hb hr (fun t ht hW => ⟨⟨r1, S1, rfl, ⟨rfl, rfl⟩, ⟨by rw [ht]; exact G.1, va_K.moved hW.alike hK, G.2.1⟩⟩, G.2.2.F ht⟩) G.2.2.2.2 dX12_wave_170) _ _ _ _ _ h G hl
      · have h := oif_pos c35 h
        refine lv_iload_n hx hb dX12_wave_130 rfl (lv_at hl 2 rfl) ?_
        refine lv_goto (tgt := 135) hx hb dX12_wave_131 (by decide) ?_
        have hl := lv_sub hl [] rfl
        exact tr_wave_b135 E hA hR hml (fun H locs ls G => W.iret (v := r1) hx hb hr (fun t ht hW => ⟨⟨r1, S1, rfl, ⟨rfl, rfl⟩, ⟨by rw [ht]; exact G.1, va_K.moved hW.alike hK, G.2.1⟩⟩, G.2.2.F ht⟩) G.2.2.2.2 dX12_wave_35) (fun H locs ls G => W.iret (v := r1) hx hb hr (fun t ht hW => ⟨⟨r1, S1, rfl, ⟨rfl, rfl⟩, ⟨by rw [ht]; exact G.1, va_K.moved hW.alike hK, G.2.1⟩⟩, G.2.2.F ht⟩) G.2.2.2.2 dX12_wave_103) (fun H locs ls G => W.iret (v := r1) hx hb hr (fun t ht hW => ⟨⟨r1, S1, rfl, ⟨rfl, rfl⟩, ⟨by rw [ht]; exact G.1, va_K.moved hW.alike hK, G.2.1⟩⟩, G.2.2.F ht⟩) G.2.2.2.2 dX12_wave_124) (fun H locs ls G => W.iret (v := r1) hx hb hr (fun t ht hW => ⟨⟨r1, S1, rfl, ⟨rfl, rfl⟩, ⟨by rw [ht]; exact G.1, va_K.moved hW.alike hK, G.2.1⟩⟩, G.2.2.F ht⟩) G.2.2.2.2 dX12_wave_135) (fun H locs ls G => W.iret (v := r1) hx hb hr (fun t ht hW => ⟨⟨r1, S1, rfl, ⟨rfl, rfl⟩, ⟨by rw [ht]; exact G.1, va_K.moved hW.alike hK, G.2.1⟩⟩, G.2.2.F ht⟩) G.2.2.2.2 dX12_wave_170) _ _ _ _ _ h G hl
    have h := oif_neg c34 h
    refine lv_tableOut (tgt := 136) hx hb dX12_wave_61 (tsw_0_2 c21 c25 c34) (by decide) ?_
    refine lv_bipush (v := 31) hx hb dX12_wave_136 (by decide) ?_
    refine lv_iload_n hx hb dX12_wave_138 rfl (lv_at hl 5 rfl) ?_
    refine lv_imul hx hb dX12_wave_139 ?_
    refine lv_topi (fun v36 ev36 => ?_)
    have h := elet_at ev36 h
    clear ev36
    refine lv_iload_n hx hb dX12_wave_140 rfl (lv_at hl 5 rfl) ?_
    refine lv_imul hx hb dX12_wave_141 ?_
    refine lv_topi (fun v37 ev37 => ?_)
    have h := elet_at ev37 h
    clear ev37
    refine lv_sipush (v := 7919) hx hb dX12_wave_142 (by decide) ?_
    refine lv_iload_n hx hb dX12_wave_145 rfl (lv_at hl 5 rfl) ?_
    refine lv_imul hx hb dX12_wave_146 ?_
    refine lv_topi (fun v38 ev38 => ?_)
    have h := elet_at ev38 h
    clear ev38
    refine lv_iadd hx hb dX12_wave_147 ?_
    refine lv_topi (fun v39 ev39 => ?_)
    have h := elet_at ev39 h
    clear ev39
    refine lv_ldcw (v := 104729) hx hb hown (hts (.constant RX12 267 (104729)) (.tail _ qM_249)) dX12_wave_148 ?_
    refine lv_aload_n hx hb dX12_wave_151 rfl (lv_at hl 3 rfl) ?_
    refine m_get E G 10 (v := .ref (ad 10)) (by decide) (.tail _ qM_7) rfl dX12_wave_152 rfl ?_
    refine lv_bipush (v := 65) hx hb dX12_wave_155 (by decide) ?_
    refine lv_iload_n hx hb dX12_wave_157 rfl (lv_at hl 4 rfl) ?_
    refine lv_iadd hx hb dX12_wave_158 ?_
    refine lv_topi (fun v40 ev40 => ?_)
    have h := elet_at ev40 h
    clear ev40
    obtain ⟨g41, h⟩ := oif_some h
    refine m_iald E G 10 2 (n := 131) (k := v40.toNatClampNeg) rfl (inb_k g41).1 (inb_k g41).2 (by decide) dX12_wave_159 ?_
    refine lv_topi (fun v42 ev42 => ?_)
    have h := elet_at ev42 h
    clear ev42
    refine lv_imul hx hb dX12_wave_160 ?_
    refine lv_topi (fun v43 ev43 => ?_)
    have h := elet_at ev43 h
    clear ev43
    refine lv_iadd hx hb dX12_wave_161 ?_
    refine lv_topi (fun v44 ev44 => ?_)
    have h := elet_at ev44 h
    clear ev44
    refine lv_iconst (v := 2) hx hb dX12_wave_162 (by decide) ?_
    refine lv_iload_n hx hb dX12_wave_163 rfl (lv_at hl 2 rfl) ?_
    refine lv_imul hx hb dX12_wave_164 ?_
    refine lv_topi (fun v45 ev45 => ?_)
    have h := elet_at ev45 h
    clear ev45
    refine lv_iconst (v := 1) hx hb dX12_wave_165 (by decide) ?_
    refine lv_iadd hx hb dX12_wave_166 ?_
    refine lv_topi (fun v46 ev46 => ?_)
    have h := elet_at ev46 h
    clear ev46
    obtain ⟨g47, h⟩ := oif_some h
    refine lv_irem hx hb dX12_wave_167 g47 ?_
    refine lv_topi (fun v48 ev48 => ?_)
    have h := elet_at ev48 h
    clear ev48
    refine lv_iload_n hx hb dX12_wave_168 rfl (lv_at hl 2 rfl) ?_
    refine lv_isub hx hb dX12_wave_169 ?_
    refine lv_topi (fun v49 ev49 => ?_)
    have h := elet_at ev49 h
    clear ev49
    exact W.iret (v := v49) hx hb hr (fun t ht hW => ⟨⟨v49, S, rfl, osome2 h, ⟨by rw [ht]; exact G.1, va_K.moved hW.alike hK, G.2.1⟩⟩, G.2.2.F ht⟩) G.2.2.2.2 dX12_wave_170
  · have h := oif_neg c11 h
    refine lv_iconst (v := 0) hx hb dX12_wave_34 (by decide) ?_
    exact W.iret (v := 0) hx hb hr (fun t ht hW => ⟨⟨0, S, rfl, osome2 h, ⟨by rw [ht]; exact G.1, va_K.moved hW.alike hK, G.2.1⟩⟩, G.2.2.F ht⟩) G.2.2.2.2 dX12_wave_35
end
section
/-! 11e.dec3.lean.txt -/
def fr_waveNow_b39  (S : MS) (s0 : Int32) : Option (Int32 × MS) := some (s0, S)
set_option maxHeartbeats 4000000 in
set_option maxRecDepth 100000 in
theorem tr_waveNow_b39 {p : Program} {l : Launch} {e : Env} {s : State} {m : MethodId} {args : Array Value} {below : List Frame} {meth : Method} {c : Code} {Q : State → Prop} {D : va_G} {A : Nat → Prop} {H0 : Heap} {cI cJ cZ : ClassId} {ad : Nat → Nat} {r1 : Int32} {S1 : MS} (E : mE p c cX12_waveNow s m args (Cond.code yX12_waveNow cX12_waveNow 3 (some .int) :: wsM) D cI cJ cZ) (hA : ∀ q : Nat, H0.size ≤ q → A q) (hR : sR s) (hml : c.maxLocals = 3) (kr39 : ∀ (H : Heap) (locs : List Loc) (ls : Array Slot), mG D cI cJ cZ ad A H0 H locs S1 → W p l e { frames := 2, cells := 0, slots := 0, locals := 44 } s m args below meth c H locs 0 0 Q (F0 m 39 ls [.int r1])) : ∀ (S : MS) (H : Heap) (locs : List Loc) (ls : Array Slot) (s0 : Int32), fr_waveNow_b39 S s0 = some (r1, S1) → mG D cI cJ cZ ad A H0 H locs S → lv_has ls 3 [] → W p l e { frames := 2, cells := 0, slots := 0, locals := 44 } s m args below meth c H locs 0 0 Q (F0 m 39 ls [.int s0]) := by
  have hx := E.1
  have hb := E.2.1
  have hts := E.2.2.1
  have hown := E.2.2.2.1
  have hK := E.2.2.2.2.1
  intro S H locs ls s0 h G hl
  unfold fr_waveNow_b39 at h
  rw [(osome2 h).2] at G
  refine lv_to (osome2 h).1 ?_
  exact kr39 _ _ _ G
def fr_waveNow (S : MS) (a0 : Int32) (a1 : Int32) : Option (Int32 × MS) := elet (S.1 21) fun v2 => if v2 = (-1) then (obind2 (fr_wave S a0 a1) fun r7 S4 => fr_waveNow_b39 S4 r7) else (elet (S.1 22) fun v8 => oif (¬ v8 = 0) <| elet (a1 - a1 / v8 * v8) fun v10 => elet (S.1 22) fun v11 => elet (v11 / 2) fun v12 => if v12 ≤ v10 then (fr_waveNow_b39 S (-100)) else (fr_waveNow_b39 S 100))
set_option maxHeartbeats 4000000 in
set_option maxRecDepth 100000 in
theorem tr_waveNow (l : Launch) (D : va_G) (cI cJ cZ : ClassId) (ad : Nat → Nat) (S : MS) (a0 : Int32) (a1 : Int32) {r1 : Int32} {S1 : MS} (h : fr_waveNow S a0 a1 = some (r1, S1)) : mCi l yX12_waveNow (Cond.code yX12_waveNow cX12_waveNow 3 (some .int) :: wsM) 2 44 D cI cJ cZ ad S [.int a0, .int a1] (fun r S9 => r = r1 ∧ S9 = S1) := by
  intro sz
  refine Met.ofW (cc := cX12_waveNow) (maxL := 3) (ret := (some .int)) (by decide) rfl ?_
  intro p e s m args below meth c s₁ B hml hv
  obtain ⟨rfl, hsz, hP, hK, hD0, hR⟩ := hv
  have hx := B.exec
  have hb := B.bytes
  have hr := B.returns
  have hts := atoms_spec (ws := (Cond.code yX12_waveNow cX12_waveNow 3 (some .int) :: wsM)) B.pre
  have hown : s.vm.findClass RX12 = some m.cls := findClass_of_methodNamed B.named
  have hlocks := B.notSynchronized
  subst hsz
  have hD := hD0.self (sz := s.heap.size)
  generalize hAe : va_A (MW cI cJ cZ ad S) s.heap.size = A at hD ⊢
  have hA : ∀ q : Nat, s.heap.size ≤ q → A q := fun q h => by rw [← hAe]; exact Or.inr h
  have G : mG D cI cJ cZ ad A s.heap s.heap [] S := ⟨hP, hD, va_S.rf⟩
  have E : mE p c cX12_waveNow s m ([.ref (ad 0), .int a0, .int a1] : List Value).toArray (Cond.code yX12_waveNow cX12_waveNow 3 (some .int) :: wsM) D cI cJ cZ := ⟨hx, hb, hts, hown, hK, fun w h => .tail _ (iM_x h)⟩
  have hl := lv_entry ([.ref (ad 0), .int a0, .int a1]) (n := 3) (Nat.le_of_ble_eq_true rfl)
  rw [lg_entry_eq]
  generalize (lg_sl ([.ref (ad 0), .int a0, .int a1]) ++ List.replicate (3 - (lg_sl ([.ref (ad 0), .int a0, .int a1])).length) Slot.unset).toArray = ls at hl ⊢
  have hl : lv_has ls 3 [(0, .ref (ad 0)), (1, .int a0), (2, .int a1)] := hl
  unfold fr_waveNow at h
  refine lv_aload_n hx hb dX12_waveNow_0 rfl (lv_at hl 0 rfl) ?_
  refine m_get E G 21 (v := .int (S.1 21)) (by decide) (.tail _ qM_17) rfl dX12_waveNow_1 rfl ?_
  refine lv_topi (fun v2 ev2 => ?_)
  have h := elet_at ev2 h
  clear ev2
  refine lv_iconst (v := (-1)) hx hb dX12_waveNow_4 (by decide) ?_
  refine lv_icmp_ne (tgt := 17) hx hb dX12_waveNow_5 (by decide) (fun c3 => ?_) (fun c3 => ?_)
  · have h := oif_neg c3 h
    refine lv_iload_n hx hb dX12_waveNow_17 rfl (lv_at hl 2 rfl) ?_
    refine lv_aload_n hx hb dX12_waveNow_18 rfl (lv_at hl 0 rfl) ?_
    refine m_get E G 22 (v := .int (S.1 22)) (by decide) (.tail _ qM_240) rfl dX12_waveNow_19 rfl ?_
    refine lv_topi (fun v8 ev8 => ?_)
    have h := elet_at ev8 h
    clear ev8
    obtain ⟨g9, h⟩ := oif_some h
    refine lv_irem hx hb dX12_waveNow_22 g9 ?_
    refine lv_topi (fun v10 ev10 => ?_)
    have h := elet_at ev10 h
    clear ev10
    refine lv_aload_n hx hb dX12_waveNow_23 rfl (lv_at hl 0 rfl) ?_
    refine m_get E G 22 (v := .int (S.1 22)) (by decide) (.tail _ qM_240) rfl dX12_waveNow_24 rfl ?_
    refine lv_topi (fun v11 ev11 => ?_)
    have h := elet_at ev11 h
    clear ev11
    refine lv_iconst (v := 2) hx hb dX12_waveNow_27 (by decide) ?_
    refine lv_idiv hx hb dX12_waveNow_28 (by decide) ?_
    refine lv_topi (fun v12 ev12 => ?_)
    have h := elet_at ev12 h
    clear ev12
    refine lv_icmp_ge (tgt := 37) hx hb dX12_waveNow_29 (by decide) (fun c13 => ?_) (fun c13 => ?_)
    · have h := oif_pos c13 h
      refine lv_bipush (v := (-100)) hx hb dX12_waveNow_37 (by decide) ?_
      have hl := lv_sub hl [] rfl
      exact tr_waveNow_b39 E hA hR hml (fun H locs ls G => W.iret (v := r1) hx hb hr (fun t ht hW => ⟨⟨r1, S1, rfl, ⟨rfl, rfl⟩, ⟨by rw [ht]; exact G.1, va_K.moved hW.alike hK, G.2.1⟩⟩, G.2.2.F ht⟩) G.2.2.2.2 dX12_waveNow_39) _ _ _ _ _ h G hl
    · have h := oif_neg c13 h
      refine lv_bipush (v := 100) hx hb dX12_waveNow_32 (by decide) ?_
      refine lv_goto (tgt := 39) hx hb dX12_waveNow_34 (by decide) ?_
      have hl := lv_sub hl [] rfl
      exact tr_waveNow_b39 E hA hR hml (fun H locs ls G => W.iret (v := r1) hx hb hr (fun t ht hW => ⟨⟨r1, S1, rfl, ⟨rfl, rfl⟩, ⟨by rw [ht]; exact G.1, va_K.moved hW.alike hK, G.2.1⟩⟩, G.2.2.F ht⟩) G.2.2.2.2 dX12_waveNow_39) _ _ _ _ _ h G hl
  · have h := oif_pos c3 h
    refine lv_aload_n hx hb dX12_waveNow_8 rfl (lv_at hl 0 rfl) ?_
    refine lv_iload_n hx hb dX12_waveNow_9 rfl (lv_at hl 1 rfl) ?_
    refine lv_iload_n hx hb dX12_waveNow_10 rfl (lv_at hl 2 rfl) ?_
    obtain ⟨r7, S4, eS4, h⟩ := obind2_some h
    refine m_calli (As := [.int a0, .int a1]) (rest := []) E G hA hR hml (tr_wave l D cI cJ cZ ad S a0 a1 eS4) (cwV 2 hts (gmV qM_241 qM_242 qM_243 qM_35 qM_244) rfl rfl rfl (by decide +kernel) ⟨Nat.le_of_ble_eq_true rfl, Nat.le_of_ble_eq_true rfl⟩) rfl hl.1 rfl (lv_room (Nat.le_of_ble_eq_true rfl)) dX12_waveNow_11 ⟨Nat.zero_le _, Nat.zero_le _⟩ (fun q5 S6 H locs hq G => ?_)
    obtain ⟨hq1, hq2⟩ := hq
    rw [hq2] at G
    refine lv_to hq1 ?_
    clear hq1 hq2 eS4
    refine lv_goto (tgt := 39) hx hb dX12_waveNow_14 (by decide) ?_
    have hl := lv_sub hl [] rfl
    exact tr_waveNow_b39 E hA hR hml (fun H locs ls G => W.iret (v := r1) hx hb hr (fun t ht hW => ⟨⟨r1, S1, rfl, ⟨rfl, rfl⟩, ⟨by rw [ht]; exact G.1, va_K.moved hW.alike hK, G.2.1⟩⟩, G.2.2.F ht⟩) G.2.2.2.2 dX12_waveNow_39) _ _ _ _ _ h G hl
def fr_heardFrom_b69  (S : MS) (s0 : Int32) : Option (Int32 × MS) := some (s0, S)
set_option maxHeartbeats 4000000 in
set_option maxRecDepth 100000 in
theorem tr_heardFrom_b69 {p : Program} {l : Launch} {e : Env} {s : State} {m : MethodId} {args : Array Value} {below : List Frame} {meth : Method} {c : Code} {Q : State → Prop} {D : va_G} {A : Nat → Prop} {H0 : Heap} {cI cJ cZ : ClassId} {ad : Nat → Nat} {r1 : Int32} {S1 : MS} (E : mE p c cX12_heardFrom s m args (Cond.code yX12_heardFrom cX12_heardFrom 8 (some .int) :: wsM) D cI cJ cZ) (hA : ∀ q : Nat, H0.size ≤ q → A q) (hR : sR s) (hml : c.maxLocals = 8) (kr69 : ∀ (H : Heap) (locs : List Loc) (ls : Array Slot), mG D cI cJ cZ ad A H0 H locs S1 → W p l e { frames := 3, cells := 0, slots := 0, locals := 66 } s m args below meth c H locs 0 0 Q (F0 m 69 ls [.int r1])) : ∀ (S : MS) (H : Heap) (locs : List Loc) (ls : Array Slot) (s0 : Int32), fr_heardFrom_b69 S s0 = some (r1, S1) → mG D cI cJ cZ ad A H0 H locs S → lv_has ls 8 [] → W p l e { frames := 3, cells := 0, slots := 0, locals := 66 } s m args below meth c H locs 0 0 Q (F0 m 69 ls [.int s0]) := by
  have hx := E.1
  have hb := E.2.1
  have hts := E.2.2.1
  have hown := E.2.2.2.1
  have hK := E.2.2.2.2.1
  intro S H locs ls s0 h G hl
  unfold fr_heardFrom_b69 at h
  rw [(osome2 h).2] at G
  refine lv_to (osome2 h).1 ?_
  exact kr69 _ _ _ G
def fr_heardFrom_b31  (S : MS) (s0 : Int32) (l6 : Int32) : Option (Int32 × MS) := elet (S.2.1 10 76) fun v2 => if v2 = 0 then (fr_heardFrom_b69 S s0) else (elet (S.2.1 10 76) fun v4 => elet (s0 * v4) fun v5 => elet (S.2.1 10 76) fun v6 => elet (v6 + l6) fun v7 => oif (¬ v7 = 0) <| elet (v5 / v7) fun v9 => fr_heardFrom_b69 S v9)
set_option maxHeartbeats 4000000 in
set_option maxRecDepth 100000 in
theorem tr_heardFrom_b31 {p : Program} {l : Launch} {e : Env} {s : State} {m : MethodId} {args : Array Value} {below : List Frame} {meth : Method} {c : Code} {Q : State → Prop} {D : va_G} {A : Nat → Prop} {H0 : Heap} {cI cJ cZ : ClassId} {ad : Nat → Nat} {r1 : Int32} {S1 : MS} (E : mE p c cX12_heardFrom s m args (Cond.code yX12_heardFrom cX12_heardFrom 8 (some .int) :: wsM) D cI cJ cZ) (hA : ∀ q : Nat, H0.size ≤ q → A q) (hR : sR s) (hml : c.maxLocals = 8) (kr69 : ∀ (H : Heap) (locs : List Loc) (ls : Array Slot), mG D cI cJ cZ ad A H0 H locs S1 → W p l e { frames := 3, cells := 0, slots := 0, locals := 66 } s m args below meth c H locs 0 0 Q (F0 m 69 ls [.int r1])) : ∀ (S : MS) (H : Heap) (locs : List Loc) (ls : Array Slot) (s0 : Int32) (l6 : Int32), fr_heardFrom_b31 S s0 l6 = some (r1, S1) → mG D cI cJ cZ ad A H0 H locs S → lv_has ls 8 [(0, .ref (ad 0)), (6, .int l6)] → W p l e { frames := 3, cells := 0, slots := 0, locals := 66 } s m args below meth c H locs 0 0 Q (F0 m 31 ls [.int s0]) := by
  have hx := E.1
  have hb := E.2.1
  have hts := E.2.2.1
  have hown := E.2.2.2.1
  have hK := E.2.2.2.2.1
  intro S H locs ls s0 l6 h G hl
  unfold fr_heardFrom_b31 at h
  refine lv_istore (lv' := [(7, .int s0), (0, .ref (ad 0)), (6, .int l6)]) hx hb dX12_heardFrom_31 hl (by decide) rfl (fun ls hl => ?_)
  refine lv_aload_n hx hb dX12_heardFrom_33 rfl (lv_at hl 1 rfl) ?_
  refine m_get E G 10 (v := .ref (ad 10)) (by decide) (.tail _ qM_7) rfl dX12_heardFrom_34 rfl ?_
  refine lv_bipush (v := 76) hx hb dX12_heardFrom_37 (by decide) ?_
  refine m_iald E G 10 2 (n := 131) (k := 76) rfl rfl (by decide) (by decide) dX12_heardFrom_39 ?_
  refine lv_topi (fun v2 ev2 => ?_)
  have h := elet_at ev2 h
  clear ev2
  refine lv_if_ne (tgt := 48) hx hb dX12_heardFrom_40 (by decide) (fun c3 => ?_) (fun c3 => ?_)
  · have h := oif_neg c3 h
    refine lv_iload hx hb dX12_heardFrom_48 (lv_at hl 0 rfl) ?_
    refine lv_aload_n hx hb dX12_heardFrom_50 rfl (lv_at hl 1 rfl) ?_
    refine m_get E G 10 (v := .ref (ad 10)) (by decide) (.tail _ qM_7) rfl dX12_heardFrom_51 rfl ?_
    refine lv_bipush (v := 76) hx hb dX12_heardFrom_54 (by decide) ?_
    refine m_iald E G 10 2 (n := 131) (k := 76) rfl rfl (by decide) (by decide) dX12_heardFrom_56 ?_
    refine lv_topi (fun v4 ev4 => ?_)
    have h := elet_at ev4 h
    clear ev4
    refine lv_imul hx hb dX12_heardFrom_57 ?_
    refine lv_topi (fun v5 ev5 => ?_)
    have h := elet_at ev5 h
    clear ev5
    refine lv_aload_n hx hb dX12_heardFrom_58 rfl (lv_at hl 1 rfl) ?_
    refine m_get E G 10 (v := .ref (ad 10)) (by decide) (.tail _ qM_7) rfl dX12_heardFrom_59 rfl ?_
    refine lv_bipush (v := 76) hx hb dX12_heardFrom_62 (by decide) ?_
    refine m_iald E G 10 2 (n := 131) (k := 76) rfl rfl (by decide) (by decide) dX12_heardFrom_64 ?_
    refine lv_topi (fun v6 ev6 => ?_)
    have h := elet_at ev6 h
    clear ev6
    refine lv_iload hx hb dX12_heardFrom_65 (lv_at hl 2 rfl) ?_
    refine lv_iadd hx hb dX12_heardFrom_67 ?_
    refine lv_topi (fun v7 ev7 => ?_)
    have h := elet_at ev7 h
    clear ev7
    obtain ⟨g8, h⟩ := oif_some h
    refine lv_idiv hx hb dX12_heardFrom_68 g8 ?_
    refine lv_topi (fun v9 ev9 => ?_)
    have h := elet_at ev9 h
    clear ev9
    have hl := lv_sub hl [] rfl
    exact tr_heardFrom_b69 E hA hR hml kr69 _ _ _ _ _ h G hl
  · have h := oif_pos c3 h
    refine lv_iload hx hb dX12_heardFrom_43 (lv_at hl 0 rfl) ?_
    refine lv_goto (tgt := 69) hx hb dX12_heardFrom_45 (by decide) ?_
    have hl := lv_sub hl [] rfl
    exact tr_heardFrom_b69 E hA hR hml kr69 _ _ _ _ _ h G hl
def fr_heardFrom (S : MS) (a0 : Int32) (a1 : Int32) (a2 : Int32) (a3 : Int32) (a4 : Int32) : Option (Int32 × MS) := obind2 (fr_delayFrom S a0 a1 a2) fun r5 S2 => if r5 ≤ a4 then (elet (a4 - r5) fun v7 => obind2 (fr_waveNow S2 a3 v7) fun r11 S8 => fr_heardFrom_b31 S8 r11 r5) else (fr_heardFrom_b31 S2 0 r5)
set_option maxHeartbeats 4000000 in
set_option maxRecDepth 100000 in
theorem tr_heardFrom (l : Launch) (D : va_G) (cI cJ cZ : ClassId) (ad : Nat → Nat) (S : MS) (a0 : Int32) (a1 : Int32) (a2 : Int32) (a3 : Int32) (a4 : Int32) {r1 : Int32} {S1 : MS} (h : fr_heardFrom S a0 a1 a2 a3 a4 = some (r1, S1)) : mCi l yX12_heardFrom (Cond.code yX12_heardFrom cX12_heardFrom 8 (some .int) :: wsM) 3 66 D cI cJ cZ ad S [.int a0, .int a1, .int a2, .int a3, .int a4] (fun r S9 => r = r1 ∧ S9 = S1) := by
  intro sz
  refine Met.ofW (cc := cX12_heardFrom) (maxL := 8) (ret := (some .int)) (by decide) rfl ?_
  intro p e s m args below meth c s₁ B hml hv
  obtain ⟨rfl, hsz, hP, hK, hD0, hR⟩ := hv
  have hx := B.exec
  have hb := B.bytes
  have hr := B.returns
  have hts := atoms_spec (ws := (Cond.code yX12_heardFrom cX12_heardFrom 8 (some .int) :: wsM)) B.pre
  have hown : s.vm.findClass RX12 = some m.cls := findClass_of_methodNamed B.named
  have hlocks := B.notSynchronized
  subst hsz
  have hD := hD0.self (sz := s.heap.size)
  generalize hAe : va_A (MW cI cJ cZ ad S) s.heap.size = A at hD ⊢
  have hA : ∀ q : Nat, s.heap.size ≤ q → A q := fun q h => by rw [← hAe]; exact Or.inr h
  have G : mG D cI cJ cZ ad A s.heap s.heap [] S := ⟨hP, hD, va_S.rf⟩
  have E : mE p c cX12_heardFrom s m ([.ref (ad 0), .int a0, .int a1, .int a2, .int a3, .int a4] : List Value).toArray (Cond.code yX12_heardFrom cX12_heardFrom 8 (some .int) :: wsM) D cI cJ cZ := ⟨hx, hb, hts, hown, hK, fun w h => .tail _ (iM_x h)⟩
  have hl := lv_entry ([.ref (ad 0), .int a0, .int a1, .int a2, .int a3, .int a4]) (n := 8) (Nat.le_of_ble_eq_true rfl)
  rw [lg_entry_eq]
  generalize (lg_sl ([.ref (ad 0), .int a0, .int a1, .int a2, .int a3, .int a4]) ++ List.replicate (8 - (lg_sl ([.ref (ad 0), .int a0, .int a1, .int a2, .int a3, .int a4])).length) Slot.unset).toArray = ls at hl ⊢
  have hl : lv_has ls 8 [(0, .ref (ad 0)), (1, .int a0), (2, .int a1), (3, .int a2), (4, .int a3), (5, .int a4)] := hl
  unfold fr_heardFrom at h
  refine lv_aload_n hx hb dX12_heardFrom_0 rfl (lv_at hl 0 rfl) ?_
  refine lv_iload_n hx hb dX12_heardFrom_1 rfl (lv_at hl 1 rfl) ?_
  refine lv_iload_n hx hb dX12_heardFrom_2 rfl (lv_at hl 2 rfl) ?_
  refine lv_iload_n hx hb dX12_heardFrom_3 rfl (lv_at hl 3 rfl) ?_
  obtain ⟨r5, S2, eS2, h⟩ := obind2_some h
  refine m_calli (As := [.int a0, .int a1, .int a2]) (rest := []) E G hA hR hml (tr_delayFrom l D cI cJ cZ ad S a0 a1 a2 eS2) (cwV 3 hts (gmV qM_212 qM_213 qM_214 qM_35 qM_215) rfl rfl rfl (by decide +kernel) ⟨Nat.le_of_ble_eq_true rfl, Nat.le_of_ble_eq_true rfl⟩) rfl hl.1 rfl (lv_room (Nat.le_of_ble_eq_true rfl)) dX12_heardFrom_4 ⟨Nat.zero_le _, Nat.zero_le _⟩ (fun q3 S4 H locs hq G => ?_)
  obtain ⟨hq1, hq2⟩ := hq
  rw [hq2] at G
  refine lv_to hq1 ?_
  clear hq1 hq2 eS2
  refine lv_istore (lv' := [(6, .int r5), (0, .ref (ad 0)), (1, .int a0), (2, .int a1), (3, .int a2), (4, .int a3), (5, .int a4)]) hx hb dX12_heardFrom_7 hl (by decide) rfl (fun ls hl => ?_)
  refine lv_iload hx hb dX12_heardFrom_9 (lv_at hl 6 rfl) ?_
  refine lv_iload hx hb dX12_heardFrom_11 (lv_at hl 0 rfl) ?_
  refine lv_icmp_ge (tgt := 20) hx hb dX12_heardFrom_13 (by decide) (fun c6 => ?_) (fun c6 => ?_)
  · have h := oif_pos c6 h
    refine lv_aload_n hx hb dX12_heardFrom_20 rfl (lv_at hl 1 rfl) ?_
    refine lv_iload hx hb dX12_heardFrom_21 (lv_at hl 5 rfl) ?_
    refine lv_iload hx hb dX12_heardFrom_23 (lv_at hl 6 rfl) ?_
    refine lv_iload hx hb dX12_heardFrom_25 (lv_at hl 0 rfl) ?_
    refine lv_isub hx hb dX12_heardFrom_27 ?_
    refine lv_topi (fun v7 ev7 => ?_)
    have h := elet_at ev7 h
    clear ev7
    obtain ⟨r11, S8, eS8, h⟩ := obind2_some h
    refine m_calli (As := [.int a3, .int v7]) (rest := []) E G hA hR hml (tr_waveNow l D cI cJ cZ ad S2 a3 v7 eS8) (cwV 2 hts (gmV qM_236 qM_237 qM_238 qM_35 qM_239) rfl rfl rfl (by decide +kernel) ⟨Nat.le_of_ble_eq_true rfl, Nat.le_of_ble_eq_true rfl⟩) rfl hl.1 rfl (lv_room (Nat.le_of_ble_eq_true rfl)) dX12_heardFrom_28 ⟨Nat.zero_le _, Nat.zero_le _⟩ (fun q9 S10 H locs hq G => ?_)
    obtain ⟨hq1, hq2⟩ := hq
    rw [hq2] at G
    refine lv_to hq1 ?_
    clear hq1 hq2 eS8
    have hl := lv_sub hl [1, 0] rfl
    exact tr_heardFrom_b31 E hA hR hml (fun H locs ls G => W.iret (v := r1) hx hb hr (fun t ht hW => ⟨⟨r1, S1, rfl, ⟨rfl, rfl⟩, ⟨by rw [ht]; exact G.1, va_K.moved hW.alike hK, G.2.1⟩⟩, G.2.2.F ht⟩) G.2.2.2.2 dX12_heardFrom_69) _ _ _ _ _ _ h G hl
  · have h := oif_neg c6 h
    refine lv_iconst (v := 0) hx hb dX12_heardFrom_16 (by decide) ?_
    refine lv_goto (tgt := 31) hx hb dX12_heardFrom_17 (by decide) ?_
    have hl := lv_sub hl [1, 0] rfl
    exact tr_heardFrom_b31 E hA hR hml (fun H locs ls G => W.iret (v := r1) hx hb hr (fun t ht hW => ⟨⟨r1, S1, rfl, ⟨rfl, rfl⟩, ⟨by rw [ht]; exact G.1, va_K.moved hW.alike hK, G.2.1⟩⟩, G.2.2.F ht⟩) G.2.2.2.2 dX12_heardFrom_69) _ _ _ _ _ _ h G hl
def fr_heardOf_b16  : Nat → MS → Int32 → Int32 → Int32 → Int32 → Int32 → Int32 → Int32 → Option (Int32 × MS)
  | 0, _, _, _, _, _, _, _, _ => none
  | n + 1, S, l1, l2, l3, l4, l5, l6, l7 => elet (S.2.1 10 71) fun v2 => if v2 ≤ l7 then (some (l6, S)) else (elet (72 + l7) fun v4 => oif (inb v4 131 = true) <| elet (S.2.1 10 v4.toNatClampNeg) fun v6 => elet (2 * v6) fun v7 => elet (v7 - l2) fun v8 => obind2 (fr_heardFrom S l1 v8 l3 l4 l5) fun r12 S9 => elet (74 + l7) fun v13 => oif (inb v13 131 = true) <| elet (S9.2.1 10 v13.toNatClampNeg) fun v15 => elet (r12 * v15) fun v16 => elet (v16 / 100) fun v17 => elet (l6 + v17) fun v18 => elet (l7 + Int32.ofInt (1)) fun v19 => fr_heardOf_b16 n S9 l1 l2 l3 l4 l5 v18 v19)
set_option maxHeartbeats 4000000 in
set_option maxRecDepth 100000 in
theorem tr_heardOf_b16 {p : Program} {l : Launch} {e : Env} {s : State} {m : MethodId} {args : Array Value} {below : List Frame} {meth : Method} {c : Code} {Q : State → Prop} {D : va_G} {A : Nat → Prop} {H0 : Heap} {cI cJ cZ : ClassId} {ad : Nat → Nat} {r1 : Int32} {S1 : MS} (E : mE p c cX12_heardOf s m args (Cond.code yX12_heardOf cX12_heardOf 8 (some .int) :: wsM) D cI cJ cZ) (hA : ∀ q : Nat, H0.size ≤ q → A q) (hR : sR s) (hml : c.maxLocals = 8) (kr79 : ∀ (H : Heap) (locs : List Loc) (ls : Array Slot), mG D cI cJ cZ ad A H0 H locs S1 → W p l e { frames := 4, cells := 0, slots := 0, locals := 93 } s m args below meth c H locs 0 0 Q (F0 m 79 ls [.int r1])) : ∀ n : Nat, ∀ (S : MS) (H : Heap) (locs : List Loc) (ls : Array Slot) (l1 : Int32) (l2 : Int32) (l3 : Int32) (l4 : Int32) (l5 : Int32) (l6 : Int32) (l7 : Int32), fr_heardOf_b16 n S l1 l2 l3 l4 l5 l6 l7 = some (r1, S1) → mG D cI cJ cZ ad A H0 H locs S → lv_has ls 8 [(0, .ref (ad 0)), (1, .int l1), (2, .int l2), (3, .int l3), (4, .int l4), (5, .int l5), (6, .int l6), (7, .int l7)] → W p l e { frames := 4, cells := 0, slots := 0, locals := 93 } s m args below meth c H locs 0 0 Q (F0 m 16 ls []) := by
  have hx := E.1
  have hb := E.2.1
  have hts := E.2.2.1
  have hown := E.2.2.2.1
  have hK := E.2.2.2.2.1
  intro n
  induction n with
  | zero =>
    intro S H locs ls l1 l2 l3 l4 l5 l6 l7 h
    have h : (none : Option (Int32 × MS)) = some (r1, S1) := h
    cases h
  | succ n ih =>
    intro S H locs ls l1 l2 l3 l4 l5 l6 l7 h G hl
    unfold fr_heardOf_b16 at h
    refine lv_iload hx hb dX12_heardOf_16 (lv_at hl 7 rfl) ?_
    refine lv_aload_n hx hb dX12_heardOf_18 rfl (lv_at hl 0 rfl) ?_
    refine m_get E G 10 (v := .ref (ad 10)) (by decide) (.tail _ qM_7) rfl dX12_heardOf_19 rfl ?_
    refine lv_bipush (v := 71) hx hb dX12_heardOf_22 (by decide) ?_
    refine m_iald E G 10 2 (n := 131) (k := 71) rfl rfl (by decide) (by decide) dX12_heardOf_24 ?_
    refine lv_topi (fun v2 ev2 => ?_)
    have h := elet_at ev2 h
    clear ev2
    refine lv_icmp_ge (tgt := 77) hx hb dX12_heardOf_25 (by decide) (fun c3 => ?_) (fun c3 => ?_)
    · have h := oif_pos c3 h
      refine lv_iload hx hb dX12_heardOf_77 (lv_at hl 6 rfl) ?_
      rw [(osome2 h).2] at G
      refine lv_to (osome2 h).1 ?_
      exact kr79 _ _ _ G
    · have h := oif_neg c3 h
      refine lv_iload hx hb dX12_heardOf_28 (lv_at hl 6 rfl) ?_
      refine lv_aload_n hx hb dX12_heardOf_30 rfl (lv_at hl 0 rfl) ?_
      refine lv_iload_n hx hb dX12_heardOf_31 rfl (lv_at hl 1 rfl) ?_
      refine lv_iconst (v := 2) hx hb dX12_heardOf_32 (by decide) ?_
      refine lv_aload_n hx hb dX12_heardOf_33 rfl (lv_at hl 0 rfl) ?_
      refine m_get E G 10 (v := .ref (ad 10)) (by decide) (.tail _ qM_7) rfl dX12_heardOf_34 rfl ?_
      refine lv_bipush (v := 72) hx hb dX12_heardOf_37 (by decide) ?_
      refine lv_iload hx hb dX12_heardOf_39 (lv_at hl 7 rfl) ?_
      refine lv_iadd hx hb dX12_heardOf_41 ?_
      refine lv_topi (fun v4 ev4 => ?_)
      have h := elet_at ev4 h
      clear ev4
      obtain ⟨g5, h⟩ := oif_some h
      refine m_iald E G 10 2 (n := 131) (k := v4.toNatClampNeg) rfl (inb_k g5).1 (inb_k g5).2 (by decide) dX12_heardOf_42 ?_
      refine lv_topi (fun v6 ev6 => ?_)
      have h := elet_at ev6 h
      clear ev6
      refine lv_imul hx hb dX12_heardOf_43 ?_
      refine lv_topi (fun v7 ev7 => ?_)
      have h := elet_at ev7 h
      clear ev7
      refine lv_iload_n hx hb dX12_heardOf_44 rfl (lv_at hl 2 rfl) ?_
      refine lv_isub hx hb dX12_heardOf_45 ?_
      refine lv_topi (fun v8 ev8 => ?_)
      have h := elet_at ev8 h
      clear ev8
      refine lv_iload_n hx hb dX12_heardOf_46 rfl (lv_at hl 3 rfl) ?_
      refine lv_iload hx hb dX12_heardOf_47 (lv_at hl 4 rfl) ?_
      refine lv_iload hx hb dX12_heardOf_49 (lv_at hl 5 rfl) ?_
      obtain ⟨r12, S9, eS9, h⟩ := obind2_some h
      refine m_calli (As := [.int l1, .int v8, .int l3, .int l4, .int l5]) (rest := [.int l6]) E G hA hR hml (tr_heardFrom l D cI cJ cZ ad S l1 v8 l3 l4 l5 eS9) (cwV 5 hts (gmV qM_232 qM_233 qM_234 qM_35 qM_235) rfl rfl rfl (by decide +kernel) ⟨Nat.le_of_ble_eq_true rfl, Nat.le_of_ble_eq_true rfl⟩) rfl hl.1 rfl (lv_room (Nat.le_of_ble_eq_true rfl)) dX12_heardOf_51 ⟨Nat.zero_le _, Nat.zero_le _⟩ (fun q10 S11 H locs hq G => ?_)
      obtain ⟨hq1, hq2⟩ := hq
      rw [hq2] at G
      refine lv_to hq1 ?_
      clear hq1 hq2 eS9
      refine lv_aload_n hx hb dX12_heardOf_54 rfl (lv_at hl 0 rfl) ?_
      refine m_get E G 10 (v := .ref (ad 10)) (by decide) (.tail _ qM_7) rfl dX12_heardOf_55 rfl ?_
      refine lv_bipush (v := 74) hx hb dX12_heardOf_58 (by decide) ?_
      refine lv_iload hx hb dX12_heardOf_60 (lv_at hl 7 rfl) ?_
      refine lv_iadd hx hb dX12_heardOf_62 ?_
      refine lv_topi (fun v13 ev13 => ?_)
      have h := elet_at ev13 h
      clear ev13
      obtain ⟨g14, h⟩ := oif_some h
      refine m_iald E G 10 2 (n := 131) (k := v13.toNatClampNeg) rfl (inb_k g14).1 (inb_k g14).2 (by decide) dX12_heardOf_63 ?_
      refine lv_topi (fun v15 ev15 => ?_)
      have h := elet_at ev15 h
      clear ev15
      refine lv_imul hx hb dX12_heardOf_64 ?_
      refine lv_topi (fun v16 ev16 => ?_)
      have h := elet_at ev16 h
      clear ev16
      refine lv_bipush (v := 100) hx hb dX12_heardOf_65 (by decide) ?_
      refine lv_idiv hx hb dX12_heardOf_67 (by decide) ?_
      refine lv_topi (fun v17 ev17 => ?_)
      have h := elet_at ev17 h
      clear ev17
      refine lv_iadd hx hb dX12_heardOf_68 ?_
      refine lv_topi (fun v18 ev18 => ?_)
      have h := elet_at ev18 h
      clear ev18
      refine lv_istore (lv' := [(6, .int v18), (0, .ref (ad 0)), (1, .int l1), (2, .int l2), (3, .int l3), (4, .int l4), (5, .int l5), (7, .int l7)]) hx hb dX12_heardOf_69 hl (by decide) rfl (fun ls hl => ?_)
      obtain ⟨v19, ev19, h⟩ := elet_some h
      refine lv_iinc (v := v19) (lv' := [(7, .int v19), (6, .int v18), (0, .ref (ad 0)), (1, .int l1), (2, .int l2), (3, .int l3), (4, .int l4), (5, .int l5)]) hx hb dX12_heardOf_71 hl (k := 7) rfl ev19.symm (by decide) rfl (fun ls hl => ?_)
      refine lv_goto (tgt := 16) hx hb dX12_heardOf_74 (by decide) ?_
      have hl := lv_sub hl [2, 3, 4, 5, 6, 7, 1, 0] rfl
      exact ih _ _ _ _ _ _ _ _ _ _ _ h G hl
def fr_heardOf (S : MS) (a0 : Int32) (a1 : Int32) (a2 : Int32) (a3 : Int32) (a4 : Int32) : Option (Int32 × MS) := obind2 (fr_heardFrom S a0 a1 a2 a3 a4) fun r5 S2 => fr_heardOf_b16 16384 S2 a0 a1 a2 a3 a4 r5 0
set_option maxHeartbeats 4000000 in
set_option maxRecDepth 100000 in
theorem tr_heardOf (l : Launch) (D : va_G) (cI cJ cZ : ClassId) (ad : Nat → Nat) (S : MS) (a0 : Int32) (a1 : Int32) (a2 : Int32) (a3 : Int32) (a4 : Int32) {r1 : Int32} {S1 : MS} (h : fr_heardOf S a0 a1 a2 a3 a4 = some (r1, S1)) : mCi l yX12_heardOf (Cond.code yX12_heardOf cX12_heardOf 8 (some .int) :: wsM) 4 93 D cI cJ cZ ad S [.int a0, .int a1, .int a2, .int a3, .int a4] (fun r S9 => r = r1 ∧ S9 = S1) := by
  intro sz
  refine Met.ofW (cc := cX12_heardOf) (maxL := 8) (ret := (some .int)) (by decide) rfl ?_
  intro p e s m args below meth c s₁ B hml hv
  obtain ⟨rfl, hsz, hP, hK, hD0, hR⟩ := hv
  have hx := B.exec
  have hb := B.bytes
  have hr := B.returns
  have hts := atoms_spec (ws := (Cond.code yX12_heardOf cX12_heardOf 8 (some .int) :: wsM)) B.pre
  have hown : s.vm.findClass RX12 = some m.cls := findClass_of_methodNamed B.named
  have hlocks := B.notSynchronized
  subst hsz
  have hD := hD0.self (sz := s.heap.size)
  generalize hAe : va_A (MW cI cJ cZ ad S) s.heap.size = A at hD ⊢
  have hA : ∀ q : Nat, s.heap.size ≤ q → A q := fun q h => by rw [← hAe]; exact Or.inr h
  have G : mG D cI cJ cZ ad A s.heap s.heap [] S := ⟨hP, hD, va_S.rf⟩
  have E : mE p c cX12_heardOf s m ([.ref (ad 0), .int a0, .int a1, .int a2, .int a3, .int a4] : List Value).toArray (Cond.code yX12_heardOf cX12_heardOf 8 (some .int) :: wsM) D cI cJ cZ := ⟨hx, hb, hts, hown, hK, fun w h => .tail _ (iM_x h)⟩
  have hl := lv_entry ([.ref (ad 0), .int a0, .int a1, .int a2, .int a3, .int a4]) (n := 8) (Nat.le_of_ble_eq_true rfl)
  rw [lg_entry_eq]
  generalize (lg_sl ([.ref (ad 0), .int a0, .int a1, .int a2, .int a3, .int a4]) ++ List.replicate (8 - (lg_sl ([.ref (ad 0), .int a0, .int a1, .int a2, .int a3, .int a4])).length) Slot.unset).toArray = ls at hl ⊢
  have hl : lv_has ls 8 [(0, .ref (ad 0)), (1, .int a0), (2, .int a1), (3, .int a2), (4, .int a3), (5, .int a4)] := hl
  unfold fr_heardOf at h
  refine lv_aload_n hx hb dX12_heardOf_0 rfl (lv_at hl 0 rfl) ?_
  refine lv_iload_n hx hb dX12_heardOf_1 rfl (lv_at hl 1 rfl) ?_
  refine lv_iload_n hx hb dX12_heardOf_2 rfl (lv_at hl 2 rfl) ?_
  refine lv_iload_n hx hb dX12_heardOf_3 rfl (lv_at hl 3 rfl) ?_
  refine lv_iload hx hb dX12_heardOf_4 (lv_at hl 4 rfl) ?_
  refine lv_iload hx hb dX12_heardOf_6 (lv_at hl 5 rfl) ?_
  obtain ⟨r5, S2, eS2, h⟩ := obind2_some h
  refine m_calli (As := [.int a0, .int a1, .int a2, .int a3, .int a4]) (rest := []) E G hA hR hml (tr_heardFrom l D cI cJ cZ ad S a0 a1 a2 a3 a4 eS2) (cwV 5 hts (gmV qM_232 qM_233 qM_234 qM_35 qM_235) rfl rfl rfl (by decide +kernel) ⟨Nat.le_of_ble_eq_true rfl, Nat.le_of_ble_eq_true rfl⟩) rfl hl.1 rfl (lv_room (Nat.le_of_ble_eq_true rfl)) dX12_heardOf_8 ⟨Nat.zero_le _, Nat.zero_le _⟩ (fun q3 S4 H locs hq G => ?_)
  obtain ⟨hq1, hq2⟩ := hq
  rw [hq2] at G
  refine lv_to hq1 ?_
  clear hq1 hq2 eS2
  refine lv_istore (lv' := [(6, .int r5), (0, .ref (ad 0)), (1, .int a0), (2, .int a1), (3, .int a2), (4, .int a3), (5, .int a4)]) hx hb dX12_heardOf_11 hl (by decide) rfl (fun ls hl => ?_)
  refine lv_iconst (v := 0) hx hb dX12_heardOf_13 (by decide) ?_
  refine lv_istore (lv' := [(7, .int 0), (6, .int r5), (0, .ref (ad 0)), (1, .int a0), (2, .int a1), (3, .int a2), (4, .int a3), (5, .int a4)]) hx hb dX12_heardOf_14 hl (by decide) rfl (fun ls hl => ?_)
  have hl := lv_sub hl [2, 3, 4, 5, 6, 7, 1, 0] rfl
  exact tr_heardOf_b16 E hA hR hml (fun H locs ls G => W.iret (v := r1) hx hb hr (fun t ht hW => ⟨⟨r1, S1, rfl, ⟨rfl, rfl⟩, ⟨by rw [ht]; exact G.1, va_K.moved hW.alike hK, G.2.1⟩⟩, G.2.2.F ht⟩) G.2.2.2.2 dX12_heardOf_79) _ _ _ _ _ _ _ _ _ _ _ _ h G hl
def fr_sourcePlace_12_b45  (S : MS) (s0 : Int32) : Option (Int32 × MS) := some (s0, S)
set_option maxHeartbeats 4000000 in
set_option maxRecDepth 100000 in
theorem tr_sourcePlace_12_b45 {p : Program} {l : Launch} {e : Env} {s : State} {m : MethodId} {args : Array Value} {below : List Frame} {meth : Method} {c : Code} {Q : State → Prop} {D : va_G} {A : Nat → Prop} {H0 : Heap} {cI cJ cZ : ClassId} {ad : Nat → Nat} {r1 : Int32} {S1 : MS} (E : mE p c cX12_sourcePlace s m args (Cond.code yX12_sourcePlace cX12_sourcePlace 5 (some .int) :: wsM) D cI cJ cZ) (hA : ∀ q : Nat, H0.size ≤ q → A q) (hR : sR s) (hml : c.maxLocals = 5) (kr45 : ∀ (H : Heap) (locs : List Loc) (ls : Array Slot), mG D cI cJ cZ ad A H0 H locs S1 → W p l e { frames := 1, cells := 0, slots := 0, locals := 0 } s m args below meth c H locs 0 0 Q (F0 m 45 ls [.int r1])) : ∀ (S : MS) (H : Heap) (locs : List Loc) (ls : Array Slot) (s0 : Int32), fr_sourcePlace_12_b45 S s0 = some (r1, S1) → mG D cI cJ cZ ad A H0 H locs S → lv_has ls 5 [] → W p l e { frames := 1, cells := 0, slots := 0, locals := 0 } s m args below meth c H locs 0 0 Q (F0 m 45 ls [.int s0]) := by
  have hx := E.1
  have hb := E.2.1
  have hts := E.2.2.1
  have hown := E.2.2.2.1
  have hK := E.2.2.2.2.1
  intro S H locs ls s0 h G hl
  unfold fr_sourcePlace_12_b45 at h
  rw [(osome2 h).2] at G
  refine lv_to (osome2 h).1 ?_
  exact kr45 _ _ _ G
def fr_sourcePlace_12 (S : MS) (a1 : Int32) (a2 : Int32) (a3 : Int32) : Option (Int32 × MS) := if a2 = 0 then (elet (31 + a1) fun v3 => oif (inb v3 2455 = true) <| elet (S.2.1 12 v3.toNatClampNeg) fun v5 => elet (43 + a1) fun v6 => oif (inb v6 2455 = true) <| elet (S.2.1 12 v6.toNatClampNeg) fun v8 => elet (v8 * a3) fun v9 => elet (v9 / 100) fun v10 => elet (v5 + v10) fun v11 => fr_sourcePlace_12_b45 S v11) else (elet (37 + a1) fun v12 => oif (inb v12 2455 = true) <| elet (S.2.1 12 v12.toNatClampNeg) fun v14 => elet (49 + a1) fun v15 => oif (inb v15 2455 = true) <| elet (S.2.1 12 v15.toNatClampNeg) fun v17 => elet (v17 * a3) fun v18 => elet (v18 / 100) fun v19 => elet (v14 + v19) fun v20 => fr_sourcePlace_12_b45 S v20)
set_option maxHeartbeats 4000000 in
set_option maxRecDepth 100000 in
theorem tr_sourcePlace_12 (l : Launch) (D : va_G) (cI cJ cZ : ClassId) (ad : Nat → Nat) (S : MS) (a1 : Int32) (a2 : Int32) (a3 : Int32) {r1 : Int32} {S1 : MS} (h : fr_sourcePlace_12 S a1 a2 a3 = some (r1, S1)) : mCi l yX12_sourcePlace (Cond.code yX12_sourcePlace cX12_sourcePlace 5 (some .int) :: wsM) 1 0 D cI cJ cZ ad S [.ref (ad 12), .int a1, .int a2, .int a3] (fun r S9 => r = r1 ∧ S9 = S1) := by
  intro sz
  refine Met.ofW (cc := cX12_sourcePlace) (maxL := 5) (ret := (some .int)) (by decide) rfl ?_
  intro p e s m args below meth c s₁ B hml hv
  obtain ⟨rfl, hsz, hP, hK, hD0, hR⟩ := hv
  have hx := B.exec
  have hb := B.bytes
  have hr := B.returns
  have hts := atoms_spec (ws := (Cond.code yX12_sourcePlace cX12_sourcePlace 5 (some .int) :: wsM)) B.pre
  have hown : s.vm.findClass RX12 = some m.cls := findClass_of_methodNamed B.named
  have hlocks := B.notSynchronized
  subst hsz
  have hD := hD0.self (sz := s.heap.size)
  generalize hAe : va_A (MW cI cJ cZ ad S) s.heap.size = A at hD ⊢
  have hA : ∀ q : Nat, s.heap.size ≤ q → A q := fun q h => by rw [← hAe]; exact Or.inr h
  have G : mG D cI cJ cZ ad A s.heap s.heap [] S := ⟨hP, hD, va_S.rf⟩
  have E : mE p c cX12_sourcePlace s m ([.ref (ad 0), .ref (ad 12), .int a1, .int a2, .int a3] : List Value).toArray (Cond.code yX12_sourcePlace cX12_sourcePlace 5 (some .int) :: wsM) D cI cJ cZ := ⟨hx, hb, hts, hown, hK, fun w h => .tail _ (iM_x h)⟩
  have hl := lv_entry ([.ref (ad 0), .ref (ad 12), .int a1, .int a2, .int a3]) (n := 5) (Nat.le_of_ble_eq_true rfl)
  rw [lg_entry_eq]
  generalize (lg_sl ([.ref (ad 0), .ref (ad 12), .int a1, .int a2, .int a3]) ++ List.replicate (5 - (lg_sl ([.ref (ad 0), .ref (ad 12), .int a1, .int a2, .int a3])).length) Slot.unset).toArray = ls at hl ⊢
  have hl : lv_has ls 5 [(0, .ref (ad 0)), (1, .ref (ad 12)), (2, .int a1), (3, .int a2), (4, .int a3)] := hl
  unfold fr_sourcePlace_12 at h
  refine lv_iload_n hx hb dX12_sourcePlace_0 rfl (lv_at hl 3 rfl) ?_
  refine lv_if_ne (tgt := 26) hx hb dX12_sourcePlace_1 (by decide) (fun c2 => ?_) (fun c2 => ?_)
  · have h := oif_neg c2 h
    refine lv_aload_n hx hb dX12_sourcePlace_26 rfl (lv_at hl 1 rfl) ?_
    refine lv_bipush (v := 37) hx hb dX12_sourcePlace_27 (by decide) ?_
    refine lv_iload_n hx hb dX12_sourcePlace_29 rfl (lv_at hl 2 rfl) ?_
    refine lv_iadd hx hb dX12_sourcePlace_30 ?_
    refine lv_topi (fun v12 ev12 => ?_)
    have h := elet_at ev12 h
    clear ev12
    obtain ⟨g13, h⟩ := oif_some h
    refine m_iald E G 12 4 (n := 2455) (k := v12.toNatClampNeg) rfl (inb_k g13).1 (inb_k g13).2 (by decide) dX12_sourcePlace_31 ?_
    refine lv_topi (fun v14 ev14 => ?_)
    have h := elet_at ev14 h
    clear ev14
    refine lv_aload_n hx hb dX12_sourcePlace_32 rfl (lv_at hl 1 rfl) ?_
    refine lv_bipush (v := 49) hx hb dX12_sourcePlace_33 (by decide) ?_
    refine lv_iload_n hx hb dX12_sourcePlace_35 rfl (lv_at hl 2 rfl) ?_
    refine lv_iadd hx hb dX12_sourcePlace_36 ?_
    refine lv_topi (fun v15 ev15 => ?_)
    have h := elet_at ev15 h
    clear ev15
    obtain ⟨g16, h⟩ := oif_some h
    refine m_iald E G 12 4 (n := 2455) (k := v15.toNatClampNeg) rfl (inb_k g16).1 (inb_k g16).2 (by decide) dX12_sourcePlace_37 ?_
    refine lv_topi (fun v17 ev17 => ?_)
    have h := elet_at ev17 h
    clear ev17
    refine lv_iload hx hb dX12_sourcePlace_38 (lv_at hl 4 rfl) ?_
    refine lv_imul hx hb dX12_sourcePlace_40 ?_
    refine lv_topi (fun v18 ev18 => ?_)
    have h := elet_at ev18 h
    clear ev18
    refine lv_bipush (v := 100) hx hb dX12_sourcePlace_41 (by decide) ?_
    refine lv_idiv hx hb dX12_sourcePlace_43 (by decide) ?_
    refine lv_topi (fun v19 ev19 => ?_)
    have h := elet_at ev19 h
    clear ev19
    refine lv_iadd hx hb dX12_sourcePlace_44 ?_
    refine lv_topi (fun v20 ev20 => ?_)
    have h := elet_at ev20 h
    clear ev20
    have hl := lv_sub hl [] rfl
    exact tr_sourcePlace_12_b45 E hA hR hml (fun H locs ls G => W.iret (v := r1) hx hb hr (fun t ht hW => ⟨⟨r1, S1, rfl, ⟨rfl, rfl⟩, ⟨by rw [ht]; exact G.1, va_K.moved hW.alike hK, G.2.1⟩⟩, G.2.2.F ht⟩) G.2.2.2.2 dX12_sourcePlace_45) _ _ _ _ _ h G hl
  · have h := oif_pos c2 h
    refine lv_aload_n hx hb dX12_sourcePlace_4 rfl (lv_at hl 1 rfl) ?_
    refine lv_bipush (v := 31) hx hb dX12_sourcePlace_5 (by decide) ?_
    refine lv_iload_n hx hb dX12_sourcePlace_7 rfl (lv_at hl 2 rfl) ?_
    refine lv_iadd hx hb dX12_sourcePlace_8 ?_
    refine lv_topi (fun v3 ev3 => ?_)
    have h := elet_at ev3 h
    clear ev3
    obtain ⟨g4, h⟩ := oif_some h
    refine m_iald E G 12 4 (n := 2455) (k := v3.toNatClampNeg) rfl (inb_k g4).1 (inb_k g4).2 (by decide) dX12_sourcePlace_9 ?_
    refine lv_topi (fun v5 ev5 => ?_)
    have h := elet_at ev5 h
    clear ev5
    refine lv_aload_n hx hb dX12_sourcePlace_10 rfl (lv_at hl 1 rfl) ?_
    refine lv_bipush (v := 43) hx hb dX12_sourcePlace_11 (by decide) ?_
    refine lv_iload_n hx hb dX12_sourcePlace_13 rfl (lv_at hl 2 rfl) ?_
    refine lv_iadd hx hb dX12_sourcePlace_14 ?_
    refine lv_topi (fun v6 ev6 => ?_)
    have h := elet_at ev6 h
    clear ev6
    obtain ⟨g7, h⟩ := oif_some h
    refine m_iald E G 12 4 (n := 2455) (k := v6.toNatClampNeg) rfl (inb_k g7).1 (inb_k g7).2 (by decide) dX12_sourcePlace_15 ?_
    refine lv_topi (fun v8 ev8 => ?_)
    have h := elet_at ev8 h
    clear ev8
    refine lv_iload hx hb dX12_sourcePlace_16 (lv_at hl 4 rfl) ?_
    refine lv_imul hx hb dX12_sourcePlace_18 ?_
    refine lv_topi (fun v9 ev9 => ?_)
    have h := elet_at ev9 h
    clear ev9
    refine lv_bipush (v := 100) hx hb dX12_sourcePlace_19 (by decide) ?_
    refine lv_idiv hx hb dX12_sourcePlace_21 (by decide) ?_
    refine lv_topi (fun v10 ev10 => ?_)
    have h := elet_at ev10 h
    clear ev10
    refine lv_iadd hx hb dX12_sourcePlace_22 ?_
    refine lv_topi (fun v11 ev11 => ?_)
    have h := elet_at ev11 h
    clear ev11
    refine lv_goto (tgt := 45) hx hb dX12_sourcePlace_23 (by decide) ?_
    have hl := lv_sub hl [] rfl
    exact tr_sourcePlace_12_b45 E hA hR hml (fun H locs ls G => W.iret (v := r1) hx hb hr (fun t ht hW => ⟨⟨r1, S1, rfl, ⟨rfl, rfl⟩, ⟨by rw [ht]; exact G.1, va_K.moved hW.alike hK, G.2.1⟩⟩, G.2.2.F ht⟩) G.2.2.2.2 dX12_sourcePlace_45) _ _ _ _ _ h G hl
def fr_rawAt_12_b127 (k71 : MS → Int32 → Int32 → Int32 → Int32 → Option (Int32 × MS)) (S : MS) (s0 : Int32) (s1 : Int32) (l2 : Int32) (l4 : Int32) (l6 : Int32) : Option (Int32 × MS) := elet (s1 + s0) fun v2 => elet (l6 + Int32.ofInt (1)) fun v3 => k71 S l2 l4 v2 v3
set_option maxHeartbeats 4000000 in
set_option maxRecDepth 100000 in
theorem tr_rawAt_12_b127 {p : Program} {l : Launch} {e : Env} {s : State} {m : MethodId} {args : Array Value} {below : List Frame} {meth : Method} {c : Code} {Q : State → Prop} {D : va_G} {A : Nat → Prop} {H0 : Heap} {cI cJ cZ : ClassId} {ad : Nat → Nat} {r1 : Int32} {S1 : MS} (E : mE p c cX12_rawAt s m args (Cond.code yX12_rawAt cX12_rawAt 7 (some .int) :: wsM) D cI cJ cZ) (hA : ∀ q : Nat, H0.size ≤ q → A q) (hR : sR s) (hml : c.maxLocals = 7) (kr19 : ∀ (H : Heap) (locs : List Loc) (ls : Array Slot), mG D cI cJ cZ ad A H0 H locs S1 → W p l e { frames := 5, cells := 0, slots := 0, locals := 120 } s m args below meth c H locs 0 0 Q (F0 m 19 ls [.int r1])) (kr64 : ∀ (H : Heap) (locs : List Loc) (ls : Array Slot), mG D cI cJ cZ ad A H0 H locs S1 → W p l e { frames := 5, cells := 0, slots := 0, locals := 120 } s m args below meth c H locs 0 0 Q (F0 m 64 ls [.int r1])) (kr148 : ∀ (H : Heap) (locs : List Loc) (ls : Array Slot), mG D cI cJ cZ ad A H0 H locs S1 → W p l e { frames := 5, cells := 0, slots := 0, locals := 120 } s m args below meth c H locs 0 0 Q (F0 m 148 ls [.int r1])) {k71 : MS → Int32 → Int32 → Int32 → Int32 → Option (Int32 × MS)} (hk71 : ∀ (S : MS) (H : Heap) (locs : List Loc) (ls : Array Slot) (l2 : Int32) (l4 : Int32) (l5 : Int32) (l6 : Int32), k71 S l2 l4 l5 l6 = some (r1, S1) → mG D cI cJ cZ ad A H0 H locs S → lv_has ls 7 [(0, .ref (ad 0)), (1, .ref (ad 12)), (2, .int l2), (4, .int l4), (5, .int l5), (6, .int l6)] → W p l e { frames := 5, cells := 0, slots := 0, locals := 120 } s m args below meth c H locs 0 0 Q (F0 m 71 ls [])) : ∀ (S : MS) (H : Heap) (locs : List Loc) (ls : Array Slot) (s0 : Int32) (s1 : Int32) (l2 : Int32) (l4 : Int32) (l6 : Int32), fr_rawAt_12_b127 k71 S s0 s1 l2 l4 l6 = some (r1, S1) → mG D cI cJ cZ ad A H0 H locs S → lv_has ls 7 [(0, .ref (ad 0)), (1, .ref (ad 12)), (2, .int l2), (4, .int l4), (6, .int l6)] → W p l e { frames := 5, cells := 0, slots := 0, locals := 120 } s m args below meth c H locs 0 0 Q (F0 m 127 ls [.int s0, .int s1]) := by
  have hx := E.1
  have hb := E.2.1
  have hts := E.2.2.1
  have hown := E.2.2.2.1
  have hK := E.2.2.2.2.1
  intro S H locs ls s0 s1 l2 l4 l6 h G hl
  unfold fr_rawAt_12_b127 at h
  refine lv_iadd hx hb dX12_rawAt_127 ?_
  refine lv_topi (fun v2 ev2 => ?_)
  have h := elet_at ev2 h
  clear ev2
  refine lv_istore (lv' := [(5, .int v2), (0, .ref (ad 0)), (1, .ref (ad 12)), (2, .int l2), (4, .int l4), (6, .int l6)]) hx hb dX12_rawAt_128 hl (by decide) rfl (fun ls hl => ?_)
  obtain ⟨v3, ev3, h⟩ := elet_some h
  refine lv_iinc (v := v3) (lv' := [(6, .int v3), (5, .int v2), (0, .ref (ad 0)), (1, .ref (ad 12)), (2, .int l2), (4, .int l4)]) hx hb dX12_rawAt_130 hl (k := 5) rfl ev3.symm (by decide) rfl (fun ls hl => ?_)
  refine lv_goto (tgt := 71) hx hb dX12_rawAt_133 (by decide) ?_
  have hl := lv_sub hl [2, 3, 4, 5, 1, 0] rfl
  exact hk71 _ _ _ _ _ _ _ _ h G hl
def fr_rawAt_12_b71  : Nat → MS → Int32 → Int32 → Int32 → Int32 → Option (Int32 × MS)
  | 0, _, _, _, _, _ => none
  | n + 1, S, l2, l4, l5, l6 => elet (S.2.1 10 5) fun v2 => if v2 ≤ l6 then (elet (35 + l2) fun v4 => oif (inb v4 131 = true) <| elet (S.2.1 10 v4.toNatClampNeg) fun v6 => elet (v6 * l5) fun v7 => some (v7, S)) else (elet (25 + l6) fun v8 => oif (inb v8 2455 = true) <| elet (S.2.1 12 v8.toNatClampNeg) fun v10 => if v10 = 0 then (fr_rawAt_12_b127 (fr_rawAt_12_b71 n) S 0 l5 l2 l4 l6) else (obind2 (fr_sourcePlace_12 S l6 0 l4) fun r15 S12 => obind2 (fr_sourcePlace_12 S12 l6 1 l4) fun r19 S16 => obind2 (fr_heardOf S16 l2 r15 r19 l6 l4) fun r23 S20 => fr_rawAt_12_b127 (fr_rawAt_12_b71 n) S20 r23 l5 l2 l4 l6))
set_option maxHeartbeats 4000000 in
set_option maxRecDepth 100000 in
theorem tr_rawAt_12_b71 {p : Program} {l : Launch} {e : Env} {s : State} {m : MethodId} {args : Array Value} {below : List Frame} {meth : Method} {c : Code} {Q : State → Prop} {D : va_G} {A : Nat → Prop} {H0 : Heap} {cI cJ cZ : ClassId} {ad : Nat → Nat} {r1 : Int32} {S1 : MS} (E : mE p c cX12_rawAt s m args (Cond.code yX12_rawAt cX12_rawAt 7 (some .int) :: wsM) D cI cJ cZ) (hA : ∀ q : Nat, H0.size ≤ q → A q) (hR : sR s) (hml : c.maxLocals = 7) (kr19 : ∀ (H : Heap) (locs : List Loc) (ls : Array Slot), mG D cI cJ cZ ad A H0 H locs S1 → W p l e { frames := 5, cells := 0, slots := 0, locals := 120 } s m args below meth c H locs 0 0 Q (F0 m 19 ls [.int r1])) (kr64 : ∀ (H : Heap) (locs : List Loc) (ls : Array Slot), mG D cI cJ cZ ad A H0 H locs S1 → W p l e { frames := 5, cells := 0, slots := 0, locals := 120 } s m args below meth c H locs 0 0 Q (F0 m 64 ls [.int r1])) (kr148 : ∀ (H : Heap) (locs : List Loc) (ls : Array Slot), mG D cI cJ cZ ad A H0 H locs S1 → W p l e { frames := 5, cells := 0, slots := 0, locals := 120 } s m args below meth c H locs 0 0 Q (F0 m 148 ls [.int r1])) : ∀ n : Nat, ∀ (S : MS) (H : Heap) (locs : List Loc) (ls : Array Slot) (l2 : Int32) (l4 : Int32) (l5 : Int32) (l6 : Int32), fr_rawAt_12_b71 n S l2 l4 l5 l6 = some (r1, S1) → mG D cI cJ cZ ad A H0 H locs S → lv_has ls 7 [(0, .ref (ad 0)), (1, .ref (ad 12)), (2, .int l2), (4, .int l4), (5, .int l5), (6, .int l6)] → W p l e { frames := 5, cells := 0, slots := 0, locals := 120 } s m args below meth c H locs 0 0 Q (F0 m 71 ls []) := by
  have hx := E.1
  have hb := E.2.1
  have hts := E.2.2.1
  have hown := E.2.2.2.1
  have hK := E.2.2.2.2.1
  intro n
  induction n with
  | zero =>
    intro S H locs ls l2 l4 l5 l6 h
    have h : (none : Option (Int32 × MS)) = some (r1, S1) := h
    cases h
  | succ n ih =>
    intro S H locs ls l2 l4 l5 l6 h G hl
    unfold fr_rawAt_12_b71 at h
    refine lv_iload hx hb dX12_rawAt_71 (lv_at hl 5 rfl) ?_
    refine lv_aload_n hx hb dX12_rawAt_73 rfl (lv_at hl 0 rfl) ?_
    refine m_get E G 10 (v := .ref (ad 10)) (by decide) (.tail _ qM_7) rfl dX12_rawAt_74 rfl ?_
    refine lv_iconst (v := 5) hx hb dX12_rawAt_77 (by decide) ?_
    refine m_iald E G 10 2 (n := 131) (k := 5) rfl rfl (by decide) (by decide) dX12_rawAt_78 ?_
    refine lv_topi (fun v2 ev2 => ?_)
    have h := elet_at ev2 h
    clear ev2
    refine lv_icmp_ge (tgt := 136) hx hb dX12_rawAt_79 (by decide) (fun c3 => ?_) (fun c3 => ?_)
    · have h := oif_pos c3 h
      refine lv_aload_n hx hb dX12_rawAt_136 rfl (lv_at hl 0 rfl) ?_
      refine m_get E G 10 (v := .ref (ad 10)) (by decide) (.tail _ qM_7) rfl dX12_rawAt_137 rfl ?_
      refine lv_bipush (v := 35) hx hb dX12_rawAt_140 (by decide) ?_
      refine lv_iload_n hx hb dX12_rawAt_142 rfl (lv_at hl 2 rfl) ?_
      refine lv_iadd hx hb dX12_rawAt_143 ?_
      refine lv_topi (fun v4 ev4 => ?_)
      have h := elet_at ev4 h
      clear ev4
      obtain ⟨g5, h⟩ := oif_some h
      refine m_iald E G 10 2 (n := 131) (k := v4.toNatClampNeg) rfl (inb_k g5).1 (inb_k g5).2 (by decide) dX12_rawAt_144 ?_
      refine lv_topi (fun v6 ev6 => ?_)
      have h := elet_at ev6 h
      clear ev6
      refine lv_iload hx hb dX12_rawAt_145 (lv_at hl 4 rfl) ?_
      refine lv_imul hx hb dX12_rawAt_147 ?_
      refine lv_topi (fun v7 ev7 => ?_)
      have h := elet_at ev7 h
      clear ev7
      rw [(osome2 h).2] at G
      refine lv_to (osome2 h).1 ?_
      exact kr148 _ _ _ G
    · have h := oif_neg c3 h
      refine lv_iload hx hb dX12_rawAt_82 (lv_at hl 4 rfl) ?_
      refine lv_aload_n hx hb dX12_rawAt_84 rfl (lv_at hl 1 rfl) ?_
      refine lv_bipush (v := 25) hx hb dX12_rawAt_85 (by decide) ?_
      refine lv_iload hx hb dX12_rawAt_87 (lv_at hl 5 rfl) ?_
      refine lv_iadd hx hb dX12_rawAt_89 ?_
      refine lv_topi (fun v8 ev8 => ?_)
      have h := elet_at ev8 h
      clear ev8
      obtain ⟨g9, h⟩ := oif_some h
      refine m_iald E G 12 4 (n := 2455) (k := v8.toNatClampNeg) rfl (inb_k g9).1 (inb_k g9).2 (by decide) dX12_rawAt_90 ?_
      refine lv_topi (fun v10 ev10 => ?_)
      have h := elet_at ev10 h
      clear ev10
      refine lv_if_ne (tgt := 98) hx hb dX12_rawAt_91 (by decide) (fun c11 => ?_) (fun c11 => ?_)
      · have h := oif_neg c11 h
        refine lv_aload_n hx hb dX12_rawAt_98 rfl (lv_at hl 0 rfl) ?_
        refine lv_iload_n hx hb dX12_rawAt_99 rfl (lv_at hl 2 rfl) ?_
        refine lv_aload_n hx hb dX12_rawAt_100 rfl (lv_at hl 0 rfl) ?_
        refine lv_aload_n hx hb dX12_rawAt_101 rfl (lv_at hl 1 rfl) ?_
        refine lv_iload hx hb dX12_rawAt_102 (lv_at hl 5 rfl) ?_
        refine lv_iconst (v := 0) hx hb dX12_rawAt_104 (by decide) ?_
        refine lv_iload hx hb dX12_rawAt_105 (lv_at hl 3 rfl) ?_
        obtain ⟨r15, S12, eS12, h⟩ := obind2_some h
        refine m_calli (As := [.ref (ad 12), .int l6, .int 0, .int l4]) (rest := [.int l2, .ref (ad 0), .int l5]) E G hA hR hml (tr_sourcePlace_12 l D cI cJ cZ ad S l6 0 l4 eS12) (cwV 4 hts (gmV qM_250 qM_251 qM_252 qM_35 qM_253) rfl rfl rfl (by decide +kernel) ⟨Nat.le_of_ble_eq_true rfl, Nat.le_of_ble_eq_true rfl⟩) rfl hl.1 rfl (lv_room (Nat.le_of_ble_eq_true rfl)) dX12_rawAt_107 ⟨Nat.zero_le _, Nat.zero_le _⟩ (fun q13 S14 H locs hq G => ?_)
        obtain ⟨hq1, hq2⟩ := hq
        rw [hq2] at G
        refine lv_to hq1 ?_
        clear hq1 hq2 eS12
        refine lv_aload_n hx hb dX12_rawAt_110 rfl (lv_at hl 0 rfl) ?_
        refine lv_aload_n hx hb dX12_rawAt_111 rfl (lv_at hl 1 rfl) ?_
        refine lv_iload hx hb dX12_rawAt_112 (lv_at hl 5 rfl) ?_
        refine lv_iconst (v := 1) hx hb dX12_rawAt_114 (by decide) ?_
        refine lv_iload hx hb dX12_rawAt_115 (lv_at hl 3 rfl) ?_
        obtain ⟨r19, S16, eS16, h⟩ := obind2_some h
        refine m_calli (As := [.ref (ad 12), .int l6, .int 1, .int l4]) (rest := [.int r15, .int l2, .ref (ad 0), .int l5]) E G hA hR hml (tr_sourcePlace_12 l D cI cJ cZ ad S12 l6 1 l4 eS16) (cwV 4 hts (gmV qM_250 qM_251 qM_252 qM_35 qM_253) rfl rfl rfl (by decide +kernel) ⟨Nat.le_of_ble_eq_true rfl, Nat.le_of_ble_eq_true rfl⟩) rfl hl.1 rfl (lv_room (Nat.le_of_ble_eq_true rfl)) dX12_rawAt_117 ⟨Nat.zero_le _, Nat.zero_le _⟩ (fun q17 S18 H locs hq G => ?_)
        obtain ⟨hq1, hq2⟩ := hq
        rw [hq2] at G
        refine lv_to hq1 ?_
        clear hq1 hq2 eS16
        refine lv_iload hx hb dX12_rawAt_120 (lv_at hl 5 rfl) ?_
        refine lv_iload hx hb dX12_rawAt_122 (lv_at hl 3 rfl) ?_
        obtain ⟨r23, S20, eS20, h⟩ := obind2_some h
        refine m_calli (As := [.int l2, .int r15, .int r19, .int l6, .int l4]) (rest := [.int l5]) E G hA hR hml (tr_heardOf l D cI cJ cZ ad S16 l2 r15 r19 l6 l4 eS20) (cwV 5 hts (gmV qM_228 qM_229 qM_230 qM_35 qM_231) rfl rfl rfl (by decide +kernel) ⟨Nat.le_of_ble_eq_true rfl, Nat.le_of_ble_eq_true rfl⟩) rfl hl.1 rfl (lv_room (Nat.le_of_ble_eq_true rfl)) dX12_rawAt_124 ⟨Nat.zero_le _, Nat.zero_le _⟩ (fun q21 S22 H locs hq G => ?_)
        obtain ⟨hq1, hq2⟩ := hq
        rw [hq2] at G
        refine lv_to hq1 ?_
        clear hq1 hq2 eS20
        have hl := lv_sub hl [0, 1, 2, 3, 5] rfl
        exact tr_rawAt_12_b127 E hA hR hml kr19 kr64 kr148 ih _ _ _ _ _ _ _ _ _ h G hl
      · have h := oif_pos c11 h
        refine lv_iconst (v := 0) hx hb dX12_rawAt_94 (by decide) ?_
        refine lv_goto (tgt := 127) hx hb dX12_rawAt_95 (by decide) ?_
        have hl := lv_sub hl [0, 1, 2, 3, 5] rfl
        exact tr_rawAt_12_b127 E hA hR hml kr19 kr64 kr148 ih _ _ _ _ _ _ _ _ _ h G hl
def fr_rawAt_12 (S : MS) (a1 : Int32) (a2 : Int32) : Option (Int32 × MS) := elet (83 + a1) fun v2 => oif (inb v2 131 = true) <| elet (S.2.1 10 v2.toNatClampNeg) fun v4 => elet (a2 - v4) fun v5 => if 0 ≤ v5 then (elet (S.1 21) fun v7 => if v7 = (-1) then (fr_rawAt_12_b71 16384 S a1 v5 0 0) else (elet (35 + a1) fun v9 => oif (inb v9 131 = true) <| elet (S.2.1 10 v9.toNatClampNeg) fun v11 => elet (S.1 21) fun v12 => obind2 (fr_centre S v12 0) fun r16 S13 => elet (S13.1 21) fun v17 => obind2 (fr_centre S13 v17 1) fun r21 S18 => obind2 (fr_heardOf S18 a1 r16 r21 0 v5) fun r25 S22 => elet (v11 * r25) fun v26 => some (v26, S22))) else (some (0, S))
set_option maxHeartbeats 4000000 in
set_option maxRecDepth 100000 in
theorem tr_rawAt_12 (l : Launch) (D : va_G) (cI cJ cZ : ClassId) (ad : Nat → Nat) (S : MS) (a1 : Int32) (a2 : Int32) {r1 : Int32} {S1 : MS} (h : fr_rawAt_12 S a1 a2 = some (r1, S1)) : mCi l yX12_rawAt (Cond.code yX12_rawAt cX12_rawAt 7 (some .int) :: wsM) 5 120 D cI cJ cZ ad S [.ref (ad 12), .int a1, .int a2] (fun r S9 => r = r1 ∧ S9 = S1) := by
  intro sz
  refine Met.ofW (cc := cX12_rawAt) (maxL := 7) (ret := (some .int)) (by decide) rfl ?_
  intro p e s m args below meth c s₁ B hml hv
  obtain ⟨rfl, hsz, hP, hK, hD0, hR⟩ := hv
  have hx := B.exec
  have hb := B.bytes
  have hr := B.returns
  have hts := atoms_spec (ws := (Cond.code yX12_rawAt cX12_rawAt 7 (some .int) :: wsM)) B.pre
  have hown : s.vm.findClass RX12 = some m.cls := findClass_of_methodNamed B.named
  have hlocks := B.notSynchronized
  subst hsz
  have hD := hD0.self (sz := s.heap.size)
  generalize hAe : va_A (MW cI cJ cZ ad S) s.heap.size = A at hD ⊢
  have hA : ∀ q : Nat, s.heap.size ≤ q → A q := fun q h => by rw [← hAe]; exact Or.inr h
  have G : mG D cI cJ cZ ad A s.heap s.heap [] S := ⟨hP, hD, va_S.rf⟩
  have E : mE p c cX12_rawAt s m ([.ref (ad 0), .ref (ad 12), .int a1, .int a2] : List Value).toArray (Cond.code yX12_rawAt cX12_rawAt 7 (some .int) :: wsM) D cI cJ cZ := ⟨hx, hb, hts, hown, hK, fun w h => .tail _ (iM_x h)⟩
  have hl := lv_entry ([.ref (ad 0), .ref (ad 12), .int a1, .int a2]) (n := 7) (Nat.le_of_ble_eq_true rfl)
  rw [lg_entry_eq]
  generalize (lg_sl ([.ref (ad 0), .ref (ad 12), .int a1, .int a2]) ++ List.replicate (7 - (lg_sl ([.ref (ad 0), .ref (ad 12), .int a1, .int a2])).length) Slot.unset).toArray = ls at hl ⊢
  have hl : lv_has ls 7 [(0, .ref (ad 0)), (1, .ref (ad 12)), (2, .int a1), (3, .int a2)] := hl
  unfold fr_rawAt_12 at h
  refine lv_iload_n hx hb dX12_rawAt_0 rfl (lv_at hl 3 rfl) ?_
  refine lv_aload_n hx hb dX12_rawAt_1 rfl (lv_at hl 0 rfl) ?_
  refine m_get E G 10 (v := .ref (ad 10)) (by decide) (.tail _ qM_7) rfl dX12_rawAt_2 rfl ?_
  refine lv_bipush (v := 83) hx hb dX12_rawAt_5 (by decide) ?_
  refine lv_iload_n hx hb dX12_rawAt_7 rfl (lv_at hl 2 rfl) ?_
  refine lv_iadd hx hb dX12_rawAt_8 ?_
  refine lv_topi (fun v2 ev2 => ?_)
  have h := elet_at ev2 h
  clear ev2
  obtain ⟨g3, h⟩ := oif_some h
  refine m_iald E G 10 2 (n := 131) (k := v2.toNatClampNeg) rfl (inb_k g3).1 (inb_k g3).2 (by decide) dX12_rawAt_9 ?_
  refine lv_topi (fun v4 ev4 => ?_)
  have h := elet_at ev4 h
  clear ev4
  refine lv_isub hx hb dX12_rawAt_10 ?_
  refine lv_topi (fun v5 ev5 => ?_)
  have h := elet_at ev5 h
  clear ev5
  refine lv_istore (lv' := [(4, .int v5), (0, .ref (ad 0)), (1, .ref (ad 12)), (2, .int a1), (3, .int a2)]) hx hb dX12_rawAt_11 hl (by decide) rfl (fun ls hl => ?_)
  refine lv_iload hx hb dX12_rawAt_13 (lv_at hl 0 rfl) ?_
  refine lv_if_ge (tgt := 20) hx hb dX12_rawAt_15 (by decide) (fun c6 => ?_) (fun c6 => ?_)
  · have h := oif_pos c6 h
    refine lv_aload_n hx hb dX12_rawAt_20 rfl (lv_at hl 1 rfl) ?_
    refine m_get E G 21 (v := .int (S.1 21)) (by decide) (.tail _ qM_17) rfl dX12_rawAt_21 rfl ?_
    refine lv_topi (fun v7 ev7 => ?_)
    have h := elet_at ev7 h
    clear ev7
    refine lv_iconst (v := (-1)) hx hb dX12_rawAt_24 (by decide) ?_
    refine lv_icmp_eq (tgt := 65) hx hb dX12_rawAt_25 (by decide) (fun c8 => ?_) (fun c8 => ?_)
    · have h := oif_pos c8 h
      refine lv_iconst (v := 0) hx hb dX12_rawAt_65 (by decide) ?_
      refine lv_istore (lv' := [(5, .int 0), (4, .int v5), (0, .ref (ad 0)), (1, .ref (ad 12)), (2, .int a1), (3, .int a2)]) hx hb dX12_rawAt_66 hl (by decide) rfl (fun ls hl => ?_)
      refine lv_iconst (v := 0) hx hb dX12_rawAt_68 (by decide) ?_
      refine lv_istore (lv' := [(6, .int 0), (5, .int 0), (4, .int v5), (0, .ref (ad 0)), (1, .ref (ad 12)), (2, .int a1), (3, .int a2)]) hx hb dX12_rawAt_69 hl (by decide) rfl (fun ls hl => ?_)
      have hl := lv_sub hl [3, 4, 5, 2, 1, 0] rfl
      exact tr_rawAt_12_b71 E hA hR hml (fun H locs ls G => W.iret (v := r1) hx hb hr (fun t ht hW => ⟨⟨r1, S1, rfl, ⟨rfl, rfl⟩, ⟨by rw [ht]; exact G.1, va_K.moved hW.alike hK, G.2.1⟩⟩, G.2.2.F ht⟩) G.2.2.2.2 dX12_rawAt_19) (fun H locs ls G => W.iret (v := r1) hx hb hr (fun t ht hW => ⟨⟨r1, S1, rfl, ⟨rfl, rfl⟩, ⟨by rw [ht]; exact G.1, va_K.moved hW.alike hK, G.2.1⟩⟩, G.2.2.F ht⟩) G.2.2.2.2 dX12_rawAt_64) (fun H locs ls G => W.iret (v := r1) hx hb hr (fun t ht hW => ⟨⟨r1, S1, rfl, ⟨rfl, rfl⟩, ⟨by rw [ht]; exact G.1, va_K.moved hW.alike hK, G.2.1⟩⟩, G.2.2.F ht⟩) G.2.2.2.2 dX12_rawAt_148) _ _ _ _ _ _ _ _ _ h G hl
    · have h := oif_neg c8 h
      refine lv_aload_n hx hb dX12_rawAt_28 rfl (lv_at hl 1 rfl) ?_
      refine m_get E G 10 (v := .ref (ad 10)) (by decide) (.tail _ qM_7) rfl dX12_rawAt_29 rfl ?_
      refine lv_bipush (v := 35) hx hb dX12_rawAt_32 (by decide) ?_
      refine lv_iload_n hx hb dX12_rawAt_34 rfl (lv_at hl 3 rfl) ?_
      refine lv_iadd hx hb dX12_rawAt_35 ?_
      refine lv_topi (fun v9 ev9 => ?_)
      have h := elet_at ev9 h
      clear ev9
      obtain ⟨g10, h⟩ := oif_some h
      refine m_iald E G 10 2 (n := 131) (k := v9.toNatClampNeg) rfl (inb_k g10).1 (inb_k g10).2 (by decide) dX12_rawAt_36 ?_
      refine lv_topi (fun v11 ev11 => ?_)
      have h := elet_at ev11 h
      clear ev11
      refine lv_aload_n hx hb dX12_rawAt_37 rfl (lv_at hl 1 rfl) ?_
      refine lv_iload_n hx hb dX12_rawAt_38 rfl (lv_at hl 3 rfl) ?_
      refine lv_aload_n hx hb dX12_rawAt_39 rfl (lv_at hl 1 rfl) ?_
      refine lv_aload_n hx hb dX12_rawAt_40 rfl (lv_at hl 1 rfl) ?_
      refine m_get E G 21 (v := .int (S.1 21)) (by decide) (.tail _ qM_17) rfl dX12_rawAt_41 rfl ?_
      refine lv_topi (fun v12 ev12 => ?_)
      have h := elet_at ev12 h
      clear ev12
      refine lv_iconst (v := 0) hx hb dX12_rawAt_44 (by decide) ?_
      obtain ⟨r16, S13, eS13, h⟩ := obind2_some h
      refine m_calli (As := [.int v12, .int 0]) (rest := [.int a1, .ref (ad 0), .int v11]) E G hA hR hml (tr_centre l D cI cJ cZ ad S v12 0 eS13) (cwV 2 hts (gmV qM_208 qM_209 qM_210 qM_35 qM_211) rfl rfl rfl (by decide +kernel) ⟨Nat.le_of_ble_eq_true rfl, Nat.le_of_ble_eq_true rfl⟩) rfl hl.1 rfl (lv_room (Nat.le_of_ble_eq_true rfl)) dX12_rawAt_45 ⟨Nat.zero_le _, Nat.zero_le _⟩ (fun q14 S15 H locs hq G => ?_)
      obtain ⟨hq1, hq2⟩ := hq
      rw [hq2] at G
      refine lv_to hq1 ?_
      clear hq1 hq2 eS13
      refine lv_aload_n hx hb dX12_rawAt_48 rfl (lv_at hl 1 rfl) ?_
      refine lv_aload_n hx hb dX12_rawAt_49 rfl (lv_at hl 1 rfl) ?_
      refine m_get E G 21 (v := .int (S13.1 21)) (by decide) (.tail _ qM_17) rfl dX12_rawAt_50 rfl ?_
      refine lv_topi (fun v17 ev17 => ?_)
      have h := elet_at ev17 h
      clear ev17
      refine lv_iconst (v := 1) hx hb dX12_rawAt_53 (by decide) ?_
      obtain ⟨r21, S18, eS18, h⟩ := obind2_some h
      refine m_calli (As := [.int v17, .int 1]) (rest := [.int r16, .int a1, .ref (ad 0), .int v11]) E G hA hR hml (tr_centre l D cI cJ cZ ad S13 v17 1 eS18) (cwV 2 hts (gmV qM_208 qM_209 qM_210 qM_35 qM_211) rfl rfl rfl (by decide +kernel) ⟨Nat.le_of_ble_eq_true rfl, Nat.le_of_ble_eq_true rfl⟩) rfl hl.1 rfl (lv_room (Nat.le_of_ble_eq_true rfl)) dX12_rawAt_54 ⟨Nat.zero_le _, Nat.zero_le _⟩ (fun q19 S20 H locs hq G => ?_)
      obtain ⟨hq1, hq2⟩ := hq
      rw [hq2] at G
      refine lv_to hq1 ?_
      clear hq1 hq2 eS18
      refine lv_iconst (v := 0) hx hb dX12_rawAt_57 (by decide) ?_
      refine lv_iload hx hb dX12_rawAt_58 (lv_at hl 0 rfl) ?_
      obtain ⟨r25, S22, eS22, h⟩ := obind2_some h
      refine m_calli (As := [.int a1, .int r16, .int r21, .int 0, .int v5]) (rest := [.int v11]) E G hA hR hml (tr_heardOf l D cI cJ cZ ad S18 a1 r16 r21 0 v5 eS22) (cwV 5 hts (gmV qM_228 qM_229 qM_230 qM_35 qM_231) rfl rfl rfl (by decide +kernel) ⟨Nat.le_of_ble_eq_true rfl, Nat.le_of_ble_eq_true rfl⟩) rfl hl.1 rfl (lv_room (Nat.le_of_ble_eq_true rfl)) dX12_rawAt_60 ⟨Nat.zero_le _, Nat.zero_le _⟩ (fun q23 S24 H locs hq G => ?_)
      obtain ⟨hq1, hq2⟩ := hq
      rw [hq2] at G
      refine lv_to hq1 ?_
      clear hq1 hq2 eS22
      refine lv_imul hx hb dX12_rawAt_63 ?_
      refine lv_topi (fun v26 ev26 => ?_)
      have h := elet_at ev26 h
      clear ev26
      exact W.iret (v := v26) hx hb hr (fun t ht hW => ⟨⟨v26, S22, rfl, osome2 h, ⟨by rw [ht]; exact G.1, va_K.moved hW.alike hK, G.2.1⟩⟩, G.2.2.F ht⟩) G.2.2.2.2 dX12_rawAt_64
  · have h := oif_neg c6 h
    refine lv_iconst (v := 0) hx hb dX12_rawAt_18 (by decide) ?_
    exact W.iret (v := 0) hx hb hr (fun t ht hW => ⟨⟨0, S, rfl, osome2 h, ⟨by rw [ht]; exact G.1, va_K.moved hW.alike hK, G.2.1⟩⟩, G.2.2.F ht⟩) G.2.2.2.2 dX12_rawAt_19
def fr_filtered_b64  (S : MS) (l2 : Int32) : Option (Int32 × MS) := some (l2, S)
set_option maxHeartbeats 4000000 in
set_option maxRecDepth 100000 in
theorem tr_filtered_b64 {p : Program} {l : Launch} {e : Env} {s : State} {m : MethodId} {args : Array Value} {below : List Frame} {meth : Method} {c : Code} {Q : State → Prop} {D : va_G} {A : Nat → Prop} {H0 : Heap} {cI cJ cZ : ClassId} {ad : Nat → Nat} {r1 : Int32} {S1 : MS} (E : mE p c cX12_filtered s m args (Cond.code yX12_filtered cX12_filtered 4 (some .int) :: wsM) D cI cJ cZ) (hA : ∀ q : Nat, H0.size ≤ q → A q) (hR : sR s) (hml : c.maxLocals = 4) (kr16 : ∀ (H : Heap) (locs : List Loc) (ls : Array Slot), mG D cI cJ cZ ad A H0 H locs S1 → W p l e { frames := 1, cells := 0, slots := 0, locals := 0 } s m args below meth c H locs 0 0 Q (F0 m 16 ls [.int r1])) (kr65 : ∀ (H : Heap) (locs : List Loc) (ls : Array Slot), mG D cI cJ cZ ad A H0 H locs S1 → W p l e { frames := 1, cells := 0, slots := 0, locals := 0 } s m args below meth c H locs 0 0 Q (F0 m 65 ls [.int r1])) : ∀ (S : MS) (H : Heap) (locs : List Loc) (ls : Array Slot) (l2 : Int32), fr_filtered_b64 S l2 = some (r1, S1) → mG D cI cJ cZ ad A H0 H locs S → lv_has ls 4 [(2, .int l2)] → W p l e { frames := 1, cells := 0, slots := 0, locals := 0 } s m args below meth c H locs 0 0 Q (F0 m 64 ls []) := by
  have hx := E.1
  have hb := E.2.1
  have hts := E.2.2.1
  have hown := E.2.2.2.1
  have hK := E.2.2.2.2.1
  intro S H locs ls l2 h G hl
  unfold fr_filtered_b64 at h
  refine lv_iload_n hx hb dX12_filtered_64 rfl (lv_at hl 0 rfl) ?_
  rw [(osome2 h).2] at G
  refine lv_to (osome2 h).1 ?_
  exact kr65 _ _ _ G
def fr_filtered_b21  : Nat → MS → Int32 → Int32 → Int32 → Option (Int32 × MS)
  | 0, _, _, _, _ => none
  | n + 1, S, l1, l2, l3 => elet (S.2.1 10 77) fun v2 => if v2 ≤ l3 then (fr_filtered_b64 S l2) else (if l1 < l3 then (fr_filtered_b64 S l2) else (elet (78 + l3) fun v5 => oif (inb v5 131 = true) <| elet (S.2.1 10 v5.toNatClampNeg) fun v7 => elet (l1 - l3) fun v8 => oif (inb v8 200 = true) <| elet (S.2.1 23 v8.toNatClampNeg) fun v10 => elet (v7 * v10) fun v11 => elet (l2 + v11) fun v12 => elet (l3 + Int32.ofInt (1)) fun v13 => fr_filtered_b21 n S l1 v12 v13))
set_option maxHeartbeats 4000000 in
set_option maxRecDepth 100000 in
theorem tr_filtered_b21 {p : Program} {l : Launch} {e : Env} {s : State} {m : MethodId} {args : Array Value} {below : List Frame} {meth : Method} {c : Code} {Q : State → Prop} {D : va_G} {A : Nat → Prop} {H0 : Heap} {cI cJ cZ : ClassId} {ad : Nat → Nat} {r1 : Int32} {S1 : MS} (E : mE p c cX12_filtered s m args (Cond.code yX12_filtered cX12_filtered 4 (some .int) :: wsM) D cI cJ cZ) (hA : ∀ q : Nat, H0.size ≤ q → A q) (hR : sR s) (hml : c.maxLocals = 4) (kr16 : ∀ (H : Heap) (locs : List Loc) (ls : Array Slot), mG D cI cJ cZ ad A H0 H locs S1 → W p l e { frames := 1, cells := 0, slots := 0, locals := 0 } s m args below meth c H locs 0 0 Q (F0 m 16 ls [.int r1])) (kr65 : ∀ (H : Heap) (locs : List Loc) (ls : Array Slot), mG D cI cJ cZ ad A H0 H locs S1 → W p l e { frames := 1, cells := 0, slots := 0, locals := 0 } s m args below meth c H locs 0 0 Q (F0 m 65 ls [.int r1])) : ∀ n : Nat, ∀ (S : MS) (H : Heap) (locs : List Loc) (ls : Array Slot) (l1 : Int32) (l2 : Int32) (l3 : Int32), fr_filtered_b21 n S l1 l2 l3 = some (r1, S1) → mG D cI cJ cZ ad A H0 H locs S → lv_has ls 4 [(0, .ref (ad 0)), (1, .int l1), (2, .int l2), (3, .int l3)] → W p l e { frames := 1, cells := 0, slots := 0, locals := 0 } s m args below meth c H locs 0 0 Q (F0 m 21 ls []) := by
  have hx := E.1
  have hb := E.2.1
  have hts := E.2.2.1
  have hown := E.2.2.2.1
  have hK := E.2.2.2.2.1
  intro n
  induction n with
  | zero =>
    intro S H locs ls l1 l2 l3 h
    have h : (none : Option (Int32 × MS)) = some (r1, S1) := h
    cases h
  | succ n ih =>
    intro S H locs ls l1 l2 l3 h G hl
    unfold fr_filtered_b21 at h
    refine lv_iload_n hx hb dX12_filtered_21 rfl (lv_at hl 3 rfl) ?_
    refine lv_aload_n hx hb dX12_filtered_22 rfl (lv_at hl 0 rfl) ?_
    refine m_get E G 10 (v := .ref (ad 10)) (by decide) (.tail _ qM_7) rfl dX12_filtered_23 rfl ?_
    refine lv_bipush (v := 77) hx hb dX12_filtered_26 (by decide) ?_
    refine m_iald E G 10 2 (n := 131) (k := 77) rfl rfl (by decide) (by decide) dX12_filtered_28 ?_
    refine lv_topi (fun v2 ev2 => ?_)
    have h := elet_at ev2 h
    clear ev2
    refine lv_icmp_ge (tgt := 64) hx hb dX12_filtered_29 (by decide) (fun c3 => ?_) (fun c3 => ?_)
    · have h := oif_pos c3 h
      have hl := lv_sub hl [2] rfl
      exact tr_filtered_b64 E hA hR hml kr16 kr65 _ _ _ _ _ h G hl
    · have h := oif_neg c3 h
      refine lv_iload_n hx hb dX12_filtered_32 rfl (lv_at hl 3 rfl) ?_
      refine lv_iload_n hx hb dX12_filtered_33 rfl (lv_at hl 1 rfl) ?_
      refine lv_icmp_gt (tgt := 64) hx hb dX12_filtered_34 (by decide) (fun c4 => ?_) (fun c4 => ?_)
      · have h := oif_pos c4 h
        have hl := lv_sub hl [2] rfl
        exact tr_filtered_b64 E hA hR hml kr16 kr65 _ _ _ _ _ h G hl
      · have h := oif_neg c4 h
        refine lv_iload_n hx hb dX12_filtered_37 rfl (lv_at hl 2 rfl) ?_
        refine lv_aload_n hx hb dX12_filtered_38 rfl (lv_at hl 0 rfl) ?_
        refine m_get E G 10 (v := .ref (ad 10)) (by decide) (.tail _ qM_7) rfl dX12_filtered_39 rfl ?_
        refine lv_bipush (v := 78) hx hb dX12_filtered_42 (by decide) ?_
        refine lv_iload_n hx hb dX12_filtered_44 rfl (lv_at hl 3 rfl) ?_
        refine lv_iadd hx hb dX12_filtered_45 ?_
        refine lv_topi (fun v5 ev5 => ?_)
        have h := elet_at ev5 h
        clear ev5
        obtain ⟨g6, h⟩ := oif_some h
        refine m_iald E G 10 2 (n := 131) (k := v5.toNatClampNeg) rfl (inb_k g6).1 (inb_k g6).2 (by decide) dX12_filtered_46 ?_
        refine lv_topi (fun v7 ev7 => ?_)
        have h := elet_at ev7 h
        clear ev7
        refine lv_aload_n hx hb dX12_filtered_47 rfl (lv_at hl 0 rfl) ?_
        refine m_get E G 23 (v := .ref (ad 23)) (by decide) (.tail _ qM_18) rfl dX12_filtered_48 rfl ?_
        refine lv_iload_n hx hb dX12_filtered_51 rfl (lv_at hl 1 rfl) ?_
        refine lv_iload_n hx hb dX12_filtered_52 rfl (lv_at hl 3 rfl) ?_
        refine lv_isub hx hb dX12_filtered_53 ?_
        refine lv_topi (fun v8 ev8 => ?_)
        have h := elet_at ev8 h
        clear ev8
        obtain ⟨g9, h⟩ := oif_some h
        refine m_iald E G 23 11 (n := 200) (k := v8.toNatClampNeg) rfl (inb_k g9).1 (inb_k g9).2 (by decide) dX12_filtered_54 ?_
        refine lv_topi (fun v10 ev10 => ?_)
        have h := elet_at ev10 h
        clear ev10
        refine lv_imul hx hb dX12_filtered_55 ?_
        refine lv_topi (fun v11 ev11 => ?_)
        have h := elet_at ev11 h
        clear ev11
        refine lv_iadd hx hb dX12_filtered_56 ?_
        refine lv_topi (fun v12 ev12 => ?_)
        have h := elet_at ev12 h
        clear ev12
        refine lv_istore_n (lv' := [(2, .int v12), (0, .ref (ad 0)), (1, .int l1), (3, .int l3)]) hx hb dX12_filtered_57 rfl hl (by decide) rfl (fun ls hl => ?_)
        obtain ⟨v13, ev13, h⟩ := elet_some h
        refine lv_iinc (v := v13) (lv' := [(3, .int v13), (2, .int v12), (0, .ref (ad 0)), (1, .int l1)]) hx hb dX12_filtered_58 hl (k := 3) rfl ev13.symm (by decide) rfl (fun ls hl => ?_)
        refine lv_goto (tgt := 21) hx hb dX12_filtered_61 (by decide) ?_
        have hl := lv_sub hl [2, 3, 1, 0] rfl
        exact ih _ _ _ _ _ _ _ h G hl
def fr_filtered (S : MS) (a0 : Int32) : Option (Int32 × MS) := elet (S.2.1 10 77) fun v2 => if v2 = 0 then (oif (inb a0 200 = true) <| elet (S.2.1 23 a0.toNatClampNeg) fun v5 => some (v5, S)) else (fr_filtered_b21 16384 S a0 0 0)
set_option maxHeartbeats 4000000 in
set_option maxRecDepth 100000 in
theorem tr_filtered (l : Launch) (D : va_G) (cI cJ cZ : ClassId) (ad : Nat → Nat) (S : MS) (a0 : Int32) {r1 : Int32} {S1 : MS} (h : fr_filtered S a0 = some (r1, S1)) : mCi l yX12_filtered (Cond.code yX12_filtered cX12_filtered 4 (some .int) :: wsM) 1 0 D cI cJ cZ ad S [.int a0] (fun r S9 => r = r1 ∧ S9 = S1) := by
  intro sz
  refine Met.ofW (cc := cX12_filtered) (maxL := 4) (ret := (some .int)) (by decide) rfl ?_
  intro p e s m args below meth c s₁ B hml hv
  obtain ⟨rfl, hsz, hP, hK, hD0, hR⟩ := hv
  have hx := B.exec
  have hb := B.bytes
  have hr := B.returns
  have hts := atoms_spec (ws := (Cond.code yX12_filtered cX12_filtered 4 (some .int) :: wsM)) B.pre
  have hown : s.vm.findClass RX12 = some m.cls := findClass_of_methodNamed B.named
  have hlocks := B.notSynchronized
  subst hsz
  have hD := hD0.self (sz := s.heap.size)
  generalize hAe : va_A (MW cI cJ cZ ad S) s.heap.size = A at hD ⊢
  have hA : ∀ q : Nat, s.heap.size ≤ q → A q := fun q h => by rw [← hAe]; exact Or.inr h
  have G : mG D cI cJ cZ ad A s.heap s.heap [] S := ⟨hP, hD, va_S.rf⟩
  have E : mE p c cX12_filtered s m ([.ref (ad 0), .int a0] : List Value).toArray (Cond.code yX12_filtered cX12_filtered 4 (some .int) :: wsM) D cI cJ cZ := ⟨hx, hb, hts, hown, hK, fun w h => .tail _ (iM_x h)⟩
  have hl := lv_entry ([.ref (ad 0), .int a0]) (n := 4) (Nat.le_of_ble_eq_true rfl)
  rw [lg_entry_eq]
  generalize (lg_sl ([.ref (ad 0), .int a0]) ++ List.replicate (4 - (lg_sl ([.ref (ad 0), .int a0])).length) Slot.unset).toArray = ls at hl ⊢
  have hl : lv_has ls 4 [(0, .ref (ad 0)), (1, .int a0)] := hl
  unfold fr_filtered at h
  refine lv_aload_n hx hb dX12_filtered_0 rfl (lv_at hl 0 rfl) ?_
  refine m_get E G 10 (v := .ref (ad 10)) (by decide) (.tail _ qM_7) rfl dX12_filtered_1 rfl ?_
  refine lv_bipush (v := 77) hx hb dX12_filtered_4 (by decide) ?_
  refine m_iald E G 10 2 (n := 131) (k := 77) rfl rfl (by decide) (by decide) dX12_filtered_6 ?_
  refine lv_topi (fun v2 ev2 => ?_)
  have h := elet_at ev2 h
  clear ev2
  refine lv_if_ne (tgt := 17) hx hb dX12_filtered_7 (by decide) (fun c3 => ?_) (fun c3 => ?_)
  · have h := oif_neg c3 h
    refine lv_iconst (v := 0) hx hb dX12_filtered_17 (by decide) ?_
    refine lv_istore_n (lv' := [(2, .int 0), (0, .ref (ad 0)), (1, .int a0)]) hx hb dX12_filtered_18 rfl hl (by decide) rfl (fun ls hl => ?_)
    refine lv_iconst (v := 0) hx hb dX12_filtered_19 (by decide) ?_
    refine lv_istore_n (lv' := [(3, .int 0), (2, .int 0), (0, .ref (ad 0)), (1, .int a0)]) hx hb dX12_filtered_20 rfl hl (by decide) rfl (fun ls hl => ?_)
    have hl := lv_sub hl [2, 3, 1, 0] rfl
    exact tr_filtered_b21 E hA hR hml (fun H locs ls G => W.iret (v := r1) hx hb hr (fun t ht hW => ⟨⟨r1, S1, rfl, ⟨rfl, rfl⟩, ⟨by rw [ht]; exact G.1, va_K.moved hW.alike hK, G.2.1⟩⟩, G.2.2.F ht⟩) G.2.2.2.2 dX12_filtered_16) (fun H locs ls G => W.iret (v := r1) hx hb hr (fun t ht hW => ⟨⟨r1, S1, rfl, ⟨rfl, rfl⟩, ⟨by rw [ht]; exact G.1, va_K.moved hW.alike hK, G.2.1⟩⟩, G.2.2.F ht⟩) G.2.2.2.2 dX12_filtered_65) _ _ _ _ _ _ _ _ h G hl
  · have h := oif_pos c3 h
    refine lv_aload_n hx hb dX12_filtered_10 rfl (lv_at hl 0 rfl) ?_
    refine m_get E G 23 (v := .ref (ad 23)) (by decide) (.tail _ qM_18) rfl dX12_filtered_11 rfl ?_
    refine lv_iload_n hx hb dX12_filtered_14 rfl (lv_at hl 1 rfl) ?_
    obtain ⟨g4, h⟩ := oif_some h
    refine m_iald E G 23 11 (n := 200) (k := a0.toNatClampNeg) rfl (inb_k g4).1 (inb_k g4).2 (by decide) dX12_filtered_15 ?_
    refine lv_topi (fun v5 ev5 => ?_)
    have h := elet_at ev5 h
    clear ev5
    exact W.iret (v := v5) hx hb hr (fun t ht hW => ⟨⟨v5, S, rfl, osome2 h, ⟨by rw [ht]; exact G.1, va_K.moved hW.alike hK, G.2.1⟩⟩, G.2.2.F ht⟩) G.2.2.2.2 dX12_filtered_16
def fr_bounded (S : MS) (a0 : Int32) : Option (Int32 × MS) := elet (S.2.1 10 3) fun v2 => elet (-v2) fun v3 => elet (S.2.1 10 3) fun v4 => elet (if a0 < v4 then a0 else v4) fun v5 => elet (if v3 < v5 then v5 else v3) fun v6 => some (v6, S)
set_option maxHeartbeats 4000000 in
set_option maxRecDepth 100000 in
theorem tr_bounded (l : Launch) (D : va_G) (cI cJ cZ : ClassId) (ad : Nat → Nat) (S : MS) (a0 : Int32) {r1 : Int32} {S1 : MS} (h : fr_bounded S a0 = some (r1, S1)) : mCi l yX12_bounded (Cond.code yX12_bounded cX12_bounded 2 (some .int) :: wsM) 1 17 D cI cJ cZ ad S [.int a0] (fun r S9 => r = r1 ∧ S9 = S1) := by
  intro sz
  refine Met.ofW (cc := cX12_bounded) (maxL := 2) (ret := (some .int)) (by decide) rfl ?_
  intro p e s m args below meth c s₁ B hml hv
  obtain ⟨rfl, hsz, hP, hK, hD0, hR⟩ := hv
  have hx := B.exec
  have hb := B.bytes
  have hr := B.returns
  have hts := atoms_spec (ws := (Cond.code yX12_bounded cX12_bounded 2 (some .int) :: wsM)) B.pre
  have hown : s.vm.findClass RX12 = some m.cls := findClass_of_methodNamed B.named
  have hlocks := B.notSynchronized
  subst hsz
  have hD := hD0.self (sz := s.heap.size)
  generalize hAe : va_A (MW cI cJ cZ ad S) s.heap.size = A at hD ⊢
  have hA : ∀ q : Nat, s.heap.size ≤ q → A q := fun q h => by rw [← hAe]; exact Or.inr h
  have G : mG D cI cJ cZ ad A s.heap s.heap [] S := ⟨hP, hD, va_S.rf⟩
  have E : mE p c cX12_bounded s m ([.ref (ad 0), .int a0] : List Value).toArray (Cond.code yX12_bounded cX12_bounded 2 (some .int) :: wsM) D cI cJ cZ := ⟨hx, hb, hts, hown, hK, fun w h => .tail _ (iM_x h)⟩
  have hl := lv_entry ([.ref (ad 0), .int a0]) (n := 2) (Nat.le_of_ble_eq_true rfl)
  rw [lg_entry_eq]
  generalize (lg_sl ([.ref (ad 0), .int a0]) ++ List.replicate (2 - (lg_sl ([.ref (ad 0), .int a0])).length) Slot.unset).toArray = ls at hl ⊢
  have hl : lv_has ls 2 [(0, .ref (ad 0)), (1, .int a0)] := hl
  unfold fr_bounded at h
  refine lv_aload_n hx hb dX12_bounded_0 rfl (lv_at hl 0 rfl) ?_
  refine m_get E G 10 (v := .ref (ad 10)) (by decide) (.tail _ qM_7) rfl dX12_bounded_1 rfl ?_
  refine lv_iconst (v := 3) hx hb dX12_bounded_4 (by decide) ?_
  refine m_iald E G 10 2 (n := 131) (k := 3) rfl rfl (by decide) (by decide) dX12_bounded_5 ?_
  refine lv_topi (fun v2 ev2 => ?_)
  have h := elet_at ev2 h
  clear ev2
  refine lv_ineg hx hb dX12_bounded_6 ?_
  refine lv_topi (fun v3 ev3 => ?_)
  have h := elet_at ev3 h
  clear ev3
  refine lv_aload_n hx hb dX12_bounded_7 rfl (lv_at hl 0 rfl) ?_
  refine m_get E G 10 (v := .ref (ad 10)) (by decide) (.tail _ qM_7) rfl dX12_bounded_8 rfl ?_
  refine lv_iconst (v := 3) hx hb dX12_bounded_11 (by decide) ?_
  refine m_iald E G 10 2 (n := 131) (k := 3) rfl rfl (by decide) (by decide) dX12_bounded_12 ?_
  refine lv_topi (fun v4 ev4 => ?_)
  have h := elet_at ev4 h
  clear ev4
  refine lv_iload_n hx hb dX12_bounded_13 rfl (lv_at hl 1 rfl) ?_
  refine va_mmin hx hb (hml.trans hl.1.symm) hown (hts _ (.tail _ qM_262)) (hts _ (.tail _ qM_263)) (hts _ (.tail _ qM_247)) (hts _ (.tail _ qM_264)) (Nat.le_of_ble_eq_true rfl) (Nat.le_of_ble_eq_true rfl) (Nat.zero_le _) (Nat.zero_le _) dX12_bounded_14 ?_
  refine lv_topi (fun v5 ev5 => ?_)
  have h := elet_at ev5 h
  clear ev5
  refine va_mmax hx hb (hml.trans hl.1.symm) hown (hts _ (.tail _ qM_265)) (hts _ (.tail _ qM_266)) (hts _ (.tail _ qM_247)) (hts _ (.tail _ qM_267)) (Nat.le_of_ble_eq_true rfl) (Nat.le_of_ble_eq_true rfl) (Nat.zero_le _) (Nat.zero_le _) dX12_bounded_17 ?_
  refine lv_topi (fun v6 ev6 => ?_)
  have h := elet_at ev6 h
  clear ev6
  exact W.iret (v := v6) hx hb hr (fun t ht hW => ⟨⟨v6, S, rfl, osome2 h, ⟨by rw [ht]; exact G.1, va_K.moved hW.alike hK, G.2.1⟩⟩, G.2.2.F ht⟩) G.2.2.2.2 dX12_bounded_20
def fr_records_12_b49 (k6 : MS → Int32 → Option (MS)) : Nat → MS → Int32 → Int32 → Option (MS)
  | 0, _, _, _ => none
  | n + 1, S, l2, l3 => elet (S.2.1 10 2) fun v2 => if v2 ≤ l3 then (elet (l2 + Int32.ofInt (1)) fun v4 => k6 S v4) else (elet (200 * l2) fun v5 => elet (55 + v5) fun v6 => elet (v6 + l3) fun v7 => obind2 (fr_filtered S l3) fun r11 S8 => obind2 (fr_bounded S8 r11) fun r15 S12 => oif (inb v7 2455 = true) <| elet (mf S12 12 (upd (S12.2.1 12) v7.toNatClampNeg r15)) fun S17 => elet (l3 + Int32.ofInt (1)) fun v18 => fr_records_12_b49 k6 n S17 l2 v18)
set_option maxHeartbeats 4000000 in
set_option maxRecDepth 100000 in
theorem tr_records_12_b49 {p : Program} {l : Launch} {e : Env} {s : State} {m : MethodId} {args : Array Value} {below : List Frame} {meth : Method} {c : Code} {Q : State → Prop} {D : va_G} {A : Nat → Prop} {H0 : Heap} {cI cJ cZ : ClassId} {ad : Nat → Nat} {S1 : MS} (E : mE p c cX12_records s m args (Cond.code yX12_records cX12_records 4 none :: wsM) D cI cJ cZ) (hA : ∀ q : Nat, H0.size ≤ q → A q) (hR : sR s) (hml : c.maxLocals = 4) (kr92 : ∀ (H : Heap) (locs : List Loc) (ls : Array Slot), mG D cI cJ cZ ad A H0 H locs S1 → W p l e { frames := 6, cells := 0, slots := 0, locals := 146 } s m args below meth c H locs 0 0 Q (F0 m 92 ls [])) {k6 : MS → Int32 → Option (MS)} (hk6 : ∀ (S : MS) (H : Heap) (locs : List Loc) (ls : Array Slot) (l2 : Int32), k6 S l2 = some S1 → mG D cI cJ cZ ad A H0 H locs S → lv_has ls 4 [(0, .ref (ad 0)), (1, .ref (ad 12)), (2, .int l2)] → W p l e { frames := 6, cells := 0, slots := 0, locals := 146 } s m args below meth c H locs 0 0 Q (F0 m 6 ls [])) : ∀ n : Nat, ∀ (S : MS) (H : Heap) (locs : List Loc) (ls : Array Slot) (l2 : Int32) (l3 : Int32), fr_records_12_b49 k6 n S l2 l3 = some S1 → mG D cI cJ cZ ad A H0 H locs S → lv_has ls 4 [(0, .ref (ad 0)), (1, .ref (ad 12)), (2, .int l2), (3, .int l3)] → W p l e { frames := 6, cells := 0, slots := 0, locals := 146 } s m args below meth c H locs 0 0 Q (F0 m 49 ls []) := by
  have hx := E.1
  have hb := E.2.1
  have hts := E.2.2.1
  have hown := E.2.2.2.1
  have hK := E.2.2.2.2.1
  intro n
  induction n with
  | zero =>
    intro S H locs ls l2 l3 h
    have h : (none : Option (MS)) = some S1 := h
    cases h
  | succ n ih =>
    intro S H locs ls l2 l3 h G hl
    unfold fr_records_12_b49 at h
    refine lv_iload_n hx hb dX12_records_49 rfl (lv_at hl 3 rfl) ?_
    refine lv_aload_n hx hb dX12_records_50 rfl (lv_at hl 0 rfl) ?_
    refine m_get E G 10 (v := .ref (ad 10)) (by decide) (.tail _ qM_7) rfl dX12_records_51 rfl ?_
    refine lv_iconst (v := 2) hx hb dX12_records_54 (by decide) ?_
    refine m_iald E G 10 2 (n := 131) (k := 2) rfl rfl (by decide) (by decide) dX12_records_55 ?_
    refine lv_topi (fun v2 ev2 => ?_)
    have h := elet_at ev2 h
    clear ev2
    refine lv_icmp_ge (tgt := 86) hx hb dX12_records_56 (by decide) (fun c3 => ?_) (fun c3 => ?_)
    · have h := oif_pos c3 h
      obtain ⟨v4, ev4, h⟩ := elet_some h
      refine lv_iinc (v := v4) (lv' := [(2, .int v4), (0, .ref (ad 0)), (1, .ref (ad 12)), (3, .int l3)]) hx hb dX12_records_86 hl (k := 2) rfl ev4.symm (by decide) rfl (fun ls hl => ?_)
      refine lv_goto (tgt := 6) hx hb dX12_records_89 (by decide) ?_
      have hl := lv_sub hl [1, 2, 0] rfl
      exact hk6 _ _ _ _ _ h G hl
    · have h := oif_neg c3 h
      refine lv_aload_n hx hb dX12_records_59 rfl (lv_at hl 1 rfl) ?_
      refine lv_bipush (v := 55) hx hb dX12_records_60 (by decide) ?_
      refine lv_sipush (v := 200) hx hb dX12_records_62 (by decide) ?_
      refine lv_iload_n hx hb dX12_records_65 rfl (lv_at hl 2 rfl) ?_
      refine lv_imul hx hb dX12_records_66 ?_
      refine lv_topi (fun v5 ev5 => ?_)
      have h := elet_at ev5 h
      clear ev5
      refine lv_iadd hx hb dX12_records_67 ?_
      refine lv_topi (fun v6 ev6 => ?_)
      have h := elet_at ev6 h
      clear ev6
      refine lv_iload_n hx hb dX12_records_68 rfl (lv_at hl 3 rfl) ?_
      refine lv_iadd hx hb dX12_records_69 ?_
      refine lv_topi (fun v7 ev7 => ?_)
      have h := elet_at ev7 h
      clear ev7
      refine lv_aload_n hx hb dX12_records_70 rfl (lv_at hl 0 rfl) ?_
      refine lv_aload_n hx hb dX12_records_71 rfl (lv_at hl 0 rfl) ?_
      refine lv_iload_n hx hb dX12_records_72 rfl (lv_at hl 3 rfl) ?_
      obtain ⟨r11, S8, eS8, h⟩ := obind2_some h
      refine m_calli (As := [.int l3]) (rest := [.ref (ad 0), .int v7, .ref (ad 12)]) E G hA hR hml (tr_filtered l D cI cJ cZ ad S l3 eS8) (cwV 1 hts (gmV qM_254 qM_255 qM_256 qM_35 qM_257) rfl rfl rfl (by decide +kernel) ⟨Nat.le_of_ble_eq_true rfl, Nat.le_of_ble_eq_true rfl⟩) rfl hl.1 rfl (lv_room (Nat.le_of_ble_eq_true rfl)) dX12_records_73 ⟨Nat.zero_le _, Nat.zero_le _⟩ (fun q9 S10 H locs hq G => ?_)
      obtain ⟨hq1, hq2⟩ := hq
      rw [hq2] at G
      refine lv_to hq1 ?_
      clear hq1 hq2 eS8
      obtain ⟨r15, S12, eS12, h⟩ := obind2_some h
      refine m_calli (As := [.int r11]) (rest := [.int v7, .ref (ad 12)]) E G hA hR hml (tr_bounded l D cI cJ cZ ad S8 r11 eS12) (cwV 1 hts (gmV qM_258 qM_259 qM_260 qM_35 qM_261) rfl rfl rfl (by decide +kernel) ⟨Nat.le_of_ble_eq_true rfl, Nat.le_of_ble_eq_true rfl⟩) rfl hl.1 rfl (lv_room (Nat.le_of_ble_eq_true rfl)) dX12_records_76 ⟨Nat.zero_le _, Nat.zero_le _⟩ (fun q13 S14 H locs hq G => ?_)
      obtain ⟨hq1, hq2⟩ := hq
      rw [hq2] at G
      refine lv_to hq1 ?_
      clear hq1 hq2 eS12
      obtain ⟨g16, h⟩ := oif_some h
      refine m_iast E G 12 4 (k := v7.toNatClampNeg) (v := r15) rfl (fun _ => rfl) (inb_k g16).1 (inb_k g16).2 (by decide) dX12_records_79 (fun H locs G => ?_)
      obtain ⟨S17, eS17, h⟩ := elet_some h
      rw [← eS17] at G
      clear eS17
      obtain ⟨v18, ev18, h⟩ := elet_some h
      refine lv_iinc (v := v18) (lv' := [(3, .int v18), (0, .ref (ad 0)), (1, .ref (ad 12)), (2, .int l2)]) hx hb dX12_records_80 hl (k := 3) rfl ev18.symm (by decide) rfl (fun ls hl => ?_)
      refine lv_goto (tgt := 49) hx hb dX12_records_83 (by decide) ?_
      have hl := lv_sub hl [1, 2, 3, 0] rfl
      exact ih _ _ _ _ _ _ h G hl
def fr_records_12_b18 (k6 : MS → Int32 → Option (MS)) : Nat → MS → Int32 → Int32 → Option (MS)
  | 0, _, _, _ => none
  | n + 1, S, l2, l3 => elet (S.2.1 10 2) fun v2 => if v2 ≤ l3 then (fr_records_12_b49 k6 16384 S l2 0) else (obind2 (fr_rawAt_12 S l2 l3) fun r7 S4 => oif (inb l3 200 = true) <| elet (mf S4 23 (upd (S4.2.1 23) l3.toNatClampNeg r7)) fun S9 => elet (l3 + Int32.ofInt (1)) fun v10 => fr_records_12_b18 k6 n S9 l2 v10)
set_option maxHeartbeats 4000000 in
set_option maxRecDepth 100000 in
theorem tr_records_12_b18 {p : Program} {l : Launch} {e : Env} {s : State} {m : MethodId} {args : Array Value} {below : List Frame} {meth : Method} {c : Code} {Q : State → Prop} {D : va_G} {A : Nat → Prop} {H0 : Heap} {cI cJ cZ : ClassId} {ad : Nat → Nat} {S1 : MS} (E : mE p c cX12_records s m args (Cond.code yX12_records cX12_records 4 none :: wsM) D cI cJ cZ) (hA : ∀ q : Nat, H0.size ≤ q → A q) (hR : sR s) (hml : c.maxLocals = 4) (kr92 : ∀ (H : Heap) (locs : List Loc) (ls : Array Slot), mG D cI cJ cZ ad A H0 H locs S1 → W p l e { frames := 6, cells := 0, slots := 0, locals := 146 } s m args below meth c H locs 0 0 Q (F0 m 92 ls [])) {k6 : MS → Int32 → Option (MS)} (hk6 : ∀ (S : MS) (H : Heap) (locs : List Loc) (ls : Array Slot) (l2 : Int32), k6 S l2 = some S1 → mG D cI cJ cZ ad A H0 H locs S → lv_has ls 4 [(0, .ref (ad 0)), (1, .ref (ad 12)), (2, .int l2)] → W p l e { frames := 6, cells := 0, slots := 0, locals := 146 } s m args below meth c H locs 0 0 Q (F0 m 6 ls [])) : ∀ n : Nat, ∀ (S : MS) (H : Heap) (locs : List Loc) (ls : Array Slot) (l2 : Int32) (l3 : Int32), fr_records_12_b18 k6 n S l2 l3 = some S1 → mG D cI cJ cZ ad A H0 H locs S → lv_has ls 4 [(0, .ref (ad 0)), (1, .ref (ad 12)), (2, .int l2), (3, .int l3)] → W p l e { frames := 6, cells := 0, slots := 0, locals := 146 } s m args below meth c H locs 0 0 Q (F0 m 18 ls []) := by
  have hx := E.1
  have hb := E.2.1
  have hts := E.2.2.1
  have hown := E.2.2.2.1
  have hK := E.2.2.2.2.1
  intro n
  induction n with
  | zero =>
    intro S H locs ls l2 l3 h
    have h : (none : Option (MS)) = some S1 := h
    cases h
  | succ n ih =>
    intro S H locs ls l2 l3 h G hl
    unfold fr_records_12_b18 at h
    refine lv_iload_n hx hb dX12_records_18 rfl (lv_at hl 3 rfl) ?_
    refine lv_aload_n hx hb dX12_records_19 rfl (lv_at hl 0 rfl) ?_
    refine m_get E G 10 (v := .ref (ad 10)) (by decide) (.tail _ qM_7) rfl dX12_records_20 rfl ?_
    refine lv_iconst (v := 2) hx hb dX12_records_23 (by decide) ?_
    refine m_iald E G 10 2 (n := 131) (k := 2) rfl rfl (by decide) (by decide) dX12_records_24 ?_
    refine lv_topi (fun v2 ev2 => ?_)
    have h := elet_at ev2 h
    clear ev2
    refine lv_icmp_ge (tgt := 47) hx hb dX12_records_25 (by decide) (fun c3 => ?_) (fun c3 => ?_)
    · have h := oif_pos c3 h
      refine lv_iconst (v := 0) hx hb dX12_records_47 (by decide) ?_
      refine lv_istore_n (lv' := [(3, .int 0), (0, .ref (ad 0)), (1, .ref (ad 12)), (2, .int l2)]) hx hb dX12_records_48 rfl hl (by decide) rfl (fun ls hl => ?_)
      have hl := lv_sub hl [1, 2, 3, 0] rfl
      exact tr_records_12_b49 E hA hR hml kr92 hk6 _ _ _ _ _ _ _ h G hl
    · have h := oif_neg c3 h
      refine lv_aload_n hx hb dX12_records_28 rfl (lv_at hl 0 rfl) ?_
      refine m_get E G 23 (v := .ref (ad 23)) (by decide) (.tail _ qM_18) rfl dX12_records_29 rfl ?_
      refine lv_iload_n hx hb dX12_records_32 rfl (lv_at hl 3 rfl) ?_
      refine lv_aload_n hx hb dX12_records_33 rfl (lv_at hl 0 rfl) ?_
      refine lv_aload_n hx hb dX12_records_34 rfl (lv_at hl 1 rfl) ?_
      refine lv_iload_n hx hb dX12_records_35 rfl (lv_at hl 2 rfl) ?_
      refine lv_iload_n hx hb dX12_records_36 rfl (lv_at hl 3 rfl) ?_
      obtain ⟨r7, S4, eS4, h⟩ := obind2_some h
      refine m_calli (As := [.ref (ad 12), .int l2, .int l3]) (rest := [.int l3, .ref (ad 23)]) E G hA hR hml (tr_rawAt_12 l D cI cJ cZ ad S l2 l3 eS4) (cwV 3 hts (gmV qM_224 qM_225 qM_226 qM_35 qM_227) rfl rfl rfl (by decide +kernel) ⟨Nat.le_of_ble_eq_true rfl, Nat.le_of_ble_eq_true rfl⟩) rfl hl.1 rfl (lv_room (Nat.le_of_ble_eq_true rfl)) dX12_records_37 ⟨Nat.zero_le _, Nat.zero_le _⟩ (fun q5 S6 H locs hq G => ?_)
      obtain ⟨hq1, hq2⟩ := hq
      rw [hq2] at G
      refine lv_to hq1 ?_
      clear hq1 hq2 eS4
      obtain ⟨g8, h⟩ := oif_some h
      refine m_iast E G 23 11 (k := l3.toNatClampNeg) (v := r7) rfl (fun _ => rfl) (inb_k g8).1 (inb_k g8).2 (by decide) dX12_records_40 (fun H locs G => ?_)
      obtain ⟨S9, eS9, h⟩ := elet_some h
      rw [← eS9] at G
      clear eS9
      obtain ⟨v10, ev10, h⟩ := elet_some h
      refine lv_iinc (v := v10) (lv' := [(3, .int v10), (0, .ref (ad 0)), (1, .ref (ad 12)), (2, .int l2)]) hx hb dX12_records_41 hl (k := 3) rfl ev10.symm (by decide) rfl (fun ls hl => ?_)
      refine lv_goto (tgt := 18) hx hb dX12_records_44 (by decide) ?_
      have hl := lv_sub hl [1, 2, 3, 0] rfl
      exact ih _ _ _ _ _ _ h G hl
def fr_records_12_b6  : Nat → MS → Int32 → Option (MS)
  | 0, _, _ => none
  | n + 1, S, l2 => elet (S.2.1 10 4) fun v2 => if v2 ≤ l2 then (some S) else (fr_records_12_b18 (fr_records_12_b6 n) 16384 S l2 0)
set_option maxHeartbeats 4000000 in
set_option maxRecDepth 100000 in
theorem tr_records_12_b6 {p : Program} {l : Launch} {e : Env} {s : State} {m : MethodId} {args : Array Value} {below : List Frame} {meth : Method} {c : Code} {Q : State → Prop} {D : va_G} {A : Nat → Prop} {H0 : Heap} {cI cJ cZ : ClassId} {ad : Nat → Nat} {S1 : MS} (E : mE p c cX12_records s m args (Cond.code yX12_records cX12_records 4 none :: wsM) D cI cJ cZ) (hA : ∀ q : Nat, H0.size ≤ q → A q) (hR : sR s) (hml : c.maxLocals = 4) (kr92 : ∀ (H : Heap) (locs : List Loc) (ls : Array Slot), mG D cI cJ cZ ad A H0 H locs S1 → W p l e { frames := 6, cells := 0, slots := 0, locals := 146 } s m args below meth c H locs 0 0 Q (F0 m 92 ls [])) : ∀ n : Nat, ∀ (S : MS) (H : Heap) (locs : List Loc) (ls : Array Slot) (l2 : Int32), fr_records_12_b6 n S l2 = some S1 → mG D cI cJ cZ ad A H0 H locs S → lv_has ls 4 [(0, .ref (ad 0)), (1, .ref (ad 12)), (2, .int l2)] → W p l e { frames := 6, cells := 0, slots := 0, locals := 146 } s m args below meth c H locs 0 0 Q (F0 m 6 ls []) := by
  have hx := E.1
  have hb := E.2.1
  have hts := E.2.2.1
  have hown := E.2.2.2.1
  have hK := E.2.2.2.2.1
  intro n
  induction n with
  | zero =>
    intro S H locs ls l2 h
    have h : (none : Option (MS)) = some S1 := h
    cases h
  | succ n ih =>
    intro S H locs ls l2 h G hl
    unfold fr_records_12_b6 at h
    refine lv_iload_n hx hb dX12_records_6 rfl (lv_at hl 2 rfl) ?_
    refine lv_aload_n hx hb dX12_records_7 rfl (lv_at hl 0 rfl) ?_
    refine m_get E G 10 (v := .ref (ad 10)) (by decide) (.tail _ qM_7) rfl dX12_records_8 rfl ?_
    refine lv_iconst (v := 4) hx hb dX12_records_11 (by decide) ?_
    refine m_iald E G 10 2 (n := 131) (k := 4) rfl rfl (by decide) (by decide) dX12_records_12 ?_
    refine lv_topi (fun v2 ev2 => ?_)
    have h := elet_at ev2 h
    clear ev2
    refine lv_icmp_ge (tgt := 92) hx hb dX12_records_13 (by decide) (fun c3 => ?_) (fun c3 => ?_)
    · have h := oif_pos c3 h
      rw [osome1 h] at G
      exact kr92 _ _ _ G
    · have h := oif_neg c3 h
      refine lv_iconst (v := 0) hx hb dX12_records_16 (by decide) ?_
      refine lv_istore_n (lv' := [(3, .int 0), (0, .ref (ad 0)), (1, .ref (ad 12)), (2, .int l2)]) hx hb dX12_records_17 rfl hl (by decide) rfl (fun ls hl => ?_)
      have hl := lv_sub hl [1, 2, 3, 0] rfl
      exact tr_records_12_b18 E hA hR hml kr92 ih _ _ _ _ _ _ _ h G hl
def fr_records_12 (S : MS)  : Option (MS) := elet (mf S 12 (upd (S.2.1 12) 0 0)) fun S2 => fr_records_12_b6 16384 S2 0
set_option maxHeartbeats 4000000 in
set_option maxRecDepth 100000 in
theorem tr_records_12 (l : Launch) (D : va_G) (cI cJ cZ : ClassId) (ad : Nat → Nat) (S : MS)  {S1 : MS} (h : fr_records_12 S = some S1) : mCv l yX12_records (Cond.code yX12_records cX12_records 4 none :: wsM) 6 146 D cI cJ cZ ad S [.ref (ad 12)] (fun S9 => S9 = S1) := by
  intro sz
  refine Met.ofW (cc := cX12_records) (maxL := 4) (ret := none) (by decide) rfl ?_
  intro p e s m args below meth c s₁ B hml hv
  obtain ⟨rfl, hsz, hP, hK, hD0, hR⟩ := hv
  have hx := B.exec
  have hb := B.bytes
  have hr := B.returns
  have hts := atoms_spec (ws := (Cond.code yX12_records cX12_records 4 none :: wsM)) B.pre
  have hown : s.vm.findClass RX12 = some m.cls := findClass_of_methodNamed B.named
  have hlocks := B.notSynchronized
  subst hsz
  have hD := hD0.self (sz := s.heap.size)
  generalize hAe : va_A (MW cI cJ cZ ad S) s.heap.size = A at hD ⊢
  have hA : ∀ q : Nat, s.heap.size ≤ q → A q := fun q h => by rw [← hAe]; exact Or.inr h
  have G : mG D cI cJ cZ ad A s.heap s.heap [] S := ⟨hP, hD, va_S.rf⟩
  have E : mE p c cX12_records s m ([.ref (ad 0), .ref (ad 12)] : List Value).toArray (Cond.code yX12_records cX12_records 4 none :: wsM) D cI cJ cZ := ⟨hx, hb, hts, hown, hK, fun w h => .tail _ (iM_x h)⟩
  have hl := lv_entry ([.ref (ad 0), .ref (ad 12)]) (n := 4) (Nat.le_of_ble_eq_true rfl)
  rw [lg_entry_eq]
  generalize (lg_sl ([.ref (ad 0), .ref (ad 12)]) ++ List.replicate (4 - (lg_sl ([.ref (ad 0), .ref (ad 12)])).length) Slot.unset).toArray = ls at hl ⊢
  have hl : lv_has ls 4 [(0, .ref (ad 0)), (1, .ref (ad 12))] := hl
  unfold fr_records_12 at h
  refine lv_aload_n hx hb dX12_records_0 rfl (lv_at hl 1 rfl) ?_
  refine lv_iconst (v := 0) hx hb dX12_records_1 (by decide) ?_
  refine lv_iconst (v := 0) hx hb dX12_records_2 (by decide) ?_
  refine m_iast E G 12 4 (k := 0) (v := 0) rfl (fun _ => rfl) rfl (by decide) (by decide) dX12_records_3 (fun H locs G => ?_)
  obtain ⟨S2, eS2, h⟩ := elet_some h
  rw [← eS2] at G
  clear eS2
  refine lv_iconst (v := 0) hx hb dX12_records_4 (by decide) ?_
  refine lv_istore_n (lv' := [(2, .int 0), (0, .ref (ad 0)), (1, .ref (ad 12))]) hx hb dX12_records_5 rfl hl (by decide) rfl (fun ls hl => ?_)
  have hl := lv_sub hl [1, 2, 0] rfl
  exact tr_records_12_b6 E hA hR hml (fun H locs ls G => W.vret hx hb hr (fun t ht hW => ⟨⟨S1, rfl, rfl, ⟨by rw [ht]; exact G.1, va_K.moved hW.alike hK, G.2.1⟩⟩, G.2.2.F ht⟩) G.2.2.2.2 dX12_records_92) _ _ _ _ _ _ h G hl
def fr_load_b168 (k158 : MS → Int32 → Option (Int32 × MS)) : Nat → MS → Int32 → Int32 → Option (Int32 × MS)
  | 0, _, _, _ => none
  | n + 1, S, l2, l3 => elet (S.2.1 10 4) fun v2 => if v2 ≤ l3 then (elet (l2 + Int32.ofInt (1)) fun v4 => k158 S v4) else (elet (12 * l2) fun v5 => elet (v5 + l3) fun v6 => obind2 (fr_centre S l2 0) fun r10 S7 => obind2 (fr_centre S7 l2 1) fun r14 S11 => obind2 (fr_delayFrom S11 l3 r10 r14) fun r18 S15 => oif (inb v6 1728 = true) <| elet (mf S15 17 (upd (S15.2.1 17) v6.toNatClampNeg r18)) fun S20 => elet (l3 + Int32.ofInt (1)) fun v21 => fr_load_b168 k158 n S20 l2 v21)
set_option maxHeartbeats 4000000 in
set_option maxRecDepth 100000 in
theorem tr_load_b168 {p : Program} {l : Launch} {e : Env} {s : State} {m : MethodId} {args : Array Value} {below : List Frame} {meth : Method} {c : Code} {Q : State → Prop} {D : va_G} {A : Nat → Prop} {cI cJ cZ : ClassId} {ad : Nat → Nat} {r1 : Int32} {S1 : MS} (E : mE p c cX12_load s m args (Cond.code yX12_load cX12_load 4 (some .int) :: wsM) D cI cJ cZ) (hA : ∀ q : Nat, s.heap.size ≤ q → A q) (hR : sR s) (hml : c.maxLocals = 4) {h0 : Nat} (hA0 : ∀ a : Nat, A a → h0 ≤ a) (hT : sAll h0 s) (kr22 : ∀ (H : Heap) (locs : List Loc) (ls : Array Slot), mG D cI cJ cZ ad A s.heap H locs S1 → W p l e { frames := 11, cells := 0, slots := 0, locals := 216 } s m args below meth c H locs 0 0 Q (F0 m 22 ls [.int r1])) (kr64 : ∀ (H : Heap) (locs : List Loc) (ls : Array Slot), mG D cI cJ cZ ad A s.heap H locs S1 → W p l e { frames := 11, cells := 0, slots := 0, locals := 216 } s m args below meth c H locs 0 0 Q (F0 m 64 ls [.int r1])) (kr254 : ∀ (H : Heap) (locs : List Loc) (ls : Array Slot), mG D cI cJ cZ ad A s.heap H locs S1 → W p l e { frames := 11, cells := 0, slots := 0, locals := 216 } s m args below meth c H locs 0 0 Q (F0 m 254 ls [.int r1])) {k158 : MS → Int32 → Option (Int32 × MS)} (hk158 : ∀ (S : MS) (H : Heap) (locs : List Loc) (ls : Array Slot) (l2 : Int32), k158 S l2 = some (r1, S1) → mG D cI cJ cZ ad A s.heap H locs S → lv_has ls 4 [(0, .ref (ad 0)), (2, .int l2)] → W p l e { frames := 11, cells := 0, slots := 0, locals := 216 } s m args below meth c H locs 0 0 Q (F0 m 158 ls [])) : ∀ n : Nat, ∀ (S : MS) (H : Heap) (locs : List Loc) (ls : Array Slot) (l2 : Int32) (l3 : Int32), fr_load_b168 k158 n S l2 l3 = some (r1, S1) → mG D cI cJ cZ ad A s.heap H locs S → lv_has ls 4 [(0, .ref (ad 0)), (2, .int l2), (3, .int l3)] → W p l e { frames := 11, cells := 0, slots := 0, locals := 216 } s m args below meth c H locs 0 0 Q (F0 m 168 ls []) := by
  have hx := E.1
  have hb := E.2.1
  have hts := E.2.2.1
  have hown := E.2.2.2.1
  have hK := E.2.2.2.2.1
  intro n
  induction n with
  | zero =>
    intro S H locs ls l2 l3 h
    have h : (none : Option (Int32 × MS)) = some (r1, S1) := h
    cases h
  | succ n ih =>
    intro S H locs ls l2 l3 h G hl
    unfold fr_load_b168 at h
    refine lv_iload_n hx hb dX12_load_168 rfl (lv_at hl 2 rfl) ?_
    refine lv_aload_n hx hb dX12_load_169 rfl (lv_at hl 0 rfl) ?_
    refine m_get E G 10 (v := .ref (ad 10)) (by decide) (.tail _ qM_7) rfl dX12_load_170 rfl ?_
    refine lv_iconst (v := 4) hx hb dX12_load_173 (by decide) ?_
    refine m_iald E G 10 2 (n := 131) (k := 4) rfl rfl (by decide) (by decide) dX12_load_174 ?_
    refine lv_topi (fun v2 ev2 => ?_)
    have h := elet_at ev2 h
    clear ev2
    refine lv_icmp_ge (tgt := 212) hx hb dX12_load_175 (by decide) (fun c3 => ?_) (fun c3 => ?_)
    · have h := oif_pos c3 h
      obtain ⟨v4, ev4, h⟩ := elet_some h
      refine lv_iinc (v := v4) (lv' := [(2, .int v4), (0, .ref (ad 0)), (3, .int l3)]) hx hb dX12_load_212 hl (k := 1) rfl ev4.symm (by decide) rfl (fun ls hl => ?_)
      refine lv_goto (tgt := 158) hx hb dX12_load_215 (by decide) ?_
      have hl := lv_sub hl [1, 0] rfl
      exact hk158 _ _ _ _ _ h G hl
    · have h := oif_neg c3 h
      refine lv_aload_n hx hb dX12_load_178 rfl (lv_at hl 0 rfl) ?_
      refine m_get E G 17 (v := .ref (ad 17)) (by decide) (.tail _ qM_14) rfl dX12_load_179 rfl ?_
      refine lv_bipush (v := 12) hx hb dX12_load_182 (by decide) ?_
      refine lv_iload_n hx hb dX12_load_184 rfl (lv_at hl 1 rfl) ?_
      refine lv_imul hx hb dX12_load_185 ?_
      refine lv_topi (fun v5 ev5 => ?_)
      have h := elet_at ev5 h
      clear ev5
      refine lv_iload_n hx hb dX12_load_186 rfl (lv_at hl 2 rfl) ?_
      refine lv_iadd hx hb dX12_load_187 ?_
      refine lv_topi (fun v6 ev6 => ?_)
      have h := elet_at ev6 h
      clear ev6
      refine lv_aload_n hx hb dX12_load_188 rfl (lv_at hl 0 rfl) ?_
      refine lv_iload_n hx hb dX12_load_189 rfl (lv_at hl 2 rfl) ?_
      refine lv_aload_n hx hb dX12_load_190 rfl (lv_at hl 0 rfl) ?_
      refine lv_iload_n hx hb dX12_load_191 rfl (lv_at hl 1 rfl) ?_
      refine lv_iconst (v := 0) hx hb dX12_load_192 (by decide) ?_
      obtain ⟨r10, S7, eS7, h⟩ := obind2_some h
      refine m_calli (As := [.int l2, .int 0]) (rest := [.int l3, .ref (ad 0), .int v6, .ref (ad 17)]) E G hA hR hml (tr_centre l D cI cJ cZ ad S l2 0 eS7) (cwV 2 hts (gmV qM_208 qM_209 qM_210 qM_35 qM_211) rfl rfl rfl (by decide +kernel) ⟨Nat.le_of_ble_eq_true rfl, Nat.le_of_ble_eq_true rfl⟩) rfl hl.1 rfl (lv_room (Nat.le_of_ble_eq_true rfl)) dX12_load_193 ⟨Nat.zero_le _, Nat.zero_le _⟩ (fun q8 S9 H locs hq G => ?_)
      obtain ⟨hq1, hq2⟩ := hq
      rw [hq2] at G
      refine lv_to hq1 ?_
      clear hq1 hq2 eS7
      refine lv_aload_n hx hb dX12_load_196 rfl (lv_at hl 0 rfl) ?_
      refine lv_iload_n hx hb dX12_load_197 rfl (lv_at hl 1 rfl) ?_
      refine lv_iconst (v := 1) hx hb dX12_load_198 (by decide) ?_
      obtain ⟨r14, S11, eS11, h⟩ := obind2_some h
      refine m_calli (As := [.int l2, .int 1]) (rest := [.int r10, .int l3, .ref (ad 0), .int v6, .ref (ad 17)]) E G hA hR hml (tr_centre l D cI cJ cZ ad S7 l2 1 eS11) (cwV 2 hts (gmV qM_208 qM_209 qM_210 qM_35 qM_211) rfl rfl rfl (by decide +kernel) ⟨Nat.le_of_ble_eq_true rfl, Nat.le_of_ble_eq_true rfl⟩) rfl hl.1 rfl (lv_room (Nat.le_of_ble_eq_true rfl)) dX12_load_199 ⟨Nat.zero_le _, Nat.zero_le _⟩ (fun q12 S13 H locs hq G => ?_)
      obtain ⟨hq1, hq2⟩ := hq
      rw [hq2] at G
      refine lv_to hq1 ?_
      clear hq1 hq2 eS11
      obtain ⟨r18, S15, eS15, h⟩ := obind2_some h
      refine m_calli (As := [.int l3, .int r10, .int r14]) (rest := [.int v6, .ref (ad 17)]) E G hA hR hml (tr_delayFrom l D cI cJ cZ ad S11 l3 r10 r14 eS15) (cwV 3 hts (gmV qM_212 qM_213 qM_214 qM_35 qM_215) rfl rfl rfl (by decide +kernel) ⟨Nat.le_of_ble_eq_true rfl, Nat.le_of_ble_eq_true rfl⟩) rfl hl.1 rfl (lv_room (Nat.le_of_ble_eq_true rfl)) dX12_load_202 ⟨Nat.zero_le _, Nat.zero_le _⟩ (fun q16 S17 H locs hq G => ?_)
      obtain ⟨hq1, hq2⟩ := hq
      rw [hq2] at G
      refine lv_to hq1 ?_
      clear hq1 hq2 eS15
      obtain ⟨g19, h⟩ := oif_some h
      refine m_iast E G 17 9 (k := v6.toNatClampNeg) (v := r18) rfl (fun _ => rfl) (inb_k g19).1 (inb_k g19).2 (by decide) dX12_load_205 (fun H locs G => ?_)
      obtain ⟨S20, eS20, h⟩ := elet_some h
      rw [← eS20] at G
      clear eS20
      obtain ⟨v21, ev21, h⟩ := elet_some h
      refine lv_iinc (v := v21) (lv' := [(3, .int v21), (0, .ref (ad 0)), (2, .int l2)]) hx hb dX12_load_206 hl (k := 2) rfl ev21.symm (by decide) rfl (fun ls hl => ?_)
      refine lv_goto (tgt := 168) hx hb dX12_load_209 (by decide) ?_
      have hl := lv_sub hl [1, 2, 0] rfl
      exact ih _ _ _ _ _ _ h G hl
def fr_load_b158  : Nat → MS → Int32 → Option (Int32 × MS)
  | 0, _, _ => none
  | n + 1, S, l2 => obind2 (fr_cellCount S) fun r5 S2 => if r5 ≤ l2 then (obind (fr_records_12 S2) fun S7 => elet (mi S7 20 1) fun S10 => elet (mf S10 18 (upd (S10.2.1 18) 0 0)) fun S11 => elet (mf S11 18 (upd (S11.2.1 18) 1 0)) fun S12 => elet (mi S12 19 0) fun S13 => obind2 (fr_cellCount S13) fun r17 S14 => some (r17, S14)) else (fr_load_b168 (fr_load_b158 n) 16384 S2 l2 0)
set_option maxHeartbeats 4000000 in
set_option maxRecDepth 100000 in
theorem tr_load_b158 {p : Program} {l : Launch} {e : Env} {s : State} {m : MethodId} {args : Array Value} {below : List Frame} {meth : Method} {c : Code} {Q : State → Prop} {D : va_G} {A : Nat → Prop} {cI cJ cZ : ClassId} {ad : Nat → Nat} {r1 : Int32} {S1 : MS} (E : mE p c cX12_load s m args (Cond.code yX12_load cX12_load 4 (some .int) :: wsM) D cI cJ cZ) (hA : ∀ q : Nat, s.heap.size ≤ q → A q) (hR : sR s) (hml : c.maxLocals = 4) {h0 : Nat} (hA0 : ∀ a : Nat, A a → h0 ≤ a) (hT : sAll h0 s) (kr22 : ∀ (H : Heap) (locs : List Loc) (ls : Array Slot), mG D cI cJ cZ ad A s.heap H locs S1 → W p l e { frames := 11, cells := 0, slots := 0, locals := 216 } s m args below meth c H locs 0 0 Q (F0 m 22 ls [.int r1])) (kr64 : ∀ (H : Heap) (locs : List Loc) (ls : Array Slot), mG D cI cJ cZ ad A s.heap H locs S1 → W p l e { frames := 11, cells := 0, slots := 0, locals := 216 } s m args below meth c H locs 0 0 Q (F0 m 64 ls [.int r1])) (kr254 : ∀ (H : Heap) (locs : List Loc) (ls : Array Slot), mG D cI cJ cZ ad A s.heap H locs S1 → W p l e { frames := 11, cells := 0, slots := 0, locals := 216 } s m args below meth c H locs 0 0 Q (F0 m 254 ls [.int r1])) : ∀ n : Nat, ∀ (S : MS) (H : Heap) (locs : List Loc) (ls : Array Slot) (l2 : Int32), fr_load_b158 n S l2 = some (r1, S1) → mG D cI cJ cZ ad A s.heap H locs S → lv_has ls 4 [(0, .ref (ad 0)), (2, .int l2)] → W p l e { frames := 11, cells := 0, slots := 0, locals := 216 } s m args below meth c H locs 0 0 Q (F0 m 158 ls []) := by
  have hx := E.1
  have hb := E.2.1
  have hts := E.2.2.1
  have hown := E.2.2.2.1
  have hK := E.2.2.2.2.1
  intro n
  induction n with
  | zero =>
    intro S H locs ls l2 h
    have h : (none : Option (Int32 × MS)) = some (r1, S1) := h
    cases h
  | succ n ih =>
    intro S H locs ls l2 h G hl
    unfold fr_load_b158 at h
    refine lv_iload_n hx hb dX12_load_158 rfl (lv_at hl 1 rfl) ?_
    refine lv_aload_n hx hb dX12_load_159 rfl (lv_at hl 0 rfl) ?_
    obtain ⟨r5, S2, eS2, h⟩ := obind2_some h
    refine m_calli (As := []) (rest := [.int l2]) E G hA hR hml (tr_cellCount l D cI cJ cZ ad S eS2) (cwV 0 hts (gmV qM_204 qM_205 qM_206 qM_35 qM_207) rfl rfl rfl (by decide +kernel) ⟨Nat.le_of_ble_eq_true rfl, Nat.le_of_ble_eq_true rfl⟩) rfl hl.1 rfl (lv_room (Nat.le_of_ble_eq_true rfl)) dX12_load_160 ⟨Nat.zero_le _, Nat.zero_le _⟩ (fun q3 S4 H locs hq G => ?_)
    obtain ⟨hq1, hq2⟩ := hq
    rw [hq2] at G
    refine lv_to hq1 ?_
    clear hq1 hq2 eS2
    refine lv_icmp_ge (tgt := 218) hx hb dX12_load_163 (by decide) (fun c6 => ?_) (fun c6 => ?_)
    · have h := oif_pos c6 h
      refine lv_aload_n hx hb dX12_load_218 rfl (lv_at hl 0 rfl) ?_
      refine lv_aload_n hx hb dX12_load_219 rfl (lv_at hl 0 rfl) ?_
      refine m_get E G 12 (v := .ref (ad 12)) (by decide) (.tail _ qM_9) rfl dX12_load_220 rfl ?_
      obtain ⟨S7, eS7, h⟩ := obind_some h
      refine m_callv (As := [.ref (ad 12)]) (rest := []) E G hA hR hml (tr_records_12 l D cI cJ cZ ad S2 eS7) (cwV 1 hts (gmV qM_220 qM_221 qM_222 qM_35 qM_223) rfl rfl rfl (by decide +kernel) ⟨Nat.le_of_ble_eq_true rfl, Nat.le_of_ble_eq_true rfl⟩) rfl hl.1 rfl (lv_room (Nat.le_of_ble_eq_true rfl)) dX12_load_223 ⟨Nat.zero_le _, Nat.zero_le _⟩ (fun S9 H locs hq G => ?_)
      rw [hq] at G
      clear hq eS7
      refine lv_aload_n hx hb dX12_load_226 rfl (lv_at hl 0 rfl) ?_
      refine lv_iconst (v := 1) hx hb dX12_load_227 (by decide) ?_
      refine m_put E G 20 (by decide) (.tail _ qM_193) (mw_i20 _ _ _ _ _ 1) dX12_load_228 ⟨rfl, rfl, rfl⟩ rfl rfl (fun H locs G => ?_)
      obtain ⟨S10, eS10, h⟩ := elet_some h
      rw [← eS10] at G
      clear eS10
      refine lv_aload_n hx hb dX12_load_231 rfl (lv_at hl 0 rfl) ?_
      refine m_get E G 18 (v := .ref (ad 18)) (by decide) (.tail _ qM_16) rfl dX12_load_232 rfl ?_
      refine lv_iconst (v := 0) hx hb dX12_load_235 (by decide) ?_
      refine lv_iconst (v := 0) hx hb dX12_load_236 (by decide) ?_
      refine m_zast E G 18 10 (k := 0) (v := 0) rfl (fun _ => rfl) rfl (by decide) (by decide) rfl dX12_load_237 (fun H locs G => ?_)
      obtain ⟨S11, eS11, h⟩ := elet_some h
      rw [← eS11] at G
      clear eS11
      refine lv_aload_n hx hb dX12_load_238 rfl (lv_at hl 0 rfl) ?_
      refine m_get E G 18 (v := .ref (ad 18)) (by decide) (.tail _ qM_16) rfl dX12_load_239 rfl ?_
      refine lv_iconst (v := 1) hx hb dX12_load_242 (by decide) ?_
      refine lv_iconst (v := 0) hx hb dX12_load_243 (by decide) ?_
      refine m_zast E G 18 10 (k := 1) (v := 0) rfl (fun _ => rfl) rfl (by decide) (by decide) rfl dX12_load_244 (fun H locs G => ?_)
      obtain ⟨S12, eS12, h⟩ := elet_some h
      rw [← eS12] at G
      clear eS12
      refine lv_aload_n hx hb dX12_load_245 rfl (lv_at hl 0 rfl) ?_
      refine lv_iconst (v := 0) hx hb dX12_load_246 (by decide) ?_
      refine m_put E G 19 (by decide) (.tail _ qM_194) (mw_i19 _ _ _ _ _ 0) dX12_load_247 ⟨rfl, rfl, rfl⟩ rfl rfl (fun H locs G => ?_)
      obtain ⟨S13, eS13, h⟩ := elet_some h
      rw [← eS13] at G
      clear eS13
      refine lv_aload_n hx hb dX12_load_250 rfl (lv_at hl 0 rfl) ?_
      obtain ⟨r17, S14, eS14, h⟩ := obind2_some h
      refine m_calli (As := []) (rest := []) E G hA hR hml (tr_cellCount l D cI cJ cZ ad S13 eS14) (cwV 0 hts (gmV qM_204 qM_205 qM_206 qM_35 qM_207) rfl rfl rfl (by decide +kernel) ⟨Nat.le_of_ble_eq_true rfl, Nat.le_of_ble_eq_true rfl⟩) rfl hl.1 rfl (lv_room (Nat.le_of_ble_eq_true rfl)) dX12_load_251 ⟨Nat.zero_le _, Nat.zero_le _⟩ (fun q15 S16 H locs hq G => ?_)
      obtain ⟨hq1, hq2⟩ := hq
      rw [hq2] at G
      refine lv_to hq1 ?_
      clear hq1 hq2 eS14
      rw [(osome2 h).2] at G
      refine lv_to (osome2 h).1 ?_
      exact kr254 _ _ _ G
    · have h := oif_neg c6 h
      refine lv_iconst (v := 0) hx hb dX12_load_166 (by decide) ?_
      refine lv_istore_n (lv' := [(3, .int 0), (0, .ref (ad 0)), (2, .int l2)]) hx hb dX12_load_167 rfl hl (by decide) rfl (fun ls hl => ?_)
      have hl := lv_sub hl [1, 2, 0] rfl
      exact tr_load_b168 E hA hR hml hA0 hT kr22 kr64 kr254 ih _ _ _ _ _ _ _ h G hl
def fr_load_b149 (k107 : MS → Int32 → Option (Int32 × MS)) (S : MS) (s0 : Int32) (s1 : Int32) (l2 : Int32) : Option (Int32 × MS) := oif (inb s1 2455 = true) <| elet (mf S 12 (upd (S.2.1 12) s1.toNatClampNeg s0)) fun S3 => elet (l2 + Int32.ofInt (1)) fun v4 => k107 S3 v4
set_option maxHeartbeats 4000000 in
set_option maxRecDepth 100000 in
theorem tr_load_b149 {p : Program} {l : Launch} {e : Env} {s : State} {m : MethodId} {args : Array Value} {below : List Frame} {meth : Method} {c : Code} {Q : State → Prop} {D : va_G} {A : Nat → Prop} {cI cJ cZ : ClassId} {ad : Nat → Nat} {r1 : Int32} {S1 : MS} (E : mE p c cX12_load s m args (Cond.code yX12_load cX12_load 4 (some .int) :: wsM) D cI cJ cZ) (hA : ∀ q : Nat, s.heap.size ≤ q → A q) (hR : sR s) (hml : c.maxLocals = 4) {h0 : Nat} (hA0 : ∀ a : Nat, A a → h0 ≤ a) (hT : sAll h0 s) (kr22 : ∀ (H : Heap) (locs : List Loc) (ls : Array Slot), mG D cI cJ cZ ad A s.heap H locs S1 → W p l e { frames := 11, cells := 0, slots := 0, locals := 216 } s m args below meth c H locs 0 0 Q (F0 m 22 ls [.int r1])) (kr64 : ∀ (H : Heap) (locs : List Loc) (ls : Array Slot), mG D cI cJ cZ ad A s.heap H locs S1 → W p l e { frames := 11, cells := 0, slots := 0, locals := 216 } s m args below meth c H locs 0 0 Q (F0 m 64 ls [.int r1])) (kr254 : ∀ (H : Heap) (locs : List Loc) (ls : Array Slot), mG D cI cJ cZ ad A s.heap H locs S1 → W p l e { frames := 11, cells := 0, slots := 0, locals := 216 } s m args below meth c H locs 0 0 Q (F0 m 254 ls [.int r1])) {k107 : MS → Int32 → Option (Int32 × MS)} (hk107 : ∀ (S : MS) (H : Heap) (locs : List Loc) (ls : Array Slot) (l2 : Int32), k107 S l2 = some (r1, S1) → mG D cI cJ cZ ad A s.heap H locs S → lv_has ls 4 [(0, .ref (ad 0)), (2, .int l2)] → W p l e { frames := 11, cells := 0, slots := 0, locals := 216 } s m args below meth c H locs 0 0 Q (F0 m 107 ls [])) : ∀ (S : MS) (H : Heap) (locs : List Loc) (ls : Array Slot) (s0 : Int32) (s1 : Int32) (l2 : Int32), fr_load_b149 k107 S s0 s1 l2 = some (r1, S1) → mG D cI cJ cZ ad A s.heap H locs S → lv_has ls 4 [(0, .ref (ad 0)), (2, .int l2)] → W p l e { frames := 11, cells := 0, slots := 0, locals := 216 } s m args below meth c H locs 0 0 Q (F0 m 149 ls [.int s0, .int s1, .ref (ad 12)]) := by
  have hx := E.1
  have hb := E.2.1
  have hts := E.2.2.1
  have hown := E.2.2.2.1
  have hK := E.2.2.2.2.1
  intro S H locs ls s0 s1 l2 h G hl
  unfold fr_load_b149 at h
  obtain ⟨g2, h⟩ := oif_some h
  refine m_iast E G 12 4 (k := s1.toNatClampNeg) (v := s0) rfl (fun _ => rfl) (inb_k g2).1 (inb_k g2).2 (by decide) dX12_load_149 (fun H locs G => ?_)
  obtain ⟨S3, eS3, h⟩ := elet_some h
  rw [← eS3] at G
  clear eS3
  obtain ⟨v4, ev4, h⟩ := elet_some h
  refine lv_iinc (v := v4) (lv' := [(2, .int v4), (0, .ref (ad 0))]) hx hb dX12_load_150 hl (k := 1) rfl ev4.symm (by decide) rfl (fun ls hl => ?_)
  refine lv_goto (tgt := 107) hx hb dX12_load_153 (by decide) ?_
  have hl := lv_sub hl [1, 0] rfl
  exact hk107 _ _ _ _ _ h G hl
def fr_load_b107  : Nat → MS → Int32 → Option (Int32 × MS)
  | 0, _, _ => none
  | n + 1, S, l2 => elet (S.2.1 10 4) fun v2 => if v2 ≤ l2 then (fr_load_b158 16384 S 0) else (elet (13 + l2) fun v4 => elet (S.2.1 10 118) fun v5 => if v5 ≤ l2 then (fr_load_b149 (fr_load_b107 n) S 1 v4 l2) else (elet (119 + l2) fun v7 => oif (inb v7 131 = true) <| elet (S.2.1 10 v7.toNatClampNeg) fun v9 => fr_load_b149 (fr_load_b107 n) S v9 v4 l2))
set_option maxHeartbeats 4000000 in
set_option maxRecDepth 100000 in
theorem tr_load_b107 {p : Program} {l : Launch} {e : Env} {s : State} {m : MethodId} {args : Array Value} {below : List Frame} {meth : Method} {c : Code} {Q : State → Prop} {D : va_G} {A : Nat → Prop} {cI cJ cZ : ClassId} {ad : Nat → Nat} {r1 : Int32} {S1 : MS} (E : mE p c cX12_load s m args (Cond.code yX12_load cX12_load 4 (some .int) :: wsM) D cI cJ cZ) (hA : ∀ q : Nat, s.heap.size ≤ q → A q) (hR : sR s) (hml : c.maxLocals = 4) {h0 : Nat} (hA0 : ∀ a : Nat, A a → h0 ≤ a) (hT : sAll h0 s) (kr22 : ∀ (H : Heap) (locs : List Loc) (ls : Array Slot), mG D cI cJ cZ ad A s.heap H locs S1 → W p l e { frames := 11, cells := 0, slots := 0, locals := 216 } s m args below meth c H locs 0 0 Q (F0 m 22 ls [.int r1])) (kr64 : ∀ (H : Heap) (locs : List Loc) (ls : Array Slot), mG D cI cJ cZ ad A s.heap H locs S1 → W p l e { frames := 11, cells := 0, slots := 0, locals := 216 } s m args below meth c H locs 0 0 Q (F0 m 64 ls [.int r1])) (kr254 : ∀ (H : Heap) (locs : List Loc) (ls : Array Slot), mG D cI cJ cZ ad A s.heap H locs S1 → W p l e { frames := 11, cells := 0, slots := 0, locals := 216 } s m args below meth c H locs 0 0 Q (F0 m 254 ls [.int r1])) : ∀ n : Nat, ∀ (S : MS) (H : Heap) (locs : List Loc) (ls : Array Slot) (l2 : Int32), fr_load_b107 n S l2 = some (r1, S1) → mG D cI cJ cZ ad A s.heap H locs S → lv_has ls 4 [(0, .ref (ad 0)), (2, .int l2)] → W p l e { frames := 11, cells := 0, slots := 0, locals := 216 } s m args below meth c H locs 0 0 Q (F0 m 107 ls []) := by
  have hx := E.1
  have hb := E.2.1
  have hts := E.2.2.1
  have hown := E.2.2.2.1
  have hK := E.2.2.2.2.1
  intro n
  induction n with
  | zero =>
    intro S H locs ls l2 h
    have h : (none : Option (Int32 × MS)) = some (r1, S1) := h
    cases h
  | succ n ih =>
    intro S H locs ls l2 h G hl
    unfold fr_load_b107 at h
    refine lv_iload_n hx hb dX12_load_107 rfl (lv_at hl 1 rfl) ?_
    refine lv_aload_n hx hb dX12_load_108 rfl (lv_at hl 0 rfl) ?_
    refine m_get E G 10 (v := .ref (ad 10)) (by decide) (.tail _ qM_7) rfl dX12_load_109 rfl ?_
    refine lv_iconst (v := 4) hx hb dX12_load_112 (by decide) ?_
    refine m_iald E G 10 2 (n := 131) (k := 4) rfl rfl (by decide) (by decide) dX12_load_113 ?_
    refine lv_topi (fun v2 ev2 => ?_)
    have h := elet_at ev2 h
    clear ev2
    refine lv_icmp_ge (tgt := 156) hx hb dX12_load_114 (by decide) (fun c3 => ?_) (fun c3 => ?_)
    · have h := oif_pos c3 h
      refine lv_iconst (v := 0) hx hb dX12_load_156 (by decide) ?_
      refine lv_istore_n (lv' := [(2, .int 0), (0, .ref (ad 0))]) hx hb dX12_load_157 rfl hl (by decide) rfl (fun ls hl => ?_)
      have hl := lv_sub hl [1, 0] rfl
      exact tr_load_b158 E hA hR hml hA0 hT kr22 kr64 kr254 _ _ _ _ _ _ h G hl
    · have h := oif_neg c3 h
      refine lv_aload_n hx hb dX12_load_117 rfl (lv_at hl 0 rfl) ?_
      refine m_get E G 12 (v := .ref (ad 12)) (by decide) (.tail _ qM_9) rfl dX12_load_118 rfl ?_
      refine lv_bipush (v := 13) hx hb dX12_load_121 (by decide) ?_
      refine lv_iload_n hx hb dX12_load_123 rfl (lv_at hl 1 rfl) ?_
      refine lv_iadd hx hb dX12_load_124 ?_
      refine lv_topi (fun v4 ev4 => ?_)
      have h := elet_at ev4 h
      clear ev4
      refine lv_iload_n hx hb dX12_load_125 rfl (lv_at hl 1 rfl) ?_
      refine lv_aload_n hx hb dX12_load_126 rfl (lv_at hl 0 rfl) ?_
      refine m_get E G 10 (v := .ref (ad 10)) (by decide) (.tail _ qM_7) rfl dX12_load_127 rfl ?_
      refine lv_bipush (v := 118) hx hb dX12_load_130 (by decide) ?_
      refine m_iald E G 10 2 (n := 131) (k := 118) rfl rfl (by decide) (by decide) dX12_load_132 ?_
      refine lv_topi (fun v5 ev5 => ?_)
      have h := elet_at ev5 h
      clear ev5
      refine lv_icmp_ge (tgt := 148) hx hb dX12_load_133 (by decide) (fun c6 => ?_) (fun c6 => ?_)
      · have h := oif_pos c6 h
        refine lv_iconst (v := 1) hx hb dX12_load_148 (by decide) ?_
        have hl := lv_sub hl [0, 1] rfl
        exact tr_load_b149 E hA hR hml hA0 hT kr22 kr64 kr254 ih _ _ _ _ _ _ _ h G hl
      · have h := oif_neg c6 h
        refine lv_aload_n hx hb dX12_load_136 rfl (lv_at hl 0 rfl) ?_
        refine m_get E G 10 (v := .ref (ad 10)) (by decide) (.tail _ qM_7) rfl dX12_load_137 rfl ?_
        refine lv_bipush (v := 119) hx hb dX12_load_140 (by decide) ?_
        refine lv_iload_n hx hb dX12_load_142 rfl (lv_at hl 1 rfl) ?_
        refine lv_iadd hx hb dX12_load_143 ?_
        refine lv_topi (fun v7 ev7 => ?_)
        have h := elet_at ev7 h
        clear ev7
        obtain ⟨g8, h⟩ := oif_some h
        refine m_iald E G 10 2 (n := 131) (k := v7.toNatClampNeg) rfl (inb_k g8).1 (inb_k g8).2 (by decide) dX12_load_144 ?_
        refine lv_topi (fun v9 ev9 => ?_)
        have h := elet_at ev9 h
        clear ev9
        refine lv_goto (tgt := 149) hx hb dX12_load_145 (by decide) ?_
        have hl := lv_sub hl [0, 1] rfl
        exact tr_load_b149 E hA hR hml hA0 hT kr22 kr64 kr254 ih _ _ _ _ _ _ _ h G hl
def fr_load_b67  : Nat → MS → Int32 → Option (Int32 × MS)
  | 0, _, _ => none
  | n + 1, S, l2 => if 131 ≤ l2 then (obind (fr_copy_13_12 S 0 0) fun S3 => fr_load_b107 16384 S3 0) else (oif (inb l2 131 = true) <| elet (S.2.1 11 l2.toNatClampNeg) fun v7 => oif (inb l2 131 = true) <| elet (mf S 10 (upd (S.2.1 10) l2.toNatClampNeg v7)) fun S9 => elet (l2 + Int32.ofInt (1)) fun v10 => fr_load_b67 n S9 v10)
set_option maxHeartbeats 4000000 in
set_option maxRecDepth 100000 in
theorem tr_load_b67 {p : Program} {l : Launch} {e : Env} {s : State} {m : MethodId} {args : Array Value} {below : List Frame} {meth : Method} {c : Code} {Q : State → Prop} {D : va_G} {A : Nat → Prop} {cI cJ cZ : ClassId} {ad : Nat → Nat} {r1 : Int32} {S1 : MS} (E : mE p c cX12_load s m args (Cond.code yX12_load cX12_load 4 (some .int) :: wsM) D cI cJ cZ) (hA : ∀ q : Nat, s.heap.size ≤ q → A q) (hR : sR s) (hml : c.maxLocals = 4) {h0 : Nat} (hA0 : ∀ a : Nat, A a → h0 ≤ a) (hT : sAll h0 s) (kr22 : ∀ (H : Heap) (locs : List Loc) (ls : Array Slot), mG D cI cJ cZ ad A s.heap H locs S1 → W p l e { frames := 11, cells := 0, slots := 0, locals := 216 } s m args below meth c H locs 0 0 Q (F0 m 22 ls [.int r1])) (kr64 : ∀ (H : Heap) (locs : List Loc) (ls : Array Slot), mG D cI cJ cZ ad A s.heap H locs S1 → W p l e { frames := 11, cells := 0, slots := 0, locals := 216 } s m args below meth c H locs 0 0 Q (F0 m 64 ls [.int r1])) (kr254 : ∀ (H : Heap) (locs : List Loc) (ls : Array Slot), mG D cI cJ cZ ad A s.heap H locs S1 → W p l e { frames := 11, cells := 0, slots := 0, locals := 216 } s m args below meth c H locs 0 0 Q (F0 m 254 ls [.int r1])) : ∀ n : Nat, ∀ (S : MS) (H : Heap) (locs : List Loc) (ls : Array Slot) (l2 : Int32), fr_load_b67 n S l2 = some (r1, S1) → mG D cI cJ cZ ad A s.heap H locs S → lv_has ls 4 [(0, .ref (ad 0)), (2, .int l2)] → W p l e { frames := 11, cells := 0, slots := 0, locals := 216 } s m args below meth c H locs 0 0 Q (F0 m 67 ls []) := by
  have hx := E.1
  have hb := E.2.1
  have hts := E.2.2.1
  have hown := E.2.2.2.1
  have hK := E.2.2.2.2.1
  intro n
  induction n with
  | zero =>
    intro S H locs ls l2 h
    have h : (none : Option (Int32 × MS)) = some (r1, S1) := h
    cases h
  | succ n ih =>
    intro S H locs ls l2 h G hl
    unfold fr_load_b67 at h
    refine lv_iload_n hx hb dX12_load_67 rfl (lv_at hl 1 rfl) ?_
    refine lv_sipush (v := 131) hx hb dX12_load_68 (by decide) ?_
    refine lv_icmp_ge (tgt := 92) hx hb dX12_load_71 (by decide) (fun c2 => ?_) (fun c2 => ?_)
    · have h := oif_pos c2 h
      refine lv_aload_n hx hb dX12_load_92 rfl (lv_at hl 0 rfl) ?_
      refine m_get E G 13 (v := .ref (ad 13)) (by decide) (.tail _ qM_10) rfl dX12_load_93 rfl ?_
      refine lv_iconst (v := 0) hx hb dX12_load_96 (by decide) ?_
      refine lv_aload_n hx hb dX12_load_97 rfl (lv_at hl 0 rfl) ?_
      refine m_get E G 12 (v := .ref (ad 12)) (by decide) (.tail _ qM_9) rfl dX12_load_98 rfl ?_
      refine lv_iconst (v := 0) hx hb dX12_load_101 (by decide) ?_
      obtain ⟨S3, eS3, h⟩ := obind_some h
      refine m_calls (As := [.ref (ad 13), .int 0, .ref (ad 12), .int 0]) (rest := []) E G hA hR hml (tr_copy_13_12 l D cI cJ cZ ad S 0 0 eS3) (cwS 4 hts (gmS qM_201 qM_202 qM_35 qM_203) rfl rfl rfl (by decide +kernel) ⟨Nat.le_of_ble_eq_true rfl, Nat.le_of_ble_eq_true rfl⟩) rfl hl.1 rfl (lv_room (Nat.le_of_ble_eq_true rfl)) dX12_load_102 ⟨Nat.zero_le _, Nat.zero_le _⟩ (fun S5 H locs hq G => ?_)
      rw [hq] at G
      clear hq eS3
      refine lv_iconst (v := 0) hx hb dX12_load_105 (by decide) ?_
      refine lv_istore_n (lv' := [(2, .int 0), (0, .ref (ad 0))]) hx hb dX12_load_106 rfl hl (by decide) rfl (fun ls hl => ?_)
      have hl := lv_sub hl [1, 0] rfl
      exact tr_load_b107 E hA hR hml hA0 hT kr22 kr64 kr254 _ _ _ _ _ _ h G hl
    · have h := oif_neg c2 h
      refine lv_aload_n hx hb dX12_load_74 rfl (lv_at hl 0 rfl) ?_
      refine m_get E G 10 (v := .ref (ad 10)) (by decide) (.tail _ qM_7) rfl dX12_load_75 rfl ?_
      refine lv_iload_n hx hb dX12_load_78 rfl (lv_at hl 1 rfl) ?_
      refine lv_aload_n hx hb dX12_load_79 rfl (lv_at hl 0 rfl) ?_
      refine m_get E G 11 (v := .ref (ad 11)) (by decide) (.tail _ qM_8) rfl dX12_load_80 rfl ?_
      refine lv_iload_n hx hb dX12_load_83 rfl (lv_at hl 1 rfl) ?_
      obtain ⟨g6, h⟩ := oif_some h
      refine m_iald E G 11 3 (n := 131) (k := l2.toNatClampNeg) rfl (inb_k g6).1 (inb_k g6).2 (by decide) dX12_load_84 ?_
      refine lv_topi (fun v7 ev7 => ?_)
      have h := elet_at ev7 h
      clear ev7
      obtain ⟨g8, h⟩ := oif_some h
      refine m_iast E G 10 2 (k := l2.toNatClampNeg) (v := v7) rfl (fun _ => rfl) (inb_k g8).1 (inb_k g8).2 (by decide) dX12_load_85 (fun H locs G => ?_)
      obtain ⟨S9, eS9, h⟩ := elet_some h
      rw [← eS9] at G
      clear eS9
      obtain ⟨v10, ev10, h⟩ := elet_some h
      refine lv_iinc (v := v10) (lv' := [(2, .int v10), (0, .ref (ad 0))]) hx hb dX12_load_86 hl (k := 1) rfl ev10.symm (by decide) rfl (fun ls hl => ?_)
      refine lv_goto (tgt := 67) hx hb dX12_load_89 (by decide) ?_
      have hl := lv_sub hl [1, 0] rfl
      exact ih _ _ _ _ _ h G hl
def fr_load (S : MS) (a0 : Int32) : Option (Int32 × MS) := elet (mi S 0 0) fun S2 => elet (S2.1 2) fun v3 => obind (fr_in a0 0 v3) fun r4 => if r4 = 0 then (obind2 (fr_throwsAt S2 1) fun r10 S7 => some (r10, S7)) else (elet (mi S2 3 a0) fun S11 => elet (mi S11 2 0) fun S12 => elet (mi S12 4 0) fun S13 => elet (mi S13 5 0) fun S14 => elet (mi S14 6 (-1)) fun S15 => obind (fr_readText S15) fun S16 => elet (S16.1 5) fun v19 => if v19 ≤ 0 then (fr_load_b67 16384 S16 0) else (obind2 (fr_throwsAt S16 2) fun r24 S21 => some (r24, S21)))
set_option maxHeartbeats 4000000 in
set_option maxRecDepth 100000 in
theorem tr_load (l : Launch) (D : va_G) (cI cJ cZ : ClassId) (ad : Nat → Nat) (S : MS) (h0 : Nat) (a0 : Int32) {r1 : Int32} {S1 : MS} (h : fr_load S a0 = some (r1, S1)) : mCiX l yX12_load (Cond.code yX12_load cX12_load 4 (some .int) :: wsM) 11 216 D cI cJ cZ ad S [.int a0] (xT0 cI cJ cZ h0 ad S) (fun r S9 => r = r1 ∧ S9 = S1) := by
  intro sz
  refine Met.ofW (cc := cX12_load) (maxL := 4) (ret := (some .int)) (by decide) rfl ?_
  intro p e s m args below meth c s₁ B hml hv
  obtain ⟨rfl, ⟨hsz, hP, hK, hD0, hR⟩, hA1, hT⟩ := hv
  have hx := B.exec
  have hb := B.bytes
  have hr := B.returns
  have hts := atoms_spec (ws := (Cond.code yX12_load cX12_load 4 (some .int) :: wsM)) B.pre
  have hown : s.vm.findClass RX12 = some m.cls := findClass_of_methodNamed B.named
  have hlocks := B.notSynchronized
  subst hsz
  have hD := hD0.self (sz := s.heap.size)
  generalize hAe : va_A (MW cI cJ cZ ad S) s.heap.size = A at hD hA1 ⊢
  have hA : ∀ q : Nat, s.heap.size ≤ q → A q := fun q h => by rw [← hAe]; exact Or.inr h
  have G : mG D cI cJ cZ ad A s.heap s.heap [] S := ⟨hP, hD, va_S.rf⟩
  have E : mE p c cX12_load s m ([.ref (ad 0), .int a0] : List Value).toArray (Cond.code yX12_load cX12_load 4 (some .int) :: wsM) D cI cJ cZ := ⟨hx, hb, hts, hown, hK, fun w h => .tail _ (iM_x h)⟩
  have hA0 : ∀ a : Nat, A a → h0 ≤ a := hA1
  have hl := lv_entry ([.ref (ad 0), .int a0]) (n := 4) (Nat.le_of_ble_eq_true rfl)
  rw [lg_entry_eq]
  generalize (lg_sl ([.ref (ad 0), .int a0]) ++ List.replicate (4 - (lg_sl ([.ref (ad 0), .int a0])).length) Slot.unset).toArray = ls at hl ⊢
  have hl : lv_has ls 4 [(0, .ref (ad 0)), (1, .int a0)] := hl
  unfold fr_load at h
  refine lv_aload_n hx hb dX12_load_0 rfl (lv_at hl 0 rfl) ?_
  refine lv_iconst (v := 0) hx hb dX12_load_1 (by decide) ?_
  refine m_put E G 0 (by decide) (.tail _ qM_26) (mw_i0 _ _ _ _ _ 0) dX12_load_2 ⟨rfl, rfl, rfl⟩ rfl rfl (fun H locs G => ?_)
  obtain ⟨S2, eS2, h⟩ := elet_some h
  rw [← eS2] at G
  clear eS2
  refine lv_iload_n hx hb dX12_load_5 rfl (lv_at hl 1 rfl) ?_
  refine lv_iconst (v := 0) hx hb dX12_load_6 (by decide) ?_
  refine lv_aload_n hx hb dX12_load_7 rfl (lv_at hl 0 rfl) ?_
  refine m_get E G 2 (v := .int (S2.1 2)) (by decide) (.tail _ qM_30) rfl dX12_load_8 rfl ?_
  refine lv_topi (fun v3 ev3 => ?_)
  have h := elet_at ev3 h
  clear ev3
  obtain ⟨r4, er4, h⟩ := obind_some h
  refine m_stat (As := [.int a0, .int 0, .int v3]) (rest := []) ⟨hx, hb, hml, hown, hts⟩ (tr_in l a0 0 v3 er4) (cwS 3 hts (gmS qM_52 qM_53 qM_35 qM_27) rfl rfl rfl (by decide +kernel) ⟨Nat.le_of_ble_eq_true rfl, Nat.le_of_ble_eq_true rfl⟩) rfl hl.1 rfl (lv_room (Nat.le_of_ble_eq_true rfl)) dX12_load_11 ⟨Nat.zero_le _, Nat.zero_le _⟩ (fun q5 hq => ?_)
  refine lv_to hq ?_
  clear hq er4
  refine lv_if_ne (tgt := 23) hx hb dX12_load_14 (by decide) (fun c6 => ?_) (fun c6 => ?_)
  · have h := oif_neg c6 h
    refine lv_aload_n hx hb dX12_load_23 rfl (lv_at hl 0 rfl) ?_
    refine lv_iload_n hx hb dX12_load_24 rfl (lv_at hl 1 rfl) ?_
    refine m_put E G 3 (by decide) (.tail _ qM_41) (mw_i3 _ _ _ _ _ a0) dX12_load_25 ⟨rfl, rfl, rfl⟩ rfl rfl (fun H locs G => ?_)
    obtain ⟨S11, eS11, h⟩ := elet_some h
    rw [← eS11] at G
    clear eS11
    refine lv_aload_n hx hb dX12_load_28 rfl (lv_at hl 0 rfl) ?_
    refine lv_iconst (v := 0) hx hb dX12_load_29 (by decide) ?_
    refine m_put E G 2 (by decide) (.tail _ qM_30) (mw_i2 _ _ _ _ _ 0) dX12_load_30 ⟨rfl, rfl, rfl⟩ rfl rfl (fun H locs G => ?_)
    obtain ⟨S12, eS12, h⟩ := elet_some h
    rw [← eS12] at G
    clear eS12
    refine lv_aload_n hx hb dX12_load_33 rfl (lv_at hl 0 rfl) ?_
    refine lv_iconst (v := 0) hx hb dX12_load_34 (by decide) ?_
    refine m_put E G 4 (by decide) (.tail _ qM_46) (mw_i4 _ _ _ _ _ 0) dX12_load_35 ⟨rfl, rfl, rfl⟩ rfl rfl (fun H locs G => ?_)
    obtain ⟨S13, eS13, h⟩ := elet_some h
    rw [← eS13] at G
    clear eS13
    refine lv_aload_n hx hb dX12_load_38 rfl (lv_at hl 0 rfl) ?_
    refine lv_iconst (v := 0) hx hb dX12_load_39 (by decide) ?_
    refine m_put E G 5 (by decide) (.tail _ qM_38) (mw_i5 _ _ _ _ _ 0) dX12_load_40 ⟨rfl, rfl, rfl⟩ rfl rfl (fun H locs G => ?_)
    obtain ⟨S14, eS14, h⟩ := elet_some h
    rw [← eS14] at G
    clear eS14
    refine lv_aload_n hx hb dX12_load_43 rfl (lv_at hl 0 rfl) ?_
    refine lv_iconst (v := (-1)) hx hb dX12_load_44 (by decide) ?_
    refine m_put E G 6 (by decide) (.tail _ qM_6) (mw_i6 _ _ _ _ _ (-1)) dX12_load_45 ⟨rfl, rfl, rfl⟩ rfl rfl (fun H locs G => ?_)
    obtain ⟨S15, eS15, h⟩ := elet_some h
    rw [← eS15] at G
    clear eS15
    refine lv_aload_n hx hb dX12_load_48 rfl (lv_at hl 0 rfl) ?_
    obtain ⟨S16, eS16, h⟩ := obind_some h
    refine m_callvX (As := []) (rest := []) E G hA hR hml (tr_readText l D cI cJ cZ ad S15 h0 eS16) (cwV 0 hts (gmV qM_198 qM_199 qM_200 qM_35 qM_185) rfl rfl rfl (by decide +kernel) ⟨Nat.le_of_ble_eq_true rfl, Nat.le_of_ble_eq_true rfl⟩) rfl hl.1 rfl (lv_room (Nat.le_of_ble_eq_true rfl)) dX12_load_49 ⟨Nat.zero_le _, Nat.zero_le _⟩ (xT0.blind) (xT0.go hT hA0 hA G) (fun S18 H locs hq G => ?_)
    rw [hq] at G
    clear hq eS16
    refine lv_aload_n hx hb dX12_load_52 rfl (lv_at hl 0 rfl) ?_
    refine m_get E G 5 (v := .int (S16.1 5)) (by decide) (.tail _ qM_38) rfl dX12_load_53 rfl ?_
    refine lv_topi (fun v19 ev19 => ?_)
    have h := elet_at ev19 h
    clear ev19
    refine lv_if_le (tgt := 65) hx hb dX12_load_56 (by decide) (fun c20 => ?_) (fun c20 => ?_)
    · have h := oif_pos c20 h
      refine lv_iconst (v := 0) hx hb dX12_load_65 (by decide) ?_
      refine lv_istore_n (lv' := [(2, .int 0), (0, .ref (ad 0)), (1, .int a0)]) hx hb dX12_load_66 rfl hl (by decide) rfl (fun ls hl => ?_)
      have hl := lv_sub hl [1, 0] rfl
      exact tr_load_b67 E hA hR hml hA0 hT (fun H locs ls G => W.iret (v := r1) hx hb hr (fun t ht hW => ⟨⟨r1, S1, rfl, ⟨rfl, rfl⟩, ⟨by rw [ht]; exact G.1, va_K.moved hW.alike hK, G.2.1⟩⟩, G.2.2.F ht⟩) G.2.2.2.2 dX12_load_22) (fun H locs ls G => W.iret (v := r1) hx hb hr (fun t ht hW => ⟨⟨r1, S1, rfl, ⟨rfl, rfl⟩, ⟨by rw [ht]; exact G.1, va_K.moved hW.alike hK, G.2.1⟩⟩, G.2.2.F ht⟩) G.2.2.2.2 dX12_load_64) (fun H locs ls G => W.iret (v := r1) hx hb hr (fun t ht hW => ⟨⟨r1, S1, rfl, ⟨rfl, rfl⟩, ⟨by rw [ht]; exact G.1, va_K.moved hW.alike hK, G.2.1⟩⟩, G.2.2.F ht⟩) G.2.2.2.2 dX12_load_254) _ _ _ _ _ _ h G hl
    · have h := oif_neg c20 h
      refine lv_aload_n hx hb dX12_load_59 rfl (lv_at hl 0 rfl) ?_
      refine lv_iconst (v := 2) hx hb dX12_load_60 (by decide) ?_
      obtain ⟨r24, S21, eS21, h⟩ := obind2_some h
      refine m_calli (As := [.int 2]) (rest := []) E G hA hR hml (tr_throwsAt l D cI cJ cZ ad S16 2 eS21) (cwV 1 hts (gmV qM_195 qM_196 qM_197 qM_35 qM_28) rfl rfl rfl (by decide +kernel) ⟨Nat.le_of_ble_eq_true rfl, Nat.le_of_ble_eq_true rfl⟩) rfl hl.1 rfl (lv_room (Nat.le_of_ble_eq_true rfl)) dX12_load_61 ⟨Nat.zero_le _, Nat.zero_le _⟩ (fun q22 S23 H locs hq G => ?_)
      obtain ⟨hq1, hq2⟩ := hq
      rw [hq2] at G
      refine lv_to hq1 ?_
      clear hq1 hq2 eS21
      exact W.iret (v := r24) hx hb hr (fun t ht hW => ⟨⟨r24, S21, rfl, osome2 h, ⟨by rw [ht]; exact G.1, va_K.moved hW.alike hK, G.2.1⟩⟩, G.2.2.F ht⟩) G.2.2.2.2 dX12_load_64
  · have h := oif_pos c6 h
    refine lv_aload_n hx hb dX12_load_17 rfl (lv_at hl 0 rfl) ?_
    refine lv_iconst (v := 1) hx hb dX12_load_18 (by decide) ?_
    obtain ⟨r10, S7, eS7, h⟩ := obind2_some h
    refine m_calli (As := [.int 1]) (rest := []) E G hA hR hml (tr_throwsAt l D cI cJ cZ ad S2 1 eS7) (cwV 1 hts (gmV qM_195 qM_196 qM_197 qM_35 qM_28) rfl rfl rfl (by decide +kernel) ⟨Nat.le_of_ble_eq_true rfl, Nat.le_of_ble_eq_true rfl⟩) rfl hl.1 rfl (lv_room (Nat.le_of_ble_eq_true rfl)) dX12_load_19 ⟨Nat.zero_le _, Nat.zero_le _⟩ (fun q8 S9 H locs hq G => ?_)
    obtain ⟨hq1, hq2⟩ := hq
    rw [hq2] at G
    refine lv_to hq1 ?_
    clear hq1 hq2 eS7
    exact W.iret (v := r10) hx hb hr (fun t ht hW => ⟨⟨r10, S7, rfl, osome2 h, ⟨by rw [ht]; exact G.1, va_K.moved hW.alike hK, G.2.1⟩⟩, G.2.2.F ht⟩) G.2.2.2.2 dX12_load_22
def fr_copy_12_15_b3  : Nat → MS → Int32 → Int32 → Int32 → Option (MS)
  | 0, _, _, _, _ => none
  | n + 1, S, l1, l3, l4 => if 2455 ≤ l4 then (some S) else (elet (l3 + l4) fun v3 => elet (l1 + l4) fun v4 => oif (inb v4 2455 = true) <| elet (S.2.1 12 v4.toNatClampNeg) fun v6 => oif (inb v3 14730 = true) <| elet (mf S 15 (upd (S.2.1 15) v3.toNatClampNeg v6)) fun S8 => elet (l4 + Int32.ofInt (1)) fun v9 => fr_copy_12_15_b3 n S8 l1 l3 v9)
set_option maxHeartbeats 4000000 in
set_option maxRecDepth 100000 in
theorem tr_copy_12_15_b3 {p : Program} {l : Launch} {e : Env} {s : State} {m : MethodId} {args : Array Value} {below : List Frame} {meth : Method} {c : Code} {Q : State → Prop} {D : va_G} {A : Nat → Prop} {H0 : Heap} {cI cJ cZ : ClassId} {ad : Nat → Nat} {S1 : MS} (E : mE p c cX12_copy s m args (Cond.code yX12_copy cX12_copy 5 none :: wsM) D cI cJ cZ) (hA : ∀ q : Nat, H0.size ≤ q → A q) (hR : sR s) (hml : c.maxLocals = 5) (kr29 : ∀ (H : Heap) (locs : List Loc) (ls : Array Slot), mG D cI cJ cZ ad A H0 H locs S1 → W p l e { frames := 1, cells := 0, slots := 0, locals := 0 } s m args below meth c H locs 0 0 Q (F0 m 29 ls [])) : ∀ n : Nat, ∀ (S : MS) (H : Heap) (locs : List Loc) (ls : Array Slot) (l1 : Int32) (l3 : Int32) (l4 : Int32), fr_copy_12_15_b3 n S l1 l3 l4 = some S1 → mG D cI cJ cZ ad A H0 H locs S → lv_has ls 5 [(0, .ref (ad 12)), (1, .int l1), (2, .ref (ad 15)), (3, .int l3), (4, .int l4)] → W p l e { frames := 1, cells := 0, slots := 0, locals := 0 } s m args below meth c H locs 0 0 Q (F0 m 3 ls []) := by
  have hx := E.1
  have hb := E.2.1
  have hts := E.2.2.1
  have hown := E.2.2.2.1
  have hK := E.2.2.2.2.1
  intro n
  induction n with
  | zero =>
    intro S H locs ls l1 l3 l4 h
    have h : (none : Option (MS)) = some S1 := h
    cases h
  | succ n ih =>
    intro S H locs ls l1 l3 l4 h G hl
    unfold fr_copy_12_15_b3 at h
    refine lv_iload hx hb dX12_copy_3 (lv_at hl 4 rfl) ?_
    refine lv_sipush (v := 2455) hx hb dX12_copy_5 (by decide) ?_
    refine lv_icmp_ge (tgt := 29) hx hb dX12_copy_8 (by decide) (fun c2 => ?_) (fun c2 => ?_)
    · have h := oif_pos c2 h
      rw [osome1 h] at G
      exact kr29 _ _ _ G
    · have h := oif_neg c2 h
      refine lv_aload_n hx hb dX12_copy_11 rfl (lv_at hl 2 rfl) ?_
      refine lv_iload_n hx hb dX12_copy_12 rfl (lv_at hl 3 rfl) ?_
      refine lv_iload hx hb dX12_copy_13 (lv_at hl 4 rfl) ?_
      refine lv_iadd hx hb dX12_copy_15 ?_
      refine lv_topi (fun v3 ev3 => ?_)
      have h := elet_at ev3 h
      clear ev3
      refine lv_aload_n hx hb dX12_copy_16 rfl (lv_at hl 0 rfl) ?_
      refine lv_iload_n hx hb dX12_copy_17 rfl (lv_at hl 1 rfl) ?_
      refine lv_iload hx hb dX12_copy_18 (lv_at hl 4 rfl) ?_
      refine lv_iadd hx hb dX12_copy_20 ?_
      refine lv_topi (fun v4 ev4 => ?_)
      have h := elet_at ev4 h
      clear ev4
      obtain ⟨g5, h⟩ := oif_some h
      refine m_iald E G 12 4 (n := 2455) (k := v4.toNatClampNeg) rfl (inb_k g5).1 (inb_k g5).2 (by decide) dX12_copy_21 ?_
      refine lv_topi (fun v6 ev6 => ?_)
      have h := elet_at ev6 h
      clear ev6
      obtain ⟨g7, h⟩ := oif_some h
      refine m_iast E G 15 7 (k := v3.toNatClampNeg) (v := v6) rfl (fun _ => rfl) (inb_k g7).1 (inb_k g7).2 (by decide) dX12_copy_22 (fun H locs G => ?_)
      obtain ⟨S8, eS8, h⟩ := elet_some h
      rw [← eS8] at G
      clear eS8
      obtain ⟨v9, ev9, h⟩ := elet_some h
      refine lv_iinc (v := v9) (lv' := [(4, .int v9), (0, .ref (ad 12)), (1, .int l1), (2, .ref (ad 15)), (3, .int l3)]) hx hb dX12_copy_23 hl (k := 4) rfl ev9.symm (by decide) rfl (fun ls hl => ?_)
      refine lv_goto (tgt := 3) hx hb dX12_copy_26 (by decide) ?_
      have hl := lv_sub hl [1, 2, 3, 4, 0] rfl
      exact ih _ _ _ _ _ _ _ h G hl
def fr_copy_12_15 (S : MS) (a1 : Int32) (a3 : Int32) : Option (MS) := fr_copy_12_15_b3 16384 S a1 a3 0
set_option maxHeartbeats 4000000 in
set_option maxRecDepth 100000 in
theorem tr_copy_12_15 (l : Launch) (D : va_G) (cI cJ cZ : ClassId) (ad : Nat → Nat) (S : MS) (a1 : Int32) (a3 : Int32) {S1 : MS} (h : fr_copy_12_15 S a1 a3 = some S1) : mCs l yX12_copy (Cond.code yX12_copy cX12_copy 5 none :: wsM) 1 0 D cI cJ cZ ad S [.ref (ad 12), .int a1, .ref (ad 15), .int a3] (fun S9 => S9 = S1) := by
  intro sz
  refine Met.ofW (cc := cX12_copy) (maxL := 5) (ret := none) (by decide) rfl ?_
  intro p e s m args below meth c s₁ B hml hv
  obtain ⟨rfl, hsz, hP, hK, hD0, hR⟩ := hv
  have hx := B.exec
  have hb := B.bytes
  have hr := B.returns
  have hts := atoms_spec (ws := (Cond.code yX12_copy cX12_copy 5 none :: wsM)) B.pre
  have hown : s.vm.findClass RX12 = some m.cls := findClass_of_methodNamed B.named
  have hlocks := B.notSynchronized
  subst hsz
  have hD := hD0.self (sz := s.heap.size)
  generalize hAe : va_A (MW cI cJ cZ ad S) s.heap.size = A at hD ⊢
  have hA : ∀ q : Nat, s.heap.size ≤ q → A q := fun q h => by rw [← hAe]; exact Or.inr h
  have G : mG D cI cJ cZ ad A s.heap s.heap [] S := ⟨hP, hD, va_S.rf⟩
  have E : mE p c cX12_copy s m ([.ref (ad 12), .int a1, .ref (ad 15), .int a3] : List Value).toArray (Cond.code yX12_copy cX12_copy 5 none :: wsM) D cI cJ cZ := ⟨hx, hb, hts, hown, hK, fun w h => .tail _ (iM_x h)⟩
  have hl := lv_entry ([.ref (ad 12), .int a1, .ref (ad 15), .int a3]) (n := 5) (Nat.le_of_ble_eq_true rfl)
  rw [lg_entry_eq]
  generalize (lg_sl ([.ref (ad 12), .int a1, .ref (ad 15), .int a3]) ++ List.replicate (5 - (lg_sl ([.ref (ad 12), .int a1, .ref (ad 15), .int a3])).length) Slot.unset).toArray = ls at hl ⊢
  have hl : lv_has ls 5 [(0, .ref (ad 12)), (1, .int a1), (2, .ref (ad 15)), (3, .int a3)] := hl
  unfold fr_copy_12_15 at h
  refine lv_iconst (v := 0) hx hb dX12_copy_0 (by decide) ?_
  refine lv_istore (lv' := [(4, .int 0), (0, .ref (ad 12)), (1, .int a1), (2, .ref (ad 15)), (3, .int a3)]) hx hb dX12_copy_1 hl (by decide) rfl (fun ls hl => ?_)
  have hl := lv_sub hl [1, 2, 3, 4, 0] rfl
  exact tr_copy_12_15_b3 E hA hR hml (fun H locs ls G => W.vret hx hb hr (fun t ht hW => ⟨⟨S1, rfl, rfl, ⟨by rw [ht]; exact G.1, va_K.moved hW.alike hK, G.2.1⟩⟩, G.2.2.F ht⟩) G.2.2.2.2 dX12_copy_29) _ _ _ _ _ _ _ _ h G hl
def fr_remember_b54  (S : MS)  : Option (MS) := elet (S.1 19) fun v2 => elet (2455 * v2) fun v3 => obind (fr_copy_12_15 S 0 v3) fun S4 => elet (S4.1 19) fun v7 => elet (v7 + 1) fun v8 => elet (mi S4 19 v8) fun S9 => some S9
set_option maxHeartbeats 4000000 in
set_option maxRecDepth 100000 in
theorem tr_remember_b54 {p : Program} {l : Launch} {e : Env} {s : State} {m : MethodId} {args : Array Value} {below : List Frame} {meth : Method} {c : Code} {Q : State → Prop} {D : va_G} {A : Nat → Prop} {H0 : Heap} {cI cJ cZ : ClassId} {ad : Nat → Nat} {S1 : MS} (E : mE p c cX12_remember s m args (Cond.code yX12_remember cX12_remember 2 none :: wsM) D cI cJ cZ) (hA : ∀ q : Nat, H0.size ≤ q → A q) (hR : sR s) (hml : c.maxLocals = 2) (kr84 : ∀ (H : Heap) (locs : List Loc) (ls : Array Slot), mG D cI cJ cZ ad A H0 H locs S1 → W p l e { frames := 2, cells := 0, slots := 0, locals := 24 } s m args below meth c H locs 0 0 Q (F0 m 84 ls [])) : ∀ (S : MS) (H : Heap) (locs : List Loc) (ls : Array Slot), fr_remember_b54 S = some S1 → mG D cI cJ cZ ad A H0 H locs S → lv_has ls 2 [(0, .ref (ad 0))] → W p l e { frames := 2, cells := 0, slots := 0, locals := 24 } s m args below meth c H locs 0 0 Q (F0 m 54 ls []) := by
  have hx := E.1
  have hb := E.2.1
  have hts := E.2.2.1
  have hown := E.2.2.2.1
  have hK := E.2.2.2.2.1
  intro S H locs ls h G hl
  unfold fr_remember_b54 at h
  refine lv_aload_n hx hb dX12_remember_54 rfl (lv_at hl 0 rfl) ?_
  refine m_get E G 12 (v := .ref (ad 12)) (by decide) (.tail _ qM_9) rfl dX12_remember_55 rfl ?_
  refine lv_iconst (v := 0) hx hb dX12_remember_58 (by decide) ?_
  refine lv_aload_n hx hb dX12_remember_59 rfl (lv_at hl 0 rfl) ?_
  refine m_get E G 15 (v := .ref (ad 15)) (by decide) (.tail _ qM_12) rfl dX12_remember_60 rfl ?_
  refine lv_sipush (v := 2455) hx hb dX12_remember_63 (by decide) ?_
  refine lv_aload_n hx hb dX12_remember_66 rfl (lv_at hl 0 rfl) ?_
  refine m_get E G 19 (v := .int (S.1 19)) (by decide) (.tail _ qM_194) rfl dX12_remember_67 rfl ?_
  refine lv_topi (fun v2 ev2 => ?_)
  have h := elet_at ev2 h
  clear ev2
  refine lv_imul hx hb dX12_remember_70 ?_
  refine lv_topi (fun v3 ev3 => ?_)
  have h := elet_at ev3 h
  clear ev3
  obtain ⟨S4, eS4, h⟩ := obind_some h
  refine m_calls (As := [.ref (ad 12), .int 0, .ref (ad 15), .int v3]) (rest := []) E G hA hR hml (tr_copy_12_15 l D cI cJ cZ ad S 0 v3 eS4) (cwS 4 hts (gmS qM_201 qM_202 qM_35 qM_203) rfl rfl rfl (by decide +kernel) ⟨Nat.le_of_ble_eq_true rfl, Nat.le_of_ble_eq_true rfl⟩) rfl hl.1 rfl (lv_room (Nat.le_of_ble_eq_true rfl)) dX12_remember_71 ⟨Nat.zero_le _, Nat.zero_le _⟩ (fun S6 H locs hq G => ?_)
  rw [hq] at G
  clear hq eS4
  refine lv_aload_n hx hb dX12_remember_74 rfl (lv_at hl 0 rfl) ?_
  refine lv_dup hx hb dX12_remember_75 rfl ?_
  refine m_get E G 19 (v := .int (S4.1 19)) (by decide) (.tail _ qM_194) rfl dX12_remember_76 rfl ?_
  refine lv_topi (fun v7 ev7 => ?_)
  have h := elet_at ev7 h
  clear ev7
  refine lv_iconst (v := 1) hx hb dX12_remember_79 (by decide) ?_
  refine lv_iadd hx hb dX12_remember_80 ?_
  refine lv_topi (fun v8 ev8 => ?_)
  have h := elet_at ev8 h
  clear ev8
  refine m_put E G 19 (by decide) (.tail _ qM_194) (mw_i19 _ _ _ _ _ v8) dX12_remember_81 ⟨rfl, rfl, rfl⟩ rfl rfl (fun H locs G => ?_)
  obtain ⟨S9, eS9, h⟩ := elet_some h
  rw [← eS9] at G
  clear eS9
  rw [osome1 h] at G
  exact kr84 _ _ _ G
def fr_remember_b13  : Nat → MS → Int32 → Option (MS)
  | 0, _, _ => none
  | n + 1, S, l1 => if 14730 ≤ l1 then (elet (S.1 19) fun v3 => elet (v3 - 1) fun v4 => elet (mi S 19 v4) fun S5 => fr_remember_b54 S5) else (elet (l1 - 2455) fun v6 => oif (inb l1 14730 = true) <| elet (S.2.1 15 l1.toNatClampNeg) fun v8 => oif (inb v6 14730 = true) <| elet (mf S 15 (upd (S.2.1 15) v6.toNatClampNeg v8)) fun S10 => elet (l1 + Int32.ofInt (1)) fun v11 => fr_remember_b13 n S10 v11)
set_option maxHeartbeats 4000000 in
set_option maxRecDepth 100000 in
theorem tr_remember_b13 {p : Program} {l : Launch} {e : Env} {s : State} {m : MethodId} {args : Array Value} {below : List Frame} {meth : Method} {c : Code} {Q : State → Prop} {D : va_G} {A : Nat → Prop} {H0 : Heap} {cI cJ cZ : ClassId} {ad : Nat → Nat} {S1 : MS} (E : mE p c cX12_remember s m args (Cond.code yX12_remember cX12_remember 2 none :: wsM) D cI cJ cZ) (hA : ∀ q : Nat, H0.size ≤ q → A q) (hR : sR s) (hml : c.maxLocals = 2) (kr84 : ∀ (H : Heap) (locs : List Loc) (ls : Array Slot), mG D cI cJ cZ ad A H0 H locs S1 → W p l e { frames := 2, cells := 0, slots := 0, locals := 24 } s m args below meth c H locs 0 0 Q (F0 m 84 ls [])) : ∀ n : Nat, ∀ (S : MS) (H : Heap) (locs : List Loc) (ls : Array Slot) (l1 : Int32), fr_remember_b13 n S l1 = some S1 → mG D cI cJ cZ ad A H0 H locs S → lv_has ls 2 [(0, .ref (ad 0)), (1, .int l1)] → W p l e { frames := 2, cells := 0, slots := 0, locals := 24 } s m args below meth c H locs 0 0 Q (F0 m 13 ls []) := by
  have hx := E.1
  have hb := E.2.1
  have hts := E.2.2.1
  have hown := E.2.2.2.1
  have hK := E.2.2.2.2.1
  intro n
  induction n with
  | zero =>
    intro S H locs ls l1 h
    have h : (none : Option (MS)) = some S1 := h
    cases h
  | succ n ih =>
    intro S H locs ls l1 h G hl
    unfold fr_remember_b13 at h
    refine lv_iload_n hx hb dX12_remember_13 rfl (lv_at hl 1 rfl) ?_
    refine lv_aload_n hx hb dX12_remember_14 rfl (lv_at hl 0 rfl) ?_
    refine m_get E G 15 (v := .ref (ad 15)) (by decide) (.tail _ qM_12) rfl dX12_remember_15 rfl ?_
    refine va_alen hx hb hK G.1 7 0 rfl rfl (v := 14730) rfl dX12_remember_18 ?_
    refine lv_icmp_ge (tgt := 44) hx hb dX12_remember_19 (by decide) (fun c2 => ?_) (fun c2 => ?_)
    · have h := oif_pos c2 h
      refine lv_aload_n hx hb dX12_remember_44 rfl (lv_at hl 0 rfl) ?_
      refine lv_dup hx hb dX12_remember_45 rfl ?_
      refine m_get E G 19 (v := .int (S.1 19)) (by decide) (.tail _ qM_194) rfl dX12_remember_46 rfl ?_
      refine lv_topi (fun v3 ev3 => ?_)
      have h := elet_at ev3 h
      clear ev3
      refine lv_iconst (v := 1) hx hb dX12_remember_49 (by decide) ?_
      refine lv_isub hx hb dX12_remember_50 ?_
      refine lv_topi (fun v4 ev4 => ?_)
      have h := elet_at ev4 h
      clear ev4
      refine m_put E G 19 (by decide) (.tail _ qM_194) (mw_i19 _ _ _ _ _ v4) dX12_remember_51 ⟨rfl, rfl, rfl⟩ rfl rfl (fun H locs G => ?_)
      obtain ⟨S5, eS5, h⟩ := elet_some h
      rw [← eS5] at G
      clear eS5
      have hl := lv_sub hl [0] rfl
      exact tr_remember_b54 E hA hR hml kr84 _ _ _ _ h G hl
    · have h := oif_neg c2 h
      refine lv_aload_n hx hb dX12_remember_22 rfl (lv_at hl 0 rfl) ?_
      refine m_get E G 15 (v := .ref (ad 15)) (by decide) (.tail _ qM_12) rfl dX12_remember_23 rfl ?_
      refine lv_iload_n hx hb dX12_remember_26 rfl (lv_at hl 1 rfl) ?_
      refine lv_sipush (v := 2455) hx hb dX12_remember_27 (by decide) ?_
      refine lv_isub hx hb dX12_remember_30 ?_
      refine lv_topi (fun v6 ev6 => ?_)
      have h := elet_at ev6 h
      clear ev6
      refine lv_aload_n hx hb dX12_remember_31 rfl (lv_at hl 0 rfl) ?_
      refine m_get E G 15 (v := .ref (ad 15)) (by decide) (.tail _ qM_12) rfl dX12_remember_32 rfl ?_
      refine lv_iload_n hx hb dX12_remember_35 rfl (lv_at hl 1 rfl) ?_
      obtain ⟨g7, h⟩ := oif_some h
      refine m_iald E G 15 7 (n := 14730) (k := l1.toNatClampNeg) rfl (inb_k g7).1 (inb_k g7).2 (by decide) dX12_remember_36 ?_
      refine lv_topi (fun v8 ev8 => ?_)
      have h := elet_at ev8 h
      clear ev8
      obtain ⟨g9, h⟩ := oif_some h
      refine m_iast E G 15 7 (k := v6.toNatClampNeg) (v := v8) rfl (fun _ => rfl) (inb_k g9).1 (inb_k g9).2 (by decide) dX12_remember_37 (fun H locs G => ?_)
      obtain ⟨S10, eS10, h⟩ := elet_some h
      rw [← eS10] at G
      clear eS10
      obtain ⟨v11, ev11, h⟩ := elet_some h
      refine lv_iinc (v := v11) (lv' := [(1, .int v11), (0, .ref (ad 0))]) hx hb dX12_remember_38 hl (k := 1) rfl ev11.symm (by decide) rfl (fun ls hl => ?_)
      refine lv_goto (tgt := 13) hx hb dX12_remember_41 (by decide) ?_
      have hl := lv_sub hl [1, 0] rfl
      exact ih _ _ _ _ _ h G hl
def fr_remember (S : MS)  : Option (MS) := elet (S.1 19) fun v2 => if v2 = 6 then (fr_remember_b13 16384 S 2455) else (fr_remember_b54 S)
set_option maxHeartbeats 4000000 in
set_option maxRecDepth 100000 in
theorem tr_remember (l : Launch) (D : va_G) (cI cJ cZ : ClassId) (ad : Nat → Nat) (S : MS)  {S1 : MS} (h : fr_remember S = some S1) : mCv l yX12_remember (Cond.code yX12_remember cX12_remember 2 none :: wsM) 2 24 D cI cJ cZ ad S [] (fun S9 => S9 = S1) := by
  intro sz
  refine Met.ofW (cc := cX12_remember) (maxL := 2) (ret := none) (by decide) rfl ?_
  intro p e s m args below meth c s₁ B hml hv
  obtain ⟨rfl, hsz, hP, hK, hD0, hR⟩ := hv
  have hx := B.exec
  have hb := B.bytes
  have hr := B.returns
  have hts := atoms_spec (ws := (Cond.code yX12_remember cX12_remember 2 none :: wsM)) B.pre
  have hown : s.vm.findClass RX12 = some m.cls := findClass_of_methodNamed B.named
  have hlocks := B.notSynchronized
  subst hsz
  have hD := hD0.self (sz := s.heap.size)
  generalize hAe : va_A (MW cI cJ cZ ad S) s.heap.size = A at hD ⊢
  have hA : ∀ q : Nat, s.heap.size ≤ q → A q := fun q h => by rw [← hAe]; exact Or.inr h
  have G : mG D cI cJ cZ ad A s.heap s.heap [] S := ⟨hP, hD, va_S.rf⟩
  have E : mE p c cX12_remember s m ([.ref (ad 0)] : List Value).toArray (Cond.code yX12_remember cX12_remember 2 none :: wsM) D cI cJ cZ := ⟨hx, hb, hts, hown, hK, fun w h => .tail _ (iM_x h)⟩
  have hl := lv_entry ([.ref (ad 0)]) (n := 2) (Nat.le_of_ble_eq_true rfl)
  rw [lg_entry_eq]
  generalize (lg_sl ([.ref (ad 0)]) ++ List.replicate (2 - (lg_sl ([.ref (ad 0)])).length) Slot.unset).toArray = ls at hl ⊢
  have hl : lv_has ls 2 [(0, .ref (ad 0))] := hl
  unfold fr_remember at h
  refine lv_aload_n hx hb dX12_remember_0 rfl (lv_at hl 0 rfl) ?_
  refine m_get E G 19 (v := .int (S.1 19)) (by decide) (.tail _ qM_194) rfl dX12_remember_1 rfl ?_
  refine lv_topi (fun v2 ev2 => ?_)
  have h := elet_at ev2 h
  clear ev2
  refine lv_bipush (v := 6) hx hb dX12_remember_4 (by decide) ?_
  refine lv_icmp_ne (tgt := 54) hx hb dX12_remember_6 (by decide) (fun c3 => ?_) (fun c3 => ?_)
  · have h := oif_neg c3 h
    have hl := lv_sub hl [0] rfl
    exact tr_remember_b54 E hA hR hml (fun H locs ls G => W.vret hx hb hr (fun t ht hW => ⟨⟨S1, rfl, rfl, ⟨by rw [ht]; exact G.1, va_K.moved hW.alike hK, G.2.1⟩⟩, G.2.2.F ht⟩) G.2.2.2.2 dX12_remember_84) _ _ _ _ h G hl
  · have h := oif_pos c3 h
    refine lv_sipush (v := 2455) hx hb dX12_remember_9 (by decide) ?_
    refine lv_istore_n (lv' := [(1, .int 2455), (0, .ref (ad 0))]) hx hb dX12_remember_12 rfl hl (by decide) rfl (fun ls hl => ?_)
    have hl := lv_sub hl [1, 0] rfl
    exact tr_remember_b13 E hA hR hml (fun H locs ls G => W.vret hx hb hr (fun t ht hW => ⟨⟨S1, rfl, rfl, ⟨by rw [ht]; exact G.1, va_K.moved hW.alike hK, G.2.1⟩⟩, G.2.2.F ht⟩) G.2.2.2.2 dX12_remember_84) _ _ _ _ _ _ h G hl
def fr_laysCell_b2  : Nat → MS → Int32 → Int32 → Option (MS)
  | 0, _, _, _ => none
  | n + 1, S, l1, l2 => elet (S.2.1 10 4) fun v2 => if v2 ≤ l2 then (some S) else (elet (12 * l1) fun v4 => elet (v4 + l2) fun v5 => oif (inb v5 1728 = true) <| elet (S.2.1 17 v5.toNatClampNeg) fun v7 => oif (inb l2 12 = true) <| elet (mf S 24 (upd (S.2.1 24) l2.toNatClampNeg v7)) fun S9 => elet (l2 + Int32.ofInt (1)) fun v10 => fr_laysCell_b2 n S9 l1 v10)
set_option maxHeartbeats 4000000 in
set_option maxRecDepth 100000 in
theorem tr_laysCell_b2 {p : Program} {l : Launch} {e : Env} {s : State} {m : MethodId} {args : Array Value} {below : List Frame} {meth : Method} {c : Code} {Q : State → Prop} {D : va_G} {A : Nat → Prop} {H0 : Heap} {cI cJ cZ : ClassId} {ad : Nat → Nat} {S1 : MS} (E : mE p c cX12_laysCell s m args (Cond.code yX12_laysCell cX12_laysCell 3 none :: wsM) D cI cJ cZ) (hA : ∀ q : Nat, H0.size ≤ q → A q) (hR : sR s) (hml : c.maxLocals = 3) (kr35 : ∀ (H : Heap) (locs : List Loc) (ls : Array Slot), mG D cI cJ cZ ad A H0 H locs S1 → W p l e { frames := 1, cells := 0, slots := 0, locals := 0 } s m args below meth c H locs 0 0 Q (F0 m 35 ls [])) : ∀ n : Nat, ∀ (S : MS) (H : Heap) (locs : List Loc) (ls : Array Slot) (l1 : Int32) (l2 : Int32), fr_laysCell_b2 n S l1 l2 = some S1 → mG D cI cJ cZ ad A H0 H locs S → lv_has ls 3 [(0, .ref (ad 0)), (1, .int l1), (2, .int l2)] → W p l e { frames := 1, cells := 0, slots := 0, locals := 0 } s m args below meth c H locs 0 0 Q (F0 m 2 ls []) := by
  have hx := E.1
  have hb := E.2.1
  have hts := E.2.2.1
  have hown := E.2.2.2.1
  have hK := E.2.2.2.2.1
  intro n
  induction n with
  | zero =>
    intro S H locs ls l1 l2 h
    have h : (none : Option (MS)) = some S1 := h
    cases h
  | succ n ih =>
    intro S H locs ls l1 l2 h G hl
    unfold fr_laysCell_b2 at h
    refine lv_iload_n hx hb dX12_laysCell_2 rfl (lv_at hl 2 rfl) ?_
    refine lv_aload_n hx hb dX12_laysCell_3 rfl (lv_at hl 0 rfl) ?_
    refine m_get E G 10 (v := .ref (ad 10)) (by decide) (.tail _ qM_7) rfl dX12_laysCell_4 rfl ?_
    refine lv_iconst (v := 4) hx hb dX12_laysCell_7 (by decide) ?_
    refine m_iald E G 10 2 (n := 131) (k := 4) rfl rfl (by decide) (by decide) dX12_laysCell_8 ?_
    refine lv_topi (fun v2 ev2 => ?_)
    have h := elet_at ev2 h
    clear ev2
    refine lv_icmp_ge (tgt := 35) hx hb dX12_laysCell_9 (by decide) (fun c3 => ?_) (fun c3 => ?_)
    · have h := oif_pos c3 h
      rw [osome1 h] at G
      exact kr35 _ _ _ G
    · have h := oif_neg c3 h
      refine lv_aload_n hx hb dX12_laysCell_12 rfl (lv_at hl 0 rfl) ?_
      refine m_get E G 24 (v := .ref (ad 24)) (by decide) (.tail _ qM_19) rfl dX12_laysCell_13 rfl ?_
      refine lv_iload_n hx hb dX12_laysCell_16 rfl (lv_at hl 2 rfl) ?_
      refine lv_aload_n hx hb dX12_laysCell_17 rfl (lv_at hl 0 rfl) ?_
      refine m_get E G 17 (v := .ref (ad 17)) (by decide) (.tail _ qM_14) rfl dX12_laysCell_18 rfl ?_
      refine lv_bipush (v := 12) hx hb dX12_laysCell_21 (by decide) ?_
      refine lv_iload_n hx hb dX12_laysCell_23 rfl (lv_at hl 1 rfl) ?_
      refine lv_imul hx hb dX12_laysCell_24 ?_
      refine lv_topi (fun v4 ev4 => ?_)
      have h := elet_at ev4 h
      clear ev4
      refine lv_iload_n hx hb dX12_laysCell_25 rfl (lv_at hl 2 rfl) ?_
      refine lv_iadd hx hb dX12_laysCell_26 ?_
      refine lv_topi (fun v5 ev5 => ?_)
      have h := elet_at ev5 h
      clear ev5
      obtain ⟨g6, h⟩ := oif_some h
      refine m_iald E G 17 9 (n := 1728) (k := v5.toNatClampNeg) rfl (inb_k g6).1 (inb_k g6).2 (by decide) dX12_laysCell_27 ?_
      refine lv_topi (fun v7 ev7 => ?_)
      have h := elet_at ev7 h
      clear ev7
      obtain ⟨g8, h⟩ := oif_some h
      refine m_iast E G 24 12 (k := l2.toNatClampNeg) (v := v7) rfl (fun _ => rfl) (inb_k g8).1 (inb_k g8).2 (by decide) dX12_laysCell_28 (fun H locs G => ?_)
      obtain ⟨S9, eS9, h⟩ := elet_some h
      rw [← eS9] at G
      clear eS9
      obtain ⟨v10, ev10, h⟩ := elet_some h
      refine lv_iinc (v := v10) (lv' := [(2, .int v10), (0, .ref (ad 0)), (1, .int l1)]) hx hb dX12_laysCell_29 hl (k := 2) rfl ev10.symm (by decide) rfl (fun ls hl => ?_)
      refine lv_goto (tgt := 2) hx hb dX12_laysCell_32 (by decide) ?_
      have hl := lv_sub hl [1, 2, 0] rfl
      exact ih _ _ _ _ _ _ h G hl
def fr_laysCell (S : MS) (a0 : Int32) : Option (MS) := fr_laysCell_b2 16384 S a0 0
set_option maxHeartbeats 4000000 in
set_option maxRecDepth 100000 in
theorem tr_laysCell (l : Launch) (D : va_G) (cI cJ cZ : ClassId) (ad : Nat → Nat) (S : MS) (a0 : Int32) {S1 : MS} (h : fr_laysCell S a0 = some S1) : mCv l yX12_laysCell (Cond.code yX12_laysCell cX12_laysCell 3 none :: wsM) 1 0 D cI cJ cZ ad S [.int a0] (fun S9 => S9 = S1) := by
  intro sz
  refine Met.ofW (cc := cX12_laysCell) (maxL := 3) (ret := none) (by decide) rfl ?_
  intro p e s m args below meth c s₁ B hml hv
  obtain ⟨rfl, hsz, hP, hK, hD0, hR⟩ := hv
  have hx := B.exec
  have hb := B.bytes
  have hr := B.returns
  have hts := atoms_spec (ws := (Cond.code yX12_laysCell cX12_laysCell 3 none :: wsM)) B.pre
  have hown : s.vm.findClass RX12 = some m.cls := findClass_of_methodNamed B.named
  have hlocks := B.notSynchronized
  subst hsz
  have hD := hD0.self (sz := s.heap.size)
  generalize hAe : va_A (MW cI cJ cZ ad S) s.heap.size = A at hD ⊢
  have hA : ∀ q : Nat, s.heap.size ≤ q → A q := fun q h => by rw [← hAe]; exact Or.inr h
  have G : mG D cI cJ cZ ad A s.heap s.heap [] S := ⟨hP, hD, va_S.rf⟩
  have E : mE p c cX12_laysCell s m ([.ref (ad 0), .int a0] : List Value).toArray (Cond.code yX12_laysCell cX12_laysCell 3 none :: wsM) D cI cJ cZ := ⟨hx, hb, hts, hown, hK, fun w h => .tail _ (iM_x h)⟩
  have hl := lv_entry ([.ref (ad 0), .int a0]) (n := 3) (Nat.le_of_ble_eq_true rfl)
  rw [lg_entry_eq]
  generalize (lg_sl ([.ref (ad 0), .int a0]) ++ List.replicate (3 - (lg_sl ([.ref (ad 0), .int a0])).length) Slot.unset).toArray = ls at hl ⊢
  have hl : lv_has ls 3 [(0, .ref (ad 0)), (1, .int a0)] := hl
  unfold fr_laysCell at h
  refine lv_iconst (v := 0) hx hb dX12_laysCell_0 (by decide) ?_
  refine lv_istore_n (lv' := [(2, .int 0), (0, .ref (ad 0)), (1, .int a0)]) hx hb dX12_laysCell_1 rfl hl (by decide) rfl (fun ls hl => ?_)
  have hl := lv_sub hl [1, 2, 0] rfl
  exact tr_laysCell_b2 E hA hR hml (fun H locs ls G => W.vret hx hb hr (fun t ht hW => ⟨⟨S1, rfl, rfl, ⟨by rw [ht]; exact G.1, va_K.moved hW.alike hK, G.2.1⟩⟩, G.2.2.F ht⟩) G.2.2.2.2 dX12_laysCell_35) _ _ _ _ _ _ _ h G hl
def fr_laysPoint_b2  : Nat → MS → Int32 → Int32 → Int32 → Option (MS)
  | 0, _, _, _, _ => none
  | n + 1, S, l1, l2, l3 => elet (S.2.1 10 4) fun v2 => if v2 ≤ l3 then (some S) else (obind2 (fr_delayFrom S l3 l1 l2) fun r7 S4 => oif (inb l3 12 = true) <| elet (mf S4 24 (upd (S4.2.1 24) l3.toNatClampNeg r7)) fun S9 => elet (l3 + Int32.ofInt (1)) fun v10 => fr_laysPoint_b2 n S9 l1 l2 v10)
set_option maxHeartbeats 4000000 in
set_option maxRecDepth 100000 in
theorem tr_laysPoint_b2 {p : Program} {l : Launch} {e : Env} {s : State} {m : MethodId} {args : Array Value} {below : List Frame} {meth : Method} {c : Code} {Q : State → Prop} {D : va_G} {A : Nat → Prop} {H0 : Heap} {cI cJ cZ : ClassId} {ad : Nat → Nat} {S1 : MS} (E : mE p c cX12_laysPoint s m args (Cond.code yX12_laysPoint cX12_laysPoint 4 none :: wsM) D cI cJ cZ) (hA : ∀ q : Nat, H0.size ≤ q → A q) (hR : sR s) (hml : c.maxLocals = 4) (kr31 : ∀ (H : Heap) (locs : List Loc) (ls : Array Slot), mG D cI cJ cZ ad A H0 H locs S1 → W p l e { frames := 3, cells := 0, slots := 0, locals := 50 } s m args below meth c H locs 0 0 Q (F0 m 31 ls [])) : ∀ n : Nat, ∀ (S : MS) (H : Heap) (locs : List Loc) (ls : Array Slot) (l1 : Int32) (l2 : Int32) (l3 : Int32), fr_laysPoint_b2 n S l1 l2 l3 = some S1 → mG D cI cJ cZ ad A H0 H locs S → lv_has ls 4 [(0, .ref (ad 0)), (1, .int l1), (2, .int l2), (3, .int l3)] → W p l e { frames := 3, cells := 0, slots := 0, locals := 50 } s m args below meth c H locs 0 0 Q (F0 m 2 ls []) := by
  have hx := E.1
  have hb := E.2.1
  have hts := E.2.2.1
  have hown := E.2.2.2.1
  have hK := E.2.2.2.2.1
  intro n
  induction n with
  | zero =>
    intro S H locs ls l1 l2 l3 h
    have h : (none : Option (MS)) = some S1 := h
    cases h
  | succ n ih =>
    intro S H locs ls l1 l2 l3 h G hl
    unfold fr_laysPoint_b2 at h
    refine lv_iload_n hx hb dX12_laysPoint_2 rfl (lv_at hl 3 rfl) ?_
    refine lv_aload_n hx hb dX12_laysPoint_3 rfl (lv_at hl 0 rfl) ?_
    refine m_get E G 10 (v := .ref (ad 10)) (by decide) (.tail _ qM_7) rfl dX12_laysPoint_4 rfl ?_
    refine lv_iconst (v := 4) hx hb dX12_laysPoint_7 (by decide) ?_
    refine m_iald E G 10 2 (n := 131) (k := 4) rfl rfl (by decide) (by decide) dX12_laysPoint_8 ?_
    refine lv_topi (fun v2 ev2 => ?_)
    have h := elet_at ev2 h
    clear ev2
    refine lv_icmp_ge (tgt := 31) hx hb dX12_laysPoint_9 (by decide) (fun c3 => ?_) (fun c3 => ?_)
    · have h := oif_pos c3 h
      rw [osome1 h] at G
      exact kr31 _ _ _ G
    · have h := oif_neg c3 h
      refine lv_aload_n hx hb dX12_laysPoint_12 rfl (lv_at hl 0 rfl) ?_
      refine m_get E G 24 (v := .ref (ad 24)) (by decide) (.tail _ qM_19) rfl dX12_laysPoint_13 rfl ?_
      refine lv_iload_n hx hb dX12_laysPoint_16 rfl (lv_at hl 3 rfl) ?_
      refine lv_aload_n hx hb dX12_laysPoint_17 rfl (lv_at hl 0 rfl) ?_
      refine lv_iload_n hx hb dX12_laysPoint_18 rfl (lv_at hl 3 rfl) ?_
      refine lv_iload_n hx hb dX12_laysPoint_19 rfl (lv_at hl 1 rfl) ?_
      refine lv_iload_n hx hb dX12_laysPoint_20 rfl (lv_at hl 2 rfl) ?_
      obtain ⟨r7, S4, eS4, h⟩ := obind2_some h
      refine m_calli (As := [.int l3, .int l1, .int l2]) (rest := [.int l3, .ref (ad 24)]) E G hA hR hml (tr_delayFrom l D cI cJ cZ ad S l3 l1 l2 eS4) (cwV 3 hts (gmV qM_212 qM_213 qM_214 qM_35 qM_215) rfl rfl rfl (by decide +kernel) ⟨Nat.le_of_ble_eq_true rfl, Nat.le_of_ble_eq_true rfl⟩) rfl hl.1 rfl (lv_room (Nat.le_of_ble_eq_true rfl)) dX12_laysPoint_21 ⟨Nat.zero_le _, Nat.zero_le _⟩ (fun q5 S6 H locs hq G => ?_)
      obtain ⟨hq1, hq2⟩ := hq
      rw [hq2] at G
      refine lv_to hq1 ?_
      clear hq1 hq2 eS4
      obtain ⟨g8, h⟩ := oif_some h
      refine m_iast E G 24 12 (k := l3.toNatClampNeg) (v := r7) rfl (fun _ => rfl) (inb_k g8).1 (inb_k g8).2 (by decide) dX12_laysPoint_24 (fun H locs G => ?_)
      obtain ⟨S9, eS9, h⟩ := elet_some h
      rw [← eS9] at G
      clear eS9
      obtain ⟨v10, ev10, h⟩ := elet_some h
      refine lv_iinc (v := v10) (lv' := [(3, .int v10), (0, .ref (ad 0)), (1, .int l1), (2, .int l2)]) hx hb dX12_laysPoint_25 hl (k := 3) rfl ev10.symm (by decide) rfl (fun ls hl => ?_)
      refine lv_goto (tgt := 2) hx hb dX12_laysPoint_28 (by decide) ?_
      have hl := lv_sub hl [1, 2, 3, 0] rfl
      exact ih _ _ _ _ _ _ _ h G hl
def fr_laysPoint (S : MS) (a0 : Int32) (a1 : Int32) : Option (MS) := fr_laysPoint_b2 16384 S a0 a1 0
set_option maxHeartbeats 4000000 in
set_option maxRecDepth 100000 in
theorem tr_laysPoint (l : Launch) (D : va_G) (cI cJ cZ : ClassId) (ad : Nat → Nat) (S : MS) (a0 : Int32) (a1 : Int32) {S1 : MS} (h : fr_laysPoint S a0 a1 = some S1) : mCv l yX12_laysPoint (Cond.code yX12_laysPoint cX12_laysPoint 4 none :: wsM) 3 50 D cI cJ cZ ad S [.int a0, .int a1] (fun S9 => S9 = S1) := by
  intro sz
  refine Met.ofW (cc := cX12_laysPoint) (maxL := 4) (ret := none) (by decide) rfl ?_
  intro p e s m args below meth c s₁ B hml hv
  obtain ⟨rfl, hsz, hP, hK, hD0, hR⟩ := hv
  have hx := B.exec
  have hb := B.bytes
  have hr := B.returns
  have hts := atoms_spec (ws := (Cond.code yX12_laysPoint cX12_laysPoint 4 none :: wsM)) B.pre
  have hown : s.vm.findClass RX12 = some m.cls := findClass_of_methodNamed B.named
  have hlocks := B.notSynchronized
  subst hsz
  have hD := hD0.self (sz := s.heap.size)
  generalize hAe : va_A (MW cI cJ cZ ad S) s.heap.size = A at hD ⊢
  have hA : ∀ q : Nat, s.heap.size ≤ q → A q := fun q h => by rw [← hAe]; exact Or.inr h
  have G : mG D cI cJ cZ ad A s.heap s.heap [] S := ⟨hP, hD, va_S.rf⟩
  have E : mE p c cX12_laysPoint s m ([.ref (ad 0), .int a0, .int a1] : List Value).toArray (Cond.code yX12_laysPoint cX12_laysPoint 4 none :: wsM) D cI cJ cZ := ⟨hx, hb, hts, hown, hK, fun w h => .tail _ (iM_x h)⟩
  have hl := lv_entry ([.ref (ad 0), .int a0, .int a1]) (n := 4) (Nat.le_of_ble_eq_true rfl)
  rw [lg_entry_eq]
  generalize (lg_sl ([.ref (ad 0), .int a0, .int a1]) ++ List.replicate (4 - (lg_sl ([.ref (ad 0), .int a0, .int a1])).length) Slot.unset).toArray = ls at hl ⊢
  have hl : lv_has ls 4 [(0, .ref (ad 0)), (1, .int a0), (2, .int a1)] := hl
  unfold fr_laysPoint at h
  refine lv_iconst (v := 0) hx hb dX12_laysPoint_0 (by decide) ?_
  refine lv_istore_n (lv' := [(3, .int 0), (0, .ref (ad 0)), (1, .int a0), (2, .int a1)]) hx hb dX12_laysPoint_1 rfl hl (by decide) rfl (fun ls hl => ?_)
  have hl := lv_sub hl [1, 2, 3, 0] rfl
  exact tr_laysPoint_b2 E hA hR hml (fun H locs ls G => W.vret hx hb hr (fun t ht hW => ⟨⟨S1, rfl, rfl, ⟨by rw [ht]; exact G.1, va_K.moved hW.alike hK, G.2.1⟩⟩, G.2.2.F ht⟩) G.2.2.2.2 dX12_laysPoint_31) _ _ _ _ _ _ _ _ h G hl
def fr_mayAsk_b36  (S : MS) (s0 : Int32) : Option (Int32 × MS) := oif (s0 = 0 ∨ s0 = 1) <| some (s0, S)
set_option maxHeartbeats 4000000 in
set_option maxRecDepth 100000 in
theorem tr_mayAsk_b36 {p : Program} {l : Launch} {e : Env} {s : State} {m : MethodId} {args : Array Value} {below : List Frame} {meth : Method} {c : Code} {Q : State → Prop} {D : va_G} {A : Nat → Prop} {H0 : Heap} {cI cJ cZ : ClassId} {ad : Nat → Nat} {r1 : Int32} {S1 : MS} (E : mE p c cX12_mayAsk s m args (Cond.code yX12_mayAsk cX12_mayAsk 2 (some .boolean) :: wsM) D cI cJ cZ) (hA : ∀ q : Nat, H0.size ≤ q → A q) (hR : sR s) (hml : c.maxLocals = 2) (kr36 : ∀ (H : Heap) (locs : List Loc) (ls : Array Slot), (r1 = 0 ∨ r1 = 1) → mG D cI cJ cZ ad A H0 H locs S1 → W p l e { frames := 1, cells := 0, slots := 0, locals := 0 } s m args below meth c H locs 0 0 Q (F0 m 36 ls [.int r1])) : ∀ (S : MS) (H : Heap) (locs : List Loc) (ls : Array Slot) (s0 : Int32), fr_mayAsk_b36 S s0 = some (r1, S1) → mG D cI cJ cZ ad A H0 H locs S → lv_has ls 2 [] → W p l e { frames := 1, cells := 0, slots := 0, locals := 0 } s m args below meth c H locs 0 0 Q (F0 m 36 ls [.int s0]) := by
  have hx := E.1
  have hb := E.2.1
  have hts := E.2.2.1
  have hown := E.2.2.2.1
  have hK := E.2.2.2.2.1
  intro S H locs ls s0 h G hl
  unfold fr_mayAsk_b36 at h
  obtain ⟨gz, h⟩ := oif_some h
  have gr : r1 = 0 ∨ r1 = 1 := by rw [← (osome2 h).1]; exact gz
  rw [(osome2 h).2] at G
  refine lv_to (osome2 h).1 ?_
  exact kr36 _ _ _ gr G
def fr_mayAsk_b21  (S : MS) (s0 : Int32) : Option (Int32 × MS) := elet (mi S 0 s0) fun S2 => elet (S2.1 0) fun v3 => if v3 = 0 then (fr_mayAsk_b36 S2 1) else (fr_mayAsk_b36 S2 0)
set_option maxHeartbeats 4000000 in
set_option maxRecDepth 100000 in
theorem tr_mayAsk_b21 {p : Program} {l : Launch} {e : Env} {s : State} {m : MethodId} {args : Array Value} {below : List Frame} {meth : Method} {c : Code} {Q : State → Prop} {D : va_G} {A : Nat → Prop} {H0 : Heap} {cI cJ cZ : ClassId} {ad : Nat → Nat} {r1 : Int32} {S1 : MS} (E : mE p c cX12_mayAsk s m args (Cond.code yX12_mayAsk cX12_mayAsk 2 (some .boolean) :: wsM) D cI cJ cZ) (hA : ∀ q : Nat, H0.size ≤ q → A q) (hR : sR s) (hml : c.maxLocals = 2) (kr36 : ∀ (H : Heap) (locs : List Loc) (ls : Array Slot), (r1 = 0 ∨ r1 = 1) → mG D cI cJ cZ ad A H0 H locs S1 → W p l e { frames := 1, cells := 0, slots := 0, locals := 0 } s m args below meth c H locs 0 0 Q (F0 m 36 ls [.int r1])) : ∀ (S : MS) (H : Heap) (locs : List Loc) (ls : Array Slot) (s0 : Int32), fr_mayAsk_b21 S s0 = some (r1, S1) → mG D cI cJ cZ ad A H0 H locs S → lv_has ls 2 [(0, .ref (ad 0))] → W p l e { frames := 1, cells := 0, slots := 0, locals := 0 } s m args below meth c H locs 0 0 Q (F0 m 21 ls [.int s0, .ref (ad 0)]) := by
  have hx := E.1
  have hb := E.2.1
  have hts := E.2.2.1
  have hown := E.2.2.2.1
  have hK := E.2.2.2.2.1
  intro S H locs ls s0 h G hl
  unfold fr_mayAsk_b21 at h
  refine m_put E G 0 (by decide) (.tail _ qM_26) (mw_i0 _ _ _ _ _ s0) dX12_mayAsk_21 ⟨rfl, rfl, rfl⟩ rfl rfl (fun H locs G => ?_)
  obtain ⟨S2, eS2, h⟩ := elet_some h
  rw [← eS2] at G
  clear eS2
  refine lv_aload_n hx hb dX12_mayAsk_24 rfl (lv_at hl 0 rfl) ?_
  refine m_get E G 0 (v := .int (S2.1 0)) (by decide) (.tail _ qM_26) rfl dX12_mayAsk_25 rfl ?_
  refine lv_topi (fun v3 ev3 => ?_)
  have h := elet_at ev3 h
  clear ev3
  refine lv_if_ne (tgt := 35) hx hb dX12_mayAsk_28 (by decide) (fun c4 => ?_) (fun c4 => ?_)
  · have h := oif_neg c4 h
    refine lv_iconst (v := 0) hx hb dX12_mayAsk_35 (by decide) ?_
    have hl := lv_sub hl [] rfl
    exact tr_mayAsk_b36 E hA hR hml kr36 _ _ _ _ _ h G hl
  · have h := oif_pos c4 h
    refine lv_iconst (v := 1) hx hb dX12_mayAsk_31 (by decide) ?_
    refine lv_goto (tgt := 36) hx hb dX12_mayAsk_32 (by decide) ?_
    have hl := lv_sub hl [] rfl
    exact tr_mayAsk_b36 E hA hR hml kr36 _ _ _ _ _ h G hl
def fr_mayAsk (S : MS) (a0 : Int32) : Option (Int32 × MS) := elet (S.1 20) fun v2 => if v2 = 0 then (fr_mayAsk_b21 S 1) else (if a0 = 0 then (fr_mayAsk_b21 S 2) else (fr_mayAsk_b21 S 0))
set_option maxHeartbeats 4000000 in
set_option maxRecDepth 100000 in
theorem tr_mayAsk (l : Launch) (D : va_G) (cI cJ cZ : ClassId) (ad : Nat → Nat) (S : MS) (a0 : Int32) {r1 : Int32} {S1 : MS} (h : fr_mayAsk S a0 = some (r1, S1)) : mCi l yX12_mayAsk (Cond.code yX12_mayAsk cX12_mayAsk 2 (some .boolean) :: wsM) 1 0 D cI cJ cZ ad S [.int a0] (fun r S9 => r = r1 ∧ S9 = S1) := by
  intro sz
  refine Met.ofW (cc := cX12_mayAsk) (maxL := 2) (ret := (some .boolean)) (by decide) rfl ?_
  intro p e s m args below meth c s₁ B hml hv
  obtain ⟨rfl, hsz, hP, hK, hD0, hR⟩ := hv
  have hx := B.exec
  have hb := B.bytes
  have hr := B.returns
  have hts := atoms_spec (ws := (Cond.code yX12_mayAsk cX12_mayAsk 2 (some .boolean) :: wsM)) B.pre
  have hown : s.vm.findClass RX12 = some m.cls := findClass_of_methodNamed B.named
  have hlocks := B.notSynchronized
  subst hsz
  have hD := hD0.self (sz := s.heap.size)
  generalize hAe : va_A (MW cI cJ cZ ad S) s.heap.size = A at hD ⊢
  have hA : ∀ q : Nat, s.heap.size ≤ q → A q := fun q h => by rw [← hAe]; exact Or.inr h
  have G : mG D cI cJ cZ ad A s.heap s.heap [] S := ⟨hP, hD, va_S.rf⟩
  have E : mE p c cX12_mayAsk s m ([.ref (ad 0), .int a0] : List Value).toArray (Cond.code yX12_mayAsk cX12_mayAsk 2 (some .boolean) :: wsM) D cI cJ cZ := ⟨hx, hb, hts, hown, hK, fun w h => .tail _ (iM_x h)⟩
  have hl := lv_entry ([.ref (ad 0), .int a0]) (n := 2) (Nat.le_of_ble_eq_true rfl)
  rw [lg_entry_eq]
  generalize (lg_sl ([.ref (ad 0), .int a0]) ++ List.replicate (2 - (lg_sl ([.ref (ad 0), .int a0])).length) Slot.unset).toArray = ls at hl ⊢
  have hl : lv_has ls 2 [(0, .ref (ad 0)), (1, .int a0)] := hl
  unfold fr_mayAsk at h
  refine lv_aload_n hx hb dX12_mayAsk_0 rfl (lv_at hl 0 rfl) ?_
  refine lv_aload_n hx hb dX12_mayAsk_1 rfl (lv_at hl 0 rfl) ?_
  refine m_get E G 20 (v := .int (S.1 20)) (by decide) (.tail _ qM_193) rfl dX12_mayAsk_2 rfl ?_
  refine lv_topi (fun v2 ev2 => ?_)
  have h := elet_at ev2 h
  clear ev2
  refine lv_if_ne (tgt := 12) hx hb dX12_mayAsk_5 (by decide) (fun c3 => ?_) (fun c3 => ?_)
  · have h := oif_neg c3 h
    refine lv_iload_n hx hb dX12_mayAsk_12 rfl (lv_at hl 1 rfl) ?_
    refine lv_if_eq (tgt := 20) hx hb dX12_mayAsk_13 (by decide) (fun c4 => ?_) (fun c4 => ?_)
    · have h := oif_pos c4 h
      refine lv_iconst (v := 2) hx hb dX12_mayAsk_20 (by decide) ?_
      have hl := lv_sub hl [0] rfl
      exact tr_mayAsk_b21 E hA hR hml (fun H locs ls gz G => W.zret (v := r1) hx hb hr (nar01 gz) (fun t ht hW => ⟨⟨r1, S1, rfl, ⟨rfl, rfl⟩, ⟨by rw [ht]; exact G.1, va_K.moved hW.alike hK, G.2.1⟩⟩, G.2.2.F ht⟩) G.2.2.2.2 dX12_mayAsk_36) _ _ _ _ _ h G hl
    · have h := oif_neg c4 h
      refine lv_iconst (v := 0) hx hb dX12_mayAsk_16 (by decide) ?_
      refine lv_goto (tgt := 21) hx hb dX12_mayAsk_17 (by decide) ?_
      have hl := lv_sub hl [0] rfl
      exact tr_mayAsk_b21 E hA hR hml (fun H locs ls gz G => W.zret (v := r1) hx hb hr (nar01 gz) (fun t ht hW => ⟨⟨r1, S1, rfl, ⟨rfl, rfl⟩, ⟨by rw [ht]; exact G.1, va_K.moved hW.alike hK, G.2.1⟩⟩, G.2.2.F ht⟩) G.2.2.2.2 dX12_mayAsk_36) _ _ _ _ _ h G hl
  · have h := oif_pos c3 h
    refine lv_iconst (v := 1) hx hb dX12_mayAsk_8 (by decide) ?_
    refine lv_goto (tgt := 21) hx hb dX12_mayAsk_9 (by decide) ?_
    have hl := lv_sub hl [0] rfl
    exact tr_mayAsk_b21 E hA hR hml (fun H locs ls gz G => W.zret (v := r1) hx hb hr (nar01 gz) (fun t ht hW => ⟨⟨r1, S1, rfl, ⟨rfl, rfl⟩, ⟨by rw [ht]; exact G.1, va_K.moved hW.alike hK, G.2.1⟩⟩, G.2.2.F ht⟩) G.2.2.2.2 dX12_mayAsk_36) _ _ _ _ _ h G hl
def fr_told_b17  (S : MS) (s0 : Int32) : Option (Int32 × MS) := some (s0, S)
set_option maxHeartbeats 4000000 in
set_option maxRecDepth 100000 in
theorem tr_told_b17 {p : Program} {l : Launch} {e : Env} {s : State} {m : MethodId} {args : Array Value} {below : List Frame} {meth : Method} {c : Code} {Q : State → Prop} {D : va_G} {A : Nat → Prop} {H0 : Heap} {cI cJ cZ : ClassId} {ad : Nat → Nat} {r1 : Int32} {S1 : MS} (E : mE p c cX12_told s m args (Cond.code yX12_told cX12_told 2 (some .int) :: wsM) D cI cJ cZ) (hA : ∀ q : Nat, H0.size ≤ q → A q) (hR : sR s) (hml : c.maxLocals = 2) (kr17 : ∀ (H : Heap) (locs : List Loc) (ls : Array Slot), mG D cI cJ cZ ad A H0 H locs S1 → W p l e { frames := 1, cells := 0, slots := 0, locals := 0 } s m args below meth c H locs 0 0 Q (F0 m 17 ls [.int r1])) : ∀ (S : MS) (H : Heap) (locs : List Loc) (ls : Array Slot) (s0 : Int32), fr_told_b17 S s0 = some (r1, S1) → mG D cI cJ cZ ad A H0 H locs S → lv_has ls 2 [] → W p l e { frames := 1, cells := 0, slots := 0, locals := 0 } s m args below meth c H locs 0 0 Q (F0 m 17 ls [.int s0]) := by
  have hx := E.1
  have hb := E.2.1
  have hts := E.2.2.1
  have hown := E.2.2.2.1
  have hK := E.2.2.2.2.1
  intro S H locs ls s0 h G hl
  unfold fr_told_b17 at h
  rw [(osome2 h).2] at G
  refine lv_to (osome2 h).1 ?_
  exact kr17 _ _ _ G
def fr_told (S : MS) (a0 : Int32) : Option (Int32 × MS) := elet (mi S 0 0) fun S2 => elet (S2.1 20) fun v3 => if v3 = 0 then (fr_told_b17 S2 0) else (fr_told_b17 S2 a0)
set_option maxHeartbeats 4000000 in
set_option maxRecDepth 100000 in
theorem tr_told (l : Launch) (D : va_G) (cI cJ cZ : ClassId) (ad : Nat → Nat) (S : MS) (a0 : Int32) {r1 : Int32} {S1 : MS} (h : fr_told S a0 = some (r1, S1)) : mCi l yX12_told (Cond.code yX12_told cX12_told 2 (some .int) :: wsM) 1 0 D cI cJ cZ ad S [.int a0] (fun r S9 => r = r1 ∧ S9 = S1) := by
  intro sz
  refine Met.ofW (cc := cX12_told) (maxL := 2) (ret := (some .int)) (by decide) rfl ?_
  intro p e s m args below meth c s₁ B hml hv
  obtain ⟨rfl, hsz, hP, hK, hD0, hR⟩ := hv
  have hx := B.exec
  have hb := B.bytes
  have hr := B.returns
  have hts := atoms_spec (ws := (Cond.code yX12_told cX12_told 2 (some .int) :: wsM)) B.pre
  have hown : s.vm.findClass RX12 = some m.cls := findClass_of_methodNamed B.named
  have hlocks := B.notSynchronized
  subst hsz
  have hD := hD0.self (sz := s.heap.size)
  generalize hAe : va_A (MW cI cJ cZ ad S) s.heap.size = A at hD ⊢
  have hA : ∀ q : Nat, s.heap.size ≤ q → A q := fun q h => by rw [← hAe]; exact Or.inr h
  have G : mG D cI cJ cZ ad A s.heap s.heap [] S := ⟨hP, hD, va_S.rf⟩
  have E : mE p c cX12_told s m ([.ref (ad 0), .int a0] : List Value).toArray (Cond.code yX12_told cX12_told 2 (some .int) :: wsM) D cI cJ cZ := ⟨hx, hb, hts, hown, hK, fun w h => .tail _ (iM_x h)⟩
  have hl := lv_entry ([.ref (ad 0), .int a0]) (n := 2) (Nat.le_of_ble_eq_true rfl)
  rw [lg_entry_eq]
  generalize (lg_sl ([.ref (ad 0), .int a0]) ++ List.replicate (2 - (lg_sl ([.ref (ad 0), .int a0])).length) Slot.unset).toArray = ls at hl ⊢
  have hl : lv_has ls 2 [(0, .ref (ad 0)), (1, .int a0)] := hl
  unfold fr_told at h
  refine lv_aload_n hx hb dX12_told_0 rfl (lv_at hl 0 rfl) ?_
  refine lv_iconst (v := 0) hx hb dX12_told_1 (by decide) ?_
  refine m_put E G 0 (by decide) (.tail _ qM_26) (mw_i0 _ _ _ _ _ 0) dX12_told_2 ⟨rfl, rfl, rfl⟩ rfl rfl (fun H locs G => ?_)
  obtain ⟨S2, eS2, h⟩ := elet_some h
  rw [← eS2] at G
  clear eS2
  refine lv_aload_n hx hb dX12_told_5 rfl (lv_at hl 0 rfl) ?_
  refine m_get E G 20 (v := .int (S2.1 20)) (by decide) (.tail _ qM_193) rfl dX12_told_6 rfl ?_
  refine lv_topi (fun v3 ev3 => ?_)
  have h := elet_at ev3 h
  clear ev3
  refine lv_if_eq (tgt := 16) hx hb dX12_told_9 (by decide) (fun c4 => ?_) (fun c4 => ?_)
  · have h := oif_pos c4 h
    refine lv_iconst (v := 0) hx hb dX12_told_16 (by decide) ?_
    have hl := lv_sub hl [] rfl
    exact tr_told_b17 E hA hR hml (fun H locs ls G => W.iret (v := r1) hx hb hr (fun t ht hW => ⟨⟨r1, S1, rfl, ⟨rfl, rfl⟩, ⟨by rw [ht]; exact G.1, va_K.moved hW.alike hK, G.2.1⟩⟩, G.2.2.F ht⟩) G.2.2.2.2 dX12_told_17) _ _ _ _ _ h G hl
  · have h := oif_neg c4 h
    refine lv_iload_n hx hb dX12_told_12 rfl (lv_at hl 1 rfl) ?_
    refine lv_goto (tgt := 17) hx hb dX12_told_13 (by decide) ?_
    have hl := lv_sub hl [] rfl
    exact tr_told_b17 E hA hR hml (fun H locs ls G => W.iret (v := r1) hx hb hr (fun t ht hW => ⟨⟨r1, S1, rfl, ⟨rfl, rfl⟩, ⟨by rw [ht]; exact G.1, va_K.moved hW.alike hK, G.2.1⟩⟩, G.2.2.F ht⟩) G.2.2.2.2 dX12_told_17) _ _ _ _ _ h G hl
def fr_isMic (S : MS) (a0 : Int32) : Option (Int32 × MS) := elet (S.2.1 10 4) fun v2 => elet (v2 - 1) fun v3 => obind (fr_in a0 0 v3) fun r4 => oif (r4 = 0 ∨ r4 = 1) <| some (r4, S)
set_option maxHeartbeats 4000000 in
set_option maxRecDepth 100000 in
theorem tr_isMic (l : Launch) (D : va_G) (cI cJ cZ : ClassId) (ad : Nat → Nat) (S : MS) (a0 : Int32) {r1 : Int32} {S1 : MS} (h : fr_isMic S a0 = some (r1, S1)) : mCi l yX12_isMic (Cond.code yX12_isMic cX12_isMic 2 (some .boolean) :: wsM) 2 22 D cI cJ cZ ad S [.int a0] (fun r S9 => r = r1 ∧ S9 = S1) := by
  intro sz
  refine Met.ofW (cc := cX12_isMic) (maxL := 2) (ret := (some .boolean)) (by decide) rfl ?_
  intro p e s m args below meth c s₁ B hml hv
  obtain ⟨rfl, hsz, hP, hK, hD0, hR⟩ := hv
  have hx := B.exec
  have hb := B.bytes
  have hr := B.returns
  have hts := atoms_spec (ws := (Cond.code yX12_isMic cX12_isMic 2 (some .boolean) :: wsM)) B.pre
  have hown : s.vm.findClass RX12 = some m.cls := findClass_of_methodNamed B.named
  have hlocks := B.notSynchronized
  subst hsz
  have hD := hD0.self (sz := s.heap.size)
  generalize hAe : va_A (MW cI cJ cZ ad S) s.heap.size = A at hD ⊢
  have hA : ∀ q : Nat, s.heap.size ≤ q → A q := fun q h => by rw [← hAe]; exact Or.inr h
  have G : mG D cI cJ cZ ad A s.heap s.heap [] S := ⟨hP, hD, va_S.rf⟩
  have E : mE p c cX12_isMic s m ([.ref (ad 0), .int a0] : List Value).toArray (Cond.code yX12_isMic cX12_isMic 2 (some .boolean) :: wsM) D cI cJ cZ := ⟨hx, hb, hts, hown, hK, fun w h => .tail _ (iM_x h)⟩
  have hl := lv_entry ([.ref (ad 0), .int a0]) (n := 2) (Nat.le_of_ble_eq_true rfl)
  rw [lg_entry_eq]
  generalize (lg_sl ([.ref (ad 0), .int a0]) ++ List.replicate (2 - (lg_sl ([.ref (ad 0), .int a0])).length) Slot.unset).toArray = ls at hl ⊢
  have hl : lv_has ls 2 [(0, .ref (ad 0)), (1, .int a0)] := hl
  unfold fr_isMic at h
  refine lv_iload_n hx hb dX12_isMic_0 rfl (lv_at hl 1 rfl) ?_
  refine lv_iconst (v := 0) hx hb dX12_isMic_1 (by decide) ?_
  refine lv_aload_n hx hb dX12_isMic_2 rfl (lv_at hl 0 rfl) ?_
  refine m_get E G 10 (v := .ref (ad 10)) (by decide) (.tail _ qM_7) rfl dX12_isMic_3 rfl ?_
  refine lv_iconst (v := 4) hx hb dX12_isMic_6 (by decide) ?_
  refine m_iald E G 10 2 (n := 131) (k := 4) rfl rfl (by decide) (by decide) dX12_isMic_7 ?_
  refine lv_topi (fun v2 ev2 => ?_)
  have h := elet_at ev2 h
  clear ev2
  refine lv_iconst (v := 1) hx hb dX12_isMic_8 (by decide) ?_
  refine lv_isub hx hb dX12_isMic_9 ?_
  refine lv_topi (fun v3 ev3 => ?_)
  have h := elet_at ev3 h
  clear ev3
  obtain ⟨r4, er4, h⟩ := obind_some h
  refine m_stat (As := [.int a0, .int 0, .int v3]) (rest := []) ⟨hx, hb, hml, hown, hts⟩ (tr_in l a0 0 v3 er4) (cwS 3 hts (gmS qM_52 qM_53 qM_35 qM_27) rfl rfl rfl (by decide +kernel) ⟨Nat.le_of_ble_eq_true rfl, Nat.le_of_ble_eq_true rfl⟩) rfl hl.1 rfl (lv_room (Nat.le_of_ble_eq_true rfl)) dX12_isMic_10 ⟨Nat.zero_le _, Nat.zero_le _⟩ (fun q5 hq => ?_)
  refine lv_to hq ?_
  clear hq er4
  obtain ⟨gz, h⟩ := oif_some h
  exact W.zret (v := r4) hx hb hr (nar01 gz) (fun t ht hW => ⟨⟨r4, S, rfl, osome2 h, ⟨by rw [ht]; exact G.1, va_K.moved hW.alike hK, G.2.1⟩⟩, G.2.2.F ht⟩) G.2.2.2.2 dX12_isMic_13
def fr_isCell (S : MS) (a0 : Int32) : Option (Int32 × MS) := obind2 (fr_cellCount S) fun r5 S2 => elet (r5 - 1) fun v6 => obind (fr_in a0 0 v6) fun r7 => oif (r7 = 0 ∨ r7 = 1) <| some (r7, S2)
set_option maxHeartbeats 4000000 in
set_option maxRecDepth 100000 in
theorem tr_isCell (l : Launch) (D : va_G) (cI cJ cZ : ClassId) (ad : Nat → Nat) (S : MS) (a0 : Int32) {r1 : Int32} {S1 : MS} (h : fr_isCell S a0 = some (r1, S1)) : mCi l yX12_isCell (Cond.code yX12_isCell cX12_isCell 2 (some .boolean) :: wsM) 2 22 D cI cJ cZ ad S [.int a0] (fun r S9 => r = r1 ∧ S9 = S1) := by
  intro sz
  refine Met.ofW (cc := cX12_isCell) (maxL := 2) (ret := (some .boolean)) (by decide) rfl ?_
  intro p e s m args below meth c s₁ B hml hv
  obtain ⟨rfl, hsz, hP, hK, hD0, hR⟩ := hv
  have hx := B.exec
  have hb := B.bytes
  have hr := B.returns
  have hts := atoms_spec (ws := (Cond.code yX12_isCell cX12_isCell 2 (some .boolean) :: wsM)) B.pre
  have hown : s.vm.findClass RX12 = some m.cls := findClass_of_methodNamed B.named
  have hlocks := B.notSynchronized
  subst hsz
  have hD := hD0.self (sz := s.heap.size)
  generalize hAe : va_A (MW cI cJ cZ ad S) s.heap.size = A at hD ⊢
  have hA : ∀ q : Nat, s.heap.size ≤ q → A q := fun q h => by rw [← hAe]; exact Or.inr h
  have G : mG D cI cJ cZ ad A s.heap s.heap [] S := ⟨hP, hD, va_S.rf⟩
  have E : mE p c cX12_isCell s m ([.ref (ad 0), .int a0] : List Value).toArray (Cond.code yX12_isCell cX12_isCell 2 (some .boolean) :: wsM) D cI cJ cZ := ⟨hx, hb, hts, hown, hK, fun w h => .tail _ (iM_x h)⟩
  have hl := lv_entry ([.ref (ad 0), .int a0]) (n := 2) (Nat.le_of_ble_eq_true rfl)
  rw [lg_entry_eq]
  generalize (lg_sl ([.ref (ad 0), .int a0]) ++ List.replicate (2 - (lg_sl ([.ref (ad 0), .int a0])).length) Slot.unset).toArray = ls at hl ⊢
  have hl : lv_has ls 2 [(0, .ref (ad 0)), (1, .int a0)] := hl
  unfold fr_isCell at h
  refine lv_iload_n hx hb dX12_isCell_0 rfl (lv_at hl 1 rfl) ?_
  refine lv_iconst (v := 0) hx hb dX12_isCell_1 (by decide) ?_
  refine lv_aload_n hx hb dX12_isCell_2 rfl (lv_at hl 0 rfl) ?_
  obtain ⟨r5, S2, eS2, h⟩ := obind2_some h
  refine m_calli (As := []) (rest := [.int 0, .int a0]) E G hA hR hml (tr_cellCount l D cI cJ cZ ad S eS2) (cwV 0 hts (gmV qM_204 qM_205 qM_206 qM_35 qM_207) rfl rfl rfl (by decide +kernel) ⟨Nat.le_of_ble_eq_true rfl, Nat.le_of_ble_eq_true rfl⟩) rfl hl.1 rfl (lv_room (Nat.le_of_ble_eq_true rfl)) dX12_isCell_3 ⟨Nat.zero_le _, Nat.zero_le _⟩ (fun q3 S4 H locs hq G => ?_)
  obtain ⟨hq1, hq2⟩ := hq
  rw [hq2] at G
  refine lv_to hq1 ?_
  clear hq1 hq2 eS2
  refine lv_iconst (v := 1) hx hb dX12_isCell_6 (by decide) ?_
  refine lv_isub hx hb dX12_isCell_7 ?_
  refine lv_topi (fun v6 ev6 => ?_)
  have h := elet_at ev6 h
  clear ev6
  obtain ⟨r7, er7, h⟩ := obind_some h
  refine m_stat (As := [.int a0, .int 0, .int v6]) (rest := []) ⟨hx, hb, hml, hown, hts⟩ (tr_in l a0 0 v6 er7) (cwS 3 hts (gmS qM_52 qM_53 qM_35 qM_27) rfl rfl rfl (by decide +kernel) ⟨Nat.le_of_ble_eq_true rfl, Nat.le_of_ble_eq_true rfl⟩) rfl hl.1 rfl (lv_room (Nat.le_of_ble_eq_true rfl)) dX12_isCell_8 ⟨Nat.zero_le _, Nat.zero_le _⟩ (fun q8 hq => ?_)
  refine lv_to hq ?_
  clear hq er7
  obtain ⟨gz, h⟩ := oif_some h
  exact W.zret (v := r7) hx hb hr (nar01 gz) (fun t ht hW => ⟨⟨r7, S2, rfl, osome2 h, ⟨by rw [ht]; exact G.1, va_K.moved hW.alike hK, G.2.1⟩⟩, G.2.2.F ht⟩) G.2.2.2.2 dX12_isCell_11
def fr_isSource (S : MS) (a0 : Int32) : Option (Int32 × MS) := elet (S.2.1 10 5) fun v2 => elet (v2 - 1) fun v3 => obind (fr_in a0 0 v3) fun r4 => oif (r4 = 0 ∨ r4 = 1) <| some (r4, S)
set_option maxHeartbeats 4000000 in
set_option maxRecDepth 100000 in
theorem tr_isSource (l : Launch) (D : va_G) (cI cJ cZ : ClassId) (ad : Nat → Nat) (S : MS) (a0 : Int32) {r1 : Int32} {S1 : MS} (h : fr_isSource S a0 = some (r1, S1)) : mCi l yX12_isSource (Cond.code yX12_isSource cX12_isSource 2 (some .boolean) :: wsM) 2 22 D cI cJ cZ ad S [.int a0] (fun r S9 => r = r1 ∧ S9 = S1) := by
  intro sz
  refine Met.ofW (cc := cX12_isSource) (maxL := 2) (ret := (some .boolean)) (by decide) rfl ?_
  intro p e s m args below meth c s₁ B hml hv
  obtain ⟨rfl, hsz, hP, hK, hD0, hR⟩ := hv
  have hx := B.exec
  have hb := B.bytes
  have hr := B.returns
  have hts := atoms_spec (ws := (Cond.code yX12_isSource cX12_isSource 2 (some .boolean) :: wsM)) B.pre
  have hown : s.vm.findClass RX12 = some m.cls := findClass_of_methodNamed B.named
  have hlocks := B.notSynchronized
  subst hsz
  have hD := hD0.self (sz := s.heap.size)
  generalize hAe : va_A (MW cI cJ cZ ad S) s.heap.size = A at hD ⊢
  have hA : ∀ q : Nat, s.heap.size ≤ q → A q := fun q h => by rw [← hAe]; exact Or.inr h
  have G : mG D cI cJ cZ ad A s.heap s.heap [] S := ⟨hP, hD, va_S.rf⟩
  have E : mE p c cX12_isSource s m ([.ref (ad 0), .int a0] : List Value).toArray (Cond.code yX12_isSource cX12_isSource 2 (some .boolean) :: wsM) D cI cJ cZ := ⟨hx, hb, hts, hown, hK, fun w h => .tail _ (iM_x h)⟩
  have hl := lv_entry ([.ref (ad 0), .int a0]) (n := 2) (Nat.le_of_ble_eq_true rfl)
  rw [lg_entry_eq]
  generalize (lg_sl ([.ref (ad 0), .int a0]) ++ List.replicate (2 - (lg_sl ([.ref (ad 0), .int a0])).length) Slot.unset).toArray = ls at hl ⊢
  have hl : lv_has ls 2 [(0, .ref (ad 0)), (1, .int a0)] := hl
  unfold fr_isSource at h
  refine lv_iload_n hx hb dX12_isSource_0 rfl (lv_at hl 1 rfl) ?_
  refine lv_iconst (v := 0) hx hb dX12_isSource_1 (by decide) ?_
  refine lv_aload_n hx hb dX12_isSource_2 rfl (lv_at hl 0 rfl) ?_
  refine m_get E G 10 (v := .ref (ad 10)) (by decide) (.tail _ qM_7) rfl dX12_isSource_3 rfl ?_
  refine lv_iconst (v := 5) hx hb dX12_isSource_6 (by decide) ?_
  refine m_iald E G 10 2 (n := 131) (k := 5) rfl rfl (by decide) (by decide) dX12_isSource_7 ?_
  refine lv_topi (fun v2 ev2 => ?_)
  have h := elet_at ev2 h
  clear ev2
  refine lv_iconst (v := 1) hx hb dX12_isSource_8 (by decide) ?_
  refine lv_isub hx hb dX12_isSource_9 ?_
  refine lv_topi (fun v3 ev3 => ?_)
  have h := elet_at ev3 h
  clear ev3
  obtain ⟨r4, er4, h⟩ := obind_some h
  refine m_stat (As := [.int a0, .int 0, .int v3]) (rest := []) ⟨hx, hb, hml, hown, hts⟩ (tr_in l a0 0 v3 er4) (cwS 3 hts (gmS qM_52 qM_53 qM_35 qM_27) rfl rfl rfl (by decide +kernel) ⟨Nat.le_of_ble_eq_true rfl, Nat.le_of_ble_eq_true rfl⟩) rfl hl.1 rfl (lv_room (Nat.le_of_ble_eq_true rfl)) dX12_isSource_10 ⟨Nat.zero_le _, Nat.zero_le _⟩ (fun q5 hq => ?_)
  refine lv_to hq ?_
  clear hq er4
  obtain ⟨gz, h⟩ := oif_some h
  exact W.zret (v := r4) hx hb hr (nar01 gz) (fun t ht hW => ⟨⟨r4, S, rfl, osome2 h, ⟨by rw [ht]; exact G.1, va_K.moved hW.alike hK, G.2.1⟩⟩, G.2.2.F ht⟩) G.2.2.2.2 dX12_isSource_13
def fr_isTime (S : MS) (a0 : Int32) : Option (Int32 × MS) := elet (S.2.1 10 2) fun v2 => elet (v2 - 1) fun v3 => obind (fr_in a0 0 v3) fun r4 => oif (r4 = 0 ∨ r4 = 1) <| some (r4, S)
set_option maxHeartbeats 4000000 in
set_option maxRecDepth 100000 in
theorem tr_isTime (l : Launch) (D : va_G) (cI cJ cZ : ClassId) (ad : Nat → Nat) (S : MS) (a0 : Int32) {r1 : Int32} {S1 : MS} (h : fr_isTime S a0 = some (r1, S1)) : mCi l yX12_isTime (Cond.code yX12_isTime cX12_isTime 2 (some .boolean) :: wsM) 2 22 D cI cJ cZ ad S [.int a0] (fun r S9 => r = r1 ∧ S9 = S1) := by
  intro sz
  refine Met.ofW (cc := cX12_isTime) (maxL := 2) (ret := (some .boolean)) (by decide) rfl ?_
  intro p e s m args below meth c s₁ B hml hv
  obtain ⟨rfl, hsz, hP, hK, hD0, hR⟩ := hv
  have hx := B.exec
  have hb := B.bytes
  have hr := B.returns
  have hts := atoms_spec (ws := (Cond.code yX12_isTime cX12_isTime 2 (some .boolean) :: wsM)) B.pre
  have hown : s.vm.findClass RX12 = some m.cls := findClass_of_methodNamed B.named
  have hlocks := B.notSynchronized
  subst hsz
  have hD := hD0.self (sz := s.heap.size)
  generalize hAe : va_A (MW cI cJ cZ ad S) s.heap.size = A at hD ⊢
  have hA : ∀ q : Nat, s.heap.size ≤ q → A q := fun q h => by rw [← hAe]; exact Or.inr h
  have G : mG D cI cJ cZ ad A s.heap s.heap [] S := ⟨hP, hD, va_S.rf⟩
  have E : mE p c cX12_isTime s m ([.ref (ad 0), .int a0] : List Value).toArray (Cond.code yX12_isTime cX12_isTime 2 (some .boolean) :: wsM) D cI cJ cZ := ⟨hx, hb, hts, hown, hK, fun w h => .tail _ (iM_x h)⟩
  have hl := lv_entry ([.ref (ad 0), .int a0]) (n := 2) (Nat.le_of_ble_eq_true rfl)
  rw [lg_entry_eq]
  generalize (lg_sl ([.ref (ad 0), .int a0]) ++ List.replicate (2 - (lg_sl ([.ref (ad 0), .int a0])).length) Slot.unset).toArray = ls at hl ⊢
  have hl : lv_has ls 2 [(0, .ref (ad 0)), (1, .int a0)] := hl
  unfold fr_isTime at h
  refine lv_iload_n hx hb dX12_isTime_0 rfl (lv_at hl 1 rfl) ?_
  refine lv_iconst (v := 0) hx hb dX12_isTime_1 (by decide) ?_
  refine lv_aload_n hx hb dX12_isTime_2 rfl (lv_at hl 0 rfl) ?_
  refine m_get E G 10 (v := .ref (ad 10)) (by decide) (.tail _ qM_7) rfl dX12_isTime_3 rfl ?_
  refine lv_iconst (v := 2) hx hb dX12_isTime_6 (by decide) ?_
  refine m_iald E G 10 2 (n := 131) (k := 2) rfl rfl (by decide) (by decide) dX12_isTime_7 ?_
  refine lv_topi (fun v2 ev2 => ?_)
  have h := elet_at ev2 h
  clear ev2
  refine lv_iconst (v := 1) hx hb dX12_isTime_8 (by decide) ?_
  refine lv_isub hx hb dX12_isTime_9 ?_
  refine lv_topi (fun v3 ev3 => ?_)
  have h := elet_at ev3 h
  clear ev3
  obtain ⟨r4, er4, h⟩ := obind_some h
  refine m_stat (As := [.int a0, .int 0, .int v3]) (rest := []) ⟨hx, hb, hml, hown, hts⟩ (tr_in l a0 0 v3 er4) (cwS 3 hts (gmS qM_52 qM_53 qM_35 qM_27) rfl rfl rfl (by decide +kernel) ⟨Nat.le_of_ble_eq_true rfl, Nat.le_of_ble_eq_true rfl⟩) rfl hl.1 rfl (lv_room (Nat.le_of_ble_eq_true rfl)) dX12_isTime_10 ⟨Nat.zero_le _, Nat.zero_le _⟩ (fun q5 hq => ?_)
  refine lv_to hq ?_
  clear hq er4
  obtain ⟨gz, h⟩ := oif_some h
  exact W.zret (v := r4) hx hb hr (nar01 gz) (fun t ht hW => ⟨⟨r4, S, rfl, osome2 h, ⟨by rw [ht]; exact G.1, va_K.moved hW.alike hK, G.2.1⟩⟩, G.2.2.F ht⟩) G.2.2.2.2 dX12_isTime_13
def fr_isPeriod  (a0 : Int32) : Option (Int32) := obind (fr_in a0 2 99) fun r2 => oif (r2 = 0 ∨ r2 = 1) <| some r2
set_option maxHeartbeats 4000000 in
set_option maxRecDepth 100000 in
theorem tr_isPeriod (l : Launch) (a0 : Int32) {r1 : Int32} (h : fr_isPeriod a0 = some r1) : Met l yX12_isPeriod (Cond.code yX12_isPeriod cX12_isPeriod 1 (some .boolean) :: wsM) { frames := 2, cells := 0, slots := 0, locals := 22 } (va_Pc [.int a0] (fun _ => True)) (vp_Si (fun r => r = r1)) 0 0 (fun _ => False) := by
  refine Met.ofW (cc := cX12_isPeriod) (maxL := 1) (ret := (some .boolean)) (by decide) rfl ?_
  intro p e s m args below meth c s₁ B hml hv
  obtain ⟨rfl, -⟩ := hv
  have hx := B.exec
  have hb := B.bytes
  have hr := B.returns
  have hts := atoms_spec (ws := (Cond.code yX12_isPeriod cX12_isPeriod 1 (some .boolean) :: wsM)) B.pre
  have hown : s.vm.findClass RX12 = some m.cls := findClass_of_methodNamed B.named
  have hlocks := B.notSynchronized
  have E : p.tables.exec = Jvm.exec ∧ c.code = cX12_isPeriod ∧ (∀ w ∈ (Cond.code yX12_isPeriod cX12_isPeriod 1 (some .boolean) :: wsM), w.before ([.int a0] : List Value).toArray s = true) ∧ s.vm.findClass RX12 = some m.cls := ⟨hx, hb, hts, hown⟩
  have hl := lv_entry ([.int a0]) (n := 1) (Nat.le_of_ble_eq_true rfl)
  rw [lg_entry_eq]
  generalize (lg_sl ([.int a0]) ++ List.replicate (1 - (lg_sl ([.int a0])).length) Slot.unset).toArray = ls at hl ⊢
  have hl : lv_has ls 1 [(0, .int a0)] := hl
  unfold fr_isPeriod at h
  refine lv_iload_n hx hb dX12_isPeriod_0 rfl (lv_at hl 0 rfl) ?_
  refine lv_iconst (v := 2) hx hb dX12_isPeriod_1 (by decide) ?_
  refine lv_bipush (v := 99) hx hb dX12_isPeriod_2 (by decide) ?_
  obtain ⟨r2, er2, h⟩ := obind_some h
  refine m_stat (As := [.int a0, .int 2, .int 99]) (rest := []) ⟨hx, hb, hml, hown, hts⟩ (tr_in l a0 2 99 er2) (cwS 3 hts (gmS qM_52 qM_53 qM_35 qM_27) rfl rfl rfl (by decide +kernel) ⟨Nat.le_of_ble_eq_true rfl, Nat.le_of_ble_eq_true rfl⟩) rfl hl.1 rfl (lv_room (Nat.le_of_ble_eq_true rfl)) dX12_isPeriod_4 ⟨Nat.zero_le _, Nat.zero_le _⟩ (fun q3 hq => ?_)
  refine lv_to hq ?_
  clear hq er2
  obtain ⟨gz, h⟩ := oif_some h
  exact W.zret (v := r2) hx hb hr (nar01 gz) (fun t ht hW => ⟨r2, rfl, osome1 h, ht⟩) (fun _ h => absurd h List.not_mem_nil) dX12_isPeriod_7
def fr_mics (S : MS)  : Option (Int32 × MS) := elet (S.2.1 10 4) fun v2 => obind2 (fr_told S v2) fun r6 S3 => some (r6, S3)
set_option maxHeartbeats 4000000 in
set_option maxRecDepth 100000 in
theorem tr_mics (l : Launch) (D : va_G) (cI cJ cZ : ClassId) (ad : Nat → Nat) (S : MS)  {r1 : Int32} {S1 : MS} (h : fr_mics S = some (r1, S1)) : mCi l yX12_mics (Cond.code yX12_mics cX12_mics 1 (some .int) :: wsM) 2 21 D cI cJ cZ ad S [] (fun r S9 => r = r1 ∧ S9 = S1) := by
  intro sz
  refine Met.ofW (cc := cX12_mics) (maxL := 1) (ret := (some .int)) (by decide) rfl ?_
  intro p e s m args below meth c s₁ B hml hv
  obtain ⟨rfl, hsz, hP, hK, hD0, hR⟩ := hv
  have hx := B.exec
  have hb := B.bytes
  have hr := B.returns
  have hts := atoms_spec (ws := (Cond.code yX12_mics cX12_mics 1 (some .int) :: wsM)) B.pre
  have hown : s.vm.findClass RX12 = some m.cls := findClass_of_methodNamed B.named
  have hlocks := B.notSynchronized
  subst hsz
  have hD := hD0.self (sz := s.heap.size)
  generalize hAe : va_A (MW cI cJ cZ ad S) s.heap.size = A at hD ⊢
  have hA : ∀ q : Nat, s.heap.size ≤ q → A q := fun q h => by rw [← hAe]; exact Or.inr h
  have G : mG D cI cJ cZ ad A s.heap s.heap [] S := ⟨hP, hD, va_S.rf⟩
  have E : mE p c cX12_mics s m ([.ref (ad 0)] : List Value).toArray (Cond.code yX12_mics cX12_mics 1 (some .int) :: wsM) D cI cJ cZ := ⟨hx, hb, hts, hown, hK, fun w h => .tail _ (iM_x h)⟩
  have hl := lv_entry ([.ref (ad 0)]) (n := 1) (Nat.le_of_ble_eq_true rfl)
  rw [lg_entry_eq]
  generalize (lg_sl ([.ref (ad 0)]) ++ List.replicate (1 - (lg_sl ([.ref (ad 0)])).length) Slot.unset).toArray = ls at hl ⊢
  have hl : lv_has ls 1 [(0, .ref (ad 0))] := hl
  unfold fr_mics at h
  refine lv_aload_n hx hb dX12_mics_0 rfl (lv_at hl 0 rfl) ?_
  refine lv_aload_n hx hb dX12_mics_1 rfl (lv_at hl 0 rfl) ?_
  refine m_get E G 10 (v := .ref (ad 10)) (by decide) (.tail _ qM_7) rfl dX12_mics_2 rfl ?_
  refine lv_iconst (v := 4) hx hb dX12_mics_5 (by decide) ?_
  refine m_iald E G 10 2 (n := 131) (k := 4) rfl rfl (by decide) (by decide) dX12_mics_6 ?_
  refine lv_topi (fun v2 ev2 => ?_)
  have h := elet_at ev2 h
  clear ev2
  obtain ⟨r6, S3, eS3, h⟩ := obind2_some h
  refine m_calli (As := [.int v2]) (rest := []) E G hA hR hml (tr_told l D cI cJ cZ ad S v2 eS3) (cwV 1 hts (gmV qM_312 qM_313 qM_314 qM_35 qM_305) rfl rfl rfl (by decide +kernel) ⟨Nat.le_of_ble_eq_true rfl, Nat.le_of_ble_eq_true rfl⟩) rfl hl.1 rfl (lv_room (Nat.le_of_ble_eq_true rfl)) dX12_mics_7 ⟨Nat.zero_le _, Nat.zero_le _⟩ (fun q4 S5 H locs hq G => ?_)
  obtain ⟨hq1, hq2⟩ := hq
  rw [hq2] at G
  refine lv_to hq1 ?_
  clear hq1 hq2 eS3
  exact W.iret (v := r6) hx hb hr (fun t ht hW => ⟨⟨r6, S3, rfl, osome2 h, ⟨by rw [ht]; exact G.1, va_K.moved hW.alike hK, G.2.1⟩⟩, G.2.2.F ht⟩) G.2.2.2.2 dX12_mics_10
def fr_micAt (S : MS) (a0 : Int32) (a1 : Int32) : Option (Int32 × MS) := obind2 (fr_isMic S a0) fun r5 S2 => obind2 (fr_mayAsk S2 r5) fun r9 S6 => if r9 = 0 then (some (0, S6)) else (if a1 = 0 then (elet (11 + a0) fun v12 => oif (inb v12 131 = true) <| elet (S6.2.1 10 v12.toNatClampNeg) fun v14 => some (v14, S6)) else (if a1 = 1 then (elet (23 + a0) fun v16 => oif (inb v16 131 = true) <| elet (S6.2.1 10 v16.toNatClampNeg) fun v18 => some (v18, S6)) else (if a1 = 2 then (elet (35 + a0) fun v20 => oif (inb v20 131 = true) <| elet (S6.2.1 10 v20.toNatClampNeg) fun v22 => some (v22, S6)) else (if a1 = 3 then (elet (13 + a0) fun v24 => oif (inb v24 2455 = true) <| elet (S6.2.1 12 v24.toNatClampNeg) fun v26 => some (v26, S6)) else (obind2 (fr_throwsAt S6 3) fun r30 S27 => some (r30, S27))))))
set_option maxHeartbeats 4000000 in
set_option maxRecDepth 100000 in
theorem tr_micAt (l : Launch) (D : va_G) (cI cJ cZ : ClassId) (ad : Nat → Nat) (S : MS) (a0 : Int32) (a1 : Int32) {r1 : Int32} {S1 : MS} (h : fr_micAt S a0 a1 = some (r1, S1)) : mCi l yX12_micAt (Cond.code yX12_micAt cX12_micAt 3 (some .int) :: wsM) 3 43 D cI cJ cZ ad S [.int a0, .int a1] (fun r S9 => r = r1 ∧ S9 = S1) := by
  intro sz
  refine Met.ofW (cc := cX12_micAt) (maxL := 3) (ret := (some .int)) (by decide) rfl ?_
  intro p e s m args below meth c s₁ B hml hv
  obtain ⟨rfl, hsz, hP, hK, hD0, hR⟩ := hv
  have hx := B.exec
  have hb := B.bytes
  have hr := B.returns
  have hts := atoms_spec (ws := (Cond.code yX12_micAt cX12_micAt 3 (some .int) :: wsM)) B.pre
  have hown : s.vm.findClass RX12 = some m.cls := findClass_of_methodNamed B.named
  have hlocks := B.notSynchronized
  subst hsz
  have hD := hD0.self (sz := s.heap.size)
  generalize hAe : va_A (MW cI cJ cZ ad S) s.heap.size = A at hD ⊢
  have hA : ∀ q : Nat, s.heap.size ≤ q → A q := fun q h => by rw [← hAe]; exact Or.inr h
  have G : mG D cI cJ cZ ad A s.heap s.heap [] S := ⟨hP, hD, va_S.rf⟩
  have E : mE p c cX12_micAt s m ([.ref (ad 0), .int a0, .int a1] : List Value).toArray (Cond.code yX12_micAt cX12_micAt 3 (some .int) :: wsM) D cI cJ cZ := ⟨hx, hb, hts, hown, hK, fun w h => .tail _ (iM_x h)⟩
  have hl := lv_entry ([.ref (ad 0), .int a0, .int a1]) (n := 3) (Nat.le_of_ble_eq_true rfl)
  rw [lg_entry_eq]
  generalize (lg_sl ([.ref (ad 0), .int a0, .int a1]) ++ List.replicate (3 - (lg_sl ([.ref (ad 0), .int a0, .int a1])).length) Slot.unset).toArray = ls at hl ⊢
  have hl : lv_has ls 3 [(0, .ref (ad 0)), (1, .int a0), (2, .int a1)] := hl
  unfold fr_micAt at h
  refine lv_aload_n hx hb dX12_micAt_0 rfl (lv_at hl 0 rfl) ?_
  refine lv_aload_n hx hb dX12_micAt_1 rfl (lv_at hl 0 rfl) ?_
  refine lv_iload_n hx hb dX12_micAt_2 rfl (lv_at hl 1 rfl) ?_
  obtain ⟨r5, S2, eS2, h⟩ := obind2_some h
  refine m_calli (As := [.int a0]) (rest := [.ref (ad 0)]) E G hA hR hml (tr_isMic l D cI cJ cZ ad S a0 eS2) (cwV 1 hts (gmV qM_316 qM_317 qM_318 qM_35 qM_306) rfl rfl rfl (by decide +kernel) ⟨Nat.le_of_ble_eq_true rfl, Nat.le_of_ble_eq_true rfl⟩) rfl hl.1 rfl (lv_room (Nat.le_of_ble_eq_true rfl)) dX12_micAt_3 ⟨Nat.zero_le _, Nat.zero_le _⟩ (fun q3 S4 H locs hq G => ?_)
  obtain ⟨hq1, hq2⟩ := hq
  rw [hq2] at G
  refine lv_to hq1 ?_
  clear hq1 hq2 eS2
  obtain ⟨r9, S6, eS6, h⟩ := obind2_some h
  refine m_calli (As := [.int r5]) (rest := []) E G hA hR hml (tr_mayAsk l D cI cJ cZ ad S2 r5 eS6) (cwV 1 hts (gmV qM_319 qM_320 qM_321 qM_35 qM_304) rfl rfl rfl (by decide +kernel) ⟨Nat.le_of_ble_eq_true rfl, Nat.le_of_ble_eq_true rfl⟩) rfl hl.1 rfl (lv_room (Nat.le_of_ble_eq_true rfl)) dX12_micAt_6 ⟨Nat.zero_le _, Nat.zero_le _⟩ (fun q7 S8 H locs hq G => ?_)
  obtain ⟨hq1, hq2⟩ := hq
  rw [hq2] at G
  refine lv_to hq1 ?_
  clear hq1 hq2 eS6
  refine lv_if_ne (tgt := 14) hx hb dX12_micAt_9 (by decide) (fun c10 => ?_) (fun c10 => ?_)
  · have h := oif_neg c10 h
    refine lv_iload_n hx hb dX12_micAt_14 rfl (lv_at hl 2 rfl) ?_
    by_cases c11 : a1 = 0
    · have h := oif_pos c11 h
      refine lv_tableIn (off := 29) (tgt := 44) hx hb dX12_micAt_15 (by rw [c11]; decide) (by rw [c11]; decide) (by rw [c11]; rfl) (by decide) ?_
      refine lv_aload_n hx hb dX12_micAt_44 rfl (lv_at hl 0 rfl) ?_
      refine m_get E G 10 (v := .ref (ad 10)) (by decide) (.tail _ qM_7) rfl dX12_micAt_45 rfl ?_
      refine lv_bipush (v := 11) hx hb dX12_micAt_48 (by decide) ?_
      refine lv_iload_n hx hb dX12_micAt_50 rfl (lv_at hl 1 rfl) ?_
      refine lv_iadd hx hb dX12_micAt_51 ?_
      refine lv_topi (fun v12 ev12 => ?_)
      have h := elet_at ev12 h
      clear ev12
      obtain ⟨g13, h⟩ := oif_some h
      refine m_iald E G 10 2 (n := 131) (k := v12.toNatClampNeg) rfl (inb_k g13).1 (inb_k g13).2 (by decide) dX12_micAt_52 ?_
      refine lv_topi (fun v14 ev14 => ?_)
      have h := elet_at ev14 h
      clear ev14
      exact W.iret (v := v14) hx hb hr (fun t ht hW => ⟨⟨v14, S6, rfl, osome2 h, ⟨by rw [ht]; exact G.1, va_K.moved hW.alike hK, G.2.1⟩⟩, G.2.2.F ht⟩) G.2.2.2.2 dX12_micAt_53
    have h := oif_neg c11 h
    by_cases c15 : a1 = 1
    · have h := oif_pos c15 h
      refine lv_tableIn (off := 39) (tgt := 54) hx hb dX12_micAt_15 (by rw [c15]; decide) (by rw [c15]; decide) (by rw [c15]; rfl) (by decide) ?_
      refine lv_aload_n hx hb dX12_micAt_54 rfl (lv_at hl 0 rfl) ?_
      refine m_get E G 10 (v := .ref (ad 10)) (by decide) (.tail _ qM_7) rfl dX12_micAt_55 rfl ?_
      refine lv_bipush (v := 23) hx hb dX12_micAt_58 (by decide) ?_
      refine lv_iload_n hx hb dX12_micAt_60 rfl (lv_at hl 1 rfl) ?_
      refine lv_iadd hx hb dX12_micAt_61 ?_
      refine lv_topi (fun v16 ev16 => ?_)
      have h := elet_at ev16 h
      clear ev16
      obtain ⟨g17, h⟩ := oif_some h
      refine m_iald E G 10 2 (n := 131) (k := v16.toNatClampNeg) rfl (inb_k g17).1 (inb_k g17).2 (by decide) dX12_micAt_62 ?_
      refine lv_topi (fun v18 ev18 => ?_)
      have h := elet_at ev18 h
      clear ev18
      exact W.iret (v := v18) hx hb hr (fun t ht hW => ⟨⟨v18, S6, rfl, osome2 h, ⟨by rw [ht]; exact G.1, va_K.moved hW.alike hK, G.2.1⟩⟩, G.2.2.F ht⟩) G.2.2.2.2 dX12_micAt_63
    have h := oif_neg c15 h
    by_cases c19 : a1 = 2
    · have h := oif_pos c19 h
      refine lv_tableIn (off := 49) (tgt := 64) hx hb dX12_micAt_15 (by rw [c19]; decide) (by rw [c19]; decide) (by rw [c19]; rfl) (by decide) ?_
      refine lv_aload_n hx hb dX12_micAt_64 rfl (lv_at hl 0 rfl) ?_
      refine m_get E G 10 (v := .ref (ad 10)) (by decide) (.tail _ qM_7) rfl dX12_micAt_65 rfl ?_
      refine lv_bipush (v := 35) hx hb dX12_micAt_68 (by decide) ?_
      refine lv_iload_n hx hb dX12_micAt_70 rfl (lv_at hl 1 rfl) ?_
      refine lv_iadd hx hb dX12_micAt_71 ?_
      refine lv_topi (fun v20 ev20 => ?_)
      have h := elet_at ev20 h
      clear ev20
      obtain ⟨g21, h⟩ := oif_some h
      refine m_iald E G 10 2 (n := 131) (k := v20.toNatClampNeg) rfl (inb_k g21).1 (inb_k g21).2 (by decide) dX12_micAt_72 ?_
      refine lv_topi (fun v22 ev22 => ?_)
      have h := elet_at ev22 h
      clear ev22
      exact W.iret (v := v22) hx hb hr (fun t ht hW => ⟨⟨v22, S6, rfl, osome2 h, ⟨by rw [ht]; exact G.1, va_K.moved hW.alike hK, G.2.1⟩⟩, G.2.2.F ht⟩) G.2.2.2.2 dX12_micAt_73
    have h := oif_neg c19 h
    by_cases c23 : a1 = 3
    · have h := oif_pos c23 h
      refine lv_tableIn (off := 59) (tgt := 74) hx hb dX12_micAt_15 (by rw [c23]; decide) (by rw [c23]; decide) (by rw [c23]; rfl) (by decide) ?_
      refine lv_aload_n hx hb dX12_micAt_74 rfl (lv_at hl 0 rfl) ?_
      refine m_get E G 12 (v := .ref (ad 12)) (by decide) (.tail _ qM_9) rfl dX12_micAt_75 rfl ?_
      refine lv_bipush (v := 13) hx hb dX12_micAt_78 (by decide) ?_
      refine lv_iload_n hx hb dX12_micAt_80 rfl (lv_at hl 1 rfl) ?_
      refine lv_iadd hx hb dX12_micAt_81 ?_
      refine lv_topi (fun v24 ev24 => ?_)
      have h := elet_at ev24 h
      clear ev24
      obtain ⟨g25, h⟩ := oif_some h
      refine m_iald E G 12 4 (n := 2455) (k := v24.toNatClampNeg) rfl (inb_k g25).1 (inb_k g25).2 (by decide) dX12_micAt_82 ?_
      refine lv_topi (fun v26 ev26 => ?_)
      have h := elet_at ev26 h
      clear ev26
      exact W.iret (v := v26) hx hb hr (fun t ht hW => ⟨⟨v26, S6, rfl, osome2 h, ⟨by rw [ht]; exact G.1, va_K.moved hW.alike hK, G.2.1⟩⟩, G.2.2.F ht⟩) G.2.2.2.2 dX12_micAt_83
    have h := oif_neg c23 h
    refine lv_tableOut (tgt := 84) hx hb dX12_micAt_15 (tsw_0_3 c11 c15 c19 c23) (by decide) ?_
    refine lv_aload_n hx hb dX12_micAt_84 rfl (lv_at hl 0 rfl) ?_
    refine lv_iconst (v := 3) hx hb dX12_micAt_85 (by decide) ?_
    obtain ⟨r30, S27, eS27, h⟩ := obind2_some h
    refine m_calli (As := [.int 3]) (rest := []) E G hA hR hml (tr_throwsAt l D cI cJ cZ ad S6 3 eS27) (cwV 1 hts (gmV qM_195 qM_196 qM_197 qM_35 qM_28) rfl rfl rfl (by decide +kernel) ⟨Nat.le_of_ble_eq_true rfl, Nat.le_of_ble_eq_true rfl⟩) rfl hl.1 rfl (lv_room (Nat.le_of_ble_eq_true rfl)) dX12_micAt_86 ⟨Nat.zero_le _, Nat.zero_le _⟩ (fun q28 S29 H locs hq G => ?_)
    obtain ⟨hq1, hq2⟩ := hq
    rw [hq2] at G
    refine lv_to hq1 ?_
    clear hq1 hq2 eS27
    exact W.iret (v := r30) hx hb hr (fun t ht hW => ⟨⟨r30, S27, rfl, osome2 h, ⟨by rw [ht]; exact G.1, va_K.moved hW.alike hK, G.2.1⟩⟩, G.2.2.F ht⟩) G.2.2.2.2 dX12_micAt_89
  · have h := oif_pos c10 h
    refine lv_iconst (v := 0) hx hb dX12_micAt_12 (by decide) ?_
    exact W.iret (v := 0) hx hb hr (fun t ht hW => ⟨⟨0, S6, rfl, osome2 h, ⟨by rw [ht]; exact G.1, va_K.moved hW.alike hK, G.2.1⟩⟩, G.2.2.F ht⟩) G.2.2.2.2 dX12_micAt_13
end
