def fr_in_b15   (s0 : Int32) : Option (Int32) := oif (s0 = 0 ∨ s0 = 1) <| some s0
set_option maxHeartbeats 4000000 in
set_option maxRecDepth 100000 in
theorem tr_in_b15 {p : Program} {l : Launch} {e : Env} {s : State} {m : MethodId} {args : Array Value} {below : List Frame} {meth : Method} {c : Code} {Q : State → Prop} {r1 : Int32} (E : p.tables.exec = Jvm.exec ∧ c.code = cX12_in ∧ (∀ w ∈ (Cond.code yX12_in cX12_in 3 (some .boolean) :: wsM), w.before args s = true) ∧ s.vm.findClass RX12 = some m.cls) (hml : c.maxLocals = 3) (kr15 : ∀ (ls : Array Slot), (r1 = 0 ∨ r1 = 1) → W p l e { frames := 1, cells := 0, slots := 0, locals := 0 } s m args below meth c s.heap [] 0 0 Q (F0 m 15 ls [.int r1])) : ∀ (ls : Array Slot) (s0 : Int32), fr_in_b15 s0 = some r1 → lv_has ls 3 [] → W p l e { frames := 1, cells := 0, slots := 0, locals := 0 } s m args below meth c s.heap [] 0 0 Q (F0 m 15 ls [.int s0]) := by
  have hx := E.1
  have hb := E.2.1
  have hts := E.2.2.1
  have hown := E.2.2.2
  intro ls s0 h hl
  unfold fr_in_b15 at h
  obtain ⟨gz, h⟩ := oif_some h
  have gr : r1 = 0 ∨ r1 = 1 := by rw [← osome1 h]; exact gz
  refine lv_to (osome1 h) ?_
  exact kr15 _ gr
def fr_in_b14    : Option (Int32) := fr_in_b15 0
set_option maxHeartbeats 4000000 in
set_option maxRecDepth 100000 in
theorem tr_in_b14 {p : Program} {l : Launch} {e : Env} {s : State} {m : MethodId} {args : Array Value} {below : List Frame} {meth : Method} {c : Code} {Q : State → Prop} {r1 : Int32} (E : p.tables.exec = Jvm.exec ∧ c.code = cX12_in ∧ (∀ w ∈ (Cond.code yX12_in cX12_in 3 (some .boolean) :: wsM), w.before args s = true) ∧ s.vm.findClass RX12 = some m.cls) (hml : c.maxLocals = 3) (kr15 : ∀ (ls : Array Slot), (r1 = 0 ∨ r1 = 1) → W p l e { frames := 1, cells := 0, slots := 0, locals := 0 } s m args below meth c s.heap [] 0 0 Q (F0 m 15 ls [.int r1])) : ∀ (ls : Array Slot), fr_in_b14 = some r1 → lv_has ls 3 [] → W p l e { frames := 1, cells := 0, slots := 0, locals := 0 } s m args below meth c s.heap [] 0 0 Q (F0 m 14 ls []) := by
  have hx := E.1
  have hb := E.2.1
  have hts := E.2.2.1
  have hown := E.2.2.2
  intro ls h hl
  unfold fr_in_b14 at h
  refine lv_iconst (v := 0) hx hb dX12_in_14 (by decide) ?_
  have hl := lv_sub hl [] rfl
  exact tr_in_b15 E hml kr15 _ _ h hl
def fr_in  (a0 : Int32) (a1 : Int32) (a2 : Int32) : Option (Int32) := if a0 < a1 then (fr_in_b14) else (if a2 < a0 then (fr_in_b14) else (fr_in_b15 1))
set_option maxHeartbeats 4000000 in
set_option maxRecDepth 100000 in
theorem tr_in (l : Launch) (a0 : Int32) (a1 : Int32) (a2 : Int32) {r1 : Int32} (h : fr_in a0 a1 a2 = some r1) : Met l yX12_in (Cond.code yX12_in cX12_in 3 (some .boolean) :: wsM) { frames := 1, cells := 0, slots := 0, locals := 0 } (va_Pc [.int a0, .int a1, .int a2] (fun _ => True)) (vp_Si (fun r => r = r1)) 0 0 (fun _ => False) := by
  refine Met.ofW (cc := cX12_in) (maxL := 3) (ret := (some .boolean)) (by decide) rfl ?_
  intro p e s m args below meth c s₁ B hml hv
  obtain ⟨rfl, -⟩ := hv
  have hx := B.exec
  have hb := B.bytes
  have hr := B.returns
  have hts := atoms_spec (ws := (Cond.code yX12_in cX12_in 3 (some .boolean) :: wsM)) B.pre
  have hown : s.vm.findClass RX12 = some m.cls := findClass_of_methodNamed B.named
  have hlocks := B.notSynchronized
  have E : p.tables.exec = Jvm.exec ∧ c.code = cX12_in ∧ (∀ w ∈ (Cond.code yX12_in cX12_in 3 (some .boolean) :: wsM), w.before ([.int a0, .int a1, .int a2] : List Value).toArray s = true) ∧ s.vm.findClass RX12 = some m.cls := ⟨hx, hb, hts, hown⟩
  have hl := lv_entry ([.int a0, .int a1, .int a2]) (n := 3) (Nat.le_of_ble_eq_true rfl)
  rw [lg_entry_eq]
  generalize (lg_sl ([.int a0, .int a1, .int a2]) ++ List.replicate (3 - (lg_sl ([.int a0, .int a1, .int a2])).length) Slot.unset).toArray = ls at hl ⊢
  have hl : lv_has ls 3 [(0, .int a0), (1, .int a1), (2, .int a2)] := hl
  unfold fr_in at h
  refine lv_iload_n hx hb dX12_in_0 rfl (lv_at hl 0 rfl) ?_
  refine lv_iload_n hx hb dX12_in_1 rfl (lv_at hl 1 rfl) ?_
  refine lv_icmp_lt (tgt := 14) hx hb dX12_in_2 (by decide) (fun c2 => ?_) (fun c2 => ?_)
  · have h := oif_pos c2 h
    have hl := lv_sub hl [] rfl
    exact tr_in_b14 E hml (fun ls gz => W.zret (v := r1) hx hb hr (nar01 gz) (fun t ht hW => ⟨r1, rfl, rfl, ht⟩) (fun _ h => absurd h List.not_mem_nil) dX12_in_15) _ h hl
  · have h := oif_neg c2 h
    refine lv_iload_n hx hb dX12_in_5 rfl (lv_at hl 0 rfl) ?_
    refine lv_iload_n hx hb dX12_in_6 rfl (lv_at hl 2 rfl) ?_
    refine lv_icmp_gt (tgt := 14) hx hb dX12_in_7 (by decide) (fun c3 => ?_) (fun c3 => ?_)
    · have h := oif_pos c3 h
      have hl := lv_sub hl [] rfl
      exact tr_in_b14 E hml (fun ls gz => W.zret (v := r1) hx hb hr (nar01 gz) (fun t ht hW => ⟨r1, rfl, rfl, ht⟩) (fun _ h => absurd h List.not_mem_nil) dX12_in_15) _ h hl
    · have h := oif_neg c3 h
      refine lv_iconst (v := 1) hx hb dX12_in_10 (by decide) ?_
      refine lv_goto (tgt := 15) hx hb dX12_in_11 (by decide) ?_
      have hl := lv_sub hl [] rfl
      exact tr_in_b15 E hml (fun ls gz => W.zret (v := r1) hx hb hr (nar01 gz) (fun t ht hW => ⟨r1, rfl, rfl, ht⟩) (fun _ h => absurd h List.not_mem_nil) dX12_in_15) _ _ h hl
def fr_throwsAt (S : MS) (a0 : Int32) : Option (Int32 × MS) := elet (mi S 0 a0) fun S2 => some (0, S2)
set_option maxHeartbeats 4000000 in
set_option maxRecDepth 100000 in
theorem tr_throwsAt (l : Launch) (D : va_G) (cI cJ cZ : ClassId) (ad : Nat → Nat) (S : MS) (a0 : Int32) {r1 : Int32} {S1 : MS} (h : fr_throwsAt S a0 = some (r1, S1)) : mCi l yX12_throwsAt (Cond.code yX12_throwsAt cX12_throwsAt 2 (some .int) :: wsM) 1 0 D cI cJ cZ ad S [.int a0] (fun r S9 => r = r1 ∧ S9 = S1) := by
  intro sz
  refine Met.ofW (cc := cX12_throwsAt) (maxL := 2) (ret := (some .int)) (by decide) rfl ?_
  intro p e s m args below meth c s₁ B hml hv
  obtain ⟨rfl, hsz, hP, hK, hD0, hR⟩ := hv
  have hx := B.exec
  have hb := B.bytes
  have hr := B.returns
  have hts := atoms_spec (ws := (Cond.code yX12_throwsAt cX12_throwsAt 2 (some .int) :: wsM)) B.pre
  have hown : s.vm.findClass RX12 = some m.cls := findClass_of_methodNamed B.named
  have hlocks := B.notSynchronized
  subst hsz
  have hD := hD0.self (sz := s.heap.size)
  generalize hAe : va_A (MW cI cJ cZ ad S) s.heap.size = A at hD ⊢
  have hA : ∀ q : Nat, s.heap.size ≤ q → A q := fun q h => by rw [← hAe]; exact Or.inr h
  have G : mG D cI cJ cZ ad A s.heap s.heap [] S := ⟨hP, hD, va_S.rf⟩
  have E : mE p c cX12_throwsAt s m ([.ref (ad 0), .int a0] : List Value).toArray (Cond.code yX12_throwsAt cX12_throwsAt 2 (some .int) :: wsM) D cI cJ cZ := ⟨hx, hb, hts, hown, hK, fun w h => .tail _ (iM_x h)⟩
  have hl := lv_entry ([.ref (ad 0), .int a0]) (n := 2) (Nat.le_of_ble_eq_true rfl)
  rw [lg_entry_eq]
  generalize (lg_sl ([.ref (ad 0), .int a0]) ++ List.replicate (2 - (lg_sl ([.ref (ad 0), .int a0])).length) Slot.unset).toArray = ls at hl ⊢
  have hl : lv_has ls 2 [(0, .ref (ad 0)), (1, .int a0)] := hl
  unfold fr_throwsAt at h
  refine lv_aload_n hx hb dX12_throwsAt_0 rfl (lv_at hl 0 rfl) ?_
  refine lv_iload_n hx hb dX12_throwsAt_1 rfl (lv_at hl 1 rfl) ?_
  refine m_put E G 0 (by decide) (.tail _ qM_26) (mw_i0 _ _ _ _ _ a0) dX12_throwsAt_2 ⟨rfl, rfl, rfl⟩ rfl rfl (fun H locs G => ?_)
  obtain ⟨S2, eS2, h⟩ := elet_some h
  rw [← eS2] at G
  clear eS2
  refine lv_iconst (v := 0) hx hb dX12_throwsAt_5 (by decide) ?_
  exact W.iret (v := 0) hx hb hr (fun t ht hW => ⟨⟨0, S2, rfl, osome2 h, ⟨by rw [ht]; exact G.1, va_K.moved hW.alike hK, G.2.1⟩⟩, G.2.2.F ht⟩) G.2.2.2.2 dX12_throwsAt_6
def fr_four_b3  : Nat → MS → Int32 → Int32 → Option (MS)
  | 0, _, _, _ => none
  | n + 1, S, l1, l2 => if l2 < 0 then (some S) else (elet (S.1 2) fun v3 => elet (l1 >>> (l2 &&& 31)) fun v4 => elet (v4 &&& 255) fun v5 => oif (inb v3 1000 = true) <| elet (mf S 1 (upd (S.2.1 1) v3.toNatClampNeg v5)) fun S7 => elet (S7.1 2) fun v8 => elet (v8 + 1) fun v9 => elet (mi S7 2 v9) fun S10 => elet (l2 + Int32.ofInt (-8)) fun v11 => fr_four_b3 n S10 l1 v11)
set_option maxHeartbeats 4000000 in
set_option maxRecDepth 100000 in
theorem tr_four_b3 {p : Program} {l : Launch} {e : Env} {s : State} {m : MethodId} {args : Array Value} {below : List Frame} {meth : Method} {c : Code} {Q : State → Prop} {D : va_G} {A : Nat → Prop} {H0 : Heap} {cI cJ cZ : ClassId} {ad : Nat → Nat} {S1 : MS} (E : mE p c cX12_four s m args (Cond.code yX12_four cX12_four 3 none :: wsM) D cI cJ cZ) (hA : ∀ q : Nat, H0.size ≤ q → A q) (hR : sR s) (hml : c.maxLocals = 3) (kr39 : ∀ (H : Heap) (locs : List Loc) (ls : Array Slot), mG D cI cJ cZ ad A H0 H locs S1 → W p l e { frames := 1, cells := 0, slots := 0, locals := 0 } s m args below meth c H locs 0 0 Q (F0 m 39 ls [])) : ∀ n : Nat, ∀ (S : MS) (H : Heap) (locs : List Loc) (ls : Array Slot) (l1 : Int32) (l2 : Int32), fr_four_b3 n S l1 l2 = some S1 → mG D cI cJ cZ ad A H0 H locs S → lv_has ls 3 [(0, .ref (ad 0)), (1, .int l1), (2, .int l2)] → W p l e { frames := 1, cells := 0, slots := 0, locals := 0 } s m args below meth c H locs 0 0 Q (F0 m 3 ls []) := by
  have hx := E.1
  have hb := E.2.1
  have hts := E.2.2.1
  have hown := E.2.2.2.1
  have hK := E.2.2.2.2.1
  intro n
  induction n with
  | zero =>
    intro S H locs ls l1 l2 h
    have h : (none : Option (MS)) = some S1 := h
    cases h
  | succ n ih =>
    intro S H locs ls l1 l2 h G hl
    unfold fr_four_b3 at h
    refine lv_iload_n hx hb dX12_four_3 rfl (lv_at hl 2 rfl) ?_
    refine lv_if_lt (tgt := 39) hx hb dX12_four_4 (by decide) (fun c2 => ?_) (fun c2 => ?_)
    · have h := oif_pos c2 h
      rw [osome1 h] at G
      exact kr39 _ _ _ G
    · have h := oif_neg c2 h
      refine lv_aload_n hx hb dX12_four_7 rfl (lv_at hl 0 rfl) ?_
      refine m_get E G 1 (v := .ref (ad 1)) (by decide) (.tail _ qM_5) rfl dX12_four_8 rfl ?_
      refine lv_aload_n hx hb dX12_four_11 rfl (lv_at hl 0 rfl) ?_
      refine m_get E G 2 (v := .int (S.1 2)) (by decide) (.tail _ qM_30) rfl dX12_four_12 rfl ?_
      refine lv_topi (fun v3 ev3 => ?_)
      have h := elet_at ev3 h
      clear ev3
      refine lv_iload_n hx hb dX12_four_15 rfl (lv_at hl 1 rfl) ?_
      refine lv_iload_n hx hb dX12_four_16 rfl (lv_at hl 2 rfl) ?_
      refine lv_ishr hx hb dX12_four_17 ?_
      refine lv_topi (fun v4 ev4 => ?_)
      have h := elet_at ev4 h
      clear ev4
      refine lv_sipush (v := 255) hx hb dX12_four_18 (by decide) ?_
      refine lv_iand hx hb dX12_four_21 ?_
      refine lv_topi (fun v5 ev5 => ?_)
      have h := elet_at ev5 h
      clear ev5
      obtain ⟨g6, h⟩ := oif_some h
      refine m_iast E G 1 1 (k := v3.toNatClampNeg) (v := v5) rfl (fun _ => rfl) (inb_k g6).1 (inb_k g6).2 (by decide) dX12_four_22 (fun H locs G => ?_)
      obtain ⟨S7, eS7, h⟩ := elet_some h
      rw [← eS7] at G
      clear eS7
      refine lv_aload_n hx hb dX12_four_23 rfl (lv_at hl 0 rfl) ?_
      refine lv_dup hx hb dX12_four_24 rfl ?_
      refine m_get E G 2 (v := .int (S7.1 2)) (by decide) (.tail _ qM_30) rfl dX12_four_25 rfl ?_
      refine lv_topi (fun v8 ev8 => ?_)
      have h := elet_at ev8 h
      clear ev8
      refine lv_iconst (v := 1) hx hb dX12_four_28 (by decide) ?_
      refine lv_iadd hx hb dX12_four_29 ?_
      refine lv_topi (fun v9 ev9 => ?_)
      have h := elet_at ev9 h
      clear ev9
      refine m_put E G 2 (by decide) (.tail _ qM_30) (mw_i2 _ _ _ _ _ v9) dX12_four_30 ⟨rfl, rfl, rfl⟩ rfl rfl (fun H locs G => ?_)
      obtain ⟨S10, eS10, h⟩ := elet_some h
      rw [← eS10] at G
      clear eS10
      obtain ⟨v11, ev11, h⟩ := elet_some h
      refine lv_iinc (v := v11) (lv' := [(2, .int v11), (0, .ref (ad 0)), (1, .int l1)]) hx hb dX12_four_33 hl (k := 2) rfl ev11.symm (by decide) rfl (fun ls hl => ?_)
      refine lv_goto (tgt := 3) hx hb dX12_four_36 (by decide) ?_
      have hl := lv_sub hl [1, 2, 0] rfl
      exact ih _ _ _ _ _ _ h G hl
def fr_four (S : MS) (a0 : Int32) : Option (MS) := fr_four_b3 16384 S a0 24
set_option maxHeartbeats 4000000 in
set_option maxRecDepth 100000 in
theorem tr_four (l : Launch) (D : va_G) (cI cJ cZ : ClassId) (ad : Nat → Nat) (S : MS) (a0 : Int32) {S1 : MS} (h : fr_four S a0 = some S1) : mCv l yX12_four (Cond.code yX12_four cX12_four 3 none :: wsM) 1 0 D cI cJ cZ ad S [.int a0] (fun S9 => S9 = S1) := by
  intro sz
  refine Met.ofW (cc := cX12_four) (maxL := 3) (ret := none) (by decide) rfl ?_
  intro p e s m args below meth c s₁ B hml hv
  obtain ⟨rfl, hsz, hP, hK, hD0, hR⟩ := hv
  have hx := B.exec
  have hb := B.bytes
  have hr := B.returns
  have hts := atoms_spec (ws := (Cond.code yX12_four cX12_four 3 none :: wsM)) B.pre
  have hown : s.vm.findClass RX12 = some m.cls := findClass_of_methodNamed B.named
  have hlocks := B.notSynchronized
  subst hsz
  have hD := hD0.self (sz := s.heap.size)
  generalize hAe : va_A (MW cI cJ cZ ad S) s.heap.size = A at hD ⊢
  have hA : ∀ q : Nat, s.heap.size ≤ q → A q := fun q h => by rw [← hAe]; exact Or.inr h
  have G : mG D cI cJ cZ ad A s.heap s.heap [] S := ⟨hP, hD, va_S.rf⟩
  have E : mE p c cX12_four s m ([.ref (ad 0), .int a0] : List Value).toArray (Cond.code yX12_four cX12_four 3 none :: wsM) D cI cJ cZ := ⟨hx, hb, hts, hown, hK, fun w h => .tail _ (iM_x h)⟩
  have hl := lv_entry ([.ref (ad 0), .int a0]) (n := 3) (Nat.le_of_ble_eq_true rfl)
  rw [lg_entry_eq]
  generalize (lg_sl ([.ref (ad 0), .int a0]) ++ List.replicate (3 - (lg_sl ([.ref (ad 0), .int a0])).length) Slot.unset).toArray = ls at hl ⊢
  have hl : lv_has ls 3 [(0, .ref (ad 0)), (1, .int a0)] := hl
  unfold fr_four at h
  refine lv_bipush (v := 24) hx hb dX12_four_0 (by decide) ?_
  refine lv_istore_n (lv' := [(2, .int 24), (0, .ref (ad 0)), (1, .int a0)]) hx hb dX12_four_2 rfl hl (by decide) rfl (fun ls hl => ?_)
  have hl := lv_sub hl [1, 2, 0] rfl
  exact tr_four_b3 E hA hR hml (fun H locs ls G => W.vret hx hb hr (fun t ht hW => ⟨⟨S1, rfl, rfl, ⟨by rw [ht]; exact G.1, va_K.moved hW.alike hK, G.2.1⟩⟩, G.2.2.F ht⟩) G.2.2.2.2 dX12_four_39) _ _ _ _ _ _ _ h G hl
def fr_append (S : MS) (a0 : Int32) (a1 : Int32) (a2 : Int32) (a3 : Int32) (a4 : Int32) : Option (Int32 × MS) := elet (mi S 0 0) fun S2 => elet (S2.1 2) fun v3 => elet (v3 + 20) fun v4 => if v4 ≤ 1000 then (obind (fr_four S2 a0) fun S6 => obind (fr_four S6 a1) fun S9 => obind (fr_four S9 a2) fun S12 => obind (fr_four S12 a3) fun S15 => obind (fr_four S15 a4) fun S18 => elet (S18.1 2) fun v21 => some (v21, S18)) else (some ((-1), S2))
set_option maxHeartbeats 4000000 in
set_option maxRecDepth 100000 in
theorem tr_append (l : Launch) (D : va_G) (cI cJ cZ : ClassId) (ad : Nat → Nat) (S : MS) (a0 : Int32) (a1 : Int32) (a2 : Int32) (a3 : Int32) (a4 : Int32) {r1 : Int32} {S1 : MS} (h : fr_append S a0 a1 a2 a3 a4 = some (r1, S1)) : mCi l yX12_append (Cond.code yX12_append cX12_append 6 (some .int) :: wsM) 2 22 D cI cJ cZ ad S [.int a0, .int a1, .int a2, .int a3, .int a4] (fun r S9 => r = r1 ∧ S9 = S1) := by
  intro sz
  refine Met.ofW (cc := cX12_append) (maxL := 6) (ret := (some .int)) (by decide) rfl ?_
  intro p e s m args below meth c s₁ B hml hv
  obtain ⟨rfl, hsz, hP, hK, hD0, hR⟩ := hv
  have hx := B.exec
  have hb := B.bytes
  have hr := B.returns
  have hts := atoms_spec (ws := (Cond.code yX12_append cX12_append 6 (some .int) :: wsM)) B.pre
  have hown : s.vm.findClass RX12 = some m.cls := findClass_of_methodNamed B.named
  have hlocks := B.notSynchronized
  subst hsz
  have hD := hD0.self (sz := s.heap.size)
  generalize hAe : va_A (MW cI cJ cZ ad S) s.heap.size = A at hD ⊢
  have hA : ∀ q : Nat, s.heap.size ≤ q → A q := fun q h => by rw [← hAe]; exact Or.inr h
  have G : mG D cI cJ cZ ad A s.heap s.heap [] S := ⟨hP, hD, va_S.rf⟩
  have E : mE p c cX12_append s m ([.ref (ad 0), .int a0, .int a1, .int a2, .int a3, .int a4] : List Value).toArray (Cond.code yX12_append cX12_append 6 (some .int) :: wsM) D cI cJ cZ := ⟨hx, hb, hts, hown, hK, fun w h => .tail _ (iM_x h)⟩
  have hl := lv_entry ([.ref (ad 0), .int a0, .int a1, .int a2, .int a3, .int a4]) (n := 6) (Nat.le_of_ble_eq_true rfl)
  rw [lg_entry_eq]
  generalize (lg_sl ([.ref (ad 0), .int a0, .int a1, .int a2, .int a3, .int a4]) ++ List.replicate (6 - (lg_sl ([.ref (ad 0), .int a0, .int a1, .int a2, .int a3, .int a4])).length) Slot.unset).toArray = ls at hl ⊢
  have hl : lv_has ls 6 [(0, .ref (ad 0)), (1, .int a0), (2, .int a1), (3, .int a2), (4, .int a3), (5, .int a4)] := hl
  unfold fr_append at h
  refine lv_aload_n hx hb dX12_append_0 rfl (lv_at hl 0 rfl) ?_
  refine lv_iconst (v := 0) hx hb dX12_append_1 (by decide) ?_
  refine m_put E G 0 (by decide) (.tail _ qM_26) (mw_i0 _ _ _ _ _ 0) dX12_append_2 ⟨rfl, rfl, rfl⟩ rfl rfl (fun H locs G => ?_)
  obtain ⟨S2, eS2, h⟩ := elet_some h
  rw [← eS2] at G
  clear eS2
  refine lv_aload_n hx hb dX12_append_5 rfl (lv_at hl 0 rfl) ?_
  refine m_get E G 2 (v := .int (S2.1 2)) (by decide) (.tail _ qM_30) rfl dX12_append_6 rfl ?_
  refine lv_topi (fun v3 ev3 => ?_)
  have h := elet_at ev3 h
  clear ev3
  refine lv_bipush (v := 20) hx hb dX12_append_9 (by decide) ?_
  refine lv_iadd hx hb dX12_append_11 ?_
  refine lv_topi (fun v4 ev4 => ?_)
  have h := elet_at ev4 h
  clear ev4
  refine lv_sipush (v := 1000) hx hb dX12_append_12 (by decide) ?_
  refine lv_icmp_le (tgt := 20) hx hb dX12_append_15 (by decide) (fun c5 => ?_) (fun c5 => ?_)
  · have h := oif_pos c5 h
    refine lv_aload_n hx hb dX12_append_20 rfl (lv_at hl 0 rfl) ?_
    refine lv_iload_n hx hb dX12_append_21 rfl (lv_at hl 1 rfl) ?_
    obtain ⟨S6, eS6, h⟩ := obind_some h
    refine m_callv (As := [.int a0]) (rest := []) E G hA hR hml (tr_four l D cI cJ cZ ad S2 a0 eS6) (cwV 1 hts (gmV qM_32 qM_33 qM_34 qM_35 qM_29) rfl rfl rfl (by decide +kernel) ⟨Nat.le_of_ble_eq_true rfl, Nat.le_of_ble_eq_true rfl⟩) rfl hl.1 rfl (lv_room (Nat.le_of_ble_eq_true rfl)) dX12_append_22 ⟨Nat.zero_le _, Nat.zero_le _⟩ (fun S8 H locs hq G => ?_)
    rw [hq] at G
    clear hq eS6
    refine lv_aload_n hx hb dX12_append_25 rfl (lv_at hl 0 rfl) ?_
    refine lv_iload_n hx hb dX12_append_26 rfl (lv_at hl 2 rfl) ?_
    obtain ⟨S9, eS9, h⟩ := obind_some h
    refine m_callv (As := [.int a1]) (rest := []) E G hA hR hml (tr_four l D cI cJ cZ ad S6 a1 eS9) (cwV 1 hts (gmV qM_32 qM_33 qM_34 qM_35 qM_29) rfl rfl rfl (by decide +kernel) ⟨Nat.le_of_ble_eq_true rfl, Nat.le_of_ble_eq_true rfl⟩) rfl hl.1 rfl (lv_room (Nat.le_of_ble_eq_true rfl)) dX12_append_27 ⟨Nat.zero_le _, Nat.zero_le _⟩ (fun S11 H locs hq G => ?_)
    rw [hq] at G
    clear hq eS9
    refine lv_aload_n hx hb dX12_append_30 rfl (lv_at hl 0 rfl) ?_
    refine lv_iload_n hx hb dX12_append_31 rfl (lv_at hl 3 rfl) ?_
    obtain ⟨S12, eS12, h⟩ := obind_some h
    refine m_callv (As := [.int a2]) (rest := []) E G hA hR hml (tr_four l D cI cJ cZ ad S9 a2 eS12) (cwV 1 hts (gmV qM_32 qM_33 qM_34 qM_35 qM_29) rfl rfl rfl (by decide +kernel) ⟨Nat.le_of_ble_eq_true rfl, Nat.le_of_ble_eq_true rfl⟩) rfl hl.1 rfl (lv_room (Nat.le_of_ble_eq_true rfl)) dX12_append_32 ⟨Nat.zero_le _, Nat.zero_le _⟩ (fun S14 H locs hq G => ?_)
    rw [hq] at G
    clear hq eS12
    refine lv_aload_n hx hb dX12_append_35 rfl (lv_at hl 0 rfl) ?_
    refine lv_iload hx hb dX12_append_36 (lv_at hl 4 rfl) ?_
    obtain ⟨S15, eS15, h⟩ := obind_some h
    refine m_callv (As := [.int a3]) (rest := []) E G hA hR hml (tr_four l D cI cJ cZ ad S12 a3 eS15) (cwV 1 hts (gmV qM_32 qM_33 qM_34 qM_35 qM_29) rfl rfl rfl (by decide +kernel) ⟨Nat.le_of_ble_eq_true rfl, Nat.le_of_ble_eq_true rfl⟩) rfl hl.1 rfl (lv_room (Nat.le_of_ble_eq_true rfl)) dX12_append_38 ⟨Nat.zero_le _, Nat.zero_le _⟩ (fun S17 H locs hq G => ?_)
    rw [hq] at G
    clear hq eS15
    refine lv_aload_n hx hb dX12_append_41 rfl (lv_at hl 0 rfl) ?_
    refine lv_iload hx hb dX12_append_42 (lv_at hl 5 rfl) ?_
    obtain ⟨S18, eS18, h⟩ := obind_some h
    refine m_callv (As := [.int a4]) (rest := []) E G hA hR hml (tr_four l D cI cJ cZ ad S15 a4 eS18) (cwV 1 hts (gmV qM_32 qM_33 qM_34 qM_35 qM_29) rfl rfl rfl (by decide +kernel) ⟨Nat.le_of_ble_eq_true rfl, Nat.le_of_ble_eq_true rfl⟩) rfl hl.1 rfl (lv_room (Nat.le_of_ble_eq_true rfl)) dX12_append_44 ⟨Nat.zero_le _, Nat.zero_le _⟩ (fun S20 H locs hq G => ?_)
    rw [hq] at G
    clear hq eS18
    refine lv_aload_n hx hb dX12_append_47 rfl (lv_at hl 0 rfl) ?_
    refine m_get E G 2 (v := .int (S18.1 2)) (by decide) (.tail _ qM_30) rfl dX12_append_48 rfl ?_
    refine lv_topi (fun v21 ev21 => ?_)
    have h := elet_at ev21 h
    clear ev21
    exact W.iret (v := v21) hx hb hr (fun t ht hW => ⟨⟨v21, S18, rfl, osome2 h, ⟨by rw [ht]; exact G.1, va_K.moved hW.alike hK, G.2.1⟩⟩, G.2.2.F ht⟩) G.2.2.2.2 dX12_append_51
  · have h := oif_neg c5 h
    refine lv_iconst (v := (-1)) hx hb dX12_append_18 (by decide) ?_
    exact W.iret (v := (-1)) hx hb hr (fun t ht hW => ⟨⟨(-1), S2, rfl, osome2 h, ⟨by rw [ht]; exact G.1, va_K.moved hW.alike hK, G.2.1⟩⟩, G.2.2.F ht⟩) G.2.2.2.2 dX12_append_19
def fr_buffered (S : MS)  : Option (Int32 × MS) := elet (mi S 0 0) fun S2 => elet (S2.1 2) fun v3 => some (v3, S2)
set_option maxHeartbeats 4000000 in
set_option maxRecDepth 100000 in
theorem tr_buffered (l : Launch) (D : va_G) (cI cJ cZ : ClassId) (ad : Nat → Nat) (S : MS)  {r1 : Int32} {S1 : MS} (h : fr_buffered S = some (r1, S1)) : mCi l yX12_buffered (Cond.code yX12_buffered cX12_buffered 1 (some .int) :: wsM) 1 0 D cI cJ cZ ad S [] (fun r S9 => r = r1 ∧ S9 = S1) := by
  intro sz
  refine Met.ofW (cc := cX12_buffered) (maxL := 1) (ret := (some .int)) (by decide) rfl ?_
  intro p e s m args below meth c s₁ B hml hv
  obtain ⟨rfl, hsz, hP, hK, hD0, hR⟩ := hv
  have hx := B.exec
  have hb := B.bytes
  have hr := B.returns
  have hts := atoms_spec (ws := (Cond.code yX12_buffered cX12_buffered 1 (some .int) :: wsM)) B.pre
  have hown : s.vm.findClass RX12 = some m.cls := findClass_of_methodNamed B.named
  have hlocks := B.notSynchronized
  subst hsz
  have hD := hD0.self (sz := s.heap.size)
  generalize hAe : va_A (MW cI cJ cZ ad S) s.heap.size = A at hD ⊢
  have hA : ∀ q : Nat, s.heap.size ≤ q → A q := fun q h => by rw [← hAe]; exact Or.inr h
  have G : mG D cI cJ cZ ad A s.heap s.heap [] S := ⟨hP, hD, va_S.rf⟩
  have E : mE p c cX12_buffered s m ([.ref (ad 0)] : List Value).toArray (Cond.code yX12_buffered cX12_buffered 1 (some .int) :: wsM) D cI cJ cZ := ⟨hx, hb, hts, hown, hK, fun w h => .tail _ (iM_x h)⟩
  have hl := lv_entry ([.ref (ad 0)]) (n := 1) (Nat.le_of_ble_eq_true rfl)
  rw [lg_entry_eq]
  generalize (lg_sl ([.ref (ad 0)]) ++ List.replicate (1 - (lg_sl ([.ref (ad 0)])).length) Slot.unset).toArray = ls at hl ⊢
  have hl : lv_has ls 1 [(0, .ref (ad 0))] := hl
  unfold fr_buffered at h
  refine lv_aload_n hx hb dX12_buffered_0 rfl (lv_at hl 0 rfl) ?_
  refine lv_iconst (v := 0) hx hb dX12_buffered_1 (by decide) ?_
  refine m_put E G 0 (by decide) (.tail _ qM_26) (mw_i0 _ _ _ _ _ 0) dX12_buffered_2 ⟨rfl, rfl, rfl⟩ rfl rfl (fun H locs G => ?_)
  obtain ⟨S2, eS2, h⟩ := elet_some h
  rw [← eS2] at G
  clear eS2
  refine lv_aload_n hx hb dX12_buffered_5 rfl (lv_at hl 0 rfl) ?_
  refine m_get E G 2 (v := .int (S2.1 2)) (by decide) (.tail _ qM_30) rfl dX12_buffered_6 rfl ?_
  refine lv_topi (fun v3 ev3 => ?_)
  have h := elet_at ev3 h
  clear ev3
  exact W.iret (v := v3) hx hb hr (fun t ht hW => ⟨⟨v3, S2, rfl, osome2 h, ⟨by rw [ht]; exact G.1, va_K.moved hW.alike hK, G.2.1⟩⟩, G.2.2.F ht⟩) G.2.2.2.2 dX12_buffered_9
def fr_parseError (S : MS)  : Option (Int32 × MS) := elet (mi S 0 0) fun S2 => elet (S2.1 5) fun v3 => some (v3, S2)
set_option maxHeartbeats 4000000 in
set_option maxRecDepth 100000 in
theorem tr_parseError (l : Launch) (D : va_G) (cI cJ cZ : ClassId) (ad : Nat → Nat) (S : MS)  {r1 : Int32} {S1 : MS} (h : fr_parseError S = some (r1, S1)) : mCi l yX12_parseError (Cond.code yX12_parseError cX12_parseError 1 (some .int) :: wsM) 1 0 D cI cJ cZ ad S [] (fun r S9 => r = r1 ∧ S9 = S1) := by
  intro sz
  refine Met.ofW (cc := cX12_parseError) (maxL := 1) (ret := (some .int)) (by decide) rfl ?_
  intro p e s m args below meth c s₁ B hml hv
  obtain ⟨rfl, hsz, hP, hK, hD0, hR⟩ := hv
  have hx := B.exec
  have hb := B.bytes
  have hr := B.returns
  have hts := atoms_spec (ws := (Cond.code yX12_parseError cX12_parseError 1 (some .int) :: wsM)) B.pre
  have hown : s.vm.findClass RX12 = some m.cls := findClass_of_methodNamed B.named
  have hlocks := B.notSynchronized
  subst hsz
  have hD := hD0.self (sz := s.heap.size)
  generalize hAe : va_A (MW cI cJ cZ ad S) s.heap.size = A at hD ⊢
  have hA : ∀ q : Nat, s.heap.size ≤ q → A q := fun q h => by rw [← hAe]; exact Or.inr h
  have G : mG D cI cJ cZ ad A s.heap s.heap [] S := ⟨hP, hD, va_S.rf⟩
  have E : mE p c cX12_parseError s m ([.ref (ad 0)] : List Value).toArray (Cond.code yX12_parseError cX12_parseError 1 (some .int) :: wsM) D cI cJ cZ := ⟨hx, hb, hts, hown, hK, fun w h => .tail _ (iM_x h)⟩
  have hl := lv_entry ([.ref (ad 0)]) (n := 1) (Nat.le_of_ble_eq_true rfl)
  rw [lg_entry_eq]
  generalize (lg_sl ([.ref (ad 0)]) ++ List.replicate (1 - (lg_sl ([.ref (ad 0)])).length) Slot.unset).toArray = ls at hl ⊢
  have hl : lv_has ls 1 [(0, .ref (ad 0))] := hl
  unfold fr_parseError at h
  refine lv_aload_n hx hb dX12_parseError_0 rfl (lv_at hl 0 rfl) ?_
  refine lv_iconst (v := 0) hx hb dX12_parseError_1 (by decide) ?_
  refine m_put E G 0 (by decide) (.tail _ qM_26) (mw_i0 _ _ _ _ _ 0) dX12_parseError_2 ⟨rfl, rfl, rfl⟩ rfl rfl (fun H locs G => ?_)
  obtain ⟨S2, eS2, h⟩ := elet_some h
  rw [← eS2] at G
  clear eS2
  refine lv_aload_n hx hb dX12_parseError_5 rfl (lv_at hl 0 rfl) ?_
  refine m_get E G 5 (v := .int (S2.1 5)) (by decide) (.tail _ qM_38) rfl dX12_parseError_6 rfl ?_
  refine lv_topi (fun v3 ev3 => ?_)
  have h := elet_at ev3 h
  clear ev3
  exact W.iret (v := v3) hx hb hr (fun t ht hW => ⟨⟨v3, S2, rfl, osome2 h, ⟨by rw [ht]; exact G.1, va_K.moved hW.alike hK, G.2.1⟩⟩, G.2.2.F ht⟩) G.2.2.2.2 dX12_parseError_9
def fr_errorPosition (S : MS)  : Option (Int32 × MS) := elet (mi S 0 0) fun S2 => elet (S2.1 6) fun v3 => some (v3, S2)
set_option maxHeartbeats 4000000 in
set_option maxRecDepth 100000 in
theorem tr_errorPosition (l : Launch) (D : va_G) (cI cJ cZ : ClassId) (ad : Nat → Nat) (S : MS)  {r1 : Int32} {S1 : MS} (h : fr_errorPosition S = some (r1, S1)) : mCi l yX12_errorPosition (Cond.code yX12_errorPosition cX12_errorPosition 1 (some .int) :: wsM) 1 0 D cI cJ cZ ad S [] (fun r S9 => r = r1 ∧ S9 = S1) := by
  intro sz
  refine Met.ofW (cc := cX12_errorPosition) (maxL := 1) (ret := (some .int)) (by decide) rfl ?_
  intro p e s m args below meth c s₁ B hml hv
  obtain ⟨rfl, hsz, hP, hK, hD0, hR⟩ := hv
  have hx := B.exec
  have hb := B.bytes
  have hr := B.returns
  have hts := atoms_spec (ws := (Cond.code yX12_errorPosition cX12_errorPosition 1 (some .int) :: wsM)) B.pre
  have hown : s.vm.findClass RX12 = some m.cls := findClass_of_methodNamed B.named
  have hlocks := B.notSynchronized
  subst hsz
  have hD := hD0.self (sz := s.heap.size)
  generalize hAe : va_A (MW cI cJ cZ ad S) s.heap.size = A at hD ⊢
  have hA : ∀ q : Nat, s.heap.size ≤ q → A q := fun q h => by rw [← hAe]; exact Or.inr h
  have G : mG D cI cJ cZ ad A s.heap s.heap [] S := ⟨hP, hD, va_S.rf⟩
  have E : mE p c cX12_errorPosition s m ([.ref (ad 0)] : List Value).toArray (Cond.code yX12_errorPosition cX12_errorPosition 1 (some .int) :: wsM) D cI cJ cZ := ⟨hx, hb, hts, hown, hK, fun w h => .tail _ (iM_x h)⟩
  have hl := lv_entry ([.ref (ad 0)]) (n := 1) (Nat.le_of_ble_eq_true rfl)
  rw [lg_entry_eq]
  generalize (lg_sl ([.ref (ad 0)]) ++ List.replicate (1 - (lg_sl ([.ref (ad 0)])).length) Slot.unset).toArray = ls at hl ⊢
  have hl : lv_has ls 1 [(0, .ref (ad 0))] := hl
  unfold fr_errorPosition at h
  refine lv_aload_n hx hb dX12_errorPosition_0 rfl (lv_at hl 0 rfl) ?_
  refine lv_iconst (v := 0) hx hb dX12_errorPosition_1 (by decide) ?_
  refine m_put E G 0 (by decide) (.tail _ qM_26) (mw_i0 _ _ _ _ _ 0) dX12_errorPosition_2 ⟨rfl, rfl, rfl⟩ rfl rfl (fun H locs G => ?_)
  obtain ⟨S2, eS2, h⟩ := elet_some h
  rw [← eS2] at G
  clear eS2
  refine lv_aload_n hx hb dX12_errorPosition_5 rfl (lv_at hl 0 rfl) ?_
  refine m_get E G 6 (v := .int (S2.1 6)) (by decide) (.tail _ qM_6) rfl dX12_errorPosition_6 rfl ?_
  refine lv_topi (fun v3 ev3 => ?_)
  have h := elet_at ev3 h
  clear ev3
  exact W.iret (v := v3) hx hb hr (fun t ht hW => ⟨⟨v3, S2, rfl, osome2 h, ⟨by rw [ht]; exact G.1, va_K.moved hW.alike hK, G.2.1⟩⟩, G.2.2.F ht⟩) G.2.2.2.2 dX12_errorPosition_9
def fr_byteAt_b18  (S : MS) (s0 : Int32) : Option (Int32 × MS) := some (s0, S)
set_option maxHeartbeats 4000000 in
set_option maxRecDepth 100000 in
theorem tr_byteAt_b18 {p : Program} {l : Launch} {e : Env} {s : State} {m : MethodId} {args : Array Value} {below : List Frame} {meth : Method} {c : Code} {Q : State → Prop} {D : va_G} {A : Nat → Prop} {H0 : Heap} {cI cJ cZ : ClassId} {ad : Nat → Nat} {r1 : Int32} {S1 : MS} (E : mE p c cX12_byteAt s m args (Cond.code yX12_byteAt cX12_byteAt 2 (some .int) :: wsM) D cI cJ cZ) (hA : ∀ q : Nat, H0.size ≤ q → A q) (hR : sR s) (hml : c.maxLocals = 2) (kr18 : ∀ (H : Heap) (locs : List Loc) (ls : Array Slot), mG D cI cJ cZ ad A H0 H locs S1 → W p l e { frames := 1, cells := 0, slots := 0, locals := 0 } s m args below meth c H locs 0 0 Q (F0 m 18 ls [.int r1])) : ∀ (S : MS) (H : Heap) (locs : List Loc) (ls : Array Slot) (s0 : Int32), fr_byteAt_b18 S s0 = some (r1, S1) → mG D cI cJ cZ ad A H0 H locs S → lv_has ls 2 [] → W p l e { frames := 1, cells := 0, slots := 0, locals := 0 } s m args below meth c H locs 0 0 Q (F0 m 18 ls [.int s0]) := by
  have hx := E.1
  have hb := E.2.1
  have hts := E.2.2.1
  have hown := E.2.2.2.1
  have hK := E.2.2.2.2.1
  intro S H locs ls s0 h G hl
  unfold fr_byteAt_b18 at h
  rw [(osome2 h).2] at G
  refine lv_to (osome2 h).1 ?_
  exact kr18 _ _ _ G
def fr_byteAt (S : MS) (a0 : Int32) : Option (Int32 × MS) := elet (S.1 3) fun v2 => if v2 ≤ a0 then (fr_byteAt_b18 S (-1)) else (oif (inb a0 1000 = true) <| elet (S.2.1 1 a0.toNatClampNeg) fun v5 => fr_byteAt_b18 S v5)
set_option maxHeartbeats 4000000 in
set_option maxRecDepth 100000 in
theorem tr_byteAt (l : Launch) (D : va_G) (cI cJ cZ : ClassId) (ad : Nat → Nat) (S : MS) (a0 : Int32) {r1 : Int32} {S1 : MS} (h : fr_byteAt S a0 = some (r1, S1)) : mCi l yX12_byteAt (Cond.code yX12_byteAt cX12_byteAt 2 (some .int) :: wsM) 1 0 D cI cJ cZ ad S [.int a0] (fun r S9 => r = r1 ∧ S9 = S1) := by
  intro sz
  refine Met.ofW (cc := cX12_byteAt) (maxL := 2) (ret := (some .int)) (by decide) rfl ?_
  intro p e s m args below meth c s₁ B hml hv
  obtain ⟨rfl, hsz, hP, hK, hD0, hR⟩ := hv
  have hx := B.exec
  have hb := B.bytes
  have hr := B.returns
  have hts := atoms_spec (ws := (Cond.code yX12_byteAt cX12_byteAt 2 (some .int) :: wsM)) B.pre
  have hown : s.vm.findClass RX12 = some m.cls := findClass_of_methodNamed B.named
  have hlocks := B.notSynchronized
  subst hsz
  have hD := hD0.self (sz := s.heap.size)
  generalize hAe : va_A (MW cI cJ cZ ad S) s.heap.size = A at hD ⊢
  have hA : ∀ q : Nat, s.heap.size ≤ q → A q := fun q h => by rw [← hAe]; exact Or.inr h
  have G : mG D cI cJ cZ ad A s.heap s.heap [] S := ⟨hP, hD, va_S.rf⟩
  have E : mE p c cX12_byteAt s m ([.ref (ad 0), .int a0] : List Value).toArray (Cond.code yX12_byteAt cX12_byteAt 2 (some .int) :: wsM) D cI cJ cZ := ⟨hx, hb, hts, hown, hK, fun w h => .tail _ (iM_x h)⟩
  have hl := lv_entry ([.ref (ad 0), .int a0]) (n := 2) (Nat.le_of_ble_eq_true rfl)
  rw [lg_entry_eq]
  generalize (lg_sl ([.ref (ad 0), .int a0]) ++ List.replicate (2 - (lg_sl ([.ref (ad 0), .int a0])).length) Slot.unset).toArray = ls at hl ⊢
  have hl : lv_has ls 2 [(0, .ref (ad 0)), (1, .int a0)] := hl
  unfold fr_byteAt at h
  refine lv_iload_n hx hb dX12_byteAt_0 rfl (lv_at hl 1 rfl) ?_
  refine lv_aload_n hx hb dX12_byteAt_1 rfl (lv_at hl 0 rfl) ?_
  refine m_get E G 3 (v := .int (S.1 3)) (by decide) (.tail _ qM_41) rfl dX12_byteAt_2 rfl ?_
  refine lv_topi (fun v2 ev2 => ?_)
  have h := elet_at ev2 h
  clear ev2
  refine lv_icmp_ge (tgt := 17) hx hb dX12_byteAt_5 (by decide) (fun c3 => ?_) (fun c3 => ?_)
  · have h := oif_pos c3 h
    refine lv_iconst (v := (-1)) hx hb dX12_byteAt_17 (by decide) ?_
    have hl := lv_sub hl [] rfl
    exact tr_byteAt_b18 E hA hR hml (fun H locs ls G => W.iret (v := r1) hx hb hr (fun t ht hW => ⟨⟨r1, S1, rfl, ⟨rfl, rfl⟩, ⟨by rw [ht]; exact G.1, va_K.moved hW.alike hK, G.2.1⟩⟩, G.2.2.F ht⟩) G.2.2.2.2 dX12_byteAt_18) _ _ _ _ _ h G hl
  · have h := oif_neg c3 h
    refine lv_aload_n hx hb dX12_byteAt_8 rfl (lv_at hl 0 rfl) ?_
    refine m_get E G 1 (v := .ref (ad 1)) (by decide) (.tail _ qM_5) rfl dX12_byteAt_9 rfl ?_
    refine lv_iload_n hx hb dX12_byteAt_12 rfl (lv_at hl 1 rfl) ?_
    obtain ⟨g4, h⟩ := oif_some h
    refine m_iald E G 1 1 (n := 1000) (k := a0.toNatClampNeg) rfl (inb_k g4).1 (inb_k g4).2 (by decide) dX12_byteAt_13 ?_
    refine lv_topi (fun v5 ev5 => ?_)
    have h := elet_at ev5 h
    clear ev5
    refine lv_goto (tgt := 18) hx hb dX12_byteAt_14 (by decide) ?_
    have hl := lv_sub hl [] rfl
    exact tr_byteAt_b18 E hA hR hml (fun H locs ls G => W.iret (v := r1) hx hb hr (fun t ht hW => ⟨⟨r1, S1, rfl, ⟨rfl, rfl⟩, ⟨by rw [ht]; exact G.1, va_K.moved hW.alike hK, G.2.1⟩⟩, G.2.2.F ht⟩) G.2.2.2.2 dX12_byteAt_18) _ _ _ _ _ h G hl
def fr_faults (S : MS) (a0 : Int32) : Option (MS) := elet (S.1 5) fun v2 => if v2 ≤ 0 then (elet (mi S 5 a0) fun S4 => elet (S4.1 8) fun v5 => elet (mi S4 6 v5) fun S6 => some S6) else (some S)
set_option maxHeartbeats 4000000 in
set_option maxRecDepth 100000 in
theorem tr_faults (l : Launch) (D : va_G) (cI cJ cZ : ClassId) (ad : Nat → Nat) (S : MS) (a0 : Int32) {S1 : MS} (h : fr_faults S a0 = some S1) : mCv l yX12_faults (Cond.code yX12_faults cX12_faults 2 none :: wsM) 1 0 D cI cJ cZ ad S [.int a0] (fun S9 => S9 = S1) := by
  intro sz
  refine Met.ofW (cc := cX12_faults) (maxL := 2) (ret := none) (by decide) rfl ?_
  intro p e s m args below meth c s₁ B hml hv
  obtain ⟨rfl, hsz, hP, hK, hD0, hR⟩ := hv
  have hx := B.exec
  have hb := B.bytes
  have hr := B.returns
  have hts := atoms_spec (ws := (Cond.code yX12_faults cX12_faults 2 none :: wsM)) B.pre
  have hown : s.vm.findClass RX12 = some m.cls := findClass_of_methodNamed B.named
  have hlocks := B.notSynchronized
  subst hsz
  have hD := hD0.self (sz := s.heap.size)
  generalize hAe : va_A (MW cI cJ cZ ad S) s.heap.size = A at hD ⊢
  have hA : ∀ q : Nat, s.heap.size ≤ q → A q := fun q h => by rw [← hAe]; exact Or.inr h
  have G : mG D cI cJ cZ ad A s.heap s.heap [] S := ⟨hP, hD, va_S.rf⟩
  have E : mE p c cX12_faults s m ([.ref (ad 0), .int a0] : List Value).toArray (Cond.code yX12_faults cX12_faults 2 none :: wsM) D cI cJ cZ := ⟨hx, hb, hts, hown, hK, fun w h => .tail _ (iM_x h)⟩
  have hl := lv_entry ([.ref (ad 0), .int a0]) (n := 2) (Nat.le_of_ble_eq_true rfl)
  rw [lg_entry_eq]
  generalize (lg_sl ([.ref (ad 0), .int a0]) ++ List.replicate (2 - (lg_sl ([.ref (ad 0), .int a0])).length) Slot.unset).toArray = ls at hl ⊢
  have hl : lv_has ls 2 [(0, .ref (ad 0)), (1, .int a0)] := hl
  unfold fr_faults at h
  refine lv_aload_n hx hb dX12_faults_0 rfl (lv_at hl 0 rfl) ?_
  refine m_get E G 5 (v := .int (S.1 5)) (by decide) (.tail _ qM_38) rfl dX12_faults_1 rfl ?_
  refine lv_topi (fun v2 ev2 => ?_)
  have h := elet_at ev2 h
  clear ev2
  refine lv_if_le (tgt := 8) hx hb dX12_faults_4 (by decide) (fun c3 => ?_) (fun c3 => ?_)
  · have h := oif_pos c3 h
    refine lv_aload_n hx hb dX12_faults_8 rfl (lv_at hl 0 rfl) ?_
    refine lv_iload_n hx hb dX12_faults_9 rfl (lv_at hl 1 rfl) ?_
    refine m_put E G 5 (by decide) (.tail _ qM_38) (mw_i5 _ _ _ _ _ a0) dX12_faults_10 ⟨rfl, rfl, rfl⟩ rfl rfl (fun H locs G => ?_)
    obtain ⟨S4, eS4, h⟩ := elet_some h
    rw [← eS4] at G
    clear eS4
    refine lv_aload_n hx hb dX12_faults_13 rfl (lv_at hl 0 rfl) ?_
    refine lv_aload_n hx hb dX12_faults_14 rfl (lv_at hl 0 rfl) ?_
    refine m_get E G 8 (v := .int (S4.1 8)) (by decide) (.tail _ qM_43) rfl dX12_faults_15 rfl ?_
    refine lv_topi (fun v5 ev5 => ?_)
    have h := elet_at ev5 h
    clear ev5
    refine m_put E G 6 (by decide) (.tail _ qM_6) (mw_i6 _ _ _ _ _ v5) dX12_faults_18 ⟨rfl, rfl, rfl⟩ rfl rfl (fun H locs G => ?_)
    obtain ⟨S6, eS6, h⟩ := elet_some h
    rw [← eS6] at G
    clear eS6
    exact W.vret hx hb hr (fun t ht hW => ⟨⟨S6, rfl, osome1 h, ⟨by rw [ht]; exact G.1, va_K.moved hW.alike hK, G.2.1⟩⟩, G.2.2.F ht⟩) G.2.2.2.2 dX12_faults_21
  · have h := oif_neg c3 h
    exact W.vret hx hb hr (fun t ht hW => ⟨⟨S, rfl, osome1 h, ⟨by rw [ht]; exact G.1, va_K.moved hW.alike hK, G.2.1⟩⟩, G.2.2.F ht⟩) G.2.2.2.2 dX12_faults_7
def fr_isSign_b47   (s0 : Int32) : Option (Int32) := oif (s0 = 0 ∨ s0 = 1) <| some s0
set_option maxHeartbeats 4000000 in
set_option maxRecDepth 100000 in
theorem tr_isSign_b47 {p : Program} {l : Launch} {e : Env} {s : State} {m : MethodId} {args : Array Value} {below : List Frame} {meth : Method} {c : Code} {Q : State → Prop} {r1 : Int32} (E : p.tables.exec = Jvm.exec ∧ c.code = cX12_isSign ∧ (∀ w ∈ (Cond.code yX12_isSign cX12_isSign 1 (some .boolean) :: wsM), w.before args s = true) ∧ s.vm.findClass RX12 = some m.cls) (hml : c.maxLocals = 1) (kr47 : ∀ (ls : Array Slot), (r1 = 0 ∨ r1 = 1) → W p l e { frames := 1, cells := 0, slots := 0, locals := 0 } s m args below meth c s.heap [] 0 0 Q (F0 m 47 ls [.int r1])) : ∀ (ls : Array Slot) (s0 : Int32), fr_isSign_b47 s0 = some r1 → lv_has ls 1 [] → W p l e { frames := 1, cells := 0, slots := 0, locals := 0 } s m args below meth c s.heap [] 0 0 Q (F0 m 47 ls [.int s0]) := by
  have hx := E.1
  have hb := E.2.1
  have hts := E.2.2.1
  have hown := E.2.2.2
  intro ls s0 h hl
  unfold fr_isSign_b47 at h
  obtain ⟨gz, h⟩ := oif_some h
  have gr : r1 = 0 ∨ r1 = 1 := by rw [← osome1 h]; exact gz
  refine lv_to (osome1 h) ?_
  exact kr47 _ gr
def fr_isSign_b42    : Option (Int32) := fr_isSign_b47 1
set_option maxHeartbeats 4000000 in
set_option maxRecDepth 100000 in
theorem tr_isSign_b42 {p : Program} {l : Launch} {e : Env} {s : State} {m : MethodId} {args : Array Value} {below : List Frame} {meth : Method} {c : Code} {Q : State → Prop} {r1 : Int32} (E : p.tables.exec = Jvm.exec ∧ c.code = cX12_isSign ∧ (∀ w ∈ (Cond.code yX12_isSign cX12_isSign 1 (some .boolean) :: wsM), w.before args s = true) ∧ s.vm.findClass RX12 = some m.cls) (hml : c.maxLocals = 1) (kr47 : ∀ (ls : Array Slot), (r1 = 0 ∨ r1 = 1) → W p l e { frames := 1, cells := 0, slots := 0, locals := 0 } s m args below meth c s.heap [] 0 0 Q (F0 m 47 ls [.int r1])) : ∀ (ls : Array Slot), fr_isSign_b42 = some r1 → lv_has ls 1 [] → W p l e { frames := 1, cells := 0, slots := 0, locals := 0 } s m args below meth c s.heap [] 0 0 Q (F0 m 42 ls []) := by
  have hx := E.1
  have hb := E.2.1
  have hts := E.2.2.1
  have hown := E.2.2.2
  intro ls h hl
  unfold fr_isSign_b42 at h
  refine lv_iconst (v := 1) hx hb dX12_isSign_42 (by decide) ?_
  refine lv_goto (tgt := 47) hx hb dX12_isSign_43 (by decide) ?_
  have hl := lv_sub hl [] rfl
  exact tr_isSign_b47 E hml kr47 _ _ h hl
def fr_isSign  (a0 : Int32) : Option (Int32) := if a0 = 59 then (fr_isSign_b42) else (if a0 = 40 then (fr_isSign_b42) else (if a0 = 41 then (fr_isSign_b42) else (if a0 = 43 then (fr_isSign_b42) else (if a0 = 45 then (fr_isSign_b42) else (if a0 = 42 then (fr_isSign_b42) else (if a0 = 47 then (fr_isSign_b42) else (fr_isSign_b47 0)))))))
set_option maxHeartbeats 4000000 in
set_option maxRecDepth 100000 in
theorem tr_isSign (l : Launch) (a0 : Int32) {r1 : Int32} (h : fr_isSign a0 = some r1) : Met l yX12_isSign (Cond.code yX12_isSign cX12_isSign 1 (some .boolean) :: wsM) { frames := 1, cells := 0, slots := 0, locals := 0 } (va_Pc [.int a0] (fun _ => True)) (vp_Si (fun r => r = r1)) 0 0 (fun _ => False) := by
  refine Met.ofW (cc := cX12_isSign) (maxL := 1) (ret := (some .boolean)) (by decide) rfl ?_
  intro p e s m args below meth c s₁ B hml hv
  obtain ⟨rfl, -⟩ := hv
  have hx := B.exec
  have hb := B.bytes
  have hr := B.returns
  have hts := atoms_spec (ws := (Cond.code yX12_isSign cX12_isSign 1 (some .boolean) :: wsM)) B.pre
  have hown : s.vm.findClass RX12 = some m.cls := findClass_of_methodNamed B.named
  have hlocks := B.notSynchronized
  have E : p.tables.exec = Jvm.exec ∧ c.code = cX12_isSign ∧ (∀ w ∈ (Cond.code yX12_isSign cX12_isSign 1 (some .boolean) :: wsM), w.before ([.int a0] : List Value).toArray s = true) ∧ s.vm.findClass RX12 = some m.cls := ⟨hx, hb, hts, hown⟩
  have hl := lv_entry ([.int a0]) (n := 1) (Nat.le_of_ble_eq_true rfl)
  rw [lg_entry_eq]
  generalize (lg_sl ([.int a0]) ++ List.replicate (1 - (lg_sl ([.int a0])).length) Slot.unset).toArray = ls at hl ⊢
  have hl : lv_has ls 1 [(0, .int a0)] := hl
  unfold fr_isSign at h
  refine lv_iload_n hx hb dX12_isSign_0 rfl (lv_at hl 0 rfl) ?_
  refine lv_bipush (v := 59) hx hb dX12_isSign_1 (by decide) ?_
  refine lv_icmp_eq (tgt := 42) hx hb dX12_isSign_3 (by decide) (fun c2 => ?_) (fun c2 => ?_)
  · have h := oif_pos c2 h
    have hl := lv_sub hl [] rfl
    exact tr_isSign_b42 E hml (fun ls gz => W.zret (v := r1) hx hb hr (nar01 gz) (fun t ht hW => ⟨r1, rfl, rfl, ht⟩) (fun _ h => absurd h List.not_mem_nil) dX12_isSign_47) _ h hl
  · have h := oif_neg c2 h
    refine lv_iload_n hx hb dX12_isSign_6 rfl (lv_at hl 0 rfl) ?_
    refine lv_bipush (v := 40) hx hb dX12_isSign_7 (by decide) ?_
    refine lv_icmp_eq (tgt := 42) hx hb dX12_isSign_9 (by decide) (fun c3 => ?_) (fun c3 => ?_)
    · have h := oif_pos c3 h
      have hl := lv_sub hl [] rfl
      exact tr_isSign_b42 E hml (fun ls gz => W.zret (v := r1) hx hb hr (nar01 gz) (fun t ht hW => ⟨r1, rfl, rfl, ht⟩) (fun _ h => absurd h List.not_mem_nil) dX12_isSign_47) _ h hl
    · have h := oif_neg c3 h
      refine lv_iload_n hx hb dX12_isSign_12 rfl (lv_at hl 0 rfl) ?_
      refine lv_bipush (v := 41) hx hb dX12_isSign_13 (by decide) ?_
      refine lv_icmp_eq (tgt := 42) hx hb dX12_isSign_15 (by decide) (fun c4 => ?_) (fun c4 => ?_)
      · have h := oif_pos c4 h
        have hl := lv_sub hl [] rfl
        exact tr_isSign_b42 E hml (fun ls gz => W.zret (v := r1) hx hb hr (nar01 gz) (fun t ht hW => ⟨r1, rfl, rfl, ht⟩) (fun _ h => absurd h List.not_mem_nil) dX12_isSign_47) _ h hl
      · have h := oif_neg c4 h
        refine lv_iload_n hx hb dX12_isSign_18 rfl (lv_at hl 0 rfl) ?_
        refine lv_bipush (v := 43) hx hb dX12_isSign_19 (by decide) ?_
        refine lv_icmp_eq (tgt := 42) hx hb dX12_isSign_21 (by decide) (fun c5 => ?_) (fun c5 => ?_)
        · have h := oif_pos c5 h
          have hl := lv_sub hl [] rfl
          exact tr_isSign_b42 E hml (fun ls gz => W.zret (v := r1) hx hb hr (nar01 gz) (fun t ht hW => ⟨r1, rfl, rfl, ht⟩) (fun _ h => absurd h List.not_mem_nil) dX12_isSign_47) _ h hl
        · have h := oif_neg c5 h
          refine lv_iload_n hx hb dX12_isSign_24 rfl (lv_at hl 0 rfl) ?_
          refine lv_bipush (v := 45) hx hb dX12_isSign_25 (by decide) ?_
          refine lv_icmp_eq (tgt := 42) hx hb dX12_isSign_27 (by decide) (fun c6 => ?_) (fun c6 => ?_)
          · have h := oif_pos c6 h
            have hl := lv_sub hl [] rfl
            exact tr_isSign_b42 E hml (fun ls gz => W.zret (v := r1) hx hb hr (nar01 gz) (fun t ht hW => ⟨r1, rfl, rfl, ht⟩) (fun _ h => absurd h List.not_mem_nil) dX12_isSign_47) _ h hl
          · have h := oif_neg c6 h
            refine lv_iload_n hx hb dX12_isSign_30 rfl (lv_at hl 0 rfl) ?_
            refine lv_bipush (v := 42) hx hb dX12_isSign_31 (by decide) ?_
            refine lv_icmp_eq (tgt := 42) hx hb dX12_isSign_33 (by decide) (fun c7 => ?_) (fun c7 => ?_)
            · have h := oif_pos c7 h
              have hl := lv_sub hl [] rfl
              exact tr_isSign_b42 E hml (fun ls gz => W.zret (v := r1) hx hb hr (nar01 gz) (fun t ht hW => ⟨r1, rfl, rfl, ht⟩) (fun _ h => absurd h List.not_mem_nil) dX12_isSign_47) _ h hl
            · have h := oif_neg c7 h
              refine lv_iload_n hx hb dX12_isSign_36 rfl (lv_at hl 0 rfl) ?_
              refine lv_bipush (v := 47) hx hb dX12_isSign_37 (by decide) ?_
              refine lv_icmp_ne (tgt := 46) hx hb dX12_isSign_39 (by decide) (fun c8 => ?_) (fun c8 => ?_)
              · have h := oif_neg c8 h
                refine lv_iconst (v := 0) hx hb dX12_isSign_46 (by decide) ?_
                have hl := lv_sub hl [] rfl
                exact tr_isSign_b47 E hml (fun ls gz => W.zret (v := r1) hx hb hr (nar01 gz) (fun t ht hW => ⟨r1, rfl, rfl, ht⟩) (fun _ h => absurd h List.not_mem_nil) dX12_isSign_47) _ _ h hl
              · have h := oif_pos c8 h
                have hl := lv_sub hl [] rfl
                exact tr_isSign_b42 E hml (fun ls gz => W.zret (v := r1) hx hb hr (nar01 gz) (fun t ht hW => ⟨r1, rfl, rfl, ht⟩) (fun _ h => absurd h List.not_mem_nil) dX12_isSign_47) _ h hl
def fr_nextToken_b292  (S : MS)  : Option (MS) := some S
set_option maxHeartbeats 4000000 in
set_option maxRecDepth 100000 in
theorem tr_nextToken_b292 {p : Program} {l : Launch} {e : Env} {s : State} {m : MethodId} {args : Array Value} {below : List Frame} {meth : Method} {c : Code} {Q : State → Prop} {D : va_G} {A : Nat → Prop} {H0 : Heap} {cI cJ cZ : ClassId} {ad : Nat → Nat} {S1 : MS} (E : mE p c cX12_nextToken s m args (Cond.code yX12_nextToken cX12_nextToken 1 none :: wsM) D cI cJ cZ) (hA : ∀ q : Nat, H0.size ≤ q → A q) (hR : sR s) (hml : c.maxLocals = 1) (kr7 : ∀ (H : Heap) (locs : List Loc) (ls : Array Slot), mG D cI cJ cZ ad A H0 H locs S1 → W p l e { frames := 2, cells := 0, slots := 0, locals := 22 } s m args below meth c H locs 0 0 Q (F0 m 7 ls [])) (kr292 : ∀ (H : Heap) (locs : List Loc) (ls : Array Slot), mG D cI cJ cZ ad A H0 H locs S1 → W p l e { frames := 2, cells := 0, slots := 0, locals := 22 } s m args below meth c H locs 0 0 Q (F0 m 292 ls [])) : ∀ (S : MS) (H : Heap) (locs : List Loc) (ls : Array Slot), fr_nextToken_b292 S = some S1 → mG D cI cJ cZ ad A H0 H locs S → lv_has ls 1 [] → W p l e { frames := 2, cells := 0, slots := 0, locals := 22 } s m args below meth c H locs 0 0 Q (F0 m 292 ls []) := by
  have hx := E.1
  have hb := E.2.1
  have hts := E.2.2.1
  have hown := E.2.2.2.1
  have hK := E.2.2.2.2.1
  intro S H locs ls h G hl
  unfold fr_nextToken_b292 at h
  rw [osome1 h] at G
  exact kr292 _ _ _ G
def fr_nextToken_b279  (S : MS) (s0 : Int32) : Option (MS) := elet (mi S 7 s0) fun S2 => elet (S2.1 4) fun v3 => elet (v3 + 1) fun v4 => elet (mi S2 4 v4) fun S5 => fr_nextToken_b292 S5
set_option maxHeartbeats 4000000 in
set_option maxRecDepth 100000 in
theorem tr_nextToken_b279 {p : Program} {l : Launch} {e : Env} {s : State} {m : MethodId} {args : Array Value} {below : List Frame} {meth : Method} {c : Code} {Q : State → Prop} {D : va_G} {A : Nat → Prop} {H0 : Heap} {cI cJ cZ : ClassId} {ad : Nat → Nat} {S1 : MS} (E : mE p c cX12_nextToken s m args (Cond.code yX12_nextToken cX12_nextToken 1 none :: wsM) D cI cJ cZ) (hA : ∀ q : Nat, H0.size ≤ q → A q) (hR : sR s) (hml : c.maxLocals = 1) (kr7 : ∀ (H : Heap) (locs : List Loc) (ls : Array Slot), mG D cI cJ cZ ad A H0 H locs S1 → W p l e { frames := 2, cells := 0, slots := 0, locals := 22 } s m args below meth c H locs 0 0 Q (F0 m 7 ls [])) (kr292 : ∀ (H : Heap) (locs : List Loc) (ls : Array Slot), mG D cI cJ cZ ad A H0 H locs S1 → W p l e { frames := 2, cells := 0, slots := 0, locals := 22 } s m args below meth c H locs 0 0 Q (F0 m 292 ls [])) : ∀ (S : MS) (H : Heap) (locs : List Loc) (ls : Array Slot) (s0 : Int32), fr_nextToken_b279 S s0 = some S1 → mG D cI cJ cZ ad A H0 H locs S → lv_has ls 1 [(0, .ref (ad 0))] → W p l e { frames := 2, cells := 0, slots := 0, locals := 22 } s m args below meth c H locs 0 0 Q (F0 m 279 ls [.int s0, .ref (ad 0)]) := by
  have hx := E.1
  have hb := E.2.1
  have hts := E.2.2.1
  have hown := E.2.2.2.1
  have hK := E.2.2.2.2.1
  intro S H locs ls s0 h G hl
  unfold fr_nextToken_b279 at h
  refine m_put E G 7 (by decide) (.tail _ qM_47) (mw_i7 _ _ _ _ _ s0) dX12_nextToken_279 ⟨rfl, rfl, rfl⟩ rfl rfl (fun H locs G => ?_)
  obtain ⟨S2, eS2, h⟩ := elet_some h
  rw [← eS2] at G
  clear eS2
  refine lv_aload_n hx hb dX12_nextToken_282 rfl (lv_at hl 0 rfl) ?_
  refine lv_dup hx hb dX12_nextToken_283 rfl ?_
  refine m_get E G 4 (v := .int (S2.1 4)) (by decide) (.tail _ qM_46) rfl dX12_nextToken_284 rfl ?_
  refine lv_topi (fun v3 ev3 => ?_)
  have h := elet_at ev3 h
  clear ev3
  refine lv_iconst (v := 1) hx hb dX12_nextToken_287 (by decide) ?_
  refine lv_iadd hx hb dX12_nextToken_288 ?_
  refine lv_topi (fun v4 ev4 => ?_)
  have h := elet_at ev4 h
  clear ev4
  refine m_put E G 4 (by decide) (.tail _ qM_46) (mw_i4 _ _ _ _ _ v4) dX12_nextToken_289 ⟨rfl, rfl, rfl⟩ rfl rfl (fun H locs G => ?_)
  obtain ⟨S5, eS5, h⟩ := elet_some h
  rw [← eS5] at G
  clear eS5
  have hl := lv_sub hl [] rfl
  exact tr_nextToken_b292 E hA hR hml kr7 kr292 _ _ _ _ h G hl
def fr_nextToken_b245  (S : MS) (s0 : Int32) : Option (MS) := elet (mi S 7 s0) fun S2 => fr_nextToken_b292 S2
set_option maxHeartbeats 4000000 in
set_option maxRecDepth 100000 in
theorem tr_nextToken_b245 {p : Program} {l : Launch} {e : Env} {s : State} {m : MethodId} {args : Array Value} {below : List Frame} {meth : Method} {c : Code} {Q : State → Prop} {D : va_G} {A : Nat → Prop} {H0 : Heap} {cI cJ cZ : ClassId} {ad : Nat → Nat} {S1 : MS} (E : mE p c cX12_nextToken s m args (Cond.code yX12_nextToken cX12_nextToken 1 none :: wsM) D cI cJ cZ) (hA : ∀ q : Nat, H0.size ≤ q → A q) (hR : sR s) (hml : c.maxLocals = 1) (kr7 : ∀ (H : Heap) (locs : List Loc) (ls : Array Slot), mG D cI cJ cZ ad A H0 H locs S1 → W p l e { frames := 2, cells := 0, slots := 0, locals := 22 } s m args below meth c H locs 0 0 Q (F0 m 7 ls [])) (kr292 : ∀ (H : Heap) (locs : List Loc) (ls : Array Slot), mG D cI cJ cZ ad A H0 H locs S1 → W p l e { frames := 2, cells := 0, slots := 0, locals := 22 } s m args below meth c H locs 0 0 Q (F0 m 292 ls [])) : ∀ (S : MS) (H : Heap) (locs : List Loc) (ls : Array Slot) (s0 : Int32), fr_nextToken_b245 S s0 = some S1 → mG D cI cJ cZ ad A H0 H locs S → lv_has ls 1 [] → W p l e { frames := 2, cells := 0, slots := 0, locals := 22 } s m args below meth c H locs 0 0 Q (F0 m 245 ls [.int s0, .ref (ad 0)]) := by
  have hx := E.1
  have hb := E.2.1
  have hts := E.2.2.1
  have hown := E.2.2.2.1
  have hK := E.2.2.2.2.1
  intro S H locs ls s0 h G hl
  unfold fr_nextToken_b245 at h
  refine m_put E G 7 (by decide) (.tail _ qM_47) (mw_i7 _ _ _ _ _ s0) dX12_nextToken_245 ⟨rfl, rfl, rfl⟩ rfl rfl (fun H locs G => ?_)
  obtain ⟨S2, eS2, h⟩ := elet_some h
  rw [← eS2] at G
  clear eS2
  refine lv_goto (tgt := 292) hx hb dX12_nextToken_248 (by decide) ?_
  have hl := lv_sub hl [] rfl
  exact tr_nextToken_b292 E hA hR hml kr7 kr292 _ _ _ _ h G hl
def fr_nextToken_b213 (k159 : MS → Option (MS)) (S : MS)  : Option (MS) := elet (S.1 4) fun v2 => elet (v2 + 1) fun v3 => elet (mi S 4 v3) fun S4 => k159 S4
set_option maxHeartbeats 4000000 in
set_option maxRecDepth 100000 in
theorem tr_nextToken_b213 {p : Program} {l : Launch} {e : Env} {s : State} {m : MethodId} {args : Array Value} {below : List Frame} {meth : Method} {c : Code} {Q : State → Prop} {D : va_G} {A : Nat → Prop} {H0 : Heap} {cI cJ cZ : ClassId} {ad : Nat → Nat} {S1 : MS} (E : mE p c cX12_nextToken s m args (Cond.code yX12_nextToken cX12_nextToken 1 none :: wsM) D cI cJ cZ) (hA : ∀ q : Nat, H0.size ≤ q → A q) (hR : sR s) (hml : c.maxLocals = 1) (kr7 : ∀ (H : Heap) (locs : List Loc) (ls : Array Slot), mG D cI cJ cZ ad A H0 H locs S1 → W p l e { frames := 2, cells := 0, slots := 0, locals := 22 } s m args below meth c H locs 0 0 Q (F0 m 7 ls [])) (kr292 : ∀ (H : Heap) (locs : List Loc) (ls : Array Slot), mG D cI cJ cZ ad A H0 H locs S1 → W p l e { frames := 2, cells := 0, slots := 0, locals := 22 } s m args below meth c H locs 0 0 Q (F0 m 292 ls [])) {k159 : MS → Option (MS)} (hk159 : ∀ (S : MS) (H : Heap) (locs : List Loc) (ls : Array Slot), k159 S = some S1 → mG D cI cJ cZ ad A H0 H locs S → lv_has ls 1 [(0, .ref (ad 0))] → W p l e { frames := 2, cells := 0, slots := 0, locals := 22 } s m args below meth c H locs 0 0 Q (F0 m 159 ls [])) : ∀ (S : MS) (H : Heap) (locs : List Loc) (ls : Array Slot), fr_nextToken_b213 k159 S = some S1 → mG D cI cJ cZ ad A H0 H locs S → lv_has ls 1 [(0, .ref (ad 0))] → W p l e { frames := 2, cells := 0, slots := 0, locals := 22 } s m args below meth c H locs 0 0 Q (F0 m 213 ls []) := by
  have hx := E.1
  have hb := E.2.1
  have hts := E.2.2.1
  have hown := E.2.2.2.1
  have hK := E.2.2.2.2.1
  intro S H locs ls h G hl
  unfold fr_nextToken_b213 at h
  refine lv_aload_n hx hb dX12_nextToken_213 rfl (lv_at hl 0 rfl) ?_
  refine lv_dup hx hb dX12_nextToken_214 rfl ?_
  refine m_get E G 4 (v := .int (S.1 4)) (by decide) (.tail _ qM_46) rfl dX12_nextToken_215 rfl ?_
  refine lv_topi (fun v2 ev2 => ?_)
  have h := elet_at ev2 h
  clear ev2
  refine lv_iconst (v := 1) hx hb dX12_nextToken_218 (by decide) ?_
  refine lv_iadd hx hb dX12_nextToken_219 ?_
  refine lv_topi (fun v3 ev3 => ?_)
  have h := elet_at ev3 h
  clear ev3
  refine m_put E G 4 (by decide) (.tail _ qM_46) (mw_i4 _ _ _ _ _ v3) dX12_nextToken_220 ⟨rfl, rfl, rfl⟩ rfl rfl (fun H locs G => ?_)
  obtain ⟨S4, eS4, h⟩ := elet_some h
  rw [← eS4] at G
  clear eS4
  refine lv_goto (tgt := 159) hx hb dX12_nextToken_223 (by decide) ?_
  have hl := lv_sub hl [0] rfl
  exact hk159 _ _ _ _ h G hl
def fr_nextToken_b159  : Nat → MS → Option (MS)
  | 0, _ => none
  | n + 1, S => elet (S.1 4) fun v2 => obind2 (fr_byteAt S v2) fun r6 S3 => obind (fr_in r6 48 57) fun r7 => if r7 = 0 then (elet (S3.1 4) fun v10 => elet (S3.1 8) fun v11 => elet (v10 - v11) fun v12 => if v12 ≤ 4 then (fr_nextToken_b245 S3 3) else (fr_nextToken_b245 S3 0)) else (elet (S3.1 4) fun v14 => elet (S3.1 8) fun v15 => elet (v14 - v15) fun v16 => if 4 ≤ v16 then (fr_nextToken_b213 (fr_nextToken_b159 n) S3) else (elet (S3.1 9) fun v18 => elet (10 * v18) fun v19 => elet (S3.1 4) fun v20 => obind2 (fr_byteAt S3 v20) fun r24 S21 => elet (v19 + r24) fun v25 => elet (v25 - 48) fun v26 => elet (mi S21 9 v26) fun S27 => fr_nextToken_b213 (fr_nextToken_b159 n) S27))
set_option maxHeartbeats 4000000 in
set_option maxRecDepth 100000 in
theorem tr_nextToken_b159 {p : Program} {l : Launch} {e : Env} {s : State} {m : MethodId} {args : Array Value} {below : List Frame} {meth : Method} {c : Code} {Q : State → Prop} {D : va_G} {A : Nat → Prop} {H0 : Heap} {cI cJ cZ : ClassId} {ad : Nat → Nat} {S1 : MS} (E : mE p c cX12_nextToken s m args (Cond.code yX12_nextToken cX12_nextToken 1 none :: wsM) D cI cJ cZ) (hA : ∀ q : Nat, H0.size ≤ q → A q) (hR : sR s) (hml : c.maxLocals = 1) (kr7 : ∀ (H : Heap) (locs : List Loc) (ls : Array Slot), mG D cI cJ cZ ad A H0 H locs S1 → W p l e { frames := 2, cells := 0, slots := 0, locals := 22 } s m args below meth c H locs 0 0 Q (F0 m 7 ls [])) (kr292 : ∀ (H : Heap) (locs : List Loc) (ls : Array Slot), mG D cI cJ cZ ad A H0 H locs S1 → W p l e { frames := 2, cells := 0, slots := 0, locals := 22 } s m args below meth c H locs 0 0 Q (F0 m 292 ls [])) : ∀ n : Nat, ∀ (S : MS) (H : Heap) (locs : List Loc) (ls : Array Slot), fr_nextToken_b159 n S = some S1 → mG D cI cJ cZ ad A H0 H locs S → lv_has ls 1 [(0, .ref (ad 0))] → W p l e { frames := 2, cells := 0, slots := 0, locals := 22 } s m args below meth c H locs 0 0 Q (F0 m 159 ls []) := by
  have hx := E.1
  have hb := E.2.1
  have hts := E.2.2.1
  have hown := E.2.2.2.1
  have hK := E.2.2.2.2.1
  intro n
  induction n with
  | zero =>
    intro S H locs ls h
    have h : (none : Option (MS)) = some S1 := h
    cases h
  | succ n ih =>
    intro S H locs ls h G hl
    unfold fr_nextToken_b159 at h
    refine lv_aload_n hx hb dX12_nextToken_159 rfl (lv_at hl 0 rfl) ?_
    refine lv_aload_n hx hb dX12_nextToken_160 rfl (lv_at hl 0 rfl) ?_
    refine m_get E G 4 (v := .int (S.1 4)) (by decide) (.tail _ qM_46) rfl dX12_nextToken_161 rfl ?_
    refine lv_topi (fun v2 ev2 => ?_)
    have h := elet_at ev2 h
    clear ev2
    obtain ⟨r6, S3, eS3, h⟩ := obind2_some h
    refine m_calli (As := [.int v2]) (rest := []) E G hA hR hml (tr_byteAt l D cI cJ cZ ad S v2 eS3) (cwV 1 hts (gmV qM_49 qM_50 qM_51 qM_35 qM_40) rfl rfl rfl (by decide +kernel) ⟨Nat.le_of_ble_eq_true rfl, Nat.le_of_ble_eq_true rfl⟩) rfl hl.1 rfl (lv_room (Nat.le_of_ble_eq_true rfl)) dX12_nextToken_164 ⟨Nat.zero_le _, Nat.zero_le _⟩ (fun q4 S5 H locs hq G => ?_)
    obtain ⟨hq1, hq2⟩ := hq
    rw [hq2] at G
    refine lv_to hq1 ?_
    clear hq1 hq2 eS3
    refine lv_bipush (v := 48) hx hb dX12_nextToken_167 (by decide) ?_
    refine lv_bipush (v := 57) hx hb dX12_nextToken_169 (by decide) ?_
    obtain ⟨r7, er7, h⟩ := obind_some h
    refine m_stat (As := [.int r6, .int 48, .int 57]) (rest := []) ⟨hx, hb, hml, hown, hts⟩ (tr_in l r6 48 57 er7) (cwS 3 hts (gmS qM_52 qM_53 qM_35 qM_27) rfl rfl rfl (by decide +kernel) ⟨Nat.le_of_ble_eq_true rfl, Nat.le_of_ble_eq_true rfl⟩) rfl hl.1 rfl (lv_room (Nat.le_of_ble_eq_true rfl)) dX12_nextToken_171 ⟨Nat.zero_le _, Nat.zero_le _⟩ (fun q8 hq => ?_)
    refine lv_to hq ?_
    clear hq er7
    refine lv_if_eq (tgt := 226) hx hb dX12_nextToken_174 (by decide) (fun c9 => ?_) (fun c9 => ?_)
    · have h := oif_pos c9 h
      refine lv_aload_n hx hb dX12_nextToken_226 rfl (lv_at hl 0 rfl) ?_
      refine lv_aload_n hx hb dX12_nextToken_227 rfl (lv_at hl 0 rfl) ?_
      refine m_get E G 4 (v := .int (S3.1 4)) (by decide) (.tail _ qM_46) rfl dX12_nextToken_228 rfl ?_
      refine lv_topi (fun v10 ev10 => ?_)
      have h := elet_at ev10 h
      clear ev10
      refine lv_aload_n hx hb dX12_nextToken_231 rfl (lv_at hl 0 rfl) ?_
      refine m_get E G 8 (v := .int (S3.1 8)) (by decide) (.tail _ qM_43) rfl dX12_nextToken_232 rfl ?_
      refine lv_topi (fun v11 ev11 => ?_)
      have h := elet_at ev11 h
      clear ev11
      refine lv_isub hx hb dX12_nextToken_235 ?_
      refine lv_topi (fun v12 ev12 => ?_)
      have h := elet_at ev12 h
      clear ev12
      refine lv_iconst (v := 4) hx hb dX12_nextToken_236 (by decide) ?_
      refine lv_icmp_le (tgt := 244) hx hb dX12_nextToken_237 (by decide) (fun c13 => ?_) (fun c13 => ?_)
      · have h := oif_pos c13 h
        refine lv_iconst (v := 3) hx hb dX12_nextToken_244 (by decide) ?_
        have hl := lv_sub hl [] rfl
        exact tr_nextToken_b245 E hA hR hml kr7 kr292 _ _ _ _ _ h G hl
      · have h := oif_neg c13 h
        refine lv_iconst (v := 0) hx hb dX12_nextToken_240 (by decide) ?_
        refine lv_goto (tgt := 245) hx hb dX12_nextToken_241 (by decide) ?_
        have hl := lv_sub hl [] rfl
        exact tr_nextToken_b245 E hA hR hml kr7 kr292 _ _ _ _ _ h G hl
    · have h := oif_neg c9 h
      refine lv_aload_n hx hb dX12_nextToken_177 rfl (lv_at hl 0 rfl) ?_
      refine m_get E G 4 (v := .int (S3.1 4)) (by decide) (.tail _ qM_46) rfl dX12_nextToken_178 rfl ?_
      refine lv_topi (fun v14 ev14 => ?_)
      have h := elet_at ev14 h
      clear ev14
      refine lv_aload_n hx hb dX12_nextToken_181 rfl (lv_at hl 0 rfl) ?_
      refine m_get E G 8 (v := .int (S3.1 8)) (by decide) (.tail _ qM_43) rfl dX12_nextToken_182 rfl ?_
      refine lv_topi (fun v15 ev15 => ?_)
      have h := elet_at ev15 h
      clear ev15
      refine lv_isub hx hb dX12_nextToken_185 ?_
      refine lv_topi (fun v16 ev16 => ?_)
      have h := elet_at ev16 h
      clear ev16
      refine lv_iconst (v := 4) hx hb dX12_nextToken_186 (by decide) ?_
      refine lv_icmp_ge (tgt := 213) hx hb dX12_nextToken_187 (by decide) (fun c17 => ?_) (fun c17 => ?_)
      · have h := oif_pos c17 h
        have hl := lv_sub hl [0] rfl
        exact tr_nextToken_b213 E hA hR hml kr7 kr292 ih _ _ _ _ h G hl
      · have h := oif_neg c17 h
        refine lv_aload_n hx hb dX12_nextToken_190 rfl (lv_at hl 0 rfl) ?_
        refine lv_bipush (v := 10) hx hb dX12_nextToken_191 (by decide) ?_
        refine lv_aload_n hx hb dX12_nextToken_193 rfl (lv_at hl 0 rfl) ?_
        refine m_get E G 9 (v := .int (S3.1 9)) (by decide) (.tail _ qM_48) rfl dX12_nextToken_194 rfl ?_
        refine lv_topi (fun v18 ev18 => ?_)
        have h := elet_at ev18 h
        clear ev18
        refine lv_imul hx hb dX12_nextToken_197 ?_
        refine lv_topi (fun v19 ev19 => ?_)
        have h := elet_at ev19 h
        clear ev19
        refine lv_aload_n hx hb dX12_nextToken_198 rfl (lv_at hl 0 rfl) ?_
        refine lv_aload_n hx hb dX12_nextToken_199 rfl (lv_at hl 0 rfl) ?_
        refine m_get E G 4 (v := .int (S3.1 4)) (by decide) (.tail _ qM_46) rfl dX12_nextToken_200 rfl ?_
        refine lv_topi (fun v20 ev20 => ?_)
        have h := elet_at ev20 h
        clear ev20
        obtain ⟨r24, S21, eS21, h⟩ := obind2_some h
        refine m_calli (As := [.int v20]) (rest := [.int v19, .ref (ad 0)]) E G hA hR hml (tr_byteAt l D cI cJ cZ ad S3 v20 eS21) (cwV 1 hts (gmV qM_49 qM_50 qM_51 qM_35 qM_40) rfl rfl rfl (by decide +kernel) ⟨Nat.le_of_ble_eq_true rfl, Nat.le_of_ble_eq_true rfl⟩) rfl hl.1 rfl (lv_room (Nat.le_of_ble_eq_true rfl)) dX12_nextToken_203 ⟨Nat.zero_le _, Nat.zero_le _⟩ (fun q22 S23 H locs hq G => ?_)
        obtain ⟨hq1, hq2⟩ := hq
        rw [hq2] at G
        refine lv_to hq1 ?_
        clear hq1 hq2 eS21
        refine lv_iadd hx hb dX12_nextToken_206 ?_
        refine lv_topi (fun v25 ev25 => ?_)
        have h := elet_at ev25 h
        clear ev25
        refine lv_bipush (v := 48) hx hb dX12_nextToken_207 (by decide) ?_
        refine lv_isub hx hb dX12_nextToken_209 ?_
        refine lv_topi (fun v26 ev26 => ?_)
        have h := elet_at ev26 h
        clear ev26
        refine m_put E G 9 (by decide) (.tail _ qM_48) (mw_i9 _ _ _ _ _ v26) dX12_nextToken_210 ⟨rfl, rfl, rfl⟩ rfl rfl (fun H locs G => ?_)
        obtain ⟨S27, eS27, h⟩ := elet_some h
        rw [← eS27] at G
        clear eS27
        have hl := lv_sub hl [0] rfl
        exact tr_nextToken_b213 E hA hR hml kr7 kr292 ih _ _ _ _ h G hl
def fr_nextToken_b130  (S : MS) (s0 : Int32) : Option (MS) := elet (mi S 7 s0) fun S2 => fr_nextToken_b292 S2
set_option maxHeartbeats 4000000 in
set_option maxRecDepth 100000 in
theorem tr_nextToken_b130 {p : Program} {l : Launch} {e : Env} {s : State} {m : MethodId} {args : Array Value} {below : List Frame} {meth : Method} {c : Code} {Q : State → Prop} {D : va_G} {A : Nat → Prop} {H0 : Heap} {cI cJ cZ : ClassId} {ad : Nat → Nat} {S1 : MS} (E : mE p c cX12_nextToken s m args (Cond.code yX12_nextToken cX12_nextToken 1 none :: wsM) D cI cJ cZ) (hA : ∀ q : Nat, H0.size ≤ q → A q) (hR : sR s) (hml : c.maxLocals = 1) (kr7 : ∀ (H : Heap) (locs : List Loc) (ls : Array Slot), mG D cI cJ cZ ad A H0 H locs S1 → W p l e { frames := 2, cells := 0, slots := 0, locals := 22 } s m args below meth c H locs 0 0 Q (F0 m 7 ls [])) (kr292 : ∀ (H : Heap) (locs : List Loc) (ls : Array Slot), mG D cI cJ cZ ad A H0 H locs S1 → W p l e { frames := 2, cells := 0, slots := 0, locals := 22 } s m args below meth c H locs 0 0 Q (F0 m 292 ls [])) : ∀ (S : MS) (H : Heap) (locs : List Loc) (ls : Array Slot) (s0 : Int32), fr_nextToken_b130 S s0 = some S1 → mG D cI cJ cZ ad A H0 H locs S → lv_has ls 1 [] → W p l e { frames := 2, cells := 0, slots := 0, locals := 22 } s m args below meth c H locs 0 0 Q (F0 m 130 ls [.int s0, .ref (ad 0)]) := by
  have hx := E.1
  have hb := E.2.1
  have hts := E.2.2.1
  have hown := E.2.2.2.1
  have hK := E.2.2.2.2.1
  intro S H locs ls s0 h G hl
  unfold fr_nextToken_b130 at h
  refine m_put E G 7 (by decide) (.tail _ qM_47) (mw_i7 _ _ _ _ _ s0) dX12_nextToken_130 ⟨rfl, rfl, rfl⟩ rfl rfl (fun H locs G => ?_)
  obtain ⟨S2, eS2, h⟩ := elet_some h
  rw [← eS2] at G
  clear eS2
  refine lv_goto (tgt := 292) hx hb dX12_nextToken_133 (by decide) ?_
  have hl := lv_sub hl [] rfl
  exact tr_nextToken_b292 E hA hR hml kr7 kr292 _ _ _ _ h G hl
def fr_nextToken_b79  : Nat → MS → Option (MS)
  | 0, _ => none
  | n + 1, S => elet (S.1 4) fun v2 => obind2 (fr_byteAt S v2) fun r6 S3 => obind (fr_in r6 97 122) fun r7 => if r7 = 0 then (elet (S3.1 4) fun v10 => elet (S3.1 8) fun v11 => elet (v10 - v11) fun v12 => if v12 ≤ 8 then (fr_nextToken_b130 S3 2) else (fr_nextToken_b130 S3 0)) else (elet (S3.1 4) fun v14 => elet (v14 + 1) fun v15 => elet (mi S3 4 v15) fun S16 => fr_nextToken_b79 n S16)
set_option maxHeartbeats 4000000 in
set_option maxRecDepth 100000 in
theorem tr_nextToken_b79 {p : Program} {l : Launch} {e : Env} {s : State} {m : MethodId} {args : Array Value} {below : List Frame} {meth : Method} {c : Code} {Q : State → Prop} {D : va_G} {A : Nat → Prop} {H0 : Heap} {cI cJ cZ : ClassId} {ad : Nat → Nat} {S1 : MS} (E : mE p c cX12_nextToken s m args (Cond.code yX12_nextToken cX12_nextToken 1 none :: wsM) D cI cJ cZ) (hA : ∀ q : Nat, H0.size ≤ q → A q) (hR : sR s) (hml : c.maxLocals = 1) (kr7 : ∀ (H : Heap) (locs : List Loc) (ls : Array Slot), mG D cI cJ cZ ad A H0 H locs S1 → W p l e { frames := 2, cells := 0, slots := 0, locals := 22 } s m args below meth c H locs 0 0 Q (F0 m 7 ls [])) (kr292 : ∀ (H : Heap) (locs : List Loc) (ls : Array Slot), mG D cI cJ cZ ad A H0 H locs S1 → W p l e { frames := 2, cells := 0, slots := 0, locals := 22 } s m args below meth c H locs 0 0 Q (F0 m 292 ls [])) : ∀ n : Nat, ∀ (S : MS) (H : Heap) (locs : List Loc) (ls : Array Slot), fr_nextToken_b79 n S = some S1 → mG D cI cJ cZ ad A H0 H locs S → lv_has ls 1 [(0, .ref (ad 0))] → W p l e { frames := 2, cells := 0, slots := 0, locals := 22 } s m args below meth c H locs 0 0 Q (F0 m 79 ls []) := by
  have hx := E.1
  have hb := E.2.1
  have hts := E.2.2.1
  have hown := E.2.2.2.1
  have hK := E.2.2.2.2.1
  intro n
  induction n with
  | zero =>
    intro S H locs ls h
    have h : (none : Option (MS)) = some S1 := h
    cases h
  | succ n ih =>
    intro S H locs ls h G hl
    unfold fr_nextToken_b79 at h
    refine lv_aload_n hx hb dX12_nextToken_79 rfl (lv_at hl 0 rfl) ?_
    refine lv_aload_n hx hb dX12_nextToken_80 rfl (lv_at hl 0 rfl) ?_
    refine m_get E G 4 (v := .int (S.1 4)) (by decide) (.tail _ qM_46) rfl dX12_nextToken_81 rfl ?_
    refine lv_topi (fun v2 ev2 => ?_)
    have h := elet_at ev2 h
    clear ev2
    obtain ⟨r6, S3, eS3, h⟩ := obind2_some h
    refine m_calli (As := [.int v2]) (rest := []) E G hA hR hml (tr_byteAt l D cI cJ cZ ad S v2 eS3) (cwV 1 hts (gmV qM_49 qM_50 qM_51 qM_35 qM_40) rfl rfl rfl (by decide +kernel) ⟨Nat.le_of_ble_eq_true rfl, Nat.le_of_ble_eq_true rfl⟩) rfl hl.1 rfl (lv_room (Nat.le_of_ble_eq_true rfl)) dX12_nextToken_84 ⟨Nat.zero_le _, Nat.zero_le _⟩ (fun q4 S5 H locs hq G => ?_)
    obtain ⟨hq1, hq2⟩ := hq
    rw [hq2] at G
    refine lv_to hq1 ?_
    clear hq1 hq2 eS3
    refine lv_bipush (v := 97) hx hb dX12_nextToken_87 (by decide) ?_
    refine lv_bipush (v := 122) hx hb dX12_nextToken_89 (by decide) ?_
    obtain ⟨r7, er7, h⟩ := obind_some h
    refine m_stat (As := [.int r6, .int 97, .int 122]) (rest := []) ⟨hx, hb, hml, hown, hts⟩ (tr_in l r6 97 122 er7) (cwS 3 hts (gmS qM_52 qM_53 qM_35 qM_27) rfl rfl rfl (by decide +kernel) ⟨Nat.le_of_ble_eq_true rfl, Nat.le_of_ble_eq_true rfl⟩) rfl hl.1 rfl (lv_room (Nat.le_of_ble_eq_true rfl)) dX12_nextToken_91 ⟨Nat.zero_le _, Nat.zero_le _⟩ (fun q8 hq => ?_)
    refine lv_to hq ?_
    clear hq er7
    refine lv_if_eq (tgt := 110) hx hb dX12_nextToken_94 (by decide) (fun c9 => ?_) (fun c9 => ?_)
    · have h := oif_pos c9 h
      refine lv_aload_n hx hb dX12_nextToken_110 rfl (lv_at hl 0 rfl) ?_
      refine lv_aload_n hx hb dX12_nextToken_111 rfl (lv_at hl 0 rfl) ?_
      refine m_get E G 4 (v := .int (S3.1 4)) (by decide) (.tail _ qM_46) rfl dX12_nextToken_112 rfl ?_
      refine lv_topi (fun v10 ev10 => ?_)
      have h := elet_at ev10 h
      clear ev10
      refine lv_aload_n hx hb dX12_nextToken_115 rfl (lv_at hl 0 rfl) ?_
      refine m_get E G 8 (v := .int (S3.1 8)) (by decide) (.tail _ qM_43) rfl dX12_nextToken_116 rfl ?_
      refine lv_topi (fun v11 ev11 => ?_)
      have h := elet_at ev11 h
      clear ev11
      refine lv_isub hx hb dX12_nextToken_119 ?_
      refine lv_topi (fun v12 ev12 => ?_)
      have h := elet_at ev12 h
      clear ev12
      refine lv_bipush (v := 8) hx hb dX12_nextToken_120 (by decide) ?_
      refine lv_icmp_le (tgt := 129) hx hb dX12_nextToken_122 (by decide) (fun c13 => ?_) (fun c13 => ?_)
      · have h := oif_pos c13 h
        refine lv_iconst (v := 2) hx hb dX12_nextToken_129 (by decide) ?_
        have hl := lv_sub hl [] rfl
        exact tr_nextToken_b130 E hA hR hml kr7 kr292 _ _ _ _ _ h G hl
      · have h := oif_neg c13 h
        refine lv_iconst (v := 0) hx hb dX12_nextToken_125 (by decide) ?_
        refine lv_goto (tgt := 130) hx hb dX12_nextToken_126 (by decide) ?_
        have hl := lv_sub hl [] rfl
        exact tr_nextToken_b130 E hA hR hml kr7 kr292 _ _ _ _ _ h G hl
    · have h := oif_neg c9 h
      refine lv_aload_n hx hb dX12_nextToken_97 rfl (lv_at hl 0 rfl) ?_
      refine lv_dup hx hb dX12_nextToken_98 rfl ?_
      refine m_get E G 4 (v := .int (S3.1 4)) (by decide) (.tail _ qM_46) rfl dX12_nextToken_99 rfl ?_
      refine lv_topi (fun v14 ev14 => ?_)
      have h := elet_at ev14 h
      clear ev14
      refine lv_iconst (v := 1) hx hb dX12_nextToken_102 (by decide) ?_
      refine lv_iadd hx hb dX12_nextToken_103 ?_
      refine lv_topi (fun v15 ev15 => ?_)
      have h := elet_at ev15 h
      clear ev15
      refine m_put E G 4 (by decide) (.tail _ qM_46) (mw_i4 _ _ _ _ _ v15) dX12_nextToken_104 ⟨rfl, rfl, rfl⟩ rfl rfl (fun H locs G => ?_)
      obtain ⟨S16, eS16, h⟩ := elet_some h
      rw [← eS16] at G
      clear eS16
      refine lv_goto (tgt := 79) hx hb dX12_nextToken_107 (by decide) ?_
      have hl := lv_sub hl [0] rfl
      exact ih _ _ _ _ h G hl
def fr_nextToken_b8  : Nat → MS → Option (MS)
  | 0, _ => none
  | n + 1, S => elet (S.1 4) fun v2 => obind2 (fr_byteAt S v2) fun r6 S3 => if r6 = 32 then (elet (S3.1 4) fun v8 => elet (v8 + 1) fun v9 => elet (mi S3 4 v9) fun S10 => fr_nextToken_b8 n S10) else (elet (S3.1 4) fun v11 => elet (mi S3 8 v11) fun S12 => elet (S12.1 4) fun v13 => elet (S12.1 3) fun v14 => if v13 = v14 then (elet (mi S12 7 1) fun S16 => fr_nextToken_b292 S16) else (elet (S12.1 4) fun v17 => obind2 (fr_byteAt S12 v17) fun r21 S18 => obind (fr_in r21 97 122) fun r22 => if r22 = 0 then (elet (S18.1 4) fun v25 => obind2 (fr_byteAt S18 v25) fun r29 S26 => obind (fr_in r29 48 57) fun r30 => if r30 = 0 then (elet (S26.1 4) fun v33 => obind2 (fr_byteAt S26 v33) fun r37 S34 => elet (mi S34 9 r37) fun S38 => elet (S38.1 9) fun v39 => obind (fr_isSign v39) fun r40 => if r40 = 0 then (fr_nextToken_b279 S38 0) else (fr_nextToken_b279 S38 4)) else (elet (mi S26 9 0) fun S43 => fr_nextToken_b159 16384 S43)) else (fr_nextToken_b79 16384 S18)))
set_option maxHeartbeats 4000000 in
set_option maxRecDepth 100000 in
theorem tr_nextToken_b8 {p : Program} {l : Launch} {e : Env} {s : State} {m : MethodId} {args : Array Value} {below : List Frame} {meth : Method} {c : Code} {Q : State → Prop} {D : va_G} {A : Nat → Prop} {H0 : Heap} {cI cJ cZ : ClassId} {ad : Nat → Nat} {S1 : MS} (E : mE p c cX12_nextToken s m args (Cond.code yX12_nextToken cX12_nextToken 1 none :: wsM) D cI cJ cZ) (hA : ∀ q : Nat, H0.size ≤ q → A q) (hR : sR s) (hml : c.maxLocals = 1) (kr7 : ∀ (H : Heap) (locs : List Loc) (ls : Array Slot), mG D cI cJ cZ ad A H0 H locs S1 → W p l e { frames := 2, cells := 0, slots := 0, locals := 22 } s m args below meth c H locs 0 0 Q (F0 m 7 ls [])) (kr292 : ∀ (H : Heap) (locs : List Loc) (ls : Array Slot), mG D cI cJ cZ ad A H0 H locs S1 → W p l e { frames := 2, cells := 0, slots := 0, locals := 22 } s m args below meth c H locs 0 0 Q (F0 m 292 ls [])) : ∀ n : Nat, ∀ (S : MS) (H : Heap) (locs : List Loc) (ls : Array Slot), fr_nextToken_b8 n S = some S1 → mG D cI cJ cZ ad A H0 H locs S → lv_has ls 1 [(0, .ref (ad 0))] → W p l e { frames := 2, cells := 0, slots := 0, locals := 22 } s m args below meth c H locs 0 0 Q (F0 m 8 ls []) := by
  have hx := E.1
  have hb := E.2.1
  have hts := E.2.2.1
  have hown := E.2.2.2.1
  have hK := E.2.2.2.2.1
  intro n
  induction n with
  | zero =>
    intro S H locs ls h
    have h : (none : Option (MS)) = some S1 := h
    cases h
  | succ n ih =>
    intro S H locs ls h G hl
    unfold fr_nextToken_b8 at h
    refine lv_aload_n hx hb dX12_nextToken_8 rfl (lv_at hl 0 rfl) ?_
    refine lv_aload_n hx hb dX12_nextToken_9 rfl (lv_at hl 0 rfl) ?_
    refine m_get E G 4 (v := .int (S.1 4)) (by decide) (.tail _ qM_46) rfl dX12_nextToken_10 rfl ?_
    refine lv_topi (fun v2 ev2 => ?_)
    have h := elet_at ev2 h
    clear ev2
    obtain ⟨r6, S3, eS3, h⟩ := obind2_some h
    refine m_calli (As := [.int v2]) (rest := []) E G hA hR hml (tr_byteAt l D cI cJ cZ ad S v2 eS3) (cwV 1 hts (gmV qM_49 qM_50 qM_51 qM_35 qM_40) rfl rfl rfl (by decide +kernel) ⟨Nat.le_of_ble_eq_true rfl, Nat.le_of_ble_eq_true rfl⟩) rfl hl.1 rfl (lv_room (Nat.le_of_ble_eq_true rfl)) dX12_nextToken_13 ⟨Nat.zero_le _, Nat.zero_le _⟩ (fun q4 S5 H locs hq G => ?_)
    obtain ⟨hq1, hq2⟩ := hq
    rw [hq2] at G
    refine lv_to hq1 ?_
    clear hq1 hq2 eS3
    refine lv_bipush (v := 32) hx hb dX12_nextToken_16 (by decide) ?_
    refine lv_icmp_ne (tgt := 34) hx hb dX12_nextToken_18 (by decide) (fun c7 => ?_) (fun c7 => ?_)
    · have h := oif_neg c7 h
      refine lv_aload_n hx hb dX12_nextToken_34 rfl (lv_at hl 0 rfl) ?_
      refine lv_aload_n hx hb dX12_nextToken_35 rfl (lv_at hl 0 rfl) ?_
      refine m_get E G 4 (v := .int (S3.1 4)) (by decide) (.tail _ qM_46) rfl dX12_nextToken_36 rfl ?_
      refine lv_topi (fun v11 ev11 => ?_)
      have h := elet_at ev11 h
      clear ev11
      refine m_put E G 8 (by decide) (.tail _ qM_43) (mw_i8 _ _ _ _ _ v11) dX12_nextToken_39 ⟨rfl, rfl, rfl⟩ rfl rfl (fun H locs G => ?_)
      obtain ⟨S12, eS12, h⟩ := elet_some h
      rw [← eS12] at G
      clear eS12
      refine lv_aload_n hx hb dX12_nextToken_42 rfl (lv_at hl 0 rfl) ?_
      refine m_get E G 4 (v := .int (S12.1 4)) (by decide) (.tail _ qM_46) rfl dX12_nextToken_43 rfl ?_
      refine lv_topi (fun v13 ev13 => ?_)
      have h := elet_at ev13 h
      clear ev13
      refine lv_aload_n hx hb dX12_nextToken_46 rfl (lv_at hl 0 rfl) ?_
      refine m_get E G 3 (v := .int (S12.1 3)) (by decide) (.tail _ qM_41) rfl dX12_nextToken_47 rfl ?_
      refine lv_topi (fun v14 ev14 => ?_)
      have h := elet_at ev14 h
      clear ev14
      refine lv_icmp_ne (tgt := 61) hx hb dX12_nextToken_50 (by decide) (fun c15 => ?_) (fun c15 => ?_)
      · have h := oif_neg c15 h
        refine lv_aload_n hx hb dX12_nextToken_61 rfl (lv_at hl 0 rfl) ?_
        refine lv_aload_n hx hb dX12_nextToken_62 rfl (lv_at hl 0 rfl) ?_
        refine m_get E G 4 (v := .int (S12.1 4)) (by decide) (.tail _ qM_46) rfl dX12_nextToken_63 rfl ?_
        refine lv_topi (fun v17 ev17 => ?_)
        have h := elet_at ev17 h
        clear ev17
        obtain ⟨r21, S18, eS18, h⟩ := obind2_some h
        refine m_calli (As := [.int v17]) (rest := []) E G hA hR hml (tr_byteAt l D cI cJ cZ ad S12 v17 eS18) (cwV 1 hts (gmV qM_49 qM_50 qM_51 qM_35 qM_40) rfl rfl rfl (by decide +kernel) ⟨Nat.le_of_ble_eq_true rfl, Nat.le_of_ble_eq_true rfl⟩) rfl hl.1 rfl (lv_room (Nat.le_of_ble_eq_true rfl)) dX12_nextToken_66 ⟨Nat.zero_le _, Nat.zero_le _⟩ (fun q19 S20 H locs hq G => ?_)
        obtain ⟨hq1, hq2⟩ := hq
        rw [hq2] at G
        refine lv_to hq1 ?_
        clear hq1 hq2 eS18
        refine lv_bipush (v := 97) hx hb dX12_nextToken_69 (by decide) ?_
        refine lv_bipush (v := 122) hx hb dX12_nextToken_71 (by decide) ?_
        obtain ⟨r22, er22, h⟩ := obind_some h
        refine m_stat (As := [.int r21, .int 97, .int 122]) (rest := []) ⟨hx, hb, hml, hown, hts⟩ (tr_in l r21 97 122 er22) (cwS 3 hts (gmS qM_52 qM_53 qM_35 qM_27) rfl rfl rfl (by decide +kernel) ⟨Nat.le_of_ble_eq_true rfl, Nat.le_of_ble_eq_true rfl⟩) rfl hl.1 rfl (lv_room (Nat.le_of_ble_eq_true rfl)) dX12_nextToken_73 ⟨Nat.zero_le _, Nat.zero_le _⟩ (fun q23 hq => ?_)
        refine lv_to hq ?_
        clear hq er22
        refine lv_if_eq (tgt := 136) hx hb dX12_nextToken_76 (by decide) (fun c24 => ?_) (fun c24 => ?_)
        · have h := oif_pos c24 h
          refine lv_aload_n hx hb dX12_nextToken_136 rfl (lv_at hl 0 rfl) ?_
          refine lv_aload_n hx hb dX12_nextToken_137 rfl (lv_at hl 0 rfl) ?_
          refine m_get E G 4 (v := .int (S18.1 4)) (by decide) (.tail _ qM_46) rfl dX12_nextToken_138 rfl ?_
          refine lv_topi (fun v25 ev25 => ?_)
          have h := elet_at ev25 h
          clear ev25
          obtain ⟨r29, S26, eS26, h⟩ := obind2_some h
          refine m_calli (As := [.int v25]) (rest := []) E G hA hR hml (tr_byteAt l D cI cJ cZ ad S18 v25 eS26) (cwV 1 hts (gmV qM_49 qM_50 qM_51 qM_35 qM_40) rfl rfl rfl (by decide +kernel) ⟨Nat.le_of_ble_eq_true rfl, Nat.le_of_ble_eq_true rfl⟩) rfl hl.1 rfl (lv_room (Nat.le_of_ble_eq_true rfl)) dX12_nextToken_141 ⟨Nat.zero_le _, Nat.zero_le _⟩ (fun q27 S28 H locs hq G => ?_)
          obtain ⟨hq1, hq2⟩ := hq
          rw [hq2] at G
          refine lv_to hq1 ?_
          clear hq1 hq2 eS26
          refine lv_bipush (v := 48) hx hb dX12_nextToken_144 (by decide) ?_
          refine lv_bipush (v := 57) hx hb dX12_nextToken_146 (by decide) ?_
          obtain ⟨r30, er30, h⟩ := obind_some h
          refine m_stat (As := [.int r29, .int 48, .int 57]) (rest := []) ⟨hx, hb, hml, hown, hts⟩ (tr_in l r29 48 57 er30) (cwS 3 hts (gmS qM_52 qM_53 qM_35 qM_27) rfl rfl rfl (by decide +kernel) ⟨Nat.le_of_ble_eq_true rfl, Nat.le_of_ble_eq_true rfl⟩) rfl hl.1 rfl (lv_room (Nat.le_of_ble_eq_true rfl)) dX12_nextToken_148 ⟨Nat.zero_le _, Nat.zero_le _⟩ (fun q31 hq => ?_)
          refine lv_to hq ?_
          clear hq er30
          refine lv_if_eq (tgt := 251) hx hb dX12_nextToken_151 (by decide) (fun c32 => ?_) (fun c32 => ?_)
          · have h := oif_pos c32 h
            refine lv_aload_n hx hb dX12_nextToken_251 rfl (lv_at hl 0 rfl) ?_
            refine lv_aload_n hx hb dX12_nextToken_252 rfl (lv_at hl 0 rfl) ?_
            refine lv_aload_n hx hb dX12_nextToken_253 rfl (lv_at hl 0 rfl) ?_
            refine m_get E G 4 (v := .int (S26.1 4)) (by decide) (.tail _ qM_46) rfl dX12_nextToken_254 rfl ?_
            refine lv_topi (fun v33 ev33 => ?_)
            have h := elet_at ev33 h
            clear ev33
            obtain ⟨r37, S34, eS34, h⟩ := obind2_some h
            refine m_calli (As := [.int v33]) (rest := [.ref (ad 0)]) E G hA hR hml (tr_byteAt l D cI cJ cZ ad S26 v33 eS34) (cwV 1 hts (gmV qM_49 qM_50 qM_51 qM_35 qM_40) rfl rfl rfl (by decide +kernel) ⟨Nat.le_of_ble_eq_true rfl, Nat.le_of_ble_eq_true rfl⟩) rfl hl.1 rfl (lv_room (Nat.le_of_ble_eq_true rfl)) dX12_nextToken_257 ⟨Nat.zero_le _, Nat.zero_le _⟩ (fun q35 S36 H locs hq G => ?_)
            obtain ⟨hq1, hq2⟩ := hq
            rw [hq2] at G
            refine lv_to hq1 ?_
            clear hq1 hq2 eS34
            refine m_put E G 9 (by decide) (.tail _ qM_48) (mw_i9 _ _ _ _ _ r37) dX12_nextToken_260 ⟨rfl, rfl, rfl⟩ rfl rfl (fun H locs G => ?_)
            obtain ⟨S38, eS38, h⟩ := elet_some h
            rw [← eS38] at G
            clear eS38
            refine lv_aload_n hx hb dX12_nextToken_263 rfl (lv_at hl 0 rfl) ?_
            refine lv_aload_n hx hb dX12_nextToken_264 rfl (lv_at hl 0 rfl) ?_
            refine m_get E G 9 (v := .int (S38.1 9)) (by decide) (.tail _ qM_48) rfl dX12_nextToken_265 rfl ?_
            refine lv_topi (fun v39 ev39 => ?_)
            have h := elet_at ev39 h
            clear ev39
            obtain ⟨r40, er40, h⟩ := obind_some h
            refine m_stat (As := [.int v39]) (rest := [.ref (ad 0)]) ⟨hx, hb, hml, hown, hts⟩ (tr_isSign l v39 er40) (cwS 1 hts (gmS qM_54 qM_55 qM_35 qM_44) rfl rfl rfl (by decide +kernel) ⟨Nat.le_of_ble_eq_true rfl, Nat.le_of_ble_eq_true rfl⟩) rfl hl.1 rfl (lv_room (Nat.le_of_ble_eq_true rfl)) dX12_nextToken_268 ⟨Nat.zero_le _, Nat.zero_le _⟩ (fun q41 hq => ?_)
            refine lv_to hq ?_
            clear hq er40
            refine lv_if_eq (tgt := 278) hx hb dX12_nextToken_271 (by decide) (fun c42 => ?_) (fun c42 => ?_)
            · have h := oif_pos c42 h
              refine lv_iconst (v := 0) hx hb dX12_nextToken_278 (by decide) ?_
              have hl := lv_sub hl [0] rfl
              exact tr_nextToken_b279 E hA hR hml kr7 kr292 _ _ _ _ _ h G hl
            · have h := oif_neg c42 h
              refine lv_iconst (v := 4) hx hb dX12_nextToken_274 (by decide) ?_
              refine lv_goto (tgt := 279) hx hb dX12_nextToken_275 (by decide) ?_
              have hl := lv_sub hl [0] rfl
              exact tr_nextToken_b279 E hA hR hml kr7 kr292 _ _ _ _ _ h G hl
          · have h := oif_neg c32 h
            refine lv_aload_n hx hb dX12_nextToken_154 rfl (lv_at hl 0 rfl) ?_
            refine lv_iconst (v := 0) hx hb dX12_nextToken_155 (by decide) ?_
            refine m_put E G 9 (by decide) (.tail _ qM_48) (mw_i9 _ _ _ _ _ 0) dX12_nextToken_156 ⟨rfl, rfl, rfl⟩ rfl rfl (fun H locs G => ?_)
            obtain ⟨S43, eS43, h⟩ := elet_some h
            rw [← eS43] at G
            clear eS43
            have hl := lv_sub hl [0] rfl
            exact tr_nextToken_b159 E hA hR hml kr7 kr292 _ _ _ _ _ h G hl
        · have h := oif_neg c24 h
          have hl := lv_sub hl [0] rfl
          exact tr_nextToken_b79 E hA hR hml kr7 kr292 _ _ _ _ _ h G hl
      · have h := oif_pos c15 h
        refine lv_aload_n hx hb dX12_nextToken_53 rfl (lv_at hl 0 rfl) ?_
        refine lv_iconst (v := 1) hx hb dX12_nextToken_54 (by decide) ?_
        refine m_put E G 7 (by decide) (.tail _ qM_47) (mw_i7 _ _ _ _ _ 1) dX12_nextToken_55 ⟨rfl, rfl, rfl⟩ rfl rfl (fun H locs G => ?_)
        obtain ⟨S16, eS16, h⟩ := elet_some h
        rw [← eS16] at G
        clear eS16
        refine lv_goto (tgt := 292) hx hb dX12_nextToken_58 (by decide) ?_
        have hl := lv_sub hl [] rfl
        exact tr_nextToken_b292 E hA hR hml kr7 kr292 _ _ _ _ h G hl
    · have h := oif_pos c7 h
      refine lv_aload_n hx hb dX12_nextToken_21 rfl (lv_at hl 0 rfl) ?_
      refine lv_dup hx hb dX12_nextToken_22 rfl ?_
      refine m_get E G 4 (v := .int (S3.1 4)) (by decide) (.tail _ qM_46) rfl dX12_nextToken_23 rfl ?_
      refine lv_topi (fun v8 ev8 => ?_)
      have h := elet_at ev8 h
      clear ev8
      refine lv_iconst (v := 1) hx hb dX12_nextToken_26 (by decide) ?_
      refine lv_iadd hx hb dX12_nextToken_27 ?_
      refine lv_topi (fun v9 ev9 => ?_)
      have h := elet_at ev9 h
      clear ev9
      refine m_put E G 4 (by decide) (.tail _ qM_46) (mw_i4 _ _ _ _ _ v9) dX12_nextToken_28 ⟨rfl, rfl, rfl⟩ rfl rfl (fun H locs G => ?_)
      obtain ⟨S10, eS10, h⟩ := elet_some h
      rw [← eS10] at G
      clear eS10
      refine lv_goto (tgt := 8) hx hb dX12_nextToken_31 (by decide) ?_
      have hl := lv_sub hl [0] rfl
      exact ih _ _ _ _ h G hl
def fr_nextToken (S : MS)  : Option (MS) := elet (S.1 5) fun v2 => if v2 ≤ 0 then (fr_nextToken_b8 16384 S) else (some S)
set_option maxHeartbeats 4000000 in
set_option maxRecDepth 100000 in
theorem tr_nextToken (l : Launch) (D : va_G) (cI cJ cZ : ClassId) (ad : Nat → Nat) (S : MS)  {S1 : MS} (h : fr_nextToken S = some S1) : mCv l yX12_nextToken (Cond.code yX12_nextToken cX12_nextToken 1 none :: wsM) 2 22 D cI cJ cZ ad S [] (fun S9 => S9 = S1) := by
  intro sz
  refine Met.ofW (cc := cX12_nextToken) (maxL := 1) (ret := none) (by decide) rfl ?_
  intro p e s m args below meth c s₁ B hml hv
  obtain ⟨rfl, hsz, hP, hK, hD0, hR⟩ := hv
  have hx := B.exec
  have hb := B.bytes
  have hr := B.returns
  have hts := atoms_spec (ws := (Cond.code yX12_nextToken cX12_nextToken 1 none :: wsM)) B.pre
  have hown : s.vm.findClass RX12 = some m.cls := findClass_of_methodNamed B.named
  have hlocks := B.notSynchronized
  subst hsz
  have hD := hD0.self (sz := s.heap.size)
  generalize hAe : va_A (MW cI cJ cZ ad S) s.heap.size = A at hD ⊢
  have hA : ∀ q : Nat, s.heap.size ≤ q → A q := fun q h => by rw [← hAe]; exact Or.inr h
  have G : mG D cI cJ cZ ad A s.heap s.heap [] S := ⟨hP, hD, va_S.rf⟩
  have E : mE p c cX12_nextToken s m ([.ref (ad 0)] : List Value).toArray (Cond.code yX12_nextToken cX12_nextToken 1 none :: wsM) D cI cJ cZ := ⟨hx, hb, hts, hown, hK, fun w h => .tail _ (iM_x h)⟩
  have hl := lv_entry ([.ref (ad 0)]) (n := 1) (Nat.le_of_ble_eq_true rfl)
  rw [lg_entry_eq]
  generalize (lg_sl ([.ref (ad 0)]) ++ List.replicate (1 - (lg_sl ([.ref (ad 0)])).length) Slot.unset).toArray = ls at hl ⊢
  have hl : lv_has ls 1 [(0, .ref (ad 0))] := hl
  unfold fr_nextToken at h
  refine lv_aload_n hx hb dX12_nextToken_0 rfl (lv_at hl 0 rfl) ?_
  refine m_get E G 5 (v := .int (S.1 5)) (by decide) (.tail _ qM_38) rfl dX12_nextToken_1 rfl ?_
  refine lv_topi (fun v2 ev2 => ?_)
  have h := elet_at ev2 h
  clear ev2
  refine lv_if_le (tgt := 8) hx hb dX12_nextToken_4 (by decide) (fun c3 => ?_) (fun c3 => ?_)
  · have h := oif_pos c3 h
    have hl := lv_sub hl [0] rfl
    exact tr_nextToken_b8 E hA hR hml (fun H locs ls G => W.vret hx hb hr (fun t ht hW => ⟨⟨S1, rfl, rfl, ⟨by rw [ht]; exact G.1, va_K.moved hW.alike hK, G.2.1⟩⟩, G.2.2.F ht⟩) G.2.2.2.2 dX12_nextToken_7) (fun H locs ls G => W.vret hx hb hr (fun t ht hW => ⟨⟨S1, rfl, rfl, ⟨by rw [ht]; exact G.1, va_K.moved hW.alike hK, G.2.1⟩⟩, G.2.2.F ht⟩) G.2.2.2.2 dX12_nextToken_292) _ _ _ _ _ h G hl
  · have h := oif_neg c3 h
    exact W.vret hx hb hr (fun t ht hW => ⟨⟨S, rfl, osome1 h, ⟨by rw [ht]; exact G.1, va_K.moved hW.alike hK, G.2.1⟩⟩, G.2.2.F ht⟩) G.2.2.2.2 dX12_nextToken_7
def fr_isSignHere_b28  (S : MS) (s0 : Int32) : Option (Int32 × MS) := oif (s0 = 0 ∨ s0 = 1) <| some (s0, S)
set_option maxHeartbeats 4000000 in
set_option maxRecDepth 100000 in
theorem tr_isSignHere_b28 {p : Program} {l : Launch} {e : Env} {s : State} {m : MethodId} {args : Array Value} {below : List Frame} {meth : Method} {c : Code} {Q : State → Prop} {D : va_G} {A : Nat → Prop} {H0 : Heap} {cI cJ cZ : ClassId} {ad : Nat → Nat} {r1 : Int32} {S1 : MS} (E : mE p c cX12_isSignHere s m args (Cond.code yX12_isSignHere cX12_isSignHere 2 (some .boolean) :: wsM) D cI cJ cZ) (hA : ∀ q : Nat, H0.size ≤ q → A q) (hR : sR s) (hml : c.maxLocals = 2) (kr28 : ∀ (H : Heap) (locs : List Loc) (ls : Array Slot), (r1 = 0 ∨ r1 = 1) → mG D cI cJ cZ ad A H0 H locs S1 → W p l e { frames := 1, cells := 0, slots := 0, locals := 0 } s m args below meth c H locs 0 0 Q (F0 m 28 ls [.int r1])) : ∀ (S : MS) (H : Heap) (locs : List Loc) (ls : Array Slot) (s0 : Int32), fr_isSignHere_b28 S s0 = some (r1, S1) → mG D cI cJ cZ ad A H0 H locs S → lv_has ls 2 [] → W p l e { frames := 1, cells := 0, slots := 0, locals := 0 } s m args below meth c H locs 0 0 Q (F0 m 28 ls [.int s0]) := by
  have hx := E.1
  have hb := E.2.1
  have hts := E.2.2.1
  have hown := E.2.2.2.1
  have hK := E.2.2.2.2.1
  intro S H locs ls s0 h G hl
  unfold fr_isSignHere_b28 at h
  obtain ⟨gz, h⟩ := oif_some h
  have gr : r1 = 0 ∨ r1 = 1 := by rw [← (osome2 h).1]; exact gz
  rw [(osome2 h).2] at G
  refine lv_to (osome2 h).1 ?_
  exact kr28 _ _ _ gr G
def fr_isSignHere_b27  (S : MS)  : Option (Int32 × MS) := fr_isSignHere_b28 S 0
set_option maxHeartbeats 4000000 in
set_option maxRecDepth 100000 in
theorem tr_isSignHere_b27 {p : Program} {l : Launch} {e : Env} {s : State} {m : MethodId} {args : Array Value} {below : List Frame} {meth : Method} {c : Code} {Q : State → Prop} {D : va_G} {A : Nat → Prop} {H0 : Heap} {cI cJ cZ : ClassId} {ad : Nat → Nat} {r1 : Int32} {S1 : MS} (E : mE p c cX12_isSignHere s m args (Cond.code yX12_isSignHere cX12_isSignHere 2 (some .boolean) :: wsM) D cI cJ cZ) (hA : ∀ q : Nat, H0.size ≤ q → A q) (hR : sR s) (hml : c.maxLocals = 2) (kr28 : ∀ (H : Heap) (locs : List Loc) (ls : Array Slot), (r1 = 0 ∨ r1 = 1) → mG D cI cJ cZ ad A H0 H locs S1 → W p l e { frames := 1, cells := 0, slots := 0, locals := 0 } s m args below meth c H locs 0 0 Q (F0 m 28 ls [.int r1])) : ∀ (S : MS) (H : Heap) (locs : List Loc) (ls : Array Slot), fr_isSignHere_b27 S = some (r1, S1) → mG D cI cJ cZ ad A H0 H locs S → lv_has ls 2 [] → W p l e { frames := 1, cells := 0, slots := 0, locals := 0 } s m args below meth c H locs 0 0 Q (F0 m 27 ls []) := by
  have hx := E.1
  have hb := E.2.1
  have hts := E.2.2.1
  have hown := E.2.2.2.1
  have hK := E.2.2.2.2.1
  intro S H locs ls h G hl
  unfold fr_isSignHere_b27 at h
  refine lv_iconst (v := 0) hx hb dX12_isSignHere_27 (by decide) ?_
  have hl := lv_sub hl [] rfl
  exact tr_isSignHere_b28 E hA hR hml kr28 _ _ _ _ _ h G hl
def fr_isSignHere (S : MS) (a0 : Int32) : Option (Int32 × MS) := elet (S.1 5) fun v2 => if v2 = 0 then (elet (S.1 7) fun v4 => if v4 = 4 then (elet (S.1 9) fun v6 => if v6 = a0 then (fr_isSignHere_b28 S 1) else (fr_isSignHere_b27 S)) else (fr_isSignHere_b27 S)) else (fr_isSignHere_b27 S)
set_option maxHeartbeats 4000000 in
set_option maxRecDepth 100000 in
theorem tr_isSignHere (l : Launch) (D : va_G) (cI cJ cZ : ClassId) (ad : Nat → Nat) (S : MS) (a0 : Int32) {r1 : Int32} {S1 : MS} (h : fr_isSignHere S a0 = some (r1, S1)) : mCi l yX12_isSignHere (Cond.code yX12_isSignHere cX12_isSignHere 2 (some .boolean) :: wsM) 1 0 D cI cJ cZ ad S [.int a0] (fun r S9 => r = r1 ∧ S9 = S1) := by
  intro sz
  refine Met.ofW (cc := cX12_isSignHere) (maxL := 2) (ret := (some .boolean)) (by decide) rfl ?_
  intro p e s m args below meth c s₁ B hml hv
  obtain ⟨rfl, hsz, hP, hK, hD0, hR⟩ := hv
  have hx := B.exec
  have hb := B.bytes
  have hr := B.returns
  have hts := atoms_spec (ws := (Cond.code yX12_isSignHere cX12_isSignHere 2 (some .boolean) :: wsM)) B.pre
  have hown : s.vm.findClass RX12 = some m.cls := findClass_of_methodNamed B.named
  have hlocks := B.notSynchronized
  subst hsz
  have hD := hD0.self (sz := s.heap.size)
  generalize hAe : va_A (MW cI cJ cZ ad S) s.heap.size = A at hD ⊢
  have hA : ∀ q : Nat, s.heap.size ≤ q → A q := fun q h => by rw [← hAe]; exact Or.inr h
  have G : mG D cI cJ cZ ad A s.heap s.heap [] S := ⟨hP, hD, va_S.rf⟩
  have E : mE p c cX12_isSignHere s m ([.ref (ad 0), .int a0] : List Value).toArray (Cond.code yX12_isSignHere cX12_isSignHere 2 (some .boolean) :: wsM) D cI cJ cZ := ⟨hx, hb, hts, hown, hK, fun w h => .tail _ (iM_x h)⟩
  have hl := lv_entry ([.ref (ad 0), .int a0]) (n := 2) (Nat.le_of_ble_eq_true rfl)
  rw [lg_entry_eq]
  generalize (lg_sl ([.ref (ad 0), .int a0]) ++ List.replicate (2 - (lg_sl ([.ref (ad 0), .int a0])).length) Slot.unset).toArray = ls at hl ⊢
  have hl : lv_has ls 2 [(0, .ref (ad 0)), (1, .int a0)] := hl
  unfold fr_isSignHere at h
  refine lv_aload_n hx hb dX12_isSignHere_0 rfl (lv_at hl 0 rfl) ?_
  refine m_get E G 5 (v := .int (S.1 5)) (by decide) (.tail _ qM_38) rfl dX12_isSignHere_1 rfl ?_
  refine lv_topi (fun v2 ev2 => ?_)
  have h := elet_at ev2 h
  clear ev2
  refine lv_if_ne (tgt := 27) hx hb dX12_isSignHere_4 (by decide) (fun c3 => ?_) (fun c3 => ?_)
  · have h := oif_neg c3 h
    have hl := lv_sub hl [] rfl
    exact tr_isSignHere_b27 E hA hR hml (fun H locs ls gz G => W.zret (v := r1) hx hb hr (nar01 gz) (fun t ht hW => ⟨⟨r1, S1, rfl, ⟨rfl, rfl⟩, ⟨by rw [ht]; exact G.1, va_K.moved hW.alike hK, G.2.1⟩⟩, G.2.2.F ht⟩) G.2.2.2.2 dX12_isSignHere_28) _ _ _ _ h G hl
  · have h := oif_pos c3 h
    refine lv_aload_n hx hb dX12_isSignHere_7 rfl (lv_at hl 0 rfl) ?_
    refine m_get E G 7 (v := .int (S.1 7)) (by decide) (.tail _ qM_47) rfl dX12_isSignHere_8 rfl ?_
    refine lv_topi (fun v4 ev4 => ?_)
    have h := elet_at ev4 h
    clear ev4
    refine lv_iconst (v := 4) hx hb dX12_isSignHere_11 (by decide) ?_
    refine lv_icmp_ne (tgt := 27) hx hb dX12_isSignHere_12 (by decide) (fun c5 => ?_) (fun c5 => ?_)
    · have h := oif_neg c5 h
      have hl := lv_sub hl [] rfl
      exact tr_isSignHere_b27 E hA hR hml (fun H locs ls gz G => W.zret (v := r1) hx hb hr (nar01 gz) (fun t ht hW => ⟨⟨r1, S1, rfl, ⟨rfl, rfl⟩, ⟨by rw [ht]; exact G.1, va_K.moved hW.alike hK, G.2.1⟩⟩, G.2.2.F ht⟩) G.2.2.2.2 dX12_isSignHere_28) _ _ _ _ h G hl
    · have h := oif_pos c5 h
      refine lv_aload_n hx hb dX12_isSignHere_15 rfl (lv_at hl 0 rfl) ?_
      refine m_get E G 9 (v := .int (S.1 9)) (by decide) (.tail _ qM_48) rfl dX12_isSignHere_16 rfl ?_
      refine lv_topi (fun v6 ev6 => ?_)
      have h := elet_at ev6 h
      clear ev6
      refine lv_iload_n hx hb dX12_isSignHere_19 rfl (lv_at hl 1 rfl) ?_
      refine lv_icmp_ne (tgt := 27) hx hb dX12_isSignHere_20 (by decide) (fun c7 => ?_) (fun c7 => ?_)
      · have h := oif_neg c7 h
        have hl := lv_sub hl [] rfl
        exact tr_isSignHere_b27 E hA hR hml (fun H locs ls gz G => W.zret (v := r1) hx hb hr (nar01 gz) (fun t ht hW => ⟨⟨r1, S1, rfl, ⟨rfl, rfl⟩, ⟨by rw [ht]; exact G.1, va_K.moved hW.alike hK, G.2.1⟩⟩, G.2.2.F ht⟩) G.2.2.2.2 dX12_isSignHere_28) _ _ _ _ h G hl
      · have h := oif_pos c7 h
        refine lv_iconst (v := 1) hx hb dX12_isSignHere_23 (by decide) ?_
        refine lv_goto (tgt := 28) hx hb dX12_isSignHere_24 (by decide) ?_
        have hl := lv_sub hl [] rfl
        exact tr_isSignHere_b28 E hA hR hml (fun H locs ls gz G => W.zret (v := r1) hx hb hr (nar01 gz) (fun t ht hW => ⟨⟨r1, S1, rfl, ⟨rfl, rfl⟩, ⟨by rw [ht]; exact G.1, va_K.moved hW.alike hK, G.2.1⟩⟩, G.2.2.F ht⟩) G.2.2.2.2 dX12_isSignHere_28) _ _ _ _ _ h G hl
def fr_isWord_b31 (tx : Nat × (Nat → Int32))  (S : MS)  : Option (Int32 × MS) := some (0, S)
set_option maxHeartbeats 4000000 in
set_option maxRecDepth 100000 in
theorem tr_isWord_b31 {p : Program} {l : Launch} {e : Env} {s : State} {m : MethodId} {args : Array Value} {below : List Frame} {meth : Method} {c : Code} {Q : State → Prop} {D : va_G} {A : Nat → Prop} {cI cJ cZ : ClassId} {ad : Nat → Nat} {q : Nat} {tx : Nat × (Nat → Int32)} {r1 : Int32} {S1 : MS} (E : mE p c cX12_isWord s m args (Cond.code yX12_isWord cX12_isWord 3 (some .boolean) :: wsM) D cI cJ cZ) (hA : ∀ q : Nat, s.heap.size ≤ q → A q) (hR : sR s) (hml : c.maxLocals = 3) {h0 : Nat} (hA0 : ∀ a : Nat, A a → h0 ≤ a) (hT : sAll h0 s) (hO : sO tx q (fun a => h0 ≤ a) s s.heap) (hC : sT tx) (kr32 : ∀ (H : Heap) (locs : List Loc) (ls : Array Slot), (r1 = 0 ∨ r1 = 1) → mG D cI cJ cZ ad A s.heap H locs S1 → W p l e { frames := 5, cells := 0, slots := 0, locals := 87 } s m args below meth c H locs 0 0 Q (F0 m 32 ls [.int r1])) (kr63 : ∀ (H : Heap) (locs : List Loc) (ls : Array Slot), (r1 = 0 ∨ r1 = 1) → mG D cI cJ cZ ad A s.heap H locs S1 → W p l e { frames := 5, cells := 0, slots := 0, locals := 87 } s m args below meth c H locs 0 0 Q (F0 m 63 ls [.int r1])) (kr71 : ∀ (H : Heap) (locs : List Loc) (ls : Array Slot), (r1 = 0 ∨ r1 = 1) → mG D cI cJ cZ ad A s.heap H locs S1 → W p l e { frames := 5, cells := 0, slots := 0, locals := 87 } s m args below meth c H locs 0 0 Q (F0 m 71 ls [.int r1])) : ∀ (S : MS) (H : Heap) (locs : List Loc) (ls : Array Slot), fr_isWord_b31 tx S = some (r1, S1) → mG D cI cJ cZ ad A s.heap H locs S → lv_has ls 3 [] → W p l e { frames := 5, cells := 0, slots := 0, locals := 87 } s m args below meth c H locs 0 0 Q (F0 m 31 ls []) := by
  have hx := E.1
  have hb := E.2.1
  have hts := E.2.2.1
  have hown := E.2.2.2.1
  have hK := E.2.2.2.2.1
  intro S H locs ls h G hl
  unfold fr_isWord_b31 at h
  refine lv_iconst (v := 0) hx hb dX12_isWord_31 (by decide) ?_
  rw [(osome2 h).2] at G
  refine lv_to (osome2 h).1 ?_
  exact kr32 _ _ _ (.inl ((osome2 h).1).symm) G
def fr_isWord_b35 (tx : Nat × (Nat → Int32))  : Nat → MS → Int32 → Option (Int32 × MS)
  | 0, _, _ => none
  | n + 1, S, l2 => elet (nI tx.1 >>> (0 &&& 31)) fun v3 => if v3 ≤ l2 then (some (1, S)) else (elet (S.1 8) fun v5 => elet (v5 + l2) fun v6 => oif (inb v6 1000 = true) <| elet (S.2.1 1 v6.toNatClampNeg) fun v8 => oif (inb l2 tx.1 = true) <| elet (s_ch (tx.2 l2.toNatClampNeg)) fun v11 => if v8 = v11 then (elet (l2 + Int32.ofInt (1)) fun v13 => fr_isWord_b35 tx n S v13) else (some (0, S)))
set_option maxHeartbeats 4000000 in
set_option maxRecDepth 100000 in
theorem tr_isWord_b35 {p : Program} {l : Launch} {e : Env} {s : State} {m : MethodId} {args : Array Value} {below : List Frame} {meth : Method} {c : Code} {Q : State → Prop} {D : va_G} {A : Nat → Prop} {cI cJ cZ : ClassId} {ad : Nat → Nat} {q : Nat} {tx : Nat × (Nat → Int32)} {r1 : Int32} {S1 : MS} (E : mE p c cX12_isWord s m args (Cond.code yX12_isWord cX12_isWord 3 (some .boolean) :: wsM) D cI cJ cZ) (hA : ∀ q : Nat, s.heap.size ≤ q → A q) (hR : sR s) (hml : c.maxLocals = 3) {h0 : Nat} (hA0 : ∀ a : Nat, A a → h0 ≤ a) (hT : sAll h0 s) (hO : sO tx q (fun a => h0 ≤ a) s s.heap) (hC : sT tx) (kr32 : ∀ (H : Heap) (locs : List Loc) (ls : Array Slot), (r1 = 0 ∨ r1 = 1) → mG D cI cJ cZ ad A s.heap H locs S1 → W p l e { frames := 5, cells := 0, slots := 0, locals := 87 } s m args below meth c H locs 0 0 Q (F0 m 32 ls [.int r1])) (kr63 : ∀ (H : Heap) (locs : List Loc) (ls : Array Slot), (r1 = 0 ∨ r1 = 1) → mG D cI cJ cZ ad A s.heap H locs S1 → W p l e { frames := 5, cells := 0, slots := 0, locals := 87 } s m args below meth c H locs 0 0 Q (F0 m 63 ls [.int r1])) (kr71 : ∀ (H : Heap) (locs : List Loc) (ls : Array Slot), (r1 = 0 ∨ r1 = 1) → mG D cI cJ cZ ad A s.heap H locs S1 → W p l e { frames := 5, cells := 0, slots := 0, locals := 87 } s m args below meth c H locs 0 0 Q (F0 m 71 ls [.int r1])) : ∀ n : Nat, ∀ (S : MS) (H : Heap) (locs : List Loc) (ls : Array Slot) (l2 : Int32), fr_isWord_b35 tx n S l2 = some (r1, S1) → mG D cI cJ cZ ad A s.heap H locs S → lv_has ls 3 [(0, .ref (ad 0)), (1, .ref q), (2, .int l2)] → W p l e { frames := 5, cells := 0, slots := 0, locals := 87 } s m args below meth c H locs 0 0 Q (F0 m 35 ls []) := by
  have hx := E.1
  have hb := E.2.1
  have hts := E.2.2.1
  have hown := E.2.2.2.1
  have hK := E.2.2.2.2.1
  intro n
  induction n with
  | zero =>
    intro S H locs ls l2 h
    have h : (none : Option (Int32 × MS)) = some (r1, S1) := h
    cases h
  | succ n ih =>
    intro S H locs ls l2 h G hl
    unfold fr_isWord_b35 at h
    refine lv_iload_n hx hb dX12_isWord_35 rfl (lv_at hl 2 rfl) ?_
    refine lv_aload_n hx hb dX12_isWord_36 rfl (lv_at hl 1 rfl) ?_
    refine s_callV (As := []) (rest := [.int l2]) ⟨hx, hb, hml, hown, hts⟩ (j_length l (tx := tx) (q := q)) (cwV 0 hts (gmV qM_58 qM_59 qM_60 qM_61 qM_62) rfl rfl rfl (by decide +kernel) ⟨Nat.le_of_ble_eq_true rfl, Nat.le_of_ble_eq_true rfl⟩) (sO.recv hO hA0 G.2.2) (fun _ _ _ _ h => h.blind) (sP.go hO hT.2 hA0 G.2.2) rfl hl.1 rfl (lv_room (Nat.le_of_ble_eq_true rfl)) dX12_isWord_37 ⟨Nat.zero_le _, Nat.zero_le _⟩ (fun r2 hq => ?_)
    refine lv_to hq ?_
    clear hq
    refine lv_topi (fun v3 ev3 => ?_)
    have h := elet_at ev3 h
    clear ev3
    refine lv_icmp_ge (tgt := 70) hx hb dX12_isWord_40 (by decide) (fun c4 => ?_) (fun c4 => ?_)
    · have h := oif_pos c4 h
      refine lv_iconst (v := 1) hx hb dX12_isWord_70 (by decide) ?_
      rw [(osome2 h).2] at G
      refine lv_to (osome2 h).1 ?_
      exact kr71 _ _ _ (.inr ((osome2 h).1).symm) G
    · have h := oif_neg c4 h
      refine lv_aload_n hx hb dX12_isWord_43 rfl (lv_at hl 0 rfl) ?_
      refine m_get E G 1 (v := .ref (ad 1)) (by decide) (.tail _ qM_5) rfl dX12_isWord_44 rfl ?_
      refine lv_aload_n hx hb dX12_isWord_47 rfl (lv_at hl 0 rfl) ?_
      refine m_get E G 8 (v := .int (S.1 8)) (by decide) (.tail _ qM_43) rfl dX12_isWord_48 rfl ?_
      refine lv_topi (fun v5 ev5 => ?_)
      have h := elet_at ev5 h
      clear ev5
      refine lv_iload_n hx hb dX12_isWord_51 rfl (lv_at hl 2 rfl) ?_
      refine lv_iadd hx hb dX12_isWord_52 ?_
      refine lv_topi (fun v6 ev6 => ?_)
      have h := elet_at ev6 h
      clear ev6
      obtain ⟨g7, h⟩ := oif_some h
      refine m_iald E G 1 1 (n := 1000) (k := v6.toNatClampNeg) rfl (inb_k g7).1 (inb_k g7).2 (by decide) dX12_isWord_53 ?_
      refine lv_topi (fun v8 ev8 => ?_)
      have h := elet_at ev8 h
      clear ev8
      refine lv_aload_n hx hb dX12_isWord_54 rfl (lv_at hl 1 rfl) ?_
      refine lv_iload_n hx hb dX12_isWord_55 rfl (lv_at hl 2 rfl) ?_
      obtain ⟨g10, h⟩ := oif_some h
      refine lv_to (inb_k g10).1 ?_
      refine s_callV (As := [.int (nI l2.toNatClampNeg)]) (rest := [.int v8]) ⟨hx, hb, hml, hown, hts⟩ (j_charAt l (tx := tx) (q := q) (inb_k g10).2 hC.1 (hC.2 _ (inb_k g10).2)) (cwV 1 hts (gmV qM_70 qM_71 qM_72 qM_61 qM_73) rfl rfl rfl (by decide +kernel) ⟨Nat.le_of_ble_eq_true rfl, Nat.le_of_ble_eq_true rfl⟩) (sO.recv hO hA0 G.2.2) (fun _ _ _ _ h => h.blind) (sP.go hO hT.2 hA0 G.2.2) rfl hl.1 rfl (lv_room (Nat.le_of_ble_eq_true rfl)) dX12_isWord_56 ⟨Nat.zero_le _, Nat.zero_le _⟩ (fun r9 hq => ?_)
      refine lv_to hq ?_
      clear hq
      refine lv_topi (fun v11 ev11 => ?_)
      have h := elet_at ev11 h
      clear ev11
      refine lv_icmp_eq (tgt := 64) hx hb dX12_isWord_59 (by decide) (fun c12 => ?_) (fun c12 => ?_)
      · have h := oif_pos c12 h
        obtain ⟨v13, ev13, h⟩ := elet_some h
        refine lv_iinc (v := v13) (lv' := [(2, .int v13), (0, .ref (ad 0)), (1, .ref q)]) hx hb dX12_isWord_64 hl (k := 2) rfl ev13.symm (by decide) rfl (fun ls hl => ?_)
        refine lv_goto (tgt := 35) hx hb dX12_isWord_67 (by decide) ?_
        have hl := lv_sub hl [1, 2, 0] rfl
        exact ih _ _ _ _ _ h G hl
      · have h := oif_neg c12 h
        refine lv_iconst (v := 0) hx hb dX12_isWord_62 (by decide) ?_
        rw [(osome2 h).2] at G
        refine lv_to (osome2 h).1 ?_
        exact kr63 _ _ _ (.inl ((osome2 h).1).symm) G
def fr_isWord (S : MS) (tx : Nat × (Nat → Int32))  : Option (Int32 × MS) := elet (S.1 5) fun v2 => if 0 < v2 then (fr_isWord_b31 tx S) else (elet (S.1 7) fun v4 => if v4 = 2 then (elet (S.1 4) fun v6 => elet (S.1 8) fun v7 => elet (v6 - v7) fun v8 => elet (nI tx.1 >>> (0 &&& 31)) fun v10 => if v8 = v10 then (fr_isWord_b35 tx 16384 S 0) else (fr_isWord_b31 tx S)) else (fr_isWord_b31 tx S))
set_option maxHeartbeats 4000000 in
set_option maxRecDepth 100000 in
theorem tr_isWord (l : Launch) (D : va_G) (cI cJ cZ : ClassId) (ad : Nat → Nat) (S : MS) (h0 : Nat) {q : Nat} {tx : Nat × (Nat → Int32)} (hC : sT tx)  {r1 : Int32} {S1 : MS} (h : fr_isWord S tx = some (r1, S1)) : mCiX l yX12_isWord (Cond.code yX12_isWord cX12_isWord 3 (some .boolean) :: wsM) 5 87 D cI cJ cZ ad S [.ref q] (xT1 cI cJ cZ h0 ad S tx q) (fun r S9 => r = r1 ∧ S9 = S1) := by
  intro sz
  refine Met.ofW (cc := cX12_isWord) (maxL := 3) (ret := (some .boolean)) (by decide) rfl ?_
  intro p e s m args below meth c s₁ B hml hv
  obtain ⟨rfl, ⟨hsz, hP, hK, hD0, hR⟩, ⟨hA1, hT⟩, hO⟩ := hv
  have hx := B.exec
  have hb := B.bytes
  have hr := B.returns
  have hts := atoms_spec (ws := (Cond.code yX12_isWord cX12_isWord 3 (some .boolean) :: wsM)) B.pre
  have hown : s.vm.findClass RX12 = some m.cls := findClass_of_methodNamed B.named
  have hlocks := B.notSynchronized
  subst hsz
  have hD := hD0.self (sz := s.heap.size)
  generalize hAe : va_A (MW cI cJ cZ ad S) s.heap.size = A at hD hA1 ⊢
  have hA : ∀ q : Nat, s.heap.size ≤ q → A q := fun q h => by rw [← hAe]; exact Or.inr h
  have G : mG D cI cJ cZ ad A s.heap s.heap [] S := ⟨hP, hD, va_S.rf⟩
  have E : mE p c cX12_isWord s m ([.ref (ad 0), .ref q] : List Value).toArray (Cond.code yX12_isWord cX12_isWord 3 (some .boolean) :: wsM) D cI cJ cZ := ⟨hx, hb, hts, hown, hK, fun w h => .tail _ (iM_x h)⟩
  have hA0 : ∀ a : Nat, A a → h0 ≤ a := hA1
  have hl := lv_entry ([.ref (ad 0), .ref q]) (n := 3) (Nat.le_of_ble_eq_true rfl)
  rw [lg_entry_eq]
  generalize (lg_sl ([.ref (ad 0), .ref q]) ++ List.replicate (3 - (lg_sl ([.ref (ad 0), .ref q])).length) Slot.unset).toArray = ls at hl ⊢
  have hl : lv_has ls 3 [(0, .ref (ad 0)), (1, .ref q)] := hl
  unfold fr_isWord at h
  refine lv_aload_n hx hb dX12_isWord_0 rfl (lv_at hl 0 rfl) ?_
  refine m_get E G 5 (v := .int (S.1 5)) (by decide) (.tail _ qM_38) rfl dX12_isWord_1 rfl ?_
  refine lv_topi (fun v2 ev2 => ?_)
  have h := elet_at ev2 h
  clear ev2
  refine lv_if_gt (tgt := 31) hx hb dX12_isWord_4 (by decide) (fun c3 => ?_) (fun c3 => ?_)
  · have h := oif_pos c3 h
    have hl := lv_sub hl [] rfl
    exact tr_isWord_b31 E hA hR hml hA0 hT hO hC (fun H locs ls gz G => W.zret (v := r1) hx hb hr (nar01 gz) (fun t ht hW => ⟨⟨r1, S1, rfl, ⟨rfl, rfl⟩, ⟨by rw [ht]; exact G.1, va_K.moved hW.alike hK, G.2.1⟩⟩, G.2.2.F ht⟩) G.2.2.2.2 dX12_isWord_32) (fun H locs ls gz G => W.zret (v := r1) hx hb hr (nar01 gz) (fun t ht hW => ⟨⟨r1, S1, rfl, ⟨rfl, rfl⟩, ⟨by rw [ht]; exact G.1, va_K.moved hW.alike hK, G.2.1⟩⟩, G.2.2.F ht⟩) G.2.2.2.2 dX12_isWord_63) (fun H locs ls gz G => W.zret (v := r1) hx hb hr (nar01 gz) (fun t ht hW => ⟨⟨r1, S1, rfl, ⟨rfl, rfl⟩, ⟨by rw [ht]; exact G.1, va_K.moved hW.alike hK, G.2.1⟩⟩, G.2.2.F ht⟩) G.2.2.2.2 dX12_isWord_71) _ _ _ _ h G hl
  · have h := oif_neg c3 h
    refine lv_aload_n hx hb dX12_isWord_7 rfl (lv_at hl 0 rfl) ?_
    refine m_get E G 7 (v := .int (S.1 7)) (by decide) (.tail _ qM_47) rfl dX12_isWord_8 rfl ?_
    refine lv_topi (fun v4 ev4 => ?_)
    have h := elet_at ev4 h
    clear ev4
    refine lv_iconst (v := 2) hx hb dX12_isWord_11 (by decide) ?_
    refine lv_icmp_ne (tgt := 31) hx hb dX12_isWord_12 (by decide) (fun c5 => ?_) (fun c5 => ?_)
    · have h := oif_neg c5 h
      have hl := lv_sub hl [] rfl
      exact tr_isWord_b31 E hA hR hml hA0 hT hO hC (fun H locs ls gz G => W.zret (v := r1) hx hb hr (nar01 gz) (fun t ht hW => ⟨⟨r1, S1, rfl, ⟨rfl, rfl⟩, ⟨by rw [ht]; exact G.1, va_K.moved hW.alike hK, G.2.1⟩⟩, G.2.2.F ht⟩) G.2.2.2.2 dX12_isWord_32) (fun H locs ls gz G => W.zret (v := r1) hx hb hr (nar01 gz) (fun t ht hW => ⟨⟨r1, S1, rfl, ⟨rfl, rfl⟩, ⟨by rw [ht]; exact G.1, va_K.moved hW.alike hK, G.2.1⟩⟩, G.2.2.F ht⟩) G.2.2.2.2 dX12_isWord_63) (fun H locs ls gz G => W.zret (v := r1) hx hb hr (nar01 gz) (fun t ht hW => ⟨⟨r1, S1, rfl, ⟨rfl, rfl⟩, ⟨by rw [ht]; exact G.1, va_K.moved hW.alike hK, G.2.1⟩⟩, G.2.2.F ht⟩) G.2.2.2.2 dX12_isWord_71) _ _ _ _ h G hl
    · have h := oif_pos c5 h
      refine lv_aload_n hx hb dX12_isWord_15 rfl (lv_at hl 0 rfl) ?_
      refine m_get E G 4 (v := .int (S.1 4)) (by decide) (.tail _ qM_46) rfl dX12_isWord_16 rfl ?_
      refine lv_topi (fun v6 ev6 => ?_)
      have h := elet_at ev6 h
      clear ev6
      refine lv_aload_n hx hb dX12_isWord_19 rfl (lv_at hl 0 rfl) ?_
      refine m_get E G 8 (v := .int (S.1 8)) (by decide) (.tail _ qM_43) rfl dX12_isWord_20 rfl ?_
      refine lv_topi (fun v7 ev7 => ?_)
      have h := elet_at ev7 h
      clear ev7
      refine lv_isub hx hb dX12_isWord_23 ?_
      refine lv_topi (fun v8 ev8 => ?_)
      have h := elet_at ev8 h
      clear ev8
      refine lv_aload_n hx hb dX12_isWord_24 rfl (lv_at hl 1 rfl) ?_
      refine s_callV (As := []) (rest := [.int v8]) ⟨hx, hb, hml, hown, hts⟩ (j_length l (tx := tx) (q := q)) (cwV 0 hts (gmV qM_58 qM_59 qM_60 qM_61 qM_62) rfl rfl rfl (by decide +kernel) ⟨Nat.le_of_ble_eq_true rfl, Nat.le_of_ble_eq_true rfl⟩) (sO.recv hO hA0 G.2.2) (fun _ _ _ _ h => h.blind) (sP.go hO hT.2 hA0 G.2.2) rfl hl.1 rfl (lv_room (Nat.le_of_ble_eq_true rfl)) dX12_isWord_25 ⟨Nat.zero_le _, Nat.zero_le _⟩ (fun r9 hq => ?_)
      refine lv_to hq ?_
      clear hq
      refine lv_topi (fun v10 ev10 => ?_)
      have h := elet_at ev10 h
      clear ev10
      refine lv_icmp_eq (tgt := 33) hx hb dX12_isWord_28 (by decide) (fun c11 => ?_) (fun c11 => ?_)
      · have h := oif_pos c11 h
        refine lv_iconst (v := 0) hx hb dX12_isWord_33 (by decide) ?_
        refine lv_istore_n (lv' := [(2, .int 0), (0, .ref (ad 0)), (1, .ref q)]) hx hb dX12_isWord_34 rfl hl (by decide) rfl (fun ls hl => ?_)
        have hl := lv_sub hl [1, 2, 0] rfl
        exact tr_isWord_b35 E hA hR hml hA0 hT hO hC (fun H locs ls gz G => W.zret (v := r1) hx hb hr (nar01 gz) (fun t ht hW => ⟨⟨r1, S1, rfl, ⟨rfl, rfl⟩, ⟨by rw [ht]; exact G.1, va_K.moved hW.alike hK, G.2.1⟩⟩, G.2.2.F ht⟩) G.2.2.2.2 dX12_isWord_32) (fun H locs ls gz G => W.zret (v := r1) hx hb hr (nar01 gz) (fun t ht hW => ⟨⟨r1, S1, rfl, ⟨rfl, rfl⟩, ⟨by rw [ht]; exact G.1, va_K.moved hW.alike hK, G.2.1⟩⟩, G.2.2.F ht⟩) G.2.2.2.2 dX12_isWord_63) (fun H locs ls gz G => W.zret (v := r1) hx hb hr (nar01 gz) (fun t ht hW => ⟨⟨r1, S1, rfl, ⟨rfl, rfl⟩, ⟨by rw [ht]; exact G.1, va_K.moved hW.alike hK, G.2.1⟩⟩, G.2.2.F ht⟩) G.2.2.2.2 dX12_isWord_71) _ _ _ _ _ _ h G hl
      · have h := oif_neg c11 h
        have hl := lv_sub hl [] rfl
        exact tr_isWord_b31 E hA hR hml hA0 hT hO hC (fun H locs ls gz G => W.zret (v := r1) hx hb hr (nar01 gz) (fun t ht hW => ⟨⟨r1, S1, rfl, ⟨rfl, rfl⟩, ⟨by rw [ht]; exact G.1, va_K.moved hW.alike hK, G.2.1⟩⟩, G.2.2.F ht⟩) G.2.2.2.2 dX12_isWord_32) (fun H locs ls gz G => W.zret (v := r1) hx hb hr (nar01 gz) (fun t ht hW => ⟨⟨r1, S1, rfl, ⟨rfl, rfl⟩, ⟨by rw [ht]; exact G.1, va_K.moved hW.alike hK, G.2.1⟩⟩, G.2.2.F ht⟩) G.2.2.2.2 dX12_isWord_63) (fun H locs ls gz G => W.zret (v := r1) hx hb hr (nar01 gz) (fun t ht hW => ⟨⟨r1, S1, rfl, ⟨rfl, rfl⟩, ⟨by rw [ht]; exact G.1, va_K.moved hW.alike hK, G.2.1⟩⟩, G.2.2.F ht⟩) G.2.2.2.2 dX12_isWord_71) _ _ _ _ h G hl
def fr_takes_b14 (tx : Nat × (Nat → Int32))  (S : MS) (l2 : Int32) : Option (Int32 × MS) := oif (l2 = 0 ∨ l2 = 1) <| some (l2, S)
set_option maxHeartbeats 4000000 in
set_option maxRecDepth 100000 in
theorem tr_takes_b14 {p : Program} {l : Launch} {e : Env} {s : State} {m : MethodId} {args : Array Value} {below : List Frame} {meth : Method} {c : Code} {Q : State → Prop} {D : va_G} {A : Nat → Prop} {cI cJ cZ : ClassId} {ad : Nat → Nat} {q : Nat} {tx : Nat × (Nat → Int32)} {r1 : Int32} {S1 : MS} (E : mE p c cX12_takes s m args (Cond.code yX12_takes cX12_takes 3 (some .boolean) :: wsM) D cI cJ cZ) (hA : ∀ q : Nat, s.heap.size ≤ q → A q) (hR : sR s) (hml : c.maxLocals = 3) {h0 : Nat} (hA0 : ∀ a : Nat, A a → h0 ≤ a) (hT : sAll h0 s) (hO : sO tx q (fun a => h0 ≤ a) s s.heap) (hC : sT tx) (kr15 : ∀ (H : Heap) (locs : List Loc) (ls : Array Slot), (r1 = 0 ∨ r1 = 1) → mG D cI cJ cZ ad A s.heap H locs S1 → W p l e { frames := 6, cells := 0, slots := 0, locals := 109 } s m args below meth c H locs 0 0 Q (F0 m 15 ls [.int r1])) : ∀ (S : MS) (H : Heap) (locs : List Loc) (ls : Array Slot) (l2 : Int32), fr_takes_b14 tx S l2 = some (r1, S1) → mG D cI cJ cZ ad A s.heap H locs S → lv_has ls 3 [(2, .int l2)] → W p l e { frames := 6, cells := 0, slots := 0, locals := 109 } s m args below meth c H locs 0 0 Q (F0 m 14 ls []) := by
  have hx := E.1
  have hb := E.2.1
  have hts := E.2.2.1
  have hown := E.2.2.2.1
  have hK := E.2.2.2.2.1
  intro S H locs ls l2 h G hl
  unfold fr_takes_b14 at h
  refine lv_iload_n hx hb dX12_takes_14 rfl (lv_at hl 0 rfl) ?_
  obtain ⟨gz, h⟩ := oif_some h
  have gr : r1 = 0 ∨ r1 = 1 := by rw [← (osome2 h).1]; exact gz
  rw [(osome2 h).2] at G
  refine lv_to (osome2 h).1 ?_
  exact kr15 _ _ _ gr G
def fr_takes (S : MS) (tx : Nat × (Nat → Int32))  : Option (Int32 × MS) := obind2 (fr_isWord S tx) fun r5 S2 => if r5 = 0 then (fr_takes_b14 tx S2 r5) else (obind (fr_nextToken S2) fun S7 => fr_takes_b14 tx S7 r5)
set_option maxHeartbeats 4000000 in
set_option maxRecDepth 100000 in
theorem tr_takes (l : Launch) (D : va_G) (cI cJ cZ : ClassId) (ad : Nat → Nat) (S : MS) (h0 : Nat) {q : Nat} {tx : Nat × (Nat → Int32)} (hC : sT tx)  {r1 : Int32} {S1 : MS} (h : fr_takes S tx = some (r1, S1)) : mCiX l yX12_takes (Cond.code yX12_takes cX12_takes 3 (some .boolean) :: wsM) 6 109 D cI cJ cZ ad S [.ref q] (xT1 cI cJ cZ h0 ad S tx q) (fun r S9 => r = r1 ∧ S9 = S1) := by
  intro sz
  refine Met.ofW (cc := cX12_takes) (maxL := 3) (ret := (some .boolean)) (by decide) rfl ?_
  intro p e s m args below meth c s₁ B hml hv
  obtain ⟨rfl, ⟨hsz, hP, hK, hD0, hR⟩, ⟨hA1, hT⟩, hO⟩ := hv
  have hx := B.exec
  have hb := B.bytes
  have hr := B.returns
  have hts := atoms_spec (ws := (Cond.code yX12_takes cX12_takes 3 (some .boolean) :: wsM)) B.pre
  have hown : s.vm.findClass RX12 = some m.cls := findClass_of_methodNamed B.named
  have hlocks := B.notSynchronized
  subst hsz
  have hD := hD0.self (sz := s.heap.size)
  generalize hAe : va_A (MW cI cJ cZ ad S) s.heap.size = A at hD hA1 ⊢
  have hA : ∀ q : Nat, s.heap.size ≤ q → A q := fun q h => by rw [← hAe]; exact Or.inr h
  have G : mG D cI cJ cZ ad A s.heap s.heap [] S := ⟨hP, hD, va_S.rf⟩
  have E : mE p c cX12_takes s m ([.ref (ad 0), .ref q] : List Value).toArray (Cond.code yX12_takes cX12_takes 3 (some .boolean) :: wsM) D cI cJ cZ := ⟨hx, hb, hts, hown, hK, fun w h => .tail _ (iM_x h)⟩
  have hA0 : ∀ a : Nat, A a → h0 ≤ a := hA1
  have hl := lv_entry ([.ref (ad 0), .ref q]) (n := 3) (Nat.le_of_ble_eq_true rfl)
  rw [lg_entry_eq]
  generalize (lg_sl ([.ref (ad 0), .ref q]) ++ List.replicate (3 - (lg_sl ([.ref (ad 0), .ref q])).length) Slot.unset).toArray = ls at hl ⊢
  have hl : lv_has ls 3 [(0, .ref (ad 0)), (1, .ref q)] := hl
  unfold fr_takes at h
  refine lv_aload_n hx hb dX12_takes_0 rfl (lv_at hl 0 rfl) ?_
  refine lv_aload_n hx hb dX12_takes_1 rfl (lv_at hl 1 rfl) ?_
  obtain ⟨r5, S2, eS2, h⟩ := obind2_some h
  refine m_calliX (As := [.ref q]) (rest := []) E G hA hR hml (tr_isWord l D cI cJ cZ ad S h0 (q := q) hC eS2) (cwV 1 hts (gmV qM_108 qM_109 qM_110 qM_35 qM_57) rfl rfl rfl (by decide +kernel) ⟨Nat.le_of_ble_eq_true rfl, Nat.le_of_ble_eq_true rfl⟩) rfl hl.1 rfl (lv_room (Nat.le_of_ble_eq_true rfl)) dX12_takes_2 ⟨Nat.zero_le _, Nat.zero_le _⟩ (xT1.blind) (xT1.go hT hA0 hA G hO) (fun q3 S4 H locs hq G => ?_)
  obtain ⟨hq1, hq2⟩ := hq
  rw [hq2] at G
  refine lv_to hq1 ?_
  clear hq1 hq2 eS2
  refine lv_istore_n (lv' := [(2, .int r5), (0, .ref (ad 0)), (1, .ref q)]) hx hb dX12_takes_5 rfl hl (by decide) rfl (fun ls hl => ?_)
  refine lv_iload_n hx hb dX12_takes_6 rfl (lv_at hl 0 rfl) ?_
  refine lv_if_eq (tgt := 14) hx hb dX12_takes_7 (by decide) (fun c6 => ?_) (fun c6 => ?_)
  · have h := oif_pos c6 h
    have hl := lv_sub hl [0] rfl
    exact tr_takes_b14 E hA hR hml hA0 hT hO hC (fun H locs ls gz G => W.zret (v := r1) hx hb hr (nar01 gz) (fun t ht hW => ⟨⟨r1, S1, rfl, ⟨rfl, rfl⟩, ⟨by rw [ht]; exact G.1, va_K.moved hW.alike hK, G.2.1⟩⟩, G.2.2.F ht⟩) G.2.2.2.2 dX12_takes_15) _ _ _ _ _ h G hl
  · have h := oif_neg c6 h
    refine lv_aload_n hx hb dX12_takes_10 rfl (lv_at hl 1 rfl) ?_
    obtain ⟨S7, eS7, h⟩ := obind_some h
    refine m_callv (As := []) (rest := []) E G hA hR hml (tr_nextToken l D cI cJ cZ ad S2 eS7) (cwV 0 hts (gmV qM_111 qM_112 qM_113 qM_35 qM_45) rfl rfl rfl (by decide +kernel) ⟨Nat.le_of_ble_eq_true rfl, Nat.le_of_ble_eq_true rfl⟩) rfl hl.1 rfl (lv_room (Nat.le_of_ble_eq_true rfl)) dX12_takes_11 ⟨Nat.zero_le _, Nat.zero_le _⟩ (fun S9 H locs hq G => ?_)
    rw [hq] at G
    clear hq eS7
    have hl := lv_sub hl [0] rfl
    exact tr_takes_b14 E hA hR hml hA0 hT hO hC (fun H locs ls gz G => W.zret (v := r1) hx hb hr (nar01 gz) (fun t ht hW => ⟨⟨r1, S1, rfl, ⟨rfl, rfl⟩, ⟨by rw [ht]; exact G.1, va_K.moved hW.alike hK, G.2.1⟩⟩, G.2.2.F ht⟩) G.2.2.2.2 dX12_takes_15) _ _ _ _ _ h G hl
def fr_keyword_b13 (tx : Nat × (Nat → Int32))  (S : MS)  : Option (MS) := some S
set_option maxHeartbeats 4000000 in
set_option maxRecDepth 100000 in
theorem tr_keyword_b13 {p : Program} {l : Launch} {e : Env} {s : State} {m : MethodId} {args : Array Value} {below : List Frame} {meth : Method} {c : Code} {Q : State → Prop} {D : va_G} {A : Nat → Prop} {cI cJ cZ : ClassId} {ad : Nat → Nat} {q : Nat} {tx : Nat × (Nat → Int32)} {S1 : MS} (E : mE p c cX12_keyword s m args (Cond.code yX12_keyword cX12_keyword 2 none :: wsM) D cI cJ cZ) (hA : ∀ q : Nat, s.heap.size ≤ q → A q) (hR : sR s) (hml : c.maxLocals = 2) {h0 : Nat} (hA0 : ∀ a : Nat, A a → h0 ≤ a) (hT : sAll h0 s) (hO : sO tx q (fun a => h0 ≤ a) s s.heap) (hC : sT tx) (kr13 : ∀ (H : Heap) (locs : List Loc) (ls : Array Slot), mG D cI cJ cZ ad A s.heap H locs S1 → W p l e { frames := 7, cells := 0, slots := 0, locals := 131 } s m args below meth c H locs 0 0 Q (F0 m 13 ls [])) : ∀ (S : MS) (H : Heap) (locs : List Loc) (ls : Array Slot), fr_keyword_b13 tx S = some S1 → mG D cI cJ cZ ad A s.heap H locs S → lv_has ls 2 [] → W p l e { frames := 7, cells := 0, slots := 0, locals := 131 } s m args below meth c H locs 0 0 Q (F0 m 13 ls []) := by
  have hx := E.1
  have hb := E.2.1
  have hts := E.2.2.1
  have hown := E.2.2.2.1
  have hK := E.2.2.2.2.1
  intro S H locs ls h G hl
  unfold fr_keyword_b13 at h
  rw [osome1 h] at G
  exact kr13 _ _ _ G
def fr_keyword (S : MS) (tx : Nat × (Nat → Int32))  : Option (MS) := obind2 (fr_takes S tx) fun r5 S2 => if r5 = 0 then (obind (fr_faults S2 1) fun S7 => fr_keyword_b13 tx S7) else (fr_keyword_b13 tx S2)
set_option maxHeartbeats 4000000 in
set_option maxRecDepth 100000 in
theorem tr_keyword (l : Launch) (D : va_G) (cI cJ cZ : ClassId) (ad : Nat → Nat) (S : MS) (h0 : Nat) {q : Nat} {tx : Nat × (Nat → Int32)} (hC : sT tx)  {S1 : MS} (h : fr_keyword S tx = some S1) : mCvX l yX12_keyword (Cond.code yX12_keyword cX12_keyword 2 none :: wsM) 7 131 D cI cJ cZ ad S [.ref q] (xT1 cI cJ cZ h0 ad S tx q) (fun S9 => S9 = S1) := by
  intro sz
  refine Met.ofW (cc := cX12_keyword) (maxL := 2) (ret := none) (by decide) rfl ?_
  intro p e s m args below meth c s₁ B hml hv
  obtain ⟨rfl, ⟨hsz, hP, hK, hD0, hR⟩, ⟨hA1, hT⟩, hO⟩ := hv
  have hx := B.exec
  have hb := B.bytes
  have hr := B.returns
  have hts := atoms_spec (ws := (Cond.code yX12_keyword cX12_keyword 2 none :: wsM)) B.pre
  have hown : s.vm.findClass RX12 = some m.cls := findClass_of_methodNamed B.named
  have hlocks := B.notSynchronized
  subst hsz
  have hD := hD0.self (sz := s.heap.size)
  generalize hAe : va_A (MW cI cJ cZ ad S) s.heap.size = A at hD hA1 ⊢
  have hA : ∀ q : Nat, s.heap.size ≤ q → A q := fun q h => by rw [← hAe]; exact Or.inr h
  have G : mG D cI cJ cZ ad A s.heap s.heap [] S := ⟨hP, hD, va_S.rf⟩
  have E : mE p c cX12_keyword s m ([.ref (ad 0), .ref q] : List Value).toArray (Cond.code yX12_keyword cX12_keyword 2 none :: wsM) D cI cJ cZ := ⟨hx, hb, hts, hown, hK, fun w h => .tail _ (iM_x h)⟩
  have hA0 : ∀ a : Nat, A a → h0 ≤ a := hA1
  have hl := lv_entry ([.ref (ad 0), .ref q]) (n := 2) (Nat.le_of_ble_eq_true rfl)
  rw [lg_entry_eq]
  generalize (lg_sl ([.ref (ad 0), .ref q]) ++ List.replicate (2 - (lg_sl ([.ref (ad 0), .ref q])).length) Slot.unset).toArray = ls at hl ⊢
  have hl : lv_has ls 2 [(0, .ref (ad 0)), (1, .ref q)] := hl
  unfold fr_keyword at h
  refine lv_aload_n hx hb dX12_keyword_0 rfl (lv_at hl 0 rfl) ?_
  refine lv_aload_n hx hb dX12_keyword_1 rfl (lv_at hl 1 rfl) ?_
  obtain ⟨r5, S2, eS2, h⟩ := obind2_some h
  refine m_calliX (As := [.ref q]) (rest := []) E G hA hR hml (tr_takes l D cI cJ cZ ad S h0 (q := q) hC eS2) (cwV 1 hts (gmV qM_115 qM_116 qM_117 qM_35 qM_107) rfl rfl rfl (by decide +kernel) ⟨Nat.le_of_ble_eq_true rfl, Nat.le_of_ble_eq_true rfl⟩) rfl hl.1 rfl (lv_room (Nat.le_of_ble_eq_true rfl)) dX12_keyword_2 ⟨Nat.zero_le _, Nat.zero_le _⟩ (xT1.blind) (xT1.go hT hA0 hA G hO) (fun q3 S4 H locs hq G => ?_)
  obtain ⟨hq1, hq2⟩ := hq
  rw [hq2] at G
  refine lv_to hq1 ?_
  clear hq1 hq2 eS2
  refine lv_if_ne (tgt := 13) hx hb dX12_keyword_5 (by decide) (fun c6 => ?_) (fun c6 => ?_)
  · have h := oif_neg c6 h
    have hl := lv_sub hl [] rfl
    exact tr_keyword_b13 E hA hR hml hA0 hT hO hC (fun H locs ls G => W.vret hx hb hr (fun t ht hW => ⟨⟨S1, rfl, rfl, ⟨by rw [ht]; exact G.1, va_K.moved hW.alike hK, G.2.1⟩⟩, G.2.2.F ht⟩) G.2.2.2.2 dX12_keyword_13) _ _ _ _ h G hl
  · have h := oif_pos c6 h
    refine lv_aload_n hx hb dX12_keyword_8 rfl (lv_at hl 0 rfl) ?_
    refine lv_iconst (v := 1) hx hb dX12_keyword_9 (by decide) ?_
    obtain ⟨S7, eS7, h⟩ := obind_some h
    refine m_callv (As := [.int 1]) (rest := []) E G hA hR hml (tr_faults l D cI cJ cZ ad S2 1 eS7) (cwV 1 hts (gmV qM_118 qM_119 qM_120 qM_35 qM_42) rfl rfl rfl (by decide +kernel) ⟨Nat.le_of_ble_eq_true rfl, Nat.le_of_ble_eq_true rfl⟩) rfl hl.1 rfl (lv_room (Nat.le_of_ble_eq_true rfl)) dX12_keyword_10 ⟨Nat.zero_le _, Nat.zero_le _⟩ (fun S9 H locs hq G => ?_)
    rw [hq] at G
    clear hq eS7
    have hl := lv_sub hl [] rfl
    exact tr_keyword_b13 E hA hR hml hA0 hT hO hC (fun H locs ls G => W.vret hx hb hr (fun t ht hW => ⟨⟨S1, rfl, rfl, ⟨by rw [ht]; exact G.1, va_K.moved hW.alike hK, G.2.1⟩⟩, G.2.2.F ht⟩) G.2.2.2.2 dX12_keyword_13) _ _ _ _ h G hl
def fr_look_b57  (S : MS) (s0 : Int32) : Option (Int32 × MS) := some (s0, S)
set_option maxHeartbeats 4000000 in
set_option maxRecDepth 100000 in
theorem tr_look_b57 {p : Program} {l : Launch} {e : Env} {s : State} {m : MethodId} {args : Array Value} {below : List Frame} {meth : Method} {c : Code} {Q : State → Prop} {D : va_G} {A : Nat → Prop} {H0 : Heap} {cI cJ cZ : ClassId} {ad : Nat → Nat} {r1 : Int32} {S1 : MS} (E : mE p c cX12_look s m args (Cond.code yX12_look cX12_look 3 (some .int) :: wsM) D cI cJ cZ) (hA : ∀ q : Nat, H0.size ≤ q → A q) (hR : sR s) (hml : c.maxLocals = 3) (kr8 : ∀ (H : Heap) (locs : List Loc) (ls : Array Slot), mG D cI cJ cZ ad A H0 H locs S1 → W p l e { frames := 2, cells := 0, slots := 0, locals := 22 } s m args below meth c H locs 0 0 Q (F0 m 8 ls [.int r1])) (kr57 : ∀ (H : Heap) (locs : List Loc) (ls : Array Slot), mG D cI cJ cZ ad A H0 H locs S1 → W p l e { frames := 2, cells := 0, slots := 0, locals := 22 } s m args below meth c H locs 0 0 Q (F0 m 57 ls [.int r1])) : ∀ (S : MS) (H : Heap) (locs : List Loc) (ls : Array Slot) (s0 : Int32), fr_look_b57 S s0 = some (r1, S1) → mG D cI cJ cZ ad A H0 H locs S → lv_has ls 3 [] → W p l e { frames := 2, cells := 0, slots := 0, locals := 22 } s m args below meth c H locs 0 0 Q (F0 m 57 ls [.int s0]) := by
  have hx := E.1
  have hb := E.2.1
  have hts := E.2.2.1
  have hown := E.2.2.2.1
  have hK := E.2.2.2.2.1
  intro S H locs ls s0 h G hl
  unfold fr_look_b57 at h
  rw [(osome2 h).2] at G
  refine lv_to (osome2 h).1 ?_
  exact kr57 _ _ _ G
def fr_look_b42  (S : MS) (l1 : Int32) : Option (Int32 × MS) := elet (S.1 5) fun v2 => if v2 ≤ 0 then (elet (S.1 9) fun v4 => fr_look_b57 S v4) else (fr_look_b57 S l1)
set_option maxHeartbeats 4000000 in
set_option maxRecDepth 100000 in
theorem tr_look_b42 {p : Program} {l : Launch} {e : Env} {s : State} {m : MethodId} {args : Array Value} {below : List Frame} {meth : Method} {c : Code} {Q : State → Prop} {D : va_G} {A : Nat → Prop} {H0 : Heap} {cI cJ cZ : ClassId} {ad : Nat → Nat} {r1 : Int32} {S1 : MS} (E : mE p c cX12_look s m args (Cond.code yX12_look cX12_look 3 (some .int) :: wsM) D cI cJ cZ) (hA : ∀ q : Nat, H0.size ≤ q → A q) (hR : sR s) (hml : c.maxLocals = 3) (kr8 : ∀ (H : Heap) (locs : List Loc) (ls : Array Slot), mG D cI cJ cZ ad A H0 H locs S1 → W p l e { frames := 2, cells := 0, slots := 0, locals := 22 } s m args below meth c H locs 0 0 Q (F0 m 8 ls [.int r1])) (kr57 : ∀ (H : Heap) (locs : List Loc) (ls : Array Slot), mG D cI cJ cZ ad A H0 H locs S1 → W p l e { frames := 2, cells := 0, slots := 0, locals := 22 } s m args below meth c H locs 0 0 Q (F0 m 57 ls [.int r1])) : ∀ (S : MS) (H : Heap) (locs : List Loc) (ls : Array Slot) (l1 : Int32), fr_look_b42 S l1 = some (r1, S1) → mG D cI cJ cZ ad A H0 H locs S → lv_has ls 3 [(0, .ref (ad 0)), (1, .int l1)] → W p l e { frames := 2, cells := 0, slots := 0, locals := 22 } s m args below meth c H locs 0 0 Q (F0 m 42 ls []) := by
  have hx := E.1
  have hb := E.2.1
  have hts := E.2.2.1
  have hown := E.2.2.2.1
  have hK := E.2.2.2.2.1
  intro S H locs ls l1 h G hl
  unfold fr_look_b42 at h
  refine lv_aload_n hx hb dX12_look_42 rfl (lv_at hl 0 rfl) ?_
  refine m_get E G 5 (v := .int (S.1 5)) (by decide) (.tail _ qM_38) rfl dX12_look_43 rfl ?_
  refine lv_topi (fun v2 ev2 => ?_)
  have h := elet_at ev2 h
  clear ev2
  refine lv_if_le (tgt := 53) hx hb dX12_look_46 (by decide) (fun c3 => ?_) (fun c3 => ?_)
  · have h := oif_pos c3 h
    refine lv_aload_n hx hb dX12_look_53 rfl (lv_at hl 0 rfl) ?_
    refine m_get E G 9 (v := .int (S.1 9)) (by decide) (.tail _ qM_48) rfl dX12_look_54 rfl ?_
    refine lv_topi (fun v4 ev4 => ?_)
    have h := elet_at ev4 h
    clear ev4
    have hl := lv_sub hl [] rfl
    exact tr_look_b57 E hA hR hml kr8 kr57 _ _ _ _ _ h G hl
  · have h := oif_neg c3 h
    refine lv_iload_n hx hb dX12_look_49 rfl (lv_at hl 1 rfl) ?_
    refine lv_goto (tgt := 57) hx hb dX12_look_50 (by decide) ?_
    have hl := lv_sub hl [] rfl
    exact tr_look_b57 E hA hR hml kr8 kr57 _ _ _ _ _ h G hl
def fr_look (S : MS) (a0 : Int32) (a1 : Int32) : Option (Int32 × MS) := elet (S.1 5) fun v2 => if v2 ≤ 0 then (elet (S.1 7) fun v4 => if v4 = 3 then (elet (S.1 9) fun v6 => obind (fr_in v6 a0 a1) fun r7 => if r7 = 0 then (obind (fr_faults S 2) fun S10 => fr_look_b42 S10 a0) else (fr_look_b42 S a0)) else (obind (fr_faults S 1) fun S13 => fr_look_b42 S13 a0)) else (some (a0, S))
set_option maxHeartbeats 4000000 in
set_option maxRecDepth 100000 in
theorem tr_look (l : Launch) (D : va_G) (cI cJ cZ : ClassId) (ad : Nat → Nat) (S : MS) (a0 : Int32) (a1 : Int32) {r1 : Int32} {S1 : MS} (h : fr_look S a0 a1 = some (r1, S1)) : mCi l yX12_look (Cond.code yX12_look cX12_look 3 (some .int) :: wsM) 2 22 D cI cJ cZ ad S [.int a0, .int a1] (fun r S9 => r = r1 ∧ S9 = S1) := by
  intro sz
  refine Met.ofW (cc := cX12_look) (maxL := 3) (ret := (some .int)) (by decide) rfl ?_
  intro p e s m args below meth c s₁ B hml hv
  obtain ⟨rfl, hsz, hP, hK, hD0, hR⟩ := hv
  have hx := B.exec
  have hb := B.bytes
  have hr := B.returns
  have hts := atoms_spec (ws := (Cond.code yX12_look cX12_look 3 (some .int) :: wsM)) B.pre
  have hown : s.vm.findClass RX12 = some m.cls := findClass_of_methodNamed B.named
  have hlocks := B.notSynchronized
  subst hsz
  have hD := hD0.self (sz := s.heap.size)
  generalize hAe : va_A (MW cI cJ cZ ad S) s.heap.size = A at hD ⊢
  have hA : ∀ q : Nat, s.heap.size ≤ q → A q := fun q h => by rw [← hAe]; exact Or.inr h
  have G : mG D cI cJ cZ ad A s.heap s.heap [] S := ⟨hP, hD, va_S.rf⟩
  have E : mE p c cX12_look s m ([.ref (ad 0), .int a0, .int a1] : List Value).toArray (Cond.code yX12_look cX12_look 3 (some .int) :: wsM) D cI cJ cZ := ⟨hx, hb, hts, hown, hK, fun w h => .tail _ (iM_x h)⟩
  have hl := lv_entry ([.ref (ad 0), .int a0, .int a1]) (n := 3) (Nat.le_of_ble_eq_true rfl)
  rw [lg_entry_eq]
  generalize (lg_sl ([.ref (ad 0), .int a0, .int a1]) ++ List.replicate (3 - (lg_sl ([.ref (ad 0), .int a0, .int a1])).length) Slot.unset).toArray = ls at hl ⊢
  have hl : lv_has ls 3 [(0, .ref (ad 0)), (1, .int a0), (2, .int a1)] := hl
  unfold fr_look at h
  refine lv_aload_n hx hb dX12_look_0 rfl (lv_at hl 0 rfl) ?_
  refine m_get E G 5 (v := .int (S.1 5)) (by decide) (.tail _ qM_38) rfl dX12_look_1 rfl ?_
  refine lv_topi (fun v2 ev2 => ?_)
  have h := elet_at ev2 h
  clear ev2
  refine lv_if_le (tgt := 9) hx hb dX12_look_4 (by decide) (fun c3 => ?_) (fun c3 => ?_)
  · have h := oif_pos c3 h
    refine lv_aload_n hx hb dX12_look_9 rfl (lv_at hl 0 rfl) ?_
    refine m_get E G 7 (v := .int (S.1 7)) (by decide) (.tail _ qM_47) rfl dX12_look_10 rfl ?_
    refine lv_topi (fun v4 ev4 => ?_)
    have h := elet_at ev4 h
    clear ev4
    refine lv_iconst (v := 3) hx hb dX12_look_13 (by decide) ?_
    refine lv_icmp_eq (tgt := 25) hx hb dX12_look_14 (by decide) (fun c5 => ?_) (fun c5 => ?_)
    · have h := oif_pos c5 h
      refine lv_aload_n hx hb dX12_look_25 rfl (lv_at hl 0 rfl) ?_
      refine m_get E G 9 (v := .int (S.1 9)) (by decide) (.tail _ qM_48) rfl dX12_look_26 rfl ?_
      refine lv_topi (fun v6 ev6 => ?_)
      have h := elet_at ev6 h
      clear ev6
      refine lv_iload_n hx hb dX12_look_29 rfl (lv_at hl 1 rfl) ?_
      refine lv_iload_n hx hb dX12_look_30 rfl (lv_at hl 2 rfl) ?_
      obtain ⟨r7, er7, h⟩ := obind_some h
      refine m_stat (As := [.int v6, .int a0, .int a1]) (rest := []) ⟨hx, hb, hml, hown, hts⟩ (tr_in l v6 a0 a1 er7) (cwS 3 hts (gmS qM_52 qM_53 qM_35 qM_27) rfl rfl rfl (by decide +kernel) ⟨Nat.le_of_ble_eq_true rfl, Nat.le_of_ble_eq_true rfl⟩) rfl hl.1 rfl (lv_room (Nat.le_of_ble_eq_true rfl)) dX12_look_31 ⟨Nat.zero_le _, Nat.zero_le _⟩ (fun q8 hq => ?_)
      refine lv_to hq ?_
      clear hq er7
      refine lv_if_ne (tgt := 42) hx hb dX12_look_34 (by decide) (fun c9 => ?_) (fun c9 => ?_)
      · have h := oif_neg c9 h
        have hl := lv_sub hl [0, 1] rfl
        exact tr_look_b42 E hA hR hml (fun H locs ls G => W.iret (v := r1) hx hb hr (fun t ht hW => ⟨⟨r1, S1, rfl, ⟨rfl, rfl⟩, ⟨by rw [ht]; exact G.1, va_K.moved hW.alike hK, G.2.1⟩⟩, G.2.2.F ht⟩) G.2.2.2.2 dX12_look_8) (fun H locs ls G => W.iret (v := r1) hx hb hr (fun t ht hW => ⟨⟨r1, S1, rfl, ⟨rfl, rfl⟩, ⟨by rw [ht]; exact G.1, va_K.moved hW.alike hK, G.2.1⟩⟩, G.2.2.F ht⟩) G.2.2.2.2 dX12_look_57) _ _ _ _ _ h G hl
      · have h := oif_pos c9 h
        refine lv_aload_n hx hb dX12_look_37 rfl (lv_at hl 0 rfl) ?_
        refine lv_iconst (v := 2) hx hb dX12_look_38 (by decide) ?_
        obtain ⟨S10, eS10, h⟩ := obind_some h
        refine m_callv (As := [.int 2]) (rest := []) E G hA hR hml (tr_faults l D cI cJ cZ ad S 2 eS10) (cwV 1 hts (gmV qM_118 qM_119 qM_120 qM_35 qM_42) rfl rfl rfl (by decide +kernel) ⟨Nat.le_of_ble_eq_true rfl, Nat.le_of_ble_eq_true rfl⟩) rfl hl.1 rfl (lv_room (Nat.le_of_ble_eq_true rfl)) dX12_look_39 ⟨Nat.zero_le _, Nat.zero_le _⟩ (fun S12 H locs hq G => ?_)
        rw [hq] at G
        clear hq eS10
        have hl := lv_sub hl [0, 1] rfl
        exact tr_look_b42 E hA hR hml (fun H locs ls G => W.iret (v := r1) hx hb hr (fun t ht hW => ⟨⟨r1, S1, rfl, ⟨rfl, rfl⟩, ⟨by rw [ht]; exact G.1, va_K.moved hW.alike hK, G.2.1⟩⟩, G.2.2.F ht⟩) G.2.2.2.2 dX12_look_8) (fun H locs ls G => W.iret (v := r1) hx hb hr (fun t ht hW => ⟨⟨r1, S1, rfl, ⟨rfl, rfl⟩, ⟨by rw [ht]; exact G.1, va_K.moved hW.alike hK, G.2.1⟩⟩, G.2.2.F ht⟩) G.2.2.2.2 dX12_look_57) _ _ _ _ _ h G hl
    · have h := oif_neg c5 h
      refine lv_aload_n hx hb dX12_look_17 rfl (lv_at hl 0 rfl) ?_
      refine lv_iconst (v := 1) hx hb dX12_look_18 (by decide) ?_
      obtain ⟨S13, eS13, h⟩ := obind_some h
      refine m_callv (As := [.int 1]) (rest := []) E G hA hR hml (tr_faults l D cI cJ cZ ad S 1 eS13) (cwV 1 hts (gmV qM_118 qM_119 qM_120 qM_35 qM_42) rfl rfl rfl (by decide +kernel) ⟨Nat.le_of_ble_eq_true rfl, Nat.le_of_ble_eq_true rfl⟩) rfl hl.1 rfl (lv_room (Nat.le_of_ble_eq_true rfl)) dX12_look_19 ⟨Nat.zero_le _, Nat.zero_le _⟩ (fun S15 H locs hq G => ?_)
      rw [hq] at G
      clear hq eS13
      refine lv_goto (tgt := 42) hx hb dX12_look_22 (by decide) ?_
      have hl := lv_sub hl [0, 1] rfl
      exact tr_look_b42 E hA hR hml (fun H locs ls G => W.iret (v := r1) hx hb hr (fun t ht hW => ⟨⟨r1, S1, rfl, ⟨rfl, rfl⟩, ⟨by rw [ht]; exact G.1, va_K.moved hW.alike hK, G.2.1⟩⟩, G.2.2.F ht⟩) G.2.2.2.2 dX12_look_8) (fun H locs ls G => W.iret (v := r1) hx hb hr (fun t ht hW => ⟨⟨r1, S1, rfl, ⟨rfl, rfl⟩, ⟨by rw [ht]; exact G.1, va_K.moved hW.alike hK, G.2.1⟩⟩, G.2.2.F ht⟩) G.2.2.2.2 dX12_look_57) _ _ _ _ _ h G hl
  · have h := oif_neg c3 h
    refine lv_iload_n hx hb dX12_look_7 rfl (lv_at hl 1 rfl) ?_
    exact W.iret (v := a0) hx hb hr (fun t ht hW => ⟨⟨a0, S, rfl, osome2 h, ⟨by rw [ht]; exact G.1, va_K.moved hW.alike hK, G.2.1⟩⟩, G.2.2.F ht⟩) G.2.2.2.2 dX12_look_8
def fr_number (S : MS) (a0 : Int32) (a1 : Int32) : Option (Int32 × MS) := obind2 (fr_look S a0 a1) fun r5 S2 => obind (fr_nextToken S2) fun S6 => some (r5, S6)
set_option maxHeartbeats 4000000 in
set_option maxRecDepth 100000 in
theorem tr_number (l : Launch) (D : va_G) (cI cJ cZ : ClassId) (ad : Nat → Nat) (S : MS) (a0 : Int32) (a1 : Int32) {r1 : Int32} {S1 : MS} (h : fr_number S a0 a1 = some (r1, S1)) : mCi l yX12_number (Cond.code yX12_number cX12_number 4 (some .int) :: wsM) 3 44 D cI cJ cZ ad S [.int a0, .int a1] (fun r S9 => r = r1 ∧ S9 = S1) := by
  intro sz
  refine Met.ofW (cc := cX12_number) (maxL := 4) (ret := (some .int)) (by decide) rfl ?_
  intro p e s m args below meth c s₁ B hml hv
  obtain ⟨rfl, hsz, hP, hK, hD0, hR⟩ := hv
  have hx := B.exec
  have hb := B.bytes
  have hr := B.returns
  have hts := atoms_spec (ws := (Cond.code yX12_number cX12_number 4 (some .int) :: wsM)) B.pre
  have hown : s.vm.findClass RX12 = some m.cls := findClass_of_methodNamed B.named
  have hlocks := B.notSynchronized
  subst hsz
  have hD := hD0.self (sz := s.heap.size)
  generalize hAe : va_A (MW cI cJ cZ ad S) s.heap.size = A at hD ⊢
  have hA : ∀ q : Nat, s.heap.size ≤ q → A q := fun q h => by rw [← hAe]; exact Or.inr h
  have G : mG D cI cJ cZ ad A s.heap s.heap [] S := ⟨hP, hD, va_S.rf⟩
  have E : mE p c cX12_number s m ([.ref (ad 0), .int a0, .int a1] : List Value).toArray (Cond.code yX12_number cX12_number 4 (some .int) :: wsM) D cI cJ cZ := ⟨hx, hb, hts, hown, hK, fun w h => .tail _ (iM_x h)⟩
  have hl := lv_entry ([.ref (ad 0), .int a0, .int a1]) (n := 4) (Nat.le_of_ble_eq_true rfl)
  rw [lg_entry_eq]
  generalize (lg_sl ([.ref (ad 0), .int a0, .int a1]) ++ List.replicate (4 - (lg_sl ([.ref (ad 0), .int a0, .int a1])).length) Slot.unset).toArray = ls at hl ⊢
  have hl : lv_has ls 4 [(0, .ref (ad 0)), (1, .int a0), (2, .int a1)] := hl
  unfold fr_number at h
  refine lv_aload_n hx hb dX12_number_0 rfl (lv_at hl 0 rfl) ?_
  refine lv_iload_n hx hb dX12_number_1 rfl (lv_at hl 1 rfl) ?_
  refine lv_iload_n hx hb dX12_number_2 rfl (lv_at hl 2 rfl) ?_
  obtain ⟨r5, S2, eS2, h⟩ := obind2_some h
  refine m_calli (As := [.int a0, .int a1]) (rest := []) E G hA hR hml (tr_look l D cI cJ cZ ad S a0 a1 eS2) (cwV 2 hts (gmV qM_123 qM_124 qM_125 qM_35 qM_121) rfl rfl rfl (by decide +kernel) ⟨Nat.le_of_ble_eq_true rfl, Nat.le_of_ble_eq_true rfl⟩) rfl hl.1 rfl (lv_room (Nat.le_of_ble_eq_true rfl)) dX12_number_3 ⟨Nat.zero_le _, Nat.zero_le _⟩ (fun q3 S4 H locs hq G => ?_)
  obtain ⟨hq1, hq2⟩ := hq
  rw [hq2] at G
  refine lv_to hq1 ?_
  clear hq1 hq2 eS2
  refine lv_istore_n (lv' := [(3, .int r5), (0, .ref (ad 0)), (1, .int a0), (2, .int a1)]) hx hb dX12_number_6 rfl hl (by decide) rfl (fun ls hl => ?_)
  refine lv_aload_n hx hb dX12_number_7 rfl (lv_at hl 1 rfl) ?_
  obtain ⟨S6, eS6, h⟩ := obind_some h
  refine m_callv (As := []) (rest := []) E G hA hR hml (tr_nextToken l D cI cJ cZ ad S2 eS6) (cwV 0 hts (gmV qM_111 qM_112 qM_113 qM_35 qM_45) rfl rfl rfl (by decide +kernel) ⟨Nat.le_of_ble_eq_true rfl, Nat.le_of_ble_eq_true rfl⟩) rfl hl.1 rfl (lv_room (Nat.le_of_ble_eq_true rfl)) dX12_number_8 ⟨Nat.zero_le _, Nat.zero_le _⟩ (fun S8 H locs hq G => ?_)
  rw [hq] at G
  clear hq eS6
  refine lv_iload_n hx hb dX12_number_11 rfl (lv_at hl 0 rfl) ?_
  exact W.iret (v := r5) hx hb hr (fun t ht hW => ⟨⟨r5, S6, rfl, osome2 h, ⟨by rw [ht]; exact G.1, va_K.moved hW.alike hK, G.2.1⟩⟩, G.2.2.F ht⟩) G.2.2.2.2 dX12_number_12
def fr_gauge (S : MS) (tx : Nat × (Nat → Int32)) (a1 : Int32) (a2 : Int32) : Option (Int32 × MS) := obind (fr_keyword S tx) fun S2 => obind2 (fr_number S2 a1 a2) fun r8 S5 => some (r8, S5)
set_option maxHeartbeats 4000000 in
set_option maxRecDepth 100000 in
theorem tr_gauge (l : Launch) (D : va_G) (cI cJ cZ : ClassId) (ad : Nat → Nat) (S : MS) (h0 : Nat) {q : Nat} {tx : Nat × (Nat → Int32)} (hC : sT tx) (a1 : Int32) (a2 : Int32) {r1 : Int32} {S1 : MS} (h : fr_gauge S tx a1 a2 = some (r1, S1)) : mCiX l yX12_gauge (Cond.code yX12_gauge cX12_gauge 4 (some .int) :: wsM) 8 152 D cI cJ cZ ad S [.ref q, .int a1, .int a2] (xT1 cI cJ cZ h0 ad S tx q) (fun r S9 => r = r1 ∧ S9 = S1) := by
  intro sz
  refine Met.ofW (cc := cX12_gauge) (maxL := 4) (ret := (some .int)) (by decide) rfl ?_
  intro p e s m args below meth c s₁ B hml hv
  obtain ⟨rfl, ⟨hsz, hP, hK, hD0, hR⟩, ⟨hA1, hT⟩, hO⟩ := hv
  have hx := B.exec
  have hb := B.bytes
  have hr := B.returns
  have hts := atoms_spec (ws := (Cond.code yX12_gauge cX12_gauge 4 (some .int) :: wsM)) B.pre
  have hown : s.vm.findClass RX12 = some m.cls := findClass_of_methodNamed B.named
  have hlocks := B.notSynchronized
  subst hsz
  have hD := hD0.self (sz := s.heap.size)
  generalize hAe : va_A (MW cI cJ cZ ad S) s.heap.size = A at hD hA1 ⊢
  have hA : ∀ q : Nat, s.heap.size ≤ q → A q := fun q h => by rw [← hAe]; exact Or.inr h
  have G : mG D cI cJ cZ ad A s.heap s.heap [] S := ⟨hP, hD, va_S.rf⟩
  have E : mE p c cX12_gauge s m ([.ref (ad 0), .ref q, .int a1, .int a2] : List Value).toArray (Cond.code yX12_gauge cX12_gauge 4 (some .int) :: wsM) D cI cJ cZ := ⟨hx, hb, hts, hown, hK, fun w h => .tail _ (iM_x h)⟩
  have hA0 : ∀ a : Nat, A a → h0 ≤ a := hA1
  have hl := lv_entry ([.ref (ad 0), .ref q, .int a1, .int a2]) (n := 4) (Nat.le_of_ble_eq_true rfl)
  rw [lg_entry_eq]
  generalize (lg_sl ([.ref (ad 0), .ref q, .int a1, .int a2]) ++ List.replicate (4 - (lg_sl ([.ref (ad 0), .ref q, .int a1, .int a2])).length) Slot.unset).toArray = ls at hl ⊢
  have hl : lv_has ls 4 [(0, .ref (ad 0)), (1, .ref q), (2, .int a1), (3, .int a2)] := hl
  unfold fr_gauge at h
  refine lv_aload_n hx hb dX12_gauge_0 rfl (lv_at hl 0 rfl) ?_
  refine lv_aload_n hx hb dX12_gauge_1 rfl (lv_at hl 1 rfl) ?_
  obtain ⟨S2, eS2, h⟩ := obind_some h
  refine m_callvX (As := [.ref q]) (rest := []) E G hA hR hml (tr_keyword l D cI cJ cZ ad S h0 (q := q) hC eS2) (cwV 1 hts (gmV qM_127 qM_128 qM_129 qM_35 qM_114) rfl rfl rfl (by decide +kernel) ⟨Nat.le_of_ble_eq_true rfl, Nat.le_of_ble_eq_true rfl⟩) rfl hl.1 rfl (lv_room (Nat.le_of_ble_eq_true rfl)) dX12_gauge_2 ⟨Nat.zero_le _, Nat.zero_le _⟩ (xT1.blind) (xT1.go hT hA0 hA G hO) (fun S4 H locs hq G => ?_)
  rw [hq] at G
  clear hq eS2
  refine lv_aload_n hx hb dX12_gauge_5 rfl (lv_at hl 0 rfl) ?_
  refine lv_iload_n hx hb dX12_gauge_6 rfl (lv_at hl 2 rfl) ?_
  refine lv_iload_n hx hb dX12_gauge_7 rfl (lv_at hl 3 rfl) ?_
  obtain ⟨r8, S5, eS5, h⟩ := obind2_some h
  refine m_calli (As := [.int a1, .int a2]) (rest := []) E G hA hR hml (tr_number l D cI cJ cZ ad S2 a1 a2 eS5) (cwV 2 hts (gmV qM_130 qM_131 qM_132 qM_35 qM_122) rfl rfl rfl (by decide +kernel) ⟨Nat.le_of_ble_eq_true rfl, Nat.le_of_ble_eq_true rfl⟩) rfl hl.1 rfl (lv_room (Nat.le_of_ble_eq_true rfl)) dX12_gauge_8 ⟨Nat.zero_le _, Nat.zero_le _⟩ (fun q6 S7 H locs hq G => ?_)
  obtain ⟨hq1, hq2⟩ := hq
  rw [hq2] at G
  refine lv_to hq1 ?_
  clear hq1 hq2 eS5
  exact W.iret (v := r8) hx hb hr (fun t ht hW => ⟨⟨r8, S5, rfl, osome2 h, ⟨by rw [ht]; exact G.1, va_K.moved hW.alike hK, G.2.1⟩⟩, G.2.2.F ht⟩) G.2.2.2.2 dX12_gauge_11
def fr_signed_b37  (S : MS) (s0 : Int32) : Option (Int32 × MS) := some (s0, S)
set_option maxHeartbeats 4000000 in
set_option maxRecDepth 100000 in
theorem tr_signed_b37 {p : Program} {l : Launch} {e : Env} {s : State} {m : MethodId} {args : Array Value} {below : List Frame} {meth : Method} {c : Code} {Q : State → Prop} {D : va_G} {A : Nat → Prop} {H0 : Heap} {cI cJ cZ : ClassId} {ad : Nat → Nat} {r1 : Int32} {S1 : MS} (E : mE p c cX12_signed s m args (Cond.code yX12_signed cX12_signed 4 (some .int) :: wsM) D cI cJ cZ) (hA : ∀ q : Nat, H0.size ≤ q → A q) (hR : sR s) (hml : c.maxLocals = 4) (kr37 : ∀ (H : Heap) (locs : List Loc) (ls : Array Slot), mG D cI cJ cZ ad A H0 H locs S1 → W p l e { frames := 4, cells := 0, slots := 0, locals := 67 } s m args below meth c H locs 0 0 Q (F0 m 37 ls [.int r1])) : ∀ (S : MS) (H : Heap) (locs : List Loc) (ls : Array Slot) (s0 : Int32), fr_signed_b37 S s0 = some (r1, S1) → mG D cI cJ cZ ad A H0 H locs S → lv_has ls 4 [] → W p l e { frames := 4, cells := 0, slots := 0, locals := 67 } s m args below meth c H locs 0 0 Q (F0 m 37 ls [.int s0]) := by
  have hx := E.1
  have hb := E.2.1
  have hts := E.2.2.1
  have hown := E.2.2.2.1
  have hK := E.2.2.2.2.1
  intro S H locs ls s0 h G hl
  unfold fr_signed_b37 at h
  rw [(osome2 h).2] at G
  refine lv_to (osome2 h).1 ?_
  exact kr37 _ _ _ G
def fr_signed_b15  (S : MS) (l1 : Int32) (l2 : Int32) (l3 : Int32) : Option (Int32 × MS) := if l3 = 0 then (obind2 (fr_number S l1 l2) fun r6 S3 => fr_signed_b37 S3 r6) else (elet (-l2) fun v7 => elet (-l1) fun v8 => obind2 (fr_number S v7 v8) fun r12 S9 => elet (-r12) fun v13 => fr_signed_b37 S9 v13)
set_option maxHeartbeats 4000000 in
set_option maxRecDepth 100000 in
theorem tr_signed_b15 {p : Program} {l : Launch} {e : Env} {s : State} {m : MethodId} {args : Array Value} {below : List Frame} {meth : Method} {c : Code} {Q : State → Prop} {D : va_G} {A : Nat → Prop} {H0 : Heap} {cI cJ cZ : ClassId} {ad : Nat → Nat} {r1 : Int32} {S1 : MS} (E : mE p c cX12_signed s m args (Cond.code yX12_signed cX12_signed 4 (some .int) :: wsM) D cI cJ cZ) (hA : ∀ q : Nat, H0.size ≤ q → A q) (hR : sR s) (hml : c.maxLocals = 4) (kr37 : ∀ (H : Heap) (locs : List Loc) (ls : Array Slot), mG D cI cJ cZ ad A H0 H locs S1 → W p l e { frames := 4, cells := 0, slots := 0, locals := 67 } s m args below meth c H locs 0 0 Q (F0 m 37 ls [.int r1])) : ∀ (S : MS) (H : Heap) (locs : List Loc) (ls : Array Slot) (l1 : Int32) (l2 : Int32) (l3 : Int32), fr_signed_b15 S l1 l2 l3 = some (r1, S1) → mG D cI cJ cZ ad A H0 H locs S → lv_has ls 4 [(0, .ref (ad 0)), (1, .int l1), (2, .int l2), (3, .int l3)] → W p l e { frames := 4, cells := 0, slots := 0, locals := 67 } s m args below meth c H locs 0 0 Q (F0 m 15 ls []) := by
  have hx := E.1
  have hb := E.2.1
  have hts := E.2.2.1
  have hown := E.2.2.2.1
  have hK := E.2.2.2.2.1
  intro S H locs ls l1 l2 l3 h G hl
  unfold fr_signed_b15 at h
  refine lv_iload_n hx hb dX12_signed_15 rfl (lv_at hl 3 rfl) ?_
  refine lv_if_eq (tgt := 31) hx hb dX12_signed_16 (by decide) (fun c2 => ?_) (fun c2 => ?_)
  · have h := oif_pos c2 h
    refine lv_aload_n hx hb dX12_signed_31 rfl (lv_at hl 0 rfl) ?_
    refine lv_iload_n hx hb dX12_signed_32 rfl (lv_at hl 1 rfl) ?_
    refine lv_iload_n hx hb dX12_signed_33 rfl (lv_at hl 2 rfl) ?_
    obtain ⟨r6, S3, eS3, h⟩ := obind2_some h
    refine m_calli (As := [.int l1, .int l2]) (rest := []) E G hA hR hml (tr_number l D cI cJ cZ ad S l1 l2 eS3) (cwV 2 hts (gmV qM_130 qM_131 qM_132 qM_35 qM_122) rfl rfl rfl (by decide +kernel) ⟨Nat.le_of_ble_eq_true rfl, Nat.le_of_ble_eq_true rfl⟩) rfl hl.1 rfl (lv_room (Nat.le_of_ble_eq_true rfl)) dX12_signed_34 ⟨Nat.zero_le _, Nat.zero_le _⟩ (fun q4 S5 H locs hq G => ?_)
    obtain ⟨hq1, hq2⟩ := hq
    rw [hq2] at G
    refine lv_to hq1 ?_
    clear hq1 hq2 eS3
    have hl := lv_sub hl [] rfl
    exact tr_signed_b37 E hA hR hml kr37 _ _ _ _ _ h G hl
  · have h := oif_neg c2 h
    refine lv_aload_n hx hb dX12_signed_19 rfl (lv_at hl 0 rfl) ?_
    refine lv_iload_n hx hb dX12_signed_20 rfl (lv_at hl 2 rfl) ?_
    refine lv_ineg hx hb dX12_signed_21 ?_
    refine lv_topi (fun v7 ev7 => ?_)
    have h := elet_at ev7 h
    clear ev7
    refine lv_iload_n hx hb dX12_signed_22 rfl (lv_at hl 1 rfl) ?_
    refine lv_ineg hx hb dX12_signed_23 ?_
    refine lv_topi (fun v8 ev8 => ?_)
    have h := elet_at ev8 h
    clear ev8
    obtain ⟨r12, S9, eS9, h⟩ := obind2_some h
    refine m_calli (As := [.int v7, .int v8]) (rest := []) E G hA hR hml (tr_number l D cI cJ cZ ad S v7 v8 eS9) (cwV 2 hts (gmV qM_130 qM_131 qM_132 qM_35 qM_122) rfl rfl rfl (by decide +kernel) ⟨Nat.le_of_ble_eq_true rfl, Nat.le_of_ble_eq_true rfl⟩) rfl hl.1 rfl (lv_room (Nat.le_of_ble_eq_true rfl)) dX12_signed_24 ⟨Nat.zero_le _, Nat.zero_le _⟩ (fun q10 S11 H locs hq G => ?_)
    obtain ⟨hq1, hq2⟩ := hq
    rw [hq2] at G
    refine lv_to hq1 ?_
    clear hq1 hq2 eS9
    refine lv_ineg hx hb dX12_signed_27 ?_
    refine lv_topi (fun v13 ev13 => ?_)
    have h := elet_at ev13 h
    clear ev13
    refine lv_goto (tgt := 37) hx hb dX12_signed_28 (by decide) ?_
    have hl := lv_sub hl [] rfl
    exact tr_signed_b37 E hA hR hml kr37 _ _ _ _ _ h G hl
def fr_signed (S : MS) (a0 : Int32) (a1 : Int32) : Option (Int32 × MS) := obind2 (fr_isSignHere S 45) fun r5 S2 => if r5 = 0 then (fr_signed_b15 S2 a0 a1 r5) else (obind (fr_nextToken S2) fun S7 => fr_signed_b15 S7 a0 a1 r5)
set_option maxHeartbeats 4000000 in
set_option maxRecDepth 100000 in
theorem tr_signed (l : Launch) (D : va_G) (cI cJ cZ : ClassId) (ad : Nat → Nat) (S : MS) (a0 : Int32) (a1 : Int32) {r1 : Int32} {S1 : MS} (h : fr_signed S a0 a1 = some (r1, S1)) : mCi l yX12_signed (Cond.code yX12_signed cX12_signed 4 (some .int) :: wsM) 4 67 D cI cJ cZ ad S [.int a0, .int a1] (fun r S9 => r = r1 ∧ S9 = S1) := by
  intro sz
  refine Met.ofW (cc := cX12_signed) (maxL := 4) (ret := (some .int)) (by decide) rfl ?_
  intro p e s m args below meth c s₁ B hml hv
  obtain ⟨rfl, hsz, hP, hK, hD0, hR⟩ := hv
  have hx := B.exec
  have hb := B.bytes
  have hr := B.returns
  have hts := atoms_spec (ws := (Cond.code yX12_signed cX12_signed 4 (some .int) :: wsM)) B.pre
  have hown : s.vm.findClass RX12 = some m.cls := findClass_of_methodNamed B.named
  have hlocks := B.notSynchronized
  subst hsz
  have hD := hD0.self (sz := s.heap.size)
  generalize hAe : va_A (MW cI cJ cZ ad S) s.heap.size = A at hD ⊢
  have hA : ∀ q : Nat, s.heap.size ≤ q → A q := fun q h => by rw [← hAe]; exact Or.inr h
  have G : mG D cI cJ cZ ad A s.heap s.heap [] S := ⟨hP, hD, va_S.rf⟩
  have E : mE p c cX12_signed s m ([.ref (ad 0), .int a0, .int a1] : List Value).toArray (Cond.code yX12_signed cX12_signed 4 (some .int) :: wsM) D cI cJ cZ := ⟨hx, hb, hts, hown, hK, fun w h => .tail _ (iM_x h)⟩
  have hl := lv_entry ([.ref (ad 0), .int a0, .int a1]) (n := 4) (Nat.le_of_ble_eq_true rfl)
  rw [lg_entry_eq]
  generalize (lg_sl ([.ref (ad 0), .int a0, .int a1]) ++ List.replicate (4 - (lg_sl ([.ref (ad 0), .int a0, .int a1])).length) Slot.unset).toArray = ls at hl ⊢
  have hl : lv_has ls 4 [(0, .ref (ad 0)), (1, .int a0), (2, .int a1)] := hl
  unfold fr_signed at h
  refine lv_aload_n hx hb dX12_signed_0 rfl (lv_at hl 0 rfl) ?_
  refine lv_bipush (v := 45) hx hb dX12_signed_1 (by decide) ?_
  obtain ⟨r5, S2, eS2, h⟩ := obind2_some h
  refine m_calli (As := [.int 45]) (rest := []) E G hA hR hml (tr_isSignHere l D cI cJ cZ ad S 45 eS2) (cwV 1 hts (gmV qM_134 qM_135 qM_136 qM_35 qM_56) rfl rfl rfl (by decide +kernel) ⟨Nat.le_of_ble_eq_true rfl, Nat.le_of_ble_eq_true rfl⟩) rfl hl.1 rfl (lv_room (Nat.le_of_ble_eq_true rfl)) dX12_signed_3 ⟨Nat.zero_le _, Nat.zero_le _⟩ (fun q3 S4 H locs hq G => ?_)
  obtain ⟨hq1, hq2⟩ := hq
  rw [hq2] at G
  refine lv_to hq1 ?_
  clear hq1 hq2 eS2
  refine lv_istore_n (lv' := [(3, .int r5), (0, .ref (ad 0)), (1, .int a0), (2, .int a1)]) hx hb dX12_signed_6 rfl hl (by decide) rfl (fun ls hl => ?_)
  refine lv_iload_n hx hb dX12_signed_7 rfl (lv_at hl 0 rfl) ?_
  refine lv_if_eq (tgt := 15) hx hb dX12_signed_8 (by decide) (fun c6 => ?_) (fun c6 => ?_)
  · have h := oif_pos c6 h
    have hl := lv_sub hl [1, 2, 3, 0] rfl
    exact tr_signed_b15 E hA hR hml (fun H locs ls G => W.iret (v := r1) hx hb hr (fun t ht hW => ⟨⟨r1, S1, rfl, ⟨rfl, rfl⟩, ⟨by rw [ht]; exact G.1, va_K.moved hW.alike hK, G.2.1⟩⟩, G.2.2.F ht⟩) G.2.2.2.2 dX12_signed_37) _ _ _ _ _ _ _ h G hl
  · have h := oif_neg c6 h
    refine lv_aload_n hx hb dX12_signed_11 rfl (lv_at hl 1 rfl) ?_
    obtain ⟨S7, eS7, h⟩ := obind_some h
    refine m_callv (As := []) (rest := []) E G hA hR hml (tr_nextToken l D cI cJ cZ ad S2 eS7) (cwV 0 hts (gmV qM_111 qM_112 qM_113 qM_35 qM_45) rfl rfl rfl (by decide +kernel) ⟨Nat.le_of_ble_eq_true rfl, Nat.le_of_ble_eq_true rfl⟩) rfl hl.1 rfl (lv_room (Nat.le_of_ble_eq_true rfl)) dX12_signed_12 ⟨Nat.zero_le _, Nat.zero_le _⟩ (fun S9 H locs hq G => ?_)
    rw [hq] at G
    clear hq eS7
    have hl := lv_sub hl [1, 2, 3, 0] rfl
    exact tr_signed_b15 E hA hR hml (fun H locs ls G => W.iret (v := r1) hx hb hr (fun t ht hW => ⟨⟨r1, S1, rfl, ⟨rfl, rfl⟩, ⟨by rw [ht]; exact G.1, va_K.moved hW.alike hK, G.2.1⟩⟩, G.2.2.F ht⟩) G.2.2.2.2 dX12_signed_37) _ _ _ _ _ _ _ h G hl
def fr_readFirst (S : MS)  : Option (MS) := obind (fr_keyword S (sTx "camera")) fun S3 => obind2 (fr_gauge S3 (sTx "distance") 100 5000) fun r10 S7 => elet (mf S7 11 (upd (S7.2.1 11) 0 r10)) fun S11 => obind2 (fr_gauge S11 (sTx "step") 1 99) fun r16 S13 => elet (mf S13 11 (upd (S13.2.1 11) 1 r16)) fun S17 => obind2 (fr_gauge S17 (sTx "samples") 32 200) fun r22 S19 => elet (mf S19 11 (upd (S19.2.1 11) 2 r22)) fun S23 => obind2 (fr_gauge S23 (sTx "limit") 1 9999) fun r28 S25 => elet (mf S25 11 (upd (S25.2.1 11) 3 r28)) fun S29 => some S29
set_option maxHeartbeats 4000000 in
set_option maxRecDepth 100000 in
theorem tr_readFirst (l : Launch) (D : va_G) (cI cJ cZ : ClassId) (ad : Nat → Nat) (S : MS) (h0 : Nat)  {S1 : MS} (h : fr_readFirst S = some S1) : mCvX l yX12_readFirst (Cond.code yX12_readFirst cX12_readFirst 1 none :: wsM) 9 175 D cI cJ cZ ad S [] (xT0 cI cJ cZ h0 ad S) (fun S9 => S9 = S1) := by
  intro sz
  refine Met.ofW (cc := cX12_readFirst) (maxL := 1) (ret := none) (by decide) rfl ?_
  intro p e s m args below meth c s₁ B hml hv
  obtain ⟨rfl, ⟨hsz, hP, hK, hD0, hR⟩, hA1, hT⟩ := hv
  have hx := B.exec
  have hb := B.bytes
  have hr := B.returns
  have hts := atoms_spec (ws := (Cond.code yX12_readFirst cX12_readFirst 1 none :: wsM)) B.pre
  have hown : s.vm.findClass RX12 = some m.cls := findClass_of_methodNamed B.named
  have hlocks := B.notSynchronized
  subst hsz
  have hD := hD0.self (sz := s.heap.size)
  generalize hAe : va_A (MW cI cJ cZ ad S) s.heap.size = A at hD hA1 ⊢
  have hA : ∀ q : Nat, s.heap.size ≤ q → A q := fun q h => by rw [← hAe]; exact Or.inr h
  have G : mG D cI cJ cZ ad A s.heap s.heap [] S := ⟨hP, hD, va_S.rf⟩
  have E : mE p c cX12_readFirst s m ([.ref (ad 0)] : List Value).toArray (Cond.code yX12_readFirst cX12_readFirst 1 none :: wsM) D cI cJ cZ := ⟨hx, hb, hts, hown, hK, fun w h => .tail _ (iM_x h)⟩
  have hA0 : ∀ a : Nat, A a → h0 ≤ a := hA1
  have hl := lv_entry ([.ref (ad 0)]) (n := 1) (Nat.le_of_ble_eq_true rfl)
  rw [lg_entry_eq]
  generalize (lg_sl ([.ref (ad 0)]) ++ List.replicate (1 - (lg_sl ([.ref (ad 0)])).length) Slot.unset).toArray = ls at hl ⊢
  have hl : lv_has ls 1 [(0, .ref (ad 0))] := hl
  unfold fr_readFirst at h
  refine lv_aload_n hx hb dX12_readFirst_0 rfl (lv_at hl 0 rfl) ?_
  obtain ⟨w2, hw2, ow2⟩ := hT.1 ("AcousticCameraModel", 144, "camera") (List.mem_of_getElem? (i := 20) rfl)
  refine va_ldcS hx hb hown hw2 dX12_readFirst_1 ?_
  obtain ⟨S3, eS3, h⟩ := obind_some h
  refine m_callvX (As := [.ref w2]) (rest := []) E G hA hR hml (tr_keyword l D cI cJ cZ ad S h0 (q := w2) (sTx_ok (by decide +kernel)) eS3) (cwV 1 hts (gmV qM_127 qM_128 qM_129 qM_35 qM_114) rfl rfl rfl (by decide +kernel) ⟨Nat.le_of_ble_eq_true rfl, Nat.le_of_ble_eq_true rfl⟩) rfl hl.1 rfl (lv_room (Nat.le_of_ble_eq_true rfl)) dX12_readFirst_3 ⟨Nat.zero_le _, Nat.zero_le _⟩ (xT1.blind) (xT1.go hT hA0 hA G ow2) (fun S5 H locs hq G => ?_)
  rw [hq] at G
  clear hq eS3
  refine lv_aload_n hx hb dX12_readFirst_6 rfl (lv_at hl 0 rfl) ?_
  refine m_get E G 11 (v := .ref (ad 11)) (by decide) (.tail _ qM_8) rfl dX12_readFirst_7 rfl ?_
  refine lv_iconst (v := 0) hx hb dX12_readFirst_10 (by decide) ?_
  refine lv_aload_n hx hb dX12_readFirst_11 rfl (lv_at hl 0 rfl) ?_
  obtain ⟨w6, hw6, ow6⟩ := hT.1 ("AcousticCameraModel", 146, "distance") (List.mem_of_getElem? (i := 21) rfl)
  refine va_ldcS hx hb hown hw6 dX12_readFirst_12 ?_
  refine lv_bipush (v := 100) hx hb dX12_readFirst_14 (by decide) ?_
  refine lv_sipush (v := 5000) hx hb dX12_readFirst_16 (by decide) ?_
  obtain ⟨r10, S7, eS7, h⟩ := obind2_some h
  refine m_calliX (As := [.ref w6, .int 100, .int 5000]) (rest := [.int 0, .ref (ad 11)]) E G hA hR hml (tr_gauge l D cI cJ cZ ad S3 h0 (q := w6) (sTx_ok (by decide +kernel)) 100 5000 eS7) (cwV 3 hts (gmV qM_138 qM_139 qM_140 qM_35 qM_126) rfl rfl rfl (by decide +kernel) ⟨Nat.le_of_ble_eq_true rfl, Nat.le_of_ble_eq_true rfl⟩) rfl hl.1 rfl (lv_room (Nat.le_of_ble_eq_true rfl)) dX12_readFirst_19 ⟨Nat.zero_le _, Nat.zero_le _⟩ (xT1.blind) (xT1.go hT hA0 hA G ow6) (fun q8 S9 H locs hq G => ?_)
  obtain ⟨hq1, hq2⟩ := hq
  rw [hq2] at G
  refine lv_to hq1 ?_
  clear hq1 hq2 eS7
  refine m_iast E G 11 3 (k := 0) (v := r10) rfl (fun _ => rfl) rfl (by decide) (by decide) dX12_readFirst_22 (fun H locs G => ?_)
  obtain ⟨S11, eS11, h⟩ := elet_some h
  rw [← eS11] at G
  clear eS11
  refine lv_aload_n hx hb dX12_readFirst_23 rfl (lv_at hl 0 rfl) ?_
  refine m_get E G 11 (v := .ref (ad 11)) (by decide) (.tail _ qM_8) rfl dX12_readFirst_24 rfl ?_
  refine lv_iconst (v := 1) hx hb dX12_readFirst_27 (by decide) ?_
  refine lv_aload_n hx hb dX12_readFirst_28 rfl (lv_at hl 0 rfl) ?_
  obtain ⟨w12, hw12, ow12⟩ := hT.1 ("AcousticCameraModel", 152, "step") (List.mem_of_getElem? (i := 22) rfl)
  refine va_ldcS hx hb hown hw12 dX12_readFirst_29 ?_
  refine lv_iconst (v := 1) hx hb dX12_readFirst_31 (by decide) ?_
  refine lv_bipush (v := 99) hx hb dX12_readFirst_32 (by decide) ?_
  obtain ⟨r16, S13, eS13, h⟩ := obind2_some h
  refine m_calliX (As := [.ref w12, .int 1, .int 99]) (rest := [.int 1, .ref (ad 11)]) E G hA hR hml (tr_gauge l D cI cJ cZ ad S11 h0 (q := w12) (sTx_ok (by decide +kernel)) 1 99 eS13) (cwV 3 hts (gmV qM_138 qM_139 qM_140 qM_35 qM_126) rfl rfl rfl (by decide +kernel) ⟨Nat.le_of_ble_eq_true rfl, Nat.le_of_ble_eq_true rfl⟩) rfl hl.1 rfl (lv_room (Nat.le_of_ble_eq_true rfl)) dX12_readFirst_34 ⟨Nat.zero_le _, Nat.zero_le _⟩ (xT1.blind) (xT1.go hT hA0 hA G ow12) (fun q14 S15 H locs hq G => ?_)
  obtain ⟨hq1, hq2⟩ := hq
  rw [hq2] at G
  refine lv_to hq1 ?_
  clear hq1 hq2 eS13
  refine m_iast E G 11 3 (k := 1) (v := r16) rfl (fun _ => rfl) rfl (by decide) (by decide) dX12_readFirst_37 (fun H locs G => ?_)
  obtain ⟨S17, eS17, h⟩ := elet_some h
  rw [← eS17] at G
  clear eS17
  refine lv_aload_n hx hb dX12_readFirst_38 rfl (lv_at hl 0 rfl) ?_
  refine m_get E G 11 (v := .ref (ad 11)) (by decide) (.tail _ qM_8) rfl dX12_readFirst_39 rfl ?_
  refine lv_iconst (v := 2) hx hb dX12_readFirst_42 (by decide) ?_
  refine lv_aload_n hx hb dX12_readFirst_43 rfl (lv_at hl 0 rfl) ?_
  obtain ⟨w18, hw18, ow18⟩ := hT.1 ("AcousticCameraModel", 154, "samples") (List.mem_of_getElem? (i := 23) rfl)
  refine va_ldcS hx hb hown hw18 dX12_readFirst_44 ?_
  refine lv_bipush (v := 32) hx hb dX12_readFirst_46 (by decide) ?_
  refine lv_sipush (v := 200) hx hb dX12_readFirst_48 (by decide) ?_
  obtain ⟨r22, S19, eS19, h⟩ := obind2_some h
  refine m_calliX (As := [.ref w18, .int 32, .int 200]) (rest := [.int 2, .ref (ad 11)]) E G hA hR hml (tr_gauge l D cI cJ cZ ad S17 h0 (q := w18) (sTx_ok (by decide +kernel)) 32 200 eS19) (cwV 3 hts (gmV qM_138 qM_139 qM_140 qM_35 qM_126) rfl rfl rfl (by decide +kernel) ⟨Nat.le_of_ble_eq_true rfl, Nat.le_of_ble_eq_true rfl⟩) rfl hl.1 rfl (lv_room (Nat.le_of_ble_eq_true rfl)) dX12_readFirst_51 ⟨Nat.zero_le _, Nat.zero_le _⟩ (xT1.blind) (xT1.go hT hA0 hA G ow18) (fun q20 S21 H locs hq G => ?_)
  obtain ⟨hq1, hq2⟩ := hq
  rw [hq2] at G
  refine lv_to hq1 ?_
  clear hq1 hq2 eS19
  refine m_iast E G 11 3 (k := 2) (v := r22) rfl (fun _ => rfl) rfl (by decide) (by decide) dX12_readFirst_54 (fun H locs G => ?_)
  obtain ⟨S23, eS23, h⟩ := elet_some h
  rw [← eS23] at G
  clear eS23
  refine lv_aload_n hx hb dX12_readFirst_55 rfl (lv_at hl 0 rfl) ?_
  refine m_get E G 11 (v := .ref (ad 11)) (by decide) (.tail _ qM_8) rfl dX12_readFirst_56 rfl ?_
  refine lv_iconst (v := 3) hx hb dX12_readFirst_59 (by decide) ?_
  refine lv_aload_n hx hb dX12_readFirst_60 rfl (lv_at hl 0 rfl) ?_
  obtain ⟨w24, hw24, ow24⟩ := hT.1 ("AcousticCameraModel", 156, "limit") (List.mem_of_getElem? (i := 24) rfl)
  refine va_ldcS hx hb hown hw24 dX12_readFirst_61 ?_
  refine lv_iconst (v := 1) hx hb dX12_readFirst_63 (by decide) ?_
  refine lv_sipush (v := 9999) hx hb dX12_readFirst_64 (by decide) ?_
  obtain ⟨r28, S25, eS25, h⟩ := obind2_some h
  refine m_calliX (As := [.ref w24, .int 1, .int 9999]) (rest := [.int 3, .ref (ad 11)]) E G hA hR hml (tr_gauge l D cI cJ cZ ad S23 h0 (q := w24) (sTx_ok (by decide +kernel)) 1 9999 eS25) (cwV 3 hts (gmV qM_138 qM_139 qM_140 qM_35 qM_126) rfl rfl rfl (by decide +kernel) ⟨Nat.le_of_ble_eq_true rfl, Nat.le_of_ble_eq_true rfl⟩) rfl hl.1 rfl (lv_room (Nat.le_of_ble_eq_true rfl)) dX12_readFirst_67 ⟨Nat.zero_le _, Nat.zero_le _⟩ (xT1.blind) (xT1.go hT hA0 hA G ow24) (fun q26 S27 H locs hq G => ?_)
  obtain ⟨hq1, hq2⟩ := hq
  rw [hq2] at G
  refine lv_to hq1 ?_
  clear hq1 hq2 eS25
  refine m_iast E G 11 3 (k := 3) (v := r28) rfl (fun _ => rfl) rfl (by decide) (by decide) dX12_readFirst_70 (fun H locs G => ?_)
  obtain ⟨S29, eS29, h⟩ := elet_some h
  rw [← eS29] at G
  clear eS29
  exact W.vret hx hb hr (fun t ht hW => ⟨⟨S29, rfl, osome1 h, ⟨by rw [ht]; exact G.1, va_K.moved hW.alike hK, G.2.1⟩⟩, G.2.2.F ht⟩) G.2.2.2.2 dX12_readFirst_71
def fr_readMic_b18  (S : MS) (l1 : Int32) : Option (MS) := obind (fr_nextToken S) fun S2 => obind2 (fr_signed S2 (-500) 500) fun r8 S5 => obind2 (fr_signed S5 (-500) 500) fun r12 S9 => obind2 (fr_number S9 1 9) fun r16 S13 => elet (S13.1 5) fun v17 => if v17 ≤ 0 then (elet (11 + l1) fun v19 => oif (inb v19 131 = true) <| elet (mf S13 11 (upd (S13.2.1 11) v19.toNatClampNeg r8)) fun S21 => elet (23 + l1) fun v22 => oif (inb v22 131 = true) <| elet (mf S21 11 (upd (S21.2.1 11) v22.toNatClampNeg r12)) fun S24 => elet (35 + l1) fun v25 => oif (inb v25 131 = true) <| elet (mf S24 11 (upd (S24.2.1 11) v25.toNatClampNeg r16)) fun S27 => elet (S27.2.1 11 4) fun v28 => elet (v28 + 1) fun v29 => elet (mf S27 11 (upd (S27.2.1 11) 4 v29)) fun S30 => some S30) else (some S13)
set_option maxHeartbeats 4000000 in
set_option maxRecDepth 100000 in
theorem tr_readMic_b18 {p : Program} {l : Launch} {e : Env} {s : State} {m : MethodId} {args : Array Value} {below : List Frame} {meth : Method} {c : Code} {Q : State → Prop} {D : va_G} {A : Nat → Prop} {H0 : Heap} {cI cJ cZ : ClassId} {ad : Nat → Nat} {S1 : MS} (E : mE p c cX12_readMic s m args (Cond.code yX12_readMic cX12_readMic 5 none :: wsM) D cI cJ cZ) (hA : ∀ q : Nat, H0.size ≤ q → A q) (hR : sR s) (hml : c.maxLocals = 5) (kr60 : ∀ (H : Heap) (locs : List Loc) (ls : Array Slot), mG D cI cJ cZ ad A H0 H locs S1 → W p l e { frames := 5, cells := 0, slots := 0, locals := 90 } s m args below meth c H locs 0 0 Q (F0 m 60 ls [])) (kr102 : ∀ (H : Heap) (locs : List Loc) (ls : Array Slot), mG D cI cJ cZ ad A H0 H locs S1 → W p l e { frames := 5, cells := 0, slots := 0, locals := 90 } s m args below meth c H locs 0 0 Q (F0 m 102 ls [])) : ∀ (S : MS) (H : Heap) (locs : List Loc) (ls : Array Slot) (l1 : Int32), fr_readMic_b18 S l1 = some S1 → mG D cI cJ cZ ad A H0 H locs S → lv_has ls 5 [(0, .ref (ad 0)), (1, .int l1)] → W p l e { frames := 5, cells := 0, slots := 0, locals := 90 } s m args below meth c H locs 0 0 Q (F0 m 18 ls []) := by
  have hx := E.1
  have hb := E.2.1
  have hts := E.2.2.1
  have hown := E.2.2.2.1
  have hK := E.2.2.2.2.1
  intro S H locs ls l1 h G hl
  unfold fr_readMic_b18 at h
  refine lv_aload_n hx hb dX12_readMic_18 rfl (lv_at hl 0 rfl) ?_
  obtain ⟨S2, eS2, h⟩ := obind_some h
  refine m_callv (As := []) (rest := []) E G hA hR hml (tr_nextToken l D cI cJ cZ ad S eS2) (cwV 0 hts (gmV qM_111 qM_112 qM_113 qM_35 qM_45) rfl rfl rfl (by decide +kernel) ⟨Nat.le_of_ble_eq_true rfl, Nat.le_of_ble_eq_true rfl⟩) rfl hl.1 rfl (lv_room (Nat.le_of_ble_eq_true rfl)) dX12_readMic_19 ⟨Nat.zero_le _, Nat.zero_le _⟩ (fun S4 H locs hq G => ?_)
  rw [hq] at G
  clear hq eS2
  refine lv_aload_n hx hb dX12_readMic_22 rfl (lv_at hl 0 rfl) ?_
  refine lv_sipush (v := (-500)) hx hb dX12_readMic_23 (by decide) ?_
  refine lv_sipush (v := 500) hx hb dX12_readMic_26 (by decide) ?_
  obtain ⟨r8, S5, eS5, h⟩ := obind2_some h
  refine m_calli (As := [.int (-500), .int 500]) (rest := []) E G hA hR hml (tr_signed l D cI cJ cZ ad S2 (-500) 500 eS5) (cwV 2 hts (gmV qM_142 qM_143 qM_144 qM_35 qM_133) rfl rfl rfl (by decide +kernel) ⟨Nat.le_of_ble_eq_true rfl, Nat.le_of_ble_eq_true rfl⟩) rfl hl.1 rfl (lv_room (Nat.le_of_ble_eq_true rfl)) dX12_readMic_29 ⟨Nat.zero_le _, Nat.zero_le _⟩ (fun q6 S7 H locs hq G => ?_)
  obtain ⟨hq1, hq2⟩ := hq
  rw [hq2] at G
  refine lv_to hq1 ?_
  clear hq1 hq2 eS5
  refine lv_istore_n (lv' := [(2, .int r8), (0, .ref (ad 0)), (1, .int l1)]) hx hb dX12_readMic_32 rfl hl (by decide) rfl (fun ls hl => ?_)
  refine lv_aload_n hx hb dX12_readMic_33 rfl (lv_at hl 1 rfl) ?_
  refine lv_sipush (v := (-500)) hx hb dX12_readMic_34 (by decide) ?_
  refine lv_sipush (v := 500) hx hb dX12_readMic_37 (by decide) ?_
  obtain ⟨r12, S9, eS9, h⟩ := obind2_some h
  refine m_calli (As := [.int (-500), .int 500]) (rest := []) E G hA hR hml (tr_signed l D cI cJ cZ ad S5 (-500) 500 eS9) (cwV 2 hts (gmV qM_142 qM_143 qM_144 qM_35 qM_133) rfl rfl rfl (by decide +kernel) ⟨Nat.le_of_ble_eq_true rfl, Nat.le_of_ble_eq_true rfl⟩) rfl hl.1 rfl (lv_room (Nat.le_of_ble_eq_true rfl)) dX12_readMic_40 ⟨Nat.zero_le _, Nat.zero_le _⟩ (fun q10 S11 H locs hq G => ?_)
  obtain ⟨hq1, hq2⟩ := hq
  rw [hq2] at G
  refine lv_to hq1 ?_
  clear hq1 hq2 eS9
  refine lv_istore_n (lv' := [(3, .int r12), (2, .int r8), (0, .ref (ad 0)), (1, .int l1)]) hx hb dX12_readMic_43 rfl hl (by decide) rfl (fun ls hl => ?_)
  refine lv_aload_n hx hb dX12_readMic_44 rfl (lv_at hl 2 rfl) ?_
  refine lv_iconst (v := 1) hx hb dX12_readMic_45 (by decide) ?_
  refine lv_bipush (v := 9) hx hb dX12_readMic_46 (by decide) ?_
  obtain ⟨r16, S13, eS13, h⟩ := obind2_some h
  refine m_calli (As := [.int 1, .int 9]) (rest := []) E G hA hR hml (tr_number l D cI cJ cZ ad S9 1 9 eS13) (cwV 2 hts (gmV qM_130 qM_131 qM_132 qM_35 qM_122) rfl rfl rfl (by decide +kernel) ⟨Nat.le_of_ble_eq_true rfl, Nat.le_of_ble_eq_true rfl⟩) rfl hl.1 rfl (lv_room (Nat.le_of_ble_eq_true rfl)) dX12_readMic_48 ⟨Nat.zero_le _, Nat.zero_le _⟩ (fun q14 S15 H locs hq G => ?_)
  obtain ⟨hq1, hq2⟩ := hq
  rw [hq2] at G
  refine lv_to hq1 ?_
  clear hq1 hq2 eS13
  refine lv_istore (lv' := [(4, .int r16), (3, .int r12), (2, .int r8), (0, .ref (ad 0)), (1, .int l1)]) hx hb dX12_readMic_51 hl (by decide) rfl (fun ls hl => ?_)
  refine lv_aload_n hx hb dX12_readMic_53 rfl (lv_at hl 3 rfl) ?_
  refine m_get E G 5 (v := .int (S13.1 5)) (by decide) (.tail _ qM_38) rfl dX12_readMic_54 rfl ?_
  refine lv_topi (fun v17 ev17 => ?_)
  have h := elet_at ev17 h
  clear ev17
  refine lv_if_le (tgt := 61) hx hb dX12_readMic_57 (by decide) (fun c18 => ?_) (fun c18 => ?_)
  · have h := oif_pos c18 h
    refine lv_aload_n hx hb dX12_readMic_61 rfl (lv_at hl 3 rfl) ?_
    refine m_get E G 11 (v := .ref (ad 11)) (by decide) (.tail _ qM_8) rfl dX12_readMic_62 rfl ?_
    refine lv_bipush (v := 11) hx hb dX12_readMic_65 (by decide) ?_
    refine lv_iload_n hx hb dX12_readMic_67 rfl (lv_at hl 4 rfl) ?_
    refine lv_iadd hx hb dX12_readMic_68 ?_
    refine lv_topi (fun v19 ev19 => ?_)
    have h := elet_at ev19 h
    clear ev19
    refine lv_iload_n hx hb dX12_readMic_69 rfl (lv_at hl 2 rfl) ?_
    obtain ⟨g20, h⟩ := oif_some h
    refine m_iast E G 11 3 (k := v19.toNatClampNeg) (v := r8) rfl (fun _ => rfl) (inb_k g20).1 (inb_k g20).2 (by decide) dX12_readMic_70 (fun H locs G => ?_)
    obtain ⟨S21, eS21, h⟩ := elet_some h
    rw [← eS21] at G
    clear eS21
    refine lv_aload_n hx hb dX12_readMic_71 rfl (lv_at hl 3 rfl) ?_
    refine m_get E G 11 (v := .ref (ad 11)) (by decide) (.tail _ qM_8) rfl dX12_readMic_72 rfl ?_
    refine lv_bipush (v := 23) hx hb dX12_readMic_75 (by decide) ?_
    refine lv_iload_n hx hb dX12_readMic_77 rfl (lv_at hl 4 rfl) ?_
    refine lv_iadd hx hb dX12_readMic_78 ?_
    refine lv_topi (fun v22 ev22 => ?_)
    have h := elet_at ev22 h
    clear ev22
    refine lv_iload_n hx hb dX12_readMic_79 rfl (lv_at hl 1 rfl) ?_
    obtain ⟨g23, h⟩ := oif_some h
    refine m_iast E G 11 3 (k := v22.toNatClampNeg) (v := r12) rfl (fun _ => rfl) (inb_k g23).1 (inb_k g23).2 (by decide) dX12_readMic_80 (fun H locs G => ?_)
    obtain ⟨S24, eS24, h⟩ := elet_some h
    rw [← eS24] at G
    clear eS24
    refine lv_aload_n hx hb dX12_readMic_81 rfl (lv_at hl 3 rfl) ?_
    refine m_get E G 11 (v := .ref (ad 11)) (by decide) (.tail _ qM_8) rfl dX12_readMic_82 rfl ?_
    refine lv_bipush (v := 35) hx hb dX12_readMic_85 (by decide) ?_
    refine lv_iload_n hx hb dX12_readMic_87 rfl (lv_at hl 4 rfl) ?_
    refine lv_iadd hx hb dX12_readMic_88 ?_
    refine lv_topi (fun v25 ev25 => ?_)
    have h := elet_at ev25 h
    clear ev25
    refine lv_iload hx hb dX12_readMic_89 (lv_at hl 0 rfl) ?_
    obtain ⟨g26, h⟩ := oif_some h
    refine m_iast E G 11 3 (k := v25.toNatClampNeg) (v := r16) rfl (fun _ => rfl) (inb_k g26).1 (inb_k g26).2 (by decide) dX12_readMic_91 (fun H locs G => ?_)
    obtain ⟨S27, eS27, h⟩ := elet_some h
    rw [← eS27] at G
    clear eS27
    refine lv_aload_n hx hb dX12_readMic_92 rfl (lv_at hl 3 rfl) ?_
    refine m_get E G 11 (v := .ref (ad 11)) (by decide) (.tail _ qM_8) rfl dX12_readMic_93 rfl ?_
    refine lv_iconst (v := 4) hx hb dX12_readMic_96 (by decide) ?_
    refine lv_dup2_11 hx hb dX12_readMic_97 rfl rfl ?_
    refine m_iald E G 11 3 (n := 131) (k := 4) rfl rfl (by decide) (by decide) dX12_readMic_98 ?_
    refine lv_topi (fun v28 ev28 => ?_)
    have h := elet_at ev28 h
    clear ev28
    refine lv_iconst (v := 1) hx hb dX12_readMic_99 (by decide) ?_
    refine lv_iadd hx hb dX12_readMic_100 ?_
    refine lv_topi (fun v29 ev29 => ?_)
    have h := elet_at ev29 h
    clear ev29
    refine m_iast E G 11 3 (k := 4) (v := v29) rfl (fun _ => rfl) rfl (by decide) (by decide) dX12_readMic_101 (fun H locs G => ?_)
    obtain ⟨S30, eS30, h⟩ := elet_some h
    rw [← eS30] at G
    clear eS30
    rw [osome1 h] at G
    exact kr102 _ _ _ G
  · have h := oif_neg c18 h
    rw [osome1 h] at G
    exact kr60 _ _ _ G
def fr_readMic (S : MS)  : Option (MS) := elet (S.2.1 11 4) fun v2 => if v2 = 12 then (obind (fr_faults S 4) fun S4 => fr_readMic_b18 S4 v2) else (fr_readMic_b18 S v2)
set_option maxHeartbeats 4000000 in
set_option maxRecDepth 100000 in
theorem tr_readMic (l : Launch) (D : va_G) (cI cJ cZ : ClassId) (ad : Nat → Nat) (S : MS)  {S1 : MS} (h : fr_readMic S = some S1) : mCv l yX12_readMic (Cond.code yX12_readMic cX12_readMic 5 none :: wsM) 5 90 D cI cJ cZ ad S [] (fun S9 => S9 = S1) := by
  intro sz
  refine Met.ofW (cc := cX12_readMic) (maxL := 5) (ret := none) (by decide) rfl ?_
  intro p e s m args below meth c s₁ B hml hv
  obtain ⟨rfl, hsz, hP, hK, hD0, hR⟩ := hv
  have hx := B.exec
  have hb := B.bytes
  have hr := B.returns
  have hts := atoms_spec (ws := (Cond.code yX12_readMic cX12_readMic 5 none :: wsM)) B.pre
  have hown : s.vm.findClass RX12 = some m.cls := findClass_of_methodNamed B.named
  have hlocks := B.notSynchronized
  subst hsz
  have hD := hD0.self (sz := s.heap.size)
  generalize hAe : va_A (MW cI cJ cZ ad S) s.heap.size = A at hD ⊢
  have hA : ∀ q : Nat, s.heap.size ≤ q → A q := fun q h => by rw [← hAe]; exact Or.inr h
  have G : mG D cI cJ cZ ad A s.heap s.heap [] S := ⟨hP, hD, va_S.rf⟩
  have E : mE p c cX12_readMic s m ([.ref (ad 0)] : List Value).toArray (Cond.code yX12_readMic cX12_readMic 5 none :: wsM) D cI cJ cZ := ⟨hx, hb, hts, hown, hK, fun w h => .tail _ (iM_x h)⟩
  have hl := lv_entry ([.ref (ad 0)]) (n := 5) (Nat.le_of_ble_eq_true rfl)
  rw [lg_entry_eq]
  generalize (lg_sl ([.ref (ad 0)]) ++ List.replicate (5 - (lg_sl ([.ref (ad 0)])).length) Slot.unset).toArray = ls at hl ⊢
  have hl : lv_has ls 5 [(0, .ref (ad 0))] := hl
  unfold fr_readMic at h
  refine lv_aload_n hx hb dX12_readMic_0 rfl (lv_at hl 0 rfl) ?_
  refine m_get E G 11 (v := .ref (ad 11)) (by decide) (.tail _ qM_8) rfl dX12_readMic_1 rfl ?_
  refine lv_iconst (v := 4) hx hb dX12_readMic_4 (by decide) ?_
  refine m_iald E G 11 3 (n := 131) (k := 4) rfl rfl (by decide) (by decide) dX12_readMic_5 ?_
  refine lv_topi (fun v2 ev2 => ?_)
  have h := elet_at ev2 h
  clear ev2
  refine lv_istore_n (lv' := [(1, .int v2), (0, .ref (ad 0))]) hx hb dX12_readMic_6 rfl hl (by decide) rfl (fun ls hl => ?_)
  refine lv_iload_n hx hb dX12_readMic_7 rfl (lv_at hl 0 rfl) ?_
  refine lv_bipush (v := 12) hx hb dX12_readMic_8 (by decide) ?_
  refine lv_icmp_ne (tgt := 18) hx hb dX12_readMic_10 (by decide) (fun c3 => ?_) (fun c3 => ?_)
  · have h := oif_neg c3 h
    have hl := lv_sub hl [1, 0] rfl
    exact tr_readMic_b18 E hA hR hml (fun H locs ls G => W.vret hx hb hr (fun t ht hW => ⟨⟨S1, rfl, rfl, ⟨by rw [ht]; exact G.1, va_K.moved hW.alike hK, G.2.1⟩⟩, G.2.2.F ht⟩) G.2.2.2.2 dX12_readMic_60) (fun H locs ls G => W.vret hx hb hr (fun t ht hW => ⟨⟨S1, rfl, rfl, ⟨by rw [ht]; exact G.1, va_K.moved hW.alike hK, G.2.1⟩⟩, G.2.2.F ht⟩) G.2.2.2.2 dX12_readMic_102) _ _ _ _ _ h G hl
  · have h := oif_pos c3 h
    refine lv_aload_n hx hb dX12_readMic_13 rfl (lv_at hl 1 rfl) ?_
    refine lv_iconst (v := 4) hx hb dX12_readMic_14 (by decide) ?_
    obtain ⟨S4, eS4, h⟩ := obind_some h
    refine m_callv (As := [.int 4]) (rest := []) E G hA hR hml (tr_faults l D cI cJ cZ ad S 4 eS4) (cwV 1 hts (gmV qM_118 qM_119 qM_120 qM_35 qM_42) rfl rfl rfl (by decide +kernel) ⟨Nat.le_of_ble_eq_true rfl, Nat.le_of_ble_eq_true rfl⟩) rfl hl.1 rfl (lv_room (Nat.le_of_ble_eq_true rfl)) dX12_readMic_15 ⟨Nat.zero_le _, Nat.zero_le _⟩ (fun S6 H locs hq G => ?_)
    rw [hq] at G
    clear hq eS4
    have hl := lv_sub hl [1, 0] rfl
    exact tr_readMic_b18 E hA hR hml (fun H locs ls G => W.vret hx hb hr (fun t ht hW => ⟨⟨S1, rfl, rfl, ⟨by rw [ht]; exact G.1, va_K.moved hW.alike hK, G.2.1⟩⟩, G.2.2.F ht⟩) G.2.2.2.2 dX12_readMic_60) (fun H locs ls G => W.vret hx hb hr (fun t ht hW => ⟨⟨S1, rfl, rfl, ⟨by rw [ht]; exact G.1, va_K.moved hW.alike hK, G.2.1⟩⟩, G.2.2.F ht⟩) G.2.2.2.2 dX12_readMic_102) _ _ _ _ _ h G hl
def fr_readMap_b15  (S : MS)  : Option (MS) := obind (fr_nextToken S) fun S2 => obind2 (fr_signed S2 (-999) 999) fun r8 S5 => obind2 (fr_signed S5 (-999) 999) fun r12 S9 => obind2 (fr_number S9 1 99) fun r16 S13 => obind2 (fr_number S13 1 12) fun r20 S17 => obind2 (fr_number S17 1 12) fun r24 S21 => elet (S21.1 5) fun v25 => if v25 ≤ 0 then (elet (mf S21 11 (upd (S21.2.1 11) 6 r8)) fun S27 => elet (mf S27 11 (upd (S27.2.1 11) 7 r12)) fun S28 => elet (mf S28 11 (upd (S28.2.1 11) 8 r16)) fun S29 => elet (mf S29 11 (upd (S29.2.1 11) 9 r20)) fun S30 => elet (mf S30 11 (upd (S30.2.1 11) 10 r24)) fun S31 => some S31) else (some S21)
set_option maxHeartbeats 4000000 in
set_option maxRecDepth 100000 in
theorem tr_readMap_b15 {p : Program} {l : Launch} {e : Env} {s : State} {m : MethodId} {args : Array Value} {below : List Frame} {meth : Method} {c : Code} {Q : State → Prop} {D : va_G} {A : Nat → Prop} {H0 : Heap} {cI cJ cZ : ClassId} {ad : Nat → Nat} {S1 : MS} (E : mE p c cX12_readMap s m args (Cond.code yX12_readMap cX12_readMap 6 none :: wsM) D cI cJ cZ) (hA : ∀ q : Nat, H0.size ≤ q → A q) (hR : sR s) (hml : c.maxLocals = 6) (kr74 : ∀ (H : Heap) (locs : List Loc) (ls : Array Slot), mG D cI cJ cZ ad A H0 H locs S1 → W p l e { frames := 5, cells := 0, slots := 0, locals := 90 } s m args below meth c H locs 0 0 Q (F0 m 74 ls [])) (kr117 : ∀ (H : Heap) (locs : List Loc) (ls : Array Slot), mG D cI cJ cZ ad A H0 H locs S1 → W p l e { frames := 5, cells := 0, slots := 0, locals := 90 } s m args below meth c H locs 0 0 Q (F0 m 117 ls [])) : ∀ (S : MS) (H : Heap) (locs : List Loc) (ls : Array Slot), fr_readMap_b15 S = some S1 → mG D cI cJ cZ ad A H0 H locs S → lv_has ls 6 [(0, .ref (ad 0))] → W p l e { frames := 5, cells := 0, slots := 0, locals := 90 } s m args below meth c H locs 0 0 Q (F0 m 15 ls []) := by
  have hx := E.1
  have hb := E.2.1
  have hts := E.2.2.1
  have hown := E.2.2.2.1
  have hK := E.2.2.2.2.1
  intro S H locs ls h G hl
  unfold fr_readMap_b15 at h
  refine lv_aload_n hx hb dX12_readMap_15 rfl (lv_at hl 0 rfl) ?_
  obtain ⟨S2, eS2, h⟩ := obind_some h
  refine m_callv (As := []) (rest := []) E G hA hR hml (tr_nextToken l D cI cJ cZ ad S eS2) (cwV 0 hts (gmV qM_111 qM_112 qM_113 qM_35 qM_45) rfl rfl rfl (by decide +kernel) ⟨Nat.le_of_ble_eq_true rfl, Nat.le_of_ble_eq_true rfl⟩) rfl hl.1 rfl (lv_room (Nat.le_of_ble_eq_true rfl)) dX12_readMap_16 ⟨Nat.zero_le _, Nat.zero_le _⟩ (fun S4 H locs hq G => ?_)
  rw [hq] at G
  clear hq eS2
  refine lv_aload_n hx hb dX12_readMap_19 rfl (lv_at hl 0 rfl) ?_
  refine lv_sipush (v := (-999)) hx hb dX12_readMap_20 (by decide) ?_
  refine lv_sipush (v := 999) hx hb dX12_readMap_23 (by decide) ?_
  obtain ⟨r8, S5, eS5, h⟩ := obind2_some h
  refine m_calli (As := [.int (-999), .int 999]) (rest := []) E G hA hR hml (tr_signed l D cI cJ cZ ad S2 (-999) 999 eS5) (cwV 2 hts (gmV qM_142 qM_143 qM_144 qM_35 qM_133) rfl rfl rfl (by decide +kernel) ⟨Nat.le_of_ble_eq_true rfl, Nat.le_of_ble_eq_true rfl⟩) rfl hl.1 rfl (lv_room (Nat.le_of_ble_eq_true rfl)) dX12_readMap_26 ⟨Nat.zero_le _, Nat.zero_le _⟩ (fun q6 S7 H locs hq G => ?_)
  obtain ⟨hq1, hq2⟩ := hq
  rw [hq2] at G
  refine lv_to hq1 ?_
  clear hq1 hq2 eS5
  refine lv_istore_n (lv' := [(1, .int r8), (0, .ref (ad 0))]) hx hb dX12_readMap_29 rfl hl (by decide) rfl (fun ls hl => ?_)
  refine lv_aload_n hx hb dX12_readMap_30 rfl (lv_at hl 1 rfl) ?_
  refine lv_sipush (v := (-999)) hx hb dX12_readMap_31 (by decide) ?_
  refine lv_sipush (v := 999) hx hb dX12_readMap_34 (by decide) ?_
  obtain ⟨r12, S9, eS9, h⟩ := obind2_some h
  refine m_calli (As := [.int (-999), .int 999]) (rest := []) E G hA hR hml (tr_signed l D cI cJ cZ ad S5 (-999) 999 eS9) (cwV 2 hts (gmV qM_142 qM_143 qM_144 qM_35 qM_133) rfl rfl rfl (by decide +kernel) ⟨Nat.le_of_ble_eq_true rfl, Nat.le_of_ble_eq_true rfl⟩) rfl hl.1 rfl (lv_room (Nat.le_of_ble_eq_true rfl)) dX12_readMap_37 ⟨Nat.zero_le _, Nat.zero_le _⟩ (fun q10 S11 H locs hq G => ?_)
  obtain ⟨hq1, hq2⟩ := hq
  rw [hq2] at G
  refine lv_to hq1 ?_
  clear hq1 hq2 eS9
  refine lv_istore_n (lv' := [(2, .int r12), (1, .int r8), (0, .ref (ad 0))]) hx hb dX12_readMap_40 rfl hl (by decide) rfl (fun ls hl => ?_)
  refine lv_aload_n hx hb dX12_readMap_41 rfl (lv_at hl 2 rfl) ?_
  refine lv_iconst (v := 1) hx hb dX12_readMap_42 (by decide) ?_
  refine lv_bipush (v := 99) hx hb dX12_readMap_43 (by decide) ?_
  obtain ⟨r16, S13, eS13, h⟩ := obind2_some h
  refine m_calli (As := [.int 1, .int 99]) (rest := []) E G hA hR hml (tr_number l D cI cJ cZ ad S9 1 99 eS13) (cwV 2 hts (gmV qM_130 qM_131 qM_132 qM_35 qM_122) rfl rfl rfl (by decide +kernel) ⟨Nat.le_of_ble_eq_true rfl, Nat.le_of_ble_eq_true rfl⟩) rfl hl.1 rfl (lv_room (Nat.le_of_ble_eq_true rfl)) dX12_readMap_45 ⟨Nat.zero_le _, Nat.zero_le _⟩ (fun q14 S15 H locs hq G => ?_)
  obtain ⟨hq1, hq2⟩ := hq
  rw [hq2] at G
  refine lv_to hq1 ?_
  clear hq1 hq2 eS13
  refine lv_istore_n (lv' := [(3, .int r16), (2, .int r12), (1, .int r8), (0, .ref (ad 0))]) hx hb dX12_readMap_48 rfl hl (by decide) rfl (fun ls hl => ?_)
  refine lv_aload_n hx hb dX12_readMap_49 rfl (lv_at hl 3 rfl) ?_
  refine lv_iconst (v := 1) hx hb dX12_readMap_50 (by decide) ?_
  refine lv_bipush (v := 12) hx hb dX12_readMap_51 (by decide) ?_
  obtain ⟨r20, S17, eS17, h⟩ := obind2_some h
  refine m_calli (As := [.int 1, .int 12]) (rest := []) E G hA hR hml (tr_number l D cI cJ cZ ad S13 1 12 eS17) (cwV 2 hts (gmV qM_130 qM_131 qM_132 qM_35 qM_122) rfl rfl rfl (by decide +kernel) ⟨Nat.le_of_ble_eq_true rfl, Nat.le_of_ble_eq_true rfl⟩) rfl hl.1 rfl (lv_room (Nat.le_of_ble_eq_true rfl)) dX12_readMap_53 ⟨Nat.zero_le _, Nat.zero_le _⟩ (fun q18 S19 H locs hq G => ?_)
  obtain ⟨hq1, hq2⟩ := hq
  rw [hq2] at G
  refine lv_to hq1 ?_
  clear hq1 hq2 eS17
  refine lv_istore (lv' := [(4, .int r20), (3, .int r16), (2, .int r12), (1, .int r8), (0, .ref (ad 0))]) hx hb dX12_readMap_56 hl (by decide) rfl (fun ls hl => ?_)
  refine lv_aload_n hx hb dX12_readMap_58 rfl (lv_at hl 4 rfl) ?_
  refine lv_iconst (v := 1) hx hb dX12_readMap_59 (by decide) ?_
  refine lv_bipush (v := 12) hx hb dX12_readMap_60 (by decide) ?_
  obtain ⟨r24, S21, eS21, h⟩ := obind2_some h
  refine m_calli (As := [.int 1, .int 12]) (rest := []) E G hA hR hml (tr_number l D cI cJ cZ ad S17 1 12 eS21) (cwV 2 hts (gmV qM_130 qM_131 qM_132 qM_35 qM_122) rfl rfl rfl (by decide +kernel) ⟨Nat.le_of_ble_eq_true rfl, Nat.le_of_ble_eq_true rfl⟩) rfl hl.1 rfl (lv_room (Nat.le_of_ble_eq_true rfl)) dX12_readMap_62 ⟨Nat.zero_le _, Nat.zero_le _⟩ (fun q22 S23 H locs hq G => ?_)
  obtain ⟨hq1, hq2⟩ := hq
  rw [hq2] at G
  refine lv_to hq1 ?_
  clear hq1 hq2 eS21
  refine lv_istore (lv' := [(5, .int r24), (4, .int r20), (3, .int r16), (2, .int r12), (1, .int r8), (0, .ref (ad 0))]) hx hb dX12_readMap_65 hl (by decide) rfl (fun ls hl => ?_)
  refine lv_aload_n hx hb dX12_readMap_67 rfl (lv_at hl 5 rfl) ?_
  refine m_get E G 5 (v := .int (S21.1 5)) (by decide) (.tail _ qM_38) rfl dX12_readMap_68 rfl ?_
  refine lv_topi (fun v25 ev25 => ?_)
  have h := elet_at ev25 h
  clear ev25
  refine lv_if_le (tgt := 75) hx hb dX12_readMap_71 (by decide) (fun c26 => ?_) (fun c26 => ?_)
  · have h := oif_pos c26 h
    refine lv_aload_n hx hb dX12_readMap_75 rfl (lv_at hl 5 rfl) ?_
    refine m_get E G 11 (v := .ref (ad 11)) (by decide) (.tail _ qM_8) rfl dX12_readMap_76 rfl ?_
    refine lv_bipush (v := 6) hx hb dX12_readMap_79 (by decide) ?_
    refine lv_iload_n hx hb dX12_readMap_81 rfl (lv_at hl 4 rfl) ?_
    refine m_iast E G 11 3 (k := 6) (v := r8) rfl (fun _ => rfl) rfl (by decide) (by decide) dX12_readMap_82 (fun H locs G => ?_)
    obtain ⟨S27, eS27, h⟩ := elet_some h
    rw [← eS27] at G
    clear eS27
    refine lv_aload_n hx hb dX12_readMap_83 rfl (lv_at hl 5 rfl) ?_
    refine m_get E G 11 (v := .ref (ad 11)) (by decide) (.tail _ qM_8) rfl dX12_readMap_84 rfl ?_
    refine lv_bipush (v := 7) hx hb dX12_readMap_87 (by decide) ?_
    refine lv_iload_n hx hb dX12_readMap_89 rfl (lv_at hl 3 rfl) ?_
    refine m_iast E G 11 3 (k := 7) (v := r12) rfl (fun _ => rfl) rfl (by decide) (by decide) dX12_readMap_90 (fun H locs G => ?_)
    obtain ⟨S28, eS28, h⟩ := elet_some h
    rw [← eS28] at G
    clear eS28
    refine lv_aload_n hx hb dX12_readMap_91 rfl (lv_at hl 5 rfl) ?_
    refine m_get E G 11 (v := .ref (ad 11)) (by decide) (.tail _ qM_8) rfl dX12_readMap_92 rfl ?_
    refine lv_bipush (v := 8) hx hb dX12_readMap_95 (by decide) ?_
    refine lv_iload_n hx hb dX12_readMap_97 rfl (lv_at hl 2 rfl) ?_
    refine m_iast E G 11 3 (k := 8) (v := r16) rfl (fun _ => rfl) rfl (by decide) (by decide) dX12_readMap_98 (fun H locs G => ?_)
    obtain ⟨S29, eS29, h⟩ := elet_some h
    rw [← eS29] at G
    clear eS29
    refine lv_aload_n hx hb dX12_readMap_99 rfl (lv_at hl 5 rfl) ?_
    refine m_get E G 11 (v := .ref (ad 11)) (by decide) (.tail _ qM_8) rfl dX12_readMap_100 rfl ?_
    refine lv_bipush (v := 9) hx hb dX12_readMap_103 (by decide) ?_
    refine lv_iload hx hb dX12_readMap_105 (lv_at hl 1 rfl) ?_
    refine m_iast E G 11 3 (k := 9) (v := r20) rfl (fun _ => rfl) rfl (by decide) (by decide) dX12_readMap_107 (fun H locs G => ?_)
    obtain ⟨S30, eS30, h⟩ := elet_some h
    rw [← eS30] at G
    clear eS30
    refine lv_aload_n hx hb dX12_readMap_108 rfl (lv_at hl 5 rfl) ?_
    refine m_get E G 11 (v := .ref (ad 11)) (by decide) (.tail _ qM_8) rfl dX12_readMap_109 rfl ?_
    refine lv_bipush (v := 10) hx hb dX12_readMap_112 (by decide) ?_
    refine lv_iload hx hb dX12_readMap_114 (lv_at hl 0 rfl) ?_
    refine m_iast E G 11 3 (k := 10) (v := r24) rfl (fun _ => rfl) rfl (by decide) (by decide) dX12_readMap_116 (fun H locs G => ?_)
    obtain ⟨S31, eS31, h⟩ := elet_some h
    rw [← eS31] at G
    clear eS31
    rw [osome1 h] at G
    exact kr117 _ _ _ G
  · have h := oif_neg c26 h
    rw [osome1 h] at G
    exact kr74 _ _ _ G
def fr_readMap (S : MS)  : Option (MS) := elet (S.2.1 11 8) fun v2 => if v2 ≤ 0 then (fr_readMap_b15 S) else (obind (fr_faults S 3) fun S4 => fr_readMap_b15 S4)
set_option maxHeartbeats 4000000 in
set_option maxRecDepth 100000 in
theorem tr_readMap (l : Launch) (D : va_G) (cI cJ cZ : ClassId) (ad : Nat → Nat) (S : MS)  {S1 : MS} (h : fr_readMap S = some S1) : mCv l yX12_readMap (Cond.code yX12_readMap cX12_readMap 6 none :: wsM) 5 90 D cI cJ cZ ad S [] (fun S9 => S9 = S1) := by
  intro sz
  refine Met.ofW (cc := cX12_readMap) (maxL := 6) (ret := none) (by decide) rfl ?_
  intro p e s m args below meth c s₁ B hml hv
  obtain ⟨rfl, hsz, hP, hK, hD0, hR⟩ := hv
  have hx := B.exec
  have hb := B.bytes
  have hr := B.returns
  have hts := atoms_spec (ws := (Cond.code yX12_readMap cX12_readMap 6 none :: wsM)) B.pre
  have hown : s.vm.findClass RX12 = some m.cls := findClass_of_methodNamed B.named
  have hlocks := B.notSynchronized
  subst hsz
  have hD := hD0.self (sz := s.heap.size)
  generalize hAe : va_A (MW cI cJ cZ ad S) s.heap.size = A at hD ⊢
  have hA : ∀ q : Nat, s.heap.size ≤ q → A q := fun q h => by rw [← hAe]; exact Or.inr h
  have G : mG D cI cJ cZ ad A s.heap s.heap [] S := ⟨hP, hD, va_S.rf⟩
  have E : mE p c cX12_readMap s m ([.ref (ad 0)] : List Value).toArray (Cond.code yX12_readMap cX12_readMap 6 none :: wsM) D cI cJ cZ := ⟨hx, hb, hts, hown, hK, fun w h => .tail _ (iM_x h)⟩
  have hl := lv_entry ([.ref (ad 0)]) (n := 6) (Nat.le_of_ble_eq_true rfl)
  rw [lg_entry_eq]
  generalize (lg_sl ([.ref (ad 0)]) ++ List.replicate (6 - (lg_sl ([.ref (ad 0)])).length) Slot.unset).toArray = ls at hl ⊢
  have hl : lv_has ls 6 [(0, .ref (ad 0))] := hl
  unfold fr_readMap at h
  refine lv_aload_n hx hb dX12_readMap_0 rfl (lv_at hl 0 rfl) ?_
  refine m_get E G 11 (v := .ref (ad 11)) (by decide) (.tail _ qM_8) rfl dX12_readMap_1 rfl ?_
  refine lv_bipush (v := 8) hx hb dX12_readMap_4 (by decide) ?_
  refine m_iald E G 11 3 (n := 131) (k := 8) rfl rfl (by decide) (by decide) dX12_readMap_6 ?_
  refine lv_topi (fun v2 ev2 => ?_)
  have h := elet_at ev2 h
  clear ev2
  refine lv_if_le (tgt := 15) hx hb dX12_readMap_7 (by decide) (fun c3 => ?_) (fun c3 => ?_)
  · have h := oif_pos c3 h
    have hl := lv_sub hl [0] rfl
    exact tr_readMap_b15 E hA hR hml (fun H locs ls G => W.vret hx hb hr (fun t ht hW => ⟨⟨S1, rfl, rfl, ⟨by rw [ht]; exact G.1, va_K.moved hW.alike hK, G.2.1⟩⟩, G.2.2.F ht⟩) G.2.2.2.2 dX12_readMap_74) (fun H locs ls G => W.vret hx hb hr (fun t ht hW => ⟨⟨S1, rfl, rfl, ⟨by rw [ht]; exact G.1, va_K.moved hW.alike hK, G.2.1⟩⟩, G.2.2.F ht⟩) G.2.2.2.2 dX12_readMap_117) _ _ _ _ h G hl
  · have h := oif_neg c3 h
    refine lv_aload_n hx hb dX12_readMap_10 rfl (lv_at hl 0 rfl) ?_
    refine lv_iconst (v := 3) hx hb dX12_readMap_11 (by decide) ?_
    obtain ⟨S4, eS4, h⟩ := obind_some h
    refine m_callv (As := [.int 3]) (rest := []) E G hA hR hml (tr_faults l D cI cJ cZ ad S 3 eS4) (cwV 1 hts (gmV qM_118 qM_119 qM_120 qM_35 qM_42) rfl rfl rfl (by decide +kernel) ⟨Nat.le_of_ble_eq_true rfl, Nat.le_of_ble_eq_true rfl⟩) rfl hl.1 rfl (lv_room (Nat.le_of_ble_eq_true rfl)) dX12_readMap_12 ⟨Nat.zero_le _, Nat.zero_le _⟩ (fun S6 H locs hq G => ?_)
    rw [hq] at G
    clear hq eS4
    have hl := lv_sub hl [0] rfl
    exact tr_readMap_b15 E hA hR hml (fun H locs ls G => W.vret hx hb hr (fun t ht hW => ⟨⟨S1, rfl, rfl, ⟨by rw [ht]; exact G.1, va_K.moved hW.alike hK, G.2.1⟩⟩, G.2.2.F ht⟩) G.2.2.2.2 dX12_readMap_74) (fun H locs ls G => W.vret hx hb hr (fun t ht hW => ⟨⟨S1, rfl, rfl, ⟨by rw [ht]; exact G.1, va_K.moved hW.alike hK, G.2.1⟩⟩, G.2.2.F ht⟩) G.2.2.2.2 dX12_readMap_117) _ _ _ _ h G hl
def fr_readSource_b186  (S : MS) (s0 : Int32) (l1 : Int32) (l2 : Int32) (l3 : Int32) (l4 : Int32) (l5 : Int32) (l6 : Int32) (l7 : Int32) (l8 : Int32) (l9 : Int32) : Option (MS) := elet (S.1 5) fun v2 => if v2 ≤ 0 then (elet (95 + l1) fun v4 => oif (inb v4 131 = true) <| elet (mf S 11 (upd (S.2.1 11) v4.toNatClampNeg s0)) fun S6 => elet (25 + l1) fun v7 => oif (inb v7 2455 = true) <| elet (mf S6 13 (upd (S6.2.1 13) v7.toNatClampNeg 1)) fun S9 => elet (31 + l1) fun v10 => oif (inb v10 2455 = true) <| elet (mf S9 13 (upd (S9.2.1 13) v10.toNatClampNeg l3)) fun S12 => elet (37 + l1) fun v13 => oif (inb v13 2455 = true) <| elet (mf S12 13 (upd (S12.2.1 13) v13.toNatClampNeg l4)) fun S15 => elet (43 + l1) fun v16 => oif (inb v16 2455 = true) <| elet (mf S15 13 (upd (S15.2.1 13) v16.toNatClampNeg l5)) fun S18 => elet (49 + l1) fun v19 => oif (inb v19 2455 = true) <| elet (mf S18 13 (upd (S18.2.1 13) v19.toNatClampNeg l6)) fun S21 => elet (47 + l1) fun v22 => oif (inb v22 131 = true) <| elet (mf S21 11 (upd (S21.2.1 11) v22.toNatClampNeg l2)) fun S24 => elet (53 + l1) fun v25 => oif (inb v25 131 = true) <| elet (mf S24 11 (upd (S24.2.1 11) v25.toNatClampNeg l7)) fun S27 => elet (59 + l1) fun v28 => oif (inb v28 131 = true) <| elet (mf S27 11 (upd (S27.2.1 11) v28.toNatClampNeg l8)) fun S30 => elet (65 + l1) fun v31 => oif (inb v31 131 = true) <| elet (mf S30 11 (upd (S30.2.1 11) v31.toNatClampNeg l9)) fun S33 => elet (S33.2.1 11 5) fun v34 => elet (v34 + 1) fun v35 => elet (mf S33 11 (upd (S33.2.1 11) 5 v35)) fun S36 => some S36) else (some S)
set_option maxHeartbeats 4000000 in
set_option maxRecDepth 100000 in
theorem tr_readSource_b186 {p : Program} {l : Launch} {e : Env} {s : State} {m : MethodId} {args : Array Value} {below : List Frame} {meth : Method} {c : Code} {Q : State → Prop} {D : va_G} {A : Nat → Prop} {cI cJ cZ : ClassId} {ad : Nat → Nat} {S1 : MS} (E : mE p c cX12_readSource s m args (Cond.code yX12_readSource cX12_readSource 11 none :: wsM) D cI cJ cZ) (hA : ∀ q : Nat, s.heap.size ≤ q → A q) (hR : sR s) (hml : c.maxLocals = 11) {h0 : Nat} (hA0 : ∀ a : Nat, A a → h0 ≤ a) (hT : sAll h0 s) (kr195 : ∀ (H : Heap) (locs : List Loc) (ls : Array Slot), mG D cI cJ cZ ad A s.heap H locs S1 → W p l e { frames := 7, cells := 0, slots := 0, locals := 131 } s m args below meth c H locs 0 0 Q (F0 m 195 ls [])) (kr313 : ∀ (H : Heap) (locs : List Loc) (ls : Array Slot), mG D cI cJ cZ ad A s.heap H locs S1 → W p l e { frames := 7, cells := 0, slots := 0, locals := 131 } s m args below meth c H locs 0 0 Q (F0 m 313 ls [])) : ∀ (S : MS) (H : Heap) (locs : List Loc) (ls : Array Slot) (s0 : Int32) (l1 : Int32) (l2 : Int32) (l3 : Int32) (l4 : Int32) (l5 : Int32) (l6 : Int32) (l7 : Int32) (l8 : Int32) (l9 : Int32), fr_readSource_b186 S s0 l1 l2 l3 l4 l5 l6 l7 l8 l9 = some S1 → mG D cI cJ cZ ad A s.heap H locs S → lv_has ls 11 [(0, .ref (ad 0)), (1, .int l1), (2, .int l2), (3, .int l3), (4, .int l4), (5, .int l5), (6, .int l6), (7, .int l7), (8, .int l8), (9, .int l9)] → W p l e { frames := 7, cells := 0, slots := 0, locals := 131 } s m args below meth c H locs 0 0 Q (F0 m 186 ls [.int s0]) := by
  have hx := E.1
  have hb := E.2.1
  have hts := E.2.2.1
  have hown := E.2.2.2.1
  have hK := E.2.2.2.2.1
  intro S H locs ls s0 l1 l2 l3 l4 l5 l6 l7 l8 l9 h G hl
  unfold fr_readSource_b186 at h
  refine lv_istore (lv' := [(10, .int s0), (0, .ref (ad 0)), (1, .int l1), (2, .int l2), (3, .int l3), (4, .int l4), (5, .int l5), (6, .int l6), (7, .int l7), (8, .int l8), (9, .int l9)]) hx hb dX12_readSource_186 hl (by decide) rfl (fun ls hl => ?_)
  refine lv_aload_n hx hb dX12_readSource_188 rfl (lv_at hl 1 rfl) ?_
  refine m_get E G 5 (v := .int (S.1 5)) (by decide) (.tail _ qM_38) rfl dX12_readSource_189 rfl ?_
  refine lv_topi (fun v2 ev2 => ?_)
  have h := elet_at ev2 h
  clear ev2
  refine lv_if_le (tgt := 196) hx hb dX12_readSource_192 (by decide) (fun c3 => ?_) (fun c3 => ?_)
  · have h := oif_pos c3 h
    refine lv_aload_n hx hb dX12_readSource_196 rfl (lv_at hl 1 rfl) ?_
    refine m_get E G 11 (v := .ref (ad 11)) (by decide) (.tail _ qM_8) rfl dX12_readSource_197 rfl ?_
    refine lv_bipush (v := 95) hx hb dX12_readSource_200 (by decide) ?_
    refine lv_iload_n hx hb dX12_readSource_202 rfl (lv_at hl 2 rfl) ?_
    refine lv_iadd hx hb dX12_readSource_203 ?_
    refine lv_topi (fun v4 ev4 => ?_)
    have h := elet_at ev4 h
    clear ev4
    refine lv_iload hx hb dX12_readSource_204 (lv_at hl 0 rfl) ?_
    obtain ⟨g5, h⟩ := oif_some h
    refine m_iast E G 11 3 (k := v4.toNatClampNeg) (v := s0) rfl (fun _ => rfl) (inb_k g5).1 (inb_k g5).2 (by decide) dX12_readSource_206 (fun H locs G => ?_)
    obtain ⟨S6, eS6, h⟩ := elet_some h
    rw [← eS6] at G
    clear eS6
    refine lv_aload_n hx hb dX12_readSource_207 rfl (lv_at hl 1 rfl) ?_
    refine m_get E G 13 (v := .ref (ad 13)) (by decide) (.tail _ qM_10) rfl dX12_readSource_208 rfl ?_
    refine lv_bipush (v := 25) hx hb dX12_readSource_211 (by decide) ?_
    refine lv_iload_n hx hb dX12_readSource_213 rfl (lv_at hl 2 rfl) ?_
    refine lv_iadd hx hb dX12_readSource_214 ?_
    refine lv_topi (fun v7 ev7 => ?_)
    have h := elet_at ev7 h
    clear ev7
    refine lv_iconst (v := 1) hx hb dX12_readSource_215 (by decide) ?_
    obtain ⟨g8, h⟩ := oif_some h
    refine m_iast E G 13 5 (k := v7.toNatClampNeg) (v := 1) rfl (fun _ => rfl) (inb_k g8).1 (inb_k g8).2 (by decide) dX12_readSource_216 (fun H locs G => ?_)
    obtain ⟨S9, eS9, h⟩ := elet_some h
    rw [← eS9] at G
    clear eS9
    refine lv_aload_n hx hb dX12_readSource_217 rfl (lv_at hl 1 rfl) ?_
    refine m_get E G 13 (v := .ref (ad 13)) (by decide) (.tail _ qM_10) rfl dX12_readSource_218 rfl ?_
    refine lv_bipush (v := 31) hx hb dX12_readSource_221 (by decide) ?_
    refine lv_iload_n hx hb dX12_readSource_223 rfl (lv_at hl 2 rfl) ?_
    refine lv_iadd hx hb dX12_readSource_224 ?_
    refine lv_topi (fun v10 ev10 => ?_)
    have h := elet_at ev10 h
    clear ev10
    refine lv_iload_n hx hb dX12_readSource_225 rfl (lv_at hl 4 rfl) ?_
    obtain ⟨g11, h⟩ := oif_some h
    refine m_iast E G 13 5 (k := v10.toNatClampNeg) (v := l3) rfl (fun _ => rfl) (inb_k g11).1 (inb_k g11).2 (by decide) dX12_readSource_226 (fun H locs G => ?_)
    obtain ⟨S12, eS12, h⟩ := elet_some h
    rw [← eS12] at G
    clear eS12
    refine lv_aload_n hx hb dX12_readSource_227 rfl (lv_at hl 1 rfl) ?_
    refine m_get E G 13 (v := .ref (ad 13)) (by decide) (.tail _ qM_10) rfl dX12_readSource_228 rfl ?_
    refine lv_bipush (v := 37) hx hb dX12_readSource_231 (by decide) ?_
    refine lv_iload_n hx hb dX12_readSource_233 rfl (lv_at hl 2 rfl) ?_
    refine lv_iadd hx hb dX12_readSource_234 ?_
    refine lv_topi (fun v13 ev13 => ?_)
    have h := elet_at ev13 h
    clear ev13
    refine lv_iload hx hb dX12_readSource_235 (lv_at hl 5 rfl) ?_
    obtain ⟨g14, h⟩ := oif_some h
    refine m_iast E G 13 5 (k := v13.toNatClampNeg) (v := l4) rfl (fun _ => rfl) (inb_k g14).1 (inb_k g14).2 (by decide) dX12_readSource_237 (fun H locs G => ?_)
    obtain ⟨S15, eS15, h⟩ := elet_some h
    rw [← eS15] at G
    clear eS15
    refine lv_aload_n hx hb dX12_readSource_238 rfl (lv_at hl 1 rfl) ?_
    refine m_get E G 13 (v := .ref (ad 13)) (by decide) (.tail _ qM_10) rfl dX12_readSource_239 rfl ?_
    refine lv_bipush (v := 43) hx hb dX12_readSource_242 (by decide) ?_
    refine lv_iload_n hx hb dX12_readSource_244 rfl (lv_at hl 2 rfl) ?_
    refine lv_iadd hx hb dX12_readSource_245 ?_
    refine lv_topi (fun v16 ev16 => ?_)
    have h := elet_at ev16 h
    clear ev16
    refine lv_iload hx hb dX12_readSource_246 (lv_at hl 6 rfl) ?_
    obtain ⟨g17, h⟩ := oif_some h
    refine m_iast E G 13 5 (k := v16.toNatClampNeg) (v := l5) rfl (fun _ => rfl) (inb_k g17).1 (inb_k g17).2 (by decide) dX12_readSource_248 (fun H locs G => ?_)
    obtain ⟨S18, eS18, h⟩ := elet_some h
    rw [← eS18] at G
    clear eS18
    refine lv_aload_n hx hb dX12_readSource_249 rfl (lv_at hl 1 rfl) ?_
    refine m_get E G 13 (v := .ref (ad 13)) (by decide) (.tail _ qM_10) rfl dX12_readSource_250 rfl ?_
    refine lv_bipush (v := 49) hx hb dX12_readSource_253 (by decide) ?_
    refine lv_iload_n hx hb dX12_readSource_255 rfl (lv_at hl 2 rfl) ?_
    refine lv_iadd hx hb dX12_readSource_256 ?_
    refine lv_topi (fun v19 ev19 => ?_)
    have h := elet_at ev19 h
    clear ev19
    refine lv_iload hx hb dX12_readSource_257 (lv_at hl 7 rfl) ?_
    obtain ⟨g20, h⟩ := oif_some h
    refine m_iast E G 13 5 (k := v19.toNatClampNeg) (v := l6) rfl (fun _ => rfl) (inb_k g20).1 (inb_k g20).2 (by decide) dX12_readSource_259 (fun H locs G => ?_)
    obtain ⟨S21, eS21, h⟩ := elet_some h
    rw [← eS21] at G
    clear eS21
    refine lv_aload_n hx hb dX12_readSource_260 rfl (lv_at hl 1 rfl) ?_
    refine m_get E G 11 (v := .ref (ad 11)) (by decide) (.tail _ qM_8) rfl dX12_readSource_261 rfl ?_
    refine lv_bipush (v := 47) hx hb dX12_readSource_264 (by decide) ?_
    refine lv_iload_n hx hb dX12_readSource_266 rfl (lv_at hl 2 rfl) ?_
    refine lv_iadd hx hb dX12_readSource_267 ?_
    refine lv_topi (fun v22 ev22 => ?_)
    have h := elet_at ev22 h
    clear ev22
    refine lv_iload_n hx hb dX12_readSource_268 rfl (lv_at hl 3 rfl) ?_
    obtain ⟨g23, h⟩ := oif_some h
    refine m_iast E G 11 3 (k := v22.toNatClampNeg) (v := l2) rfl (fun _ => rfl) (inb_k g23).1 (inb_k g23).2 (by decide) dX12_readSource_269 (fun H locs G => ?_)
    obtain ⟨S24, eS24, h⟩ := elet_some h
    rw [← eS24] at G
    clear eS24
    refine lv_aload_n hx hb dX12_readSource_270 rfl (lv_at hl 1 rfl) ?_
    refine m_get E G 11 (v := .ref (ad 11)) (by decide) (.tail _ qM_8) rfl dX12_readSource_271 rfl ?_
    refine lv_bipush (v := 53) hx hb dX12_readSource_274 (by decide) ?_
    refine lv_iload_n hx hb dX12_readSource_276 rfl (lv_at hl 2 rfl) ?_
    refine lv_iadd hx hb dX12_readSource_277 ?_
    refine lv_topi (fun v25 ev25 => ?_)
    have h := elet_at ev25 h
    clear ev25
    refine lv_iload hx hb dX12_readSource_278 (lv_at hl 8 rfl) ?_
    obtain ⟨g26, h⟩ := oif_some h
    refine m_iast E G 11 3 (k := v25.toNatClampNeg) (v := l7) rfl (fun _ => rfl) (inb_k g26).1 (inb_k g26).2 (by decide) dX12_readSource_280 (fun H locs G => ?_)
    obtain ⟨S27, eS27, h⟩ := elet_some h
    rw [← eS27] at G
    clear eS27
    refine lv_aload_n hx hb dX12_readSource_281 rfl (lv_at hl 1 rfl) ?_
    refine m_get E G 11 (v := .ref (ad 11)) (by decide) (.tail _ qM_8) rfl dX12_readSource_282 rfl ?_
    refine lv_bipush (v := 59) hx hb dX12_readSource_285 (by decide) ?_
    refine lv_iload_n hx hb dX12_readSource_287 rfl (lv_at hl 2 rfl) ?_
    refine lv_iadd hx hb dX12_readSource_288 ?_
    refine lv_topi (fun v28 ev28 => ?_)
    have h := elet_at ev28 h
    clear ev28
    refine lv_iload hx hb dX12_readSource_289 (lv_at hl 9 rfl) ?_
    obtain ⟨g29, h⟩ := oif_some h
    refine m_iast E G 11 3 (k := v28.toNatClampNeg) (v := l8) rfl (fun _ => rfl) (inb_k g29).1 (inb_k g29).2 (by decide) dX12_readSource_291 (fun H locs G => ?_)
    obtain ⟨S30, eS30, h⟩ := elet_some h
    rw [← eS30] at G
    clear eS30
    refine lv_aload_n hx hb dX12_readSource_292 rfl (lv_at hl 1 rfl) ?_
    refine m_get E G 11 (v := .ref (ad 11)) (by decide) (.tail _ qM_8) rfl dX12_readSource_293 rfl ?_
    refine lv_bipush (v := 65) hx hb dX12_readSource_296 (by decide) ?_
    refine lv_iload_n hx hb dX12_readSource_298 rfl (lv_at hl 2 rfl) ?_
    refine lv_iadd hx hb dX12_readSource_299 ?_
    refine lv_topi (fun v31 ev31 => ?_)
    have h := elet_at ev31 h
    clear ev31
    refine lv_iload hx hb dX12_readSource_300 (lv_at hl 10 rfl) ?_
    obtain ⟨g32, h⟩ := oif_some h
    refine m_iast E G 11 3 (k := v31.toNatClampNeg) (v := l9) rfl (fun _ => rfl) (inb_k g32).1 (inb_k g32).2 (by decide) dX12_readSource_302 (fun H locs G => ?_)
    obtain ⟨S33, eS33, h⟩ := elet_some h
    rw [← eS33] at G
    clear eS33
    refine lv_aload_n hx hb dX12_readSource_303 rfl (lv_at hl 1 rfl) ?_
    refine m_get E G 11 (v := .ref (ad 11)) (by decide) (.tail _ qM_8) rfl dX12_readSource_304 rfl ?_
    refine lv_iconst (v := 5) hx hb dX12_readSource_307 (by decide) ?_
    refine lv_dup2_11 hx hb dX12_readSource_308 rfl rfl ?_
    refine m_iald E G 11 3 (n := 131) (k := 5) rfl rfl (by decide) (by decide) dX12_readSource_309 ?_
    refine lv_topi (fun v34 ev34 => ?_)
    have h := elet_at ev34 h
    clear ev34
    refine lv_iconst (v := 1) hx hb dX12_readSource_310 (by decide) ?_
    refine lv_iadd hx hb dX12_readSource_311 ?_
    refine lv_topi (fun v35 ev35 => ?_)
    have h := elet_at ev35 h
    clear ev35
    refine m_iast E G 11 3 (k := 5) (v := v35) rfl (fun _ => rfl) rfl (by decide) (by decide) dX12_readSource_312 (fun H locs G => ?_)
    obtain ⟨S36, eS36, h⟩ := elet_some h
    rw [← eS36] at G
    clear eS36
    rw [osome1 h] at G
    exact kr313 _ _ _ G
  · have h := oif_neg c3 h
    rw [osome1 h] at G
    exact kr195 _ _ _ G
def fr_readSource_b86  (S : MS) (l1 : Int32) (l2 : Int32) : Option (MS) := obind (fr_nextToken S) fun S2 => obind2 (fr_signed S2 (-2000) 2000) fun r8 S5 => obind2 (fr_signed S5 (-2000) 2000) fun r12 S9 => obind2 (fr_signed S9 (-999) 999) fun r16 S13 => obind2 (fr_signed S13 (-999) 999) fun r20 S17 => obind2 (fr_number S17 1 999) fun r24 S21 => obind2 (fr_number S21 2 99) fun r28 S25 => obind2 (fr_number S25 0 99) fun r32 S29 => obind2 (fr_takes S29 (sTx "from")) fun r37 S34 => if r37 = 0 then (fr_readSource_b186 S34 0 l1 l2 r8 r12 r16 r20 r24 r28 r32) else (obind2 (fr_number S34 0 199) fun r42 S39 => fr_readSource_b186 S39 r42 l1 l2 r8 r12 r16 r20 r24 r28 r32)
set_option maxHeartbeats 4000000 in
set_option maxRecDepth 100000 in
theorem tr_readSource_b86 {p : Program} {l : Launch} {e : Env} {s : State} {m : MethodId} {args : Array Value} {below : List Frame} {meth : Method} {c : Code} {Q : State → Prop} {D : va_G} {A : Nat → Prop} {cI cJ cZ : ClassId} {ad : Nat → Nat} {S1 : MS} (E : mE p c cX12_readSource s m args (Cond.code yX12_readSource cX12_readSource 11 none :: wsM) D cI cJ cZ) (hA : ∀ q : Nat, s.heap.size ≤ q → A q) (hR : sR s) (hml : c.maxLocals = 11) {h0 : Nat} (hA0 : ∀ a : Nat, A a → h0 ≤ a) (hT : sAll h0 s) (kr195 : ∀ (H : Heap) (locs : List Loc) (ls : Array Slot), mG D cI cJ cZ ad A s.heap H locs S1 → W p l e { frames := 7, cells := 0, slots := 0, locals := 131 } s m args below meth c H locs 0 0 Q (F0 m 195 ls [])) (kr313 : ∀ (H : Heap) (locs : List Loc) (ls : Array Slot), mG D cI cJ cZ ad A s.heap H locs S1 → W p l e { frames := 7, cells := 0, slots := 0, locals := 131 } s m args below meth c H locs 0 0 Q (F0 m 313 ls [])) : ∀ (S : MS) (H : Heap) (locs : List Loc) (ls : Array Slot) (l1 : Int32) (l2 : Int32), fr_readSource_b86 S l1 l2 = some S1 → mG D cI cJ cZ ad A s.heap H locs S → lv_has ls 11 [(0, .ref (ad 0)), (1, .int l1), (2, .int l2)] → W p l e { frames := 7, cells := 0, slots := 0, locals := 131 } s m args below meth c H locs 0 0 Q (F0 m 86 ls []) := by
  have hx := E.1
  have hb := E.2.1
  have hts := E.2.2.1
  have hown := E.2.2.2.1
  have hK := E.2.2.2.2.1
  intro S H locs ls l1 l2 h G hl
  unfold fr_readSource_b86 at h
  refine lv_aload_n hx hb dX12_readSource_86 rfl (lv_at hl 0 rfl) ?_
  obtain ⟨S2, eS2, h⟩ := obind_some h
  refine m_callv (As := []) (rest := []) E G hA hR hml (tr_nextToken l D cI cJ cZ ad S eS2) (cwV 0 hts (gmV qM_111 qM_112 qM_113 qM_35 qM_45) rfl rfl rfl (by decide +kernel) ⟨Nat.le_of_ble_eq_true rfl, Nat.le_of_ble_eq_true rfl⟩) rfl hl.1 rfl (lv_room (Nat.le_of_ble_eq_true rfl)) dX12_readSource_87 ⟨Nat.zero_le _, Nat.zero_le _⟩ (fun S4 H locs hq G => ?_)
  rw [hq] at G
  clear hq eS2
  refine lv_aload_n hx hb dX12_readSource_90 rfl (lv_at hl 0 rfl) ?_
  refine lv_sipush (v := (-2000)) hx hb dX12_readSource_91 (by decide) ?_
  refine lv_sipush (v := 2000) hx hb dX12_readSource_94 (by decide) ?_
  obtain ⟨r8, S5, eS5, h⟩ := obind2_some h
  refine m_calli (As := [.int (-2000), .int 2000]) (rest := []) E G hA hR hml (tr_signed l D cI cJ cZ ad S2 (-2000) 2000 eS5) (cwV 2 hts (gmV qM_142 qM_143 qM_144 qM_35 qM_133) rfl rfl rfl (by decide +kernel) ⟨Nat.le_of_ble_eq_true rfl, Nat.le_of_ble_eq_true rfl⟩) rfl hl.1 rfl (lv_room (Nat.le_of_ble_eq_true rfl)) dX12_readSource_97 ⟨Nat.zero_le _, Nat.zero_le _⟩ (fun q6 S7 H locs hq G => ?_)
  obtain ⟨hq1, hq2⟩ := hq
  rw [hq2] at G
  refine lv_to hq1 ?_
  clear hq1 hq2 eS5
  refine lv_istore_n (lv' := [(3, .int r8), (0, .ref (ad 0)), (1, .int l1), (2, .int l2)]) hx hb dX12_readSource_100 rfl hl (by decide) rfl (fun ls hl => ?_)
  refine lv_aload_n hx hb dX12_readSource_101 rfl (lv_at hl 1 rfl) ?_
  refine lv_sipush (v := (-2000)) hx hb dX12_readSource_102 (by decide) ?_
  refine lv_sipush (v := 2000) hx hb dX12_readSource_105 (by decide) ?_
  obtain ⟨r12, S9, eS9, h⟩ := obind2_some h
  refine m_calli (As := [.int (-2000), .int 2000]) (rest := []) E G hA hR hml (tr_signed l D cI cJ cZ ad S5 (-2000) 2000 eS9) (cwV 2 hts (gmV qM_142 qM_143 qM_144 qM_35 qM_133) rfl rfl rfl (by decide +kernel) ⟨Nat.le_of_ble_eq_true rfl, Nat.le_of_ble_eq_true rfl⟩) rfl hl.1 rfl (lv_room (Nat.le_of_ble_eq_true rfl)) dX12_readSource_108 ⟨Nat.zero_le _, Nat.zero_le _⟩ (fun q10 S11 H locs hq G => ?_)
  obtain ⟨hq1, hq2⟩ := hq
  rw [hq2] at G
  refine lv_to hq1 ?_
  clear hq1 hq2 eS9
  refine lv_istore (lv' := [(4, .int r12), (3, .int r8), (0, .ref (ad 0)), (1, .int l1), (2, .int l2)]) hx hb dX12_readSource_111 hl (by decide) rfl (fun ls hl => ?_)
  refine lv_aload_n hx hb dX12_readSource_113 rfl (lv_at hl 2 rfl) ?_
  refine lv_sipush (v := (-999)) hx hb dX12_readSource_114 (by decide) ?_
  refine lv_sipush (v := 999) hx hb dX12_readSource_117 (by decide) ?_
  obtain ⟨r16, S13, eS13, h⟩ := obind2_some h
  refine m_calli (As := [.int (-999), .int 999]) (rest := []) E G hA hR hml (tr_signed l D cI cJ cZ ad S9 (-999) 999 eS13) (cwV 2 hts (gmV qM_142 qM_143 qM_144 qM_35 qM_133) rfl rfl rfl (by decide +kernel) ⟨Nat.le_of_ble_eq_true rfl, Nat.le_of_ble_eq_true rfl⟩) rfl hl.1 rfl (lv_room (Nat.le_of_ble_eq_true rfl)) dX12_readSource_120 ⟨Nat.zero_le _, Nat.zero_le _⟩ (fun q14 S15 H locs hq G => ?_)
  obtain ⟨hq1, hq2⟩ := hq
  rw [hq2] at G
  refine lv_to hq1 ?_
  clear hq1 hq2 eS13
  refine lv_istore (lv' := [(5, .int r16), (4, .int r12), (3, .int r8), (0, .ref (ad 0)), (1, .int l1), (2, .int l2)]) hx hb dX12_readSource_123 hl (by decide) rfl (fun ls hl => ?_)
  refine lv_aload_n hx hb dX12_readSource_125 rfl (lv_at hl 3 rfl) ?_
  refine lv_sipush (v := (-999)) hx hb dX12_readSource_126 (by decide) ?_
  refine lv_sipush (v := 999) hx hb dX12_readSource_129 (by decide) ?_
  obtain ⟨r20, S17, eS17, h⟩ := obind2_some h
  refine m_calli (As := [.int (-999), .int 999]) (rest := []) E G hA hR hml (tr_signed l D cI cJ cZ ad S13 (-999) 999 eS17) (cwV 2 hts (gmV qM_142 qM_143 qM_144 qM_35 qM_133) rfl rfl rfl (by decide +kernel) ⟨Nat.le_of_ble_eq_true rfl, Nat.le_of_ble_eq_true rfl⟩) rfl hl.1 rfl (lv_room (Nat.le_of_ble_eq_true rfl)) dX12_readSource_132 ⟨Nat.zero_le _, Nat.zero_le _⟩ (fun q18 S19 H locs hq G => ?_)
  obtain ⟨hq1, hq2⟩ := hq
  rw [hq2] at G
  refine lv_to hq1 ?_
  clear hq1 hq2 eS17
  refine lv_istore (lv' := [(6, .int r20), (5, .int r16), (4, .int r12), (3, .int r8), (0, .ref (ad 0)), (1, .int l1), (2, .int l2)]) hx hb dX12_readSource_135 hl (by decide) rfl (fun ls hl => ?_)
  refine lv_aload_n hx hb dX12_readSource_137 rfl (lv_at hl 4 rfl) ?_
  refine lv_iconst (v := 1) hx hb dX12_readSource_138 (by decide) ?_
  refine lv_sipush (v := 999) hx hb dX12_readSource_139 (by decide) ?_
  obtain ⟨r24, S21, eS21, h⟩ := obind2_some h
  refine m_calli (As := [.int 1, .int 999]) (rest := []) E G hA hR hml (tr_number l D cI cJ cZ ad S17 1 999 eS21) (cwV 2 hts (gmV qM_130 qM_131 qM_132 qM_35 qM_122) rfl rfl rfl (by decide +kernel) ⟨Nat.le_of_ble_eq_true rfl, Nat.le_of_ble_eq_true rfl⟩) rfl hl.1 rfl (lv_room (Nat.le_of_ble_eq_true rfl)) dX12_readSource_142 ⟨Nat.zero_le _, Nat.zero_le _⟩ (fun q22 S23 H locs hq G => ?_)
  obtain ⟨hq1, hq2⟩ := hq
  rw [hq2] at G
  refine lv_to hq1 ?_
  clear hq1 hq2 eS21
  refine lv_istore (lv' := [(7, .int r24), (6, .int r20), (5, .int r16), (4, .int r12), (3, .int r8), (0, .ref (ad 0)), (1, .int l1), (2, .int l2)]) hx hb dX12_readSource_145 hl (by decide) rfl (fun ls hl => ?_)
  refine lv_aload_n hx hb dX12_readSource_147 rfl (lv_at hl 5 rfl) ?_
  refine lv_iconst (v := 2) hx hb dX12_readSource_148 (by decide) ?_
  refine lv_bipush (v := 99) hx hb dX12_readSource_149 (by decide) ?_
  obtain ⟨r28, S25, eS25, h⟩ := obind2_some h
  refine m_calli (As := [.int 2, .int 99]) (rest := []) E G hA hR hml (tr_number l D cI cJ cZ ad S21 2 99 eS25) (cwV 2 hts (gmV qM_130 qM_131 qM_132 qM_35 qM_122) rfl rfl rfl (by decide +kernel) ⟨Nat.le_of_ble_eq_true rfl, Nat.le_of_ble_eq_true rfl⟩) rfl hl.1 rfl (lv_room (Nat.le_of_ble_eq_true rfl)) dX12_readSource_151 ⟨Nat.zero_le _, Nat.zero_le _⟩ (fun q26 S27 H locs hq G => ?_)
  obtain ⟨hq1, hq2⟩ := hq
  rw [hq2] at G
  refine lv_to hq1 ?_
  clear hq1 hq2 eS25
  refine lv_istore (lv' := [(8, .int r28), (7, .int r24), (6, .int r20), (5, .int r16), (4, .int r12), (3, .int r8), (0, .ref (ad 0)), (1, .int l1), (2, .int l2)]) hx hb dX12_readSource_154 hl (by decide) rfl (fun ls hl => ?_)
  refine lv_aload_n hx hb dX12_readSource_156 rfl (lv_at hl 6 rfl) ?_
  refine lv_iconst (v := 0) hx hb dX12_readSource_157 (by decide) ?_
  refine lv_bipush (v := 99) hx hb dX12_readSource_158 (by decide) ?_
  obtain ⟨r32, S29, eS29, h⟩ := obind2_some h
  refine m_calli (As := [.int 0, .int 99]) (rest := []) E G hA hR hml (tr_number l D cI cJ cZ ad S25 0 99 eS29) (cwV 2 hts (gmV qM_130 qM_131 qM_132 qM_35 qM_122) rfl rfl rfl (by decide +kernel) ⟨Nat.le_of_ble_eq_true rfl, Nat.le_of_ble_eq_true rfl⟩) rfl hl.1 rfl (lv_room (Nat.le_of_ble_eq_true rfl)) dX12_readSource_160 ⟨Nat.zero_le _, Nat.zero_le _⟩ (fun q30 S31 H locs hq G => ?_)
  obtain ⟨hq1, hq2⟩ := hq
  rw [hq2] at G
  refine lv_to hq1 ?_
  clear hq1 hq2 eS29
  refine lv_istore (lv' := [(9, .int r32), (8, .int r28), (7, .int r24), (6, .int r20), (5, .int r16), (4, .int r12), (3, .int r8), (0, .ref (ad 0)), (1, .int l1), (2, .int l2)]) hx hb dX12_readSource_163 hl (by decide) rfl (fun ls hl => ?_)
  refine lv_aload_n hx hb dX12_readSource_165 rfl (lv_at hl 7 rfl) ?_
  obtain ⟨w33, hw33, ow33⟩ := hT.1 ("AcousticCameraModel", 169, "from") (List.mem_of_getElem? (i := 39) rfl)
  refine va_ldcS hx hb hown hw33 dX12_readSource_166 ?_
  obtain ⟨r37, S34, eS34, h⟩ := obind2_some h
  refine m_calliX (As := [.ref w33]) (rest := []) E G hA hR hml (tr_takes l D cI cJ cZ ad S29 h0 (q := w33) (sTx_ok (by decide +kernel)) eS34) (cwV 1 hts (gmV qM_115 qM_116 qM_117 qM_35 qM_107) rfl rfl rfl (by decide +kernel) ⟨Nat.le_of_ble_eq_true rfl, Nat.le_of_ble_eq_true rfl⟩) rfl hl.1 rfl (lv_room (Nat.le_of_ble_eq_true rfl)) dX12_readSource_168 ⟨Nat.zero_le _, Nat.zero_le _⟩ (xT1.blind) (xT1.go hT hA0 hA G ow33) (fun q35 S36 H locs hq G => ?_)
  obtain ⟨hq1, hq2⟩ := hq
  rw [hq2] at G
  refine lv_to hq1 ?_
  clear hq1 hq2 eS34
  refine lv_if_eq (tgt := 185) hx hb dX12_readSource_171 (by decide) (fun c38 => ?_) (fun c38 => ?_)
  · have h := oif_pos c38 h
    refine lv_iconst (v := 0) hx hb dX12_readSource_185 (by decide) ?_
    have hl := lv_sub hl [7, 8, 9, 6, 5, 4, 3, 2, 1, 0] rfl
    exact tr_readSource_b186 E hA hR hml hA0 hT kr195 kr313 _ _ _ _ _ _ _ _ _ _ _ _ _ _ h G hl
  · have h := oif_neg c38 h
    refine lv_aload_n hx hb dX12_readSource_174 rfl (lv_at hl 7 rfl) ?_
    refine lv_iconst (v := 0) hx hb dX12_readSource_175 (by decide) ?_
    refine lv_sipush (v := 199) hx hb dX12_readSource_176 (by decide) ?_
    obtain ⟨r42, S39, eS39, h⟩ := obind2_some h
    refine m_calli (As := [.int 0, .int 199]) (rest := []) E G hA hR hml (tr_number l D cI cJ cZ ad S34 0 199 eS39) (cwV 2 hts (gmV qM_130 qM_131 qM_132 qM_35 qM_122) rfl rfl rfl (by decide +kernel) ⟨Nat.le_of_ble_eq_true rfl, Nat.le_of_ble_eq_true rfl⟩) rfl hl.1 rfl (lv_room (Nat.le_of_ble_eq_true rfl)) dX12_readSource_179 ⟨Nat.zero_le _, Nat.zero_le _⟩ (fun q40 S41 H locs hq G => ?_)
    obtain ⟨hq1, hq2⟩ := hq
    rw [hq2] at G
    refine lv_to hq1 ?_
    clear hq1 hq2 eS39
    refine lv_goto (tgt := 186) hx hb dX12_readSource_182 (by decide) ?_
    have hl := lv_sub hl [7, 8, 9, 6, 5, 4, 3, 2, 1, 0] rfl
    exact tr_readSource_b186 E hA hR hml hA0 hT kr195 kr313 _ _ _ _ _ _ _ _ _ _ _ _ _ _ h G hl
def fr_readSource_b75  (S : MS) (s0 : Int32) (l1 : Int32) : Option (MS) := if s0 = (-1) then (obind (fr_faults S 1) fun S3 => fr_readSource_b86 S3 l1 s0) else (fr_readSource_b86 S l1 s0)
set_option maxHeartbeats 4000000 in
set_option maxRecDepth 100000 in
theorem tr_readSource_b75 {p : Program} {l : Launch} {e : Env} {s : State} {m : MethodId} {args : Array Value} {below : List Frame} {meth : Method} {c : Code} {Q : State → Prop} {D : va_G} {A : Nat → Prop} {cI cJ cZ : ClassId} {ad : Nat → Nat} {S1 : MS} (E : mE p c cX12_readSource s m args (Cond.code yX12_readSource cX12_readSource 11 none :: wsM) D cI cJ cZ) (hA : ∀ q : Nat, s.heap.size ≤ q → A q) (hR : sR s) (hml : c.maxLocals = 11) {h0 : Nat} (hA0 : ∀ a : Nat, A a → h0 ≤ a) (hT : sAll h0 s) (kr195 : ∀ (H : Heap) (locs : List Loc) (ls : Array Slot), mG D cI cJ cZ ad A s.heap H locs S1 → W p l e { frames := 7, cells := 0, slots := 0, locals := 131 } s m args below meth c H locs 0 0 Q (F0 m 195 ls [])) (kr313 : ∀ (H : Heap) (locs : List Loc) (ls : Array Slot), mG D cI cJ cZ ad A s.heap H locs S1 → W p l e { frames := 7, cells := 0, slots := 0, locals := 131 } s m args below meth c H locs 0 0 Q (F0 m 313 ls [])) : ∀ (S : MS) (H : Heap) (locs : List Loc) (ls : Array Slot) (s0 : Int32) (l1 : Int32), fr_readSource_b75 S s0 l1 = some S1 → mG D cI cJ cZ ad A s.heap H locs S → lv_has ls 11 [(0, .ref (ad 0)), (1, .int l1)] → W p l e { frames := 7, cells := 0, slots := 0, locals := 131 } s m args below meth c H locs 0 0 Q (F0 m 75 ls [.int s0]) := by
  have hx := E.1
  have hb := E.2.1
  have hts := E.2.2.1
  have hown := E.2.2.2.1
  have hK := E.2.2.2.2.1
  intro S H locs ls s0 l1 h G hl
  unfold fr_readSource_b75 at h
  refine lv_istore_n (lv' := [(2, .int s0), (0, .ref (ad 0)), (1, .int l1)]) hx hb dX12_readSource_75 rfl hl (by decide) rfl (fun ls hl => ?_)
  refine lv_iload_n hx hb dX12_readSource_76 rfl (lv_at hl 0 rfl) ?_
  refine lv_iconst (v := (-1)) hx hb dX12_readSource_77 (by decide) ?_
  refine lv_icmp_ne (tgt := 86) hx hb dX12_readSource_78 (by decide) (fun c2 => ?_) (fun c2 => ?_)
  · have h := oif_neg c2 h
    have hl := lv_sub hl [1, 2, 0] rfl
    exact tr_readSource_b86 E hA hR hml hA0 hT kr195 kr313 _ _ _ _ _ _ h G hl
  · have h := oif_pos c2 h
    refine lv_aload_n hx hb dX12_readSource_81 rfl (lv_at hl 1 rfl) ?_
    refine lv_iconst (v := 1) hx hb dX12_readSource_82 (by decide) ?_
    obtain ⟨S3, eS3, h⟩ := obind_some h
    refine m_callv (As := [.int 1]) (rest := []) E G hA hR hml (tr_faults l D cI cJ cZ ad S 1 eS3) (cwV 1 hts (gmV qM_118 qM_119 qM_120 qM_35 qM_42) rfl rfl rfl (by decide +kernel) ⟨Nat.le_of_ble_eq_true rfl, Nat.le_of_ble_eq_true rfl⟩) rfl hl.1 rfl (lv_room (Nat.le_of_ble_eq_true rfl)) dX12_readSource_83 ⟨Nat.zero_le _, Nat.zero_le _⟩ (fun S5 H locs hq G => ?_)
    rw [hq] at G
    clear hq eS3
    have hl := lv_sub hl [1, 2, 0] rfl
    exact tr_readSource_b86 E hA hR hml hA0 hT kr195 kr313 _ _ _ _ _ _ h G hl
def fr_readSource_b18  (S : MS) (l1 : Int32) : Option (MS) := obind (fr_nextToken S) fun S2 => obind2 (fr_isWord S2 (sTx "square")) fun r9 S6 => if r9 = 0 then (obind2 (fr_isWord S6 (sTx "triangle")) fun r15 S12 => if r15 = 0 then (obind2 (fr_isWord S12 (sTx "pulse")) fun r21 S18 => if r21 = 0 then (obind2 (fr_isWord S18 (sTx "noise")) fun r27 S24 => if r27 = 0 then (fr_readSource_b75 S24 (-1) l1) else (fr_readSource_b75 S24 3 l1)) else (fr_readSource_b75 S18 2 l1)) else (fr_readSource_b75 S12 1 l1)) else (fr_readSource_b75 S6 0 l1)
set_option maxHeartbeats 4000000 in
set_option maxRecDepth 100000 in
theorem tr_readSource_b18 {p : Program} {l : Launch} {e : Env} {s : State} {m : MethodId} {args : Array Value} {below : List Frame} {meth : Method} {c : Code} {Q : State → Prop} {D : va_G} {A : Nat → Prop} {cI cJ cZ : ClassId} {ad : Nat → Nat} {S1 : MS} (E : mE p c cX12_readSource s m args (Cond.code yX12_readSource cX12_readSource 11 none :: wsM) D cI cJ cZ) (hA : ∀ q : Nat, s.heap.size ≤ q → A q) (hR : sR s) (hml : c.maxLocals = 11) {h0 : Nat} (hA0 : ∀ a : Nat, A a → h0 ≤ a) (hT : sAll h0 s) (kr195 : ∀ (H : Heap) (locs : List Loc) (ls : Array Slot), mG D cI cJ cZ ad A s.heap H locs S1 → W p l e { frames := 7, cells := 0, slots := 0, locals := 131 } s m args below meth c H locs 0 0 Q (F0 m 195 ls [])) (kr313 : ∀ (H : Heap) (locs : List Loc) (ls : Array Slot), mG D cI cJ cZ ad A s.heap H locs S1 → W p l e { frames := 7, cells := 0, slots := 0, locals := 131 } s m args below meth c H locs 0 0 Q (F0 m 313 ls [])) : ∀ (S : MS) (H : Heap) (locs : List Loc) (ls : Array Slot) (l1 : Int32), fr_readSource_b18 S l1 = some S1 → mG D cI cJ cZ ad A s.heap H locs S → lv_has ls 11 [(0, .ref (ad 0)), (1, .int l1)] → W p l e { frames := 7, cells := 0, slots := 0, locals := 131 } s m args below meth c H locs 0 0 Q (F0 m 18 ls []) := by
  have hx := E.1
  have hb := E.2.1
  have hts := E.2.2.1
  have hown := E.2.2.2.1
  have hK := E.2.2.2.2.1
  intro S H locs ls l1 h G hl
  unfold fr_readSource_b18 at h
  refine lv_aload_n hx hb dX12_readSource_18 rfl (lv_at hl 0 rfl) ?_
  obtain ⟨S2, eS2, h⟩ := obind_some h
  refine m_callv (As := []) (rest := []) E G hA hR hml (tr_nextToken l D cI cJ cZ ad S eS2) (cwV 0 hts (gmV qM_111 qM_112 qM_113 qM_35 qM_45) rfl rfl rfl (by decide +kernel) ⟨Nat.le_of_ble_eq_true rfl, Nat.le_of_ble_eq_true rfl⟩) rfl hl.1 rfl (lv_room (Nat.le_of_ble_eq_true rfl)) dX12_readSource_19 ⟨Nat.zero_le _, Nat.zero_le _⟩ (fun S4 H locs hq G => ?_)
  rw [hq] at G
  clear hq eS2
  refine lv_aload_n hx hb dX12_readSource_22 rfl (lv_at hl 0 rfl) ?_
  obtain ⟨w5, hw5, ow5⟩ := hT.1 ("AcousticCameraModel", 161, "square") (List.mem_of_getElem? (i := 35) rfl)
  refine va_ldcS hx hb hown hw5 dX12_readSource_23 ?_
  obtain ⟨r9, S6, eS6, h⟩ := obind2_some h
  refine m_calliX (As := [.ref w5]) (rest := []) E G hA hR hml (tr_isWord l D cI cJ cZ ad S2 h0 (q := w5) (sTx_ok (by decide +kernel)) eS6) (cwV 1 hts (gmV qM_108 qM_109 qM_110 qM_35 qM_57) rfl rfl rfl (by decide +kernel) ⟨Nat.le_of_ble_eq_true rfl, Nat.le_of_ble_eq_true rfl⟩) rfl hl.1 rfl (lv_room (Nat.le_of_ble_eq_true rfl)) dX12_readSource_25 ⟨Nat.zero_le _, Nat.zero_le _⟩ (xT1.blind) (xT1.go hT hA0 hA G ow5) (fun q7 S8 H locs hq G => ?_)
  obtain ⟨hq1, hq2⟩ := hq
  rw [hq2] at G
  refine lv_to hq1 ?_
  clear hq1 hq2 eS6
  refine lv_if_eq (tgt := 35) hx hb dX12_readSource_28 (by decide) (fun c10 => ?_) (fun c10 => ?_)
  · have h := oif_pos c10 h
    refine lv_aload_n hx hb dX12_readSource_35 rfl (lv_at hl 0 rfl) ?_
    obtain ⟨w11, hw11, ow11⟩ := hT.1 ("AcousticCameraModel", 163, "triangle") (List.mem_of_getElem? (i := 36) rfl)
    refine va_ldcS hx hb hown hw11 dX12_readSource_36 ?_
    obtain ⟨r15, S12, eS12, h⟩ := obind2_some h
    refine m_calliX (As := [.ref w11]) (rest := []) E G hA hR hml (tr_isWord l D cI cJ cZ ad S6 h0 (q := w11) (sTx_ok (by decide +kernel)) eS12) (cwV 1 hts (gmV qM_108 qM_109 qM_110 qM_35 qM_57) rfl rfl rfl (by decide +kernel) ⟨Nat.le_of_ble_eq_true rfl, Nat.le_of_ble_eq_true rfl⟩) rfl hl.1 rfl (lv_room (Nat.le_of_ble_eq_true rfl)) dX12_readSource_38 ⟨Nat.zero_le _, Nat.zero_le _⟩ (xT1.blind) (xT1.go hT hA0 hA G ow11) (fun q13 S14 H locs hq G => ?_)
    obtain ⟨hq1, hq2⟩ := hq
    rw [hq2] at G
    refine lv_to hq1 ?_
    clear hq1 hq2 eS12
    refine lv_if_eq (tgt := 48) hx hb dX12_readSource_41 (by decide) (fun c16 => ?_) (fun c16 => ?_)
    · have h := oif_pos c16 h
      refine lv_aload_n hx hb dX12_readSource_48 rfl (lv_at hl 0 rfl) ?_
      obtain ⟨w17, hw17, ow17⟩ := hT.1 ("AcousticCameraModel", 165, "pulse") (List.mem_of_getElem? (i := 37) rfl)
      refine va_ldcS hx hb hown hw17 dX12_readSource_49 ?_
      obtain ⟨r21, S18, eS18, h⟩ := obind2_some h
      refine m_calliX (As := [.ref w17]) (rest := []) E G hA hR hml (tr_isWord l D cI cJ cZ ad S12 h0 (q := w17) (sTx_ok (by decide +kernel)) eS18) (cwV 1 hts (gmV qM_108 qM_109 qM_110 qM_35 qM_57) rfl rfl rfl (by decide +kernel) ⟨Nat.le_of_ble_eq_true rfl, Nat.le_of_ble_eq_true rfl⟩) rfl hl.1 rfl (lv_room (Nat.le_of_ble_eq_true rfl)) dX12_readSource_51 ⟨Nat.zero_le _, Nat.zero_le _⟩ (xT1.blind) (xT1.go hT hA0 hA G ow17) (fun q19 S20 H locs hq G => ?_)
      obtain ⟨hq1, hq2⟩ := hq
      rw [hq2] at G
      refine lv_to hq1 ?_
      clear hq1 hq2 eS18
      refine lv_if_eq (tgt := 61) hx hb dX12_readSource_54 (by decide) (fun c22 => ?_) (fun c22 => ?_)
      · have h := oif_pos c22 h
        refine lv_aload_n hx hb dX12_readSource_61 rfl (lv_at hl 0 rfl) ?_
        obtain ⟨w23, hw23, ow23⟩ := hT.1 ("AcousticCameraModel", 167, "noise") (List.mem_of_getElem? (i := 38) rfl)
        refine va_ldcS hx hb hown hw23 dX12_readSource_62 ?_
        obtain ⟨r27, S24, eS24, h⟩ := obind2_some h
        refine m_calliX (As := [.ref w23]) (rest := []) E G hA hR hml (tr_isWord l D cI cJ cZ ad S18 h0 (q := w23) (sTx_ok (by decide +kernel)) eS24) (cwV 1 hts (gmV qM_108 qM_109 qM_110 qM_35 qM_57) rfl rfl rfl (by decide +kernel) ⟨Nat.le_of_ble_eq_true rfl, Nat.le_of_ble_eq_true rfl⟩) rfl hl.1 rfl (lv_room (Nat.le_of_ble_eq_true rfl)) dX12_readSource_64 ⟨Nat.zero_le _, Nat.zero_le _⟩ (xT1.blind) (xT1.go hT hA0 hA G ow23) (fun q25 S26 H locs hq G => ?_)
        obtain ⟨hq1, hq2⟩ := hq
        rw [hq2] at G
        refine lv_to hq1 ?_
        clear hq1 hq2 eS24
        refine lv_if_eq (tgt := 74) hx hb dX12_readSource_67 (by decide) (fun c28 => ?_) (fun c28 => ?_)
        · have h := oif_pos c28 h
          refine lv_iconst (v := (-1)) hx hb dX12_readSource_74 (by decide) ?_
          have hl := lv_sub hl [0, 1] rfl
          exact tr_readSource_b75 E hA hR hml hA0 hT kr195 kr313 _ _ _ _ _ _ h G hl
        · have h := oif_neg c28 h
          refine lv_iconst (v := 3) hx hb dX12_readSource_70 (by decide) ?_
          refine lv_goto (tgt := 75) hx hb dX12_readSource_71 (by decide) ?_
          have hl := lv_sub hl [0, 1] rfl
          exact tr_readSource_b75 E hA hR hml hA0 hT kr195 kr313 _ _ _ _ _ _ h G hl
      · have h := oif_neg c22 h
        refine lv_iconst (v := 2) hx hb dX12_readSource_57 (by decide) ?_
        refine lv_goto (tgt := 75) hx hb dX12_readSource_58 (by decide) ?_
        have hl := lv_sub hl [0, 1] rfl
        exact tr_readSource_b75 E hA hR hml hA0 hT kr195 kr313 _ _ _ _ _ _ h G hl
    · have h := oif_neg c16 h
      refine lv_iconst (v := 1) hx hb dX12_readSource_44 (by decide) ?_
      refine lv_goto (tgt := 75) hx hb dX12_readSource_45 (by decide) ?_
      have hl := lv_sub hl [0, 1] rfl
      exact tr_readSource_b75 E hA hR hml hA0 hT kr195 kr313 _ _ _ _ _ _ h G hl
  · have h := oif_neg c10 h
    refine lv_iconst (v := 0) hx hb dX12_readSource_31 (by decide) ?_
    refine lv_goto (tgt := 75) hx hb dX12_readSource_32 (by decide) ?_
    have hl := lv_sub hl [0, 1] rfl
    exact tr_readSource_b75 E hA hR hml hA0 hT kr195 kr313 _ _ _ _ _ _ h G hl
def fr_readSource (S : MS)  : Option (MS) := elet (S.2.1 11 5) fun v2 => if v2 = 6 then (obind (fr_faults S 4) fun S4 => fr_readSource_b18 S4 v2) else (fr_readSource_b18 S v2)
set_option maxHeartbeats 4000000 in
set_option maxRecDepth 100000 in
theorem tr_readSource (l : Launch) (D : va_G) (cI cJ cZ : ClassId) (ad : Nat → Nat) (S : MS) (h0 : Nat)  {S1 : MS} (h : fr_readSource S = some S1) : mCvX l yX12_readSource (Cond.code yX12_readSource cX12_readSource 11 none :: wsM) 7 131 D cI cJ cZ ad S [] (xT0 cI cJ cZ h0 ad S) (fun S9 => S9 = S1) := by
  intro sz
  refine Met.ofW (cc := cX12_readSource) (maxL := 11) (ret := none) (by decide) rfl ?_
  intro p e s m args below meth c s₁ B hml hv
  obtain ⟨rfl, ⟨hsz, hP, hK, hD0, hR⟩, hA1, hT⟩ := hv
  have hx := B.exec
  have hb := B.bytes
  have hr := B.returns
  have hts := atoms_spec (ws := (Cond.code yX12_readSource cX12_readSource 11 none :: wsM)) B.pre
  have hown : s.vm.findClass RX12 = some m.cls := findClass_of_methodNamed B.named
  have hlocks := B.notSynchronized
  subst hsz
  have hD := hD0.self (sz := s.heap.size)
  generalize hAe : va_A (MW cI cJ cZ ad S) s.heap.size = A at hD hA1 ⊢
  have hA : ∀ q : Nat, s.heap.size ≤ q → A q := fun q h => by rw [← hAe]; exact Or.inr h
  have G : mG D cI cJ cZ ad A s.heap s.heap [] S := ⟨hP, hD, va_S.rf⟩
  have E : mE p c cX12_readSource s m ([.ref (ad 0)] : List Value).toArray (Cond.code yX12_readSource cX12_readSource 11 none :: wsM) D cI cJ cZ := ⟨hx, hb, hts, hown, hK, fun w h => .tail _ (iM_x h)⟩
  have hA0 : ∀ a : Nat, A a → h0 ≤ a := hA1
  have hl := lv_entry ([.ref (ad 0)]) (n := 11) (Nat.le_of_ble_eq_true rfl)
  rw [lg_entry_eq]
  generalize (lg_sl ([.ref (ad 0)]) ++ List.replicate (11 - (lg_sl ([.ref (ad 0)])).length) Slot.unset).toArray = ls at hl ⊢
  have hl : lv_has ls 11 [(0, .ref (ad 0))] := hl
  unfold fr_readSource at h
  refine lv_aload_n hx hb dX12_readSource_0 rfl (lv_at hl 0 rfl) ?_
  refine m_get E G 11 (v := .ref (ad 11)) (by decide) (.tail _ qM_8) rfl dX12_readSource_1 rfl ?_
  refine lv_iconst (v := 5) hx hb dX12_readSource_4 (by decide) ?_
  refine m_iald E G 11 3 (n := 131) (k := 5) rfl rfl (by decide) (by decide) dX12_readSource_5 ?_
  refine lv_topi (fun v2 ev2 => ?_)
  have h := elet_at ev2 h
  clear ev2
  refine lv_istore_n (lv' := [(1, .int v2), (0, .ref (ad 0))]) hx hb dX12_readSource_6 rfl hl (by decide) rfl (fun ls hl => ?_)
  refine lv_iload_n hx hb dX12_readSource_7 rfl (lv_at hl 0 rfl) ?_
  refine lv_bipush (v := 6) hx hb dX12_readSource_8 (by decide) ?_
  refine lv_icmp_ne (tgt := 18) hx hb dX12_readSource_10 (by decide) (fun c3 => ?_) (fun c3 => ?_)
  · have h := oif_neg c3 h
    have hl := lv_sub hl [1, 0] rfl
    exact tr_readSource_b18 E hA hR hml hA0 hT (fun H locs ls G => W.vret hx hb hr (fun t ht hW => ⟨⟨S1, rfl, rfl, ⟨by rw [ht]; exact G.1, va_K.moved hW.alike hK, G.2.1⟩⟩, G.2.2.F ht⟩) G.2.2.2.2 dX12_readSource_195) (fun H locs ls G => W.vret hx hb hr (fun t ht hW => ⟨⟨S1, rfl, rfl, ⟨by rw [ht]; exact G.1, va_K.moved hW.alike hK, G.2.1⟩⟩, G.2.2.F ht⟩) G.2.2.2.2 dX12_readSource_313) _ _ _ _ _ h G hl
  · have h := oif_pos c3 h
    refine lv_aload_n hx hb dX12_readSource_13 rfl (lv_at hl 1 rfl) ?_
    refine lv_iconst (v := 4) hx hb dX12_readSource_14 (by decide) ?_
    obtain ⟨S4, eS4, h⟩ := obind_some h
    refine m_callv (As := [.int 4]) (rest := []) E G hA hR hml (tr_faults l D cI cJ cZ ad S 4 eS4) (cwV 1 hts (gmV qM_118 qM_119 qM_120 qM_35 qM_42) rfl rfl rfl (by decide +kernel) ⟨Nat.le_of_ble_eq_true rfl, Nat.le_of_ble_eq_true rfl⟩) rfl hl.1 rfl (lv_room (Nat.le_of_ble_eq_true rfl)) dX12_readSource_15 ⟨Nat.zero_le _, Nat.zero_le _⟩ (fun S6 H locs hq G => ?_)
    rw [hq] at G
    clear hq eS4
    have hl := lv_sub hl [1, 0] rfl
    exact tr_readSource_b18 E hA hR hml hA0 hT (fun H locs ls G => W.vret hx hb hr (fun t ht hW => ⟨⟨S1, rfl, rfl, ⟨by rw [ht]; exact G.1, va_K.moved hW.alike hK, G.2.1⟩⟩, G.2.2.F ht⟩) G.2.2.2.2 dX12_readSource_195) (fun H locs ls G => W.vret hx hb hr (fun t ht hW => ⟨⟨S1, rfl, rfl, ⟨by rw [ht]; exact G.1, va_K.moved hW.alike hK, G.2.1⟩⟩, G.2.2.F ht⟩) G.2.2.2.2 dX12_readSource_313) _ _ _ _ _ h G hl
