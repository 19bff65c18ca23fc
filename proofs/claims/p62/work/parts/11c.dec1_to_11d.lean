section
/-! 11c.dec1.lean.txt -/
def fr_thrown (S : MS)  : Option (Int32 × MS) := elet (S.1 0) fun v2 => some (v2, S)
set_option maxHeartbeats 4000000 in
set_option maxRecDepth 100000 in
theorem tr_thrown (l : Launch) (D : va_G) (cI cJ cZ : ClassId) (ad : Nat → Nat) (S : MS)  {r1 : Int32} {S1 : MS} (h : fr_thrown S = some (r1, S1)) : mCi l yX12_thrown (Cond.code yX12_thrown cX12_thrown 1 (some .int) :: wsM) 1 0 D cI cJ cZ ad S [] (fun r S9 => r = r1 ∧ S9 = S1) := by
  intro sz
  refine Met.ofW (cc := cX12_thrown) (maxL := 1) (ret := (some .int)) (by decide) rfl ?_
  intro p e s m args below meth c s₁ B hml hv
  obtain ⟨rfl, hsz, hP, hK, hD0, hR⟩ := hv
  have hx := B.exec
  have hb := B.bytes
  have hr := B.returns
  have hts := atoms_spec (ws := (Cond.code yX12_thrown cX12_thrown 1 (some .int) :: wsM)) B.pre
  have hown : s.vm.findClass RX12 = some m.cls := findClass_of_methodNamed B.named
  have hlocks := B.notSynchronized
  subst hsz
  have hD := hD0.self (sz := s.heap.size)
  generalize hAe : va_A (MW cI cJ cZ ad S) s.heap.size = A at hD ⊢
  have hA : ∀ q : Nat, s.heap.size ≤ q → A q := fun q h => by rw [← hAe]; exact Or.inr h
  have G : mG D cI cJ cZ ad A s.heap s.heap [] S := ⟨hP, hD, va_S.rf⟩
  have E : mE p c cX12_thrown s m ([.ref (ad 0)] : List Value).toArray (Cond.code yX12_thrown cX12_thrown 1 (some .int) :: wsM) D cI cJ cZ := ⟨hx, hb, hts, hown, hK, fun w h => .tail _ (iM_x h)⟩
  have hl := lv_entry ([.ref (ad 0)]) (n := 1) (Nat.le_of_ble_eq_true rfl)
  rw [lg_entry_eq]
  generalize (lg_sl ([.ref (ad 0)]) ++ List.replicate (1 - (lg_sl ([.ref (ad 0)])).length) Slot.unset).toArray = ls at hl ⊢
  have hl : lv_has ls 1 [(0, .ref (ad 0))] := hl
  unfold fr_thrown at h
  refine lv_aload_n hx hb dX12_thrown_0 rfl (lv_at hl 0 rfl) ?_
  refine m_get E G 0 (v := .int (S.1 0)) (by decide) (.tail _ qM_26) rfl dX12_thrown_1 rfl ?_
  refine lv_topi (fun v2 ev2 => ?_)
  have h := elet_at ev2 h
  clear ev2
  exact W.iret (v := v2) hx hb hr (fun t ht hW => ⟨⟨v2, S, rfl, osome2 h, ⟨by rw [ht]; exact G.1, va_K.moved hW.alike hK, G.2.1⟩⟩, G.2.2.F ht⟩) G.2.2.2.2 dX12_thrown_4
def fr_in_b15   (s0 : Int32) : Option (Int32) := oif (s0 = 0 ∨ s0 = 1) <| some s0
set_option maxHeartbeats 4000000 in
set_option maxRecDepth 100000 in
theorem tr_in_b15 {p : Program} {l : Launch} {e : Env} {s : State} {m : MethodId} {args : Array Value} {below : List Frame} {meth : Method} {c : Code} {Q : State → Prop} {r1 : Int32} (E : p.tables.exec = Jvm.exec ∧ c.code = cX12_in ∧ (∀ w ∈ (Cond.code yX12_in cX12_in 3 (some .boolean) :: wsM), w.before args s = true) ∧ s.vm.findClass RX12 = some m.cls) (hml : c.maxLocals = 3) (kr15 : ∀ (ls : Array Slot), (r1 = 0 ∨ r1 = 1) → W p l e { frames := 1, cells := 0, slots := 0, locals := 0 } s m args below meth c s.heap [] 0 0 Q (F0 m 15 ls [.int r1])) : ∀ (ls : Array Slot) (s0 : Int32), fr_in_b15 s0 = some r1 → lv_has ls 3 [] → W p l e { frames := 1, cells := 0, slots := 0, locals := 0 } s m args below meth c s.heap [] 0 0 Q (F0 m 15 ls [.int s0]) := by
  have hx := E.1
  have hb := E.2.1
  have hts := E.2.2.1
  have hown := E.2.2.2
  intro ls s0 h hl
  unfold fr_in_b15 at h
  obtain ⟨gz, h⟩ := oif_some h
  have gr : r1 = 0 ∨ r1 = 1 := by rw [← osome1 h]; exact gz
  refine lv_to (osome1 h) ?_
  exact kr15 _ gr
def fr_in_b14    : Option (Int32) := fr_in_b15 0
set_option maxHeartbeats 4000000 in
set_option maxRecDepth 100000 in
theorem tr_in_b14 {p : Program} {l : Launch} {e : Env} {s : State} {m : MethodId} {args : Array Value} {below : List Frame} {meth : Method} {c : Code} {Q : State → Prop} {r1 : Int32} (E : p.tables.exec = Jvm.exec ∧ c.code = cX12_in ∧ (∀ w ∈ (Cond.code yX12_in cX12_in 3 (some .boolean) :: wsM), w.before args s = true) ∧ s.vm.findClass RX12 = some m.cls) (hml : c.maxLocals = 3) (kr15 : ∀ (ls : Array Slot), (r1 = 0 ∨ r1 = 1) → W p l e { frames := 1, cells := 0, slots := 0, locals := 0 } s m args below meth c s.heap [] 0 0 Q (F0 m 15 ls [.int r1])) : ∀ (ls : Array Slot), fr_in_b14 = some r1 → lv_has ls 3 [] → W p l e { frames := 1, cells := 0, slots := 0, locals := 0 } s m args below meth c s.heap [] 0 0 Q (F0 m 14 ls []) := by
  have hx := E.1
  have hb := E.2.1
  have hts := E.2.2.1
  have hown := E.2.2.2
  intro ls h hl
  unfold fr_in_b14 at h
  refine lv_iconst (v := 0) hx hb dX12_in_14 (by decide) ?_
  have hl := lv_sub hl [] rfl
  exact tr_in_b15 E hml kr15 _ _ h hl
def fr_in  (a0 : Int32) (a1 : Int32) (a2 : Int32) : Option (Int32) := if a0 < a1 then (fr_in_b14) else (if a2 < a0 then (fr_in_b14) else (fr_in_b15 1))
set_option maxHeartbeats 4000000 in
set_option maxRecDepth 100000 in
theorem tr_in (l : Launch) (a0 : Int32) (a1 : Int32) (a2 : Int32) {r1 : Int32} (h : fr_in a0 a1 a2 = some r1) : Met l yX12_in (Cond.code yX12_in cX12_in 3 (some .boolean) :: wsM) { frames := 1, cells := 0, slots := 0, locals := 0 } (va_Pc [.int a0, .int a1, .int a2] (fun _ => True)) (vp_Si (fun r => r = r1)) 0 0 (fun _ => False) := by
  refine Met.ofW (cc := cX12_in) (maxL := 3) (ret := (some .boolean)) (by decide) rfl ?_
  intro p e s m args below meth c s₁ B hml hv
  obtain ⟨rfl, -⟩ := hv
  have hx := B.exec
  have hb := B.bytes
  have hr := B.returns
  have hts := atoms_spec (ws := (Cond.code yX12_in cX12_in 3 (some .boolean) :: wsM)) B.pre
  have hown : s.vm.findClass RX12 = some m.cls := findClass_of_methodNamed B.named
  have hlocks := B.notSynchronized
  have E : p.tables.exec = Jvm.exec ∧ c.code = cX12_in ∧ (∀ w ∈ (Cond.code yX12_in cX12_in 3 (some .boolean) :: wsM), w.before ([.int a0, .int a1, .int a2] : List Value).toArray s = true) ∧ s.vm.findClass RX12 = some m.cls := ⟨hx, hb, hts, hown⟩
  have hl := lv_entry ([.int a0, .int a1, .int a2]) (n := 3) (Nat.le_of_ble_eq_true rfl)
  rw [lg_entry_eq]
  generalize (lg_sl ([.int a0, .int a1, .int a2]) ++ List.replicate (3 - (lg_sl ([.int a0, .int a1, .int a2])).length) Slot.unset).toArray = ls at hl ⊢
  have hl : lv_has ls 3 [(0, .int a0), (1, .int a1), (2, .int a2)] := hl
  unfold fr_in at h
  refine lv_iload_n hx hb dX12_in_0 rfl (lv_at hl 0 rfl) ?_
  refine lv_iload_n hx hb dX12_in_1 rfl (lv_at hl 1 rfl) ?_
  refine lv_icmp_lt (tgt := 14) hx hb dX12_in_2 (by decide) (fun c2 => ?_) (fun c2 => ?_)
  · have h := oif_pos c2 h
    have hl := lv_sub hl [] rfl
    exact tr_in_b14 E hml (fun ls gz => W.zret (v := r1) hx hb hr (nar01 gz) (fun t ht hW => ⟨r1, rfl, rfl, ht⟩) (fun _ h => absurd h List.not_mem_nil) dX12_in_15) _ h hl
  · have h := oif_neg c2 h
    refine lv_iload_n hx hb dX12_in_5 rfl (lv_at hl 0 rfl) ?_
    refine lv_iload_n hx hb dX12_in_6 rfl (lv_at hl 2 rfl) ?_
    refine lv_icmp_gt (tgt := 14) hx hb dX12_in_7 (by decide) (fun c3 => ?_) (fun c3 => ?_)
    · have h := oif_pos c3 h
      have hl := lv_sub hl [] rfl
      exact tr_in_b14 E hml (fun ls gz => W.zret (v := r1) hx hb hr (nar01 gz) (fun t ht hW => ⟨r1, rfl, rfl, ht⟩) (fun _ h => absurd h List.not_mem_nil) dX12_in_15) _ h hl
    · have h := oif_neg c3 h
      refine lv_iconst (v := 1) hx hb dX12_in_10 (by decide) ?_
      refine lv_goto (tgt := 15) hx hb dX12_in_11 (by decide) ?_
      have hl := lv_sub hl [] rfl
      exact tr_in_b15 E hml (fun ls gz => W.zret (v := r1) hx hb hr (nar01 gz) (fun t ht hW => ⟨r1, rfl, rfl, ht⟩) (fun _ h => absurd h List.not_mem_nil) dX12_in_15) _ _ h hl
def fr_throwsAt (S : MS) (a0 : Int32) : Option (Int32 × MS) := elet (mi S 0 a0) fun S2 => some (0, S2)
set_option maxHeartbeats 4000000 in
set_option maxRecDepth 100000 in
theorem tr_throwsAt (l : Launch) (D : va_G) (cI cJ cZ : ClassId) (ad : Nat → Nat) (S : MS) (a0 : Int32) {r1 : Int32} {S1 : MS} (h : fr_throwsAt S a0 = some (r1, S1)) : mCi l yX12_throwsAt (Cond.code yX12_throwsAt cX12_throwsAt 2 (some .int) :: wsM) 1 0 D cI cJ cZ ad S [.int a0] (fun r S9 => r = r1 ∧ S9 = S1) := by
  intro sz
  refine Met.ofW (cc := cX12_throwsAt) (maxL := 2) (ret := (some .int)) (by decide) rfl ?_
  intro p e s m args below meth c s₁ B hml hv
  obtain ⟨rfl, hsz, hP, hK, hD0, hR⟩ := hv
  have hx := B.exec
  have hb := B.bytes
  have hr := B.returns
  have hts := atoms_spec (ws := (Cond.code yX12_throwsAt cX12_throwsAt 2 (some .int) :: wsM)) B.pre
  have hown : s.vm.findClass RX12 = some m.cls := findClass_of_methodNamed B.named
  have hlocks := B.notSynchronized
  subst hsz
  have hD := hD0.self (sz := s.heap.size)
  generalize hAe : va_A (MW cI cJ cZ ad S) s.heap.size = A at hD ⊢
  have hA : ∀ q : Nat, s.heap.size ≤ q → A q := fun q h => by rw [← hAe]; exact Or.inr h
  have G : mG D cI cJ cZ ad A s.heap s.heap [] S := ⟨hP, hD, va_S.rf⟩
  have E : mE p c cX12_throwsAt s m ([.ref (ad 0), .int a0] : List Value).toArray (Cond.code yX12_throwsAt cX12_throwsAt 2 (some .int) :: wsM) D cI cJ cZ := ⟨hx, hb, hts, hown, hK, fun w h => .tail _ (iM_x h)⟩
  have hl := lv_entry ([.ref (ad 0), .int a0]) (n := 2) (Nat.le_of_ble_eq_true rfl)
  rw [lg_entry_eq]
  generalize (lg_sl ([.ref (ad 0), .int a0]) ++ List.replicate (2 - (lg_sl ([.ref (ad 0), .int a0])).length) Slot.unset).toArray = ls at hl ⊢
  have hl : lv_has ls 2 [(0, .ref (ad 0)), (1, .int a0)] := hl
  unfold fr_throwsAt at h
  refine lv_aload_n hx hb dX12_throwsAt_0 rfl (lv_at hl 0 rfl) ?_
  refine lv_iload_n hx hb dX12_throwsAt_1 rfl (lv_at hl 1 rfl) ?_
  refine m_put E G 0 (by decide) (.tail _ qM_26) (mw_i0 _ _ _ _ _ a0) dX12_throwsAt_2 ⟨rfl, rfl, rfl⟩ rfl rfl (fun H locs G => ?_)
  obtain ⟨S2, eS2, h⟩ := elet_some h
  rw [← eS2] at G
  clear eS2
  refine lv_iconst (v := 0) hx hb dX12_throwsAt_5 (by decide) ?_
  exact W.iret (v := 0) hx hb hr (fun t ht hW => ⟨⟨0, S2, rfl, osome2 h, ⟨by rw [ht]; exact G.1, va_K.moved hW.alike hK, G.2.1⟩⟩, G.2.2.F ht⟩) G.2.2.2.2 dX12_throwsAt_6
def fr_four_b3  : Nat → MS → Int32 → Int32 → Option (MS)
  | 0, _, _, _ => none
  | n + 1, S, l1, l2 => if l2 < 0 then (some S) else (elet (S.1 2) fun v3 => elet (l1 >>> (l2 &&& 31)) fun v4 => elet (v4 &&& 255) fun v5 => oif (inb v3 1000 = true) <| elet (mf S 1 (upd (S.2.1 1) v3.toNatClampNeg v5)) fun S7 => elet (S7.1 2) fun v8 => elet (v8 + 1) fun v9 => elet (mi S7 2 v9) fun S10 => elet (l2 + Int32.ofInt (-8)) fun v11 => fr_four_b3 n S10 l1 v11)
set_option maxHeartbeats 4000000 in
set_option maxRecDepth 100000 in
theorem tr_four_b3 {p : Program} {l : Launch} {e : Env} {s : State} {m : MethodId} {args : Array Value} {below : List Frame} {meth : Method} {c : Code} {Q : State → Prop} {D : va_G} {A : Nat → Prop} {H0 : Heap} {cI cJ cZ : ClassId} {ad : Nat → Nat} {S1 : MS} (E : mE p c cX12_four s m args (Cond.code yX12_four cX12_four 3 none :: wsM) D cI cJ cZ) (hA : ∀ q : Nat, H0.size ≤ q → A q) (hR : sR s) (hml : c.maxLocals = 3) (kr39 : ∀ (H : Heap) (locs : List Loc) (ls : Array Slot), mG D cI cJ cZ ad A H0 H locs S1 → W p l e { frames := 1, cells := 0, slots := 0, locals := 0 } s m args below meth c H locs 0 0 Q (F0 m 39 ls [])) : ∀ n : Nat, ∀ (S : MS) (H : Heap) (locs : List Loc) (ls : Array Slot) (l1 : Int32) (l2 : Int32), fr_four_b3 n S l1 l2 = some S1 → mG D cI cJ cZ ad A H0 H locs S → lv_has ls 3 [(0, .ref (ad 0)), (1, .int l1), (2, .int l2)] → W p l e { frames := 1, cells := 0, slots := 0, locals := 0 } s m args below meth c H locs 0 0 Q (F0 m 3 ls []) := by
  have hx := E.1
  have hb := E.2.1
  have hts := E.2.2.1
  have hown := E.2.2.2.1
  have hK := E.2.2.2.2.1
  intro n
  induction n with
  | zero =>
    intro S H locs ls l1 l2 h
    have h : (none : Option (MS)) = some S1 := h
    cases h
  | succ n ih =>
    intro S H locs ls l1 l2 h G hl
    unfold fr_four_b3 at h
    refine lv_iload_n hx hb dX12_four_3 rfl (lv_at hl 2 rfl) ?_
    refine lv_if_lt (tgt := 39) hx hb dX12_four_4 (by decide) (fun c2 => ?_) (fun c2 => ?_)
    · have h := oif_pos c2 h
      rw [osome1 h] at G
      exact kr39 _ _ _ G
    · have h := oif_neg c2 h
      refine lv_aload_n hx hb dX12_four_7 rfl (lv_at hl 0 rfl) ?_
      refine m_get E G 1 (v := .ref (ad 1)) (by decide) (.tail _ qM_5) rfl dX12_four_8 rfl ?_
      refine lv_aload_n hx hb dX12_four_11 rfl (lv_at hl 0 rfl) ?_
      refine m_get E G 2 (v := .int (S.1 2)) (by decide) (.tail _ qM_30) rfl dX12_four_12 rfl ?_
      refine lv_topi (fun v3 ev3 => ?_)
      have h := elet_at ev3 h
      clear ev3
      refine lv_iload_n hx hb dX12_four_15 rfl (lv_at hl 1 rfl) ?_
      refine lv_iload_n hx hb dX12_four_16 rfl (lv_at hl 2 rfl) ?_
      refine lv_ishr hx hb dX12_four_17 ?_
      refine lv_topi (fun v4 ev4 => ?_)
      have h := elet_at ev4 h
      clear ev4
      refine lv_sipush (v := 255) hx hb dX12_four_18 (by decide) ?_
      refine lv_iand hx hb dX12_four_21 ?_
      refine lv_topi (fun v5 ev5 => ?_)
      have h := elet_at ev5 h
      clear ev5
      obtain ⟨g6, h⟩ := oif_some h
      refine m_iast E G 1 1 (k := v3.toNatClampNeg) (v := v5) rfl (fun _ => rfl) (inb_k g6).1 (inb_k g6).2 (by decide) dX12_four_22 (fun H locs G => ?_)
      obtain ⟨S7, eS7, h⟩ := elet_some h
      rw [← eS7] at G
      clear eS7
      refine lv_aload_n hx hb dX12_four_23 rfl (lv_at hl 0 rfl) ?_
      refine lv_dup hx hb dX12_four_24 rfl ?_
      refine m_get E G 2 (v := .int (S7.1 2)) (by decide) (.tail _ qM_30) rfl dX12_four_25 rfl ?_
      refine lv_topi (fun v8 ev8 => ?_)
      have h := elet_at ev8 h
      clear ev8
      refine lv_iconst (v := 1) hx hb dX12_four_28 (by decide) ?_
      refine lv_iadd hx hb dX12_four_29 ?_
      refine lv_topi (fun v9 ev9 => ?_)
      have h := elet_at ev9 h
      clear ev9
      refine m_put E G 2 (by decide) (.tail _ qM_30) (mw_i2 _ _ _ _ _ v9) dX12_four_30 ⟨rfl, rfl, rfl⟩ rfl rfl (fun H locs G => ?_)
      obtain ⟨S10, eS10, h⟩ := elet_some h
      rw [← eS10] at G
      clear eS10
      obtain ⟨v11, ev11, h⟩ := elet_some h
      refine lv_iinc (v := v11) (lv' := [(2, .int v11), (0, .ref (ad 0)), (1, .int l1)]) hx hb dX12_four_33 hl (k := 2) rfl ev11.symm (by decide) rfl (fun ls hl => ?_)
      refine lv_goto (tgt := 3) hx hb dX12_four_36 (by decide) ?_
      have hl := lv_sub hl [1, 2, 0] rfl
      exact ih _ _ _ _ _ _ h G hl
def fr_four (S : MS) (a0 : Int32) : Option (MS) := fr_four_b3 16384 S a0 24
set_option maxHeartbeats 4000000 in
set_option maxRecDepth 100000 in
theorem tr_four (l : Launch) (D : va_G) (cI cJ cZ : ClassId) (ad : Nat → Nat) (S : MS) (a0 : Int32) {S1 : MS} (h : fr_four S a0 = some S1) : mCv l yX12_four (Cond.code yX12_four cX12_four 3 none :: wsM) 1 0 D cI cJ cZ ad S [.int a0] (fun S9 => S9 = S1) := by
  intro sz
  refine Met.ofW (cc := cX12_four) (maxL := 3) (ret := none) (by decide) rfl ?_
  intro p e s m args below meth c s₁ B hml hv
  obtain ⟨rfl, hsz, hP, hK, hD0, hR⟩ := hv
  have hx := B.exec
  have hb := B.bytes
  have hr := B.returns
  have hts := atoms_spec (ws := (Cond.code yX12_four cX12_four 3 none :: wsM)) B.pre
  have hown : s.vm.findClass RX12 = some m.cls := findClass_of_methodNamed B.named
  have hlocks := B.notSynchronized
  subst hsz
  have hD := hD0.self (sz := s.heap.size)
  generalize hAe : va_A (MW cI cJ cZ ad S) s.heap.size = A at hD ⊢
  have hA : ∀ q : Nat, s.heap.size ≤ q → A q := fun q h => by rw [← hAe]; exact Or.inr h
  have G : mG D cI cJ cZ ad A s.heap s.heap [] S := ⟨hP, hD, va_S.rf⟩
  have E : mE p c cX12_four s m ([.ref (ad 0), .int a0] : List Value).toArray (Cond.code yX12_four cX12_four 3 none :: wsM) D cI cJ cZ := ⟨hx, hb, hts, hown, hK, fun w h => .tail _ (iM_x h)⟩
  have hl := lv_entry ([.ref (ad 0), .int a0]) (n := 3) (Nat.le_of_ble_eq_true rfl)
  rw [lg_entry_eq]
  generalize (lg_sl ([.ref (ad 0), .int a0]) ++ List.replicate (3 - (lg_sl ([.ref (ad 0), .int a0])).length) Slot.unset).toArray = ls at hl ⊢
  have hl : lv_has ls 3 [(0, .ref (ad 0)), (1, .int a0)] := hl
  unfold fr_four at h
  refine lv_bipush (v := 24) hx hb dX12_four_0 (by decide) ?_
  refine lv_istore_n (lv' := [(2, .int 24), (0, .ref (ad 0)), (1, .int a0)]) hx hb dX12_four_2 rfl hl (by decide) rfl (fun ls hl => ?_)
  have hl := lv_sub hl [1, 2, 0] rfl
  exact tr_four_b3 E hA hR hml (fun H locs ls G => W.vret hx hb hr (fun t ht hW => ⟨⟨S1, rfl, rfl, ⟨by rw [ht]; exact G.1, va_K.moved hW.alike hK, G.2.1⟩⟩, G.2.2.F ht⟩) G.2.2.2.2 dX12_four_39) _ _ _ _ _ _ _ h G hl
def fr_append (S : MS) (a0 : Int32) (a1 : Int32) (a2 : Int32) (a3 : Int32) (a4 : Int32) : Option (Int32 × MS) := elet (mi S 0 0) fun S2 => elet (S2.1 2) fun v3 => elet (v3 + 20) fun v4 => if v4 ≤ 1000 then (obind (fr_four S2 a0) fun S6 => obind (fr_four S6 a1) fun S9 => obind (fr_four S9 a2) fun S12 => obind (fr_four S12 a3) fun S15 => obind (fr_four S15 a4) fun S18 => elet (S18.1 2) fun v21 => some (v21, S18)) else (some ((-1), S2))
set_option maxHeartbeats 4000000 in
set_option maxRecDepth 100000 in
theorem tr_append (l : Launch) (D : va_G) (cI cJ cZ : ClassId) (ad : Nat → Nat) (S : MS) (a0 : Int32) (a1 : Int32) (a2 : Int32) (a3 : Int32) (a4 : Int32) {r1 : Int32} {S1 : MS} (h : fr_append S a0 a1 a2 a3 a4 = some (r1, S1)) : mCi l yX12_append (Cond.code yX12_append cX12_append 6 (some .int) :: wsM) 2 22 D cI cJ cZ ad S [.int a0, .int a1, .int a2, .int a3, .int a4] (fun r S9 => r = r1 ∧ S9 = S1) := by
  intro sz
  refine Met.ofW (cc := cX12_append) (maxL := 6) (ret := (some .int)) (by decide) rfl ?_
  intro p e s m args below meth c s₁ B hml hv
  obtain ⟨rfl, hsz, hP, hK, hD0, hR⟩ := hv
  have hx := B.exec
  have hb := B.bytes
  have hr := B.returns
  have hts := atoms_spec (ws := (Cond.code yX12_append cX12_append 6 (some .int) :: wsM)) B.pre
  have hown : s.vm.findClass RX12 = some m.cls := findClass_of_methodNamed B.named
  have hlocks := B.notSynchronized
  subst hsz
  have hD := hD0.self (sz := s.heap.size)
  generalize hAe : va_A (MW cI cJ cZ ad S) s.heap.size = A at hD ⊢
  have hA : ∀ q : Nat, s.heap.size ≤ q → A q := fun q h => by rw [← hAe]; exact Or.inr h
  have G : mG D cI cJ cZ ad A s.heap s.heap [] S := ⟨hP, hD, va_S.rf⟩
  have E : mE p c cX12_append s m ([.ref (ad 0), .int a0, .int a1, .int a2, .int a3, .int a4] : List Value).toArray (Cond.code yX12_append cX12_append 6 (some .int) :: wsM) D cI cJ cZ := ⟨hx, hb, hts, hown, hK, fun w h => .tail _ (iM_x h)⟩
  have hl := lv_entry ([.ref (ad 0), .int a0, .int a1, .int a2, .int a3, .int a4]) (n := 6) (Nat.le_of_ble_eq_true rfl)
  rw [lg_entry_eq]
  generalize (lg_sl ([.ref (ad 0), .int a0, .int a1, .int a2, .int a3, .int a4]) ++ List.replicate (6 - (lg_sl ([.ref (ad 0), .int a0, .int a1, .int a2, .int a3, .int a4])).length) Slot.unset).toArray = ls at hl ⊢
  have hl : lv_has ls 6 [(0, .ref (ad 0)), (1, .int a0), (2, .int a1), (3, .int a2), (4, .int a3), (5, .int a4)] := hl
  unfold fr_append at h
  refine lv_aload_n hx hb dX12_append_0 rfl (lv_at hl 0 rfl) ?_
  refine lv_iconst (v := 0) hx hb dX12_append_1 (by decide) ?_
  refine m_put E G 0 (by decide) (.tail _ qM_26) (mw_i0 _ _ _ _ _ 0) dX12_append_2 ⟨rfl, rfl, rfl⟩ rfl rfl (fun H locs G => ?_)
  obtain ⟨S2, eS2, h⟩ := elet_some h
  rw [← eS2] at G
  clear eS2
  refine lv_aload_n hx hb dX12_append_5 rfl (lv_at hl 0 rfl) ?_
  refine m_get E G 2 (v := .int (S2.1 2)) (by decide) (.tail _ qM_30) rfl dX12_append_6 rfl ?_
  refine lv_topi (fun v3 ev3 => ?_)
  have h := elet_at ev3 h
  clear ev3
  refine lv_bipush (v := 20) hx hb dX12_append_9 (by decide) ?_
  refine lv_iadd hx hb dX12_append_11 ?_
  refine lv_topi (fun v4 ev4 => ?_)
  have h := elet_at ev4 h
  clear ev4
  refine lv_sipush (v := 1000) hx hb dX12_append_12 (by decide) ?_
  refine lv_icmp_le (tgt := 20) hx hb dX12_append_15 (by decide) (fun c5 => ?_) (fun c5 => ?_)
  · have h := oif_pos c5 h
    refine lv_aload_n hx hb dX12_append_20 rfl (lv_at hl 0 rfl) ?_
    refine lv_iload_n hx hb dX12_append_21 rfl (lv_at hl 1 rfl) ?_
    obtain ⟨S6, eS6, h⟩ := obind_some h
    refine m_callv (As := [.int a0]) (rest := []) E G hA hR hml (tr_four l D cI cJ cZ ad S2 a0 eS6) (cwV 1 hts (gmV qM_32 qM_33 qM_34 qM_35 qM_29) rfl rfl rfl (by decide +kernel) ⟨Nat.le_of_ble_eq_true rfl, Nat.le_of_ble_eq_true rfl⟩) rfl hl.1 rfl (lv_room (Nat.le_of_ble_eq_true rfl)) dX12_append_22 ⟨Nat.zero_le _, Nat.zero_le _⟩ (fun S8 H locs hq G => ?_)
    rw [hq] at G
    clear hq eS6
    refine lv_aload_n hx hb dX12_append_25 rfl (lv_at hl 0 rfl) ?_
    refine lv_iload_n hx hb dX12_append_26 rfl (lv_at hl 2 rfl) ?_
    obtain ⟨S9, eS9, h⟩ := obind_some h
    refine m_callv (As := [.int a1]) (rest := []) E G hA hR hml (tr_four l D cI cJ cZ ad S6 a1 eS9) (cwV 1 hts (gmV qM_32 qM_33 qM_34 qM_35 qM_29) rfl rfl rfl (by decide +kernel) ⟨Nat.le_of_ble_eq_true rfl, Nat.le_of_ble_eq_true rfl⟩) rfl hl.1 rfl (lv_room (Nat.le_of_ble_eq_true rfl)) dX12_append_27 ⟨Nat.zero_le _, Nat.zero_le _⟩ (fun S11 H locs hq G => ?_)
    rw [hq] at G
    clear hq eS9
    refine lv_aload_n hx hb dX12_append_30 rfl (lv_at hl 0 rfl) ?_
    refine lv_iload_n hx hb dX12_append_31 rfl (lv_at hl 3 rfl) ?_
    obtain ⟨S12, eS12, h⟩ := obind_some h
    refine m_callv (As := [.int a2]) (rest := []) E G hA hR hml (tr_four l D cI cJ cZ ad S9 a2 eS12) (cwV 1 hts (gmV qM_32 qM_33 qM_34 qM_35 qM_29) rfl rfl rfl (by decide +kernel) ⟨Nat.le_of_ble_eq_true rfl, Nat.le_of_ble_eq_true rfl⟩) rfl hl.1 rfl (lv_room (Nat.le_of_ble_eq_true rfl)) dX12_append_32 ⟨Nat.zero_le _, Nat.zero_le _⟩ (fun S14 H locs hq G => ?_)
    rw [hq] at G
    clear hq eS12
    refine lv_aload_n hx hb dX12_append_35 rfl (lv_at hl 0 rfl) ?_
    refine lv_iload hx hb dX12_append_36 (lv_at hl 4 rfl) ?_
    obtain ⟨S15, eS15, h⟩ := obind_some h
    refine m_callv (As := [.int a3]) (rest := []) E G hA hR hml (tr_four l D cI cJ cZ ad S12 a3 eS15) (cwV 1 hts (gmV qM_32 qM_33 qM_34 qM_35 qM_29) rfl rfl rfl (by decide +kernel) ⟨Nat.le_of_ble_eq_true rfl, Nat.le_of_ble_eq_true rfl⟩) rfl hl.1 rfl (lv_room (Nat.le_of_ble_eq_true rfl)) dX12_append_38 ⟨Nat.zero_le _, Nat.zero_le _⟩ (fun S17 H locs hq G => ?_)
    rw [hq] at G
    clear hq eS15
    refine lv_aload_n hx hb dX12_append_41 rfl (lv_at hl 0 rfl) ?_
    refine lv_iload hx hb dX12_append_42 (lv_at hl 5 rfl) ?_
    obtain ⟨S18, eS18, h⟩ := obind_some h
    refine m_callv (As := [.int a4]) (rest := []) E G hA hR hml (tr_four l D cI cJ cZ ad S15 a4 eS18) (cwV 1 hts (gmV qM_32 qM_33 qM_34 qM_35 qM_29) rfl rfl rfl (by decide +kernel) ⟨Nat.le_of_ble_eq_true rfl, Nat.le_of_ble_eq_true rfl⟩) rfl hl.1 rfl (lv_room (Nat.le_of_ble_eq_true rfl)) dX12_append_44 ⟨Nat.zero_le _, Nat.zero_le _⟩ (fun S20 H locs hq G => ?_)
    rw [hq] at G
    clear hq eS18
    refine lv_aload_n hx hb dX12_append_47 rfl (lv_at hl 0 rfl) ?_
    refine m_get E G 2 (v := .int (S18.1 2)) (by decide) (.tail _ qM_30) rfl dX12_append_48 rfl ?_
    refine lv_topi (fun v21 ev21 => ?_)
    have h := elet_at ev21 h
    clear ev21
    exact W.iret (v := v21) hx hb hr (fun t ht hW => ⟨⟨v21, S18, rfl, osome2 h, ⟨by rw [ht]; exact G.1, va_K.moved hW.alike hK, G.2.1⟩⟩, G.2.2.F ht⟩) G.2.2.2.2 dX12_append_51
  · have h := oif_neg c5 h
    refine lv_iconst (v := (-1)) hx hb dX12_append_18 (by decide) ?_
    exact W.iret (v := (-1)) hx hb hr (fun t ht hW => ⟨⟨(-1), S2, rfl, osome2 h, ⟨by rw [ht]; exact G.1, va_K.moved hW.alike hK, G.2.1⟩⟩, G.2.2.F ht⟩) G.2.2.2.2 dX12_append_19
def fr_buffered (S : MS)  : Option (Int32 × MS) := elet (mi S 0 0) fun S2 => elet (S2.1 2) fun v3 => some (v3, S2)
set_option maxHeartbeats 4000000 in
set_option maxRecDepth 100000 in
theorem tr_buffered (l : Launch) (D : va_G) (cI cJ cZ : ClassId) (ad : Nat → Nat) (S : MS)  {r1 : Int32} {S1 : MS} (h : fr_buffered S = some (r1, S1)) : mCi l yX12_buffered (Cond.code yX12_buffered cX12_buffered 1 (some .int) :: wsM) 1 0 D cI cJ cZ ad S [] (fun r S9 => r = r1 ∧ S9 = S1) := by
  intro sz
  refine Met.ofW (cc := cX12_buffered) (maxL := 1) (ret := (some .int)) (by decide) rfl ?_
  intro p e s m args below meth c s₁ B hml hv
  obtain ⟨rfl, hsz, hP, hK, hD0, hR⟩ := hv
  have hx := B.exec
  have hb := B.bytes
  have hr := B.returns
  have hts := atoms_spec (ws := (Cond.code yX12_buffered cX12_buffered 1 (some .int) :: wsM)) B.pre
  have hown : s.vm.findClass RX12 = some m.cls := findClass_of_methodNamed B.named
  have hlocks := B.notSynchronized
  subst hsz
  have hD := hD0.self (sz := s.heap.size)
  generalize hAe : va_A (MW cI cJ cZ ad S) s.heap.size = A at hD ⊢
  have hA : ∀ q : Nat, s.heap.size ≤ q → A q := fun q h => by rw [← hAe]; exact Or.inr h
  have G : mG D cI cJ cZ ad A s.heap s.heap [] S := ⟨hP, hD, va_S.rf⟩
  have E : mE p c cX12_buffered s m ([.ref (ad 0)] : List Value).toArray (Cond.code yX12_buffered cX12_buffered 1 (some .int) :: wsM) D cI cJ cZ := ⟨hx, hb, hts, hown, hK, fun w h => .tail _ (iM_x h)⟩
  have hl := lv_entry ([.ref (ad 0)]) (n := 1) (Nat.le_of_ble_eq_true rfl)
  rw [lg_entry_eq]
  generalize (lg_sl ([.ref (ad 0)]) ++ List.replicate (1 - (lg_sl ([.ref (ad 0)])).length) Slot.unset).toArray = ls at hl ⊢
  have hl : lv_has ls 1 [(0, .ref (ad 0))] := hl
  unfold fr_buffered at h
  refine lv_aload_n hx hb dX12_buffered_0 rfl (lv_at hl 0 rfl) ?_
  refine lv_iconst (v := 0) hx hb dX12_buffered_1 (by decide) ?_
  refine m_put E G 0 (by decide) (.tail _ qM_26) (mw_i0 _ _ _ _ _ 0) dX12_buffered_2 ⟨rfl, rfl, rfl⟩ rfl rfl (fun H locs G => ?_)
  obtain ⟨S2, eS2, h⟩ := elet_some h
  rw [← eS2] at G
  clear eS2
  refine lv_aload_n hx hb dX12_buffered_5 rfl (lv_at hl 0 rfl) ?_
  refine m_get E G 2 (v := .int (S2.1 2)) (by decide) (.tail _ qM_30) rfl dX12_buffered_6 rfl ?_
  refine lv_topi (fun v3 ev3 => ?_)
  have h := elet_at ev3 h
  clear ev3
  exact W.iret (v := v3) hx hb hr (fun t ht hW => ⟨⟨v3, S2, rfl, osome2 h, ⟨by rw [ht]; exact G.1, va_K.moved hW.alike hK, G.2.1⟩⟩, G.2.2.F ht⟩) G.2.2.2.2 dX12_buffered_9
def fr_parseError (S : MS)  : Option (Int32 × MS) := elet (mi S 0 0) fun S2 => elet (S2.1 5) fun v3 => some (v3, S2)
set_option maxHeartbeats 4000000 in
set_option maxRecDepth 100000 in
theorem tr_parseError (l : Launch) (D : va_G) (cI cJ cZ : ClassId) (ad : Nat → Nat) (S : MS)  {r1 : Int32} {S1 : MS} (h : fr_parseError S = some (r1, S1)) : mCi l yX12_parseError (Cond.code yX12_parseError cX12_parseError 1 (some .int) :: wsM) 1 0 D cI cJ cZ ad S [] (fun r S9 => r = r1 ∧ S9 = S1) := by
  intro sz
  refine Met.ofW (cc := cX12_parseError) (maxL := 1) (ret := (some .int)) (by decide) rfl ?_
  intro p e s m args below meth c s₁ B hml hv
  obtain ⟨rfl, hsz, hP, hK, hD0, hR⟩ := hv
  have hx := B.exec
  have hb := B.bytes
  have hr := B.returns
  have hts := atoms_spec (ws := (Cond.code yX12_parseError cX12_parseError 1 (some .int) :: wsM)) B.pre
  have hown : s.vm.findClass RX12 = some m.cls := findClass_of_methodNamed B.named
  have hlocks := B.notSynchronized
  subst hsz
  have hD := hD0.self (sz := s.heap.size)
  generalize hAe : va_A (MW cI cJ cZ ad S) s.heap.size = A at hD ⊢
  have hA : ∀ q : Nat, s.heap.size ≤ q → A q := fun q h => by rw [← hAe]; exact Or.inr h
  have G : mG D cI cJ cZ ad A s.heap s.heap [] S := ⟨hP, hD, va_S.rf⟩
  have E : mE p c cX12_parseError s m ([.ref (ad 0)] : List Value).toArray (Cond.code yX12_parseError cX12_parseError 1 (some .int) :: wsM) D cI cJ cZ := ⟨hx, hb, hts, hown, hK, fun w h => .tail _ (iM_x h)⟩
  have hl := lv_entry ([.ref (ad 0)]) (n := 1) (Nat.le_of_ble_eq_true rfl)
  rw [lg_entry_eq]
  generalize (lg_sl ([.ref (ad 0)]) ++ List.replicate (1 - (lg_sl ([.ref (ad 0)])).length) Slot.unset).toArray = ls at hl ⊢
  have hl : lv_has ls 1 [(0, .ref (ad 0))] := hl
  unfold fr_parseError at h
  refine lv_aload_n hx hb dX12_parseError_0 rfl (lv_at hl 0 rfl) ?_
  refine lv_iconst (v := 0) hx hb dX12_parseError_1 (by decide) ?_
  refine m_put E G 0 (by decide) (.tail _ qM_26) (mw_i0 _ _ _ _ _ 0) dX12_parseError_2 ⟨rfl, rfl, rfl⟩ rfl rfl (fun H locs G => ?_)
  obtain ⟨S2, eS2, h⟩ := elet_some h
  rw [← eS2] at G
  clear eS2
  refine lv_aload_n hx hb dX12_parseError_5 rfl (lv_at hl 0 rfl) ?_
  refine m_get E G 5 (v := .int (S2.1 5)) (by decide) (.tail _ qM_38) rfl dX12_parseError_6 rfl ?_
  refine lv_topi (fun v3 ev3 => ?_)
  have h := elet_at ev3 h
  clear ev3
  exact W.iret (v := v3) hx hb hr (fun t ht hW => ⟨⟨v3, S2, rfl, osome2 h, ⟨by rw [ht]; exact G.1, va_K.moved hW.alike hK, G.2.1⟩⟩, G.2.2.F ht⟩) G.2.2.2.2 dX12_parseError_9
def fr_errorPosition (S : MS)  : Option (Int32 × MS) := elet (mi S 0 0) fun S2 => elet (S2.1 6) fun v3 => some (v3, S2)
set_option maxHeartbeats 4000000 in
set_option maxRecDepth 100000 in
theorem tr_errorPosition (l : Launch) (D : va_G) (cI cJ cZ : ClassId) (ad : Nat → Nat) (S : MS)  {r1 : Int32} {S1 : MS} (h : fr_errorPosition S = some (r1, S1)) : mCi l yX12_errorPosition (Cond.code yX12_errorPosition cX12_errorPosition 1 (some .int) :: wsM) 1 0 D cI cJ cZ ad S [] (fun r S9 => r = r1 ∧ S9 = S1) := by
  intro sz
  refine Met.ofW (cc := cX12_errorPosition) (maxL := 1) (ret := (some .int)) (by decide) rfl ?_
  intro p e s m args below meth c s₁ B hml hv
  obtain ⟨rfl, hsz, hP, hK, hD0, hR⟩ := hv
  have hx := B.exec
  have hb := B.bytes
  have hr := B.returns
  have hts := atoms_spec (ws := (Cond.code yX12_errorPosition cX12_errorPosition 1 (some .int) :: wsM)) B.pre
  have hown : s.vm.findClass RX12 = some m.cls := findClass_of_methodNamed B.named
  have hlocks := B.notSynchronized
  subst hsz
  have hD := hD0.self (sz := s.heap.size)
  generalize hAe : va_A (MW cI cJ cZ ad S) s.heap.size = A at hD ⊢
  have hA : ∀ q : Nat, s.heap.size ≤ q → A q := fun q h => by rw [← hAe]; exact Or.inr h
  have G : mG D cI cJ cZ ad A s.heap s.heap [] S := ⟨hP, hD, va_S.rf⟩
  have E : mE p c cX12_errorPosition s m ([.ref (ad 0)] : List Value).toArray (Cond.code yX12_errorPosition cX12_errorPosition 1 (some .int) :: wsM) D cI cJ cZ := ⟨hx, hb, hts, hown, hK, fun w h => .tail _ (iM_x h)⟩
  have hl := lv_entry ([.ref (ad 0)]) (n := 1) (Nat.le_of_ble_eq_true rfl)
  rw [lg_entry_eq]
  generalize (lg_sl ([.ref (ad 0)]) ++ List.replicate (1 - (lg_sl ([.ref (ad 0)])).length) Slot.unset).toArray = ls at hl ⊢
  have hl : lv_has ls 1 [(0, .ref (ad 0))] := hl
  unfold fr_errorPosition at h
  refine lv_aload_n hx hb dX12_errorPosition_0 rfl (lv_at hl 0 rfl) ?_
  refine lv_iconst (v := 0) hx hb dX12_errorPosition_1 (by decide) ?_
  refine m_put E G 0 (by decide) (.tail _ qM_26) (mw_i0 _ _ _ _ _ 0) dX12_errorPosition_2 ⟨rfl, rfl, rfl⟩ rfl rfl (fun H locs G => ?_)
  obtain ⟨S2, eS2, h⟩ := elet_some h
  rw [← eS2] at G
  clear eS2
  refine lv_aload_n hx hb dX12_errorPosition_5 rfl (lv_at hl 0 rfl) ?_
  refine m_get E G 6 (v := .int (S2.1 6)) (by decide) (.tail _ qM_6) rfl dX12_errorPosition_6 rfl ?_
  refine lv_topi (fun v3 ev3 => ?_)
  have h := elet_at ev3 h
  clear ev3
  exact W.iret (v := v3) hx hb hr (fun t ht hW => ⟨⟨v3, S2, rfl, osome2 h, ⟨by rw [ht]; exact G.1, va_K.moved hW.alike hK, G.2.1⟩⟩, G.2.2.F ht⟩) G.2.2.2.2 dX12_errorPosition_9
def fr_byteAt_b18  (S : MS) (s0 : Int32) : Option (Int32 × MS) := some (s0, S)
set_option maxHeartbeats 4000000 in
set_option maxRecDepth 100000 in
theorem tr_byteAt_b18 {p : Program} {l : Launch} {e : Env} {s : State} {m : MethodId} {args : Array Value} {below : List Frame} {meth : Method} {c : Code} {Q : State → Prop} {D : va_G} {A : Nat → Prop} {H0 : Heap} {cI cJ cZ : ClassId} {ad : Nat → Nat} {r1 : Int32} {S1 : MS} (E : mE p c cX12_byteAt s m args (Cond.code yX12_byteAt cX12_byteAt 2 (some .int) :: wsM) D cI cJ cZ) (hA : ∀ q : Nat, H0.size ≤ q → A q) (hR : sR s) (hml : c.maxLocals = 2) (kr18 : ∀ (H : Heap) (locs : List Loc) (ls : Array Slot), mG D cI cJ cZ ad A H0 H locs S1 → W p l e { frames := 1, cells := 0, slots := 0, locals := 0 } s m args below meth c H locs 0 0 Q (F0 m 18 ls [.int r1])) : ∀ (S : MS) (H : Heap) (locs : List Loc) (ls : Array Slot) (s0 : Int32), fr_byteAt_b18 S s0 = some (r1, S1) → mG D cI cJ cZ ad A H0 H locs S → lv_has ls 2 [] → W p l e { frames := 1, cells := 0, slots := 0, locals := 0 } s m args below meth c H locs 0 0 Q (F0 m 18 ls [.int s0]) := by
  have hx := E.1
  have hb := E.2.1
  have hts := E.2.2.1
  have hown := E.2.2.2.1
  have hK := E.2.2.2.2.1
  intro S H locs ls s0 h G hl
  unfold fr_byteAt_b18 at h
  rw [(osome2 h).2] at G
  refine lv_to (osome2 h).1 ?_
  exact kr18 _ _ _ G
def fr_byteAt (S : MS) (a0 : Int32) : Option (Int32 × MS) := elet (S.1 3) fun v2 => if v2 ≤ a0 then (fr_byteAt_b18 S (-1)) else (oif (inb a0 1000 = true) <| elet (S.2.1 1 a0.toNatClampNeg) fun v5 => fr_byteAt_b18 S v5)
set_option maxHeartbeats 4000000 in
set_option maxRecDepth 100000 in
theorem tr_byteAt (l : Launch) (D : va_G) (cI cJ cZ : ClassId) (ad : Nat → Nat) (S : MS) (a0 : Int32) {r1 : Int32} {S1 : MS} (h : fr_byteAt S a0 = some (r1, S1)) : mCi l yX12_byteAt (Cond.code yX12_byteAt cX12_byteAt 2 (some .int) :: wsM) 1 0 D cI cJ cZ ad S [.int a0] (fun r S9 => r = r1 ∧ S9 = S1) := by
  intro sz
  refine Met.ofW (cc := cX12_byteAt) (maxL := 2) (ret := (some .int)) (by decide) rfl ?_
  intro p e s m args below meth c s₁ B hml hv
  obtain ⟨rfl, hsz, hP, hK, hD0, hR⟩ := hv
  have hx := B.exec
  have hb := B.bytes
  have hr := B.returns
  have hts := atoms_spec (ws := (Cond.code yX12_byteAt cX12_byteAt 2 (some .int) :: wsM)) B.pre
  have hown : s.vm.findClass RX12 = some m.cls := findClass_of_methodNamed B.named
  have hlocks := B.notSynchronized
  subst hsz
  have hD := hD0.self (sz := s.heap.size)
  generalize hAe : va_A (MW cI cJ cZ ad S) s.heap.size = A at hD ⊢
  have hA : ∀ q : Nat, s.heap.size ≤ q → A q := fun q h => by rw [← hAe]; exact Or.inr h
  have G : mG D cI cJ cZ ad A s.heap s.heap [] S := ⟨hP, hD, va_S.rf⟩
  have E : mE p c cX12_byteAt s m ([.ref (ad 0), .int a0] : List Value).toArray (Cond.code yX12_byteAt cX12_byteAt 2 (some .int) :: wsM) D cI cJ cZ := ⟨hx, hb, hts, hown, hK, fun w h => .tail _ (iM_x h)⟩
  have hl := lv_entry ([.ref (ad 0), .int a0]) (n := 2) (Nat.le_of_ble_eq_true rfl)
  rw [lg_entry_eq]
  generalize (lg_sl ([.ref (ad 0), .int a0]) ++ List.replicate (2 - (lg_sl ([.ref (ad 0), .int a0])).length) Slot.unset).toArray = ls at hl ⊢
  have hl : lv_has ls 2 [(0, .ref (ad 0)), (1, .int a0)] := hl
  unfold fr_byteAt at h
  refine lv_iload_n hx hb dX12_byteAt_0 rfl (lv_at hl 1 rfl) ?_
  refine lv_aload_n hx hb dX12_byteAt_1 rfl (lv_at hl 0 rfl) ?_
  refine m_get E G 3 (v := .int (S.1 3)) (by decide) (.tail _ qM_41) rfl dX12_byteAt_2 rfl ?_
  refine lv_topi (fun v2 ev2 => ?_)
  have h := elet_at ev2 h
  clear ev2
  refine lv_icmp_ge (tgt := 17) hx hb dX12_byteAt_5 (by decide) (fun c3 => ?_) (fun c3 => ?_)
  · have h := oif_pos c3 h
    refine lv_iconst (v := (-1)) hx hb dX12_byteAt_17 (by decide) ?_
    have hl := lv_sub hl [] rfl
    exact tr_byteAt_b18 E hA hR hml (fun H locs ls G => W.iret (v := r1) hx hb hr (fun t ht hW => ⟨⟨r1, S1, rfl, ⟨rfl, rfl⟩, ⟨by rw [ht]; exact G.1, va_K.moved hW.alike hK, G.2.1⟩⟩, G.2.2.F ht⟩) G.2.2.2.2 dX12_byteAt_18) _ _ _ _ _ h G hl
  · have h := oif_neg c3 h
    refine lv_aload_n hx hb dX12_byteAt_8 rfl (lv_at hl 0 rfl) ?_
    refine m_get E G 1 (v := .ref (ad 1)) (by decide) (.tail _ qM_5) rfl dX12_byteAt_9 rfl ?_
    refine lv_iload_n hx hb dX12_byteAt_12 rfl (lv_at hl 1 rfl) ?_
    obtain ⟨g4, h⟩ := oif_some h
    refine m_iald E G 1 1 (n := 1000) (k := a0.toNatClampNeg) rfl (inb_k g4).1 (inb_k g4).2 (by decide) dX12_byteAt_13 ?_
    refine lv_topi (fun v5 ev5 => ?_)
    have h := elet_at ev5 h
    clear ev5
    refine lv_goto (tgt := 18) hx hb dX12_byteAt_14 (by decide) ?_
    have hl := lv_sub hl [] rfl
    exact tr_byteAt_b18 E hA hR hml (fun H locs ls G => W.iret (v := r1) hx hb hr (fun t ht hW => ⟨⟨r1, S1, rfl, ⟨rfl, rfl⟩, ⟨by rw [ht]; exact G.1, va_K.moved hW.alike hK, G.2.1⟩⟩, G.2.2.F ht⟩) G.2.2.2.2 dX12_byteAt_18) _ _ _ _ _ h G hl
def fr_faults (S : MS) (a0 : Int32) : Option (MS) := elet (S.1 5) fun v2 => if v2 ≤ 0 then (elet (mi S 5 a0) fun S4 => elet (S4.1 8) fun v5 => elet (mi S4 6 v5) fun S6 => some S6) else (some S)
set_option maxHeartbeats 4000000 in
set_option maxRecDepth 100000 in
theorem tr_faults (l : Launch) (D : va_G) (cI cJ cZ : ClassId) (ad : Nat → Nat) (S : MS) (a0 : Int32) {S1 : MS} (h : fr_faults S a0 = some S1) : mCv l yX12_faults (Cond.code yX12_faults cX12_faults 2 none :: wsM) 1 0 D cI cJ cZ ad S [.int a0] (fun S9 => S9 = S1) := by
  intro sz
  refine Met.ofW (cc := cX12_faults) (maxL := 2) (ret := none) (by decide) rfl ?_
  intro p e s m args below meth c s₁ B hml hv
  obtain ⟨rfl, hsz, hP, hK, hD0, hR⟩ := hv
  have hx := B.exec
  have hb := B.bytes
  have hr := B.returns
  have hts := atoms_spec (ws := (Cond.code yX12_faults cX12_faults 2 none :: wsM)) B.pre
  have hown : s.vm.findClass RX12 = some m.cls := findClass_of_methodNamed B.named
  have hlocks := B.notSynchronized
  subst hsz
  have hD := hD0.self (sz := s.heap.size)
  generalize hAe : va_A (MW cI cJ cZ ad S) s.heap.size = A at hD ⊢
  have hA : ∀ q : Nat, s.heap.size ≤ q → A q := fun q h => by rw [← hAe]; exact Or.inr h
  have G : mG D cI cJ cZ ad A s.heap s.heap [] S := ⟨hP, hD, va_S.rf⟩
  have E : mE p c cX12_faults s m ([.ref (ad 0), .int a0] : List Value).toArray (Cond.code yX12_faults cX12_faults 2 none :: wsM) D cI cJ cZ := ⟨hx, hb, hts, hown, hK, fun w h => .tail _ (iM_x h)⟩
  have hl := lv_entry ([.ref (ad 0), .int a0]) (n := 2) (Nat.le_of_ble_eq_true rfl)
  rw [lg_entry_eq]
  generalize (lg_sl ([.ref (ad 0), .int a0]) ++ List.replicate (2 - (lg_sl ([.ref (ad 0), .int a0])).length) Slot.unset).toArray = ls at hl ⊢
  have hl : lv_has ls 2 [(0, .ref (ad 0)), (1, .int a0)] := hl
  unfold fr_faults at h
  refine lv_aload_n hx hb dX12_faults_0 rfl (lv_at hl 0 rfl) ?_
  refine m_get E G 5 (v := .int (S.1 5)) (by decide) (.tail _ qM_38) rfl dX12_faults_1 rfl ?_
  refine lv_topi (fun v2 ev2 => ?_)
  have h := elet_at ev2 h
  clear ev2
  refine lv_if_le (tgt := 8) hx hb dX12_faults_4 (by decide) (fun c3 => ?_) (fun c3 => ?_)
  · have h := oif_pos c3 h
    refine lv_aload_n hx hb dX12_faults_8 rfl (lv_at hl 0 rfl) ?_
    refine lv_iload_n hx hb dX12_faults_9 rfl (lv_at hl 1 rfl) ?_
    refine m_put E G 5 (by decide) (.tail _ qM_38) (mw_i5 _ _ _ _ _ a0) dX12_faults_10 ⟨rfl, rfl, rfl⟩ rfl rfl (fun H locs G => ?_)
    obtain ⟨S4, eS4, h⟩ := elet_some h
    rw [← eS4] at G
    clear eS4
    refine lv_aload_n hx hb dX12_faults_13 rfl (lv_at hl 0 rfl) ?_
    refine lv_aload_n hx hb dX12_faults_14 rfl (lv_at hl 0 rfl) ?_
    refine m_get E G 8 (v := .int (S4.1 8)) (by decide) (.tail _ qM_43) rfl dX12_faults_15 rfl ?_
    refine lv_topi (fun v5 ev5 => ?_)
    have h := elet_at ev5 h
    clear ev5
    refine m_put E G 6 (by decide) (.tail _ qM_6) (mw_i6 _ _ _ _ _ v5) dX12_faults_18 ⟨rfl, rfl, rfl⟩ rfl rfl (fun H locs G => ?_)
    obtain ⟨S6, eS6, h⟩ := elet_some h
    rw [← eS6] at G
    clear eS6
    exact W.vret hx hb hr (fun t ht hW => ⟨⟨S6, rfl, osome1 h, ⟨by rw [ht]; exact G.1, va_K.moved hW.alike hK, G.2.1⟩⟩, G.2.2.F ht⟩) G.2.2.2.2 dX12_faults_21
  · have h := oif_neg c3 h
    exact W.vret hx hb hr (fun t ht hW => ⟨⟨S, rfl, osome1 h, ⟨by rw [ht]; exact G.1, va_K.moved hW.alike hK, G.2.1⟩⟩, G.2.2.F ht⟩) G.2.2.2.2 dX12_faults_7
def fr_isSign_b47   (s0 : Int32) : Option (Int32) := oif (s0 = 0 ∨ s0 = 1) <| some s0
set_option maxHeartbeats 4000000 in
set_option maxRecDepth 100000 in
theorem tr_isSign_b47 {p : Program} {l : Launch} {e : Env} {s : State} {m : MethodId} {args : Array Value} {below : List Frame} {meth : Method} {c : Code} {Q : State → Prop} {r1 : Int32} (E : p.tables.exec = Jvm.exec ∧ c.code = cX12_isSign ∧ (∀ w ∈ (Cond.code yX12_isSign cX12_isSign 1 (some .boolean) :: wsM), w.before args s = true) ∧ s.vm.findClass RX12 = some m.cls) (hml : c.maxLocals = 1) (kr47 : ∀ (ls : Array Slot), (r1 = 0 ∨ r1 = 1) → W p l e { frames := 1, cells := 0, slots := 0, locals := 0 } s m args below meth c s.heap [] 0 0 Q (F0 m 47 ls [.int r1])) : ∀ (ls : Array Slot) (s0 : Int32), fr_isSign_b47 s0 = some r1 → lv_has ls 1 [] → W p l e { frames := 1, cells := 0, slots := 0, locals := 0 } s m args below meth c s.heap [] 0 0 Q (F0 m 47 ls [.int s0]) := by
  have hx := E.1
  have hb := E.2.1
  have hts := E.2.2.1
  have hown := E.2.2.2
  intro ls s0 h hl
  unfold fr_isSign_b47 at h
  obtain ⟨gz, h⟩ := oif_some h
  have gr : r1 = 0 ∨ r1 = 1 := by rw [← osome1 h]; exact gz
  refine lv_to (osome1 h) ?_
  exact kr47 _ gr
def fr_isSign_b42    : Option (Int32) := fr_isSign_b47 1
set_option maxHeartbeats 4000000 in
set_option maxRecDepth 100000 in
theorem tr_isSign_b42 {p : Program} {l : Launch} {e : Env} {s : State} {m : MethodId} {args : Array Value} {below : List Frame} {meth : Method} {c : Code} {Q : State → Prop} {r1 : Int32} (E : p.tables.exec = Jvm.exec ∧ c.code = cX12_isSign ∧ (∀ w ∈ (Cond.code yX12_isSign cX12_isSign 1 (some .boolean) :: wsM), w.before args s = true) ∧ s.vm.findClass RX12 = some m.cls) (hml : c.maxLocals = 1) (kr47 : ∀ (ls : Array Slot), (r1 = 0 ∨ r1 = 1) → W p l e { frames := 1, cells := 0, slots := 0, locals := 0 } s m args below meth c s.heap [] 0 0 Q (F0 m 47 ls [.int r1])) : ∀ (ls : Array Slot), fr_isSign_b42 = some r1 → lv_has ls 1 [] → W p l e { frames := 1, cells := 0, slots := 0, locals := 0 } s m args below meth c s.heap [] 0 0 Q (F0 m 42 ls []) := by
  have hx := E.1
  have hb := E.2.1
  have hts := E.2.2.1
  have hown := E.2.2.2
  intro ls h hl
  unfold fr_isSign_b42 at h
  refine lv_iconst (v := 1) hx hb dX12_isSign_42 (by decide) ?_
  refine lv_goto (tgt := 47) hx hb dX12_isSign_43 (by decide) ?_
  have hl := lv_sub hl [] rfl
  exact tr_isSign_b47 E hml kr47 _ _ h hl
def fr_isSign  (a0 : Int32) : Option (Int32) := if a0 = 59 then (fr_isSign_b42) else (if a0 = 40 then (fr_isSign_b42) else (if a0 = 41 then (fr_isSign_b42) else (if a0 = 43 then (fr_isSign_b42) else (if a0 = 45 then (fr_isSign_b42) else (if a0 = 42 then (fr_isSign_b42) else (if a0 = 47 then (fr_isSign_b42) else (fr_isSign_b47 0)))))))
set_option maxHeartbeats 4000000 in
set_option maxRecDepth 100000 in
theorem tr_isSign (l : Launch) (a0 : Int32) {r1 : Int32} (h : fr_isSign a0 = some r1) : Met l yX12_isSign (Cond.code yX12_isSign cX12_isSign 1 (some .boolean) :: wsM) { frames := 1, cells := 0, slots := 0, locals := 0 } (va_Pc [.int a0] (fun _ => True)) (vp_Si (fun r => r = r1)) 0 0 (fun _ => False) := by
  refine Met.ofW (cc := cX12_isSign) (maxL := 1) (ret := (some .boolean)) (by decide) rfl ?_
  intro p e s m args below meth c s₁ B hml hv
  obtain ⟨rfl, -⟩ := hv
  have hx := B.exec
  have hb := B.bytes
  have hr := B.returns
  have hts := atoms_spec (ws := (Cond.code yX12_isSign cX12_isSign 1 (some .boolean) :: wsM)) B.pre
  have hown : s.vm.findClass RX12 = some m.cls := findClass_of_methodNamed B.named
  have hlocks := B.notSynchronized
  have E : p.tables.exec = Jvm.exec ∧ c.code = cX12_isSign ∧ (∀ w ∈ (Cond.code yX12_isSign cX12_isSign 1 (some .boolean) :: wsM), w.before ([.int a0] : List Value).toArray s = true) ∧ s.vm.findClass RX12 = some m.cls := ⟨hx, hb, hts, hown⟩
  have hl := lv_entry ([.int a0]) (n := 1) (Nat.le_of_ble_eq_true rfl)
  rw [lg_entry_eq]
  generalize (lg_sl ([.int a0]) ++ List.replicate (1 - (lg_sl ([.int a0])).length) Slot.unset).toArray = ls at hl ⊢
  have hl : lv_has ls 1 [(0, .int a0)] := hl
  unfold fr_isSign at h
  refine lv_iload_n hx hb dX12_isSign_0 rfl (lv_at hl 0 rfl) ?_
  refine lv_bipush (v := 59) hx hb dX12_isSign_1 (by decide) ?_
  refine lv_icmp_eq (tgt := 42) hx hb dX12_isSign_3 (by decide) (fun c2 => ?_) (fun c2 => ?_)
  · have h := oif_pos c2 h
    have hl := lv_sub hl [] rfl
    exact tr_isSign_b42 E hml (fun ls gz => W.zret (v := r1) hx hb hr (nar01 gz) (fun t ht hW => ⟨r1, rfl, rfl, ht⟩) (fun _ h => absurd h List.not_mem_nil) dX12_isSign_47) _ h hl
  · have h := oif_neg c2 h
    refine lv_iload_n hx hb dX12_isSign_6 rfl (lv_at hl 0 rfl) ?_
    refine lv_bipush (v := 40) hx hb dX12_isSign_7 (by decide) ?_
    refine lv_icmp_eq (tgt := 42) hx hb dX12_isSign_9 (by decide) (fun c3 => ?_) (fun c3 => ?_)
    · have h := oif_pos c3 h
      have hl := lv_sub hl [] rfl
      exact tr_isSign_b42 E hml (fun ls gz => W.zret (v := r1) hx hb hr (nar01 gz) (fun t ht hW => ⟨r1, rfl, rfl, ht⟩) (fun _ h => absurd h List.not_mem_nil) dX12_isSign_47) _ h hl
    · have h := oif_neg c3 h
      refine lv_iload_n hx hb dX12_isSign_12 rfl (lv_at hl 0 rfl) ?_
      refine lv_bipush (v := 41) hx hb dX12_isSign_13 (by decide) ?_
      refine lv_icmp_eq (tgt := 42) hx hb dX12_isSign_15 (by decide) (fun c4 => ?_) (fun c4 => ?_)
      · have h := oif_pos c4 h
        have hl := lv_sub hl [] rfl
        exact tr_isSign_b42 E hml (fun ls gz => W.zret (v := r1) hx hb hr (nar01 gz) (fun t ht hW => ⟨r1, rfl, rfl, ht⟩) (fun _ h => absurd h List.not_mem_nil) dX12_isSign_47) _ h hl
      · have h := oif_neg c4 h
        refine lv_iload_n hx hb dX12_isSign_18 rfl (lv_at hl 0 rfl) ?_
        refine lv_bipush (v := 43) hx hb dX12_isSign_19 (by decide) ?_
        refine lv_icmp_eq (tgt := 42) hx hb dX12_isSign_21 (by decide) (fun c5 => ?_) (fun c5 => ?_)
        · have h := oif_pos c5 h
          have hl := lv_sub hl [] rfl
          exact tr_isSign_b42 E hml (fun ls gz => W.zret (v := r1) hx hb hr (nar01 gz) (fun t ht hW => ⟨r1, rfl, rfl, ht⟩) (fun _ h => absurd h List.not_mem_nil) dX12_isSign_47) _ h hl
        · have h := oif_neg c5 h
          refine lv_iload_n hx hb dX12_isSign_24 rfl (lv_at hl 0 rfl) ?_
          refine lv_bipush (v := 45) hx hb dX12_isSign_25 (by decide) ?_
          refine lv_icmp_eq (tgt := 42) hx hb dX12_isSign_27 (by decide) (fun c6 => ?_) (fun c6 => ?_)
          · have h := oif_pos c6 h
            have hl := lv_sub hl [] rfl
            exact tr_isSign_b42 E hml (fun ls gz => W.zret (v := r1) hx hb hr (nar01 gz) (fun t ht hW => ⟨r1, rfl, rfl, ht⟩) (fun _ h => absurd h List.not_mem_nil) dX12_isSign_47) _ h hl
          · have h := oif_neg c6 h
            refine lv_iload_n hx hb dX12_isSign_30 rfl (lv_at hl 0 rfl) ?_
            refine lv_bipush (v := 42) hx hb dX12_isSign_31 (by decide) ?_
            refine lv_icmp_eq (tgt := 42) hx hb dX12_isSign_33 (by decide) (fun c7 => ?_) (fun c7 => ?_)
            · have h := oif_pos c7 h
              have hl := lv_sub hl [] rfl
              exact tr_isSign_b42 E hml (fun ls gz => W.zret (v := r1) hx hb hr (nar01 gz) (fun t ht hW => ⟨r1, rfl, rfl, ht⟩) (fun _ h => absurd h List.not_mem_nil) dX12_isSign_47) _ h hl
            · have h := oif_neg c7 h
              refine lv_iload_n hx hb dX12_isSign_36 rfl (lv_at hl 0 rfl) ?_
              refine lv_bipush (v := 47) hx hb dX12_isSign_37 (by decide) ?_
              refine lv_icmp_ne (tgt := 46) hx hb dX12_isSign_39 (by decide) (fun c8 => ?_) (fun c8 => ?_)
              · have h := oif_neg c8 h
                refine lv_iconst (v := 0) hx hb dX12_isSign_46 (by decide) ?_
                have hl := lv_sub hl [] rfl
                exact tr_isSign_b47 E hml (fun ls gz => W.zret (v := r1) hx hb hr (nar01 gz) (fun t ht hW => ⟨r1, rfl, rfl, ht⟩) (fun _ h => absurd h List.not_mem_nil) dX12_isSign_47) _ _ h hl
              · have h := oif_pos c8 h
                have hl := lv_sub hl [] rfl
                exact tr_isSign_b42 E hml (fun ls gz => W.zret (v := r1) hx hb hr (nar01 gz) (fun t ht hW => ⟨r1, rfl, rfl, ht⟩) (fun _ h => absurd h List.not_mem_nil) dX12_isSign_47) _ h hl
def fr_nextToken_b292  (S : MS)  : Option (MS) := some S
set_option maxHeartbeats 4000000 in
set_option maxRecDepth 100000 in
theorem tr_nextToken_b292 {p : Program} {l : Launch} {e : Env} {s : State} {m : MethodId} {args : Array Value} {below : List Frame} {meth : Method} {c : Code} {Q : State → Prop} {D : va_G} {A : Nat → Prop} {H0 : Heap} {cI cJ cZ : ClassId} {ad : Nat → Nat} {S1 : MS} (E : mE p c cX12_nextToken s m args (Cond.code yX12_nextToken cX12_nextToken 1 none :: wsM) D cI cJ cZ) (hA : ∀ q : Nat, H0.size ≤ q → A q) (hR : sR s) (hml : c.maxLocals = 1) (kr7 : ∀ (H : Heap) (locs : List Loc) (ls : Array Slot), mG D cI cJ cZ ad A H0 H locs S1 → W p l e { frames := 2, cells := 0, slots := 0, locals := 22 } s m args below meth c H locs 0 0 Q (F0 m 7 ls [])) (kr292 : ∀ (H : Heap) (locs : List Loc) (ls : Array Slot), mG D cI cJ cZ ad A H0 H locs S1 → W p l e { frames := 2, cells := 0, slots := 0, locals := 22 } s m args below meth c H locs 0 0 Q (F0 m 292 ls [])) : ∀ (S : MS) (H : Heap) (locs : List Loc) (ls : Array Slot), fr_nextToken_b292 S = some S1 → mG D cI cJ cZ ad A H0 H locs S → lv_has ls 1 [] → W p l e { frames := 2, cells := 0, slots := 0, locals := 22 } s m args below meth c H locs 0 0 Q (F0 m 292 ls []) := by
  have hx := E.1
  have hb := E.2.1
  have hts := E.2.2.1
  have hown := E.2.2.2.1
  have hK := E.2.2.2.2.1
  intro S H locs ls h G hl
  unfold fr_nextToken_b292 at h
  rw [osome1 h] at G
  exact kr292 _ _ _ G
def fr_nextToken_b279  (S : MS) (s0 : Int32) : Option (MS) := elet (mi S 7 s0) fun S2 => elet (S2.1 4) fun v3 => elet (v3 + 1) fun v4 => elet (mi S2 4 v4) fun S5 => fr_nextToken_b292 S5
set_option maxHeartbeats 4000000 in
set_option maxRecDepth 100000 in
theorem tr_nextToken_b279 {p : Program} {l : Launch} {e : Env} {s : State} {m : MethodId} {args : Array Value} {below : List Frame} {meth : Method} {c : Code} {Q : State → Prop} {D : va_G} {A : Nat → Prop} {H0 : Heap} {cI cJ cZ : ClassId} {ad : Nat → Nat} {S1 : MS} (E : mE p c cX12_nextToken s m args (Cond.code yX12_nextToken cX12_nextToken 1 none :: wsM) D cI cJ cZ) (hA : ∀ q : Nat, H0.size ≤ q → A q) (hR : sR s) (hml : c.maxLocals = 1) (kr7 : ∀ (H : Heap) (locs : List Loc) (ls : Array Slot), mG D cI cJ cZ ad A H0 H locs S1 → W p l e { frames := 2, cells := 0, slots := 0, locals := 22 } s m args below meth c H locs 0 0 Q (F0 m 7 ls [])) (kr292 : ∀ (H : Heap) (locs : List Loc) (ls : Array Slot), mG D cI cJ cZ ad A H0 H locs S1 → W p l e { frames := 2, cells := 0, slots := 0, locals := 22 } s m args below meth c H locs 0 0 Q (F0 m 292 ls [])) : ∀ (S : MS) (H : Heap) (locs : List Loc) (ls : Array Slot) (s0 : Int32), fr_nextToken_b279 S s0 = some S1 → mG D cI cJ cZ ad A H0 H locs S → lv_has ls 1 [(0, .ref (ad 0))] → W p l e { frames := 2, cells := 0, slots := 0, locals := 22 } s m args below meth c H locs 0 0 Q (F0 m 279 ls [.int s0, .ref (ad 0)]) := by
  have hx := E.1
  have hb := E.2.1
  have hts := E.2.2.1
  have hown := E.2.2.2.1
  have hK := E.2.2.2.2.1
  intro S H locs ls s0 h G hl
  unfold fr_nextToken_b279 at h
  refine m_put E G 7 (by decide) (.tail _ qM_47) (mw_i7 _ _ _ _ _ s0) dX12_nextToken_279 ⟨rfl, rfl, rfl⟩ rfl rfl (fun H locs G => ?_)
  obtain ⟨S2, eS2, h⟩ := elet_some h
  rw [← eS2] at G
  clear eS2
  refine lv_aload_n hx hb dX12_nextToken_282 rfl (lv_at hl 0 rfl) ?_
  refine lv_dup hx hb dX12_nextToken_283 rfl ?_
  refine m_get E G 4 (v := .int (S2.1 4)) (by decide) (.tail _ qM_46) rfl dX12_nextToken_284 rfl ?_
  refine lv_topi (fun v3 ev3 => ?_)
  have h := elet_at ev3 h
  clear ev3
  refine lv_iconst (v := 1) hx hb dX12_nextToken_287 (by decide) ?_
  refine lv_iadd hx hb dX12_nextToken_288 ?_
  refine lv_topi (fun v4 ev4 => ?_)
  have h := elet_at ev4 h
  clear ev4
  refine m_put E G 4 (by decide) (.tail _ qM_46) (mw_i4 _ _ _ _ _ v4) dX12_nextToken_289 ⟨rfl, rfl, rfl⟩ rfl rfl (fun H locs G => ?_)
  obtain ⟨S5, eS5, h⟩ := elet_some h
  rw [← eS5] at G
  clear eS5
  have hl := lv_sub hl [] rfl
  exact tr_nextToken_b292 E hA hR hml kr7 kr292 _ _ _ _ h G hl
def fr_nextToken_b245  (S : MS) (s0 : Int32) : Option (MS) := elet (mi S 7 s0) fun S2 => fr_nextToken_b292 S2
set_option maxHeartbeats 4000000 in
set_option maxRecDepth 100000 in
theorem tr_nextToken_b245 {p : Program} {l : Launch} {e : Env} {s : State} {m : MethodId} {args : Array Value} {below : List Frame} {meth : Method} {c : Code} {Q : State → Prop} {D : va_G} {A : Nat → Prop} {H0 : Heap} {cI cJ cZ : ClassId} {ad : Nat → Nat} {S1 : MS} (E : mE p c cX12_nextToken s m args (Cond.code yX12_nextToken cX12_nextToken 1 none :: wsM) D cI cJ cZ) (hA : ∀ q : Nat, H0.size ≤ q → A q) (hR : sR s) (hml : c.maxLocals = 1) (kr7 : ∀ (H : Heap) (locs : List Loc) (ls : Array Slot), mG D cI cJ cZ ad A H0 H locs S1 → W p l e { frames := 2, cells := 0, slots := 0, locals := 22 } s m args below meth c H locs 0 0 Q (F0 m 7 ls [])) (kr292 : ∀ (H : Heap) (locs : List Loc) (ls : Array Slot), mG D cI cJ cZ ad A H0 H locs S1 → W p l e { frames := 2, cells := 0, slots := 0, locals := 22 } s m args below meth c H locs 0 0 Q (F0 m 292 ls [])) : ∀ (S : MS) (H : Heap) (locs : List Loc) (ls : Array Slot) (s0 : Int32), fr_nextToken_b245 S s0 = some S1 → mG D cI cJ cZ ad A H0 H locs S → lv_has ls 1 [] → W p l e { frames := 2, cells := 0, slots := 0, locals := 22 } s m args below meth c H locs 0 0 Q (F0 m 245 ls [.int s0, .ref (ad 0)]) := by
  have hx := E.1
  have hb := E.2.1
  have hts := E.2.2.1
  have hown := E.2.2.2.1
  have hK := E.2.2.2.2.1
  intro S H locs ls s0 h G hl
  unfold fr_nextToken_b245 at h
  refine m_put E G 7 (by decide) (.tail _ qM_47) (mw_i7 _ _ _ _ _ s0) dX12_nextToken_245 ⟨rfl, rfl, rfl⟩ rfl rfl (fun H locs G => ?_)
  obtain ⟨S2, eS2, h⟩ := elet_some h
  rw [← eS2] at G
  clear eS2
  refine lv_goto (tgt := 292) hx hb dX12_nextToken_248 (by decide) ?_
  have hl := lv_sub hl [] rfl
  exact tr_nextToken_b292 E hA hR hml kr7 kr292 _ _ _ _ h G hl
def fr_nextToken_b213 (k159 : MS → Option (MS)) (S : MS)  : Option (MS) := elet (S.1 4) fun v2 => elet (v2 + 1) fun v3 => elet (mi S 4 v3) fun S4 => k159 S4
set_option maxHeartbeats 4000000 in
set_option maxRecDepth 100000 in
theorem tr_nextToken_b213 {p : Program} {l : Launch} {e : Env} {s : State} {m : MethodId} {args : Array Value} {below : List Frame} {meth : Method} {c : Code} {Q : State → Prop} {D : va_G} {A : Nat → Prop} {H0 : Heap} {cI cJ cZ : ClassId} {ad : Nat → Nat} {S1 : MS} (E : mE p c cX12_nextToken s m args (Cond.code yX12_nextToken cX12_nextToken 1 none :: wsM) D cI cJ cZ) (hA : ∀ q : Nat, H0.size ≤ q → A q) (hR : sR s) (hml : c.maxLocals = 1) (kr7 : ∀ (H : Heap) (locs : List Loc) (ls : Array Slot), mG D cI cJ cZ ad A H0 H locs S1 → W p l e { frames := 2, cells := 0, slots := 0, locals := 22 } s m args below meth c H locs 0 0 Q (F0 m 7 ls [])) (kr292 : ∀ (H : Heap) (locs : List Loc) (ls : Array Slot), mG D cI cJ cZ ad A H0 H locs S1 → W p l e { frames := 2, cells := 0, slots := 0, locals := 22 } s m args below meth c H locs 0 0 Q (F0 m 292 ls [])) {k159 : MS → Option (MS)} (hk159 : ∀ (S : MS) (H : Heap) (locs : List Loc) (ls : Array Slot), k159 S = some S1 → mG D cI cJ cZ ad A H0 H locs S → lv_has ls 1 [(0, .ref (ad 0))] → W p l e { frames := 2, cells := 0, slots := 0, locals := 22 } s m args below meth c H locs 0 0 Q (F0 m 159 ls [])) : ∀ (S : MS) (H : Heap) (locs : List Loc) (ls : Array Slot), fr_nextToken_b213 k159 S = some S1 → mG D cI cJ cZ ad A H0 H locs S → lv_has ls 1 [(0, .ref (ad 0))] → W p l e { frames := 2, cells := 0, slots := 0, locals := 22 } s m args below meth c H locs 0 0 Q (F0 m 213 ls []) := by
  have hx := E.1
  have hb := E.2.1
  have hts := E.2.2.1
  have hown := E.2.2.2.1
  have hK := E.2.2.2.2.1
  intro S H locs ls h G hl
  unfold fr_nextToken_b213 at h
  refine lv_aload_n hx hb dX12_nextToken_213 rfl (lv_at hl 0 rfl) ?_
  refine lv_dup hx hb dX12_nextToken_214 rfl ?_
  refine m_get E G 4 (v := .int (S.1 4)) (by decide) (.tail _ qM_46) rfl dX12_nextToken_215 rfl ?_
  refine lv_topi (fun v2 ev2 => ?_)
  have h := elet_at ev2 h
  clear ev2
  refine lv_iconst (v := 1) hx hb dX12_nextToken_218 (by decide) ?_
  refine lv_iadd hx hb dX12_nextToken_219 ?_
  refine lv_topi (fun v3 ev3 => ?_)
  have h := elet_at ev3 h
  clear ev3
  refine m_put E G 4 (by decide) (.tail _ qM_46) (mw_i4 _ _ _ _ _ v3) dX12_nextToken_220 ⟨rfl, rfl, rfl⟩ rfl rfl (fun H locs G => ?_)
  obtain ⟨S4, eS4, h⟩ := elet_some h
  rw [← eS4] at G
  clear eS4
  refine lv_goto (tgt := 159) hx hb dX12_nextToken_223 (by decide) ?_
  have hl := lv_sub hl [0] rfl
  exact hk159 _ _ _ _ h G hl
def fr_nextToken_b159  : Nat → MS → Option (MS)
  | 0, _ => none
  | n + 1, S => elet (S.1 4) fun v2 => obind2 (fr_byteAt S v2) fun r6 S3 => obind (fr_in r6 48 57) fun r7 => if r7 = 0 then (elet (S3.1 4) fun v10 => elet (S3.1 8) fun v11 => elet (v10 - v11) fun v12 => if v12 ≤ 4 then (fr_nextToken_b245 S3 3) else (fr_nextToken_b245 S3 0)) else (elet (S3.1 4) fun v14 => elet (S3.1 8) fun v15 => elet (v14 - v15) fun v16 => if 4 ≤ v16 then (fr_nextToken_b213 (fr_nextToken_b159 n) S3) else (elet (S3.1 9) fun v18 => elet (10 * v18) fun v19 => elet (S3.1 4) fun v20 => obind2 (fr_byteAt S3 v20) fun r24 S21 => elet (v19 + r24) fun v25 => elet (v25 - 48) fun v26 => elet (mi S21 9 v26) fun S27 => fr_nextToken_b213 (fr_nextToken_b159 n) S27))
set_option maxHeartbeats 4000000 in
set_option maxRecDepth 100000 in
theorem tr_nextToken_b159 {p : Program} {l : Launch} {e : Env} {s : State} {m : MethodId} {args : Array Value} {below : List Frame} {meth : Method} {c : Code} {Q : State → Prop} {D : va_G} {A : Nat → Prop} {H0 : Heap} {cI cJ cZ : ClassId} {ad : Nat → Nat} {S1 : MS} (E : mE p c cX12_nextToken s m args (Cond.code yX12_nextToken cX12_nextToken 1 none :: wsM) D cI cJ cZ) (hA : ∀ q : Nat, H0.size ≤ q → A q) (hR : sR s) (hml : c.maxLocals = 1) (kr7 : ∀ (H : Heap) (locs : List Loc) (ls : Array Slot), mG D cI cJ cZ ad A H0 H locs S1 → W p l e { frames := 2, cells := 0, slots := 0, locals := 22 } s m args below meth c H locs 0 0 Q (F0 m 7 ls [])) (kr292 : ∀ (H : Heap) (locs : List Loc) (ls : Array Slot), mG D cI cJ cZ ad A H0 H locs S1 → W p l e { frames := 2, cells := 0, slots := 0, locals := 22 } s m args below meth c H locs 0 0 Q (F0 m 292 ls [])) : ∀ n : Nat, ∀ (S : MS) (H : Heap) (locs : List Loc) (ls : Array Slot), fr_nextToken_b159 n S = some S1 → mG D cI cJ cZ ad A H0 H locs S → lv_has ls 1 [(0, .ref (ad 0))] → W p l e { frames := 2, cells := 0, slots := 0, locals := 22 } s m args below meth c H locs 0 0 Q (F0 m 159 ls []) := by
  have hx := E.1
  have hb := E.2.1
  have hts := E.2.2.1
  have hown := E.2.2.2.1
  have hK := E.2.2.2.2.1
  intro n
  induction n with
  | zero =>
    intro S H locs ls h
    have h : (none : Option (MS)) = some S1 := h
    cases h
  | succ n ih =>
    intro S H locs ls h G hl
    unfold fr_nextToken_b159 at h
    refine lv_aload_n hx hb dX12_nextToken_159 rfl (lv_at hl 0 rfl) ?_
    refine lv_aload_n hx hb dX12_nextToken_160 rfl (lv_at hl 0 rfl) ?_
    refine m_get E G 4 (v := .int (S.1 4)) (by decide) (.tail _ qM_46) rfl dX12_nextToken_161 rfl ?_
    refine lv_topi (fun v2 ev2 => ?_)
    have h := elet_at ev2 h
    clear ev2
    obtain ⟨r6, S3, eS3, h⟩ := obind2_some h
    refine m_calli (As := [.int v2]) (rest := []) E G hA hR hml (tr_byteAt l D cI cJ cZ ad S v2 eS3) (cwV 1 hts (gmV qM_49 qM_50 qM_51 qM_35 qM_40) rfl rfl rfl (by decide +kernel) ⟨Nat.le_of_ble_eq_true rfl, Nat.le_of_ble_eq_true rfl⟩) rfl hl.1 rfl (lv_room (Nat.le_of_ble_eq_true rfl)) dX12_nextToken_164 ⟨Nat.zero_le _, Nat.zero_le _⟩ (fun q4 S5 H locs hq G => ?_)
    obtain ⟨hq1, hq2⟩ := hq
    rw [hq2] at G
    refine lv_to hq1 ?_
    clear hq1 hq2 eS3
    refine lv_bipush (v := 48) hx hb dX12_nextToken_167 (by decide) ?_
    refine lv_bipush (v := 57) hx hb dX12_nextToken_169 (by decide) ?_
    obtain ⟨r7, er7, h⟩ := obind_some h
    refine m_stat (As := [.int r6, .int 48, .int 57]) (rest := []) ⟨hx, hb, hml, hown, hts⟩ (tr_in l r6 48 57 er7) (cwS 3 hts (gmS qM_52 qM_53 qM_35 qM_27) rfl rfl rfl (by decide +kernel) ⟨Nat.le_of_ble_eq_true rfl, Nat.le_of_ble_eq_true rfl⟩) rfl hl.1 rfl (lv_room (Nat.le_of_ble_eq_true rfl)) dX12_nextToken_171 ⟨Nat.zero_le _, Nat.zero_le _⟩ (fun q8 hq => ?_)
    refine lv_to hq ?_
    clear hq er7
    refine lv_if_eq (tgt := 226) hx hb dX12_nextToken_174 (by decide) (fun c9 => ?_) (fun c9 => ?_)
    · have h := oif_pos c9 h
      refine lv_aload_n hx hb dX12_nextToken_226 rfl (lv_at hl 0 rfl) ?_
      refine lv_aload_n hx hb dX12_nextToken_227 rfl (lv_at hl 0 rfl) ?_
      refine m_get E G 4 (v := .int (S3.1 4)) (by decide) (.tail _ qM_46) rfl dX12_nextToken_228 rfl ?_
      refine lv_topi (fun v10 ev10 => ?_)
      have h := elet_at ev10 h
      clear ev10
      refine lv_aload_n hx hb dX12_nextToken_231 rfl (lv_at hl 0 rfl) ?_
      refine m_get E G 8 (v := .int (S3.1 8)) (by decide) (.tail _ qM_43) rfl dX12_nextToken_232 rfl ?_
      refine lv_topi (fun v11 ev11 => ?_)
      have h := elet_at ev11 h
      clear ev11
      refine lv_isub hx hb dX12_nextToken_235 ?_
      refine lv_topi (fun v12 ev12 => ?_)
      have h := elet_at ev12 h
      clear ev12
      refine lv_iconst (v := 4) hx hb dX12_nextToken_236 (by decide) ?_
      refine lv_icmp_le (tgt := 244) hx hb dX12_nextToken_237 (by decide) (fun c13 => ?_) (fun c13 => ?_)
      · have h := oif_pos c13 h
        refine lv_iconst (v := 3) hx hb dX12_nextToken_244 (by decide) ?_
        have hl := lv_sub hl [] rfl
        exact tr_nextToken_b245 E hA hR hml kr7 kr292 _ _ _ _ _ h G hl
      · have h := oif_neg c13 h
        refine lv_iconst (v := 0) hx hb dX12_nextToken_240 (by decide) ?_
        refine lv_goto (tgt := 245) hx hb dX12_nextToken_241 (by decide) ?_
        have hl := lv_sub hl [] rfl
        exact tr_nextToken_b245 E hA hR hml kr7 kr292 _ _ _ _ _ h G hl
    · have h := oif_neg c9 h
      refine lv_aload_n hx hb dX12_nextToken_177 rfl (lv_at hl 0 rfl) ?_
      refine m_get E G 4 (v := .int (S3.1 4)) (by decide) (.tail _ qM_46) rfl dX12_nextToken_178 rfl ?_
      refine lv_topi (fun v14 ev14 => ?_)
      have h := elet_at ev14 h
      clear ev14
      refine lv_aload_n hx hb dX12_nextToken_181 rfl (lv_at hl 0 rfl) ?_
      refine m_get E G 8 (v := .int (S3.1 8)) (by decide) (.tail _ qM_43) rfl dX12_nextToken_182 rfl ?_
      refine lv_topi (fun v15 ev15 => ?_)
      have h := elet_at ev15 h
      clear ev15
      refine lv_isub hx hb dX12_nextToken_185 ?_
      refine lv_topi (fun v16 ev16 => ?_)
      have h := elet_at ev16 h
      clear ev16
      refine lv_iconst (v := 4) hx hb dX12_nextToken_186 (by decide) ?_
      refine lv_icmp_ge (tgt := 213) hx hb dX12_nextToken_187 (by decide) (fun c17 => ?_) (fun c17 => ?_)
      · have h := oif_pos c17 h
        have hl := lv_sub hl [0] rfl
        exact tr_nextToken_b213 E hA hR hml kr7 kr292 ih _ _ _ _ h G hl
      · have h := oif_neg c17 h
        refine lv_aload_n hx hb dX12_nextToken_190 rfl (lv_at hl 0 rfl) ?_
        refine lv_bipush (v := 10) hx hb dX12_nextToken_191 (by decide) ?_
        refine lv_aload_n hx hb dX12_nextToken_193 rfl (lv_at hl 0 rfl) ?_
        refine m_get E G 9 (v := .int (S3.1 9)) (by decide) (.tail _ qM_48) rfl dX12_nextToken_194 rfl ?_
        refine lv_topi (fun v18 ev18 => ?_)
        have h := elet_at ev18 h
        clear ev18
        refine lv_imul hx hb dX12_nextToken_197 ?_
        refine lv_topi (fun v19 ev19 => ?_)
        have h := elet_at ev19 h
        clear ev19
        refine lv_aload_n hx hb dX12_nextToken_198 rfl (lv_at hl 0 rfl) ?_
        refine lv_aload_n hx hb dX12_nextToken_199 rfl (lv_at hl 0 rfl) ?_
        refine m_get E G 4 (v := .int (S3.1 4)) (by decide) (.tail _ qM_46) rfl dX12_nextToken_200 rfl ?_
        refine lv_topi (fun v20 ev20 => ?_)
        have h := elet_at ev20 h
        clear ev20
        obtain ⟨r24, S21, eS21, h⟩ := obind2_some h
        refine m_calli (As := [.int v20]) (rest := [.int v19, .ref (ad 0)]) E G hA hR hml (tr_byteAt l D cI cJ cZ ad S3 v20 eS21) (cwV 1 hts (gmV qM_49 qM_50 qM_51 qM_35 qM_40) rfl rfl rfl (by decide +kernel) ⟨Nat.le_of_ble_eq_true rfl, Nat.le_of_ble_eq_true rfl⟩) rfl hl.1 rfl (lv_room (Nat.le_of_ble_eq_true rfl)) dX12_nextToken_203 ⟨Nat.zero_le _, Nat.zero_le _⟩ (fun q22 S23 H locs hq G => ?_)
        obtain ⟨hq1, hq2⟩ := hq
        rw [hq2] at G
        refine lv_to hq1 ?_
        clear hq1 hq2 eS21
        refine lv_iadd hx hb dX12_nextToken_206 ?_
        refine lv_topi (fun v25 ev25 => ?_)
        have h := elet_at ev25 h
        clear ev25
        refine lv_bipush (v := 48) hx hb dX12_nextToken_207 (by decide) ?_
        refine lv_isub hx hb dX12_nextToken_209 ?_
        refine lv_topi (fun v26 ev26 => ?_)
        have h := elet_at ev26 h
        clear ev26
        refine m_put E G 9 (by decide) (.tail _ qM_48) (mw_i9 _ _ _ _ _ v26) dX12_nextToken_210 ⟨rfl, rfl, rfl⟩ rfl rfl (fun H locs G => ?_)
        obtain ⟨S27, eS27, h⟩ := elet_some h
        rw [← eS27] at G
        clear eS27
        have hl := lv_sub hl [0] rfl
        exact tr_nextToken_b213 E hA hR hml kr7 kr292 ih _ _ _ _ h G hl
def fr_nextToken_b130  (S : MS) (s0 : Int32) : Option (MS) := elet (mi S 7 s0) fun S2 => fr_nextToken_b292 S2
set_option maxHeartbeats 4000000 in
set_option maxRecDepth 100000 in
theorem tr_nextToken_b130 {p : Program} {l : Launch} {e : Env} {s : State} {m : MethodId} {args : Array Value} {below : List Frame} {meth : Method} {c : Code} {Q : State → Prop} {D : va_G} {A : Nat → Prop} {H0 : Heap} {cI cJ cZ : ClassId} {ad : Nat → Nat} {S1 : MS} (E : mE p c cX12_nextToken s m args (Cond.code yX12_nextToken cX12_nextToken 1 none :: wsM) D cI cJ cZ) (hA : ∀ q : Nat, H0.size ≤ q → A q) (hR : sR s) (hml : c.maxLocals = 1) (kr7 : ∀ (H : Heap) (locs : List Loc) (ls : Array Slot), mG D cI cJ cZ ad A H0 H locs S1 → W p l e { frames := 2, cells := 0, slots := 0, locals := 22 } s m args below meth c H locs 0 0 Q (F0 m 7 ls [])) (kr292 : ∀ (H : Heap) (locs : List Loc) (ls : Array Slot), mG D cI cJ cZ ad A H0 H locs S1 → W p l e { frames := 2, cells := 0, slots := 0, locals := 22 } s m args below meth c H locs 0 0 Q (F0 m 292 ls [])) : ∀ (S : MS) (H : Heap) (locs : List Loc) (ls : Array Slot) (s0 : Int32), fr_nextToken_b130 S s0 = some S1 → mG D cI cJ cZ ad A H0 H locs S → lv_has ls 1 [] → W p l e { frames := 2, cells := 0, slots := 0, locals := 22 } s m args below meth c H locs 0 0 Q (F0 m 130 ls [.int s0, .ref (ad 0)]) := by
  have hx := E.1
  have hb := E.2.1
  have hts := E.2.2.1
  have hown := E.2.2.2.1
  have hK := E.2.2.2.2.1
  intro S H locs ls s0 h G hl
  unfold fr_nextToken_b130 at h
  refine m_put E G 7 (by decide) (.tail _ qM_47) (mw_i7 _ _ _ _ _ s0) dX12_nextToken_130 ⟨rfl, rfl, rfl⟩ rfl rfl (fun H locs G => ?_)
  obtain ⟨S2, eS2, h⟩ := elet_some h
  rw [← eS2] at G
  clear eS2
  refine lv_goto (tgt := 292) hx hb dX12_nextToken_133 (by decide) ?_
  have hl := lv_sub hl [] rfl
  exact tr_nextToken_b292 E hA hR hml kr7 kr292 _ _ _ _ h G hl
def fr_nextToken_b79  : Nat → MS → Option (MS)
  | 0, _ => none
  | n + 1, S => elet (S.1 4) fun v2 => obind2 (fr_byteAt S v2) fun r6 S3 => obind (fr_in r6 97 122) fun r7 => if r7 = 0 then (elet (S3.1 4) fun v10 => elet (S3.1 8) fun v11 => elet (v10 - v11) fun v12 => if v12 ≤ 8 then (fr_nextToken_b130 S3 2) else (fr_nextToken_b130 S3 0)) else (elet (S3.1 4) fun v14 => elet (v14 + 1) fun v15 => elet (mi S3 4 v15) fun S16 => fr_nextToken_b79 n S16)
set_option maxHeartbeats 4000000 in
set_option maxRecDepth 100000 in
theorem tr_nextToken_b79 {p : Program} {l : Launch} {e : Env} {s : State} {m : MethodId} {args : Array Value} {below : List Frame} {meth : Method} {c : Code} {Q : State → Prop} {D : va_G} {A : Nat → Prop} {H0 : Heap} {cI cJ cZ : ClassId} {ad : Nat → Nat} {S1 : MS} (E : mE p c cX12_nextToken s m args (Cond.code yX12_nextToken cX12_nextToken 1 none :: wsM) D cI cJ cZ) (hA : ∀ q : Nat, H0.size ≤ q → A q) (hR : sR s) (hml : c.maxLocals = 1) (kr7 : ∀ (H : Heap) (locs : List Loc) (ls : Array Slot), mG D cI cJ cZ ad A H0 H locs S1 → W p l e { frames := 2, cells := 0, slots := 0, locals := 22 } s m args below meth c H locs 0 0 Q (F0 m 7 ls [])) (kr292 : ∀ (H : Heap) (locs : List Loc) (ls : Array Slot), mG D cI cJ cZ ad A H0 H locs S1 → W p l e { frames := 2, cells := 0, slots := 0, locals := 22 } s m args below meth c H locs 0 0 Q (F0 m 292 ls [])) : ∀ n : Nat, ∀ (S : MS) (H : Heap) (locs : List Loc) (ls : Array Slot), fr_nextToken_b79 n S = some S1 → mG D cI cJ cZ ad A H0 H locs S → lv_has ls 1 [(0, .ref (ad 0))] → W p l e { frames := 2, cells := 0, slots := 0, locals := 22 } s m args below meth c H locs 0 0 Q (F0 m 79 ls []) := by
  have hx := E.1
  have hb := E.2.1
  have hts := E.2.2.1
  have hown := E.2.2.2.1
  have hK := E.2.2.2.2.1
  intro n
  induction n with
  | zero =>
    intro S H locs ls h
    have h : (none : Option (MS)) = some S1 := h
    cases h
  | succ n ih =>
    intro S H locs ls h G hl
    unfold fr_nextToken_b79 at h
    refine lv_aload_n hx hb dX12_nextToken_79 rfl (lv_at hl 0 rfl) ?_
    refine lv_aload_n hx hb dX12_nextToken_80 rfl (lv_at hl 0 rfl) ?_
    refine m_get E G 4 (v := .int (S.1 4)) (by decide) (.tail _ qM_46) rfl dX12_nextToken_81 rfl ?_
    refine lv_topi (fun v2 ev2 => ?_)
    have h := elet_at ev2 h
    clear ev2
    obtain ⟨r6, S3, eS3, h⟩ := obind2_some h
    refine m_calli (As := [.int v2]) (rest := []) E G hA hR hml (tr_byteAt l D cI cJ cZ ad S v2 eS3) (cwV 1 hts (gmV qM_49 qM_50 qM_51 qM_35 qM_40) rfl rfl rfl (by decide +kernel) ⟨Nat.le_of_ble_eq_true rfl, Nat.le_of_ble_eq_true rfl⟩) rfl hl.1 rfl (lv_room (Nat.le_of_ble_eq_true rfl)) dX12_nextToken_84 ⟨Nat.zero_le _, Nat.zero_le _⟩ (fun q4 S5 H locs hq G => ?_)
    obtain ⟨hq1, hq2⟩ := hq
    rw [hq2] at G
    refine lv_to hq1 ?_
    clear hq1 hq2 eS3
    refine lv_bipush (v := 97) hx hb dX12_nextToken_87 (by decide) ?_
    refine lv_bipush (v := 122) hx hb dX12_nextToken_89 (by decide) ?_
    obtain ⟨r7, er7, h⟩ := obind_some h
    refine m_stat (As := [.int r6, .int 97, .int 122]) (rest := []) ⟨hx, hb, hml, hown, hts⟩ (tr_in l r6 97 122 er7) (cwS 3 hts (gmS qM_52 qM_53 qM_35 qM_27) rfl rfl rfl (by decide +kernel) ⟨Nat.le_of_ble_eq_true rfl, Nat.le_of_ble_eq_true rfl⟩) rfl hl.1 rfl (lv_room (Nat.le_of_ble_eq_true rfl)) dX12_nextToken_91 ⟨Nat.zero_le _, Nat.zero_le _⟩ (fun q8 hq => ?_)
    refine lv_to hq ?_
    clear hq er7
    refine lv_if_eq (tgt := 110) hx hb dX12_nextToken_94 (by decide) (fun c9 => ?_) (fun c9 => ?_)
    · have h := oif_pos c9 h
      refine lv_aload_n hx hb dX12_nextToken_110 rfl (lv_at hl 0 rfl) ?_
      refine lv_aload_n hx hb dX12_nextToken_111 rfl (lv_at hl 0 rfl) ?_
      refine m_get E G 4 (v := .int (S3.1 4)) (by decide) (.tail _ qM_46) rfl dX12_nextToken_112 rfl ?_
      refine lv_topi (fun v10 ev10 => ?_)
      have h := elet_at ev10 h
      clear ev10
      refine lv_aload_n hx hb dX12_nextToken_115 rfl (lv_at hl 0 rfl) ?_
      refine m_get E G 8 (v := .int (S3.1 8)) (by decide) (.tail _ qM_43) rfl dX12_nextToken_116 rfl ?_
      refine lv_topi (fun v11 ev11 => ?_)
      have h := elet_at ev11 h
      clear ev11
      refine lv_isub hx hb dX12_nextToken_119 ?_
      refine lv_topi (fun v12 ev12 => ?_)
      have h := elet_at ev12 h
      clear ev12
      refine lv_bipush (v := 8) hx hb dX12_nextToken_120 (by decide) ?_
      refine lv_icmp_le (tgt := 129) hx hb dX12_nextToken_122 (by decide) (fun c13 => ?_) (fun c13 => ?_)
      · have h := oif_pos c13 h
        refine lv_iconst (v := 2) hx hb dX12_nextToken_129 (by decide) ?_
        have hl := lv_sub hl [] rfl
        exact tr_nextToken_b130 E hA hR hml kr7 kr292 _ _ _ _ _ h G hl
      · have h := oif_neg c13 h
        refine lv_iconst (v := 0) hx hb dX12_nextToken_125 (by decide) ?_
        refine lv_goto (tgt := 130) hx hb dX12_nextToken_126 (by decide) ?_
        have hl := lv_sub hl [] rfl
        exact tr_nextToken_b130 E hA hR hml kr7 kr292 _ _ _ _ _ h G hl
    · have h := oif_neg c9 h
      refine lv_aload_n hx hb dX12_nextToken_97 rfl (lv_at hl 0 rfl) ?_
      refine lv_dup hx hb dX12_nextToken_98 rfl ?_
      refine m_get E G 4 (v := .int (S3.1 4)) (by decide) (.tail _ qM_46) rfl dX12_nextToken_99 rfl ?_
      refine lv_topi (fun v14 ev14 => ?_)
      have h := elet_at ev14 h
      clear ev14
      refine lv_iconst (v := 1) hx hb dX12_nextToken_102 (by decide) ?_
      refine lv_iadd hx hb dX12_nextToken_103 ?_
      refine lv_topi (fun v15 ev15 => ?_)
      have h := elet_at ev15 h
      clear ev15
      refine m_put E G 4 (by decide) (.tail _ qM_46) (mw_i4 _ _ _ _ _ v15) dX12_nextToken_104 ⟨rfl, rfl, rfl⟩ rfl rfl (fun H locs G => ?_)
      obtain ⟨S16, eS16, h⟩ := elet_some h
      rw [← eS16] at G
      clear eS16
      refine lv_goto (tgt := 79) hx hb dX12_nextToken_107 (by decide) ?_
      have hl := lv_sub hl [0] rfl
      exact ih _ _ _ _ h G hl
def fr_nextToken_b8  : Nat → MS → Option (MS)
  | 0, _ => none
  | n + 1, S => elet (S.1 4) fun v2 => obind2 (fr_byteAt S v2) fun r6 S3 => if r6 = 32 then (elet (S3.1 4) fun v8 => elet (v8 + 1) fun v9 => elet (mi S3 4 v9) fun S10 => fr_nextToken_b8 n S10) else (elet (S3.1 4) fun v11 => elet (mi S3 8 v11) fun S12 => elet (S12.1 4) fun v13 => elet (S12.1 3) fun v14 => if v13 = v14 then (elet (mi S12 7 1) fun S16 => fr_nextToken_b292 S16) else (elet (S12.1 4) fun v17 => obind2 (fr_byteAt S12 v17) fun r21 S18 => obind (fr_in r21 97 122) fun r22 => if r22 = 0 then (elet (S18.1 4) fun v25 => obind2 (fr_byteAt S18 v25) fun r29 S26 => obind (fr_in r29 48 57) fun r30 => if r30 = 0 then (elet (S26.1 4) fun v33 => obind2 (fr_byteAt S26 v33) fun r37 S34 => elet (mi S34 9 r37) fun S38 => elet (S38.1 9) fun v39 => obind (fr_isSign v39) fun r40 => if r40 = 0 then (fr_nextToken_b279 S38 0) else (fr_nextToken_b279 S38 4)) else (elet (mi S26 9 0) fun S43 => fr_nextToken_b159 16384 S43)) else (fr_nextToken_b79 16384 S18)))
set_option maxHeartbeats 4000000 in
set_option maxRecDepth 100000 in
theorem tr_nextToken_b8 {p : Program} {l : Launch} {e : Env} {s : State} {m : MethodId} {args : Array Value} {below : List Frame} {meth : Method} {c : Code} {Q : State → Prop} {D : va_G} {A : Nat → Prop} {H0 : Heap} {cI cJ cZ : ClassId} {ad : Nat → Nat} {S1 : MS} (E : mE p c cX12_nextToken s m args (Cond.code yX12_nextToken cX12_nextToken 1 none :: wsM) D cI cJ cZ) (hA : ∀ q : Nat, H0.size ≤ q → A q) (hR : sR s) (hml : c.maxLocals = 1) (kr7 : ∀ (H : Heap) (locs : List Loc) (ls : Array Slot), mG D cI cJ cZ ad A H0 H locs S1 → W p l e { frames := 2, cells := 0, slots := 0, locals := 22 } s m args below meth c H locs 0 0 Q (F0 m 7 ls [])) (kr292 : ∀ (H : Heap) (locs : List Loc) (ls : Array Slot), mG D cI cJ cZ ad A H0 H locs S1 → W p l e { frames := 2, cells := 0, slots := 0, locals := 22 } s m args below meth c H locs 0 0 Q (F0 m 292 ls [])) : ∀ n : Nat, ∀ (S : MS) (H : Heap) (locs : List Loc) (ls : Array Slot), fr_nextToken_b8 n S = some S1 → mG D cI cJ cZ ad A H0 H locs S → lv_has ls 1 [(0, .ref (ad 0))] → W p l e { frames := 2, cells := 0, slots := 0, locals := 22 } s m args below meth c H locs 0 0 Q (F0 m 8 ls []) := by
  have hx := E.1
  have hb := E.2.1
  have hts := E.2.2.1
  have hown := E.2.2.2.1
  have hK := E.2.2.2.2.1
  intro n
  induction n with
  | zero =>
    intro S H locs ls h
    have h : (none : Option (MS)) = some S1 := h
    cases h
  | succ n ih =>
    intro S H locs ls h G hl
    unfold fr_nextToken_b8 at h
    refine lv_aload_n hx hb dX12_nextToken_8 rfl (lv_at hl 0 rfl) ?_
    refine lv_aload_n hx hb dX12_nextToken_9 rfl (lv_at hl 0 rfl) ?_
    refine m_get E G 4 (v := .int (S.1 4)) (by decide) (.tail _ qM_46) rfl dX12_nextToken_10 rfl ?_
    refine lv_topi (fun v2 ev2 => ?_)
    have h := elet_at ev2 h
    clear ev2
    obtain ⟨r6, S3, eS3, h⟩ := obind2_some h
    refine m_calli (As := [.int v2]) (rest := []) E G hA hR hml (tr_byteAt l D cI cJ cZ ad S v2 eS3) (cwV 1 hts (gmV qM_49 qM_50 qM_51 qM_35 qM_40) rfl rfl rfl (by decide +kernel) ⟨Nat.le_of_ble_eq_true rfl, Nat.le_of_ble_eq_true rfl⟩) rfl hl.1 rfl (lv_room (Nat.le_of_ble_eq_true rfl)) dX12_nextToken_13 ⟨Nat.zero_le _, Nat.zero_le _⟩ (fun q4 S5 H locs hq G => ?_)
    obtain ⟨hq1, hq2⟩ := hq
    rw [hq2] at G
    refine lv_to hq1 ?_
    clear hq1 hq2 eS3
    refine lv_bipush (v := 32) hx hb dX12_nextToken_16 (by decide) ?_
    refine lv_icmp_ne (tgt := 34) hx hb dX12_nextToken_18 (by decide) (fun c7 => ?_) (fun c7 => ?_)
    · have h := oif_neg c7 h
      refine lv_aload_n hx hb dX12_nextToken_34 rfl (lv_at hl 0 rfl) ?_
      refine lv_aload_n hx hb dX12_nextToken_35 rfl (lv_at hl 0 rfl) ?_
      refine m_get E G 4 (v := .int (S3.1 4)) (by decide) (.tail _ qM_46) rfl dX12_nextToken_36 rfl ?_
      refine lv_topi (fun v11 ev11 => ?_)
      have h := elet_at ev11 h
      clear ev11
      refine m_put E G 8 (by decide) (.tail _ qM_43) (mw_i8 _ _ _ _ _ v11) dX12_nextToken_39 ⟨rfl, rfl, rfl⟩ rfl rfl (fun H locs G => ?_)
      obtain ⟨S12, eS12, h⟩ := elet_some h
      rw [← eS12] at G
      clear eS12
      refine lv_aload_n hx hb dX12_nextToken_42 rfl (lv_at hl 0 rfl) ?_
      refine m_get E G 4 (v := .int (S12.1 4)) (by decide) (.tail _ qM_46) rfl dX12_nextToken_43 rfl ?_
      refine lv_topi (fun v13 ev13 => ?_)
      have h := elet_at ev13 h
      clear ev13
      refine lv_aload_n hx hb dX12_nextToken_46 rfl (lv_at hl 0 rfl) ?_
      refine m_get E G 3 (v := .int (S12.1 3)) (by decide) (.tail _ qM_41) rfl dX12_nextToken_47 rfl ?_
      refine lv_topi (fun v14 ev14 => ?_)
      have h := elet_at ev14 h
      clear ev14
      refine lv_icmp_ne (tgt := 61) hx hb dX12_nextToken_50 (by decide) (fun c15 => ?_) (fun c15 => ?_)
      · have h := oif_neg c15 h
        refine lv_aload_n hx hb dX12_nextToken_61 rfl (lv_at hl 0 rfl) ?_
        refine lv_aload_n hx hb dX12_nextToken_62 rfl (lv_at hl 0 rfl) ?_
        refine m_get E G 4 (v := .int (S12.1 4)) (by decide) (.tail _ qM_46) rfl dX12_nextToken_63 rfl ?_
        refine lv_topi (fun v17 ev17 => ?_)
        have h := elet_at ev17 h
        clear ev17
        obtain ⟨r21, S18, eS18, h⟩ := obind2_some h
        refine m_calli (As := [.int v17]) (rest := []) E G hA hR hml (tr_byteAt l D cI cJ cZ ad S12 v17 eS18) (cwV 1 hts (gmV qM_49 qM_50 qM_51 qM_35 qM_40) rfl rfl rfl (by decide +kernel) ⟨Nat.le_of_ble_eq_true rfl, Nat.le_of_ble_eq_true rfl⟩) rfl hl.1 rfl (lv_room (Nat.le_of_ble_eq_true rfl)) dX12_nextToken_66 ⟨Nat.zero_le _, Nat.zero_le _⟩ (fun q19 S20 H locs hq G => ?_)
        obtain ⟨hq1, hq2⟩ := hq
        rw [hq2] at G
        refine lv_to hq1 ?_
        clear hq1 hq2 eS18
        refine lv_bipush (v := 97) hx hb dX12_nextToken_69 (by decide) ?_
        refine lv_bipush (v := 122) hx hb dX12_nextToken_71 (by decide) ?_
        obtain ⟨r22, er22, h⟩ := obind_some h
        refine m_stat (As := [.int r21, .int 97, .int 122]) (rest := []) ⟨hx, hb, hml, hown, hts⟩ (tr_in l r21 97 122 er22) (cwS 3 hts (gmS qM_52 qM_53 qM_35 qM_27) rfl rfl rfl (by decide +kernel) ⟨Nat.le_of_ble_eq_true rfl, Nat.le_of_ble_eq_true rfl⟩) rfl hl.1 rfl (lv_room (Nat.le_of_ble_eq_true rfl)) dX12_nextToken_73 ⟨Nat.zero_le _, Nat.zero_le _⟩ (fun q23 hq => ?_)
        refine lv_to hq ?_
        clear hq er22
        refine lv_if_eq (tgt := 136) hx hb dX12_nextToken_76 (by decide) (fun c24 => ?_) (fun c24 => ?_)
        · have h := oif_pos c24 h
          refine lv_aload_n hx hb dX12_nextToken_136 rfl (lv_at hl 0 rfl) ?_
          refine lv_aload_n hx hb dX12_nextToken_137 rfl (lv_at hl 0 rfl) ?_
          refine m_get E G 4 (v := .int (S18.1 4)) (by decide) (.tail _ qM_46) rfl dX12_nextToken_138 rfl ?_
          refine lv_topi (fun v25 ev25 => ?_)
          have h := elet_at ev25 h
          clear ev25
          obtain ⟨r29, S26, eS26, h⟩ := obind2_some h
          refine m_calli (As := [.int v25]) (rest := []) E G hA hR hml (tr_byteAt l D cI cJ cZ ad S18 v25 eS26) (cwV 1 hts (gmV qM_49 qM_50 qM_51 qM_35 qM_40) rfl rfl rfl (by decide +kernel) ⟨Nat.le_of_ble_eq_true rfl, Nat.le_of_ble_eq_true rfl⟩) rfl hl.1 rfl (lv_room (Nat.le_of_ble_eq_true rfl)) dX12_nextToken_141 ⟨Nat.zero_le _, Nat.zero_le _⟩ (fun q27 S28 H locs hq G => ?_)
          obtain ⟨hq1, hq2⟩ := hq
          rw [hq2] at G
          refine lv_to hq1 ?_
          clear hq1 hq2 eS26
          refine lv_bipush (v := 48) hx hb dX12_nextToken_144 (by decide) ?_
          refine lv_bipush (v := 57) hx hb dX12_nextToken_146 (by decide) ?_
          obtain ⟨r30, er30, h⟩ := obind_some h
          refine m_stat (As := [.int r29, .int 48, .int 57]) (rest := []) ⟨hx, hb, hml, hown, hts⟩ (tr_in l r29 48 57 er30) (cwS 3 hts (gmS qM_52 qM_53 qM_35 qM_27) rfl rfl rfl (by decide +kernel) ⟨Nat.le_of_ble_eq_true rfl, Nat.le_of_ble_eq_true rfl⟩) rfl hl.1 rfl (lv_room (Nat.le_of_ble_eq_true rfl)) dX12_nextToken_148 ⟨Nat.zero_le _, Nat.zero_le _⟩ (fun q31 hq => ?_)
          refine lv_to hq ?_
          clear hq er30
          refine lv_if_eq (tgt := 251) hx hb dX12_nextToken_151 (by decide) (fun c32 => ?_) (fun c32 => ?_)
          · have h := oif_pos c32 h
            refine lv_aload_n hx hb dX12_nextToken_251 rfl (lv_at hl 0 rfl) ?_
            refine lv_aload_n hx hb dX12_nextToken_252 rfl (lv_at hl 0 rfl) ?_
            refine lv_aload_n hx hb dX12_nextToken_253 rfl (lv_at hl 0 rfl) ?_
            refine m_get E G 4 (v := .int (S26.1 4)) (by decide) (.tail _ qM_46) rfl dX12_nextToken_254 rfl ?_
            refine lv_topi (fun v33 ev33 => ?_)
            have h := elet_at ev33 h
            clear ev33
            obtain ⟨r37, S34, eS34, h⟩ := obind2_some h
            refine m_calli (As := [.int v33]) (rest := [.ref (ad 0)]) E G hA hR hml (tr_byteAt l D cI cJ cZ ad S26 v33 eS34) (cwV 1 hts (gmV qM_49 qM_50 qM_51 qM_35 qM_40) rfl rfl rfl (by decide +kernel) ⟨Nat.le_of_ble_eq_true rfl, Nat.le_of_ble_eq_true rfl⟩) rfl hl.1 rfl (lv_room (Nat.le_of_ble_eq_true rfl)) dX12_nextToken_257 ⟨Nat.zero_le _, Nat.zero_le _⟩ (fun q35 S36 H locs hq G => ?_)
            obtain ⟨hq1, hq2⟩ := hq
            rw [hq2] at G
            refine lv_to hq1 ?_
            clear hq1 hq2 eS34
            refine m_put E G 9 (by decide) (.tail _ qM_48) (mw_i9 _ _ _ _ _ r37) dX12_nextToken_260 ⟨rfl, rfl, rfl⟩ rfl rfl (fun H locs G => ?_)
            obtain ⟨S38, eS38, h⟩ := elet_some h
            rw [← eS38] at G
            clear eS38
            refine lv_aload_n hx hb dX12_nextToken_263 rfl (lv_at hl 0 rfl) ?_
            refine lv_aload_n hx hb dX12_nextToken_264 rfl (lv_at hl 0 rfl) ?_
            refine m_get E G 9 (v := .int (S38.1 9)) (by decide) (.tail _ qM_48) rfl dX12_nextToken_265 rfl ?_
            refine lv_topi (fun v39 ev39 => ?_)
            have h := elet_at ev39 h
            clear ev39
            obtain ⟨r40, er40, h⟩ := obind_some h
            refine m_stat (As := [.int v39]) (rest := [.ref (ad 0)]) ⟨hx, hb, hml, hown, hts⟩ (tr_isSign l v39 er40) (cwS 1 hts (gmS qM_54 qM_55 qM_35 qM_44) rfl rfl rfl (by decide +kernel) ⟨Nat.le_of_ble_eq_true rfl, Nat.le_of_ble_eq_true rfl⟩) rfl hl.1 rfl (lv_room (Nat.le_of_ble_eq_true rfl)) dX12_nextToken_268 ⟨Nat.zero_le _, Nat.zero_le _⟩ (fun q41 hq => ?_)
            refine lv_to hq ?_
            clear hq er40
            refine lv_if_eq (tgt := 278) hx hb dX12_nextToken_271 (by decide) (fun c42 => ?_) (fun c42 => ?_)
            · have h := oif_pos c42 h
              refine lv_iconst (v := 0) hx hb dX12_nextToken_278 (by decide) ?_
              have hl := lv_sub hl [0] rfl
              exact tr_nextToken_b279 E hA hR hml kr7 kr292 _ _ _ _ _ h G hl
            · have h := oif_neg c42 h
              refine lv_iconst (v := 4) hx hb dX12_nextToken_274 (by decide) ?_
              refine lv_goto (tgt := 279) hx hb dX12_nextToken_275 (by decide) ?_
              have hl := lv_sub hl [0] rfl
              exact tr_nextToken_b279 E hA hR hml kr7 kr292 _ _ _ _ _ h G hl
          · have h := oif_neg c32 h
            refine lv_aload_n hx hb dX12_nextToken_154 rfl (lv_at hl 0 rfl) ?_
            refine lv_iconst (v := 0) hx hb dX12_nextToken_155 (by decide) ?_
            refine m_put E G 9 (by decide) (.tail _ qM_48) (mw_i9 _ _ _ _ _ 0) dX12_nextToken_156 ⟨rfl, rfl, rfl⟩ rfl rfl (fun H locs G => ?_)
            obtain ⟨S43, eS43, h⟩ := elet_some h
            rw [← eS43] at G
            clear eS43
            have hl := lv_sub hl [0] rfl
            exact tr_nextToken_b159 E hA hR hml kr7 kr292 _ _ _ _ _ h G hl
        · have h := oif_neg c24 h
          have hl := lv_sub hl [0] rfl
          exact tr_nextToken_b79 E hA hR hml kr7 kr292 _ _ _ _ _ h G hl
      · have h := oif_pos c15 h
        refine lv_aload_n hx hb dX12_nextToken_53 rfl (lv_at hl 0 rfl) ?_
        refine lv_iconst (v := 1) hx hb dX12_nextToken_54 (by decide) ?_
        refine m_put E G 7 (by decide) (.tail _ qM_47) (mw_i7 _ _ _ _ _ 1) dX12_nextToken_55 ⟨rfl, rfl, rfl⟩ rfl rfl (fun H locs G => ?_)
        obtain ⟨S16, eS16, h⟩ := elet_some h
        rw [← eS16] at G
        clear eS16
        refine lv_goto (tgt := 292) hx hb dX12_nextToken_58 (by decide) ?_
        have hl := lv_sub hl [] rfl
        exact tr_nextToken_b292 E hA hR hml kr7 kr292 _ _ _ _ h G hl
    · have h := oif_pos c7 h
      refine lv_aload_n hx hb dX12_nextToken_21 rfl (lv_at hl 0 rfl) ?_
      refine lv_dup hx hb dX12_nextToken_22 rfl ?_
      refine m_get E G 4 (v := .int (S3.1 4)) (by decide) (.tail _ qM_46) rfl dX12_nextToken_23 rfl ?_
      refine lv_topi (fun v8 ev8 => ?_)
      have h := elet_at ev8 h
      clear ev8
      refine lv_iconst (v := 1) hx hb dX12_nextToken_26 (by decide) ?_
      refine lv_iadd hx hb dX12_nextToken_27 ?_
      refine lv_topi (fun v9 ev9 => ?_)
      have h := elet_at ev9 h
      clear ev9
      refine m_put E G 4 (by decide) (.tail _ qM_46) (mw_i4 _ _ _ _ _ v9) dX12_nextToken_28 ⟨rfl, rfl, rfl⟩ rfl rfl (fun H locs G => ?_)
      obtain ⟨S10, eS10, h⟩ := elet_some h
      rw [← eS10] at G
      clear eS10
      refine lv_goto (tgt := 8) hx hb dX12_nextToken_31 (by decide) ?_
      have hl := lv_sub hl [0] rfl
      exact ih _ _ _ _ h G hl
def fr_nextToken (S : MS)  : Option (MS) := elet (S.1 5) fun v2 => if v2 ≤ 0 then (fr_nextToken_b8 16384 S) else (some S)
set_option maxHeartbeats 4000000 in
set_option maxRecDepth 100000 in
theorem tr_nextToken (l : Launch) (D : va_G) (cI cJ cZ : ClassId) (ad : Nat → Nat) (S : MS)  {S1 : MS} (h : fr_nextToken S = some S1) : mCv l yX12_nextToken (Cond.code yX12_nextToken cX12_nextToken 1 none :: wsM) 2 22 D cI cJ cZ ad S [] (fun S9 => S9 = S1) := by
  intro sz
  refine Met.ofW (cc := cX12_nextToken) (maxL := 1) (ret := none) (by decide) rfl ?_
  intro p e s m args below meth c s₁ B hml hv
  obtain ⟨rfl, hsz, hP, hK, hD0, hR⟩ := hv
  have hx := B.exec
  have hb := B.bytes
  have hr := B.returns
  have hts := atoms_spec (ws := (Cond.code yX12_nextToken cX12_nextToken 1 none :: wsM)) B.pre
  have hown : s.vm.findClass RX12 = some m.cls := findClass_of_methodNamed B.named
  have hlocks := B.notSynchronized
  subst hsz
  have hD := hD0.self (sz := s.heap.size)
  generalize hAe : va_A (MW cI cJ cZ ad S) s.heap.size = A at hD ⊢
  have hA : ∀ q : Nat, s.heap.size ≤ q → A q := fun q h => by rw [← hAe]; exact Or.inr h
  have G : mG D cI cJ cZ ad A s.heap s.heap [] S := ⟨hP, hD, va_S.rf⟩
  have E : mE p c cX12_nextToken s m ([.ref (ad 0)] : List Value).toArray (Cond.code yX12_nextToken cX12_nextToken 1 none :: wsM) D cI cJ cZ := ⟨hx, hb, hts, hown, hK, fun w h => .tail _ (iM_x h)⟩
  have hl := lv_entry ([.ref (ad 0)]) (n := 1) (Nat.le_of_ble_eq_true rfl)
  rw [lg_entry_eq]
  generalize (lg_sl ([.ref (ad 0)]) ++ List.replicate (1 - (lg_sl ([.ref (ad 0)])).length) Slot.unset).toArray = ls at hl ⊢
  have hl : lv_has ls 1 [(0, .ref (ad 0))] := hl
  unfold fr_nextToken at h
  refine lv_aload_n hx hb dX12_nextToken_0 rfl (lv_at hl 0 rfl) ?_
  refine m_get E G 5 (v := .int (S.1 5)) (by decide) (.tail _ qM_38) rfl dX12_nextToken_1 rfl ?_
  refine lv_topi (fun v2 ev2 => ?_)
  have h := elet_at ev2 h
  clear ev2
  refine lv_if_le (tgt := 8) hx hb dX12_nextToken_4 (by decide) (fun c3 => ?_) (fun c3 => ?_)
  · have h := oif_pos c3 h
    have hl := lv_sub hl [0] rfl
    exact tr_nextToken_b8 E hA hR hml (fun H locs ls G => W.vret hx hb hr (fun t ht hW => ⟨⟨S1, rfl, rfl, ⟨by rw [ht]; exact G.1, va_K.moved hW.alike hK, G.2.1⟩⟩, G.2.2.F ht⟩) G.2.2.2.2 dX12_nextToken_7) (fun H locs ls G => W.vret hx hb hr (fun t ht hW => ⟨⟨S1, rfl, rfl, ⟨by rw [ht]; exact G.1, va_K.moved hW.alike hK, G.2.1⟩⟩, G.2.2.F ht⟩) G.2.2.2.2 dX12_nextToken_292) _ _ _ _ _ h G hl
  · have h := oif_neg c3 h
    exact W.vret hx hb hr (fun t ht hW => ⟨⟨S, rfl, osome1 h, ⟨by rw [ht]; exact G.1, va_K.moved hW.alike hK, G.2.1⟩⟩, G.2.2.F ht⟩) G.2.2.2.2 dX12_nextToken_7
def fr_isSignHere_b28  (S : MS) (s0 : Int32) : Option (Int32 × MS) := oif (s0 = 0 ∨ s0 = 1) <| some (s0, S)
set_option maxHeartbeats 4000000 in
set_option maxRecDepth 100000 in
theorem tr_isSignHere_b28 {p : Program} {l : Launch} {e : Env} {s : State} {m : MethodId} {args : Array Value} {below : List Frame} {meth : Method} {c : Code} {Q : State → Prop} {D : va_G} {A : Nat → Prop} {H0 : Heap} {cI cJ cZ : ClassId} {ad : Nat → Nat} {r1 : Int32} {S1 : MS} (E : mE p c cX12_isSignHere s m args (Cond.code yX12_isSignHere cX12_isSignHere 2 (some .boolean) :: wsM) D cI cJ cZ) (hA : ∀ q : Nat, H0.size ≤ q → A q) (hR : sR s) (hml : c.maxLocals = 2) (kr28 : ∀ (H : Heap) (locs : List Loc) (ls : Array Slot), (r1 = 0 ∨ r1 = 1) → mG D cI cJ cZ ad A H0 H locs S1 → W p l e { frames := 1, cells := 0, slots := 0, locals := 0 } s m args below meth c H locs 0 0 Q (F0 m 28 ls [.int r1])) : ∀ (S : MS) (H : Heap) (locs : List Loc) (ls : Array Slot) (s0 : Int32), fr_isSignHere_b28 S s0 = some (r1, S1) → mG D cI cJ cZ ad A H0 H locs S → lv_has ls 2 [] → W p l e { frames := 1, cells := 0, slots := 0, locals := 0 } s m args below meth c H locs 0 0 Q (F0 m 28 ls [.int s0]) := by
  have hx := E.1
  have hb := E.2.1
  have hts := E.2.2.1
  have hown := E.2.2.2.1
  have hK := E.2.2.2.2.1
  intro S H locs ls s0 h G hl
  unfold fr_isSignHere_b28 at h
  obtain ⟨gz, h⟩ := oif_some h
  have gr : r1 = 0 ∨ r1 = 1 := by rw [← (osome2 h).1]; exact gz
  rw [(osome2 h).2] at G
  refine lv_to (osome2 h).1 ?_
  exact kr28 _ _ _ gr G
def fr_isSignHere_b27  (S : MS)  : Option (Int32 × MS) := fr_isSignHere_b28 S 0
set_option maxHeartbeats 4000000 in
set_option maxRecDepth 100000 in
theorem tr_isSignHere_b27 {p : Program} {l : Launch} {e : Env} {s : State} {m : MethodId} {args : Array Value} {below : List Frame} {meth : Method} {c : Code} {Q : State → Prop} {D : va_G} {A : Nat → Prop} {H0 : Heap} {cI cJ cZ : ClassId} {ad : Nat → Nat} {r1 : Int32} {S1 : MS} (E : mE p c cX12_isSignHere s m args (Cond.code yX12_isSignHere cX12_isSignHere 2 (some .boolean) :: wsM) D cI cJ cZ) (hA : ∀ q : Nat, H0.size ≤ q → A q) (hR : sR s) (hml : c.maxLocals = 2) (kr28 : ∀ (H : Heap) (locs : List Loc) (ls : Array Slot), (r1 = 0 ∨ r1 = 1) → mG D cI cJ cZ ad A H0 H locs S1 → W p l e { frames := 1, cells := 0, slots := 0, locals := 0 } s m args below meth c H locs 0 0 Q (F0 m 28 ls [.int r1])) : ∀ (S : MS) (H : Heap) (locs : List Loc) (ls : Array Slot), fr_isSignHere_b27 S = some (r1, S1) → mG D cI cJ cZ ad A H0 H locs S → lv_has ls 2 [] → W p l e { frames := 1, cells := 0, slots := 0, locals := 0 } s m args below meth c H locs 0 0 Q (F0 m 27 ls []) := by
  have hx := E.1
  have hb := E.2.1
  have hts := E.2.2.1
  have hown := E.2.2.2.1
  have hK := E.2.2.2.2.1
  intro S H locs ls h G hl
  unfold fr_isSignHere_b27 at h
  refine lv_iconst (v := 0) hx hb dX12_isSignHere_27 (by decide) ?_
  have hl := lv_sub hl [] rfl
  exact tr_isSignHere_b28 E hA hR hml kr28 _ _ _ _ _ h G hl
def fr_isSignHere (S : MS) (a0 : Int32) : Option (Int32 × MS) := elet (S.1 5) fun v2 => if v2 = 0 then (elet (S.1 7) fun v4 => if v4 = 4 then (elet (S.1 9) fun v6 => if v6 = a0 then (fr_isSignHere_b28 S 1) else (fr_isSignHere_b27 S)) else (fr_isSignHere_b27 S)) else (fr_isSignHere_b27 S)
set_option maxHeartbeats 4000000 in
set_option maxRecDepth 100000 in
theorem tr_isSignHere (l : Launch) (D : va_G) (cI cJ cZ : ClassId) (ad : Nat → Nat) (S : MS) (a0 : Int32) {r1 : Int32} {S1 : MS} (h : fr_isSignHere S a0 = some (r1, S1)) : mCi l yX12_isSignHere (Cond.code yX12_isSignHere cX12_isSignHere 2 (some .boolean) :: wsM) 1 0 D cI cJ cZ ad S [.int a0] (fun r S9 => r = r1 ∧ S9 = S1) := by
  intro sz
  refine Met.ofW (cc := cX12_isSignHere) (maxL := 2) (ret := (some .boolean)) (by decide) rfl ?_
  intro p e s m args below meth c s₁ B hml hv
  obtain ⟨rfl, hsz, hP, hK, hD0, hR⟩ := hv
  have hx := B.exec
  have hb := B.bytes
  have hr := B.returns
  have hts := atoms_spec (ws := (Cond.code yX12_isSignHere cX12_isSignHere 2 (some .boolean) :: wsM)) B.pre
  have hown : s.vm.findClass RX12 = some m.cls := findClass_of_methodNamed B.named
  have hlocks := B.notSynchronized
  subst hsz
  have hD := hD0.self (sz := s.heap.size)
  generalize hAe : va_A (MW cI cJ cZ ad S) s.heap.size = A at hD ⊢
  have hA : ∀ q : Nat, s.heap.size ≤ q → A q := fun q h => by rw [← hAe]; exact Or.inr h
  have G : mG D cI cJ cZ ad A s.heap s.heap [] S := ⟨hP, hD, va_S.rf⟩
  have E : mE p c cX12_isSignHere s m ([.ref (ad 0), .int a0] : List Value).toArray (Cond.code yX12_isSignHere cX12_isSignHere 2 (some .boolean) :: wsM) D cI cJ cZ := ⟨hx, hb, hts, hown, hK, fun w h => .tail _ (iM_x h)⟩
  have hl := lv_entry ([.ref (ad 0), .int a0]) (n := 2) (Nat.le_of_ble_eq_true rfl)
  rw [lg_entry_eq]
  generalize (lg_sl ([.ref (ad 0), .int a0]) ++ List.replicate (2 - (lg_sl ([.ref (ad 0), .int a0])).length) Slot.unset).toArray = ls at hl ⊢
  have hl : lv_has ls 2 [(0, .ref (ad 0)), (1, .int a0)] := hl
  unfold fr_isSignHere at h
  refine lv_aload_n hx hb dX12_isSignHere_0 rfl (lv_at hl 0 rfl) ?_
  refine m_get E G 5 (v := .int (S.1 5)) (by decide) (.tail _ qM_38) rfl dX12_isSignHere_1 rfl ?_
  refine lv_topi (fun v2 ev2 => ?_)
  have h := elet_at ev2 h
  clear ev2
  refine lv_if_ne (tgt := 27) hx hb dX12_isSignHere_4 (by decide) (fun c3 => ?_) (fun c3 => ?_)
  · have h := oif_neg c3 h
    have hl := lv_sub hl [] rfl
    exact tr_isSignHere_b27 E hA hR hml (fun H locs ls gz G => W.zret (v := r1) hx hb hr (nar01 gz) (fun t ht hW => ⟨⟨r1, S1, rfl, ⟨rfl, rfl⟩, ⟨by rw [ht]; exact G.1, va_K.moved hW.alike hK, G.2.1⟩⟩, G.2.2.F ht⟩) G.2.2.2.2 dX12_isSignHere_28) _ _ _ _ h G hl
  · have h := oif_pos c3 h
    refine lv_aload_n hx hb dX12_isSignHere_7 rfl (lv_at hl 0 rfl) ?_
    refine m_get E G 7 (v := .int (S.1 7)) (by decide) (.tail _ qM_47) rfl dX12_isSignHere_8 rfl ?_
    refine lv_topi (fun v4 ev4 => ?_)
    have h := elet_at ev4 h
    clear ev4
    refine lv_iconst (v := 4) hx hb dX12_isSignHere_11 (by decide) ?_
    refine lv_icmp_ne (tgt := 27) hx hb dX12_isSignHere_12 (by decide) (fun c5 => ?_) (fun c5 => ?_)
    · have h := oif_neg c5 h
      have hl := lv_sub hl [] rfl
      exact tr_isSignHere_b27 E hA hR hml (fun H locs ls gz G => W.zret (v := r1) hx hb hr (nar01 gz) (fun t ht hW => ⟨⟨r1, S1, rfl, ⟨rfl, rfl⟩, ⟨by rw [ht]; exact G.1, va_K.moved hW.alike hK, G.2.1⟩⟩, G.2.2.F ht⟩) G.2.2.2.2 dX12_isSignHere_28) _ _ _ _ h G hl
    · have h := oif_pos c5 h
      refine lv_aload_n hx hb dX12_isSignHere_15 rfl (lv_at hl 0 rfl) ?_
      refine m_get E G 9 (v := .int (S.1 9)) (by decide) (.tail _ qM_48) rfl dX12_isSignHere_16 rfl ?_
      refine lv_topi (fun v6 ev6 => ?_)
      have h := elet_at ev6 h
      clear ev6
      refine lv_iload_n hx hb dX12_isSignHere_19 rfl (lv_at hl 1 rfl) ?_
      refine lv_icmp_ne (tgt := 27) hx hb dX12_isSignHere_20 (by decide) (fun c7 => ?_) (fun c7 => ?_)
      · have h := oif_neg c7 h
        have hl := lv_sub hl [] rfl
        exact tr_isSignHere_b27 E hA hR hml (fun H locs ls gz G => W.zret (v := r1) hx hb hr (nar01 gz) (fun t ht hW => ⟨⟨r1, S1, rfl, ⟨rfl, rfl⟩, ⟨by rw [ht]; exact G.1, va_K.moved hW.alike hK, G.2.1⟩⟩, G.2.2.F ht⟩) G.2.2.2.2 dX12_isSignHere_28) _ _ _ _ h G hl
      · have h := oif_pos c7 h
        refine lv_iconst (v := 1) hx hb dX12_isSignHere_23 (by decide) ?_
        refine lv_goto (tgt := 28) hx hb dX12_isSignHere_24 (by decide) ?_
        have hl := lv_sub hl [] rfl
        exact tr_isSignHere_b28 E hA hR hml (fun H locs ls gz G => W.zret (v := r1) hx hb hr (nar01 gz) (fun t ht hW => ⟨⟨r1, S1, rfl, ⟨rfl, rfl⟩, ⟨by rw [ht]; exact G.1, va_K.moved hW.alike hK, G.2.1⟩⟩, G.2.2.F ht⟩) G.2.2.2.2 dX12_isSignHere_28) _ _ _ _ _ h G hl
def fr_isWord_b31 (tx : Nat × (Nat → Int32))  (S : MS)  : Option (Int32 × MS) := some (0, S)
set_option maxHeartbeats 4000000 in
set_option maxRecDepth 100000 in
theorem tr_isWord_b31 {p : Program} {l : Launch} {e : Env} {s : State} {m : MethodId} {args : Array Value} {below : List Frame} {meth : Method} {c : Code} {Q : State → Prop} {D : va_G} {A : Nat → Prop} {cI cJ cZ : ClassId} {ad : Nat → Nat} {q : Nat} {tx : Nat × (Nat → Int32)} {r1 : Int32} {S1 : MS} (E : mE p c cX12_isWord s m args (Cond.code yX12_isWord cX12_isWord 3 (some .boolean) :: wsM) D cI cJ cZ) (hA : ∀ q : Nat, s.heap.size ≤ q → A q) (hR : sR s) (hml : c.maxLocals = 3) {h0 : Nat} (hA0 : ∀ a : Nat, A a → h0 ≤ a) (hT : sAll h0 s) (hO : sO tx q (fun a => h0 ≤ a) s s.heap) (hC : sT tx) (kr32 : ∀ (H : Heap) (locs : List Loc) (ls : Array Slot), (r1 = 0 ∨ r1 = 1) → mG D cI cJ cZ ad A s.heap H locs S1 → W p l e { frames := 5, cells := 0, slots := 0, locals := 87 } s m args below meth c H locs 0 0 Q (F0 m 32 ls [.int r1])) (kr63 : ∀ (H : Heap) (locs : List Loc) (ls : Array Slot), (r1 = 0 ∨ r1 = 1) → mG D cI cJ cZ ad A s.heap H locs S1 → W p l e { frames := 5, cells := 0, slots := 0, locals := 87 } s m args below meth c H locs 0 0 Q (F0 m 63 ls [.int r1])) (kr71 : ∀ (H : Heap) (locs : List Loc) (ls : Array Slot), (r1 = 0 ∨ r1 = 1) → mG D cI cJ cZ ad A s.heap H locs S1 → W p l e { frames := 5, cells := 0, slots := 0, locals := 87 } s m args below meth c H locs 0 0 Q (F0 m 71 ls [.int r1])) : ∀ (S : MS) (H : Heap) (locs : List Loc) (ls : Array Slot), fr_isWord_b31 tx S = some (r1, S1) → mG D cI cJ cZ ad A s.heap H locs S → lv_has ls 3 [] → W p l e { frames := 5, cells := 0, slots := 0, locals := 87 } s m args below meth c H locs 0 0 Q (F0 m 31 ls []) := by
  have hx := E.1
  have hb := E.2.1
  have hts := E.2.2.1
  have hown := E.2.2.2.1
  have hK := E.2.2.2.2.1
  intro S H locs ls h G hl
  unfold fr_isWord_b31 at h
  refine lv_iconst (v := 0) hx hb dX12_isWord_31 (by decide) ?_
  rw [(osome2 h).2] at G
  refine lv_to (osome2 h).1 ?_
  exact kr32 _ _ _ (.inl ((osome2 h).1).symm) G
def fr_isWord_b35 (tx : Nat × (Nat → Int32))  : Nat → MS → Int32 → Option (Int32 × MS)
  | 0, _, _ => none
  | n + 1, S, l2 => elet (nI tx.1 >>> (0 &&& 31)) fun v3 => if v3 ≤ l2 then (some (1, S)) else (elet (S.1 8) fun v5 => elet (v5 + l2) fun v6 => oif (inb v6 1000 = true) <| elet (S.2.1 1 v6.toNatClampNeg) fun v8 => oif (inb l2 tx.1 = true) <| elet (s_ch (tx.2 l2.toNatClampNeg)) fun v11 => if v8 = v11 then (elet (l2 + Int32.ofInt (1)) fun v13 => fr_isWord_b35 tx n S v13) else (some (0, S)))
set_option maxHeartbeats 4000000 in
set_option maxRecDepth 100000 in
theorem tr_isWord_b35 {p : Program} {l : Launch} {e : Env} {s : State} {m : MethodId} {args : Array Value} {below : List Frame} {meth : Method} {c : Code} {Q : State → Prop} {D : va_G} {A : Nat → Prop} {cI cJ cZ : ClassId} {ad : Nat → Nat} {q : Nat} {tx : Nat × (Nat → Int32)} {r1 : Int32} {S1 : MS} (E : mE p c cX12_isWord s m args (Cond.code yX12_isWord cX12_isWord 3 (some .boolean) :: wsM) D cI cJ cZ) (hA : ∀ q : Nat, s.heap.size ≤ q → A q) (hR : sR s) (hml : c.maxLocals = 3) {h0 : Nat} (hA0 : ∀ a : Nat, A a → h0 ≤ a) (hT : sAll h0 s) (hO : sO tx q (fun a => h0 ≤ a) s s.heap) (hC : sT tx) (kr32 : ∀ (H : Heap) (locs : List Loc) (ls : Array Slot), (r1 = 0 ∨ r1 = 1) → mG D cI cJ cZ ad A s.heap H locs S1 → W p l e { frames := 5, cells := 0, slots := 0, locals := 87 } s m args below meth c H locs 0 0 Q (F0 m 32 ls [.int r1])) (kr63 : ∀ (H : Heap) (locs : List Loc) (ls : Array Slot), (r1 = 0 ∨ r1 = 1) → mG D cI cJ cZ ad A s.heap H locs S1 → W p l e { frames := 5, cells := 0, slots := 0, locals := 87 } s m args below meth c H locs 0 0 Q (F0 m 63 ls [.int r1])) (kr71 : ∀ (H : Heap) (locs : List Loc) (ls : Array Slot), (r1 = 0 ∨ r1 = 1) → mG D cI cJ cZ ad A s.heap H locs S1 → W p l e { frames := 5, cells := 0, slots := 0, locals := 87 } s m args below meth c H locs 0 0 Q (F0 m 71 ls [.int r1])) : ∀ n : Nat, ∀ (S : MS) (H : Heap) (locs : List Loc) (ls : Array Slot) (l2 : Int32), fr_isWord_b35 tx n S l2 = some (r1, S1) → mG D cI cJ cZ ad A s.heap H locs S → lv_has ls 3 [(0, .ref (ad 0)), (1, .ref q), (2, .int l2)] → W p l e { frames := 5, cells := 0, slots := 0, locals := 87 } s m args below meth c H locs 0 0 Q (F0 m 35 ls []) := by
  have hx := E.1
  have hb := E.2.1
  have hts := E.2.2.1
  have hown := E.2.2.2.1
  have hK := E.2.2.2.2.1
  intro n
  induction n with
  | zero =>
    intro S H locs ls l2 h
    have h : (none : Option (Int32 × MS)) = some (r1, S1) := h
    cases h
  | succ n ih =>
    intro S H locs ls l2 h G hl
    unfold fr_isWord_b35 at h
    refine lv_iload_n hx hb dX12_isWord_35 rfl (lv_at hl 2 rfl) ?_
    refine lv_aload_n hx hb dX12_isWord_36 rfl (lv_at hl 1 rfl) ?_
    refine s_callV (As := []) (rest := [.int l2]) ⟨hx, hb, hml, hown, hts⟩ (j_length l (tx := tx) (q := q)) (cwV 0 hts (gmV qM_58 qM_59 qM_60 qM_61 qM_62) rfl rfl rfl (by decide +kernel) ⟨Nat.le_of_ble_eq_true rfl, Nat.le_of_ble_eq_true rfl⟩) (sO.recv hO hA0 G.2.2) (fun _ _ _ _ h => h.blind) (sP.go hO hT.2 hA0 G.2.2) rfl hl.1 rfl (lv_room (Nat.le_of_ble_eq_true rfl)) dX12_isWord_37 ⟨Nat.zero_le _, Nat.zero_le _⟩ (fun r2 hq => ?_)
    refine lv_to hq ?_
    clear hq
    refine lv_topi (fun v3 ev3 => ?_)
    have h := elet_at ev3 h
    clear ev3
    refine lv_icmp_ge (tgt := 70) hx hb dX12_isWord_40 (by decide) (fun c4 => ?_) (fun c4 => ?_)
    · have h := oif_pos c4 h
      refine lv_iconst (v := 1) hx hb dX12_isWord_70 (by decide) ?_
      rw [(osome2 h).2] at G
      refine lv_to (osome2 h).1 ?_
      exact kr71 _ _ _ (.inr ((osome2 h).1).symm) G
    · have h := oif_neg c4 h
      refine lv_aload_n hx hb dX12_isWord_43 rfl (lv_at hl 0 rfl) ?_
      refine m_get E G 1 (v := .ref (ad 1)) (by decide) (.tail _ qM_5) rfl dX12_isWord_44 rfl ?_
      refine lv_aload_n hx hb dX12_isWord_47 rfl (lv_at hl 0 rfl) ?_
      refine m_get E G 8 (v := .int (S.1 8)) (by decide) (.tail _ qM_43) rfl dX12_isWord_48 rfl ?_
      refine lv_topi (fun v5 ev5 => ?_)
      have h := elet_at ev5 h
      clear ev5
      refine lv_iload_n hx hb dX12_isWord_51 rfl (lv_at hl 2 rfl) ?_
      refine lv_iadd hx hb dX12_isWord_52 ?_
      refine lv_topi (fun v6 ev6 => ?_)
      have h := elet_at ev6 h
      clear ev6
      obtain ⟨g7, h⟩ := oif_some h
      refine m_iald E G 1 1 (n := 1000) (k := v6.toNatClampNeg) rfl (inb_k g7).1 (inb_k g7).2 (by decide) dX12_isWord_53 ?_
      refine lv_topi (fun v8 ev8 => ?_)
      have h := elet_at ev8 h
      clear ev8
      refine lv_aload_n hx hb dX12_isWord_54 rfl (lv_at hl 1 rfl) ?_
      refine lv_iload_n hx hb dX12_isWord_55 rfl (lv_at hl 2 rfl) ?_
      obtain ⟨g10, h⟩ := oif_some h
      refine lv_to (inb_k g10).1 ?_
      refine s_callV (As := [.int (nI l2.toNatClampNeg)]) (rest := [.int v8]) ⟨hx, hb, hml, hown, hts⟩ (j_charAt l (tx := tx) (q := q) (inb_k g10).2 hC.1 (hC.2 _ (inb_k g10).2)) (cwV 1 hts (gmV qM_70 qM_71 qM_72 qM_61 qM_73) rfl rfl rfl (by decide +kernel) ⟨Nat.le_of_ble_eq_true rfl, Nat.le_of_ble_eq_true rfl⟩) (sO.recv hO hA0 G.2.2) (fun _ _ _ _ h => h.blind) (sP.go hO hT.2 hA0 G.2.2) rfl hl.1 rfl (lv_room (Nat.le_of_ble_eq_true rfl)) dX12_isWord_56 ⟨Nat.zero_le _, Nat.zero_le _⟩ (fun r9 hq => ?_)
      refine lv_to hq ?_
      clear hq
      refine lv_topi (fun v11 ev11 => ?_)
      have h := elet_at ev11 h
      clear ev11
      refine lv_icmp_eq (tgt := 64) hx hb dX12_isWord_59 (by decide) (fun c12 => ?_) (fun c12 => ?_)
      · have h := oif_pos c12 h
        obtain ⟨v13, ev13, h⟩ := elet_some h
        refine lv_iinc (v := v13) (lv' := [(2, .int v13), (0, .ref (ad 0)), (1, .ref q)]) hx hb dX12_isWord_64 hl (k := 2) rfl ev13.symm (by decide) rfl (fun ls hl => ?_)
        refine lv_goto (tgt := 35) hx hb dX12_isWord_67 (by decide) ?_
        have hl := lv_sub hl [1, 2, 0] rfl
        exact ih _ _ _ _ _ h G hl
      · have h := oif_neg c12 h
        refine lv_iconst (v := 0) hx hb dX12_isWord_62 (by decide) ?_
        rw [(osome2 h).2] at G
        refine lv_to (osome2 h).1 ?_
        exact kr63 _ _ _ (.inl ((osome2 h).1).symm) G
def fr_isWord (S : MS) (tx : Nat × (Nat → Int32))  : Option (Int32 × MS) := elet (S.1 5) fun v2 => if 0 < v2 then (fr_isWord_b31 tx S) else (elet (S.1 7) fun v4 => if v4 = 2 then (elet (S.1 4) fun v6 => elet (S.1 8) fun v7 => elet (v6 - v7) fun v8 => elet (nI tx.1 >>> (0 &&& 31)) fun v10 => if v8 = v10 then (fr_isWord_b35 tx 16384 S 0) else (fr_isWord_b31 tx S)) else (fr_isWord_b31 tx S))
set_option maxHeartbeats 4000000 in
set_option maxRecDepth 100000 in
theorem tr_isWord (l : Launch) (D : va_G) (cI cJ cZ : ClassId) (ad : Nat → Nat) (S : MS) (h0 : Nat) {q : Nat} {tx : Nat × (Nat → Int32)} (hC : sT tx)  {r1 : Int32} {S1 : MS} (h : fr_isWord S tx = some (r1, S1)) : mCiX l yX12_isWord (Cond.code yX12_isWord cX12_isWord 3 (some .boolean) :: wsM) 5 87 D cI cJ cZ ad S [.ref q] (xT1 cI cJ cZ h0 ad S tx q) (fun r S9 => r = r1 ∧ S9 = S1) := by
  intro sz
  refine Met.ofW (cc := cX12_isWord) (maxL := 3) (ret := (some .boolean)) (by decide) rfl ?_
  intro p e s m args below meth c s₁ B hml hv
  obtain ⟨rfl, ⟨hsz, hP, hK, hD0, hR⟩, ⟨hA1, hT⟩, hO⟩ := hv
  have hx := B.exec
  have hb := B.bytes
  have hr := B.returns
  have hts := atoms_spec (ws := (Cond.code yX12_isWord cX12_isWord 3 (some .boolean) :: wsM)) B.pre
  have hown : s.vm.findClass RX12 = some m.cls := findClass_of_methodNamed B.named
  have hlocks := B.notSynchronized
  subst hsz
  have hD := hD0.self (sz := s.heap.size)
  generalize hAe : va_A (MW cI cJ cZ ad S) s.heap.size = A at hD hA1 ⊢
  have hA : ∀ q : Nat, s.heap.size ≤ q → A q := fun q h => by rw [← hAe]; exact Or.inr h
  have G : mG D cI cJ cZ ad A s.heap s.heap [] S := ⟨hP, hD, va_S.rf⟩
  have E : mE p c cX12_isWord s m ([.ref (ad 0), .ref q] : List Value).toArray (Cond.code yX12_isWord cX12_isWord 3 (some .boolean) :: wsM) D cI cJ cZ := ⟨hx, hb, hts, hown, hK, fun w h => .tail _ (iM_x h)⟩
  have hA0 : ∀ a : Nat, A a → h0 ≤ a := hA1
  have hl := lv_entry ([.ref (ad 0), .ref q]) (n := 3) (Nat.le_of_ble_eq_true rfl)
  rw [lg_entry_eq]
  generalize (lg_sl ([.ref (ad 0), .ref q]) ++ List.replicate (3 - (lg_sl ([.ref (ad 0), .ref q])).length) Slot.unset).toArray = ls at hl ⊢
  have hl : lv_has ls 3 [(0, .ref (ad 0)), (1, .ref q)] := hl
  unfold fr_isWord at h
  refine lv_aload_n hx hb dX12_isWord_0 rfl (lv_at hl 0 rfl) ?_
  refine m_get E G 5 (v := .int (S.1 5)) (by decide) (.tail _ qM_38) rfl dX12_isWord_1 rfl ?_
  refine lv_topi (fun v2 ev2 => ?_)
  have h := elet_at ev2 h
  clear ev2
  refine lv_if_gt (tgt := 31) hx hb dX12_isWord_4 (by decide) (fun c3 => ?_) (fun c3 => ?_)
  · have h := oif_pos c3 h
    have hl := lv_sub hl [] rfl
    exact tr_isWord_b31 E hA hR hml hA0 hT hO hC (fun H locs ls gz G => W.zret (v := r1) hx hb hr (nar01 gz) (fun t ht hW => ⟨⟨r1, S1, rfl, ⟨rfl, rfl⟩, ⟨by rw [ht]; exact G.1, va_K.moved hW.alike hK, G.2.1⟩⟩, G.2.2.F ht⟩) G.2.2.2.2 dX12_isWord_32) (fun H locs ls gz G => W.zret (v := r1) hx hb hr (nar01 gz) (fun t ht hW => ⟨⟨r1, S1, rfl, ⟨rfl, rfl⟩, ⟨by rw [ht]; exact G.1, va_K.moved hW.alike hK, G.2.1⟩⟩, G.2.2.F ht⟩) G.2.2.2.2 dX12_isWord_63) (fun H locs ls gz G => W.zret (v := r1) hx hb hr (nar01 gz) (fun t ht hW => ⟨⟨r1, S1, rfl, ⟨rfl, rfl⟩, ⟨by rw [ht]; exact G.1, va_K.moved hW.alike hK, G.2.1⟩⟩, G.2.2.F ht⟩) G.2.2.2.2 dX12_isWord_71) _ _ _ _ h G hl
  · have h := oif_neg c3 h
    refine lv_aload_n hx hb dX12_isWord_7 rfl (lv_at hl 0 rfl) ?_
    refine m_get E G 7 (v := .int (S.1 7)) (by decide) (.tail _ qM_47) rfl dX12_isWord_8 rfl ?_
    refine lv_topi (fun v4 ev4 => ?_)
    have h := elet_at ev4 h
    clear ev4
    refine lv_iconst (v := 2) hx hb dX12_isWord_11 (by decide) ?_
    refine lv_icmp_ne (tgt := 31) hx hb dX12_isWord_12 (by decide) (fun c5 => ?_) (fun c5 => ?_)
    · have h := oif_neg c5 h
      have hl := lv_sub hl [] rfl
      exact tr_isWord_b31 E hA hR hml hA0 hT hO hC (fun H locs ls gz G => W.zret (v := r1) hx hb hr (nar01 gz) (fun t ht hW => ⟨⟨r1, S1, rfl, ⟨rfl, rfl⟩, ⟨by rw [ht]; exact G.1, va_K.moved hW.alike hK, G.2.1⟩⟩, G.2.2.F ht⟩) G.2.2.2.2 dX12_isWord_32) (fun H locs ls gz G => W.zret (v := r1) hx hb hr (nar01 gz) (fun t ht hW => ⟨⟨r1, S1, rfl, ⟨rfl, rfl⟩, ⟨by rw [ht]; exact G.1, va_K.moved hW.alike hK, G.2.1⟩⟩, G.2.2.F ht⟩) G.2.2.2.2 dX12_isWord_63) (fun H locs ls gz G => W.zret (v := r1) hx hb hr (nar01 gz) (fun t ht hW => ⟨⟨r1, S1, rfl, ⟨rfl, rfl⟩, ⟨by rw [ht]; exact G.1, va_K.moved hW.alike hK, G.2.1⟩⟩, G.2.2.F ht⟩) G.2.2.2.2 dX12_isWord_71) _ _ _ _ h G hl
    · have h := oif_pos c5 h
      refine lv_aload_n hx hb dX12_isWord_15 rfl (lv_at hl 0 rfl) ?_
      refine m_get E G 4 (v := .int (S.1 4)) (by decide) (.tail _ qM_46) rfl dX12_isWord_16 rfl ?_
      refine lv_topi (fun v6 ev6 => ?_)
      have h := elet_at ev6 h
      clear ev6
      refine lv_aload_n hx hb dX12_isWord_19 rfl (lv_at hl 0 rfl) ?_
      refine m_get E G 8 (v := .int (S.1 8)) (by decide) (.tail _ qM_43) rfl dX12_isWord_20 rfl ?_
      refine lv_topi (fun v7 ev7 => ?_)
      have h := elet_at ev7 h
      clear ev7
      refine lv_isub hx hb dX12_isWord_23 ?_
      refine lv_topi (fun v8 ev8 => ?_)
      have h := elet_at ev8 h
      clear ev8
      refine lv_aload_n hx hb dX12_isWord_24 rfl (lv_at hl 1 rfl) ?_
      refine s_callV (As := []) (rest := [.int v8]) ⟨hx, hb, hml, hown, hts⟩ (j_length l (tx := tx) (q := q)) (cwV 0 hts (gmV qM_58 qM_59 qM_60 qM_61 qM_62) rfl rfl rfl (by decide +kernel) ⟨Nat.le_of_ble_eq_true rfl, Nat.le_of_ble_eq_true rfl⟩) (sO.recv hO hA0 G.2.2) (fun _ _ _ _ h => h.blind) (sP.go hO hT.2 hA0 G.2.2) rfl hl.1 rfl (lv_room (Nat.le_of_ble_eq_true rfl)) dX12_isWord_25 ⟨Nat.zero_le _, Nat.zero_le _⟩ (fun r9 hq => ?_)
      refine lv_to hq ?_
      clear hq
      refine lv_topi (fun v10 ev10 => ?_)
      have h := elet_at ev10 h
      clear ev10
      refine lv_icmp_eq (tgt := 33) hx hb dX12_isWord_28 (by decide) (fun c11 => ?_) (fun c11 => ?_)
      · have h := oif_pos c11 h
        refine lv_iconst (v := 0) hx hb dX12_isWord_33 (by decide) ?_
        refine lv_istore_n (lv' := [(2, .int 0), (0, .ref (ad 0)), (1, .ref q)]) hx hb dX12_isWord_34 rfl hl (by decide) rfl (fun ls hl => ?_)
        have hl := lv_sub hl [1, 2, 0] rfl
        exact tr_isWord_b35 E hA hR hml hA0 hT hO hC (fun H locs ls gz G => W.zret (v := r1) hx hb hr (nar01 gz) (fun t ht hW => ⟨⟨r1, S1, rfl, ⟨rfl, rfl⟩, ⟨by rw [ht]; exact G.1, va_K.moved hW.alike hK, G.2.1⟩⟩, G.2.2.F ht⟩) G.2.2.2.2 dX12_isWord_32) (fun H locs ls gz G => W.zret (v := r1) hx hb hr (nar01 gz) (fun t ht hW => ⟨⟨r1, S1, rfl, ⟨rfl, rfl⟩, ⟨by rw [ht]; exact G.1, va_K.moved hW.alike hK, G.2.1⟩⟩, G.2.2.F ht⟩) G.2.2.2.2 dX12_isWord_63) (fun H locs ls gz G => W.zret (v := r1) hx hb hr (nar01 gz) (fun t ht hW => ⟨⟨r1, S1, rfl, ⟨rfl, rfl⟩, ⟨by rw [ht]; exact G.1, va_K.moved hW.alike hK, G.2.1⟩⟩, G.2.2.F ht⟩) G.2.2.2.2 dX12_isWord_71) _ _ _ _ _ _ h G hl
      · have h := oif_neg c11 h
        have hl := lv_sub hl [] rfl
        exact tr_isWord_b31 E hA hR hml hA0 hT hO hC (fun H locs ls gz G => W.zret (v := r1) hx hb hr (nar01 gz) (fun t ht hW => ⟨⟨r1, S1, rfl, ⟨rfl, rfl⟩, ⟨by rw [ht]; exact G.1, va_K.moved hW.alike hK, G.2.1⟩⟩, G.2.2.F ht⟩) G.2.2.2.2 dX12_isWord_32) (fun H locs ls gz G => W.zret (v := r1) hx hb hr (nar01 gz) (fun t ht hW => ⟨⟨r1, S1, rfl, ⟨rfl, rfl⟩, ⟨by rw [ht]; exact G.1, va_K.moved hW.alike hK, G.2.1⟩⟩, G.2.2.F ht⟩) G.2.2.2.2 dX12_isWord_63) (fun H locs ls gz G => W.zret (v := r1) hx hb hr (nar01 gz) (fun t ht hW => ⟨⟨r1, S1, rfl, ⟨rfl, rfl⟩, ⟨by rw [ht]; exact G.1, va_K.moved hW.alike hK, G.2.1⟩⟩, G.2.2.F ht⟩) G.2.2.2.2 dX12_isWord_71) _ _ _ _ h G hl
def fr_takes_b14 (tx : Nat × (Nat → Int32))  (S : MS) (l2 : Int32) : Option (Int32 × MS) := oif (l2 = 0 ∨ l2 = 1) <| some (l2, S)
set_option maxHeartbeats 4000000 in
set_option maxRecDepth 100000 in
theorem tr_takes_b14 {p : Program} {l : Launch} {e : Env} {s : State} {m : MethodId} {args : Array Value} {below : List Frame} {meth : Method} {c : Code} {Q : State → Prop} {D : va_G} {A : Nat → Prop} {cI cJ cZ : ClassId} {ad : Nat → Nat} {q : Nat} {tx : Nat × (Nat → Int32)} {r1 : Int32} {S1 : MS} (E : mE p c cX12_takes s m args (Cond.code yX12_takes cX12_takes 3 (some .boolean) :: wsM) D cI cJ cZ) (hA : ∀ q : Nat, s.heap.size ≤ q → A q) (hR : sR s) (hml : c.maxLocals = 3) {h0 : Nat} (hA0 : ∀ a : Nat, A a → h0 ≤ a) (hT : sAll h0 s) (hO : sO tx q (fun a => h0 ≤ a) s s.heap) (hC : sT tx) (kr15 : ∀ (H : Heap) (locs : List Loc) (ls : Array Slot), (r1 = 0 ∨ r1 = 1) → mG D cI cJ cZ ad A s.heap H locs S1 → W p l e { frames := 6, cells := 0, slots := 0, locals := 109 } s m args below meth c H locs 0 0 Q (F0 m 15 ls [.int r1])) : ∀ (S : MS) (H : Heap) (locs : List Loc) (ls : Array Slot) (l2 : Int32), fr_takes_b14 tx S l2 = some (r1, S1) → mG D cI cJ cZ ad A s.heap H locs S → lv_has ls 3 [(2, .int l2)] → W p l e { frames := 6, cells := 0, slots := 0, locals := 109 } s m args below meth c H locs 0 0 Q (F0 m 14 ls []) := by
  have hx := E.1
  have hb := E.2.1
  have hts := E.2.2.1
  have hown := E.2.2.2.1
  have hK := E.2.2.2.2.1
  intro S H locs ls l2 h G hl
  unfold fr_takes_b14 at h
  refine lv_iload_n hx hb dX12_takes_14 rfl (lv_at hl 0 rfl) ?_
  obtain ⟨gz, h⟩ := oif_some h
  have gr : r1 = 0 ∨ r1 = 1 := by rw [← (osome2 h).1]; exact gz
  rw [(osome2 h).2] at G
  refine lv_to (osome2 h).1 ?_
  exact kr15 _ _ _ gr G
def fr_takes (S : MS) (tx : Nat × (Nat → Int32))  : Option (Int32 × MS) := obind2 (fr_isWord S tx) fun r5 S2 => if r5 = 0 then (fr_takes_b14 tx S2 r5) else (obind (fr_nextToken S2) fun S7 => fr_takes_b14 tx S7 r5)
set_option maxHeartbeats 4000000 in
set_option maxRecDepth 100000 in
theorem tr_takes (l : Launch) (D : va_G) (cI cJ cZ : ClassId) (ad : Nat → Nat) (S : MS) (h0 : Nat) {q : Nat} {tx : Nat × (Nat → Int32)} (hC : sT tx)  {r1 : Int32} {S1 : MS} (h : fr_takes S tx = some (r1, S1)) : mCiX l yX12_takes (Cond.code yX12_takes cX12_takes 3 (some .boolean) :: wsM) 6 109 D cI cJ cZ ad S [.ref q] (xT1 cI cJ cZ h0 ad S tx q) (fun r S9 => r = r1 ∧ S9 = S1) := by
  intro sz
  refine Met.ofW (cc := cX12_takes) (maxL := 3) (ret := (some .boolean)) (by decide) rfl ?_
  intro p e s m args below meth c s₁ B hml hv
  obtain ⟨rfl, ⟨hsz, hP, hK, hD0, hR⟩, ⟨hA1, hT⟩, hO⟩ := hv
  have hx := B.exec
  have hb := B.bytes
  have hr := B.returns
  have hts := atoms_spec (ws := (Cond.code yX12_takes cX12_takes 3 (some .boolean) :: wsM)) B.pre
  have hown : s.vm.findClass RX12 = some m.cls := findClass_of_methodNamed B.named
  have hlocks := B.notSynchronized
  subst hsz
  have hD := hD0.self (sz := s.heap.size)
  generalize hAe : va_A (MW cI cJ cZ ad S) s.heap.size = A at hD hA1 ⊢
  have hA : ∀ q : Nat, s.heap.size ≤ q → A q := fun q h => by rw [← hAe]; exact Or.inr h
  have G : mG D cI cJ cZ ad A s.heap s.heap [] S := ⟨hP, hD, va_S.rf⟩
  have E : mE p c cX12_takes s m ([.ref (ad 0), .ref q] : List Value).toArray (Cond.code yX12_takes cX12_takes 3 (some .boolean) :: wsM) D cI cJ cZ := ⟨hx, hb, hts, hown, hK, fun w h => .tail _ (iM_x h)⟩
  have hA0 : ∀ a : Nat, A a → h0 ≤ a := hA1
  have hl := lv_entry ([.ref (ad 0), .ref q]) (n := 3) (Nat.le_of_ble_eq_true rfl)
  rw [lg_entry_eq]
  generalize (lg_sl ([.ref (ad 0), .ref q]) ++ List.replicate (3 - (lg_sl ([.ref (ad 0), .ref q])).length) Slot.unset).toArray = ls at hl ⊢
  have hl : lv_has ls 3 [(0, .ref (ad 0)), (1, .ref q)] := hl
  unfold fr_takes at h
  refine lv_aload_n hx hb dX12_takes_0 rfl (lv_at hl 0 rfl) ?_
  refine lv_aload_n hx hb dX12_takes_1 rfl (lv_at hl 1 rfl) ?_
  obtain ⟨r5, S2, eS2, h⟩ := obind2_some h
  refine m_calliX (As := [.ref q]) (rest := []) E G hA hR hml (tr_isWord l D cI cJ cZ ad S h0 (q := q) hC eS2) (cwV 1 hts (gmV qM_108 qM_109 qM_110 qM_35 qM_57) rfl rfl rfl (by decide +kernel) ⟨Nat.le_of_ble_eq_true rfl, Nat.le_of_ble_eq_true rfl⟩) rfl hl.1 rfl (lv_room (Nat.le_of_ble_eq_true rfl)) dX12_takes_2 ⟨Nat.zero_le _, Nat.zero_le _⟩ (xT1.blind) (xT1.go hT hA0 hA G hO) (fun q3 S4 H locs hq G => ?_)
  obtain ⟨hq1, hq2⟩ := hq
  rw [hq2] at G
  refine lv_to hq1 ?_
  clear hq1 hq2 eS2
  refine lv_istore_n (lv' := [(2, .int r5), (0, .ref (ad 0)), (1, .ref q)]) hx hb dX12_takes_5 rfl hl (by decide) rfl (fun ls hl => ?_)
  refine lv_iload_n hx hb dX12_takes_6 rfl (lv_at hl 0 rfl) ?_
  refine lv_if_eq (tgt := 14) hx hb dX12_takes_7 (by decide) (fun c6 => ?_) (fun c6 => ?_)
  · have h := oif_pos c6 h
    have hl := lv_sub hl [0] rfl
    exact tr_takes_b14 E hA hR hml hA0 hT hO hC (fun H locs ls gz G => W.zret (v := r1) hx hb hr (nar01 gz) (fun t ht hW => ⟨⟨r1, S1, rfl, ⟨rfl, rfl⟩, ⟨by rw [ht]; exact G.1, va_K.moved hW.alike hK, G.2.1⟩⟩, G.2.2.F ht⟩) G.2.2.2.2 dX12_takes_15) _ _ _ _ _ h G hl
  · have h := oif_neg c6 h
    refine lv_aload_n hx hb dX12_takes_10 rfl (lv_at hl 1 rfl) ?_
    obtain ⟨S7, eS7, h⟩ := obind_some h
    refine m_callv (As := []) (rest := []) E G hA hR hml (tr_nextToken l D cI cJ cZ ad S2 eS7) (cwV 0 hts (gmV qM_111 qM_112 qM_113 qM_35 qM_45) rfl rfl rfl (by decide +kernel) ⟨Nat.le_of_ble_eq_true rfl, Nat.le_of_ble_eq_true rfl⟩) rfl hl.1 rfl (lv_room (Nat.le_of_ble_eq_true rfl)) dX12_takes_11 ⟨Nat.zero_le _, Nat.zero_le _⟩ (fun S9 H locs hq G => ?_)
    rw [hq] at G
    clear hq eS7
    have hl := lv_sub hl [0] rfl
    exact tr_takes_b14 E hA hR hml hA0 hT hO hC (fun H locs ls gz G => W.zret (v := r1) hx hb hr (nar01 gz) (fun t ht hW => ⟨⟨r1, S1, rfl, ⟨rfl, rfl⟩, ⟨by rw [ht]; exact G.1, va_K.moved hW.alike hK, G.2.1⟩⟩, G.2.2.F ht⟩) G.2.2.2.2 dX12_takes_15) _ _ _ _ _ h G hl
def fr_keyword_b13 (tx : Nat × (Nat → Int32))  (S : MS)  : Option (MS) := some S
set_option maxHeartbeats 4000000 in
set_option maxRecDepth 100000 in
theorem tr_keyword_b13 {p : Program} {l : Launch} {e : Env} {s : State} {m : MethodId} {args : Array Value} {below : List Frame} {meth : Method} {c : Code} {Q : State → Prop} {D : va_G} {A : Nat → Prop} {cI cJ cZ : ClassId} {ad : Nat → Nat} {q : Nat} {tx : Nat × (Nat → Int32)} {S1 : MS} (E : mE p c cX12_keyword s m args (Cond.code yX12_keyword cX12_keyword 2 none :: wsM) D cI cJ cZ) (hA : ∀ q : Nat, s.heap.size ≤ q → A q) (hR : sR s) (hml : c.maxLocals = 2) {h0 : Nat} (hA0 : ∀ a : Nat, A a → h0 ≤ a) (hT : sAll h0 s) (hO : sO tx q (fun a => h0 ≤ a) s s.heap) (hC : sT tx) (kr13 : ∀ (H : Heap) (locs : List Loc) (ls : Array Slot), mG D cI cJ cZ ad A s.heap H locs S1 → W p l e { frames := 7, cells := 0, slots := 0, locals := 131 } s m args below meth c H locs 0 0 Q (F0 m 13 ls [])) : ∀ (S : MS) (H : Heap) (locs : List Loc) (ls : Array Slot), fr_keyword_b13 tx S = some S1 → mG D cI cJ cZ ad A s.heap H locs S → lv_has ls 2 [] → W p l e { frames := 7, cells := 0, slots := 0, locals := 131 } s m args below meth c H locs 0 0 Q (F0 m 13 ls []) := by
  have hx := E.1
  have hb := E.2.1
  have hts := E.2.2.1
  have hown := E.2.2.2.1
  have hK := E.2.2.2.2.1
  intro S H locs ls h G hl
  unfold fr_keyword_b13 at h
  rw [osome1 h] at G
  exact kr13 _ _ _ G
def fr_keyword (S : MS) (tx : Nat × (Nat → Int32))  : Option (MS) := obind2 (fr_takes S tx) fun r5 S2 => if r5 = 0 then (obind (fr_faults S2 1) fun S7 => fr_keyword_b13 tx S7) else (fr_keyword_b13 tx S2)
set_option maxHeartbeats 4000000 in
set_option maxRecDepth 100000 in
theorem tr_keyword (l : Launch) (D : va_G) (cI cJ cZ : ClassId) (ad : Nat → Nat) (S : MS) (h0 : Nat) {q : Nat} {tx : Nat × (Nat → Int32)} (hC : sT tx)  {S1 : MS} (h : fr_keyword S tx = some S1) : mCvX l yX12_keyword (Cond.code yX12_keyword cX12_keyword 2 none :: wsM) 7 131 D cI cJ cZ ad S [.ref q] (xT1 cI cJ cZ h0 ad S tx q) (fun S9 => S9 = S1) := by
  intro sz
  refine Met.ofW (cc := cX12_keyword) (maxL := 2) (ret := none) (by decide) rfl ?_
  intro p e s m args below meth c s₁ B hml hv
  obtain ⟨rfl, ⟨hsz, hP, hK, hD0, hR⟩, ⟨hA1, hT⟩, hO⟩ := hv
  have hx := B.exec
  have hb := B.bytes
  have hr := B.returns
  have hts := atoms_spec (ws := (Cond.code yX12_keyword cX12_keyword 2 none :: wsM)) B.pre
  have hown : s.vm.findClass RX12 = some m.cls := findClass_of_methodNamed B.named
  have hlocks := B.notSynchronized
  subst hsz
  have hD := hD0.self (sz := s.heap.size)
  generalize hAe : va_A (MW cI cJ cZ ad S) s.heap.size = A at hD hA1 ⊢
  have hA : ∀ q : Nat, s.heap.size ≤ q → A q := fun q h => by rw [← hAe]; exact Or.inr h
  have G : mG D cI cJ cZ ad A s.heap s.heap [] S := ⟨hP, hD, va_S.rf⟩
  have E : mE p c cX12_keyword s m ([.ref (ad 0), .ref q] : List Value).toArray (Cond.code yX12_keyword cX12_keyword 2 none :: wsM) D cI cJ cZ := ⟨hx, hb, hts, hown, hK, fun w h => .tail _ (iM_x h)⟩
  have hA0 : ∀ a : Nat, A a → h0 ≤ a := hA1
  have hl := lv_entry ([.ref (ad 0), .ref q]) (n := 2) (Nat.le_of_ble_eq_true rfl)
  rw [lg_entry_eq]
  generalize (lg_sl ([.ref (ad 0), .ref q]) ++ List.replicate (2 - (lg_sl ([.ref (ad 0), .ref q])).length) Slot.unset).toArray = ls at hl ⊢
  have hl : lv_has ls 2 [(0, .ref (ad 0)), (1, .ref q)] := hl
  unfold fr_keyword at h
  refine lv_aload_n hx hb dX12_keyword_0 rfl (lv_at hl 0 rfl) ?_
  refine lv_aload_n hx hb dX12_keyword_1 rfl (lv_at hl 1 rfl) ?_
  obtain ⟨r5, S2, eS2, h⟩ := obind2_some h
  refine m_calliX (As := [.ref q]) (rest := []) E G hA hR hml (tr_takes l D cI cJ cZ ad S h0 (q := q) hC eS2) (cwV 1 hts (gmV qM_115 qM_116 qM_117 qM_35 qM_107) rfl rfl rfl (by decide +kernel) ⟨Nat.le_of_ble_eq_true rfl, Nat.le_of_ble_eq_true rfl⟩) rfl hl.1 rfl (lv_room (Nat.le_of_ble_eq_true rfl)) dX12_keyword_2 ⟨Nat.zero_le _, Nat.zero_le _⟩ (xT1.blind) (xT1.go hT hA0 hA G hO) (fun q3 S4 H locs hq G => ?_)
  obtain ⟨hq1, hq2⟩ := hq
  rw [hq2] at G
  refine lv_to hq1 ?_
  clear hq1 hq2 eS2
  refine lv_if_ne (tgt := 13) hx hb dX12_keyword_5 (by decide) (fun c6 => ?_) (fun c6 => ?_)
  · have h := oif_neg c6 h
    have hl := lv_sub hl [] rfl
    exact tr_keyword_b13 E hA hR hml hA0 hT hO hC (fun H locs ls G => W.vret hx hb hr (fun t ht hW => ⟨⟨S1, rfl, rfl, ⟨by rw [ht]; exact G.1, va_K.moved hW.alike hK, G.2.1⟩⟩, G.2.2.F ht⟩) G.2.2.2.2 dX12_keyword_13) _ _ _ _ h G hl
  · have h := oif_pos c6 h
    refine lv_aload_n hx hb dX12_keyword_8 rfl (lv_at hl 0 rfl) ?_
    refine lv_iconst (v := 1) hx hb dX12_keyword_9 (by decide) ?_
    obtain ⟨S7, eS7, h⟩ := obind_some h
    refine m_callv (As := [.int 1]) (rest := []) E G hA hR hml (tr_faults l D cI cJ cZ ad S2 1 eS7) (cwV 1 hts (gmV qM_118 qM_119 qM_120 qM_35 qM_42) rfl rfl rfl (by decide +kernel) ⟨Nat.le_of_ble_eq_true rfl, Nat.le_of_ble_eq_true rfl⟩) rfl hl.1 rfl (lv_room (Nat.le_of_ble_eq_true rfl)) dX12_keyword_10 ⟨Nat.zero_le _, Nat.zero_le _⟩ (fun S9 H locs hq G => ?_)
    rw [hq] at G
    clear hq eS7
    have hl := lv_sub hl [] rfl
    exact tr_keyword_b13 E hA hR hml hA0 hT hO hC (fun H locs ls G => W.vret hx hb hr (fun t ht hW => ⟨⟨S1, rfl, rfl, ⟨by rw [ht]; exact G.1, va_K.moved hW.alike hK, G.2.1⟩⟩, G.2.2.F ht⟩) G.2.2.2.2 dX12_keyword_13) _ _ _ _ h G hl
def fr_look_b57  (S : MS) (s0 : Int32) : Option (Int32 × MS) := some (s0, S)
set_option maxHeartbeats 4000000 in
set_option maxRecDepth 100000 in
theorem tr_look_b57 {p : Program} {l : Launch} {e : Env} {s : State} {m : MethodId} {args : Array Value} {below : List Frame} {meth : Method} {c : Code} {Q : State → Prop} {D : va_G} {A : Nat → Prop} {H0 : Heap} {cI cJ cZ : ClassId} {ad : Nat → Nat} {r1 : Int32} {S1 : MS} (E : mE p c cX12_look s m args (Cond.code yX12_look cX12_look 3 (some .int) :: wsM) D cI cJ cZ) (hA : ∀ q : Nat, H0.size ≤ q → A q) (hR : sR s) (hml : c.maxLocals = 3) (kr8 : ∀ (H : Heap) (locs : List Loc) (ls : Array Slot), mG D cI cJ cZ ad A H0 H locs S1 → W p l e { frames := 2, cells := 0, slots := 0, locals := 22 } s m args below meth c H locs 0 0 Q (F0 m 8 ls [.int r1])) (kr57 : ∀ (H : Heap) (locs : List Loc) (ls : Array Slot), mG D cI cJ cZ ad A H0 H locs S1 → W p l e { frames := 2, cells := 0, slots := 0, locals := 22 } s m args below meth c H locs 0 0 Q (F0 m 57 ls [.int r1])) : ∀ (S : MS) (H : Heap) (locs : List Loc) (ls : Array Slot) (s0 : Int32), fr_look_b57 S s0 = some (r1, S1) → mG D cI cJ cZ ad A H0 H locs S → lv_has ls 3 [] → W p l e { frames := 2, cells := 0, slots := 0, locals := 22 } s m args below meth c H locs 0 0 Q (F0 m 57 ls [.int s0]) := by
  have hx := E.1
  have hb := E.2.1
  have hts := E.2.2.1
  have hown := E.2.2.2.1
  have hK := E.2.2.2.2.1
  intro S H locs ls s0 h G hl
  unfold fr_look_b57 at h
  rw [(osome2 h).2] at G
  refine lv_to (osome2 h).1 ?_
  exact kr57 _ _ _ G
def fr_look_b42  (S : MS) (l1 : Int32) : Option (Int32 × MS) := elet (S.1 5) fun v2 => if v2 ≤ 0 then (elet (S.1 9) fun v4 => fr_look_b57 S v4) else (fr_look_b57 S l1)
set_option maxHeartbeats 4000000 in
set_option maxRecDepth 100000 in
theorem tr_look_b42 {p : Program} {l : Launch} {e : Env} {s : State} {m : MethodId} {args : Array Value} {below : List Frame} {meth : Method} {c : Code} {Q : State → Prop} {D : va_G} {A : Nat → Prop} {H0 : Heap} {cI cJ cZ : ClassId} {ad : Nat → Nat} {r1 : Int32} {S1 : MS} (E : mE p c cX12_look s m args (Cond.code yX12_look cX12_look 3 (some .int) :: wsM) D cI cJ cZ) (hA : ∀ q : Nat, H0.size ≤ q → A q) (hR : sR s) (hml : c.maxLocals = 3) (kr8 : ∀ (H : Heap) (locs : List Loc) (ls : Array Slot), mG D cI cJ cZ ad A H0 H locs S1 → W p l e { frames := 2, cells := 0, slots := 0, locals := 22 } s m args below meth c H locs 0 0 Q (F0 m 8 ls [.int r1])) (kr57 : ∀ (H : Heap) (locs : List Loc) (ls : Array Slot), mG D cI cJ cZ ad A H0 H locs S1 → W p l e { frames := 2, cells := 0, slots := 0, locals := 22 } s m args below meth c H locs 0 0 Q (F0 m 57 ls [.int r1])) : ∀ (S : MS) (H : Heap) (locs : List Loc) (ls : Array Slot) (l1 : Int32), fr_look_b42 S l1 = some (r1, S1) → mG D cI cJ cZ ad A H0 H locs S → lv_has ls 3 [(0, .ref (ad 0)), (1, .int l1)] → W p l e { frames := 2, cells := 0, slots := 0, locals := 22 } s m args below meth c H locs 0 0 Q (F0 m 42 ls []) := by
  have hx := E.1
  have hb := E.2.1
  have hts := E.2.2.1
  have hown := E.2.2.2.1
  have hK := E.2.2.2.2.1
  intro S H locs ls l1 h G hl
  unfold fr_look_b42 at h
  refine lv_aload_n hx hb dX12_look_42 rfl (lv_at hl 0 rfl) ?_
  refine m_get E G 5 (v := .int (S.1 5)) (by decide) (.tail _ qM_38) rfl dX12_look_43 rfl ?_
  refine lv_topi (fun v2 ev2 => ?_)
  have h := elet_at ev2 h
  clear ev2
  refine lv_if_le (tgt := 53) hx hb dX12_look_46 (by decide) (fun c3 => ?_) (fun c3 => ?_)
  · have h := oif_pos c3 h
    refine lv_aload_n hx hb dX12_look_53 rfl (lv_at hl 0 rfl) ?_
    refine m_get E G 9 (v := .int (S.1 9)) (by decide) (.tail _ qM_48) rfl dX12_look_54 rfl ?_
    refine lv_topi (fun v4 ev4 => ?_)
    have h := elet_at ev4 h
    clear ev4
    have hl := lv_sub hl [] rfl
    exact tr_look_b57 E hA hR hml kr8 kr57 _ _ _ _ _ h G hl
  · have h := oif_neg c3 h
    refine lv_iload_n hx hb dX12_look_49 rfl (lv_at hl 1 rfl) ?_
    refine lv_goto (tgt := 57) hx hb dX12_look_50 (by decide) ?_
    have hl := lv_sub hl [] rfl
    exact tr_look_b57 E hA hR hml kr8 kr57 _ _ _ _ _ h G hl
def fr_look (S : MS) (a0 : Int32) (a1 : Int32) : Option (Int32 × MS) := elet (S.1 5) fun v2 => if v2 ≤ 0 then (elet (S.1 7) fun v4 => if v4 = 3 then (elet (S.1 9) fun v6 => obind (fr_in v6 a0 a1) fun r7 => if r7 = 0 then (obind (fr_faults S 2) fun S10 => fr_look_b42 S10 a0) else (fr_look_b42 S a0)) else (obind (fr_faults S 1) fun S13 => fr_look_b42 S13 a0)) else (some (a0, S))
set_option maxHeartbeats 4000000 in
set_option maxRecDepth 100000 in
theorem tr_look (l : Launch) (D : va_G) (cI cJ cZ : ClassId) (ad : Nat → Nat) (S : MS) (a0 : Int32) (a1 : Int32) {r1 : Int32} {S1 : MS} (h : fr_look S a0 a1 = some (r1, S1)) : mCi l yX12_look (Cond.code yX12_look cX12_look 3 (some .int) :: wsM) 2 22 D cI cJ cZ ad S [.int a0, .int a1] (fun r S9 => r = r1 ∧ S9 = S1) := by
  intro sz
  refine Met.ofW (cc := cX12_look) (maxL := 3) (ret := (some .int)) (by decide) rfl ?_
  intro p e s m args below meth c s₁ B hml hv
  obtain ⟨rfl, hsz, hP, hK, hD0, hR⟩ := hv
  have hx := B.exec
  have hb := B.bytes
  have hr := B.returns
  have hts := atoms_spec (ws := (Cond.code yX12_look cX12_look 3 (some .int) :: wsM)) B.pre
  have hown : s.vm.findClass RX12 = some m.cls := findClass_of_methodNamed B.named
  have hlocks := B.notSynchronized
  subst hsz
  have hD := hD0.self (sz := s.heap.size)
  generalize hAe : va_A (MW cI cJ cZ ad S) s.heap.size = A at hD ⊢
  have hA : ∀ q : Nat, s.heap.size ≤ q → A q := fun q h => by rw [← hAe]; exact Or.inr h
  have G : mG D cI cJ cZ ad A s.heap s.heap [] S := ⟨hP, hD, va_S.rf⟩
  have E : mE p c cX12_look s m ([.ref (ad 0), .int a0, .int a1] : List Value).toArray (Cond.code yX12_look cX12_look 3 (some .int) :: wsM) D cI cJ cZ := ⟨hx, hb, hts, hown, hK, fun w h => .tail _ (iM_x h)⟩
  have hl := lv_entry ([.ref (ad 0), .int a0, .int a1]) (n := 3) (Nat.le_of_ble_eq_true rfl)
  rw [lg_entry_eq]
  generalize (lg_sl ([.ref (ad 0), .int a0, .int a1]) ++ List.replicate (3 - (lg_sl ([.ref (ad 0), .int a0, .int a1])).length) Slot.unset).toArray = ls at hl ⊢
  have hl : lv_has ls 3 [(0, .ref (ad 0)), (1, .int a0), (2, .int a1)] := hl
  unfold fr_look at h
  refine lv_aload_n hx hb dX12_look_0 rfl (lv_at hl 0 rfl) ?_
  refine m_get E G 5 (v := .int (S.1 5)) (by decide) (.tail _ qM_38) rfl dX12_look_1 rfl ?_
  refine lv_topi (fun v2 ev2 => ?_)
  have h := elet_at ev2 h
  clear ev2
  refine lv_if_le (tgt := 9) hx hb dX12_look_4 (by decide) (fun c3 => ?_) (fun c3 => ?_)
  · have h := oif_pos c3 h
    refine lv_aload_n hx hb dX12_look_9 rfl (lv_at hl 0 rfl) ?_
    refine m_get E G 7 (v := .int (S.1 7)) (by decide) (.tail _ qM_47) rfl dX12_look_10 rfl ?_
    refine lv_topi (fun v4 ev4 => ?_)
    have h := elet_at ev4 h
    clear ev4
    refine lv_iconst (v := 3) hx hb dX12_look_13 (by decide) ?_
    refine lv_icmp_eq (tgt := 25) hx hb dX12_look_14 (by decide) (fun c5 => ?_) (fun c5 => ?_)
    · have h := oif_pos c5 h
      refine lv_aload_n hx hb dX12_look_25 rfl (lv_at hl 0 rfl) ?_
      refine m_get E G 9 (v := .int (S.1 9)) (by decide) (.tail _ qM_48) rfl dX12_look_26 rfl ?_
      refine lv_topi (fun v6 ev6 => ?_)
      have h := elet_at ev6 h
      clear ev6
      refine lv_iload_n hx hb dX12_look_29 rfl (lv_at hl 1 rfl) ?_
      refine lv_iload_n hx hb dX12_look_30 rfl (lv_at hl 2 rfl) ?_
      obtain ⟨r7, er7, h⟩ := obind_some h
      refine m_stat (As := [.int v6, .int a0, .int a1]) (rest := []) ⟨hx, hb, hml, hown, hts⟩ (tr_in l v6 a0 a1 er7) (cwS 3 hts (gmS qM_52 qM_53 qM_35 qM_27) rfl rfl rfl (by decide +kernel) ⟨Nat.le_of_ble_eq_true rfl, Nat.le_of_ble_eq_true rfl⟩) rfl hl.1 rfl (lv_room (Nat.le_of_ble_eq_true rfl)) dX12_look_31 ⟨Nat.zero_le _, Nat.zero_le _⟩ (fun q8 hq => ?_)
      refine lv_to hq ?_
      clear hq er7
      refine lv_if_ne (tgt := 42) hx hb dX12_look_34 (by decide) (fun c9 => ?_) (fun c9 => ?_)
      · have h := oif_neg c9 h
        have hl := lv_sub hl [0, 1] rfl
        exact tr_look_b42 E hA hR hml (fun H locs ls G => W.iret (v := r1) hx hb hr (fun t ht hW => ⟨⟨r1, S1, rfl, ⟨rfl, rfl⟩, ⟨by rw [ht]; exact G.1, va_K.moved hW.alike hK, G.2.1⟩⟩, G.2.2.F ht⟩) G.2.2.2.2 dX12_look_8) (fun H locs ls G => W.iret (v := r1) hx hb hr (fun t ht hW => ⟨⟨r1, S1, rfl, ⟨rfl, rfl⟩, ⟨by rw [ht]; exact G.1, va_K.moved hW.alike hK, G.2.1⟩⟩, G.2.2.F ht⟩) G.2.2.2.2 dX12_look_57) _ _ _ _ _ h G hl
      · have h := oif_pos c9 h
        refine lv_aload_n hx hb dX12_look_37 rfl (lv_at hl 0 rfl) ?_
        refine lv_iconst (v := 2) hx hb dX12_look_38 (by decide) ?_
        obtain ⟨S10, eS10, h⟩ := obind_some h
        refine m_callv (As := [.int 2]) (rest := []) E G hA hR hml (tr_faults l D cI cJ cZ ad S 2 eS10) (cwV 1 hts (gmV qM_118 qM_119 qM_120 qM_35 qM_42) rfl rfl rfl (by decide +kernel) ⟨Nat.le_of_ble_eq_true rfl, Nat.le_of_ble_eq_true rfl⟩) rfl hl.1 rfl (lv_room (Nat.le_of_ble_eq_true rfl)) dX12_look_39 ⟨Nat.zero_le _, Nat.zero_le _⟩ (fun S12 H locs hq G => ?_)
        rw [hq] at G
        clear hq eS10
        have hl := lv_sub hl [0, 1] rfl
        exact tr_look_b42 E hA hR hml (fun H locs ls G => W.iret (v := r1) hx hb hr (fun t ht hW => ⟨⟨r1, S1, rfl, ⟨rfl, rfl⟩, ⟨by rw [ht]; exact G.1, va_K.moved hW.alike hK, G.2.1⟩⟩, G.2.2.F ht⟩) G.2.2.2.2 dX12_look_8) (fun H locs ls G => W.iret (v := r1) hx hb hr (fun t ht hW => ⟨⟨r1, S1, rfl, ⟨rfl, rfl⟩, ⟨by rw [ht]; exact G.1, va_K.moved hW.alike hK, G.2.1⟩⟩, G.2.2.F ht⟩) G.2.2.2.2 dX12_look_57) _ _ _ _ _ h G hl
    · have h := oif_neg c5 h
      refine lv_aload_n hx hb dX12_look_17 rfl (lv_at hl 0 rfl) ?_
      refine lv_iconst (v := 1) hx hb dX12_look_18 (by decide) ?_
      obtain ⟨S13, eS13, h⟩ := obind_some h
      refine m_callv (As := [.int 1]) (rest := []) E G hA hR hml (tr_faults l D cI cJ cZ ad S 1 eS13) (cwV 1 hts (gmV qM_118 qM_119 qM_120 qM_35 qM_42) rfl rfl rfl (by decide +kernel) ⟨Nat.le_of_ble_eq_true rfl, Nat.le_of_ble_eq_true rfl⟩) rfl hl.1 rfl (lv_room (Nat.le_of_ble_eq_true rfl)) dX12_look_19 ⟨Nat.zero_le _, Nat.zero_le _⟩ (fun S15 H locs hq G => ?_)
      rw [hq] at G
      clear hq eS13
      refine lv_goto (tgt := 42) hx hb dX12_look_22 (by decide) ?_
      have hl := lv_sub hl [0, 1] rfl
      exact tr_look_b42 E hA hR hml (fun H locs ls G => W.iret (v := r1) hx hb hr (fun t ht hW => ⟨⟨r1, S1, rfl, ⟨rfl, rfl⟩, ⟨by rw [ht]; exact G.1, va_K.moved hW.alike hK, G.2.1⟩⟩, G.2.2.F ht⟩) G.2.2.2.2 dX12_look_8) (fun H locs ls G => W.iret (v := r1) hx hb hr (fun t ht hW => ⟨⟨r1, S1, rfl, ⟨rfl, rfl⟩, ⟨by rw [ht]; exact G.1, va_K.moved hW.alike hK, G.2.1⟩⟩, G.2.2.F ht⟩) G.2.2.2.2 dX12_look_57) _ _ _ _ _ h G hl
  · have h := oif_neg c3 h
    refine lv_iload_n hx hb dX12_look_7 rfl (lv_at hl 1 rfl) ?_
    exact W.iret (v := a0) hx hb hr (fun t ht hW => ⟨⟨a0, S, rfl, osome2 h, ⟨by rw [ht]; exact G.1, va_K.moved hW.alike hK, G.2.1⟩⟩, G.2.2.F ht⟩) G.2.2.2.2 dX12_look_8
def fr_number (S : MS) (a0 : Int32) (a1 : Int32) : Option (Int32 × MS) := obind2 (fr_look S a0 a1) fun r5 S2 => obind (fr_nextToken S2) fun S6 => some (r5, S6)
set_option maxHeartbeats 4000000 in
set_option maxRecDepth 100000 in
theorem tr_number (l : Launch) (D : va_G) (cI cJ cZ : ClassId) (ad : Nat → Nat) (S : MS) (a0 : Int32) (a1 : Int32) {r1 : Int32} {S1 : MS} (h : fr_number S a0 a1 = some (r1, S1)) : mCi l yX12_number (Cond.code yX12_number cX12_number 4 (some .int) :: wsM) 3 44 D cI cJ cZ ad S [.int a0, .int a1] (fun r S9 => r = r1 ∧ S9 = S1) := by
  intro sz
  refine Met.ofW (cc := cX12_number) (maxL := 4) (ret := (some .int)) (by decide) rfl ?_
  intro p e s m args below meth c s₁ B hml hv
  obtain ⟨rfl, hsz, hP, hK, hD0, hR⟩ := hv
  have hx := B.exec
  have hb := B.bytes
  have hr := B.returns
  have hts := atoms_spec (ws := (Cond.code yX12_number cX12_number 4 (some .int) :: wsM)) B.pre
  have hown : s.vm.findClass RX12 = some m.cls := findClass_of_methodNamed B.named
  have hlocks := B.notSynchronized
  subst hsz
  have hD := hD0.self (sz := s.heap.size)
  generalize hAe : va_A (MW cI cJ cZ ad S) s.heap.size = A at hD ⊢
  have hA : ∀ q : Nat, s.heap.size ≤ q → A q := fun q h => by rw [← hAe]; exact Or.inr h
  have G : mG D cI cJ cZ ad A s.heap s.heap [] S := ⟨hP, hD, va_S.rf⟩
  have E : mE p c cX12_number s m ([.ref (ad 0), .int a0, .int a1] : List Value).toArray (Cond.code yX12_number cX12_number 4 (some .int) :: wsM) D cI cJ cZ := ⟨hx, hb, hts, hown, hK, fun w h => .tail _ (iM_x h)⟩
  have hl := lv_entry ([.ref (ad 0), .int a0, .int a1]) (n := 4) (Nat.le_of_ble_eq_true rfl)
  rw [lg_entry_eq]
  generalize (lg_sl ([.ref (ad 0), .int a0, .int a1]) ++ List.replicate (4 - (lg_sl ([.ref (ad 0), .int a0, .int a1])).length) Slot.unset).toArray = ls at hl ⊢
  have hl : lv_has ls 4 [(0, .ref (ad 0)), (1, .int a0), (2, .int a1)] := hl
  unfold fr_number at h
  refine lv_aload_n hx hb dX12_number_0 rfl (lv_at hl 0 rfl) ?_
  refine lv_iload_n hx hb dX12_number_1 rfl (lv_at hl 1 rfl) ?_
  refine lv_iload_n hx hb dX12_number_2 rfl (lv_at hl 2 rfl) ?_
  obtain ⟨r5, S2, eS2, h⟩ := obind2_some h
  refine m_calli (As := [.int a0, .int a1]) (rest := []) E G hA hR hml (tr_look l D cI cJ cZ ad S a0 a1 eS2) (cwV 2 hts (gmV qM_123 qM_124 qM_125 qM_35 qM_121) rfl rfl rfl (by decide +kernel) ⟨Nat.le_of_ble_eq_true rfl, Nat.le_of_ble_eq_true rfl⟩) rfl hl.1 rfl (lv_room (Nat.le_of_ble_eq_true rfl)) dX12_number_3 ⟨Nat.zero_le _, Nat.zero_le _⟩ (fun q3 S4 H locs hq G => ?_)
  obtain ⟨hq1, hq2⟩ := hq
  rw [hq2] at G
  refine lv_to hq1 ?_
  clear hq1 hq2 eS2
  refine lv_istore_n (lv' := [(3, .int r5), (0, .ref (ad 0)), (1, .int a0), (2, .int a1)]) hx hb dX12_number_6 rfl hl (by decide) rfl (fun ls hl => ?_)
  refine lv_aload_n hx hb dX12_number_7 rfl (lv_at hl 1 rfl) ?_
  obtain ⟨S6, eS6, h⟩ := obind_some h
  refine m_callv (As := []) (rest := []) E G hA hR hml (tr_nextToken l D cI cJ cZ ad S2 eS6) (cwV 0 hts (gmV qM_111 qM_112 qM_113 qM_35 qM_45) rfl rfl rfl (by decide +kernel) ⟨Nat.le_of_ble_eq_true rfl, Nat.le_of_ble_eq_true rfl⟩) rfl hl.1 rfl (lv_room (Nat.le_of_ble_eq_true rfl)) dX12_number_8 ⟨Nat.zero_le _, Nat.zero_le _⟩ (fun S8 H locs hq G => ?_)
  rw [hq] at G
  clear hq eS6
  refine lv_iload_n hx hb dX12_number_11 rfl (lv_at hl 0 rfl) ?_
  exact W.iret (v := r5) hx hb hr (fun t ht hW => ⟨⟨r5, S6, rfl, osome2 h, ⟨by rw [ht]; exact G.1, va_K.moved hW.alike hK, G.2.1⟩⟩, G.2.2.F ht⟩) G.2.2.2.2 dX12_number_12
def fr_gauge (S : MS) (tx : Nat × (Nat → Int32)) (a1 : Int32) (a2 : Int32) : Option (Int32 × MS) := obind (fr_keyword S tx) fun S2 => obind2 (fr_number S2 a1 a2) fun r8 S5 => some (r8, S5)
set_option maxHeartbeats 4000000 in
set_option maxRecDepth 100000 in
theorem tr_gauge (l : Launch) (D : va_G) (cI cJ cZ : ClassId) (ad : Nat → Nat) (S : MS) (h0 : Nat) {q : Nat} {tx : Nat × (Nat → Int32)} (hC : sT tx) (a1 : Int32) (a2 : Int32) {r1 : Int32} {S1 : MS} (h : fr_gauge S tx a1 a2 = some (r1, S1)) : mCiX l yX12_gauge (Cond.code yX12_gauge cX12_gauge 4 (some .int) :: wsM) 8 152 D cI cJ cZ ad S [.ref q, .int a1, .int a2] (xT1 cI cJ cZ h0 ad S tx q) (fun r S9 => r = r1 ∧ S9 = S1) := by
  intro sz
  refine Met.ofW (cc := cX12_gauge) (maxL := 4) (ret := (some .int)) (by decide) rfl ?_
  intro p e s m args below meth c s₁ B hml hv
  obtain ⟨rfl, ⟨hsz, hP, hK, hD0, hR⟩, ⟨hA1, hT⟩, hO⟩ := hv
  have hx := B.exec
  have hb := B.bytes
  have hr := B.returns
  have hts := atoms_spec (ws := (Cond.code yX12_gauge cX12_gauge 4 (some .int) :: wsM)) B.pre
  have hown : s.vm.findClass RX12 = some m.cls := findClass_of_methodNamed B.named
  have hlocks := B.notSynchronized
  subst hsz
  have hD := hD0.self (sz := s.heap.size)
  generalize hAe : va_A (MW cI cJ cZ ad S) s.heap.size = A at hD hA1 ⊢
  have hA : ∀ q : Nat, s.heap.size ≤ q → A q := fun q h => by rw [← hAe]; exact Or.inr h
  have G : mG D cI cJ cZ ad A s.heap s.heap [] S := ⟨hP, hD, va_S.rf⟩
  have E : mE p c cX12_gauge s m ([.ref (ad 0), .ref q, .int a1, .int a2] : List Value).toArray (Cond.code yX12_gauge cX12_gauge 4 (some .int) :: wsM) D cI cJ cZ := ⟨hx, hb, hts, hown, hK, fun w h => .tail _ (iM_x h)⟩
  have hA0 : ∀ a : Nat, A a → h0 ≤ a := hA1
  have hl := lv_entry ([.ref (ad 0), .ref q, .int a1, .int a2]) (n := 4) (Nat.le_of_ble_eq_true rfl)
  rw [lg_entry_eq]
  generalize (lg_sl ([.ref (ad 0), .ref q, .int a1, .int a2]) ++ List.replicate (4 - (lg_sl ([.ref (ad 0), .ref q, .int a1, .int a2])).length) Slot.unset).toArray = ls at hl ⊢
  have hl : lv_has ls 4 [(0, .ref (ad 0)), (1, .ref q), (2, .int a1), (3, .int a2)] := hl
  unfold fr_gauge at h
  refine lv_aload_n hx hb dX12_gauge_0 rfl (lv_at hl 0 rfl) ?_
  refine lv_aload_n hx hb dX12_gauge_1 rfl (lv_at hl 1 rfl) ?_
  obtain ⟨S2, eS2, h⟩ := obind_some h
  refine m_callvX (As := [.ref q]) (rest := []) E G hA hR hml (tr_keyword l D cI cJ cZ ad S h0 (q := q) hC eS2) (cwV 1 hts (gmV qM_127 qM_128 qM_129 qM_35 qM_114) rfl rfl rfl (by decide +kernel) ⟨Nat.le_of_ble_eq_true rfl, Nat.le_of_ble_eq_true rfl⟩) rfl hl.1 rfl (lv_room (Nat.le_of_ble_eq_true rfl)) dX12_gauge_2 ⟨Nat.zero_le _, Nat.zero_le _⟩ (xT1.blind) (xT1.go hT hA0 hA G hO) (fun S4 H locs hq G => ?_)
  rw [hq] at G
  clear hq eS2
  refine lv_aload_n hx hb dX12_gauge_5 rfl (lv_at hl 0 rfl) ?_
  refine lv_iload_n hx hb dX12_gauge_6 rfl (lv_at hl 2 rfl) ?_
  refine lv_iload_n hx hb dX12_gauge_7 rfl (lv_at hl 3 rfl) ?_
  obtain ⟨r8, S5, eS5, h⟩ := obind2_some h
  refine m_calli (As := [.int a1, .int a2]) (rest := []) E G hA hR hml (tr_number l D cI cJ cZ ad S2 a1 a2 eS5) (cwV 2 hts (gmV qM_130 qM_131 qM_132 qM_35 qM_122) rfl rfl rfl (by decide +kernel) ⟨Nat.le_of_ble_eq_true rfl, Nat.le_of_ble_eq_true rfl⟩) rfl hl.1 rfl (lv_room (Nat.le_of_ble_eq_true rfl)) dX12_gauge_8 ⟨Nat.zero_le _, Nat.zero_le _⟩ (fun q6 S7 H locs hq G => ?_)
  obtain ⟨hq1, hq2⟩ := hq
  rw [hq2] at G
  refine lv_to hq1 ?_
  clear hq1 hq2 eS5
  exact W.iret (v := r8) hx hb hr (fun t ht hW => ⟨⟨r8, S5, rfl, osome2 h, ⟨by rw [ht]; exact G.1, va_K.moved hW.alike hK, G.2.1⟩⟩, G.2.2.F ht⟩) G.2.2.2.2 dX12_gauge_11
def fr_signed_b37  (S : MS) (s0 : Int32) : Option (Int32 × MS) := some (s0, S)
set_option maxHeartbeats 4000000 in
set_option maxRecDepth 100000 in
theorem tr_signed_b37 {p : Program} {l : Launch} {e : Env} {s : State} {m : MethodId} {args : Array Value} {below : List Frame} {meth : Method} {c : Code} {Q : State → Prop} {D : va_G} {A : Nat → Prop} {H0 : Heap} {cI cJ cZ : ClassId} {ad : Nat → Nat} {r1 : Int32} {S1 : MS} (E : mE p c cX12_signed s m args (Cond.code yX12_signed cX12_signed 4 (some .int) :: wsM) D cI cJ cZ) (hA : ∀ q : Nat, H0.size ≤ q → A q) (hR : sR s) (hml : c.maxLocals = 4) (kr37 : ∀ (H : Heap) (locs : List Loc) (ls : Array Slot), mG D cI cJ cZ ad A H0 H locs S1 → W p l e { frames := 4, cells := 0, slots := 0, locals := 67 } s m args below meth c H locs 0 0 Q (F0 m 37 ls [.int r1])) : ∀ (S : MS) (H : Heap) (locs : List Loc) (ls : Array Slot) (s0 : Int32), fr_signed_b37 S s0 = some (r1, S1) → mG D cI cJ cZ ad A H0 H locs S → lv_has ls 4 [] → W p l e { frames := 4, cells := 0, slots := 0, locals := 67 } s m args below meth c H locs 0 0 Q (F0 m 37 ls [.int s0]) := by
  have hx := E.1
  have hb := E.2.1
  have hts := E.2.2.1
  have hown := E.2.2.2.1
  have hK := E.2.2.2.2.1
  intro S H locs ls s0 h G hl
  unfold fr_signed_b37 at h
  rw [(osome2 h).2] at G
  refine lv_to (osome2 h).1 ?_
  exact kr37 _ _ _ G
def fr_signed_b15  (S : MS) (l1 : Int32) (l2 : Int32) (l3 : Int32) : Option (Int32 × MS) := if l3 = 0 then (obind2 (fr_number S l1 l2) fun r6 S3 => fr_signed_b37 S3 r6) else (elet (-l2) fun v7 => elet (-l1) fun v8 => obind2 (fr_number S v7 v8) fun r12 S9 => elet (-r12) fun v13 => fr_signed_b37 S9 v13)
set_option maxHeartbeats 4000000 in
set_option maxRecDepth 100000 in
theorem tr_signed_b15 {p : Program} {l : Launch} {e : Env} {s : State} {m : MethodId} {args : Array Value} {below : List Frame} {meth : Method} {c : Code} {Q : State → Prop} {D : va_G} {A : Nat → Prop} {H0 : Heap} {cI cJ cZ : ClassId} {ad : Nat → Nat} {r1 : Int32} {S1 : MS} (E : mE p c cX12_signed s m args (Cond.code yX12_signed cX12_signed 4 (some .int) :: wsM) D cI cJ cZ) (hA : ∀ q : Nat, H0.size ≤ q → A q) (hR : sR s) (hml : c.maxLocals = 4) (kr37 : ∀ (H : Heap) (locs : List Loc) (ls : Array Slot), mG D cI cJ cZ ad A H0 H locs S1 → W p l e { frames := 4, cells := 0, slots := 0, locals := 67 } s m args below meth c H locs 0 0 Q (F0 m 37 ls [.int r1])) : ∀ (S : MS) (H : Heap) (locs : List Loc) (ls : Array Slot) (l1 : Int32) (l2 : Int32) (l3 : Int32), fr_signed_b15 S l1 l2 l3 = some (r1, S1) → mG D cI cJ cZ ad A H0 H locs S → lv_has ls 4 [(0, .ref (ad 0)), (1, .int l1), (2, .int l2), (3, .int l3)] → W p l e { frames := 4, cells := 0, slots := 0, locals := 67 } s m args below meth c H locs 0 0 Q (F0 m 15 ls []) := by
  have hx := E.1
  have hb := E.2.1
  have hts := E.2.2.1
  have hown := E.2.2.2.1
  have hK := E.2.2.2.2.1
  intro S H locs ls l1 l2 l3 h G hl
  unfold fr_signed_b15 at h
  refine lv_iload_n hx hb dX12_signed_15 rfl (lv_at hl 3 rfl) ?_
  refine lv_if_eq (tgt := 31) hx hb dX12_signed_16 (by decide) (fun c2 => ?_) (fun c2 => ?_)
  · have h := oif_pos c2 h
    refine lv_aload_n hx hb dX12_signed_31 rfl (lv_at hl 0 rfl) ?_
    refine lv_iload_n hx hb dX12_signed_32 rfl (lv_at hl 1 rfl) ?_
    refine lv_iload_n hx hb dX12_signed_33 rfl (lv_at hl 2 rfl) ?_
    obtain ⟨r6, S3, eS3, h⟩ := obind2_some h
    refine m_calli (As := [.int l1, .int l2]) (rest := []) E G hA hR hml (tr_number l D cI cJ cZ ad S l1 l2 eS3) (cwV 2 hts (gmV qM_130 qM_131 qM_132 qM_35 qM_122) rfl rfl rfl (by decide +kernel) ⟨Nat.le_of_ble_eq_true rfl, Nat.le_of_ble_eq_true rfl⟩) rfl hl.1 rfl (lv_room (Nat.le_of_ble_eq_true rfl)) dX12_signed_34 ⟨Nat.zero_le _, Nat.zero_le _⟩ (fun q4 S5 H locs hq G => ?_)
    obtain ⟨hq1, hq2⟩ := hq
    rw [hq2] at G
    refine lv_to hq1 ?_
    clear hq1 hq2 eS3
    have hl := lv_sub hl [] rfl
    exact tr_signed_b37 E hA hR hml kr37 _ _ _ _ _ h G hl
  · have h := oif_neg c2 h
    refine lv_aload_n hx hb dX12_signed_19 rfl (lv_at hl 0 rfl) ?_
    refine lv_iload_n hx hb dX12_signed_20 rfl (lv_at hl 2 rfl) ?_
    refine lv_ineg hx hb dX12_signed_21 ?_
    refine lv_topi (fun v7 ev7 => ?_)
    have h := elet_at ev7 h
    clear ev7
    refine lv_iload_n hx hb dX12_signed_22 rfl (lv_at hl 1 rfl) ?_
    refine lv_ineg hx hb dX12_signed_23 ?_
    refine lv_topi (fun v8 ev8 => ?_)
    have h := elet_at ev8 h
    clear ev8
    obtain ⟨r12, S9, eS9, h⟩ := obind2_some h
    refine m_calli (As := [.int v7, .int v8]) (rest := []) E G hA hR hml (tr_number l D cI cJ cZ ad S v7 v8 eS9) (cwV 2 hts (gmV qM_130 qM_131 qM_132 qM_35 qM_122) rfl rfl rfl (by decide +kernel) ⟨Nat.le_of_ble_eq_true rfl, Nat.le_of_ble_eq_true rfl⟩) rfl hl.1 rfl (lv_room (Nat.le_of_ble_eq_true rfl)) dX12_signed_24 ⟨Nat.zero_le _, Nat.zero_le _⟩ (fun q10 S11 H locs hq G => ?_)
    obtain ⟨hq1, hq2⟩ := hq
    rw [hq2] at G
    refine lv_to hq1 ?_
    clear hq1 hq2 eS9
    refine lv_ineg hx hb dX12_signed_27 ?_
    refine lv_topi (fun v13 ev13 => ?_)
    have h := elet_at ev13 h
    clear ev13
    refine lv_goto (tgt := 37) hx hb dX12_signed_28 (by decide) ?_
    have hl := lv_sub hl [] rfl
    exact tr_signed_b37 E hA hR hml kr37 _ _ _ _ _ h G hl
def fr_signed (S : MS) (a0 : Int32) (a1 : Int32) : Option (Int32 × MS) := obind2 (fr_isSignHere S 45) fun r5 S2 => if r5 = 0 then (fr_signed_b15 S2 a0 a1 r5) else (obind (fr_nextToken S2) fun S7 => fr_signed_b15 S7 a0 a1 r5)
set_option maxHeartbeats 4000000 in
set_option maxRecDepth 100000 in
theorem tr_signed (l : Launch) (D : va_G) (cI cJ cZ : ClassId) (ad : Nat → Nat) (S : MS) (a0 : Int32) (a1 : Int32) {r1 : Int32} {S1 : MS} (h : fr_signed S a0 a1 = some (r1, S1)) : mCi l yX12_signed (Cond.code yX12_signed cX12_signed 4 (some .int) :: wsM) 4 67 D cI cJ cZ ad S [.int a0, .int a1] (fun r S9 => r = r1 ∧ S9 = S1) := by
  intro sz
  refine Met.ofW (cc := cX12_signed) (maxL := 4) (ret := (some .int)) (by decide) rfl ?_
  intro p e s m args below meth c s₁ B hml hv
  obtain ⟨rfl, hsz, hP, hK, hD0, hR⟩ := hv
  have hx := B.exec
  have hb := B.bytes
  have hr := B.returns
  have hts := atoms_spec (ws := (Cond.code yX12_signed cX12_signed 4 (some .int) :: wsM)) B.pre
  have hown : s.vm.findClass RX12 = some m.cls := findClass_of_methodNamed B.named
  have hlocks := B.notSynchronized
  subst hsz
  have hD := hD0.self (sz := s.heap.size)
  generalize hAe : va_A (MW cI cJ cZ ad S) s.heap.size = A at hD ⊢
  have hA : ∀ q : Nat, s.heap.size ≤ q → A q := fun q h => by rw [← hAe]; exact Or.inr h
  have G : mG D cI cJ cZ ad A s.heap s.heap [] S := ⟨hP, hD, va_S.rf⟩
  have E : mE p c cX12_signed s m ([.ref (ad 0), .int a0, .int a1] : List Value).toArray (Cond.code yX12_signed cX12_signed 4 (some .int) :: wsM) D cI cJ cZ := ⟨hx, hb, hts, hown, hK, fun w h => .tail _ (iM_x h)⟩
  have hl := lv_entry ([.ref (ad 0), .int a0, .int a1]) (n := 4) (Nat.le_of_ble_eq_true rfl)
  rw [lg_entry_eq]
  generalize (lg_sl ([.ref (ad 0), .int a0, .int a1]) ++ List.replicate (4 - (lg_sl ([.ref (ad 0), .int a0, .int a1])).length) Slot.unset).toArray = ls at hl ⊢
  have hl : lv_has ls 4 [(0, .ref (ad 0)), (1, .int a0), (2, .int a1)] := hl
  unfold fr_signed at h
  refine lv_aload_n hx hb dX12_signed_0 rfl (lv_at hl 0 rfl) ?_
  refine lv_bipush (v := 45) hx hb dX12_signed_1 (by decide) ?_
  obtain ⟨r5, S2, eS2, h⟩ := obind2_some h
  refine m_calli (As := [.int 45]) (rest := []) E G hA hR hml (tr_isSignHere l D cI cJ cZ ad S 45 eS2) (cwV 1 hts (gmV qM_134 qM_135 qM_136 qM_35 qM_56) rfl rfl rfl (by decide +kernel) ⟨Nat.le_of_ble_eq_true rfl, Nat.le_of_ble_eq_true rfl⟩) rfl hl.1 rfl (lv_room (Nat.le_of_ble_eq_true rfl)) dX12_signed_3 ⟨Nat.zero_le _, Nat.zero_le _⟩ (fun q3 S4 H locs hq G => ?_)
  obtain ⟨hq1, hq2⟩ := hq
  rw [hq2] at G
  refine lv_to hq1 ?_
  clear hq1 hq2 eS2
  refine lv_istore_n (lv' := [(3, .int r5), (0, .ref (ad 0)), (1, .int a0), (2, .int a1)]) hx hb dX12_signed_6 rfl hl (by decide) rfl (fun ls hl => ?_)
  refine lv_iload_n hx hb dX12_signed_7 rfl (lv_at hl 0 rfl) ?_
  refine lv_if_eq (tgt := 15) hx hb dX12_signed_8 (by decide) (fun c6 => ?_) (fun c6 => ?_)
  · have h := oif_pos c6 h
    have hl := lv_sub hl [1, 2, 3, 0] rfl
    exact tr_signed_b15 E hA hR hml (fun H locs ls G => W.iret (v := r1) hx hb hr (fun t ht hW => ⟨⟨r1, S1, rfl, ⟨rfl, rfl⟩, ⟨by rw [ht]; exact G.1, va_K.moved hW.alike hK, G.2.1⟩⟩, G.2.2.F ht⟩) G.2.2.2.2 dX12_signed_37) _ _ _ _ _ _ _ h G hl
  · have h := oif_neg c6 h
    refine lv_aload_n hx hb dX12_signed_11 rfl (lv_at hl 1 rfl) ?_
    obtain ⟨S7, eS7, h⟩ := obind_some h
    refine m_callv (As := []) (rest := []) E G hA hR hml (tr_nextToken l D cI cJ cZ ad S2 eS7) (cwV 0 hts (gmV qM_111 qM_112 qM_113 qM_35 qM_45) rfl rfl rfl (by decide +kernel) ⟨Nat.le_of_ble_eq_true rfl, Nat.le_of_ble_eq_true rfl⟩) rfl hl.1 rfl (lv_room (Nat.le_of_ble_eq_true rfl)) dX12_signed_12 ⟨Nat.zero_le _, Nat.zero_le _⟩ (fun S9 H locs hq G => ?_)
    rw [hq] at G
    clear hq eS7
    have hl := lv_sub hl [1, 2, 3, 0] rfl
    exact tr_signed_b15 E hA hR hml (fun H locs ls G => W.iret (v := r1) hx hb hr (fun t ht hW => ⟨⟨r1, S1, rfl, ⟨rfl, rfl⟩, ⟨by rw [ht]; exact G.1, va_K.moved hW.alike hK, G.2.1⟩⟩, G.2.2.F ht⟩) G.2.2.2.2 dX12_signed_37) _ _ _ _ _ _ _ h G hl
def fr_readFirst (S : MS)  : Option (MS) := obind (fr_keyword S (sTx "camera")) fun S3 => obind2 (fr_gauge S3 (sTx "distance") 100 5000) fun r10 S7 => elet (mf S7 11 (upd (S7.2.1 11) 0 r10)) fun S11 => obind2 (fr_gauge S11 (sTx "step") 1 99) fun r16 S13 => elet (mf S13 11 (upd (S13.2.1 11) 1 r16)) fun S17 => obind2 (fr_gauge S17 (sTx "samples") 32 200) fun r22 S19 => elet (mf S19 11 (upd (S19.2.1 11) 2 r22)) fun S23 => obind2 (fr_gauge S23 (sTx "limit") 1 9999) fun r28 S25 => elet (mf S25 11 (upd (S25.2.1 11) 3 r28)) fun S29 => some S29
set_option maxHeartbeats 4000000 in
set_option maxRecDepth 100000 in
theorem tr_readFirst (l : Launch) (D : va_G) (cI cJ cZ : ClassId) (ad : Nat → Nat) (S : MS) (h0 : Nat)  {S1 : MS} (h : fr_readFirst S = some S1) : mCvX l yX12_readFirst (Cond.code yX12_readFirst cX12_readFirst 1 none :: wsM) 9 175 D cI cJ cZ ad S [] (xT0 cI cJ cZ h0 ad S) (fun S9 => S9 = S1) := by
  intro sz
  refine Met.ofW (cc := cX12_readFirst) (maxL := 1) (ret := none) (by decide) rfl ?_
  intro p e s m args below meth c s₁ B hml hv
  obtain ⟨rfl, ⟨hsz, hP, hK, hD0, hR⟩, hA1, hT⟩ := hv
  have hx := B.exec
  have hb := B.bytes
  have hr := B.returns
  have hts := atoms_spec (ws := (Cond.code yX12_readFirst cX12_readFirst 1 none :: wsM)) B.pre
  have hown : s.vm.findClass RX12 = some m.cls := findClass_of_methodNamed B.named
  have hlocks := B.notSynchronized
  subst hsz
  have hD := hD0.self (sz := s.heap.size)
  generalize hAe : va_A (MW cI cJ cZ ad S) s.heap.size = A at hD hA1 ⊢
  have hA : ∀ q : Nat, s.heap.size ≤ q → A q := fun q h => by rw [← hAe]; exact Or.inr h
  have G : mG D cI cJ cZ ad A s.heap s.heap [] S := ⟨hP, hD, va_S.rf⟩
  have E : mE p c cX12_readFirst s m ([.ref (ad 0)] : List Value).toArray (Cond.code yX12_readFirst cX12_readFirst 1 none :: wsM) D cI cJ cZ := ⟨hx, hb, hts, hown, hK, fun w h => .tail _ (iM_x h)⟩
  have hA0 : ∀ a : Nat, A a → h0 ≤ a := hA1
  have hl := lv_entry ([.ref (ad 0)]) (n := 1) (Nat.le_of_ble_eq_true rfl)
  rw [lg_entry_eq]
  generalize (lg_sl ([.ref (ad 0)]) ++ List.replicate (1 - (lg_sl ([.ref (ad 0)])).length) Slot.unset).toArray = ls at hl ⊢
  have hl : lv_has ls 1 [(0, .ref (ad 0))] := hl
  unfold fr_readFirst at h
  refine lv_aload_n hx hb dX12_readFirst_0 rfl (lv_at hl 0 rfl) ?_
  obtain ⟨w2, hw2, ow2⟩ := hT.1 ("AcousticCameraModel", 144, "camera") (List.mem_of_getElem? (i := 20) rfl)
  refine va_ldcS hx hb hown hw2 dX12_readFirst_1 ?_
  obtain ⟨S3, eS3, h⟩ := obind_some h
  refine m_callvX (As := [.ref w2]) (rest := []) E G hA hR hml (tr_keyword l D cI cJ cZ ad S h0 (q := w2) (sTx_ok (by decide +kernel)) eS3) (cwV 1 hts (gmV qM_127 qM_128 qM_129 qM_35 qM_114) rfl rfl rfl (by decide +kernel) ⟨Nat.le_of_ble_eq_true rfl, Nat.le_of_ble_eq_true rfl⟩) rfl hl.1 rfl (lv_room (Nat.le_of_ble_eq_true rfl)) dX12_readFirst_3 ⟨Nat.zero_le _, Nat.zero_le _⟩ (xT1.blind) (xT1.go hT hA0 hA G ow2) (fun S5 H locs hq G => ?_)
  rw [hq] at G
  clear hq eS3
  refine lv_aload_n hx hb dX12_readFirst_6 rfl (lv_at hl 0 rfl) ?_
  refine m_get E G 11 (v := .ref (ad 11)) (by decide) (.tail _ qM_8) rfl dX12_readFirst_7 rfl ?_
  refine lv_iconst (v := 0) hx hb dX12_readFirst_10 (by decide) ?_
  refine lv_aload_n hx hb dX12_readFirst_11 rfl (lv_at hl 0 rfl) ?_
  obtain ⟨w6, hw6, ow6⟩ := hT.1 ("AcousticCameraModel", 146, "distance") (List.mem_of_getElem? (i := 21) rfl)
  refine va_ldcS hx hb hown hw6 dX12_readFirst_12 ?_
  refine lv_bipush (v := 100) hx hb dX12_readFirst_14 (by decide) ?_
  refine lv_sipush (v := 5000) hx hb dX12_readFirst_16 (by decide) ?_
  obtain ⟨r10, S7, eS7, h⟩ := obind2_some h
  refine m_calliX (As := [.ref w6, .int 100, .int 5000]) (rest := [.int 0, .ref (ad 11)]) E G hA hR hml (tr_gauge l D cI cJ cZ ad S3 h0 (q := w6) (sTx_ok (by decide +kernel)) 100 5000 eS7) (cwV 3 hts (gmV qM_138 qM_139 qM_140 qM_35 qM_126) rfl rfl rfl (by decide +kernel) ⟨Nat.le_of_ble_eq_true rfl, Nat.le_of_ble_eq_true rfl⟩) rfl hl.1 rfl (lv_room (Nat.le_of_ble_eq_true rfl)) dX12_readFirst_19 ⟨Nat.zero_le _, Nat.zero_le _⟩ (xT1.blind) (xT1.go hT hA0 hA G ow6) (fun q8 S9 H locs hq G => ?_)
  obtain ⟨hq1, hq2⟩ := hq
  rw [hq2] at G
  refine lv_to hq1 ?_
  clear hq1 hq2 eS7
  refine m_iast E G 11 3 (k := 0) (v := r10) rfl (fun _ => rfl) rfl (by decide) (by decide) dX12_readFirst_22 (fun H locs G => ?_)
  obtain ⟨S11, eS11, h⟩ := elet_some h
  rw [← eS11] at G
  clear eS11
  refine lv_aload_n hx hb dX12_readFirst_23 rfl (lv_at hl 0 rfl) ?_
  refine m_get E G 11 (v := .ref (ad 11)) (by decide) (.tail _ qM_8) rfl dX12_readFirst_24 rfl ?_
  refine lv_iconst (v := 1) hx hb dX12_readFirst_27 (by decide) ?_
  refine lv_aload_n hx hb dX12_readFirst_28 rfl (lv_at hl 0 rfl) ?_
  obtain ⟨w12, hw12, ow12⟩ := hT.1 ("AcousticCameraModel", 152, "step") (List.mem_of_getElem? (i := 22) rfl)
  refine va_ldcS hx hb hown hw12 dX12_readFirst_29 ?_
  refine lv_iconst (v := 1) hx hb dX12_readFirst_31 (by decide) ?_
  refine lv_bipush (v := 99) hx hb dX12_readFirst_32 (by decide) ?_
  obtain ⟨r16, S13, eS13, h⟩ := obind2_some h
  refine m_calliX (As := [.ref w12, .int 1, .int 99]) (rest := [.int 1, .ref (ad 11)]) E G hA hR hml (tr_gauge l D cI cJ cZ ad S11 h0 (q := w12) (sTx_ok (by decide +kernel)) 1 99 eS13) (cwV 3 hts (gmV qM_138 qM_139 qM_140 qM_35 qM_126) rfl rfl rfl (by decide +kernel) ⟨Nat.le_of_ble_eq_true rfl, Nat.le_of_ble_eq_true rfl⟩) rfl hl.1 rfl (lv_room (Nat.le_of_ble_eq_true rfl)) dX12_readFirst_34 ⟨Nat.zero_le _, Nat.zero_le _⟩ (xT1.blind) (xT1.go hT hA0 hA G ow12) (fun q14 S15 H locs hq G => ?_)
  obtain ⟨hq1, hq2⟩ := hq
  rw [hq2] at G
  refine lv_to hq1 ?_
  clear hq1 hq2 eS13
  refine m_iast E G 11 3 (k := 1) (v := r16) rfl (fun _ => rfl) rfl (by decide) (by decide) dX12_readFirst_37 (fun H locs G => ?_)
  obtain ⟨S17, eS17, h⟩ := elet_some h
  rw [← eS17] at G
  clear eS17
  refine lv_aload_n hx hb dX12_readFirst_38 rfl (lv_at hl 0 rfl) ?_
  refine m_get E G 11 (v := .ref (ad 11)) (by decide) (.tail _ qM_8) rfl dX12_readFirst_39 rfl ?_
  refine lv_iconst (v := 2) hx hb dX12_readFirst_42 (by decide) ?_
  refine lv_aload_n hx hb dX12_readFirst_43 rfl (lv_at hl 0 rfl) ?_
  obtain ⟨w18, hw18, ow18⟩ := hT.1 ("AcousticCameraModel", 154, "samples") (List.mem_of_getElem? (i := 23) rfl)
  refine va_ldcS hx hb hown hw18 dX12_readFirst_44 ?_
  refine lv_bipush (v := 32) hx hb dX12_readFirst_46 (by decide) ?_
  refine lv_sipush (v := 200) hx hb dX12_readFirst_48 (by decide) ?_
  obtain ⟨r22, S19, eS19, h⟩ := obind2_some h
  refine m_calliX (As := [.ref w18, .int 32, .int 200]) (rest := [.int 2, .ref (ad 11)]) E G hA hR hml (tr_gauge l D cI cJ cZ ad S17 h0 (q := w18) (sTx_ok (by decide +kernel)) 32 200 eS19) (cwV 3 hts (gmV qM_138 qM_139 qM_140 qM_35 qM_126) rfl rfl rfl (by decide +kernel) ⟨Nat.le_of_ble_eq_true rfl, Nat.le_of_ble_eq_true rfl⟩) rfl hl.1 rfl (lv_room (Nat.le_of_ble_eq_true rfl)) dX12_readFirst_51 ⟨Nat.zero_le _, Nat.zero_le _⟩ (xT1.blind) (xT1.go hT hA0 hA G ow18) (fun q20 S21 H locs hq G => ?_)
  obtain ⟨hq1, hq2⟩ := hq
  rw [hq2] at G
  refine lv_to hq1 ?_
  clear hq1 hq2 eS19
  refine m_iast E G 11 3 (k := 2) (v := r22) rfl (fun _ => rfl) rfl (by decide) (by decide) dX12_readFirst_54 (fun H locs G => ?_)
  obtain ⟨S23, eS23, h⟩ := elet_some h
  rw [← eS23] at G
  clear eS23
  refine lv_aload_n hx hb dX12_readFirst_55 rfl (lv_at hl 0 rfl) ?_
  refine m_get E G 11 (v := .ref (ad 11)) (by decide) (.tail _ qM_8) rfl dX12_readFirst_56 rfl ?_
  refine lv_iconst (v := 3) hx hb dX12_readFirst_59 (by decide) ?_
  refine lv_aload_n hx hb dX12_readFirst_60 rfl (lv_at hl 0 rfl) ?_
  obtain ⟨w24, hw24, ow24⟩ := hT.1 ("AcousticCameraModel", 156, "limit") (List.mem_of_getElem? (i := 24) rfl)
  refine va_ldcS hx hb hown hw24 dX12_readFirst_61 ?_
  refine lv_iconst (v := 1) hx hb dX12_readFirst_63 (by decide) ?_
  refine lv_sipush (v := 9999) hx hb dX12_readFirst_64 (by decide) ?_
  obtain ⟨r28, S25, eS25, h⟩ := obind2_some h
  refine m_calliX (As := [.ref w24, .int 1, .int 9999]) (rest := [.int 3, .ref (ad 11)]) E G hA hR hml (tr_gauge l D cI cJ cZ ad S23 h0 (q := w24) (sTx_ok (by decide +kernel)) 1 9999 eS25) (cwV 3 hts (gmV qM_138 qM_139 qM_140 qM_35 qM_126) rfl rfl rfl (by decide +kernel) ⟨Nat.le_of_ble_eq_true rfl, Nat.le_of_ble_eq_true rfl⟩) rfl hl.1 rfl (lv_room (Nat.le_of_ble_eq_true rfl)) dX12_readFirst_67 ⟨Nat.zero_le _, Nat.zero_le _⟩ (xT1.blind) (xT1.go hT hA0 hA G ow24) (fun q26 S27 H locs hq G => ?_)
  obtain ⟨hq1, hq2⟩ := hq
  rw [hq2] at G
  refine lv_to hq1 ?_
  clear hq1 hq2 eS25
  refine m_iast E G 11 3 (k := 3) (v := r28) rfl (fun _ => rfl) rfl (by decide) (by decide) dX12_readFirst_70 (fun H locs G => ?_)
  obtain ⟨S29, eS29, h⟩ := elet_some h
  rw [← eS29] at G
  clear eS29
  exact W.vret hx hb hr (fun t ht hW => ⟨⟨S29, rfl, osome1 h, ⟨by rw [ht]; exact G.1, va_K.moved hW.alike hK, G.2.1⟩⟩, G.2.2.F ht⟩) G.2.2.2.2 dX12_readFirst_71
def fr_readMic_b18  (S : MS) (l1 : Int32) : Option (MS) := obind (fr_nextToken S) fun S2 => obind2 (fr_signed S2 (-500) 500) fun r8 S5 => obind2 (fr_signed S5 (-500) 500) fun r12 S9 => obind2 (fr_number S9 1 9) fun r16 S13 => elet (S13.1 5) fun v17 => if v17 ≤ 0 then (elet (11 + l1) fun v19 => oif (inb v19 131 = true) <| elet (mf S13 11 (upd (S13.2.1 11) v19.toNatClampNeg r8)) fun S21 => elet (23 + l1) fun v22 => oif (inb v22 131 = true) <| elet (mf S21 11 (upd (S21.2.1 11) v22.toNatClampNeg r12)) fun S24 => elet (35 + l1) fun v25 => oif (inb v25 131 = true) <| elet (mf S24 11 (upd (S24.2.1 11) v25.toNatClampNeg r16)) fun S27 => elet (S27.2.1 11 4) fun v28 => elet (v28 + 1) fun v29 => elet (mf S27 11 (upd (S27.2.1 11) 4 v29)) fun S30 => some S30) else (some S13)
set_option maxHeartbeats 4000000 in
set_option maxRecDepth 100000 in
theorem tr_readMic_b18 {p : Program} {l : Launch} {e : Env} {s : State} {m : MethodId} {args : Array Value} {below : List Frame} {meth : Method} {c : Code} {Q : State → Prop} {D : va_G} {A : Nat → Prop} {H0 : Heap} {cI cJ cZ : ClassId} {ad : Nat → Nat} {S1 : MS} (E : mE p c cX12_readMic s m args (Cond.code yX12_readMic cX12_readMic 5 none :: wsM) D cI cJ cZ) (hA : ∀ q : Nat, H0.size ≤ q → A q) (hR : sR s) (hml : c.maxLocals = 5) (kr60 : ∀ (H : Heap) (locs : List Loc) (ls : Array Slot), mG D cI cJ cZ ad A H0 H locs S1 → W p l e { frames := 5, cells := 0, slots := 0, locals := 90 } s m args below meth c H locs 0 0 Q (F0 m 60 ls [])) (kr102 : ∀ (H : Heap) (locs : List Loc) (ls : Array Slot), mG D cI cJ cZ ad A H0 H locs S1 → W p l e { frames := 5, cells := 0, slots := 0, locals := 90 } s m args below meth c H locs 0 0 Q (F0 m 102 ls [])) : ∀ (S : MS) (H : Heap) (locs : List Loc) (ls : Array Slot) (l1 : Int32), fr_readMic_b18 S l1 = some S1 → mG D cI cJ cZ ad A H0 H locs S → lv_has ls 5 [(0, .ref (ad 0)), (1, .int l1)] → W p l e { frames := 5, cells := 0, slots := 0, locals := 90 } s m args below meth c H locs 0 0 Q (F0 m 18 ls []) := by
  have hx := E.1
  have hb := E.2.1
  have hts := E.2.2.1
  have hown := E.2.2.2.1
  have hK := E.2.2.2.2.1
  intro S H locs ls l1 h G hl
  unfold fr_readMic_b18 at h
  refine lv_aload_n hx hb dX12_readMic_18 rfl (lv_at hl 0 rfl) ?_
  obtain ⟨S2, eS2, h⟩ := obind_some h
  refine m_callv (As := []) (rest := []) E G hA hR hml (tr_nextToken l D cI cJ cZ ad S eS2) (cwV 0 hts (gmV qM_111 qM_112 qM_113 qM_35 qM_45) rfl rfl rfl (by decide +kernel) ⟨Nat.le_of_ble_eq_true rfl, Nat.le_of_ble_eq_true rfl⟩) rfl hl.1 rfl (lv_room (Nat.le_of_ble_eq_true rfl)) dX12_readMic_19 ⟨Nat.zero_le _, Nat.zero_le _⟩ (fun S4 H locs hq G => ?_)
  rw [hq] at G
  clear hq eS2
  refine lv_aload_n hx hb dX12_readMic_22 rfl (lv_at hl 0 rfl) ?_
  refine lv_sipush (v := (-500)) hx hb dX12_readMic_23 (by decide) ?_
  refine lv_sipush (v := 500) hx hb dX12_readMic_26 (by decide) ?_
  obtain ⟨r8, S5, eS5, h⟩ := obind2_some h
  refine m_calli (As := [.int (-500), .int 500]) (rest := []) E G hA hR hml (tr_signed l D cI cJ cZ ad S2 (-500) 500 eS5) (cwV 2 hts (gmV qM_142 qM_143 qM_144 qM_35 qM_133) rfl rfl rfl (by decide +kernel) ⟨Nat.le_of_ble_eq_true rfl, Nat.le_of_ble_eq_true rfl⟩) rfl hl.1 rfl (lv_room (Nat.le_of_ble_eq_true rfl)) dX12_readMic_29 ⟨Nat.zero_le _, Nat.zero_le _⟩ (fun q6 S7 H locs hq G => ?_)
  obtain ⟨hq1, hq2⟩ := hq
  rw [hq2] at G
  refine lv_to hq1 ?_
  clear hq1 hq2 eS5
  refine lv_istore_n (lv' := [(2, .int r8), (0, .ref (ad 0)), (1, .int l1)]) hx hb dX12_readMic_32 rfl hl (by decide) rfl (fun ls hl => ?_)
  refine lv_aload_n hx hb dX12_readMic_33 rfl (lv_at hl 1 rfl) ?_
  refine lv_sipush (v := (-500)) hx hb dX12_readMic_34 (by decide) ?_
  refine lv_sipush (v := 500) hx hb dX12_readMic_37 (by decide) ?_
  obtain ⟨r12, S9, eS9, h⟩ := obind2_some h
  refine m_calli (As := [.int (-500), .int 500]) (rest := []) E G hA hR hml (tr_signed l D cI cJ cZ ad S5 (-500) 500 eS9) (cwV 2 hts (gmV qM_142 qM_143 qM_144 qM_35 qM_133) rfl rfl rfl (by decide +kernel) ⟨Nat.le_of_ble_eq_true rfl, Nat.le_of_ble_eq_true rfl⟩) rfl hl.1 rfl (lv_room (Nat.le_of_ble_eq_true rfl)) dX12_readMic_40 ⟨Nat.zero_le _, Nat.zero_le _⟩ (fun q10 S11 H locs hq G => ?_)
  obtain ⟨hq1, hq2⟩ := hq
  rw [hq2] at G
  refine lv_to hq1 ?_
  clear hq1 hq2 eS9
  refine lv_istore_n (lv' := [(3, .int r12), (2, .int r8), (0, .ref (ad 0)), (1, .int l1)]) hx hb dX12_readMic_43 rfl hl (by decide) rfl (fun ls hl => ?_)
  refine lv_aload_n hx hb dX12_readMic_44 rfl (lv_at hl 2 rfl) ?_
  refine lv_iconst (v := 1) hx hb dX12_readMic_45 (by decide) ?_
  refine lv_bipush (v := 9) hx hb dX12_readMic_46 (by decide) ?_
  obtain ⟨r16, S13, eS13, h⟩ := obind2_some h
  refine m_calli (As := [.int 1, .int 9]) (rest := []) E G hA hR hml (tr_number l D cI cJ cZ ad S9 1 9 eS13) (cwV 2 hts (gmV qM_130 qM_131 qM_132 qM_35 qM_122) rfl rfl rfl (by decide +kernel) ⟨Nat.le_of_ble_eq_true rfl, Nat.le_of_ble_eq_true rfl⟩) rfl hl.1 rfl (lv_room (Nat.le_of_ble_eq_true rfl)) dX12_readMic_48 ⟨Nat.zero_le _, Nat.zero_le _⟩ (fun q14 S15 H locs hq G => ?_)
  obtain ⟨hq1, hq2⟩ := hq
  rw [hq2] at G
  refine lv_to hq1 ?_
  clear hq1 hq2 eS13
  refine lv_istore (lv' := [(4, .int r16), (3, .int r12), (2, .int r8), (0, .ref (ad 0)), (1, .int l1)]) hx hb dX12_readMic_51 hl (by decide) rfl (fun ls hl => ?_)
  refine lv_aload_n hx hb dX12_readMic_53 rfl (lv_at hl 3 rfl) ?_
  refine m_get E G 5 (v := .int (S13.1 5)) (by decide) (.tail _ qM_38) rfl dX12_readMic_54 rfl ?_
  refine lv_topi (fun v17 ev17 => ?_)
  have h := elet_at ev17 h
  clear ev17
  refine lv_if_le (tgt := 61) hx hb dX12_readMic_57 (by decide) (fun c18 => ?_) (fun c18 => ?_)
  · have h := oif_pos c18 h
    refine lv_aload_n hx hb dX12_readMic_61 rfl (lv_at hl 3 rfl) ?_
    refine m_get E G 11 (v := .ref (ad 11)) (by decide) (.tail _ qM_8) rfl dX12_readMic_62 rfl ?_
    refine lv_bipush (v := 11) hx hb dX12_readMic_65 (by decide) ?_
    refine lv_iload_n hx hb dX12_readMic_67 rfl (lv_at hl 4 rfl) ?_
    refine lv_iadd hx hb dX12_readMic_68 ?_
    refine lv_topi (fun v19 ev19 => ?_)
    have h := elet_at ev19 h
    clear ev19
    refine lv_iload_n hx hb dX12_readMic_69 rfl (lv_at hl 2 rfl) ?_
    obtain ⟨g20, h⟩ := oif_some h
    refine m_iast E G 11 3 (k := v19.toNatClampNeg) (v := r8) rfl (fun _ => rfl) (inb_k g20).1 (inb_k g20).2 (by decide) dX12_readMic_70 (fun H locs G => ?_)
    obtain ⟨S21, eS21, h⟩ := elet_some h
    rw [← eS21] at G
    clear eS21
    refine lv_aload_n hx hb dX12_readMic_71 rfl (lv_at hl 3 rfl) ?_
    refine m_get E G 11 (v := .ref (ad 11)) (by decide) (.tail _ qM_8) rfl dX12_readMic_72 rfl ?_
    refine lv_bipush (v := 23) hx hb dX12_readMic_75 (by decide) ?_
    refine lv_iload_n hx hb dX12_readMic_77 rfl (lv_at hl 4 rfl) ?_
    refine lv_iadd hx hb dX12_readMic_78 ?_
    refine lv_topi (fun v22 ev22 => ?_)
    have h := elet_at ev22 h
    clear ev22
    refine lv_iload_n hx hb dX12_readMic_79 rfl (lv_at hl 1 rfl) ?_
    obtain ⟨g23, h⟩ := oif_some h
    refine m_iast E G 11 3 (k := v22.toNatClampNeg) (v := r12) rfl (fun _ => rfl) (inb_k g23).1 (inb_k g23).2 (by decide) dX12_readMic_80 (fun H locs G => ?_)
    obtain ⟨S24, eS24, h⟩ := elet_some h
    rw [← eS24] at G
    clear eS24
    refine lv_aload_n hx hb dX12_readMic_81 rfl (lv_at hl 3 rfl) ?_
    refine m_get E G 11 (v := .ref (ad 11)) (by decide) (.tail _ qM_8) rfl dX12_readMic_82 rfl ?_
    refine lv_bipush (v := 35) hx hb dX12_readMic_85 (by decide) ?_
    refine lv_iload_n hx hb dX12_readMic_87 rfl (lv_at hl 4 rfl) ?_
    refine lv_iadd hx hb dX12_readMic_88 ?_
    refine lv_topi (fun v25 ev25 => ?_)
    have h := elet_at ev25 h
    clear ev25
    refine lv_iload hx hb dX12_readMic_89 (lv_at hl 0 rfl) ?_
    obtain ⟨g26, h⟩ := oif_some h
    refine m_iast E G 11 3 (k := v25.toNatClampNeg) (v := r16) rfl (fun _ => rfl) (inb_k g26).1 (inb_k g26).2 (by decide) dX12_readMic_91 (fun H locs G => ?_)
    obtain ⟨S27, eS27, h⟩ := elet_some h
    rw [← eS27] at G
    clear eS27
    refine lv_aload_n hx hb dX12_readMic_92 rfl (lv_at hl 3 rfl) ?_
    refine m_get E G 11 (v := .ref (ad 11)) (by decide) (.tail _ qM_8) rfl dX12_readMic_93 rfl ?_
    refine lv_iconst (v := 4) hx hb dX12_readMic_96 (by decide) ?_
    refine lv_dup2_11 hx hb dX12_readMic_97 rfl rfl ?_
    refine m_iald E G 11 3 (n := 131) (k := 4) rfl rfl (by decide) (by decide) dX12_readMic_98 ?_
    refine lv_topi (fun v28 ev28 => ?_)
    have h := elet_at ev28 h
    clear ev28
    refine lv_iconst (v := 1) hx hb dX12_readMic_99 (by decide) ?_
    refine lv_iadd hx hb dX12_readMic_100 ?_
    refine lv_topi (fun v29 ev29 => ?_)
    have h := elet_at ev29 h
    clear ev29
    refine m_iast E G 11 3 (k := 4) (v := v29) rfl (fun _ => rfl) rfl (by decide) (by decide) dX12_readMic_101 (fun H locs G => ?_)
    obtain ⟨S30, eS30, h⟩ := elet_some h
    rw [← eS30] at G
    clear eS30
    rw [osome1 h] at G
    exact kr102 _ _ _ G
  · have h := oif_neg c18 h
    rw [osome1 h] at G
    exact kr60 _ _ _ G
def fr_readMic (S : MS)  : Option (MS) := elet (S.2.1 11 4) fun v2 => if v2 = 12 then (obind (fr_faults S 4) fun S4 => fr_readMic_b18 S4 v2) else (fr_readMic_b18 S v2)
set_option maxHeartbeats 4000000 in
set_option maxRecDepth 100000 in
theorem tr_readMic (l : Launch) (D : va_G) (cI cJ cZ : ClassId) (ad : Nat → Nat) (S : MS)  {S1 : MS} (h : fr_readMic S = some S1) : mCv l yX12_readMic (Cond.code yX12_readMic cX12_readMic 5 none :: wsM) 5 90 D cI cJ cZ ad S [] (fun S9 => S9 = S1) := by
  intro sz
  refine Met.ofW (cc := cX12_readMic) (maxL := 5) (ret := none) (by decide) rfl ?_
  intro p e s m args below meth c s₁ B hml hv
  obtain ⟨rfl, hsz, hP, hK, hD0, hR⟩ := hv
  have hx := B.exec
  have hb := B.bytes
  have hr := B.returns
  have hts := atoms_spec (ws := (Cond.code yX12_readMic cX12_readMic 5 none :: wsM)) B.pre
  have hown : s.vm.findClass RX12 = some m.cls := findClass_of_methodNamed B.named
  have hlocks := B.notSynchronized
  subst hsz
  have hD := hD0.self (sz := s.heap.size)
  generalize hAe : va_A (MW cI cJ cZ ad S) s.heap.size = A at hD ⊢
  have hA : ∀ q : Nat, s.heap.size ≤ q → A q := fun q h => by rw [← hAe]; exact Or.inr h
  have G : mG D cI cJ cZ ad A s.heap s.heap [] S := ⟨hP, hD, va_S.rf⟩
  have E : mE p c cX12_readMic s m ([.ref (ad 0)] : List Value).toArray (Cond.code yX12_readMic cX12_readMic 5 none :: wsM) D cI cJ cZ := ⟨hx, hb, hts, hown, hK, fun w h => .tail _ (iM_x h)⟩
  have hl := lv_entry ([.ref (ad 0)]) (n := 5) (Nat.le_of_ble_eq_true rfl)
  rw [lg_entry_eq]
  generalize (lg_sl ([.ref (ad 0)]) ++ List.replicate (5 - (lg_sl ([.ref (ad 0)])).length) Slot.unset).toArray = ls at hl ⊢
  have hl : lv_has ls 5 [(0, .ref (ad 0))] := hl
  unfold fr_readMic at h
  refine lv_aload_n hx hb dX12_readMic_0 rfl (lv_at hl 0 rfl) ?_
  refine m_get E G 11 (v := .ref (ad 11)) (by decide) (.tail _ qM_8) rfl dX12_readMic_1 rfl ?_
  refine lv_iconst (v := 4) hx hb dX12_readMic_4 (by decide) ?_
  refine m_iald E G 11 3 (n := 131) (k := 4) rfl rfl (by decide) (by decide) dX12_readMic_5 ?_
  refine lv_topi (fun v2 ev2 => ?_)
  have h := elet_at ev2 h
  clear ev2
  refine lv_istore_n (lv' := [(1, .int v2), (0, .ref (ad 0))]) hx hb dX12_readMic_6 rfl hl (by decide) rfl (fun ls hl => ?_)
  refine lv_iload_n hx hb dX12_readMic_7 rfl (lv_at hl 0 rfl) ?_
  refine lv_bipush (v := 12) hx hb dX12_readMic_8 (by decide) ?_
  refine lv_icmp_ne (tgt := 18) hx hb dX12_readMic_10 (by decide) (fun c3 => ?_) (fun c3 => ?_)
  · have h := oif_neg c3 h
    have hl := lv_sub hl [1, 0] rfl
    exact tr_readMic_b18 E hA hR hml (fun H locs ls G => W.vret hx hb hr (fun t ht hW => ⟨⟨S1, rfl, rfl, ⟨by rw [ht]; exact G.1, va_K.moved hW.alike hK, G.2.1⟩⟩, G.2.2.F ht⟩) G.2.2.2.2 dX12_readMic_60) (fun H locs ls G => W.vret hx hb hr (fun t ht hW => ⟨⟨S1, rfl, rfl, ⟨by rw [ht]; exact G.1, va_K.moved hW.alike hK, G.2.1⟩⟩, G.2.2.F ht⟩) G.2.2.2.2 dX12_readMic_102) _ _ _ _ _ h G hl
  · have h := oif_pos c3 h
    refine lv_aload_n hx hb dX12_readMic_13 rfl (lv_at hl 1 rfl) ?_
    refine lv_iconst (v := 4) hx hb dX12_readMic_14 (by decide) ?_
    obtain ⟨S4, eS4, h⟩ := obind_some h
    refine m_callv (As := [.int 4]) (rest := []) E G hA hR hml (tr_faults l D cI cJ cZ ad S 4 eS4) (cwV 1 hts (gmV qM_118 qM_119 qM_120 qM_35 qM_42) rfl rfl rfl (by decide +kernel) ⟨Nat.le_of_ble_eq_true rfl, Nat.le_of_ble_eq_true rfl⟩) rfl hl.1 rfl (lv_room (Nat.le_of_ble_eq_true rfl)) dX12_readMic_15 ⟨Nat.zero_le _, Nat.zero_le _⟩ (fun S6 H locs hq G => ?_)
    rw [hq] at G
    clear hq eS4
    have hl := lv_sub hl [1, 0] rfl
    exact tr_readMic_b18 E hA hR hml (fun H locs ls G => W.vret hx hb hr (fun t ht hW => ⟨⟨S1, rfl, rfl, ⟨by rw [ht]; exact G.1, va_K.moved hW.alike hK, G.2.1⟩⟩, G.2.2.F ht⟩) G.2.2.2.2 dX12_readMic_60) (fun H locs ls G => W.vret hx hb hr (fun t ht hW => ⟨⟨S1, rfl, rfl, ⟨by rw [ht]; exact G.1, va_K.moved hW.alike hK, G.2.1⟩⟩, G.2.2.F ht⟩) G.2.2.2.2 dX12_readMic_102) _ _ _ _ _ h G hl
def fr_readMap_b15  (S : MS)  : Option (MS) := obind (fr_nextToken S) fun S2 => obind2 (fr_signed S2 (-999) 999) fun r8 S5 => obind2 (fr_signed S5 (-999) 999) fun r12 S9 => obind2 (fr_number S9 1 99) fun r16 S13 => obind2 (fr_number S13 1 12) fun r20 S17 => obind2 (fr_number S17 1 12) fun r24 S21 => elet (S21.1 5) fun v25 => if v25 ≤ 0 then (elet (mf S21 11 (upd (S21.2.1 11) 6 r8)) fun S27 => elet (mf S27 11 (upd (S27.2.1 11) 7 r12)) fun S28 => elet (mf S28 11 (upd (S28.2.1 11) 8 r16)) fun S29 => elet (mf S29 11 (upd (S29.2.1 11) 9 r20)) fun S30 => elet (mf S30 11 (upd (S30.2.1 11) 10 r24)) fun S31 => some S31) else (some S21)
set_option maxHeartbeats 4000000 in
set_option maxRecDepth 100000 in
theorem tr_readMap_b15 {p : Program} {l : Launch} {e : Env} {s : State} {m : MethodId} {args : Array Value} {below : List Frame} {meth : Method} {c : Code} {Q : State → Prop} {D : va_G} {A : Nat → Prop} {H0 : Heap} {cI cJ cZ : ClassId} {ad : Nat → Nat} {S1 : MS} (E : mE p c cX12_readMap s m args (Cond.code yX12_readMap cX12_readMap 6 none :: wsM) D cI cJ cZ) (hA : ∀ q : Nat, H0.size ≤ q → A q) (hR : sR s) (hml : c.maxLocals = 6) (kr74 : ∀ (H : Heap) (locs : List Loc) (ls : Array Slot), mG D cI cJ cZ ad A H0 H locs S1 → W p l e { frames := 5, cells := 0, slots := 0, locals := 90 } s m args below meth c H locs 0 0 Q (F0 m 74 ls [])) (kr117 : ∀ (H : Heap) (locs : List Loc) (ls : Array Slot), mG D cI cJ cZ ad A H0 H locs S1 → W p l e { frames := 5, cells := 0, slots := 0, locals := 90 } s m args below meth c H locs 0 0 Q (F0 m 117 ls [])) : ∀ (S : MS) (H : Heap) (locs : List Loc) (ls : Array Slot), fr_readMap_b15 S = some S1 → mG D cI cJ cZ ad A H0 H locs S → lv_has ls 6 [(0, .ref (ad 0))] → W p l e { frames := 5, cells := 0, slots := 0, locals := 90 } s m args below meth c H locs 0 0 Q (F0 m 15 ls []) := by
  have hx := E.1
  have hb := E.2.1
  have hts := E.2.2.1
  have hown := E.2.2.2.1
  have hK := E.2.2.2.2.1
  intro S H locs ls h G hl
  unfold fr_readMap_b15 at h
  refine lv_aload_n hx hb dX12_readMap_15 rfl (lv_at hl 0 rfl) ?_
  obtain ⟨S2, eS2, h⟩ := obind_some h
  refine m_callv (As := []) (rest := []) E G hA hR hml (tr_nextToken l D cI cJ cZ ad S eS2) (cwV 0 hts (gmV qM_111 qM_112 qM_113 qM_35 qM_45) rfl rfl rfl (by decide +kernel) ⟨Nat.le_of_ble_eq_true rfl, Nat.le_of_ble_eq_true rfl⟩) rfl hl.1 rfl (lv_room (Nat.le_of_ble_eq_true rfl)) dX12_readMap_16 ⟨Nat.zero_le _, Nat.zero_le _⟩ (fun S4 H locs hq G => ?_)
  rw [hq] at G
  clear hq eS2
  refine lv_aload_n hx hb dX12_readMap_19 rfl (lv_at hl 0 rfl) ?_
  refine lv_sipush (v := (-999)) hx hb dX12_readMap_20 (by decide) ?_
  refine lv_sipush (v := 999) hx hb dX12_readMap_23 (by decide) ?_
  obtain ⟨r8, S5, eS5, h⟩ := obind2_some h
  refine m_calli (As := [.int (-999), .int 999]) (rest := []) E G hA hR hml (tr_signed l D cI cJ cZ ad S2 (-999) 999 eS5) (cwV 2 hts (gmV qM_142 qM_143 qM_144 qM_35 qM_133) rfl rfl rfl (by decide +kernel) ⟨Nat.le_of_ble_eq_true rfl, Nat.le_of_ble_eq_true rfl⟩) rfl hl.1 rfl (lv_room (Nat.le_of_ble_eq_true rfl)) dX12_readMap_26 ⟨Nat.zero_le _, Nat.zero_le _⟩ (fun q6 S7 H locs hq G => ?_)
  obtain ⟨hq1, hq2⟩ := hq
  rw [hq2] at G
  refine lv_to hq1 ?_
  clear hq1 hq2 eS5
  refine lv_istore_n (lv' := [(1, .int r8), (0, .ref (ad 0))]) hx hb dX12_readMap_29 rfl hl (by decide) rfl (fun ls hl => ?_)
  refine lv_aload_n hx hb dX12_readMap_30 rfl (lv_at hl 1 rfl) ?_
  refine lv_sipush (v := (-999)) hx hb dX12_readMap_31 (by decide) ?_
  refine lv_sipush (v := 999) hx hb dX12_readMap_34 (by decide) ?_
  obtain ⟨r12, S9, eS9, h⟩ := obind2_some h
  refine m_calli (As := [.int (-999), .int 999]) (rest := []) E G hA hR hml (tr_signed l D cI cJ cZ ad S5 (-999) 999 eS9) (cwV 2 hts (gmV qM_142 qM_143 qM_144 qM_35 qM_133) rfl rfl rfl (by decide +kernel) ⟨Nat.le_of_ble_eq_true rfl, Nat.le_of_ble_eq_true rfl⟩) rfl hl.1 rfl (lv_room (Nat.le_of_ble_eq_true rfl)) dX12_readMap_37 ⟨Nat.zero_le _, Nat.zero_le _⟩ (fun q10 S11 H locs hq G => ?_)
  obtain ⟨hq1, hq2⟩ := hq
  rw [hq2] at G
  refine lv_to hq1 ?_
  clear hq1 hq2 eS9
  refine lv_istore_n (lv' := [(2, .int r12), (1, .int r8), (0, .ref (ad 0))]) hx hb dX12_readMap_40 rfl hl (by decide) rfl (fun ls hl => ?_)
  refine lv_aload_n hx hb dX12_readMap_41 rfl (lv_at hl 2 rfl) ?_
  refine lv_iconst (v := 1) hx hb dX12_readMap_42 (by decide) ?_
  refine lv_bipush (v := 99) hx hb dX12_readMap_43 (by decide) ?_
  obtain ⟨r16, S13, eS13, h⟩ := obind2_some h
  refine m_calli (As := [.int 1, .int 99]) (rest := []) E G hA hR hml (tr_number l D cI cJ cZ ad S9 1 99 eS13) (cwV 2 hts (gmV qM_130 qM_131 qM_132 qM_35 qM_122) rfl rfl rfl (by decide +kernel) ⟨Nat.le_of_ble_eq_true rfl, Nat.le_of_ble_eq_true rfl⟩) rfl hl.1 rfl (lv_room (Nat.le_of_ble_eq_true rfl)) dX12_readMap_45 ⟨Nat.zero_le _, Nat.zero_le _⟩ (fun q14 S15 H locs hq G => ?_)
  obtain ⟨hq1, hq2⟩ := hq
  rw [hq2] at G
  refine lv_to hq1 ?_
  clear hq1 hq2 eS13
  refine lv_istore_n (lv' := [(3, .int r16), (2, .int r12), (1, .int r8), (0, .ref (ad 0))]) hx hb dX12_readMap_48 rfl hl (by decide) rfl (fun ls hl => ?_)
  refine lv_aload_n hx hb dX12_readMap_49 rfl (lv_at hl 3 rfl) ?_
  refine lv_iconst (v := 1) hx hb dX12_readMap_50 (by decide) ?_
  refine lv_bipush (v := 12) hx hb dX12_readMap_51 (by decide) ?_
  obtain ⟨r20, S17, eS17, h⟩ := obind2_some h
  refine m_calli (As := [.int 1, .int 12]) (rest := []) E G hA hR hml (tr_number l D cI cJ cZ ad S13 1 12 eS17) (cwV 2 hts (gmV qM_130 qM_131 qM_132 qM_35 qM_122) rfl rfl rfl (by decide +kernel) ⟨Nat.le_of_ble_eq_true rfl, Nat.le_of_ble_eq_true rfl⟩) rfl hl.1 rfl (lv_room (Nat.le_of_ble_eq_true rfl)) dX12_readMap_53 ⟨Nat.zero_le _, Nat.zero_le _⟩ (fun q18 S19 H locs hq G => ?_)
  obtain ⟨hq1, hq2⟩ := hq
  rw [hq2] at G
  refine lv_to hq1 ?_
  clear hq1 hq2 eS17
  refine lv_istore (lv' := [(4, .int r20), (3, .int r16), (2, .int r12), (1, .int r8), (0, .ref (ad 0))]) hx hb dX12_readMap_56 hl (by decide) rfl (fun ls hl => ?_)
  refine lv_aload_n hx hb dX12_readMap_58 rfl (lv_at hl 4 rfl) ?_
  refine lv_iconst (v := 1) hx hb dX12_readMap_59 (by decide) ?_
  refine lv_bipush (v := 12) hx hb dX12_readMap_60 (by decide) ?_
  obtain ⟨r24, S21, eS21, h⟩ := obind2_some h
  refine m_calli (As := [.int 1, .int 12]) (rest := []) E G hA hR hml (tr_number l D cI cJ cZ ad S17 1 12 eS21) (cwV 2 hts (gmV qM_130 qM_131 qM_132 qM_35 qM_122) rfl rfl rfl (by decide +kernel) ⟨Nat.le_of_ble_eq_true rfl, Nat.le_of_ble_eq_true rfl⟩) rfl hl.1 rfl (lv_room (Nat.le_of_ble_eq_true rfl)) dX12_readMap_62 ⟨Nat.zero_le _, Nat.zero_le _⟩ (fun q22 S23 H locs hq G => ?_)
  obtain ⟨hq1, hq2⟩ := hq
  rw [hq2] at G
  refine lv_to hq1 ?_
  clear hq1 hq2 eS21
  refine lv_istore (lv' := [(5, .int r24), (4, .int r20), (3, .int r16), (2, .int r12), (1, .int r8), (0, .ref (ad 0))]) hx hb dX12_readMap_65 hl (by decide) rfl (fun ls hl => ?_)
  refine lv_aload_n hx hb dX12_readMap_67 rfl (lv_at hl 5 rfl) ?_
  refine m_get E G 5 (v := .int (S21.1 5)) (by decide) (.tail _ qM_38) rfl dX12_readMap_68 rfl ?_
  refine lv_topi (fun v25 ev25 => ?_)
  have h := elet_at ev25 h
  clear ev25
  refine lv_if_le (tgt := 75) hx hb dX12_readMap_71 (by decide) (fun c26 => ?_) (fun c26 => ?_)
  · have h := oif_pos c26 h
    refine lv_aload_n hx hb dX12_readMap_75 rfl (lv_at hl 5 rfl) ?_
    refine m_get E G 11 (v := .ref (ad 11)) (by decide) (.tail _ qM_8) rfl dX12_readMap_76 rfl ?_
    refine lv_bipush (v := 6) hx hb dX12_readMap_79 (by decide) ?_
    refine lv_iload_n hx hb dX12_readMap_81 rfl (lv_at hl 4 rfl) ?_
    refine m_iast E G 11 3 (k := 6) (v := r8) rfl (fun _ => rfl) rfl (by decide) (by decide) dX12_readMap_82 (fun H locs G => ?_)
    obtain ⟨S27, eS27, h⟩ := elet_some h
    rw [← eS27] at G
    clear eS27
    refine lv_aload_n hx hb dX12_readMap_83 rfl (lv_at hl 5 rfl) ?_
    refine m_get E G 11 (v := .ref (ad 11)) (by decide) (.tail _ qM_8) rfl dX12_readMap_84 rfl ?_
    refine lv_bipush (v := 7) hx hb dX12_readMap_87 (by decide) ?_
    refine lv_iload_n hx hb dX12_readMap_89 rfl (lv_at hl 3 rfl) ?_
    refine m_iast E G 11 3 (k := 7) (v := r12) rfl (fun _ => rfl) rfl (by decide) (by decide) dX12_readMap_90 (fun H locs G => ?_)
    obtain ⟨S28, eS28, h⟩ := elet_some h
    rw [← eS28] at G
    clear eS28
    refine lv_aload_n hx hb dX12_readMap_91 rfl (lv_at hl 5 rfl) ?_
    refine m_get E G 11 (v := .ref (ad 11)) (by decide) (.tail _ qM_8) rfl dX12_readMap_92 rfl ?_
    refine lv_bipush (v := 8) hx hb dX12_readMap_95 (by decide) ?_
    refine lv_iload_n hx hb dX12_readMap_97 rfl (lv_at hl 2 rfl) ?_
    refine m_iast E G 11 3 (k := 8) (v := r16) rfl (fun _ => rfl) rfl (by decide) (by decide) dX12_readMap_98 (fun H locs G => ?_)
    obtain ⟨S29, eS29, h⟩ := elet_some h
    rw [← eS29] at G
    clear eS29
    refine lv_aload_n hx hb dX12_readMap_99 rfl (lv_at hl 5 rfl) ?_
    refine m_get E G 11 (v := .ref (ad 11)) (by decide) (.tail _ qM_8) rfl dX12_readMap_100 rfl ?_
    refine lv_bipush (v := 9) hx hb dX12_readMap_103 (by decide) ?_
    refine lv_iload hx hb dX12_readMap_105 (lv_at hl 1 rfl) ?_
    refine m_iast E G 11 3 (k := 9) (v := r20) rfl (fun _ => rfl) rfl (by decide) (by decide) dX12_readMap_107 (fun H locs G => ?_)
    obtain ⟨S30, eS30, h⟩ := elet_some h
    rw [← eS30] at G
    clear eS30
    refine lv_aload_n hx hb dX12_readMap_108 rfl (lv_at hl 5 rfl) ?_
    refine m_get E G 11 (v := .ref (ad 11)) (by decide) (.tail _ qM_8) rfl dX12_readMap_109 rfl ?_
    refine lv_bipush (v := 10) hx hb dX12_readMap_112 (by decide) ?_
    refine lv_iload hx hb dX12_readMap_114 (lv_at hl 0 rfl) ?_
    refine m_iast E G 11 3 (k := 10) (v := r24) rfl (fun _ => rfl) rfl (by decide) (by decide) dX12_readMap_116 (fun H locs G => ?_)
    obtain ⟨S31, eS31, h⟩ := elet_some h
    rw [← eS31] at G
    clear eS31
    rw [osome1 h] at G
    exact kr117 _ _ _ G
  · have h := oif_neg c26 h
    rw [osome1 h] at G
    exact kr74 _ _ _ G
def fr_readMap (S : MS)  : Option (MS) := elet (S.2.1 11 8) fun v2 => if v2 ≤ 0 then (fr_readMap_b15 S) else (obind (fr_faults S 3) fun S4 => fr_readMap_b15 S4)
set_option maxHeartbeats 4000000 in
set_option maxRecDepth 100000 in
theorem tr_readMap (l : Launch) (D : va_G) (cI cJ cZ : ClassId) (ad : Nat → Nat) (S : MS)  {S1 : MS} (h : fr_readMap S = some S1) : mCv l yX12_readMap (Cond.code yX12_readMap cX12_readMap 6 none :: wsM) 5 90 D cI cJ cZ ad S [] (fun S9 => S9 = S1) := by
  intro sz
  refine Met.ofW (cc := cX12_readMap) (maxL := 6) (ret := none) (by decide) rfl ?_
  intro p e s m args below meth c s₁ B hml hv
  obtain ⟨rfl, hsz, hP, hK, hD0, hR⟩ := hv
  have hx := B.exec
  have hb := B.bytes
  have hr := B.returns
  have hts := atoms_spec (ws := (Cond.code yX12_readMap cX12_readMap 6 none :: wsM)) B.pre
  have hown : s.vm.findClass RX12 = some m.cls := findClass_of_methodNamed B.named
  have hlocks := B.notSynchronized
  subst hsz
  have hD := hD0.self (sz := s.heap.size)
  generalize hAe : va_A (MW cI cJ cZ ad S) s.heap.size = A at hD ⊢
  have hA : ∀ q : Nat, s.heap.size ≤ q → A q := fun q h => by rw [← hAe]; exact Or.inr h
  have G : mG D cI cJ cZ ad A s.heap s.heap [] S := ⟨hP, hD, va_S.rf⟩
  have E : mE p c cX12_readMap s m ([.ref (ad 0)] : List Value).toArray (Cond.code yX12_readMap cX12_readMap 6 none :: wsM) D cI cJ cZ := ⟨hx, hb, hts, hown, hK, fun w h => .tail _ (iM_x h)⟩
  have hl := lv_entry ([.ref (ad 0)]) (n := 6) (Nat.le_of_ble_eq_true rfl)
  rw [lg_entry_eq]
  generalize (lg_sl ([.ref (ad 0)]) ++ List.replicate (6 - (lg_sl ([.ref (ad 0)])).length) Slot.unset).toArray = ls at hl ⊢
  have hl : lv_has ls 6 [(0, .ref (ad 0))] := hl
  unfold fr_readMap at h
  refine lv_aload_n hx hb dX12_readMap_0 rfl (lv_at hl 0 rfl) ?_
  refine m_get E G 11 (v := .ref (ad 11)) (by decide) (.tail _ qM_8) rfl dX12_readMap_1 rfl ?_
  refine lv_bipush (v := 8) hx hb dX12_readMap_4 (by decide) ?_
  refine m_iald E G 11 3 (n := 131) (k := 8) rfl rfl (by decide) (by decide) dX12_readMap_6 ?_
  refine lv_topi (fun v2 ev2 => ?_)
  have h := elet_at ev2 h
  clear ev2
  refine lv_if_le (tgt := 15) hx hb dX12_readMap_7 (by decide) (fun c3 => ?_) (fun c3 => ?_)
  · have h := oif_pos c3 h
    have hl := lv_sub hl [0] rfl
    exact tr_readMap_b15 E hA hR hml (fun H locs ls G => W.vret hx hb hr (fun t ht hW => ⟨⟨S1, rfl, rfl, ⟨by rw [ht]; exact G.1, va_K.moved hW.alike hK, G.2.1⟩⟩, G.2.2.F ht⟩) G.2.2.2.2 dX12_readMap_74) (fun H locs ls G => W.vret hx hb hr (fun t ht hW => ⟨⟨S1, rfl, rfl, ⟨by rw [ht]; exact G.1, va_K.moved hW.alike hK, G.2.1⟩⟩, G.2.2.F ht⟩) G.2.2.2.2 dX12_readMap_117) _ _ _ _ h G hl
  · have h := oif_neg c3 h
    refine lv_aload_n hx hb dX12_readMap_10 rfl (lv_at hl 0 rfl) ?_
    refine lv_iconst (v := 3) hx hb dX12_readMap_11 (by decide) ?_
    obtain ⟨S4, eS4, h⟩ := obind_some h
    refine m_callv (As := [.int 3]) (rest := []) E G hA hR hml (tr_faults l D cI cJ cZ ad S 3 eS4) (cwV 1 hts (gmV qM_118 qM_119 qM_120 qM_35 qM_42) rfl rfl rfl (by decide +kernel) ⟨Nat.le_of_ble_eq_true rfl, Nat.le_of_ble_eq_true rfl⟩) rfl hl.1 rfl (lv_room (Nat.le_of_ble_eq_true rfl)) dX12_readMap_12 ⟨Nat.zero_le _, Nat.zero_le _⟩ (fun S6 H locs hq G => ?_)
    rw [hq] at G
    clear hq eS4
    have hl := lv_sub hl [0] rfl
    exact tr_readMap_b15 E hA hR hml (fun H locs ls G => W.vret hx hb hr (fun t ht hW => ⟨⟨S1, rfl, rfl, ⟨by rw [ht]; exact G.1, va_K.moved hW.alike hK, G.2.1⟩⟩, G.2.2.F ht⟩) G.2.2.2.2 dX12_readMap_74) (fun H locs ls G => W.vret hx hb hr (fun t ht hW => ⟨⟨S1, rfl, rfl, ⟨by rw [ht]; exact G.1, va_K.moved hW.alike hK, G.2.1⟩⟩, G.2.2.F ht⟩) G.2.2.2.2 dX12_readMap_117) _ _ _ _ h G hl
def fr_readSource_b186  (S : MS) (s0 : Int32) (l1 : Int32) (l2 : Int32) (l3 : Int32) (l4 : Int32) (l5 : Int32) (l6 : Int32) (l7 : Int32) (l8 : Int32) (l9 : Int32) : Option (MS) := elet (S.1 5) fun v2 => if v2 ≤ 0 then (elet (95 + l1) fun v4 => oif (inb v4 131 = true) <| elet (mf S 11 (upd (S.2.1 11) v4.toNatClampNeg s0)) fun S6 => elet (25 + l1) fun v7 => oif (inb v7 2455 = true) <| elet (mf S6 13 (upd (S6.2.1 13) v7.toNatClampNeg 1)) fun S9 => elet (31 + l1) fun v10 => oif (inb v10 2455 = true) <| elet (mf S9 13 (upd (S9.2.1 13) v10.toNatClampNeg l3)) fun S12 => elet (37 + l1) fun v13 => oif (inb v13 2455 = true) <| elet (mf S12 13 (upd (S12.2.1 13) v13.toNatClampNeg l4)) fun S15 => elet (43 + l1) fun v16 => oif (inb v16 2455 = true) <| elet (mf S15 13 (upd (S15.2.1 13) v16.toNatClampNeg l5)) fun S18 => elet (49 + l1) fun v19 => oif (inb v19 2455 = true) <| elet (mf S18 13 (upd (S18.2.1 13) v19.toNatClampNeg l6)) fun S21 => elet (47 + l1) fun v22 => oif (inb v22 131 = true) <| elet (mf S21 11 (upd (S21.2.1 11) v22.toNatClampNeg l2)) fun S24 => elet (53 + l1) fun v25 => oif (inb v25 131 = true) <| elet (mf S24 11 (upd (S24.2.1 11) v25.toNatClampNeg l7)) fun S27 => elet (59 + l1) fun v28 => oif (inb v28 131 = true) <| elet (mf S27 11 (upd (S27.2.1 11) v28.toNatClampNeg l8)) fun S30 => elet (65 + l1) fun v31 => oif (inb v31 131 = true) <| elet (mf S30 11 (upd (S30.2.1 11) v31.toNatClampNeg l9)) fun S33 => elet (S33.2.1 11 5) fun v34 => elet (v34 + 1) fun v35 => elet (mf S33 11 (upd (S33.2.1 11) 5 v35)) fun S36 => some S36) else (some S)
set_option maxHeartbeats 4000000 in
set_option maxRecDepth 100000 in
theorem tr_readSource_b186 {p : Program} {l : Launch} {e : Env} {s : State} {m : MethodId} {args : Array Value} {below : List Frame} {meth : Method} {c : Code} {Q : State → Prop} {D : va_G} {A : Nat → Prop} {cI cJ cZ : ClassId} {ad : Nat → Nat} {S1 : MS} (E : mE p c cX12_readSource s m args (Cond.code yX12_readSource cX12_readSource 11 none :: wsM) D cI cJ cZ) (hA : ∀ q : Nat, s.heap.size ≤ q → A q) (hR : sR s) (hml : c.maxLocals = 11) {h0 : Nat} (hA0 : ∀ a : Nat, A a → h0 ≤ a) (hT : sAll h0 s) (kr195 : ∀ (H : Heap) (locs : List Loc) (ls : Array Slot), mG D cI cJ cZ ad A s.heap H locs S1 → W p l e { frames := 7, cells := 0, slots := 0, locals := 131 } s m args below meth c H locs 0 0 Q (F0 m 195 ls [])) (kr313 : ∀ (H : Heap) (locs : List Loc) (ls : Array Slot), mG D cI cJ cZ ad A s.heap H locs S1 → W p l e { frames := 7, cells := 0, slots := 0, locals := 131 } s m args below meth c H locs 0 0 Q (F0 m 313 ls [])) : ∀ (S : MS) (H : Heap) (locs : List Loc) (ls : Array Slot) (s0 : Int32) (l1 : Int32) (l2 : Int32) (l3 : Int32) (l4 : Int32) (l5 : Int32) (l6 : Int32) (l7 : Int32) (l8 : Int32) (l9 : Int32), fr_readSource_b186 S s0 l1 l2 l3 l4 l5 l6 l7 l8 l9 = some S1 → mG D cI cJ cZ ad A s.heap H locs S → lv_has ls 11 [(0, .ref (ad 0)), (1, .int l1), (2, .int l2), (3, .int l3), (4, .int l4), (5, .int l5), (6, .int l6), (7, .int l7), (8, .int l8), (9, .int l9)] → W p l e { frames := 7, cells := 0, slots := 0, locals := 131 } s m args below meth c H locs 0 0 Q (F0 m 186 ls [.int s0]) := by
  have hx := E.1
  have hb := E.2.1
  have hts := E.2.2.1
  have hown := E.2.2.2.1
  have hK := E.2.2.2.2.1
  intro S H locs ls s0 l1 l2 l3 l4 l5 l6 l7 l8 l9 h G hl
  unfold fr_readSource_b186 at h
  refine lv_istore (lv' := [(10, .int s0), (0, .ref (ad 0)), (1, .int l1), (2, .int l2), (3, .int l3), (4, .int l4), (5, .int l5), (6, .int l6), (7, .int l7), (8, .int l8), (9, .int l9)]) hx hb dX12_readSource_186 hl (by decide) rfl (fun ls hl => ?_)
  refine lv_aload_n hx hb dX12_readSource_188 rfl (lv_at hl 1 rfl) ?_
  refine m_get E G 5 (v := .int (S.1 5)) (by decide) (.tail _ qM_38) rfl dX12_readSource_189 rfl ?_
  refine lv_topi (fun v2 ev2 => ?_)
  have h := elet_at ev2 h
  clear ev2
  refine lv_if_le (tgt := 196) hx hb dX12_readSource_192 (by decide) (fun c3 => ?_) (fun c3 => ?_)
  · have h := oif_pos c3 h
    refine lv_aload_n hx hb dX12_readSource_196 rfl (lv_at hl 1 rfl) ?_
    refine m_get E G 11 (v := .ref (ad 11)) (by decide) (.tail _ qM_8) rfl dX12_readSource_197 rfl ?_
    refine lv_bipush (v := 95) hx hb dX12_readSource_200 (by decide) ?_
    refine lv_iload_n hx hb dX12_readSource_202 rfl (lv_at hl 2 rfl) ?_
    refine lv_iadd hx hb dX12_readSource_203 ?_
    refine lv_topi (fun v4 ev4 => ?_)
    have h := elet_at ev4 h
    clear ev4
    refine lv_iload hx hb dX12_readSource_204 (lv_at hl 0 rfl) ?_
    obtain ⟨g5, h⟩ := oif_some h
    refine m_iast E G 11 3 (k := v4.toNatClampNeg) (v := s0) rfl (fun _ => rfl) (inb_k g5).1 (inb_k g5).2 (by decide) dX12_readSource_206 (fun H locs G => ?_)
    obtain ⟨S6, eS6, h⟩ := elet_some h
    rw [← eS6] at G
    clear eS6
    refine lv_aload_n hx hb dX12_readSource_207 rfl (lv_at hl 1 rfl) ?_
    refine m_get E G 13 (v := .ref (ad 13)) (by decide) (.tail _ qM_10) rfl dX12_readSource_208 rfl ?_
    refine lv_bipush (v := 25) hx hb dX12_readSource_211 (by decide) ?_
    refine lv_iload_n hx hb dX12_readSource_213 rfl (lv_at hl 2 rfl) ?_
    refine lv_iadd hx hb dX12_readSource_214 ?_
    refine lv_topi (fun v7 ev7 => ?_)
    have h := elet_at ev7 h
    clear ev7
    refine lv_iconst (v := 1) hx hb dX12_readSource_215 (by decide) ?_
    obtain ⟨g8, h⟩ := oif_some h
    refine m_iast E G 13 5 (k := v7.toNatClampNeg) (v := 1) rfl (fun _ => rfl) (inb_k g8).1 (inb_k g8).2 (by decide) dX12_readSource_216 (fun H locs G => ?_)
    obtain ⟨S9, eS9, h⟩ := elet_some h
    rw [← eS9] at G
    clear eS9
    refine lv_aload_n hx hb dX12_readSource_217 rfl (lv_at hl 1 rfl) ?_
    refine m_get E G 13 (v := .ref (ad 13)) (by decide) (.tail _ qM_10) rfl dX12_readSource_218 rfl ?_
    refine lv_bipush (v := 31) hx hb dX12_readSource_221 (by decide) ?_
    refine lv_iload_n hx hb dX12_readSource_223 rfl (lv_at hl 2 rfl) ?_
    refine lv_iadd hx hb dX12_readSource_224 ?_
    refine lv_topi (fun v10 ev10 => ?_)
    have h := elet_at ev10 h
    clear ev10
    refine lv_iload_n hx hb dX12_readSource_225 rfl (lv_at hl 4 rfl) ?_
    obtain ⟨g11, h⟩ := oif_some h
    refine m_iast E G 13 5 (k := v10.toNatClampNeg) (v := l3) rfl (fun _ => rfl) (inb_k g11).1 (inb_k g11).2 (by decide) dX12_readSource_226 (fun H locs G => ?_)
    obtain ⟨S12, eS12, h⟩ := elet_some h
    rw [← eS12] at G
    clear eS12
    refine lv_aload_n hx hb dX12_readSource_227 rfl (lv_at hl 1 rfl) ?_
    refine m_get E G 13 (v := .ref (ad 13)) (by decide) (.tail _ qM_10) rfl dX12_readSource_228 rfl ?_
    refine lv_bipush (v := 37) hx hb dX12_readSource_231 (by decide) ?_
    refine lv_iload_n hx hb dX12_readSource_233 rfl (lv_at hl 2 rfl) ?_
    refine lv_iadd hx hb dX12_readSource_234 ?_
    refine lv_topi (fun v13 ev13 => ?_)
    have h := elet_at ev13 h
    clear ev13
    refine lv_iload hx hb dX12_readSource_235 (lv_at hl 5 rfl) ?_
    obtain ⟨g14, h⟩ := oif_some h
    refine m_iast E G 13 5 (k := v13.toNatClampNeg) (v := l4) rfl (fun _ => rfl) (inb_k g14).1 (inb_k g14).2 (by decide) dX12_readSource_237 (fun H locs G => ?_)
    obtain ⟨S15, eS15, h⟩ := elet_some h
    rw [← eS15] at G
    clear eS15
    refine lv_aload_n hx hb dX12_readSource_238 rfl (lv_at hl 1 rfl) ?_
    refine m_get E G 13 (v := .ref (ad 13)) (by decide) (.tail _ qM_10) rfl dX12_readSource_239 rfl ?_
    refine lv_bipush (v := 43) hx hb dX12_readSource_242 (by decide) ?_
    refine lv_iload_n hx hb dX12_readSource_244 rfl (lv_at hl 2 rfl) ?_
    refine lv_iadd hx hb dX12_readSource_245 ?_
    refine lv_topi (fun v16 ev16 => ?_)
    have h := elet_at ev16 h
    clear ev16
    refine lv_iload hx hb dX12_readSource_246 (lv_at hl 6 rfl) ?_
    obtain ⟨g17, h⟩ := oif_some h
    refine m_iast E G 13 5 (k := v16.toNatClampNeg) (v := l5) rfl (fun _ => rfl) (inb_k g17).1 (inb_k g17).2 (by decide) dX12_readSource_248 (fun H locs G => ?_)
    obtain ⟨S18, eS18, h⟩ := elet_some h
    rw [← eS18] at G
    clear eS18
    refine lv_aload_n hx hb dX12_readSource_249 rfl (lv_at hl 1 rfl) ?_
    refine m_get E G 13 (v := .ref (ad 13)) (by decide) (.tail _ qM_10) rfl dX12_readSource_250 rfl ?_
    refine lv_bipush (v := 49) hx hb dX12_readSource_253 (by decide) ?_
    refine lv_iload_n hx hb dX12_readSource_255 rfl (lv_at hl 2 rfl) ?_
    refine lv_iadd hx hb dX12_readSource_256 ?_
    refine lv_topi (fun v19 ev19 => ?_)
    have h := elet_at ev19 h
    clear ev19
    refine lv_iload hx hb dX12_readSource_257 (lv_at hl 7 rfl) ?_
    obtain ⟨g20, h⟩ := oif_some h
    refine m_iast E G 13 5 (k := v19.toNatClampNeg) (v := l6) rfl (fun _ => rfl) (inb_k g20).1 (inb_k g20).2 (by decide) dX12_readSource_259 (fun H locs G => ?_)
    obtain ⟨S21, eS21, h⟩ := elet_some h
    rw [← eS21] at G
    clear eS21
    refine lv_aload_n hx hb dX12_readSource_260 rfl (lv_at hl 1 rfl) ?_
    refine m_get E G 11 (v := .ref (ad 11)) (by decide) (.tail _ qM_8) rfl dX12_readSource_261 rfl ?_
    refine lv_bipush (v := 47) hx hb dX12_readSource_264 (by decide) ?_
    refine lv_iload_n hx hb dX12_readSource_266 rfl (lv_at hl 2 rfl) ?_
    refine lv_iadd hx hb dX12_readSource_267 ?_
    refine lv_topi (fun v22 ev22 => ?_)
    have h := elet_at ev22 h
    clear ev22
    refine lv_iload_n hx hb dX12_readSource_268 rfl (lv_at hl 3 rfl) ?_
    obtain ⟨g23, h⟩ := oif_some h
    refine m_iast E G 11 3 (k := v22.toNatClampNeg) (v := l2) rfl (fun _ => rfl) (inb_k g23).1 (inb_k g23).2 (by decide) dX12_readSource_269 (fun H locs G => ?_)
    obtain ⟨S24, eS24, h⟩ := elet_some h
    rw [← eS24] at G
    clear eS24
    refine lv_aload_n hx hb dX12_readSource_270 rfl (lv_at hl 1 rfl) ?_
    refine m_get E G 11 (v := .ref (ad 11)) (by decide) (.tail _ qM_8) rfl dX12_readSource_271 rfl ?_
    refine lv_bipush (v := 53) hx hb dX12_readSource_274 (by decide) ?_
    refine lv_iload_n hx hb dX12_readSource_276 rfl (lv_at hl 2 rfl) ?_
    refine lv_iadd hx hb dX12_readSource_277 ?_
    refine lv_topi (fun v25 ev25 => ?_)
    have h := elet_at ev25 h
    clear ev25
    refine lv_iload hx hb dX12_readSource_278 (lv_at hl 8 rfl) ?_
    obtain ⟨g26, h⟩ := oif_some h
    refine m_iast E G 11 3 (k := v25.toNatClampNeg) (v := l7) rfl (fun _ => rfl) (inb_k g26).1 (inb_k g26).2 (by decide) dX12_readSource_280 (fun H locs G => ?_)
    obtain ⟨S27, eS27, h⟩ := elet_some h
    rw [← eS27] at G
    clear eS27
    refine lv_aload_n hx hb dX12_readSource_281 rfl (lv_at hl 1 rfl) ?_
    refine m_get E G 11 (v := .ref (ad 11)) (by decide) (.tail _ qM_8) rfl dX12_readSource_282 rfl ?_
    refine lv_bipush (v := 59) hx hb dX12_readSource_285 (by decide) ?_
    refine lv_iload_n hx hb dX12_readSource_287 rfl (lv_at hl 2 rfl) ?_
    refine lv_iadd hx hb dX12_readSource_288 ?_
    refine lv_topi (fun v28 ev28 => ?_)
    have h := elet_at ev28 h
    clear ev28
    refine lv_iload hx hb dX12_readSource_289 (lv_at hl 9 rfl) ?_
    obtain ⟨g29, h⟩ := oif_some h
    refine m_iast E G 11 3 (k := v28.toNatClampNeg) (v := l8) rfl (fun _ => rfl) (inb_k g29).1 (inb_k g29).2 (by decide) dX12_readSource_291 (fun H locs G => ?_)
    obtain ⟨S30, eS30, h⟩ := elet_some h
    rw [← eS30] at G
    clear eS30
    refine lv_aload_n hx hb dX12_readSource_292 rfl (lv_at hl 1 rfl) ?_
    refine m_get E G 11 (v := .ref (ad 11)) (by decide) (.tail _ qM_8) rfl dX12_readSource_293 rfl ?_
    refine lv_bipush (v := 65) hx hb dX12_readSource_296 (by decide) ?_
    refine lv_iload_n hx hb dX12_readSource_298 rfl (lv_at hl 2 rfl) ?_
    refine lv_iadd hx hb dX12_readSource_299 ?_
    refine lv_topi (fun v31 ev31 => ?_)
    have h := elet_at ev31 h
    clear ev31
    refine lv_iload hx hb dX12_readSource_300 (lv_at hl 10 rfl) ?_
    obtain ⟨g32, h⟩ := oif_some h
    refine m_iast E G 11 3 (k := v31.toNatClampNeg) (v := l9) rfl (fun _ => rfl) (inb_k g32).1 (inb_k g32).2 (by decide) dX12_readSource_302 (fun H locs G => ?_)
    obtain ⟨S33, eS33, h⟩ := elet_some h
    rw [← eS33] at G
    clear eS33
    refine lv_aload_n hx hb dX12_readSource_303 rfl (lv_at hl 1 rfl) ?_
    refine m_get E G 11 (v := .ref (ad 11)) (by decide) (.tail _ qM_8) rfl dX12_readSource_304 rfl ?_
    refine lv_iconst (v := 5) hx hb dX12_readSource_307 (by decide) ?_
    refine lv_dup2_11 hx hb dX12_readSource_308 rfl rfl ?_
    refine m_iald E G 11 3 (n := 131) (k := 5) rfl rfl (by decide) (by decide) dX12_readSource_309 ?_
    refine lv_topi (fun v34 ev34 => ?_)
    have h := elet_at ev34 h
    clear ev34
    refine lv_iconst (v := 1) hx hb dX12_readSource_310 (by decide) ?_
    refine lv_iadd hx hb dX12_readSource_311 ?_
    refine lv_topi (fun v35 ev35 => ?_)
    have h := elet_at ev35 h
    clear ev35
    refine m_iast E G 11 3 (k := 5) (v := v35) rfl (fun _ => rfl) rfl (by decide) (by decide) dX12_readSource_312 (fun H locs G => ?_)
    obtain ⟨S36, eS36, h⟩ := elet_some h
    rw [← eS36] at G
    clear eS36
    rw [osome1 h] at G
    exact kr313 _ _ _ G
  · have h := oif_neg c3 h
    rw [osome1 h] at G
    exact kr195 _ _ _ G
def fr_readSource_b86  (S : MS) (l1 : Int32) (l2 : Int32) : Option (MS) := obind (fr_nextToken S) fun S2 => obind2 (fr_signed S2 (-2000) 2000) fun r8 S5 => obind2 (fr_signed S5 (-2000) 2000) fun r12 S9 => obind2 (fr_signed S9 (-999) 999) fun r16 S13 => obind2 (fr_signed S13 (-999) 999) fun r20 S17 => obind2 (fr_number S17 1 999) fun r24 S21 => obind2 (fr_number S21 2 99) fun r28 S25 => obind2 (fr_number S25 0 99) fun r32 S29 => obind2 (fr_takes S29 (sTx "from")) fun r37 S34 => if r37 = 0 then (fr_readSource_b186 S34 0 l1 l2 r8 r12 r16 r20 r24 r28 r32) else (obind2 (fr_number S34 0 199) fun r42 S39 => fr_readSource_b186 S39 r42 l1 l2 r8 r12 r16 r20 r24 r28 r32)
set_option maxHeartbeats 4000000 in
set_option maxRecDepth 100000 in
theorem tr_readSource_b86 {p : Program} {l : Launch} {e : Env} {s : State} {m : MethodId} {args : Array Value} {below : List Frame} {meth : Method} {c : Code} {Q : State → Prop} {D : va_G} {A : Nat → Prop} {cI cJ cZ : ClassId} {ad : Nat → Nat} {S1 : MS} (E : mE p c cX12_readSource s m args (Cond.code yX12_readSource cX12_readSource 11 none :: wsM) D cI cJ cZ) (hA : ∀ q : Nat, s.heap.size ≤ q → A q) (hR : sR s) (hml : c.maxLocals = 11) {h0 : Nat} (hA0 : ∀ a : Nat, A a → h0 ≤ a) (hT : sAll h0 s) (kr195 : ∀ (H : Heap) (locs : List Loc) (ls : Array Slot), mG D cI cJ cZ ad A s.heap H locs S1 → W p l e { frames := 7, cells := 0, slots := 0, locals := 131 } s m args below meth c H locs 0 0 Q (F0 m 195 ls [])) (kr313 : ∀ (H : Heap) (locs : List Loc) (ls : Array Slot), mG D cI cJ cZ ad A s.heap H locs S1 → W p l e { frames := 7, cells := 0, slots := 0, locals := 131 } s m args below meth c H locs 0 0 Q (F0 m 313 ls [])) : ∀ (S : MS) (H : Heap) (locs : List Loc) (ls : Array Slot) (l1 : Int32) (l2 : Int32), fr_readSource_b86 S l1 l2 = some S1 → mG D cI cJ cZ ad A s.heap H locs S → lv_has ls 11 [(0, .ref (ad 0)), (1, .int l1), (2, .int l2)] → W p l e { frames := 7, cells := 0, slots := 0, locals := 131 } s m args below meth c H locs 0 0 Q (F0 m 86 ls []) := by
  have hx := E.1
  have hb := E.2.1
  have hts := E.2.2.1
  have hown := E.2.2.2.1
  have hK := E.2.2.2.2.1
  intro S H locs ls l1 l2 h G hl
  unfold fr_readSource_b86 at h
  refine lv_aload_n hx hb dX12_readSource_86 rfl (lv_at hl 0 rfl) ?_
  obtain ⟨S2, eS2, h⟩ := obind_some h
  refine m_callv (As := []) (rest := []) E G hA hR hml (tr_nextToken l D cI cJ cZ ad S eS2) (cwV 0 hts (gmV qM_111 qM_112 qM_113 qM_35 qM_45) rfl rfl rfl (by decide +kernel) ⟨Nat.le_of_ble_eq_true rfl, Nat.le_of_ble_eq_true rfl⟩) rfl hl.1 rfl (lv_room (Nat.le_of_ble_eq_true rfl)) dX12_readSource_87 ⟨Nat.zero_le _, Nat.zero_le _⟩ (fun S4 H locs hq G => ?_)
  rw [hq] at G
  clear hq eS2
  refine lv_aload_n hx hb dX12_readSource_90 rfl (lv_at hl 0 rfl) ?_
  refine lv_sipush (v := (-2000)) hx hb dX12_readSource_91 (by decide) ?_
  refine lv_sipush (v := 2000) hx hb dX12_readSource_94 (by decide) ?_
  obtain ⟨r8, S5, eS5, h⟩ := obind2_some h
  refine m_calli (As := [.int (-2000), .int 2000]) (rest := []) E G hA hR hml (tr_signed l D cI cJ cZ ad S2 (-2000) 2000 eS5) (cwV 2 hts (gmV qM_142 qM_143 qM_144 qM_35 qM_133) rfl rfl rfl (by decide +kernel) ⟨Nat.le_of_ble_eq_true rfl, Nat.le_of_ble_eq_true rfl⟩) rfl hl.1 rfl (lv_room (Nat.le_of_ble_eq_true rfl)) dX12_readSource_97 ⟨Nat.zero_le _, Nat.zero_le _⟩ (fun q6 S7 H locs hq G => ?_)
  obtain ⟨hq1, hq2⟩ := hq
  rw [hq2] at G
  refine lv_to hq1 ?_
  clear hq1 hq2 eS5
  refine lv_istore_n (lv' := [(3, .int r8), (0, .ref (ad 0)), (1, .int l1), (2, .int l2)]) hx hb dX12_readSource_100 rfl hl (by decide) rfl (fun ls hl => ?_)
  refine lv_aload_n hx hb dX12_readSource_101 rfl (lv_at hl 1 rfl) ?_
  refine lv_sipush (v := (-2000)) hx hb dX12_readSource_102 (by decide) ?_
  refine lv_sipush (v := 2000) hx hb dX12_readSource_105 (by decide) ?_
  obtain ⟨r12, S9, eS9, h⟩ := obind2_some h
  refine m_calli (As := [.int (-2000), .int 2000]) (rest := []) E G hA hR hml (tr_signed l D cI cJ cZ ad S5 (-2000) 2000 eS9) (cwV 2 hts (gmV qM_142 qM_143 qM_144 qM_35 qM_133) rfl rfl rfl (by decide +kernel) ⟨Nat.le_of_ble_eq_true rfl, Nat.le_of_ble_eq_true rfl⟩) rfl hl.1 rfl (lv_room (Nat.le_of_ble_eq_true rfl)) dX12_readSource_108 ⟨Nat.zero_le _, Nat.zero_le _⟩ (fun q10 S11 H locs hq G => ?_)
  obtain ⟨hq1, hq2⟩ := hq
  rw [hq2] at G
  refine lv_to hq1 ?_
  clear hq1 hq2 eS9
  refine lv_istore (lv' := [(4, .int r12), (3, .int r8), (0, .ref (ad 0)), (1, .int l1), (2, .int l2)]) hx hb dX12_readSource_111 hl (by decide) rfl (fun ls hl => ?_)
  refine lv_aload_n hx hb dX12_readSource_113 rfl (lv_at hl 2 rfl) ?_
  refine lv_sipush (v := (-999)) hx hb dX12_readSource_114 (by decide) ?_
  refine lv_sipush (v := 999) hx hb dX12_readSource_117 (by decide) ?_
  obtain ⟨r16, S13, eS13, h⟩ := obind2_some h
  refine m_calli (As := [.int (-999), .int 999]) (rest := []) E G hA hR hml (tr_signed l D cI cJ cZ ad S9 (-999) 999 eS13) (cwV 2 hts (gmV qM_142 qM_143 qM_144 qM_35 qM_133) rfl rfl rfl (by decide +kernel) ⟨Nat.le_of_ble_eq_true rfl, Nat.le_of_ble_eq_true rfl⟩) rfl hl.1 rfl (lv_room (Nat.le_of_ble_eq_true rfl)) dX12_readSource_120 ⟨Nat.zero_le _, Nat.zero_le _⟩ (fun q14 S15 H locs hq G => ?_)
  obtain ⟨hq1, hq2⟩ := hq
  rw [hq2] at G
  refine lv_to hq1 ?_
  clear hq1 hq2 eS13
  refine lv_istore (lv' := [(5, .int r16), (4, .int r12), (3, .int r8), (0, .ref (ad 0)), (1, .int l1), (2, .int l2)]) hx hb dX12_readSource_123 hl (by decide) rfl (fun ls hl => ?_)
  refine lv_aload_n hx hb dX12_readSource_125 rfl (lv_at hl 3 rfl) ?_
  refine lv_sipush (v := (-999)) hx hb dX12_readSource_126 (by decide) ?_
  refine lv_sipush (v := 999) hx hb dX12_readSource_129 (by decide) ?_
  obtain ⟨r20, S17, eS17, h⟩ := obind2_some h
  refine m_calli (As := [.int (-999), .int 999]) (rest := []) E G hA hR hml (tr_signed l D cI cJ cZ ad S13 (-999) 999 eS17) (cwV 2 hts (gmV qM_142 qM_143 qM_144 qM_35 qM_133) rfl rfl rfl (by decide +kernel) ⟨Nat.le_of_ble_eq_true rfl, Nat.le_of_ble_eq_true rfl⟩) rfl hl.1 rfl (lv_room (Nat.le_of_ble_eq_true rfl)) dX12_readSource_132 ⟨Nat.zero_le _, Nat.zero_le _⟩ (fun q18 S19 H locs hq G => ?_)
  obtain ⟨hq1, hq2⟩ := hq
  rw [hq2] at G
  refine lv_to hq1 ?_
  clear hq1 hq2 eS17
  refine lv_istore (lv' := [(6, .int r20), (5, .int r16), (4, .int r12), (3, .int r8), (0, .ref (ad 0)), (1, .int l1), (2, .int l2)]) hx hb dX12_readSource_135 hl (by decide) rfl (fun ls hl => ?_)
  refine lv_aload_n hx hb dX12_readSource_137 rfl (lv_at hl 4 rfl) ?_
  refine lv_iconst (v := 1) hx hb dX12_readSource_138 (by decide) ?_
  refine lv_sipush (v := 999) hx hb dX12_readSource_139 (by decide) ?_
  obtain ⟨r24, S21, eS21, h⟩ := obind2_some h
  refine m_calli (As := [.int 1, .int 999]) (rest := []) E G hA hR hml (tr_number l D cI cJ cZ ad S17 1 999 eS21) (cwV 2 hts (gmV qM_130 qM_131 qM_132 qM_35 qM_122) rfl rfl rfl (by decide +kernel) ⟨Nat.le_of_ble_eq_true rfl, Nat.le_of_ble_eq_true rfl⟩) rfl hl.1 rfl (lv_room (Nat.le_of_ble_eq_true rfl)) dX12_readSource_142 ⟨Nat.zero_le _, Nat.zero_le _⟩ (fun q22 S23 H locs hq G => ?_)
  obtain ⟨hq1, hq2⟩ := hq
  rw [hq2] at G
  refine lv_to hq1 ?_
  clear hq1 hq2 eS21
  refine lv_istore (lv' := [(7, .int r24), (6, .int r20), (5, .int r16), (4, .int r12), (3, .int r8), (0, .ref (ad 0)), (1, .int l1), (2, .int l2)]) hx hb dX12_readSource_145 hl (by decide) rfl (fun ls hl => ?_)
  refine lv_aload_n hx hb dX12_readSource_147 rfl (lv_at hl 5 rfl) ?_
  refine lv_iconst (v := 2) hx hb dX12_readSource_148 (by decide) ?_
  refine lv_bipush (v := 99) hx hb dX12_readSource_149 (by decide) ?_
  obtain ⟨r28, S25, eS25, h⟩ := obind2_some h
  refine m_calli (As := [.int 2, .int 99]) (rest := []) E G hA hR hml (tr_number l D cI cJ cZ ad S21 2 99 eS25) (cwV 2 hts (gmV qM_130 qM_131 qM_132 qM_35 qM_122) rfl rfl rfl (by decide +kernel) ⟨Nat.le_of_ble_eq_true rfl, Nat.le_of_ble_eq_true rfl⟩) rfl hl.1 rfl (lv_room (Nat.le_of_ble_eq_true rfl)) dX12_readSource_151 ⟨Nat.zero_le _, Nat.zero_le _⟩ (fun q26 S27 H locs hq G => ?_)
  obtain ⟨hq1, hq2⟩ := hq
  rw [hq2] at G
  refine lv_to hq1 ?_
  clear hq1 hq2 eS25
  refine lv_istore (lv' := [(8, .int r28), (7, .int r24), (6, .int r20), (5, .int r16), (4, .int r12), (3, .int r8), (0, .ref (ad 0)), (1, .int l1), (2, .int l2)]) hx hb dX12_readSource_154 hl (by decide) rfl (fun ls hl => ?_)
  refine lv_aload_n hx hb dX12_readSource_156 rfl (lv_at hl 6 rfl) ?_
  refine lv_iconst (v := 0) hx hb dX12_readSource_157 (by decide) ?_
  refine lv_bipush (v := 99) hx hb dX12_readSource_158 (by decide) ?_
  obtain ⟨r32, S29, eS29, h⟩ := obind2_some h
  refine m_calli (As := [.int 0, .int 99]) (rest := []) E G hA hR hml (tr_number l D cI cJ cZ ad S25 0 99 eS29) (cwV 2 hts (gmV qM_130 qM_131 qM_132 qM_35 qM_122) rfl rfl rfl (by decide +kernel) ⟨Nat.le_of_ble_eq_true rfl, Nat.le_of_ble_eq_true rfl⟩) rfl hl.1 rfl (lv_room (Nat.le_of_ble_eq_true rfl)) dX12_readSource_160 ⟨Nat.zero_le _, Nat.zero_le _⟩ (fun q30 S31 H locs hq G => ?_)
  obtain ⟨hq1, hq2⟩ := hq
  rw [hq2] at G
  refine lv_to hq1 ?_
  clear hq1 hq2 eS29
  refine lv_istore (lv' := [(9, .int r32), (8, .int r28), (7, .int r24), (6, .int r20), (5, .int r16), (4, .int r12), (3, .int r8), (0, .ref (ad 0)), (1, .int l1), (2, .int l2)]) hx hb dX12_readSource_163 hl (by decide) rfl (fun ls hl => ?_)
  refine lv_aload_n hx hb dX12_readSource_165 rfl (lv_at hl 7 rfl) ?_
  obtain ⟨w33, hw33, ow33⟩ := hT.1 ("AcousticCameraModel", 169, "from") (List.mem_of_getElem? (i := 39) rfl)
  refine va_ldcS hx hb hown hw33 dX12_readSource_166 ?_
  obtain ⟨r37, S34, eS34, h⟩ := obind2_some h
  refine m_calliX (As := [.ref w33]) (rest := []) E G hA hR hml (tr_takes l D cI cJ cZ ad S29 h0 (q := w33) (sTx_ok (by decide +kernel)) eS34) (cwV 1 hts (gmV qM_115 qM_116 qM_117 qM_35 qM_107) rfl rfl rfl (by decide +kernel) ⟨Nat.le_of_ble_eq_true rfl, Nat.le_of_ble_eq_true rfl⟩) rfl hl.1 rfl (lv_room (Nat.le_of_ble_eq_true rfl)) dX12_readSource_168 ⟨Nat.zero_le _, Nat.zero_le _⟩ (xT1.blind) (xT1.go hT hA0 hA G ow33) (fun q35 S36 H locs hq G => ?_)
  obtain ⟨hq1, hq2⟩ := hq
  rw [hq2] at G
  refine lv_to hq1 ?_
  clear hq1 hq2 eS34
  refine lv_if_eq (tgt := 185) hx hb dX12_readSource_171 (by decide) (fun c38 => ?_) (fun c38 => ?_)
  · have h := oif_pos c38 h
    refine lv_iconst (v := 0) hx hb dX12_readSource_185 (by decide) ?_
    have hl := lv_sub hl [7, 8, 9, 6, 5, 4, 3, 2, 1, 0] rfl
    exact tr_readSource_b186 E hA hR hml hA0 hT kr195 kr313 _ _ _ _ _ _ _ _ _ _ _ _ _ _ h G hl
  · have h := oif_neg c38 h
    refine lv_aload_n hx hb dX12_readSource_174 rfl (lv_at hl 7 rfl) ?_
    refine lv_iconst (v := 0) hx hb dX12_readSource_175 (by decide) ?_
    refine lv_sipush (v := 199) hx hb dX12_readSource_176 (by decide) ?_
    obtain ⟨r42, S39, eS39, h⟩ := obind2_some h
    refine m_calli (As := [.int 0, .int 199]) (rest := []) E G hA hR hml (tr_number l D cI cJ cZ ad S34 0 199 eS39) (cwV 2 hts (gmV qM_130 qM_131 qM_132 qM_35 qM_122) rfl rfl rfl (by decide +kernel) ⟨Nat.le_of_ble_eq_true rfl, Nat.le_of_ble_eq_true rfl⟩) rfl hl.1 rfl (lv_room (Nat.le_of_ble_eq_true rfl)) dX12_readSource_179 ⟨Nat.zero_le _, Nat.zero_le _⟩ (fun q40 S41 H locs hq G => ?_)
    obtain ⟨hq1, hq2⟩ := hq
    rw [hq2] at G
    refine lv_to hq1 ?_
    clear hq1 hq2 eS39
    refine lv_goto (tgt := 186) hx hb dX12_readSource_182 (by decide) ?_
    have hl := lv_sub hl [7, 8, 9, 6, 5, 4, 3, 2, 1, 0] rfl
    exact tr_readSource_b186 E hA hR hml hA0 hT kr195 kr313 _ _ _ _ _ _ _ _ _ _ _ _ _ _ h G hl
def fr_readSource_b75  (S : MS) (s0 : Int32) (l1 : Int32) : Option (MS) := if s0 = (-1) then (obind (fr_faults S 1) fun S3 => fr_readSource_b86 S3 l1 s0) else (fr_readSource_b86 S l1 s0)
set_option maxHeartbeats 4000000 in
set_option maxRecDepth 100000 in
theorem tr_readSource_b75 {p : Program} {l : Launch} {e : Env} {s : State} {m : MethodId} {args : Array Value} {below : List Frame} {meth : Method} {c : Code} {Q : State → Prop} {D : va_G} {A : Nat → Prop} {cI cJ cZ : ClassId} {ad : Nat → Nat} {S1 : MS} (E : mE p c cX12_readSource s m args (Cond.code yX12_readSource cX12_readSource 11 none :: wsM) D cI cJ cZ) (hA : ∀ q : Nat, s.heap.size ≤ q → A q) (hR : sR s) (hml : c.maxLocals = 11) {h0 : Nat} (hA0 : ∀ a : Nat, A a → h0 ≤ a) (hT : sAll h0 s) (kr195 : ∀ (H : Heap) (locs : List Loc) (ls : Array Slot), mG D cI cJ cZ ad A s.heap H locs S1 → W p l e { frames := 7, cells := 0, slots := 0, locals := 131 } s m args below meth c H locs 0 0 Q (F0 m 195 ls [])) (kr313 : ∀ (H : Heap) (locs : List Loc) (ls : Array Slot), mG D cI cJ cZ ad A s.heap H locs S1 → W p l e { frames := 7, cells := 0, slots := 0, locals := 131 } s m args below meth c H locs 0 0 Q (F0 m 313 ls [])) : ∀ (S : MS) (H : Heap) (locs : List Loc) (ls : Array Slot) (s0 : Int32) (l1 : Int32), fr_readSource_b75 S s0 l1 = some S1 → mG D cI cJ cZ ad A s.heap H locs S → lv_has ls 11 [(0, .ref (ad 0)), (1, .int l1)] → W p l e { frames := 7, cells := 0, slots := 0, locals := 131 } s m args below meth c H locs 0 0 Q (F0 m 75 ls [.int s0]) := by
  have hx := E.1
  have hb := E.2.1
  have hts := E.2.2.1
  have hown := E.2.2.2.1
  have hK := E.2.2.2.2.1
  intro S H locs ls s0 l1 h G hl
  unfold fr_readSource_b75 at h
  refine lv_istore_n (lv' := [(2, .int s0), (0, .ref (ad 0)), (1, .int l1)]) hx hb dX12_readSource_75 rfl hl (by decide) rfl (fun ls hl => ?_)
  refine lv_iload_n hx hb dX12_readSource_76 rfl (lv_at hl 0 rfl) ?_
  refine lv_iconst (v := (-1)) hx hb dX12_readSource_77 (by decide) ?_
  refine lv_icmp_ne (tgt := 86) hx hb dX12_readSource_78 (by decide) (fun c2 => ?_) (fun c2 => ?_)
  · have h := oif_neg c2 h
    have hl := lv_sub hl [1, 2, 0] rfl
    exact tr_readSource_b86 E hA hR hml hA0 hT kr195 kr313 _ _ _ _ _ _ h G hl
  · have h := oif_pos c2 h
    refine lv_aload_n hx hb dX12_readSource_81 rfl (lv_at hl 1 rfl) ?_
    refine lv_iconst (v := 1) hx hb dX12_readSource_82 (by decide) ?_
    obtain ⟨S3, eS3, h⟩ := obind_some h
    refine m_callv (As := [.int 1]) (rest := []) E G hA hR hml (tr_faults l D cI cJ cZ ad S 1 eS3) (cwV 1 hts (gmV qM_118 qM_119 qM_120 qM_35 qM_42) rfl rfl rfl (by decide +kernel) ⟨Nat.le_of_ble_eq_true rfl, Nat.le_of_ble_eq_true rfl⟩) rfl hl.1 rfl (lv_room (Nat.le_of_ble_eq_true rfl)) dX12_readSource_83 ⟨Nat.zero_le _, Nat.zero_le _⟩ (fun S5 H locs hq G => ?_)
    rw [hq] at G
    clear hq eS3
    have hl := lv_sub hl [1, 2, 0] rfl
    exact tr_readSource_b86 E hA hR hml hA0 hT kr195 kr313 _ _ _ _ _ _ h G hl
def fr_readSource_b18  (S : MS) (l1 : Int32) : Option (MS) := obind (fr_nextToken S) fun S2 => obind2 (fr_isWord S2 (sTx "square")) fun r9 S6 => if r9 = 0 then (obind2 (fr_isWord S6 (sTx "triangle")) fun r15 S12 => if r15 = 0 then (obind2 (fr_isWord S12 (sTx "pulse")) fun r21 S18 => if r21 = 0 then (obind2 (fr_isWord S18 (sTx "noise")) fun r27 S24 => if r27 = 0 then (fr_readSource_b75 S24 (-1) l1) else (fr_readSource_b75 S24 3 l1)) else (fr_readSource_b75 S18 2 l1)) else (fr_readSource_b75 S12 1 l1)) else (fr_readSource_b75 S6 0 l1)
set_option maxHeartbeats 4000000 in
set_option maxRecDepth 100000 in
theorem tr_readSource_b18 {p : Program} {l : Launch} {e : Env} {s : State} {m : MethodId} {args : Array Value} {below : List Frame} {meth : Method} {c : Code} {Q : State → Prop} {D : va_G} {A : Nat → Prop} {cI cJ cZ : ClassId} {ad : Nat → Nat} {S1 : MS} (E : mE p c cX12_readSource s m args (Cond.code yX12_readSource cX12_readSource 11 none :: wsM) D cI cJ cZ) (hA : ∀ q : Nat, s.heap.size ≤ q → A q) (hR : sR s) (hml : c.maxLocals = 11) {h0 : Nat} (hA0 : ∀ a : Nat, A a → h0 ≤ a) (hT : sAll h0 s) (kr195 : ∀ (H : Heap) (locs : List Loc) (ls : Array Slot), mG D cI cJ cZ ad A s.heap H locs S1 → W p l e { frames := 7, cells := 0, slots := 0, locals := 131 } s m args below meth c H locs 0 0 Q (F0 m 195 ls [])) (kr313 : ∀ (H : Heap) (locs : List Loc) (ls : Array Slot), mG D cI cJ cZ ad A s.heap H locs S1 → W p l e { frames := 7, cells := 0, slots := 0, locals := 131 } s m args below meth c H locs 0 0 Q (F0 m 313 ls [])) : ∀ (S : MS) (H : Heap) (locs : List Loc) (ls : Array Slot) (l1 : Int32), fr_readSource_b18 S l1 = some S1 → mG D cI cJ cZ ad A s.heap H locs S → lv_has ls 11 [(0, .ref (ad 0)), (1, .int l1)] → W p l e { frames := 7, cells := 0, slots := 0, locals := 131 } s m args below meth c H locs 0 0 Q (F0 m 18 ls []) := by
  have hx := E.1
  have hb := E.2.1
  have hts := E.2.2.1
  have hown := E.2.2.2.1
  have hK := E.2.2.2.2.1
  intro S H locs ls l1 h G hl
  unfold fr_readSource_b18 at h
  refine lv_aload_n hx hb dX12_readSource_18 rfl (lv_at hl 0 rfl) ?_
  obtain ⟨S2, eS2, h⟩ := obind_some h
  refine m_callv (As := []) (rest := []) E G hA hR hml (tr_nextToken l D cI cJ cZ ad S eS2) (cwV 0 hts (gmV qM_111 qM_112 qM_113 qM_35 qM_45) rfl rfl rfl (by decide +kernel) ⟨Nat.le_of_ble_eq_true rfl, Nat.le_of_ble_eq_true rfl⟩) rfl hl.1 rfl (lv_room (Nat.le_of_ble_eq_true rfl)) dX12_readSource_19 ⟨Nat.zero_le _, Nat.zero_le _⟩ (fun S4 H locs hq G => ?_)
  rw [hq] at G
  clear hq eS2
  refine lv_aload_n hx hb dX12_readSource_22 rfl (lv_at hl 0 rfl) ?_
  obtain ⟨w5, hw5, ow5⟩ := hT.1 ("AcousticCameraModel", 161, "square") (List.mem_of_getElem? (i := 35) rfl)
  refine va_ldcS hx hb hown hw5 dX12_readSource_23 ?_
  obtain ⟨r9, S6, eS6, h⟩ := obind2_some h
  refine m_calliX (As := [.ref w5]) (rest := []) E G hA hR hml (tr_isWord l D cI cJ cZ ad S2 h0 (q := w5) (sTx_ok (by decide +kernel)) eS6) (cwV 1 hts (gmV qM_108 qM_109 qM_110 qM_35 qM_57) rfl rfl rfl (by decide +kernel) ⟨Nat.le_of_ble_eq_true rfl, Nat.le_of_ble_eq_true rfl⟩) rfl hl.1 rfl (lv_room (Nat.le_of_ble_eq_true rfl)) dX12_readSource_25 ⟨Nat.zero_le _, Nat.zero_le _⟩ (xT1.blind) (xT1.go hT hA0 hA G ow5) (fun q7 S8 H locs hq G => ?_)
  obtain ⟨hq1, hq2⟩ := hq
  rw [hq2] at G
  refine lv_to hq1 ?_
  clear hq1 hq2 eS6
  refine lv_if_eq (tgt := 35) hx hb dX12_readSource_28 (by decide) (fun c10 => ?_) (fun c10 => ?_)
  · have h := oif_pos c10 h
    refine lv_aload_n hx hb dX12_readSource_35 rfl (lv_at hl 0 rfl) ?_
    obtain ⟨w11, hw11, ow11⟩ := hT.1 ("AcousticCameraModel", 163, "triangle") (List.mem_of_getElem? (i := 36) rfl)
    refine va_ldcS hx hb hown hw11 dX12_readSource_36 ?_
    obtain ⟨r15, S12, eS12, h⟩ := obind2_some h
    refine m_calliX (As := [.ref w11]) (rest := []) E G hA hR hml (tr_isWord l D cI cJ cZ ad S6 h0 (q := w11) (sTx_ok (by decide +kernel)) eS12) (cwV 1 hts (gmV qM_108 qM_109 qM_110 qM_35 qM_57) rfl rfl rfl (by decide +kernel) ⟨Nat.le_of_ble_eq_true rfl, Nat.le_of_ble_eq_true rfl⟩) rfl hl.1 rfl (lv_room (Nat.le_of_ble_eq_true rfl)) dX12_readSource_38 ⟨Nat.zero_le _, Nat.zero_le _⟩ (xT1.blind) (xT1.go hT hA0 hA G ow11) (fun q13 S14 H locs hq G => ?_)
    obtain ⟨hq1, hq2⟩ := hq
    rw [hq2] at G
    refine lv_to hq1 ?_
    clear hq1 hq2 eS12
    refine lv_if_eq (tgt := 48) hx hb dX12_readSource_41 (by decide) (fun c16 => ?_) (fun c16 => ?_)
    · have h := oif_pos c16 h
      refine lv_aload_n hx hb dX12_readSource_48 rfl (lv_at hl 0 rfl) ?_
      obtain ⟨w17, hw17, ow17⟩ := hT.1 ("AcousticCameraModel", 165, "pulse") (List.mem_of_getElem? (i := 37) rfl)
      refine va_ldcS hx hb hown hw17 dX12_readSource_49 ?_
      obtain ⟨r21, S18, eS18, h⟩ := obind2_some h
      refine m_calliX (As := [.ref w17]) (rest := []) E G hA hR hml (tr_isWord l D cI cJ cZ ad S12 h0 (q := w17) (sTx_ok (by decide +kernel)) eS18) (cwV 1 hts (gmV qM_108 qM_109 qM_110 qM_35 qM_57) rfl rfl rfl (by decide +kernel) ⟨Nat.le_of_ble_eq_true rfl, Nat.le_of_ble_eq_true rfl⟩) rfl hl.1 rfl (lv_room (Nat.le_of_ble_eq_true rfl)) dX12_readSource_51 ⟨Nat.zero_le _, Nat.zero_le _⟩ (xT1.blind) (xT1.go hT hA0 hA G ow17) (fun q19 S20 H locs hq G => ?_)
      obtain ⟨hq1, hq2⟩ := hq
      rw [hq2] at G
      refine lv_to hq1 ?_
      clear hq1 hq2 eS18
      refine lv_if_eq (tgt := 61) hx hb dX12_readSource_54 (by decide) (fun c22 => ?_) (fun c22 => ?_)
      · have h := oif_pos c22 h
        refine lv_aload_n hx hb dX12_readSource_61 rfl (lv_at hl 0 rfl) ?_
        obtain ⟨w23, hw23, ow23⟩ := hT.1 ("AcousticCameraModel", 167, "noise") (List.mem_of_getElem? (i := 38) rfl)
        refine va_ldcS hx hb hown hw23 dX12_readSource_62 ?_
        obtain ⟨r27, S24, eS24, h⟩ := obind2_some h
        refine m_calliX (As := [.ref w23]) (rest := []) E G hA hR hml (tr_isWord l D cI cJ cZ ad S18 h0 (q := w23) (sTx_ok (by decide +kernel)) eS24) (cwV 1 hts (gmV qM_108 qM_109 qM_110 qM_35 qM_57) rfl rfl rfl (by decide +kernel) ⟨Nat.le_of_ble_eq_true rfl, Nat.le_of_ble_eq_true rfl⟩) rfl hl.1 rfl (lv_room (Nat.le_of_ble_eq_true rfl)) dX12_readSource_64 ⟨Nat.zero_le _, Nat.zero_le _⟩ (xT1.blind) (xT1.go hT hA0 hA G ow23) (fun q25 S26 H locs hq G => ?_)
        obtain ⟨hq1, hq2⟩ := hq
        rw [hq2] at G
        refine lv_to hq1 ?_
        clear hq1 hq2 eS24
        refine lv_if_eq (tgt := 74) hx hb dX12_readSource_67 (by decide) (fun c28 => ?_) (fun c28 => ?_)
        · have h := oif_pos c28 h
          refine lv_iconst (v := (-1)) hx hb dX12_readSource_74 (by decide) ?_
          have hl := lv_sub hl [0, 1] rfl
          exact tr_readSource_b75 E hA hR hml hA0 hT kr195 kr313 _ _ _ _ _ _ h G hl
        · have h := oif_neg c28 h
          refine lv_iconst (v := 3) hx hb dX12_readSource_70 (by decide) ?_
          refine lv_goto (tgt := 75) hx hb dX12_readSource_71 (by decide) ?_
          have hl := lv_sub hl [0, 1] rfl
          exact tr_readSource_b75 E hA hR hml hA0 hT kr195 kr313 _ _ _ _ _ _ h G hl
      · have h := oif_neg c22 h
        refine lv_iconst (v := 2) hx hb dX12_readSource_57 (by decide) ?_
        refine lv_goto (tgt := 75) hx hb dX12_readSource_58 (by decide) ?_
        have hl := lv_sub hl [0, 1] rfl
        exact tr_readSource_b75 E hA hR hml hA0 hT kr195 kr313 _ _ _ _ _ _ h G hl
    · have h := oif_neg c16 h
      refine lv_iconst (v := 1) hx hb dX12_readSource_44 (by decide) ?_
      refine lv_goto (tgt := 75) hx hb dX12_readSource_45 (by decide) ?_
      have hl := lv_sub hl [0, 1] rfl
      exact tr_readSource_b75 E hA hR hml hA0 hT kr195 kr313 _ _ _ _ _ _ h G hl
  · have h := oif_neg c10 h
    refine lv_iconst (v := 0) hx hb dX12_readSource_31 (by decide) ?_
    refine lv_goto (tgt := 75) hx hb dX12_readSource_32 (by decide) ?_
    have hl := lv_sub hl [0, 1] rfl
    exact tr_readSource_b75 E hA hR hml hA0 hT kr195 kr313 _ _ _ _ _ _ h G hl
def fr_readSource (S : MS)  : Option (MS) := elet (S.2.1 11 5) fun v2 => if v2 = 6 then (obind (fr_faults S 4) fun S4 => fr_readSource_b18 S4 v2) else (fr_readSource_b18 S v2)
set_option maxHeartbeats 4000000 in
set_option maxRecDepth 100000 in
theorem tr_readSource (l : Launch) (D : va_G) (cI cJ cZ : ClassId) (ad : Nat → Nat) (S : MS) (h0 : Nat)  {S1 : MS} (h : fr_readSource S = some S1) : mCvX l yX12_readSource (Cond.code yX12_readSource cX12_readSource 11 none :: wsM) 7 131 D cI cJ cZ ad S [] (xT0 cI cJ cZ h0 ad S) (fun S9 => S9 = S1) := by
  intro sz
  refine Met.ofW (cc := cX12_readSource) (maxL := 11) (ret := none) (by decide) rfl ?_
  intro p e s m args below meth c s₁ B hml hv
  obtain ⟨rfl, ⟨hsz, hP, hK, hD0, hR⟩, hA1, hT⟩ := hv
  have hx := B.exec
  have hb := B.bytes
  have hr := B.returns
  have hts := atoms_spec (ws := (Cond.code yX12_readSource cX12_readSource 11 none :: wsM)) B.pre
  have hown : s.vm.findClass RX12 = some m.cls := findClass_of_methodNamed B.named
  have hlocks := B.notSynchronized
  subst hsz
  have hD := hD0.self (sz := s.heap.size)
  generalize hAe : va_A (MW cI cJ cZ ad S) s.heap.size = A at hD hA1 ⊢
  have hA : ∀ q : Nat, s.heap.size ≤ q → A q := fun q h => by rw [← hAe]; exact Or.inr h
  have G : mG D cI cJ cZ ad A s.heap s.heap [] S := ⟨hP, hD, va_S.rf⟩
  have E : mE p c cX12_readSource s m ([.ref (ad 0)] : List Value).toArray (Cond.code yX12_readSource cX12_readSource 11 none :: wsM) D cI cJ cZ := ⟨hx, hb, hts, hown, hK, fun w h => .tail _ (iM_x h)⟩
  have hA0 : ∀ a : Nat, A a → h0 ≤ a := hA1
  have hl := lv_entry ([.ref (ad 0)]) (n := 11) (Nat.le_of_ble_eq_true rfl)
  rw [lg_entry_eq]
  generalize (lg_sl ([.ref (ad 0)]) ++ List.replicate (11 - (lg_sl ([.ref (ad 0)])).length) Slot.unset).toArray = ls at hl ⊢
  have hl : lv_has ls 11 [(0, .ref (ad 0))] := hl
  unfold fr_readSource at h
  refine lv_aload_n hx hb dX12_readSource_0 rfl (lv_at hl 0 rfl) ?_
  refine m_get E G 11 (v := .ref (ad 11)) (by decide) (.tail _ qM_8) rfl dX12_readSource_1 rfl ?_
  refine lv_iconst (v := 5) hx hb dX12_readSource_4 (by decide) ?_
  refine m_iald E G 11 3 (n := 131) (k := 5) rfl rfl (by decide) (by decide) dX12_readSource_5 ?_
  refine lv_topi (fun v2 ev2 => ?_)
  have h := elet_at ev2 h
  clear ev2
  refine lv_istore_n (lv' := [(1, .int v2), (0, .ref (ad 0))]) hx hb dX12_readSource_6 rfl hl (by decide) rfl (fun ls hl => ?_)
  refine lv_iload_n hx hb dX12_readSource_7 rfl (lv_at hl 0 rfl) ?_
  refine lv_bipush (v := 6) hx hb dX12_readSource_8 (by decide) ?_
  refine lv_icmp_ne (tgt := 18) hx hb dX12_readSource_10 (by decide) (fun c3 => ?_) (fun c3 => ?_)
  · have h := oif_neg c3 h
    have hl := lv_sub hl [1, 0] rfl
    exact tr_readSource_b18 E hA hR hml hA0 hT (fun H locs ls G => W.vret hx hb hr (fun t ht hW => ⟨⟨S1, rfl, rfl, ⟨by rw [ht]; exact G.1, va_K.moved hW.alike hK, G.2.1⟩⟩, G.2.2.F ht⟩) G.2.2.2.2 dX12_readSource_195) (fun H locs ls G => W.vret hx hb hr (fun t ht hW => ⟨⟨S1, rfl, rfl, ⟨by rw [ht]; exact G.1, va_K.moved hW.alike hK, G.2.1⟩⟩, G.2.2.F ht⟩) G.2.2.2.2 dX12_readSource_313) _ _ _ _ _ h G hl
  · have h := oif_pos c3 h
    refine lv_aload_n hx hb dX12_readSource_13 rfl (lv_at hl 1 rfl) ?_
    refine lv_iconst (v := 4) hx hb dX12_readSource_14 (by decide) ?_
    obtain ⟨S4, eS4, h⟩ := obind_some h
    refine m_callv (As := [.int 4]) (rest := []) E G hA hR hml (tr_faults l D cI cJ cZ ad S 4 eS4) (cwV 1 hts (gmV qM_118 qM_119 qM_120 qM_35 qM_42) rfl rfl rfl (by decide +kernel) ⟨Nat.le_of_ble_eq_true rfl, Nat.le_of_ble_eq_true rfl⟩) rfl hl.1 rfl (lv_room (Nat.le_of_ble_eq_true rfl)) dX12_readSource_15 ⟨Nat.zero_le _, Nat.zero_le _⟩ (fun S6 H locs hq G => ?_)
    rw [hq] at G
    clear hq eS4
    have hl := lv_sub hl [1, 0] rfl
    exact tr_readSource_b18 E hA hR hml hA0 hT (fun H locs ls G => W.vret hx hb hr (fun t ht hW => ⟨⟨S1, rfl, rfl, ⟨by rw [ht]; exact G.1, va_K.moved hW.alike hK, G.2.1⟩⟩, G.2.2.F ht⟩) G.2.2.2.2 dX12_readSource_195) (fun H locs ls G => W.vret hx hb hr (fun t ht hW => ⟨⟨S1, rfl, rfl, ⟨by rw [ht]; exact G.1, va_K.moved hW.alike hK, G.2.1⟩⟩, G.2.2.F ht⟩) G.2.2.2.2 dX12_readSource_313) _ _ _ _ _ h G hl
end
section
/-! 11d.dec2.lean.txt -/
def fr_readWall_b18  (S : MS) (l1 : Int32) : Option (MS) := obind (fr_nextToken S) fun S2 => obind2 (fr_signed S2 (-2000) 2000) fun r8 S5 => obind2 (fr_number S5 1 100) fun r12 S9 => elet (S9.1 5) fun v13 => if v13 ≤ 0 then (elet (72 + l1) fun v15 => oif (inb v15 131 = true) <| elet (mf S9 11 (upd (S9.2.1 11) v15.toNatClampNeg r8)) fun S17 => elet (74 + l1) fun v18 => oif (inb v18 131 = true) <| elet (mf S17 11 (upd (S17.2.1 11) v18.toNatClampNeg r12)) fun S20 => elet (S20.2.1 11 71) fun v21 => elet (v21 + 1) fun v22 => elet (mf S20 11 (upd (S20.2.1 11) 71 v22)) fun S23 => some S23) else (some S9)
set_option maxHeartbeats 4000000 in
set_option maxRecDepth 100000 in
theorem tr_readWall_b18 {p : Program} {l : Launch} {e : Env} {s : State} {m : MethodId} {args : Array Value} {below : List Frame} {meth : Method} {c : Code} {Q : State → Prop} {D : va_G} {A : Nat → Prop} {H0 : Heap} {cI cJ cZ : ClassId} {ad : Nat → Nat} {S1 : MS} (E : mE p c cX12_readWall s m args (Cond.code yX12_readWall cX12_readWall 4 none :: wsM) D cI cJ cZ) (hA : ∀ q : Nat, H0.size ≤ q → A q) (hR : sR s) (hml : c.maxLocals = 4) (kr48 : ∀ (H : Heap) (locs : List Loc) (ls : Array Slot), mG D cI cJ cZ ad A H0 H locs S1 → W p l e { frames := 5, cells := 0, slots := 0, locals := 90 } s m args below meth c H locs 0 0 Q (F0 m 48 ls [])) (kr80 : ∀ (H : Heap) (locs : List Loc) (ls : Array Slot), mG D cI cJ cZ ad A H0 H locs S1 → W p l e { frames := 5, cells := 0, slots := 0, locals := 90 } s m args below meth c H locs 0 0 Q (F0 m 80 ls [])) : ∀ (S : MS) (H : Heap) (locs : List Loc) (ls : Array Slot) (l1 : Int32), fr_readWall_b18 S l1 = some S1 → mG D cI cJ cZ ad A H0 H locs S → lv_has ls 4 [(0, .ref (ad 0)), (1, .int l1)] → W p l e { frames := 5, cells := 0, slots := 0, locals := 90 } s m args below meth c H locs 0 0 Q (F0 m 18 ls []) := by
  have hx := E.1
  have hb := E.2.1
  have hts := E.2.2.1
  have hown := E.2.2.2.1
  have hK := E.2.2.2.2.1
  intro S H locs ls l1 h G hl
  unfold fr_readWall_b18 at h
  refine lv_aload_n hx hb dX12_readWall_18 rfl (lv_at hl 0 rfl) ?_
  obtain ⟨S2, eS2, h⟩ := obind_some h
  refine m_callv (As := []) (rest := []) E G hA hR hml (tr_nextToken l D cI cJ cZ ad S eS2) (cwV 0 hts (gmV qM_111 qM_112 qM_113 qM_35 qM_45) rfl rfl rfl (by decide +kernel) ⟨Nat.le_of_ble_eq_true rfl, Nat.le_of_ble_eq_true rfl⟩) rfl hl.1 rfl (lv_room (Nat.le_of_ble_eq_true rfl)) dX12_readWall_19 ⟨Nat.zero_le _, Nat.zero_le _⟩ (fun S4 H locs hq G => ?_)
  rw [hq] at G
  clear hq eS2
  refine lv_aload_n hx hb dX12_readWall_22 rfl (lv_at hl 0 rfl) ?_
  refine lv_sipush (v := (-2000)) hx hb dX12_readWall_23 (by decide) ?_
  refine lv_sipush (v := 2000) hx hb dX12_readWall_26 (by decide) ?_
  obtain ⟨r8, S5, eS5, h⟩ := obind2_some h
  refine m_calli (As := [.int (-2000), .int 2000]) (rest := []) E G hA hR hml (tr_signed l D cI cJ cZ ad S2 (-2000) 2000 eS5) (cwV 2 hts (gmV qM_142 qM_143 qM_144 qM_35 qM_133) rfl rfl rfl (by decide +kernel) ⟨Nat.le_of_ble_eq_true rfl, Nat.le_of_ble_eq_true rfl⟩) rfl hl.1 rfl (lv_room (Nat.le_of_ble_eq_true rfl)) dX12_readWall_29 ⟨Nat.zero_le _, Nat.zero_le _⟩ (fun q6 S7 H locs hq G => ?_)
  obtain ⟨hq1, hq2⟩ := hq
  rw [hq2] at G
  refine lv_to hq1 ?_
  clear hq1 hq2 eS5
  refine lv_istore_n (lv' := [(2, .int r8), (0, .ref (ad 0)), (1, .int l1)]) hx hb dX12_readWall_32 rfl hl (by decide) rfl (fun ls hl => ?_)
  refine lv_aload_n hx hb dX12_readWall_33 rfl (lv_at hl 1 rfl) ?_
  refine lv_iconst (v := 1) hx hb dX12_readWall_34 (by decide) ?_
  refine lv_bipush (v := 100) hx hb dX12_readWall_35 (by decide) ?_
  obtain ⟨r12, S9, eS9, h⟩ := obind2_some h
  refine m_calli (As := [.int 1, .int 100]) (rest := []) E G hA hR hml (tr_number l D cI cJ cZ ad S5 1 100 eS9) (cwV 2 hts (gmV qM_130 qM_131 qM_132 qM_35 qM_122) rfl rfl rfl (by decide +kernel) ⟨Nat.le_of_ble_eq_true rfl, Nat.le_of_ble_eq_true rfl⟩) rfl hl.1 rfl (lv_room (Nat.le_of_ble_eq_true rfl)) dX12_readWall_37 ⟨Nat.zero_le _, Nat.zero_le _⟩ (fun q10 S11 H locs hq G => ?_)
  obtain ⟨hq1, hq2⟩ := hq
  rw [hq2] at G
  refine lv_to hq1 ?_
  clear hq1 hq2 eS9
  refine lv_istore_n (lv' := [(3, .int r12), (2, .int r8), (0, .ref (ad 0)), (1, .int l1)]) hx hb dX12_readWall_40 rfl hl (by decide) rfl (fun ls hl => ?_)
  refine lv_aload_n hx hb dX12_readWall_41 rfl (lv_at hl 2 rfl) ?_
  refine m_get E G 5 (v := .int (S9.1 5)) (by decide) (.tail _ qM_38) rfl dX12_readWall_42 rfl ?_
  refine lv_topi (fun v13 ev13 => ?_)
  have h := elet_at ev13 h
  clear ev13
  refine lv_if_le (tgt := 49) hx hb dX12_readWall_45 (by decide) (fun c14 => ?_) (fun c14 => ?_)
  · have h := oif_pos c14 h
    refine lv_aload_n hx hb dX12_readWall_49 rfl (lv_at hl 2 rfl) ?_
    refine m_get E G 11 (v := .ref (ad 11)) (by decide) (.tail _ qM_8) rfl dX12_readWall_50 rfl ?_
    refine lv_bipush (v := 72) hx hb dX12_readWall_53 (by decide) ?_
    refine lv_iload_n hx hb dX12_readWall_55 rfl (lv_at hl 3 rfl) ?_
    refine lv_iadd hx hb dX12_readWall_56 ?_
    refine lv_topi (fun v15 ev15 => ?_)
    have h := elet_at ev15 h
    clear ev15
    refine lv_iload_n hx hb dX12_readWall_57 rfl (lv_at hl 1 rfl) ?_
    obtain ⟨g16, h⟩ := oif_some h
    refine m_iast E G 11 3 (k := v15.toNatClampNeg) (v := r8) rfl (fun _ => rfl) (inb_k g16).1 (inb_k g16).2 (by decide) dX12_readWall_58 (fun H locs G => ?_)
    obtain ⟨S17, eS17, h⟩ := elet_some h
    rw [← eS17] at G
    clear eS17
    refine lv_aload_n hx hb dX12_readWall_59 rfl (lv_at hl 2 rfl) ?_
    refine m_get E G 11 (v := .ref (ad 11)) (by decide) (.tail _ qM_8) rfl dX12_readWall_60 rfl ?_
    refine lv_bipush (v := 74) hx hb dX12_readWall_63 (by decide) ?_
    refine lv_iload_n hx hb dX12_readWall_65 rfl (lv_at hl 3 rfl) ?_
    refine lv_iadd hx hb dX12_readWall_66 ?_
    refine lv_topi (fun v18 ev18 => ?_)
    have h := elet_at ev18 h
    clear ev18
    refine lv_iload_n hx hb dX12_readWall_67 rfl (lv_at hl 0 rfl) ?_
    obtain ⟨g19, h⟩ := oif_some h
    refine m_iast E G 11 3 (k := v18.toNatClampNeg) (v := r12) rfl (fun _ => rfl) (inb_k g19).1 (inb_k g19).2 (by decide) dX12_readWall_68 (fun H locs G => ?_)
    obtain ⟨S20, eS20, h⟩ := elet_some h
    rw [← eS20] at G
    clear eS20
    refine lv_aload_n hx hb dX12_readWall_69 rfl (lv_at hl 2 rfl) ?_
    refine m_get E G 11 (v := .ref (ad 11)) (by decide) (.tail _ qM_8) rfl dX12_readWall_70 rfl ?_
    refine lv_bipush (v := 71) hx hb dX12_readWall_73 (by decide) ?_
    refine lv_dup2_11 hx hb dX12_readWall_75 rfl rfl ?_
    refine m_iald E G 11 3 (n := 131) (k := 71) rfl rfl (by decide) (by decide) dX12_readWall_76 ?_
    refine lv_topi (fun v21 ev21 => ?_)
    have h := elet_at ev21 h
    clear ev21
    refine lv_iconst (v := 1) hx hb dX12_readWall_77 (by decide) ?_
    refine lv_iadd hx hb dX12_readWall_78 ?_
    refine lv_topi (fun v22 ev22 => ?_)
    have h := elet_at ev22 h
    clear ev22
    refine m_iast E G 11 3 (k := 71) (v := v22) rfl (fun _ => rfl) rfl (by decide) (by decide) dX12_readWall_79 (fun H locs G => ?_)
    obtain ⟨S23, eS23, h⟩ := elet_some h
    rw [← eS23] at G
    clear eS23
    rw [osome1 h] at G
    exact kr80 _ _ _ G
  · have h := oif_neg c14 h
    rw [osome1 h] at G
    exact kr48 _ _ _ G
def fr_readWall (S : MS)  : Option (MS) := elet (S.2.1 11 71) fun v2 => if v2 = 2 then (obind (fr_faults S 4) fun S4 => fr_readWall_b18 S4 v2) else (fr_readWall_b18 S v2)
set_option maxHeartbeats 4000000 in
set_option maxRecDepth 100000 in
theorem tr_readWall (l : Launch) (D : va_G) (cI cJ cZ : ClassId) (ad : Nat → Nat) (S : MS)  {S1 : MS} (h : fr_readWall S = some S1) : mCv l yX12_readWall (Cond.code yX12_readWall cX12_readWall 4 none :: wsM) 5 90 D cI cJ cZ ad S [] (fun S9 => S9 = S1) := by
  intro sz
  refine Met.ofW (cc := cX12_readWall) (maxL := 4) (ret := none) (by decide) rfl ?_
  intro p e s m args below meth c s₁ B hml hv
  obtain ⟨rfl, hsz, hP, hK, hD0, hR⟩ := hv
  have hx := B.exec
  have hb := B.bytes
  have hr := B.returns
  have hts := atoms_spec (ws := (Cond.code yX12_readWall cX12_readWall 4 none :: wsM)) B.pre
  have hown : s.vm.findClass RX12 = some m.cls := findClass_of_methodNamed B.named
  have hlocks := B.notSynchronized
  subst hsz
  have hD := hD0.self (sz := s.heap.size)
  generalize hAe : va_A (MW cI cJ cZ ad S) s.heap.size = A at hD ⊢
  have hA : ∀ q : Nat, s.heap.size ≤ q → A q := fun q h => by rw [← hAe]; exact Or.inr h
  have G : mG D cI cJ cZ ad A s.heap s.heap [] S := ⟨hP, hD, va_S.rf⟩
  have E : mE p c cX12_readWall s m ([.ref (ad 0)] : List Value).toArray (Cond.code yX12_readWall cX12_readWall 4 none :: wsM) D cI cJ cZ := ⟨hx, hb, hts, hown, hK, fun w h => .tail _ (iM_x h)⟩
  have hl := lv_entry ([.ref (ad 0)]) (n := 4) (Nat.le_of_ble_eq_true rfl)
  rw [lg_entry_eq]
  generalize (lg_sl ([.ref (ad 0)]) ++ List.replicate (4 - (lg_sl ([.ref (ad 0)])).length) Slot.unset).toArray = ls at hl ⊢
  have hl : lv_has ls 4 [(0, .ref (ad 0))] := hl
  unfold fr_readWall at h
  refine lv_aload_n hx hb dX12_readWall_0 rfl (lv_at hl 0 rfl) ?_
  refine m_get E G 11 (v := .ref (ad 11)) (by decide) (.tail _ qM_8) rfl dX12_readWall_1 rfl ?_
  refine lv_bipush (v := 71) hx hb dX12_readWall_4 (by decide) ?_
  refine m_iald E G 11 3 (n := 131) (k := 71) rfl rfl (by decide) (by decide) dX12_readWall_6 ?_
  refine lv_topi (fun v2 ev2 => ?_)
  have h := elet_at ev2 h
  clear ev2
  refine lv_istore_n (lv' := [(1, .int v2), (0, .ref (ad 0))]) hx hb dX12_readWall_7 rfl hl (by decide) rfl (fun ls hl => ?_)
  refine lv_iload_n hx hb dX12_readWall_8 rfl (lv_at hl 0 rfl) ?_
  refine lv_iconst (v := 2) hx hb dX12_readWall_9 (by decide) ?_
  refine lv_icmp_ne (tgt := 18) hx hb dX12_readWall_10 (by decide) (fun c3 => ?_) (fun c3 => ?_)
  · have h := oif_neg c3 h
    have hl := lv_sub hl [1, 0] rfl
    exact tr_readWall_b18 E hA hR hml (fun H locs ls G => W.vret hx hb hr (fun t ht hW => ⟨⟨S1, rfl, rfl, ⟨by rw [ht]; exact G.1, va_K.moved hW.alike hK, G.2.1⟩⟩, G.2.2.F ht⟩) G.2.2.2.2 dX12_readWall_48) (fun H locs ls G => W.vret hx hb hr (fun t ht hW => ⟨⟨S1, rfl, rfl, ⟨by rw [ht]; exact G.1, va_K.moved hW.alike hK, G.2.1⟩⟩, G.2.2.F ht⟩) G.2.2.2.2 dX12_readWall_80) _ _ _ _ _ h G hl
  · have h := oif_pos c3 h
    refine lv_aload_n hx hb dX12_readWall_13 rfl (lv_at hl 1 rfl) ?_
    refine lv_iconst (v := 4) hx hb dX12_readWall_14 (by decide) ?_
    obtain ⟨S4, eS4, h⟩ := obind_some h
    refine m_callv (As := [.int 4]) (rest := []) E G hA hR hml (tr_faults l D cI cJ cZ ad S 4 eS4) (cwV 1 hts (gmV qM_118 qM_119 qM_120 qM_35 qM_42) rfl rfl rfl (by decide +kernel) ⟨Nat.le_of_ble_eq_true rfl, Nat.le_of_ble_eq_true rfl⟩) rfl hl.1 rfl (lv_room (Nat.le_of_ble_eq_true rfl)) dX12_readWall_15 ⟨Nat.zero_le _, Nat.zero_le _⟩ (fun S6 H locs hq G => ?_)
    rw [hq] at G
    clear hq eS4
    have hl := lv_sub hl [1, 0] rfl
    exact tr_readWall_b18 E hA hR hml (fun H locs ls G => W.vret hx hb hr (fun t ht hW => ⟨⟨S1, rfl, rfl, ⟨by rw [ht]; exact G.1, va_K.moved hW.alike hK, G.2.1⟩⟩, G.2.2.F ht⟩) G.2.2.2.2 dX12_readWall_48) (fun H locs ls G => W.vret hx hb hr (fun t ht hW => ⟨⟨S1, rfl, rfl, ⟨by rw [ht]; exact G.1, va_K.moved hW.alike hK, G.2.1⟩⟩, G.2.2.F ht⟩) G.2.2.2.2 dX12_readWall_80) _ _ _ _ _ h G hl
def fr_readFade_b43  (S : MS)  : Option (MS) := some S
set_option maxHeartbeats 4000000 in
set_option maxRecDepth 100000 in
theorem tr_readFade_b43 {p : Program} {l : Launch} {e : Env} {s : State} {m : MethodId} {args : Array Value} {below : List Frame} {meth : Method} {c : Code} {Q : State → Prop} {D : va_G} {A : Nat → Prop} {H0 : Heap} {cI cJ cZ : ClassId} {ad : Nat → Nat} {S1 : MS} (E : mE p c cX12_readFade s m args (Cond.code yX12_readFade cX12_readFade 2 none :: wsM) D cI cJ cZ) (hA : ∀ q : Nat, H0.size ≤ q → A q) (hR : sR s) (hml : c.maxLocals = 2) (kr43 : ∀ (H : Heap) (locs : List Loc) (ls : Array Slot), mG D cI cJ cZ ad A H0 H locs S1 → W p l e { frames := 4, cells := 0, slots := 0, locals := 67 } s m args below meth c H locs 0 0 Q (F0 m 43 ls [])) : ∀ (S : MS) (H : Heap) (locs : List Loc) (ls : Array Slot), fr_readFade_b43 S = some S1 → mG D cI cJ cZ ad A H0 H locs S → lv_has ls 2 [] → W p l e { frames := 4, cells := 0, slots := 0, locals := 67 } s m args below meth c H locs 0 0 Q (F0 m 43 ls []) := by
  have hx := E.1
  have hb := E.2.1
  have hts := E.2.2.1
  have hown := E.2.2.2.1
  have hK := E.2.2.2.2.1
  intro S H locs ls h G hl
  unfold fr_readFade_b43 at h
  rw [osome1 h] at G
  exact kr43 _ _ _ G
def fr_readFade_b15  (S : MS)  : Option (MS) := obind (fr_nextToken S) fun S2 => obind2 (fr_number S2 1 999) fun r8 S5 => elet (S5.1 5) fun v9 => if v9 = 0 then (elet (mf S5 11 (upd (S5.2.1 11) 76 r8)) fun S11 => fr_readFade_b43 S11) else (fr_readFade_b43 S5)
set_option maxHeartbeats 4000000 in
set_option maxRecDepth 100000 in
theorem tr_readFade_b15 {p : Program} {l : Launch} {e : Env} {s : State} {m : MethodId} {args : Array Value} {below : List Frame} {meth : Method} {c : Code} {Q : State → Prop} {D : va_G} {A : Nat → Prop} {H0 : Heap} {cI cJ cZ : ClassId} {ad : Nat → Nat} {S1 : MS} (E : mE p c cX12_readFade s m args (Cond.code yX12_readFade cX12_readFade 2 none :: wsM) D cI cJ cZ) (hA : ∀ q : Nat, H0.size ≤ q → A q) (hR : sR s) (hml : c.maxLocals = 2) (kr43 : ∀ (H : Heap) (locs : List Loc) (ls : Array Slot), mG D cI cJ cZ ad A H0 H locs S1 → W p l e { frames := 4, cells := 0, slots := 0, locals := 67 } s m args below meth c H locs 0 0 Q (F0 m 43 ls [])) : ∀ (S : MS) (H : Heap) (locs : List Loc) (ls : Array Slot), fr_readFade_b15 S = some S1 → mG D cI cJ cZ ad A H0 H locs S → lv_has ls 2 [(0, .ref (ad 0))] → W p l e { frames := 4, cells := 0, slots := 0, locals := 67 } s m args below meth c H locs 0 0 Q (F0 m 15 ls []) := by
  have hx := E.1
  have hb := E.2.1
  have hts := E.2.2.1
  have hown := E.2.2.2.1
  have hK := E.2.2.2.2.1
  intro S H locs ls h G hl
  unfold fr_readFade_b15 at h
  refine lv_aload_n hx hb dX12_readFade_15 rfl (lv_at hl 0 rfl) ?_
  obtain ⟨S2, eS2, h⟩ := obind_some h
  refine m_callv (As := []) (rest := []) E G hA hR hml (tr_nextToken l D cI cJ cZ ad S eS2) (cwV 0 hts (gmV qM_111 qM_112 qM_113 qM_35 qM_45) rfl rfl rfl (by decide +kernel) ⟨Nat.le_of_ble_eq_true rfl, Nat.le_of_ble_eq_true rfl⟩) rfl hl.1 rfl (lv_room (Nat.le_of_ble_eq_true rfl)) dX12_readFade_16 ⟨Nat.zero_le _, Nat.zero_le _⟩ (fun S4 H locs hq G => ?_)
  rw [hq] at G
  clear hq eS2
  refine lv_aload_n hx hb dX12_readFade_19 rfl (lv_at hl 0 rfl) ?_
  refine lv_iconst (v := 1) hx hb dX12_readFade_20 (by decide) ?_
  refine lv_sipush (v := 999) hx hb dX12_readFade_21 (by decide) ?_
  obtain ⟨r8, S5, eS5, h⟩ := obind2_some h
  refine m_calli (As := [.int 1, .int 999]) (rest := []) E G hA hR hml (tr_number l D cI cJ cZ ad S2 1 999 eS5) (cwV 2 hts (gmV qM_130 qM_131 qM_132 qM_35 qM_122) rfl rfl rfl (by decide +kernel) ⟨Nat.le_of_ble_eq_true rfl, Nat.le_of_ble_eq_true rfl⟩) rfl hl.1 rfl (lv_room (Nat.le_of_ble_eq_true rfl)) dX12_readFade_24 ⟨Nat.zero_le _, Nat.zero_le _⟩ (fun q6 S7 H locs hq G => ?_)
  obtain ⟨hq1, hq2⟩ := hq
  rw [hq2] at G
  refine lv_to hq1 ?_
  clear hq1 hq2 eS5
  refine lv_istore_n (lv' := [(1, .int r8), (0, .ref (ad 0))]) hx hb dX12_readFade_27 rfl hl (by decide) rfl (fun ls hl => ?_)
  refine lv_aload_n hx hb dX12_readFade_28 rfl (lv_at hl 1 rfl) ?_
  refine m_get E G 5 (v := .int (S5.1 5)) (by decide) (.tail _ qM_38) rfl dX12_readFade_29 rfl ?_
  refine lv_topi (fun v9 ev9 => ?_)
  have h := elet_at ev9 h
  clear ev9
  refine lv_if_ne (tgt := 43) hx hb dX12_readFade_32 (by decide) (fun c10 => ?_) (fun c10 => ?_)
  · have h := oif_neg c10 h
    have hl := lv_sub hl [] rfl
    exact tr_readFade_b43 E hA hR hml kr43 _ _ _ _ h G hl
  · have h := oif_pos c10 h
    refine lv_aload_n hx hb dX12_readFade_35 rfl (lv_at hl 1 rfl) ?_
    refine m_get E G 11 (v := .ref (ad 11)) (by decide) (.tail _ qM_8) rfl dX12_readFade_36 rfl ?_
    refine lv_bipush (v := 76) hx hb dX12_readFade_39 (by decide) ?_
    refine lv_iload_n hx hb dX12_readFade_41 rfl (lv_at hl 0 rfl) ?_
    refine m_iast E G 11 3 (k := 76) (v := r8) rfl (fun _ => rfl) rfl (by decide) (by decide) dX12_readFade_42 (fun H locs G => ?_)
    obtain ⟨S11, eS11, h⟩ := elet_some h
    rw [← eS11] at G
    clear eS11
    have hl := lv_sub hl [] rfl
    exact tr_readFade_b43 E hA hR hml kr43 _ _ _ _ h G hl
def fr_readFade (S : MS)  : Option (MS) := elet (S.2.1 11 76) fun v2 => if v2 ≤ 0 then (fr_readFade_b15 S) else (obind (fr_faults S 3) fun S4 => fr_readFade_b15 S4)
set_option maxHeartbeats 4000000 in
set_option maxRecDepth 100000 in
theorem tr_readFade (l : Launch) (D : va_G) (cI cJ cZ : ClassId) (ad : Nat → Nat) (S : MS)  {S1 : MS} (h : fr_readFade S = some S1) : mCv l yX12_readFade (Cond.code yX12_readFade cX12_readFade 2 none :: wsM) 4 67 D cI cJ cZ ad S [] (fun S9 => S9 = S1) := by
  intro sz
  refine Met.ofW (cc := cX12_readFade) (maxL := 2) (ret := none) (by decide) rfl ?_
  intro p e s m args below meth c s₁ B hml hv
  obtain ⟨rfl, hsz, hP, hK, hD0, hR⟩ := hv
  have hx := B.exec
  have hb := B.bytes
  have hr := B.returns
  have hts := atoms_spec (ws := (Cond.code yX12_readFade cX12_readFade 2 none :: wsM)) B.pre
  have hown : s.vm.findClass RX12 = some m.cls := findClass_of_methodNamed B.named
  have hlocks := B.notSynchronized
  subst hsz
  have hD := hD0.self (sz := s.heap.size)
  generalize hAe : va_A (MW cI cJ cZ ad S) s.heap.size = A at hD ⊢
  have hA : ∀ q : Nat, s.heap.size ≤ q → A q := fun q h => by rw [← hAe]; exact Or.inr h
  have G : mG D cI cJ cZ ad A s.heap s.heap [] S := ⟨hP, hD, va_S.rf⟩
  have E : mE p c cX12_readFade s m ([.ref (ad 0)] : List Value).toArray (Cond.code yX12_readFade cX12_readFade 2 none :: wsM) D cI cJ cZ := ⟨hx, hb, hts, hown, hK, fun w h => .tail _ (iM_x h)⟩
  have hl := lv_entry ([.ref (ad 0)]) (n := 2) (Nat.le_of_ble_eq_true rfl)
  rw [lg_entry_eq]
  generalize (lg_sl ([.ref (ad 0)]) ++ List.replicate (2 - (lg_sl ([.ref (ad 0)])).length) Slot.unset).toArray = ls at hl ⊢
  have hl : lv_has ls 2 [(0, .ref (ad 0))] := hl
  unfold fr_readFade at h
  refine lv_aload_n hx hb dX12_readFade_0 rfl (lv_at hl 0 rfl) ?_
  refine m_get E G 11 (v := .ref (ad 11)) (by decide) (.tail _ qM_8) rfl dX12_readFade_1 rfl ?_
  refine lv_bipush (v := 76) hx hb dX12_readFade_4 (by decide) ?_
  refine m_iald E G 11 3 (n := 131) (k := 76) rfl rfl (by decide) (by decide) dX12_readFade_6 ?_
  refine lv_topi (fun v2 ev2 => ?_)
  have h := elet_at ev2 h
  clear ev2
  refine lv_if_le (tgt := 15) hx hb dX12_readFade_7 (by decide) (fun c3 => ?_) (fun c3 => ?_)
  · have h := oif_pos c3 h
    have hl := lv_sub hl [0] rfl
    exact tr_readFade_b15 E hA hR hml (fun H locs ls G => W.vret hx hb hr (fun t ht hW => ⟨⟨S1, rfl, rfl, ⟨by rw [ht]; exact G.1, va_K.moved hW.alike hK, G.2.1⟩⟩, G.2.2.F ht⟩) G.2.2.2.2 dX12_readFade_43) _ _ _ _ h G hl
  · have h := oif_neg c3 h
    refine lv_aload_n hx hb dX12_readFade_10 rfl (lv_at hl 0 rfl) ?_
    refine lv_iconst (v := 3) hx hb dX12_readFade_11 (by decide) ?_
    obtain ⟨S4, eS4, h⟩ := obind_some h
    refine m_callv (As := [.int 3]) (rest := []) E G hA hR hml (tr_faults l D cI cJ cZ ad S 3 eS4) (cwV 1 hts (gmV qM_118 qM_119 qM_120 qM_35 qM_42) rfl rfl rfl (by decide +kernel) ⟨Nat.le_of_ble_eq_true rfl, Nat.le_of_ble_eq_true rfl⟩) rfl hl.1 rfl (lv_room (Nat.le_of_ble_eq_true rfl)) dX12_readFade_12 ⟨Nat.zero_le _, Nat.zero_le _⟩ (fun S6 H locs hq G => ?_)
    rw [hq] at G
    clear hq eS4
    have hl := lv_sub hl [0] rfl
    exact tr_readFade_b15 E hA hR hml (fun H locs ls G => W.vret hx hb hr (fun t ht hW => ⟨⟨S1, rfl, rfl, ⟨by rw [ht]; exact G.1, va_K.moved hW.alike hK, G.2.1⟩⟩, G.2.2.F ht⟩) G.2.2.2.2 dX12_readFade_43) _ _ _ _ h G hl
def fr_readFilter_b65 (k19 : MS → Option (MS)) (S : MS)  : Option (MS) := obind2 (fr_signed S (-9) 9) fun r5 S2 => elet (S2.1 5) fun v6 => if v6 ≤ 0 then (elet (S2.2.1 11 77) fun v8 => elet (78 + v8) fun v9 => oif (inb v9 131 = true) <| elet (mf S2 11 (upd (S2.2.1 11) v9.toNatClampNeg r5)) fun S11 => elet (S11.2.1 11 77) fun v12 => elet (v12 + 1) fun v13 => elet (mf S11 11 (upd (S11.2.1 11) 77 v13)) fun S14 => elet (S14.1 7) fun v15 => if v15 = 3 then (k19 S14) else (obind2 (fr_isSignHere S14 45) fun r20 S17 => if r20 = 0 then (some S17) else (k19 S17))) else (some S2)
set_option maxHeartbeats 4000000 in
set_option maxRecDepth 100000 in
theorem tr_readFilter_b65 {p : Program} {l : Launch} {e : Env} {s : State} {m : MethodId} {args : Array Value} {below : List Frame} {meth : Method} {c : Code} {Q : State → Prop} {D : va_G} {A : Nat → Prop} {H0 : Heap} {cI cJ cZ : ClassId} {ad : Nat → Nat} {S1 : MS} (E : mE p c cX12_readFilter s m args (Cond.code yX12_readFilter cX12_readFilter 3 none :: wsM) D cI cJ cZ) (hA : ∀ q : Nat, H0.size ≤ q → A q) (hR : sR s) (hml : c.maxLocals = 3) (kr81 : ∀ (H : Heap) (locs : List Loc) (ls : Array Slot), mG D cI cJ cZ ad A H0 H locs S1 → W p l e { frames := 5, cells := 0, slots := 0, locals := 90 } s m args below meth c H locs 0 0 Q (F0 m 81 ls [])) (kr126 : ∀ (H : Heap) (locs : List Loc) (ls : Array Slot), mG D cI cJ cZ ad A H0 H locs S1 → W p l e { frames := 5, cells := 0, slots := 0, locals := 90 } s m args below meth c H locs 0 0 Q (F0 m 126 ls [])) {k19 : MS → Option (MS)} (hk19 : ∀ (S : MS) (H : Heap) (locs : List Loc) (ls : Array Slot), k19 S = some S1 → mG D cI cJ cZ ad A H0 H locs S → lv_has ls 3 [(0, .ref (ad 0))] → W p l e { frames := 5, cells := 0, slots := 0, locals := 90 } s m args below meth c H locs 0 0 Q (F0 m 19 ls [])) : ∀ (S : MS) (H : Heap) (locs : List Loc) (ls : Array Slot), fr_readFilter_b65 k19 S = some S1 → mG D cI cJ cZ ad A H0 H locs S → lv_has ls 3 [(0, .ref (ad 0))] → W p l e { frames := 5, cells := 0, slots := 0, locals := 90 } s m args below meth c H locs 0 0 Q (F0 m 65 ls []) := by
  have hx := E.1
  have hb := E.2.1
  have hts := E.2.2.1
  have hown := E.2.2.2.1
  have hK := E.2.2.2.2.1
  intro S H locs ls h G hl
  unfold fr_readFilter_b65 at h
  refine lv_aload_n hx hb dX12_readFilter_65 rfl (lv_at hl 0 rfl) ?_
  refine lv_bipush (v := (-9)) hx hb dX12_readFilter_66 (by decide) ?_
  refine lv_bipush (v := 9) hx hb dX12_readFilter_68 (by decide) ?_
  obtain ⟨r5, S2, eS2, h⟩ := obind2_some h
  refine m_calli (As := [.int (-9), .int 9]) (rest := []) E G hA hR hml (tr_signed l D cI cJ cZ ad S (-9) 9 eS2) (cwV 2 hts (gmV qM_142 qM_143 qM_144 qM_35 qM_133) rfl rfl rfl (by decide +kernel) ⟨Nat.le_of_ble_eq_true rfl, Nat.le_of_ble_eq_true rfl⟩) rfl hl.1 rfl (lv_room (Nat.le_of_ble_eq_true rfl)) dX12_readFilter_70 ⟨Nat.zero_le _, Nat.zero_le _⟩ (fun q3 S4 H locs hq G => ?_)
  obtain ⟨hq1, hq2⟩ := hq
  rw [hq2] at G
  refine lv_to hq1 ?_
  clear hq1 hq2 eS2
  refine lv_istore_n (lv' := [(2, .int r5), (0, .ref (ad 0))]) hx hb dX12_readFilter_73 rfl hl (by decide) rfl (fun ls hl => ?_)
  refine lv_aload_n hx hb dX12_readFilter_74 rfl (lv_at hl 1 rfl) ?_
  refine m_get E G 5 (v := .int (S2.1 5)) (by decide) (.tail _ qM_38) rfl dX12_readFilter_75 rfl ?_
  refine lv_topi (fun v6 ev6 => ?_)
  have h := elet_at ev6 h
  clear ev6
  refine lv_if_le (tgt := 82) hx hb dX12_readFilter_78 (by decide) (fun c7 => ?_) (fun c7 => ?_)
  · have h := oif_pos c7 h
    refine lv_aload_n hx hb dX12_readFilter_82 rfl (lv_at hl 1 rfl) ?_
    refine m_get E G 11 (v := .ref (ad 11)) (by decide) (.tail _ qM_8) rfl dX12_readFilter_83 rfl ?_
    refine lv_bipush (v := 78) hx hb dX12_readFilter_86 (by decide) ?_
    refine lv_aload_n hx hb dX12_readFilter_88 rfl (lv_at hl 1 rfl) ?_
    refine m_get E G 11 (v := .ref (ad 11)) (by decide) (.tail _ qM_8) rfl dX12_readFilter_89 rfl ?_
    refine lv_bipush (v := 77) hx hb dX12_readFilter_92 (by decide) ?_
    refine m_iald E G 11 3 (n := 131) (k := 77) rfl rfl (by decide) (by decide) dX12_readFilter_94 ?_
    refine lv_topi (fun v8 ev8 => ?_)
    have h := elet_at ev8 h
    clear ev8
    refine lv_iadd hx hb dX12_readFilter_95 ?_
    refine lv_topi (fun v9 ev9 => ?_)
    have h := elet_at ev9 h
    clear ev9
    refine lv_iload_n hx hb dX12_readFilter_96 rfl (lv_at hl 0 rfl) ?_
    obtain ⟨g10, h⟩ := oif_some h
    refine m_iast E G 11 3 (k := v9.toNatClampNeg) (v := r5) rfl (fun _ => rfl) (inb_k g10).1 (inb_k g10).2 (by decide) dX12_readFilter_97 (fun H locs G => ?_)
    obtain ⟨S11, eS11, h⟩ := elet_some h
    rw [← eS11] at G
    clear eS11
    refine lv_aload_n hx hb dX12_readFilter_98 rfl (lv_at hl 1 rfl) ?_
    refine m_get E G 11 (v := .ref (ad 11)) (by decide) (.tail _ qM_8) rfl dX12_readFilter_99 rfl ?_
    refine lv_bipush (v := 77) hx hb dX12_readFilter_102 (by decide) ?_
    refine lv_dup2_11 hx hb dX12_readFilter_104 rfl rfl ?_
    refine m_iald E G 11 3 (n := 131) (k := 77) rfl rfl (by decide) (by decide) dX12_readFilter_105 ?_
    refine lv_topi (fun v12 ev12 => ?_)
    have h := elet_at ev12 h
    clear ev12
    refine lv_iconst (v := 1) hx hb dX12_readFilter_106 (by decide) ?_
    refine lv_iadd hx hb dX12_readFilter_107 ?_
    refine lv_topi (fun v13 ev13 => ?_)
    have h := elet_at ev13 h
    clear ev13
    refine m_iast E G 11 3 (k := 77) (v := v13) rfl (fun _ => rfl) rfl (by decide) (by decide) dX12_readFilter_108 (fun H locs G => ?_)
    obtain ⟨S14, eS14, h⟩ := elet_some h
    rw [← eS14] at G
    clear eS14
    refine lv_aload_n hx hb dX12_readFilter_109 rfl (lv_at hl 1 rfl) ?_
    refine m_get E G 7 (v := .int (S14.1 7)) (by decide) (.tail _ qM_47) rfl dX12_readFilter_110 rfl ?_
    refine lv_topi (fun v15 ev15 => ?_)
    have h := elet_at ev15 h
    clear ev15
    refine lv_iconst (v := 3) hx hb dX12_readFilter_113 (by decide) ?_
    refine lv_icmp_eq (tgt := 19) hx hb dX12_readFilter_114 (by decide) (fun c16 => ?_) (fun c16 => ?_)
    · have h := oif_pos c16 h
      have hl := lv_sub hl [1] rfl
      exact hk19 _ _ _ _ h G hl
    · have h := oif_neg c16 h
      refine lv_aload_n hx hb dX12_readFilter_117 rfl (lv_at hl 1 rfl) ?_
      refine lv_bipush (v := 45) hx hb dX12_readFilter_118 (by decide) ?_
      obtain ⟨r20, S17, eS17, h⟩ := obind2_some h
      refine m_calli (As := [.int 45]) (rest := []) E G hA hR hml (tr_isSignHere l D cI cJ cZ ad S14 45 eS17) (cwV 1 hts (gmV qM_134 qM_135 qM_136 qM_35 qM_56) rfl rfl rfl (by decide +kernel) ⟨Nat.le_of_ble_eq_true rfl, Nat.le_of_ble_eq_true rfl⟩) rfl hl.1 rfl (lv_room (Nat.le_of_ble_eq_true rfl)) dX12_readFilter_120 ⟨Nat.zero_le _, Nat.zero_le _⟩ (fun q18 S19 H locs hq G => ?_)
      obtain ⟨hq1, hq2⟩ := hq
      rw [hq2] at G
      refine lv_to hq1 ?_
      clear hq1 hq2 eS17
      refine lv_if_ne (tgt := 19) hx hb dX12_readFilter_123 (by decide) (fun c21 => ?_) (fun c21 => ?_)
      · have h := oif_neg c21 h
        have hl := lv_sub hl [1] rfl
        exact hk19 _ _ _ _ h G hl
      · have h := oif_pos c21 h
        rw [osome1 h] at G
        exact kr126 _ _ _ G
  · have h := oif_neg c7 h
    rw [osome1 h] at G
    exact kr81 _ _ _ G
def fr_readFilter_b56 (k19 : MS → Option (MS)) (S : MS) (l1 : Int32) : Option (MS) := if l1 = 0 then (fr_readFilter_b65 k19 S) else (obind (fr_faults S 4) fun S3 => fr_readFilter_b65 k19 S3)
set_option maxHeartbeats 4000000 in
set_option maxRecDepth 100000 in
theorem tr_readFilter_b56 {p : Program} {l : Launch} {e : Env} {s : State} {m : MethodId} {args : Array Value} {below : List Frame} {meth : Method} {c : Code} {Q : State → Prop} {D : va_G} {A : Nat → Prop} {H0 : Heap} {cI cJ cZ : ClassId} {ad : Nat → Nat} {S1 : MS} (E : mE p c cX12_readFilter s m args (Cond.code yX12_readFilter cX12_readFilter 3 none :: wsM) D cI cJ cZ) (hA : ∀ q : Nat, H0.size ≤ q → A q) (hR : sR s) (hml : c.maxLocals = 3) (kr81 : ∀ (H : Heap) (locs : List Loc) (ls : Array Slot), mG D cI cJ cZ ad A H0 H locs S1 → W p l e { frames := 5, cells := 0, slots := 0, locals := 90 } s m args below meth c H locs 0 0 Q (F0 m 81 ls [])) (kr126 : ∀ (H : Heap) (locs : List Loc) (ls : Array Slot), mG D cI cJ cZ ad A H0 H locs S1 → W p l e { frames := 5, cells := 0, slots := 0, locals := 90 } s m args below meth c H locs 0 0 Q (F0 m 126 ls [])) {k19 : MS → Option (MS)} (hk19 : ∀ (S : MS) (H : Heap) (locs : List Loc) (ls : Array Slot), k19 S = some S1 → mG D cI cJ cZ ad A H0 H locs S → lv_has ls 3 [(0, .ref (ad 0))] → W p l e { frames := 5, cells := 0, slots := 0, locals := 90 } s m args below meth c H locs 0 0 Q (F0 m 19 ls [])) : ∀ (S : MS) (H : Heap) (locs : List Loc) (ls : Array Slot) (l1 : Int32), fr_readFilter_b56 k19 S l1 = some S1 → mG D cI cJ cZ ad A H0 H locs S → lv_has ls 3 [(0, .ref (ad 0)), (1, .int l1)] → W p l e { frames := 5, cells := 0, slots := 0, locals := 90 } s m args below meth c H locs 0 0 Q (F0 m 56 ls []) := by
  have hx := E.1
  have hb := E.2.1
  have hts := E.2.2.1
  have hown := E.2.2.2.1
  have hK := E.2.2.2.2.1
  intro S H locs ls l1 h G hl
  unfold fr_readFilter_b56 at h
  refine lv_iload_n hx hb dX12_readFilter_56 rfl (lv_at hl 1 rfl) ?_
  refine lv_if_eq (tgt := 65) hx hb dX12_readFilter_57 (by decide) (fun c2 => ?_) (fun c2 => ?_)
  · have h := oif_pos c2 h
    have hl := lv_sub hl [0] rfl
    exact tr_readFilter_b65 E hA hR hml kr81 kr126 hk19 _ _ _ _ h G hl
  · have h := oif_neg c2 h
    refine lv_aload_n hx hb dX12_readFilter_60 rfl (lv_at hl 0 rfl) ?_
    refine lv_iconst (v := 4) hx hb dX12_readFilter_61 (by decide) ?_
    obtain ⟨S3, eS3, h⟩ := obind_some h
    refine m_callv (As := [.int 4]) (rest := []) E G hA hR hml (tr_faults l D cI cJ cZ ad S 4 eS3) (cwV 1 hts (gmV qM_118 qM_119 qM_120 qM_35 qM_42) rfl rfl rfl (by decide +kernel) ⟨Nat.le_of_ble_eq_true rfl, Nat.le_of_ble_eq_true rfl⟩) rfl hl.1 rfl (lv_room (Nat.le_of_ble_eq_true rfl)) dX12_readFilter_62 ⟨Nat.zero_le _, Nat.zero_le _⟩ (fun S5 H locs hq G => ?_)
    rw [hq] at G
    clear hq eS3
    have hl := lv_sub hl [0] rfl
    exact tr_readFilter_b65 E hA hR hml kr81 kr126 hk19 _ _ _ _ h G hl
def fr_readFilter_b35 (k19 : MS → Option (MS)) (S : MS) (s0 : Int32) : Option (MS) := if s0 = 0 then (fr_readFilter_b56 k19 S s0) else (elet (S.1 7) fun v3 => if v3 = 3 then (obind2 (fr_look S 0 9) fun r8 S5 => fr_readFilter_b56 k19 S5 s0) else (fr_readFilter_b56 k19 S s0))
set_option maxHeartbeats 4000000 in
set_option maxRecDepth 100000 in
theorem tr_readFilter_b35 {p : Program} {l : Launch} {e : Env} {s : State} {m : MethodId} {args : Array Value} {below : List Frame} {meth : Method} {c : Code} {Q : State → Prop} {D : va_G} {A : Nat → Prop} {H0 : Heap} {cI cJ cZ : ClassId} {ad : Nat → Nat} {S1 : MS} (E : mE p c cX12_readFilter s m args (Cond.code yX12_readFilter cX12_readFilter 3 none :: wsM) D cI cJ cZ) (hA : ∀ q : Nat, H0.size ≤ q → A q) (hR : sR s) (hml : c.maxLocals = 3) (kr81 : ∀ (H : Heap) (locs : List Loc) (ls : Array Slot), mG D cI cJ cZ ad A H0 H locs S1 → W p l e { frames := 5, cells := 0, slots := 0, locals := 90 } s m args below meth c H locs 0 0 Q (F0 m 81 ls [])) (kr126 : ∀ (H : Heap) (locs : List Loc) (ls : Array Slot), mG D cI cJ cZ ad A H0 H locs S1 → W p l e { frames := 5, cells := 0, slots := 0, locals := 90 } s m args below meth c H locs 0 0 Q (F0 m 126 ls [])) {k19 : MS → Option (MS)} (hk19 : ∀ (S : MS) (H : Heap) (locs : List Loc) (ls : Array Slot), k19 S = some S1 → mG D cI cJ cZ ad A H0 H locs S → lv_has ls 3 [(0, .ref (ad 0))] → W p l e { frames := 5, cells := 0, slots := 0, locals := 90 } s m args below meth c H locs 0 0 Q (F0 m 19 ls [])) : ∀ (S : MS) (H : Heap) (locs : List Loc) (ls : Array Slot) (s0 : Int32), fr_readFilter_b35 k19 S s0 = some S1 → mG D cI cJ cZ ad A H0 H locs S → lv_has ls 3 [(0, .ref (ad 0))] → W p l e { frames := 5, cells := 0, slots := 0, locals := 90 } s m args below meth c H locs 0 0 Q (F0 m 35 ls [.int s0]) := by
  have hx := E.1
  have hb := E.2.1
  have hts := E.2.2.1
  have hown := E.2.2.2.1
  have hK := E.2.2.2.2.1
  intro S H locs ls s0 h G hl
  unfold fr_readFilter_b35 at h
  refine lv_istore_n (lv' := [(1, .int s0), (0, .ref (ad 0))]) hx hb dX12_readFilter_35 rfl hl (by decide) rfl (fun ls hl => ?_)
  refine lv_iload_n hx hb dX12_readFilter_36 rfl (lv_at hl 0 rfl) ?_
  refine lv_if_eq (tgt := 56) hx hb dX12_readFilter_37 (by decide) (fun c2 => ?_) (fun c2 => ?_)
  · have h := oif_pos c2 h
    have hl := lv_sub hl [1, 0] rfl
    exact tr_readFilter_b56 E hA hR hml kr81 kr126 hk19 _ _ _ _ _ h G hl
  · have h := oif_neg c2 h
    refine lv_aload_n hx hb dX12_readFilter_40 rfl (lv_at hl 1 rfl) ?_
    refine m_get E G 7 (v := .int (S.1 7)) (by decide) (.tail _ qM_47) rfl dX12_readFilter_41 rfl ?_
    refine lv_topi (fun v3 ev3 => ?_)
    have h := elet_at ev3 h
    clear ev3
    refine lv_iconst (v := 3) hx hb dX12_readFilter_44 (by decide) ?_
    refine lv_icmp_ne (tgt := 56) hx hb dX12_readFilter_45 (by decide) (fun c4 => ?_) (fun c4 => ?_)
    · have h := oif_neg c4 h
      have hl := lv_sub hl [1, 0] rfl
      exact tr_readFilter_b56 E hA hR hml kr81 kr126 hk19 _ _ _ _ _ h G hl
    · have h := oif_pos c4 h
      refine lv_aload_n hx hb dX12_readFilter_48 rfl (lv_at hl 1 rfl) ?_
      refine lv_iconst (v := 0) hx hb dX12_readFilter_49 (by decide) ?_
      refine lv_bipush (v := 9) hx hb dX12_readFilter_50 (by decide) ?_
      obtain ⟨r8, S5, eS5, h⟩ := obind2_some h
      refine m_calli (As := [.int 0, .int 9]) (rest := []) E G hA hR hml (tr_look l D cI cJ cZ ad S 0 9 eS5) (cwV 2 hts (gmV qM_123 qM_124 qM_125 qM_35 qM_121) rfl rfl rfl (by decide +kernel) ⟨Nat.le_of_ble_eq_true rfl, Nat.le_of_ble_eq_true rfl⟩) rfl hl.1 rfl (lv_room (Nat.le_of_ble_eq_true rfl)) dX12_readFilter_52 ⟨Nat.zero_le _, Nat.zero_le _⟩ (fun q6 S7 H locs hq G => ?_)
      obtain ⟨hq1, hq2⟩ := hq
      rw [hq2] at G
      refine lv_to hq1 ?_
      clear hq1 hq2 eS5
      refine lv_pop hx hb dX12_readFilter_55 rfl ?_
      have hl := lv_sub hl [1, 0] rfl
      exact tr_readFilter_b56 E hA hR hml kr81 kr126 hk19 _ _ _ _ _ h G hl
def fr_readFilter_b19  : Nat → MS → Option (MS)
  | 0, _ => none
  | n + 1, S => elet (S.2.1 11 77) fun v2 => if v2 = 5 then (fr_readFilter_b35 (fr_readFilter_b19 n) S 1) else (fr_readFilter_b35 (fr_readFilter_b19 n) S 0)
set_option maxHeartbeats 4000000 in
set_option maxRecDepth 100000 in
theorem tr_readFilter_b19 {p : Program} {l : Launch} {e : Env} {s : State} {m : MethodId} {args : Array Value} {below : List Frame} {meth : Method} {c : Code} {Q : State → Prop} {D : va_G} {A : Nat → Prop} {H0 : Heap} {cI cJ cZ : ClassId} {ad : Nat → Nat} {S1 : MS} (E : mE p c cX12_readFilter s m args (Cond.code yX12_readFilter cX12_readFilter 3 none :: wsM) D cI cJ cZ) (hA : ∀ q : Nat, H0.size ≤ q → A q) (hR : sR s) (hml : c.maxLocals = 3) (kr81 : ∀ (H : Heap) (locs : List Loc) (ls : Array Slot), mG D cI cJ cZ ad A H0 H locs S1 → W p l e { frames := 5, cells := 0, slots := 0, locals := 90 } s m args below meth c H locs 0 0 Q (F0 m 81 ls [])) (kr126 : ∀ (H : Heap) (locs : List Loc) (ls : Array Slot), mG D cI cJ cZ ad A H0 H locs S1 → W p l e { frames := 5, cells := 0, slots := 0, locals := 90 } s m args below meth c H locs 0 0 Q (F0 m 126 ls [])) : ∀ n : Nat, ∀ (S : MS) (H : Heap) (locs : List Loc) (ls : Array Slot), fr_readFilter_b19 n S = some S1 → mG D cI cJ cZ ad A H0 H locs S → lv_has ls 3 [(0, .ref (ad 0))] → W p l e { frames := 5, cells := 0, slots := 0, locals := 90 } s m args below meth c H locs 0 0 Q (F0 m 19 ls []) := by
  have hx := E.1
  have hb := E.2.1
  have hts := E.2.2.1
  have hown := E.2.2.2.1
  have hK := E.2.2.2.2.1
  intro n
  induction n with
  | zero =>
    intro S H locs ls h
    have h : (none : Option (MS)) = some S1 := h
    cases h
  | succ n ih =>
    intro S H locs ls h G hl
    unfold fr_readFilter_b19 at h
    refine lv_aload_n hx hb dX12_readFilter_19 rfl (lv_at hl 0 rfl) ?_
    refine m_get E G 11 (v := .ref (ad 11)) (by decide) (.tail _ qM_8) rfl dX12_readFilter_20 rfl ?_
    refine lv_bipush (v := 77) hx hb dX12_readFilter_23 (by decide) ?_
    refine m_iald E G 11 3 (n := 131) (k := 77) rfl rfl (by decide) (by decide) dX12_readFilter_25 ?_
    refine lv_topi (fun v2 ev2 => ?_)
    have h := elet_at ev2 h
    clear ev2
    refine lv_iconst (v := 5) hx hb dX12_readFilter_26 (by decide) ?_
    refine lv_icmp_ne (tgt := 34) hx hb dX12_readFilter_27 (by decide) (fun c3 => ?_) (fun c3 => ?_)
    · have h := oif_neg c3 h
      refine lv_iconst (v := 0) hx hb dX12_readFilter_34 (by decide) ?_
      have hl := lv_sub hl [0] rfl
      exact tr_readFilter_b35 E hA hR hml kr81 kr126 ih _ _ _ _ _ h G hl
    · have h := oif_pos c3 h
      refine lv_iconst (v := 1) hx hb dX12_readFilter_30 (by decide) ?_
      refine lv_goto (tgt := 35) hx hb dX12_readFilter_31 (by decide) ?_
      have hl := lv_sub hl [0] rfl
      exact tr_readFilter_b35 E hA hR hml kr81 kr126 ih _ _ _ _ _ h G hl
def fr_readFilter_b15  (S : MS)  : Option (MS) := obind (fr_nextToken S) fun S2 => fr_readFilter_b19 16384 S2
set_option maxHeartbeats 4000000 in
set_option maxRecDepth 100000 in
theorem tr_readFilter_b15 {p : Program} {l : Launch} {e : Env} {s : State} {m : MethodId} {args : Array Value} {below : List Frame} {meth : Method} {c : Code} {Q : State → Prop} {D : va_G} {A : Nat → Prop} {H0 : Heap} {cI cJ cZ : ClassId} {ad : Nat → Nat} {S1 : MS} (E : mE p c cX12_readFilter s m args (Cond.code yX12_readFilter cX12_readFilter 3 none :: wsM) D cI cJ cZ) (hA : ∀ q : Nat, H0.size ≤ q → A q) (hR : sR s) (hml : c.maxLocals = 3) (kr81 : ∀ (H : Heap) (locs : List Loc) (ls : Array Slot), mG D cI cJ cZ ad A H0 H locs S1 → W p l e { frames := 5, cells := 0, slots := 0, locals := 90 } s m args below meth c H locs 0 0 Q (F0 m 81 ls [])) (kr126 : ∀ (H : Heap) (locs : List Loc) (ls : Array Slot), mG D cI cJ cZ ad A H0 H locs S1 → W p l e { frames := 5, cells := 0, slots := 0, locals := 90 } s m args below meth c H locs 0 0 Q (F0 m 126 ls [])) : ∀ (S : MS) (H : Heap) (locs : List Loc) (ls : Array Slot), fr_readFilter_b15 S = some S1 → mG D cI cJ cZ ad A H0 H locs S → lv_has ls 3 [(0, .ref (ad 0))] → W p l e { frames := 5, cells := 0, slots := 0, locals := 90 } s m args below meth c H locs 0 0 Q (F0 m 15 ls []) := by
  have hx := E.1
  have hb := E.2.1
  have hts := E.2.2.1
  have hown := E.2.2.2.1
  have hK := E.2.2.2.2.1
  intro S H locs ls h G hl
  unfold fr_readFilter_b15 at h
  refine lv_aload_n hx hb dX12_readFilter_15 rfl (lv_at hl 0 rfl) ?_
  obtain ⟨S2, eS2, h⟩ := obind_some h
  refine m_callv (As := []) (rest := []) E G hA hR hml (tr_nextToken l D cI cJ cZ ad S eS2) (cwV 0 hts (gmV qM_111 qM_112 qM_113 qM_35 qM_45) rfl rfl rfl (by decide +kernel) ⟨Nat.le_of_ble_eq_true rfl, Nat.le_of_ble_eq_true rfl⟩) rfl hl.1 rfl (lv_room (Nat.le_of_ble_eq_true rfl)) dX12_readFilter_16 ⟨Nat.zero_le _, Nat.zero_le _⟩ (fun S4 H locs hq G => ?_)
  rw [hq] at G
  clear hq eS2
  have hl := lv_sub hl [0] rfl
  exact tr_readFilter_b19 E hA hR hml kr81 kr126 _ _ _ _ _ h G hl
def fr_readFilter (S : MS)  : Option (MS) := elet (S.2.1 11 77) fun v2 => if v2 ≤ 0 then (fr_readFilter_b15 S) else (obind (fr_faults S 3) fun S4 => fr_readFilter_b15 S4)
set_option maxHeartbeats 4000000 in
set_option maxRecDepth 100000 in
theorem tr_readFilter (l : Launch) (D : va_G) (cI cJ cZ : ClassId) (ad : Nat → Nat) (S : MS)  {S1 : MS} (h : fr_readFilter S = some S1) : mCv l yX12_readFilter (Cond.code yX12_readFilter cX12_readFilter 3 none :: wsM) 5 90 D cI cJ cZ ad S [] (fun S9 => S9 = S1) := by
  intro sz
  refine Met.ofW (cc := cX12_readFilter) (maxL := 3) (ret := none) (by decide) rfl ?_
  intro p e s m args below meth c s₁ B hml hv
  obtain ⟨rfl, hsz, hP, hK, hD0, hR⟩ := hv
  have hx := B.exec
  have hb := B.bytes
  have hr := B.returns
  have hts := atoms_spec (ws := (Cond.code yX12_readFilter cX12_readFilter 3 none :: wsM)) B.pre
  have hown : s.vm.findClass RX12 = some m.cls := findClass_of_methodNamed B.named
  have hlocks := B.notSynchronized
  subst hsz
  have hD := hD0.self (sz := s.heap.size)
  generalize hAe : va_A (MW cI cJ cZ ad S) s.heap.size = A at hD ⊢
  have hA : ∀ q : Nat, s.heap.size ≤ q → A q := fun q h => by rw [← hAe]; exact Or.inr h
  have G : mG D cI cJ cZ ad A s.heap s.heap [] S := ⟨hP, hD, va_S.rf⟩
  have E : mE p c cX12_readFilter s m ([.ref (ad 0)] : List Value).toArray (Cond.code yX12_readFilter cX12_readFilter 3 none :: wsM) D cI cJ cZ := ⟨hx, hb, hts, hown, hK, fun w h => .tail _ (iM_x h)⟩
  have hl := lv_entry ([.ref (ad 0)]) (n := 3) (Nat.le_of_ble_eq_true rfl)
  rw [lg_entry_eq]
  generalize (lg_sl ([.ref (ad 0)]) ++ List.replicate (3 - (lg_sl ([.ref (ad 0)])).length) Slot.unset).toArray = ls at hl ⊢
  have hl : lv_has ls 3 [(0, .ref (ad 0))] := hl
  unfold fr_readFilter at h
  refine lv_aload_n hx hb dX12_readFilter_0 rfl (lv_at hl 0 rfl) ?_
  refine m_get E G 11 (v := .ref (ad 11)) (by decide) (.tail _ qM_8) rfl dX12_readFilter_1 rfl ?_
  refine lv_bipush (v := 77) hx hb dX12_readFilter_4 (by decide) ?_
  refine m_iald E G 11 3 (n := 131) (k := 77) rfl rfl (by decide) (by decide) dX12_readFilter_6 ?_
  refine lv_topi (fun v2 ev2 => ?_)
  have h := elet_at ev2 h
  clear ev2
  refine lv_if_le (tgt := 15) hx hb dX12_readFilter_7 (by decide) (fun c3 => ?_) (fun c3 => ?_)
  · have h := oif_pos c3 h
    have hl := lv_sub hl [0] rfl
    exact tr_readFilter_b15 E hA hR hml (fun H locs ls G => W.vret hx hb hr (fun t ht hW => ⟨⟨S1, rfl, rfl, ⟨by rw [ht]; exact G.1, va_K.moved hW.alike hK, G.2.1⟩⟩, G.2.2.F ht⟩) G.2.2.2.2 dX12_readFilter_81) (fun H locs ls G => W.vret hx hb hr (fun t ht hW => ⟨⟨S1, rfl, rfl, ⟨by rw [ht]; exact G.1, va_K.moved hW.alike hK, G.2.1⟩⟩, G.2.2.F ht⟩) G.2.2.2.2 dX12_readFilter_126) _ _ _ _ h G hl
  · have h := oif_neg c3 h
    refine lv_aload_n hx hb dX12_readFilter_10 rfl (lv_at hl 0 rfl) ?_
    refine lv_iconst (v := 3) hx hb dX12_readFilter_11 (by decide) ?_
    obtain ⟨S4, eS4, h⟩ := obind_some h
    refine m_callv (As := [.int 3]) (rest := []) E G hA hR hml (tr_faults l D cI cJ cZ ad S 3 eS4) (cwV 1 hts (gmV qM_118 qM_119 qM_120 qM_35 qM_42) rfl rfl rfl (by decide +kernel) ⟨Nat.le_of_ble_eq_true rfl, Nat.le_of_ble_eq_true rfl⟩) rfl hl.1 rfl (lv_room (Nat.le_of_ble_eq_true rfl)) dX12_readFilter_12 ⟨Nat.zero_le _, Nat.zero_le _⟩ (fun S6 H locs hq G => ?_)
    rw [hq] at G
    clear hq eS4
    have hl := lv_sub hl [0] rfl
    exact tr_readFilter_b15 E hA hR hml (fun H locs ls G => W.vret hx hb hr (fun t ht hW => ⟨⟨S1, rfl, rfl, ⟨by rw [ht]; exact G.1, va_K.moved hW.alike hK, G.2.1⟩⟩, G.2.2.F ht⟩) G.2.2.2.2 dX12_readFilter_81) (fun H locs ls G => W.vret hx hb hr (fun t ht hW => ⟨⟨S1, rfl, rfl, ⟨by rw [ht]; exact G.1, va_K.moved hW.alike hK, G.2.1⟩⟩, G.2.2.F ht⟩) G.2.2.2.2 dX12_readFilter_126) _ _ _ _ h G hl
def fr_readClock_b71  (S : MS)  : Option (MS) := some S
set_option maxHeartbeats 4000000 in
set_option maxRecDepth 100000 in
theorem tr_readClock_b71 {p : Program} {l : Launch} {e : Env} {s : State} {m : MethodId} {args : Array Value} {below : List Frame} {meth : Method} {c : Code} {Q : State → Prop} {D : va_G} {A : Nat → Prop} {H0 : Heap} {cI cJ cZ : ClassId} {ad : Nat → Nat} {S1 : MS} (E : mE p c cX12_readClock s m args (Cond.code yX12_readClock cX12_readClock 3 none :: wsM) D cI cJ cZ) (hA : ∀ q : Nat, H0.size ≤ q → A q) (hR : sR s) (hml : c.maxLocals = 3) (kr71 : ∀ (H : Heap) (locs : List Loc) (ls : Array Slot), mG D cI cJ cZ ad A H0 H locs S1 → W p l e { frames := 4, cells := 0, slots := 0, locals := 67 } s m args below meth c H locs 0 0 Q (F0 m 71 ls [])) : ∀ (S : MS) (H : Heap) (locs : List Loc) (ls : Array Slot), fr_readClock_b71 S = some S1 → mG D cI cJ cZ ad A H0 H locs S → lv_has ls 3 [] → W p l e { frames := 4, cells := 0, slots := 0, locals := 67 } s m args below meth c H locs 0 0 Q (F0 m 71 ls []) := by
  have hx := E.1
  have hb := E.2.1
  have hts := E.2.2.1
  have hown := E.2.2.2.1
  have hK := E.2.2.2.2.1
  intro S H locs ls h G hl
  unfold fr_readClock_b71 at h
  rw [osome1 h] at G
  exact kr71 _ _ _ G
def fr_readClock_b42  (S : MS) (l1 : Int32) : Option (MS) := obind (fr_nextToken S) fun S2 => obind2 (fr_number S2 1 31) fun r8 S5 => elet (S5.1 5) fun v9 => if v9 = 0 then (elet (83 + l1) fun v11 => oif (inb v11 131 = true) <| elet (mf S5 11 (upd (S5.2.1 11) v11.toNatClampNeg r8)) fun S13 => fr_readClock_b71 S13) else (fr_readClock_b71 S5)
set_option maxHeartbeats 4000000 in
set_option maxRecDepth 100000 in
theorem tr_readClock_b42 {p : Program} {l : Launch} {e : Env} {s : State} {m : MethodId} {args : Array Value} {below : List Frame} {meth : Method} {c : Code} {Q : State → Prop} {D : va_G} {A : Nat → Prop} {H0 : Heap} {cI cJ cZ : ClassId} {ad : Nat → Nat} {S1 : MS} (E : mE p c cX12_readClock s m args (Cond.code yX12_readClock cX12_readClock 3 none :: wsM) D cI cJ cZ) (hA : ∀ q : Nat, H0.size ≤ q → A q) (hR : sR s) (hml : c.maxLocals = 3) (kr71 : ∀ (H : Heap) (locs : List Loc) (ls : Array Slot), mG D cI cJ cZ ad A H0 H locs S1 → W p l e { frames := 4, cells := 0, slots := 0, locals := 67 } s m args below meth c H locs 0 0 Q (F0 m 71 ls [])) : ∀ (S : MS) (H : Heap) (locs : List Loc) (ls : Array Slot) (l1 : Int32), fr_readClock_b42 S l1 = some S1 → mG D cI cJ cZ ad A H0 H locs S → lv_has ls 3 [(0, .ref (ad 0)), (1, .int l1)] → W p l e { frames := 4, cells := 0, slots := 0, locals := 67 } s m args below meth c H locs 0 0 Q (F0 m 42 ls []) := by
  have hx := E.1
  have hb := E.2.1
  have hts := E.2.2.1
  have hown := E.2.2.2.1
  have hK := E.2.2.2.2.1
  intro S H locs ls l1 h G hl
  unfold fr_readClock_b42 at h
  refine lv_aload_n hx hb dX12_readClock_42 rfl (lv_at hl 0 rfl) ?_
  obtain ⟨S2, eS2, h⟩ := obind_some h
  refine m_callv (As := []) (rest := []) E G hA hR hml (tr_nextToken l D cI cJ cZ ad S eS2) (cwV 0 hts (gmV qM_111 qM_112 qM_113 qM_35 qM_45) rfl rfl rfl (by decide +kernel) ⟨Nat.le_of_ble_eq_true rfl, Nat.le_of_ble_eq_true rfl⟩) rfl hl.1 rfl (lv_room (Nat.le_of_ble_eq_true rfl)) dX12_readClock_43 ⟨Nat.zero_le _, Nat.zero_le _⟩ (fun S4 H locs hq G => ?_)
  rw [hq] at G
  clear hq eS2
  refine lv_aload_n hx hb dX12_readClock_46 rfl (lv_at hl 0 rfl) ?_
  refine lv_iconst (v := 1) hx hb dX12_readClock_47 (by decide) ?_
  refine lv_bipush (v := 31) hx hb dX12_readClock_48 (by decide) ?_
  obtain ⟨r8, S5, eS5, h⟩ := obind2_some h
  refine m_calli (As := [.int 1, .int 31]) (rest := []) E G hA hR hml (tr_number l D cI cJ cZ ad S2 1 31 eS5) (cwV 2 hts (gmV qM_130 qM_131 qM_132 qM_35 qM_122) rfl rfl rfl (by decide +kernel) ⟨Nat.le_of_ble_eq_true rfl, Nat.le_of_ble_eq_true rfl⟩) rfl hl.1 rfl (lv_room (Nat.le_of_ble_eq_true rfl)) dX12_readClock_50 ⟨Nat.zero_le _, Nat.zero_le _⟩ (fun q6 S7 H locs hq G => ?_)
  obtain ⟨hq1, hq2⟩ := hq
  rw [hq2] at G
  refine lv_to hq1 ?_
  clear hq1 hq2 eS5
  refine lv_istore_n (lv' := [(2, .int r8), (0, .ref (ad 0)), (1, .int l1)]) hx hb dX12_readClock_53 rfl hl (by decide) rfl (fun ls hl => ?_)
  refine lv_aload_n hx hb dX12_readClock_54 rfl (lv_at hl 1 rfl) ?_
  refine m_get E G 5 (v := .int (S5.1 5)) (by decide) (.tail _ qM_38) rfl dX12_readClock_55 rfl ?_
  refine lv_topi (fun v9 ev9 => ?_)
  have h := elet_at ev9 h
  clear ev9
  refine lv_if_ne (tgt := 71) hx hb dX12_readClock_58 (by decide) (fun c10 => ?_) (fun c10 => ?_)
  · have h := oif_neg c10 h
    have hl := lv_sub hl [] rfl
    exact tr_readClock_b71 E hA hR hml kr71 _ _ _ _ h G hl
  · have h := oif_pos c10 h
    refine lv_aload_n hx hb dX12_readClock_61 rfl (lv_at hl 1 rfl) ?_
    refine m_get E G 11 (v := .ref (ad 11)) (by decide) (.tail _ qM_8) rfl dX12_readClock_62 rfl ?_
    refine lv_bipush (v := 83) hx hb dX12_readClock_65 (by decide) ?_
    refine lv_iload_n hx hb dX12_readClock_67 rfl (lv_at hl 2 rfl) ?_
    refine lv_iadd hx hb dX12_readClock_68 ?_
    refine lv_topi (fun v11 ev11 => ?_)
    have h := elet_at ev11 h
    clear ev11
    refine lv_iload_n hx hb dX12_readClock_69 rfl (lv_at hl 0 rfl) ?_
    obtain ⟨g12, h⟩ := oif_some h
    refine m_iast E G 11 3 (k := v11.toNatClampNeg) (v := r8) rfl (fun _ => rfl) (inb_k g12).1 (inb_k g12).2 (by decide) dX12_readClock_70 (fun H locs G => ?_)
    obtain ⟨S13, eS13, h⟩ := elet_some h
    rw [← eS13] at G
    clear eS13
    have hl := lv_sub hl [] rfl
    exact tr_readClock_b71 E hA hR hml kr71 _ _ _ _ h G hl
def fr_readClock (S : MS)  : Option (MS) := obind (fr_nextToken S) fun S2 => elet (S2.2.1 11 4) fun v5 => elet (v5 - 1) fun v6 => obind2 (fr_look S2 0 v6) fun r10 S7 => elet (S7.1 5) fun v11 => if v11 = 0 then (elet (83 + r10) fun v13 => oif (inb v13 131 = true) <| elet (S7.2.1 11 v13.toNatClampNeg) fun v15 => if v15 ≤ 0 then (fr_readClock_b42 S7 r10) else (obind (fr_faults S7 3) fun S17 => fr_readClock_b42 S17 r10)) else (fr_readClock_b42 S7 r10)
set_option maxHeartbeats 4000000 in
set_option maxRecDepth 100000 in
theorem tr_readClock (l : Launch) (D : va_G) (cI cJ cZ : ClassId) (ad : Nat → Nat) (S : MS)  {S1 : MS} (h : fr_readClock S = some S1) : mCv l yX12_readClock (Cond.code yX12_readClock cX12_readClock 3 none :: wsM) 4 67 D cI cJ cZ ad S [] (fun S9 => S9 = S1) := by
  intro sz
  refine Met.ofW (cc := cX12_readClock) (maxL := 3) (ret := none) (by decide) rfl ?_
  intro p e s m args below meth c s₁ B hml hv
  obtain ⟨rfl, hsz, hP, hK, hD0, hR⟩ := hv
  have hx := B.exec
  have hb := B.bytes
  have hr := B.returns
  have hts := atoms_spec (ws := (Cond.code yX12_readClock cX12_readClock 3 none :: wsM)) B.pre
  have hown : s.vm.findClass RX12 = some m.cls := findClass_of_methodNamed B.named
  have hlocks := B.notSynchronized
  subst hsz
  have hD := hD0.self (sz := s.heap.size)
  generalize hAe : va_A (MW cI cJ cZ ad S) s.heap.size = A at hD ⊢
  have hA : ∀ q : Nat, s.heap.size ≤ q → A q := fun q h => by rw [← hAe]; exact Or.inr h
  have G : mG D cI cJ cZ ad A s.heap s.heap [] S := ⟨hP, hD, va_S.rf⟩
  have E : mE p c cX12_readClock s m ([.ref (ad 0)] : List Value).toArray (Cond.code yX12_readClock cX12_readClock 3 none :: wsM) D cI cJ cZ := ⟨hx, hb, hts, hown, hK, fun w h => .tail _ (iM_x h)⟩
  have hl := lv_entry ([.ref (ad 0)]) (n := 3) (Nat.le_of_ble_eq_true rfl)
  rw [lg_entry_eq]
  generalize (lg_sl ([.ref (ad 0)]) ++ List.replicate (3 - (lg_sl ([.ref (ad 0)])).length) Slot.unset).toArray = ls at hl ⊢
  have hl : lv_has ls 3 [(0, .ref (ad 0))] := hl
  unfold fr_readClock at h
  refine lv_aload_n hx hb dX12_readClock_0 rfl (lv_at hl 0 rfl) ?_
  obtain ⟨S2, eS2, h⟩ := obind_some h
  refine m_callv (As := []) (rest := []) E G hA hR hml (tr_nextToken l D cI cJ cZ ad S eS2) (cwV 0 hts (gmV qM_111 qM_112 qM_113 qM_35 qM_45) rfl rfl rfl (by decide +kernel) ⟨Nat.le_of_ble_eq_true rfl, Nat.le_of_ble_eq_true rfl⟩) rfl hl.1 rfl (lv_room (Nat.le_of_ble_eq_true rfl)) dX12_readClock_1 ⟨Nat.zero_le _, Nat.zero_le _⟩ (fun S4 H locs hq G => ?_)
  rw [hq] at G
  clear hq eS2
  refine lv_aload_n hx hb dX12_readClock_4 rfl (lv_at hl 0 rfl) ?_
  refine lv_iconst (v := 0) hx hb dX12_readClock_5 (by decide) ?_
  refine lv_aload_n hx hb dX12_readClock_6 rfl (lv_at hl 0 rfl) ?_
  refine m_get E G 11 (v := .ref (ad 11)) (by decide) (.tail _ qM_8) rfl dX12_readClock_7 rfl ?_
  refine lv_iconst (v := 4) hx hb dX12_readClock_10 (by decide) ?_
  refine m_iald E G 11 3 (n := 131) (k := 4) rfl rfl (by decide) (by decide) dX12_readClock_11 ?_
  refine lv_topi (fun v5 ev5 => ?_)
  have h := elet_at ev5 h
  clear ev5
  refine lv_iconst (v := 1) hx hb dX12_readClock_12 (by decide) ?_
  refine lv_isub hx hb dX12_readClock_13 ?_
  refine lv_topi (fun v6 ev6 => ?_)
  have h := elet_at ev6 h
  clear ev6
  obtain ⟨r10, S7, eS7, h⟩ := obind2_some h
  refine m_calli (As := [.int 0, .int v6]) (rest := []) E G hA hR hml (tr_look l D cI cJ cZ ad S2 0 v6 eS7) (cwV 2 hts (gmV qM_123 qM_124 qM_125 qM_35 qM_121) rfl rfl rfl (by decide +kernel) ⟨Nat.le_of_ble_eq_true rfl, Nat.le_of_ble_eq_true rfl⟩) rfl hl.1 rfl (lv_room (Nat.le_of_ble_eq_true rfl)) dX12_readClock_14 ⟨Nat.zero_le _, Nat.zero_le _⟩ (fun q8 S9 H locs hq G => ?_)
  obtain ⟨hq1, hq2⟩ := hq
  rw [hq2] at G
  refine lv_to hq1 ?_
  clear hq1 hq2 eS7
  refine lv_istore_n (lv' := [(1, .int r10), (0, .ref (ad 0))]) hx hb dX12_readClock_17 rfl hl (by decide) rfl (fun ls hl => ?_)
  refine lv_aload_n hx hb dX12_readClock_18 rfl (lv_at hl 1 rfl) ?_
  refine m_get E G 5 (v := .int (S7.1 5)) (by decide) (.tail _ qM_38) rfl dX12_readClock_19 rfl ?_
  refine lv_topi (fun v11 ev11 => ?_)
  have h := elet_at ev11 h
  clear ev11
  refine lv_if_ne (tgt := 42) hx hb dX12_readClock_22 (by decide) (fun c12 => ?_) (fun c12 => ?_)
  · have h := oif_neg c12 h
    have hl := lv_sub hl [1, 0] rfl
    exact tr_readClock_b42 E hA hR hml (fun H locs ls G => W.vret hx hb hr (fun t ht hW => ⟨⟨S1, rfl, rfl, ⟨by rw [ht]; exact G.1, va_K.moved hW.alike hK, G.2.1⟩⟩, G.2.2.F ht⟩) G.2.2.2.2 dX12_readClock_71) _ _ _ _ _ h G hl
  · have h := oif_pos c12 h
    refine lv_aload_n hx hb dX12_readClock_25 rfl (lv_at hl 1 rfl) ?_
    refine m_get E G 11 (v := .ref (ad 11)) (by decide) (.tail _ qM_8) rfl dX12_readClock_26 rfl ?_
    refine lv_bipush (v := 83) hx hb dX12_readClock_29 (by decide) ?_
    refine lv_iload_n hx hb dX12_readClock_31 rfl (lv_at hl 0 rfl) ?_
    refine lv_iadd hx hb dX12_readClock_32 ?_
    refine lv_topi (fun v13 ev13 => ?_)
    have h := elet_at ev13 h
    clear ev13
    obtain ⟨g14, h⟩ := oif_some h
    refine m_iald E G 11 3 (n := 131) (k := v13.toNatClampNeg) rfl (inb_k g14).1 (inb_k g14).2 (by decide) dX12_readClock_33 ?_
    refine lv_topi (fun v15 ev15 => ?_)
    have h := elet_at ev15 h
    clear ev15
    refine lv_if_le (tgt := 42) hx hb dX12_readClock_34 (by decide) (fun c16 => ?_) (fun c16 => ?_)
    · have h := oif_pos c16 h
      have hl := lv_sub hl [1, 0] rfl
      exact tr_readClock_b42 E hA hR hml (fun H locs ls G => W.vret hx hb hr (fun t ht hW => ⟨⟨S1, rfl, rfl, ⟨by rw [ht]; exact G.1, va_K.moved hW.alike hK, G.2.1⟩⟩, G.2.2.F ht⟩) G.2.2.2.2 dX12_readClock_71) _ _ _ _ _ h G hl
    · have h := oif_neg c16 h
      refine lv_aload_n hx hb dX12_readClock_37 rfl (lv_at hl 1 rfl) ?_
      refine lv_iconst (v := 3) hx hb dX12_readClock_38 (by decide) ?_
      obtain ⟨S17, eS17, h⟩ := obind_some h
      refine m_callv (As := [.int 3]) (rest := []) E G hA hR hml (tr_faults l D cI cJ cZ ad S7 3 eS17) (cwV 1 hts (gmV qM_118 qM_119 qM_120 qM_35 qM_42) rfl rfl rfl (by decide +kernel) ⟨Nat.le_of_ble_eq_true rfl, Nat.le_of_ble_eq_true rfl⟩) rfl hl.1 rfl (lv_room (Nat.le_of_ble_eq_true rfl)) dX12_readClock_39 ⟨Nat.zero_le _, Nat.zero_le _⟩ (fun S19 H locs hq G => ?_)
      rw [hq] at G
      clear hq eS17
      have hl := lv_sub hl [1, 0] rfl
      exact tr_readClock_b42 E hA hR hml (fun H locs ls G => W.vret hx hb hr (fun t ht hW => ⟨⟨S1, rfl, rfl, ⟨by rw [ht]; exact G.1, va_K.moved hW.alike hK, G.2.1⟩⟩, G.2.2.F ht⟩) G.2.2.2.2 dX12_readClock_71) _ _ _ _ _ h G hl
def fr_readShade_b44 (k19 : MS → Option (MS)) (S : MS) (l1 : Int32) : Option (MS) := obind (fr_nextToken S) fun S2 => elet (S2.1 5) fun v5 => if v5 ≤ 0 then (elet (S2.2.1 11 118) fun v7 => elet (119 + v7) fun v8 => oif (inb v8 131 = true) <| elet (mf S2 11 (upd (S2.2.1 11) v8.toNatClampNeg l1)) fun S10 => elet (S10.2.1 11 118) fun v11 => elet (v11 + 1) fun v12 => elet (mf S10 11 (upd (S10.2.1 11) 118 v12)) fun S13 => elet (S13.1 7) fun v14 => if v14 = 3 then (k19 S13) else (some S13)) else (some S2)
set_option maxHeartbeats 4000000 in
set_option maxRecDepth 100000 in
theorem tr_readShade_b44 {p : Program} {l : Launch} {e : Env} {s : State} {m : MethodId} {args : Array Value} {below : List Frame} {meth : Method} {c : Code} {Q : State → Prop} {D : va_G} {A : Nat → Prop} {H0 : Heap} {cI cJ cZ : ClassId} {ad : Nat → Nat} {S1 : MS} (E : mE p c cX12_readShade s m args (Cond.code yX12_readShade cX12_readShade 2 none :: wsM) D cI cJ cZ) (hA : ∀ q : Nat, H0.size ≤ q → A q) (hR : sR s) (hml : c.maxLocals = 2) (kr55 : ∀ (H : Heap) (locs : List Loc) (ls : Array Slot), mG D cI cJ cZ ad A H0 H locs S1 → W p l e { frames := 3, cells := 0, slots := 0, locals := 44 } s m args below meth c H locs 0 0 Q (F0 m 55 ls [])) (kr91 : ∀ (H : Heap) (locs : List Loc) (ls : Array Slot), mG D cI cJ cZ ad A H0 H locs S1 → W p l e { frames := 3, cells := 0, slots := 0, locals := 44 } s m args below meth c H locs 0 0 Q (F0 m 91 ls [])) {k19 : MS → Option (MS)} (hk19 : ∀ (S : MS) (H : Heap) (locs : List Loc) (ls : Array Slot), k19 S = some S1 → mG D cI cJ cZ ad A H0 H locs S → lv_has ls 2 [(0, .ref (ad 0))] → W p l e { frames := 3, cells := 0, slots := 0, locals := 44 } s m args below meth c H locs 0 0 Q (F0 m 19 ls [])) : ∀ (S : MS) (H : Heap) (locs : List Loc) (ls : Array Slot) (l1 : Int32), fr_readShade_b44 k19 S l1 = some S1 → mG D cI cJ cZ ad A H0 H locs S → lv_has ls 2 [(0, .ref (ad 0)), (1, .int l1)] → W p l e { frames := 3, cells := 0, slots := 0, locals := 44 } s m args below meth c H locs 0 0 Q (F0 m 44 ls []) := by
  have hx := E.1
  have hb := E.2.1
  have hts := E.2.2.1
  have hown := E.2.2.2.1
  have hK := E.2.2.2.2.1
  intro S H locs ls l1 h G hl
  unfold fr_readShade_b44 at h
  refine lv_aload_n hx hb dX12_readShade_44 rfl (lv_at hl 0 rfl) ?_
  obtain ⟨S2, eS2, h⟩ := obind_some h
  refine m_callv (As := []) (rest := []) E G hA hR hml (tr_nextToken l D cI cJ cZ ad S eS2) (cwV 0 hts (gmV qM_111 qM_112 qM_113 qM_35 qM_45) rfl rfl rfl (by decide +kernel) ⟨Nat.le_of_ble_eq_true rfl, Nat.le_of_ble_eq_true rfl⟩) rfl hl.1 rfl (lv_room (Nat.le_of_ble_eq_true rfl)) dX12_readShade_45 ⟨Nat.zero_le _, Nat.zero_le _⟩ (fun S4 H locs hq G => ?_)
  rw [hq] at G
  clear hq eS2
  refine lv_aload_n hx hb dX12_readShade_48 rfl (lv_at hl 0 rfl) ?_
  refine m_get E G 5 (v := .int (S2.1 5)) (by decide) (.tail _ qM_38) rfl dX12_readShade_49 rfl ?_
  refine lv_topi (fun v5 ev5 => ?_)
  have h := elet_at ev5 h
  clear ev5
  refine lv_if_le (tgt := 56) hx hb dX12_readShade_52 (by decide) (fun c6 => ?_) (fun c6 => ?_)
  · have h := oif_pos c6 h
    refine lv_aload_n hx hb dX12_readShade_56 rfl (lv_at hl 0 rfl) ?_
    refine m_get E G 11 (v := .ref (ad 11)) (by decide) (.tail _ qM_8) rfl dX12_readShade_57 rfl ?_
    refine lv_bipush (v := 119) hx hb dX12_readShade_60 (by decide) ?_
    refine lv_aload_n hx hb dX12_readShade_62 rfl (lv_at hl 0 rfl) ?_
    refine m_get E G 11 (v := .ref (ad 11)) (by decide) (.tail _ qM_8) rfl dX12_readShade_63 rfl ?_
    refine lv_bipush (v := 118) hx hb dX12_readShade_66 (by decide) ?_
    refine m_iald E G 11 3 (n := 131) (k := 118) rfl rfl (by decide) (by decide) dX12_readShade_68 ?_
    refine lv_topi (fun v7 ev7 => ?_)
    have h := elet_at ev7 h
    clear ev7
    refine lv_iadd hx hb dX12_readShade_69 ?_
    refine lv_topi (fun v8 ev8 => ?_)
    have h := elet_at ev8 h
    clear ev8
    refine lv_iload_n hx hb dX12_readShade_70 rfl (lv_at hl 1 rfl) ?_
    obtain ⟨g9, h⟩ := oif_some h
    refine m_iast E G 11 3 (k := v8.toNatClampNeg) (v := l1) rfl (fun _ => rfl) (inb_k g9).1 (inb_k g9).2 (by decide) dX12_readShade_71 (fun H locs G => ?_)
    obtain ⟨S10, eS10, h⟩ := elet_some h
    rw [← eS10] at G
    clear eS10
    refine lv_aload_n hx hb dX12_readShade_72 rfl (lv_at hl 0 rfl) ?_
    refine m_get E G 11 (v := .ref (ad 11)) (by decide) (.tail _ qM_8) rfl dX12_readShade_73 rfl ?_
    refine lv_bipush (v := 118) hx hb dX12_readShade_76 (by decide) ?_
    refine lv_dup2_11 hx hb dX12_readShade_78 rfl rfl ?_
    refine m_iald E G 11 3 (n := 131) (k := 118) rfl rfl (by decide) (by decide) dX12_readShade_79 ?_
    refine lv_topi (fun v11 ev11 => ?_)
    have h := elet_at ev11 h
    clear ev11
    refine lv_iconst (v := 1) hx hb dX12_readShade_80 (by decide) ?_
    refine lv_iadd hx hb dX12_readShade_81 ?_
    refine lv_topi (fun v12 ev12 => ?_)
    have h := elet_at ev12 h
    clear ev12
    refine m_iast E G 11 3 (k := 118) (v := v12) rfl (fun _ => rfl) rfl (by decide) (by decide) dX12_readShade_82 (fun H locs G => ?_)
    obtain ⟨S13, eS13, h⟩ := elet_some h
    rw [← eS13] at G
    clear eS13
    refine lv_aload_n hx hb dX12_readShade_83 rfl (lv_at hl 0 rfl) ?_
    refine m_get E G 7 (v := .int (S13.1 7)) (by decide) (.tail _ qM_47) rfl dX12_readShade_84 rfl ?_
    refine lv_topi (fun v14 ev14 => ?_)
    have h := elet_at ev14 h
    clear ev14
    refine lv_iconst (v := 3) hx hb dX12_readShade_87 (by decide) ?_
    refine lv_icmp_eq (tgt := 19) hx hb dX12_readShade_88 (by decide) (fun c15 => ?_) (fun c15 => ?_)
    · have h := oif_pos c15 h
      have hl := lv_sub hl [0] rfl
      exact hk19 _ _ _ _ h G hl
    · have h := oif_neg c15 h
      rw [osome1 h] at G
      exact kr91 _ _ _ G
  · have h := oif_neg c6 h
    rw [osome1 h] at G
    exact kr55 _ _ _ G
def fr_readShade_b19  : Nat → MS → Option (MS)
  | 0, _ => none
  | n + 1, S => obind2 (fr_look S 0 9) fun r5 S2 => elet (S2.2.1 11 118) fun v6 => if v6 = 12 then (obind (fr_faults S2 4) fun S8 => fr_readShade_b44 (fr_readShade_b19 n) S8 r5) else (fr_readShade_b44 (fr_readShade_b19 n) S2 r5)
set_option maxHeartbeats 4000000 in
set_option maxRecDepth 100000 in
theorem tr_readShade_b19 {p : Program} {l : Launch} {e : Env} {s : State} {m : MethodId} {args : Array Value} {below : List Frame} {meth : Method} {c : Code} {Q : State → Prop} {D : va_G} {A : Nat → Prop} {H0 : Heap} {cI cJ cZ : ClassId} {ad : Nat → Nat} {S1 : MS} (E : mE p c cX12_readShade s m args (Cond.code yX12_readShade cX12_readShade 2 none :: wsM) D cI cJ cZ) (hA : ∀ q : Nat, H0.size ≤ q → A q) (hR : sR s) (hml : c.maxLocals = 2) (kr55 : ∀ (H : Heap) (locs : List Loc) (ls : Array Slot), mG D cI cJ cZ ad A H0 H locs S1 → W p l e { frames := 3, cells := 0, slots := 0, locals := 44 } s m args below meth c H locs 0 0 Q (F0 m 55 ls [])) (kr91 : ∀ (H : Heap) (locs : List Loc) (ls : Array Slot), mG D cI cJ cZ ad A H0 H locs S1 → W p l e { frames := 3, cells := 0, slots := 0, locals := 44 } s m args below meth c H locs 0 0 Q (F0 m 91 ls [])) : ∀ n : Nat, ∀ (S : MS) (H : Heap) (locs : List Loc) (ls : Array Slot), fr_readShade_b19 n S = some S1 → mG D cI cJ cZ ad A H0 H locs S → lv_has ls 2 [(0, .ref (ad 0))] → W p l e { frames := 3, cells := 0, slots := 0, locals := 44 } s m args below meth c H locs 0 0 Q (F0 m 19 ls []) := by
  have hx := E.1
  have hb := E.2.1
  have hts := E.2.2.1
  have hown := E.2.2.2.1
  have hK := E.2.2.2.2.1
  intro n
  induction n with
  | zero =>
    intro S H locs ls h
    have h : (none : Option (MS)) = some S1 := h
    cases h
  | succ n ih =>
    intro S H locs ls h G hl
    unfold fr_readShade_b19 at h
    refine lv_aload_n hx hb dX12_readShade_19 rfl (lv_at hl 0 rfl) ?_
    refine lv_iconst (v := 0) hx hb dX12_readShade_20 (by decide) ?_
    refine lv_bipush (v := 9) hx hb dX12_readShade_21 (by decide) ?_
    obtain ⟨r5, S2, eS2, h⟩ := obind2_some h
    refine m_calli (As := [.int 0, .int 9]) (rest := []) E G hA hR hml (tr_look l D cI cJ cZ ad S 0 9 eS2) (cwV 2 hts (gmV qM_123 qM_124 qM_125 qM_35 qM_121) rfl rfl rfl (by decide +kernel) ⟨Nat.le_of_ble_eq_true rfl, Nat.le_of_ble_eq_true rfl⟩) rfl hl.1 rfl (lv_room (Nat.le_of_ble_eq_true rfl)) dX12_readShade_23 ⟨Nat.zero_le _, Nat.zero_le _⟩ (fun q3 S4 H locs hq G => ?_)
    obtain ⟨hq1, hq2⟩ := hq
    rw [hq2] at G
    refine lv_to hq1 ?_
    clear hq1 hq2 eS2
    refine lv_istore_n (lv' := [(1, .int r5), (0, .ref (ad 0))]) hx hb dX12_readShade_26 rfl hl (by decide) rfl (fun ls hl => ?_)
    refine lv_aload_n hx hb dX12_readShade_27 rfl (lv_at hl 1 rfl) ?_
    refine m_get E G 11 (v := .ref (ad 11)) (by decide) (.tail _ qM_8) rfl dX12_readShade_28 rfl ?_
    refine lv_bipush (v := 118) hx hb dX12_readShade_31 (by decide) ?_
    refine m_iald E G 11 3 (n := 131) (k := 118) rfl rfl (by decide) (by decide) dX12_readShade_33 ?_
    refine lv_topi (fun v6 ev6 => ?_)
    have h := elet_at ev6 h
    clear ev6
    refine lv_bipush (v := 12) hx hb dX12_readShade_34 (by decide) ?_
    refine lv_icmp_ne (tgt := 44) hx hb dX12_readShade_36 (by decide) (fun c7 => ?_) (fun c7 => ?_)
    · have h := oif_neg c7 h
      have hl := lv_sub hl [1, 0] rfl
      exact tr_readShade_b44 E hA hR hml kr55 kr91 ih _ _ _ _ _ h G hl
    · have h := oif_pos c7 h
      refine lv_aload_n hx hb dX12_readShade_39 rfl (lv_at hl 1 rfl) ?_
      refine lv_iconst (v := 4) hx hb dX12_readShade_40 (by decide) ?_
      obtain ⟨S8, eS8, h⟩ := obind_some h
      refine m_callv (As := [.int 4]) (rest := []) E G hA hR hml (tr_faults l D cI cJ cZ ad S2 4 eS8) (cwV 1 hts (gmV qM_118 qM_119 qM_120 qM_35 qM_42) rfl rfl rfl (by decide +kernel) ⟨Nat.le_of_ble_eq_true rfl, Nat.le_of_ble_eq_true rfl⟩) rfl hl.1 rfl (lv_room (Nat.le_of_ble_eq_true rfl)) dX12_readShade_41 ⟨Nat.zero_le _, Nat.zero_le _⟩ (fun S10 H locs hq G => ?_)
      rw [hq] at G
      clear hq eS8
      have hl := lv_sub hl [1, 0] rfl
      exact tr_readShade_b44 E hA hR hml kr55 kr91 ih _ _ _ _ _ h G hl
def fr_readShade_b15  (S : MS)  : Option (MS) := obind (fr_nextToken S) fun S2 => fr_readShade_b19 16384 S2
set_option maxHeartbeats 4000000 in
set_option maxRecDepth 100000 in
theorem tr_readShade_b15 {p : Program} {l : Launch} {e : Env} {s : State} {m : MethodId} {args : Array Value} {below : List Frame} {meth : Method} {c : Code} {Q : State → Prop} {D : va_G} {A : Nat → Prop} {H0 : Heap} {cI cJ cZ : ClassId} {ad : Nat → Nat} {S1 : MS} (E : mE p c cX12_readShade s m args (Cond.code yX12_readShade cX12_readShade 2 none :: wsM) D cI cJ cZ) (hA : ∀ q : Nat, H0.size ≤ q → A q) (hR : sR s) (hml : c.maxLocals = 2) (kr55 : ∀ (H : Heap) (locs : List Loc) (ls : Array Slot), mG D cI cJ cZ ad A H0 H locs S1 → W p l e { frames := 3, cells := 0, slots := 0, locals := 44 } s m args below meth c H locs 0 0 Q (F0 m 55 ls [])) (kr91 : ∀ (H : Heap) (locs : List Loc) (ls : Array Slot), mG D cI cJ cZ ad A H0 H locs S1 → W p l e { frames := 3, cells := 0, slots := 0, locals := 44 } s m args below meth c H locs 0 0 Q (F0 m 91 ls [])) : ∀ (S : MS) (H : Heap) (locs : List Loc) (ls : Array Slot), fr_readShade_b15 S = some S1 → mG D cI cJ cZ ad A H0 H locs S → lv_has ls 2 [(0, .ref (ad 0))] → W p l e { frames := 3, cells := 0, slots := 0, locals := 44 } s m args below meth c H locs 0 0 Q (F0 m 15 ls []) := by
  have hx := E.1
  have hb := E.2.1
  have hts := E.2.2.1
  have hown := E.2.2.2.1
  have hK := E.2.2.2.2.1
  intro S H locs ls h G hl
  unfold fr_readShade_b15 at h
  refine lv_aload_n hx hb dX12_readShade_15 rfl (lv_at hl 0 rfl) ?_
  obtain ⟨S2, eS2, h⟩ := obind_some h
  refine m_callv (As := []) (rest := []) E G hA hR hml (tr_nextToken l D cI cJ cZ ad S eS2) (cwV 0 hts (gmV qM_111 qM_112 qM_113 qM_35 qM_45) rfl rfl rfl (by decide +kernel) ⟨Nat.le_of_ble_eq_true rfl, Nat.le_of_ble_eq_true rfl⟩) rfl hl.1 rfl (lv_room (Nat.le_of_ble_eq_true rfl)) dX12_readShade_16 ⟨Nat.zero_le _, Nat.zero_le _⟩ (fun S4 H locs hq G => ?_)
  rw [hq] at G
  clear hq eS2
  have hl := lv_sub hl [0] rfl
  exact tr_readShade_b19 E hA hR hml kr55 kr91 _ _ _ _ _ h G hl
def fr_readShade (S : MS)  : Option (MS) := elet (S.2.1 11 118) fun v2 => if v2 ≤ 0 then (fr_readShade_b15 S) else (obind (fr_faults S 3) fun S4 => fr_readShade_b15 S4)
set_option maxHeartbeats 4000000 in
set_option maxRecDepth 100000 in
theorem tr_readShade (l : Launch) (D : va_G) (cI cJ cZ : ClassId) (ad : Nat → Nat) (S : MS)  {S1 : MS} (h : fr_readShade S = some S1) : mCv l yX12_readShade (Cond.code yX12_readShade cX12_readShade 2 none :: wsM) 3 44 D cI cJ cZ ad S [] (fun S9 => S9 = S1) := by
  intro sz
  refine Met.ofW (cc := cX12_readShade) (maxL := 2) (ret := none) (by decide) rfl ?_
  intro p e s m args below meth c s₁ B hml hv
  obtain ⟨rfl, hsz, hP, hK, hD0, hR⟩ := hv
  have hx := B.exec
  have hb := B.bytes
  have hr := B.returns
  have hts := atoms_spec (ws := (Cond.code yX12_readShade cX12_readShade 2 none :: wsM)) B.pre
  have hown : s.vm.findClass RX12 = some m.cls := findClass_of_methodNamed B.named
  have hlocks := B.notSynchronized
  subst hsz
  have hD := hD0.self (sz := s.heap.size)
  generalize hAe : va_A (MW cI cJ cZ ad S) s.heap.size = A at hD ⊢
  have hA : ∀ q : Nat, s.heap.size ≤ q → A q := fun q h => by rw [← hAe]; exact Or.inr h
  have G : mG D cI cJ cZ ad A s.heap s.heap [] S := ⟨hP, hD, va_S.rf⟩
  have E : mE p c cX12_readShade s m ([.ref (ad 0)] : List Value).toArray (Cond.code yX12_readShade cX12_readShade 2 none :: wsM) D cI cJ cZ := ⟨hx, hb, hts, hown, hK, fun w h => .tail _ (iM_x h)⟩
  have hl := lv_entry ([.ref (ad 0)]) (n := 2) (Nat.le_of_ble_eq_true rfl)
  rw [lg_entry_eq]
  generalize (lg_sl ([.ref (ad 0)]) ++ List.replicate (2 - (lg_sl ([.ref (ad 0)])).length) Slot.unset).toArray = ls at hl ⊢
  have hl : lv_has ls 2 [(0, .ref (ad 0))] := hl
  unfold fr_readShade at h
  refine lv_aload_n hx hb dX12_readShade_0 rfl (lv_at hl 0 rfl) ?_
  refine m_get E G 11 (v := .ref (ad 11)) (by decide) (.tail _ qM_8) rfl dX12_readShade_1 rfl ?_
  refine lv_bipush (v := 118) hx hb dX12_readShade_4 (by decide) ?_
  refine m_iald E G 11 3 (n := 131) (k := 118) rfl rfl (by decide) (by decide) dX12_readShade_6 ?_
  refine lv_topi (fun v2 ev2 => ?_)
  have h := elet_at ev2 h
  clear ev2
  refine lv_if_le (tgt := 15) hx hb dX12_readShade_7 (by decide) (fun c3 => ?_) (fun c3 => ?_)
  · have h := oif_pos c3 h
    have hl := lv_sub hl [0] rfl
    exact tr_readShade_b15 E hA hR hml (fun H locs ls G => W.vret hx hb hr (fun t ht hW => ⟨⟨S1, rfl, rfl, ⟨by rw [ht]; exact G.1, va_K.moved hW.alike hK, G.2.1⟩⟩, G.2.2.F ht⟩) G.2.2.2.2 dX12_readShade_55) (fun H locs ls G => W.vret hx hb hr (fun t ht hW => ⟨⟨S1, rfl, rfl, ⟨by rw [ht]; exact G.1, va_K.moved hW.alike hK, G.2.1⟩⟩, G.2.2.F ht⟩) G.2.2.2.2 dX12_readShade_91) _ _ _ _ h G hl
  · have h := oif_neg c3 h
    refine lv_aload_n hx hb dX12_readShade_10 rfl (lv_at hl 0 rfl) ?_
    refine lv_iconst (v := 3) hx hb dX12_readShade_11 (by decide) ?_
    obtain ⟨S4, eS4, h⟩ := obind_some h
    refine m_callv (As := [.int 3]) (rest := []) E G hA hR hml (tr_faults l D cI cJ cZ ad S 3 eS4) (cwV 1 hts (gmV qM_118 qM_119 qM_120 qM_35 qM_42) rfl rfl rfl (by decide +kernel) ⟨Nat.le_of_ble_eq_true rfl, Nat.le_of_ble_eq_true rfl⟩) rfl hl.1 rfl (lv_room (Nat.le_of_ble_eq_true rfl)) dX12_readShade_12 ⟨Nat.zero_le _, Nat.zero_le _⟩ (fun S6 H locs hq G => ?_)
    rw [hq] at G
    clear hq eS4
    have hl := lv_sub hl [0] rfl
    exact tr_readShade_b15 E hA hR hml (fun H locs ls G => W.vret hx hb hr (fun t ht hW => ⟨⟨S1, rfl, rfl, ⟨by rw [ht]; exact G.1, va_K.moved hW.alike hK, G.2.1⟩⟩, G.2.2.F ht⟩) G.2.2.2.2 dX12_readShade_55) (fun H locs ls G => W.vret hx hb hr (fun t ht hW => ⟨⟨S1, rfl, rfl, ⟨by rw [ht]; exact G.1, va_K.moved hW.alike hK, G.2.1⟩⟩, G.2.2.F ht⟩) G.2.2.2.2 dX12_readShade_91) _ _ _ _ h G hl
def fr_readOff_b63  (S : MS)  : Option (MS) := some S
set_option maxHeartbeats 4000000 in
set_option maxRecDepth 100000 in
theorem tr_readOff_b63 {p : Program} {l : Launch} {e : Env} {s : State} {m : MethodId} {args : Array Value} {below : List Frame} {meth : Method} {c : Code} {Q : State → Prop} {D : va_G} {A : Nat → Prop} {H0 : Heap} {cI cJ cZ : ClassId} {ad : Nat → Nat} {S1 : MS} (E : mE p c cX12_readOff s m args (Cond.code yX12_readOff cX12_readOff 2 none :: wsM) D cI cJ cZ) (hA : ∀ q : Nat, H0.size ≤ q → A q) (hR : sR s) (hml : c.maxLocals = 2) (kr63 : ∀ (H : Heap) (locs : List Loc) (ls : Array Slot), mG D cI cJ cZ ad A H0 H locs S1 → W p l e { frames := 3, cells := 0, slots := 0, locals := 44 } s m args below meth c H locs 0 0 Q (F0 m 63 ls [])) : ∀ (S : MS) (H : Heap) (locs : List Loc) (ls : Array Slot), fr_readOff_b63 S = some S1 → mG D cI cJ cZ ad A H0 H locs S → lv_has ls 2 [] → W p l e { frames := 3, cells := 0, slots := 0, locals := 44 } s m args below meth c H locs 0 0 Q (F0 m 63 ls []) := by
  have hx := E.1
  have hb := E.2.1
  have hts := E.2.2.1
  have hown := E.2.2.2.1
  have hK := E.2.2.2.2.1
  intro S H locs ls h G hl
  unfold fr_readOff_b63 at h
  rw [osome1 h] at G
  exact kr63 _ _ _ G
def fr_readOff_b42  (S : MS) (l1 : Int32) : Option (MS) := obind (fr_nextToken S) fun S2 => elet (S2.1 5) fun v5 => if v5 = 0 then (elet (25 + l1) fun v7 => oif (inb v7 2455 = true) <| elet (mf S2 13 (upd (S2.2.1 13) v7.toNatClampNeg 0)) fun S9 => fr_readOff_b63 S9) else (fr_readOff_b63 S2)
set_option maxHeartbeats 4000000 in
set_option maxRecDepth 100000 in
theorem tr_readOff_b42 {p : Program} {l : Launch} {e : Env} {s : State} {m : MethodId} {args : Array Value} {below : List Frame} {meth : Method} {c : Code} {Q : State → Prop} {D : va_G} {A : Nat → Prop} {H0 : Heap} {cI cJ cZ : ClassId} {ad : Nat → Nat} {S1 : MS} (E : mE p c cX12_readOff s m args (Cond.code yX12_readOff cX12_readOff 2 none :: wsM) D cI cJ cZ) (hA : ∀ q : Nat, H0.size ≤ q → A q) (hR : sR s) (hml : c.maxLocals = 2) (kr63 : ∀ (H : Heap) (locs : List Loc) (ls : Array Slot), mG D cI cJ cZ ad A H0 H locs S1 → W p l e { frames := 3, cells := 0, slots := 0, locals := 44 } s m args below meth c H locs 0 0 Q (F0 m 63 ls [])) : ∀ (S : MS) (H : Heap) (locs : List Loc) (ls : Array Slot) (l1 : Int32), fr_readOff_b42 S l1 = some S1 → mG D cI cJ cZ ad A H0 H locs S → lv_has ls 2 [(0, .ref (ad 0)), (1, .int l1)] → W p l e { frames := 3, cells := 0, slots := 0, locals := 44 } s m args below meth c H locs 0 0 Q (F0 m 42 ls []) := by
  have hx := E.1
  have hb := E.2.1
  have hts := E.2.2.1
  have hown := E.2.2.2.1
  have hK := E.2.2.2.2.1
  intro S H locs ls l1 h G hl
  unfold fr_readOff_b42 at h
  refine lv_aload_n hx hb dX12_readOff_42 rfl (lv_at hl 0 rfl) ?_
  obtain ⟨S2, eS2, h⟩ := obind_some h
  refine m_callv (As := []) (rest := []) E G hA hR hml (tr_nextToken l D cI cJ cZ ad S eS2) (cwV 0 hts (gmV qM_111 qM_112 qM_113 qM_35 qM_45) rfl rfl rfl (by decide +kernel) ⟨Nat.le_of_ble_eq_true rfl, Nat.le_of_ble_eq_true rfl⟩) rfl hl.1 rfl (lv_room (Nat.le_of_ble_eq_true rfl)) dX12_readOff_43 ⟨Nat.zero_le _, Nat.zero_le _⟩ (fun S4 H locs hq G => ?_)
  rw [hq] at G
  clear hq eS2
  refine lv_aload_n hx hb dX12_readOff_46 rfl (lv_at hl 0 rfl) ?_
  refine m_get E G 5 (v := .int (S2.1 5)) (by decide) (.tail _ qM_38) rfl dX12_readOff_47 rfl ?_
  refine lv_topi (fun v5 ev5 => ?_)
  have h := elet_at ev5 h
  clear ev5
  refine lv_if_ne (tgt := 63) hx hb dX12_readOff_50 (by decide) (fun c6 => ?_) (fun c6 => ?_)
  · have h := oif_neg c6 h
    have hl := lv_sub hl [] rfl
    exact tr_readOff_b63 E hA hR hml kr63 _ _ _ _ h G hl
  · have h := oif_pos c6 h
    refine lv_aload_n hx hb dX12_readOff_53 rfl (lv_at hl 0 rfl) ?_
    refine m_get E G 13 (v := .ref (ad 13)) (by decide) (.tail _ qM_10) rfl dX12_readOff_54 rfl ?_
    refine lv_bipush (v := 25) hx hb dX12_readOff_57 (by decide) ?_
    refine lv_iload_n hx hb dX12_readOff_59 rfl (lv_at hl 1 rfl) ?_
    refine lv_iadd hx hb dX12_readOff_60 ?_
    refine lv_topi (fun v7 ev7 => ?_)
    have h := elet_at ev7 h
    clear ev7
    refine lv_iconst (v := 0) hx hb dX12_readOff_61 (by decide) ?_
    obtain ⟨g8, h⟩ := oif_some h
    refine m_iast E G 13 5 (k := v7.toNatClampNeg) (v := 0) rfl (fun _ => rfl) (inb_k g8).1 (inb_k g8).2 (by decide) dX12_readOff_62 (fun H locs G => ?_)
    obtain ⟨S9, eS9, h⟩ := elet_some h
    rw [← eS9] at G
    clear eS9
    have hl := lv_sub hl [] rfl
    exact tr_readOff_b63 E hA hR hml kr63 _ _ _ _ h G hl
def fr_readOff (S : MS)  : Option (MS) := obind (fr_nextToken S) fun S2 => elet (S2.2.1 11 5) fun v5 => elet (v5 - 1) fun v6 => obind2 (fr_look S2 0 v6) fun r10 S7 => elet (S7.1 5) fun v11 => if v11 = 0 then (elet (25 + r10) fun v13 => oif (inb v13 2455 = true) <| elet (S7.2.1 13 v13.toNatClampNeg) fun v15 => if v15 = 0 then (obind (fr_faults S7 3) fun S17 => fr_readOff_b42 S17 r10) else (fr_readOff_b42 S7 r10)) else (fr_readOff_b42 S7 r10)
set_option maxHeartbeats 4000000 in
set_option maxRecDepth 100000 in
theorem tr_readOff (l : Launch) (D : va_G) (cI cJ cZ : ClassId) (ad : Nat → Nat) (S : MS)  {S1 : MS} (h : fr_readOff S = some S1) : mCv l yX12_readOff (Cond.code yX12_readOff cX12_readOff 2 none :: wsM) 3 44 D cI cJ cZ ad S [] (fun S9 => S9 = S1) := by
  intro sz
  refine Met.ofW (cc := cX12_readOff) (maxL := 2) (ret := none) (by decide) rfl ?_
  intro p e s m args below meth c s₁ B hml hv
  obtain ⟨rfl, hsz, hP, hK, hD0, hR⟩ := hv
  have hx := B.exec
  have hb := B.bytes
  have hr := B.returns
  have hts := atoms_spec (ws := (Cond.code yX12_readOff cX12_readOff 2 none :: wsM)) B.pre
  have hown : s.vm.findClass RX12 = some m.cls := findClass_of_methodNamed B.named
  have hlocks := B.notSynchronized
  subst hsz
  have hD := hD0.self (sz := s.heap.size)
  generalize hAe : va_A (MW cI cJ cZ ad S) s.heap.size = A at hD ⊢
  have hA : ∀ q : Nat, s.heap.size ≤ q → A q := fun q h => by rw [← hAe]; exact Or.inr h
  have G : mG D cI cJ cZ ad A s.heap s.heap [] S := ⟨hP, hD, va_S.rf⟩
  have E : mE p c cX12_readOff s m ([.ref (ad 0)] : List Value).toArray (Cond.code yX12_readOff cX12_readOff 2 none :: wsM) D cI cJ cZ := ⟨hx, hb, hts, hown, hK, fun w h => .tail _ (iM_x h)⟩
  have hl := lv_entry ([.ref (ad 0)]) (n := 2) (Nat.le_of_ble_eq_true rfl)
  rw [lg_entry_eq]
  generalize (lg_sl ([.ref (ad 0)]) ++ List.replicate (2 - (lg_sl ([.ref (ad 0)])).length) Slot.unset).toArray = ls at hl ⊢
  have hl : lv_has ls 2 [(0, .ref (ad 0))] := hl
  unfold fr_readOff at h
  refine lv_aload_n hx hb dX12_readOff_0 rfl (lv_at hl 0 rfl) ?_
  obtain ⟨S2, eS2, h⟩ := obind_some h
  refine m_callv (As := []) (rest := []) E G hA hR hml (tr_nextToken l D cI cJ cZ ad S eS2) (cwV 0 hts (gmV qM_111 qM_112 qM_113 qM_35 qM_45) rfl rfl rfl (by decide +kernel) ⟨Nat.le_of_ble_eq_true rfl, Nat.le_of_ble_eq_true rfl⟩) rfl hl.1 rfl (lv_room (Nat.le_of_ble_eq_true rfl)) dX12_readOff_1 ⟨Nat.zero_le _, Nat.zero_le _⟩ (fun S4 H locs hq G => ?_)
  rw [hq] at G
  clear hq eS2
  refine lv_aload_n hx hb dX12_readOff_4 rfl (lv_at hl 0 rfl) ?_
  refine lv_iconst (v := 0) hx hb dX12_readOff_5 (by decide) ?_
  refine lv_aload_n hx hb dX12_readOff_6 rfl (lv_at hl 0 rfl) ?_
  refine m_get E G 11 (v := .ref (ad 11)) (by decide) (.tail _ qM_8) rfl dX12_readOff_7 rfl ?_
  refine lv_iconst (v := 5) hx hb dX12_readOff_10 (by decide) ?_
  refine m_iald E G 11 3 (n := 131) (k := 5) rfl rfl (by decide) (by decide) dX12_readOff_11 ?_
  refine lv_topi (fun v5 ev5 => ?_)
  have h := elet_at ev5 h
  clear ev5
  refine lv_iconst (v := 1) hx hb dX12_readOff_12 (by decide) ?_
  refine lv_isub hx hb dX12_readOff_13 ?_
  refine lv_topi (fun v6 ev6 => ?_)
  have h := elet_at ev6 h
  clear ev6
  obtain ⟨r10, S7, eS7, h⟩ := obind2_some h
  refine m_calli (As := [.int 0, .int v6]) (rest := []) E G hA hR hml (tr_look l D cI cJ cZ ad S2 0 v6 eS7) (cwV 2 hts (gmV qM_123 qM_124 qM_125 qM_35 qM_121) rfl rfl rfl (by decide +kernel) ⟨Nat.le_of_ble_eq_true rfl, Nat.le_of_ble_eq_true rfl⟩) rfl hl.1 rfl (lv_room (Nat.le_of_ble_eq_true rfl)) dX12_readOff_14 ⟨Nat.zero_le _, Nat.zero_le _⟩ (fun q8 S9 H locs hq G => ?_)
  obtain ⟨hq1, hq2⟩ := hq
  rw [hq2] at G
  refine lv_to hq1 ?_
  clear hq1 hq2 eS7
  refine lv_istore_n (lv' := [(1, .int r10), (0, .ref (ad 0))]) hx hb dX12_readOff_17 rfl hl (by decide) rfl (fun ls hl => ?_)
  refine lv_aload_n hx hb dX12_readOff_18 rfl (lv_at hl 1 rfl) ?_
  refine m_get E G 5 (v := .int (S7.1 5)) (by decide) (.tail _ qM_38) rfl dX12_readOff_19 rfl ?_
  refine lv_topi (fun v11 ev11 => ?_)
  have h := elet_at ev11 h
  clear ev11
  refine lv_if_ne (tgt := 42) hx hb dX12_readOff_22 (by decide) (fun c12 => ?_) (fun c12 => ?_)
  · have h := oif_neg c12 h
    have hl := lv_sub hl [1, 0] rfl
    exact tr_readOff_b42 E hA hR hml (fun H locs ls G => W.vret hx hb hr (fun t ht hW => ⟨⟨S1, rfl, rfl, ⟨by rw [ht]; exact G.1, va_K.moved hW.alike hK, G.2.1⟩⟩, G.2.2.F ht⟩) G.2.2.2.2 dX12_readOff_63) _ _ _ _ _ h G hl
  · have h := oif_pos c12 h
    refine lv_aload_n hx hb dX12_readOff_25 rfl (lv_at hl 1 rfl) ?_
    refine m_get E G 13 (v := .ref (ad 13)) (by decide) (.tail _ qM_10) rfl dX12_readOff_26 rfl ?_
    refine lv_bipush (v := 25) hx hb dX12_readOff_29 (by decide) ?_
    refine lv_iload_n hx hb dX12_readOff_31 rfl (lv_at hl 0 rfl) ?_
    refine lv_iadd hx hb dX12_readOff_32 ?_
    refine lv_topi (fun v13 ev13 => ?_)
    have h := elet_at ev13 h
    clear ev13
    obtain ⟨g14, h⟩ := oif_some h
    refine m_iald E G 13 5 (n := 2455) (k := v13.toNatClampNeg) rfl (inb_k g14).1 (inb_k g14).2 (by decide) dX12_readOff_33 ?_
    refine lv_topi (fun v15 ev15 => ?_)
    have h := elet_at ev15 h
    clear ev15
    refine lv_if_ne (tgt := 42) hx hb dX12_readOff_34 (by decide) (fun c16 => ?_) (fun c16 => ?_)
    · have h := oif_neg c16 h
      have hl := lv_sub hl [1, 0] rfl
      exact tr_readOff_b42 E hA hR hml (fun H locs ls G => W.vret hx hb hr (fun t ht hW => ⟨⟨S1, rfl, rfl, ⟨by rw [ht]; exact G.1, va_K.moved hW.alike hK, G.2.1⟩⟩, G.2.2.F ht⟩) G.2.2.2.2 dX12_readOff_63) _ _ _ _ _ h G hl
    · have h := oif_pos c16 h
      refine lv_aload_n hx hb dX12_readOff_37 rfl (lv_at hl 1 rfl) ?_
      refine lv_iconst (v := 3) hx hb dX12_readOff_38 (by decide) ?_
      obtain ⟨S17, eS17, h⟩ := obind_some h
      refine m_callv (As := [.int 3]) (rest := []) E G hA hR hml (tr_faults l D cI cJ cZ ad S7 3 eS17) (cwV 1 hts (gmV qM_118 qM_119 qM_120 qM_35 qM_42) rfl rfl rfl (by decide +kernel) ⟨Nat.le_of_ble_eq_true rfl, Nat.le_of_ble_eq_true rfl⟩) rfl hl.1 rfl (lv_room (Nat.le_of_ble_eq_true rfl)) dX12_readOff_39 ⟨Nat.zero_le _, Nat.zero_le _⟩ (fun S19 H locs hq G => ?_)
      rw [hq] at G
      clear hq eS17
      have hl := lv_sub hl [1, 0] rfl
      exact tr_readOff_b42 E hA hR hml (fun H locs ls G => W.vret hx hb hr (fun t ht hW => ⟨⟨S1, rfl, rfl, ⟨by rw [ht]; exact G.1, va_K.moved hW.alike hK, G.2.1⟩⟩, G.2.2.F ht⟩) G.2.2.2.2 dX12_readOff_63) _ _ _ _ _ h G hl
def fr_readZone_b18  (S : MS) (l1 : Int32) : Option (MS) := obind (fr_nextToken S) fun S2 => elet (S2.2.1 11 9) fun v5 => elet (v5 - 1) fun v6 => obind2 (fr_number S2 0 v6) fun r10 S7 => elet (S7.2.1 11 10) fun v11 => elet (v11 - 1) fun v12 => obind2 (fr_number S7 0 v12) fun r16 S13 => elet (S13.2.1 11 9) fun v17 => elet (v17 - 1) fun v18 => obind2 (fr_number S13 r10 v18) fun r22 S19 => elet (S19.2.1 11 10) fun v23 => elet (v23 - 1) fun v24 => obind2 (fr_number S19 r16 v24) fun r28 S25 => elet (S25.1 5) fun v29 => if v29 ≤ 0 then (elet (4 * l1) fun v31 => elet (102 + v31) fun v32 => oif (inb v32 131 = true) <| elet (mf S25 11 (upd (S25.2.1 11) v32.toNatClampNeg r10)) fun S34 => elet (v32 + 1) fun v35 => oif (inb v35 131 = true) <| elet (mf S34 11 (upd (S34.2.1 11) v35.toNatClampNeg r16)) fun S37 => elet (v32 + 2) fun v38 => oif (inb v38 131 = true) <| elet (mf S37 11 (upd (S37.2.1 11) v38.toNatClampNeg r22)) fun S40 => elet (v32 + 3) fun v41 => oif (inb v41 131 = true) <| elet (mf S40 11 (upd (S40.2.1 11) v41.toNatClampNeg r28)) fun S43 => elet (S43.2.1 11 101) fun v44 => elet (v44 + 1) fun v45 => elet (mf S43 11 (upd (S43.2.1 11) 101 v45)) fun S46 => some S46) else (some S25)
set_option maxHeartbeats 4000000 in
set_option maxRecDepth 100000 in
theorem tr_readZone_b18 {p : Program} {l : Launch} {e : Env} {s : State} {m : MethodId} {args : Array Value} {below : List Frame} {meth : Method} {c : Code} {Q : State → Prop} {D : va_G} {A : Nat → Prop} {H0 : Heap} {cI cJ cZ : ClassId} {ad : Nat → Nat} {S1 : MS} (E : mE p c cX12_readZone s m args (Cond.code yX12_readZone cX12_readZone 7 none :: wsM) D cI cJ cZ) (hA : ∀ q : Nat, H0.size ≤ q → A q) (hR : sR s) (hml : c.maxLocals = 7) (kr91 : ∀ (H : Heap) (locs : List Loc) (ls : Array Slot), mG D cI cJ cZ ad A H0 H locs S1 → W p l e { frames := 4, cells := 0, slots := 0, locals := 67 } s m args below meth c H locs 0 0 Q (F0 m 91 ls [])) (kr151 : ∀ (H : Heap) (locs : List Loc) (ls : Array Slot), mG D cI cJ cZ ad A H0 H locs S1 → W p l e { frames := 4, cells := 0, slots := 0, locals := 67 } s m args below meth c H locs 0 0 Q (F0 m 151 ls [])) : ∀ (S : MS) (H : Heap) (locs : List Loc) (ls : Array Slot) (l1 : Int32), fr_readZone_b18 S l1 = some S1 → mG D cI cJ cZ ad A H0 H locs S → lv_has ls 7 [(0, .ref (ad 0)), (1, .int l1)] → W p l e { frames := 4, cells := 0, slots := 0, locals := 67 } s m args below meth c H locs 0 0 Q (F0 m 18 ls []) := by
  have hx := E.1
  have hb := E.2.1
  have hts := E.2.2.1
  have hown := E.2.2.2.1
  have hK := E.2.2.2.2.1
  intro S H locs ls l1 h G hl
  unfold fr_readZone_b18 at h
  refine lv_aload_n hx hb dX12_readZone_18 rfl (lv_at hl 0 rfl) ?_
  obtain ⟨S2, eS2, h⟩ := obind_some h
  refine m_callv (As := []) (rest := []) E G hA hR hml (tr_nextToken l D cI cJ cZ ad S eS2) (cwV 0 hts (gmV qM_111 qM_112 qM_113 qM_35 qM_45) rfl rfl rfl (by decide +kernel) ⟨Nat.le_of_ble_eq_true rfl, Nat.le_of_ble_eq_true rfl⟩) rfl hl.1 rfl (lv_room (Nat.le_of_ble_eq_true rfl)) dX12_readZone_19 ⟨Nat.zero_le _, Nat.zero_le _⟩ (fun S4 H locs hq G => ?_)
  rw [hq] at G
  clear hq eS2
  refine lv_aload_n hx hb dX12_readZone_22 rfl (lv_at hl 0 rfl) ?_
  refine lv_iconst (v := 0) hx hb dX12_readZone_23 (by decide) ?_
  refine lv_aload_n hx hb dX12_readZone_24 rfl (lv_at hl 0 rfl) ?_
  refine m_get E G 11 (v := .ref (ad 11)) (by decide) (.tail _ qM_8) rfl dX12_readZone_25 rfl ?_
  refine lv_bipush (v := 9) hx hb dX12_readZone_28 (by decide) ?_
  refine m_iald E G 11 3 (n := 131) (k := 9) rfl rfl (by decide) (by decide) dX12_readZone_30 ?_
  refine lv_topi (fun v5 ev5 => ?_)
  have h := elet_at ev5 h
  clear ev5
  refine lv_iconst (v := 1) hx hb dX12_readZone_31 (by decide) ?_
  refine lv_isub hx hb dX12_readZone_32 ?_
  refine lv_topi (fun v6 ev6 => ?_)
  have h := elet_at ev6 h
  clear ev6
  obtain ⟨r10, S7, eS7, h⟩ := obind2_some h
  refine m_calli (As := [.int 0, .int v6]) (rest := []) E G hA hR hml (tr_number l D cI cJ cZ ad S2 0 v6 eS7) (cwV 2 hts (gmV qM_130 qM_131 qM_132 qM_35 qM_122) rfl rfl rfl (by decide +kernel) ⟨Nat.le_of_ble_eq_true rfl, Nat.le_of_ble_eq_true rfl⟩) rfl hl.1 rfl (lv_room (Nat.le_of_ble_eq_true rfl)) dX12_readZone_33 ⟨Nat.zero_le _, Nat.zero_le _⟩ (fun q8 S9 H locs hq G => ?_)
  obtain ⟨hq1, hq2⟩ := hq
  rw [hq2] at G
  refine lv_to hq1 ?_
  clear hq1 hq2 eS7
  refine lv_istore_n (lv' := [(2, .int r10), (0, .ref (ad 0)), (1, .int l1)]) hx hb dX12_readZone_36 rfl hl (by decide) rfl (fun ls hl => ?_)
  refine lv_aload_n hx hb dX12_readZone_37 rfl (lv_at hl 1 rfl) ?_
  refine lv_iconst (v := 0) hx hb dX12_readZone_38 (by decide) ?_
  refine lv_aload_n hx hb dX12_readZone_39 rfl (lv_at hl 1 rfl) ?_
  refine m_get E G 11 (v := .ref (ad 11)) (by decide) (.tail _ qM_8) rfl dX12_readZone_40 rfl ?_
  refine lv_bipush (v := 10) hx hb dX12_readZone_43 (by decide) ?_
  refine m_iald E G 11 3 (n := 131) (k := 10) rfl rfl (by decide) (by decide) dX12_readZone_45 ?_
  refine lv_topi (fun v11 ev11 => ?_)
  have h := elet_at ev11 h
  clear ev11
  refine lv_iconst (v := 1) hx hb dX12_readZone_46 (by decide) ?_
  refine lv_isub hx hb dX12_readZone_47 ?_
  refine lv_topi (fun v12 ev12 => ?_)
  have h := elet_at ev12 h
  clear ev12
  obtain ⟨r16, S13, eS13, h⟩ := obind2_some h
  refine m_calli (As := [.int 0, .int v12]) (rest := []) E G hA hR hml (tr_number l D cI cJ cZ ad S7 0 v12 eS13) (cwV 2 hts (gmV qM_130 qM_131 qM_132 qM_35 qM_122) rfl rfl rfl (by decide +kernel) ⟨Nat.le_of_ble_eq_true rfl, Nat.le_of_ble_eq_true rfl⟩) rfl hl.1 rfl (lv_room (Nat.le_of_ble_eq_true rfl)) dX12_readZone_48 ⟨Nat.zero_le _, Nat.zero_le _⟩ (fun q14 S15 H locs hq G => ?_)
  obtain ⟨hq1, hq2⟩ := hq
  rw [hq2] at G
  refine lv_to hq1 ?_
  clear hq1 hq2 eS13
  refine lv_istore_n (lv' := [(3, .int r16), (2, .int r10), (0, .ref (ad 0)), (1, .int l1)]) hx hb dX12_readZone_51 rfl hl (by decide) rfl (fun ls hl => ?_)
  refine lv_aload_n hx hb dX12_readZone_52 rfl (lv_at hl 2 rfl) ?_
  refine lv_iload_n hx hb dX12_readZone_53 rfl (lv_at hl 1 rfl) ?_
  refine lv_aload_n hx hb dX12_readZone_54 rfl (lv_at hl 2 rfl) ?_
  refine m_get E G 11 (v := .ref (ad 11)) (by decide) (.tail _ qM_8) rfl dX12_readZone_55 rfl ?_
  refine lv_bipush (v := 9) hx hb dX12_readZone_58 (by decide) ?_
  refine m_iald E G 11 3 (n := 131) (k := 9) rfl rfl (by decide) (by decide) dX12_readZone_60 ?_
  refine lv_topi (fun v17 ev17 => ?_)
  have h := elet_at ev17 h
  clear ev17
  refine lv_iconst (v := 1) hx hb dX12_readZone_61 (by decide) ?_
  refine lv_isub hx hb dX12_readZone_62 ?_
  refine lv_topi (fun v18 ev18 => ?_)
  have h := elet_at ev18 h
  clear ev18
  obtain ⟨r22, S19, eS19, h⟩ := obind2_some h
  refine m_calli (As := [.int r10, .int v18]) (rest := []) E G hA hR hml (tr_number l D cI cJ cZ ad S13 r10 v18 eS19) (cwV 2 hts (gmV qM_130 qM_131 qM_132 qM_35 qM_122) rfl rfl rfl (by decide +kernel) ⟨Nat.le_of_ble_eq_true rfl, Nat.le_of_ble_eq_true rfl⟩) rfl hl.1 rfl (lv_room (Nat.le_of_ble_eq_true rfl)) dX12_readZone_63 ⟨Nat.zero_le _, Nat.zero_le _⟩ (fun q20 S21 H locs hq G => ?_)
  obtain ⟨hq1, hq2⟩ := hq
  rw [hq2] at G
  refine lv_to hq1 ?_
  clear hq1 hq2 eS19
  refine lv_istore (lv' := [(4, .int r22), (3, .int r16), (2, .int r10), (0, .ref (ad 0)), (1, .int l1)]) hx hb dX12_readZone_66 hl (by decide) rfl (fun ls hl => ?_)
  refine lv_aload_n hx hb dX12_readZone_68 rfl (lv_at hl 3 rfl) ?_
  refine lv_iload_n hx hb dX12_readZone_69 rfl (lv_at hl 1 rfl) ?_
  refine lv_aload_n hx hb dX12_readZone_70 rfl (lv_at hl 3 rfl) ?_
  refine m_get E G 11 (v := .ref (ad 11)) (by decide) (.tail _ qM_8) rfl dX12_readZone_71 rfl ?_
  refine lv_bipush (v := 10) hx hb dX12_readZone_74 (by decide) ?_
  refine m_iald E G 11 3 (n := 131) (k := 10) rfl rfl (by decide) (by decide) dX12_readZone_76 ?_
  refine lv_topi (fun v23 ev23 => ?_)
  have h := elet_at ev23 h
  clear ev23
  refine lv_iconst (v := 1) hx hb dX12_readZone_77 (by decide) ?_
  refine lv_isub hx hb dX12_readZone_78 ?_
  refine lv_topi (fun v24 ev24 => ?_)
  have h := elet_at ev24 h
  clear ev24
  obtain ⟨r28, S25, eS25, h⟩ := obind2_some h
  refine m_calli (As := [.int r16, .int v24]) (rest := []) E G hA hR hml (tr_number l D cI cJ cZ ad S19 r16 v24 eS25) (cwV 2 hts (gmV qM_130 qM_131 qM_132 qM_35 qM_122) rfl rfl rfl (by decide +kernel) ⟨Nat.le_of_ble_eq_true rfl, Nat.le_of_ble_eq_true rfl⟩) rfl hl.1 rfl (lv_room (Nat.le_of_ble_eq_true rfl)) dX12_readZone_79 ⟨Nat.zero_le _, Nat.zero_le _⟩ (fun q26 S27 H locs hq G => ?_)
  obtain ⟨hq1, hq2⟩ := hq
  rw [hq2] at G
  refine lv_to hq1 ?_
  clear hq1 hq2 eS25
  refine lv_istore (lv' := [(5, .int r28), (4, .int r22), (3, .int r16), (2, .int r10), (0, .ref (ad 0)), (1, .int l1)]) hx hb dX12_readZone_82 hl (by decide) rfl (fun ls hl => ?_)
  refine lv_aload_n hx hb dX12_readZone_84 rfl (lv_at hl 4 rfl) ?_
  refine m_get E G 5 (v := .int (S25.1 5)) (by decide) (.tail _ qM_38) rfl dX12_readZone_85 rfl ?_
  refine lv_topi (fun v29 ev29 => ?_)
  have h := elet_at ev29 h
  clear ev29
  refine lv_if_le (tgt := 92) hx hb dX12_readZone_88 (by decide) (fun c30 => ?_) (fun c30 => ?_)
  · have h := oif_pos c30 h
    refine lv_bipush (v := 102) hx hb dX12_readZone_92 (by decide) ?_
    refine lv_iconst (v := 4) hx hb dX12_readZone_94 (by decide) ?_
    refine lv_iload_n hx hb dX12_readZone_95 rfl (lv_at hl 5 rfl) ?_
    refine lv_imul hx hb dX12_readZone_96 ?_
    refine lv_topi (fun v31 ev31 => ?_)
    have h := elet_at ev31 h
    clear ev31
    refine lv_iadd hx hb dX12_readZone_97 ?_
    refine lv_topi (fun v32 ev32 => ?_)
    have h := elet_at ev32 h
    clear ev32
    refine lv_istore (lv' := [(6, .int v32), (5, .int r28), (4, .int r22), (3, .int r16), (2, .int r10), (0, .ref (ad 0)), (1, .int l1)]) hx hb dX12_readZone_98 hl (by decide) rfl (fun ls hl => ?_)
    refine lv_aload_n hx hb dX12_readZone_100 rfl (lv_at hl 5 rfl) ?_
    refine m_get E G 11 (v := .ref (ad 11)) (by decide) (.tail _ qM_8) rfl dX12_readZone_101 rfl ?_
    refine lv_iload hx hb dX12_readZone_104 (lv_at hl 0 rfl) ?_
    refine lv_iload_n hx hb dX12_readZone_106 rfl (lv_at hl 4 rfl) ?_
    obtain ⟨g33, h⟩ := oif_some h
    refine m_iast E G 11 3 (k := v32.toNatClampNeg) (v := r10) rfl (fun _ => rfl) (inb_k g33).1 (inb_k g33).2 (by decide) dX12_readZone_107 (fun H locs G => ?_)
    obtain ⟨S34, eS34, h⟩ := elet_some h
    rw [← eS34] at G
    clear eS34
    refine lv_aload_n hx hb dX12_readZone_108 rfl (lv_at hl 5 rfl) ?_
    refine m_get E G 11 (v := .ref (ad 11)) (by decide) (.tail _ qM_8) rfl dX12_readZone_109 rfl ?_
    refine lv_iload hx hb dX12_readZone_112 (lv_at hl 0 rfl) ?_
    refine lv_iconst (v := 1) hx hb dX12_readZone_114 (by decide) ?_
    refine lv_iadd hx hb dX12_readZone_115 ?_
    refine lv_topi (fun v35 ev35 => ?_)
    have h := elet_at ev35 h
    clear ev35
    refine lv_iload_n hx hb dX12_readZone_116 rfl (lv_at hl 3 rfl) ?_
    obtain ⟨g36, h⟩ := oif_some h
    refine m_iast E G 11 3 (k := v35.toNatClampNeg) (v := r16) rfl (fun _ => rfl) (inb_k g36).1 (inb_k g36).2 (by decide) dX12_readZone_117 (fun H locs G => ?_)
    obtain ⟨S37, eS37, h⟩ := elet_some h
    rw [← eS37] at G
    clear eS37
    refine lv_aload_n hx hb dX12_readZone_118 rfl (lv_at hl 5 rfl) ?_
    refine m_get E G 11 (v := .ref (ad 11)) (by decide) (.tail _ qM_8) rfl dX12_readZone_119 rfl ?_
    refine lv_iload hx hb dX12_readZone_122 (lv_at hl 0 rfl) ?_
    refine lv_iconst (v := 2) hx hb dX12_readZone_124 (by decide) ?_
    refine lv_iadd hx hb dX12_readZone_125 ?_
    refine lv_topi (fun v38 ev38 => ?_)
    have h := elet_at ev38 h
    clear ev38
    refine lv_iload hx hb dX12_readZone_126 (lv_at hl 2 rfl) ?_
    obtain ⟨g39, h⟩ := oif_some h
    refine m_iast E G 11 3 (k := v38.toNatClampNeg) (v := r22) rfl (fun _ => rfl) (inb_k g39).1 (inb_k g39).2 (by decide) dX12_readZone_128 (fun H locs G => ?_)
    obtain ⟨S40, eS40, h⟩ := elet_some h
    rw [← eS40] at G
    clear eS40
    refine lv_aload_n hx hb dX12_readZone_129 rfl (lv_at hl 5 rfl) ?_
    refine m_get E G 11 (v := .ref (ad 11)) (by decide) (.tail _ qM_8) rfl dX12_readZone_130 rfl ?_
    refine lv_iload hx hb dX12_readZone_133 (lv_at hl 0 rfl) ?_
    refine lv_iconst (v := 3) hx hb dX12_readZone_135 (by decide) ?_
    refine lv_iadd hx hb dX12_readZone_136 ?_
    refine lv_topi (fun v41 ev41 => ?_)
    have h := elet_at ev41 h
    clear ev41
    refine lv_iload hx hb dX12_readZone_137 (lv_at hl 1 rfl) ?_
    obtain ⟨g42, h⟩ := oif_some h
    refine m_iast E G 11 3 (k := v41.toNatClampNeg) (v := r28) rfl (fun _ => rfl) (inb_k g42).1 (inb_k g42).2 (by decide) dX12_readZone_139 (fun H locs G => ?_)
    obtain ⟨S43, eS43, h⟩ := elet_some h
    rw [← eS43] at G
    clear eS43
    refine lv_aload_n hx hb dX12_readZone_140 rfl (lv_at hl 5 rfl) ?_
    refine m_get E G 11 (v := .ref (ad 11)) (by decide) (.tail _ qM_8) rfl dX12_readZone_141 rfl ?_
    refine lv_bipush (v := 101) hx hb dX12_readZone_144 (by decide) ?_
    refine lv_dup2_11 hx hb dX12_readZone_146 rfl rfl ?_
    refine m_iald E G 11 3 (n := 131) (k := 101) rfl rfl (by decide) (by decide) dX12_readZone_147 ?_
    refine lv_topi (fun v44 ev44 => ?_)
    have h := elet_at ev44 h
    clear ev44
    refine lv_iconst (v := 1) hx hb dX12_readZone_148 (by decide) ?_
    refine lv_iadd hx hb dX12_readZone_149 ?_
    refine lv_topi (fun v45 ev45 => ?_)
    have h := elet_at ev45 h
    clear ev45
    refine m_iast E G 11 3 (k := 101) (v := v45) rfl (fun _ => rfl) rfl (by decide) (by decide) dX12_readZone_150 (fun H locs G => ?_)
    obtain ⟨S46, eS46, h⟩ := elet_some h
    rw [← eS46] at G
    clear eS46
    rw [osome1 h] at G
    exact kr151 _ _ _ G
  · have h := oif_neg c30 h
    rw [osome1 h] at G
    exact kr91 _ _ _ G
def fr_readZone (S : MS)  : Option (MS) := elet (S.2.1 11 101) fun v2 => if v2 = 4 then (obind (fr_faults S 4) fun S4 => fr_readZone_b18 S4 v2) else (fr_readZone_b18 S v2)
set_option maxHeartbeats 4000000 in
set_option maxRecDepth 100000 in
theorem tr_readZone (l : Launch) (D : va_G) (cI cJ cZ : ClassId) (ad : Nat → Nat) (S : MS)  {S1 : MS} (h : fr_readZone S = some S1) : mCv l yX12_readZone (Cond.code yX12_readZone cX12_readZone 7 none :: wsM) 4 67 D cI cJ cZ ad S [] (fun S9 => S9 = S1) := by
  intro sz
  refine Met.ofW (cc := cX12_readZone) (maxL := 7) (ret := none) (by decide) rfl ?_
  intro p e s m args below meth c s₁ B hml hv
  obtain ⟨rfl, hsz, hP, hK, hD0, hR⟩ := hv
  have hx := B.exec
  have hb := B.bytes
  have hr := B.returns
  have hts := atoms_spec (ws := (Cond.code yX12_readZone cX12_readZone 7 none :: wsM)) B.pre
  have hown : s.vm.findClass RX12 = some m.cls := findClass_of_methodNamed B.named
  have hlocks := B.notSynchronized
  subst hsz
  have hD := hD0.self (sz := s.heap.size)
  generalize hAe : va_A (MW cI cJ cZ ad S) s.heap.size = A at hD ⊢
  have hA : ∀ q : Nat, s.heap.size ≤ q → A q := fun q h => by rw [← hAe]; exact Or.inr h
  have G : mG D cI cJ cZ ad A s.heap s.heap [] S := ⟨hP, hD, va_S.rf⟩
  have E : mE p c cX12_readZone s m ([.ref (ad 0)] : List Value).toArray (Cond.code yX12_readZone cX12_readZone 7 none :: wsM) D cI cJ cZ := ⟨hx, hb, hts, hown, hK, fun w h => .tail _ (iM_x h)⟩
  have hl := lv_entry ([.ref (ad 0)]) (n := 7) (Nat.le_of_ble_eq_true rfl)
  rw [lg_entry_eq]
  generalize (lg_sl ([.ref (ad 0)]) ++ List.replicate (7 - (lg_sl ([.ref (ad 0)])).length) Slot.unset).toArray = ls at hl ⊢
  have hl : lv_has ls 7 [(0, .ref (ad 0))] := hl
  unfold fr_readZone at h
  refine lv_aload_n hx hb dX12_readZone_0 rfl (lv_at hl 0 rfl) ?_
  refine m_get E G 11 (v := .ref (ad 11)) (by decide) (.tail _ qM_8) rfl dX12_readZone_1 rfl ?_
  refine lv_bipush (v := 101) hx hb dX12_readZone_4 (by decide) ?_
  refine m_iald E G 11 3 (n := 131) (k := 101) rfl rfl (by decide) (by decide) dX12_readZone_6 ?_
  refine lv_topi (fun v2 ev2 => ?_)
  have h := elet_at ev2 h
  clear ev2
  refine lv_istore_n (lv' := [(1, .int v2), (0, .ref (ad 0))]) hx hb dX12_readZone_7 rfl hl (by decide) rfl (fun ls hl => ?_)
  refine lv_iload_n hx hb dX12_readZone_8 rfl (lv_at hl 0 rfl) ?_
  refine lv_iconst (v := 4) hx hb dX12_readZone_9 (by decide) ?_
  refine lv_icmp_ne (tgt := 18) hx hb dX12_readZone_10 (by decide) (fun c3 => ?_) (fun c3 => ?_)
  · have h := oif_neg c3 h
    have hl := lv_sub hl [1, 0] rfl
    exact tr_readZone_b18 E hA hR hml (fun H locs ls G => W.vret hx hb hr (fun t ht hW => ⟨⟨S1, rfl, rfl, ⟨by rw [ht]; exact G.1, va_K.moved hW.alike hK, G.2.1⟩⟩, G.2.2.F ht⟩) G.2.2.2.2 dX12_readZone_91) (fun H locs ls G => W.vret hx hb hr (fun t ht hW => ⟨⟨S1, rfl, rfl, ⟨by rw [ht]; exact G.1, va_K.moved hW.alike hK, G.2.1⟩⟩, G.2.2.F ht⟩) G.2.2.2.2 dX12_readZone_151) _ _ _ _ _ h G hl
  · have h := oif_pos c3 h
    refine lv_aload_n hx hb dX12_readZone_13 rfl (lv_at hl 1 rfl) ?_
    refine lv_iconst (v := 4) hx hb dX12_readZone_14 (by decide) ?_
    obtain ⟨S4, eS4, h⟩ := obind_some h
    refine m_callv (As := [.int 4]) (rest := []) E G hA hR hml (tr_faults l D cI cJ cZ ad S 4 eS4) (cwV 1 hts (gmV qM_118 qM_119 qM_120 qM_35 qM_42) rfl rfl rfl (by decide +kernel) ⟨Nat.le_of_ble_eq_true rfl, Nat.le_of_ble_eq_true rfl⟩) rfl hl.1 rfl (lv_room (Nat.le_of_ble_eq_true rfl)) dX12_readZone_15 ⟨Nat.zero_le _, Nat.zero_le _⟩ (fun S6 H locs hq G => ?_)
    rw [hq] at G
    clear hq eS4
    have hl := lv_sub hl [1, 0] rfl
    exact tr_readZone_b18 E hA hR hml (fun H locs ls G => W.vret hx hb hr (fun t ht hW => ⟨⟨S1, rfl, rfl, ⟨by rw [ht]; exact G.1, va_K.moved hW.alike hK, G.2.1⟩⟩, G.2.2.F ht⟩) G.2.2.2.2 dX12_readZone_91) (fun H locs ls G => W.vret hx hb hr (fun t ht hW => ⟨⟨S1, rfl, rfl, ⟨by rw [ht]; exact G.1, va_K.moved hW.alike hK, G.2.1⟩⟩, G.2.2.F ht⟩) G.2.2.2.2 dX12_readZone_151) _ _ _ _ _ h G hl
def fr_readLine_b165  (S : MS)  : Option (MS) := some S
set_option maxHeartbeats 4000000 in
set_option maxRecDepth 100000 in
theorem tr_readLine_b165 {p : Program} {l : Launch} {e : Env} {s : State} {m : MethodId} {args : Array Value} {below : List Frame} {meth : Method} {c : Code} {Q : State → Prop} {D : va_G} {A : Nat → Prop} {cI cJ cZ : ClassId} {ad : Nat → Nat} {S1 : MS} (E : mE p c cX12_readLine s m args (Cond.code yX12_readLine cX12_readLine 1 none :: wsM) D cI cJ cZ) (hA : ∀ q : Nat, s.heap.size ≤ q → A q) (hR : sR s) (hml : c.maxLocals = 1) {h0 : Nat} (hA0 : ∀ a : Nat, A a → h0 ≤ a) (hT : sAll h0 s) (kr165 : ∀ (H : Heap) (locs : List Loc) (ls : Array Slot), mG D cI cJ cZ ad A s.heap H locs S1 → W p l e { frames := 8, cells := 0, slots := 0, locals := 161 } s m args below meth c H locs 0 0 Q (F0 m 165 ls [])) : ∀ (S : MS) (H : Heap) (locs : List Loc) (ls : Array Slot), fr_readLine_b165 S = some S1 → mG D cI cJ cZ ad A s.heap H locs S → lv_has ls 1 [] → W p l e { frames := 8, cells := 0, slots := 0, locals := 161 } s m args below meth c H locs 0 0 Q (F0 m 165 ls []) := by
  have hx := E.1
  have hb := E.2.1
  have hts := E.2.2.1
  have hown := E.2.2.2.1
  have hK := E.2.2.2.2.1
  intro S H locs ls h G hl
  unfold fr_readLine_b165 at h
  rw [osome1 h] at G
  exact kr165 _ _ _ G
def fr_readLine (S : MS)  : Option (MS) := obind2 (fr_isWord S (sTx "wall")) fun r6 S3 => if r6 = 0 then (obind2 (fr_isWord S3 (sTx "fade")) fun r12 S9 => if r12 = 0 then (obind2 (fr_isWord S9 (sTx "filter")) fun r18 S15 => if r18 = 0 then (obind2 (fr_isWord S15 (sTx "clock")) fun r24 S21 => if r24 = 0 then (obind2 (fr_isWord S21 (sTx "zone")) fun r30 S27 => if r30 = 0 then (obind2 (fr_isWord S27 (sTx "shade")) fun r36 S33 => if r36 = 0 then (obind2 (fr_isWord S33 (sTx "off")) fun r42 S39 => if r42 = 0 then (obind2 (fr_isWord S39 (sTx "mic")) fun r48 S45 => if r48 = 0 then (obind2 (fr_isWord S45 (sTx "map")) fun r54 S51 => if r54 = 0 then (obind2 (fr_isWord S51 (sTx "source")) fun r60 S57 => if r60 = 0 then (obind (fr_faults S57 1) fun S62 => fr_readLine_b165 S62) else (obind (fr_readSource S57) fun S65 => fr_readLine_b165 S65)) else (obind (fr_readMap S51) fun S68 => fr_readLine_b165 S68)) else (obind (fr_readMic S45) fun S71 => fr_readLine_b165 S71)) else (obind (fr_readOff S39) fun S74 => fr_readLine_b165 S74)) else (obind (fr_readShade S33) fun S77 => fr_readLine_b165 S77)) else (obind (fr_readZone S27) fun S80 => fr_readLine_b165 S80)) else (obind (fr_readClock S21) fun S83 => fr_readLine_b165 S83)) else (obind (fr_readFilter S15) fun S86 => fr_readLine_b165 S86)) else (obind (fr_readFade S9) fun S89 => fr_readLine_b165 S89)) else (obind (fr_readWall S3) fun S92 => fr_readLine_b165 S92)
set_option maxHeartbeats 4000000 in
set_option maxRecDepth 100000 in
theorem tr_readLine (l : Launch) (D : va_G) (cI cJ cZ : ClassId) (ad : Nat → Nat) (S : MS) (h0 : Nat)  {S1 : MS} (h : fr_readLine S = some S1) : mCvX l yX12_readLine (Cond.code yX12_readLine cX12_readLine 1 none :: wsM) 8 161 D cI cJ cZ ad S [] (xT0 cI cJ cZ h0 ad S) (fun S9 => S9 = S1) := by
  intro sz
  refine Met.ofW (cc := cX12_readLine) (maxL := 1) (ret := none) (by decide) rfl ?_
  intro p e s m args below meth c s₁ B hml hv
  obtain ⟨rfl, ⟨hsz, hP, hK, hD0, hR⟩, hA1, hT⟩ := hv
  have hx := B.exec
  have hb := B.bytes
  have hr := B.returns
  have hts := atoms_spec (ws := (Cond.code yX12_readLine cX12_readLine 1 none :: wsM)) B.pre
  have hown : s.vm.findClass RX12 = some m.cls := findClass_of_methodNamed B.named
  have hlocks := B.notSynchronized
  subst hsz
  have hD := hD0.self (sz := s.heap.size)
  generalize hAe : va_A (MW cI cJ cZ ad S) s.heap.size = A at hD hA1 ⊢
  have hA : ∀ q : Nat, s.heap.size ≤ q → A q := fun q h => by rw [← hAe]; exact Or.inr h
  have G : mG D cI cJ cZ ad A s.heap s.heap [] S := ⟨hP, hD, va_S.rf⟩
  have E : mE p c cX12_readLine s m ([.ref (ad 0)] : List Value).toArray (Cond.code yX12_readLine cX12_readLine 1 none :: wsM) D cI cJ cZ := ⟨hx, hb, hts, hown, hK, fun w h => .tail _ (iM_x h)⟩
  have hA0 : ∀ a : Nat, A a → h0 ≤ a := hA1
  have hl := lv_entry ([.ref (ad 0)]) (n := 1) (Nat.le_of_ble_eq_true rfl)
  rw [lg_entry_eq]
  generalize (lg_sl ([.ref (ad 0)]) ++ List.replicate (1 - (lg_sl ([.ref (ad 0)])).length) Slot.unset).toArray = ls at hl ⊢
  have hl : lv_has ls 1 [(0, .ref (ad 0))] := hl
  unfold fr_readLine at h
  refine lv_aload_n hx hb dX12_readLine_0 rfl (lv_at hl 0 rfl) ?_
  obtain ⟨w2, hw2, ow2⟩ := hT.1 ("AcousticCameraModel", 171, "wall") (List.mem_of_getElem? (i := 25) rfl)
  refine va_ldcS hx hb hown hw2 dX12_readLine_1 ?_
  obtain ⟨r6, S3, eS3, h⟩ := obind2_some h
  refine m_calliX (As := [.ref w2]) (rest := []) E G hA hR hml (tr_isWord l D cI cJ cZ ad S h0 (q := w2) (sTx_ok (by decide +kernel)) eS3) (cwV 1 hts (gmV qM_108 qM_109 qM_110 qM_35 qM_57) rfl rfl rfl (by decide +kernel) ⟨Nat.le_of_ble_eq_true rfl, Nat.le_of_ble_eq_true rfl⟩) rfl hl.1 rfl (lv_room (Nat.le_of_ble_eq_true rfl)) dX12_readLine_3 ⟨Nat.zero_le _, Nat.zero_le _⟩ (xT1.blind) (xT1.go hT hA0 hA G ow2) (fun q4 S5 H locs hq G => ?_)
  obtain ⟨hq1, hq2⟩ := hq
  rw [hq2] at G
  refine lv_to hq1 ?_
  clear hq1 hq2 eS3
  refine lv_if_eq (tgt := 16) hx hb dX12_readLine_6 (by decide) (fun c7 => ?_) (fun c7 => ?_)
  · have h := oif_pos c7 h
    refine lv_aload_n hx hb dX12_readLine_16 rfl (lv_at hl 0 rfl) ?_
    obtain ⟨w8, hw8, ow8⟩ := hT.1 ("AcousticCameraModel", 176, "fade") (List.mem_of_getElem? (i := 26) rfl)
    refine va_ldcS hx hb hown hw8 dX12_readLine_17 ?_
    obtain ⟨r12, S9, eS9, h⟩ := obind2_some h
    refine m_calliX (As := [.ref w8]) (rest := []) E G hA hR hml (tr_isWord l D cI cJ cZ ad S3 h0 (q := w8) (sTx_ok (by decide +kernel)) eS9) (cwV 1 hts (gmV qM_108 qM_109 qM_110 qM_35 qM_57) rfl rfl rfl (by decide +kernel) ⟨Nat.le_of_ble_eq_true rfl, Nat.le_of_ble_eq_true rfl⟩) rfl hl.1 rfl (lv_room (Nat.le_of_ble_eq_true rfl)) dX12_readLine_19 ⟨Nat.zero_le _, Nat.zero_le _⟩ (xT1.blind) (xT1.go hT hA0 hA G ow8) (fun q10 S11 H locs hq G => ?_)
    obtain ⟨hq1, hq2⟩ := hq
    rw [hq2] at G
    refine lv_to hq1 ?_
    clear hq1 hq2 eS9
    refine lv_if_eq (tgt := 32) hx hb dX12_readLine_22 (by decide) (fun c13 => ?_) (fun c13 => ?_)
    · have h := oif_pos c13 h
      refine lv_aload_n hx hb dX12_readLine_32 rfl (lv_at hl 0 rfl) ?_
      obtain ⟨w14, hw14, ow14⟩ := hT.1 ("AcousticCameraModel", 181, "filter") (List.mem_of_getElem? (i := 27) rfl)
      refine va_ldcS hx hb hown hw14 dX12_readLine_33 ?_
      obtain ⟨r18, S15, eS15, h⟩ := obind2_some h
      refine m_calliX (As := [.ref w14]) (rest := []) E G hA hR hml (tr_isWord l D cI cJ cZ ad S9 h0 (q := w14) (sTx_ok (by decide +kernel)) eS15) (cwV 1 hts (gmV qM_108 qM_109 qM_110 qM_35 qM_57) rfl rfl rfl (by decide +kernel) ⟨Nat.le_of_ble_eq_true rfl, Nat.le_of_ble_eq_true rfl⟩) rfl hl.1 rfl (lv_room (Nat.le_of_ble_eq_true rfl)) dX12_readLine_35 ⟨Nat.zero_le _, Nat.zero_le _⟩ (xT1.blind) (xT1.go hT hA0 hA G ow14) (fun q16 S17 H locs hq G => ?_)
      obtain ⟨hq1, hq2⟩ := hq
      rw [hq2] at G
      refine lv_to hq1 ?_
      clear hq1 hq2 eS15
      refine lv_if_eq (tgt := 48) hx hb dX12_readLine_38 (by decide) (fun c19 => ?_) (fun c19 => ?_)
      · have h := oif_pos c19 h
        refine lv_aload_n hx hb dX12_readLine_48 rfl (lv_at hl 0 rfl) ?_
        obtain ⟨w20, hw20, ow20⟩ := hT.1 ("AcousticCameraModel", 186, "clock") (List.mem_of_getElem? (i := 28) rfl)
        refine va_ldcS hx hb hown hw20 dX12_readLine_49 ?_
        obtain ⟨r24, S21, eS21, h⟩ := obind2_some h
        refine m_calliX (As := [.ref w20]) (rest := []) E G hA hR hml (tr_isWord l D cI cJ cZ ad S15 h0 (q := w20) (sTx_ok (by decide +kernel)) eS21) (cwV 1 hts (gmV qM_108 qM_109 qM_110 qM_35 qM_57) rfl rfl rfl (by decide +kernel) ⟨Nat.le_of_ble_eq_true rfl, Nat.le_of_ble_eq_true rfl⟩) rfl hl.1 rfl (lv_room (Nat.le_of_ble_eq_true rfl)) dX12_readLine_51 ⟨Nat.zero_le _, Nat.zero_le _⟩ (xT1.blind) (xT1.go hT hA0 hA G ow20) (fun q22 S23 H locs hq G => ?_)
        obtain ⟨hq1, hq2⟩ := hq
        rw [hq2] at G
        refine lv_to hq1 ?_
        clear hq1 hq2 eS21
        refine lv_if_eq (tgt := 64) hx hb dX12_readLine_54 (by decide) (fun c25 => ?_) (fun c25 => ?_)
        · have h := oif_pos c25 h
          refine lv_aload_n hx hb dX12_readLine_64 rfl (lv_at hl 0 rfl) ?_
          obtain ⟨w26, hw26, ow26⟩ := hT.1 ("AcousticCameraModel", 191, "zone") (List.mem_of_getElem? (i := 29) rfl)
          refine va_ldcS hx hb hown hw26 dX12_readLine_65 ?_
          obtain ⟨r30, S27, eS27, h⟩ := obind2_some h
          refine m_calliX (As := [.ref w26]) (rest := []) E G hA hR hml (tr_isWord l D cI cJ cZ ad S21 h0 (q := w26) (sTx_ok (by decide +kernel)) eS27) (cwV 1 hts (gmV qM_108 qM_109 qM_110 qM_35 qM_57) rfl rfl rfl (by decide +kernel) ⟨Nat.le_of_ble_eq_true rfl, Nat.le_of_ble_eq_true rfl⟩) rfl hl.1 rfl (lv_room (Nat.le_of_ble_eq_true rfl)) dX12_readLine_67 ⟨Nat.zero_le _, Nat.zero_le _⟩ (xT1.blind) (xT1.go hT hA0 hA G ow26) (fun q28 S29 H locs hq G => ?_)
          obtain ⟨hq1, hq2⟩ := hq
          rw [hq2] at G
          refine lv_to hq1 ?_
          clear hq1 hq2 eS27
          refine lv_if_eq (tgt := 80) hx hb dX12_readLine_70 (by decide) (fun c31 => ?_) (fun c31 => ?_)
          · have h := oif_pos c31 h
            refine lv_aload_n hx hb dX12_readLine_80 rfl (lv_at hl 0 rfl) ?_
            obtain ⟨w32, hw32, ow32⟩ := hT.1 ("AcousticCameraModel", 196, "shade") (List.mem_of_getElem? (i := 30) rfl)
            refine va_ldcS hx hb hown hw32 dX12_readLine_81 ?_
            obtain ⟨r36, S33, eS33, h⟩ := obind2_some h
            refine m_calliX (As := [.ref w32]) (rest := []) E G hA hR hml (tr_isWord l D cI cJ cZ ad S27 h0 (q := w32) (sTx_ok (by decide +kernel)) eS33) (cwV 1 hts (gmV qM_108 qM_109 qM_110 qM_35 qM_57) rfl rfl rfl (by decide +kernel) ⟨Nat.le_of_ble_eq_true rfl, Nat.le_of_ble_eq_true rfl⟩) rfl hl.1 rfl (lv_room (Nat.le_of_ble_eq_true rfl)) dX12_readLine_83 ⟨Nat.zero_le _, Nat.zero_le _⟩ (xT1.blind) (xT1.go hT hA0 hA G ow32) (fun q34 S35 H locs hq G => ?_)
            obtain ⟨hq1, hq2⟩ := hq
            rw [hq2] at G
            refine lv_to hq1 ?_
            clear hq1 hq2 eS33
            refine lv_if_eq (tgt := 96) hx hb dX12_readLine_86 (by decide) (fun c37 => ?_) (fun c37 => ?_)
            · have h := oif_pos c37 h
              refine lv_aload_n hx hb dX12_readLine_96 rfl (lv_at hl 0 rfl) ?_
              obtain ⟨w38, hw38, ow38⟩ := hT.1 ("AcousticCameraModel", 201, "off") (List.mem_of_getElem? (i := 31) rfl)
              refine va_ldcS hx hb hown hw38 dX12_readLine_97 ?_
              obtain ⟨r42, S39, eS39, h⟩ := obind2_some h
              refine m_calliX (As := [.ref w38]) (rest := []) E G hA hR hml (tr_isWord l D cI cJ cZ ad S33 h0 (q := w38) (sTx_ok (by decide +kernel)) eS39) (cwV 1 hts (gmV qM_108 qM_109 qM_110 qM_35 qM_57) rfl rfl rfl (by decide +kernel) ⟨Nat.le_of_ble_eq_true rfl, Nat.le_of_ble_eq_true rfl⟩) rfl hl.1 rfl (lv_room (Nat.le_of_ble_eq_true rfl)) dX12_readLine_99 ⟨Nat.zero_le _, Nat.zero_le _⟩ (xT1.blind) (xT1.go hT hA0 hA G ow38) (fun q40 S41 H locs hq G => ?_)
              obtain ⟨hq1, hq2⟩ := hq
              rw [hq2] at G
              refine lv_to hq1 ?_
              clear hq1 hq2 eS39
              refine lv_if_eq (tgt := 112) hx hb dX12_readLine_102 (by decide) (fun c43 => ?_) (fun c43 => ?_)
              · have h := oif_pos c43 h
                refine lv_aload_n hx hb dX12_readLine_112 rfl (lv_at hl 0 rfl) ?_
                obtain ⟨w44, hw44, ow44⟩ := hT.1 ("AcousticCameraModel", 206, "mic") (List.mem_of_getElem? (i := 32) rfl)
                refine va_ldcS hx hb hown hw44 dX12_readLine_113 ?_
                obtain ⟨r48, S45, eS45, h⟩ := obind2_some h
                refine m_calliX (As := [.ref w44]) (rest := []) E G hA hR hml (tr_isWord l D cI cJ cZ ad S39 h0 (q := w44) (sTx_ok (by decide +kernel)) eS45) (cwV 1 hts (gmV qM_108 qM_109 qM_110 qM_35 qM_57) rfl rfl rfl (by decide +kernel) ⟨Nat.le_of_ble_eq_true rfl, Nat.le_of_ble_eq_true rfl⟩) rfl hl.1 rfl (lv_room (Nat.le_of_ble_eq_true rfl)) dX12_readLine_115 ⟨Nat.zero_le _, Nat.zero_le _⟩ (xT1.blind) (xT1.go hT hA0 hA G ow44) (fun q46 S47 H locs hq G => ?_)
                obtain ⟨hq1, hq2⟩ := hq
                rw [hq2] at G
                refine lv_to hq1 ?_
                clear hq1 hq2 eS45
                refine lv_if_eq (tgt := 128) hx hb dX12_readLine_118 (by decide) (fun c49 => ?_) (fun c49 => ?_)
                · have h := oif_pos c49 h
                  refine lv_aload_n hx hb dX12_readLine_128 rfl (lv_at hl 0 rfl) ?_
                  obtain ⟨w50, hw50, ow50⟩ := hT.1 ("AcousticCameraModel", 211, "map") (List.mem_of_getElem? (i := 33) rfl)
                  refine va_ldcS hx hb hown hw50 dX12_readLine_129 ?_
                  obtain ⟨r54, S51, eS51, h⟩ := obind2_some h
                  refine m_calliX (As := [.ref w50]) (rest := []) E G hA hR hml (tr_isWord l D cI cJ cZ ad S45 h0 (q := w50) (sTx_ok (by decide +kernel)) eS51) (cwV 1 hts (gmV qM_108 qM_109 qM_110 qM_35 qM_57) rfl rfl rfl (by decide +kernel) ⟨Nat.le_of_ble_eq_true rfl, Nat.le_of_ble_eq_true rfl⟩) rfl hl.1 rfl (lv_room (Nat.le_of_ble_eq_true rfl)) dX12_readLine_131 ⟨Nat.zero_le _, Nat.zero_le _⟩ (xT1.blind) (xT1.go hT hA0 hA G ow50) (fun q52 S53 H locs hq G => ?_)
                  obtain ⟨hq1, hq2⟩ := hq
                  rw [hq2] at G
                  refine lv_to hq1 ?_
                  clear hq1 hq2 eS51
                  refine lv_if_eq (tgt := 144) hx hb dX12_readLine_134 (by decide) (fun c55 => ?_) (fun c55 => ?_)
                  · have h := oif_pos c55 h
                    refine lv_aload_n hx hb dX12_readLine_144 rfl (lv_at hl 0 rfl) ?_
                    obtain ⟨w56, hw56, ow56⟩ := hT.1 ("AcousticCameraModel", 216, "source") (List.mem_of_getElem? (i := 34) rfl)
                    refine va_ldcS hx hb hown hw56 dX12_readLine_145 ?_
                    obtain ⟨r60, S57, eS57, h⟩ := obind2_some h
                    refine m_calliX (As := [.ref w56]) (rest := []) E G hA hR hml (tr_isWord l D cI cJ cZ ad S51 h0 (q := w56) (sTx_ok (by decide +kernel)) eS57) (cwV 1 hts (gmV qM_108 qM_109 qM_110 qM_35 qM_57) rfl rfl rfl (by decide +kernel) ⟨Nat.le_of_ble_eq_true rfl, Nat.le_of_ble_eq_true rfl⟩) rfl hl.1 rfl (lv_room (Nat.le_of_ble_eq_true rfl)) dX12_readLine_147 ⟨Nat.zero_le _, Nat.zero_le _⟩ (xT1.blind) (xT1.go hT hA0 hA G ow56) (fun q58 S59 H locs hq G => ?_)
                    obtain ⟨hq1, hq2⟩ := hq
                    rw [hq2] at G
                    refine lv_to hq1 ?_
                    clear hq1 hq2 eS57
                    refine lv_if_eq (tgt := 160) hx hb dX12_readLine_150 (by decide) (fun c61 => ?_) (fun c61 => ?_)
                    · have h := oif_pos c61 h
                      refine lv_aload_n hx hb dX12_readLine_160 rfl (lv_at hl 0 rfl) ?_
                      refine lv_iconst (v := 1) hx hb dX12_readLine_161 (by decide) ?_
                      obtain ⟨S62, eS62, h⟩ := obind_some h
                      refine m_callv (As := [.int 1]) (rest := []) E G hA hR hml (tr_faults l D cI cJ cZ ad S57 1 eS62) (cwV 1 hts (gmV qM_118 qM_119 qM_120 qM_35 qM_42) rfl rfl rfl (by decide +kernel) ⟨Nat.le_of_ble_eq_true rfl, Nat.le_of_ble_eq_true rfl⟩) rfl hl.1 rfl (lv_room (Nat.le_of_ble_eq_true rfl)) dX12_readLine_162 ⟨Nat.zero_le _, Nat.zero_le _⟩ (fun S64 H locs hq G => ?_)
                      rw [hq] at G
                      clear hq eS62
                      have hl := lv_sub hl [] rfl
                      exact tr_readLine_b165 E hA hR hml hA0 hT (fun H locs ls G => W.vret hx hb hr (fun t ht hW => ⟨⟨S1, rfl, rfl, ⟨by rw [ht]; exact G.1, va_K.moved hW.alike hK, G.2.1⟩⟩, G.2.2.F ht⟩) G.2.2.2.2 dX12_readLine_165) _ _ _ _ h G hl
                    · have h := oif_neg c61 h
                      refine lv_aload_n hx hb dX12_readLine_153 rfl (lv_at hl 0 rfl) ?_
                      obtain ⟨S65, eS65, h⟩ := obind_some h
                      refine m_callvX (As := []) (rest := []) E G hA hR hml (tr_readSource l D cI cJ cZ ad S57 h0 eS65) (cwV 0 hts (gmV qM_182 qM_183 qM_184 qM_35 qM_146) rfl rfl rfl (by decide +kernel) ⟨Nat.le_of_ble_eq_true rfl, Nat.le_of_ble_eq_true rfl⟩) rfl hl.1 rfl (lv_room (Nat.le_of_ble_eq_true rfl)) dX12_readLine_154 ⟨Nat.zero_le _, Nat.zero_le _⟩ (xT0.blind) (xT0.go hT hA0 hA G) (fun S67 H locs hq G => ?_)
                      rw [hq] at G
                      clear hq eS65
                      refine lv_goto (tgt := 165) hx hb dX12_readLine_157 (by decide) ?_
                      have hl := lv_sub hl [] rfl
                      exact tr_readLine_b165 E hA hR hml hA0 hT (fun H locs ls G => W.vret hx hb hr (fun t ht hW => ⟨⟨S1, rfl, rfl, ⟨by rw [ht]; exact G.1, va_K.moved hW.alike hK, G.2.1⟩⟩, G.2.2.F ht⟩) G.2.2.2.2 dX12_readLine_165) _ _ _ _ h G hl
                  · have h := oif_neg c55 h
                    refine lv_aload_n hx hb dX12_readLine_137 rfl (lv_at hl 0 rfl) ?_
                    obtain ⟨S68, eS68, h⟩ := obind_some h
                    refine m_callv (As := []) (rest := []) E G hA hR hml (tr_readMap l D cI cJ cZ ad S51 eS68) (cwV 0 hts (gmV qM_179 qM_180 qM_181 qM_35 qM_145) rfl rfl rfl (by decide +kernel) ⟨Nat.le_of_ble_eq_true rfl, Nat.le_of_ble_eq_true rfl⟩) rfl hl.1 rfl (lv_room (Nat.le_of_ble_eq_true rfl)) dX12_readLine_138 ⟨Nat.zero_le _, Nat.zero_le _⟩ (fun S70 H locs hq G => ?_)
                    rw [hq] at G
                    clear hq eS68
                    refine lv_goto (tgt := 165) hx hb dX12_readLine_141 (by decide) ?_
                    have hl := lv_sub hl [] rfl
                    exact tr_readLine_b165 E hA hR hml hA0 hT (fun H locs ls G => W.vret hx hb hr (fun t ht hW => ⟨⟨S1, rfl, rfl, ⟨by rw [ht]; exact G.1, va_K.moved hW.alike hK, G.2.1⟩⟩, G.2.2.F ht⟩) G.2.2.2.2 dX12_readLine_165) _ _ _ _ h G hl
                · have h := oif_neg c49 h
                  refine lv_aload_n hx hb dX12_readLine_121 rfl (lv_at hl 0 rfl) ?_
                  obtain ⟨S71, eS71, h⟩ := obind_some h
                  refine m_callv (As := []) (rest := []) E G hA hR hml (tr_readMic l D cI cJ cZ ad S45 eS71) (cwV 0 hts (gmV qM_176 qM_177 qM_178 qM_35 qM_141) rfl rfl rfl (by decide +kernel) ⟨Nat.le_of_ble_eq_true rfl, Nat.le_of_ble_eq_true rfl⟩) rfl hl.1 rfl (lv_room (Nat.le_of_ble_eq_true rfl)) dX12_readLine_122 ⟨Nat.zero_le _, Nat.zero_le _⟩ (fun S73 H locs hq G => ?_)
                  rw [hq] at G
                  clear hq eS71
                  refine lv_goto (tgt := 165) hx hb dX12_readLine_125 (by decide) ?_
                  have hl := lv_sub hl [] rfl
                  exact tr_readLine_b165 E hA hR hml hA0 hT (fun H locs ls G => W.vret hx hb hr (fun t ht hW => ⟨⟨S1, rfl, rfl, ⟨by rw [ht]; exact G.1, va_K.moved hW.alike hK, G.2.1⟩⟩, G.2.2.F ht⟩) G.2.2.2.2 dX12_readLine_165) _ _ _ _ h G hl
              · have h := oif_neg c43 h
                refine lv_aload_n hx hb dX12_readLine_105 rfl (lv_at hl 0 rfl) ?_
                obtain ⟨S74, eS74, h⟩ := obind_some h
                refine m_callv (As := []) (rest := []) E G hA hR hml (tr_readOff l D cI cJ cZ ad S39 eS74) (cwV 0 hts (gmV qM_173 qM_174 qM_175 qM_35 qM_152) rfl rfl rfl (by decide +kernel) ⟨Nat.le_of_ble_eq_true rfl, Nat.le_of_ble_eq_true rfl⟩) rfl hl.1 rfl (lv_room (Nat.le_of_ble_eq_true rfl)) dX12_readLine_106 ⟨Nat.zero_le _, Nat.zero_le _⟩ (fun S76 H locs hq G => ?_)
                rw [hq] at G
                clear hq eS74
                refine lv_goto (tgt := 165) hx hb dX12_readLine_109 (by decide) ?_
                have hl := lv_sub hl [] rfl
                exact tr_readLine_b165 E hA hR hml hA0 hT (fun H locs ls G => W.vret hx hb hr (fun t ht hW => ⟨⟨S1, rfl, rfl, ⟨by rw [ht]; exact G.1, va_K.moved hW.alike hK, G.2.1⟩⟩, G.2.2.F ht⟩) G.2.2.2.2 dX12_readLine_165) _ _ _ _ h G hl
            · have h := oif_neg c37 h
              refine lv_aload_n hx hb dX12_readLine_89 rfl (lv_at hl 0 rfl) ?_
              obtain ⟨S77, eS77, h⟩ := obind_some h
              refine m_callv (As := []) (rest := []) E G hA hR hml (tr_readShade l D cI cJ cZ ad S33 eS77) (cwV 0 hts (gmV qM_170 qM_171 qM_172 qM_35 qM_151) rfl rfl rfl (by decide +kernel) ⟨Nat.le_of_ble_eq_true rfl, Nat.le_of_ble_eq_true rfl⟩) rfl hl.1 rfl (lv_room (Nat.le_of_ble_eq_true rfl)) dX12_readLine_90 ⟨Nat.zero_le _, Nat.zero_le _⟩ (fun S79 H locs hq G => ?_)
              rw [hq] at G
              clear hq eS77
              refine lv_goto (tgt := 165) hx hb dX12_readLine_93 (by decide) ?_
              have hl := lv_sub hl [] rfl
              exact tr_readLine_b165 E hA hR hml hA0 hT (fun H locs ls G => W.vret hx hb hr (fun t ht hW => ⟨⟨S1, rfl, rfl, ⟨by rw [ht]; exact G.1, va_K.moved hW.alike hK, G.2.1⟩⟩, G.2.2.F ht⟩) G.2.2.2.2 dX12_readLine_165) _ _ _ _ h G hl
          · have h := oif_neg c31 h
            refine lv_aload_n hx hb dX12_readLine_73 rfl (lv_at hl 0 rfl) ?_
            obtain ⟨S80, eS80, h⟩ := obind_some h
            refine m_callv (As := []) (rest := []) E G hA hR hml (tr_readZone l D cI cJ cZ ad S27 eS80) (cwV 0 hts (gmV qM_167 qM_168 qM_169 qM_35 qM_153) rfl rfl rfl (by decide +kernel) ⟨Nat.le_of_ble_eq_true rfl, Nat.le_of_ble_eq_true rfl⟩) rfl hl.1 rfl (lv_room (Nat.le_of_ble_eq_true rfl)) dX12_readLine_74 ⟨Nat.zero_le _, Nat.zero_le _⟩ (fun S82 H locs hq G => ?_)
            rw [hq] at G
            clear hq eS80
            refine lv_goto (tgt := 165) hx hb dX12_readLine_77 (by decide) ?_
            have hl := lv_sub hl [] rfl
            exact tr_readLine_b165 E hA hR hml hA0 hT (fun H locs ls G => W.vret hx hb hr (fun t ht hW => ⟨⟨S1, rfl, rfl, ⟨by rw [ht]; exact G.1, va_K.moved hW.alike hK, G.2.1⟩⟩, G.2.2.F ht⟩) G.2.2.2.2 dX12_readLine_165) _ _ _ _ h G hl
        · have h := oif_neg c25 h
          refine lv_aload_n hx hb dX12_readLine_57 rfl (lv_at hl 0 rfl) ?_
          obtain ⟨S83, eS83, h⟩ := obind_some h
          refine m_callv (As := []) (rest := []) E G hA hR hml (tr_readClock l D cI cJ cZ ad S21 eS83) (cwV 0 hts (gmV qM_164 qM_165 qM_166 qM_35 qM_150) rfl rfl rfl (by decide +kernel) ⟨Nat.le_of_ble_eq_true rfl, Nat.le_of_ble_eq_true rfl⟩) rfl hl.1 rfl (lv_room (Nat.le_of_ble_eq_true rfl)) dX12_readLine_58 ⟨Nat.zero_le _, Nat.zero_le _⟩ (fun S85 H locs hq G => ?_)
          rw [hq] at G
          clear hq eS83
          refine lv_goto (tgt := 165) hx hb dX12_readLine_61 (by decide) ?_
          have hl := lv_sub hl [] rfl
          exact tr_readLine_b165 E hA hR hml hA0 hT (fun H locs ls G => W.vret hx hb hr (fun t ht hW => ⟨⟨S1, rfl, rfl, ⟨by rw [ht]; exact G.1, va_K.moved hW.alike hK, G.2.1⟩⟩, G.2.2.F ht⟩) G.2.2.2.2 dX12_readLine_165) _ _ _ _ h G hl
      · have h := oif_neg c19 h
        refine lv_aload_n hx hb dX12_readLine_41 rfl (lv_at hl 0 rfl) ?_
        obtain ⟨S86, eS86, h⟩ := obind_some h
        refine m_callv (As := []) (rest := []) E G hA hR hml (tr_readFilter l D cI cJ cZ ad S15 eS86) (cwV 0 hts (gmV qM_161 qM_162 qM_163 qM_35 qM_149) rfl rfl rfl (by decide +kernel) ⟨Nat.le_of_ble_eq_true rfl, Nat.le_of_ble_eq_true rfl⟩) rfl hl.1 rfl (lv_room (Nat.le_of_ble_eq_true rfl)) dX12_readLine_42 ⟨Nat.zero_le _, Nat.zero_le _⟩ (fun S88 H locs hq G => ?_)
        rw [hq] at G
        clear hq eS86
        refine lv_goto (tgt := 165) hx hb dX12_readLine_45 (by decide) ?_
        have hl := lv_sub hl [] rfl
        exact tr_readLine_b165 E hA hR hml hA0 hT (fun H locs ls G => W.vret hx hb hr (fun t ht hW => ⟨⟨S1, rfl, rfl, ⟨by rw [ht]; exact G.1, va_K.moved hW.alike hK, G.2.1⟩⟩, G.2.2.F ht⟩) G.2.2.2.2 dX12_readLine_165) _ _ _ _ h G hl
    · have h := oif_neg c13 h
      refine lv_aload_n hx hb dX12_readLine_25 rfl (lv_at hl 0 rfl) ?_
      obtain ⟨S89, eS89, h⟩ := obind_some h
      refine m_callv (As := []) (rest := []) E G hA hR hml (tr_readFade l D cI cJ cZ ad S9 eS89) (cwV 0 hts (gmV qM_158 qM_159 qM_160 qM_35 qM_148) rfl rfl rfl (by decide +kernel) ⟨Nat.le_of_ble_eq_true rfl, Nat.le_of_ble_eq_true rfl⟩) rfl hl.1 rfl (lv_room (Nat.le_of_ble_eq_true rfl)) dX12_readLine_26 ⟨Nat.zero_le _, Nat.zero_le _⟩ (fun S91 H locs hq G => ?_)
      rw [hq] at G
      clear hq eS89
      refine lv_goto (tgt := 165) hx hb dX12_readLine_29 (by decide) ?_
      have hl := lv_sub hl [] rfl
      exact tr_readLine_b165 E hA hR hml hA0 hT (fun H locs ls G => W.vret hx hb hr (fun t ht hW => ⟨⟨S1, rfl, rfl, ⟨by rw [ht]; exact G.1, va_K.moved hW.alike hK, G.2.1⟩⟩, G.2.2.F ht⟩) G.2.2.2.2 dX12_readLine_165) _ _ _ _ h G hl
  · have h := oif_neg c7 h
    refine lv_aload_n hx hb dX12_readLine_9 rfl (lv_at hl 0 rfl) ?_
    obtain ⟨S92, eS92, h⟩ := obind_some h
    refine m_callv (As := []) (rest := []) E G hA hR hml (tr_readWall l D cI cJ cZ ad S3 eS92) (cwV 0 hts (gmV qM_155 qM_156 qM_157 qM_35 qM_147) rfl rfl rfl (by decide +kernel) ⟨Nat.le_of_ble_eq_true rfl, Nat.le_of_ble_eq_true rfl⟩) rfl hl.1 rfl (lv_room (Nat.le_of_ble_eq_true rfl)) dX12_readLine_10 ⟨Nat.zero_le _, Nat.zero_le _⟩ (fun S94 H locs hq G => ?_)
    rw [hq] at G
    clear hq eS92
    refine lv_goto (tgt := 165) hx hb dX12_readLine_13 (by decide) ?_
    have hl := lv_sub hl [] rfl
    exact tr_readLine_b165 E hA hR hml hA0 hT (fun H locs ls G => W.vret hx hb hr (fun t ht hW => ⟨⟨S1, rfl, rfl, ⟨by rw [ht]; exact G.1, va_K.moved hW.alike hK, G.2.1⟩⟩, G.2.2.F ht⟩) G.2.2.2.2 dX12_readLine_165) _ _ _ _ h G hl
def fr_readText_b116  (S : MS)  : Option (MS) := some S
set_option maxHeartbeats 4000000 in
set_option maxRecDepth 100000 in
theorem tr_readText_b116 {p : Program} {l : Launch} {e : Env} {s : State} {m : MethodId} {args : Array Value} {below : List Frame} {meth : Method} {c : Code} {Q : State → Prop} {D : va_G} {A : Nat → Prop} {cI cJ cZ : ClassId} {ad : Nat → Nat} {S1 : MS} (E : mE p c cX12_readText s m args (Cond.code yX12_readText cX12_readText 2 none :: wsM) D cI cJ cZ) (hA : ∀ q : Nat, s.heap.size ≤ q → A q) (hR : sR s) (hml : c.maxLocals = 2) {h0 : Nat} (hA0 : ∀ a : Nat, A a → h0 ≤ a) (hT : sAll h0 s) (kr116 : ∀ (H : Heap) (locs : List Loc) (ls : Array Slot), mG D cI cJ cZ ad A s.heap H locs S1 → W p l e { frames := 10, cells := 0, slots := 0, locals := 195 } s m args below meth c H locs 0 0 Q (F0 m 116 ls [])) : ∀ (S : MS) (H : Heap) (locs : List Loc) (ls : Array Slot), fr_readText_b116 S = some S1 → mG D cI cJ cZ ad A s.heap H locs S → lv_has ls 2 [] → W p l e { frames := 10, cells := 0, slots := 0, locals := 195 } s m args below meth c H locs 0 0 Q (F0 m 116 ls []) := by
  have hx := E.1
  have hb := E.2.1
  have hts := E.2.2.1
  have hown := E.2.2.2.1
  have hK := E.2.2.2.2.1
  intro S H locs ls h G hl
  unfold fr_readText_b116 at h
  rw [osome1 h] at G
  exact kr116 _ _ _ G
def fr_readText_b111  (S : MS)  : Option (MS) := obind (fr_faults S 5) fun S2 => fr_readText_b116 S2
set_option maxHeartbeats 4000000 in
set_option maxRecDepth 100000 in
theorem tr_readText_b111 {p : Program} {l : Launch} {e : Env} {s : State} {m : MethodId} {args : Array Value} {below : List Frame} {meth : Method} {c : Code} {Q : State → Prop} {D : va_G} {A : Nat → Prop} {cI cJ cZ : ClassId} {ad : Nat → Nat} {S1 : MS} (E : mE p c cX12_readText s m args (Cond.code yX12_readText cX12_readText 2 none :: wsM) D cI cJ cZ) (hA : ∀ q : Nat, s.heap.size ≤ q → A q) (hR : sR s) (hml : c.maxLocals = 2) {h0 : Nat} (hA0 : ∀ a : Nat, A a → h0 ≤ a) (hT : sAll h0 s) (kr116 : ∀ (H : Heap) (locs : List Loc) (ls : Array Slot), mG D cI cJ cZ ad A s.heap H locs S1 → W p l e { frames := 10, cells := 0, slots := 0, locals := 195 } s m args below meth c H locs 0 0 Q (F0 m 116 ls [])) : ∀ (S : MS) (H : Heap) (locs : List Loc) (ls : Array Slot), fr_readText_b111 S = some S1 → mG D cI cJ cZ ad A s.heap H locs S → lv_has ls 2 [(0, .ref (ad 0))] → W p l e { frames := 10, cells := 0, slots := 0, locals := 195 } s m args below meth c H locs 0 0 Q (F0 m 111 ls []) := by
  have hx := E.1
  have hb := E.2.1
  have hts := E.2.2.1
  have hown := E.2.2.2.1
  have hK := E.2.2.2.2.1
  intro S H locs ls h G hl
  unfold fr_readText_b111 at h
  refine lv_aload_n hx hb dX12_readText_111 rfl (lv_at hl 0 rfl) ?_
  refine lv_iconst (v := 5) hx hb dX12_readText_112 (by decide) ?_
  obtain ⟨S2, eS2, h⟩ := obind_some h
  refine m_callv (As := [.int 5]) (rest := []) E G hA hR hml (tr_faults l D cI cJ cZ ad S 5 eS2) (cwV 1 hts (gmV qM_118 qM_119 qM_120 qM_35 qM_42) rfl rfl rfl (by decide +kernel) ⟨Nat.le_of_ble_eq_true rfl, Nat.le_of_ble_eq_true rfl⟩) rfl hl.1 rfl (lv_room (Nat.le_of_ble_eq_true rfl)) dX12_readText_113 ⟨Nat.zero_le _, Nat.zero_le _⟩ (fun S4 H locs hq G => ?_)
  rw [hq] at G
  clear hq eS2
  have hl := lv_sub hl [] rfl
  exact tr_readText_b116 E hA hR hml hA0 hT kr116 _ _ _ _ h G hl
def fr_readText_b92  (S : MS)  : Option (MS) := elet (S.2.1 11 4) fun v2 => if v2 = 0 then (fr_readText_b111 S) else (elet (S.2.1 11 8) fun v4 => if v4 = 0 then (fr_readText_b111 S) else (fr_readText_b116 S))
set_option maxHeartbeats 4000000 in
set_option maxRecDepth 100000 in
theorem tr_readText_b92 {p : Program} {l : Launch} {e : Env} {s : State} {m : MethodId} {args : Array Value} {below : List Frame} {meth : Method} {c : Code} {Q : State → Prop} {D : va_G} {A : Nat → Prop} {cI cJ cZ : ClassId} {ad : Nat → Nat} {S1 : MS} (E : mE p c cX12_readText s m args (Cond.code yX12_readText cX12_readText 2 none :: wsM) D cI cJ cZ) (hA : ∀ q : Nat, s.heap.size ≤ q → A q) (hR : sR s) (hml : c.maxLocals = 2) {h0 : Nat} (hA0 : ∀ a : Nat, A a → h0 ≤ a) (hT : sAll h0 s) (kr116 : ∀ (H : Heap) (locs : List Loc) (ls : Array Slot), mG D cI cJ cZ ad A s.heap H locs S1 → W p l e { frames := 10, cells := 0, slots := 0, locals := 195 } s m args below meth c H locs 0 0 Q (F0 m 116 ls [])) : ∀ (S : MS) (H : Heap) (locs : List Loc) (ls : Array Slot), fr_readText_b92 S = some S1 → mG D cI cJ cZ ad A s.heap H locs S → lv_has ls 2 [(0, .ref (ad 0))] → W p l e { frames := 10, cells := 0, slots := 0, locals := 195 } s m args below meth c H locs 0 0 Q (F0 m 92 ls []) := by
  have hx := E.1
  have hb := E.2.1
  have hts := E.2.2.1
  have hown := E.2.2.2.1
  have hK := E.2.2.2.2.1
  intro S H locs ls h G hl
  unfold fr_readText_b92 at h
  refine lv_aload_n hx hb dX12_readText_92 rfl (lv_at hl 0 rfl) ?_
  refine m_get E G 11 (v := .ref (ad 11)) (by decide) (.tail _ qM_8) rfl dX12_readText_93 rfl ?_
  refine lv_iconst (v := 4) hx hb dX12_readText_96 (by decide) ?_
  refine m_iald E G 11 3 (n := 131) (k := 4) rfl rfl (by decide) (by decide) dX12_readText_97 ?_
  refine lv_topi (fun v2 ev2 => ?_)
  have h := elet_at ev2 h
  clear ev2
  refine lv_if_eq (tgt := 111) hx hb dX12_readText_98 (by decide) (fun c3 => ?_) (fun c3 => ?_)
  · have h := oif_pos c3 h
    have hl := lv_sub hl [0] rfl
    exact tr_readText_b111 E hA hR hml hA0 hT kr116 _ _ _ _ h G hl
  · have h := oif_neg c3 h
    refine lv_aload_n hx hb dX12_readText_101 rfl (lv_at hl 0 rfl) ?_
    refine m_get E G 11 (v := .ref (ad 11)) (by decide) (.tail _ qM_8) rfl dX12_readText_102 rfl ?_
    refine lv_bipush (v := 8) hx hb dX12_readText_105 (by decide) ?_
    refine m_iald E G 11 3 (n := 131) (k := 8) rfl rfl (by decide) (by decide) dX12_readText_107 ?_
    refine lv_topi (fun v4 ev4 => ?_)
    have h := elet_at ev4 h
    clear ev4
    refine lv_if_ne (tgt := 116) hx hb dX12_readText_108 (by decide) (fun c5 => ?_) (fun c5 => ?_)
    · have h := oif_neg c5 h
      have hl := lv_sub hl [] rfl
      exact tr_readText_b116 E hA hR hml hA0 hT kr116 _ _ _ _ h G hl
    · have h := oif_pos c5 h
      have hl := lv_sub hl [0] rfl
      exact tr_readText_b111 E hA hR hml hA0 hT kr116 _ _ _ _ h G hl
def fr_readText_b52  : Nat → MS → Option (MS)
  | 0, _ => none
  | n + 1, S => obind2 (fr_isSignHere S 59) fun r5 S2 => if r5 = 0 then (elet (S2.1 5) fun v7 => if v7 = 0 then (elet (S2.1 7) fun v9 => if v9 = 1 then (fr_readText_b92 S2) else (obind (fr_faults S2 1) fun S11 => fr_readText_b92 S11)) else (fr_readText_b92 S2)) else (obind (fr_nextToken S2) fun S14 => obind (fr_readLine S14) fun S17 => fr_readText_b52 n S17)
set_option maxHeartbeats 4000000 in
set_option maxRecDepth 100000 in
theorem tr_readText_b52 {p : Program} {l : Launch} {e : Env} {s : State} {m : MethodId} {args : Array Value} {below : List Frame} {meth : Method} {c : Code} {Q : State → Prop} {D : va_G} {A : Nat → Prop} {cI cJ cZ : ClassId} {ad : Nat → Nat} {S1 : MS} (E : mE p c cX12_readText s m args (Cond.code yX12_readText cX12_readText 2 none :: wsM) D cI cJ cZ) (hA : ∀ q : Nat, s.heap.size ≤ q → A q) (hR : sR s) (hml : c.maxLocals = 2) {h0 : Nat} (hA0 : ∀ a : Nat, A a → h0 ≤ a) (hT : sAll h0 s) (kr116 : ∀ (H : Heap) (locs : List Loc) (ls : Array Slot), mG D cI cJ cZ ad A s.heap H locs S1 → W p l e { frames := 10, cells := 0, slots := 0, locals := 195 } s m args below meth c H locs 0 0 Q (F0 m 116 ls [])) : ∀ n : Nat, ∀ (S : MS) (H : Heap) (locs : List Loc) (ls : Array Slot), fr_readText_b52 n S = some S1 → mG D cI cJ cZ ad A s.heap H locs S → lv_has ls 2 [(0, .ref (ad 0))] → W p l e { frames := 10, cells := 0, slots := 0, locals := 195 } s m args below meth c H locs 0 0 Q (F0 m 52 ls []) := by
  have hx := E.1
  have hb := E.2.1
  have hts := E.2.2.1
  have hown := E.2.2.2.1
  have hK := E.2.2.2.2.1
  intro n
  induction n with
  | zero =>
    intro S H locs ls h
    have h : (none : Option (MS)) = some S1 := h
    cases h
  | succ n ih =>
    intro S H locs ls h G hl
    unfold fr_readText_b52 at h
    refine lv_aload_n hx hb dX12_readText_52 rfl (lv_at hl 0 rfl) ?_
    refine lv_bipush (v := 59) hx hb dX12_readText_53 (by decide) ?_
    obtain ⟨r5, S2, eS2, h⟩ := obind2_some h
    refine m_calli (As := [.int 59]) (rest := []) E G hA hR hml (tr_isSignHere l D cI cJ cZ ad S 59 eS2) (cwV 1 hts (gmV qM_134 qM_135 qM_136 qM_35 qM_56) rfl rfl rfl (by decide +kernel) ⟨Nat.le_of_ble_eq_true rfl, Nat.le_of_ble_eq_true rfl⟩) rfl hl.1 rfl (lv_room (Nat.le_of_ble_eq_true rfl)) dX12_readText_55 ⟨Nat.zero_le _, Nat.zero_le _⟩ (fun q3 S4 H locs hq G => ?_)
    obtain ⟨hq1, hq2⟩ := hq
    rw [hq2] at G
    refine lv_to hq1 ?_
    clear hq1 hq2 eS2
    refine lv_if_eq (tgt := 72) hx hb dX12_readText_58 (by decide) (fun c6 => ?_) (fun c6 => ?_)
    · have h := oif_pos c6 h
      refine lv_aload_n hx hb dX12_readText_72 rfl (lv_at hl 0 rfl) ?_
      refine m_get E G 5 (v := .int (S2.1 5)) (by decide) (.tail _ qM_38) rfl dX12_readText_73 rfl ?_
      refine lv_topi (fun v7 ev7 => ?_)
      have h := elet_at ev7 h
      clear ev7
      refine lv_if_ne (tgt := 92) hx hb dX12_readText_76 (by decide) (fun c8 => ?_) (fun c8 => ?_)
      · have h := oif_neg c8 h
        have hl := lv_sub hl [0] rfl
        exact tr_readText_b92 E hA hR hml hA0 hT kr116 _ _ _ _ h G hl
      · have h := oif_pos c8 h
        refine lv_aload_n hx hb dX12_readText_79 rfl (lv_at hl 0 rfl) ?_
        refine m_get E G 7 (v := .int (S2.1 7)) (by decide) (.tail _ qM_47) rfl dX12_readText_80 rfl ?_
        refine lv_topi (fun v9 ev9 => ?_)
        have h := elet_at ev9 h
        clear ev9
        refine lv_iconst (v := 1) hx hb dX12_readText_83 (by decide) ?_
        refine lv_icmp_eq (tgt := 92) hx hb dX12_readText_84 (by decide) (fun c10 => ?_) (fun c10 => ?_)
        · have h := oif_pos c10 h
          have hl := lv_sub hl [0] rfl
          exact tr_readText_b92 E hA hR hml hA0 hT kr116 _ _ _ _ h G hl
        · have h := oif_neg c10 h
          refine lv_aload_n hx hb dX12_readText_87 rfl (lv_at hl 0 rfl) ?_
          refine lv_iconst (v := 1) hx hb dX12_readText_88 (by decide) ?_
          obtain ⟨S11, eS11, h⟩ := obind_some h
          refine m_callv (As := [.int 1]) (rest := []) E G hA hR hml (tr_faults l D cI cJ cZ ad S2 1 eS11) (cwV 1 hts (gmV qM_118 qM_119 qM_120 qM_35 qM_42) rfl rfl rfl (by decide +kernel) ⟨Nat.le_of_ble_eq_true rfl, Nat.le_of_ble_eq_true rfl⟩) rfl hl.1 rfl (lv_room (Nat.le_of_ble_eq_true rfl)) dX12_readText_89 ⟨Nat.zero_le _, Nat.zero_le _⟩ (fun S13 H locs hq G => ?_)
          rw [hq] at G
          clear hq eS11
          have hl := lv_sub hl [0] rfl
          exact tr_readText_b92 E hA hR hml hA0 hT kr116 _ _ _ _ h G hl
    · have h := oif_neg c6 h
      refine lv_aload_n hx hb dX12_readText_61 rfl (lv_at hl 0 rfl) ?_
      obtain ⟨S14, eS14, h⟩ := obind_some h
      refine m_callv (As := []) (rest := []) E G hA hR hml (tr_nextToken l D cI cJ cZ ad S2 eS14) (cwV 0 hts (gmV qM_111 qM_112 qM_113 qM_35 qM_45) rfl rfl rfl (by decide +kernel) ⟨Nat.le_of_ble_eq_true rfl, Nat.le_of_ble_eq_true rfl⟩) rfl hl.1 rfl (lv_room (Nat.le_of_ble_eq_true rfl)) dX12_readText_62 ⟨Nat.zero_le _, Nat.zero_le _⟩ (fun S16 H locs hq G => ?_)
      rw [hq] at G
      clear hq eS14
      refine lv_aload_n hx hb dX12_readText_65 rfl (lv_at hl 0 rfl) ?_
      obtain ⟨S17, eS17, h⟩ := obind_some h
      refine m_callvX (As := []) (rest := []) E G hA hR hml (tr_readLine l D cI cJ cZ ad S14 h0 eS17) (cwV 0 hts (gmV qM_189 qM_190 qM_191 qM_35 qM_154) rfl rfl rfl (by decide +kernel) ⟨Nat.le_of_ble_eq_true rfl, Nat.le_of_ble_eq_true rfl⟩) rfl hl.1 rfl (lv_room (Nat.le_of_ble_eq_true rfl)) dX12_readText_66 ⟨Nat.zero_le _, Nat.zero_le _⟩ (xT0.blind) (xT0.go hT hA0 hA G) (fun S19 H locs hq G => ?_)
      rw [hq] at G
      clear hq eS17
      refine lv_goto (tgt := 52) hx hb dX12_readText_69 (by decide) ?_
      have hl := lv_sub hl [0] rfl
      exact ih _ _ _ _ h G hl
def fr_readText_b24  : Nat → MS → Int32 → Option (MS)
  | 0, _, _ => none
  | n + 1, S, l1 => if 2455 ≤ l1 then (obind (fr_nextToken S) fun S3 => obind (fr_readFirst S3) fun S6 => fr_readText_b52 16384 S6) else (oif (inb l1 2455 = true) <| elet (mf S 13 (upd (S.2.1 13) l1.toNatClampNeg 0)) fun S10 => elet (l1 + Int32.ofInt (1)) fun v11 => fr_readText_b24 n S10 v11)
set_option maxHeartbeats 4000000 in
set_option maxRecDepth 100000 in
theorem tr_readText_b24 {p : Program} {l : Launch} {e : Env} {s : State} {m : MethodId} {args : Array Value} {below : List Frame} {meth : Method} {c : Code} {Q : State → Prop} {D : va_G} {A : Nat → Prop} {cI cJ cZ : ClassId} {ad : Nat → Nat} {S1 : MS} (E : mE p c cX12_readText s m args (Cond.code yX12_readText cX12_readText 2 none :: wsM) D cI cJ cZ) (hA : ∀ q : Nat, s.heap.size ≤ q → A q) (hR : sR s) (hml : c.maxLocals = 2) {h0 : Nat} (hA0 : ∀ a : Nat, A a → h0 ≤ a) (hT : sAll h0 s) (kr116 : ∀ (H : Heap) (locs : List Loc) (ls : Array Slot), mG D cI cJ cZ ad A s.heap H locs S1 → W p l e { frames := 10, cells := 0, slots := 0, locals := 195 } s m args below meth c H locs 0 0 Q (F0 m 116 ls [])) : ∀ n : Nat, ∀ (S : MS) (H : Heap) (locs : List Loc) (ls : Array Slot) (l1 : Int32), fr_readText_b24 n S l1 = some S1 → mG D cI cJ cZ ad A s.heap H locs S → lv_has ls 2 [(0, .ref (ad 0)), (1, .int l1)] → W p l e { frames := 10, cells := 0, slots := 0, locals := 195 } s m args below meth c H locs 0 0 Q (F0 m 24 ls []) := by
  have hx := E.1
  have hb := E.2.1
  have hts := E.2.2.1
  have hown := E.2.2.2.1
  have hK := E.2.2.2.2.1
  intro n
  induction n with
  | zero =>
    intro S H locs ls l1 h
    have h : (none : Option (MS)) = some S1 := h
    cases h
  | succ n ih =>
    intro S H locs ls l1 h G hl
    unfold fr_readText_b24 at h
    refine lv_iload_n hx hb dX12_readText_24 rfl (lv_at hl 1 rfl) ?_
    refine lv_sipush (v := 2455) hx hb dX12_readText_25 (by decide) ?_
    refine lv_icmp_ge (tgt := 44) hx hb dX12_readText_28 (by decide) (fun c2 => ?_) (fun c2 => ?_)
    · have h := oif_pos c2 h
      refine lv_aload_n hx hb dX12_readText_44 rfl (lv_at hl 0 rfl) ?_
      obtain ⟨S3, eS3, h⟩ := obind_some h
      refine m_callv (As := []) (rest := []) E G hA hR hml (tr_nextToken l D cI cJ cZ ad S eS3) (cwV 0 hts (gmV qM_111 qM_112 qM_113 qM_35 qM_45) rfl rfl rfl (by decide +kernel) ⟨Nat.le_of_ble_eq_true rfl, Nat.le_of_ble_eq_true rfl⟩) rfl hl.1 rfl (lv_room (Nat.le_of_ble_eq_true rfl)) dX12_readText_45 ⟨Nat.zero_le _, Nat.zero_le _⟩ (fun S5 H locs hq G => ?_)
      rw [hq] at G
      clear hq eS3
      refine lv_aload_n hx hb dX12_readText_48 rfl (lv_at hl 0 rfl) ?_
      obtain ⟨S6, eS6, h⟩ := obind_some h
      refine m_callvX (As := []) (rest := []) E G hA hR hml (tr_readFirst l D cI cJ cZ ad S3 h0 eS6) (cwV 0 hts (gmV qM_186 qM_187 qM_188 qM_35 qM_137) rfl rfl rfl (by decide +kernel) ⟨Nat.le_of_ble_eq_true rfl, Nat.le_of_ble_eq_true rfl⟩) rfl hl.1 rfl (lv_room (Nat.le_of_ble_eq_true rfl)) dX12_readText_49 ⟨Nat.zero_le _, Nat.zero_le _⟩ (xT0.blind) (xT0.go hT hA0 hA G) (fun S8 H locs hq G => ?_)
      rw [hq] at G
      clear hq eS6
      have hl := lv_sub hl [0] rfl
      exact tr_readText_b52 E hA hR hml hA0 hT kr116 _ _ _ _ _ h G hl
    · have h := oif_neg c2 h
      refine lv_aload_n hx hb dX12_readText_31 rfl (lv_at hl 0 rfl) ?_
      refine m_get E G 13 (v := .ref (ad 13)) (by decide) (.tail _ qM_10) rfl dX12_readText_32 rfl ?_
      refine lv_iload_n hx hb dX12_readText_35 rfl (lv_at hl 1 rfl) ?_
      refine lv_iconst (v := 0) hx hb dX12_readText_36 (by decide) ?_
      obtain ⟨g9, h⟩ := oif_some h
      refine m_iast E G 13 5 (k := l1.toNatClampNeg) (v := 0) rfl (fun _ => rfl) (inb_k g9).1 (inb_k g9).2 (by decide) dX12_readText_37 (fun H locs G => ?_)
      obtain ⟨S10, eS10, h⟩ := elet_some h
      rw [← eS10] at G
      clear eS10
      obtain ⟨v11, ev11, h⟩ := elet_some h
      refine lv_iinc (v := v11) (lv' := [(1, .int v11), (0, .ref (ad 0))]) hx hb dX12_readText_38 hl (k := 1) rfl ev11.symm (by decide) rfl (fun ls hl => ?_)
      refine lv_goto (tgt := 24) hx hb dX12_readText_41 (by decide) ?_
      have hl := lv_sub hl [1, 0] rfl
      exact ih _ _ _ _ _ h G hl
def fr_readText_b2  : Nat → MS → Int32 → Option (MS)
  | 0, _, _ => none
  | n + 1, S, l1 => if 131 ≤ l1 then (fr_readText_b24 16384 S 0) else (oif (inb l1 131 = true) <| elet (mf S 11 (upd (S.2.1 11) l1.toNatClampNeg 0)) fun S4 => elet (l1 + Int32.ofInt (1)) fun v5 => fr_readText_b2 n S4 v5)
set_option maxHeartbeats 4000000 in
set_option maxRecDepth 100000 in
theorem tr_readText_b2 {p : Program} {l : Launch} {e : Env} {s : State} {m : MethodId} {args : Array Value} {below : List Frame} {meth : Method} {c : Code} {Q : State → Prop} {D : va_G} {A : Nat → Prop} {cI cJ cZ : ClassId} {ad : Nat → Nat} {S1 : MS} (E : mE p c cX12_readText s m args (Cond.code yX12_readText cX12_readText 2 none :: wsM) D cI cJ cZ) (hA : ∀ q : Nat, s.heap.size ≤ q → A q) (hR : sR s) (hml : c.maxLocals = 2) {h0 : Nat} (hA0 : ∀ a : Nat, A a → h0 ≤ a) (hT : sAll h0 s) (kr116 : ∀ (H : Heap) (locs : List Loc) (ls : Array Slot), mG D cI cJ cZ ad A s.heap H locs S1 → W p l e { frames := 10, cells := 0, slots := 0, locals := 195 } s m args below meth c H locs 0 0 Q (F0 m 116 ls [])) : ∀ n : Nat, ∀ (S : MS) (H : Heap) (locs : List Loc) (ls : Array Slot) (l1 : Int32), fr_readText_b2 n S l1 = some S1 → mG D cI cJ cZ ad A s.heap H locs S → lv_has ls 2 [(0, .ref (ad 0)), (1, .int l1)] → W p l e { frames := 10, cells := 0, slots := 0, locals := 195 } s m args below meth c H locs 0 0 Q (F0 m 2 ls []) := by
  have hx := E.1
  have hb := E.2.1
  have hts := E.2.2.1
  have hown := E.2.2.2.1
  have hK := E.2.2.2.2.1
  intro n
  induction n with
  | zero =>
    intro S H locs ls l1 h
    have h : (none : Option (MS)) = some S1 := h
    cases h
  | succ n ih =>
    intro S H locs ls l1 h G hl
    unfold fr_readText_b2 at h
    refine lv_iload_n hx hb dX12_readText_2 rfl (lv_at hl 1 rfl) ?_
    refine lv_sipush (v := 131) hx hb dX12_readText_3 (by decide) ?_
    refine lv_icmp_ge (tgt := 22) hx hb dX12_readText_6 (by decide) (fun c2 => ?_) (fun c2 => ?_)
    · have h := oif_pos c2 h
      refine lv_iconst (v := 0) hx hb dX12_readText_22 (by decide) ?_
      refine lv_istore_n (lv' := [(1, .int 0), (0, .ref (ad 0))]) hx hb dX12_readText_23 rfl hl (by decide) rfl (fun ls hl => ?_)
      have hl := lv_sub hl [1, 0] rfl
      exact tr_readText_b24 E hA hR hml hA0 hT kr116 _ _ _ _ _ _ h G hl
    · have h := oif_neg c2 h
      refine lv_aload_n hx hb dX12_readText_9 rfl (lv_at hl 0 rfl) ?_
      refine m_get E G 11 (v := .ref (ad 11)) (by decide) (.tail _ qM_8) rfl dX12_readText_10 rfl ?_
      refine lv_iload_n hx hb dX12_readText_13 rfl (lv_at hl 1 rfl) ?_
      refine lv_iconst (v := 0) hx hb dX12_readText_14 (by decide) ?_
      obtain ⟨g3, h⟩ := oif_some h
      refine m_iast E G 11 3 (k := l1.toNatClampNeg) (v := 0) rfl (fun _ => rfl) (inb_k g3).1 (inb_k g3).2 (by decide) dX12_readText_15 (fun H locs G => ?_)
      obtain ⟨S4, eS4, h⟩ := elet_some h
      rw [← eS4] at G
      clear eS4
      obtain ⟨v5, ev5, h⟩ := elet_some h
      refine lv_iinc (v := v5) (lv' := [(1, .int v5), (0, .ref (ad 0))]) hx hb dX12_readText_16 hl (k := 1) rfl ev5.symm (by decide) rfl (fun ls hl => ?_)
      refine lv_goto (tgt := 2) hx hb dX12_readText_19 (by decide) ?_
      have hl := lv_sub hl [1, 0] rfl
      exact ih _ _ _ _ _ h G hl
def fr_readText (S : MS)  : Option (MS) := fr_readText_b2 16384 S 0
set_option maxHeartbeats 4000000 in
set_option maxRecDepth 100000 in
theorem tr_readText (l : Launch) (D : va_G) (cI cJ cZ : ClassId) (ad : Nat → Nat) (S : MS) (h0 : Nat)  {S1 : MS} (h : fr_readText S = some S1) : mCvX l yX12_readText (Cond.code yX12_readText cX12_readText 2 none :: wsM) 10 195 D cI cJ cZ ad S [] (xT0 cI cJ cZ h0 ad S) (fun S9 => S9 = S1) := by
  intro sz
  refine Met.ofW (cc := cX12_readText) (maxL := 2) (ret := none) (by decide) rfl ?_
  intro p e s m args below meth c s₁ B hml hv
  obtain ⟨rfl, ⟨hsz, hP, hK, hD0, hR⟩, hA1, hT⟩ := hv
  have hx := B.exec
  have hb := B.bytes
  have hr := B.returns
  have hts := atoms_spec (ws := (Cond.code yX12_readText cX12_readText 2 none :: wsM)) B.pre
  have hown : s.vm.findClass RX12 = some m.cls := findClass_of_methodNamed B.named
  have hlocks := B.notSynchronized
  subst hsz
  have hD := hD0.self (sz := s.heap.size)
  generalize hAe : va_A (MW cI cJ cZ ad S) s.heap.size = A at hD hA1 ⊢
  have hA : ∀ q : Nat, s.heap.size ≤ q → A q := fun q h => by rw [← hAe]; exact Or.inr h
  have G : mG D cI cJ cZ ad A s.heap s.heap [] S := ⟨hP, hD, va_S.rf⟩
  have E : mE p c cX12_readText s m ([.ref (ad 0)] : List Value).toArray (Cond.code yX12_readText cX12_readText 2 none :: wsM) D cI cJ cZ := ⟨hx, hb, hts, hown, hK, fun w h => .tail _ (iM_x h)⟩
  have hA0 : ∀ a : Nat, A a → h0 ≤ a := hA1
  have hl := lv_entry ([.ref (ad 0)]) (n := 2) (Nat.le_of_ble_eq_true rfl)
  rw [lg_entry_eq]
  generalize (lg_sl ([.ref (ad 0)]) ++ List.replicate (2 - (lg_sl ([.ref (ad 0)])).length) Slot.unset).toArray = ls at hl ⊢
  have hl : lv_has ls 2 [(0, .ref (ad 0))] := hl
  unfold fr_readText at h
  refine lv_iconst (v := 0) hx hb dX12_readText_0 (by decide) ?_
  refine lv_istore_n (lv' := [(1, .int 0), (0, .ref (ad 0))]) hx hb dX12_readText_1 rfl hl (by decide) rfl (fun ls hl => ?_)
  have hl := lv_sub hl [1, 0] rfl
  exact tr_readText_b2 E hA hR hml hA0 hT (fun H locs ls G => W.vret hx hb hr (fun t ht hW => ⟨⟨S1, rfl, rfl, ⟨by rw [ht]; exact G.1, va_K.moved hW.alike hK, G.2.1⟩⟩, G.2.2.F ht⟩) G.2.2.2.2 dX12_readText_116) _ _ _ _ _ _ h G hl
def fr_copy_13_12_b3  : Nat → MS → Int32 → Int32 → Int32 → Option (MS)
  | 0, _, _, _, _ => none
  | n + 1, S, l1, l3, l4 => if 2455 ≤ l4 then (some S) else (elet (l3 + l4) fun v3 => elet (l1 + l4) fun v4 => oif (inb v4 2455 = true) <| elet (S.2.1 13 v4.toNatClampNeg) fun v6 => oif (inb v3 2455 = true) <| elet (mf S 12 (upd (S.2.1 12) v3.toNatClampNeg v6)) fun S8 => elet (l4 + Int32.ofInt (1)) fun v9 => fr_copy_13_12_b3 n S8 l1 l3 v9)
set_option maxHeartbeats 4000000 in
set_option maxRecDepth 100000 in
theorem tr_copy_13_12_b3 {p : Program} {l : Launch} {e : Env} {s : State} {m : MethodId} {args : Array Value} {below : List Frame} {meth : Method} {c : Code} {Q : State → Prop} {D : va_G} {A : Nat → Prop} {H0 : Heap} {cI cJ cZ : ClassId} {ad : Nat → Nat} {S1 : MS} (E : mE p c cX12_copy s m args (Cond.code yX12_copy cX12_copy 5 none :: wsM) D cI cJ cZ) (hA : ∀ q : Nat, H0.size ≤ q → A q) (hR : sR s) (hml : c.maxLocals = 5) (kr29 : ∀ (H : Heap) (locs : List Loc) (ls : Array Slot), mG D cI cJ cZ ad A H0 H locs S1 → W p l e { frames := 1, cells := 0, slots := 0, locals := 0 } s m args below meth c H locs 0 0 Q (F0 m 29 ls [])) : ∀ n : Nat, ∀ (S : MS) (H : Heap) (locs : List Loc) (ls : Array Slot) (l1 : Int32) (l3 : Int32) (l4 : Int32), fr_copy_13_12_b3 n S l1 l3 l4 = some S1 → mG D cI cJ cZ ad A H0 H locs S → lv_has ls 5 [(0, .ref (ad 13)), (1, .int l1), (2, .ref (ad 12)), (3, .int l3), (4, .int l4)] → W p l e { frames := 1, cells := 0, slots := 0, locals := 0 } s m args below meth c H locs 0 0 Q (F0 m 3 ls []) := by
  have hx := E.1
  have hb := E.2.1
  have hts := E.2.2.1
  have hown := E.2.2.2.1
  have hK := E.2.2.2.2.1
  intro n
  induction n with
  | zero =>
    intro S H locs ls l1 l3 l4 h
    have h : (none : Option (MS)) = some S1 := h
    cases h
  | succ n ih =>
    intro S H locs ls l1 l3 l4 h G hl
    unfold fr_copy_13_12_b3 at h
    refine lv_iload hx hb dX12_copy_3 (lv_at hl 4 rfl) ?_
    refine lv_sipush (v := 2455) hx hb dX12_copy_5 (by decide) ?_
    refine lv_icmp_ge (tgt := 29) hx hb dX12_copy_8 (by decide) (fun c2 => ?_) (fun c2 => ?_)
    · have h := oif_pos c2 h
      rw [osome1 h] at G
      exact kr29 _ _ _ G
    · have h := oif_neg c2 h
      refine lv_aload_n hx hb dX12_copy_11 rfl (lv_at hl 2 rfl) ?_
      refine lv_iload_n hx hb dX12_copy_12 rfl (lv_at hl 3 rfl) ?_
      refine lv_iload hx hb dX12_copy_13 (lv_at hl 4 rfl) ?_
      refine lv_iadd hx hb dX12_copy_15 ?_
      refine lv_topi (fun v3 ev3 => ?_)
      have h := elet_at ev3 h
      clear ev3
      refine lv_aload_n hx hb dX12_copy_16 rfl (lv_at hl 0 rfl) ?_
      refine lv_iload_n hx hb dX12_copy_17 rfl (lv_at hl 1 rfl) ?_
      refine lv_iload hx hb dX12_copy_18 (lv_at hl 4 rfl) ?_
      refine lv_iadd hx hb dX12_copy_20 ?_
      refine lv_topi (fun v4 ev4 => ?_)
      have h := elet_at ev4 h
      clear ev4
      obtain ⟨g5, h⟩ := oif_some h
      refine m_iald E G 13 5 (n := 2455) (k := v4.toNatClampNeg) rfl (inb_k g5).1 (inb_k g5).2 (by decide) dX12_copy_21 ?_
      refine lv_topi (fun v6 ev6 => ?_)
      have h := elet_at ev6 h
      clear ev6
      obtain ⟨g7, h⟩ := oif_some h
      refine m_iast E G 12 4 (k := v3.toNatClampNeg) (v := v6) rfl (fun _ => rfl) (inb_k g7).1 (inb_k g7).2 (by decide) dX12_copy_22 (fun H locs G => ?_)
      obtain ⟨S8, eS8, h⟩ := elet_some h
      rw [← eS8] at G
      clear eS8
      obtain ⟨v9, ev9, h⟩ := elet_some h
      refine lv_iinc (v := v9) (lv' := [(4, .int v9), (0, .ref (ad 13)), (1, .int l1), (2, .ref (ad 12)), (3, .int l3)]) hx hb dX12_copy_23 hl (k := 4) rfl ev9.symm (by decide) rfl (fun ls hl => ?_)
      refine lv_goto (tgt := 3) hx hb dX12_copy_26 (by decide) ?_
      have hl := lv_sub hl [1, 2, 3, 4, 0] rfl
      exact ih _ _ _ _ _ _ _ h G hl
def fr_copy_13_12 (S : MS) (a1 : Int32) (a3 : Int32) : Option (MS) := fr_copy_13_12_b3 16384 S a1 a3 0
set_option maxHeartbeats 4000000 in
set_option maxRecDepth 100000 in
theorem tr_copy_13_12 (l : Launch) (D : va_G) (cI cJ cZ : ClassId) (ad : Nat → Nat) (S : MS) (a1 : Int32) (a3 : Int32) {S1 : MS} (h : fr_copy_13_12 S a1 a3 = some S1) : mCs l yX12_copy (Cond.code yX12_copy cX12_copy 5 none :: wsM) 1 0 D cI cJ cZ ad S [.ref (ad 13), .int a1, .ref (ad 12), .int a3] (fun S9 => S9 = S1) := by
  intro sz
  refine Met.ofW (cc := cX12_copy) (maxL := 5) (ret := none) (by decide) rfl ?_
  intro p e s m args below meth c s₁ B hml hv
  obtain ⟨rfl, hsz, hP, hK, hD0, hR⟩ := hv
  have hx := B.exec
  have hb := B.bytes
  have hr := B.returns
  have hts := atoms_spec (ws := (Cond.code yX12_copy cX12_copy 5 none :: wsM)) B.pre
  have hown : s.vm.findClass RX12 = some m.cls := findClass_of_methodNamed B.named
  have hlocks := B.notSynchronized
  subst hsz
  have hD := hD0.self (sz := s.heap.size)
  generalize hAe : va_A (MW cI cJ cZ ad S) s.heap.size = A at hD ⊢
  have hA : ∀ q : Nat, s.heap.size ≤ q → A q := fun q h => by rw [← hAe]; exact Or.inr h
  have G : mG D cI cJ cZ ad A s.heap s.heap [] S := ⟨hP, hD, va_S.rf⟩
  have E : mE p c cX12_copy s m ([.ref (ad 13), .int a1, .ref (ad 12), .int a3] : List Value).toArray (Cond.code yX12_copy cX12_copy 5 none :: wsM) D cI cJ cZ := ⟨hx, hb, hts, hown, hK, fun w h => .tail _ (iM_x h)⟩
  have hl := lv_entry ([.ref (ad 13), .int a1, .ref (ad 12), .int a3]) (n := 5) (Nat.le_of_ble_eq_true rfl)
  rw [lg_entry_eq]
  generalize (lg_sl ([.ref (ad 13), .int a1, .ref (ad 12), .int a3]) ++ List.replicate (5 - (lg_sl ([.ref (ad 13), .int a1, .ref (ad 12), .int a3])).length) Slot.unset).toArray = ls at hl ⊢
  have hl : lv_has ls 5 [(0, .ref (ad 13)), (1, .int a1), (2, .ref (ad 12)), (3, .int a3)] := hl
  unfold fr_copy_13_12 at h
  refine lv_iconst (v := 0) hx hb dX12_copy_0 (by decide) ?_
  refine lv_istore (lv' := [(4, .int 0), (0, .ref (ad 13)), (1, .int a1), (2, .ref (ad 12)), (3, .int a3)]) hx hb dX12_copy_1 hl (by decide) rfl (fun ls hl => ?_)
  have hl := lv_sub hl [1, 2, 3, 4, 0] rfl
  exact tr_copy_13_12_b3 E hA hR hml (fun H locs ls G => W.vret hx hb hr (fun t ht hW => ⟨⟨S1, rfl, rfl, ⟨by rw [ht]; exact G.1, va_K.moved hW.alike hK, G.2.1⟩⟩, G.2.2.F ht⟩) G.2.2.2.2 dX12_copy_29) _ _ _ _ _ _ _ _ h G hl
def fr_cellCount (S : MS)  : Option (Int32 × MS) := elet (S.2.1 10 9) fun v2 => elet (S.2.1 10 10) fun v3 => elet (v2 * v3) fun v4 => some (v4, S)
set_option maxHeartbeats 4000000 in
set_option maxRecDepth 100000 in
theorem tr_cellCount (l : Launch) (D : va_G) (cI cJ cZ : ClassId) (ad : Nat → Nat) (S : MS)  {r1 : Int32} {S1 : MS} (h : fr_cellCount S = some (r1, S1)) : mCi l yX12_cellCount (Cond.code yX12_cellCount cX12_cellCount 1 (some .int) :: wsM) 1 0 D cI cJ cZ ad S [] (fun r S9 => r = r1 ∧ S9 = S1) := by
  intro sz
  refine Met.ofW (cc := cX12_cellCount) (maxL := 1) (ret := (some .int)) (by decide) rfl ?_
  intro p e s m args below meth c s₁ B hml hv
  obtain ⟨rfl, hsz, hP, hK, hD0, hR⟩ := hv
  have hx := B.exec
  have hb := B.bytes
  have hr := B.returns
  have hts := atoms_spec (ws := (Cond.code yX12_cellCount cX12_cellCount 1 (some .int) :: wsM)) B.pre
  have hown : s.vm.findClass RX12 = some m.cls := findClass_of_methodNamed B.named
  have hlocks := B.notSynchronized
  subst hsz
  have hD := hD0.self (sz := s.heap.size)
  generalize hAe : va_A (MW cI cJ cZ ad S) s.heap.size = A at hD ⊢
  have hA : ∀ q : Nat, s.heap.size ≤ q → A q := fun q h => by rw [← hAe]; exact Or.inr h
  have G : mG D cI cJ cZ ad A s.heap s.heap [] S := ⟨hP, hD, va_S.rf⟩
  have E : mE p c cX12_cellCount s m ([.ref (ad 0)] : List Value).toArray (Cond.code yX12_cellCount cX12_cellCount 1 (some .int) :: wsM) D cI cJ cZ := ⟨hx, hb, hts, hown, hK, fun w h => .tail _ (iM_x h)⟩
  have hl := lv_entry ([.ref (ad 0)]) (n := 1) (Nat.le_of_ble_eq_true rfl)
  rw [lg_entry_eq]
  generalize (lg_sl ([.ref (ad 0)]) ++ List.replicate (1 - (lg_sl ([.ref (ad 0)])).length) Slot.unset).toArray = ls at hl ⊢
  have hl : lv_has ls 1 [(0, .ref (ad 0))] := hl
  unfold fr_cellCount at h
  refine lv_aload_n hx hb dX12_cellCount_0 rfl (lv_at hl 0 rfl) ?_
  refine m_get E G 10 (v := .ref (ad 10)) (by decide) (.tail _ qM_7) rfl dX12_cellCount_1 rfl ?_
  refine lv_bipush (v := 9) hx hb dX12_cellCount_4 (by decide) ?_
  refine m_iald E G 10 2 (n := 131) (k := 9) rfl rfl (by decide) (by decide) dX12_cellCount_6 ?_
  refine lv_topi (fun v2 ev2 => ?_)
  have h := elet_at ev2 h
  clear ev2
  refine lv_aload_n hx hb dX12_cellCount_7 rfl (lv_at hl 0 rfl) ?_
  refine m_get E G 10 (v := .ref (ad 10)) (by decide) (.tail _ qM_7) rfl dX12_cellCount_8 rfl ?_
  refine lv_bipush (v := 10) hx hb dX12_cellCount_11 (by decide) ?_
  refine m_iald E G 10 2 (n := 131) (k := 10) rfl rfl (by decide) (by decide) dX12_cellCount_13 ?_
  refine lv_topi (fun v3 ev3 => ?_)
  have h := elet_at ev3 h
  clear ev3
  refine lv_imul hx hb dX12_cellCount_14 ?_
  refine lv_topi (fun v4 ev4 => ?_)
  have h := elet_at ev4 h
  clear ev4
  exact W.iret (v := v4) hx hb hr (fun t ht hW => ⟨⟨v4, S, rfl, osome2 h, ⟨by rw [ht]; exact G.1, va_K.moved hW.alike hK, G.2.1⟩⟩, G.2.2.F ht⟩) G.2.2.2.2 dX12_cellCount_15
def fr_centre_b57  (S : MS) (s0 : Int32) : Option (Int32 × MS) := some (s0, S)
set_option maxHeartbeats 4000000 in
set_option maxRecDepth 100000 in
theorem tr_centre_b57 {p : Program} {l : Launch} {e : Env} {s : State} {m : MethodId} {args : Array Value} {below : List Frame} {meth : Method} {c : Code} {Q : State → Prop} {D : va_G} {A : Nat → Prop} {H0 : Heap} {cI cJ cZ : ClassId} {ad : Nat → Nat} {r1 : Int32} {S1 : MS} (E : mE p c cX12_centre s m args (Cond.code yX12_centre cX12_centre 3 (some .int) :: wsM) D cI cJ cZ) (hA : ∀ q : Nat, H0.size ≤ q → A q) (hR : sR s) (hml : c.maxLocals = 3) (kr57 : ∀ (H : Heap) (locs : List Loc) (ls : Array Slot), mG D cI cJ cZ ad A H0 H locs S1 → W p l e { frames := 1, cells := 0, slots := 0, locals := 0 } s m args below meth c H locs 0 0 Q (F0 m 57 ls [.int r1])) : ∀ (S : MS) (H : Heap) (locs : List Loc) (ls : Array Slot) (s0 : Int32), fr_centre_b57 S s0 = some (r1, S1) → mG D cI cJ cZ ad A H0 H locs S → lv_has ls 3 [] → W p l e { frames := 1, cells := 0, slots := 0, locals := 0 } s m args below meth c H locs 0 0 Q (F0 m 57 ls [.int s0]) := by
  have hx := E.1
  have hb := E.2.1
  have hts := E.2.2.1
  have hown := E.2.2.2.1
  have hK := E.2.2.2.2.1
  intro S H locs ls s0 h G hl
  unfold fr_centre_b57 at h
  rw [(osome2 h).2] at G
  refine lv_to (osome2 h).1 ?_
  exact kr57 _ _ _ G
def fr_centre (S : MS) (a0 : Int32) (a1 : Int32) : Option (Int32 × MS) := if a1 = 0 then (elet (S.2.1 10 6) fun v3 => elet (S.2.1 10 8) fun v4 => elet (S.2.1 10 9) fun v5 => oif (¬ v5 = 0) <| elet (a0 - a0 / v5 * v5) fun v7 => elet (v4 * v7) fun v8 => elet (v3 + v8) fun v9 => fr_centre_b57 S v9) else (elet (S.2.1 10 7) fun v10 => elet (S.2.1 10 8) fun v11 => elet (S.2.1 10 9) fun v12 => oif (¬ v12 = 0) <| elet (a0 / v12) fun v14 => elet (v11 * v14) fun v15 => elet (v10 + v15) fun v16 => fr_centre_b57 S v16)
set_option maxHeartbeats 4000000 in
set_option maxRecDepth 100000 in
theorem tr_centre (l : Launch) (D : va_G) (cI cJ cZ : ClassId) (ad : Nat → Nat) (S : MS) (a0 : Int32) (a1 : Int32) {r1 : Int32} {S1 : MS} (h : fr_centre S a0 a1 = some (r1, S1)) : mCi l yX12_centre (Cond.code yX12_centre cX12_centre 3 (some .int) :: wsM) 1 0 D cI cJ cZ ad S [.int a0, .int a1] (fun r S9 => r = r1 ∧ S9 = S1) := by
  intro sz
  refine Met.ofW (cc := cX12_centre) (maxL := 3) (ret := (some .int)) (by decide) rfl ?_
  intro p e s m args below meth c s₁ B hml hv
  obtain ⟨rfl, hsz, hP, hK, hD0, hR⟩ := hv
  have hx := B.exec
  have hb := B.bytes
  have hr := B.returns
  have hts := atoms_spec (ws := (Cond.code yX12_centre cX12_centre 3 (some .int) :: wsM)) B.pre
  have hown : s.vm.findClass RX12 = some m.cls := findClass_of_methodNamed B.named
  have hlocks := B.notSynchronized
  subst hsz
  have hD := hD0.self (sz := s.heap.size)
  generalize hAe : va_A (MW cI cJ cZ ad S) s.heap.size = A at hD ⊢
  have hA : ∀ q : Nat, s.heap.size ≤ q → A q := fun q h => by rw [← hAe]; exact Or.inr h
  have G : mG D cI cJ cZ ad A s.heap s.heap [] S := ⟨hP, hD, va_S.rf⟩
  have E : mE p c cX12_centre s m ([.ref (ad 0), .int a0, .int a1] : List Value).toArray (Cond.code yX12_centre cX12_centre 3 (some .int) :: wsM) D cI cJ cZ := ⟨hx, hb, hts, hown, hK, fun w h => .tail _ (iM_x h)⟩
  have hl := lv_entry ([.ref (ad 0), .int a0, .int a1]) (n := 3) (Nat.le_of_ble_eq_true rfl)
  rw [lg_entry_eq]
  generalize (lg_sl ([.ref (ad 0), .int a0, .int a1]) ++ List.replicate (3 - (lg_sl ([.ref (ad 0), .int a0, .int a1])).length) Slot.unset).toArray = ls at hl ⊢
  have hl : lv_has ls 3 [(0, .ref (ad 0)), (1, .int a0), (2, .int a1)] := hl
  unfold fr_centre at h
  refine lv_iload_n hx hb dX12_centre_0 rfl (lv_at hl 2 rfl) ?_
  refine lv_if_ne (tgt := 32) hx hb dX12_centre_1 (by decide) (fun c2 => ?_) (fun c2 => ?_)
  · have h := oif_neg c2 h
    refine lv_aload_n hx hb dX12_centre_32 rfl (lv_at hl 0 rfl) ?_
    refine m_get E G 10 (v := .ref (ad 10)) (by decide) (.tail _ qM_7) rfl dX12_centre_33 rfl ?_
    refine lv_bipush (v := 7) hx hb dX12_centre_36 (by decide) ?_
    refine m_iald E G 10 2 (n := 131) (k := 7) rfl rfl (by decide) (by decide) dX12_centre_38 ?_
    refine lv_topi (fun v10 ev10 => ?_)
    have h := elet_at ev10 h
    clear ev10
    refine lv_aload_n hx hb dX12_centre_39 rfl (lv_at hl 0 rfl) ?_
    refine m_get E G 10 (v := .ref (ad 10)) (by decide) (.tail _ qM_7) rfl dX12_centre_40 rfl ?_
    refine lv_bipush (v := 8) hx hb dX12_centre_43 (by decide) ?_
    refine m_iald E G 10 2 (n := 131) (k := 8) rfl rfl (by decide) (by decide) dX12_centre_45 ?_
    refine lv_topi (fun v11 ev11 => ?_)
    have h := elet_at ev11 h
    clear ev11
    refine lv_iload_n hx hb dX12_centre_46 rfl (lv_at hl 1 rfl) ?_
    refine lv_aload_n hx hb dX12_centre_47 rfl (lv_at hl 0 rfl) ?_
    refine m_get E G 10 (v := .ref (ad 10)) (by decide) (.tail _ qM_7) rfl dX12_centre_48 rfl ?_
    refine lv_bipush (v := 9) hx hb dX12_centre_51 (by decide) ?_
    refine m_iald E G 10 2 (n := 131) (k := 9) rfl rfl (by decide) (by decide) dX12_centre_53 ?_
    refine lv_topi (fun v12 ev12 => ?_)
    have h := elet_at ev12 h
    clear ev12
    obtain ⟨g13, h⟩ := oif_some h
    refine lv_idiv hx hb dX12_centre_54 g13 ?_
    refine lv_topi (fun v14 ev14 => ?_)
    have h := elet_at ev14 h
    clear ev14
    refine lv_imul hx hb dX12_centre_55 ?_
    refine lv_topi (fun v15 ev15 => ?_)
    have h := elet_at ev15 h
    clear ev15
    refine lv_iadd hx hb dX12_centre_56 ?_
    refine lv_topi (fun v16 ev16 => ?_)
    have h := elet_at ev16 h
    clear ev16
    have hl := lv_sub hl [] rfl
    exact tr_centre_b57 E hA hR hml (fun H locs ls G => W.iret (v := r1) hx hb hr (fun t ht hW => ⟨⟨r1, S1, rfl, ⟨rfl, rfl⟩, ⟨by rw [ht]; exact G.1, va_K.moved hW.alike hK, G.2.1⟩⟩, G.2.2.F ht⟩) G.2.2.2.2 dX12_centre_57) _ _ _ _ _ h G hl
  · have h := oif_pos c2 h
    refine lv_aload_n hx hb dX12_centre_4 rfl (lv_at hl 0 rfl) ?_
    refine m_get E G 10 (v := .ref (ad 10)) (by decide) (.tail _ qM_7) rfl dX12_centre_5 rfl ?_
    refine lv_bipush (v := 6) hx hb dX12_centre_8 (by decide) ?_
    refine m_iald E G 10 2 (n := 131) (k := 6) rfl rfl (by decide) (by decide) dX12_centre_10 ?_
    refine lv_topi (fun v3 ev3 => ?_)
    have h := elet_at ev3 h
    clear ev3
    refine lv_aload_n hx hb dX12_centre_11 rfl (lv_at hl 0 rfl) ?_
    refine m_get E G 10 (v := .ref (ad 10)) (by decide) (.tail _ qM_7) rfl dX12_centre_12 rfl ?_
    refine lv_bipush (v := 8) hx hb dX12_centre_15 (by decide) ?_
    refine m_iald E G 10 2 (n := 131) (k := 8) rfl rfl (by decide) (by decide) dX12_centre_17 ?_
    refine lv_topi (fun v4 ev4 => ?_)
    have h := elet_at ev4 h
    clear ev4
    refine lv_iload_n hx hb dX12_centre_18 rfl (lv_at hl 1 rfl) ?_
    refine lv_aload_n hx hb dX12_centre_19 rfl (lv_at hl 0 rfl) ?_
    refine m_get E G 10 (v := .ref (ad 10)) (by decide) (.tail _ qM_7) rfl dX12_centre_20 rfl ?_
    refine lv_bipush (v := 9) hx hb dX12_centre_23 (by decide) ?_
    refine m_iald E G 10 2 (n := 131) (k := 9) rfl rfl (by decide) (by decide) dX12_centre_25 ?_
    refine lv_topi (fun v5 ev5 => ?_)
    have h := elet_at ev5 h
    clear ev5
    obtain ⟨g6, h⟩ := oif_some h
    refine lv_irem hx hb dX12_centre_26 g6 ?_
    refine lv_topi (fun v7 ev7 => ?_)
    have h := elet_at ev7 h
    clear ev7
    refine lv_imul hx hb dX12_centre_27 ?_
    refine lv_topi (fun v8 ev8 => ?_)
    have h := elet_at ev8 h
    clear ev8
    refine lv_iadd hx hb dX12_centre_28 ?_
    refine lv_topi (fun v9 ev9 => ?_)
    have h := elet_at ev9 h
    clear ev9
    refine lv_goto (tgt := 57) hx hb dX12_centre_29 (by decide) ?_
    have hl := lv_sub hl [] rfl
    exact tr_centre_b57 E hA hR hml (fun H locs ls G => W.iret (v := r1) hx hb hr (fun t ht hW => ⟨⟨r1, S1, rfl, ⟨rfl, rfl⟩, ⟨by rw [ht]; exact G.1, va_K.moved hW.alike hK, G.2.1⟩⟩, G.2.2.F ht⟩) G.2.2.2.2 dX12_centre_57) _ _ _ _ _ h G hl
def fr_root_b28 (k6 : Int32 → Int32 → Int32 → Option (Int32))  (l0 : Int32) (l1 : Int32) (l2 : Int32) : Option (Int32) := elet (l2 / 2) fun v2 => k6 l0 l1 v2
set_option maxHeartbeats 4000000 in
set_option maxRecDepth 100000 in
theorem tr_root_b28 {p : Program} {l : Launch} {e : Env} {s : State} {m : MethodId} {args : Array Value} {below : List Frame} {meth : Method} {c : Code} {Q : State → Prop} {r1 : Int32} (E : p.tables.exec = Jvm.exec ∧ c.code = cX12_root ∧ (∀ w ∈ (Cond.code yX12_root cX12_root 5 (some .int) :: wsM), w.before args s = true) ∧ s.vm.findClass RX12 = some m.cls) (hml : c.maxLocals = 5) (kr36 : ∀ (ls : Array Slot), W p l e { frames := 1, cells := 0, slots := 0, locals := 0 } s m args below meth c s.heap [] 0 0 Q (F0 m 36 ls [.int r1])) {k6 : Int32 → Int32 → Int32 → Option (Int32)} (hk6 : ∀ (ls : Array Slot) (l0 : Int32) (l1 : Int32) (l2 : Int32), k6 l0 l1 l2 = some r1 → lv_has ls 5 [(0, .int l0), (1, .int l1), (2, .int l2)] → W p l e { frames := 1, cells := 0, slots := 0, locals := 0 } s m args below meth c s.heap [] 0 0 Q (F0 m 6 ls [])) : ∀ (ls : Array Slot) (l0 : Int32) (l1 : Int32) (l2 : Int32), fr_root_b28 k6 l0 l1 l2 = some r1 → lv_has ls 5 [(0, .int l0), (1, .int l1), (2, .int l2)] → W p l e { frames := 1, cells := 0, slots := 0, locals := 0 } s m args below meth c s.heap [] 0 0 Q (F0 m 28 ls []) := by
  have hx := E.1
  have hb := E.2.1
  have hts := E.2.2.1
  have hown := E.2.2.2
  intro ls l0 l1 l2 h hl
  unfold fr_root_b28 at h
  refine lv_iload_n hx hb dX12_root_28 rfl (lv_at hl 2 rfl) ?_
  refine lv_iconst (v := 2) hx hb dX12_root_29 (by decide) ?_
  refine lv_idiv hx hb dX12_root_30 (by decide) ?_
  refine lv_topi (fun v2 ev2 => ?_)
  have h := elet_at ev2 h
  clear ev2
  refine lv_istore_n (lv' := [(2, .int v2), (0, .int l0), (1, .int l1)]) hx hb dX12_root_31 rfl hl (by decide) rfl (fun ls hl => ?_)
  refine lv_goto (tgt := 6) hx hb dX12_root_32 (by decide) ?_
  have hl := lv_sub hl [1, 2, 0] rfl
  exact hk6 _ _ _ _ h hl
def fr_root_b6  : Nat → Int32 → Int32 → Int32 → Option (Int32)
  | 0, _, _, _ => none
  | n + 1, l0, l1, l2 => if l2 ≤ 0 then (some l1) else (elet (l1 + l2) fun v3 => elet (v3.toInt64) fun v4 => elet (v4 * v4) fun v5 => elet (l0.toInt64) fun v6 => elet (lg_cmp v5 v6) fun v7 => if 0 < v7 then (fr_root_b28 (fr_root_b6 n) l0 l1 l2) else (elet (l1 + l2) fun v9 => fr_root_b28 (fr_root_b6 n) l0 v9 l2))
set_option maxHeartbeats 4000000 in
set_option maxRecDepth 100000 in
theorem tr_root_b6 {p : Program} {l : Launch} {e : Env} {s : State} {m : MethodId} {args : Array Value} {below : List Frame} {meth : Method} {c : Code} {Q : State → Prop} {r1 : Int32} (E : p.tables.exec = Jvm.exec ∧ c.code = cX12_root ∧ (∀ w ∈ (Cond.code yX12_root cX12_root 5 (some .int) :: wsM), w.before args s = true) ∧ s.vm.findClass RX12 = some m.cls) (hml : c.maxLocals = 5) (kr36 : ∀ (ls : Array Slot), W p l e { frames := 1, cells := 0, slots := 0, locals := 0 } s m args below meth c s.heap [] 0 0 Q (F0 m 36 ls [.int r1])) : ∀ n : Nat, ∀ (ls : Array Slot) (l0 : Int32) (l1 : Int32) (l2 : Int32), fr_root_b6 n l0 l1 l2 = some r1 → lv_has ls 5 [(0, .int l0), (1, .int l1), (2, .int l2)] → W p l e { frames := 1, cells := 0, slots := 0, locals := 0 } s m args below meth c s.heap [] 0 0 Q (F0 m 6 ls []) := by
  have hx := E.1
  have hb := E.2.1
  have hts := E.2.2.1
  have hown := E.2.2.2
  intro n
  induction n with
  | zero =>
    intro ls l0 l1 l2 h
    have h : (none : Option (Int32)) = some r1 := h
    cases h
  | succ n ih =>
    intro ls l0 l1 l2 h hl
    unfold fr_root_b6 at h
    refine lv_iload_n hx hb dX12_root_6 rfl (lv_at hl 2 rfl) ?_
    refine lv_if_le (tgt := 35) hx hb dX12_root_7 (by decide) (fun c2 => ?_) (fun c2 => ?_)
    · have h := oif_pos c2 h
      refine lv_iload_n hx hb dX12_root_35 rfl (lv_at hl 1 rfl) ?_
      refine lv_to (osome1 h) ?_
      exact kr36 _
    · have h := oif_neg c2 h
      refine lv_iload_n hx hb dX12_root_10 rfl (lv_at hl 1 rfl) ?_
      refine lv_iload_n hx hb dX12_root_11 rfl (lv_at hl 2 rfl) ?_
      refine lv_iadd hx hb dX12_root_12 ?_
      refine lv_topi (fun v3 ev3 => ?_)
      have h := elet_at ev3 h
      clear ev3
      refine lv_i2l (v := v3.toInt64) hx hb dX12_root_13 rfl ?_
      refine lv_topl (fun v4 ev4 => ?_)
      have h := elet_at ev4 h
      clear ev4
      refine lv_lstore_n (lv' := [(3, .long v4), (0, .int l0), (1, .int l1), (2, .int l2)]) hx hb dX12_root_14 rfl hl (by decide) rfl (fun ls hl => ?_)
      refine lv_lload_n hx hb dX12_root_15 rfl (lv_at hl 0 rfl) ?_
      refine lv_lload_n hx hb dX12_root_16 rfl (lv_at hl 0 rfl) ?_
      refine lv_lmul hx hb dX12_root_17 ?_
      refine lv_topl (fun v5 ev5 => ?_)
      have h := elet_at ev5 h
      clear ev5
      refine lv_iload_n hx hb dX12_root_18 rfl (lv_at hl 1 rfl) ?_
      refine lv_i2l (v := l0.toInt64) hx hb dX12_root_19 rfl ?_
      refine lv_topl (fun v6 ev6 => ?_)
      have h := elet_at ev6 h
      clear ev6
      refine W.lcmp hx hb dX12_root_20 ?_
      refine lv_topi (fun v7 ev7 => ?_)
      have h := elet_at ev7 h
      clear ev7
      refine lv_if_gt (tgt := 28) hx hb dX12_root_21 (by decide) (fun c8 => ?_) (fun c8 => ?_)
      · have h := oif_pos c8 h
        have hl := lv_sub hl [1, 2, 3] rfl
        exact tr_root_b28 E hml kr36 ih _ _ _ _ h hl
      · have h := oif_neg c8 h
        refine lv_iload_n hx hb dX12_root_24 rfl (lv_at hl 2 rfl) ?_
        refine lv_iload_n hx hb dX12_root_25 rfl (lv_at hl 3 rfl) ?_
        refine lv_iadd hx hb dX12_root_26 ?_
        refine lv_topi (fun v9 ev9 => ?_)
        have h := elet_at ev9 h
        clear ev9
        refine lv_istore_n (lv' := [(1, .int v9), (3, .long v4), (0, .int l0), (2, .int l2)]) hx hb dX12_root_27 rfl hl (by decide) rfl (fun ls hl => ?_)
        have hl := lv_sub hl [2, 0, 3] rfl
        exact tr_root_b28 E hml kr36 ih _ _ _ _ h hl
def fr_root  (a0 : Int32) : Option (Int32) := fr_root_b6 16384 a0 0 32768
set_option maxHeartbeats 4000000 in
set_option maxRecDepth 100000 in
theorem tr_root (l : Launch) (a0 : Int32) {r1 : Int32} (h : fr_root a0 = some r1) : Met l yX12_root (Cond.code yX12_root cX12_root 5 (some .int) :: wsM) { frames := 1, cells := 0, slots := 0, locals := 0 } (va_Pc [.int a0] (fun _ => True)) (vp_Si (fun r => r = r1)) 0 0 (fun _ => False) := by
  refine Met.ofW (cc := cX12_root) (maxL := 5) (ret := (some .int)) (by decide) rfl ?_
  intro p e s m args below meth c s₁ B hml hv
  obtain ⟨rfl, -⟩ := hv
  have hx := B.exec
  have hb := B.bytes
  have hr := B.returns
  have hts := atoms_spec (ws := (Cond.code yX12_root cX12_root 5 (some .int) :: wsM)) B.pre
  have hown : s.vm.findClass RX12 = some m.cls := findClass_of_methodNamed B.named
  have hlocks := B.notSynchronized
  have E : p.tables.exec = Jvm.exec ∧ c.code = cX12_root ∧ (∀ w ∈ (Cond.code yX12_root cX12_root 5 (some .int) :: wsM), w.before ([.int a0] : List Value).toArray s = true) ∧ s.vm.findClass RX12 = some m.cls := ⟨hx, hb, hts, hown⟩
  have hl := lv_entry ([.int a0]) (n := 5) (Nat.le_of_ble_eq_true rfl)
  rw [lg_entry_eq]
  generalize (lg_sl ([.int a0]) ++ List.replicate (5 - (lg_sl ([.int a0])).length) Slot.unset).toArray = ls at hl ⊢
  have hl : lv_has ls 5 [(0, .int a0)] := hl
  unfold fr_root at h
  refine lv_iconst (v := 0) hx hb dX12_root_0 (by decide) ?_
  refine lv_istore_n (lv' := [(1, .int 0), (0, .int a0)]) hx hb dX12_root_1 rfl hl (by decide) rfl (fun ls hl => ?_)
  refine lv_ldcw (v := 32768) hx hb hown (hts (.constant RX12 258 (32768)) (.tail _ qM_219)) dX12_root_2 ?_
  refine lv_istore_n (lv' := [(2, .int 32768), (1, .int 0), (0, .int a0)]) hx hb dX12_root_5 rfl hl (by decide) rfl (fun ls hl => ?_)
  have hl := lv_sub hl [2, 1, 0] rfl
  exact tr_root_b6 E hml (fun ls => W.iret (v := r1) hx hb hr (fun t ht hW => ⟨r1, rfl, rfl, ht⟩) (fun _ h => absurd h List.not_mem_nil) dX12_root_36) _ _ _ _ _ h hl
def fr_delayFrom (S : MS) (a0 : Int32) (a1 : Int32) (a2 : Int32) : Option (Int32 × MS) := elet (11 + a0) fun v2 => oif (inb v2 131 = true) <| elet (S.2.1 10 v2.toNatClampNeg) fun v4 => elet (a1 - v4) fun v5 => elet (23 + a0) fun v6 => oif (inb v6 131 = true) <| elet (S.2.1 10 v6.toNatClampNeg) fun v8 => elet (a2 - v8) fun v9 => elet (S.2.1 10 0) fun v10 => elet (v5 * v5) fun v11 => elet (v9 * v9) fun v12 => elet (v11 + v12) fun v13 => elet (v10 * v10) fun v14 => elet (v13 + v14) fun v15 => obind (fr_root v15) fun r16 => elet (S.2.1 10 1) fun v18 => oif (¬ v18 = 0) <| elet (r16 / v18) fun v20 => elet (S.2.1 10 1) fun v21 => oif (¬ v21 = 0) <| elet (v10 / v21) fun v23 => elet (v20 - v23) fun v24 => some (v24, S)
set_option maxHeartbeats 4000000 in
set_option maxRecDepth 100000 in
theorem tr_delayFrom (l : Launch) (D : va_G) (cI cJ cZ : ClassId) (ad : Nat → Nat) (S : MS) (a0 : Int32) (a1 : Int32) (a2 : Int32) {r1 : Int32} {S1 : MS} (h : fr_delayFrom S a0 a1 a2 = some (r1, S1)) : mCi l yX12_delayFrom (Cond.code yX12_delayFrom cX12_delayFrom 7 (some .int) :: wsM) 2 24 D cI cJ cZ ad S [.int a0, .int a1, .int a2] (fun r S9 => r = r1 ∧ S9 = S1) := by
  intro sz
  refine Met.ofW (cc := cX12_delayFrom) (maxL := 7) (ret := (some .int)) (by decide) rfl ?_
  intro p e s m args below meth c s₁ B hml hv
  obtain ⟨rfl, hsz, hP, hK, hD0, hR⟩ := hv
  have hx := B.exec
  have hb := B.bytes
  have hr := B.returns
  have hts := atoms_spec (ws := (Cond.code yX12_delayFrom cX12_delayFrom 7 (some .int) :: wsM)) B.pre
  have hown : s.vm.findClass RX12 = some m.cls := findClass_of_methodNamed B.named
  have hlocks := B.notSynchronized
  subst hsz
  have hD := hD0.self (sz := s.heap.size)
  generalize hAe : va_A (MW cI cJ cZ ad S) s.heap.size = A at hD ⊢
  have hA : ∀ q : Nat, s.heap.size ≤ q → A q := fun q h => by rw [← hAe]; exact Or.inr h
  have G : mG D cI cJ cZ ad A s.heap s.heap [] S := ⟨hP, hD, va_S.rf⟩
  have E : mE p c cX12_delayFrom s m ([.ref (ad 0), .int a0, .int a1, .int a2] : List Value).toArray (Cond.code yX12_delayFrom cX12_delayFrom 7 (some .int) :: wsM) D cI cJ cZ := ⟨hx, hb, hts, hown, hK, fun w h => .tail _ (iM_x h)⟩
  have hl := lv_entry ([.ref (ad 0), .int a0, .int a1, .int a2]) (n := 7) (Nat.le_of_ble_eq_true rfl)
  rw [lg_entry_eq]
  generalize (lg_sl ([.ref (ad 0), .int a0, .int a1, .int a2]) ++ List.replicate (7 - (lg_sl ([.ref (ad 0), .int a0, .int a1, .int a2])).length) Slot.unset).toArray = ls at hl ⊢
  have hl : lv_has ls 7 [(0, .ref (ad 0)), (1, .int a0), (2, .int a1), (3, .int a2)] := hl
  unfold fr_delayFrom at h
  refine lv_iload_n hx hb dX12_delayFrom_0 rfl (lv_at hl 2 rfl) ?_
  refine lv_aload_n hx hb dX12_delayFrom_1 rfl (lv_at hl 0 rfl) ?_
  refine m_get E G 10 (v := .ref (ad 10)) (by decide) (.tail _ qM_7) rfl dX12_delayFrom_2 rfl ?_
  refine lv_bipush (v := 11) hx hb dX12_delayFrom_5 (by decide) ?_
  refine lv_iload_n hx hb dX12_delayFrom_7 rfl (lv_at hl 1 rfl) ?_
  refine lv_iadd hx hb dX12_delayFrom_8 ?_
  refine lv_topi (fun v2 ev2 => ?_)
  have h := elet_at ev2 h
  clear ev2
  obtain ⟨g3, h⟩ := oif_some h
  refine m_iald E G 10 2 (n := 131) (k := v2.toNatClampNeg) rfl (inb_k g3).1 (inb_k g3).2 (by decide) dX12_delayFrom_9 ?_
  refine lv_topi (fun v4 ev4 => ?_)
  have h := elet_at ev4 h
  clear ev4
  refine lv_isub hx hb dX12_delayFrom_10 ?_
  refine lv_topi (fun v5 ev5 => ?_)
  have h := elet_at ev5 h
  clear ev5
  refine lv_istore (lv' := [(4, .int v5), (0, .ref (ad 0)), (1, .int a0), (2, .int a1), (3, .int a2)]) hx hb dX12_delayFrom_11 hl (by decide) rfl (fun ls hl => ?_)
  refine lv_iload_n hx hb dX12_delayFrom_13 rfl (lv_at hl 4 rfl) ?_
  refine lv_aload_n hx hb dX12_delayFrom_14 rfl (lv_at hl 1 rfl) ?_
  refine m_get E G 10 (v := .ref (ad 10)) (by decide) (.tail _ qM_7) rfl dX12_delayFrom_15 rfl ?_
  refine lv_bipush (v := 23) hx hb dX12_delayFrom_18 (by decide) ?_
  refine lv_iload_n hx hb dX12_delayFrom_20 rfl (lv_at hl 2 rfl) ?_
  refine lv_iadd hx hb dX12_delayFrom_21 ?_
  refine lv_topi (fun v6 ev6 => ?_)
  have h := elet_at ev6 h
  clear ev6
  obtain ⟨g7, h⟩ := oif_some h
  refine m_iald E G 10 2 (n := 131) (k := v6.toNatClampNeg) rfl (inb_k g7).1 (inb_k g7).2 (by decide) dX12_delayFrom_22 ?_
  refine lv_topi (fun v8 ev8 => ?_)
  have h := elet_at ev8 h
  clear ev8
  refine lv_isub hx hb dX12_delayFrom_23 ?_
  refine lv_topi (fun v9 ev9 => ?_)
  have h := elet_at ev9 h
  clear ev9
  refine lv_istore (lv' := [(5, .int v9), (4, .int v5), (0, .ref (ad 0)), (1, .int a0), (2, .int a1), (3, .int a2)]) hx hb dX12_delayFrom_24 hl (by decide) rfl (fun ls hl => ?_)
  refine lv_aload_n hx hb dX12_delayFrom_26 rfl (lv_at hl 2 rfl) ?_
  refine m_get E G 10 (v := .ref (ad 10)) (by decide) (.tail _ qM_7) rfl dX12_delayFrom_27 rfl ?_
  refine lv_iconst (v := 0) hx hb dX12_delayFrom_30 (by decide) ?_
  refine m_iald E G 10 2 (n := 131) (k := 0) rfl rfl (by decide) (by decide) dX12_delayFrom_31 ?_
  refine lv_topi (fun v10 ev10 => ?_)
  have h := elet_at ev10 h
  clear ev10
  refine lv_istore (lv' := [(6, .int v10), (5, .int v9), (4, .int v5), (0, .ref (ad 0)), (1, .int a0), (2, .int a1), (3, .int a2)]) hx hb dX12_delayFrom_32 hl (by decide) rfl (fun ls hl => ?_)
  refine lv_iload hx hb dX12_delayFrom_34 (lv_at hl 2 rfl) ?_
  refine lv_iload hx hb dX12_delayFrom_36 (lv_at hl 2 rfl) ?_
  refine lv_imul hx hb dX12_delayFrom_38 ?_
  refine lv_topi (fun v11 ev11 => ?_)
  have h := elet_at ev11 h
  clear ev11
  refine lv_iload hx hb dX12_delayFrom_39 (lv_at hl 1 rfl) ?_
  refine lv_iload hx hb dX12_delayFrom_41 (lv_at hl 1 rfl) ?_
  refine lv_imul hx hb dX12_delayFrom_43 ?_
  refine lv_topi (fun v12 ev12 => ?_)
  have h := elet_at ev12 h
  clear ev12
  refine lv_iadd hx hb dX12_delayFrom_44 ?_
  refine lv_topi (fun v13 ev13 => ?_)
  have h := elet_at ev13 h
  clear ev13
  refine lv_iload hx hb dX12_delayFrom_45 (lv_at hl 0 rfl) ?_
  refine lv_iload hx hb dX12_delayFrom_47 (lv_at hl 0 rfl) ?_
  refine lv_imul hx hb dX12_delayFrom_49 ?_
  refine lv_topi (fun v14 ev14 => ?_)
  have h := elet_at ev14 h
  clear ev14
  refine lv_iadd hx hb dX12_delayFrom_50 ?_
  refine lv_topi (fun v15 ev15 => ?_)
  have h := elet_at ev15 h
  clear ev15
  obtain ⟨r16, er16, h⟩ := obind_some h
  refine m_stat (As := [.int v15]) (rest := []) ⟨hx, hb, hml, hown, hts⟩ (tr_root l v15 er16) (cwS 1 hts (gmS qM_216 qM_217 qM_35 qM_218) rfl rfl rfl (by decide +kernel) ⟨Nat.le_of_ble_eq_true rfl, Nat.le_of_ble_eq_true rfl⟩) rfl hl.1 rfl (lv_room (Nat.le_of_ble_eq_true rfl)) dX12_delayFrom_51 ⟨Nat.zero_le _, Nat.zero_le _⟩ (fun q17 hq => ?_)
  refine lv_to hq ?_
  clear hq er16
  refine lv_aload_n hx hb dX12_delayFrom_54 rfl (lv_at hl 3 rfl) ?_
  refine m_get E G 10 (v := .ref (ad 10)) (by decide) (.tail _ qM_7) rfl dX12_delayFrom_55 rfl ?_
  refine lv_iconst (v := 1) hx hb dX12_delayFrom_58 (by decide) ?_
  refine m_iald E G 10 2 (n := 131) (k := 1) rfl rfl (by decide) (by decide) dX12_delayFrom_59 ?_
  refine lv_topi (fun v18 ev18 => ?_)
  have h := elet_at ev18 h
  clear ev18
  obtain ⟨g19, h⟩ := oif_some h
  refine lv_idiv hx hb dX12_delayFrom_60 g19 ?_
  refine lv_topi (fun v20 ev20 => ?_)
  have h := elet_at ev20 h
  clear ev20
  refine lv_iload hx hb dX12_delayFrom_61 (lv_at hl 0 rfl) ?_
  refine lv_aload_n hx hb dX12_delayFrom_63 rfl (lv_at hl 3 rfl) ?_
  refine m_get E G 10 (v := .ref (ad 10)) (by decide) (.tail _ qM_7) rfl dX12_delayFrom_64 rfl ?_
  refine lv_iconst (v := 1) hx hb dX12_delayFrom_67 (by decide) ?_
  refine m_iald E G 10 2 (n := 131) (k := 1) rfl rfl (by decide) (by decide) dX12_delayFrom_68 ?_
  refine lv_topi (fun v21 ev21 => ?_)
  have h := elet_at ev21 h
  clear ev21
  obtain ⟨g22, h⟩ := oif_some h
  refine lv_idiv hx hb dX12_delayFrom_69 g22 ?_
  refine lv_topi (fun v23 ev23 => ?_)
  have h := elet_at ev23 h
  clear ev23
  refine lv_isub hx hb dX12_delayFrom_70 ?_
  refine lv_topi (fun v24 ev24 => ?_)
  have h := elet_at ev24 h
  clear ev24
  exact W.iret (v := v24) hx hb hr (fun t ht hW => ⟨⟨v24, S, rfl, osome2 h, ⟨by rw [ht]; exact G.1, va_K.moved hW.alike hK, G.2.1⟩⟩, G.2.2.F ht⟩) G.2.2.2.2 dX12_delayFrom_71
def fr_wave_b103  (S : MS) (s0 : Int32) : Option (Int32 × MS) := some (s0, S)
set_option maxHeartbeats 4000000 in
set_option maxRecDepth 100000 in
theorem tr_wave_b103 {p : Program} {l : Launch} {e : Env} {s : State} {m : MethodId} {args : Array Value} {below : List Frame} {meth : Method} {c : Code} {Q : State → Prop} {D : va_G} {A : Nat → Prop} {H0 : Heap} {cI cJ cZ : ClassId} {ad : Nat → Nat} {r1 : Int32} {S1 : MS} (E : mE p c cX12_wave s m args (Cond.code yX12_wave cX12_wave 6 (some .int) :: wsM) D cI cJ cZ) (hA : ∀ q : Nat, H0.size ≤ q → A q) (hR : sR s) (hml : c.maxLocals = 6) (kr35 : ∀ (H : Heap) (locs : List Loc) (ls : Array Slot), mG D cI cJ cZ ad A H0 H locs S1 → W p l e { frames := 1, cells := 0, slots := 0, locals := 19 } s m args below meth c H locs 0 0 Q (F0 m 35 ls [.int r1])) (kr103 : ∀ (H : Heap) (locs : List Loc) (ls : Array Slot), mG D cI cJ cZ ad A H0 H locs S1 → W p l e { frames := 1, cells := 0, slots := 0, locals := 19 } s m args below meth c H locs 0 0 Q (F0 m 103 ls [.int r1])) (kr124 : ∀ (H : Heap) (locs : List Loc) (ls : Array Slot), mG D cI cJ cZ ad A H0 H locs S1 → W p l e { frames := 1, cells := 0, slots := 0, locals := 19 } s m args below meth c H locs 0 0 Q (F0 m 124 ls [.int r1])) (kr135 : ∀ (H : Heap) (locs : List Loc) (ls : Array Slot), mG D cI cJ cZ ad A H0 H locs S1 → W p l e { frames := 1, cells := 0, slots := 0, locals := 19 } s m args below meth c H locs 0 0 Q (F0 m 135 ls [.int r1])) (kr170 : ∀ (H : Heap) (locs : List Loc) (ls : Array Slot), mG D cI cJ cZ ad A H0 H locs S1 → W p l e { frames := 1, cells := 0, slots := 0, locals := 19 } s m args below meth c H locs 0 0 Q (F0 m 170 ls [.int r1])) : ∀ (S : MS) (H : Heap) (locs : List Loc) (ls : Array Slot) (s0 : Int32), fr_wave_b103 S s0 = some (r1, S1) → mG D cI cJ cZ ad A H0 H locs S → lv_has ls 6 [] → W p l e { frames := 1, cells := 0, slots := 0, locals := 19 } s m args below meth c H locs 0 0 Q (F0 m 103 ls [.int s0]) := by
  have hx := E.1
  have hb := E.2.1
  have hts := E.2.2.1
  have hown := E.2.2.2.1
  have hK := E.2.2.2.2.1
  intro S H locs ls s0 h G hl
  unfold fr_wave_b103 at h
  rw [(osome2 h).2] at G
  refine lv_to (osome2 h).1 ?_
  exact kr103 _ _ _ G
def fr_wave_b135  (S : MS) (s0 : Int32) : Option (Int32 × MS) := some (s0, S)
set_option maxHeartbeats 4000000 in
set_option maxRecDepth 100000 in
theorem tr_wave_b135 {p : Program} {l : Launch} {e : Env} {s : State} {m : MethodId} {args : Array Value} {below : List Frame} {meth : Method} {c : Code} {Q : State → Prop} {D : va_G} {A : Nat → Prop} {H0 : Heap} {cI cJ cZ : ClassId} {ad : Nat → Nat} {r1 : Int32} {S1 : MS} (E : mE p c cX12_wave s m args (Cond.code yX12_wave cX12_wave 6 (some .int) :: wsM) D cI cJ cZ) (hA : ∀ q : Nat, H0.size ≤ q → A q) (hR : sR s) (hml : c.maxLocals = 6) (kr35 : ∀ (H : Heap) (locs : List Loc) (ls : Array Slot), mG D cI cJ cZ ad A H0 H locs S1 → W p l e { frames := 1, cells := 0, slots := 0, locals := 19 } s m args below meth c H locs 0 0 Q (F0 m 35 ls [.int r1])) (kr103 : ∀ (H : Heap) (locs : List Loc) (ls : Array Slot), mG D cI cJ cZ ad A H0 H locs S1 → W p l e { frames := 1, cells := 0, slots := 0, locals := 19 } s m args below meth c H locs 0 0 Q (F0 m 103 ls [.int r1])) (kr124 : ∀ (H : Heap) (locs : List Loc) (ls : Array Slot), mG D cI cJ cZ ad A H0 H locs S1 → W p l e { frames := 1, cells := 0, slots := 0, locals := 19 } s m args below meth c H locs 0 0 Q (F0 m 124 ls [.int r1])) (kr135 : ∀ (H : Heap) (locs : List Loc) (ls : Array Slot), mG D cI cJ cZ ad A H0 H locs S1 → W p l e { frames := 1, cells := 0, slots := 0, locals := 19 } s m args below meth c H locs 0 0 Q (F0 m 135 ls [.int r1])) (kr170 : ∀ (H : Heap) (locs : List Loc) (ls : Array Slot), mG D cI cJ cZ ad A H0 H locs S1 → W p l e { frames := 1, cells := 0, slots := 0, locals := 19 } s m args below meth c H locs 0 0 Q (F0 m 170 ls [.int r1])) : ∀ (S : MS) (H : Heap) (locs : List Loc) (ls : Array Slot) (s0 : Int32), fr_wave_b135 S s0 = some (r1, S1) → mG D cI cJ cZ ad A H0 H locs S → lv_has ls 6 [] → W p l e { frames := 1, cells := 0, slots := 0, locals := 19 } s m args below meth c H locs 0 0 Q (F0 m 135 ls [.int s0]) := by
  have hx := E.1
  have hb := E.2.1
  have hts := E.2.2.1
  have hown := E.2.2.2.1
  have hK := E.2.2.2.2.1
  intro S H locs ls s0 h G hl
  unfold fr_wave_b135 at h
  rw [(osome2 h).2] at G
  refine lv_to (osome2 h).1 ?_
  exact kr135 _ _ _ G
def fr_wave (S : MS) (a0 : Int32) (a1 : Int32) : Option (Int32 × MS) := elet (53 + a0) fun v2 => oif (inb v2 131 = true) <| elet (S.2.1 10 v2.toNatClampNeg) fun v4 => elet (59 + a0) fun v5 => oif (inb v5 131 = true) <| elet (S.2.1 10 v5.toNatClampNeg) fun v7 => elet (95 + a0) fun v8 => oif (inb v8 131 = true) <| elet (S.2.1 10 v8.toNatClampNeg) fun v10 => if v10 ≤ a1 then (elet (65 + a0) fun v12 => oif (inb v12 131 = true) <| elet (S.2.1 10 v12.toNatClampNeg) fun v14 => elet (a1 + v14) fun v15 => oif (¬ v7 = 0) <| elet (v15 - v15 / v7 * v7) fun v17 => elet (47 + a0) fun v18 => oif (inb v18 131 = true) <| elet (S.2.1 10 v18.toNatClampNeg) fun v20 => if v20 = 0 then (elet (v7 / 2) fun v22 => if v22 ≤ v17 then (elet (-v4) fun v24 => fr_wave_b103 S v24) else (fr_wave_b103 S v4)) else (if v20 = 1 then (elet (v7 / 2) fun v26 => elet (v17 - v26) fun v27 => elet (if 0 ≤ v27 then v27 else 0 - v27) fun v28 => elet (4 * v28) fun v29 => elet (v29 - v7) fun v30 => elet (v4 * v30) fun v31 => oif (¬ v7 = 0) <| elet (v31 / v7) fun v33 => some (v33, S)) else (if v20 = 2 then (if v17 = 0 then (fr_wave_b135 S v4) else (fr_wave_b135 S 0)) else (elet (31 * a1) fun v36 => elet (v36 * a1) fun v37 => elet (7919 * a1) fun v38 => elet (v37 + v38) fun v39 => elet (65 + a0) fun v40 => oif (inb v40 131 = true) <| elet (S.2.1 10 v40.toNatClampNeg) fun v42 => elet (104729 * v42) fun v43 => elet (v39 + v43) fun v44 => elet (2 * v4) fun v45 => elet (v45 + 1) fun v46 => oif (¬ v46 = 0) <| elet (v44 - v44 / v46 * v46) fun v48 => elet (v48 - v4) fun v49 => some (v49, S))))) else (some (0, S))
set_option maxHeartbeats 4000000 in
set_option maxRecDepth 100000 in
theorem tr_wave (l : Launch) (D : va_G) (cI cJ cZ : ClassId) (ad : Nat → Nat) (S : MS) (a0 : Int32) (a1 : Int32) {r1 : Int32} {S1 : MS} (h : fr_wave S a0 a1 = some (r1, S1)) : mCi l yX12_wave (Cond.code yX12_wave cX12_wave 6 (some .int) :: wsM) 1 19 D cI cJ cZ ad S [.int a0, .int a1] (fun r S9 => r = r1 ∧ S9 = S1) := by
  intro sz
  refine Met.ofW (cc := cX12_wave) (maxL := 6) (ret := (some .int)) (by decide) rfl ?_
  intro p e s m args below meth c s₁ B hml hv
  obtain ⟨rfl, hsz, hP, hK, hD0, hR⟩ := hv
  have hx := B.exec
  have hb := B.bytes
  have hr := B.returns
  have hts := atoms_spec (ws := (Cond.code yX12_wave cX12_wave 6 (some .int) :: wsM)) B.pre
  have hown : s.vm.findClass RX12 = some m.cls := findClass_of_methodNamed B.named
  have hlocks := B.notSynchronized
  subst hsz
  have hD := hD0.self (sz := s.heap.size)
  generalize hAe : va_A (MW cI cJ cZ ad S) s.heap.size = A at hD ⊢
  have hA : ∀ q : Nat, s.heap.size ≤ q → A q := fun q h => by rw [← hAe]; exact Or.inr h
  have G : mG D cI cJ cZ ad A s.heap s.heap [] S := ⟨hP, hD, va_S.rf⟩
  have E : mE p c cX12_wave s m ([.ref (ad 0), .int a0, .int a1] : List Value).toArray (Cond.code yX12_wave cX12_wave 6 (some .int) :: wsM) D cI cJ cZ := ⟨hx, hb, hts, hown, hK, fun w h => .tail _ (iM_x h)⟩
  have hl := lv_entry ([.ref (ad 0), .int a0, .int a1]) (n := 6) (Nat.le_of_ble_eq_true rfl)
  rw [lg_entry_eq]
  generalize (lg_sl ([.ref (ad 0), .int a0, .int a1]) ++ List.replicate (6 - (lg_sl ([.ref (ad 0), .int a0, .int a1])).length) Slot.unset).toArray = ls at hl ⊢
  have hl : lv_has ls 6 [(0, .ref (ad 0)), (1, .int a0), (2, .int a1)] := hl
  unfold fr_wave at h
  refine lv_aload_n hx hb dX12_wave_0 rfl (lv_at hl 0 rfl) ?_
  refine m_get E G 10 (v := .ref (ad 10)) (by decide) (.tail _ qM_7) rfl dX12_wave_1 rfl ?_
  refine lv_bipush (v := 53) hx hb dX12_wave_4 (by decide) ?_
  refine lv_iload_n hx hb dX12_wave_6 rfl (lv_at hl 1 rfl) ?_
  refine lv_iadd hx hb dX12_wave_7 ?_
  refine lv_topi (fun v2 ev2 => ?_)
  have h := elet_at ev2 h
  clear ev2
  obtain ⟨g3, h⟩ := oif_some h
  refine m_iald E G 10 2 (n := 131) (k := v2.toNatClampNeg) rfl (inb_k g3).1 (inb_k g3).2 (by decide) dX12_wave_8 ?_
  refine lv_topi (fun v4 ev4 => ?_)
  have h := elet_at ev4 h
  clear ev4
  refine lv_istore_n (lv' := [(3, .int v4), (0, .ref (ad 0)), (1, .int a0), (2, .int a1)]) hx hb dX12_wave_9 rfl hl (by decide) rfl (fun ls hl => ?_)
  refine lv_aload_n hx hb dX12_wave_10 rfl (lv_at hl 1 rfl) ?_
  refine m_get E G 10 (v := .ref (ad 10)) (by decide) (.tail _ qM_7) rfl dX12_wave_11 rfl ?_
  refine lv_bipush (v := 59) hx hb dX12_wave_14 (by decide) ?_
  refine lv_iload_n hx hb dX12_wave_16 rfl (lv_at hl 2 rfl) ?_
  refine lv_iadd hx hb dX12_wave_17 ?_
  refine lv_topi (fun v5 ev5 => ?_)
  have h := elet_at ev5 h
  clear ev5
  obtain ⟨g6, h⟩ := oif_some h
  refine m_iald E G 10 2 (n := 131) (k := v5.toNatClampNeg) rfl (inb_k g6).1 (inb_k g6).2 (by decide) dX12_wave_18 ?_
  refine lv_topi (fun v7 ev7 => ?_)
  have h := elet_at ev7 h
  clear ev7
  refine lv_istore (lv' := [(4, .int v7), (3, .int v4), (0, .ref (ad 0)), (1, .int a0), (2, .int a1)]) hx hb dX12_wave_19 hl (by decide) rfl (fun ls hl => ?_)
  refine lv_iload_n hx hb dX12_wave_21 rfl (lv_at hl 4 rfl) ?_
  refine lv_aload_n hx hb dX12_wave_22 rfl (lv_at hl 2 rfl) ?_
  refine m_get E G 10 (v := .ref (ad 10)) (by decide) (.tail _ qM_7) rfl dX12_wave_23 rfl ?_
  refine lv_bipush (v := 95) hx hb dX12_wave_26 (by decide) ?_
  refine lv_iload_n hx hb dX12_wave_28 rfl (lv_at hl 3 rfl) ?_
  refine lv_iadd hx hb dX12_wave_29 ?_
  refine lv_topi (fun v8 ev8 => ?_)
  have h := elet_at ev8 h
  clear ev8
  obtain ⟨g9, h⟩ := oif_some h
  refine m_iald E G 10 2 (n := 131) (k := v8.toNatClampNeg) rfl (inb_k g9).1 (inb_k g9).2 (by decide) dX12_wave_30 ?_
  refine lv_topi (fun v10 ev10 => ?_)
  have h := elet_at ev10 h
  clear ev10
  refine lv_icmp_ge (tgt := 36) hx hb dX12_wave_31 (by decide) (fun c11 => ?_) (fun c11 => ?_)
  · have h := oif_pos c11 h
    refine lv_iload_n hx hb dX12_wave_36 rfl (lv_at hl 4 rfl) ?_
    refine lv_aload_n hx hb dX12_wave_37 rfl (lv_at hl 2 rfl) ?_
    refine m_get E G 10 (v := .ref (ad 10)) (by decide) (.tail _ qM_7) rfl dX12_wave_38 rfl ?_
    refine lv_bipush (v := 65) hx hb dX12_wave_41 (by decide) ?_
    refine lv_iload_n hx hb dX12_wave_43 rfl (lv_at hl 3 rfl) ?_
    refine lv_iadd hx hb dX12_wave_44 ?_
    refine lv_topi (fun v12 ev12 => ?_)
    have h := elet_at ev12 h
    clear ev12
    obtain ⟨g13, h⟩ := oif_some h
    refine m_iald E G 10 2 (n := 131) (k := v12.toNatClampNeg) rfl (inb_k g13).1 (inb_k g13).2 (by decide) dX12_wave_45 ?_
    refine lv_topi (fun v14 ev14 => ?_)
    have h := elet_at ev14 h
    clear ev14
    refine lv_iadd hx hb dX12_wave_46 ?_
    refine lv_topi (fun v15 ev15 => ?_)
    have h := elet_at ev15 h
    clear ev15
    refine lv_iload hx hb dX12_wave_47 (lv_at hl 0 rfl) ?_
    obtain ⟨g16, h⟩ := oif_some h
    refine lv_irem hx hb dX12_wave_49 g16 ?_
    refine lv_topi (fun v17 ev17 => ?_)
    have h := elet_at ev17 h
    clear ev17
    refine lv_istore (lv' := [(5, .int v17), (4, .int v7), (3, .int v4), (0, .ref (ad 0)), (1, .int a0), (2, .int a1)]) hx hb dX12_wave_50 hl (by decide) rfl (fun ls hl => ?_)
    refine lv_aload_n hx hb dX12_wave_52 rfl (lv_at hl 3 rfl) ?_
    refine m_get E G 10 (v := .ref (ad 10)) (by decide) (.tail _ qM_7) rfl dX12_wave_53 rfl ?_
    refine lv_bipush (v := 47) hx hb dX12_wave_56 (by decide) ?_
    refine lv_iload_n hx hb dX12_wave_58 rfl (lv_at hl 4 rfl) ?_
    refine lv_iadd hx hb dX12_wave_59 ?_
    refine lv_topi (fun v18 ev18 => ?_)
    have h := elet_at ev18 h
    clear ev18
    obtain ⟨g19, h⟩ := oif_some h
    refine m_iald E G 10 2 (n := 131) (k := v18.toNatClampNeg) rfl (inb_k g19).1 (inb_k g19).2 (by decide) dX12_wave_60 ?_
    refine lv_topi (fun v20 ev20 => ?_)
    have h := elet_at ev20 h
    clear ev20
    by_cases c21 : v20 = 0
    · have h := oif_pos c21 h
      refine lv_tableIn (off := 27) (tgt := 88) hx hb dX12_wave_61 (by rw [c21]; decide) (by rw [c21]; decide) (by rw [c21]; rfl) (by decide) ?_
      refine lv_iload hx hb dX12_wave_88 (lv_at hl 0 rfl) ?_
      refine lv_iload hx hb dX12_wave_90 (lv_at hl 1 rfl) ?_
      refine lv_iconst (v := 2) hx hb dX12_wave_92 (by decide) ?_
      refine lv_idiv hx hb dX12_wave_93 (by decide) ?_
      refine lv_topi (fun v22 ev22 => ?_)
      have h := elet_at ev22 h
      clear ev22
      refine lv_icmp_ge (tgt := 101) hx hb dX12_wave_94 (by decide) (fun c23 => ?_) (fun c23 => ?_)
      · have h := oif_pos c23 h
        refine lv_iload_n hx hb dX12_wave_101 rfl (lv_at hl 2 rfl) ?_
        refine lv_ineg hx hb dX12_wave_102 ?_
        refine lv_topi (fun v24 ev24 => ?_)
        have h := elet_at ev24 h
        clear ev24
        have hl := lv_sub hl [] rfl
        exact tr_wave_b103 E hA hR hml (fun H locs ls G => W.iret (v := r1) hx hb hr (fun t ht hW => ⟨⟨r1, S1, rfl, ⟨rfl, rfl⟩, ⟨by rw [ht]; exact G.1, va_K.moved hW.alike hK, G.2.1⟩⟩, G.2.2.F ht⟩) G.2.2.2.2 dX12_wave_35) (fun H locs ls G => W.iret (v := r1) hx hb hr (fun t ht hW => ⟨⟨r1, S1, rfl, ⟨rfl, rfl⟩, ⟨by rw [ht]; exact G.1, va_K.moved hW.alike hK, G.2.1⟩⟩, G.2.2.F ht⟩) G.2.2.2.2 dX12_wave_103) (fun H locs ls G => W.iret (v := r1) hx hb hr (fun t ht hW => ⟨⟨r1, S1, rfl, ⟨rfl, rfl⟩, ⟨by rw [ht]; exact G.1, va_K.moved hW.alike hK, G.2.1⟩⟩, G.2.2.F ht⟩) G.2.2.2.2 dX12_wave_124) (fun H locs ls G => W.iret (v := r1) hx hb hr (fun t ht hW => ⟨⟨r1, S1, rfl, ⟨rfl, rfl⟩, ⟨by rw [ht]; exact G.1, va_K.moved hW.alike hK, G.2.1⟩⟩, G.2.2.F ht⟩) G.2.2.2.2 dX12_wave_135) (fun H locs ls G => W.iret (v := r1) hx hb hr (fun t ht hW => ⟨⟨r1, S1, rfl, ⟨rfl, rfl⟩, ⟨by rw [ht]; exact G.1, va_K.moved hW.alike hK, G.2.1⟩⟩, G.2.2.F ht⟩) G.2.2.2.2 dX12_wave_170) _ _ _ _ _ h G hl
      · have h := oif_neg c23 h
        refine lv_iload_n hx hb dX12_wave_97 rfl (lv_at hl 2 rfl) ?_
        refine lv_goto (tgt := 103) hx hb dX12_wave_98 (by decide) ?_
        have hl := lv_sub hl [] rfl
        exact tr_wave_b103 E hA hR hml (fun H locs ls G => W.iret (v := r1) hx hb hr (fun t ht hW => ⟨⟨r1, S1, rfl, ⟨rfl, rfl⟩, ⟨by rw [ht]; exact G.1, va_K.moved hW.alike hK, G.2.1⟩⟩, G.2.2.F ht⟩) G.2.2.2.2 dX12_wave_35) (fun H locs ls G => W.iret (v := r1) hx hb hr (fun t ht hW => ⟨⟨r1, S1, rfl, ⟨rfl, rfl⟩, ⟨by rw [ht]; exact G.1, va_K.moved hW.alike hK, G.2.1⟩⟩, G.2.2.F ht⟩) G.2.2.2.2 dX12_wave_103) (fun H locs ls G => W.iret (v := r1) hx hb hr (fun t ht hW => ⟨⟨r1, S1, rfl, ⟨rfl, rfl⟩, ⟨by rw [ht]; exact G.1, va_K.moved hW.alike hK, G.2.1⟩⟩, G.2.2.F ht⟩) G.2.2.2.2 dX12_wave_124) (fun H locs ls G => W.iret (v := r1) hx hb hr (fun t ht hW => ⟨⟨r1, S1, rfl, ⟨rfl, rfl⟩, ⟨by rw [ht]; exact G.1, va_K.moved hW.alike hK, G.2.1⟩⟩, G.2.2.F ht⟩) G.2.2.2.2 dX12_wave_135) (fun H locs ls G => W.iret (v := r1) hx hb hr (fun t ht hW => ⟨⟨r1, S1, rfl, ⟨rfl, rfl⟩, ⟨by rw [ht]; exact G.1, va_K.moved hW.alike hK, G.2.1⟩⟩, G.2.2.F ht⟩) G.2.2.2.2 dX12_wave_170) _ _ _ _ _ h G hl
    have h := oif_neg c21 h
    by_cases c25 : v20 = 1
    · have h := oif_pos c25 h
      refine lv_tableIn (off := 43) (tgt := 104) hx hb dX12_wave_61 (by rw [c25]; decide) (by rw [c25]; decide) (by rw [c25]; rfl) (by decide) ?_
      refine lv_iload_n hx hb dX12_wave_104 rfl (lv_at hl 2 rfl) ?_
      refine lv_iconst (v := 4) hx hb dX12_wave_105 (by decide) ?_
      refine lv_iload hx hb dX12_wave_106 (lv_at hl 0 rfl) ?_
      refine lv_iload hx hb dX12_wave_108 (lv_at hl 1 rfl) ?_
      refine lv_iconst (v := 2) hx hb dX12_wave_110 (by decide) ?_
      refine lv_idiv hx hb dX12_wave_111 (by decide) ?_
      refine lv_topi (fun v26 ev26 => ?_)
      have h := elet_at ev26 h
      clear ev26
      refine lv_isub hx hb dX12_wave_112 ?_
      refine lv_topi (fun v27 ev27 => ?_)
      have h := elet_at ev27 h
      clear ev27
      refine va_mabs hx hb (hml.trans hl.1.symm) hown (hts _ (.tail _ qM_245)) (hts _ (.tail _ qM_246)) (hts _ (.tail _ qM_247)) (hts _ (.tail _ qM_248)) (Nat.le_of_ble_eq_true rfl) (Nat.le_of_ble_eq_true rfl) (Nat.zero_le _) (Nat.zero_le _) dX12_wave_113 ?_
      refine lv_topi (fun v28 ev28 => ?_)
      have h := elet_at ev28 h
      clear ev28
      refine lv_imul hx hb dX12_wave_116 ?_
      refine lv_topi (fun v29 ev29 => ?_)
      have h := elet_at ev29 h
      clear ev29
      refine lv_iload hx hb dX12_wave_117 (lv_at hl 1 rfl) ?_
      refine lv_isub hx hb dX12_wave_119 ?_
      refine lv_topi (fun v30 ev30 => ?_)
      have h := elet_at ev30 h
      clear ev30
      refine lv_imul hx hb dX12_wave_120 ?_
      refine lv_topi (fun v31 ev31 => ?_)
      have h := elet_at ev31 h
      clear ev31
      refine lv_iload hx hb dX12_wave_121 (lv_at hl 1 rfl) ?_
      obtain ⟨g32, h⟩ := oif_some h
      refine lv_idiv hx hb dX12_wave_123 g32 ?_
      refine lv_topi (fun v33 ev33 => ?_)
      have h := elet_at ev33 h
      clear ev33
      exact W.iret (v := v33) hx hb hr (fun t ht hW => ⟨⟨v33, S, rfl, osome2 h, ⟨by rw [ht]; exact G.1, va_K.moved hW.alike hK, G.2.1⟩⟩, G.2.2.F ht⟩) G.2.2.2.2 dX12_wave_124
    have h := oif_neg c25 h
    by_cases c34 : v20 = 2
    · have h := oif_pos c34 h
      refine lv_tableIn (off := 64) (tgt := 125) hx hb dX12_wave_61 (by rw [c34]; decide) (by rw [c34]; decide) (by rw [c34]; rfl) (by decide) ?_
      refine lv_iload hx hb dX12_wave_125 (lv_at hl 0 rfl) ?_
      refine lv_if_ne (tgt := 134) hx hb dX12_wave_127 (by decide) (fun c35 => ?_) (fun c35 => ?_)
      · have h := oif_neg c35 h
        refine lv_iconst (v := 0) hx hb dX12_wave_134 (by decide) ?_
        have hl := lv_sub hl [] rfl
        exact tr_wave_b135 E hA hR hml (fun H locs ls G => W.iret (v := r1) hx hb hr (fun t ht hW => ⟨⟨r1, S1, rfl, ⟨rfl, rfl⟩, ⟨by rw [ht]; exact G.1, va_K.moved hW.alike hK, G.2.1⟩⟩, G.2.2.F ht⟩) G.2.2.2.2 dX12_wave_35) (fun H locs ls G => W.iret (v := r1) hx hb hr (fun t ht hW => ⟨⟨r1, S1, rfl, ⟨rfl, rfl⟩, ⟨by rw [ht]; exact G.1, va_K.moved hW.alike hK, G.2.1⟩⟩, G.2.2.F ht⟩) G.2.2.2.2 dX12_wave_103) (fun H locs ls G => W.iret (v := r1) hx hb hr (fun t ht hW => ⟨⟨r1, S1, rfl, ⟨rfl, rfl⟩, ⟨by rw [ht]; exact G.1, va_K.moved hW.alike hK, G.2.1⟩⟩, G.2.2.F ht⟩) G.2.2.2.2 dX12_wave_124) (fun H locs ls G => W.iret (v := r1) hx hb hr (fun t ht hW => ⟨⟨r1, S1, rfl, ⟨rfl, rfl⟩, ⟨by rw [ht]; exact G.1, va_K.moved hW.alike hK, G.2.1⟩⟩, G.2.2.F ht⟩) G.2.2.2.2 dX12_wave_135) (fun H locs ls G => W.iret (v := r1) hx hb hr (fun t ht hW => ⟨⟨r1, S1, rfl, ⟨rfl, rfl⟩, ⟨by rw [ht]; exact G.1, va_K.moved hW.alike hK, G.2.1⟩⟩, G.2.2.F ht⟩) G.2.2.2.2 dX12_wave_170) _ _ _ _ _ h G hl
      · have h := oif_pos c35 h
        refine lv_iload_n hx hb dX12_wave_130 rfl (lv_at hl 2 rfl) ?_
        refine lv_goto (tgt := 135) hx hb dX12_wave_131 (by decide) ?_
        have hl := lv_sub hl [] rfl
        exact tr_wave_b135 E hA hR hml (fun H locs ls G => W.iret (v := r1) hx hb hr (fun t ht hW => ⟨⟨r1, S1, rfl, ⟨rfl, rfl⟩, ⟨by rw [ht]; exact G.1, va_K.moved hW.alike hK, G.2.1⟩⟩, G.2.2.F ht⟩) G.2.2.2.2 dX12_wave_35) (fun H locs ls G => W.iret (v := r1) hx hb hr (fun t ht hW => ⟨⟨r1, S1, rfl, ⟨rfl, rfl⟩, ⟨by rw [ht]; exact G.1, va_K.moved hW.alike hK, G.2.1⟩⟩, G.2.2.F ht⟩) G.2.2.2.2 dX12_wave_103) (fun H locs ls G => W.iret (v := r1) hx hb hr (fun t ht hW => ⟨⟨r1, S1, rfl, ⟨rfl, rfl⟩, ⟨by rw [ht]; exact G.1, va_K.moved hW.alike hK, G.2.1⟩⟩, G.2.2.F ht⟩) G.2.2.2.2 dX12_wave_124) (fun H locs ls G => W.iret (v := r1) hx hb hr (fun t ht hW => ⟨⟨r1, S1, rfl, ⟨rfl, rfl⟩, ⟨by rw [ht]; exact G.1, va_K.moved hW.alike hK, G.2.1⟩⟩, G.2.2.F ht⟩) G.2.2.2.2 dX12_wave_135) (fun H locs ls G => W.iret (v := r1) hx hb hr (fun t ht hW => ⟨⟨r1, S1, rfl, ⟨rfl, rfl⟩, ⟨by rw [ht]; exact G.1, va_K.moved hW.alike hK, G.2.1⟩⟩, G.2.2.F ht⟩) G.2.2.2.2 dX12_wave_170) _ _ _ _ _ h G hl
    have h := oif_neg c34 h
    refine lv_tableOut (tgt := 136) hx hb dX12_wave_61 (tsw_0_2 c21 c25 c34) (by decide) ?_
    refine lv_bipush (v := 31) hx hb dX12_wave_136 (by decide) ?_
    refine lv_iload_n hx hb dX12_wave_138 rfl (lv_at hl 5 rfl) ?_
    refine lv_imul hx hb dX12_wave_139 ?_
    refine lv_topi (fun v36 ev36 => ?_)
    have h := elet_at ev36 h
    clear ev36
    refine lv_iload_n hx hb dX12_wave_140 rfl (lv_at hl 5 rfl) ?_
    refine lv_imul hx hb dX12_wave_141 ?_
    refine lv_topi (fun v37 ev37 => ?_)
    have h := elet_at ev37 h
    clear ev37
    refine lv_sipush (v := 7919) hx hb dX12_wave_142 (by decide) ?_
    refine lv_iload_n hx hb dX12_wave_145 rfl (lv_at hl 5 rfl) ?_
    refine lv_imul hx hb dX12_wave_146 ?_
    refine lv_topi (fun v38 ev38 => ?_)
    have h := elet_at ev38 h
    clear ev38
    refine lv_iadd hx hb dX12_wave_147 ?_
    refine lv_topi (fun v39 ev39 => ?_)
    have h := elet_at ev39 h
    clear ev39
    refine lv_ldcw (v := 104729) hx hb hown (hts (.constant RX12 267 (104729)) (.tail _ qM_249)) dX12_wave_148 ?_
    refine lv_aload_n hx hb dX12_wave_151 rfl (lv_at hl 3 rfl) ?_
    refine m_get E G 10 (v := .ref (ad 10)) (by decide) (.tail _ qM_7) rfl dX12_wave_152 rfl ?_
    refine lv_bipush (v := 65) hx hb dX12_wave_155 (by decide) ?_
    refine lv_iload_n hx hb dX12_wave_157 rfl (lv_at hl 4 rfl) ?_
    refine lv_iadd hx hb dX12_wave_158 ?_
    refine lv_topi (fun v40 ev40 => ?_)
    have h := elet_at ev40 h
    clear ev40
    obtain ⟨g41, h⟩ := oif_some h
    refine m_iald E G 10 2 (n := 131) (k := v40.toNatClampNeg) rfl (inb_k g41).1 (inb_k g41).2 (by decide) dX12_wave_159 ?_
    refine lv_topi (fun v42 ev42 => ?_)
    have h := elet_at ev42 h
    clear ev42
    refine lv_imul hx hb dX12_wave_160 ?_
    refine lv_topi (fun v43 ev43 => ?_)
    have h := elet_at ev43 h
    clear ev43
    refine lv_iadd hx hb dX12_wave_161 ?_
    refine lv_topi (fun v44 ev44 => ?_)
    have h := elet_at ev44 h
    clear ev44
    refine lv_iconst (v := 2) hx hb dX12_wave_162 (by decide) ?_
    refine lv_iload_n hx hb dX12_wave_163 rfl (lv_at hl 2 rfl) ?_
    refine lv_imul hx hb dX12_wave_164 ?_
    refine lv_topi (fun v45 ev45 => ?_)
    have h := elet_at ev45 h
    clear ev45
    refine lv_iconst (v := 1) hx hb dX12_wave_165 (by decide) ?_
    refine lv_iadd hx hb dX12_wave_166 ?_
    refine lv_topi (fun v46 ev46 => ?_)
    have h := elet_at ev46 h
    clear ev46
    obtain ⟨g47, h⟩ := oif_some h
    refine lv_irem hx hb dX12_wave_167 g47 ?_
    refine lv_topi (fun v48 ev48 => ?_)
    have h := elet_at ev48 h
    clear ev48
    refine lv_iload_n hx hb dX12_wave_168 rfl (lv_at hl 2 rfl) ?_
    refine lv_isub hx hb dX12_wave_169 ?_
    refine lv_topi (fun v49 ev49 => ?_)
    have h := elet_at ev49 h
    clear ev49
    exact W.iret (v := v49) hx hb hr (fun t ht hW => ⟨⟨v49, S, rfl, osome2 h, ⟨by rw [ht]; exact G.1, va_K.moved hW.alike hK, G.2.1⟩⟩, G.2.2.F ht⟩) G.2.2.2.2 dX12_wave_170
  · have h := oif_neg c11 h
    refine lv_iconst (v := 0) hx hb dX12_wave_34 (by decide) ?_
    exact W.iret (v := 0) hx hb hr (fun t ht hW => ⟨⟨0, S, rfl, osome2 h, ⟨by rw [ht]; exact G.1, va_K.moved hW.alike hK, G.2.1⟩⟩, G.2.2.F ht⟩) G.2.2.2.2 dX12_wave_35
end
