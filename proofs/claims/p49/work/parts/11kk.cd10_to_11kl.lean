section
/-! 11kk.cd10.lean.txt -/
def g_X9_addWord_b43 (k3 : AT → Nat → Int32 → Int32 → Option (AT)) (T : AT) (l0 : Nat) (l1 : Int32) (l2 : Int32) : Option (AT) := elet (l2 + Int32.ofInt (-8)) fun v2 => k3 T l0 l1 v2
set_option maxHeartbeats 4000000 in
set_option maxRecDepth 100000 in
theorem u_X9_addWord_b43 {p : Program} {l : Launch} {e : Env} {s : State} {m : MethodId} {args : Array Value} {below : List Frame} {meth : Method} {c : Code} {Q : State → Prop} {D : va_G} {A : Nat → Prop} {cI cJ cZ cMic cSrc cSt cAI cAJ : ClassId} {ad : Nat → Nat} {T1 : AT} (E : cE p c cX9_addWord s m args (Cond.code yX9_addWord cX9_addWord 3 none :: wsA) D RX9 (CT cI cJ cZ cMic cSrc cSt cAI cAJ)) (hA : ∀ q : Nat, s.heap.size ≤ q → A q) (hX : xT A s) (hN : nX s) (hml : c.maxLocals = 3) (hst : l.stackTraces = false) (kr49 : ∀ (H : Heap) (locs : List Loc) (ls : Array Slot), gC cI cJ cZ cMic cSrc cSt cAI cAJ D ad A s.heap H locs T1 → W p l e { frames := 1, cells := 0, slots := 0, locals := 0 } s m args below meth c H locs 0 0 Q (F0 m 49 ls [])) {k3 : AT → Nat → Int32 → Int32 → Option (AT)} (hk3 : ∀ (T : AT) (H : Heap) (locs : List Loc) (ls : Array Slot) (l0 : Nat) (l1 : Int32) (l2 : Int32), k3 T l0 l1 l2 = some T1 → gC cI cJ cZ cMic cSrc cSt cAI cAJ D ad A s.heap H locs T → lv_has ls 3 [(0, .ref (ad l0)), (1, .int l1), (2, .int l2)] → W p l e { frames := 1, cells := 0, slots := 0, locals := 0 } s m args below meth c H locs 0 0 Q (F0 m 3 ls [])) : ∀ (T : AT) (H : Heap) (locs : List Loc) (ls : Array Slot) (l0 : Nat) (l1 : Int32) (l2 : Int32), g_X9_addWord_b43 k3 T l0 l1 l2 = some T1 → gC cI cJ cZ cMic cSrc cSt cAI cAJ D ad A s.heap H locs T → lv_has ls 3 [(0, .ref (ad l0)), (1, .int l1), (2, .int l2)] → W p l e { frames := 1, cells := 0, slots := 0, locals := 0 } s m args below meth c H locs 0 0 Q (F0 m 43 ls []) := by
  have hx := E.1
  have hb := E.2.1
  have hts := E.2.2.1
  have hown := E.2.2.2.1
  have hK := E.2.2.2.2
  intro T H locs ls l0 l1 l2 h G hl
  unfold g_X9_addWord_b43 at h
  obtain ⟨v2, ev2, h⟩ := elet_some h
  refine lv_iinc (v := v2) (lv' := [(2, .int v2), (0, .ref (ad l0)), (1, .int l1)]) hx hb dX9_addWord_43 hl (k := 2) rfl ev2.symm (by decide) rfl (fun ls hl => ?_)
  refine lv_goto (tgt := 3) hx hb dX9_addWord_46 (by decide) ?_
  have hl := lv_sub hl [1, 2, 0] rfl
  exact hk3 _ _ _ _ _ _ _ h G hl
def g_X9_addWord_b3  : Nat → AT → Nat → Int32 → Int32 → Option (AT)
  | 0, _, _, _, _ => none
  | n + 1, T, l0, l1, l2 => if l2 < 0 then (some T) else (oif (oO T l0 9 = true) <| elet (T.2.2.1 l0 1) fun v4 => if 1000 ≤ v4 then (g_X9_addWord_b43 (g_X9_addWord_b3 n) T l0 l1 l2) else (oif (oO T l0 9 = true) <| obind (T.2.2.2.2 l0 0) fun n7 => oif (oO T l0 9 = true) <| elet (T.2.2.1 l0 1) fun v9 => elet ((l1.toUInt32 >>> (l2.toUInt32 &&& Int32.toUInt32 31)).toInt32) fun v10 => elet (v10 &&& 255) fun v11 => oif (aA T n7 100 = true) <| oif (inb v9 (T.2.1 n7).2 = true) <| elet (uI T n7 v9.toNatClampNeg v11) fun T14 => oif (oO T14 l0 9 = true) <| elet (T14.2.2.1 l0 1) fun v16 => elet (v16 + 1) fun v17 => oif (oO T14 l0 9 = true) <| elet (uI T14 l0 1 v17) fun T19 => g_X9_addWord_b43 (g_X9_addWord_b3 n) T19 l0 l1 l2))
set_option maxHeartbeats 4000000 in
set_option maxRecDepth 100000 in
theorem u_X9_addWord_b3 {p : Program} {l : Launch} {e : Env} {s : State} {m : MethodId} {args : Array Value} {below : List Frame} {meth : Method} {c : Code} {Q : State → Prop} {D : va_G} {A : Nat → Prop} {cI cJ cZ cMic cSrc cSt cAI cAJ : ClassId} {ad : Nat → Nat} {T1 : AT} (E : cE p c cX9_addWord s m args (Cond.code yX9_addWord cX9_addWord 3 none :: wsA) D RX9 (CT cI cJ cZ cMic cSrc cSt cAI cAJ)) (hA : ∀ q : Nat, s.heap.size ≤ q → A q) (hX : xT A s) (hN : nX s) (hml : c.maxLocals = 3) (hst : l.stackTraces = false) (kr49 : ∀ (H : Heap) (locs : List Loc) (ls : Array Slot), gC cI cJ cZ cMic cSrc cSt cAI cAJ D ad A s.heap H locs T1 → W p l e { frames := 1, cells := 0, slots := 0, locals := 0 } s m args below meth c H locs 0 0 Q (F0 m 49 ls [])) : ∀ n : Nat, ∀ (T : AT) (H : Heap) (locs : List Loc) (ls : Array Slot) (l0 : Nat) (l1 : Int32) (l2 : Int32), g_X9_addWord_b3 n T l0 l1 l2 = some T1 → gC cI cJ cZ cMic cSrc cSt cAI cAJ D ad A s.heap H locs T → lv_has ls 3 [(0, .ref (ad l0)), (1, .int l1), (2, .int l2)] → W p l e { frames := 1, cells := 0, slots := 0, locals := 0 } s m args below meth c H locs 0 0 Q (F0 m 3 ls []) := by
  have hx := E.1
  have hb := E.2.1
  have hts := E.2.2.1
  have hown := E.2.2.2.1
  have hK := E.2.2.2.2
  intro n
  induction n with
  | zero =>
    intro T H locs ls l0 l1 l2 h
    have h : (none : Option (AT)) = some T1 := h
    cases h
  | succ n ih =>
    intro T H locs ls l0 l1 l2 h G hl
    unfold g_X9_addWord_b3 at h
    refine lv_iload_n hx hb dX9_addWord_3 rfl (lv_at hl 2 rfl) ?_
    refine lv_if_lt (tgt := 49) hx hb dX9_addWord_4 (by decide) (fun c2 => ?_) (fun c2 => ?_)
    · have h := oif_pos c2 h
      rw [osome1 h] at G
      exact kr49 _ _ _ G
    · have h := oif_neg c2 h
      refine lv_aload_n hx hb dX9_addWord_7 rfl (lv_at hl 0 rfl) ?_
      obtain ⟨g3, h⟩ := oif_some h
      refine c_get E G l0 1 (oO_k g3).1 (cc_o9 (oO_k g3).2) rfl (fun w h => .tail _ (iA_18 h)) (by decide) (.tail _ qA_632) rfl rfl dX9_addWord_8 ?_
      refine lv_topi (fun v4 ev4 => ?_)
      have h := elet_at ev4 h
      clear ev4
      refine lv_sipush (v := 1000) hx hb dX9_addWord_11 (by decide) ?_
      refine lv_icmp_ge (tgt := 43) hx hb dX9_addWord_14 (by decide) (fun c5 => ?_) (fun c5 => ?_)
      · have h := oif_pos c5 h
        have hl := lv_sub hl [0, 1, 2] rfl
        exact u_X9_addWord_b43 E hA hX hN hml hst kr49 ih _ _ _ _ _ _ _ h G hl
      · have h := oif_neg c5 h
        refine lv_aload_n hx hb dX9_addWord_17 rfl (lv_at hl 0 rfl) ?_
        obtain ⟨g6, h⟩ := oif_some h
        obtain ⟨n7, en7, h⟩ := obind_some h
        refine c_get E G l0 0 (v := .ref (ad n7)) (oO_k g6).1 (cc_o9 (oO_k g6).2) rfl (fun w h => .tail _ (iA_18 h)) (by decide) (.tail _ qA_192) rfl (by rw [en7]; rfl) dX9_addWord_18 ?_
        clear en7
        refine lv_aload_n hx hb dX9_addWord_21 rfl (lv_at hl 0 rfl) ?_
        obtain ⟨g8, h⟩ := oif_some h
        refine c_get E G l0 1 (oO_k g8).1 (cc_o9 (oO_k g8).2) rfl (fun w h => .tail _ (iA_18 h)) (by decide) (.tail _ qA_632) rfl rfl dX9_addWord_22 ?_
        refine lv_topi (fun v9 ev9 => ?_)
        have h := elet_at ev9 h
        clear ev9
        refine lv_iload_n hx hb dX9_addWord_25 rfl (lv_at hl 1 rfl) ?_
        refine lv_iload_n hx hb dX9_addWord_26 rfl (lv_at hl 2 rfl) ?_
        refine lv_iushr (v := (l1.toUInt32 >>> (l2.toUInt32 &&& Int32.toUInt32 31)).toInt32) hx hb dX9_addWord_27 rfl ?_
        refine lv_topi (fun v10 ev10 => ?_)
        have h := elet_at ev10 h
        clear ev10
        refine lv_sipush (v := 255) hx hb dX9_addWord_28 (by decide) ?_
        refine lv_iand hx hb dX9_addWord_31 ?_
        refine lv_topi (fun v11 ev11 => ?_)
        have h := elet_at ev11 h
        clear ev11
        obtain ⟨g12, h⟩ := oif_some h
        obtain ⟨g13, h⟩ := oif_some h
        refine c_iast E G n7 0 (k := v9.toNatClampNeg) (v := v11) (aA_k g12).1 (cc_a100 (aA_k g12).2.1) rfl (inb_k g13).1 (inb_k g13).2 (aA_k g12).2.2 dX9_addWord_32 (fun H locs G => ?_)
        have G := gC_up_i (f := upd (T.2.2.1 n7) v9.toNatClampNeg v11) (ccv_100 (aA_k g12).2.1) G
        obtain ⟨T14, eT14, h⟩ := elet_some h
        have G : gC cI cJ cZ cMic cSrc cSt cAI cAJ D ad A s.heap H locs T14 := by rw [eT14]; exact G
        clear eT14
        refine lv_aload_n hx hb dX9_addWord_33 rfl (lv_at hl 0 rfl) ?_
        refine lv_dup hx hb dX9_addWord_34 rfl ?_
        obtain ⟨g15, h⟩ := oif_some h
        refine c_get E G l0 1 (oO_k g15).1 (cc_o9 (oO_k g15).2) rfl (fun w h => .tail _ (iA_18 h)) (by decide) (.tail _ qA_632) rfl rfl dX9_addWord_35 ?_
        refine lv_topi (fun v16 ev16 => ?_)
        have h := elet_at ev16 h
        clear ev16
        refine lv_iconst (v := 1) hx hb dX9_addWord_38 (by decide) ?_
        refine lv_iadd hx hb dX9_addWord_39 ?_
        refine lv_topi (fun v17 ev17 => ?_)
        have h := elet_at ev17 h
        clear ev17
        obtain ⟨g18, h⟩ := oif_some h
        refine c_put E G l0 1 (v := .int v17) (oO_k g18).1 (cc_o9 (oO_k g18).2) rfl (fun w h => .tail _ (iA_18 h)) tyX9 tyX9_ok nmX9 (by decide) (.tail _ qA_632) ⟨rfl, rfl, rfl⟩ rfl rfl (Nat.le_of_ble_eq_true rfl) dX9_addWord_40 (fun H locs G => ?_)
        have G := gC_up_i (f := upd (T14.2.2.1 l0) 1 v17) (by rw [(oO_k g18).2]; rfl) G
        obtain ⟨T19, eT19, h⟩ := elet_some h
        have G : gC cI cJ cZ cMic cSrc cSt cAI cAJ D ad A s.heap H locs T19 := by rw [eT19]; exact G
        clear eT19
        have hl := lv_sub hl [0, 1, 2] rfl
        exact u_X9_addWord_b43 E hA hX hN hml hst kr49 ih _ _ _ _ _ _ _ h G hl
def g_X9_addWord (T : AT) (o : Nat) (a0 : Int32) : Option (AT) := g_X9_addWord_b3 16384 T o a0 24
set_option maxHeartbeats 4000000 in
set_option maxRecDepth 100000 in
theorem u_X9_addWord (l : Launch) (hst : l.stackTraces = false) (D : va_G) (cI cJ cZ cMic cSrc cSt cAI cAJ : ClassId) (ad : Nat → Nat) (T : AT) (o : Nat) (a0 : Int32) {T1 : AT} (h : g_X9_addWord T o a0 = some T1) : kCv l yX9_addWord (Cond.code yX9_addWord cX9_addWord 3 none :: wsA) 1 0 cI cJ cZ cMic cSrc cSt cAI cAJ D ad T [.ref (ad o), .int a0] (fun T9 => T9 = T1) := by
  intro sz
  refine Met.ofW (cc := cX9_addWord) (maxL := 3) (ret := none) (by decide) rfl ?_
  intro p e s m args below meth c s₁ B hml hv
  obtain ⟨rfl, hsz, hP, hK, hD0, hX, hN⟩ := hv
  have hx := B.exec
  have hb := B.bytes
  have hr := B.returns
  have hts := atoms_spec (ws := (Cond.code yX9_addWord cX9_addWord 3 none :: wsA)) B.pre
  have hown : s.vm.findClass RX9 = some m.cls := findClass_of_methodNamed B.named
  have hlocks := B.notSynchronized
  subst hsz
  have hD := hD0.self (sz := s.heap.size)
  generalize hAe : va_A (cW ad T.1 (cc cI cJ cZ cMic cSrc cSt cAI cAJ ad T)) s.heap.size = A at hD hX ⊢
  have hA : ∀ q : Nat, s.heap.size ≤ q → A q := fun q h => by rw [← hAe]; exact Or.inr h
  have G : gC cI cJ cZ cMic cSrc cSt cAI cAJ D ad A s.heap s.heap [] T := ⟨hP, hD, va_S.rf⟩
  have E : cE p c cX9_addWord s m ([.ref (ad o), .int a0] : List Value).toArray (Cond.code yX9_addWord cX9_addWord 3 none :: wsA) D RX9 (CT cI cJ cZ cMic cSrc cSt cAI cAJ) := ⟨hx, hb, hts, hown, hK⟩
  have hl := lv_entry ([.ref (ad o), .int a0]) (n := 3) (Nat.le_of_ble_eq_true rfl)
  rw [lg_entry_eq]
  generalize (lg_sl ([.ref (ad o), .int a0]) ++ List.replicate (3 - (lg_sl ([.ref (ad o), .int a0])).length) Slot.unset).toArray = ls at hl ⊢
  have hl : lv_has ls 3 [(0, .ref (ad o)), (1, .int a0)] := hl
  unfold g_X9_addWord at h
  refine lv_bipush (v := 24) hx hb dX9_addWord_0 (by decide) ?_
  refine lv_istore_n (lv' := [(2, .int 24), (0, .ref (ad o)), (1, .int a0)]) hx hb dX9_addWord_2 rfl hl (by decide) rfl (fun ls hl => ?_)
  have hl := lv_sub hl [1, 2, 0] rfl
  exact u_X9_addWord_b3 E hA hX hN hml hst (fun H locs ls G => W.vret hx hb hr (fun t ht hW => ⟨⟨T1, rfl, rfl, ⟨by rw [ht]; exact G.1, va_K.moved hW.alike hK, G.2.1⟩⟩, G.2.2.F ht⟩) G.2.2.2.2 dX9_addWord_49) _ _ _ _ _ _ _ _ h G hl
set_option maxHeartbeats 4000000 in
set_option maxRecDepth 100000 in
theorem s_X9_addWord_b43 {T1 : AT} {k3 : AT → Nat → Int32 → Int32 → Option (AT)} (hk3 : ∀ (T : AT) (l0 : Nat) (l1 : Int32) (l2 : Int32), k3 T l0 l1 l2 = some T1 → SP T T1) : ∀ (T : AT) (l0 : Nat) (l1 : Int32) (l2 : Int32), g_X9_addWord_b43 k3 T l0 l1 l2 = some T1 → SP T T1 := by
  intro T l0 l1 l2 h
  have p0 := SP.rf T
  unfold g_X9_addWord_b43 at h
  obtain ⟨v2, ev2, h⟩ := elet_some h
  exact SP.tr p0 (hk3 _ _ _ _ h)
set_option maxHeartbeats 4000000 in
set_option maxRecDepth 100000 in
theorem s_X9_addWord_b3 {T1 : AT} : ∀ n : Nat, ∀ (T : AT) (l0 : Nat) (l1 : Int32) (l2 : Int32), g_X9_addWord_b3 n T l0 l1 l2 = some T1 → SP T T1 := by
  intro n
  induction n with
  | zero =>
    intro T l0 l1 l2 h
    have h : (none : Option (AT)) = some T1 := h
    cases h
  | succ n ih =>
    intro T l0 l1 l2 h
    have p0 := SP.rf T
    unfold g_X9_addWord_b3 at h
    rcases oif_or h with ⟨c2, h⟩ | ⟨c2, h⟩
    · have h := h
      rw [← osome1 h]
      exact p0
    · have h := h
      obtain ⟨g3, h⟩ := oif_some h
      obtain ⟨v4, -, h⟩ := elet_some h
      rcases oif_or h with ⟨c5, h⟩ | ⟨c5, h⟩
      · have h := h
        exact SP.tr p0 (s_X9_addWord_b43 ih _ _ _ _ h)
      · have h := h
        obtain ⟨g6, h⟩ := oif_some h
        obtain ⟨n7, en7, h⟩ := obind_some h
        obtain ⟨g8, h⟩ := oif_some h
        obtain ⟨v9, -, h⟩ := elet_some h
        obtain ⟨v10, -, h⟩ := elet_some h
        obtain ⟨v11, -, h⟩ := elet_some h
        obtain ⟨g12, h⟩ := oif_some h
        obtain ⟨g13, h⟩ := oif_some h
        obtain ⟨T14, eT14, h⟩ := elet_some h
        have p1 : SP T T14 := SP.tr p0 (by rw [eT14]; exact sp_uI)
        obtain ⟨g15, h⟩ := oif_some h
        obtain ⟨v16, -, h⟩ := elet_some h
        obtain ⟨v17, -, h⟩ := elet_some h
        obtain ⟨g18, h⟩ := oif_some h
        obtain ⟨T19, eT19, h⟩ := elet_some h
        have p2 : SP T T19 := SP.tr p1 (by rw [eT19]; exact sp_uI)
        exact SP.tr p2 (s_X9_addWord_b43 ih _ _ _ _ h)
set_option maxHeartbeats 4000000 in
set_option maxRecDepth 100000 in
theorem s_X9_addWord {T : AT} {o : Nat} {a0 : Int32} {T1 : AT} (h : g_X9_addWord T o a0 = some T1) : SP T T1 := by
  have p0 := SP.rf T
  unfold g_X9_addWord at h
  exact SP.tr p0 (s_X9_addWord_b3 _ _ _ _ _ h)
def g_X10_value_b10  : Nat → AT → Nat → Int32 → Int64 → Int32 → Option (Int64 × AT)
  | 0, _, _, _, _, _ => none
  | n + 1, T, l0, l1, l2, l4 => if l4 < 0 then (some (l2, T)) else (elet (l2 <<< ((28 : Int32).toInt64 &&& 63)) fun v3 => oif (oO T l0 10 = true) <| obind (T.2.2.2.2 l0 1) fun n5 => oif (aA T n5 107 = true) <| oif (inb l4 (T.2.1 n5).2 = true) <| obind (T.2.2.2.2 n5 l4.toNatClampNeg) fun n8 => oif (aA T n8 101 = true) <| oif (inb l1 (T.2.1 n8).2 = true) <| elet (T.2.2.2.1 n8 l1.toNatClampNeg) fun v11 => elet (v3 + v11) fun v12 => elet (l4 + Int32.ofInt (-1)) fun v13 => g_X10_value_b10 n T l0 l1 v12 v13)
set_option maxHeartbeats 4000000 in
set_option maxRecDepth 100000 in
theorem u_X10_value_b10 {p : Program} {l : Launch} {e : Env} {s : State} {m : MethodId} {args : Array Value} {below : List Frame} {meth : Method} {c : Code} {Q : State → Prop} {D : va_G} {A : Nat → Prop} {cI cJ cZ cMic cSrc cSt cAI cAJ : ClassId} {ad : Nat → Nat} {r1 : Int64} {T1 : AT} (E : cE p c cX10_value s m args (Cond.code yX10_value cX10_value 5 (some .long) :: wsA) D RX10 (CT cI cJ cZ cMic cSrc cSt cAI cAJ)) (hA : ∀ q : Nat, s.heap.size ≤ q → A q) (hX : xT A s) (hN : nX s) (hml : c.maxLocals = 5) (hst : l.stackTraces = false) (kr37 : ∀ (H : Heap) (locs : List Loc) (ls : Array Slot), gC cI cJ cZ cMic cSrc cSt cAI cAJ D ad A s.heap H locs T1 → W p l e { frames := 1, cells := 0, slots := 0, locals := 0 } s m args below meth c H locs 0 0 Q (F0 m 37 ls [.long r1])) : ∀ n : Nat, ∀ (T : AT) (H : Heap) (locs : List Loc) (ls : Array Slot) (l0 : Nat) (l1 : Int32) (l2 : Int64) (l4 : Int32), g_X10_value_b10 n T l0 l1 l2 l4 = some (r1, T1) → gC cI cJ cZ cMic cSrc cSt cAI cAJ D ad A s.heap H locs T → lv_has ls 5 [(0, .ref (ad l0)), (1, .int l1), (2, .long l2), (4, .int l4)] → W p l e { frames := 1, cells := 0, slots := 0, locals := 0 } s m args below meth c H locs 0 0 Q (F0 m 10 ls []) := by
  have hx := E.1
  have hb := E.2.1
  have hts := E.2.2.1
  have hown := E.2.2.2.1
  have hK := E.2.2.2.2
  intro n
  induction n with
  | zero =>
    intro T H locs ls l0 l1 l2 l4 h
    have h : (none : Option (Int64 × AT)) = some (r1, T1) := h
    cases h
  | succ n ih =>
    intro T H locs ls l0 l1 l2 l4 h G hl
    unfold g_X10_value_b10 at h
    refine lv_iload hx hb dX10_value_10 (lv_at hl 3 rfl) ?_
    refine lv_if_lt (tgt := 36) hx hb dX10_value_12 (by decide) (fun c2 => ?_) (fun c2 => ?_)
    · have h := oif_pos c2 h
      refine lv_lload_n hx hb dX10_value_36 rfl (lv_at hl 2 rfl) ?_
      rw [(osome2 h).2] at G
      refine lv_tol (osome2 h).1 ?_
      exact kr37 _ _ _ G
    · have h := oif_neg c2 h
      refine lv_lload_n hx hb dX10_value_15 rfl (lv_at hl 2 rfl) ?_
      refine lv_bipush (v := 28) hx hb dX10_value_16 (by decide) ?_
      refine lv_lshl (v := l2 <<< ((28 : Int32).toInt64 &&& 63)) hx hb dX10_value_18 rfl ?_
      refine lv_topl (fun v3 ev3 => ?_)
      have h := elet_at ev3 h
      clear ev3
      refine lv_aload_n hx hb dX10_value_19 rfl (lv_at hl 0 rfl) ?_
      obtain ⟨g4, h⟩ := oif_some h
      obtain ⟨n5, en5, h⟩ := obind_some h
      refine c_get E G l0 1 (v := .ref (ad n5)) (oO_k g4).1 (cc_o10 (oO_k g4).2) rfl (fun w h => .tail _ (iA_12 h)) (by decide) (.tail _ qA_14) rfl (by rw [en5]; rfl) dX10_value_20 ?_
      clear en5
      refine lv_iload hx hb dX10_value_23 (lv_at hl 3 rfl) ?_
      obtain ⟨g6, h⟩ := oif_some h
      obtain ⟨g7, h⟩ := oif_some h
      obtain ⟨n8, en8, h⟩ := obind_some h
      refine c_alda E G n5 7 (k := l4.toNatClampNeg) (v := .ref (ad n8)) (aA_k g6).1 (cc_a107 (aA_k g6).2.1) rfl (inb_k g7).1 (inb_k g7).2 (aA_k g6).2.2 (by show va_rf ((T.2.2.2.2 n5 l4.toNatClampNeg).map ad) = _; rw [en8]; rfl) dX10_value_25 ?_
      clear en8
      refine lv_iload_n hx hb dX10_value_26 rfl (lv_at hl 1 rfl) ?_
      obtain ⟨g9, h⟩ := oif_some h
      obtain ⟨g10, h⟩ := oif_some h
      refine c_lald E G n8 1 (k := l1.toNatClampNeg) (aA_k g9).1 (cc_a101 (aA_k g9).2.1) rfl (inb_k g10).1 (inb_k g10).2 (aA_k g9).2.2 dX10_value_27 ?_
      refine lv_topl (fun v11 ev11 => ?_)
      have h := elet_at ev11 h
      clear ev11
      refine lv_ladd hx hb dX10_value_28 ?_
      refine lv_topl (fun v12 ev12 => ?_)
      have h := elet_at ev12 h
      clear ev12
      refine lv_lstore_n (lv' := [(2, .long v12), (0, .ref (ad l0)), (1, .int l1), (4, .int l4)]) hx hb dX10_value_29 rfl hl (by decide) rfl (fun ls hl => ?_)
      obtain ⟨v13, ev13, h⟩ := elet_some h
      refine lv_iinc (v := v13) (lv' := [(4, .int v13), (2, .long v12), (0, .ref (ad l0)), (1, .int l1)]) hx hb dX10_value_30 hl (k := 3) rfl ev13.symm (by decide) rfl (fun ls hl => ?_)
      refine lv_goto (tgt := 10) hx hb dX10_value_33 (by decide) ?_
      have hl := lv_sub hl [2, 3, 1, 0] rfl
      exact ih _ _ _ _ _ _ _ _ h G hl
def g_X10_value (T : AT) (o : Nat) (a0 : Int32) : Option (Int64 × AT) := oif (oO T o 10 = true) <| elet (T.2.2.1 o 2) fun v3 => elet (v3 - 1) fun v4 => g_X10_value_b10 16384 T o a0 (0 : Int64) v4
set_option maxHeartbeats 4000000 in
set_option maxRecDepth 100000 in
theorem u_X10_value (l : Launch) (hst : l.stackTraces = false) (D : va_G) (cI cJ cZ cMic cSrc cSt cAI cAJ : ClassId) (ad : Nat → Nat) (T : AT) (o : Nat) (a0 : Int32) {r1 : Int64} {T1 : AT} (h : g_X10_value T o a0 = some (r1, T1)) : kCl l yX10_value (Cond.code yX10_value cX10_value 5 (some .long) :: wsA) 1 0 cI cJ cZ cMic cSrc cSt cAI cAJ D ad T [.ref (ad o), .int a0] (fun r T9 => r = r1 ∧ T9 = T1) := by
  intro sz
  refine Met.ofW (cc := cX10_value) (maxL := 5) (ret := (some .long)) (by decide) rfl ?_
  intro p e s m args below meth c s₁ B hml hv
  obtain ⟨rfl, hsz, hP, hK, hD0, hX, hN⟩ := hv
  have hx := B.exec
  have hb := B.bytes
  have hr := B.returns
  have hts := atoms_spec (ws := (Cond.code yX10_value cX10_value 5 (some .long) :: wsA)) B.pre
  have hown : s.vm.findClass RX10 = some m.cls := findClass_of_methodNamed B.named
  have hlocks := B.notSynchronized
  subst hsz
  have hD := hD0.self (sz := s.heap.size)
  generalize hAe : va_A (cW ad T.1 (cc cI cJ cZ cMic cSrc cSt cAI cAJ ad T)) s.heap.size = A at hD hX ⊢
  have hA : ∀ q : Nat, s.heap.size ≤ q → A q := fun q h => by rw [← hAe]; exact Or.inr h
  have G : gC cI cJ cZ cMic cSrc cSt cAI cAJ D ad A s.heap s.heap [] T := ⟨hP, hD, va_S.rf⟩
  have E : cE p c cX10_value s m ([.ref (ad o), .int a0] : List Value).toArray (Cond.code yX10_value cX10_value 5 (some .long) :: wsA) D RX10 (CT cI cJ cZ cMic cSrc cSt cAI cAJ) := ⟨hx, hb, hts, hown, hK⟩
  have hl := lv_entry ([.ref (ad o), .int a0]) (n := 5) (Nat.le_of_ble_eq_true rfl)
  rw [lg_entry_eq]
  generalize (lg_sl ([.ref (ad o), .int a0]) ++ List.replicate (5 - (lg_sl ([.ref (ad o), .int a0])).length) Slot.unset).toArray = ls at hl ⊢
  have hl : lv_has ls 5 [(0, .ref (ad o)), (1, .int a0)] := hl
  unfold g_X10_value at h
  refine lv_lconst (v := 0) hx hb dX10_value_0 (by decide) ?_
  refine lv_lstore_n (lv' := [(2, .long (0 : Int64)), (0, .ref (ad o)), (1, .int a0)]) hx hb dX10_value_1 rfl hl (by decide) rfl (fun ls hl => ?_)
  refine lv_aload_n hx hb dX10_value_2 rfl (lv_at hl 1 rfl) ?_
  obtain ⟨g2, h⟩ := oif_some h
  refine c_get E G o 2 (oO_k g2).1 (cc_o10 (oO_k g2).2) rfl (fun w h => .tail _ (iA_12 h)) (by decide) (.tail _ qA_15) rfl rfl dX10_value_3 ?_
  refine lv_topi (fun v3 ev3 => ?_)
  have h := elet_at ev3 h
  clear ev3
  refine lv_iconst (v := 1) hx hb dX10_value_6 (by decide) ?_
  refine lv_isub hx hb dX10_value_7 ?_
  refine lv_topi (fun v4 ev4 => ?_)
  have h := elet_at ev4 h
  clear ev4
  refine lv_istore (lv' := [(4, .int v4), (2, .long (0 : Int64)), (0, .ref (ad o)), (1, .int a0)]) hx hb dX10_value_8 hl (by decide) rfl (fun ls hl => ?_)
  have hl := lv_sub hl [2, 3, 1, 0] rfl
  exact u_X10_value_b10 E hA hX hN hml hst (fun H locs ls G => W.lret (v := r1) hx hb hr (fun t ht hW => ⟨⟨r1, T1, rfl, ⟨rfl, rfl⟩, ⟨by rw [ht]; exact G.1, va_K.moved hW.alike hK, G.2.1⟩⟩, G.2.2.F ht⟩) G.2.2.2.2 dX10_value_37) _ _ _ _ _ _ _ _ _ h G hl
set_option maxHeartbeats 4000000 in
set_option maxRecDepth 100000 in
theorem s_X10_value_b10 {r1 : Int64} {T1 : AT} : ∀ n : Nat, ∀ (T : AT) (l0 : Nat) (l1 : Int32) (l2 : Int64) (l4 : Int32), g_X10_value_b10 n T l0 l1 l2 l4 = some (r1, T1) → SP T T1 := by
  intro n
  induction n with
  | zero =>
    intro T l0 l1 l2 l4 h
    have h : (none : Option (Int64 × AT)) = some (r1, T1) := h
    cases h
  | succ n ih =>
    intro T l0 l1 l2 l4 h
    have p0 := SP.rf T
    unfold g_X10_value_b10 at h
    rcases oif_or h with ⟨c2, h⟩ | ⟨c2, h⟩
    · have h := h
      rw [← (osome2 h).2]
      exact p0
    · have h := h
      obtain ⟨v3, -, h⟩ := elet_some h
      obtain ⟨g4, h⟩ := oif_some h
      obtain ⟨n5, en5, h⟩ := obind_some h
      obtain ⟨g6, h⟩ := oif_some h
      obtain ⟨g7, h⟩ := oif_some h
      obtain ⟨n8, en8, h⟩ := obind_some h
      obtain ⟨g9, h⟩ := oif_some h
      obtain ⟨g10, h⟩ := oif_some h
      obtain ⟨v11, -, h⟩ := elet_some h
      obtain ⟨v12, -, h⟩ := elet_some h
      obtain ⟨v13, ev13, h⟩ := elet_some h
      exact SP.tr p0 (ih _ _ _ _ _ h)
set_option maxHeartbeats 4000000 in
set_option maxRecDepth 100000 in
theorem s_X10_value {T : AT} {o : Nat} {a0 : Int32} {r1 : Int64} {T1 : AT} (h : g_X10_value T o a0 = some (r1, T1)) : SP T T1 := by
  have p0 := SP.rf T
  unfold g_X10_value at h
  obtain ⟨g2, h⟩ := oif_some h
  obtain ⟨v3, -, h⟩ := elet_some h
  obtain ⟨v4, -, h⟩ := elet_some h
  exact SP.tr p0 (s_X10_value_b10 _ _ _ _ _ _ h)
def g_X10_partsBelow_b7  : Nat → AT → Nat → Int32 → Int32 → Option (Int32 × AT)
  | 0, _, _, _, _ => none
  | n + 1, T, l0, l1, l2 => if l2 ≤ 1 then (some (0, T)) else (oif (oO T l0 10 = true) <| obind (T.2.2.2.2 l0 1) fun n4 => oif (aA T n4 107 = true) <| oif (inb l2 (T.2.1 n4).2 = true) <| obind (T.2.2.2.2 n4 l2.toNatClampNeg) fun n7 => oif (aA T n7 101 = true) <| oif (inb l1 (T.2.1 n7).2 = true) <| elet (T.2.2.2.1 n7 l1.toNatClampNeg) fun v10 => elet (lg_cmp v10 (0 : Int64)) fun v11 => if v11 = 0 then (elet (l2 + Int32.ofInt (-1)) fun v13 => g_X10_partsBelow_b7 n T l0 l1 v13) else (elet (l2 - 1) fun v14 => some (v14, T)))
set_option maxHeartbeats 4000000 in
set_option maxRecDepth 100000 in
theorem u_X10_partsBelow_b7 {p : Program} {l : Launch} {e : Env} {s : State} {m : MethodId} {args : Array Value} {below : List Frame} {meth : Method} {c : Code} {Q : State → Prop} {D : va_G} {A : Nat → Prop} {cI cJ cZ cMic cSrc cSt cAI cAJ : ClassId} {ad : Nat → Nat} {r1 : Int32} {T1 : AT} (E : cE p c cX10_partsBelow s m args (Cond.code yX10_partsBelow cX10_partsBelow 3 (some .int) :: wsA) D RX10 (CT cI cJ cZ cMic cSrc cSt cAI cAJ)) (hA : ∀ q : Nat, s.heap.size ≤ q → A q) (hX : xT A s) (hN : nX s) (hml : c.maxLocals = 3) (hst : l.stackTraces = false) (kr28 : ∀ (H : Heap) (locs : List Loc) (ls : Array Slot), gC cI cJ cZ cMic cSrc cSt cAI cAJ D ad A s.heap H locs T1 → W p l e { frames := 1, cells := 0, slots := 0, locals := 0 } s m args below meth c H locs 0 0 Q (F0 m 28 ls [.int r1])) (kr36 : ∀ (H : Heap) (locs : List Loc) (ls : Array Slot), gC cI cJ cZ cMic cSrc cSt cAI cAJ D ad A s.heap H locs T1 → W p l e { frames := 1, cells := 0, slots := 0, locals := 0 } s m args below meth c H locs 0 0 Q (F0 m 36 ls [.int r1])) : ∀ n : Nat, ∀ (T : AT) (H : Heap) (locs : List Loc) (ls : Array Slot) (l0 : Nat) (l1 : Int32) (l2 : Int32), g_X10_partsBelow_b7 n T l0 l1 l2 = some (r1, T1) → gC cI cJ cZ cMic cSrc cSt cAI cAJ D ad A s.heap H locs T → lv_has ls 3 [(0, .ref (ad l0)), (1, .int l1), (2, .int l2)] → W p l e { frames := 1, cells := 0, slots := 0, locals := 0 } s m args below meth c H locs 0 0 Q (F0 m 7 ls []) := by
  have hx := E.1
  have hb := E.2.1
  have hts := E.2.2.1
  have hown := E.2.2.2.1
  have hK := E.2.2.2.2
  intro n
  induction n with
  | zero =>
    intro T H locs ls l0 l1 l2 h
    have h : (none : Option (Int32 × AT)) = some (r1, T1) := h
    cases h
  | succ n ih =>
    intro T H locs ls l0 l1 l2 h G hl
    unfold g_X10_partsBelow_b7 at h
    refine lv_iload_n hx hb dX10_partsBelow_7 rfl (lv_at hl 2 rfl) ?_
    refine lv_iconst (v := 1) hx hb dX10_partsBelow_8 (by decide) ?_
    refine lv_icmp_le (tgt := 35) hx hb dX10_partsBelow_9 (by decide) (fun c2 => ?_) (fun c2 => ?_)
    · have h := oif_pos c2 h
      refine lv_iconst (v := 0) hx hb dX10_partsBelow_35 (by decide) ?_
      rw [(osome2 h).2] at G
      refine lv_to (osome2 h).1 ?_
      exact kr36 _ _ _ G
    · have h := oif_neg c2 h
      refine lv_aload_n hx hb dX10_partsBelow_12 rfl (lv_at hl 0 rfl) ?_
      obtain ⟨g3, h⟩ := oif_some h
      obtain ⟨n4, en4, h⟩ := obind_some h
      refine c_get E G l0 1 (v := .ref (ad n4)) (oO_k g3).1 (cc_o10 (oO_k g3).2) rfl (fun w h => .tail _ (iA_12 h)) (by decide) (.tail _ qA_14) rfl (by rw [en4]; rfl) dX10_partsBelow_13 ?_
      clear en4
      refine lv_iload_n hx hb dX10_partsBelow_16 rfl (lv_at hl 2 rfl) ?_
      obtain ⟨g5, h⟩ := oif_some h
      obtain ⟨g6, h⟩ := oif_some h
      obtain ⟨n7, en7, h⟩ := obind_some h
      refine c_alda E G n4 7 (k := l2.toNatClampNeg) (v := .ref (ad n7)) (aA_k g5).1 (cc_a107 (aA_k g5).2.1) rfl (inb_k g6).1 (inb_k g6).2 (aA_k g5).2.2 (by show va_rf ((T.2.2.2.2 n4 l2.toNatClampNeg).map ad) = _; rw [en7]; rfl) dX10_partsBelow_17 ?_
      clear en7
      refine lv_iload_n hx hb dX10_partsBelow_18 rfl (lv_at hl 1 rfl) ?_
      obtain ⟨g8, h⟩ := oif_some h
      obtain ⟨g9, h⟩ := oif_some h
      refine c_lald E G n7 1 (k := l1.toNatClampNeg) (aA_k g8).1 (cc_a101 (aA_k g8).2.1) rfl (inb_k g9).1 (inb_k g9).2 (aA_k g8).2.2 dX10_partsBelow_19 ?_
      refine lv_topl (fun v10 ev10 => ?_)
      have h := elet_at ev10 h
      clear ev10
      refine lv_lconst (v := 0) hx hb dX10_partsBelow_20 (by decide) ?_
      refine W.lcmp hx hb dX10_partsBelow_21 ?_
      refine lv_topi (fun v11 ev11 => ?_)
      have h := elet_at ev11 h
      clear ev11
      refine lv_if_eq (tgt := 29) hx hb dX10_partsBelow_22 (by decide) (fun c12 => ?_) (fun c12 => ?_)
      · have h := oif_pos c12 h
        obtain ⟨v13, ev13, h⟩ := elet_some h
        refine lv_iinc (v := v13) (lv' := [(2, .int v13), (0, .ref (ad l0)), (1, .int l1)]) hx hb dX10_partsBelow_29 hl (k := 2) rfl ev13.symm (by decide) rfl (fun ls hl => ?_)
        refine lv_goto (tgt := 7) hx hb dX10_partsBelow_32 (by decide) ?_
        have hl := lv_sub hl [1, 2, 0] rfl
        exact ih _ _ _ _ _ _ _ h G hl
      · have h := oif_neg c12 h
        refine lv_iload_n hx hb dX10_partsBelow_25 rfl (lv_at hl 2 rfl) ?_
        refine lv_iconst (v := 1) hx hb dX10_partsBelow_26 (by decide) ?_
        refine lv_isub hx hb dX10_partsBelow_27 ?_
        refine lv_topi (fun v14 ev14 => ?_)
        have h := elet_at ev14 h
        clear ev14
        rw [(osome2 h).2] at G
        refine lv_to (osome2 h).1 ?_
        exact kr28 _ _ _ G
def g_X10_partsBelow (T : AT) (o : Nat) (a0 : Int32) : Option (Int32 × AT) := oif (oO T o 10 = true) <| elet (T.2.2.1 o 2) fun v3 => elet (v3 - 1) fun v4 => g_X10_partsBelow_b7 16384 T o a0 v4
set_option maxHeartbeats 4000000 in
set_option maxRecDepth 100000 in
theorem u_X10_partsBelow (l : Launch) (hst : l.stackTraces = false) (D : va_G) (cI cJ cZ cMic cSrc cSt cAI cAJ : ClassId) (ad : Nat → Nat) (T : AT) (o : Nat) (a0 : Int32) {r1 : Int32} {T1 : AT} (h : g_X10_partsBelow T o a0 = some (r1, T1)) : kCi l yX10_partsBelow (Cond.code yX10_partsBelow cX10_partsBelow 3 (some .int) :: wsA) 1 0 cI cJ cZ cMic cSrc cSt cAI cAJ D ad T [.ref (ad o), .int a0] (fun r T9 => r = r1 ∧ T9 = T1) := by
  intro sz
  refine Met.ofW (cc := cX10_partsBelow) (maxL := 3) (ret := (some .int)) (by decide) rfl ?_
  intro p e s m args below meth c s₁ B hml hv
  obtain ⟨rfl, hsz, hP, hK, hD0, hX, hN⟩ := hv
  have hx := B.exec
  have hb := B.bytes
  have hr := B.returns
  have hts := atoms_spec (ws := (Cond.code yX10_partsBelow cX10_partsBelow 3 (some .int) :: wsA)) B.pre
  have hown : s.vm.findClass RX10 = some m.cls := findClass_of_methodNamed B.named
  have hlocks := B.notSynchronized
  subst hsz
  have hD := hD0.self (sz := s.heap.size)
  generalize hAe : va_A (cW ad T.1 (cc cI cJ cZ cMic cSrc cSt cAI cAJ ad T)) s.heap.size = A at hD hX ⊢
  have hA : ∀ q : Nat, s.heap.size ≤ q → A q := fun q h => by rw [← hAe]; exact Or.inr h
  have G : gC cI cJ cZ cMic cSrc cSt cAI cAJ D ad A s.heap s.heap [] T := ⟨hP, hD, va_S.rf⟩
  have E : cE p c cX10_partsBelow s m ([.ref (ad o), .int a0] : List Value).toArray (Cond.code yX10_partsBelow cX10_partsBelow 3 (some .int) :: wsA) D RX10 (CT cI cJ cZ cMic cSrc cSt cAI cAJ) := ⟨hx, hb, hts, hown, hK⟩
  have hl := lv_entry ([.ref (ad o), .int a0]) (n := 3) (Nat.le_of_ble_eq_true rfl)
  rw [lg_entry_eq]
  generalize (lg_sl ([.ref (ad o), .int a0]) ++ List.replicate (3 - (lg_sl ([.ref (ad o), .int a0])).length) Slot.unset).toArray = ls at hl ⊢
  have hl : lv_has ls 3 [(0, .ref (ad o)), (1, .int a0)] := hl
  unfold g_X10_partsBelow at h
  refine lv_aload_n hx hb dX10_partsBelow_0 rfl (lv_at hl 0 rfl) ?_
  obtain ⟨g2, h⟩ := oif_some h
  refine c_get E G o 2 (oO_k g2).1 (cc_o10 (oO_k g2).2) rfl (fun w h => .tail _ (iA_12 h)) (by decide) (.tail _ qA_15) rfl rfl dX10_partsBelow_1 ?_
  refine lv_topi (fun v3 ev3 => ?_)
  have h := elet_at ev3 h
  clear ev3
  refine lv_iconst (v := 1) hx hb dX10_partsBelow_4 (by decide) ?_
  refine lv_isub hx hb dX10_partsBelow_5 ?_
  refine lv_topi (fun v4 ev4 => ?_)
  have h := elet_at ev4 h
  clear ev4
  refine lv_istore_n (lv' := [(2, .int v4), (0, .ref (ad o)), (1, .int a0)]) hx hb dX10_partsBelow_6 rfl hl (by decide) rfl (fun ls hl => ?_)
  have hl := lv_sub hl [1, 2, 0] rfl
  exact u_X10_partsBelow_b7 E hA hX hN hml hst (fun H locs ls G => W.iret (v := r1) hx hb hr (fun t ht hW => ⟨⟨r1, T1, rfl, ⟨rfl, rfl⟩, ⟨by rw [ht]; exact G.1, va_K.moved hW.alike hK, G.2.1⟩⟩, G.2.2.F ht⟩) G.2.2.2.2 dX10_partsBelow_28) (fun H locs ls G => W.iret (v := r1) hx hb hr (fun t ht hW => ⟨⟨r1, T1, rfl, ⟨rfl, rfl⟩, ⟨by rw [ht]; exact G.1, va_K.moved hW.alike hK, G.2.1⟩⟩, G.2.2.F ht⟩) G.2.2.2.2 dX10_partsBelow_36) _ _ _ _ _ _ _ _ h G hl
set_option maxHeartbeats 4000000 in
set_option maxRecDepth 100000 in
theorem s_X10_partsBelow_b7 {r1 : Int32} {T1 : AT} : ∀ n : Nat, ∀ (T : AT) (l0 : Nat) (l1 : Int32) (l2 : Int32), g_X10_partsBelow_b7 n T l0 l1 l2 = some (r1, T1) → SP T T1 := by
  intro n
  induction n with
  | zero =>
    intro T l0 l1 l2 h
    have h : (none : Option (Int32 × AT)) = some (r1, T1) := h
    cases h
  | succ n ih =>
    intro T l0 l1 l2 h
    have p0 := SP.rf T
    unfold g_X10_partsBelow_b7 at h
    rcases oif_or h with ⟨c2, h⟩ | ⟨c2, h⟩
    · have h := h
      rw [← (osome2 h).2]
      exact p0
    · have h := h
      obtain ⟨g3, h⟩ := oif_some h
      obtain ⟨n4, en4, h⟩ := obind_some h
      obtain ⟨g5, h⟩ := oif_some h
      obtain ⟨g6, h⟩ := oif_some h
      obtain ⟨n7, en7, h⟩ := obind_some h
      obtain ⟨g8, h⟩ := oif_some h
      obtain ⟨g9, h⟩ := oif_some h
      obtain ⟨v10, -, h⟩ := elet_some h
      obtain ⟨v11, -, h⟩ := elet_some h
      rcases oif_or h with ⟨c12, h⟩ | ⟨c12, h⟩
      · have h := h
        obtain ⟨v13, ev13, h⟩ := elet_some h
        exact SP.tr p0 (ih _ _ _ _ h)
      · have h := h
        obtain ⟨v14, -, h⟩ := elet_some h
        rw [← (osome2 h).2]
        exact p0
set_option maxHeartbeats 4000000 in
set_option maxRecDepth 100000 in
theorem s_X10_partsBelow {T : AT} {o : Nat} {a0 : Int32} {r1 : Int32} {T1 : AT} (h : g_X10_partsBelow T o a0 = some (r1, T1)) : SP T T1 := by
  have p0 := SP.rf T
  unfold g_X10_partsBelow at h
  obtain ⟨g2, h⟩ := oif_some h
  obtain ⟨v3, -, h⟩ := elet_some h
  obtain ⟨v4, -, h⟩ := elet_some h
  exact SP.tr p0 (s_X10_partsBelow_b7 _ _ _ _ _ h)
def g_X10_leading_b88  (T : AT) (s0 : Int64) : Option (UInt32 × AT) := elet (FP.l2f s0) fun v2 => some (v2, T)
set_option maxHeartbeats 4000000 in
set_option maxRecDepth 100000 in
theorem u_X10_leading_b88 {p : Program} {l : Launch} {e : Env} {s : State} {m : MethodId} {args : Array Value} {below : List Frame} {meth : Method} {c : Code} {Q : State → Prop} {D : va_G} {A : Nat → Prop} {cI cJ cZ cMic cSrc cSt cAI cAJ : ClassId} {ad : Nat → Nat} {r1 : UInt32} {T1 : AT} (E : cE p c cX10_leading s m args (Cond.code yX10_leading cX10_leading 7 (some .float) :: wsA) D RX10 (CT cI cJ cZ cMic cSrc cSt cAI cAJ)) (hA : ∀ q : Nat, s.heap.size ≤ q → A q) (hX : xT A s) (hN : nX s) (hml : c.maxLocals = 7) (hst : l.stackTraces = false) (kr89 : ∀ (H : Heap) (locs : List Loc) (ls : Array Slot), gC cI cJ cZ cMic cSrc cSt cAI cAJ D ad A s.heap H locs T1 → W p l e { frames := 2, cells := 0, slots := 0, locals := 22 } s m args below meth c H locs 0 0 Q (F0 m 89 ls [.float r1])) : ∀ (T : AT) (H : Heap) (locs : List Loc) (ls : Array Slot) (s0 : Int64), g_X10_leading_b88 T s0 = some (r1, T1) → gC cI cJ cZ cMic cSrc cSt cAI cAJ D ad A s.heap H locs T → lv_has ls 7 [] → W p l e { frames := 2, cells := 0, slots := 0, locals := 22 } s m args below meth c H locs 0 0 Q (F0 m 88 ls [.long s0]) := by
  have hx := E.1
  have hb := E.2.1
  have hts := E.2.2.1
  have hown := E.2.2.2.1
  have hK := E.2.2.2.2
  intro T H locs ls s0 h G hl
  unfold g_X10_leading_b88 at h
  refine lv_l2f hx hb dX10_leading_88 ?_
  refine lv_topf (fun v2 ev2 => ?_)
  have h := elet_at ev2 h
  clear ev2
  rw [(osome2 h).2] at G
  refine lv_tof (osome2 h).1 ?_
  exact kr89 _ _ _ G
def g_X10_leading_b73  (T : AT) (l3 : Int64) (l5 : Int64) : Option (UInt32 × AT) := elet (lg_cmp l3 (0 : Int64)) fun v2 => if v2 = 0 then (g_X10_leading_b88 T l5) else (elet (l5 ||| (1 : Int64)) fun v4 => g_X10_leading_b88 T v4)
set_option maxHeartbeats 4000000 in
set_option maxRecDepth 100000 in
theorem u_X10_leading_b73 {p : Program} {l : Launch} {e : Env} {s : State} {m : MethodId} {args : Array Value} {below : List Frame} {meth : Method} {c : Code} {Q : State → Prop} {D : va_G} {A : Nat → Prop} {cI cJ cZ cMic cSrc cSt cAI cAJ : ClassId} {ad : Nat → Nat} {r1 : UInt32} {T1 : AT} (E : cE p c cX10_leading s m args (Cond.code yX10_leading cX10_leading 7 (some .float) :: wsA) D RX10 (CT cI cJ cZ cMic cSrc cSt cAI cAJ)) (hA : ∀ q : Nat, s.heap.size ≤ q → A q) (hX : xT A s) (hN : nX s) (hml : c.maxLocals = 7) (hst : l.stackTraces = false) (kr89 : ∀ (H : Heap) (locs : List Loc) (ls : Array Slot), gC cI cJ cZ cMic cSrc cSt cAI cAJ D ad A s.heap H locs T1 → W p l e { frames := 2, cells := 0, slots := 0, locals := 22 } s m args below meth c H locs 0 0 Q (F0 m 89 ls [.float r1])) : ∀ (T : AT) (H : Heap) (locs : List Loc) (ls : Array Slot) (l3 : Int64) (l5 : Int64), g_X10_leading_b73 T l3 l5 = some (r1, T1) → gC cI cJ cZ cMic cSrc cSt cAI cAJ D ad A s.heap H locs T → lv_has ls 7 [(3, .long l3), (5, .long l5)] → W p l e { frames := 2, cells := 0, slots := 0, locals := 22 } s m args below meth c H locs 0 0 Q (F0 m 73 ls []) := by
  have hx := E.1
  have hb := E.2.1
  have hts := E.2.2.1
  have hown := E.2.2.2.1
  have hK := E.2.2.2.2
  intro T H locs ls l3 l5 h G hl
  unfold g_X10_leading_b73 at h
  refine lv_lload_n hx hb dX10_leading_73 rfl (lv_at hl 0 rfl) ?_
  refine lv_lconst (v := 0) hx hb dX10_leading_74 (by decide) ?_
  refine W.lcmp hx hb dX10_leading_75 ?_
  refine lv_topi (fun v2 ev2 => ?_)
  have h := elet_at ev2 h
  clear ev2
  refine lv_if_ne (tgt := 84) hx hb dX10_leading_76 (by decide) (fun c3 => ?_) (fun c3 => ?_)
  · have h := oif_neg c3 h
    refine lv_lload hx hb dX10_leading_84 (lv_at hl 1 rfl) ?_
    refine lv_lconst (v := 1) hx hb dX10_leading_86 (by decide) ?_
    refine lv_lor hx hb dX10_leading_87 ?_
    refine lv_topl (fun v4 ev4 => ?_)
    have h := elet_at ev4 h
    clear ev4
    have hl := lv_sub hl [] rfl
    exact u_X10_leading_b88 E hA hX hN hml hst kr89 _ _ _ _ _ h G hl
  · have h := oif_pos c3 h
    refine lv_lload hx hb dX10_leading_79 (lv_at hl 1 rfl) ?_
    refine lv_goto (tgt := 88) hx hb dX10_leading_81 (by decide) ?_
    have hl := lv_sub hl [] rfl
    exact u_X10_leading_b88 E hA hX hN hml hst kr89 _ _ _ _ _ h G hl
def g_X10_leading_b11  : Nat → AT → Nat → Int32 → Int32 → Int64 → Int32 → Option (UInt32 × AT)
  | 0, _, _, _, _, _, _ => none
  | n + 1, T, l0, l1, l2, l3, l5 => if l2 ≤ l5 then (oif (oO T l0 10 = true) <| obind (T.2.2.2.2 l0 1) fun n4 => oif (aA T n4 107 = true) <| oif (inb l2 (T.2.1 n4).2 = true) <| obind (T.2.2.2.2 n4 l2.toNatClampNeg) fun n7 => oif (aA T n7 101 = true) <| oif (inb l1 (T.2.1 n7).2 = true) <| elet (T.2.2.2.1 n7 l1.toNatClampNeg) fun v10 => elet (l2 + 1) fun v11 => oif (oO T l0 10 = true) <| elet (T.2.2.1 l0 2) fun v13 => if v13 ≤ v11 then (g_X10_leading_b73 T l3 v10) else (oif (oO T l0 10 = true) <| obind (T.2.2.2.2 l0 1) fun n16 => elet (l2 + 1) fun v17 => oif (aA T n16 107 = true) <| oif (inb v17 (T.2.1 n16).2 = true) <| obind (T.2.2.2.2 n16 v17.toNatClampNeg) fun n20 => oif (aA T n20 101 = true) <| oif (inb l1 (T.2.1 n20).2 = true) <| elet (T.2.2.2.1 n20 l1.toNatClampNeg) fun v23 => elet (v23 <<< ((28 : Int32).toInt64 &&& 63)) fun v24 => elet (v10 + v24) fun v25 => g_X10_leading_b73 T l3 v25)) else (oif (oO T l0 10 = true) <| obind (T.2.2.2.2 l0 1) fun n27 => oif (aA T n27 107 = true) <| oif (inb l5 (T.2.1 n27).2 = true) <| obind (T.2.2.2.2 n27 l5.toNatClampNeg) fun n30 => oif (aA T n30 101 = true) <| oif (inb l1 (T.2.1 n30).2 = true) <| elet (T.2.2.2.1 n30 l1.toNatClampNeg) fun v33 => elet (l3 ||| v33) fun v34 => elet (l5 + Int32.ofInt (1)) fun v35 => g_X10_leading_b11 n T l0 l1 l2 v34 v35)
set_option maxHeartbeats 4000000 in
set_option maxRecDepth 100000 in
theorem u_X10_leading_b11 {p : Program} {l : Launch} {e : Env} {s : State} {m : MethodId} {args : Array Value} {below : List Frame} {meth : Method} {c : Code} {Q : State → Prop} {D : va_G} {A : Nat → Prop} {cI cJ cZ cMic cSrc cSt cAI cAJ : ClassId} {ad : Nat → Nat} {r1 : UInt32} {T1 : AT} (E : cE p c cX10_leading s m args (Cond.code yX10_leading cX10_leading 7 (some .float) :: wsA) D RX10 (CT cI cJ cZ cMic cSrc cSt cAI cAJ)) (hA : ∀ q : Nat, s.heap.size ≤ q → A q) (hX : xT A s) (hN : nX s) (hml : c.maxLocals = 7) (hst : l.stackTraces = false) (kr89 : ∀ (H : Heap) (locs : List Loc) (ls : Array Slot), gC cI cJ cZ cMic cSrc cSt cAI cAJ D ad A s.heap H locs T1 → W p l e { frames := 2, cells := 0, slots := 0, locals := 22 } s m args below meth c H locs 0 0 Q (F0 m 89 ls [.float r1])) : ∀ n : Nat, ∀ (T : AT) (H : Heap) (locs : List Loc) (ls : Array Slot) (l0 : Nat) (l1 : Int32) (l2 : Int32) (l3 : Int64) (l5 : Int32), g_X10_leading_b11 n T l0 l1 l2 l3 l5 = some (r1, T1) → gC cI cJ cZ cMic cSrc cSt cAI cAJ D ad A s.heap H locs T → lv_has ls 7 [(0, .ref (ad l0)), (1, .int l1), (2, .int l2), (3, .long l3), (5, .int l5)] → W p l e { frames := 2, cells := 0, slots := 0, locals := 22 } s m args below meth c H locs 0 0 Q (F0 m 11 ls []) := by
  have hx := E.1
  have hb := E.2.1
  have hts := E.2.2.1
  have hown := E.2.2.2.1
  have hK := E.2.2.2.2
  intro n
  induction n with
  | zero =>
    intro T H locs ls l0 l1 l2 l3 l5 h
    have h : (none : Option (UInt32 × AT)) = some (r1, T1) := h
    cases h
  | succ n ih =>
    intro T H locs ls l0 l1 l2 l3 l5 h G hl
    unfold g_X10_leading_b11 at h
    refine lv_iload hx hb dX10_leading_11 (lv_at hl 4 rfl) ?_
    refine lv_iload_n hx hb dX10_leading_13 rfl (lv_at hl 2 rfl) ?_
    refine lv_icmp_ge (tgt := 35) hx hb dX10_leading_14 (by decide) (fun c2 => ?_) (fun c2 => ?_)
    · have h := oif_pos c2 h
      refine lv_aload_n hx hb dX10_leading_35 rfl (lv_at hl 0 rfl) ?_
      obtain ⟨g3, h⟩ := oif_some h
      obtain ⟨n4, en4, h⟩ := obind_some h
      refine c_get E G l0 1 (v := .ref (ad n4)) (oO_k g3).1 (cc_o10 (oO_k g3).2) rfl (fun w h => .tail _ (iA_12 h)) (by decide) (.tail _ qA_14) rfl (by rw [en4]; rfl) dX10_leading_36 ?_
      clear en4
      refine lv_iload_n hx hb dX10_leading_39 rfl (lv_at hl 2 rfl) ?_
      obtain ⟨g5, h⟩ := oif_some h
      obtain ⟨g6, h⟩ := oif_some h
      obtain ⟨n7, en7, h⟩ := obind_some h
      refine c_alda E G n4 7 (k := l2.toNatClampNeg) (v := .ref (ad n7)) (aA_k g5).1 (cc_a107 (aA_k g5).2.1) rfl (inb_k g6).1 (inb_k g6).2 (aA_k g5).2.2 (by show va_rf ((T.2.2.2.2 n4 l2.toNatClampNeg).map ad) = _; rw [en7]; rfl) dX10_leading_40 ?_
      clear en7
      refine lv_iload_n hx hb dX10_leading_41 rfl (lv_at hl 1 rfl) ?_
      obtain ⟨g8, h⟩ := oif_some h
      obtain ⟨g9, h⟩ := oif_some h
      refine c_lald E G n7 1 (k := l1.toNatClampNeg) (aA_k g8).1 (cc_a101 (aA_k g8).2.1) rfl (inb_k g9).1 (inb_k g9).2 (aA_k g8).2.2 dX10_leading_42 ?_
      refine lv_topl (fun v10 ev10 => ?_)
      have h := elet_at ev10 h
      clear ev10
      refine lv_lstore (lv' := [(5, .long v10), (0, .ref (ad l0)), (1, .int l1), (2, .int l2), (3, .long l3)]) hx hb dX10_leading_43 hl (by decide) rfl (fun ls hl => ?_)
      refine lv_iload_n hx hb dX10_leading_45 rfl (lv_at hl 3 rfl) ?_
      refine lv_iconst (v := 1) hx hb dX10_leading_46 (by decide) ?_
      refine lv_iadd hx hb dX10_leading_47 ?_
      refine lv_topi (fun v11 ev11 => ?_)
      have h := elet_at ev11 h
      clear ev11
      refine lv_aload_n hx hb dX10_leading_48 rfl (lv_at hl 1 rfl) ?_
      obtain ⟨g12, h⟩ := oif_some h
      refine c_get E G l0 2 (oO_k g12).1 (cc_o10 (oO_k g12).2) rfl (fun w h => .tail _ (iA_12 h)) (by decide) (.tail _ qA_15) rfl rfl dX10_leading_49 ?_
      refine lv_topi (fun v13 ev13 => ?_)
      have h := elet_at ev13 h
      clear ev13
      refine lv_icmp_ge (tgt := 73) hx hb dX10_leading_52 (by decide) (fun c14 => ?_) (fun c14 => ?_)
      · have h := oif_pos c14 h
        have hl := lv_sub hl [4, 0] rfl
        exact u_X10_leading_b73 E hA hX hN hml hst kr89 _ _ _ _ _ _ h G hl
      · have h := oif_neg c14 h
        refine lv_lload hx hb dX10_leading_55 (lv_at hl 0 rfl) ?_
        refine lv_aload_n hx hb dX10_leading_57 rfl (lv_at hl 1 rfl) ?_
        obtain ⟨g15, h⟩ := oif_some h
        obtain ⟨n16, en16, h⟩ := obind_some h
        refine c_get E G l0 1 (v := .ref (ad n16)) (oO_k g15).1 (cc_o10 (oO_k g15).2) rfl (fun w h => .tail _ (iA_12 h)) (by decide) (.tail _ qA_14) rfl (by rw [en16]; rfl) dX10_leading_58 ?_
        clear en16
        refine lv_iload_n hx hb dX10_leading_61 rfl (lv_at hl 3 rfl) ?_
        refine lv_iconst (v := 1) hx hb dX10_leading_62 (by decide) ?_
        refine lv_iadd hx hb dX10_leading_63 ?_
        refine lv_topi (fun v17 ev17 => ?_)
        have h := elet_at ev17 h
        clear ev17
        obtain ⟨g18, h⟩ := oif_some h
        obtain ⟨g19, h⟩ := oif_some h
        obtain ⟨n20, en20, h⟩ := obind_some h
        refine c_alda E G n16 7 (k := v17.toNatClampNeg) (v := .ref (ad n20)) (aA_k g18).1 (cc_a107 (aA_k g18).2.1) rfl (inb_k g19).1 (inb_k g19).2 (aA_k g18).2.2 (by show va_rf ((T.2.2.2.2 n16 v17.toNatClampNeg).map ad) = _; rw [en20]; rfl) dX10_leading_64 ?_
        clear en20
        refine lv_iload_n hx hb dX10_leading_65 rfl (lv_at hl 2 rfl) ?_
        obtain ⟨g21, h⟩ := oif_some h
        obtain ⟨g22, h⟩ := oif_some h
        refine c_lald E G n20 1 (k := l1.toNatClampNeg) (aA_k g21).1 (cc_a101 (aA_k g21).2.1) rfl (inb_k g22).1 (inb_k g22).2 (aA_k g21).2.2 dX10_leading_66 ?_
        refine lv_topl (fun v23 ev23 => ?_)
        have h := elet_at ev23 h
        clear ev23
        refine lv_bipush (v := 28) hx hb dX10_leading_67 (by decide) ?_
        refine lv_lshl (v := v23 <<< ((28 : Int32).toInt64 &&& 63)) hx hb dX10_leading_69 rfl ?_
        refine lv_topl (fun v24 ev24 => ?_)
        have h := elet_at ev24 h
        clear ev24
        refine lv_ladd hx hb dX10_leading_70 ?_
        refine lv_topl (fun v25 ev25 => ?_)
        have h := elet_at ev25 h
        clear ev25
        refine lv_lstore (lv' := [(5, .long v25), (0, .ref (ad l0)), (1, .int l1), (2, .int l2), (3, .long l3)]) hx hb dX10_leading_71 hl (by decide) rfl (fun ls hl => ?_)
        have hl := lv_sub hl [4, 0] rfl
        exact u_X10_leading_b73 E hA hX hN hml hst kr89 _ _ _ _ _ _ h G hl
    · have h := oif_neg c2 h
      refine lv_lload_n hx hb dX10_leading_17 rfl (lv_at hl 3 rfl) ?_
      refine lv_aload_n hx hb dX10_leading_18 rfl (lv_at hl 0 rfl) ?_
      obtain ⟨g26, h⟩ := oif_some h
      obtain ⟨n27, en27, h⟩ := obind_some h
      refine c_get E G l0 1 (v := .ref (ad n27)) (oO_k g26).1 (cc_o10 (oO_k g26).2) rfl (fun w h => .tail _ (iA_12 h)) (by decide) (.tail _ qA_14) rfl (by rw [en27]; rfl) dX10_leading_19 ?_
      clear en27
      refine lv_iload hx hb dX10_leading_22 (lv_at hl 4 rfl) ?_
      obtain ⟨g28, h⟩ := oif_some h
      obtain ⟨g29, h⟩ := oif_some h
      obtain ⟨n30, en30, h⟩ := obind_some h
      refine c_alda E G n27 7 (k := l5.toNatClampNeg) (v := .ref (ad n30)) (aA_k g28).1 (cc_a107 (aA_k g28).2.1) rfl (inb_k g29).1 (inb_k g29).2 (aA_k g28).2.2 (by show va_rf ((T.2.2.2.2 n27 l5.toNatClampNeg).map ad) = _; rw [en30]; rfl) dX10_leading_24 ?_
      clear en30
      refine lv_iload_n hx hb dX10_leading_25 rfl (lv_at hl 1 rfl) ?_
      obtain ⟨g31, h⟩ := oif_some h
      obtain ⟨g32, h⟩ := oif_some h
      refine c_lald E G n30 1 (k := l1.toNatClampNeg) (aA_k g31).1 (cc_a101 (aA_k g31).2.1) rfl (inb_k g32).1 (inb_k g32).2 (aA_k g31).2.2 dX10_leading_26 ?_
      refine lv_topl (fun v33 ev33 => ?_)
      have h := elet_at ev33 h
      clear ev33
      refine lv_lor hx hb dX10_leading_27 ?_
      refine lv_topl (fun v34 ev34 => ?_)
      have h := elet_at ev34 h
      clear ev34
      refine lv_lstore_n (lv' := [(3, .long v34), (0, .ref (ad l0)), (1, .int l1), (2, .int l2), (5, .int l5)]) hx hb dX10_leading_28 rfl hl (by decide) rfl (fun ls hl => ?_)
      obtain ⟨v35, ev35, h⟩ := elet_some h
      refine lv_iinc (v := v35) (lv' := [(5, .int v35), (3, .long v34), (0, .ref (ad l0)), (1, .int l1), (2, .int l2)]) hx hb dX10_leading_29 hl (k := 4) rfl ev35.symm (by decide) rfl (fun ls hl => ?_)
      refine lv_goto (tgt := 11) hx hb dX10_leading_32 (by decide) ?_
      have hl := lv_sub hl [2, 3, 4, 1, 0] rfl
      exact ih _ _ _ _ _ _ _ _ _ h G hl
def g_X10_leading (T : AT) (o : Nat) (a0 : Int32) : Option (UInt32 × AT) := oif (oO T o 10 = true) <| obind2 (g_X10_partsBelow T o a0) fun r5 T3 => g_X10_leading_b11 16384 T3 o a0 r5 (0 : Int64) 0
set_option maxHeartbeats 4000000 in
set_option maxRecDepth 100000 in
theorem u_X10_leading (l : Launch) (hst : l.stackTraces = false) (D : va_G) (cI cJ cZ cMic cSrc cSt cAI cAJ : ClassId) (ad : Nat → Nat) (T : AT) (o : Nat) (a0 : Int32) {r1 : UInt32} {T1 : AT} (h : g_X10_leading T o a0 = some (r1, T1)) : kCf l yX10_leading (Cond.code yX10_leading cX10_leading 7 (some .float) :: wsA) 2 22 cI cJ cZ cMic cSrc cSt cAI cAJ D ad T [.ref (ad o), .int a0] (fun r T9 => r = r1 ∧ T9 = T1) := by
  intro sz
  refine Met.ofW (cc := cX10_leading) (maxL := 7) (ret := (some .float)) (by decide) rfl ?_
  intro p e s m args below meth c s₁ B hml hv
  obtain ⟨rfl, hsz, hP, hK, hD0, hX, hN⟩ := hv
  have hx := B.exec
  have hb := B.bytes
  have hr := B.returns
  have hts := atoms_spec (ws := (Cond.code yX10_leading cX10_leading 7 (some .float) :: wsA)) B.pre
  have hown : s.vm.findClass RX10 = some m.cls := findClass_of_methodNamed B.named
  have hlocks := B.notSynchronized
  subst hsz
  have hD := hD0.self (sz := s.heap.size)
  generalize hAe : va_A (cW ad T.1 (cc cI cJ cZ cMic cSrc cSt cAI cAJ ad T)) s.heap.size = A at hD hX ⊢
  have hA : ∀ q : Nat, s.heap.size ≤ q → A q := fun q h => by rw [← hAe]; exact Or.inr h
  have G : gC cI cJ cZ cMic cSrc cSt cAI cAJ D ad A s.heap s.heap [] T := ⟨hP, hD, va_S.rf⟩
  have E : cE p c cX10_leading s m ([.ref (ad o), .int a0] : List Value).toArray (Cond.code yX10_leading cX10_leading 7 (some .float) :: wsA) D RX10 (CT cI cJ cZ cMic cSrc cSt cAI cAJ) := ⟨hx, hb, hts, hown, hK⟩
  have hl := lv_entry ([.ref (ad o), .int a0]) (n := 7) (Nat.le_of_ble_eq_true rfl)
  rw [lg_entry_eq]
  generalize (lg_sl ([.ref (ad o), .int a0]) ++ List.replicate (7 - (lg_sl ([.ref (ad o), .int a0])).length) Slot.unset).toArray = ls at hl ⊢
  have hl : lv_has ls 7 [(0, .ref (ad o)), (1, .int a0)] := hl
  unfold g_X10_leading at h
  refine lv_aload_n hx hb dX10_leading_0 rfl (lv_at hl 0 rfl) ?_
  refine lv_iload_n hx hb dX10_leading_1 rfl (lv_at hl 1 rfl) ?_
  obtain ⟨g2, h⟩ := oif_some h
  obtain ⟨r5, T3, eT3, h⟩ := obind2_some h
  refine q_cvi (As := [.int a0]) (rest := []) E G hA hX hN hml (u_X10_partsBelow l hst D cI cJ cZ cMic cSrc cSt cAI cAJ ad T o a0 eT3) (cwV 1 hts (gaV qA_640 qA_641 qA_642 qA_6 qA_643) rfl rfl rfl (by decide +kernel) ⟨Nat.le_of_ble_eq_true rfl, Nat.le_of_ble_eq_true rfl⟩) (oO_k g2).1 (cc_o10 (oO_k g2).2) rfl rfl hl.1 rfl (lv_room (Nat.le_of_ble_eq_true rfl)) dX10_leading_2 ⟨Nat.zero_le _, Nat.zero_le _⟩ (fun q6 T4 H locs hq G => ?_)
  obtain ⟨hq1, hq2⟩ := hq
  rw [hq2] at G
  refine lv_to hq1 ?_
  clear hq1 hq2 eT3
  refine lv_istore_n (lv' := [(2, .int r5), (0, .ref (ad o)), (1, .int a0)]) hx hb dX10_leading_5 rfl hl (by decide) rfl (fun ls hl => ?_)
  refine lv_lconst (v := 0) hx hb dX10_leading_6 (by decide) ?_
  refine lv_lstore_n (lv' := [(3, .long (0 : Int64)), (2, .int r5), (0, .ref (ad o)), (1, .int a0)]) hx hb dX10_leading_7 rfl hl (by decide) rfl (fun ls hl => ?_)
  refine lv_iconst (v := 0) hx hb dX10_leading_8 (by decide) ?_
  refine lv_istore (lv' := [(5, .int 0), (3, .long (0 : Int64)), (2, .int r5), (0, .ref (ad o)), (1, .int a0)]) hx hb dX10_leading_9 hl (by decide) rfl (fun ls hl => ?_)
  have hl := lv_sub hl [3, 4, 2, 1, 0] rfl
  exact u_X10_leading_b11 E hA hX hN hml hst (fun H locs ls G => W.fret (v := r1) hx hb hr (fun t ht hW => ⟨⟨r1, T1, rfl, ⟨rfl, rfl⟩, ⟨by rw [ht]; exact G.1, va_K.moved hW.alike hK, G.2.1⟩⟩, G.2.2.F ht⟩) G.2.2.2.2 dX10_leading_89) _ _ _ _ _ _ _ _ _ _ h G hl
set_option maxHeartbeats 4000000 in
set_option maxRecDepth 100000 in
theorem s_X10_leading_b88 {r1 : UInt32} {T1 : AT} : ∀ (T : AT) (s0 : Int64), g_X10_leading_b88 T s0 = some (r1, T1) → SP T T1 := by
  intro T s0 h
  have p0 := SP.rf T
  unfold g_X10_leading_b88 at h
  obtain ⟨v2, -, h⟩ := elet_some h
  rw [← (osome2 h).2]
  exact p0
set_option maxHeartbeats 4000000 in
set_option maxRecDepth 100000 in
theorem s_X10_leading_b73 {r1 : UInt32} {T1 : AT} : ∀ (T : AT) (l3 : Int64) (l5 : Int64), g_X10_leading_b73 T l3 l5 = some (r1, T1) → SP T T1 := by
  intro T l3 l5 h
  have p0 := SP.rf T
  unfold g_X10_leading_b73 at h
  obtain ⟨v2, -, h⟩ := elet_some h
  rcases oif_or h with ⟨c3, h⟩ | ⟨c3, h⟩
  · have h := h
    exact SP.tr p0 (s_X10_leading_b88 _ _ h)
  · have h := h
    obtain ⟨v4, -, h⟩ := elet_some h
    exact SP.tr p0 (s_X10_leading_b88 _ _ h)
set_option maxHeartbeats 4000000 in
set_option maxRecDepth 100000 in
theorem s_X10_leading_b11 {r1 : UInt32} {T1 : AT} : ∀ n : Nat, ∀ (T : AT) (l0 : Nat) (l1 : Int32) (l2 : Int32) (l3 : Int64) (l5 : Int32), g_X10_leading_b11 n T l0 l1 l2 l3 l5 = some (r1, T1) → SP T T1 := by
  intro n
  induction n with
  | zero =>
    intro T l0 l1 l2 l3 l5 h
    have h : (none : Option (UInt32 × AT)) = some (r1, T1) := h
    cases h
  | succ n ih =>
    intro T l0 l1 l2 l3 l5 h
    have p0 := SP.rf T
    unfold g_X10_leading_b11 at h
    rcases oif_or h with ⟨c2, h⟩ | ⟨c2, h⟩
    · have h := h
      obtain ⟨g3, h⟩ := oif_some h
      obtain ⟨n4, en4, h⟩ := obind_some h
      obtain ⟨g5, h⟩ := oif_some h
      obtain ⟨g6, h⟩ := oif_some h
      obtain ⟨n7, en7, h⟩ := obind_some h
      obtain ⟨g8, h⟩ := oif_some h
      obtain ⟨g9, h⟩ := oif_some h
      obtain ⟨v10, -, h⟩ := elet_some h
      obtain ⟨v11, -, h⟩ := elet_some h
      obtain ⟨g12, h⟩ := oif_some h
      obtain ⟨v13, -, h⟩ := elet_some h
      rcases oif_or h with ⟨c14, h⟩ | ⟨c14, h⟩
      · have h := h
        exact SP.tr p0 (s_X10_leading_b73 _ _ _ h)
      · have h := h
        obtain ⟨g15, h⟩ := oif_some h
        obtain ⟨n16, en16, h⟩ := obind_some h
        obtain ⟨v17, -, h⟩ := elet_some h
        obtain ⟨g18, h⟩ := oif_some h
        obtain ⟨g19, h⟩ := oif_some h
        obtain ⟨n20, en20, h⟩ := obind_some h
        obtain ⟨g21, h⟩ := oif_some h
        obtain ⟨g22, h⟩ := oif_some h
        obtain ⟨v23, -, h⟩ := elet_some h
        obtain ⟨v24, -, h⟩ := elet_some h
        obtain ⟨v25, -, h⟩ := elet_some h
        exact SP.tr p0 (s_X10_leading_b73 _ _ _ h)
    · have h := h
      obtain ⟨g26, h⟩ := oif_some h
      obtain ⟨n27, en27, h⟩ := obind_some h
      obtain ⟨g28, h⟩ := oif_some h
      obtain ⟨g29, h⟩ := oif_some h
      obtain ⟨n30, en30, h⟩ := obind_some h
      obtain ⟨g31, h⟩ := oif_some h
      obtain ⟨g32, h⟩ := oif_some h
      obtain ⟨v33, -, h⟩ := elet_some h
      obtain ⟨v34, -, h⟩ := elet_some h
      obtain ⟨v35, ev35, h⟩ := elet_some h
      exact SP.tr p0 (ih _ _ _ _ _ _ h)
set_option maxHeartbeats 4000000 in
set_option maxRecDepth 100000 in
theorem s_X10_leading {T : AT} {o : Nat} {a0 : Int32} {r1 : UInt32} {T1 : AT} (h : g_X10_leading T o a0 = some (r1, T1)) : SP T T1 := by
  have p0 := SP.rf T
  unfold g_X10_leading at h
  obtain ⟨g2, h⟩ := oif_some h
  obtain ⟨r4, T3, eT3, h⟩ := obind2_some h
  have p1 : SP T T3 := SP.tr p0 (s_X10_partsBelow eT3)
  exact SP.tr p1 (s_X10_leading_b11 _ _ _ _ _ _ _ h)
def g_X10_ratio_b30  : Nat → AT → Nat → Int32 → UInt32 → Int32 → Option (UInt32 × AT)
  | 0, _, _, _, _, _ => none
  | n + 1, T, l0, l1, l4, l5 => oif (oO T l0 10 = true) <| obind2 (g_X10_partsBelow T l0 l1) fun r5 T3 => if r5 ≤ l5 then (some (l4, T3)) else (oif (FP.fmul l4 (1300234240 : UInt32) &&& 0x7fffffff ≤ 0x7f800000) <| elet (FP.fmul l4 (1300234240 : UInt32)) fun v9 => elet (l5 + Int32.ofInt (1)) fun v10 => g_X10_ratio_b30 n T3 l0 l1 v9 v10)
set_option maxHeartbeats 4000000 in
set_option maxRecDepth 100000 in
theorem u_X10_ratio_b30 {p : Program} {l : Launch} {e : Env} {s : State} {m : MethodId} {args : Array Value} {below : List Frame} {meth : Method} {c : Code} {Q : State → Prop} {D : va_G} {A : Nat → Prop} {cI cJ cZ cMic cSrc cSt cAI cAJ : ClassId} {ad : Nat → Nat} {r1 : UInt32} {T1 : AT} (E : cE p c cX10_ratio s m args (Cond.code yX10_ratio cX10_ratio 6 (some .float) :: wsA) D RX10 (CT cI cJ cZ cMic cSrc cSt cAI cAJ)) (hA : ∀ q : Nat, s.heap.size ≤ q → A q) (hX : xT A s) (hN : nX s) (hml : c.maxLocals = 6) (hst : l.stackTraces = false) (kr13 : ∀ (H : Heap) (locs : List Loc) (ls : Array Slot), gC cI cJ cZ cMic cSrc cSt cAI cAJ D ad A s.heap H locs T1 → W p l e { frames := 3, cells := 0, slots := 0, locals := 48 } s m args below meth c H locs 0 0 Q (F0 m 13 ls [.float r1])) (kr55 : ∀ (H : Heap) (locs : List Loc) (ls : Array Slot), gC cI cJ cZ cMic cSrc cSt cAI cAJ D ad A s.heap H locs T1 → W p l e { frames := 3, cells := 0, slots := 0, locals := 48 } s m args below meth c H locs 0 0 Q (F0 m 55 ls [.float r1])) : ∀ n : Nat, ∀ (T : AT) (H : Heap) (locs : List Loc) (ls : Array Slot) (l0 : Nat) (l1 : Int32) (l4 : UInt32) (l5 : Int32), g_X10_ratio_b30 n T l0 l1 l4 l5 = some (r1, T1) → gC cI cJ cZ cMic cSrc cSt cAI cAJ D ad A s.heap H locs T → lv_has ls 6 [(0, .ref (ad l0)), (1, .int l1), (4, .float l4), (5, .int l5)] → W p l e { frames := 3, cells := 0, slots := 0, locals := 48 } s m args below meth c H locs 0 0 Q (F0 m 30 ls []) := by
  have hx := E.1
  have hb := E.2.1
  have hts := E.2.2.1
  have hown := E.2.2.2.1
  have hK := E.2.2.2.2
  intro n
  induction n with
  | zero =>
    intro T H locs ls l0 l1 l4 l5 h
    have h : (none : Option (UInt32 × AT)) = some (r1, T1) := h
    cases h
  | succ n ih =>
    intro T H locs ls l0 l1 l4 l5 h G hl
    unfold g_X10_ratio_b30 at h
    refine lv_iload hx hb dX10_ratio_30 (lv_at hl 3 rfl) ?_
    refine lv_aload_n hx hb dX10_ratio_32 rfl (lv_at hl 0 rfl) ?_
    refine lv_iload_n hx hb dX10_ratio_33 rfl (lv_at hl 1 rfl) ?_
    obtain ⟨g2, h⟩ := oif_some h
    obtain ⟨r5, T3, eT3, h⟩ := obind2_some h
    refine q_cvi (As := [.int l1]) (rest := [.int l5]) E G hA hX hN hml (u_X10_partsBelow l hst D cI cJ cZ cMic cSrc cSt cAI cAJ ad T l0 l1 eT3) (cwV 1 hts (gaV qA_640 qA_641 qA_642 qA_6 qA_643) rfl rfl rfl (by decide +kernel) ⟨Nat.le_of_ble_eq_true rfl, Nat.le_of_ble_eq_true rfl⟩) (oO_k g2).1 (cc_o10 (oO_k g2).2) rfl rfl hl.1 rfl (lv_room (Nat.le_of_ble_eq_true rfl)) dX10_ratio_34 ⟨Nat.zero_le _, Nat.zero_le _⟩ (fun q6 T4 H locs hq G => ?_)
    obtain ⟨hq1, hq2⟩ := hq
    rw [hq2] at G
    refine lv_to hq1 ?_
    clear hq1 hq2 eT3
    refine lv_icmp_ge (tgt := 53) hx hb dX10_ratio_37 (by decide) (fun c7 => ?_) (fun c7 => ?_)
    · have h := oif_pos c7 h
      refine lv_fload hx hb dX10_ratio_53 (lv_at hl 2 rfl) ?_
      rw [(osome2 h).2] at G
      refine lv_tof (osome2 h).1 ?_
      exact kr55 _ _ _ G
    · have h := oif_neg c7 h
      refine lv_fload hx hb dX10_ratio_40 (lv_at hl 2 rfl) ?_
      refine lv_ldcf (v := 1300234240) hx hb hown (hts _ (.tail _ qA_635)) dX10_ratio_42 ?_
      obtain ⟨g8, h⟩ := oif_some h
      refine lv_fmul hx hb dX10_ratio_44 g8 ?_
      refine lv_topf (fun v9 ev9 => ?_)
      have h := elet_at ev9 h
      clear ev9
      refine lv_fstore (lv' := [(4, .float v9), (0, .ref (ad l0)), (1, .int l1), (5, .int l5)]) hx hb dX10_ratio_45 hl (by decide) rfl (fun ls hl => ?_)
      obtain ⟨v10, ev10, h⟩ := elet_some h
      refine lv_iinc (v := v10) (lv' := [(5, .int v10), (4, .float v9), (0, .ref (ad l0)), (1, .int l1)]) hx hb dX10_ratio_47 hl (k := 3) rfl ev10.symm (by decide) rfl (fun ls hl => ?_)
      refine lv_goto (tgt := 30) hx hb dX10_ratio_50 (by decide) ?_
      have hl := lv_sub hl [2, 3, 1, 0] rfl
      exact ih _ _ _ _ _ _ _ _ h G hl
def g_X10_ratio (T : AT) (o : Nat) (a0 : Int32) (a1 : Int32) : Option (UInt32 × AT) := oif (oO T o 10 = true) <| obind2 (g_X10_leading T o a1) fun r5 T3 => elet (Op.cmpValue (FP.fcmp r5 FP.fconst0) .l) fun v7 => if v7 = 0 then (some (FP.fconst0, T3)) else (oif (oO T3 o 10 = true) <| obind2 (g_X10_leading T3 o a0) fun r12 T10 => oif (FP.fdiv r12 r5 &&& 0x7fffffff ≤ 0x7f800000) <| elet (FP.fdiv r12 r5) fun v15 => oif (oO T10 o 10 = true) <| obind2 (g_X10_partsBelow T10 o a1) fun r19 T17 => g_X10_ratio_b30 16384 T17 o a0 v15 r19)
set_option maxHeartbeats 4000000 in
set_option maxRecDepth 100000 in
theorem u_X10_ratio (l : Launch) (hst : l.stackTraces = false) (D : va_G) (cI cJ cZ cMic cSrc cSt cAI cAJ : ClassId) (ad : Nat → Nat) (T : AT) (o : Nat) (a0 : Int32) (a1 : Int32) {r1 : UInt32} {T1 : AT} (h : g_X10_ratio T o a0 a1 = some (r1, T1)) : kCf l yX10_ratio (Cond.code yX10_ratio cX10_ratio 6 (some .float) :: wsA) 3 48 cI cJ cZ cMic cSrc cSt cAI cAJ D ad T [.ref (ad o), .int a0, .int a1] (fun r T9 => r = r1 ∧ T9 = T1) := by
  intro sz
  refine Met.ofW (cc := cX10_ratio) (maxL := 6) (ret := (some .float)) (by decide) rfl ?_
  intro p e s m args below meth c s₁ B hml hv
  obtain ⟨rfl, hsz, hP, hK, hD0, hX, hN⟩ := hv
  have hx := B.exec
  have hb := B.bytes
  have hr := B.returns
  have hts := atoms_spec (ws := (Cond.code yX10_ratio cX10_ratio 6 (some .float) :: wsA)) B.pre
  have hown : s.vm.findClass RX10 = some m.cls := findClass_of_methodNamed B.named
  have hlocks := B.notSynchronized
  subst hsz
  have hD := hD0.self (sz := s.heap.size)
  generalize hAe : va_A (cW ad T.1 (cc cI cJ cZ cMic cSrc cSt cAI cAJ ad T)) s.heap.size = A at hD hX ⊢
  have hA : ∀ q : Nat, s.heap.size ≤ q → A q := fun q h => by rw [← hAe]; exact Or.inr h
  have G : gC cI cJ cZ cMic cSrc cSt cAI cAJ D ad A s.heap s.heap [] T := ⟨hP, hD, va_S.rf⟩
  have E : cE p c cX10_ratio s m ([.ref (ad o), .int a0, .int a1] : List Value).toArray (Cond.code yX10_ratio cX10_ratio 6 (some .float) :: wsA) D RX10 (CT cI cJ cZ cMic cSrc cSt cAI cAJ) := ⟨hx, hb, hts, hown, hK⟩
  have hl := lv_entry ([.ref (ad o), .int a0, .int a1]) (n := 6) (Nat.le_of_ble_eq_true rfl)
  rw [lg_entry_eq]
  generalize (lg_sl ([.ref (ad o), .int a0, .int a1]) ++ List.replicate (6 - (lg_sl ([.ref (ad o), .int a0, .int a1])).length) Slot.unset).toArray = ls at hl ⊢
  have hl : lv_has ls 6 [(0, .ref (ad o)), (1, .int a0), (2, .int a1)] := hl
  unfold g_X10_ratio at h
  refine lv_aload_n hx hb dX10_ratio_0 rfl (lv_at hl 0 rfl) ?_
  refine lv_iload_n hx hb dX10_ratio_1 rfl (lv_at hl 2 rfl) ?_
  obtain ⟨g2, h⟩ := oif_some h
  obtain ⟨r5, T3, eT3, h⟩ := obind2_some h
  refine q_cvf (As := [.int a1]) (rest := []) E G hA hX hN hml (u_X10_leading l hst D cI cJ cZ cMic cSrc cSt cAI cAJ ad T o a1 eT3) (cwV 1 hts (gaV qA_636 qA_637 qA_638 qA_6 qA_639) rfl rfl rfl (by decide +kernel) ⟨Nat.le_of_ble_eq_true rfl, Nat.le_of_ble_eq_true rfl⟩) (oO_k g2).1 (cc_o10 (oO_k g2).2) rfl rfl hl.1 rfl (lv_room (Nat.le_of_ble_eq_true rfl)) dX10_ratio_2 ⟨Nat.zero_le _, Nat.zero_le _⟩ (fun q6 T4 H locs hq G => ?_)
  obtain ⟨hq1, hq2⟩ := hq
  rw [hq2] at G
  refine lv_tof hq1 ?_
  clear hq1 hq2 eT3
  refine lv_fstore_n (lv' := [(3, .float r5), (0, .ref (ad o)), (1, .int a0), (2, .int a1)]) hx hb dX10_ratio_5 rfl hl (by decide) rfl (fun ls hl => ?_)
  refine lv_fload_n hx hb dX10_ratio_6 rfl (lv_at hl 0 rfl) ?_
  refine lv_fconst0 hx hb dX10_ratio_7 ?_
  refine lv_fcmp hx hb dX10_ratio_8 ?_
  refine lv_topi (fun v7 ev7 => ?_)
  have h := elet_at ev7 h
  clear ev7
  refine lv_if_ne (tgt := 14) hx hb dX10_ratio_9 (by decide) (fun c8 => ?_) (fun c8 => ?_)
  · have h := oif_neg c8 h
    refine lv_aload_n hx hb dX10_ratio_14 rfl (lv_at hl 1 rfl) ?_
    refine lv_iload_n hx hb dX10_ratio_15 rfl (lv_at hl 2 rfl) ?_
    obtain ⟨g9, h⟩ := oif_some h
    obtain ⟨r12, T10, eT10, h⟩ := obind2_some h
    refine q_cvf (As := [.int a0]) (rest := []) E G hA hX hN hml (u_X10_leading l hst D cI cJ cZ cMic cSrc cSt cAI cAJ ad T3 o a0 eT10) (cwV 1 hts (gaV qA_636 qA_637 qA_638 qA_6 qA_639) rfl rfl rfl (by decide +kernel) ⟨Nat.le_of_ble_eq_true rfl, Nat.le_of_ble_eq_true rfl⟩) (oO_k g9).1 (cc_o10 (oO_k g9).2) rfl rfl hl.1 rfl (lv_room (Nat.le_of_ble_eq_true rfl)) dX10_ratio_16 ⟨Nat.zero_le _, Nat.zero_le _⟩ (fun q13 T11 H locs hq G => ?_)
    obtain ⟨hq1, hq2⟩ := hq
    rw [hq2] at G
    refine lv_tof hq1 ?_
    clear hq1 hq2 eT10
    refine lv_fload_n hx hb dX10_ratio_19 rfl (lv_at hl 0 rfl) ?_
    obtain ⟨g14, h⟩ := oif_some h
    refine lv_fdiv hx hb dX10_ratio_20 g14 ?_
    refine lv_topf (fun v15 ev15 => ?_)
    have h := elet_at ev15 h
    clear ev15
    refine lv_fstore (lv' := [(4, .float v15), (3, .float r5), (0, .ref (ad o)), (1, .int a0), (2, .int a1)]) hx hb dX10_ratio_21 hl (by decide) rfl (fun ls hl => ?_)
    refine lv_aload_n hx hb dX10_ratio_23 rfl (lv_at hl 2 rfl) ?_
    refine lv_iload_n hx hb dX10_ratio_24 rfl (lv_at hl 4 rfl) ?_
    obtain ⟨g16, h⟩ := oif_some h
    obtain ⟨r19, T17, eT17, h⟩ := obind2_some h
    refine q_cvi (As := [.int a1]) (rest := []) E G hA hX hN hml (u_X10_partsBelow l hst D cI cJ cZ cMic cSrc cSt cAI cAJ ad T10 o a1 eT17) (cwV 1 hts (gaV qA_640 qA_641 qA_642 qA_6 qA_643) rfl rfl rfl (by decide +kernel) ⟨Nat.le_of_ble_eq_true rfl, Nat.le_of_ble_eq_true rfl⟩) (oO_k g16).1 (cc_o10 (oO_k g16).2) rfl rfl hl.1 rfl (lv_room (Nat.le_of_ble_eq_true rfl)) dX10_ratio_25 ⟨Nat.zero_le _, Nat.zero_le _⟩ (fun q20 T18 H locs hq G => ?_)
    obtain ⟨hq1, hq2⟩ := hq
    rw [hq2] at G
    refine lv_to hq1 ?_
    clear hq1 hq2 eT17
    refine lv_istore (lv' := [(5, .int r19), (4, .float v15), (3, .float r5), (0, .ref (ad o)), (1, .int a0), (2, .int a1)]) hx hb dX10_ratio_28 hl (by decide) rfl (fun ls hl => ?_)
    have hl := lv_sub hl [3, 4, 1, 0] rfl
    exact u_X10_ratio_b30 E hA hX hN hml hst (fun H locs ls G => W.fret (v := r1) hx hb hr (fun t ht hW => ⟨⟨r1, T1, rfl, ⟨rfl, rfl⟩, ⟨by rw [ht]; exact G.1, va_K.moved hW.alike hK, G.2.1⟩⟩, G.2.2.F ht⟩) G.2.2.2.2 dX10_ratio_13) (fun H locs ls G => W.fret (v := r1) hx hb hr (fun t ht hW => ⟨⟨r1, T1, rfl, ⟨rfl, rfl⟩, ⟨by rw [ht]; exact G.1, va_K.moved hW.alike hK, G.2.1⟩⟩, G.2.2.F ht⟩) G.2.2.2.2 dX10_ratio_55) _ _ _ _ _ _ _ _ _ h G hl
  · have h := oif_pos c8 h
    refine lv_fconst0 hx hb dX10_ratio_12 ?_
    exact W.fret (v := FP.fconst0) hx hb hr (fun t ht hW => ⟨⟨FP.fconst0, T3, rfl, osome2 h, ⟨by rw [ht]; exact G.1, va_K.moved hW.alike hK, G.2.1⟩⟩, G.2.2.F ht⟩) G.2.2.2.2 dX10_ratio_13
set_option maxHeartbeats 4000000 in
set_option maxRecDepth 100000 in
theorem s_X10_ratio_b30 {r1 : UInt32} {T1 : AT} : ∀ n : Nat, ∀ (T : AT) (l0 : Nat) (l1 : Int32) (l4 : UInt32) (l5 : Int32), g_X10_ratio_b30 n T l0 l1 l4 l5 = some (r1, T1) → SP T T1 := by
  intro n
  induction n with
  | zero =>
    intro T l0 l1 l4 l5 h
    have h : (none : Option (UInt32 × AT)) = some (r1, T1) := h
    cases h
  | succ n ih =>
    intro T l0 l1 l4 l5 h
    have p0 := SP.rf T
    unfold g_X10_ratio_b30 at h
    obtain ⟨g2, h⟩ := oif_some h
    obtain ⟨r4, T3, eT3, h⟩ := obind2_some h
    have p1 : SP T T3 := SP.tr p0 (s_X10_partsBelow eT3)
    rcases oif_or h with ⟨c5, h⟩ | ⟨c5, h⟩
    · have h := h
      rw [← (osome2 h).2]
      exact p1
    · have h := h
      obtain ⟨g6, h⟩ := oif_some h
      obtain ⟨v7, -, h⟩ := elet_some h
      obtain ⟨v8, ev8, h⟩ := elet_some h
      exact SP.tr p1 (ih _ _ _ _ _ h)
set_option maxHeartbeats 4000000 in
set_option maxRecDepth 100000 in
theorem s_X10_ratio {T : AT} {o : Nat} {a0 : Int32} {a1 : Int32} {r1 : UInt32} {T1 : AT} (h : g_X10_ratio T o a0 a1 = some (r1, T1)) : SP T T1 := by
  have p0 := SP.rf T
  unfold g_X10_ratio at h
  obtain ⟨g2, h⟩ := oif_some h
  obtain ⟨r4, T3, eT3, h⟩ := obind2_some h
  have p1 : SP T T3 := SP.tr p0 (s_X10_leading eT3)
  obtain ⟨v5, -, h⟩ := elet_some h
  rcases oif_or h with ⟨c6, h⟩ | ⟨c6, h⟩
  · have h := h
    rw [← (osome2 h).2]
    exact p1
  · have h := h
    obtain ⟨g7, h⟩ := oif_some h
    obtain ⟨r9, T8, eT8, h⟩ := obind2_some h
    have p2 : SP T T8 := SP.tr p1 (s_X10_leading eT8)
    obtain ⟨g10, h⟩ := oif_some h
    obtain ⟨v11, -, h⟩ := elet_some h
    obtain ⟨g12, h⟩ := oif_some h
    obtain ⟨r14, T13, eT13, h⟩ := obind2_some h
    have p3 : SP T T13 := SP.tr p2 (s_X10_partsBelow eT13)
    exact SP.tr p3 (s_X10_ratio_b30 _ _ _ _ _ _ h)
def g_X11_append (T : AT) (o : Nat) (a0 : Int32) (a1 : Int32) (a2 : Int32) (a3 : Int32) (a4 : Int32) : Option (Int32 × AT) := oif (oO T o 11 = true) <| obind (T.2.2.2.2 o 0) fun n3 => oif (oO T n3 9 = true) <| elet (T.2.2.1 n3 1) fun v5 => elet (v5 + 20) fun v6 => if v6 ≤ 1000 then (oif (oO T o 11 = true) <| obind (T.2.2.2.2 o 0) fun n9 => oif (oO T n9 9 = true) <| obind (g_X9_addWord T n9 a0) fun T11 => oif (oO T11 o 11 = true) <| obind (T11.2.2.2.2 o 0) fun n14 => oif (oO T11 n14 9 = true) <| obind (g_X9_addWord T11 n14 a1) fun T16 => oif (oO T16 o 11 = true) <| obind (T16.2.2.2.2 o 0) fun n19 => oif (oO T16 n19 9 = true) <| obind (g_X9_addWord T16 n19 a2) fun T21 => oif (oO T21 o 11 = true) <| obind (T21.2.2.2.2 o 0) fun n24 => oif (oO T21 n24 9 = true) <| obind (g_X9_addWord T21 n24 a3) fun T26 => oif (oO T26 o 11 = true) <| obind (T26.2.2.2.2 o 0) fun n29 => oif (oO T26 n29 9 = true) <| obind (g_X9_addWord T26 n29 a4) fun T31 => oif (oO T31 o 11 = true) <| obind (T31.2.2.2.2 o 0) fun n34 => oif (oO T31 n34 9 = true) <| elet (T31.2.2.1 n34 1) fun v36 => some (v36, T31)) else (some ((-1), T))
set_option maxHeartbeats 4000000 in
set_option maxRecDepth 100000 in
theorem u_X11_append (l : Launch) (hst : l.stackTraces = false) (D : va_G) (cI cJ cZ cMic cSrc cSt cAI cAJ : ClassId) (ad : Nat → Nat) (T : AT) (o : Nat) (a0 : Int32) (a1 : Int32) (a2 : Int32) (a3 : Int32) (a4 : Int32) {r1 : Int32} {T1 : AT} (h : g_X11_append T o a0 a1 a2 a3 a4 = some (r1, T1)) : kCi l yX11_append (Cond.code yX11_append cX11_append 6 (some .int) :: wsA) 2 22 cI cJ cZ cMic cSrc cSt cAI cAJ D ad T [.ref (ad o), .int a0, .int a1, .int a2, .int a3, .int a4] (fun r T9 => r = r1 ∧ T9 = T1) := by
  intro sz
  refine Met.ofW (cc := cX11_append) (maxL := 6) (ret := (some .int)) (by decide) rfl ?_
  intro p e s m args below meth c s₁ B hml hv
  obtain ⟨rfl, hsz, hP, hK, hD0, hX, hN⟩ := hv
  have hx := B.exec
  have hb := B.bytes
  have hr := B.returns
  have hts := atoms_spec (ws := (Cond.code yX11_append cX11_append 6 (some .int) :: wsA)) B.pre
  have hown : s.vm.findClass RX11 = some m.cls := findClass_of_methodNamed B.named
  have hlocks := B.notSynchronized
  subst hsz
  have hD := hD0.self (sz := s.heap.size)
  generalize hAe : va_A (cW ad T.1 (cc cI cJ cZ cMic cSrc cSt cAI cAJ ad T)) s.heap.size = A at hD hX ⊢
  have hA : ∀ q : Nat, s.heap.size ≤ q → A q := fun q h => by rw [← hAe]; exact Or.inr h
  have G : gC cI cJ cZ cMic cSrc cSt cAI cAJ D ad A s.heap s.heap [] T := ⟨hP, hD, va_S.rf⟩
  have E : cE p c cX11_append s m ([.ref (ad o), .int a0, .int a1, .int a2, .int a3, .int a4] : List Value).toArray (Cond.code yX11_append cX11_append 6 (some .int) :: wsA) D RX11 (CT cI cJ cZ cMic cSrc cSt cAI cAJ) := ⟨hx, hb, hts, hown, hK⟩
  have hl := lv_entry ([.ref (ad o), .int a0, .int a1, .int a2, .int a3, .int a4]) (n := 6) (Nat.le_of_ble_eq_true rfl)
  rw [lg_entry_eq]
  generalize (lg_sl ([.ref (ad o), .int a0, .int a1, .int a2, .int a3, .int a4]) ++ List.replicate (6 - (lg_sl ([.ref (ad o), .int a0, .int a1, .int a2, .int a3, .int a4])).length) Slot.unset).toArray = ls at hl ⊢
  have hl : lv_has ls 6 [(0, .ref (ad o)), (1, .int a0), (2, .int a1), (3, .int a2), (4, .int a3), (5, .int a4)] := hl
  unfold g_X11_append at h
  refine lv_aload_n hx hb dX11_append_0 rfl (lv_at hl 0 rfl) ?_
  obtain ⟨g2, h⟩ := oif_some h
  obtain ⟨n3, en3, h⟩ := obind_some h
  refine c_get E G o 0 (v := .ref (ad n3)) (oO_k g2).1 (cc_o11 (oO_k g2).2) rfl (fun w h => .tail _ (iA_23 h)) (by decide) (.tail _ qA_648) rfl (by rw [en3]; rfl) dX11_append_1 ?_
  clear en3
  obtain ⟨g4, h⟩ := oif_some h
  refine c_get E G n3 1 (oO_k g4).1 (cc_o9 (oO_k g4).2) rfl (fun w h => .tail _ (iA_18 h)) (by decide) (.tail _ qA_688) rfl rfl dX11_append_4 ?_
  refine lv_topi (fun v5 ev5 => ?_)
  have h := elet_at ev5 h
  clear ev5
  refine lv_bipush (v := 20) hx hb dX11_append_7 (by decide) ?_
  refine lv_iadd hx hb dX11_append_9 ?_
  refine lv_topi (fun v6 ev6 => ?_)
  have h := elet_at ev6 h
  clear ev6
  refine lv_sipush (v := 1000) hx hb dX11_append_10 (by decide) ?_
  refine lv_icmp_le (tgt := 18) hx hb dX11_append_13 (by decide) (fun c7 => ?_) (fun c7 => ?_)
  · have h := oif_pos c7 h
    refine lv_aload_n hx hb dX11_append_18 rfl (lv_at hl 0 rfl) ?_
    obtain ⟨g8, h⟩ := oif_some h
    obtain ⟨n9, en9, h⟩ := obind_some h
    refine c_get E G o 0 (v := .ref (ad n9)) (oO_k g8).1 (cc_o11 (oO_k g8).2) rfl (fun w h => .tail _ (iA_23 h)) (by decide) (.tail _ qA_648) rfl (by rw [en9]; rfl) dX11_append_19 ?_
    clear en9
    refine lv_iload_n hx hb dX11_append_22 rfl (lv_at hl 1 rfl) ?_
    obtain ⟨g10, h⟩ := oif_some h
    obtain ⟨T11, eT11, h⟩ := obind_some h
    refine q_cvv (As := [.int a0]) (rest := []) E G hA hX hN hml (u_X9_addWord l hst D cI cJ cZ cMic cSrc cSt cAI cAJ ad T n9 a0 eT11) (cwV 1 hts (gaV qA_689 qA_690 qA_691 qA_185 qA_631) rfl rfl rfl (by decide +kernel) ⟨Nat.le_of_ble_eq_true rfl, Nat.le_of_ble_eq_true rfl⟩) (oO_k g10).1 (cc_o9 (oO_k g10).2) rfl rfl hl.1 rfl (lv_room (Nat.le_of_ble_eq_true rfl)) dX11_append_23 ⟨Nat.zero_le _, Nat.zero_le _⟩ (fun T12 H locs hq G => ?_)
    rw [hq] at G
    clear hq eT11
    refine lv_aload_n hx hb dX11_append_26 rfl (lv_at hl 0 rfl) ?_
    obtain ⟨g13, h⟩ := oif_some h
    obtain ⟨n14, en14, h⟩ := obind_some h
    refine c_get E G o 0 (v := .ref (ad n14)) (oO_k g13).1 (cc_o11 (oO_k g13).2) rfl (fun w h => .tail _ (iA_23 h)) (by decide) (.tail _ qA_648) rfl (by rw [en14]; rfl) dX11_append_27 ?_
    clear en14
    refine lv_iload_n hx hb dX11_append_30 rfl (lv_at hl 2 rfl) ?_
    obtain ⟨g15, h⟩ := oif_some h
    obtain ⟨T16, eT16, h⟩ := obind_some h
    refine q_cvv (As := [.int a1]) (rest := []) E G hA hX hN hml (u_X9_addWord l hst D cI cJ cZ cMic cSrc cSt cAI cAJ ad T11 n14 a1 eT16) (cwV 1 hts (gaV qA_689 qA_690 qA_691 qA_185 qA_631) rfl rfl rfl (by decide +kernel) ⟨Nat.le_of_ble_eq_true rfl, Nat.le_of_ble_eq_true rfl⟩) (oO_k g15).1 (cc_o9 (oO_k g15).2) rfl rfl hl.1 rfl (lv_room (Nat.le_of_ble_eq_true rfl)) dX11_append_31 ⟨Nat.zero_le _, Nat.zero_le _⟩ (fun T17 H locs hq G => ?_)
    rw [hq] at G
    clear hq eT16
    refine lv_aload_n hx hb dX11_append_34 rfl (lv_at hl 0 rfl) ?_
    obtain ⟨g18, h⟩ := oif_some h
    obtain ⟨n19, en19, h⟩ := obind_some h
    refine c_get E G o 0 (v := .ref (ad n19)) (oO_k g18).1 (cc_o11 (oO_k g18).2) rfl (fun w h => .tail _ (iA_23 h)) (by decide) (.tail _ qA_648) rfl (by rw [en19]; rfl) dX11_append_35 ?_
    clear en19
    refine lv_iload_n hx hb dX11_append_38 rfl (lv_at hl 3 rfl) ?_
    obtain ⟨g20, h⟩ := oif_some h
    obtain ⟨T21, eT21, h⟩ := obind_some h
    refine q_cvv (As := [.int a2]) (rest := []) E G hA hX hN hml (u_X9_addWord l hst D cI cJ cZ cMic cSrc cSt cAI cAJ ad T16 n19 a2 eT21) (cwV 1 hts (gaV qA_689 qA_690 qA_691 qA_185 qA_631) rfl rfl rfl (by decide +kernel) ⟨Nat.le_of_ble_eq_true rfl, Nat.le_of_ble_eq_true rfl⟩) (oO_k g20).1 (cc_o9 (oO_k g20).2) rfl rfl hl.1 rfl (lv_room (Nat.le_of_ble_eq_true rfl)) dX11_append_39 ⟨Nat.zero_le _, Nat.zero_le _⟩ (fun T22 H locs hq G => ?_)
    rw [hq] at G
    clear hq eT21
    refine lv_aload_n hx hb dX11_append_42 rfl (lv_at hl 0 rfl) ?_
    obtain ⟨g23, h⟩ := oif_some h
    obtain ⟨n24, en24, h⟩ := obind_some h
    refine c_get E G o 0 (v := .ref (ad n24)) (oO_k g23).1 (cc_o11 (oO_k g23).2) rfl (fun w h => .tail _ (iA_23 h)) (by decide) (.tail _ qA_648) rfl (by rw [en24]; rfl) dX11_append_43 ?_
    clear en24
    refine lv_iload hx hb dX11_append_46 (lv_at hl 4 rfl) ?_
    obtain ⟨g25, h⟩ := oif_some h
    obtain ⟨T26, eT26, h⟩ := obind_some h
    refine q_cvv (As := [.int a3]) (rest := []) E G hA hX hN hml (u_X9_addWord l hst D cI cJ cZ cMic cSrc cSt cAI cAJ ad T21 n24 a3 eT26) (cwV 1 hts (gaV qA_689 qA_690 qA_691 qA_185 qA_631) rfl rfl rfl (by decide +kernel) ⟨Nat.le_of_ble_eq_true rfl, Nat.le_of_ble_eq_true rfl⟩) (oO_k g25).1 (cc_o9 (oO_k g25).2) rfl rfl hl.1 rfl (lv_room (Nat.le_of_ble_eq_true rfl)) dX11_append_48 ⟨Nat.zero_le _, Nat.zero_le _⟩ (fun T27 H locs hq G => ?_)
    rw [hq] at G
    clear hq eT26
    refine lv_aload_n hx hb dX11_append_51 rfl (lv_at hl 0 rfl) ?_
    obtain ⟨g28, h⟩ := oif_some h
    obtain ⟨n29, en29, h⟩ := obind_some h
    refine c_get E G o 0 (v := .ref (ad n29)) (oO_k g28).1 (cc_o11 (oO_k g28).2) rfl (fun w h => .tail _ (iA_23 h)) (by decide) (.tail _ qA_648) rfl (by rw [en29]; rfl) dX11_append_52 ?_
    clear en29
    refine lv_iload hx hb dX11_append_55 (lv_at hl 5 rfl) ?_
    obtain ⟨g30, h⟩ := oif_some h
    obtain ⟨T31, eT31, h⟩ := obind_some h
    refine q_cvv (As := [.int a4]) (rest := []) E G hA hX hN hml (u_X9_addWord l hst D cI cJ cZ cMic cSrc cSt cAI cAJ ad T26 n29 a4 eT31) (cwV 1 hts (gaV qA_689 qA_690 qA_691 qA_185 qA_631) rfl rfl rfl (by decide +kernel) ⟨Nat.le_of_ble_eq_true rfl, Nat.le_of_ble_eq_true rfl⟩) (oO_k g30).1 (cc_o9 (oO_k g30).2) rfl rfl hl.1 rfl (lv_room (Nat.le_of_ble_eq_true rfl)) dX11_append_57 ⟨Nat.zero_le _, Nat.zero_le _⟩ (fun T32 H locs hq G => ?_)
    rw [hq] at G
    clear hq eT31
    refine lv_aload_n hx hb dX11_append_60 rfl (lv_at hl 0 rfl) ?_
    obtain ⟨g33, h⟩ := oif_some h
    obtain ⟨n34, en34, h⟩ := obind_some h
    refine c_get E G o 0 (v := .ref (ad n34)) (oO_k g33).1 (cc_o11 (oO_k g33).2) rfl (fun w h => .tail _ (iA_23 h)) (by decide) (.tail _ qA_648) rfl (by rw [en34]; rfl) dX11_append_61 ?_
    clear en34
    obtain ⟨g35, h⟩ := oif_some h
    refine c_get E G n34 1 (oO_k g35).1 (cc_o9 (oO_k g35).2) rfl (fun w h => .tail _ (iA_18 h)) (by decide) (.tail _ qA_688) rfl rfl dX11_append_64 ?_
    refine lv_topi (fun v36 ev36 => ?_)
    have h := elet_at ev36 h
    clear ev36
    exact W.iret (v := v36) hx hb hr (fun t ht hW => ⟨⟨v36, T31, rfl, osome2 h, ⟨by rw [ht]; exact G.1, va_K.moved hW.alike hK, G.2.1⟩⟩, G.2.2.F ht⟩) G.2.2.2.2 dX11_append_67
  · have h := oif_neg c7 h
    refine lv_iconst (v := (-1)) hx hb dX11_append_16 (by decide) ?_
    exact W.iret (v := (-1)) hx hb hr (fun t ht hW => ⟨⟨(-1), T, rfl, osome2 h, ⟨by rw [ht]; exact G.1, va_K.moved hW.alike hK, G.2.1⟩⟩, G.2.2.F ht⟩) G.2.2.2.2 dX11_append_17
set_option maxHeartbeats 4000000 in
set_option maxRecDepth 100000 in
theorem s_X11_append {T : AT} {o : Nat} {a0 : Int32} {a1 : Int32} {a2 : Int32} {a3 : Int32} {a4 : Int32} {r1 : Int32} {T1 : AT} (h : g_X11_append T o a0 a1 a2 a3 a4 = some (r1, T1)) : SP T T1 := by
  have p0 := SP.rf T
  unfold g_X11_append at h
  obtain ⟨g2, h⟩ := oif_some h
  obtain ⟨n3, en3, h⟩ := obind_some h
  obtain ⟨g4, h⟩ := oif_some h
  obtain ⟨v5, -, h⟩ := elet_some h
  obtain ⟨v6, -, h⟩ := elet_some h
  rcases oif_or h with ⟨c7, h⟩ | ⟨c7, h⟩
  · have h := h
    obtain ⟨g8, h⟩ := oif_some h
    obtain ⟨n9, en9, h⟩ := obind_some h
    obtain ⟨g10, h⟩ := oif_some h
    obtain ⟨T11, eT11, h⟩ := obind_some h
    have p1 : SP T T11 := SP.tr p0 (s_X9_addWord eT11)
    obtain ⟨g13, h⟩ := oif_some h
    obtain ⟨n14, en14, h⟩ := obind_some h
    obtain ⟨g15, h⟩ := oif_some h
    obtain ⟨T16, eT16, h⟩ := obind_some h
    have p2 : SP T T16 := SP.tr p1 (s_X9_addWord eT16)
    obtain ⟨g18, h⟩ := oif_some h
    obtain ⟨n19, en19, h⟩ := obind_some h
    obtain ⟨g20, h⟩ := oif_some h
    obtain ⟨T21, eT21, h⟩ := obind_some h
    have p3 : SP T T21 := SP.tr p2 (s_X9_addWord eT21)
    obtain ⟨g23, h⟩ := oif_some h
    obtain ⟨n24, en24, h⟩ := obind_some h
    obtain ⟨g25, h⟩ := oif_some h
    obtain ⟨T26, eT26, h⟩ := obind_some h
    have p4 : SP T T26 := SP.tr p3 (s_X9_addWord eT26)
    obtain ⟨g28, h⟩ := oif_some h
    obtain ⟨n29, en29, h⟩ := obind_some h
    obtain ⟨g30, h⟩ := oif_some h
    obtain ⟨T31, eT31, h⟩ := obind_some h
    have p5 : SP T T31 := SP.tr p4 (s_X9_addWord eT31)
    obtain ⟨g33, h⟩ := oif_some h
    obtain ⟨n34, en34, h⟩ := obind_some h
    obtain ⟨g35, h⟩ := oif_some h
    obtain ⟨v36, -, h⟩ := elet_some h
    rw [← (osome2 h).2]
    exact p5
  · have h := h
    rw [← (osome2 h).2]
    exact p0
def g_X11_begin_b48  : Nat → AT → Nat → Int32 → Option (AT)
  | 0, _, _, _ => none
  | n + 1, T, l0, l1 => if 2 ≤ l1 then (some T) else (oif (oO T l0 11 = true) <| obind (T.2.2.2.2 l0 10) fun n4 => oif (aA T n4 102 = true) <| oif (inb l1 (T.2.1 n4).2 = true) <| elet (uI T n4 l1.toNatClampNeg 0) fun T7 => elet (l1 + Int32.ofInt (1)) fun v8 => g_X11_begin_b48 n T7 l0 v8)
def g_X11_begin_b33  (T : AT) (l0 : Nat) : Option (AT) := oif (oO T l0 11 = true) <| elet (uI T l0 16 0) fun T3 => oif (oO T3 l0 11 = true) <| obind (T3.2.2.2.2 l0 4) fun n5 => oif (oO T3 n5 4 = true) <| elet (uI T3 n5 0 0) fun T7 => g_X11_begin_b48 16384 T7 l0 0
def g_X11_begin (T : AT) (o : Nat) : Option (AT) := oif (oO T o 11 = true) <| obind (T.2.2.2.2 o 14) fun n3 => oif (oO T n3 6 = true) <| obind (g_X6_measureDelays T n3) fun T5 => oif (oO T5 o 11 = true) <| obind (T5.2.2.2.2 o 6) fun n8 => oif (oO T5 o 11 = true) <| obind (T5.2.2.2.2 o 14) fun n10 => oif (oO T5 n8 8 = true) <| obind (g_X8_begin T5 n8 n10) fun T12 => oif (oO T12 o 11 = true) <| obind (T12.2.2.2.2 o 2) fun n15 => oif (oO T12 o 11 = true) <| obind (T12.2.2.2.2 o 14) fun n17 => oif (oO T12 o 11 = true) <| obind (T12.2.2.2.2 o 6) fun n19 => oif (oO T12 n15 5 = true) <| obind (g_X5_record T12 n15 n17 n19) fun T21 => g_X11_begin_b33 T21 o
set_option maxHeartbeats 4000000 in
set_option maxRecDepth 100000 in
theorem s_X11_begin_b48 {T1 : AT} : ∀ n : Nat, ∀ (T : AT) (l0 : Nat) (l1 : Int32), g_X11_begin_b48 n T l0 l1 = some T1 → GL T T1 := by
  intro n
  induction n with
  | zero =>
    intro T l0 l1 h
    have h : (none : Option (AT)) = some T1 := h
    cases h
  | succ n ih =>
    intro T l0 l1 h
    have p0 := GL.rf T
    unfold g_X11_begin_b48 at h
    rcases oif_or h with ⟨c2, h⟩ | ⟨c2, h⟩
    · have h := h
      rw [← osome1 h]
      exact p0
    · have h := h
      obtain ⟨g3, h⟩ := oif_some h
      obtain ⟨n4, en4, h⟩ := obind_some h
      obtain ⟨g5, h⟩ := oif_some h
      obtain ⟨g6, h⟩ := oif_some h
      obtain ⟨T7, eT7, h⟩ := elet_some h
      have p1 : GL T T7 := GL.tr p0 (by rw [eT7]; exact gl_sp sp_uI)
      obtain ⟨v8, ev8, h⟩ := elet_some h
      exact GL.tr p1 (ih _ _ _ h)
set_option maxHeartbeats 4000000 in
set_option maxRecDepth 100000 in
theorem s_X11_begin_b33 {T1 : AT} : ∀ (T : AT) (l0 : Nat), g_X11_begin_b33 T l0 = some T1 → GL T T1 := by
  intro T l0 h
  have p0 := GL.rf T
  unfold g_X11_begin_b33 at h
  obtain ⟨g2, h⟩ := oif_some h
  obtain ⟨T3, eT3, h⟩ := elet_some h
  have p1 : GL T T3 := GL.tr p0 (by rw [eT3]; exact gl_sp sp_uI)
  obtain ⟨g4, h⟩ := oif_some h
  obtain ⟨n5, en5, h⟩ := obind_some h
  obtain ⟨g6, h⟩ := oif_some h
  obtain ⟨T7, eT7, h⟩ := elet_some h
  have p2 : GL T T7 := GL.tr p1 (by rw [eT7]; exact gl_sp sp_uI)
  exact GL.tr p2 (s_X11_begin_b48 _ _ _ _ h)
set_option maxHeartbeats 4000000 in
set_option maxRecDepth 100000 in
theorem s_X11_begin {T : AT} {o : Nat} {T1 : AT} (h : g_X11_begin T o = some T1) : GL T T1 := by
  have p0 := GL.rf T
  unfold g_X11_begin at h
  obtain ⟨g2, h⟩ := oif_some h
  obtain ⟨n3, en3, h⟩ := obind_some h
  obtain ⟨g4, h⟩ := oif_some h
  obtain ⟨T5, eT5, h⟩ := obind_some h
  have p1 : GL T T5 := GL.tr p0 (gl_sp (s_X6_measureDelays eT5))
  obtain ⟨g7, h⟩ := oif_some h
  obtain ⟨n8, en8, h⟩ := obind_some h
  obtain ⟨g9, h⟩ := oif_some h
  obtain ⟨n10, en10, h⟩ := obind_some h
  obtain ⟨g11, h⟩ := oif_some h
  obtain ⟨T12, eT12, h⟩ := obind_some h
  have p2 : GL T T12 := GL.tr p1 (gl_sp (s_X8_begin eT12))
  obtain ⟨g14, h⟩ := oif_some h
  obtain ⟨n15, en15, h⟩ := obind_some h
  obtain ⟨g16, h⟩ := oif_some h
  obtain ⟨n17, en17, h⟩ := obind_some h
  obtain ⟨g18, h⟩ := oif_some h
  obtain ⟨n19, en19, h⟩ := obind_some h
  obtain ⟨g20, h⟩ := oif_some h
  obtain ⟨T21, eT21, h⟩ := obind_some h
  have p3 : GL T T21 := GL.tr p2 (s_X5_record eT21)
  exact GL.tr p3 (s_X11_begin_b33 _ _ h)
set_option maxHeartbeats 4000000 in
set_option maxRecDepth 100000 in
theorem a_X11_begin_b48 {p : Program} {l : Launch} {e : Env} {s : State} {m : MethodId} {args : Array Value} {below : List Frame} {meth : Method} {c : Code} {Q : State → Prop} {D : va_G} {A : Nat → Prop} {cI cJ cZ cMic cSrc cSt cAI cAJ : ClassId} {ad0 : Nat → Nat} {T0 : AT} {T1 : AT} (E : cE p c cX11_begin s m args (Cond.code yX11_begin cX11_begin 2 none :: wsA) D RX11 (CT cI cJ cZ cMic cSrc cSt cAI cAJ)) (hA : ∀ q : Nat, s.heap.size ≤ q → A q) (hX : xT A s) (hN : nX s) (hml : c.maxLocals = 2) (hst : l.stackTraces = false) (kr66 : ∀ (ad : Nat → Nat) (H : Heap) (locs : List Loc) (ls : Array Slot), (∀ n, n < T0.1 → ad n = ad0 n) → gC cI cJ cZ cMic cSrc cSt cAI cAJ D ad A s.heap H locs T1 → W p l e { frames := 6, cells := T1.1 - T0.1, slots := sg T1 - sg T0, locals := 124 } s m args below meth c H locs (T1.1 - T0.1) (sg T1 - sg T0) Q (F0 m 66 ls [])) : ∀ n : Nat, ∀ (T : AT) (ad : Nat → Nat) (H : Heap) (locs : List Loc) (ls : Array Slot) (l0 : Nat) (l1 : Int32), g_X11_begin_b48 n T l0 l1 = some T1 → GL T0 T → RC T → (∀ n, n < T0.1 → ad n = ad0 n) → l0 < T.1 → gC cI cJ cZ cMic cSrc cSt cAI cAJ D ad A s.heap H locs T → lv_has ls 2 [(0, .ref (ad l0)), (1, .int l1)] → W p l e { frames := 6, cells := T1.1 - T0.1, slots := sg T1 - sg T0, locals := 124 } s m args below meth c H locs (T.1 - T0.1) (sg T - sg T0) Q (F0 m 48 ls []) := by
  have hx := E.1
  have hb := E.2.1
  have hts := E.2.2.1
  have hown := E.2.2.2.1
  have hK := E.2.2.2.2
  intro n
  induction n with
  | zero =>
    intro T ad H locs ls l0 l1 h
    have h : (none : Option (AT)) = some T1 := h
    cases h
  | succ n ih =>
    intro T ad H locs ls l0 l1 h hgl hrc had h_l0 G hl
    have hT1 := s_X11_begin_b48 _ _ _ _ h
    have hcs := cs_ok hgl hT1
    have cp0 := cpr0 hrc
    unfold g_X11_begin_b48 at h
    refine lv_iload_n hx hb dX11_begin_48 rfl (lv_at hl 1 rfl) ?_
    refine lv_iconst (v := 2) hx hb dX11_begin_49 (by decide) ?_
    refine lv_icmp_ge (tgt := 66) hx hb dX11_begin_50 (by decide) (fun c2 => ?_) (fun c2 => ?_)
    · have h := oif_pos c2 h
      rw [osome1 h] at G
      refine w_cast (c2 := T1.1 - T0.1) (s2 := sg T1 - sg T0) (by rw [← osome1 h, cp0.1] <;> rfl) (by rw [← osome1 h, sg_cpr cp0] <;> rfl) ?_
      exact kr66 ad _ _ _ had G
    · have h := oif_neg c2 h
      refine lv_aload_n hx hb dX11_begin_53 rfl (lv_at hl 0 rfl) ?_
      obtain ⟨g3, h⟩ := oif_some h
      obtain ⟨n4, en4, h⟩ := obind_some h
      have h_n4 : n4 < T.1 := by rw [← cp0.1]; exact cp0.2.2 _ _ _ en4
      refine c_get E G l0 10 (v := .ref (ad n4)) (oO_k g3).1 (cc_o11 (oO_k g3).2) rfl (fun w h => .tail _ (iA_23 h)) (by decide) (.tail _ qA_668) rfl (by rw [en4]; rfl) dX11_begin_54 ?_
      clear en4
      refine lv_iload_n hx hb dX11_begin_57 rfl (lv_at hl 1 rfl) ?_
      refine lv_iconst (v := 0) hx hb dX11_begin_58 (by decide) ?_
      obtain ⟨g5, h⟩ := oif_some h
      obtain ⟨g6, h⟩ := oif_some h
      refine c_zast E G n4 2 (k := l1.toNatClampNeg) (v := 0) (aA_k g5).1 (cc_a102 (aA_k g5).2.1) rfl (inb_k g6).1 (inb_k g6).2 (aA_k g5).2.2 rfl dX11_begin_59 (fun H locs G => ?_)
      have G := gC_up_i (f := upd (T.2.2.1 n4) l1.toNatClampNeg 0) (ccv_102 (aA_k g5).2.1) G
      obtain ⟨T7, eT7, h⟩ := elet_some h
      have G : gC cI cJ cZ cMic cSrc cSt cAI cAJ D ad A s.heap H locs T7 := by rw [eT7]; exact G
      have cp1 := show CPR T T7 from by rw [eT7]; exact cpr_sp cp0 sp_uI
      clear eT7
      obtain ⟨v8, ev8, h⟩ := elet_some h
      refine lv_iinc (v := v8) (lv' := [(1, .int v8), (0, .ref (ad l0))]) hx hb dX11_begin_60 hl (k := 1) rfl ev8.symm (by decide) rfl (fun ls hl => ?_)
      refine lv_goto (tgt := 48) hx hb dX11_begin_63 (by decide) ?_
      have hl := lv_sub hl [1, 0] rfl
      refine w_cast (c2 := T7.1 - T0.1) (s2 := sg T7 - sg T0) (by rw [cp1.1] <;> rfl) (by rw [sg_cpr cp1] <;> rfl) ?_
      exact ih _ _ _ _ _ _ _ h (gl_cpr hgl cp1) cp1.2.2 had (by rw [cp1.1]; exact h_l0) G hl
set_option maxHeartbeats 4000000 in
set_option maxRecDepth 100000 in
theorem a_X11_begin_b33 {p : Program} {l : Launch} {e : Env} {s : State} {m : MethodId} {args : Array Value} {below : List Frame} {meth : Method} {c : Code} {Q : State → Prop} {D : va_G} {A : Nat → Prop} {cI cJ cZ cMic cSrc cSt cAI cAJ : ClassId} {ad0 : Nat → Nat} {T0 : AT} {T1 : AT} (E : cE p c cX11_begin s m args (Cond.code yX11_begin cX11_begin 2 none :: wsA) D RX11 (CT cI cJ cZ cMic cSrc cSt cAI cAJ)) (hA : ∀ q : Nat, s.heap.size ≤ q → A q) (hX : xT A s) (hN : nX s) (hml : c.maxLocals = 2) (hst : l.stackTraces = false) (kr66 : ∀ (ad : Nat → Nat) (H : Heap) (locs : List Loc) (ls : Array Slot), (∀ n, n < T0.1 → ad n = ad0 n) → gC cI cJ cZ cMic cSrc cSt cAI cAJ D ad A s.heap H locs T1 → W p l e { frames := 6, cells := T1.1 - T0.1, slots := sg T1 - sg T0, locals := 124 } s m args below meth c H locs (T1.1 - T0.1) (sg T1 - sg T0) Q (F0 m 66 ls [])) : ∀ (T : AT) (ad : Nat → Nat) (H : Heap) (locs : List Loc) (ls : Array Slot) (l0 : Nat), g_X11_begin_b33 T l0 = some T1 → GL T0 T → RC T → (∀ n, n < T0.1 → ad n = ad0 n) → l0 < T.1 → gC cI cJ cZ cMic cSrc cSt cAI cAJ D ad A s.heap H locs T → lv_has ls 2 [(0, .ref (ad l0))] → W p l e { frames := 6, cells := T1.1 - T0.1, slots := sg T1 - sg T0, locals := 124 } s m args below meth c H locs (T.1 - T0.1) (sg T - sg T0) Q (F0 m 33 ls []) := by
  have hx := E.1
  have hb := E.2.1
  have hts := E.2.2.1
  have hown := E.2.2.2.1
  have hK := E.2.2.2.2
  intro T ad H locs ls l0 h hgl hrc had h_l0 G hl
  have hT1 := s_X11_begin_b33 _ _ h
  have hcs := cs_ok hgl hT1
  have cp0 := cpr0 hrc
  unfold g_X11_begin_b33 at h
  refine lv_aload_n hx hb dX11_begin_33 rfl (lv_at hl 0 rfl) ?_
  refine lv_iconst (v := 0) hx hb dX11_begin_34 (by decide) ?_
  obtain ⟨g2, h⟩ := oif_some h
  refine c_put E G l0 16 (v := .int 0) (oO_k g2).1 (cc_o11 (oO_k g2).2) rfl (fun w h => .tail _ (iA_23 h)) tyX11 tyX11_ok nmX11 (by decide) (.tail _ qA_703) ⟨rfl, rfl, rfl⟩ rfl rfl (Nat.le_of_ble_eq_true rfl) dX11_begin_35 (fun H locs G => ?_)
  have G := gC_up_i (f := upd (T.2.2.1 l0) 16 0) (by rw [(oO_k g2).2]; rfl) G
  obtain ⟨T3, eT3, h⟩ := elet_some h
  have G : gC cI cJ cZ cMic cSrc cSt cAI cAJ D ad A s.heap H locs T3 := by rw [eT3]; exact G
  have cp1 := show CPR T T3 from by rw [eT3]; exact cpr_sp cp0 sp_uI
  clear eT3
  refine lv_aload_n hx hb dX11_begin_38 rfl (lv_at hl 0 rfl) ?_
  obtain ⟨g4, h⟩ := oif_some h
  obtain ⟨n5, en5, h⟩ := obind_some h
  have h_n5 : n5 < T.1 := by rw [← cp1.1]; exact cp1.2.2 _ _ _ en5
  refine c_get E G l0 4 (v := .ref (ad n5)) (oO_k g4).1 (cc_o11 (oO_k g4).2) rfl (fun w h => .tail _ (iA_23 h)) (by decide) (.tail _ qA_660) rfl (by rw [en5]; rfl) dX11_begin_39 ?_
  clear en5
  refine lv_iconst (v := 0) hx hb dX11_begin_42 (by decide) ?_
  obtain ⟨g6, h⟩ := oif_some h
  refine c_put E G n5 0 (v := .int 0) (oO_k g6).1 (cc_o4 (oO_k g6).2) rfl (fun w h => .tail _ (iA_21 h)) tyX4 tyX4_ok nmX4 (by decide) (.tail _ qA_704) ⟨rfl, rfl, rfl⟩ rfl rfl (Nat.le_of_ble_eq_true rfl) dX11_begin_43 (fun H locs G => ?_)
  have G := gC_up_i (f := upd (T3.2.2.1 n5) 0 0) (by rw [(oO_k g6).2]; rfl) G
  obtain ⟨T7, eT7, h⟩ := elet_some h
  have G : gC cI cJ cZ cMic cSrc cSt cAI cAJ D ad A s.heap H locs T7 := by rw [eT7]; exact G
  have cp2 := show CPR T T7 from by rw [eT7]; exact cpr_sp cp1 sp_uI
  clear eT7
  refine lv_iconst (v := 0) hx hb dX11_begin_46 (by decide) ?_
  refine lv_istore_n (lv' := [(1, .int 0), (0, .ref (ad l0))]) hx hb dX11_begin_47 rfl hl (by decide) rfl (fun ls hl => ?_)
  have hl := lv_sub hl [1, 0] rfl
  refine w_cast (c2 := T7.1 - T0.1) (s2 := sg T7 - sg T0) (by rw [cp2.1] <;> rfl) (by rw [sg_cpr cp2] <;> rfl) ?_
  exact a_X11_begin_b48 E hA hX hN hml hst kr66 _ _ _ _ _ _ _ _ h (gl_cpr hgl cp2) cp2.2.2 had (by rw [cp2.1]; exact h_l0) G hl
set_option maxHeartbeats 4000000 in
set_option maxRecDepth 100000 in
theorem a_X11_begin (l : Launch) (hst : l.stackTraces = false) (D : va_G) (cI cJ cZ cMic cSrc cSt cAI cAJ : ClassId) (ad : Nat → Nat) (T : AT) (o : Nat) {T1 : AT} (h : g_X11_begin T o = some T1) (hrc : RC T) (h_o : o < T.1) : kAv l yX11_begin (Cond.code yX11_begin cX11_begin 2 none :: wsA) 6 124 cI cJ cZ cMic cSrc cSt cAI cAJ D ad T [.ref (ad o)] T1 := by
  intro sz
  refine Met.ofW (cc := cX11_begin) (maxL := 2) (ret := none) (by decide) rfl ?_
  intro p e s m args below meth c s₁ B hml hv
  obtain ⟨rfl, hsz, hP, hK, hD0, hX, hN⟩ := hv
  have hx := B.exec
  have hb := B.bytes
  have hr := B.returns
  have hts := atoms_spec (ws := (Cond.code yX11_begin cX11_begin 2 none :: wsA)) B.pre
  have hown : s.vm.findClass RX11 = some m.cls := findClass_of_methodNamed B.named
  have hlocks := B.notSynchronized
  subst hsz
  have hD := hD0.self (sz := s.heap.size)
  generalize hAe : va_A (cW ad T.1 (cc cI cJ cZ cMic cSrc cSt cAI cAJ ad T)) s.heap.size = A at hD hX ⊢
  have hA : ∀ q : Nat, s.heap.size ≤ q → A q := fun q h => by rw [← hAe]; exact Or.inr h
  have G : gC cI cJ cZ cMic cSrc cSt cAI cAJ D ad A s.heap s.heap [] T := ⟨hP, hD, va_S.rf⟩
  have E : cE p c cX11_begin s m ([.ref (ad o)] : List Value).toArray (Cond.code yX11_begin cX11_begin 2 none :: wsA) D RX11 (CT cI cJ cZ cMic cSrc cSt cAI cAJ) := ⟨hx, hb, hts, hown, hK⟩
  have hl := lv_entry ([.ref (ad o)]) (n := 2) (Nat.le_of_ble_eq_true rfl)
  rw [lg_entry_eq]
  generalize (lg_sl ([.ref (ad o)]) ++ List.replicate (2 - (lg_sl ([.ref (ad o)])).length) Slot.unset).toArray = ls at hl ⊢
  have hl : lv_has ls 2 [(0, .ref (ad o))] := hl
  have hgl := GL.rf T
  have had : ∀ n, n < T.1 → ad n = ad n := fun _ _ => rfl
  have hT1 := s_X11_begin h
  have hcs := cs_ok hgl hT1
  refine w_cast (Nat.sub_self T.1).symm (Nat.sub_self (sg T)).symm ?_
  have cp0 := cpr0 hrc
  unfold g_X11_begin at h
  refine lv_aload_n hx hb dX11_begin_0 rfl (lv_at hl 0 rfl) ?_
  obtain ⟨g2, h⟩ := oif_some h
  obtain ⟨n3, en3, h⟩ := obind_some h
  have h_n3 : n3 < T.1 := by rw [← cp0.1]; exact cp0.2.2 _ _ _ en3
  refine c_get E G o 14 (v := .ref (ad n3)) (oO_k g2).1 (cc_o11 (oO_k g2).2) rfl (fun w h => .tail _ (iA_23 h)) (by decide) (.tail _ qA_675) rfl (by rw [en3]; rfl) dX11_begin_1 ?_
  clear en3
  obtain ⟨g4, h⟩ := oif_some h
  obtain ⟨T5, eT5, h⟩ := obind_some h
  refine q_cvv (As := []) (rest := []) E G hA hX hN hml (u_X6_measureDelays l hst D cI cJ cZ cMic cSrc cSt cAI cAJ ad T n3 eT5) (cwV 0 hts (gaV qA_705 qA_706 qA_707 qA_207 qA_575) rfl rfl rfl (by decide +kernel) ⟨Nat.le_of_ble_eq_true rfl, Nat.le_of_ble_eq_true rfl⟩) (oO_k g4).1 (cc_o6 (oO_k g4).2) rfl rfl hl.1 rfl (lv_room (Nat.le_of_ble_eq_true rfl)) dX11_begin_4 hcs (fun T6 H locs hq G => ?_)
  rw [hq] at G
  clear hq
  have cp1 := cpr_sp cp0 (s_X6_measureDelays eT5)
  refine lv_aload_n hx hb dX11_begin_7 rfl (lv_at hl 0 rfl) ?_
  obtain ⟨g7, h⟩ := oif_some h
  obtain ⟨n8, en8, h⟩ := obind_some h
  have h_n8 : n8 < T.1 := by rw [← cp1.1]; exact cp1.2.2 _ _ _ en8
  refine c_get E G o 6 (v := .ref (ad n8)) (oO_k g7).1 (cc_o11 (oO_k g7).2) rfl (fun w h => .tail _ (iA_23 h)) (by decide) (.tail _ qA_664) rfl (by rw [en8]; rfl) dX11_begin_8 ?_
  clear en8
  refine lv_aload_n hx hb dX11_begin_11 rfl (lv_at hl 0 rfl) ?_
  obtain ⟨g9, h⟩ := oif_some h
  obtain ⟨n10, en10, h⟩ := obind_some h
  have h_n10 : n10 < T.1 := by rw [← cp1.1]; exact cp1.2.2 _ _ _ en10
  refine c_get E G o 14 (v := .ref (ad n10)) (oO_k g9).1 (cc_o11 (oO_k g9).2) rfl (fun w h => .tail _ (iA_23 h)) (by decide) (.tail _ qA_675) rfl (by rw [en10]; rfl) dX11_begin_12 ?_
  clear en10
  obtain ⟨g11, h⟩ := oif_some h
  obtain ⟨T12, eT12, h⟩ := obind_some h
  refine q_cvv (As := [.ref (ad n10)]) (rest := []) E G hA hX hN hml (u_X8_begin l hst D cI cJ cZ cMic cSrc cSt cAI cAJ ad T5 n8 n10 eT12) (cwV 1 hts (gaV qA_708 qA_709 qA_710 qA_47 qA_592) rfl rfl rfl (by decide +kernel) ⟨Nat.le_of_ble_eq_true rfl, Nat.le_of_ble_eq_true rfl⟩) (oO_k g11).1 (cc_o8 (oO_k g11).2) rfl rfl hl.1 rfl (lv_room (Nat.le_of_ble_eq_true rfl)) dX11_begin_15 hcs (fun T13 H locs hq G => ?_)
  rw [hq] at G
  clear hq
  have cp2 := cpr_sp cp1 (s_X8_begin eT12)
  refine lv_aload_n hx hb dX11_begin_18 rfl (lv_at hl 0 rfl) ?_
  obtain ⟨g14, h⟩ := oif_some h
  obtain ⟨n15, en15, h⟩ := obind_some h
  have h_n15 : n15 < T.1 := by rw [← cp2.1]; exact cp2.2.2 _ _ _ en15
  refine c_get E G o 2 (v := .ref (ad n15)) (oO_k g14).1 (cc_o11 (oO_k g14).2) rfl (fun w h => .tail _ (iA_23 h)) (by decide) (.tail _ qA_654) rfl (by rw [en15]; rfl) dX11_begin_19 ?_
  clear en15
  refine lv_aload_n hx hb dX11_begin_22 rfl (lv_at hl 0 rfl) ?_
  obtain ⟨g16, h⟩ := oif_some h
  obtain ⟨n17, en17, h⟩ := obind_some h
  have h_n17 : n17 < T.1 := by rw [← cp2.1]; exact cp2.2.2 _ _ _ en17
  refine c_get E G o 14 (v := .ref (ad n17)) (oO_k g16).1 (cc_o11 (oO_k g16).2) rfl (fun w h => .tail _ (iA_23 h)) (by decide) (.tail _ qA_675) rfl (by rw [en17]; rfl) dX11_begin_23 ?_
  clear en17
  refine lv_aload_n hx hb dX11_begin_26 rfl (lv_at hl 0 rfl) ?_
  obtain ⟨g18, h⟩ := oif_some h
  obtain ⟨n19, en19, h⟩ := obind_some h
  have h_n19 : n19 < T.1 := by rw [← cp2.1]; exact cp2.2.2 _ _ _ en19
  refine c_get E G o 6 (v := .ref (ad n19)) (oO_k g18).1 (cc_o11 (oO_k g18).2) rfl (fun w h => .tail _ (iA_23 h)) (by decide) (.tail _ qA_664) rfl (by rw [en19]; rfl) dX11_begin_27 ?_
  clear en19
  obtain ⟨g20, h⟩ := oif_some h
  obtain ⟨T21, eT21, h⟩ := obind_some h
  have hg2 := s_X5_record eT21
  have hrc2 := hg2.2.2 cp2.2.2
  have hT2 := s_X11_begin_b33 _ _ h
  refine q_avv (As := [.ref (ad n17), .ref (ad n19)]) (rest := []) E G hA hX hN hml (a_X5_record l hst D cI cJ cZ cMic cSrc cSt cAI cAJ ad T12 n15 n17 n19 eT21 cp2.2.2 (by rw [cp2.1]; exact h_n15) (by rw [cp2.1]; exact h_n17) (by rw [cp2.1]; exact h_n19)) (cwV 2 hts (gaV qA_711 qA_712 qA_713 qA_475 qA_463) rfl rfl rfl (by decide +kernel) ⟨Nat.le_of_ble_eq_true rfl, Nat.le_of_ble_eq_true rfl⟩) (oO_k g20).1 (cc_o5 (oO_k g20).2) rfl rfl hl.1 rfl (lv_room (Nat.le_of_ble_eq_true rfl)) dX11_begin_30 (cs_av hgl cp2 hg2 hT2) (fun ad2 H locs hga G => ?_)
  refine w_cast (c2 := T21.1 - T.1) (s2 := sg T21 - sg T) (cs_f1 hgl cp2 hg2) (cs_f2 hgl cp2 hg2) ?_
  have hl := lv_sub hl [0] rfl
  rw [show ad o = ad2 o from (hga o (by rw [cp2.1]; exact h_o)).symm] at hl
  exact a_X11_begin_b33 E hA hX hN hml hst (fun ad H locs ls had G => W.vret hx hb hr (fun t ht hW => ⟨⟨(T1, ad), rfl, ⟨rfl, had⟩, ⟨by rw [ht]; exact G.1, va_K.moved hW.alike hK, G.2.1⟩⟩, G.2.2.F ht⟩) G.2.2.2.2 dX11_begin_66) _ _ _ _ _ _ h (GL.tr (gl_cpr hgl cp2) hg2) hrc2 (fun n hn => (hga n (by rw [cp2.1]; exact Nat.lt_of_lt_of_le hn hgl.1)).trans (had n hn)) (Nat.lt_of_lt_of_le (by rw [cp2.1]; exact h_o) hg2.1) G hl
def g_X11_load_b15  (T : AT)  : Option (Nat × Int32 × AT) := some (2, 0, T)
def g_X11_load_b65  (T : AT) (l0 : Nat) : Option (Nat × Int32 × AT) := oif (oO T l0 11 = true) <| obind (T.2.2.2.2 l0 14) fun n3 => oif (oO T n3 6 = true) <| obind (T.2.2.2.2 n3 6) fun n5 => oif (oO T n5 1 = true) <| obind2 (g_X1_cells T n5) fun r9 T7 => some (0, r9, T7)
def g_X11_load (T : AT) (o : Nat) (a0 : Int32) : Option (Nat × Int32 × AT) := if a0 < 0 then (g_X11_load_b15 T) else (oif (oO T o 11 = true) <| obind (T.2.2.2.2 o 0) fun n4 => oif (oO T n4 9 = true) <| elet (T.2.2.1 n4 1) fun v6 => if a0 ≤ v6 then (oif (oO T o 11 = true) <| obind (T.2.2.2.2 o 0) fun n9 => oif (oO T n9 9 = true) <| elet (uI T n9 1 0) fun T11 => oif (oO T11 o 11 = true) <| obind (T11.2.2.2.2 o 1) fun n13 => oif (oO T11 o 11 = true) <| obind (T11.2.2.2.2 o 15) fun n15 => oif (oO T11 n13 3 = true) <| othr (g_X3_parse T11 n13 a0 n15) 0 fun r19 T17 => oif (oO T17 o 11 = true) <| obind (T17.2.2.2.2 o 14) fun n22 => oif (oO T17 o 11 = true) <| obind (T17.2.2.2.2 o 15) fun n24 => oif (oO T17 o 11 = true) <| oif (Nat.blt n24 T17.1 = true) <| elet (uR T17 o 14 n24) fun T27 => oif (oO T27 o 11 = true) <| oif (Nat.blt n22 T27.1 = true) <| elet (uR T27 o 15 n22) fun T30 => oif (oO T30 o 11 = true) <| obind (g_X11_begin T30 o) fun T32 => g_X11_load_b65 T32 o) else (g_X11_load_b15 T))
set_option maxHeartbeats 4000000 in
set_option maxRecDepth 100000 in
theorem s_X11_load_b15 {e1 : Nat} {r1 : Int32} {T1 : AT} : ∀ (T : AT), g_X11_load_b15 T = some (e1, r1, T1) → GL T T1 := by
  intro T h
  have p0 := GL.rf T
  unfold g_X11_load_b15 at h
  rw [← (osome3 h).2.2]
  exact p0
set_option maxHeartbeats 4000000 in
set_option maxRecDepth 100000 in
theorem s_X11_load_b65 {e1 : Nat} {r1 : Int32} {T1 : AT} : ∀ (T : AT) (l0 : Nat), g_X11_load_b65 T l0 = some (e1, r1, T1) → GL T T1 := by
  intro T l0 h
  have p0 := GL.rf T
  unfold g_X11_load_b65 at h
  obtain ⟨g2, h⟩ := oif_some h
  obtain ⟨n3, en3, h⟩ := obind_some h
  obtain ⟨g4, h⟩ := oif_some h
  obtain ⟨n5, en5, h⟩ := obind_some h
  obtain ⟨g6, h⟩ := oif_some h
  obtain ⟨r8, T7, eT7, h⟩ := obind2_some h
  have p1 : GL T T7 := GL.tr p0 (gl_sp (s_X1_cells eT7))
  rw [← (osome3 h).2.2]
  exact p1
set_option maxHeartbeats 4000000 in
set_option maxRecDepth 100000 in
theorem s_X11_load {T : AT} {o : Nat} {a0 : Int32} {e1 : Nat} {r1 : Int32} {T1 : AT} (h : g_X11_load T o a0 = some (e1, r1, T1)) : GL T T1 := by
  have p0 := GL.rf T
  unfold g_X11_load at h
  rcases oif_or h with ⟨c2, h⟩ | ⟨c2, h⟩
  · have h := h
    exact GL.tr p0 (s_X11_load_b15 _ h)
  · have h := h
    obtain ⟨g3, h⟩ := oif_some h
    obtain ⟨n4, en4, h⟩ := obind_some h
    obtain ⟨g5, h⟩ := oif_some h
    obtain ⟨v6, -, h⟩ := elet_some h
    rcases oif_or h with ⟨c7, h⟩ | ⟨c7, h⟩
    · have h := h
      obtain ⟨g8, h⟩ := oif_some h
      obtain ⟨n9, en9, h⟩ := obind_some h
      obtain ⟨g10, h⟩ := oif_some h
      obtain ⟨T11, eT11, h⟩ := elet_some h
      have p1 : GL T T11 := GL.tr p0 (by rw [eT11]; exact gl_sp sp_uI)
      obtain ⟨g12, h⟩ := oif_some h
      obtain ⟨n13, en13, h⟩ := obind_some h
      obtain ⟨g14, h⟩ := oif_some h
      obtain ⟨n15, en15, h⟩ := obind_some h
      obtain ⟨g16, h⟩ := oif_some h
      rcases othr_s h with ⟨k9, r9, e9, -⟩ | ⟨r18, T17, eT17, h⟩
      · exact GL.tr p1 (gl_sp (s_X3_parse e9))
      have p2 : GL T T17 := GL.tr p1 (gl_sp (s_X3_parse eT17))
      obtain ⟨g19, h⟩ := oif_some h
      obtain ⟨n20, en20, h⟩ := obind_some h
      obtain ⟨g21, h⟩ := oif_some h
      obtain ⟨n22, en22, h⟩ := obind_some h
      obtain ⟨g23, h⟩ := oif_some h
      obtain ⟨g24, h⟩ := oif_some h
      obtain ⟨T25, eT25, h⟩ := elet_some h
      have p3 : GL T T25 := GL.tr p2 (by rw [eT25]; exact gl_uR (Nat.le_of_ble_eq_true g24))
      obtain ⟨g26, h⟩ := oif_some h
      obtain ⟨g27, h⟩ := oif_some h
      obtain ⟨T28, eT28, h⟩ := elet_some h
      have p4 : GL T T28 := GL.tr p3 (by rw [eT28]; exact gl_uR (Nat.le_of_ble_eq_true g27))
      obtain ⟨g29, h⟩ := oif_some h
      obtain ⟨T30, eT30, h⟩ := obind_some h
      have p5 : GL T T30 := GL.tr p4 (s_X11_begin eT30)
      exact GL.tr p5 (s_X11_load_b65 _ _ h)
    · have h := h
      exact GL.tr p0 (s_X11_load_b15 _ h)
set_option maxHeartbeats 4000000 in
set_option maxRecDepth 100000 in
theorem a_X11_load_b15 {p : Program} {l : Launch} {e : Env} {s : State} {m : MethodId} {args : Array Value} {below : List Frame} {meth : Method} {c : Code} {Q : State → Prop} {D : va_G} {A : Nat → Prop} {cI cJ cZ cMic cSrc cSt cAI cAJ : ClassId} {ad0 : Nat → Nat} {T0 : AT} {r1 : Int32} {T1 : AT} (E : cE p c cX11_load s m args (Cond.code yX11_load cX11_load 3 (some .int) :: wsA) D RX11 (CT cI cJ cZ cMic cSrc cSt cAI cAJ)) (hA : ∀ q : Nat, s.heap.size ≤ q → A q) (hX : xT A s) (hN : nX s) (hml : c.maxLocals = 3) (hst : l.stackTraces = false) {h0 : Nat} (hA0 : ∀ a : Nat, A a → h0 ≤ a) (hT : sAll h0 s) (kr75 : ∀ (ad : Nat → Nat) (H : Heap) (locs : List Loc) (ls : Array Slot), (∀ n, n < T0.1 → ad n = ad0 n) → gC cI cJ cZ cMic cSrc cSt cAI cAJ D ad A s.heap H locs T1 → W p l e { frames := 12, cells := T1.1 - T0.1, slots := sg T1 - sg T0, locals := 215 } s m args below meth c H locs (T1.1 - T0.1) (sg T1 - sg T0) Q (F0 m 75 ls [.int r1])) : ∀ (T : AT) (ad : Nat → Nat) (H : Heap) (locs : List Loc) (ls : Array Slot), g_X11_load_b15 T = some (0, r1, T1) → GL T0 T → RC T → (∀ n, n < T0.1 → ad n = ad0 n) → gC cI cJ cZ cMic cSrc cSt cAI cAJ D ad A s.heap H locs T → lv_has ls 3 [] → W p l e { frames := 12, cells := T1.1 - T0.1, slots := sg T1 - sg T0, locals := 215 } s m args below meth c H locs (T.1 - T0.1) (sg T - sg T0) Q (F0 m 15 ls []) := by
  have hx := E.1
  have hb := E.2.1
  have hts := E.2.2.1
  have hown := E.2.2.2.1
  have hK := E.2.2.2.2
  intro T ad H locs ls h hgl hrc had G hl
  have hT1 := s_X11_load_b15 _ h
  have hcs := cs_ok hgl hT1
  have cp0 := cpr0 hrc
  unfold g_X11_load_b15 at h
  exact absurd (osome3 h).1 (by decide)
set_option maxHeartbeats 4000000 in
set_option maxRecDepth 100000 in
theorem a_X11_load_b65 {p : Program} {l : Launch} {e : Env} {s : State} {m : MethodId} {args : Array Value} {below : List Frame} {meth : Method} {c : Code} {Q : State → Prop} {D : va_G} {A : Nat → Prop} {cI cJ cZ cMic cSrc cSt cAI cAJ : ClassId} {ad0 : Nat → Nat} {T0 : AT} {r1 : Int32} {T1 : AT} (E : cE p c cX11_load s m args (Cond.code yX11_load cX11_load 3 (some .int) :: wsA) D RX11 (CT cI cJ cZ cMic cSrc cSt cAI cAJ)) (hA : ∀ q : Nat, s.heap.size ≤ q → A q) (hX : xT A s) (hN : nX s) (hml : c.maxLocals = 3) (hst : l.stackTraces = false) {h0 : Nat} (hA0 : ∀ a : Nat, A a → h0 ≤ a) (hT : sAll h0 s) (kr75 : ∀ (ad : Nat → Nat) (H : Heap) (locs : List Loc) (ls : Array Slot), (∀ n, n < T0.1 → ad n = ad0 n) → gC cI cJ cZ cMic cSrc cSt cAI cAJ D ad A s.heap H locs T1 → W p l e { frames := 12, cells := T1.1 - T0.1, slots := sg T1 - sg T0, locals := 215 } s m args below meth c H locs (T1.1 - T0.1) (sg T1 - sg T0) Q (F0 m 75 ls [.int r1])) : ∀ (T : AT) (ad : Nat → Nat) (H : Heap) (locs : List Loc) (ls : Array Slot) (l0 : Nat), g_X11_load_b65 T l0 = some (0, r1, T1) → GL T0 T → RC T → (∀ n, n < T0.1 → ad n = ad0 n) → l0 < T.1 → gC cI cJ cZ cMic cSrc cSt cAI cAJ D ad A s.heap H locs T → lv_has ls 3 [(0, .ref (ad l0))] → W p l e { frames := 12, cells := T1.1 - T0.1, slots := sg T1 - sg T0, locals := 215 } s m args below meth c H locs (T.1 - T0.1) (sg T - sg T0) Q (F0 m 65 ls []) := by
  have hx := E.1
  have hb := E.2.1
  have hts := E.2.2.1
  have hown := E.2.2.2.1
  have hK := E.2.2.2.2
  intro T ad H locs ls l0 h hgl hrc had h_l0 G hl
  have hT1 := s_X11_load_b65 _ _ h
  have hcs := cs_ok hgl hT1
  have cp0 := cpr0 hrc
  unfold g_X11_load_b65 at h
  refine lv_aload_n hx hb dX11_load_65 rfl (lv_at hl 0 rfl) ?_
  obtain ⟨g2, h⟩ := oif_some h
  obtain ⟨n3, en3, h⟩ := obind_some h
  have h_n3 : n3 < T.1 := by rw [← cp0.1]; exact cp0.2.2 _ _ _ en3
  refine c_get E G l0 14 (v := .ref (ad n3)) (oO_k g2).1 (cc_o11 (oO_k g2).2) rfl (fun w h => .tail _ (iA_23 h)) (by decide) (.tail _ qA_675) rfl (by rw [en3]; rfl) dX11_load_66 ?_
  clear en3
  obtain ⟨g4, h⟩ := oif_some h
  obtain ⟨n5, en5, h⟩ := obind_some h
  have h_n5 : n5 < T.1 := by rw [← cp0.1]; exact cp0.2.2 _ _ _ en5
  refine c_get E G n3 6 (v := .ref (ad n5)) (oO_k g4).1 (cc_o6 (oO_k g4).2) rfl (fun w h => .tail _ (iA_14 h)) (by decide) (.tail _ qA_695) rfl (by rw [en5]; rfl) dX11_load_69 ?_
  clear en5
  obtain ⟨g6, h⟩ := oif_some h
  obtain ⟨r9, T7, eT7, h⟩ := obind2_some h
  refine q_cvi (As := []) (rest := []) E G hA hX hN hml (u_X1_cells l hst D cI cJ cZ cMic cSrc cSt cAI cAJ ad T n5 eT7) (cwV 0 hts (gaV qA_714 qA_35 qA_36 qA_37 qA_38) rfl rfl rfl (by decide +kernel) ⟨Nat.le_of_ble_eq_true rfl, Nat.le_of_ble_eq_true rfl⟩) (oO_k g6).1 (cc_o1 (oO_k g6).2) rfl rfl hl.1 rfl (lv_room (Nat.le_of_ble_eq_true rfl)) dX11_load_72 hcs (fun q10 T8 H locs hq G => ?_)
  obtain ⟨hq1, hq2⟩ := hq
  rw [hq2] at G
  refine lv_to hq1 ?_
  clear hq1 hq2
  have cp1 := cpr_sp cp0 (s_X1_cells eT7)
  rw [(osome3 h).2.2] at G
  refine w_cast (c2 := T1.1 - T0.1) (s2 := sg T1 - sg T0) (by rw [← (osome3 h).2.2, cp1.1] <;> rfl) (by rw [← (osome3 h).2.2, sg_cpr cp1] <;> rfl) ?_
  refine lv_to ((osome3 h).2.1) ?_
  exact kr75 ad _ _ _ had G
set_option maxHeartbeats 4000000 in
set_option maxRecDepth 100000 in
theorem a_X11_load (l : Launch) (hst : l.stackTraces = false) (D : va_G) (cI cJ cZ cMic cSrc cSt cAI cAJ : ClassId) (ad : Nat → Nat) (T : AT) (h0 : Nat) (o : Nat) (a0 : Int32) {r1 : Int32} {T1 : AT} (h : g_X11_load T o a0 = some (0, r1, T1)) (hrc : RC T) (h_o : o < T.1) : kAiS l yX11_load (Cond.code yX11_load cX11_load 3 (some .int) :: wsA) 12 215 cI cJ cZ cMic cSrc cSt cAI cAJ D ad T [.ref (ad o), .int a0] (yT0 cI cJ cZ cMic cSrc cSt cAI cAJ h0 ad T) r1 T1 := by
  intro sz
  refine Met.ofW (cc := cX11_load) (maxL := 3) (ret := (some .int)) (by decide) rfl ?_
  intro p e s m args below meth c s₁ B hml hv
  obtain ⟨rfl, ⟨hsz, hP, hK, hD0, hX, hN⟩, hA1, hT⟩ := hv
  have hx := B.exec
  have hb := B.bytes
  have hr := B.returns
  have hts := atoms_spec (ws := (Cond.code yX11_load cX11_load 3 (some .int) :: wsA)) B.pre
  have hown : s.vm.findClass RX11 = some m.cls := findClass_of_methodNamed B.named
  have hlocks := B.notSynchronized
  subst hsz
  have hD := hD0.self (sz := s.heap.size)
  generalize hAe : va_A (cW ad T.1 (cc cI cJ cZ cMic cSrc cSt cAI cAJ ad T)) s.heap.size = A at hD hX hA1 ⊢
  have hA : ∀ q : Nat, s.heap.size ≤ q → A q := fun q h => by rw [← hAe]; exact Or.inr h
  have G : gC cI cJ cZ cMic cSrc cSt cAI cAJ D ad A s.heap s.heap [] T := ⟨hP, hD, va_S.rf⟩
  have E : cE p c cX11_load s m ([.ref (ad o), .int a0] : List Value).toArray (Cond.code yX11_load cX11_load 3 (some .int) :: wsA) D RX11 (CT cI cJ cZ cMic cSrc cSt cAI cAJ) := ⟨hx, hb, hts, hown, hK⟩
  have hA0 : ∀ a : Nat, A a → h0 ≤ a := hA1
  have hl := lv_entry ([.ref (ad o), .int a0]) (n := 3) (Nat.le_of_ble_eq_true rfl)
  rw [lg_entry_eq]
  generalize (lg_sl ([.ref (ad o), .int a0]) ++ List.replicate (3 - (lg_sl ([.ref (ad o), .int a0])).length) Slot.unset).toArray = ls at hl ⊢
  have hl : lv_has ls 3 [(0, .ref (ad o)), (1, .int a0)] := hl
  have hgl := GL.rf T
  have had : ∀ n, n < T.1 → ad n = ad n := fun _ _ => rfl
  have hT1 := s_X11_load h
  have hcs := cs_ok hgl hT1
  refine w_cast (Nat.sub_self T.1).symm (Nat.sub_self (sg T)).symm ?_
  have cp0 := cpr0 hrc
  unfold g_X11_load at h
  refine lv_iload_n hx hb dX11_load_0 rfl (lv_at hl 1 rfl) ?_
  refine lv_if_lt (tgt := 15) hx hb dX11_load_1 (by decide) (fun c2 => ?_) (fun c2 => ?_)
  · have h := oif_pos c2 h
    have hl := lv_sub hl [] rfl
    refine w_cast (c2 := T.1 - T.1) (s2 := sg T - sg T) (by rw [cp0.1] <;> rfl) (by rw [sg_cpr cp0] <;> rfl) ?_
    exact a_X11_load_b15 E hA hX hN hml hst hA0 hT (fun ad H locs ls had G => W.iret (v := r1) hx hb hr (fun t ht hW => ⟨⟨r1, (T1, ad), rfl, ⟨rfl, rfl, had⟩, ⟨by rw [ht]; exact G.1, va_K.moved hW.alike hK, G.2.1⟩⟩, G.2.2.F ht⟩) G.2.2.2.2 dX11_load_75) _ _ _ _ _ h (gl_cpr hgl cp0) cp0.2.2 had G hl
  · have h := oif_neg c2 h
    refine lv_iload_n hx hb dX11_load_4 rfl (lv_at hl 1 rfl) ?_
    refine lv_aload_n hx hb dX11_load_5 rfl (lv_at hl 0 rfl) ?_
    obtain ⟨g3, h⟩ := oif_some h
    obtain ⟨n4, en4, h⟩ := obind_some h
    have h_n4 : n4 < T.1 := by rw [← cp0.1]; exact cp0.2.2 _ _ _ en4
    refine c_get E G o 0 (v := .ref (ad n4)) (oO_k g3).1 (cc_o11 (oO_k g3).2) rfl (fun w h => .tail _ (iA_23 h)) (by decide) (.tail _ qA_648) rfl (by rw [en4]; rfl) dX11_load_6 ?_
    clear en4
    obtain ⟨g5, h⟩ := oif_some h
    refine c_get E G n4 1 (oO_k g5).1 (cc_o9 (oO_k g5).2) rfl (fun w h => .tail _ (iA_18 h)) (by decide) (.tail _ qA_688) rfl rfl dX11_load_9 ?_
    refine lv_topi (fun v6 ev6 => ?_)
    have h := elet_at ev6 h
    clear ev6
    refine lv_icmp_le (tgt := 23) hx hb dX11_load_12 (by decide) (fun c7 => ?_) (fun c7 => ?_)
    · have h := oif_pos c7 h
      refine lv_aload_n hx hb dX11_load_23 rfl (lv_at hl 0 rfl) ?_
      obtain ⟨g8, h⟩ := oif_some h
      obtain ⟨n9, en9, h⟩ := obind_some h
      have h_n9 : n9 < T.1 := by rw [← cp0.1]; exact cp0.2.2 _ _ _ en9
      refine c_get E G o 0 (v := .ref (ad n9)) (oO_k g8).1 (cc_o11 (oO_k g8).2) rfl (fun w h => .tail _ (iA_23 h)) (by decide) (.tail _ qA_648) rfl (by rw [en9]; rfl) dX11_load_24 ?_
      clear en9
      refine lv_iconst (v := 0) hx hb dX11_load_27 (by decide) ?_
      obtain ⟨g10, h⟩ := oif_some h
      refine c_put E G n9 1 (v := .int 0) (oO_k g10).1 (cc_o9 (oO_k g10).2) rfl (fun w h => .tail _ (iA_18 h)) tyX9 tyX9_ok nmX9 (by decide) (.tail _ qA_688) ⟨rfl, rfl, rfl⟩ rfl rfl (Nat.le_of_ble_eq_true rfl) dX11_load_28 (fun H locs G => ?_)
      have G := gC_up_i (f := upd (T.2.2.1 n9) 1 0) (by rw [(oO_k g10).2]; rfl) G
      obtain ⟨T11, eT11, h⟩ := elet_some h
      have G : gC cI cJ cZ cMic cSrc cSt cAI cAJ D ad A s.heap H locs T11 := by rw [eT11]; exact G
      have cp1 := show CPR T T11 from by rw [eT11]; exact cpr_sp cp0 sp_uI
      clear eT11
      refine lv_aload_n hx hb dX11_load_31 rfl (lv_at hl 0 rfl) ?_
      obtain ⟨g12, h⟩ := oif_some h
      obtain ⟨n13, en13, h⟩ := obind_some h
      have h_n13 : n13 < T.1 := by rw [← cp1.1]; exact cp1.2.2 _ _ _ en13
      refine c_get E G o 1 (v := .ref (ad n13)) (oO_k g12).1 (cc_o11 (oO_k g12).2) rfl (fun w h => .tail _ (iA_23 h)) (by decide) (.tail _ qA_651) rfl (by rw [en13]; rfl) dX11_load_32 ?_
      clear en13
      refine lv_iload_n hx hb dX11_load_35 rfl (lv_at hl 1 rfl) ?_
      refine lv_aload_n hx hb dX11_load_36 rfl (lv_at hl 0 rfl) ?_
      obtain ⟨g14, h⟩ := oif_some h
      obtain ⟨n15, en15, h⟩ := obind_some h
      have h_n15 : n15 < T.1 := by rw [← cp1.1]; exact cp1.2.2 _ _ _ en15
      refine c_get E G o 15 (v := .ref (ad n15)) (oO_k g14).1 (cc_o11 (oO_k g14).2) rfl (fun w h => .tail _ (iA_23 h)) (by decide) (.tail _ qA_676) rfl (by rw [en15]; rfl) dX11_load_37 ?_
      clear en15
      obtain ⟨g16, h⟩ := oif_some h
      obtain ⟨r19, T17, eT17, h⟩ := othr_n h
      refine q_cvvX (As := [.int a0, .ref (ad n15)]) (rest := []) E G hA hX hN hml (u_X3_parse l hst D cI cJ cZ cMic cSrc cSt cAI cAJ ad T11 h0 n13 a0 n15 eT17) (cwV 2 hts (gaV qA_696 qA_697 qA_698 qA_222 qA_175) rfl rfl rfl (by decide +kernel) ⟨Nat.le_of_ble_eq_true rfl, Nat.le_of_ble_eq_true rfl⟩) (oO_k g16).1 (cc_o3 (oO_k g16).2) rfl rfl hl.1 rfl (lv_room (Nat.le_of_ble_eq_true rfl)) dX11_load_40 hcs (yT0.blind) (yT0.go hT hA0 hA G) (fun T18 H locs hq G => ?_)
      rw [hq] at G
      clear hq
      have cp2 := cpr_sp cp1 (s_X3_parse eT17)
      refine lv_aload_n hx hb dX11_load_43 rfl (lv_at hl 0 rfl) ?_
      obtain ⟨g21, h⟩ := oif_some h
      obtain ⟨n22, en22, h⟩ := obind_some h
      have h_n22 : n22 < T.1 := by rw [← cp2.1]; exact cp2.2.2 _ _ _ en22
      refine c_get E G o 14 (v := .ref (ad n22)) (oO_k g21).1 (cc_o11 (oO_k g21).2) rfl (fun w h => .tail _ (iA_23 h)) (by decide) (.tail _ qA_675) rfl (by rw [en22]; rfl) dX11_load_44 ?_
      clear en22
      refine lv_astore_n (lv' := [(2, .ref (ad n22)), (0, .ref (ad o)), (1, .int a0)]) hx hb dX11_load_47 rfl hl (by decide) rfl (fun ls hl => ?_)
      refine lv_aload_n hx hb dX11_load_48 rfl (lv_at hl 1 rfl) ?_
      refine lv_aload_n hx hb dX11_load_49 rfl (lv_at hl 1 rfl) ?_
      obtain ⟨g23, h⟩ := oif_some h
      obtain ⟨n24, en24, h⟩ := obind_some h
      have h_n24 : n24 < T.1 := by rw [← cp2.1]; exact cp2.2.2 _ _ _ en24
      refine c_get E G o 15 (v := .ref (ad n24)) (oO_k g23).1 (cc_o11 (oO_k g23).2) rfl (fun w h => .tail _ (iA_23 h)) (by decide) (.tail _ qA_676) rfl (by rw [en24]; rfl) dX11_load_50 ?_
      clear en24
      obtain ⟨g25, h⟩ := oif_some h
      obtain ⟨g26, h⟩ := oif_some h
      refine c_put E G o 14 (v := .ref (ad n24)) (oO_k g25).1 (cc_o11 (oO_k g25).2) rfl (fun w h => .tail _ (iA_23 h)) tyX11 tyX11_ok nmX11 (by decide) (.tail _ qA_675) ⟨rfl, rfl, rfl⟩ rfl rfl (Nat.le_of_ble_eq_true rfl) dX11_load_53 (fun H locs G => ?_)
      have G := gC_up_r (f := va_up (T17.2.2.2.2 o) 14 (some n24)) (by rw [(oO_k g25).2]; rfl) G
      obtain ⟨T27, eT27, h⟩ := elet_some h
      have G : gC cI cJ cZ cMic cSrc cSt cAI cAJ D ad A s.heap H locs T27 := by rw [eT27]; exact G
      have cp3 := show CPR T T27 from by rw [eT27]; exact cpr_uR cp2 (Nat.le_of_ble_eq_true g26)
      clear eT27
      refine lv_aload_n hx hb dX11_load_56 rfl (lv_at hl 1 rfl) ?_
      refine lv_aload_n hx hb dX11_load_57 rfl (lv_at hl 0 rfl) ?_
      obtain ⟨g28, h⟩ := oif_some h
      obtain ⟨g29, h⟩ := oif_some h
      refine c_put E G o 15 (v := .ref (ad n22)) (oO_k g28).1 (cc_o11 (oO_k g28).2) rfl (fun w h => .tail _ (iA_23 h)) tyX11 tyX11_ok nmX11 (by decide) (.tail _ qA_676) ⟨rfl, rfl, rfl⟩ rfl rfl (Nat.le_of_ble_eq_true rfl) dX11_load_58 (fun H locs G => ?_)
      have G := gC_up_r (f := va_up (T27.2.2.2.2 o) 15 (some n22)) (by rw [(oO_k g28).2]; rfl) G
      obtain ⟨T30, eT30, h⟩ := elet_some h
      have G : gC cI cJ cZ cMic cSrc cSt cAI cAJ D ad A s.heap H locs T30 := by rw [eT30]; exact G
      have cp4 := show CPR T T30 from by rw [eT30]; exact cpr_uR cp3 (Nat.le_of_ble_eq_true g29)
      clear eT30
      refine lv_aload_n hx hb dX11_load_61 rfl (lv_at hl 1 rfl) ?_
      obtain ⟨g31, h⟩ := oif_some h
      obtain ⟨T32, eT32, h⟩ := obind_some h
      have hg2 := s_X11_begin eT32
      have hrc2 := hg2.2.2 cp4.2.2
      have hT2 := s_X11_load_b65 _ _ h
      refine q_avv (As := []) (rest := []) E G hA hX hN hml (a_X11_begin l hst D cI cJ cZ cMic cSrc cSt cAI cAJ ad T30 o eT32 cp4.2.2 (by rw [cp4.1]; exact h_o)) (cwV 0 hts (gaV qA_699 qA_700 qA_701 qA_131 qA_702) rfl rfl rfl (by decide +kernel) ⟨Nat.le_of_ble_eq_true rfl, Nat.le_of_ble_eq_true rfl⟩) (oO_k g31).1 (cc_o11 (oO_k g31).2) rfl rfl hl.1 rfl (lv_room (Nat.le_of_ble_eq_true rfl)) dX11_load_62 (cs_av hgl cp4 hg2 hT2) (fun ad2 H locs hga G => ?_)
      refine w_cast (c2 := T32.1 - T.1) (s2 := sg T32 - sg T) (cs_f1 hgl cp4 hg2) (cs_f2 hgl cp4 hg2) ?_
      have hl := lv_sub hl [1] rfl
      rw [show ad o = ad2 o from (hga o (by rw [cp4.1]; exact h_o)).symm] at hl
      exact a_X11_load_b65 E hA hX hN hml hst hA0 hT (fun ad H locs ls had G => W.iret (v := r1) hx hb hr (fun t ht hW => ⟨⟨r1, (T1, ad), rfl, ⟨rfl, rfl, had⟩, ⟨by rw [ht]; exact G.1, va_K.moved hW.alike hK, G.2.1⟩⟩, G.2.2.F ht⟩) G.2.2.2.2 dX11_load_75) _ _ _ _ _ _ h (GL.tr (gl_cpr hgl cp4) hg2) hrc2 (fun n hn => (hga n (by rw [cp4.1]; exact Nat.lt_of_lt_of_le hn hgl.1)).trans (had n hn)) (Nat.lt_of_lt_of_le (by rw [cp4.1]; exact h_o) hg2.1) G hl
    · have h := oif_neg c7 h
      have hl := lv_sub hl [] rfl
      refine w_cast (c2 := T.1 - T.1) (s2 := sg T - sg T) (by rw [cp0.1] <;> rfl) (by rw [sg_cpr cp0] <;> rfl) ?_
      exact a_X11_load_b15 E hA hX hN hml hst hA0 hT (fun ad H locs ls had G => W.iret (v := r1) hx hb hr (fun t ht hW => ⟨⟨r1, (T1, ad), rfl, ⟨rfl, rfl, had⟩, ⟨by rw [ht]; exact G.1, va_K.moved hW.alike hK, G.2.1⟩⟩, G.2.2.F ht⟩) G.2.2.2.2 dX11_load_75) _ _ _ _ _ h (gl_cpr hgl cp0) cp0.2.2 had G hl
set_option maxHeartbeats 4000000 in
set_option maxRecDepth 100000 in
theorem b_X11_load_b15 {p : Program} {l : Launch} {e : Env} {s : State} {m : MethodId} {args : Array Value} {below : List Frame} {meth : Method} {c : Code} {Qc : Array Value → State → Outcome → State → Prop} {XC : String → State → State → Prop} {D : va_G} {A : Nat → Prop} {cI cJ cZ cMic cSrc cSt cAI cAJ : ClassId} {ad0 : Nat → Nat} {T0 : AT} {e1 : Nat} {r1 : Int32} {T1 : AT} (E : cE p c cX11_load s m args (Cond.code yX11_load cX11_load 3 (some .int) :: wsA) D RX11 (CT cI cJ cZ cMic cSrc cSt cAI cAJ)) (hA : ∀ q : Nat, s.heap.size ≤ q → A q) (hX : xT A s) (hN : nX s) (hml : c.maxLocals = 3) {h0 : Nat} (hA0 : ∀ a : Nat, A a → h0 ≤ a) (hT : sAll h0 s) (hst : l.stackTraces = false) (htab : ∀ x ∈ c.exceptionTable.toList, False) (hlocks : meth.locks = false) (kx : ∀ (ad : Nat → Nat) (H : Heap) (locs : List Loc) (t : State), (∀ n, n < T0.1 → ad n = ad0 n) → gC cI cJ cZ cMic cSrc cSt cAI cAJ D ad A s.heap H locs T1 → s.vm.Alike t.vm → H.size ≤ t.heap.size → (∀ q, q < H.size → t.heap[q]? = H[q]?) → XC (exn e1) s t) : ∀ (T : AT) (ad : Nat → Nat) (H : Heap) (locs : List Loc) (ls : Array Slot), g_X11_load_b15 T = some (e1 + 1, r1, T1) → GL T0 T → RC T → (∀ n, n < T0.1 → ad n = ad0 n) → gC cI cJ cZ cMic cSrc cSt cAI cAJ D ad A s.heap H locs T → lv_has ls 3 [] → W p l e { frames := 12, cells := T1.1 - T0.1 + 1, slots := sg T1 - sg T0 + 6, locals := 215 } s m args below meth c H locs (T.1 - T0.1) (sg T - sg T0) (vx_MQ below Qc XC args s (T1.1 - T0.1 + 1) (sg T1 - sg T0 + 6) A) (F0 m 15 ls []) := by
  have hx := E.1
  have hb := E.2.1
  have hts := E.2.2.1
  have hown := E.2.2.2.1
  have hK := E.2.2.2.2
  intro T ad H locs ls h hgl hrc had G hl
  have hT1 := s_X11_load_b15 _ h
  have hcs := cs_okx hgl hT1
  have hcx := cs_okx1 hgl hT1
  have cp0 := cpr0 hrc
  unfold g_X11_load_b15 at h
  have hz : exn e1 = xIOB := by rw [show e1 = 1 by have := (osome3 h).1; omega]; rfl
  rw [(osome3 h).2.2] at G
  refine w_cast (c2 := T1.1 - T0.1) (s2 := sg T1 - sg T0) (by rw [← (osome3 h).2.2, cp0.1] <;> rfl) (by rw [← (osome3 h).2.2, sg_cpr cp0] <;> rfl) ?_
  refine vx_throw0 (own := RX11) (cls := xIOB) (names := ["java/lang/RuntimeException", "java/lang/Exception"]) (ik := 103) (ic := 105) (A := A) hx hb hst hown (by decide +kernel) (by decide +kernel) (hts _ (.tail _ qA_693)) (hts _ (.tail _ qA_694)) (vx_hat (B := xB) (fun w h => hts w (.tail _ (iA_25 h))) (by decide +kernel) hX.use) (by decide +kernel) hX.1 hX.2.1 G.2.2 (hl.1.trans hml.symm) dX11_load_15 dX11_load_18 dX11_load_19 dX11_load_22 (fun x hx => (htab x hx).elim) (Nat.le_of_ble_eq_true rfl) (Nat.le_of_ble_eq_true rfl) (Nat.le_refl _) (Nat.le_refl _) hlocks (fun t hvm h1 h2 => ?_) G.2.2.2.2 (Nat.le_refl _) (Nat.le_refl _)
  rw [← hz]
  exact kx ad _ _ _ had G hvm h1 h2
set_option maxHeartbeats 4000000 in
set_option maxRecDepth 100000 in
theorem b_X11_load_b65 {p : Program} {l : Launch} {e : Env} {s : State} {m : MethodId} {args : Array Value} {below : List Frame} {meth : Method} {c : Code} {Qc : Array Value → State → Outcome → State → Prop} {XC : String → State → State → Prop} {D : va_G} {A : Nat → Prop} {cI cJ cZ cMic cSrc cSt cAI cAJ : ClassId} {ad0 : Nat → Nat} {T0 : AT} {e1 : Nat} {r1 : Int32} {T1 : AT} (E : cE p c cX11_load s m args (Cond.code yX11_load cX11_load 3 (some .int) :: wsA) D RX11 (CT cI cJ cZ cMic cSrc cSt cAI cAJ)) (hA : ∀ q : Nat, s.heap.size ≤ q → A q) (hX : xT A s) (hN : nX s) (hml : c.maxLocals = 3) {h0 : Nat} (hA0 : ∀ a : Nat, A a → h0 ≤ a) (hT : sAll h0 s) (hst : l.stackTraces = false) (htab : ∀ x ∈ c.exceptionTable.toList, False) (hlocks : meth.locks = false) (kx : ∀ (ad : Nat → Nat) (H : Heap) (locs : List Loc) (t : State), (∀ n, n < T0.1 → ad n = ad0 n) → gC cI cJ cZ cMic cSrc cSt cAI cAJ D ad A s.heap H locs T1 → s.vm.Alike t.vm → H.size ≤ t.heap.size → (∀ q, q < H.size → t.heap[q]? = H[q]?) → XC (exn e1) s t) : ∀ (T : AT) (ad : Nat → Nat) (H : Heap) (locs : List Loc) (ls : Array Slot) (l0 : Nat), g_X11_load_b65 T l0 = some (e1 + 1, r1, T1) → GL T0 T → RC T → (∀ n, n < T0.1 → ad n = ad0 n) → l0 < T.1 → gC cI cJ cZ cMic cSrc cSt cAI cAJ D ad A s.heap H locs T → lv_has ls 3 [(0, .ref (ad l0))] → W p l e { frames := 12, cells := T1.1 - T0.1 + 1, slots := sg T1 - sg T0 + 6, locals := 215 } s m args below meth c H locs (T.1 - T0.1) (sg T - sg T0) (vx_MQ below Qc XC args s (T1.1 - T0.1 + 1) (sg T1 - sg T0 + 6) A) (F0 m 65 ls []) := by
  have hx := E.1
  have hb := E.2.1
  have hts := E.2.2.1
  have hown := E.2.2.2.1
  have hK := E.2.2.2.2
  intro T ad H locs ls l0 h hgl hrc had h_l0 G hl
  have hT1 := s_X11_load_b65 _ _ h
  have hcs := cs_okx hgl hT1
  have hcx := cs_okx1 hgl hT1
  have cp0 := cpr0 hrc
  unfold g_X11_load_b65 at h
  refine lv_aload_n hx hb dX11_load_65 rfl (lv_at hl 0 rfl) ?_
  obtain ⟨g2, h⟩ := oif_some h
  obtain ⟨n3, en3, h⟩ := obind_some h
  have h_n3 : n3 < T.1 := by rw [← cp0.1]; exact cp0.2.2 _ _ _ en3
  refine c_get E G l0 14 (v := .ref (ad n3)) (oO_k g2).1 (cc_o11 (oO_k g2).2) rfl (fun w h => .tail _ (iA_23 h)) (by decide) (.tail _ qA_675) rfl (by rw [en3]; rfl) dX11_load_66 ?_
  clear en3
  obtain ⟨g4, h⟩ := oif_some h
  obtain ⟨n5, en5, h⟩ := obind_some h
  have h_n5 : n5 < T.1 := by rw [← cp0.1]; exact cp0.2.2 _ _ _ en5
  refine c_get E G n3 6 (v := .ref (ad n5)) (oO_k g4).1 (cc_o6 (oO_k g4).2) rfl (fun w h => .tail _ (iA_14 h)) (by decide) (.tail _ qA_695) rfl (by rw [en5]; rfl) dX11_load_69 ?_
  clear en5
  obtain ⟨g6, h⟩ := oif_some h
  obtain ⟨r9, T7, eT7, h⟩ := obind2_some h
  refine q_cvi (As := []) (rest := []) E G hA hX hN hml (u_X1_cells l hst D cI cJ cZ cMic cSrc cSt cAI cAJ ad T n5 eT7) (cwV 0 hts (gaV qA_714 qA_35 qA_36 qA_37 qA_38) rfl rfl rfl (by decide +kernel) ⟨Nat.le_of_ble_eq_true rfl, Nat.le_of_ble_eq_true rfl⟩) (oO_k g6).1 (cc_o1 (oO_k g6).2) rfl rfl hl.1 rfl (lv_room (Nat.le_of_ble_eq_true rfl)) dX11_load_72 hcs (fun q10 T8 H locs hq G => ?_)
  obtain ⟨hq1, hq2⟩ := hq
  rw [hq2] at G
  refine lv_to hq1 ?_
  clear hq1 hq2
  have cp1 := cpr_sp cp0 (s_X1_cells eT7)
  exact (Nat.succ_ne_zero _ (congrArg Prod.fst (Option.some.inj h)).symm).elim
set_option maxHeartbeats 4000000 in
set_option maxRecDepth 100000 in
theorem b_X11_load (l : Launch) (hst : l.stackTraces = false) (D : va_G) (cI cJ cZ cMic cSrc cSt cAI cAJ : ClassId) (ad : Nat → Nat) (T : AT) (h0 : Nat) (o : Nat) (a0 : Int32) {e1 : Nat} {r1 : Int32} {T1 : AT} (h : g_X11_load T o a0 = some (e1 + 1, r1, T1)) (hrc : RC T) (h_o : o < T.1) : kAXiS l yX11_load (Cond.code yX11_load cX11_load 3 (some .int) :: wsA) 12 215 cI cJ cZ cMic cSrc cSt cAI cAJ D ad T [.ref (ad o), .int a0] (yT0 cI cJ cZ cMic cSrc cSt cAI cAJ h0 ad T) e1 T1 := by
  intro sz
  refine vx_ofW (cc := cX11_load) (maxL := 3) (ret := (some .int)) (by decide) rfl ?_
  intro p e s m args below meth c s₁ B hml htab hv
  obtain ⟨rfl, ⟨hsz, hP, hK, hD0, hX, hN⟩, hA1, hT⟩ := hv
  have hx := B.exec
  have hb := B.bytes
  have hr := B.returns
  have hts := atoms_spec (ws := (Cond.code yX11_load cX11_load 3 (some .int) :: wsA)) B.pre
  have hown : s.vm.findClass RX11 = some m.cls := findClass_of_methodNamed B.named
  have hlocks := B.notSynchronized
  subst hsz
  have hD := hD0.self (sz := s.heap.size)
  generalize hAe : va_A (cW ad T.1 (cc cI cJ cZ cMic cSrc cSt cAI cAJ ad T)) s.heap.size = A at hD hX hA1 ⊢
  have hA : ∀ q : Nat, s.heap.size ≤ q → A q := fun q h => by rw [← hAe]; exact Or.inr h
  have G : gC cI cJ cZ cMic cSrc cSt cAI cAJ D ad A s.heap s.heap [] T := ⟨hP, hD, va_S.rf⟩
  have E : cE p c cX11_load s m ([.ref (ad o), .int a0] : List Value).toArray (Cond.code yX11_load cX11_load 3 (some .int) :: wsA) D RX11 (CT cI cJ cZ cMic cSrc cSt cAI cAJ) := ⟨hx, hb, hts, hown, hK⟩
  have hA0 : ∀ a : Nat, A a → h0 ≤ a := hA1
  have htab : ∀ x ∈ c.exceptionTable.toList, False := fun x hx => htab x hx
  have hl := lv_entry ([.ref (ad o), .int a0]) (n := 3) (Nat.le_of_ble_eq_true rfl)
  rw [lg_entry_eq]
  generalize (lg_sl ([.ref (ad o), .int a0]) ++ List.replicate (3 - (lg_sl ([.ref (ad o), .int a0])).length) Slot.unset).toArray = ls at hl ⊢
  have hl : lv_has ls 3 [(0, .ref (ad o)), (1, .int a0)] := hl
  have hgl := GL.rf T
  have had : ∀ n, n < T.1 → ad n = ad n := fun _ _ => rfl
  have hT1 := s_X11_load h
  have hcs := cs_okx hgl hT1
  have hcx := cs_okx1 hgl hT1
  refine w_cast (Nat.sub_self T.1).symm (Nat.sub_self (sg T)).symm ?_
  have cp0 := cpr0 hrc
  unfold g_X11_load at h
  refine lv_iload_n hx hb dX11_load_0 rfl (lv_at hl 1 rfl) ?_
  refine lv_if_lt (tgt := 15) hx hb dX11_load_1 (by decide) (fun c2 => ?_) (fun c2 => ?_)
  · have h := oif_pos c2 h
    have hl := lv_sub hl [] rfl
    refine w_cast (c2 := T.1 - T.1) (s2 := sg T - sg T) (by rw [cp0.1] <;> rfl) (by rw [sg_cpr cp0] <;> rfl) ?_
    exact b_X11_load_b15 E hA hX hN hml hA0 hT hst htab hlocks (fun ad H locs t had G hvm h1 h2 => ⟨(T1, ad), trivial, ⟨⟨rfl, rfl, had⟩, (c_thrown G hK hvm h1 h2).1⟩, (c_thrown G hK hvm h1 h2).2⟩) _ _ _ _ _ h (gl_cpr hgl cp0) cp0.2.2 had G hl
  · have h := oif_neg c2 h
    refine lv_iload_n hx hb dX11_load_4 rfl (lv_at hl 1 rfl) ?_
    refine lv_aload_n hx hb dX11_load_5 rfl (lv_at hl 0 rfl) ?_
    obtain ⟨g3, h⟩ := oif_some h
    obtain ⟨n4, en4, h⟩ := obind_some h
    have h_n4 : n4 < T.1 := by rw [← cp0.1]; exact cp0.2.2 _ _ _ en4
    refine c_get E G o 0 (v := .ref (ad n4)) (oO_k g3).1 (cc_o11 (oO_k g3).2) rfl (fun w h => .tail _ (iA_23 h)) (by decide) (.tail _ qA_648) rfl (by rw [en4]; rfl) dX11_load_6 ?_
    clear en4
    obtain ⟨g5, h⟩ := oif_some h
    refine c_get E G n4 1 (oO_k g5).1 (cc_o9 (oO_k g5).2) rfl (fun w h => .tail _ (iA_18 h)) (by decide) (.tail _ qA_688) rfl rfl dX11_load_9 ?_
    refine lv_topi (fun v6 ev6 => ?_)
    have h := elet_at ev6 h
    clear ev6
    refine lv_icmp_le (tgt := 23) hx hb dX11_load_12 (by decide) (fun c7 => ?_) (fun c7 => ?_)
    · have h := oif_pos c7 h
      refine lv_aload_n hx hb dX11_load_23 rfl (lv_at hl 0 rfl) ?_
      obtain ⟨g8, h⟩ := oif_some h
      obtain ⟨n9, en9, h⟩ := obind_some h
      have h_n9 : n9 < T.1 := by rw [← cp0.1]; exact cp0.2.2 _ _ _ en9
      refine c_get E G o 0 (v := .ref (ad n9)) (oO_k g8).1 (cc_o11 (oO_k g8).2) rfl (fun w h => .tail _ (iA_23 h)) (by decide) (.tail _ qA_648) rfl (by rw [en9]; rfl) dX11_load_24 ?_
      clear en9
      refine lv_iconst (v := 0) hx hb dX11_load_27 (by decide) ?_
      obtain ⟨g10, h⟩ := oif_some h
      refine c_put E G n9 1 (v := .int 0) (oO_k g10).1 (cc_o9 (oO_k g10).2) rfl (fun w h => .tail _ (iA_18 h)) tyX9 tyX9_ok nmX9 (by decide) (.tail _ qA_688) ⟨rfl, rfl, rfl⟩ rfl rfl (Nat.le_of_ble_eq_true rfl) dX11_load_28 (fun H locs G => ?_)
      have G := gC_up_i (f := upd (T.2.2.1 n9) 1 0) (by rw [(oO_k g10).2]; rfl) G
      obtain ⟨T11, eT11, h⟩ := elet_some h
      have G : gC cI cJ cZ cMic cSrc cSt cAI cAJ D ad A s.heap H locs T11 := by rw [eT11]; exact G
      have cp1 := show CPR T T11 from by rw [eT11]; exact cpr_sp cp0 sp_uI
      clear eT11
      refine lv_aload_n hx hb dX11_load_31 rfl (lv_at hl 0 rfl) ?_
      obtain ⟨g12, h⟩ := oif_some h
      obtain ⟨n13, en13, h⟩ := obind_some h
      have h_n13 : n13 < T.1 := by rw [← cp1.1]; exact cp1.2.2 _ _ _ en13
      refine c_get E G o 1 (v := .ref (ad n13)) (oO_k g12).1 (cc_o11 (oO_k g12).2) rfl (fun w h => .tail _ (iA_23 h)) (by decide) (.tail _ qA_651) rfl (by rw [en13]; rfl) dX11_load_32 ?_
      clear en13
      refine lv_iload_n hx hb dX11_load_35 rfl (lv_at hl 1 rfl) ?_
      refine lv_aload_n hx hb dX11_load_36 rfl (lv_at hl 0 rfl) ?_
      obtain ⟨g14, h⟩ := oif_some h
      obtain ⟨n15, en15, h⟩ := obind_some h
      have h_n15 : n15 < T.1 := by rw [← cp1.1]; exact cp1.2.2 _ _ _ en15
      refine c_get E G o 15 (v := .ref (ad n15)) (oO_k g14).1 (cc_o11 (oO_k g14).2) rfl (fun w h => .tail _ (iA_23 h)) (by decide) (.tail _ qA_676) rfl (by rw [en15]; rfl) dX11_load_37 ?_
      clear en15
      obtain ⟨g16, h⟩ := oif_some h
      rcases othr_t h with ⟨r0, eT17⟩ | ⟨r19, T17, eT17, h⟩
      · refine q_xvvX (As := [.int a0, .ref (ad n15)]) (rest := []) E G hA hX hN hml (x_X3_parse l hst D cI cJ cZ cMic cSrc cSt cAI cAJ ad T11 h0 n13 a0 n15 eT17) (cwV 2 hts (gaV qA_696 qA_697 qA_698 qA_222 qA_175) rfl rfl rfl (by decide +kernel) ⟨Nat.le_of_ble_eq_true rfl, Nat.le_of_ble_eq_true rfl⟩) (oO_k g16).1 (cc_o3 (oO_k g16).2) rfl rfl hl.1 rfl (lv_room (Nat.le_of_ble_eq_true rfl)) dX11_load_40 hcx (yT0.blind) (yT0.go hT hA0 hA G) (fun E9 ce q9 T9 H locs hp G hce hcv hcl => ?_)
        obtain ⟨hE, hT⟩ := hp
        subst hE
        rw [hT] at G
        exact vx_out (fun x hx => (htab x hx).elim) hlocks hce hcv hcl (fun t ht hvm => ⟨(T1, ad), trivial, ⟨⟨rfl, rfl, had⟩, by rw [ht]; exact G.1, va_K.moved hvm hK, G.2.1⟩, G.2.2.F ht⟩) G.2.2.2.2 hcx.1 hcx.2
      refine q_cvvX (As := [.int a0, .ref (ad n15)]) (rest := []) E G hA hX hN hml (u_X3_parse l hst D cI cJ cZ cMic cSrc cSt cAI cAJ ad T11 h0 n13 a0 n15 eT17) (cwV 2 hts (gaV qA_696 qA_697 qA_698 qA_222 qA_175) rfl rfl rfl (by decide +kernel) ⟨Nat.le_of_ble_eq_true rfl, Nat.le_of_ble_eq_true rfl⟩) (oO_k g16).1 (cc_o3 (oO_k g16).2) rfl rfl hl.1 rfl (lv_room (Nat.le_of_ble_eq_true rfl)) dX11_load_40 hcs (yT0.blind) (yT0.go hT hA0 hA G) (fun T18 H locs hq G => ?_)
      rw [hq] at G
      clear hq
      have cp2 := cpr_sp cp1 (s_X3_parse eT17)
      refine lv_aload_n hx hb dX11_load_43 rfl (lv_at hl 0 rfl) ?_
      obtain ⟨g21, h⟩ := oif_some h
      obtain ⟨n22, en22, h⟩ := obind_some h
      have h_n22 : n22 < T.1 := by rw [← cp2.1]; exact cp2.2.2 _ _ _ en22
      refine c_get E G o 14 (v := .ref (ad n22)) (oO_k g21).1 (cc_o11 (oO_k g21).2) rfl (fun w h => .tail _ (iA_23 h)) (by decide) (.tail _ qA_675) rfl (by rw [en22]; rfl) dX11_load_44 ?_
      clear en22
      refine lv_astore_n (lv' := [(2, .ref (ad n22)), (0, .ref (ad o)), (1, .int a0)]) hx hb dX11_load_47 rfl hl (by decide) rfl (fun ls hl => ?_)
      refine lv_aload_n hx hb dX11_load_48 rfl (lv_at hl 1 rfl) ?_
      refine lv_aload_n hx hb dX11_load_49 rfl (lv_at hl 1 rfl) ?_
      obtain ⟨g23, h⟩ := oif_some h
      obtain ⟨n24, en24, h⟩ := obind_some h
      have h_n24 : n24 < T.1 := by rw [← cp2.1]; exact cp2.2.2 _ _ _ en24
      refine c_get E G o 15 (v := .ref (ad n24)) (oO_k g23).1 (cc_o11 (oO_k g23).2) rfl (fun w h => .tail _ (iA_23 h)) (by decide) (.tail _ qA_676) rfl (by rw [en24]; rfl) dX11_load_50 ?_
      clear en24
      obtain ⟨g25, h⟩ := oif_some h
      obtain ⟨g26, h⟩ := oif_some h
      refine c_put E G o 14 (v := .ref (ad n24)) (oO_k g25).1 (cc_o11 (oO_k g25).2) rfl (fun w h => .tail _ (iA_23 h)) tyX11 tyX11_ok nmX11 (by decide) (.tail _ qA_675) ⟨rfl, rfl, rfl⟩ rfl rfl (Nat.le_of_ble_eq_true rfl) dX11_load_53 (fun H locs G => ?_)
      have G := gC_up_r (f := va_up (T17.2.2.2.2 o) 14 (some n24)) (by rw [(oO_k g25).2]; rfl) G
      obtain ⟨T27, eT27, h⟩ := elet_some h
      have G : gC cI cJ cZ cMic cSrc cSt cAI cAJ D ad A s.heap H locs T27 := by rw [eT27]; exact G
      have cp3 := show CPR T T27 from by rw [eT27]; exact cpr_uR cp2 (Nat.le_of_ble_eq_true g26)
      clear eT27
      refine lv_aload_n hx hb dX11_load_56 rfl (lv_at hl 1 rfl) ?_
      refine lv_aload_n hx hb dX11_load_57 rfl (lv_at hl 0 rfl) ?_
      obtain ⟨g28, h⟩ := oif_some h
      obtain ⟨g29, h⟩ := oif_some h
      refine c_put E G o 15 (v := .ref (ad n22)) (oO_k g28).1 (cc_o11 (oO_k g28).2) rfl (fun w h => .tail _ (iA_23 h)) tyX11 tyX11_ok nmX11 (by decide) (.tail _ qA_676) ⟨rfl, rfl, rfl⟩ rfl rfl (Nat.le_of_ble_eq_true rfl) dX11_load_58 (fun H locs G => ?_)
      have G := gC_up_r (f := va_up (T27.2.2.2.2 o) 15 (some n22)) (by rw [(oO_k g28).2]; rfl) G
      obtain ⟨T30, eT30, h⟩ := elet_some h
      have G : gC cI cJ cZ cMic cSrc cSt cAI cAJ D ad A s.heap H locs T30 := by rw [eT30]; exact G
      have cp4 := show CPR T T30 from by rw [eT30]; exact cpr_uR cp3 (Nat.le_of_ble_eq_true g29)
      clear eT30
      refine lv_aload_n hx hb dX11_load_61 rfl (lv_at hl 1 rfl) ?_
      obtain ⟨g31, h⟩ := oif_some h
      obtain ⟨T32, eT32, h⟩ := obind_some h
      have hg2 := s_X11_begin eT32
      have hrc2 := hg2.2.2 cp4.2.2
      have hT2 := s_X11_load_b65 _ _ h
      refine q_avv (As := []) (rest := []) E G hA hX hN hml (a_X11_begin l hst D cI cJ cZ cMic cSrc cSt cAI cAJ ad T30 o eT32 cp4.2.2 (by rw [cp4.1]; exact h_o)) (cwV 0 hts (gaV qA_699 qA_700 qA_701 qA_131 qA_702) rfl rfl rfl (by decide +kernel) ⟨Nat.le_of_ble_eq_true rfl, Nat.le_of_ble_eq_true rfl⟩) (oO_k g31).1 (cc_o11 (oO_k g31).2) rfl rfl hl.1 rfl (lv_room (Nat.le_of_ble_eq_true rfl)) dX11_load_62 (cs_avx hgl cp4 hg2 hT2) (fun ad2 H locs hga G => ?_)
      refine w_cast (c2 := T32.1 - T.1) (s2 := sg T32 - sg T) (cs_f1 hgl cp4 hg2) (cs_f2 hgl cp4 hg2) ?_
      have hl := lv_sub hl [1] rfl
      rw [show ad o = ad2 o from (hga o (by rw [cp4.1]; exact h_o)).symm] at hl
      exact b_X11_load_b65 E hA hX hN hml hA0 hT hst htab hlocks (fun ad H locs t had G hvm h1 h2 => ⟨(T1, ad), trivial, ⟨⟨rfl, rfl, had⟩, (c_thrown G hK hvm h1 h2).1⟩, (c_thrown G hK hvm h1 h2).2⟩) _ _ _ _ _ _ h (GL.tr (gl_cpr hgl cp4) hg2) hrc2 (fun n hn => (hga n (by rw [cp4.1]; exact Nat.lt_of_lt_of_le hn hgl.1)).trans (had n hn)) (Nat.lt_of_lt_of_le (by rw [cp4.1]; exact h_o) hg2.1) G hl
    · have h := oif_neg c7 h
      have hl := lv_sub hl [] rfl
      refine w_cast (c2 := T.1 - T.1) (s2 := sg T - sg T) (by rw [cp0.1] <;> rfl) (by rw [sg_cpr cp0] <;> rfl) ?_
      exact b_X11_load_b15 E hA hX hN hml hA0 hT hst htab hlocks (fun ad H locs t had G hvm h1 h2 => ⟨(T1, ad), trivial, ⟨⟨rfl, rfl, had⟩, (c_thrown G hK hvm h1 h2).1⟩, (c_thrown G hK hvm h1 h2).2⟩) _ _ _ _ _ h (gl_cpr hgl cp0) cp0.2.2 had G hl
def g_X11_parseError (T : AT) (o : Nat) : Option (Int32 × AT) := oif (oO T o 11 = true) <| obind (T.2.2.2.2 o 1) fun n3 => oif (oO T n3 3 = true) <| elet (T.2.2.1 n3 2) fun v5 => some (v5, T)
set_option maxHeartbeats 4000000 in
set_option maxRecDepth 100000 in
theorem u_X11_parseError (l : Launch) (hst : l.stackTraces = false) (D : va_G) (cI cJ cZ cMic cSrc cSt cAI cAJ : ClassId) (ad : Nat → Nat) (T : AT) (o : Nat) {r1 : Int32} {T1 : AT} (h : g_X11_parseError T o = some (r1, T1)) : kCi l yX11_parseError (Cond.code yX11_parseError cX11_parseError 1 (some .int) :: wsA) 1 0 cI cJ cZ cMic cSrc cSt cAI cAJ D ad T [.ref (ad o)] (fun r T9 => r = r1 ∧ T9 = T1) := by
  intro sz
  refine Met.ofW (cc := cX11_parseError) (maxL := 1) (ret := (some .int)) (by decide) rfl ?_
  intro p e s m args below meth c s₁ B hml hv
  obtain ⟨rfl, hsz, hP, hK, hD0, hX, hN⟩ := hv
  have hx := B.exec
  have hb := B.bytes
  have hr := B.returns
  have hts := atoms_spec (ws := (Cond.code yX11_parseError cX11_parseError 1 (some .int) :: wsA)) B.pre
  have hown : s.vm.findClass RX11 = some m.cls := findClass_of_methodNamed B.named
  have hlocks := B.notSynchronized
  subst hsz
  have hD := hD0.self (sz := s.heap.size)
  generalize hAe : va_A (cW ad T.1 (cc cI cJ cZ cMic cSrc cSt cAI cAJ ad T)) s.heap.size = A at hD hX ⊢
  have hA : ∀ q : Nat, s.heap.size ≤ q → A q := fun q h => by rw [← hAe]; exact Or.inr h
  have G : gC cI cJ cZ cMic cSrc cSt cAI cAJ D ad A s.heap s.heap [] T := ⟨hP, hD, va_S.rf⟩
  have E : cE p c cX11_parseError s m ([.ref (ad o)] : List Value).toArray (Cond.code yX11_parseError cX11_parseError 1 (some .int) :: wsA) D RX11 (CT cI cJ cZ cMic cSrc cSt cAI cAJ) := ⟨hx, hb, hts, hown, hK⟩
  have hl := lv_entry ([.ref (ad o)]) (n := 1) (Nat.le_of_ble_eq_true rfl)
  rw [lg_entry_eq]
  generalize (lg_sl ([.ref (ad o)]) ++ List.replicate (1 - (lg_sl ([.ref (ad o)])).length) Slot.unset).toArray = ls at hl ⊢
  have hl : lv_has ls 1 [(0, .ref (ad o))] := hl
  unfold g_X11_parseError at h
  refine lv_aload_n hx hb dX11_parseError_0 rfl (lv_at hl 0 rfl) ?_
  obtain ⟨g2, h⟩ := oif_some h
  obtain ⟨n3, en3, h⟩ := obind_some h
  refine c_get E G o 1 (v := .ref (ad n3)) (oO_k g2).1 (cc_o11 (oO_k g2).2) rfl (fun w h => .tail _ (iA_23 h)) (by decide) (.tail _ qA_651) rfl (by rw [en3]; rfl) dX11_parseError_1 ?_
  clear en3
  obtain ⟨g4, h⟩ := oif_some h
  refine c_get E G n3 2 (oO_k g4).1 (cc_o3 (oO_k g4).2) rfl (fun w h => .tail _ (iA_17 h)) (by decide) (.tail _ qA_716) rfl rfl dX11_parseError_4 ?_
  refine lv_topi (fun v5 ev5 => ?_)
  have h := elet_at ev5 h
  clear ev5
  exact W.iret (v := v5) hx hb hr (fun t ht hW => ⟨⟨v5, T, rfl, osome2 h, ⟨by rw [ht]; exact G.1, va_K.moved hW.alike hK, G.2.1⟩⟩, G.2.2.F ht⟩) G.2.2.2.2 dX11_parseError_7
set_option maxHeartbeats 4000000 in
set_option maxRecDepth 100000 in
theorem s_X11_parseError {T : AT} {o : Nat} {r1 : Int32} {T1 : AT} (h : g_X11_parseError T o = some (r1, T1)) : SP T T1 := by
  have p0 := SP.rf T
  unfold g_X11_parseError at h
  obtain ⟨g2, h⟩ := oif_some h
  obtain ⟨n3, en3, h⟩ := obind_some h
  obtain ⟨g4, h⟩ := oif_some h
  obtain ⟨v5, -, h⟩ := elet_some h
  rw [← (osome2 h).2]
  exact p0
def g_X11_errorPosition (T : AT) (o : Nat) : Option (Int32 × AT) := oif (oO T o 11 = true) <| obind (T.2.2.2.2 o 1) fun n3 => oif (oO T n3 3 = true) <| elet (T.2.2.1 n3 3) fun v5 => some (v5, T)
set_option maxHeartbeats 4000000 in
set_option maxRecDepth 100000 in
theorem u_X11_errorPosition (l : Launch) (hst : l.stackTraces = false) (D : va_G) (cI cJ cZ cMic cSrc cSt cAI cAJ : ClassId) (ad : Nat → Nat) (T : AT) (o : Nat) {r1 : Int32} {T1 : AT} (h : g_X11_errorPosition T o = some (r1, T1)) : kCi l yX11_errorPosition (Cond.code yX11_errorPosition cX11_errorPosition 1 (some .int) :: wsA) 1 0 cI cJ cZ cMic cSrc cSt cAI cAJ D ad T [.ref (ad o)] (fun r T9 => r = r1 ∧ T9 = T1) := by
  intro sz
  refine Met.ofW (cc := cX11_errorPosition) (maxL := 1) (ret := (some .int)) (by decide) rfl ?_
  intro p e s m args below meth c s₁ B hml hv
  obtain ⟨rfl, hsz, hP, hK, hD0, hX, hN⟩ := hv
  have hx := B.exec
  have hb := B.bytes
  have hr := B.returns
  have hts := atoms_spec (ws := (Cond.code yX11_errorPosition cX11_errorPosition 1 (some .int) :: wsA)) B.pre
  have hown : s.vm.findClass RX11 = some m.cls := findClass_of_methodNamed B.named
  have hlocks := B.notSynchronized
  subst hsz
  have hD := hD0.self (sz := s.heap.size)
  generalize hAe : va_A (cW ad T.1 (cc cI cJ cZ cMic cSrc cSt cAI cAJ ad T)) s.heap.size = A at hD hX ⊢
  have hA : ∀ q : Nat, s.heap.size ≤ q → A q := fun q h => by rw [← hAe]; exact Or.inr h
  have G : gC cI cJ cZ cMic cSrc cSt cAI cAJ D ad A s.heap s.heap [] T := ⟨hP, hD, va_S.rf⟩
  have E : cE p c cX11_errorPosition s m ([.ref (ad o)] : List Value).toArray (Cond.code yX11_errorPosition cX11_errorPosition 1 (some .int) :: wsA) D RX11 (CT cI cJ cZ cMic cSrc cSt cAI cAJ) := ⟨hx, hb, hts, hown, hK⟩
  have hl := lv_entry ([.ref (ad o)]) (n := 1) (Nat.le_of_ble_eq_true rfl)
  rw [lg_entry_eq]
  generalize (lg_sl ([.ref (ad o)]) ++ List.replicate (1 - (lg_sl ([.ref (ad o)])).length) Slot.unset).toArray = ls at hl ⊢
  have hl : lv_has ls 1 [(0, .ref (ad o))] := hl
  unfold g_X11_errorPosition at h
  refine lv_aload_n hx hb dX11_errorPosition_0 rfl (lv_at hl 0 rfl) ?_
  obtain ⟨g2, h⟩ := oif_some h
  obtain ⟨n3, en3, h⟩ := obind_some h
  refine c_get E G o 1 (v := .ref (ad n3)) (oO_k g2).1 (cc_o11 (oO_k g2).2) rfl (fun w h => .tail _ (iA_23 h)) (by decide) (.tail _ qA_651) rfl (by rw [en3]; rfl) dX11_errorPosition_1 ?_
  clear en3
  obtain ⟨g4, h⟩ := oif_some h
  refine c_get E G n3 3 (oO_k g4).1 (cc_o3 (oO_k g4).2) rfl (fun w h => .tail _ (iA_17 h)) (by decide) (.tail _ qA_718) rfl rfl dX11_errorPosition_4 ?_
  refine lv_topi (fun v5 ev5 => ?_)
  have h := elet_at ev5 h
  clear ev5
  exact W.iret (v := v5) hx hb hr (fun t ht hW => ⟨⟨v5, T, rfl, osome2 h, ⟨by rw [ht]; exact G.1, va_K.moved hW.alike hK, G.2.1⟩⟩, G.2.2.F ht⟩) G.2.2.2.2 dX11_errorPosition_7
set_option maxHeartbeats 4000000 in
set_option maxRecDepth 100000 in
theorem s_X11_errorPosition {T : AT} {o : Nat} {r1 : Int32} {T1 : AT} (h : g_X11_errorPosition T o = some (r1, T1)) : SP T T1 := by
  have p0 := SP.rf T
  unfold g_X11_errorPosition at h
  obtain ⟨g2, h⟩ := oif_some h
  obtain ⟨n3, en3, h⟩ := obind_some h
  obtain ⟨g4, h⟩ := oif_some h
  obtain ⟨v5, -, h⟩ := elet_some h
  rw [← (osome2 h).2]
  exact p0
def g_X11_buffered (T : AT) (o : Nat) : Option (Int32 × AT) := oif (oO T o 11 = true) <| obind (T.2.2.2.2 o 0) fun n3 => oif (oO T n3 9 = true) <| elet (T.2.2.1 n3 1) fun v5 => some (v5, T)
set_option maxHeartbeats 4000000 in
set_option maxRecDepth 100000 in
theorem u_X11_buffered (l : Launch) (hst : l.stackTraces = false) (D : va_G) (cI cJ cZ cMic cSrc cSt cAI cAJ : ClassId) (ad : Nat → Nat) (T : AT) (o : Nat) {r1 : Int32} {T1 : AT} (h : g_X11_buffered T o = some (r1, T1)) : kCi l yX11_buffered (Cond.code yX11_buffered cX11_buffered 1 (some .int) :: wsA) 1 0 cI cJ cZ cMic cSrc cSt cAI cAJ D ad T [.ref (ad o)] (fun r T9 => r = r1 ∧ T9 = T1) := by
  intro sz
  refine Met.ofW (cc := cX11_buffered) (maxL := 1) (ret := (some .int)) (by decide) rfl ?_
  intro p e s m args below meth c s₁ B hml hv
  obtain ⟨rfl, hsz, hP, hK, hD0, hX, hN⟩ := hv
  have hx := B.exec
  have hb := B.bytes
  have hr := B.returns
  have hts := atoms_spec (ws := (Cond.code yX11_buffered cX11_buffered 1 (some .int) :: wsA)) B.pre
  have hown : s.vm.findClass RX11 = some m.cls := findClass_of_methodNamed B.named
  have hlocks := B.notSynchronized
  subst hsz
  have hD := hD0.self (sz := s.heap.size)
  generalize hAe : va_A (cW ad T.1 (cc cI cJ cZ cMic cSrc cSt cAI cAJ ad T)) s.heap.size = A at hD hX ⊢
  have hA : ∀ q : Nat, s.heap.size ≤ q → A q := fun q h => by rw [← hAe]; exact Or.inr h
  have G : gC cI cJ cZ cMic cSrc cSt cAI cAJ D ad A s.heap s.heap [] T := ⟨hP, hD, va_S.rf⟩
  have E : cE p c cX11_buffered s m ([.ref (ad o)] : List Value).toArray (Cond.code yX11_buffered cX11_buffered 1 (some .int) :: wsA) D RX11 (CT cI cJ cZ cMic cSrc cSt cAI cAJ) := ⟨hx, hb, hts, hown, hK⟩
  have hl := lv_entry ([.ref (ad o)]) (n := 1) (Nat.le_of_ble_eq_true rfl)
  rw [lg_entry_eq]
  generalize (lg_sl ([.ref (ad o)]) ++ List.replicate (1 - (lg_sl ([.ref (ad o)])).length) Slot.unset).toArray = ls at hl ⊢
  have hl : lv_has ls 1 [(0, .ref (ad o))] := hl
  unfold g_X11_buffered at h
  refine lv_aload_n hx hb dX11_buffered_0 rfl (lv_at hl 0 rfl) ?_
  obtain ⟨g2, h⟩ := oif_some h
  obtain ⟨n3, en3, h⟩ := obind_some h
  refine c_get E G o 0 (v := .ref (ad n3)) (oO_k g2).1 (cc_o11 (oO_k g2).2) rfl (fun w h => .tail _ (iA_23 h)) (by decide) (.tail _ qA_648) rfl (by rw [en3]; rfl) dX11_buffered_1 ?_
  clear en3
  obtain ⟨g4, h⟩ := oif_some h
  refine c_get E G n3 1 (oO_k g4).1 (cc_o9 (oO_k g4).2) rfl (fun w h => .tail _ (iA_18 h)) (by decide) (.tail _ qA_688) rfl rfl dX11_buffered_4 ?_
  refine lv_topi (fun v5 ev5 => ?_)
  have h := elet_at ev5 h
  clear ev5
  exact W.iret (v := v5) hx hb hr (fun t ht hW => ⟨⟨v5, T, rfl, osome2 h, ⟨by rw [ht]; exact G.1, va_K.moved hW.alike hK, G.2.1⟩⟩, G.2.2.F ht⟩) G.2.2.2.2 dX11_buffered_7
set_option maxHeartbeats 4000000 in
set_option maxRecDepth 100000 in
theorem s_X11_buffered {T : AT} {o : Nat} {r1 : Int32} {T1 : AT} (h : g_X11_buffered T o = some (r1, T1)) : SP T T1 := by
  have p0 := SP.rf T
  unfold g_X11_buffered at h
  obtain ⟨g2, h⟩ := oif_some h
  obtain ⟨n3, en3, h⟩ := obind_some h
  obtain ⟨g4, h⟩ := oif_some h
  obtain ⟨v5, -, h⟩ := elet_some h
  rw [← (osome2 h).2]
  exact p0
def g_X11_mics (T : AT) (o : Nat) : Option (Int32 × AT) := oif (oO T o 11 = true) <| obind (T.2.2.2.2 o 14) fun n3 => oif (oO T n3 6 = true) <| elet (T.2.2.1 n3 5) fun v5 => some (v5, T)
set_option maxHeartbeats 4000000 in
set_option maxRecDepth 100000 in
theorem u_X11_mics (l : Launch) (hst : l.stackTraces = false) (D : va_G) (cI cJ cZ cMic cSrc cSt cAI cAJ : ClassId) (ad : Nat → Nat) (T : AT) (o : Nat) {r1 : Int32} {T1 : AT} (h : g_X11_mics T o = some (r1, T1)) : kCi l yX11_mics (Cond.code yX11_mics cX11_mics 1 (some .int) :: wsA) 1 0 cI cJ cZ cMic cSrc cSt cAI cAJ D ad T [.ref (ad o)] (fun r T9 => r = r1 ∧ T9 = T1) := by
  intro sz
  refine Met.ofW (cc := cX11_mics) (maxL := 1) (ret := (some .int)) (by decide) rfl ?_
  intro p e s m args below meth c s₁ B hml hv
  obtain ⟨rfl, hsz, hP, hK, hD0, hX, hN⟩ := hv
  have hx := B.exec
  have hb := B.bytes
  have hr := B.returns
  have hts := atoms_spec (ws := (Cond.code yX11_mics cX11_mics 1 (some .int) :: wsA)) B.pre
  have hown : s.vm.findClass RX11 = some m.cls := findClass_of_methodNamed B.named
  have hlocks := B.notSynchronized
  subst hsz
  have hD := hD0.self (sz := s.heap.size)
  generalize hAe : va_A (cW ad T.1 (cc cI cJ cZ cMic cSrc cSt cAI cAJ ad T)) s.heap.size = A at hD hX ⊢
  have hA : ∀ q : Nat, s.heap.size ≤ q → A q := fun q h => by rw [← hAe]; exact Or.inr h
  have G : gC cI cJ cZ cMic cSrc cSt cAI cAJ D ad A s.heap s.heap [] T := ⟨hP, hD, va_S.rf⟩
  have E : cE p c cX11_mics s m ([.ref (ad o)] : List Value).toArray (Cond.code yX11_mics cX11_mics 1 (some .int) :: wsA) D RX11 (CT cI cJ cZ cMic cSrc cSt cAI cAJ) := ⟨hx, hb, hts, hown, hK⟩
  have hl := lv_entry ([.ref (ad o)]) (n := 1) (Nat.le_of_ble_eq_true rfl)
  rw [lg_entry_eq]
  generalize (lg_sl ([.ref (ad o)]) ++ List.replicate (1 - (lg_sl ([.ref (ad o)])).length) Slot.unset).toArray = ls at hl ⊢
  have hl : lv_has ls 1 [(0, .ref (ad o))] := hl
  unfold g_X11_mics at h
  refine lv_aload_n hx hb dX11_mics_0 rfl (lv_at hl 0 rfl) ?_
  obtain ⟨g2, h⟩ := oif_some h
  obtain ⟨n3, en3, h⟩ := obind_some h
  refine c_get E G o 14 (v := .ref (ad n3)) (oO_k g2).1 (cc_o11 (oO_k g2).2) rfl (fun w h => .tail _ (iA_23 h)) (by decide) (.tail _ qA_675) rfl (by rw [en3]; rfl) dX11_mics_1 ?_
  clear en3
  obtain ⟨g4, h⟩ := oif_some h
  refine c_get E G n3 5 (oO_k g4).1 (cc_o6 (oO_k g4).2) rfl (fun w h => .tail _ (iA_14 h)) (by decide) (.tail _ qA_721) rfl rfl dX11_mics_4 ?_
  refine lv_topi (fun v5 ev5 => ?_)
  have h := elet_at ev5 h
  clear ev5
  exact W.iret (v := v5) hx hb hr (fun t ht hW => ⟨⟨v5, T, rfl, osome2 h, ⟨by rw [ht]; exact G.1, va_K.moved hW.alike hK, G.2.1⟩⟩, G.2.2.F ht⟩) G.2.2.2.2 dX11_mics_7
set_option maxHeartbeats 4000000 in
set_option maxRecDepth 100000 in
theorem s_X11_mics {T : AT} {o : Nat} {r1 : Int32} {T1 : AT} (h : g_X11_mics T o = some (r1, T1)) : SP T T1 := by
  have p0 := SP.rf T
  unfold g_X11_mics at h
  obtain ⟨g2, h⟩ := oif_some h
  obtain ⟨n3, en3, h⟩ := obind_some h
  obtain ⟨g4, h⟩ := oif_some h
  obtain ⟨v5, -, h⟩ := elet_some h
  rw [← (osome2 h).2]
  exact p0
def g_X11_needCamera (T : AT) (o : Nat) : Option (Nat × Int32 × AT) := oif (oO T o 11 = true) <| obind (T.2.2.2.2 o 14) fun n3 => oif (oO T n3 6 = true) <| elet (T.2.2.1 n3 5) fun v5 => if v5 = 0 then (some (1, 0, T)) else (some (0, 0, T))
set_option maxHeartbeats 4000000 in
set_option maxRecDepth 100000 in
theorem u_X11_needCamera (l : Launch) (hst : l.stackTraces = false) (D : va_G) (cI cJ cZ cMic cSrc cSt cAI cAJ : ClassId) (ad : Nat → Nat) (T : AT) (o : Nat) {r1 : Int32} {T1 : AT} (h : g_X11_needCamera T o = some (0, r1, T1)) : kCv l yX11_needCamera (Cond.code yX11_needCamera cX11_needCamera 1 none :: wsA) 6 81 cI cJ cZ cMic cSrc cSt cAI cAJ D ad T [.ref (ad o)] (fun T9 => T9 = T1) := by
  intro sz
  refine Met.ofW (cc := cX11_needCamera) (maxL := 1) (ret := none) (by decide) rfl ?_
  intro p e s m args below meth c s₁ B hml hv
  obtain ⟨rfl, hsz, hP, hK, hD0, hX, hN⟩ := hv
  have hx := B.exec
  have hb := B.bytes
  have hr := B.returns
  have hts := atoms_spec (ws := (Cond.code yX11_needCamera cX11_needCamera 1 none :: wsA)) B.pre
  have hown : s.vm.findClass RX11 = some m.cls := findClass_of_methodNamed B.named
  have hlocks := B.notSynchronized
  subst hsz
  have hD := hD0.self (sz := s.heap.size)
  generalize hAe : va_A (cW ad T.1 (cc cI cJ cZ cMic cSrc cSt cAI cAJ ad T)) s.heap.size = A at hD hX ⊢
  have hA : ∀ q : Nat, s.heap.size ≤ q → A q := fun q h => by rw [← hAe]; exact Or.inr h
  have G : gC cI cJ cZ cMic cSrc cSt cAI cAJ D ad A s.heap s.heap [] T := ⟨hP, hD, va_S.rf⟩
  have E : cE p c cX11_needCamera s m ([.ref (ad o)] : List Value).toArray (Cond.code yX11_needCamera cX11_needCamera 1 none :: wsA) D RX11 (CT cI cJ cZ cMic cSrc cSt cAI cAJ) := ⟨hx, hb, hts, hown, hK⟩
  have hl := lv_entry ([.ref (ad o)]) (n := 1) (Nat.le_of_ble_eq_true rfl)
  rw [lg_entry_eq]
  generalize (lg_sl ([.ref (ad o)]) ++ List.replicate (1 - (lg_sl ([.ref (ad o)])).length) Slot.unset).toArray = ls at hl ⊢
  have hl : lv_has ls 1 [(0, .ref (ad o))] := hl
  unfold g_X11_needCamera at h
  refine lv_aload_n hx hb dX11_needCamera_0 rfl (lv_at hl 0 rfl) ?_
  obtain ⟨g2, h⟩ := oif_some h
  obtain ⟨n3, en3, h⟩ := obind_some h
  refine c_get E G o 14 (v := .ref (ad n3)) (oO_k g2).1 (cc_o11 (oO_k g2).2) rfl (fun w h => .tail _ (iA_23 h)) (by decide) (.tail _ qA_675) rfl (by rw [en3]; rfl) dX11_needCamera_1 ?_
  clear en3
  obtain ⟨g4, h⟩ := oif_some h
  refine c_get E G n3 5 (oO_k g4).1 (cc_o6 (oO_k g4).2) rfl (fun w h => .tail _ (iA_14 h)) (by decide) (.tail _ qA_721) rfl rfl dX11_needCamera_4 ?_
  refine lv_topi (fun v5 ev5 => ?_)
  have h := elet_at ev5 h
  clear ev5
  refine lv_if_ne (tgt := 18) hx hb dX11_needCamera_7 (by decide) (fun c6 => ?_) (fun c6 => ?_)
  · have h := oif_neg c6 h
    exact W.vret hx hb hr (fun t ht hW => ⟨⟨T, rfl, (osome3 h).2.2, ⟨by rw [ht]; exact G.1, va_K.moved hW.alike hK, G.2.1⟩⟩, G.2.2.F ht⟩) G.2.2.2.2 dX11_needCamera_18
  · have h := oif_pos c6 h
    exact absurd (osome3 h).1 (by decide)
set_option maxHeartbeats 4000000 in
set_option maxRecDepth 100000 in
theorem s_X11_needCamera {T : AT} {o : Nat} {e1 : Nat} {r1 : Int32} {T1 : AT} (h : g_X11_needCamera T o = some (e1, r1, T1)) : SP T T1 := by
  have p0 := SP.rf T
  unfold g_X11_needCamera at h
  obtain ⟨g2, h⟩ := oif_some h
  obtain ⟨n3, en3, h⟩ := obind_some h
  obtain ⟨g4, h⟩ := oif_some h
  obtain ⟨v5, -, h⟩ := elet_some h
  rcases oif_or h with ⟨c6, h⟩ | ⟨c6, h⟩
  · have h := h
    rw [← (osome3 h).2.2]
    exact p0
  · have h := h
    rw [← (osome3 h).2.2]
    exact p0
set_option maxHeartbeats 4000000 in
set_option maxRecDepth 100000 in
theorem x_X11_needCamera (l : Launch) (hst : l.stackTraces = false) (D : va_G) (cI cJ cZ cMic cSrc cSt cAI cAJ : ClassId) (ad : Nat → Nat) (T : AT) (o : Nat) {e1 : Nat} {r1 : Int32} {T1 : AT} (h : g_X11_needCamera T o = some (e1 + 1, r1, T1)) : kXv l yX11_needCamera (Cond.code yX11_needCamera cX11_needCamera 1 none :: wsA) 6 81 cI cJ cZ cMic cSrc cSt cAI cAJ D ad T [.ref (ad o)] e1 T1 := by
  intro sz
  refine vx_ofW (cc := cX11_needCamera) (maxL := 1) (ret := none) (by decide) rfl ?_
  intro p e s m args below meth c s₁ B hml htab hv
  obtain ⟨rfl, hsz, hP, hK, hD0, hX, hN⟩ := hv
  have hx := B.exec
  have hb := B.bytes
  have hr := B.returns
  have hts := atoms_spec (ws := (Cond.code yX11_needCamera cX11_needCamera 1 none :: wsA)) B.pre
  have hown : s.vm.findClass RX11 = some m.cls := findClass_of_methodNamed B.named
  have hlocks := B.notSynchronized
  subst hsz
  have hD := hD0.self (sz := s.heap.size)
  generalize hAe : va_A (cW ad T.1 (cc cI cJ cZ cMic cSrc cSt cAI cAJ ad T)) s.heap.size = A at hD hX ⊢
  have hA : ∀ q : Nat, s.heap.size ≤ q → A q := fun q h => by rw [← hAe]; exact Or.inr h
  have G : gC cI cJ cZ cMic cSrc cSt cAI cAJ D ad A s.heap s.heap [] T := ⟨hP, hD, va_S.rf⟩
  have E : cE p c cX11_needCamera s m ([.ref (ad o)] : List Value).toArray (Cond.code yX11_needCamera cX11_needCamera 1 none :: wsA) D RX11 (CT cI cJ cZ cMic cSrc cSt cAI cAJ) := ⟨hx, hb, hts, hown, hK⟩
  have htab : ∀ x ∈ c.exceptionTable.toList, False := fun x hx => htab x hx
  have hl := lv_entry ([.ref (ad o)]) (n := 1) (Nat.le_of_ble_eq_true rfl)
  rw [lg_entry_eq]
  generalize (lg_sl ([.ref (ad o)]) ++ List.replicate (1 - (lg_sl ([.ref (ad o)])).length) Slot.unset).toArray = ls at hl ⊢
  have hl : lv_has ls 1 [(0, .ref (ad o))] := hl
  unfold g_X11_needCamera at h
  refine lv_aload_n hx hb dX11_needCamera_0 rfl (lv_at hl 0 rfl) ?_
  obtain ⟨g2, h⟩ := oif_some h
  obtain ⟨n3, en3, h⟩ := obind_some h
  refine c_get E G o 14 (v := .ref (ad n3)) (oO_k g2).1 (cc_o11 (oO_k g2).2) rfl (fun w h => .tail _ (iA_23 h)) (by decide) (.tail _ qA_675) rfl (by rw [en3]; rfl) dX11_needCamera_1 ?_
  clear en3
  obtain ⟨g4, h⟩ := oif_some h
  refine c_get E G n3 5 (oO_k g4).1 (cc_o6 (oO_k g4).2) rfl (fun w h => .tail _ (iA_14 h)) (by decide) (.tail _ qA_721) rfl rfl dX11_needCamera_4 ?_
  refine lv_topi (fun v5 ev5 => ?_)
  have h := elet_at ev5 h
  clear ev5
  refine lv_if_ne (tgt := 18) hx hb dX11_needCamera_7 (by decide) (fun c6 => ?_) (fun c6 => ?_)
  · have h := oif_neg c6 h
    exact (Nat.succ_ne_zero _ (congrArg Prod.fst (Option.some.inj h)).symm).elim
  · have h := oif_pos c6 h
    have hz : exn e1 = xISE := by rw [show e1 = 0 by have := (osome3 h).1; omega]; rfl
    rw [(osome3 h).2.2] at G
    refine vx_throw0 (own := RX11) (cls := xISE) (names := ["java/lang/RuntimeException", "java/lang/Exception"]) (ik := 397) (ic := 399) (A := A) hx hb hst hown (by decide +kernel) (by decide +kernel) (hts _ (.tail _ qA_732)) (hts _ (.tail _ qA_733)) (vx_hat (B := xB) (fun w h => hts w (.tail _ (iA_26 h))) (by decide +kernel) hX.use) (by decide +kernel) hX.1 hX.2.1 G.2.2 (hl.1.trans hml.symm) dX11_needCamera_10 dX11_needCamera_13 dX11_needCamera_14 dX11_needCamera_17 (fun x hx => (htab x hx).elim) (Nat.le_of_ble_eq_true rfl) (Nat.le_of_ble_eq_true rfl) (Nat.le_of_ble_eq_true rfl) (Nat.le_of_ble_eq_true rfl) hlocks (fun t hvm h1 h2 => ?_) G.2.2.2.2 (Nat.le_refl _) (Nat.le_refl _)
    exact ⟨T1, trivial, ⟨⟨hz.symm, rfl⟩, (c_thrown G hK hvm h1 h2).1⟩, (c_thrown G hK hvm h1 h2).2⟩
def g_X11_needIndex_b9  (T : AT)  : Option (Nat × Int32 × AT) := some (2, 0, T)
set_option maxHeartbeats 4000000 in
set_option maxRecDepth 100000 in
theorem u_X11_needIndex_b9 {p : Program} {l : Launch} {e : Env} {s : State} {m : MethodId} {args : Array Value} {below : List Frame} {meth : Method} {c : Code} {Q : State → Prop} {D : va_G} {A : Nat → Prop} {cI cJ cZ cMic cSrc cSt cAI cAJ : ClassId} {ad : Nat → Nat} {r1 : Int32} {T1 : AT} (E : cE p c cX11_needIndex s m args (Cond.code yX11_needIndex cX11_needIndex 2 none :: wsA) D RX11 (CT cI cJ cZ cMic cSrc cSt cAI cAJ)) (hA : ∀ q : Nat, s.heap.size ≤ q → A q) (hX : xT A s) (hN : nX s) (hml : c.maxLocals = 2) (hst : l.stackTraces = false) (kr17 : ∀ (H : Heap) (locs : List Loc) (ls : Array Slot), gC cI cJ cZ cMic cSrc cSt cAI cAJ D ad A s.heap H locs T1 → W p l e { frames := 6, cells := 0, slots := 0, locals := 81 } s m args below meth c H locs 0 0 Q (F0 m 17 ls [])) : ∀ (T : AT) (H : Heap) (locs : List Loc) (ls : Array Slot), g_X11_needIndex_b9 T = some (0, r1, T1) → gC cI cJ cZ cMic cSrc cSt cAI cAJ D ad A s.heap H locs T → lv_has ls 2 [] → W p l e { frames := 6, cells := 0, slots := 0, locals := 81 } s m args below meth c H locs 0 0 Q (F0 m 9 ls []) := by
  have hx := E.1
  have hb := E.2.1
  have hts := E.2.2.1
  have hown := E.2.2.2.1
  have hK := E.2.2.2.2
  intro T H locs ls h G hl
  unfold g_X11_needIndex_b9 at h
  exact absurd (osome3 h).1 (by decide)
def g_X11_needIndex (T : AT) (a0 : Int32) (a1 : Int32) : Option (Nat × Int32 × AT) := if a0 < 0 then (g_X11_needIndex_b9 T) else (if a0 < a1 then (some (0, 0, T)) else (g_X11_needIndex_b9 T))
set_option maxHeartbeats 4000000 in
set_option maxRecDepth 100000 in
theorem u_X11_needIndex (l : Launch) (hst : l.stackTraces = false) (D : va_G) (cI cJ cZ cMic cSrc cSt cAI cAJ : ClassId) (ad : Nat → Nat) (T : AT) (a0 : Int32) (a1 : Int32) {r1 : Int32} {T1 : AT} (h : g_X11_needIndex T a0 a1 = some (0, r1, T1)) : kCv l yX11_needIndex (Cond.code yX11_needIndex cX11_needIndex 2 none :: wsA) 6 81 cI cJ cZ cMic cSrc cSt cAI cAJ D ad T [.int a0, .int a1] (fun T9 => T9 = T1) := by
  intro sz
  refine Met.ofW (cc := cX11_needIndex) (maxL := 2) (ret := none) (by decide) rfl ?_
  intro p e s m args below meth c s₁ B hml hv
  obtain ⟨rfl, hsz, hP, hK, hD0, hX, hN⟩ := hv
  have hx := B.exec
  have hb := B.bytes
  have hr := B.returns
  have hts := atoms_spec (ws := (Cond.code yX11_needIndex cX11_needIndex 2 none :: wsA)) B.pre
  have hown : s.vm.findClass RX11 = some m.cls := findClass_of_methodNamed B.named
  have hlocks := B.notSynchronized
  subst hsz
  have hD := hD0.self (sz := s.heap.size)
  generalize hAe : va_A (cW ad T.1 (cc cI cJ cZ cMic cSrc cSt cAI cAJ ad T)) s.heap.size = A at hD hX ⊢
  have hA : ∀ q : Nat, s.heap.size ≤ q → A q := fun q h => by rw [← hAe]; exact Or.inr h
  have G : gC cI cJ cZ cMic cSrc cSt cAI cAJ D ad A s.heap s.heap [] T := ⟨hP, hD, va_S.rf⟩
  have E : cE p c cX11_needIndex s m ([.int a0, .int a1] : List Value).toArray (Cond.code yX11_needIndex cX11_needIndex 2 none :: wsA) D RX11 (CT cI cJ cZ cMic cSrc cSt cAI cAJ) := ⟨hx, hb, hts, hown, hK⟩
  have hl := lv_entry ([.int a0, .int a1]) (n := 2) (Nat.le_of_ble_eq_true rfl)
  rw [lg_entry_eq]
  generalize (lg_sl ([.int a0, .int a1]) ++ List.replicate (2 - (lg_sl ([.int a0, .int a1])).length) Slot.unset).toArray = ls at hl ⊢
  have hl : lv_has ls 2 [(0, .int a0), (1, .int a1)] := hl
  unfold g_X11_needIndex at h
  refine lv_iload_n hx hb dX11_needIndex_0 rfl (lv_at hl 0 rfl) ?_
  refine lv_if_lt (tgt := 9) hx hb dX11_needIndex_1 (by decide) (fun c2 => ?_) (fun c2 => ?_)
  · have h := oif_pos c2 h
    have hl := lv_sub hl [] rfl
    exact u_X11_needIndex_b9 E hA hX hN hml hst (fun H locs ls G => W.vret hx hb hr (fun t ht hW => ⟨⟨T1, rfl, rfl, ⟨by rw [ht]; exact G.1, va_K.moved hW.alike hK, G.2.1⟩⟩, G.2.2.F ht⟩) G.2.2.2.2 dX11_needIndex_17) _ _ _ _ h G hl
  · have h := oif_neg c2 h
    refine lv_iload_n hx hb dX11_needIndex_4 rfl (lv_at hl 0 rfl) ?_
    refine lv_iload_n hx hb dX11_needIndex_5 rfl (lv_at hl 1 rfl) ?_
    refine lv_icmp_lt (tgt := 17) hx hb dX11_needIndex_6 (by decide) (fun c3 => ?_) (fun c3 => ?_)
    · have h := oif_pos c3 h
      exact W.vret hx hb hr (fun t ht hW => ⟨⟨T, rfl, (osome3 h).2.2, ⟨by rw [ht]; exact G.1, va_K.moved hW.alike hK, G.2.1⟩⟩, G.2.2.F ht⟩) G.2.2.2.2 dX11_needIndex_17
    · have h := oif_neg c3 h
      have hl := lv_sub hl [] rfl
      exact u_X11_needIndex_b9 E hA hX hN hml hst (fun H locs ls G => W.vret hx hb hr (fun t ht hW => ⟨⟨T1, rfl, rfl, ⟨by rw [ht]; exact G.1, va_K.moved hW.alike hK, G.2.1⟩⟩, G.2.2.F ht⟩) G.2.2.2.2 dX11_needIndex_17) _ _ _ _ h G hl
set_option maxHeartbeats 4000000 in
set_option maxRecDepth 100000 in
theorem s_X11_needIndex_b9 {e1 : Nat} {r1 : Int32} {T1 : AT} : ∀ (T : AT), g_X11_needIndex_b9 T = some (e1, r1, T1) → SP T T1 := by
  intro T h
  have p0 := SP.rf T
  unfold g_X11_needIndex_b9 at h
  rw [← (osome3 h).2.2]
  exact p0
set_option maxHeartbeats 4000000 in
set_option maxRecDepth 100000 in
theorem s_X11_needIndex {T : AT} {a0 : Int32} {a1 : Int32} {e1 : Nat} {r1 : Int32} {T1 : AT} (h : g_X11_needIndex T a0 a1 = some (e1, r1, T1)) : SP T T1 := by
  have p0 := SP.rf T
  unfold g_X11_needIndex at h
  rcases oif_or h with ⟨c2, h⟩ | ⟨c2, h⟩
  · have h := h
    exact SP.tr p0 (s_X11_needIndex_b9 _ h)
  · have h := h
    rcases oif_or h with ⟨c3, h⟩ | ⟨c3, h⟩
    · have h := h
      rw [← (osome3 h).2.2]
      exact p0
    · have h := h
      exact SP.tr p0 (s_X11_needIndex_b9 _ h)
set_option maxHeartbeats 4000000 in
set_option maxRecDepth 100000 in
theorem x_X11_needIndex_b9 {p : Program} {l : Launch} {e : Env} {s : State} {m : MethodId} {args : Array Value} {below : List Frame} {meth : Method} {c : Code} {Qc : Array Value → State → Outcome → State → Prop} {XC : String → State → State → Prop} {D : va_G} {A : Nat → Prop} {cI cJ cZ cMic cSrc cSt cAI cAJ : ClassId} {ad : Nat → Nat} {e1 : Nat} {r1 : Int32} {T1 : AT} (E : cE p c cX11_needIndex s m args (Cond.code yX11_needIndex cX11_needIndex 2 none :: wsA) D RX11 (CT cI cJ cZ cMic cSrc cSt cAI cAJ)) (hA : ∀ q : Nat, s.heap.size ≤ q → A q) (hX : xT A s) (hN : nX s) (hml : c.maxLocals = 2) (hz9 : True) (hst : l.stackTraces = false) (htab : ∀ x ∈ c.exceptionTable.toList, False) (hlocks : meth.locks = false) (kx : ∀ (H : Heap) (locs : List Loc) (t : State), gC cI cJ cZ cMic cSrc cSt cAI cAJ D ad A s.heap H locs T1 → s.vm.Alike t.vm → H.size ≤ t.heap.size → (∀ q, q < H.size → t.heap[q]? = H[q]?) → XC (exn e1) s t) : ∀ (T : AT) (H : Heap) (locs : List Loc) (ls : Array Slot), g_X11_needIndex_b9 T = some (e1 + 1, r1, T1) → gC cI cJ cZ cMic cSrc cSt cAI cAJ D ad A s.heap H locs T → lv_has ls 2 [] → W p l e { frames := 6, cells := 1, slots := 6, locals := 81 } s m args below meth c H locs 0 0 (vx_MQ below Qc XC args s 1 6 A) (F0 m 9 ls []) := by
  have hx := E.1
  have hb := E.2.1
  have hts := E.2.2.1
  have hown := E.2.2.2.1
  have hK := E.2.2.2.2
  intro T H locs ls h G hl
  unfold g_X11_needIndex_b9 at h
  have hz : exn e1 = xIOB := by rw [show e1 = 1 by have := (osome3 h).1; omega]; rfl
  rw [(osome3 h).2.2] at G
  refine vx_throw0 (own := RX11) (cls := xIOB) (names := ["java/lang/RuntimeException", "java/lang/Exception"]) (ik := 103) (ic := 105) (A := A) hx hb hst hown (by decide +kernel) (by decide +kernel) (hts _ (.tail _ qA_693)) (hts _ (.tail _ qA_694)) (vx_hat (B := xB) (fun w h => hts w (.tail _ (iA_25 h))) (by decide +kernel) hX.use) (by decide +kernel) hX.1 hX.2.1 G.2.2 (hl.1.trans hml.symm) dX11_needIndex_9 dX11_needIndex_12 dX11_needIndex_13 dX11_needIndex_16 (fun x hx => (htab x hx).elim) (Nat.le_of_ble_eq_true rfl) (Nat.le_of_ble_eq_true rfl) (Nat.le_of_ble_eq_true rfl) (Nat.le_of_ble_eq_true rfl) hlocks (fun t hvm h1 h2 => ?_) G.2.2.2.2 (Nat.le_refl _) (Nat.le_refl _)
  rw [← hz]
  exact kx _ _ _ G hvm h1 h2
set_option maxHeartbeats 4000000 in
set_option maxRecDepth 100000 in
theorem x_X11_needIndex (l : Launch) (hst : l.stackTraces = false) (D : va_G) (cI cJ cZ cMic cSrc cSt cAI cAJ : ClassId) (ad : Nat → Nat) (T : AT) (a0 : Int32) (a1 : Int32) {e1 : Nat} {r1 : Int32} {T1 : AT} (h : g_X11_needIndex T a0 a1 = some (e1 + 1, r1, T1)) : kXv l yX11_needIndex (Cond.code yX11_needIndex cX11_needIndex 2 none :: wsA) 6 81 cI cJ cZ cMic cSrc cSt cAI cAJ D ad T [.int a0, .int a1] e1 T1 := by
  intro sz
  refine vx_ofW (cc := cX11_needIndex) (maxL := 2) (ret := none) (by decide) rfl ?_
  intro p e s m args below meth c s₁ B hml htab hv
  obtain ⟨rfl, hsz, hP, hK, hD0, hX, hN⟩ := hv
  have hx := B.exec
  have hb := B.bytes
  have hr := B.returns
  have hts := atoms_spec (ws := (Cond.code yX11_needIndex cX11_needIndex 2 none :: wsA)) B.pre
  have hown : s.vm.findClass RX11 = some m.cls := findClass_of_methodNamed B.named
  have hlocks := B.notSynchronized
  subst hsz
  have hD := hD0.self (sz := s.heap.size)
  generalize hAe : va_A (cW ad T.1 (cc cI cJ cZ cMic cSrc cSt cAI cAJ ad T)) s.heap.size = A at hD hX ⊢
  have hA : ∀ q : Nat, s.heap.size ≤ q → A q := fun q h => by rw [← hAe]; exact Or.inr h
  have G : gC cI cJ cZ cMic cSrc cSt cAI cAJ D ad A s.heap s.heap [] T := ⟨hP, hD, va_S.rf⟩
  have E : cE p c cX11_needIndex s m ([.int a0, .int a1] : List Value).toArray (Cond.code yX11_needIndex cX11_needIndex 2 none :: wsA) D RX11 (CT cI cJ cZ cMic cSrc cSt cAI cAJ) := ⟨hx, hb, hts, hown, hK⟩
  have htab : ∀ x ∈ c.exceptionTable.toList, False := fun x hx => htab x hx
  have hl := lv_entry ([.int a0, .int a1]) (n := 2) (Nat.le_of_ble_eq_true rfl)
  rw [lg_entry_eq]
  generalize (lg_sl ([.int a0, .int a1]) ++ List.replicate (2 - (lg_sl ([.int a0, .int a1])).length) Slot.unset).toArray = ls at hl ⊢
  have hl : lv_has ls 2 [(0, .int a0), (1, .int a1)] := hl
  unfold g_X11_needIndex at h
  refine lv_iload_n hx hb dX11_needIndex_0 rfl (lv_at hl 0 rfl) ?_
  refine lv_if_lt (tgt := 9) hx hb dX11_needIndex_1 (by decide) (fun c2 => ?_) (fun c2 => ?_)
  · have h := oif_pos c2 h
    have hl := lv_sub hl [] rfl
    exact x_X11_needIndex_b9 E hA hX hN hml trivial hst htab hlocks (fun H locs t G hvm h1 h2 => ⟨T1, trivial, ⟨⟨rfl, rfl⟩, (c_thrown G hK hvm h1 h2).1⟩, (c_thrown G hK hvm h1 h2).2⟩) _ _ _ _ h G hl
  · have h := oif_neg c2 h
    refine lv_iload_n hx hb dX11_needIndex_4 rfl (lv_at hl 0 rfl) ?_
    refine lv_iload_n hx hb dX11_needIndex_5 rfl (lv_at hl 1 rfl) ?_
    refine lv_icmp_lt (tgt := 17) hx hb dX11_needIndex_6 (by decide) (fun c3 => ?_) (fun c3 => ?_)
    · have h := oif_pos c3 h
      exact (Nat.succ_ne_zero _ (congrArg Prod.fst (Option.some.inj h)).symm).elim
    · have h := oif_neg c3 h
      have hl := lv_sub hl [] rfl
      exact x_X11_needIndex_b9 E hA hX hN hml trivial hst htab hlocks (fun H locs t G hvm h1 h2 => ⟨T1, trivial, ⟨⟨rfl, rfl⟩, (c_thrown G hK hvm h1 h2).1⟩, (c_thrown G hK hvm h1 h2).2⟩) _ _ _ _ h G hl
def g_X11_needMic (T : AT) (o : Nat) (a0 : Int32) : Option (Nat × Int32 × AT) := oif (oO T o 11 = true) <| obind (T.2.2.2.2 o 14) fun n3 => oif (oO T n3 6 = true) <| elet (T.2.2.1 n3 5) fun v5 => othr (g_X11_needIndex T a0 v5) 0 fun r8 T6 => some (0, 0, T6)
set_option maxHeartbeats 4000000 in
set_option maxRecDepth 100000 in
theorem u_X11_needMic (l : Launch) (hst : l.stackTraces = false) (D : va_G) (cI cJ cZ cMic cSrc cSt cAI cAJ : ClassId) (ad : Nat → Nat) (T : AT) (o : Nat) (a0 : Int32) {r1 : Int32} {T1 : AT} (h : g_X11_needMic T o a0 = some (0, r1, T1)) : kCv l yX11_needMic (Cond.code yX11_needMic cX11_needMic 2 none :: wsA) 7 102 cI cJ cZ cMic cSrc cSt cAI cAJ D ad T [.ref (ad o), .int a0] (fun T9 => T9 = T1) := by
  intro sz
  refine Met.ofW (cc := cX11_needMic) (maxL := 2) (ret := none) (by decide) rfl ?_
  intro p e s m args below meth c s₁ B hml hv
  obtain ⟨rfl, hsz, hP, hK, hD0, hX, hN⟩ := hv
  have hx := B.exec
  have hb := B.bytes
  have hr := B.returns
  have hts := atoms_spec (ws := (Cond.code yX11_needMic cX11_needMic 2 none :: wsA)) B.pre
  have hown : s.vm.findClass RX11 = some m.cls := findClass_of_methodNamed B.named
  have hlocks := B.notSynchronized
  subst hsz
  have hD := hD0.self (sz := s.heap.size)
  generalize hAe : va_A (cW ad T.1 (cc cI cJ cZ cMic cSrc cSt cAI cAJ ad T)) s.heap.size = A at hD hX ⊢
  have hA : ∀ q : Nat, s.heap.size ≤ q → A q := fun q h => by rw [← hAe]; exact Or.inr h
  have G : gC cI cJ cZ cMic cSrc cSt cAI cAJ D ad A s.heap s.heap [] T := ⟨hP, hD, va_S.rf⟩
  have E : cE p c cX11_needMic s m ([.ref (ad o), .int a0] : List Value).toArray (Cond.code yX11_needMic cX11_needMic 2 none :: wsA) D RX11 (CT cI cJ cZ cMic cSrc cSt cAI cAJ) := ⟨hx, hb, hts, hown, hK⟩
  have hl := lv_entry ([.ref (ad o), .int a0]) (n := 2) (Nat.le_of_ble_eq_true rfl)
  rw [lg_entry_eq]
  generalize (lg_sl ([.ref (ad o), .int a0]) ++ List.replicate (2 - (lg_sl ([.ref (ad o), .int a0])).length) Slot.unset).toArray = ls at hl ⊢
  have hl : lv_has ls 2 [(0, .ref (ad o)), (1, .int a0)] := hl
  unfold g_X11_needMic at h
  refine lv_iload_n hx hb dX11_needMic_0 rfl (lv_at hl 1 rfl) ?_
  refine lv_aload_n hx hb dX11_needMic_1 rfl (lv_at hl 0 rfl) ?_
  obtain ⟨g2, h⟩ := oif_some h
  obtain ⟨n3, en3, h⟩ := obind_some h
  refine c_get E G o 14 (v := .ref (ad n3)) (oO_k g2).1 (cc_o11 (oO_k g2).2) rfl (fun w h => .tail _ (iA_23 h)) (by decide) (.tail _ qA_675) rfl (by rw [en3]; rfl) dX11_needMic_2 ?_
  clear en3
  obtain ⟨g4, h⟩ := oif_some h
  refine c_get E G n3 5 (oO_k g4).1 (cc_o6 (oO_k g4).2) rfl (fun w h => .tail _ (iA_14 h)) (by decide) (.tail _ qA_721) rfl rfl dX11_needMic_5 ?_
  refine lv_topi (fun v5 ev5 => ?_)
  have h := elet_at ev5 h
  clear ev5
  obtain ⟨r8, T6, eT6, h⟩ := othr_n h
  refine q_csv (As := [.int a0, .int v5]) (rest := []) E G hA hX hN hml (u_X11_needIndex l hst D cI cJ cZ cMic cSrc cSt cAI cAJ ad T a0 v5 eT6) (cwS 2 hts (gaS qA_738 qA_739 qA_131 qA_740) rfl rfl rfl (by decide +kernel) ⟨Nat.le_of_ble_eq_true rfl, Nat.le_of_ble_eq_true rfl⟩) rfl hl.1 rfl (lv_room (Nat.le_of_ble_eq_true rfl)) dX11_needMic_8 ⟨Nat.zero_le _, Nat.zero_le _⟩ (fun T7 H locs hq G => ?_)
  rw [hq] at G
  clear hq eT6
  exact W.vret hx hb hr (fun t ht hW => ⟨⟨T6, rfl, (osome3 h).2.2, ⟨by rw [ht]; exact G.1, va_K.moved hW.alike hK, G.2.1⟩⟩, G.2.2.F ht⟩) G.2.2.2.2 dX11_needMic_11
set_option maxHeartbeats 4000000 in
set_option maxRecDepth 100000 in
theorem s_X11_needMic {T : AT} {o : Nat} {a0 : Int32} {e1 : Nat} {r1 : Int32} {T1 : AT} (h : g_X11_needMic T o a0 = some (e1, r1, T1)) : SP T T1 := by
  have p0 := SP.rf T
  unfold g_X11_needMic at h
  obtain ⟨g2, h⟩ := oif_some h
  obtain ⟨n3, en3, h⟩ := obind_some h
  obtain ⟨g4, h⟩ := oif_some h
  obtain ⟨v5, -, h⟩ := elet_some h
  rcases othr_s h with ⟨k9, r9, e9, -⟩ | ⟨r7, T6, eT6, h⟩
  · exact SP.tr p0 (s_X11_needIndex e9)
  have p1 : SP T T6 := SP.tr p0 (s_X11_needIndex eT6)
  rw [← (osome3 h).2.2]
  exact p1
set_option maxHeartbeats 4000000 in
set_option maxRecDepth 100000 in
theorem x_X11_needMic (l : Launch) (hst : l.stackTraces = false) (D : va_G) (cI cJ cZ cMic cSrc cSt cAI cAJ : ClassId) (ad : Nat → Nat) (T : AT) (o : Nat) (a0 : Int32) {e1 : Nat} {r1 : Int32} {T1 : AT} (h : g_X11_needMic T o a0 = some (e1 + 1, r1, T1)) : kXv l yX11_needMic (Cond.code yX11_needMic cX11_needMic 2 none :: wsA) 7 102 cI cJ cZ cMic cSrc cSt cAI cAJ D ad T [.ref (ad o), .int a0] e1 T1 := by
  intro sz
  refine vx_ofW (cc := cX11_needMic) (maxL := 2) (ret := none) (by decide) rfl ?_
  intro p e s m args below meth c s₁ B hml htab hv
  obtain ⟨rfl, hsz, hP, hK, hD0, hX, hN⟩ := hv
  have hx := B.exec
  have hb := B.bytes
  have hr := B.returns
  have hts := atoms_spec (ws := (Cond.code yX11_needMic cX11_needMic 2 none :: wsA)) B.pre
  have hown : s.vm.findClass RX11 = some m.cls := findClass_of_methodNamed B.named
  have hlocks := B.notSynchronized
  subst hsz
  have hD := hD0.self (sz := s.heap.size)
  generalize hAe : va_A (cW ad T.1 (cc cI cJ cZ cMic cSrc cSt cAI cAJ ad T)) s.heap.size = A at hD hX ⊢
  have hA : ∀ q : Nat, s.heap.size ≤ q → A q := fun q h => by rw [← hAe]; exact Or.inr h
  have G : gC cI cJ cZ cMic cSrc cSt cAI cAJ D ad A s.heap s.heap [] T := ⟨hP, hD, va_S.rf⟩
  have E : cE p c cX11_needMic s m ([.ref (ad o), .int a0] : List Value).toArray (Cond.code yX11_needMic cX11_needMic 2 none :: wsA) D RX11 (CT cI cJ cZ cMic cSrc cSt cAI cAJ) := ⟨hx, hb, hts, hown, hK⟩
  have htab : ∀ x ∈ c.exceptionTable.toList, False := fun x hx => htab x hx
  have hl := lv_entry ([.ref (ad o), .int a0]) (n := 2) (Nat.le_of_ble_eq_true rfl)
  rw [lg_entry_eq]
  generalize (lg_sl ([.ref (ad o), .int a0]) ++ List.replicate (2 - (lg_sl ([.ref (ad o), .int a0])).length) Slot.unset).toArray = ls at hl ⊢
  have hl : lv_has ls 2 [(0, .ref (ad o)), (1, .int a0)] := hl
  unfold g_X11_needMic at h
  refine lv_iload_n hx hb dX11_needMic_0 rfl (lv_at hl 1 rfl) ?_
  refine lv_aload_n hx hb dX11_needMic_1 rfl (lv_at hl 0 rfl) ?_
  obtain ⟨g2, h⟩ := oif_some h
  obtain ⟨n3, en3, h⟩ := obind_some h
  refine c_get E G o 14 (v := .ref (ad n3)) (oO_k g2).1 (cc_o11 (oO_k g2).2) rfl (fun w h => .tail _ (iA_23 h)) (by decide) (.tail _ qA_675) rfl (by rw [en3]; rfl) dX11_needMic_2 ?_
  clear en3
  obtain ⟨g4, h⟩ := oif_some h
  refine c_get E G n3 5 (oO_k g4).1 (cc_o6 (oO_k g4).2) rfl (fun w h => .tail _ (iA_14 h)) (by decide) (.tail _ qA_721) rfl rfl dX11_needMic_5 ?_
  refine lv_topi (fun v5 ev5 => ?_)
  have h := elet_at ev5 h
  clear ev5
  rcases othr_t h with ⟨r0, eT6⟩ | ⟨r8, T6, eT6, h⟩
  · refine q_xsv (As := [.int a0, .int v5]) (rest := []) E G hA hX hN hml (x_X11_needIndex l hst D cI cJ cZ cMic cSrc cSt cAI cAJ ad T a0 v5 eT6) (cwS 2 hts (gaS qA_738 qA_739 qA_131 qA_740) rfl rfl rfl (by decide +kernel) ⟨Nat.le_of_ble_eq_true rfl, Nat.le_of_ble_eq_true rfl⟩) rfl hl.1 rfl (lv_room (Nat.le_of_ble_eq_true rfl)) dX11_needMic_8 ⟨Nat.le_of_ble_eq_true rfl, Nat.le_of_ble_eq_true rfl⟩ (fun E9 ce q9 T9 H locs hp G hce hcv hcl => ?_)
    obtain ⟨hE, hT⟩ := hp
    subst hE
    rw [hT] at G
    exact vx_out (fun x hx => (htab x hx).elim) hlocks hce hcv hcl (fun t ht hvm => ⟨T1, trivial, ⟨⟨rfl, rfl⟩, by rw [ht]; exact G.1, va_K.moved hvm hK, G.2.1⟩, G.2.2.F ht⟩) G.2.2.2.2 (Nat.le_refl _) (Nat.le_refl _)
  refine q_csv (As := [.int a0, .int v5]) (rest := []) E G hA hX hN hml (u_X11_needIndex l hst D cI cJ cZ cMic cSrc cSt cAI cAJ ad T a0 v5 eT6) (cwS 2 hts (gaS qA_738 qA_739 qA_131 qA_740) rfl rfl rfl (by decide +kernel) ⟨Nat.le_of_ble_eq_true rfl, Nat.le_of_ble_eq_true rfl⟩) rfl hl.1 rfl (lv_room (Nat.le_of_ble_eq_true rfl)) dX11_needMic_8 ⟨Nat.zero_le _, Nat.zero_le _⟩ (fun T7 H locs hq G => ?_)
  rw [hq] at G
  clear hq eT6
  exact (Nat.succ_ne_zero _ (congrArg Prod.fst (Option.some.inj h)).symm).elim
def g_X11_needRange_b10  (T : AT)  : Option (Nat × Int32 × AT) := some (3, 0, T)
set_option maxHeartbeats 4000000 in
set_option maxRecDepth 100000 in
theorem u_X11_needRange_b10 {p : Program} {l : Launch} {e : Env} {s : State} {m : MethodId} {args : Array Value} {below : List Frame} {meth : Method} {c : Code} {Q : State → Prop} {D : va_G} {A : Nat → Prop} {cI cJ cZ cMic cSrc cSt cAI cAJ : ClassId} {ad : Nat → Nat} {r1 : Int32} {T1 : AT} (E : cE p c cX11_needRange s m args (Cond.code yX11_needRange cX11_needRange 3 none :: wsA) D RX11 (CT cI cJ cZ cMic cSrc cSt cAI cAJ)) (hA : ∀ q : Nat, s.heap.size ≤ q → A q) (hX : xT A s) (hN : nX s) (hml : c.maxLocals = 3) (hst : l.stackTraces = false) (kr18 : ∀ (H : Heap) (locs : List Loc) (ls : Array Slot), gC cI cJ cZ cMic cSrc cSt cAI cAJ D ad A s.heap H locs T1 → W p l e { frames := 6, cells := 0, slots := 0, locals := 81 } s m args below meth c H locs 0 0 Q (F0 m 18 ls [])) : ∀ (T : AT) (H : Heap) (locs : List Loc) (ls : Array Slot), g_X11_needRange_b10 T = some (0, r1, T1) → gC cI cJ cZ cMic cSrc cSt cAI cAJ D ad A s.heap H locs T → lv_has ls 3 [] → W p l e { frames := 6, cells := 0, slots := 0, locals := 81 } s m args below meth c H locs 0 0 Q (F0 m 10 ls []) := by
  have hx := E.1
  have hb := E.2.1
  have hts := E.2.2.1
  have hown := E.2.2.2.1
  have hK := E.2.2.2.2
  intro T H locs ls h G hl
  unfold g_X11_needRange_b10 at h
  exact absurd (osome3 h).1 (by decide)
def g_X11_needRange (T : AT) (a0 : Int32) (a1 : Int32) (a2 : Int32) : Option (Nat × Int32 × AT) := if a0 < a1 then (g_X11_needRange_b10 T) else (if a0 ≤ a2 then (some (0, 0, T)) else (g_X11_needRange_b10 T))
set_option maxHeartbeats 4000000 in
set_option maxRecDepth 100000 in
theorem u_X11_needRange (l : Launch) (hst : l.stackTraces = false) (D : va_G) (cI cJ cZ cMic cSrc cSt cAI cAJ : ClassId) (ad : Nat → Nat) (T : AT) (a0 : Int32) (a1 : Int32) (a2 : Int32) {r1 : Int32} {T1 : AT} (h : g_X11_needRange T a0 a1 a2 = some (0, r1, T1)) : kCv l yX11_needRange (Cond.code yX11_needRange cX11_needRange 3 none :: wsA) 6 81 cI cJ cZ cMic cSrc cSt cAI cAJ D ad T [.int a0, .int a1, .int a2] (fun T9 => T9 = T1) := by
  intro sz
  refine Met.ofW (cc := cX11_needRange) (maxL := 3) (ret := none) (by decide) rfl ?_
  intro p e s m args below meth c s₁ B hml hv
  obtain ⟨rfl, hsz, hP, hK, hD0, hX, hN⟩ := hv
  have hx := B.exec
  have hb := B.bytes
  have hr := B.returns
  have hts := atoms_spec (ws := (Cond.code yX11_needRange cX11_needRange 3 none :: wsA)) B.pre
  have hown : s.vm.findClass RX11 = some m.cls := findClass_of_methodNamed B.named
  have hlocks := B.notSynchronized
  subst hsz
  have hD := hD0.self (sz := s.heap.size)
  generalize hAe : va_A (cW ad T.1 (cc cI cJ cZ cMic cSrc cSt cAI cAJ ad T)) s.heap.size = A at hD hX ⊢
  have hA : ∀ q : Nat, s.heap.size ≤ q → A q := fun q h => by rw [← hAe]; exact Or.inr h
  have G : gC cI cJ cZ cMic cSrc cSt cAI cAJ D ad A s.heap s.heap [] T := ⟨hP, hD, va_S.rf⟩
  have E : cE p c cX11_needRange s m ([.int a0, .int a1, .int a2] : List Value).toArray (Cond.code yX11_needRange cX11_needRange 3 none :: wsA) D RX11 (CT cI cJ cZ cMic cSrc cSt cAI cAJ) := ⟨hx, hb, hts, hown, hK⟩
  have hl := lv_entry ([.int a0, .int a1, .int a2]) (n := 3) (Nat.le_of_ble_eq_true rfl)
  rw [lg_entry_eq]
  generalize (lg_sl ([.int a0, .int a1, .int a2]) ++ List.replicate (3 - (lg_sl ([.int a0, .int a1, .int a2])).length) Slot.unset).toArray = ls at hl ⊢
  have hl : lv_has ls 3 [(0, .int a0), (1, .int a1), (2, .int a2)] := hl
  unfold g_X11_needRange at h
  refine lv_iload_n hx hb dX11_needRange_0 rfl (lv_at hl 0 rfl) ?_
  refine lv_iload_n hx hb dX11_needRange_1 rfl (lv_at hl 1 rfl) ?_
  refine lv_icmp_lt (tgt := 10) hx hb dX11_needRange_2 (by decide) (fun c2 => ?_) (fun c2 => ?_)
  · have h := oif_pos c2 h
    have hl := lv_sub hl [] rfl
    exact u_X11_needRange_b10 E hA hX hN hml hst (fun H locs ls G => W.vret hx hb hr (fun t ht hW => ⟨⟨T1, rfl, rfl, ⟨by rw [ht]; exact G.1, va_K.moved hW.alike hK, G.2.1⟩⟩, G.2.2.F ht⟩) G.2.2.2.2 dX11_needRange_18) _ _ _ _ h G hl
  · have h := oif_neg c2 h
    refine lv_iload_n hx hb dX11_needRange_5 rfl (lv_at hl 0 rfl) ?_
    refine lv_iload_n hx hb dX11_needRange_6 rfl (lv_at hl 2 rfl) ?_
    refine lv_icmp_le (tgt := 18) hx hb dX11_needRange_7 (by decide) (fun c3 => ?_) (fun c3 => ?_)
    · have h := oif_pos c3 h
      exact W.vret hx hb hr (fun t ht hW => ⟨⟨T, rfl, (osome3 h).2.2, ⟨by rw [ht]; exact G.1, va_K.moved hW.alike hK, G.2.1⟩⟩, G.2.2.F ht⟩) G.2.2.2.2 dX11_needRange_18
    · have h := oif_neg c3 h
      have hl := lv_sub hl [] rfl
      exact u_X11_needRange_b10 E hA hX hN hml hst (fun H locs ls G => W.vret hx hb hr (fun t ht hW => ⟨⟨T1, rfl, rfl, ⟨by rw [ht]; exact G.1, va_K.moved hW.alike hK, G.2.1⟩⟩, G.2.2.F ht⟩) G.2.2.2.2 dX11_needRange_18) _ _ _ _ h G hl
set_option maxHeartbeats 4000000 in
set_option maxRecDepth 100000 in
theorem s_X11_needRange_b10 {e1 : Nat} {r1 : Int32} {T1 : AT} : ∀ (T : AT), g_X11_needRange_b10 T = some (e1, r1, T1) → SP T T1 := by
  intro T h
  have p0 := SP.rf T
  unfold g_X11_needRange_b10 at h
  rw [← (osome3 h).2.2]
  exact p0
set_option maxHeartbeats 4000000 in
set_option maxRecDepth 100000 in
theorem s_X11_needRange {T : AT} {a0 : Int32} {a1 : Int32} {a2 : Int32} {e1 : Nat} {r1 : Int32} {T1 : AT} (h : g_X11_needRange T a0 a1 a2 = some (e1, r1, T1)) : SP T T1 := by
  have p0 := SP.rf T
  unfold g_X11_needRange at h
  rcases oif_or h with ⟨c2, h⟩ | ⟨c2, h⟩
  · have h := h
    exact SP.tr p0 (s_X11_needRange_b10 _ h)
  · have h := h
    rcases oif_or h with ⟨c3, h⟩ | ⟨c3, h⟩
    · have h := h
      rw [← (osome3 h).2.2]
      exact p0
    · have h := h
      exact SP.tr p0 (s_X11_needRange_b10 _ h)
set_option maxHeartbeats 4000000 in
set_option maxRecDepth 100000 in
theorem x_X11_needRange_b10 {p : Program} {l : Launch} {e : Env} {s : State} {m : MethodId} {args : Array Value} {below : List Frame} {meth : Method} {c : Code} {Qc : Array Value → State → Outcome → State → Prop} {XC : String → State → State → Prop} {D : va_G} {A : Nat → Prop} {cI cJ cZ cMic cSrc cSt cAI cAJ : ClassId} {ad : Nat → Nat} {e1 : Nat} {r1 : Int32} {T1 : AT} (E : cE p c cX11_needRange s m args (Cond.code yX11_needRange cX11_needRange 3 none :: wsA) D RX11 (CT cI cJ cZ cMic cSrc cSt cAI cAJ)) (hA : ∀ q : Nat, s.heap.size ≤ q → A q) (hX : xT A s) (hN : nX s) (hml : c.maxLocals = 3) (hz9 : True) (hst : l.stackTraces = false) (htab : ∀ x ∈ c.exceptionTable.toList, False) (hlocks : meth.locks = false) (kx : ∀ (H : Heap) (locs : List Loc) (t : State), gC cI cJ cZ cMic cSrc cSt cAI cAJ D ad A s.heap H locs T1 → s.vm.Alike t.vm → H.size ≤ t.heap.size → (∀ q, q < H.size → t.heap[q]? = H[q]?) → XC (exn e1) s t) : ∀ (T : AT) (H : Heap) (locs : List Loc) (ls : Array Slot), g_X11_needRange_b10 T = some (e1 + 1, r1, T1) → gC cI cJ cZ cMic cSrc cSt cAI cAJ D ad A s.heap H locs T → lv_has ls 3 [] → W p l e { frames := 6, cells := 1, slots := 6, locals := 81 } s m args below meth c H locs 0 0 (vx_MQ below Qc XC args s 1 6 A) (F0 m 10 ls []) := by
  have hx := E.1
  have hb := E.2.1
  have hts := E.2.2.1
  have hown := E.2.2.2.1
  have hK := E.2.2.2.2
  intro T H locs ls h G hl
  unfold g_X11_needRange_b10 at h
  have hz : exn e1 = xIAE := by rw [show e1 = 2 by have := (osome3 h).1; omega]; rfl
  rw [(osome3 h).2.2] at G
  refine vx_throw0 (own := RX11) (cls := xIAE) (names := ["java/lang/RuntimeException", "java/lang/Exception"]) (ik := 416) (ic := 418) (A := A) hx hb hst hown (by decide +kernel) (by decide +kernel) (hts _ (.tail _ qA_744)) (hts _ (.tail _ qA_298)) (vx_hat (B := xB) (fun w h => hts w (.tail _ (iA_27 h))) (by decide +kernel) hX.use) (by decide +kernel) hX.1 hX.2.1 G.2.2 (hl.1.trans hml.symm) dX11_needRange_10 dX11_needRange_13 dX11_needRange_14 dX11_needRange_17 (fun x hx => (htab x hx).elim) (Nat.le_of_ble_eq_true rfl) (Nat.le_of_ble_eq_true rfl) (Nat.le_of_ble_eq_true rfl) (Nat.le_of_ble_eq_true rfl) hlocks (fun t hvm h1 h2 => ?_) G.2.2.2.2 (Nat.le_refl _) (Nat.le_refl _)
  rw [← hz]
  exact kx _ _ _ G hvm h1 h2
set_option maxHeartbeats 4000000 in
set_option maxRecDepth 100000 in
theorem x_X11_needRange (l : Launch) (hst : l.stackTraces = false) (D : va_G) (cI cJ cZ cMic cSrc cSt cAI cAJ : ClassId) (ad : Nat → Nat) (T : AT) (a0 : Int32) (a1 : Int32) (a2 : Int32) {e1 : Nat} {r1 : Int32} {T1 : AT} (h : g_X11_needRange T a0 a1 a2 = some (e1 + 1, r1, T1)) : kXv l yX11_needRange (Cond.code yX11_needRange cX11_needRange 3 none :: wsA) 6 81 cI cJ cZ cMic cSrc cSt cAI cAJ D ad T [.int a0, .int a1, .int a2] e1 T1 := by
  intro sz
  refine vx_ofW (cc := cX11_needRange) (maxL := 3) (ret := none) (by decide) rfl ?_
  intro p e s m args below meth c s₁ B hml htab hv
  obtain ⟨rfl, hsz, hP, hK, hD0, hX, hN⟩ := hv
  have hx := B.exec
  have hb := B.bytes
  have hr := B.returns
  have hts := atoms_spec (ws := (Cond.code yX11_needRange cX11_needRange 3 none :: wsA)) B.pre
  have hown : s.vm.findClass RX11 = some m.cls := findClass_of_methodNamed B.named
  have hlocks := B.notSynchronized
  subst hsz
  have hD := hD0.self (sz := s.heap.size)
  generalize hAe : va_A (cW ad T.1 (cc cI cJ cZ cMic cSrc cSt cAI cAJ ad T)) s.heap.size = A at hD hX ⊢
  have hA : ∀ q : Nat, s.heap.size ≤ q → A q := fun q h => by rw [← hAe]; exact Or.inr h
  have G : gC cI cJ cZ cMic cSrc cSt cAI cAJ D ad A s.heap s.heap [] T := ⟨hP, hD, va_S.rf⟩
  have E : cE p c cX11_needRange s m ([.int a0, .int a1, .int a2] : List Value).toArray (Cond.code yX11_needRange cX11_needRange 3 none :: wsA) D RX11 (CT cI cJ cZ cMic cSrc cSt cAI cAJ) := ⟨hx, hb, hts, hown, hK⟩
  have htab : ∀ x ∈ c.exceptionTable.toList, False := fun x hx => htab x hx
  have hl := lv_entry ([.int a0, .int a1, .int a2]) (n := 3) (Nat.le_of_ble_eq_true rfl)
  rw [lg_entry_eq]
  generalize (lg_sl ([.int a0, .int a1, .int a2]) ++ List.replicate (3 - (lg_sl ([.int a0, .int a1, .int a2])).length) Slot.unset).toArray = ls at hl ⊢
  have hl : lv_has ls 3 [(0, .int a0), (1, .int a1), (2, .int a2)] := hl
  unfold g_X11_needRange at h
  refine lv_iload_n hx hb dX11_needRange_0 rfl (lv_at hl 0 rfl) ?_
  refine lv_iload_n hx hb dX11_needRange_1 rfl (lv_at hl 1 rfl) ?_
  refine lv_icmp_lt (tgt := 10) hx hb dX11_needRange_2 (by decide) (fun c2 => ?_) (fun c2 => ?_)
  · have h := oif_pos c2 h
    have hl := lv_sub hl [] rfl
    exact x_X11_needRange_b10 E hA hX hN hml trivial hst htab hlocks (fun H locs t G hvm h1 h2 => ⟨T1, trivial, ⟨⟨rfl, rfl⟩, (c_thrown G hK hvm h1 h2).1⟩, (c_thrown G hK hvm h1 h2).2⟩) _ _ _ _ h G hl
  · have h := oif_neg c2 h
    refine lv_iload_n hx hb dX11_needRange_5 rfl (lv_at hl 0 rfl) ?_
    refine lv_iload_n hx hb dX11_needRange_6 rfl (lv_at hl 2 rfl) ?_
    refine lv_icmp_le (tgt := 18) hx hb dX11_needRange_7 (by decide) (fun c3 => ?_) (fun c3 => ?_)
    · have h := oif_pos c3 h
      exact (Nat.succ_ne_zero _ (congrArg Prod.fst (Option.some.inj h)).symm).elim
    · have h := oif_neg c3 h
      have hl := lv_sub hl [] rfl
      exact x_X11_needRange_b10 E hA hX hN hml trivial hst htab hlocks (fun H locs t G hvm h1 h2 => ⟨T1, trivial, ⟨⟨rfl, rfl⟩, (c_thrown G hK hvm h1 h2).1⟩, (c_thrown G hK hvm h1 h2).2⟩) _ _ _ _ h G hl
def g_X11_micAt (T : AT) (o : Nat) (a0 : Int32) (a1 : Int32) : Option (Nat × Int32 × AT) := oif (oO T o 11 = true) <| othr (g_X11_needCamera T o) 0 fun r5 T3 => oif (oO T3 o 11 = true) <| othr (g_X11_needMic T3 o a0) 0 fun r10 T8 => othr (g_X11_needRange T8 a1 (0 : Int32) (3 : Int32)) 0 fun r14 T12 => if a1 = 0 then (oif (oO T12 o 11 = true) <| obind (T12.2.2.2.2 o 14) fun n18 => oif (oO T12 n18 6 = true) <| obind (T12.2.2.2.2 n18 4) fun n20 => oif (aA T12 n20 103 = true) <| oif (inb a0 (T12.2.1 n20).2 = true) <| obind (T12.2.2.2.2 n20 a0.toNatClampNeg) fun n23 => oif (oO T12 n23 2 = true) <| elet (T12.2.2.1 n23 0) fun v25 => some (0, v25, T12)) else (if a1 = 1 then (oif (oO T12 o 11 = true) <| obind (T12.2.2.2.2 o 14) fun n28 => oif (oO T12 n28 6 = true) <| obind (T12.2.2.2.2 n28 4) fun n30 => oif (aA T12 n30 103 = true) <| oif (inb a0 (T12.2.1 n30).2 = true) <| obind (T12.2.2.2.2 n30 a0.toNatClampNeg) fun n33 => oif (oO T12 n33 2 = true) <| elet (T12.2.2.1 n33 1) fun v35 => some (0, v35, T12)) else (if a1 = 2 then (oif (oO T12 o 11 = true) <| obind (T12.2.2.2.2 o 14) fun n38 => oif (oO T12 n38 6 = true) <| obind (T12.2.2.2.2 n38 4) fun n40 => oif (aA T12 n40 103 = true) <| oif (inb a0 (T12.2.1 n40).2 = true) <| obind (T12.2.2.2.2 n40 a0.toNatClampNeg) fun n43 => oif (oO T12 n43 2 = true) <| elet (T12.2.2.1 n43 2) fun v45 => some (0, v45, T12)) else (oif (oO T12 o 11 = true) <| obind (T12.2.2.2.2 o 6) fun n47 => oif (oO T12 n47 8 = true) <| obind (T12.2.2.2.2 n47 4) fun n49 => oif (aA T12 n49 100 = true) <| oif (inb a0 (T12.2.1 n49).2 = true) <| elet (T12.2.2.1 n49 a0.toNatClampNeg) fun v52 => some (0, v52, T12))))
set_option maxHeartbeats 4000000 in
set_option maxRecDepth 100000 in
theorem u_X11_micAt (l : Launch) (hst : l.stackTraces = false) (D : va_G) (cI cJ cZ cMic cSrc cSt cAI cAJ : ClassId) (ad : Nat → Nat) (T : AT) (o : Nat) (a0 : Int32) (a1 : Int32) {r1 : Int32} {T1 : AT} (h : g_X11_micAt T o a0 a1 = some (0, r1, T1)) : kCi l yX11_micAt (Cond.code yX11_micAt cX11_micAt 3 (some .int) :: wsA) 8 123 cI cJ cZ cMic cSrc cSt cAI cAJ D ad T [.ref (ad o), .int a0, .int a1] (fun r T9 => r = r1 ∧ T9 = T1) := by
  intro sz
  refine Met.ofW (cc := cX11_micAt) (maxL := 3) (ret := (some .int)) (by decide) rfl ?_
  intro p e s m args below meth c s₁ B hml hv
  obtain ⟨rfl, hsz, hP, hK, hD0, hX, hN⟩ := hv
  have hx := B.exec
  have hb := B.bytes
  have hr := B.returns
  have hts := atoms_spec (ws := (Cond.code yX11_micAt cX11_micAt 3 (some .int) :: wsA)) B.pre
  have hown : s.vm.findClass RX11 = some m.cls := findClass_of_methodNamed B.named
  have hlocks := B.notSynchronized
  subst hsz
  have hD := hD0.self (sz := s.heap.size)
  generalize hAe : va_A (cW ad T.1 (cc cI cJ cZ cMic cSrc cSt cAI cAJ ad T)) s.heap.size = A at hD hX ⊢
  have hA : ∀ q : Nat, s.heap.size ≤ q → A q := fun q h => by rw [← hAe]; exact Or.inr h
  have G : gC cI cJ cZ cMic cSrc cSt cAI cAJ D ad A s.heap s.heap [] T := ⟨hP, hD, va_S.rf⟩
  have E : cE p c cX11_micAt s m ([.ref (ad o), .int a0, .int a1] : List Value).toArray (Cond.code yX11_micAt cX11_micAt 3 (some .int) :: wsA) D RX11 (CT cI cJ cZ cMic cSrc cSt cAI cAJ) := ⟨hx, hb, hts, hown, hK⟩
  have hl := lv_entry ([.ref (ad o), .int a0, .int a1]) (n := 3) (Nat.le_of_ble_eq_true rfl)
  rw [lg_entry_eq]
  generalize (lg_sl ([.ref (ad o), .int a0, .int a1]) ++ List.replicate (3 - (lg_sl ([.ref (ad o), .int a0, .int a1])).length) Slot.unset).toArray = ls at hl ⊢
  have hl : lv_has ls 3 [(0, .ref (ad o)), (1, .int a0), (2, .int a1)] := hl
  unfold g_X11_micAt at h
  refine lv_aload_n hx hb dX11_micAt_0 rfl (lv_at hl 0 rfl) ?_
  obtain ⟨g2, h⟩ := oif_some h
  obtain ⟨r5, T3, eT3, h⟩ := othr_n h
  refine q_cvv (As := []) (rest := []) E G hA hX hN hml (u_X11_needCamera l hst D cI cJ cZ cMic cSrc cSt cAI cAJ ad T o eT3) (cwV 0 hts (gaV qA_728 qA_729 qA_730 qA_131 qA_731) rfl rfl rfl (by decide +kernel) ⟨Nat.le_of_ble_eq_true rfl, Nat.le_of_ble_eq_true rfl⟩) (oO_k g2).1 (cc_o11 (oO_k g2).2) rfl rfl hl.1 rfl (lv_room (Nat.le_of_ble_eq_true rfl)) dX11_micAt_1 ⟨Nat.zero_le _, Nat.zero_le _⟩ (fun T4 H locs hq G => ?_)
  rw [hq] at G
  clear hq eT3
  refine lv_aload_n hx hb dX11_micAt_4 rfl (lv_at hl 0 rfl) ?_
  refine lv_iload_n hx hb dX11_micAt_5 rfl (lv_at hl 1 rfl) ?_
  obtain ⟨g7, h⟩ := oif_some h
  obtain ⟨r10, T8, eT8, h⟩ := othr_n h
  refine q_cvv (As := [.int a0]) (rest := []) E G hA hX hN hml (u_X11_needMic l hst D cI cJ cZ cMic cSrc cSt cAI cAJ ad T3 o a0 eT8) (cwV 1 hts (gaV qA_734 qA_735 qA_736 qA_131 qA_737) rfl rfl rfl (by decide +kernel) ⟨Nat.le_of_ble_eq_true rfl, Nat.le_of_ble_eq_true rfl⟩) (oO_k g7).1 (cc_o11 (oO_k g7).2) rfl rfl hl.1 rfl (lv_room (Nat.le_of_ble_eq_true rfl)) dX11_micAt_6 ⟨Nat.zero_le _, Nat.zero_le _⟩ (fun T9 H locs hq G => ?_)
  rw [hq] at G
  clear hq eT8
  refine lv_iload_n hx hb dX11_micAt_9 rfl (lv_at hl 2 rfl) ?_
  refine lv_iconst (v := 0) hx hb dX11_micAt_10 (by decide) ?_
  refine lv_iconst (v := 3) hx hb dX11_micAt_11 (by decide) ?_
  obtain ⟨r14, T12, eT12, h⟩ := othr_n h
  refine q_csv (As := [.int a1, .int 0, .int 3]) (rest := []) E G hA hX hN hml (u_X11_needRange l hst D cI cJ cZ cMic cSrc cSt cAI cAJ ad T8 a1 (0 : Int32) (3 : Int32) eT12) (cwS 3 hts (gaS qA_741 qA_742 qA_131 qA_743) rfl rfl rfl (by decide +kernel) ⟨Nat.le_of_ble_eq_true rfl, Nat.le_of_ble_eq_true rfl⟩) rfl hl.1 rfl (lv_room (Nat.le_of_ble_eq_true rfl)) dX11_micAt_12 ⟨Nat.zero_le _, Nat.zero_le _⟩ (fun T13 H locs hq G => ?_)
  rw [hq] at G
  clear hq eT12
  refine lv_iload_n hx hb dX11_micAt_15 rfl (lv_at hl 2 rfl) ?_
  by_cases c16 : a1 = 0
  · have h := oif_pos c16 h
    refine lv_tableIn (off := 28) (tgt := 44) hx hb dX11_micAt_16 (by rw [c16]; decide) (by rw [c16]; decide) (by rw [c16]; rfl) (by decide) ?_
    refine lv_aload_n hx hb dX11_micAt_44 rfl (lv_at hl 0 rfl) ?_
    obtain ⟨g17, h⟩ := oif_some h
    obtain ⟨n18, en18, h⟩ := obind_some h
    refine c_get E G o 14 (v := .ref (ad n18)) (oO_k g17).1 (cc_o11 (oO_k g17).2) rfl (fun w h => .tail _ (iA_23 h)) (by decide) (.tail _ qA_675) rfl (by rw [en18]; rfl) dX11_micAt_45 ?_
    clear en18
    obtain ⟨g19, h⟩ := oif_some h
    obtain ⟨n20, en20, h⟩ := obind_some h
    refine c_get E G n18 4 (v := .ref (ad n20)) (oO_k g19).1 (cc_o6 (oO_k g19).2) rfl (fun w h => .tail _ (iA_14 h)) (by decide) (.tail _ qA_723) rfl (by rw [en20]; rfl) dX11_micAt_48 ?_
    clear en20
    refine lv_iload_n hx hb dX11_micAt_51 rfl (lv_at hl 1 rfl) ?_
    obtain ⟨g21, h⟩ := oif_some h
    obtain ⟨g22, h⟩ := oif_some h
    obtain ⟨n23, en23, h⟩ := obind_some h
    refine c_aldq E G n20 3 (k := a0.toNatClampNeg) (v := .ref (ad n23)) (aA_k g21).1 (cc_a103 (aA_k g21).2.1) rfl (inb_k g22).1 (inb_k g22).2 (aA_k g21).2.2 (by show va_rf ((T12.2.2.2.2 n20 a0.toNatClampNeg).map ad) = _; rw [en23]; rfl) dX11_micAt_52 ?_
    clear en23
    obtain ⟨g24, h⟩ := oif_some h
    refine c_get E G n23 0 (oO_k g24).1 (cc_o2 (oO_k g24).2) rfl (fun w h => .tail _ (iA_19 h)) (by decide) (.tail _ qA_724) rfl rfl dX11_micAt_53 ?_
    refine lv_topi (fun v25 ev25 => ?_)
    have h := elet_at ev25 h
    clear ev25
    exact W.iret (v := v25) hx hb hr (fun t ht hW => ⟨⟨v25, T12, rfl, (osome3 h).2, ⟨by rw [ht]; exact G.1, va_K.moved hW.alike hK, G.2.1⟩⟩, G.2.2.F ht⟩) G.2.2.2.2 dX11_micAt_56
  have h := oif_neg c16 h
  by_cases c26 : a1 = 1
  · have h := oif_pos c26 h
    refine lv_tableIn (off := 41) (tgt := 57) hx hb dX11_micAt_16 (by rw [c26]; decide) (by rw [c26]; decide) (by rw [c26]; rfl) (by decide) ?_
    refine lv_aload_n hx hb dX11_micAt_57 rfl (lv_at hl 0 rfl) ?_
    obtain ⟨g27, h⟩ := oif_some h
    obtain ⟨n28, en28, h⟩ := obind_some h
    refine c_get E G o 14 (v := .ref (ad n28)) (oO_k g27).1 (cc_o11 (oO_k g27).2) rfl (fun w h => .tail _ (iA_23 h)) (by decide) (.tail _ qA_675) rfl (by rw [en28]; rfl) dX11_micAt_58 ?_
    clear en28
    obtain ⟨g29, h⟩ := oif_some h
    obtain ⟨n30, en30, h⟩ := obind_some h
    refine c_get E G n28 4 (v := .ref (ad n30)) (oO_k g29).1 (cc_o6 (oO_k g29).2) rfl (fun w h => .tail _ (iA_14 h)) (by decide) (.tail _ qA_723) rfl (by rw [en30]; rfl) dX11_micAt_61 ?_
    clear en30
    refine lv_iload_n hx hb dX11_micAt_64 rfl (lv_at hl 1 rfl) ?_
    obtain ⟨g31, h⟩ := oif_some h
    obtain ⟨g32, h⟩ := oif_some h
    obtain ⟨n33, en33, h⟩ := obind_some h
    refine c_aldq E G n30 3 (k := a0.toNatClampNeg) (v := .ref (ad n33)) (aA_k g31).1 (cc_a103 (aA_k g31).2.1) rfl (inb_k g32).1 (inb_k g32).2 (aA_k g31).2.2 (by show va_rf ((T12.2.2.2.2 n30 a0.toNatClampNeg).map ad) = _; rw [en33]; rfl) dX11_micAt_65 ?_
    clear en33
    obtain ⟨g34, h⟩ := oif_some h
    refine c_get E G n33 1 (oO_k g34).1 (cc_o2 (oO_k g34).2) rfl (fun w h => .tail _ (iA_19 h)) (by decide) (.tail _ qA_725) rfl rfl dX11_micAt_66 ?_
    refine lv_topi (fun v35 ev35 => ?_)
    have h := elet_at ev35 h
    clear ev35
    exact W.iret (v := v35) hx hb hr (fun t ht hW => ⟨⟨v35, T12, rfl, (osome3 h).2, ⟨by rw [ht]; exact G.1, va_K.moved hW.alike hK, G.2.1⟩⟩, G.2.2.F ht⟩) G.2.2.2.2 dX11_micAt_69
  have h := oif_neg c26 h
  by_cases c36 : a1 = 2
  · have h := oif_pos c36 h
    refine lv_tableIn (off := 54) (tgt := 70) hx hb dX11_micAt_16 (by rw [c36]; decide) (by rw [c36]; decide) (by rw [c36]; rfl) (by decide) ?_
    refine lv_aload_n hx hb dX11_micAt_70 rfl (lv_at hl 0 rfl) ?_
    obtain ⟨g37, h⟩ := oif_some h
    obtain ⟨n38, en38, h⟩ := obind_some h
    refine c_get E G o 14 (v := .ref (ad n38)) (oO_k g37).1 (cc_o11 (oO_k g37).2) rfl (fun w h => .tail _ (iA_23 h)) (by decide) (.tail _ qA_675) rfl (by rw [en38]; rfl) dX11_micAt_71 ?_
    clear en38
    obtain ⟨g39, h⟩ := oif_some h
    obtain ⟨n40, en40, h⟩ := obind_some h
    refine c_get E G n38 4 (v := .ref (ad n40)) (oO_k g39).1 (cc_o6 (oO_k g39).2) rfl (fun w h => .tail _ (iA_14 h)) (by decide) (.tail _ qA_723) rfl (by rw [en40]; rfl) dX11_micAt_74 ?_
    clear en40
    refine lv_iload_n hx hb dX11_micAt_77 rfl (lv_at hl 1 rfl) ?_
    obtain ⟨g41, h⟩ := oif_some h
    obtain ⟨g42, h⟩ := oif_some h
    obtain ⟨n43, en43, h⟩ := obind_some h
    refine c_aldq E G n40 3 (k := a0.toNatClampNeg) (v := .ref (ad n43)) (aA_k g41).1 (cc_a103 (aA_k g41).2.1) rfl (inb_k g42).1 (inb_k g42).2 (aA_k g41).2.2 (by show va_rf ((T12.2.2.2.2 n40 a0.toNatClampNeg).map ad) = _; rw [en43]; rfl) dX11_micAt_78 ?_
    clear en43
    obtain ⟨g44, h⟩ := oif_some h
    refine c_get E G n43 2 (oO_k g44).1 (cc_o2 (oO_k g44).2) rfl (fun w h => .tail _ (iA_19 h)) (by decide) (.tail _ qA_726) rfl rfl dX11_micAt_79 ?_
    refine lv_topi (fun v45 ev45 => ?_)
    have h := elet_at ev45 h
    clear ev45
    exact W.iret (v := v45) hx hb hr (fun t ht hW => ⟨⟨v45, T12, rfl, (osome3 h).2, ⟨by rw [ht]; exact G.1, va_K.moved hW.alike hK, G.2.1⟩⟩, G.2.2.F ht⟩) G.2.2.2.2 dX11_micAt_82
  have h := oif_neg c36 h
  refine lv_tableOut (tgt := 83) hx hb dX11_micAt_16 (tsw_0_2 c16 c26 c36) (by decide) ?_
  refine lv_aload_n hx hb dX11_micAt_83 rfl (lv_at hl 0 rfl) ?_
  obtain ⟨g46, h⟩ := oif_some h
  obtain ⟨n47, en47, h⟩ := obind_some h
  refine c_get E G o 6 (v := .ref (ad n47)) (oO_k g46).1 (cc_o11 (oO_k g46).2) rfl (fun w h => .tail _ (iA_23 h)) (by decide) (.tail _ qA_664) rfl (by rw [en47]; rfl) dX11_micAt_84 ?_
  clear en47
  obtain ⟨g48, h⟩ := oif_some h
  obtain ⟨n49, en49, h⟩ := obind_some h
  refine c_get E G n47 4 (v := .ref (ad n49)) (oO_k g48).1 (cc_o8 (oO_k g48).2) rfl (fun w h => .tail _ (iA_16 h)) (by decide) (.tail _ qA_727) rfl (by rw [en49]; rfl) dX11_micAt_87 ?_
  clear en49
  refine lv_iload_n hx hb dX11_micAt_90 rfl (lv_at hl 1 rfl) ?_
  obtain ⟨g50, h⟩ := oif_some h
  obtain ⟨g51, h⟩ := oif_some h
  refine c_iald E G n49 0 (k := a0.toNatClampNeg) (aA_k g50).1 (cc_a100 (aA_k g50).2.1) rfl (inb_k g51).1 (inb_k g51).2 (aA_k g50).2.2 dX11_micAt_91 ?_
  refine lv_topi (fun v52 ev52 => ?_)
  have h := elet_at ev52 h
  clear ev52
  exact W.iret (v := v52) hx hb hr (fun t ht hW => ⟨⟨v52, T12, rfl, (osome3 h).2, ⟨by rw [ht]; exact G.1, va_K.moved hW.alike hK, G.2.1⟩⟩, G.2.2.F ht⟩) G.2.2.2.2 dX11_micAt_92
set_option maxHeartbeats 4000000 in
set_option maxRecDepth 100000 in
theorem s_X11_micAt {T : AT} {o : Nat} {a0 : Int32} {a1 : Int32} {e1 : Nat} {r1 : Int32} {T1 : AT} (h : g_X11_micAt T o a0 a1 = some (e1, r1, T1)) : SP T T1 := by
  have p0 := SP.rf T
  unfold g_X11_micAt at h
  obtain ⟨g2, h⟩ := oif_some h
  rcases othr_s h with ⟨k9, r9, e9, -⟩ | ⟨r4, T3, eT3, h⟩
  · exact SP.tr p0 (s_X11_needCamera e9)
  have p1 : SP T T3 := SP.tr p0 (s_X11_needCamera eT3)
  obtain ⟨g5, h⟩ := oif_some h
  rcases othr_s h with ⟨k9, r9, e9, -⟩ | ⟨r7, T6, eT6, h⟩
  · exact SP.tr p1 (s_X11_needMic e9)
  have p2 : SP T T6 := SP.tr p1 (s_X11_needMic eT6)
  rcases othr_s h with ⟨k9, r9, e9, -⟩ | ⟨r9, T8, eT8, h⟩
  · exact SP.tr p2 (s_X11_needRange e9)
  have p3 : SP T T8 := SP.tr p2 (s_X11_needRange eT8)
  by_cases c10 : a1 = 0
  · have h := oif_pos c10 h
    obtain ⟨g11, h⟩ := oif_some h
    obtain ⟨n12, en12, h⟩ := obind_some h
    obtain ⟨g13, h⟩ := oif_some h
    obtain ⟨n14, en14, h⟩ := obind_some h
    obtain ⟨g15, h⟩ := oif_some h
    obtain ⟨g16, h⟩ := oif_some h
    obtain ⟨n17, en17, h⟩ := obind_some h
    obtain ⟨g18, h⟩ := oif_some h
    obtain ⟨v19, -, h⟩ := elet_some h
    rw [← (osome3 h).2.2]
    exact p3
  have h := oif_neg c10 h
  by_cases c20 : a1 = 1
  · have h := oif_pos c20 h
    obtain ⟨g21, h⟩ := oif_some h
    obtain ⟨n22, en22, h⟩ := obind_some h
    obtain ⟨g23, h⟩ := oif_some h
    obtain ⟨n24, en24, h⟩ := obind_some h
    obtain ⟨g25, h⟩ := oif_some h
    obtain ⟨g26, h⟩ := oif_some h
    obtain ⟨n27, en27, h⟩ := obind_some h
    obtain ⟨g28, h⟩ := oif_some h
    obtain ⟨v29, -, h⟩ := elet_some h
    rw [← (osome3 h).2.2]
    exact p3
  have h := oif_neg c20 h
  by_cases c30 : a1 = 2
  · have h := oif_pos c30 h
    obtain ⟨g31, h⟩ := oif_some h
    obtain ⟨n32, en32, h⟩ := obind_some h
    obtain ⟨g33, h⟩ := oif_some h
    obtain ⟨n34, en34, h⟩ := obind_some h
    obtain ⟨g35, h⟩ := oif_some h
    obtain ⟨g36, h⟩ := oif_some h
    obtain ⟨n37, en37, h⟩ := obind_some h
    obtain ⟨g38, h⟩ := oif_some h
    obtain ⟨v39, -, h⟩ := elet_some h
    rw [← (osome3 h).2.2]
    exact p3
  have h := oif_neg c30 h
  obtain ⟨g40, h⟩ := oif_some h
  obtain ⟨n41, en41, h⟩ := obind_some h
  obtain ⟨g42, h⟩ := oif_some h
  obtain ⟨n43, en43, h⟩ := obind_some h
  obtain ⟨g44, h⟩ := oif_some h
  obtain ⟨g45, h⟩ := oif_some h
  obtain ⟨v46, -, h⟩ := elet_some h
  rw [← (osome3 h).2.2]
  exact p3
set_option maxHeartbeats 4000000 in
set_option maxRecDepth 100000 in
theorem x_X11_micAt (l : Launch) (hst : l.stackTraces = false) (D : va_G) (cI cJ cZ cMic cSrc cSt cAI cAJ : ClassId) (ad : Nat → Nat) (T : AT) (o : Nat) (a0 : Int32) (a1 : Int32) {e1 : Nat} {r1 : Int32} {T1 : AT} (h : g_X11_micAt T o a0 a1 = some (e1 + 1, r1, T1)) : kXi l yX11_micAt (Cond.code yX11_micAt cX11_micAt 3 (some .int) :: wsA) 8 123 cI cJ cZ cMic cSrc cSt cAI cAJ D ad T [.ref (ad o), .int a0, .int a1] e1 T1 := by
  intro sz
  refine vx_ofW (cc := cX11_micAt) (maxL := 3) (ret := (some .int)) (by decide) rfl ?_
  intro p e s m args below meth c s₁ B hml htab hv
  obtain ⟨rfl, hsz, hP, hK, hD0, hX, hN⟩ := hv
  have hx := B.exec
  have hb := B.bytes
  have hr := B.returns
  have hts := atoms_spec (ws := (Cond.code yX11_micAt cX11_micAt 3 (some .int) :: wsA)) B.pre
  have hown : s.vm.findClass RX11 = some m.cls := findClass_of_methodNamed B.named
  have hlocks := B.notSynchronized
  subst hsz
  have hD := hD0.self (sz := s.heap.size)
  generalize hAe : va_A (cW ad T.1 (cc cI cJ cZ cMic cSrc cSt cAI cAJ ad T)) s.heap.size = A at hD hX ⊢
  have hA : ∀ q : Nat, s.heap.size ≤ q → A q := fun q h => by rw [← hAe]; exact Or.inr h
  have G : gC cI cJ cZ cMic cSrc cSt cAI cAJ D ad A s.heap s.heap [] T := ⟨hP, hD, va_S.rf⟩
  have E : cE p c cX11_micAt s m ([.ref (ad o), .int a0, .int a1] : List Value).toArray (Cond.code yX11_micAt cX11_micAt 3 (some .int) :: wsA) D RX11 (CT cI cJ cZ cMic cSrc cSt cAI cAJ) := ⟨hx, hb, hts, hown, hK⟩
  have htab : ∀ x ∈ c.exceptionTable.toList, False := fun x hx => htab x hx
  have hl := lv_entry ([.ref (ad o), .int a0, .int a1]) (n := 3) (Nat.le_of_ble_eq_true rfl)
  rw [lg_entry_eq]
  generalize (lg_sl ([.ref (ad o), .int a0, .int a1]) ++ List.replicate (3 - (lg_sl ([.ref (ad o), .int a0, .int a1])).length) Slot.unset).toArray = ls at hl ⊢
  have hl : lv_has ls 3 [(0, .ref (ad o)), (1, .int a0), (2, .int a1)] := hl
  unfold g_X11_micAt at h
  refine lv_aload_n hx hb dX11_micAt_0 rfl (lv_at hl 0 rfl) ?_
  obtain ⟨g2, h⟩ := oif_some h
  rcases othr_t h with ⟨r0, eT3⟩ | ⟨r5, T3, eT3, h⟩
  · refine q_xvv (As := []) (rest := []) E G hA hX hN hml (x_X11_needCamera l hst D cI cJ cZ cMic cSrc cSt cAI cAJ ad T o eT3) (cwV 0 hts (gaV qA_728 qA_729 qA_730 qA_131 qA_731) rfl rfl rfl (by decide +kernel) ⟨Nat.le_of_ble_eq_true rfl, Nat.le_of_ble_eq_true rfl⟩) (oO_k g2).1 (cc_o11 (oO_k g2).2) rfl rfl hl.1 rfl (lv_room (Nat.le_of_ble_eq_true rfl)) dX11_micAt_1 ⟨Nat.le_of_ble_eq_true rfl, Nat.le_of_ble_eq_true rfl⟩ (fun E9 ce q9 T9 H locs hp G hce hcv hcl => ?_)
    obtain ⟨hE, hT⟩ := hp
    subst hE
    rw [hT] at G
    exact vx_out (fun x hx => (htab x hx).elim) hlocks hce hcv hcl (fun t ht hvm => ⟨T1, trivial, ⟨⟨rfl, rfl⟩, by rw [ht]; exact G.1, va_K.moved hvm hK, G.2.1⟩, G.2.2.F ht⟩) G.2.2.2.2 (Nat.le_refl _) (Nat.le_refl _)
  refine q_cvv (As := []) (rest := []) E G hA hX hN hml (u_X11_needCamera l hst D cI cJ cZ cMic cSrc cSt cAI cAJ ad T o eT3) (cwV 0 hts (gaV qA_728 qA_729 qA_730 qA_131 qA_731) rfl rfl rfl (by decide +kernel) ⟨Nat.le_of_ble_eq_true rfl, Nat.le_of_ble_eq_true rfl⟩) (oO_k g2).1 (cc_o11 (oO_k g2).2) rfl rfl hl.1 rfl (lv_room (Nat.le_of_ble_eq_true rfl)) dX11_micAt_1 ⟨Nat.zero_le _, Nat.zero_le _⟩ (fun T4 H locs hq G => ?_)
  rw [hq] at G
  clear hq eT3
  refine lv_aload_n hx hb dX11_micAt_4 rfl (lv_at hl 0 rfl) ?_
  refine lv_iload_n hx hb dX11_micAt_5 rfl (lv_at hl 1 rfl) ?_
  obtain ⟨g7, h⟩ := oif_some h
  rcases othr_t h with ⟨r0, eT8⟩ | ⟨r10, T8, eT8, h⟩
  · refine q_xvv (As := [.int a0]) (rest := []) E G hA hX hN hml (x_X11_needMic l hst D cI cJ cZ cMic cSrc cSt cAI cAJ ad T3 o a0 eT8) (cwV 1 hts (gaV qA_734 qA_735 qA_736 qA_131 qA_737) rfl rfl rfl (by decide +kernel) ⟨Nat.le_of_ble_eq_true rfl, Nat.le_of_ble_eq_true rfl⟩) (oO_k g7).1 (cc_o11 (oO_k g7).2) rfl rfl hl.1 rfl (lv_room (Nat.le_of_ble_eq_true rfl)) dX11_micAt_6 ⟨Nat.le_of_ble_eq_true rfl, Nat.le_of_ble_eq_true rfl⟩ (fun E9 ce q9 T9 H locs hp G hce hcv hcl => ?_)
    obtain ⟨hE, hT⟩ := hp
    subst hE
    rw [hT] at G
    exact vx_out (fun x hx => (htab x hx).elim) hlocks hce hcv hcl (fun t ht hvm => ⟨T1, trivial, ⟨⟨rfl, rfl⟩, by rw [ht]; exact G.1, va_K.moved hvm hK, G.2.1⟩, G.2.2.F ht⟩) G.2.2.2.2 (Nat.le_refl _) (Nat.le_refl _)
  refine q_cvv (As := [.int a0]) (rest := []) E G hA hX hN hml (u_X11_needMic l hst D cI cJ cZ cMic cSrc cSt cAI cAJ ad T3 o a0 eT8) (cwV 1 hts (gaV qA_734 qA_735 qA_736 qA_131 qA_737) rfl rfl rfl (by decide +kernel) ⟨Nat.le_of_ble_eq_true rfl, Nat.le_of_ble_eq_true rfl⟩) (oO_k g7).1 (cc_o11 (oO_k g7).2) rfl rfl hl.1 rfl (lv_room (Nat.le_of_ble_eq_true rfl)) dX11_micAt_6 ⟨Nat.zero_le _, Nat.zero_le _⟩ (fun T9 H locs hq G => ?_)
  rw [hq] at G
  clear hq eT8
  refine lv_iload_n hx hb dX11_micAt_9 rfl (lv_at hl 2 rfl) ?_
  refine lv_iconst (v := 0) hx hb dX11_micAt_10 (by decide) ?_
  refine lv_iconst (v := 3) hx hb dX11_micAt_11 (by decide) ?_
  rcases othr_t h with ⟨r0, eT12⟩ | ⟨r14, T12, eT12, h⟩
  · refine q_xsv (As := [.int a1, .int 0, .int 3]) (rest := []) E G hA hX hN hml (x_X11_needRange l hst D cI cJ cZ cMic cSrc cSt cAI cAJ ad T8 a1 (0 : Int32) (3 : Int32) eT12) (cwS 3 hts (gaS qA_741 qA_742 qA_131 qA_743) rfl rfl rfl (by decide +kernel) ⟨Nat.le_of_ble_eq_true rfl, Nat.le_of_ble_eq_true rfl⟩) rfl hl.1 rfl (lv_room (Nat.le_of_ble_eq_true rfl)) dX11_micAt_12 ⟨Nat.le_of_ble_eq_true rfl, Nat.le_of_ble_eq_true rfl⟩ (fun E9 ce q9 T9 H locs hp G hce hcv hcl => ?_)
    obtain ⟨hE, hT⟩ := hp
    subst hE
    rw [hT] at G
    exact vx_out (fun x hx => (htab x hx).elim) hlocks hce hcv hcl (fun t ht hvm => ⟨T1, trivial, ⟨⟨rfl, rfl⟩, by rw [ht]; exact G.1, va_K.moved hvm hK, G.2.1⟩, G.2.2.F ht⟩) G.2.2.2.2 (Nat.le_refl _) (Nat.le_refl _)
  refine q_csv (As := [.int a1, .int 0, .int 3]) (rest := []) E G hA hX hN hml (u_X11_needRange l hst D cI cJ cZ cMic cSrc cSt cAI cAJ ad T8 a1 (0 : Int32) (3 : Int32) eT12) (cwS 3 hts (gaS qA_741 qA_742 qA_131 qA_743) rfl rfl rfl (by decide +kernel) ⟨Nat.le_of_ble_eq_true rfl, Nat.le_of_ble_eq_true rfl⟩) rfl hl.1 rfl (lv_room (Nat.le_of_ble_eq_true rfl)) dX11_micAt_12 ⟨Nat.zero_le _, Nat.zero_le _⟩ (fun T13 H locs hq G => ?_)
  rw [hq] at G
  clear hq eT12
  refine lv_iload_n hx hb dX11_micAt_15 rfl (lv_at hl 2 rfl) ?_
  by_cases c16 : a1 = 0
  · have h := oif_pos c16 h
    refine lv_tableIn (off := 28) (tgt := 44) hx hb dX11_micAt_16 (by rw [c16]; decide) (by rw [c16]; decide) (by rw [c16]; rfl) (by decide) ?_
    refine lv_aload_n hx hb dX11_micAt_44 rfl (lv_at hl 0 rfl) ?_
    obtain ⟨g17, h⟩ := oif_some h
    obtain ⟨n18, en18, h⟩ := obind_some h
    refine c_get E G o 14 (v := .ref (ad n18)) (oO_k g17).1 (cc_o11 (oO_k g17).2) rfl (fun w h => .tail _ (iA_23 h)) (by decide) (.tail _ qA_675) rfl (by rw [en18]; rfl) dX11_micAt_45 ?_
    clear en18
    obtain ⟨g19, h⟩ := oif_some h
    obtain ⟨n20, en20, h⟩ := obind_some h
    refine c_get E G n18 4 (v := .ref (ad n20)) (oO_k g19).1 (cc_o6 (oO_k g19).2) rfl (fun w h => .tail _ (iA_14 h)) (by decide) (.tail _ qA_723) rfl (by rw [en20]; rfl) dX11_micAt_48 ?_
    clear en20
    refine lv_iload_n hx hb dX11_micAt_51 rfl (lv_at hl 1 rfl) ?_
    obtain ⟨g21, h⟩ := oif_some h
    obtain ⟨g22, h⟩ := oif_some h
    obtain ⟨n23, en23, h⟩ := obind_some h
    refine c_aldq E G n20 3 (k := a0.toNatClampNeg) (v := .ref (ad n23)) (aA_k g21).1 (cc_a103 (aA_k g21).2.1) rfl (inb_k g22).1 (inb_k g22).2 (aA_k g21).2.2 (by show va_rf ((T12.2.2.2.2 n20 a0.toNatClampNeg).map ad) = _; rw [en23]; rfl) dX11_micAt_52 ?_
    clear en23
    obtain ⟨g24, h⟩ := oif_some h
    refine c_get E G n23 0 (oO_k g24).1 (cc_o2 (oO_k g24).2) rfl (fun w h => .tail _ (iA_19 h)) (by decide) (.tail _ qA_724) rfl rfl dX11_micAt_53 ?_
    refine lv_topi (fun v25 ev25 => ?_)
    have h := elet_at ev25 h
    clear ev25
    exact (Nat.succ_ne_zero _ (congrArg Prod.fst (Option.some.inj h)).symm).elim
  have h := oif_neg c16 h
  by_cases c26 : a1 = 1
  · have h := oif_pos c26 h
    refine lv_tableIn (off := 41) (tgt := 57) hx hb dX11_micAt_16 (by rw [c26]; decide) (by rw [c26]; decide) (by rw [c26]; rfl) (by decide) ?_
    refine lv_aload_n hx hb dX11_micAt_57 rfl (lv_at hl 0 rfl) ?_
    obtain ⟨g27, h⟩ := oif_some h
    obtain ⟨n28, en28, h⟩ := obind_some h
    refine c_get E G o 14 (v := .ref (ad n28)) (oO_k g27).1 (cc_o11 (oO_k g27).2) rfl (fun w h => .tail _ (iA_23 h)) (by decide) (.tail _ qA_675) rfl (by rw [en28]; rfl) dX11_micAt_58 ?_
    clear en28
    obtain ⟨g29, h⟩ := oif_some h
    obtain ⟨n30, en30, h⟩ := obind_some h
    refine c_get E G n28 4 (v := .ref (ad n30)) (oO_k g29).1 (cc_o6 (oO_k g29).2) rfl (fun w h => .tail _ (iA_14 h)) (by decide) (.tail _ qA_723) rfl (by rw [en30]; rfl) dX11_micAt_61 ?_
    clear en30
    refine lv_iload_n hx hb dX11_micAt_64 rfl (lv_at hl 1 rfl) ?_
    obtain ⟨g31, h⟩ := oif_some h
    obtain ⟨g32, h⟩ := oif_some h
    obtain ⟨n33, en33, h⟩ := obind_some h
    refine c_aldq E G n30 3 (k := a0.toNatClampNeg) (v := .ref (ad n33)) (aA_k g31).1 (cc_a103 (aA_k g31).2.1) rfl (inb_k g32).1 (inb_k g32).2 (aA_k g31).2.2 (by show va_rf ((T12.2.2.2.2 n30 a0.toNatClampNeg).map ad) = _; rw [en33]; rfl) dX11_micAt_65 ?_
    clear en33
    obtain ⟨g34, h⟩ := oif_some h
    refine c_get E G n33 1 (oO_k g34).1 (cc_o2 (oO_k g34).2) rfl (fun w h => .tail _ (iA_19 h)) (by decide) (.tail _ qA_725) rfl rfl dX11_micAt_66 ?_
    refine lv_topi (fun v35 ev35 => ?_)
    have h := elet_at ev35 h
    clear ev35
    exact (Nat.succ_ne_zero _ (congrArg Prod.fst (Option.some.inj h)).symm).elim
  have h := oif_neg c26 h
  by_cases c36 : a1 = 2
  · have h := oif_pos c36 h
    refine lv_tableIn (off := 54) (tgt := 70) hx hb dX11_micAt_16 (by rw [c36]; decide) (by rw [c36]; decide) (by rw [c36]; rfl) (by decide) ?_
    refine lv_aload_n hx hb dX11_micAt_70 rfl (lv_at hl 0 rfl) ?_
    obtain ⟨g37, h⟩ := oif_some h
    obtain ⟨n38, en38, h⟩ := obind_some h
    refine c_get E G o 14 (v := .ref (ad n38)) (oO_k g37).1 (cc_o11 (oO_k g37).2) rfl (fun w h => .tail _ (iA_23 h)) (by decide) (.tail _ qA_675) rfl (by rw [en38]; rfl) dX11_micAt_71 ?_
    clear en38
    obtain ⟨g39, h⟩ := oif_some h
    obtain ⟨n40, en40, h⟩ := obind_some h
    refine c_get E G n38 4 (v := .ref (ad n40)) (oO_k g39).1 (cc_o6 (oO_k g39).2) rfl (fun w h => .tail _ (iA_14 h)) (by decide) (.tail _ qA_723) rfl (by rw [en40]; rfl) dX11_micAt_74 ?_
    clear en40
    refine lv_iload_n hx hb dX11_micAt_77 rfl (lv_at hl 1 rfl) ?_
    obtain ⟨g41, h⟩ := oif_some h
    obtain ⟨g42, h⟩ := oif_some h
    obtain ⟨n43, en43, h⟩ := obind_some h
    refine c_aldq E G n40 3 (k := a0.toNatClampNeg) (v := .ref (ad n43)) (aA_k g41).1 (cc_a103 (aA_k g41).2.1) rfl (inb_k g42).1 (inb_k g42).2 (aA_k g41).2.2 (by show va_rf ((T12.2.2.2.2 n40 a0.toNatClampNeg).map ad) = _; rw [en43]; rfl) dX11_micAt_78 ?_
    clear en43
    obtain ⟨g44, h⟩ := oif_some h
    refine c_get E G n43 2 (oO_k g44).1 (cc_o2 (oO_k g44).2) rfl (fun w h => .tail _ (iA_19 h)) (by decide) (.tail _ qA_726) rfl rfl dX11_micAt_79 ?_
    refine lv_topi (fun v45 ev45 => ?_)
    have h := elet_at ev45 h
    clear ev45
    exact (Nat.succ_ne_zero _ (congrArg Prod.fst (Option.some.inj h)).symm).elim
  have h := oif_neg c36 h
  refine lv_tableOut (tgt := 83) hx hb dX11_micAt_16 (tsw_0_2 c16 c26 c36) (by decide) ?_
  refine lv_aload_n hx hb dX11_micAt_83 rfl (lv_at hl 0 rfl) ?_
  obtain ⟨g46, h⟩ := oif_some h
  obtain ⟨n47, en47, h⟩ := obind_some h
  refine c_get E G o 6 (v := .ref (ad n47)) (oO_k g46).1 (cc_o11 (oO_k g46).2) rfl (fun w h => .tail _ (iA_23 h)) (by decide) (.tail _ qA_664) rfl (by rw [en47]; rfl) dX11_micAt_84 ?_
  clear en47
  obtain ⟨g48, h⟩ := oif_some h
  obtain ⟨n49, en49, h⟩ := obind_some h
  refine c_get E G n47 4 (v := .ref (ad n49)) (oO_k g48).1 (cc_o8 (oO_k g48).2) rfl (fun w h => .tail _ (iA_16 h)) (by decide) (.tail _ qA_727) rfl (by rw [en49]; rfl) dX11_micAt_87 ?_
  clear en49
  refine lv_iload_n hx hb dX11_micAt_90 rfl (lv_at hl 1 rfl) ?_
  obtain ⟨g50, h⟩ := oif_some h
  obtain ⟨g51, h⟩ := oif_some h
  refine c_iald E G n49 0 (k := a0.toNatClampNeg) (aA_k g50).1 (cc_a100 (aA_k g50).2.1) rfl (inb_k g51).1 (inb_k g51).2 (aA_k g50).2.2 dX11_micAt_91 ?_
  refine lv_topi (fun v52 ev52 => ?_)
  have h := elet_at ev52 h
  clear ev52
  exact (Nat.succ_ne_zero _ (congrArg Prod.fst (Option.some.inj h)).symm).elim
end
section
/-! 11kl.cd11.lean.txt -/
def g_X11_isMuted (T : AT) (o : Nat) (a0 : Int32) : Option (Nat × Int32 × AT) := oif (oO T o 11 = true) <| othr (g_X11_needCamera T o) 0 fun r5 T3 => oif (oO T3 o 11 = true) <| othr (g_X11_needMic T3 o a0) 0 fun r10 T8 => oif (oO T8 o 11 = true) <| obind (T8.2.2.2.2 o 6) fun n13 => oif (oO T8 n13 8 = true) <| obind (T8.2.2.2.2 n13 3) fun n15 => oif (aA T8 n15 102 = true) <| oif (inb a0 (T8.2.1 n15).2 = true) <| elet (T8.2.2.1 n15 a0.toNatClampNeg) fun v18 => oif (v18 = 0 ∨ v18 = 1) <| some (0, v18, T8)
set_option maxHeartbeats 4000000 in
set_option maxRecDepth 100000 in
theorem u_X11_isMuted (l : Launch) (hst : l.stackTraces = false) (D : va_G) (cI cJ cZ cMic cSrc cSt cAI cAJ : ClassId) (ad : Nat → Nat) (T : AT) (o : Nat) (a0 : Int32) {r1 : Int32} {T1 : AT} (h : g_X11_isMuted T o a0 = some (0, r1, T1)) : kCi l yX11_isMuted (Cond.code yX11_isMuted cX11_isMuted 2 (some .boolean) :: wsA) 8 123 cI cJ cZ cMic cSrc cSt cAI cAJ D ad T [.ref (ad o), .int a0] (fun r T9 => r = r1 ∧ T9 = T1) := by
  intro sz
  refine Met.ofW (cc := cX11_isMuted) (maxL := 2) (ret := (some .boolean)) (by decide) rfl ?_
  intro p e s m args below meth c s₁ B hml hv
  obtain ⟨rfl, hsz, hP, hK, hD0, hX, hN⟩ := hv
  have hx := B.exec
  have hb := B.bytes
  have hr := B.returns
  have hts := atoms_spec (ws := (Cond.code yX11_isMuted cX11_isMuted 2 (some .boolean) :: wsA)) B.pre
  have hown : s.vm.findClass RX11 = some m.cls := findClass_of_methodNamed B.named
  have hlocks := B.notSynchronized
  subst hsz
  have hD := hD0.self (sz := s.heap.size)
  generalize hAe : va_A (cW ad T.1 (cc cI cJ cZ cMic cSrc cSt cAI cAJ ad T)) s.heap.size = A at hD hX ⊢
  have hA : ∀ q : Nat, s.heap.size ≤ q → A q := fun q h => by rw [← hAe]; exact Or.inr h
  have G : gC cI cJ cZ cMic cSrc cSt cAI cAJ D ad A s.heap s.heap [] T := ⟨hP, hD, va_S.rf⟩
  have E : cE p c cX11_isMuted s m ([.ref (ad o), .int a0] : List Value).toArray (Cond.code yX11_isMuted cX11_isMuted 2 (some .boolean) :: wsA) D RX11 (CT cI cJ cZ cMic cSrc cSt cAI cAJ) := ⟨hx, hb, hts, hown, hK⟩
  have hl := lv_entry ([.ref (ad o), .int a0]) (n := 2) (Nat.le_of_ble_eq_true rfl)
  rw [lg_entry_eq]
  generalize (lg_sl ([.ref (ad o), .int a0]) ++ List.replicate (2 - (lg_sl ([.ref (ad o), .int a0])).length) Slot.unset).toArray = ls at hl ⊢
  have hl : lv_has ls 2 [(0, .ref (ad o)), (1, .int a0)] := hl
  unfold g_X11_isMuted at h
  refine lv_aload_n hx hb dX11_isMuted_0 rfl (lv_at hl 0 rfl) ?_
  obtain ⟨g2, h⟩ := oif_some h
  obtain ⟨r5, T3, eT3, h⟩ := othr_n h
  refine q_cvv (As := []) (rest := []) E G hA hX hN hml (u_X11_needCamera l hst D cI cJ cZ cMic cSrc cSt cAI cAJ ad T o eT3) (cwV 0 hts (gaV qA_728 qA_729 qA_730 qA_131 qA_731) rfl rfl rfl (by decide +kernel) ⟨Nat.le_of_ble_eq_true rfl, Nat.le_of_ble_eq_true rfl⟩) (oO_k g2).1 (cc_o11 (oO_k g2).2) rfl rfl hl.1 rfl (lv_room (Nat.le_of_ble_eq_true rfl)) dX11_isMuted_1 ⟨Nat.zero_le _, Nat.zero_le _⟩ (fun T4 H locs hq G => ?_)
  rw [hq] at G
  clear hq eT3
  refine lv_aload_n hx hb dX11_isMuted_4 rfl (lv_at hl 0 rfl) ?_
  refine lv_iload_n hx hb dX11_isMuted_5 rfl (lv_at hl 1 rfl) ?_
  obtain ⟨g7, h⟩ := oif_some h
  obtain ⟨r10, T8, eT8, h⟩ := othr_n h
  refine q_cvv (As := [.int a0]) (rest := []) E G hA hX hN hml (u_X11_needMic l hst D cI cJ cZ cMic cSrc cSt cAI cAJ ad T3 o a0 eT8) (cwV 1 hts (gaV qA_734 qA_735 qA_736 qA_131 qA_737) rfl rfl rfl (by decide +kernel) ⟨Nat.le_of_ble_eq_true rfl, Nat.le_of_ble_eq_true rfl⟩) (oO_k g7).1 (cc_o11 (oO_k g7).2) rfl rfl hl.1 rfl (lv_room (Nat.le_of_ble_eq_true rfl)) dX11_isMuted_6 ⟨Nat.zero_le _, Nat.zero_le _⟩ (fun T9 H locs hq G => ?_)
  rw [hq] at G
  clear hq eT8
  refine lv_aload_n hx hb dX11_isMuted_9 rfl (lv_at hl 0 rfl) ?_
  obtain ⟨g12, h⟩ := oif_some h
  obtain ⟨n13, en13, h⟩ := obind_some h
  refine c_get E G o 6 (v := .ref (ad n13)) (oO_k g12).1 (cc_o11 (oO_k g12).2) rfl (fun w h => .tail _ (iA_23 h)) (by decide) (.tail _ qA_664) rfl (by rw [en13]; rfl) dX11_isMuted_10 ?_
  clear en13
  obtain ⟨g14, h⟩ := oif_some h
  obtain ⟨n15, en15, h⟩ := obind_some h
  refine c_get E G n13 3 (v := .ref (ad n15)) (oO_k g14).1 (cc_o8 (oO_k g14).2) rfl (fun w h => .tail _ (iA_16 h)) (by decide) (.tail _ qA_746) rfl (by rw [en15]; rfl) dX11_isMuted_13 ?_
  clear en15
  refine lv_iload_n hx hb dX11_isMuted_16 rfl (lv_at hl 1 rfl) ?_
  obtain ⟨g16, h⟩ := oif_some h
  obtain ⟨g17, h⟩ := oif_some h
  refine c_zald E G n15 2 (k := a0.toNatClampNeg) (aA_k g16).1 (cc_a102 (aA_k g16).2.1) rfl (inb_k g17).1 (inb_k g17).2 (aA_k g16).2.2 dX11_isMuted_17 ?_
  refine lv_topi (fun v18 ev18 => ?_)
  have h := elet_at ev18 h
  clear ev18
  obtain ⟨gz, h⟩ := oif_some h
  exact W.zret (v := v18) hx hb hr (nar01 gz) (fun t ht hW => ⟨⟨v18, T8, rfl, (osome3 h).2, ⟨by rw [ht]; exact G.1, va_K.moved hW.alike hK, G.2.1⟩⟩, G.2.2.F ht⟩) G.2.2.2.2 dX11_isMuted_18
set_option maxHeartbeats 4000000 in
set_option maxRecDepth 100000 in
theorem s_X11_isMuted {T : AT} {o : Nat} {a0 : Int32} {e1 : Nat} {r1 : Int32} {T1 : AT} (h : g_X11_isMuted T o a0 = some (e1, r1, T1)) : SP T T1 := by
  have p0 := SP.rf T
  unfold g_X11_isMuted at h
  obtain ⟨g2, h⟩ := oif_some h
  rcases othr_s h with ⟨k9, r9, e9, -⟩ | ⟨r4, T3, eT3, h⟩
  · exact SP.tr p0 (s_X11_needCamera e9)
  have p1 : SP T T3 := SP.tr p0 (s_X11_needCamera eT3)
  obtain ⟨g5, h⟩ := oif_some h
  rcases othr_s h with ⟨k9, r9, e9, -⟩ | ⟨r7, T6, eT6, h⟩
  · exact SP.tr p1 (s_X11_needMic e9)
  have p2 : SP T T6 := SP.tr p1 (s_X11_needMic eT6)
  obtain ⟨g8, h⟩ := oif_some h
  obtain ⟨n9, en9, h⟩ := obind_some h
  obtain ⟨g10, h⟩ := oif_some h
  obtain ⟨n11, en11, h⟩ := obind_some h
  obtain ⟨g12, h⟩ := oif_some h
  obtain ⟨g13, h⟩ := oif_some h
  obtain ⟨v14, -, h⟩ := elet_some h
  obtain ⟨gz, h⟩ := oif_some h
  rw [← (osome3 h).2.2]
  exact p2
set_option maxHeartbeats 4000000 in
set_option maxRecDepth 100000 in
theorem x_X11_isMuted (l : Launch) (hst : l.stackTraces = false) (D : va_G) (cI cJ cZ cMic cSrc cSt cAI cAJ : ClassId) (ad : Nat → Nat) (T : AT) (o : Nat) (a0 : Int32) {e1 : Nat} {r1 : Int32} {T1 : AT} (h : g_X11_isMuted T o a0 = some (e1 + 1, r1, T1)) : kXi l yX11_isMuted (Cond.code yX11_isMuted cX11_isMuted 2 (some .boolean) :: wsA) 8 123 cI cJ cZ cMic cSrc cSt cAI cAJ D ad T [.ref (ad o), .int a0] e1 T1 := by
  intro sz
  refine vx_ofW (cc := cX11_isMuted) (maxL := 2) (ret := (some .boolean)) (by decide) rfl ?_
  intro p e s m args below meth c s₁ B hml htab hv
  obtain ⟨rfl, hsz, hP, hK, hD0, hX, hN⟩ := hv
  have hx := B.exec
  have hb := B.bytes
  have hr := B.returns
  have hts := atoms_spec (ws := (Cond.code yX11_isMuted cX11_isMuted 2 (some .boolean) :: wsA)) B.pre
  have hown : s.vm.findClass RX11 = some m.cls := findClass_of_methodNamed B.named
  have hlocks := B.notSynchronized
  subst hsz
  have hD := hD0.self (sz := s.heap.size)
  generalize hAe : va_A (cW ad T.1 (cc cI cJ cZ cMic cSrc cSt cAI cAJ ad T)) s.heap.size = A at hD hX ⊢
  have hA : ∀ q : Nat, s.heap.size ≤ q → A q := fun q h => by rw [← hAe]; exact Or.inr h
  have G : gC cI cJ cZ cMic cSrc cSt cAI cAJ D ad A s.heap s.heap [] T := ⟨hP, hD, va_S.rf⟩
  have E : cE p c cX11_isMuted s m ([.ref (ad o), .int a0] : List Value).toArray (Cond.code yX11_isMuted cX11_isMuted 2 (some .boolean) :: wsA) D RX11 (CT cI cJ cZ cMic cSrc cSt cAI cAJ) := ⟨hx, hb, hts, hown, hK⟩
  have htab : ∀ x ∈ c.exceptionTable.toList, False := fun x hx => htab x hx
  have hl := lv_entry ([.ref (ad o), .int a0]) (n := 2) (Nat.le_of_ble_eq_true rfl)
  rw [lg_entry_eq]
  generalize (lg_sl ([.ref (ad o), .int a0]) ++ List.replicate (2 - (lg_sl ([.ref (ad o), .int a0])).length) Slot.unset).toArray = ls at hl ⊢
  have hl : lv_has ls 2 [(0, .ref (ad o)), (1, .int a0)] := hl
  unfold g_X11_isMuted at h
  refine lv_aload_n hx hb dX11_isMuted_0 rfl (lv_at hl 0 rfl) ?_
  obtain ⟨g2, h⟩ := oif_some h
  rcases othr_t h with ⟨r0, eT3⟩ | ⟨r5, T3, eT3, h⟩
  · refine q_xvv (As := []) (rest := []) E G hA hX hN hml (x_X11_needCamera l hst D cI cJ cZ cMic cSrc cSt cAI cAJ ad T o eT3) (cwV 0 hts (gaV qA_728 qA_729 qA_730 qA_131 qA_731) rfl rfl rfl (by decide +kernel) ⟨Nat.le_of_ble_eq_true rfl, Nat.le_of_ble_eq_true rfl⟩) (oO_k g2).1 (cc_o11 (oO_k g2).2) rfl rfl hl.1 rfl (lv_room (Nat.le_of_ble_eq_true rfl)) dX11_isMuted_1 ⟨Nat.le_of_ble_eq_true rfl, Nat.le_of_ble_eq_true rfl⟩ (fun E9 ce q9 T9 H locs hp G hce hcv hcl => ?_)
    obtain ⟨hE, hT⟩ := hp
    subst hE
    rw [hT] at G
    exact vx_out (fun x hx => (htab x hx).elim) hlocks hce hcv hcl (fun t ht hvm => ⟨T1, trivial, ⟨⟨rfl, rfl⟩, by rw [ht]; exact G.1, va_K.moved hvm hK, G.2.1⟩, G.2.2.F ht⟩) G.2.2.2.2 (Nat.le_refl _) (Nat.le_refl _)
  refine q_cvv (As := []) (rest := []) E G hA hX hN hml (u_X11_needCamera l hst D cI cJ cZ cMic cSrc cSt cAI cAJ ad T o eT3) (cwV 0 hts (gaV qA_728 qA_729 qA_730 qA_131 qA_731) rfl rfl rfl (by decide +kernel) ⟨Nat.le_of_ble_eq_true rfl, Nat.le_of_ble_eq_true rfl⟩) (oO_k g2).1 (cc_o11 (oO_k g2).2) rfl rfl hl.1 rfl (lv_room (Nat.le_of_ble_eq_true rfl)) dX11_isMuted_1 ⟨Nat.zero_le _, Nat.zero_le _⟩ (fun T4 H locs hq G => ?_)
  rw [hq] at G
  clear hq eT3
  refine lv_aload_n hx hb dX11_isMuted_4 rfl (lv_at hl 0 rfl) ?_
  refine lv_iload_n hx hb dX11_isMuted_5 rfl (lv_at hl 1 rfl) ?_
  obtain ⟨g7, h⟩ := oif_some h
  rcases othr_t h with ⟨r0, eT8⟩ | ⟨r10, T8, eT8, h⟩
  · refine q_xvv (As := [.int a0]) (rest := []) E G hA hX hN hml (x_X11_needMic l hst D cI cJ cZ cMic cSrc cSt cAI cAJ ad T3 o a0 eT8) (cwV 1 hts (gaV qA_734 qA_735 qA_736 qA_131 qA_737) rfl rfl rfl (by decide +kernel) ⟨Nat.le_of_ble_eq_true rfl, Nat.le_of_ble_eq_true rfl⟩) (oO_k g7).1 (cc_o11 (oO_k g7).2) rfl rfl hl.1 rfl (lv_room (Nat.le_of_ble_eq_true rfl)) dX11_isMuted_6 ⟨Nat.le_of_ble_eq_true rfl, Nat.le_of_ble_eq_true rfl⟩ (fun E9 ce q9 T9 H locs hp G hce hcv hcl => ?_)
    obtain ⟨hE, hT⟩ := hp
    subst hE
    rw [hT] at G
    exact vx_out (fun x hx => (htab x hx).elim) hlocks hce hcv hcl (fun t ht hvm => ⟨T1, trivial, ⟨⟨rfl, rfl⟩, by rw [ht]; exact G.1, va_K.moved hvm hK, G.2.1⟩, G.2.2.F ht⟩) G.2.2.2.2 (Nat.le_refl _) (Nat.le_refl _)
  refine q_cvv (As := [.int a0]) (rest := []) E G hA hX hN hml (u_X11_needMic l hst D cI cJ cZ cMic cSrc cSt cAI cAJ ad T3 o a0 eT8) (cwV 1 hts (gaV qA_734 qA_735 qA_736 qA_131 qA_737) rfl rfl rfl (by decide +kernel) ⟨Nat.le_of_ble_eq_true rfl, Nat.le_of_ble_eq_true rfl⟩) (oO_k g7).1 (cc_o11 (oO_k g7).2) rfl rfl hl.1 rfl (lv_room (Nat.le_of_ble_eq_true rfl)) dX11_isMuted_6 ⟨Nat.zero_le _, Nat.zero_le _⟩ (fun T9 H locs hq G => ?_)
  rw [hq] at G
  clear hq eT8
  refine lv_aload_n hx hb dX11_isMuted_9 rfl (lv_at hl 0 rfl) ?_
  obtain ⟨g12, h⟩ := oif_some h
  obtain ⟨n13, en13, h⟩ := obind_some h
  refine c_get E G o 6 (v := .ref (ad n13)) (oO_k g12).1 (cc_o11 (oO_k g12).2) rfl (fun w h => .tail _ (iA_23 h)) (by decide) (.tail _ qA_664) rfl (by rw [en13]; rfl) dX11_isMuted_10 ?_
  clear en13
  obtain ⟨g14, h⟩ := oif_some h
  obtain ⟨n15, en15, h⟩ := obind_some h
  refine c_get E G n13 3 (v := .ref (ad n15)) (oO_k g14).1 (cc_o8 (oO_k g14).2) rfl (fun w h => .tail _ (iA_16 h)) (by decide) (.tail _ qA_746) rfl (by rw [en15]; rfl) dX11_isMuted_13 ?_
  clear en15
  refine lv_iload_n hx hb dX11_isMuted_16 rfl (lv_at hl 1 rfl) ?_
  obtain ⟨g16, h⟩ := oif_some h
  obtain ⟨g17, h⟩ := oif_some h
  refine c_zald E G n15 2 (k := a0.toNatClampNeg) (aA_k g16).1 (cc_a102 (aA_k g16).2.1) rfl (inb_k g17).1 (inb_k g17).2 (aA_k g16).2.2 dX11_isMuted_17 ?_
  refine lv_topi (fun v18 ev18 => ?_)
  have h := elet_at ev18 h
  clear ev18
  obtain ⟨gz, h⟩ := oif_some h
  exact (Nat.succ_ne_zero _ (congrArg Prod.fst (Option.some.inj h)).symm).elim
def g_X11_columns (T : AT) (o : Nat) : Option (Int32 × AT) := oif (oO T o 11 = true) <| obind (T.2.2.2.2 o 14) fun n3 => oif (oO T n3 6 = true) <| obind (T.2.2.2.2 n3 6) fun n5 => oif (oO T n5 1 = true) <| elet (T.2.2.1 n5 3) fun v7 => some (v7, T)
set_option maxHeartbeats 4000000 in
set_option maxRecDepth 100000 in
theorem u_X11_columns (l : Launch) (hst : l.stackTraces = false) (D : va_G) (cI cJ cZ cMic cSrc cSt cAI cAJ : ClassId) (ad : Nat → Nat) (T : AT) (o : Nat) {r1 : Int32} {T1 : AT} (h : g_X11_columns T o = some (r1, T1)) : kCi l yX11_columns (Cond.code yX11_columns cX11_columns 1 (some .int) :: wsA) 1 0 cI cJ cZ cMic cSrc cSt cAI cAJ D ad T [.ref (ad o)] (fun r T9 => r = r1 ∧ T9 = T1) := by
  intro sz
  refine Met.ofW (cc := cX11_columns) (maxL := 1) (ret := (some .int)) (by decide) rfl ?_
  intro p e s m args below meth c s₁ B hml hv
  obtain ⟨rfl, hsz, hP, hK, hD0, hX, hN⟩ := hv
  have hx := B.exec
  have hb := B.bytes
  have hr := B.returns
  have hts := atoms_spec (ws := (Cond.code yX11_columns cX11_columns 1 (some .int) :: wsA)) B.pre
  have hown : s.vm.findClass RX11 = some m.cls := findClass_of_methodNamed B.named
  have hlocks := B.notSynchronized
  subst hsz
  have hD := hD0.self (sz := s.heap.size)
  generalize hAe : va_A (cW ad T.1 (cc cI cJ cZ cMic cSrc cSt cAI cAJ ad T)) s.heap.size = A at hD hX ⊢
  have hA : ∀ q : Nat, s.heap.size ≤ q → A q := fun q h => by rw [← hAe]; exact Or.inr h
  have G : gC cI cJ cZ cMic cSrc cSt cAI cAJ D ad A s.heap s.heap [] T := ⟨hP, hD, va_S.rf⟩
  have E : cE p c cX11_columns s m ([.ref (ad o)] : List Value).toArray (Cond.code yX11_columns cX11_columns 1 (some .int) :: wsA) D RX11 (CT cI cJ cZ cMic cSrc cSt cAI cAJ) := ⟨hx, hb, hts, hown, hK⟩
  have hl := lv_entry ([.ref (ad o)]) (n := 1) (Nat.le_of_ble_eq_true rfl)
  rw [lg_entry_eq]
  generalize (lg_sl ([.ref (ad o)]) ++ List.replicate (1 - (lg_sl ([.ref (ad o)])).length) Slot.unset).toArray = ls at hl ⊢
  have hl : lv_has ls 1 [(0, .ref (ad o))] := hl
  unfold g_X11_columns at h
  refine lv_aload_n hx hb dX11_columns_0 rfl (lv_at hl 0 rfl) ?_
  obtain ⟨g2, h⟩ := oif_some h
  obtain ⟨n3, en3, h⟩ := obind_some h
  refine c_get E G o 14 (v := .ref (ad n3)) (oO_k g2).1 (cc_o11 (oO_k g2).2) rfl (fun w h => .tail _ (iA_23 h)) (by decide) (.tail _ qA_675) rfl (by rw [en3]; rfl) dX11_columns_1 ?_
  clear en3
  obtain ⟨g4, h⟩ := oif_some h
  obtain ⟨n5, en5, h⟩ := obind_some h
  refine c_get E G n3 6 (v := .ref (ad n5)) (oO_k g4).1 (cc_o6 (oO_k g4).2) rfl (fun w h => .tail _ (iA_14 h)) (by decide) (.tail _ qA_695) rfl (by rw [en5]; rfl) dX11_columns_4 ?_
  clear en5
  obtain ⟨g6, h⟩ := oif_some h
  refine c_get E G n5 3 (oO_k g6).1 (cc_o1 (oO_k g6).2) rfl (fun w h => .tail _ (iA_15 h)) (by decide) (.tail _ qA_748) rfl rfl dX11_columns_7 ?_
  refine lv_topi (fun v7 ev7 => ?_)
  have h := elet_at ev7 h
  clear ev7
  exact W.iret (v := v7) hx hb hr (fun t ht hW => ⟨⟨v7, T, rfl, osome2 h, ⟨by rw [ht]; exact G.1, va_K.moved hW.alike hK, G.2.1⟩⟩, G.2.2.F ht⟩) G.2.2.2.2 dX11_columns_10
set_option maxHeartbeats 4000000 in
set_option maxRecDepth 100000 in
theorem s_X11_columns {T : AT} {o : Nat} {r1 : Int32} {T1 : AT} (h : g_X11_columns T o = some (r1, T1)) : SP T T1 := by
  have p0 := SP.rf T
  unfold g_X11_columns at h
  obtain ⟨g2, h⟩ := oif_some h
  obtain ⟨n3, en3, h⟩ := obind_some h
  obtain ⟨g4, h⟩ := oif_some h
  obtain ⟨n5, en5, h⟩ := obind_some h
  obtain ⟨g6, h⟩ := oif_some h
  obtain ⟨v7, -, h⟩ := elet_some h
  rw [← (osome2 h).2]
  exact p0
def g_X11_rows (T : AT) (o : Nat) : Option (Int32 × AT) := oif (oO T o 11 = true) <| obind (T.2.2.2.2 o 14) fun n3 => oif (oO T n3 6 = true) <| obind (T.2.2.2.2 n3 6) fun n5 => oif (oO T n5 1 = true) <| elet (T.2.2.1 n5 4) fun v7 => some (v7, T)
set_option maxHeartbeats 4000000 in
set_option maxRecDepth 100000 in
theorem u_X11_rows (l : Launch) (hst : l.stackTraces = false) (D : va_G) (cI cJ cZ cMic cSrc cSt cAI cAJ : ClassId) (ad : Nat → Nat) (T : AT) (o : Nat) {r1 : Int32} {T1 : AT} (h : g_X11_rows T o = some (r1, T1)) : kCi l yX11_rows (Cond.code yX11_rows cX11_rows 1 (some .int) :: wsA) 1 0 cI cJ cZ cMic cSrc cSt cAI cAJ D ad T [.ref (ad o)] (fun r T9 => r = r1 ∧ T9 = T1) := by
  intro sz
  refine Met.ofW (cc := cX11_rows) (maxL := 1) (ret := (some .int)) (by decide) rfl ?_
  intro p e s m args below meth c s₁ B hml hv
  obtain ⟨rfl, hsz, hP, hK, hD0, hX, hN⟩ := hv
  have hx := B.exec
  have hb := B.bytes
  have hr := B.returns
  have hts := atoms_spec (ws := (Cond.code yX11_rows cX11_rows 1 (some .int) :: wsA)) B.pre
  have hown : s.vm.findClass RX11 = some m.cls := findClass_of_methodNamed B.named
  have hlocks := B.notSynchronized
  subst hsz
  have hD := hD0.self (sz := s.heap.size)
  generalize hAe : va_A (cW ad T.1 (cc cI cJ cZ cMic cSrc cSt cAI cAJ ad T)) s.heap.size = A at hD hX ⊢
  have hA : ∀ q : Nat, s.heap.size ≤ q → A q := fun q h => by rw [← hAe]; exact Or.inr h
  have G : gC cI cJ cZ cMic cSrc cSt cAI cAJ D ad A s.heap s.heap [] T := ⟨hP, hD, va_S.rf⟩
  have E : cE p c cX11_rows s m ([.ref (ad o)] : List Value).toArray (Cond.code yX11_rows cX11_rows 1 (some .int) :: wsA) D RX11 (CT cI cJ cZ cMic cSrc cSt cAI cAJ) := ⟨hx, hb, hts, hown, hK⟩
  have hl := lv_entry ([.ref (ad o)]) (n := 1) (Nat.le_of_ble_eq_true rfl)
  rw [lg_entry_eq]
  generalize (lg_sl ([.ref (ad o)]) ++ List.replicate (1 - (lg_sl ([.ref (ad o)])).length) Slot.unset).toArray = ls at hl ⊢
  have hl : lv_has ls 1 [(0, .ref (ad o))] := hl
  unfold g_X11_rows at h
  refine lv_aload_n hx hb dX11_rows_0 rfl (lv_at hl 0 rfl) ?_
  obtain ⟨g2, h⟩ := oif_some h
  obtain ⟨n3, en3, h⟩ := obind_some h
  refine c_get E G o 14 (v := .ref (ad n3)) (oO_k g2).1 (cc_o11 (oO_k g2).2) rfl (fun w h => .tail _ (iA_23 h)) (by decide) (.tail _ qA_675) rfl (by rw [en3]; rfl) dX11_rows_1 ?_
  clear en3
  obtain ⟨g4, h⟩ := oif_some h
  obtain ⟨n5, en5, h⟩ := obind_some h
  refine c_get E G n3 6 (v := .ref (ad n5)) (oO_k g4).1 (cc_o6 (oO_k g4).2) rfl (fun w h => .tail _ (iA_14 h)) (by decide) (.tail _ qA_695) rfl (by rw [en5]; rfl) dX11_rows_4 ?_
  clear en5
  obtain ⟨g6, h⟩ := oif_some h
  refine c_get E G n5 4 (oO_k g6).1 (cc_o1 (oO_k g6).2) rfl (fun w h => .tail _ (iA_15 h)) (by decide) (.tail _ qA_750) rfl rfl dX11_rows_7 ?_
  refine lv_topi (fun v7 ev7 => ?_)
  have h := elet_at ev7 h
  clear ev7
  exact W.iret (v := v7) hx hb hr (fun t ht hW => ⟨⟨v7, T, rfl, osome2 h, ⟨by rw [ht]; exact G.1, va_K.moved hW.alike hK, G.2.1⟩⟩, G.2.2.F ht⟩) G.2.2.2.2 dX11_rows_10
set_option maxHeartbeats 4000000 in
set_option maxRecDepth 100000 in
theorem s_X11_rows {T : AT} {o : Nat} {r1 : Int32} {T1 : AT} (h : g_X11_rows T o = some (r1, T1)) : SP T T1 := by
  have p0 := SP.rf T
  unfold g_X11_rows at h
  obtain ⟨g2, h⟩ := oif_some h
  obtain ⟨n3, en3, h⟩ := obind_some h
  obtain ⟨g4, h⟩ := oif_some h
  obtain ⟨n5, en5, h⟩ := obind_some h
  obtain ⟨g6, h⟩ := oif_some h
  obtain ⟨v7, -, h⟩ := elet_some h
  rw [← (osome2 h).2]
  exact p0
def g_X11_needCell (T : AT) (o : Nat) (a0 : Int32) : Option (Nat × Int32 × AT) := oif (oO T o 11 = true) <| obind (T.2.2.2.2 o 14) fun n3 => oif (oO T n3 6 = true) <| obind (T.2.2.2.2 n3 6) fun n5 => oif (oO T n5 1 = true) <| obind2 (g_X1_cells T n5) fun r9 T7 => othr (g_X11_needIndex T7 a0 r9) 0 fun r13 T11 => some (0, 0, T11)
set_option maxHeartbeats 4000000 in
set_option maxRecDepth 100000 in
theorem u_X11_needCell (l : Launch) (hst : l.stackTraces = false) (D : va_G) (cI cJ cZ cMic cSrc cSt cAI cAJ : ClassId) (ad : Nat → Nat) (T : AT) (o : Nat) (a0 : Int32) {r1 : Int32} {T1 : AT} (h : g_X11_needCell T o a0 = some (0, r1, T1)) : kCv l yX11_needCell (Cond.code yX11_needCell cX11_needCell 2 none :: wsA) 7 102 cI cJ cZ cMic cSrc cSt cAI cAJ D ad T [.ref (ad o), .int a0] (fun T9 => T9 = T1) := by
  intro sz
  refine Met.ofW (cc := cX11_needCell) (maxL := 2) (ret := none) (by decide) rfl ?_
  intro p e s m args below meth c s₁ B hml hv
  obtain ⟨rfl, hsz, hP, hK, hD0, hX, hN⟩ := hv
  have hx := B.exec
  have hb := B.bytes
  have hr := B.returns
  have hts := atoms_spec (ws := (Cond.code yX11_needCell cX11_needCell 2 none :: wsA)) B.pre
  have hown : s.vm.findClass RX11 = some m.cls := findClass_of_methodNamed B.named
  have hlocks := B.notSynchronized
  subst hsz
  have hD := hD0.self (sz := s.heap.size)
  generalize hAe : va_A (cW ad T.1 (cc cI cJ cZ cMic cSrc cSt cAI cAJ ad T)) s.heap.size = A at hD hX ⊢
  have hA : ∀ q : Nat, s.heap.size ≤ q → A q := fun q h => by rw [← hAe]; exact Or.inr h
  have G : gC cI cJ cZ cMic cSrc cSt cAI cAJ D ad A s.heap s.heap [] T := ⟨hP, hD, va_S.rf⟩
  have E : cE p c cX11_needCell s m ([.ref (ad o), .int a0] : List Value).toArray (Cond.code yX11_needCell cX11_needCell 2 none :: wsA) D RX11 (CT cI cJ cZ cMic cSrc cSt cAI cAJ) := ⟨hx, hb, hts, hown, hK⟩
  have hl := lv_entry ([.ref (ad o), .int a0]) (n := 2) (Nat.le_of_ble_eq_true rfl)
  rw [lg_entry_eq]
  generalize (lg_sl ([.ref (ad o), .int a0]) ++ List.replicate (2 - (lg_sl ([.ref (ad o), .int a0])).length) Slot.unset).toArray = ls at hl ⊢
  have hl : lv_has ls 2 [(0, .ref (ad o)), (1, .int a0)] := hl
  unfold g_X11_needCell at h
  refine lv_iload_n hx hb dX11_needCell_0 rfl (lv_at hl 1 rfl) ?_
  refine lv_aload_n hx hb dX11_needCell_1 rfl (lv_at hl 0 rfl) ?_
  obtain ⟨g2, h⟩ := oif_some h
  obtain ⟨n3, en3, h⟩ := obind_some h
  refine c_get E G o 14 (v := .ref (ad n3)) (oO_k g2).1 (cc_o11 (oO_k g2).2) rfl (fun w h => .tail _ (iA_23 h)) (by decide) (.tail _ qA_675) rfl (by rw [en3]; rfl) dX11_needCell_2 ?_
  clear en3
  obtain ⟨g4, h⟩ := oif_some h
  obtain ⟨n5, en5, h⟩ := obind_some h
  refine c_get E G n3 6 (v := .ref (ad n5)) (oO_k g4).1 (cc_o6 (oO_k g4).2) rfl (fun w h => .tail _ (iA_14 h)) (by decide) (.tail _ qA_695) rfl (by rw [en5]; rfl) dX11_needCell_5 ?_
  clear en5
  obtain ⟨g6, h⟩ := oif_some h
  obtain ⟨r9, T7, eT7, h⟩ := obind2_some h
  refine q_cvi (As := []) (rest := [.int a0]) E G hA hX hN hml (u_X1_cells l hst D cI cJ cZ cMic cSrc cSt cAI cAJ ad T n5 eT7) (cwV 0 hts (gaV qA_714 qA_35 qA_36 qA_37 qA_38) rfl rfl rfl (by decide +kernel) ⟨Nat.le_of_ble_eq_true rfl, Nat.le_of_ble_eq_true rfl⟩) (oO_k g6).1 (cc_o1 (oO_k g6).2) rfl rfl hl.1 rfl (lv_room (Nat.le_of_ble_eq_true rfl)) dX11_needCell_8 ⟨Nat.zero_le _, Nat.zero_le _⟩ (fun q10 T8 H locs hq G => ?_)
  obtain ⟨hq1, hq2⟩ := hq
  rw [hq2] at G
  refine lv_to hq1 ?_
  clear hq1 hq2 eT7
  obtain ⟨r13, T11, eT11, h⟩ := othr_n h
  refine q_csv (As := [.int a0, .int r9]) (rest := []) E G hA hX hN hml (u_X11_needIndex l hst D cI cJ cZ cMic cSrc cSt cAI cAJ ad T7 a0 r9 eT11) (cwS 2 hts (gaS qA_738 qA_739 qA_131 qA_740) rfl rfl rfl (by decide +kernel) ⟨Nat.le_of_ble_eq_true rfl, Nat.le_of_ble_eq_true rfl⟩) rfl hl.1 rfl (lv_room (Nat.le_of_ble_eq_true rfl)) dX11_needCell_11 ⟨Nat.zero_le _, Nat.zero_le _⟩ (fun T12 H locs hq G => ?_)
  rw [hq] at G
  clear hq eT11
  exact W.vret hx hb hr (fun t ht hW => ⟨⟨T11, rfl, (osome3 h).2.2, ⟨by rw [ht]; exact G.1, va_K.moved hW.alike hK, G.2.1⟩⟩, G.2.2.F ht⟩) G.2.2.2.2 dX11_needCell_14
set_option maxHeartbeats 4000000 in
set_option maxRecDepth 100000 in
theorem s_X11_needCell {T : AT} {o : Nat} {a0 : Int32} {e1 : Nat} {r1 : Int32} {T1 : AT} (h : g_X11_needCell T o a0 = some (e1, r1, T1)) : SP T T1 := by
  have p0 := SP.rf T
  unfold g_X11_needCell at h
  obtain ⟨g2, h⟩ := oif_some h
  obtain ⟨n3, en3, h⟩ := obind_some h
  obtain ⟨g4, h⟩ := oif_some h
  obtain ⟨n5, en5, h⟩ := obind_some h
  obtain ⟨g6, h⟩ := oif_some h
  obtain ⟨r8, T7, eT7, h⟩ := obind2_some h
  have p1 : SP T T7 := SP.tr p0 (s_X1_cells eT7)
  rcases othr_s h with ⟨k9, r9, e9, -⟩ | ⟨r10, T9, eT9, h⟩
  · exact SP.tr p1 (s_X11_needIndex e9)
  have p2 : SP T T9 := SP.tr p1 (s_X11_needIndex eT9)
  rw [← (osome3 h).2.2]
  exact p2
set_option maxHeartbeats 4000000 in
set_option maxRecDepth 100000 in
theorem x_X11_needCell (l : Launch) (hst : l.stackTraces = false) (D : va_G) (cI cJ cZ cMic cSrc cSt cAI cAJ : ClassId) (ad : Nat → Nat) (T : AT) (o : Nat) (a0 : Int32) {e1 : Nat} {r1 : Int32} {T1 : AT} (h : g_X11_needCell T o a0 = some (e1 + 1, r1, T1)) : kXv l yX11_needCell (Cond.code yX11_needCell cX11_needCell 2 none :: wsA) 7 102 cI cJ cZ cMic cSrc cSt cAI cAJ D ad T [.ref (ad o), .int a0] e1 T1 := by
  intro sz
  refine vx_ofW (cc := cX11_needCell) (maxL := 2) (ret := none) (by decide) rfl ?_
  intro p e s m args below meth c s₁ B hml htab hv
  obtain ⟨rfl, hsz, hP, hK, hD0, hX, hN⟩ := hv
  have hx := B.exec
  have hb := B.bytes
  have hr := B.returns
  have hts := atoms_spec (ws := (Cond.code yX11_needCell cX11_needCell 2 none :: wsA)) B.pre
  have hown : s.vm.findClass RX11 = some m.cls := findClass_of_methodNamed B.named
  have hlocks := B.notSynchronized
  subst hsz
  have hD := hD0.self (sz := s.heap.size)
  generalize hAe : va_A (cW ad T.1 (cc cI cJ cZ cMic cSrc cSt cAI cAJ ad T)) s.heap.size = A at hD hX ⊢
  have hA : ∀ q : Nat, s.heap.size ≤ q → A q := fun q h => by rw [← hAe]; exact Or.inr h
  have G : gC cI cJ cZ cMic cSrc cSt cAI cAJ D ad A s.heap s.heap [] T := ⟨hP, hD, va_S.rf⟩
  have E : cE p c cX11_needCell s m ([.ref (ad o), .int a0] : List Value).toArray (Cond.code yX11_needCell cX11_needCell 2 none :: wsA) D RX11 (CT cI cJ cZ cMic cSrc cSt cAI cAJ) := ⟨hx, hb, hts, hown, hK⟩
  have htab : ∀ x ∈ c.exceptionTable.toList, False := fun x hx => htab x hx
  have hl := lv_entry ([.ref (ad o), .int a0]) (n := 2) (Nat.le_of_ble_eq_true rfl)
  rw [lg_entry_eq]
  generalize (lg_sl ([.ref (ad o), .int a0]) ++ List.replicate (2 - (lg_sl ([.ref (ad o), .int a0])).length) Slot.unset).toArray = ls at hl ⊢
  have hl : lv_has ls 2 [(0, .ref (ad o)), (1, .int a0)] := hl
  unfold g_X11_needCell at h
  refine lv_iload_n hx hb dX11_needCell_0 rfl (lv_at hl 1 rfl) ?_
  refine lv_aload_n hx hb dX11_needCell_1 rfl (lv_at hl 0 rfl) ?_
  obtain ⟨g2, h⟩ := oif_some h
  obtain ⟨n3, en3, h⟩ := obind_some h
  refine c_get E G o 14 (v := .ref (ad n3)) (oO_k g2).1 (cc_o11 (oO_k g2).2) rfl (fun w h => .tail _ (iA_23 h)) (by decide) (.tail _ qA_675) rfl (by rw [en3]; rfl) dX11_needCell_2 ?_
  clear en3
  obtain ⟨g4, h⟩ := oif_some h
  obtain ⟨n5, en5, h⟩ := obind_some h
  refine c_get E G n3 6 (v := .ref (ad n5)) (oO_k g4).1 (cc_o6 (oO_k g4).2) rfl (fun w h => .tail _ (iA_14 h)) (by decide) (.tail _ qA_695) rfl (by rw [en5]; rfl) dX11_needCell_5 ?_
  clear en5
  obtain ⟨g6, h⟩ := oif_some h
  obtain ⟨r9, T7, eT7, h⟩ := obind2_some h
  refine q_cvi (As := []) (rest := [.int a0]) E G hA hX hN hml (u_X1_cells l hst D cI cJ cZ cMic cSrc cSt cAI cAJ ad T n5 eT7) (cwV 0 hts (gaV qA_714 qA_35 qA_36 qA_37 qA_38) rfl rfl rfl (by decide +kernel) ⟨Nat.le_of_ble_eq_true rfl, Nat.le_of_ble_eq_true rfl⟩) (oO_k g6).1 (cc_o1 (oO_k g6).2) rfl rfl hl.1 rfl (lv_room (Nat.le_of_ble_eq_true rfl)) dX11_needCell_8 ⟨Nat.zero_le _, Nat.zero_le _⟩ (fun q10 T8 H locs hq G => ?_)
  obtain ⟨hq1, hq2⟩ := hq
  rw [hq2] at G
  refine lv_to hq1 ?_
  clear hq1 hq2 eT7
  rcases othr_t h with ⟨r0, eT11⟩ | ⟨r13, T11, eT11, h⟩
  · refine q_xsv (As := [.int a0, .int r9]) (rest := []) E G hA hX hN hml (x_X11_needIndex l hst D cI cJ cZ cMic cSrc cSt cAI cAJ ad T7 a0 r9 eT11) (cwS 2 hts (gaS qA_738 qA_739 qA_131 qA_740) rfl rfl rfl (by decide +kernel) ⟨Nat.le_of_ble_eq_true rfl, Nat.le_of_ble_eq_true rfl⟩) rfl hl.1 rfl (lv_room (Nat.le_of_ble_eq_true rfl)) dX11_needCell_11 ⟨Nat.le_of_ble_eq_true rfl, Nat.le_of_ble_eq_true rfl⟩ (fun E9 ce q9 T9 H locs hp G hce hcv hcl => ?_)
    obtain ⟨hE, hT⟩ := hp
    subst hE
    rw [hT] at G
    exact vx_out (fun x hx => (htab x hx).elim) hlocks hce hcv hcl (fun t ht hvm => ⟨T1, trivial, ⟨⟨rfl, rfl⟩, by rw [ht]; exact G.1, va_K.moved hvm hK, G.2.1⟩, G.2.2.F ht⟩) G.2.2.2.2 (Nat.le_refl _) (Nat.le_refl _)
  refine q_csv (As := [.int a0, .int r9]) (rest := []) E G hA hX hN hml (u_X11_needIndex l hst D cI cJ cZ cMic cSrc cSt cAI cAJ ad T7 a0 r9 eT11) (cwS 2 hts (gaS qA_738 qA_739 qA_131 qA_740) rfl rfl rfl (by decide +kernel) ⟨Nat.le_of_ble_eq_true rfl, Nat.le_of_ble_eq_true rfl⟩) rfl hl.1 rfl (lv_room (Nat.le_of_ble_eq_true rfl)) dX11_needCell_11 ⟨Nat.zero_le _, Nat.zero_le _⟩ (fun T12 H locs hq G => ?_)
  rw [hq] at G
  clear hq eT11
  exact (Nat.succ_ne_zero _ (congrArg Prod.fst (Option.some.inj h)).symm).elim
def g_X11_cellAt_b44  (T : AT) (s0 : Int32) : Option (Nat × Int32 × AT) := some (0, s0, T)
set_option maxHeartbeats 4000000 in
set_option maxRecDepth 100000 in
theorem u_X11_cellAt_b44 {p : Program} {l : Launch} {e : Env} {s : State} {m : MethodId} {args : Array Value} {below : List Frame} {meth : Method} {c : Code} {Q : State → Prop} {D : va_G} {A : Nat → Prop} {cI cJ cZ cMic cSrc cSt cAI cAJ : ClassId} {ad : Nat → Nat} {r1 : Int32} {T1 : AT} (E : cE p c cX11_cellAt s m args (Cond.code yX11_cellAt cX11_cellAt 3 (some .int) :: wsA) D RX11 (CT cI cJ cZ cMic cSrc cSt cAI cAJ)) (hA : ∀ q : Nat, s.heap.size ≤ q → A q) (hX : xT A s) (hN : nX s) (hml : c.maxLocals = 3) (hst : l.stackTraces = false) (kr44 : ∀ (H : Heap) (locs : List Loc) (ls : Array Slot), gC cI cJ cZ cMic cSrc cSt cAI cAJ D ad A s.heap H locs T1 → W p l e { frames := 8, cells := 0, slots := 0, locals := 123 } s m args below meth c H locs 0 0 Q (F0 m 44 ls [.int r1])) : ∀ (T : AT) (H : Heap) (locs : List Loc) (ls : Array Slot) (s0 : Int32), g_X11_cellAt_b44 T s0 = some (0, r1, T1) → gC cI cJ cZ cMic cSrc cSt cAI cAJ D ad A s.heap H locs T → lv_has ls 3 [] → W p l e { frames := 8, cells := 0, slots := 0, locals := 123 } s m args below meth c H locs 0 0 Q (F0 m 44 ls [.int s0]) := by
  have hx := E.1
  have hb := E.2.1
  have hts := E.2.2.1
  have hown := E.2.2.2.1
  have hK := E.2.2.2.2
  intro T H locs ls s0 h G hl
  unfold g_X11_cellAt_b44 at h
  rw [(osome3 h).2.2] at G
  refine lv_to (osome3 h).2.1 ?_
  exact kr44 _ _ _ G
def g_X11_cellAt (T : AT) (o : Nat) (a0 : Int32) (a1 : Int32) : Option (Nat × Int32 × AT) := oif (oO T o 11 = true) <| othr (g_X11_needCamera T o) 0 fun r5 T3 => oif (oO T3 o 11 = true) <| othr (g_X11_needCell T3 o a0) 0 fun r10 T8 => othr (g_X11_needRange T8 a1 (0 : Int32) (1 : Int32)) 0 fun r14 T12 => if a1 = 0 then (oif (oO T12 o 11 = true) <| obind (T12.2.2.2.2 o 14) fun n18 => oif (oO T12 n18 6 = true) <| obind (T12.2.2.2.2 n18 6) fun n20 => oif (oO T12 n20 1 = true) <| obind2 (g_X1_centreX T12 n20 a0) fun r24 T22 => g_X11_cellAt_b44 T22 r24) else (oif (oO T12 o 11 = true) <| obind (T12.2.2.2.2 o 14) fun n27 => oif (oO T12 n27 6 = true) <| obind (T12.2.2.2.2 n27 6) fun n29 => oif (oO T12 n29 1 = true) <| obind2 (g_X1_centreY T12 n29 a0) fun r33 T31 => g_X11_cellAt_b44 T31 r33)
set_option maxHeartbeats 4000000 in
set_option maxRecDepth 100000 in
theorem u_X11_cellAt (l : Launch) (hst : l.stackTraces = false) (D : va_G) (cI cJ cZ cMic cSrc cSt cAI cAJ : ClassId) (ad : Nat → Nat) (T : AT) (o : Nat) (a0 : Int32) (a1 : Int32) {r1 : Int32} {T1 : AT} (h : g_X11_cellAt T o a0 a1 = some (0, r1, T1)) : kCi l yX11_cellAt (Cond.code yX11_cellAt cX11_cellAt 3 (some .int) :: wsA) 8 123 cI cJ cZ cMic cSrc cSt cAI cAJ D ad T [.ref (ad o), .int a0, .int a1] (fun r T9 => r = r1 ∧ T9 = T1) := by
  intro sz
  refine Met.ofW (cc := cX11_cellAt) (maxL := 3) (ret := (some .int)) (by decide) rfl ?_
  intro p e s m args below meth c s₁ B hml hv
  obtain ⟨rfl, hsz, hP, hK, hD0, hX, hN⟩ := hv
  have hx := B.exec
  have hb := B.bytes
  have hr := B.returns
  have hts := atoms_spec (ws := (Cond.code yX11_cellAt cX11_cellAt 3 (some .int) :: wsA)) B.pre
  have hown : s.vm.findClass RX11 = some m.cls := findClass_of_methodNamed B.named
  have hlocks := B.notSynchronized
  subst hsz
  have hD := hD0.self (sz := s.heap.size)
  generalize hAe : va_A (cW ad T.1 (cc cI cJ cZ cMic cSrc cSt cAI cAJ ad T)) s.heap.size = A at hD hX ⊢
  have hA : ∀ q : Nat, s.heap.size ≤ q → A q := fun q h => by rw [← hAe]; exact Or.inr h
  have G : gC cI cJ cZ cMic cSrc cSt cAI cAJ D ad A s.heap s.heap [] T := ⟨hP, hD, va_S.rf⟩
  have E : cE p c cX11_cellAt s m ([.ref (ad o), .int a0, .int a1] : List Value).toArray (Cond.code yX11_cellAt cX11_cellAt 3 (some .int) :: wsA) D RX11 (CT cI cJ cZ cMic cSrc cSt cAI cAJ) := ⟨hx, hb, hts, hown, hK⟩
  have hl := lv_entry ([.ref (ad o), .int a0, .int a1]) (n := 3) (Nat.le_of_ble_eq_true rfl)
  rw [lg_entry_eq]
  generalize (lg_sl ([.ref (ad o), .int a0, .int a1]) ++ List.replicate (3 - (lg_sl ([.ref (ad o), .int a0, .int a1])).length) Slot.unset).toArray = ls at hl ⊢
  have hl : lv_has ls 3 [(0, .ref (ad o)), (1, .int a0), (2, .int a1)] := hl
  unfold g_X11_cellAt at h
  refine lv_aload_n hx hb dX11_cellAt_0 rfl (lv_at hl 0 rfl) ?_
  obtain ⟨g2, h⟩ := oif_some h
  obtain ⟨r5, T3, eT3, h⟩ := othr_n h
  refine q_cvv (As := []) (rest := []) E G hA hX hN hml (u_X11_needCamera l hst D cI cJ cZ cMic cSrc cSt cAI cAJ ad T o eT3) (cwV 0 hts (gaV qA_728 qA_729 qA_730 qA_131 qA_731) rfl rfl rfl (by decide +kernel) ⟨Nat.le_of_ble_eq_true rfl, Nat.le_of_ble_eq_true rfl⟩) (oO_k g2).1 (cc_o11 (oO_k g2).2) rfl rfl hl.1 rfl (lv_room (Nat.le_of_ble_eq_true rfl)) dX11_cellAt_1 ⟨Nat.zero_le _, Nat.zero_le _⟩ (fun T4 H locs hq G => ?_)
  rw [hq] at G
  clear hq eT3
  refine lv_aload_n hx hb dX11_cellAt_4 rfl (lv_at hl 0 rfl) ?_
  refine lv_iload_n hx hb dX11_cellAt_5 rfl (lv_at hl 1 rfl) ?_
  obtain ⟨g7, h⟩ := oif_some h
  obtain ⟨r10, T8, eT8, h⟩ := othr_n h
  refine q_cvv (As := [.int a0]) (rest := []) E G hA hX hN hml (u_X11_needCell l hst D cI cJ cZ cMic cSrc cSt cAI cAJ ad T3 o a0 eT8) (cwV 1 hts (gaV qA_752 qA_753 qA_754 qA_131 qA_755) rfl rfl rfl (by decide +kernel) ⟨Nat.le_of_ble_eq_true rfl, Nat.le_of_ble_eq_true rfl⟩) (oO_k g7).1 (cc_o11 (oO_k g7).2) rfl rfl hl.1 rfl (lv_room (Nat.le_of_ble_eq_true rfl)) dX11_cellAt_6 ⟨Nat.zero_le _, Nat.zero_le _⟩ (fun T9 H locs hq G => ?_)
  rw [hq] at G
  clear hq eT8
  refine lv_iload_n hx hb dX11_cellAt_9 rfl (lv_at hl 2 rfl) ?_
  refine lv_iconst (v := 0) hx hb dX11_cellAt_10 (by decide) ?_
  refine lv_iconst (v := 1) hx hb dX11_cellAt_11 (by decide) ?_
  obtain ⟨r14, T12, eT12, h⟩ := othr_n h
  refine q_csv (As := [.int a1, .int 0, .int 1]) (rest := []) E G hA hX hN hml (u_X11_needRange l hst D cI cJ cZ cMic cSrc cSt cAI cAJ ad T8 a1 (0 : Int32) (1 : Int32) eT12) (cwS 3 hts (gaS qA_741 qA_742 qA_131 qA_743) rfl rfl rfl (by decide +kernel) ⟨Nat.le_of_ble_eq_true rfl, Nat.le_of_ble_eq_true rfl⟩) rfl hl.1 rfl (lv_room (Nat.le_of_ble_eq_true rfl)) dX11_cellAt_12 ⟨Nat.zero_le _, Nat.zero_le _⟩ (fun T13 H locs hq G => ?_)
  rw [hq] at G
  clear hq eT12
  refine lv_iload_n hx hb dX11_cellAt_15 rfl (lv_at hl 2 rfl) ?_
  refine lv_if_ne (tgt := 33) hx hb dX11_cellAt_16 (by decide) (fun c16 => ?_) (fun c16 => ?_)
  · have h := oif_neg c16 h
    refine lv_aload_n hx hb dX11_cellAt_33 rfl (lv_at hl 0 rfl) ?_
    obtain ⟨g26, h⟩ := oif_some h
    obtain ⟨n27, en27, h⟩ := obind_some h
    refine c_get E G o 14 (v := .ref (ad n27)) (oO_k g26).1 (cc_o11 (oO_k g26).2) rfl (fun w h => .tail _ (iA_23 h)) (by decide) (.tail _ qA_675) rfl (by rw [en27]; rfl) dX11_cellAt_34 ?_
    clear en27
    obtain ⟨g28, h⟩ := oif_some h
    obtain ⟨n29, en29, h⟩ := obind_some h
    refine c_get E G n27 6 (v := .ref (ad n29)) (oO_k g28).1 (cc_o6 (oO_k g28).2) rfl (fun w h => .tail _ (iA_14 h)) (by decide) (.tail _ qA_695) rfl (by rw [en29]; rfl) dX11_cellAt_37 ?_
    clear en29
    refine lv_iload_n hx hb dX11_cellAt_40 rfl (lv_at hl 1 rfl) ?_
    obtain ⟨g30, h⟩ := oif_some h
    obtain ⟨r33, T31, eT31, h⟩ := obind2_some h
    refine q_cvi (As := [.int a0]) (rest := []) E G hA hX hN hml (u_X1_centreY l hst D cI cJ cZ cMic cSrc cSt cAI cAJ ad T12 n29 a0 eT31) (cwV 1 hts (gaV qA_757 qA_555 qA_556 qA_37 qA_167) rfl rfl rfl (by decide +kernel) ⟨Nat.le_of_ble_eq_true rfl, Nat.le_of_ble_eq_true rfl⟩) (oO_k g30).1 (cc_o1 (oO_k g30).2) rfl rfl hl.1 rfl (lv_room (Nat.le_of_ble_eq_true rfl)) dX11_cellAt_41 ⟨Nat.zero_le _, Nat.zero_le _⟩ (fun q34 T32 H locs hq G => ?_)
    obtain ⟨hq1, hq2⟩ := hq
    rw [hq2] at G
    refine lv_to hq1 ?_
    clear hq1 hq2 eT31
    have hl := lv_sub hl [] rfl
    exact u_X11_cellAt_b44 E hA hX hN hml hst (fun H locs ls G => W.iret (v := r1) hx hb hr (fun t ht hW => ⟨⟨r1, T1, rfl, ⟨rfl, rfl⟩, ⟨by rw [ht]; exact G.1, va_K.moved hW.alike hK, G.2.1⟩⟩, G.2.2.F ht⟩) G.2.2.2.2 dX11_cellAt_44) _ _ _ _ _ h G hl
  · have h := oif_pos c16 h
    refine lv_aload_n hx hb dX11_cellAt_19 rfl (lv_at hl 0 rfl) ?_
    obtain ⟨g17, h⟩ := oif_some h
    obtain ⟨n18, en18, h⟩ := obind_some h
    refine c_get E G o 14 (v := .ref (ad n18)) (oO_k g17).1 (cc_o11 (oO_k g17).2) rfl (fun w h => .tail _ (iA_23 h)) (by decide) (.tail _ qA_675) rfl (by rw [en18]; rfl) dX11_cellAt_20 ?_
    clear en18
    obtain ⟨g19, h⟩ := oif_some h
    obtain ⟨n20, en20, h⟩ := obind_some h
    refine c_get E G n18 6 (v := .ref (ad n20)) (oO_k g19).1 (cc_o6 (oO_k g19).2) rfl (fun w h => .tail _ (iA_14 h)) (by decide) (.tail _ qA_695) rfl (by rw [en20]; rfl) dX11_cellAt_23 ?_
    clear en20
    refine lv_iload_n hx hb dX11_cellAt_26 rfl (lv_at hl 1 rfl) ?_
    obtain ⟨g21, h⟩ := oif_some h
    obtain ⟨r24, T22, eT22, h⟩ := obind2_some h
    refine q_cvi (As := [.int a0]) (rest := []) E G hA hX hN hml (u_X1_centreX l hst D cI cJ cZ cMic cSrc cSt cAI cAJ ad T12 n20 a0 eT22) (cwV 1 hts (gaV qA_756 qA_552 qA_553 qA_37 qA_164) rfl rfl rfl (by decide +kernel) ⟨Nat.le_of_ble_eq_true rfl, Nat.le_of_ble_eq_true rfl⟩) (oO_k g21).1 (cc_o1 (oO_k g21).2) rfl rfl hl.1 rfl (lv_room (Nat.le_of_ble_eq_true rfl)) dX11_cellAt_27 ⟨Nat.zero_le _, Nat.zero_le _⟩ (fun q25 T23 H locs hq G => ?_)
    obtain ⟨hq1, hq2⟩ := hq
    rw [hq2] at G
    refine lv_to hq1 ?_
    clear hq1 hq2 eT22
    refine lv_goto (tgt := 44) hx hb dX11_cellAt_30 (by decide) ?_
    have hl := lv_sub hl [] rfl
    exact u_X11_cellAt_b44 E hA hX hN hml hst (fun H locs ls G => W.iret (v := r1) hx hb hr (fun t ht hW => ⟨⟨r1, T1, rfl, ⟨rfl, rfl⟩, ⟨by rw [ht]; exact G.1, va_K.moved hW.alike hK, G.2.1⟩⟩, G.2.2.F ht⟩) G.2.2.2.2 dX11_cellAt_44) _ _ _ _ _ h G hl
set_option maxHeartbeats 4000000 in
set_option maxRecDepth 100000 in
theorem s_X11_cellAt_b44 {e1 : Nat} {r1 : Int32} {T1 : AT} : ∀ (T : AT) (s0 : Int32), g_X11_cellAt_b44 T s0 = some (e1, r1, T1) → SP T T1 := by
  intro T s0 h
  have p0 := SP.rf T
  unfold g_X11_cellAt_b44 at h
  rw [← (osome3 h).2.2]
  exact p0
set_option maxHeartbeats 4000000 in
set_option maxRecDepth 100000 in
theorem s_X11_cellAt {T : AT} {o : Nat} {a0 : Int32} {a1 : Int32} {e1 : Nat} {r1 : Int32} {T1 : AT} (h : g_X11_cellAt T o a0 a1 = some (e1, r1, T1)) : SP T T1 := by
  have p0 := SP.rf T
  unfold g_X11_cellAt at h
  obtain ⟨g2, h⟩ := oif_some h
  rcases othr_s h with ⟨k9, r9, e9, -⟩ | ⟨r4, T3, eT3, h⟩
  · exact SP.tr p0 (s_X11_needCamera e9)
  have p1 : SP T T3 := SP.tr p0 (s_X11_needCamera eT3)
  obtain ⟨g5, h⟩ := oif_some h
  rcases othr_s h with ⟨k9, r9, e9, -⟩ | ⟨r7, T6, eT6, h⟩
  · exact SP.tr p1 (s_X11_needCell e9)
  have p2 : SP T T6 := SP.tr p1 (s_X11_needCell eT6)
  rcases othr_s h with ⟨k9, r9, e9, -⟩ | ⟨r9, T8, eT8, h⟩
  · exact SP.tr p2 (s_X11_needRange e9)
  have p3 : SP T T8 := SP.tr p2 (s_X11_needRange eT8)
  rcases oif_or h with ⟨c10, h⟩ | ⟨c10, h⟩
  · have h := h
    obtain ⟨g11, h⟩ := oif_some h
    obtain ⟨n12, en12, h⟩ := obind_some h
    obtain ⟨g13, h⟩ := oif_some h
    obtain ⟨n14, en14, h⟩ := obind_some h
    obtain ⟨g15, h⟩ := oif_some h
    obtain ⟨r17, T16, eT16, h⟩ := obind2_some h
    have p4 : SP T T16 := SP.tr p3 (s_X1_centreX eT16)
    exact SP.tr p4 (s_X11_cellAt_b44 _ _ h)
  · have h := h
    obtain ⟨g18, h⟩ := oif_some h
    obtain ⟨n19, en19, h⟩ := obind_some h
    obtain ⟨g20, h⟩ := oif_some h
    obtain ⟨n21, en21, h⟩ := obind_some h
    obtain ⟨g22, h⟩ := oif_some h
    obtain ⟨r24, T23, eT23, h⟩ := obind2_some h
    have p4 : SP T T23 := SP.tr p3 (s_X1_centreY eT23)
    exact SP.tr p4 (s_X11_cellAt_b44 _ _ h)
set_option maxHeartbeats 4000000 in
set_option maxRecDepth 100000 in
theorem x_X11_cellAt_b44 {p : Program} {l : Launch} {e : Env} {s : State} {m : MethodId} {args : Array Value} {below : List Frame} {meth : Method} {c : Code} {Qc : Array Value → State → Outcome → State → Prop} {XC : String → State → State → Prop} {D : va_G} {A : Nat → Prop} {cI cJ cZ cMic cSrc cSt cAI cAJ : ClassId} {ad : Nat → Nat} {e1 : Nat} {r1 : Int32} {T1 : AT} (E : cE p c cX11_cellAt s m args (Cond.code yX11_cellAt cX11_cellAt 3 (some .int) :: wsA) D RX11 (CT cI cJ cZ cMic cSrc cSt cAI cAJ)) (hA : ∀ q : Nat, s.heap.size ≤ q → A q) (hX : xT A s) (hN : nX s) (hml : c.maxLocals = 3) (hz9 : True) (hst : l.stackTraces = false) (htab : ∀ x ∈ c.exceptionTable.toList, False) (hlocks : meth.locks = false) (kx : ∀ (H : Heap) (locs : List Loc) (t : State), gC cI cJ cZ cMic cSrc cSt cAI cAJ D ad A s.heap H locs T1 → s.vm.Alike t.vm → H.size ≤ t.heap.size → (∀ q, q < H.size → t.heap[q]? = H[q]?) → XC (exn e1) s t) : ∀ (T : AT) (H : Heap) (locs : List Loc) (ls : Array Slot) (s0 : Int32), g_X11_cellAt_b44 T s0 = some (e1 + 1, r1, T1) → gC cI cJ cZ cMic cSrc cSt cAI cAJ D ad A s.heap H locs T → lv_has ls 3 [] → W p l e { frames := 8, cells := 1, slots := 6, locals := 123 } s m args below meth c H locs 0 0 (vx_MQ below Qc XC args s 1 6 A) (F0 m 44 ls [.int s0]) := by
  have hx := E.1
  have hb := E.2.1
  have hts := E.2.2.1
  have hown := E.2.2.2.1
  have hK := E.2.2.2.2
  intro T H locs ls s0 h G hl
  unfold g_X11_cellAt_b44 at h
  exact (Nat.succ_ne_zero _ (congrArg Prod.fst (Option.some.inj h)).symm).elim
set_option maxHeartbeats 4000000 in
set_option maxRecDepth 100000 in
theorem x_X11_cellAt (l : Launch) (hst : l.stackTraces = false) (D : va_G) (cI cJ cZ cMic cSrc cSt cAI cAJ : ClassId) (ad : Nat → Nat) (T : AT) (o : Nat) (a0 : Int32) (a1 : Int32) {e1 : Nat} {r1 : Int32} {T1 : AT} (h : g_X11_cellAt T o a0 a1 = some (e1 + 1, r1, T1)) : kXi l yX11_cellAt (Cond.code yX11_cellAt cX11_cellAt 3 (some .int) :: wsA) 8 123 cI cJ cZ cMic cSrc cSt cAI cAJ D ad T [.ref (ad o), .int a0, .int a1] e1 T1 := by
  intro sz
  refine vx_ofW (cc := cX11_cellAt) (maxL := 3) (ret := (some .int)) (by decide) rfl ?_
  intro p e s m args below meth c s₁ B hml htab hv
  obtain ⟨rfl, hsz, hP, hK, hD0, hX, hN⟩ := hv
  have hx := B.exec
  have hb := B.bytes
  have hr := B.returns
  have hts := atoms_spec (ws := (Cond.code yX11_cellAt cX11_cellAt 3 (some .int) :: wsA)) B.pre
  have hown : s.vm.findClass RX11 = some m.cls := findClass_of_methodNamed B.named
  have hlocks := B.notSynchronized
  subst hsz
  have hD := hD0.self (sz := s.heap.size)
  generalize hAe : va_A (cW ad T.1 (cc cI cJ cZ cMic cSrc cSt cAI cAJ ad T)) s.heap.size = A at hD hX ⊢
  have hA : ∀ q : Nat, s.heap.size ≤ q → A q := fun q h => by rw [← hAe]; exact Or.inr h
  have G : gC cI cJ cZ cMic cSrc cSt cAI cAJ D ad A s.heap s.heap [] T := ⟨hP, hD, va_S.rf⟩
  have E : cE p c cX11_cellAt s m ([.ref (ad o), .int a0, .int a1] : List Value).toArray (Cond.code yX11_cellAt cX11_cellAt 3 (some .int) :: wsA) D RX11 (CT cI cJ cZ cMic cSrc cSt cAI cAJ) := ⟨hx, hb, hts, hown, hK⟩
  have htab : ∀ x ∈ c.exceptionTable.toList, False := fun x hx => htab x hx
  have hl := lv_entry ([.ref (ad o), .int a0, .int a1]) (n := 3) (Nat.le_of_ble_eq_true rfl)
  rw [lg_entry_eq]
  generalize (lg_sl ([.ref (ad o), .int a0, .int a1]) ++ List.replicate (3 - (lg_sl ([.ref (ad o), .int a0, .int a1])).length) Slot.unset).toArray = ls at hl ⊢
  have hl : lv_has ls 3 [(0, .ref (ad o)), (1, .int a0), (2, .int a1)] := hl
  unfold g_X11_cellAt at h
  refine lv_aload_n hx hb dX11_cellAt_0 rfl (lv_at hl 0 rfl) ?_
  obtain ⟨g2, h⟩ := oif_some h
  rcases othr_t h with ⟨r0, eT3⟩ | ⟨r5, T3, eT3, h⟩
  · refine q_xvv (As := []) (rest := []) E G hA hX hN hml (x_X11_needCamera l hst D cI cJ cZ cMic cSrc cSt cAI cAJ ad T o eT3) (cwV 0 hts (gaV qA_728 qA_729 qA_730 qA_131 qA_731) rfl rfl rfl (by decide +kernel) ⟨Nat.le_of_ble_eq_true rfl, Nat.le_of_ble_eq_true rfl⟩) (oO_k g2).1 (cc_o11 (oO_k g2).2) rfl rfl hl.1 rfl (lv_room (Nat.le_of_ble_eq_true rfl)) dX11_cellAt_1 ⟨Nat.le_of_ble_eq_true rfl, Nat.le_of_ble_eq_true rfl⟩ (fun E9 ce q9 T9 H locs hp G hce hcv hcl => ?_)
    obtain ⟨hE, hT⟩ := hp
    subst hE
    rw [hT] at G
    exact vx_out (fun x hx => (htab x hx).elim) hlocks hce hcv hcl (fun t ht hvm => ⟨T1, trivial, ⟨⟨rfl, rfl⟩, by rw [ht]; exact G.1, va_K.moved hvm hK, G.2.1⟩, G.2.2.F ht⟩) G.2.2.2.2 (Nat.le_refl _) (Nat.le_refl _)
  refine q_cvv (As := []) (rest := []) E G hA hX hN hml (u_X11_needCamera l hst D cI cJ cZ cMic cSrc cSt cAI cAJ ad T o eT3) (cwV 0 hts (gaV qA_728 qA_729 qA_730 qA_131 qA_731) rfl rfl rfl (by decide +kernel) ⟨Nat.le_of_ble_eq_true rfl, Nat.le_of_ble_eq_true rfl⟩) (oO_k g2).1 (cc_o11 (oO_k g2).2) rfl rfl hl.1 rfl (lv_room (Nat.le_of_ble_eq_true rfl)) dX11_cellAt_1 ⟨Nat.zero_le _, Nat.zero_le _⟩ (fun T4 H locs hq G => ?_)
  rw [hq] at G
  clear hq eT3
  refine lv_aload_n hx hb dX11_cellAt_4 rfl (lv_at hl 0 rfl) ?_
  refine lv_iload_n hx hb dX11_cellAt_5 rfl (lv_at hl 1 rfl) ?_
  obtain ⟨g7, h⟩ := oif_some h
  rcases othr_t h with ⟨r0, eT8⟩ | ⟨r10, T8, eT8, h⟩
  · refine q_xvv (As := [.int a0]) (rest := []) E G hA hX hN hml (x_X11_needCell l hst D cI cJ cZ cMic cSrc cSt cAI cAJ ad T3 o a0 eT8) (cwV 1 hts (gaV qA_752 qA_753 qA_754 qA_131 qA_755) rfl rfl rfl (by decide +kernel) ⟨Nat.le_of_ble_eq_true rfl, Nat.le_of_ble_eq_true rfl⟩) (oO_k g7).1 (cc_o11 (oO_k g7).2) rfl rfl hl.1 rfl (lv_room (Nat.le_of_ble_eq_true rfl)) dX11_cellAt_6 ⟨Nat.le_of_ble_eq_true rfl, Nat.le_of_ble_eq_true rfl⟩ (fun E9 ce q9 T9 H locs hp G hce hcv hcl => ?_)
    obtain ⟨hE, hT⟩ := hp
    subst hE
    rw [hT] at G
    exact vx_out (fun x hx => (htab x hx).elim) hlocks hce hcv hcl (fun t ht hvm => ⟨T1, trivial, ⟨⟨rfl, rfl⟩, by rw [ht]; exact G.1, va_K.moved hvm hK, G.2.1⟩, G.2.2.F ht⟩) G.2.2.2.2 (Nat.le_refl _) (Nat.le_refl _)
  refine q_cvv (As := [.int a0]) (rest := []) E G hA hX hN hml (u_X11_needCell l hst D cI cJ cZ cMic cSrc cSt cAI cAJ ad T3 o a0 eT8) (cwV 1 hts (gaV qA_752 qA_753 qA_754 qA_131 qA_755) rfl rfl rfl (by decide +kernel) ⟨Nat.le_of_ble_eq_true rfl, Nat.le_of_ble_eq_true rfl⟩) (oO_k g7).1 (cc_o11 (oO_k g7).2) rfl rfl hl.1 rfl (lv_room (Nat.le_of_ble_eq_true rfl)) dX11_cellAt_6 ⟨Nat.zero_le _, Nat.zero_le _⟩ (fun T9 H locs hq G => ?_)
  rw [hq] at G
  clear hq eT8
  refine lv_iload_n hx hb dX11_cellAt_9 rfl (lv_at hl 2 rfl) ?_
  refine lv_iconst (v := 0) hx hb dX11_cellAt_10 (by decide) ?_
  refine lv_iconst (v := 1) hx hb dX11_cellAt_11 (by decide) ?_
  rcases othr_t h with ⟨r0, eT12⟩ | ⟨r14, T12, eT12, h⟩
  · refine q_xsv (As := [.int a1, .int 0, .int 1]) (rest := []) E G hA hX hN hml (x_X11_needRange l hst D cI cJ cZ cMic cSrc cSt cAI cAJ ad T8 a1 (0 : Int32) (1 : Int32) eT12) (cwS 3 hts (gaS qA_741 qA_742 qA_131 qA_743) rfl rfl rfl (by decide +kernel) ⟨Nat.le_of_ble_eq_true rfl, Nat.le_of_ble_eq_true rfl⟩) rfl hl.1 rfl (lv_room (Nat.le_of_ble_eq_true rfl)) dX11_cellAt_12 ⟨Nat.le_of_ble_eq_true rfl, Nat.le_of_ble_eq_true rfl⟩ (fun E9 ce q9 T9 H locs hp G hce hcv hcl => ?_)
    obtain ⟨hE, hT⟩ := hp
    subst hE
    rw [hT] at G
    exact vx_out (fun x hx => (htab x hx).elim) hlocks hce hcv hcl (fun t ht hvm => ⟨T1, trivial, ⟨⟨rfl, rfl⟩, by rw [ht]; exact G.1, va_K.moved hvm hK, G.2.1⟩, G.2.2.F ht⟩) G.2.2.2.2 (Nat.le_refl _) (Nat.le_refl _)
  refine q_csv (As := [.int a1, .int 0, .int 1]) (rest := []) E G hA hX hN hml (u_X11_needRange l hst D cI cJ cZ cMic cSrc cSt cAI cAJ ad T8 a1 (0 : Int32) (1 : Int32) eT12) (cwS 3 hts (gaS qA_741 qA_742 qA_131 qA_743) rfl rfl rfl (by decide +kernel) ⟨Nat.le_of_ble_eq_true rfl, Nat.le_of_ble_eq_true rfl⟩) rfl hl.1 rfl (lv_room (Nat.le_of_ble_eq_true rfl)) dX11_cellAt_12 ⟨Nat.zero_le _, Nat.zero_le _⟩ (fun T13 H locs hq G => ?_)
  rw [hq] at G
  clear hq eT12
  refine lv_iload_n hx hb dX11_cellAt_15 rfl (lv_at hl 2 rfl) ?_
  refine lv_if_ne (tgt := 33) hx hb dX11_cellAt_16 (by decide) (fun c16 => ?_) (fun c16 => ?_)
  · have h := oif_neg c16 h
    refine lv_aload_n hx hb dX11_cellAt_33 rfl (lv_at hl 0 rfl) ?_
    obtain ⟨g26, h⟩ := oif_some h
    obtain ⟨n27, en27, h⟩ := obind_some h
    refine c_get E G o 14 (v := .ref (ad n27)) (oO_k g26).1 (cc_o11 (oO_k g26).2) rfl (fun w h => .tail _ (iA_23 h)) (by decide) (.tail _ qA_675) rfl (by rw [en27]; rfl) dX11_cellAt_34 ?_
    clear en27
    obtain ⟨g28, h⟩ := oif_some h
    obtain ⟨n29, en29, h⟩ := obind_some h
    refine c_get E G n27 6 (v := .ref (ad n29)) (oO_k g28).1 (cc_o6 (oO_k g28).2) rfl (fun w h => .tail _ (iA_14 h)) (by decide) (.tail _ qA_695) rfl (by rw [en29]; rfl) dX11_cellAt_37 ?_
    clear en29
    refine lv_iload_n hx hb dX11_cellAt_40 rfl (lv_at hl 1 rfl) ?_
    obtain ⟨g30, h⟩ := oif_some h
    obtain ⟨r33, T31, eT31, h⟩ := obind2_some h
    refine q_cvi (As := [.int a0]) (rest := []) E G hA hX hN hml (u_X1_centreY l hst D cI cJ cZ cMic cSrc cSt cAI cAJ ad T12 n29 a0 eT31) (cwV 1 hts (gaV qA_757 qA_555 qA_556 qA_37 qA_167) rfl rfl rfl (by decide +kernel) ⟨Nat.le_of_ble_eq_true rfl, Nat.le_of_ble_eq_true rfl⟩) (oO_k g30).1 (cc_o1 (oO_k g30).2) rfl rfl hl.1 rfl (lv_room (Nat.le_of_ble_eq_true rfl)) dX11_cellAt_41 ⟨Nat.zero_le _, Nat.zero_le _⟩ (fun q34 T32 H locs hq G => ?_)
    obtain ⟨hq1, hq2⟩ := hq
    rw [hq2] at G
    refine lv_to hq1 ?_
    clear hq1 hq2 eT31
    have hl := lv_sub hl [] rfl
    exact x_X11_cellAt_b44 E hA hX hN hml trivial hst htab hlocks (fun H locs t G hvm h1 h2 => ⟨T1, trivial, ⟨⟨rfl, rfl⟩, (c_thrown G hK hvm h1 h2).1⟩, (c_thrown G hK hvm h1 h2).2⟩) _ _ _ _ _ h G hl
  · have h := oif_pos c16 h
    refine lv_aload_n hx hb dX11_cellAt_19 rfl (lv_at hl 0 rfl) ?_
    obtain ⟨g17, h⟩ := oif_some h
    obtain ⟨n18, en18, h⟩ := obind_some h
    refine c_get E G o 14 (v := .ref (ad n18)) (oO_k g17).1 (cc_o11 (oO_k g17).2) rfl (fun w h => .tail _ (iA_23 h)) (by decide) (.tail _ qA_675) rfl (by rw [en18]; rfl) dX11_cellAt_20 ?_
    clear en18
    obtain ⟨g19, h⟩ := oif_some h
    obtain ⟨n20, en20, h⟩ := obind_some h
    refine c_get E G n18 6 (v := .ref (ad n20)) (oO_k g19).1 (cc_o6 (oO_k g19).2) rfl (fun w h => .tail _ (iA_14 h)) (by decide) (.tail _ qA_695) rfl (by rw [en20]; rfl) dX11_cellAt_23 ?_
    clear en20
    refine lv_iload_n hx hb dX11_cellAt_26 rfl (lv_at hl 1 rfl) ?_
    obtain ⟨g21, h⟩ := oif_some h
    obtain ⟨r24, T22, eT22, h⟩ := obind2_some h
    refine q_cvi (As := [.int a0]) (rest := []) E G hA hX hN hml (u_X1_centreX l hst D cI cJ cZ cMic cSrc cSt cAI cAJ ad T12 n20 a0 eT22) (cwV 1 hts (gaV qA_756 qA_552 qA_553 qA_37 qA_164) rfl rfl rfl (by decide +kernel) ⟨Nat.le_of_ble_eq_true rfl, Nat.le_of_ble_eq_true rfl⟩) (oO_k g21).1 (cc_o1 (oO_k g21).2) rfl rfl hl.1 rfl (lv_room (Nat.le_of_ble_eq_true rfl)) dX11_cellAt_27 ⟨Nat.zero_le _, Nat.zero_le _⟩ (fun q25 T23 H locs hq G => ?_)
    obtain ⟨hq1, hq2⟩ := hq
    rw [hq2] at G
    refine lv_to hq1 ?_
    clear hq1 hq2 eT22
    refine lv_goto (tgt := 44) hx hb dX11_cellAt_30 (by decide) ?_
    have hl := lv_sub hl [] rfl
    exact x_X11_cellAt_b44 E hA hX hN hml trivial hst htab hlocks (fun H locs t G hvm h1 h2 => ⟨T1, trivial, ⟨⟨rfl, rfl⟩, (c_thrown G hK hvm h1 h2).1⟩, (c_thrown G hK hvm h1 h2).2⟩) _ _ _ _ _ h G hl
def g_X11_sources (T : AT) (o : Nat) : Option (Int32 × AT) := oif (oO T o 11 = true) <| obind (T.2.2.2.2 o 14) fun n3 => oif (oO T n3 6 = true) <| elet (T.2.2.1 n3 8) fun v5 => some (v5, T)
set_option maxHeartbeats 4000000 in
set_option maxRecDepth 100000 in
theorem u_X11_sources (l : Launch) (hst : l.stackTraces = false) (D : va_G) (cI cJ cZ cMic cSrc cSt cAI cAJ : ClassId) (ad : Nat → Nat) (T : AT) (o : Nat) {r1 : Int32} {T1 : AT} (h : g_X11_sources T o = some (r1, T1)) : kCi l yX11_sources (Cond.code yX11_sources cX11_sources 1 (some .int) :: wsA) 1 0 cI cJ cZ cMic cSrc cSt cAI cAJ D ad T [.ref (ad o)] (fun r T9 => r = r1 ∧ T9 = T1) := by
  intro sz
  refine Met.ofW (cc := cX11_sources) (maxL := 1) (ret := (some .int)) (by decide) rfl ?_
  intro p e s m args below meth c s₁ B hml hv
  obtain ⟨rfl, hsz, hP, hK, hD0, hX, hN⟩ := hv
  have hx := B.exec
  have hb := B.bytes
  have hr := B.returns
  have hts := atoms_spec (ws := (Cond.code yX11_sources cX11_sources 1 (some .int) :: wsA)) B.pre
  have hown : s.vm.findClass RX11 = some m.cls := findClass_of_methodNamed B.named
  have hlocks := B.notSynchronized
  subst hsz
  have hD := hD0.self (sz := s.heap.size)
  generalize hAe : va_A (cW ad T.1 (cc cI cJ cZ cMic cSrc cSt cAI cAJ ad T)) s.heap.size = A at hD hX ⊢
  have hA : ∀ q : Nat, s.heap.size ≤ q → A q := fun q h => by rw [← hAe]; exact Or.inr h
  have G : gC cI cJ cZ cMic cSrc cSt cAI cAJ D ad A s.heap s.heap [] T := ⟨hP, hD, va_S.rf⟩
  have E : cE p c cX11_sources s m ([.ref (ad o)] : List Value).toArray (Cond.code yX11_sources cX11_sources 1 (some .int) :: wsA) D RX11 (CT cI cJ cZ cMic cSrc cSt cAI cAJ) := ⟨hx, hb, hts, hown, hK⟩
  have hl := lv_entry ([.ref (ad o)]) (n := 1) (Nat.le_of_ble_eq_true rfl)
  rw [lg_entry_eq]
  generalize (lg_sl ([.ref (ad o)]) ++ List.replicate (1 - (lg_sl ([.ref (ad o)])).length) Slot.unset).toArray = ls at hl ⊢
  have hl : lv_has ls 1 [(0, .ref (ad o))] := hl
  unfold g_X11_sources at h
  refine lv_aload_n hx hb dX11_sources_0 rfl (lv_at hl 0 rfl) ?_
  obtain ⟨g2, h⟩ := oif_some h
  obtain ⟨n3, en3, h⟩ := obind_some h
  refine c_get E G o 14 (v := .ref (ad n3)) (oO_k g2).1 (cc_o11 (oO_k g2).2) rfl (fun w h => .tail _ (iA_23 h)) (by decide) (.tail _ qA_675) rfl (by rw [en3]; rfl) dX11_sources_1 ?_
  clear en3
  obtain ⟨g4, h⟩ := oif_some h
  refine c_get E G n3 8 (oO_k g4).1 (cc_o6 (oO_k g4).2) rfl (fun w h => .tail _ (iA_14 h)) (by decide) (.tail _ qA_759) rfl rfl dX11_sources_4 ?_
  refine lv_topi (fun v5 ev5 => ?_)
  have h := elet_at ev5 h
  clear ev5
  exact W.iret (v := v5) hx hb hr (fun t ht hW => ⟨⟨v5, T, rfl, osome2 h, ⟨by rw [ht]; exact G.1, va_K.moved hW.alike hK, G.2.1⟩⟩, G.2.2.F ht⟩) G.2.2.2.2 dX11_sources_7
set_option maxHeartbeats 4000000 in
set_option maxRecDepth 100000 in
theorem s_X11_sources {T : AT} {o : Nat} {r1 : Int32} {T1 : AT} (h : g_X11_sources T o = some (r1, T1)) : SP T T1 := by
  have p0 := SP.rf T
  unfold g_X11_sources at h
  obtain ⟨g2, h⟩ := oif_some h
  obtain ⟨n3, en3, h⟩ := obind_some h
  obtain ⟨g4, h⟩ := oif_some h
  obtain ⟨v5, -, h⟩ := elet_some h
  rw [← (osome2 h).2]
  exact p0
def g_X11_needSource (T : AT) (o : Nat) (a0 : Int32) : Option (Nat × Int32 × AT) := oif (oO T o 11 = true) <| obind (T.2.2.2.2 o 14) fun n3 => oif (oO T n3 6 = true) <| elet (T.2.2.1 n3 8) fun v5 => othr (g_X11_needIndex T a0 v5) 0 fun r8 T6 => some (0, 0, T6)
set_option maxHeartbeats 4000000 in
set_option maxRecDepth 100000 in
theorem u_X11_needSource (l : Launch) (hst : l.stackTraces = false) (D : va_G) (cI cJ cZ cMic cSrc cSt cAI cAJ : ClassId) (ad : Nat → Nat) (T : AT) (o : Nat) (a0 : Int32) {r1 : Int32} {T1 : AT} (h : g_X11_needSource T o a0 = some (0, r1, T1)) : kCv l yX11_needSource (Cond.code yX11_needSource cX11_needSource 2 none :: wsA) 7 102 cI cJ cZ cMic cSrc cSt cAI cAJ D ad T [.ref (ad o), .int a0] (fun T9 => T9 = T1) := by
  intro sz
  refine Met.ofW (cc := cX11_needSource) (maxL := 2) (ret := none) (by decide) rfl ?_
  intro p e s m args below meth c s₁ B hml hv
  obtain ⟨rfl, hsz, hP, hK, hD0, hX, hN⟩ := hv
  have hx := B.exec
  have hb := B.bytes
  have hr := B.returns
  have hts := atoms_spec (ws := (Cond.code yX11_needSource cX11_needSource 2 none :: wsA)) B.pre
  have hown : s.vm.findClass RX11 = some m.cls := findClass_of_methodNamed B.named
  have hlocks := B.notSynchronized
  subst hsz
  have hD := hD0.self (sz := s.heap.size)
  generalize hAe : va_A (cW ad T.1 (cc cI cJ cZ cMic cSrc cSt cAI cAJ ad T)) s.heap.size = A at hD hX ⊢
  have hA : ∀ q : Nat, s.heap.size ≤ q → A q := fun q h => by rw [← hAe]; exact Or.inr h
  have G : gC cI cJ cZ cMic cSrc cSt cAI cAJ D ad A s.heap s.heap [] T := ⟨hP, hD, va_S.rf⟩
  have E : cE p c cX11_needSource s m ([.ref (ad o), .int a0] : List Value).toArray (Cond.code yX11_needSource cX11_needSource 2 none :: wsA) D RX11 (CT cI cJ cZ cMic cSrc cSt cAI cAJ) := ⟨hx, hb, hts, hown, hK⟩
  have hl := lv_entry ([.ref (ad o), .int a0]) (n := 2) (Nat.le_of_ble_eq_true rfl)
  rw [lg_entry_eq]
  generalize (lg_sl ([.ref (ad o), .int a0]) ++ List.replicate (2 - (lg_sl ([.ref (ad o), .int a0])).length) Slot.unset).toArray = ls at hl ⊢
  have hl : lv_has ls 2 [(0, .ref (ad o)), (1, .int a0)] := hl
  unfold g_X11_needSource at h
  refine lv_iload_n hx hb dX11_needSource_0 rfl (lv_at hl 1 rfl) ?_
  refine lv_aload_n hx hb dX11_needSource_1 rfl (lv_at hl 0 rfl) ?_
  obtain ⟨g2, h⟩ := oif_some h
  obtain ⟨n3, en3, h⟩ := obind_some h
  refine c_get E G o 14 (v := .ref (ad n3)) (oO_k g2).1 (cc_o11 (oO_k g2).2) rfl (fun w h => .tail _ (iA_23 h)) (by decide) (.tail _ qA_675) rfl (by rw [en3]; rfl) dX11_needSource_2 ?_
  clear en3
  obtain ⟨g4, h⟩ := oif_some h
  refine c_get E G n3 8 (oO_k g4).1 (cc_o6 (oO_k g4).2) rfl (fun w h => .tail _ (iA_14 h)) (by decide) (.tail _ qA_759) rfl rfl dX11_needSource_5 ?_
  refine lv_topi (fun v5 ev5 => ?_)
  have h := elet_at ev5 h
  clear ev5
  obtain ⟨r8, T6, eT6, h⟩ := othr_n h
  refine q_csv (As := [.int a0, .int v5]) (rest := []) E G hA hX hN hml (u_X11_needIndex l hst D cI cJ cZ cMic cSrc cSt cAI cAJ ad T a0 v5 eT6) (cwS 2 hts (gaS qA_738 qA_739 qA_131 qA_740) rfl rfl rfl (by decide +kernel) ⟨Nat.le_of_ble_eq_true rfl, Nat.le_of_ble_eq_true rfl⟩) rfl hl.1 rfl (lv_room (Nat.le_of_ble_eq_true rfl)) dX11_needSource_8 ⟨Nat.zero_le _, Nat.zero_le _⟩ (fun T7 H locs hq G => ?_)
  rw [hq] at G
  clear hq eT6
  exact W.vret hx hb hr (fun t ht hW => ⟨⟨T6, rfl, (osome3 h).2.2, ⟨by rw [ht]; exact G.1, va_K.moved hW.alike hK, G.2.1⟩⟩, G.2.2.F ht⟩) G.2.2.2.2 dX11_needSource_11
set_option maxHeartbeats 4000000 in
set_option maxRecDepth 100000 in
theorem s_X11_needSource {T : AT} {o : Nat} {a0 : Int32} {e1 : Nat} {r1 : Int32} {T1 : AT} (h : g_X11_needSource T o a0 = some (e1, r1, T1)) : SP T T1 := by
  have p0 := SP.rf T
  unfold g_X11_needSource at h
  obtain ⟨g2, h⟩ := oif_some h
  obtain ⟨n3, en3, h⟩ := obind_some h
  obtain ⟨g4, h⟩ := oif_some h
  obtain ⟨v5, -, h⟩ := elet_some h
  rcases othr_s h with ⟨k9, r9, e9, -⟩ | ⟨r7, T6, eT6, h⟩
  · exact SP.tr p0 (s_X11_needIndex e9)
  have p1 : SP T T6 := SP.tr p0 (s_X11_needIndex eT6)
  rw [← (osome3 h).2.2]
  exact p1
set_option maxHeartbeats 4000000 in
set_option maxRecDepth 100000 in
theorem x_X11_needSource (l : Launch) (hst : l.stackTraces = false) (D : va_G) (cI cJ cZ cMic cSrc cSt cAI cAJ : ClassId) (ad : Nat → Nat) (T : AT) (o : Nat) (a0 : Int32) {e1 : Nat} {r1 : Int32} {T1 : AT} (h : g_X11_needSource T o a0 = some (e1 + 1, r1, T1)) : kXv l yX11_needSource (Cond.code yX11_needSource cX11_needSource 2 none :: wsA) 7 102 cI cJ cZ cMic cSrc cSt cAI cAJ D ad T [.ref (ad o), .int a0] e1 T1 := by
  intro sz
  refine vx_ofW (cc := cX11_needSource) (maxL := 2) (ret := none) (by decide) rfl ?_
  intro p e s m args below meth c s₁ B hml htab hv
  obtain ⟨rfl, hsz, hP, hK, hD0, hX, hN⟩ := hv
  have hx := B.exec
  have hb := B.bytes
  have hr := B.returns
  have hts := atoms_spec (ws := (Cond.code yX11_needSource cX11_needSource 2 none :: wsA)) B.pre
  have hown : s.vm.findClass RX11 = some m.cls := findClass_of_methodNamed B.named
  have hlocks := B.notSynchronized
  subst hsz
  have hD := hD0.self (sz := s.heap.size)
  generalize hAe : va_A (cW ad T.1 (cc cI cJ cZ cMic cSrc cSt cAI cAJ ad T)) s.heap.size = A at hD hX ⊢
  have hA : ∀ q : Nat, s.heap.size ≤ q → A q := fun q h => by rw [← hAe]; exact Or.inr h
  have G : gC cI cJ cZ cMic cSrc cSt cAI cAJ D ad A s.heap s.heap [] T := ⟨hP, hD, va_S.rf⟩
  have E : cE p c cX11_needSource s m ([.ref (ad o), .int a0] : List Value).toArray (Cond.code yX11_needSource cX11_needSource 2 none :: wsA) D RX11 (CT cI cJ cZ cMic cSrc cSt cAI cAJ) := ⟨hx, hb, hts, hown, hK⟩
  have htab : ∀ x ∈ c.exceptionTable.toList, False := fun x hx => htab x hx
  have hl := lv_entry ([.ref (ad o), .int a0]) (n := 2) (Nat.le_of_ble_eq_true rfl)
  rw [lg_entry_eq]
  generalize (lg_sl ([.ref (ad o), .int a0]) ++ List.replicate (2 - (lg_sl ([.ref (ad o), .int a0])).length) Slot.unset).toArray = ls at hl ⊢
  have hl : lv_has ls 2 [(0, .ref (ad o)), (1, .int a0)] := hl
  unfold g_X11_needSource at h
  refine lv_iload_n hx hb dX11_needSource_0 rfl (lv_at hl 1 rfl) ?_
  refine lv_aload_n hx hb dX11_needSource_1 rfl (lv_at hl 0 rfl) ?_
  obtain ⟨g2, h⟩ := oif_some h
  obtain ⟨n3, en3, h⟩ := obind_some h
  refine c_get E G o 14 (v := .ref (ad n3)) (oO_k g2).1 (cc_o11 (oO_k g2).2) rfl (fun w h => .tail _ (iA_23 h)) (by decide) (.tail _ qA_675) rfl (by rw [en3]; rfl) dX11_needSource_2 ?_
  clear en3
  obtain ⟨g4, h⟩ := oif_some h
  refine c_get E G n3 8 (oO_k g4).1 (cc_o6 (oO_k g4).2) rfl (fun w h => .tail _ (iA_14 h)) (by decide) (.tail _ qA_759) rfl rfl dX11_needSource_5 ?_
  refine lv_topi (fun v5 ev5 => ?_)
  have h := elet_at ev5 h
  clear ev5
  rcases othr_t h with ⟨r0, eT6⟩ | ⟨r8, T6, eT6, h⟩
  · refine q_xsv (As := [.int a0, .int v5]) (rest := []) E G hA hX hN hml (x_X11_needIndex l hst D cI cJ cZ cMic cSrc cSt cAI cAJ ad T a0 v5 eT6) (cwS 2 hts (gaS qA_738 qA_739 qA_131 qA_740) rfl rfl rfl (by decide +kernel) ⟨Nat.le_of_ble_eq_true rfl, Nat.le_of_ble_eq_true rfl⟩) rfl hl.1 rfl (lv_room (Nat.le_of_ble_eq_true rfl)) dX11_needSource_8 ⟨Nat.le_of_ble_eq_true rfl, Nat.le_of_ble_eq_true rfl⟩ (fun E9 ce q9 T9 H locs hp G hce hcv hcl => ?_)
    obtain ⟨hE, hT⟩ := hp
    subst hE
    rw [hT] at G
    exact vx_out (fun x hx => (htab x hx).elim) hlocks hce hcv hcl (fun t ht hvm => ⟨T1, trivial, ⟨⟨rfl, rfl⟩, by rw [ht]; exact G.1, va_K.moved hvm hK, G.2.1⟩, G.2.2.F ht⟩) G.2.2.2.2 (Nat.le_refl _) (Nat.le_refl _)
  refine q_csv (As := [.int a0, .int v5]) (rest := []) E G hA hX hN hml (u_X11_needIndex l hst D cI cJ cZ cMic cSrc cSt cAI cAJ ad T a0 v5 eT6) (cwS 2 hts (gaS qA_738 qA_739 qA_131 qA_740) rfl rfl rfl (by decide +kernel) ⟨Nat.le_of_ble_eq_true rfl, Nat.le_of_ble_eq_true rfl⟩) rfl hl.1 rfl (lv_room (Nat.le_of_ble_eq_true rfl)) dX11_needSource_8 ⟨Nat.zero_le _, Nat.zero_le _⟩ (fun T7 H locs hq G => ?_)
  rw [hq] at G
  clear hq eT6
  exact (Nat.succ_ne_zero _ (congrArg Prod.fst (Option.some.inj h)).symm).elim
def g_X11_sourceAt_b80  (T : AT) (s0 : Int32) : Option (Nat × Int32 × AT) := some (0, s0, T)
set_option maxHeartbeats 4000000 in
set_option maxRecDepth 100000 in
theorem u_X11_sourceAt_b80 {p : Program} {l : Launch} {e : Env} {s : State} {m : MethodId} {args : Array Value} {below : List Frame} {meth : Method} {c : Code} {Q : State → Prop} {D : va_G} {A : Nat → Prop} {cI cJ cZ cMic cSrc cSt cAI cAJ : ClassId} {ad : Nat → Nat} {r1 : Int32} {T1 : AT} (E : cE p c cX11_sourceAt s m args (Cond.code yX11_sourceAt cX11_sourceAt 4 (some .int) :: wsA) D RX11 (CT cI cJ cZ cMic cSrc cSt cAI cAJ)) (hA : ∀ q : Nat, s.heap.size ≤ q → A q) (hX : xT A s) (hN : nX s) (hml : c.maxLocals = 4) (hst : l.stackTraces = false) (kr80 : ∀ (H : Heap) (locs : List Loc) (ls : Array Slot), gC cI cJ cZ cMic cSrc cSt cAI cAJ D ad A s.heap H locs T1 → W p l e { frames := 8, cells := 0, slots := 0, locals := 123 } s m args below meth c H locs 0 0 Q (F0 m 80 ls [.int r1])) : ∀ (T : AT) (H : Heap) (locs : List Loc) (ls : Array Slot) (s0 : Int32), g_X11_sourceAt_b80 T s0 = some (0, r1, T1) → gC cI cJ cZ cMic cSrc cSt cAI cAJ D ad A s.heap H locs T → lv_has ls 4 [] → W p l e { frames := 8, cells := 0, slots := 0, locals := 123 } s m args below meth c H locs 0 0 Q (F0 m 80 ls [.int s0]) := by
  have hx := E.1
  have hb := E.2.1
  have hts := E.2.2.1
  have hown := E.2.2.2.1
  have hK := E.2.2.2.2
  intro T H locs ls s0 h G hl
  unfold g_X11_sourceAt_b80 at h
  rw [(osome3 h).2.2] at G
  refine lv_to (osome3 h).2.1 ?_
  exact kr80 _ _ _ G
def g_X11_sourceAt (T : AT) (o : Nat) (a0 : Int32) (a1 : Int32) (a2 : Int32) : Option (Nat × Int32 × AT) := oif (oO T o 11 = true) <| othr (g_X11_needCamera T o) 0 fun r5 T3 => oif (oO T3 o 11 = true) <| othr (g_X11_needSource T3 o a0) 0 fun r10 T8 => othr (g_X11_needRange T8 a1 (0 : Int32) (1 : Int32)) 0 fun r14 T12 => oif (oO T12 o 11 = true) <| obind (T12.2.2.2.2 o 14) fun n17 => oif (oO T12 n17 6 = true) <| elet (T12.2.2.1 n17 2) fun v19 => elet (v19 - 1) fun v20 => othr (g_X11_needRange T12 a2 (0 : Int32) v20) 0 fun r23 T21 => if a1 = 0 then (oif (oO T21 o 11 = true) <| obind (T21.2.2.2.2 o 6) fun n27 => oif (oO T21 n27 8 = true) <| obind (T21.2.2.2.2 n27 6) fun n29 => oif (aA T21 n29 100 = true) <| oif (inb a0 (T21.2.1 n29).2 = true) <| elet (T21.2.2.1 n29 a0.toNatClampNeg) fun v32 => oif (oO T21 o 11 = true) <| obind (T21.2.2.2.2 o 6) fun n34 => oif (oO T21 n34 8 = true) <| obind (T21.2.2.2.2 n34 8) fun n36 => oif (aA T21 n36 100 = true) <| oif (inb a0 (T21.2.1 n36).2 = true) <| elet (T21.2.2.1 n36 a0.toNatClampNeg) fun v39 => obind (g_X11_moved v32 v39 a2) fun r40 => g_X11_sourceAt_b80 T21 r40) else (oif (oO T21 o 11 = true) <| obind (T21.2.2.2.2 o 6) fun n43 => oif (oO T21 n43 8 = true) <| obind (T21.2.2.2.2 n43 7) fun n45 => oif (aA T21 n45 100 = true) <| oif (inb a0 (T21.2.1 n45).2 = true) <| elet (T21.2.2.1 n45 a0.toNatClampNeg) fun v48 => oif (oO T21 o 11 = true) <| obind (T21.2.2.2.2 o 6) fun n50 => oif (oO T21 n50 8 = true) <| obind (T21.2.2.2.2 n50 9) fun n52 => oif (aA T21 n52 100 = true) <| oif (inb a0 (T21.2.1 n52).2 = true) <| elet (T21.2.2.1 n52 a0.toNatClampNeg) fun v55 => obind (g_X11_moved v48 v55 a2) fun r56 => g_X11_sourceAt_b80 T21 r56)
set_option maxHeartbeats 4000000 in
set_option maxRecDepth 100000 in
theorem u_X11_sourceAt (l : Launch) (hst : l.stackTraces = false) (D : va_G) (cI cJ cZ cMic cSrc cSt cAI cAJ : ClassId) (ad : Nat → Nat) (T : AT) (o : Nat) (a0 : Int32) (a1 : Int32) (a2 : Int32) {r1 : Int32} {T1 : AT} (h : g_X11_sourceAt T o a0 a1 a2 = some (0, r1, T1)) : kCi l yX11_sourceAt (Cond.code yX11_sourceAt cX11_sourceAt 4 (some .int) :: wsA) 8 123 cI cJ cZ cMic cSrc cSt cAI cAJ D ad T [.ref (ad o), .int a0, .int a1, .int a2] (fun r T9 => r = r1 ∧ T9 = T1) := by
  intro sz
  refine Met.ofW (cc := cX11_sourceAt) (maxL := 4) (ret := (some .int)) (by decide) rfl ?_
  intro p e s m args below meth c s₁ B hml hv
  obtain ⟨rfl, hsz, hP, hK, hD0, hX, hN⟩ := hv
  have hx := B.exec
  have hb := B.bytes
  have hr := B.returns
  have hts := atoms_spec (ws := (Cond.code yX11_sourceAt cX11_sourceAt 4 (some .int) :: wsA)) B.pre
  have hown : s.vm.findClass RX11 = some m.cls := findClass_of_methodNamed B.named
  have hlocks := B.notSynchronized
  subst hsz
  have hD := hD0.self (sz := s.heap.size)
  generalize hAe : va_A (cW ad T.1 (cc cI cJ cZ cMic cSrc cSt cAI cAJ ad T)) s.heap.size = A at hD hX ⊢
  have hA : ∀ q : Nat, s.heap.size ≤ q → A q := fun q h => by rw [← hAe]; exact Or.inr h
  have G : gC cI cJ cZ cMic cSrc cSt cAI cAJ D ad A s.heap s.heap [] T := ⟨hP, hD, va_S.rf⟩
  have E : cE p c cX11_sourceAt s m ([.ref (ad o), .int a0, .int a1, .int a2] : List Value).toArray (Cond.code yX11_sourceAt cX11_sourceAt 4 (some .int) :: wsA) D RX11 (CT cI cJ cZ cMic cSrc cSt cAI cAJ) := ⟨hx, hb, hts, hown, hK⟩
  have hl := lv_entry ([.ref (ad o), .int a0, .int a1, .int a2]) (n := 4) (Nat.le_of_ble_eq_true rfl)
  rw [lg_entry_eq]
  generalize (lg_sl ([.ref (ad o), .int a0, .int a1, .int a2]) ++ List.replicate (4 - (lg_sl ([.ref (ad o), .int a0, .int a1, .int a2])).length) Slot.unset).toArray = ls at hl ⊢
  have hl : lv_has ls 4 [(0, .ref (ad o)), (1, .int a0), (2, .int a1), (3, .int a2)] := hl
  unfold g_X11_sourceAt at h
  refine lv_aload_n hx hb dX11_sourceAt_0 rfl (lv_at hl 0 rfl) ?_
  obtain ⟨g2, h⟩ := oif_some h
  obtain ⟨r5, T3, eT3, h⟩ := othr_n h
  refine q_cvv (As := []) (rest := []) E G hA hX hN hml (u_X11_needCamera l hst D cI cJ cZ cMic cSrc cSt cAI cAJ ad T o eT3) (cwV 0 hts (gaV qA_728 qA_729 qA_730 qA_131 qA_731) rfl rfl rfl (by decide +kernel) ⟨Nat.le_of_ble_eq_true rfl, Nat.le_of_ble_eq_true rfl⟩) (oO_k g2).1 (cc_o11 (oO_k g2).2) rfl rfl hl.1 rfl (lv_room (Nat.le_of_ble_eq_true rfl)) dX11_sourceAt_1 ⟨Nat.zero_le _, Nat.zero_le _⟩ (fun T4 H locs hq G => ?_)
  rw [hq] at G
  clear hq eT3
  refine lv_aload_n hx hb dX11_sourceAt_4 rfl (lv_at hl 0 rfl) ?_
  refine lv_iload_n hx hb dX11_sourceAt_5 rfl (lv_at hl 1 rfl) ?_
  obtain ⟨g7, h⟩ := oif_some h
  obtain ⟨r10, T8, eT8, h⟩ := othr_n h
  refine q_cvv (As := [.int a0]) (rest := []) E G hA hX hN hml (u_X11_needSource l hst D cI cJ cZ cMic cSrc cSt cAI cAJ ad T3 o a0 eT8) (cwV 1 hts (gaV qA_766 qA_767 qA_768 qA_131 qA_769) rfl rfl rfl (by decide +kernel) ⟨Nat.le_of_ble_eq_true rfl, Nat.le_of_ble_eq_true rfl⟩) (oO_k g7).1 (cc_o11 (oO_k g7).2) rfl rfl hl.1 rfl (lv_room (Nat.le_of_ble_eq_true rfl)) dX11_sourceAt_6 ⟨Nat.zero_le _, Nat.zero_le _⟩ (fun T9 H locs hq G => ?_)
  rw [hq] at G
  clear hq eT8
  refine lv_iload_n hx hb dX11_sourceAt_9 rfl (lv_at hl 2 rfl) ?_
  refine lv_iconst (v := 0) hx hb dX11_sourceAt_10 (by decide) ?_
  refine lv_iconst (v := 1) hx hb dX11_sourceAt_11 (by decide) ?_
  obtain ⟨r14, T12, eT12, h⟩ := othr_n h
  refine q_csv (As := [.int a1, .int 0, .int 1]) (rest := []) E G hA hX hN hml (u_X11_needRange l hst D cI cJ cZ cMic cSrc cSt cAI cAJ ad T8 a1 (0 : Int32) (1 : Int32) eT12) (cwS 3 hts (gaS qA_741 qA_742 qA_131 qA_743) rfl rfl rfl (by decide +kernel) ⟨Nat.le_of_ble_eq_true rfl, Nat.le_of_ble_eq_true rfl⟩) rfl hl.1 rfl (lv_room (Nat.le_of_ble_eq_true rfl)) dX11_sourceAt_12 ⟨Nat.zero_le _, Nat.zero_le _⟩ (fun T13 H locs hq G => ?_)
  rw [hq] at G
  clear hq eT12
  refine lv_iload_n hx hb dX11_sourceAt_15 rfl (lv_at hl 3 rfl) ?_
  refine lv_iconst (v := 0) hx hb dX11_sourceAt_16 (by decide) ?_
  refine lv_aload_n hx hb dX11_sourceAt_17 rfl (lv_at hl 0 rfl) ?_
  obtain ⟨g16, h⟩ := oif_some h
  obtain ⟨n17, en17, h⟩ := obind_some h
  refine c_get E G o 14 (v := .ref (ad n17)) (oO_k g16).1 (cc_o11 (oO_k g16).2) rfl (fun w h => .tail _ (iA_23 h)) (by decide) (.tail _ qA_675) rfl (by rw [en17]; rfl) dX11_sourceAt_18 ?_
  clear en17
  obtain ⟨g18, h⟩ := oif_some h
  refine c_get E G n17 2 (oO_k g18).1 (cc_o6 (oO_k g18).2) rfl (fun w h => .tail _ (iA_14 h)) (by decide) (.tail _ qA_761) rfl rfl dX11_sourceAt_21 ?_
  refine lv_topi (fun v19 ev19 => ?_)
  have h := elet_at ev19 h
  clear ev19
  refine lv_iconst (v := 1) hx hb dX11_sourceAt_24 (by decide) ?_
  refine lv_isub hx hb dX11_sourceAt_25 ?_
  refine lv_topi (fun v20 ev20 => ?_)
  have h := elet_at ev20 h
  clear ev20
  obtain ⟨r23, T21, eT21, h⟩ := othr_n h
  refine q_csv (As := [.int a2, .int 0, .int v20]) (rest := []) E G hA hX hN hml (u_X11_needRange l hst D cI cJ cZ cMic cSrc cSt cAI cAJ ad T12 a2 (0 : Int32) v20 eT21) (cwS 3 hts (gaS qA_741 qA_742 qA_131 qA_743) rfl rfl rfl (by decide +kernel) ⟨Nat.le_of_ble_eq_true rfl, Nat.le_of_ble_eq_true rfl⟩) rfl hl.1 rfl (lv_room (Nat.le_of_ble_eq_true rfl)) dX11_sourceAt_26 ⟨Nat.zero_le _, Nat.zero_le _⟩ (fun T22 H locs hq G => ?_)
  rw [hq] at G
  clear hq eT21
  refine lv_iload_n hx hb dX11_sourceAt_29 rfl (lv_at hl 2 rfl) ?_
  refine lv_if_ne (tgt := 58) hx hb dX11_sourceAt_30 (by decide) (fun c25 => ?_) (fun c25 => ?_)
  · have h := oif_neg c25 h
    refine lv_aload_n hx hb dX11_sourceAt_58 rfl (lv_at hl 0 rfl) ?_
    obtain ⟨g42, h⟩ := oif_some h
    obtain ⟨n43, en43, h⟩ := obind_some h
    refine c_get E G o 6 (v := .ref (ad n43)) (oO_k g42).1 (cc_o11 (oO_k g42).2) rfl (fun w h => .tail _ (iA_23 h)) (by decide) (.tail _ qA_664) rfl (by rw [en43]; rfl) dX11_sourceAt_59 ?_
    clear en43
    obtain ⟨g44, h⟩ := oif_some h
    obtain ⟨n45, en45, h⟩ := obind_some h
    refine c_get E G n43 7 (v := .ref (ad n45)) (oO_k g44).1 (cc_o8 (oO_k g44).2) rfl (fun w h => .tail _ (iA_16 h)) (by decide) (.tail _ qA_764) rfl (by rw [en45]; rfl) dX11_sourceAt_62 ?_
    clear en45
    refine lv_iload_n hx hb dX11_sourceAt_65 rfl (lv_at hl 1 rfl) ?_
    obtain ⟨g46, h⟩ := oif_some h
    obtain ⟨g47, h⟩ := oif_some h
    refine c_iald E G n45 0 (k := a0.toNatClampNeg) (aA_k g46).1 (cc_a100 (aA_k g46).2.1) rfl (inb_k g47).1 (inb_k g47).2 (aA_k g46).2.2 dX11_sourceAt_66 ?_
    refine lv_topi (fun v48 ev48 => ?_)
    have h := elet_at ev48 h
    clear ev48
    refine lv_aload_n hx hb dX11_sourceAt_67 rfl (lv_at hl 0 rfl) ?_
    obtain ⟨g49, h⟩ := oif_some h
    obtain ⟨n50, en50, h⟩ := obind_some h
    refine c_get E G o 6 (v := .ref (ad n50)) (oO_k g49).1 (cc_o11 (oO_k g49).2) rfl (fun w h => .tail _ (iA_23 h)) (by decide) (.tail _ qA_664) rfl (by rw [en50]; rfl) dX11_sourceAt_68 ?_
    clear en50
    obtain ⟨g51, h⟩ := oif_some h
    obtain ⟨n52, en52, h⟩ := obind_some h
    refine c_get E G n50 9 (v := .ref (ad n52)) (oO_k g51).1 (cc_o8 (oO_k g51).2) rfl (fun w h => .tail _ (iA_16 h)) (by decide) (.tail _ qA_765) rfl (by rw [en52]; rfl) dX11_sourceAt_71 ?_
    clear en52
    refine lv_iload_n hx hb dX11_sourceAt_74 rfl (lv_at hl 1 rfl) ?_
    obtain ⟨g53, h⟩ := oif_some h
    obtain ⟨g54, h⟩ := oif_some h
    refine c_iald E G n52 0 (k := a0.toNatClampNeg) (aA_k g53).1 (cc_a100 (aA_k g53).2.1) rfl (inb_k g54).1 (inb_k g54).2 (aA_k g53).2.2 dX11_sourceAt_75 ?_
    refine lv_topi (fun v55 ev55 => ?_)
    have h := elet_at ev55 h
    clear ev55
    refine lv_iload_n hx hb dX11_sourceAt_76 rfl (lv_at hl 3 rfl) ?_
    obtain ⟨r56, er56, h⟩ := obind_some h
    refine q_sti (As := [.int v48, .int v55, .int a2]) (rest := []) ⟨hx, hb, hml, hown, hts⟩ hN (u_X11_moved l v48 v55 a2 er56) (cwS 3 hts (gaS qA_770 qA_481 qA_131 qA_482) rfl rfl rfl (by decide +kernel) ⟨Nat.le_of_ble_eq_true rfl, Nat.le_of_ble_eq_true rfl⟩) rfl hl.1 rfl (lv_room (Nat.le_of_ble_eq_true rfl)) dX11_sourceAt_77 ⟨Nat.zero_le _, Nat.zero_le _⟩ (fun q57 hq => ?_)
    refine lv_to hq ?_
    clear hq er56
    have hl := lv_sub hl [] rfl
    exact u_X11_sourceAt_b80 E hA hX hN hml hst (fun H locs ls G => W.iret (v := r1) hx hb hr (fun t ht hW => ⟨⟨r1, T1, rfl, ⟨rfl, rfl⟩, ⟨by rw [ht]; exact G.1, va_K.moved hW.alike hK, G.2.1⟩⟩, G.2.2.F ht⟩) G.2.2.2.2 dX11_sourceAt_80) _ _ _ _ _ h G hl
  · have h := oif_pos c25 h
    refine lv_aload_n hx hb dX11_sourceAt_33 rfl (lv_at hl 0 rfl) ?_
    obtain ⟨g26, h⟩ := oif_some h
    obtain ⟨n27, en27, h⟩ := obind_some h
    refine c_get E G o 6 (v := .ref (ad n27)) (oO_k g26).1 (cc_o11 (oO_k g26).2) rfl (fun w h => .tail _ (iA_23 h)) (by decide) (.tail _ qA_664) rfl (by rw [en27]; rfl) dX11_sourceAt_34 ?_
    clear en27
    obtain ⟨g28, h⟩ := oif_some h
    obtain ⟨n29, en29, h⟩ := obind_some h
    refine c_get E G n27 6 (v := .ref (ad n29)) (oO_k g28).1 (cc_o8 (oO_k g28).2) rfl (fun w h => .tail _ (iA_16 h)) (by decide) (.tail _ qA_762) rfl (by rw [en29]; rfl) dX11_sourceAt_37 ?_
    clear en29
    refine lv_iload_n hx hb dX11_sourceAt_40 rfl (lv_at hl 1 rfl) ?_
    obtain ⟨g30, h⟩ := oif_some h
    obtain ⟨g31, h⟩ := oif_some h
    refine c_iald E G n29 0 (k := a0.toNatClampNeg) (aA_k g30).1 (cc_a100 (aA_k g30).2.1) rfl (inb_k g31).1 (inb_k g31).2 (aA_k g30).2.2 dX11_sourceAt_41 ?_
    refine lv_topi (fun v32 ev32 => ?_)
    have h := elet_at ev32 h
    clear ev32
    refine lv_aload_n hx hb dX11_sourceAt_42 rfl (lv_at hl 0 rfl) ?_
    obtain ⟨g33, h⟩ := oif_some h
    obtain ⟨n34, en34, h⟩ := obind_some h
    refine c_get E G o 6 (v := .ref (ad n34)) (oO_k g33).1 (cc_o11 (oO_k g33).2) rfl (fun w h => .tail _ (iA_23 h)) (by decide) (.tail _ qA_664) rfl (by rw [en34]; rfl) dX11_sourceAt_43 ?_
    clear en34
    obtain ⟨g35, h⟩ := oif_some h
    obtain ⟨n36, en36, h⟩ := obind_some h
    refine c_get E G n34 8 (v := .ref (ad n36)) (oO_k g35).1 (cc_o8 (oO_k g35).2) rfl (fun w h => .tail _ (iA_16 h)) (by decide) (.tail _ qA_763) rfl (by rw [en36]; rfl) dX11_sourceAt_46 ?_
    clear en36
    refine lv_iload_n hx hb dX11_sourceAt_49 rfl (lv_at hl 1 rfl) ?_
    obtain ⟨g37, h⟩ := oif_some h
    obtain ⟨g38, h⟩ := oif_some h
    refine c_iald E G n36 0 (k := a0.toNatClampNeg) (aA_k g37).1 (cc_a100 (aA_k g37).2.1) rfl (inb_k g38).1 (inb_k g38).2 (aA_k g37).2.2 dX11_sourceAt_50 ?_
    refine lv_topi (fun v39 ev39 => ?_)
    have h := elet_at ev39 h
    clear ev39
    refine lv_iload_n hx hb dX11_sourceAt_51 rfl (lv_at hl 3 rfl) ?_
    obtain ⟨r40, er40, h⟩ := obind_some h
    refine q_sti (As := [.int v32, .int v39, .int a2]) (rest := []) ⟨hx, hb, hml, hown, hts⟩ hN (u_X11_moved l v32 v39 a2 er40) (cwS 3 hts (gaS qA_770 qA_481 qA_131 qA_482) rfl rfl rfl (by decide +kernel) ⟨Nat.le_of_ble_eq_true rfl, Nat.le_of_ble_eq_true rfl⟩) rfl hl.1 rfl (lv_room (Nat.le_of_ble_eq_true rfl)) dX11_sourceAt_52 ⟨Nat.zero_le _, Nat.zero_le _⟩ (fun q41 hq => ?_)
    refine lv_to hq ?_
    clear hq er40
    refine lv_goto (tgt := 80) hx hb dX11_sourceAt_55 (by decide) ?_
    have hl := lv_sub hl [] rfl
    exact u_X11_sourceAt_b80 E hA hX hN hml hst (fun H locs ls G => W.iret (v := r1) hx hb hr (fun t ht hW => ⟨⟨r1, T1, rfl, ⟨rfl, rfl⟩, ⟨by rw [ht]; exact G.1, va_K.moved hW.alike hK, G.2.1⟩⟩, G.2.2.F ht⟩) G.2.2.2.2 dX11_sourceAt_80) _ _ _ _ _ h G hl
set_option maxHeartbeats 4000000 in
set_option maxRecDepth 100000 in
theorem s_X11_sourceAt_b80 {e1 : Nat} {r1 : Int32} {T1 : AT} : ∀ (T : AT) (s0 : Int32), g_X11_sourceAt_b80 T s0 = some (e1, r1, T1) → SP T T1 := by
  intro T s0 h
  have p0 := SP.rf T
  unfold g_X11_sourceAt_b80 at h
  rw [← (osome3 h).2.2]
  exact p0
set_option maxHeartbeats 4000000 in
set_option maxRecDepth 100000 in
theorem s_X11_sourceAt {T : AT} {o : Nat} {a0 : Int32} {a1 : Int32} {a2 : Int32} {e1 : Nat} {r1 : Int32} {T1 : AT} (h : g_X11_sourceAt T o a0 a1 a2 = some (e1, r1, T1)) : SP T T1 := by
  have p0 := SP.rf T
  unfold g_X11_sourceAt at h
  obtain ⟨g2, h⟩ := oif_some h
  rcases othr_s h with ⟨k9, r9, e9, -⟩ | ⟨r4, T3, eT3, h⟩
  · exact SP.tr p0 (s_X11_needCamera e9)
  have p1 : SP T T3 := SP.tr p0 (s_X11_needCamera eT3)
  obtain ⟨g5, h⟩ := oif_some h
  rcases othr_s h with ⟨k9, r9, e9, -⟩ | ⟨r7, T6, eT6, h⟩
  · exact SP.tr p1 (s_X11_needSource e9)
  have p2 : SP T T6 := SP.tr p1 (s_X11_needSource eT6)
  rcases othr_s h with ⟨k9, r9, e9, -⟩ | ⟨r9, T8, eT8, h⟩
  · exact SP.tr p2 (s_X11_needRange e9)
  have p3 : SP T T8 := SP.tr p2 (s_X11_needRange eT8)
  obtain ⟨g10, h⟩ := oif_some h
  obtain ⟨n11, en11, h⟩ := obind_some h
  obtain ⟨g12, h⟩ := oif_some h
  obtain ⟨v13, -, h⟩ := elet_some h
  obtain ⟨v14, -, h⟩ := elet_some h
  rcases othr_s h with ⟨k9, r9, e9, -⟩ | ⟨r16, T15, eT15, h⟩
  · exact SP.tr p3 (s_X11_needRange e9)
  have p4 : SP T T15 := SP.tr p3 (s_X11_needRange eT15)
  rcases oif_or h with ⟨c17, h⟩ | ⟨c17, h⟩
  · have h := h
    obtain ⟨g18, h⟩ := oif_some h
    obtain ⟨n19, en19, h⟩ := obind_some h
    obtain ⟨g20, h⟩ := oif_some h
    obtain ⟨n21, en21, h⟩ := obind_some h
    obtain ⟨g22, h⟩ := oif_some h
    obtain ⟨g23, h⟩ := oif_some h
    obtain ⟨v24, -, h⟩ := elet_some h
    obtain ⟨g25, h⟩ := oif_some h
    obtain ⟨n26, en26, h⟩ := obind_some h
    obtain ⟨g27, h⟩ := oif_some h
    obtain ⟨n28, en28, h⟩ := obind_some h
    obtain ⟨g29, h⟩ := oif_some h
    obtain ⟨g30, h⟩ := oif_some h
    obtain ⟨v31, -, h⟩ := elet_some h
    obtain ⟨r32, -, h⟩ := obind_some h
    exact SP.tr p4 (s_X11_sourceAt_b80 _ _ h)
  · have h := h
    obtain ⟨g33, h⟩ := oif_some h
    obtain ⟨n34, en34, h⟩ := obind_some h
    obtain ⟨g35, h⟩ := oif_some h
    obtain ⟨n36, en36, h⟩ := obind_some h
    obtain ⟨g37, h⟩ := oif_some h
    obtain ⟨g38, h⟩ := oif_some h
    obtain ⟨v39, -, h⟩ := elet_some h
    obtain ⟨g40, h⟩ := oif_some h
    obtain ⟨n41, en41, h⟩ := obind_some h
    obtain ⟨g42, h⟩ := oif_some h
    obtain ⟨n43, en43, h⟩ := obind_some h
    obtain ⟨g44, h⟩ := oif_some h
    obtain ⟨g45, h⟩ := oif_some h
    obtain ⟨v46, -, h⟩ := elet_some h
    obtain ⟨r47, -, h⟩ := obind_some h
    exact SP.tr p4 (s_X11_sourceAt_b80 _ _ h)
set_option maxHeartbeats 4000000 in
set_option maxRecDepth 100000 in
theorem x_X11_sourceAt_b80 {p : Program} {l : Launch} {e : Env} {s : State} {m : MethodId} {args : Array Value} {below : List Frame} {meth : Method} {c : Code} {Qc : Array Value → State → Outcome → State → Prop} {XC : String → State → State → Prop} {D : va_G} {A : Nat → Prop} {cI cJ cZ cMic cSrc cSt cAI cAJ : ClassId} {ad : Nat → Nat} {e1 : Nat} {r1 : Int32} {T1 : AT} (E : cE p c cX11_sourceAt s m args (Cond.code yX11_sourceAt cX11_sourceAt 4 (some .int) :: wsA) D RX11 (CT cI cJ cZ cMic cSrc cSt cAI cAJ)) (hA : ∀ q : Nat, s.heap.size ≤ q → A q) (hX : xT A s) (hN : nX s) (hml : c.maxLocals = 4) (hz9 : True) (hst : l.stackTraces = false) (htab : ∀ x ∈ c.exceptionTable.toList, False) (hlocks : meth.locks = false) (kx : ∀ (H : Heap) (locs : List Loc) (t : State), gC cI cJ cZ cMic cSrc cSt cAI cAJ D ad A s.heap H locs T1 → s.vm.Alike t.vm → H.size ≤ t.heap.size → (∀ q, q < H.size → t.heap[q]? = H[q]?) → XC (exn e1) s t) : ∀ (T : AT) (H : Heap) (locs : List Loc) (ls : Array Slot) (s0 : Int32), g_X11_sourceAt_b80 T s0 = some (e1 + 1, r1, T1) → gC cI cJ cZ cMic cSrc cSt cAI cAJ D ad A s.heap H locs T → lv_has ls 4 [] → W p l e { frames := 8, cells := 1, slots := 6, locals := 123 } s m args below meth c H locs 0 0 (vx_MQ below Qc XC args s 1 6 A) (F0 m 80 ls [.int s0]) := by
  have hx := E.1
  have hb := E.2.1
  have hts := E.2.2.1
  have hown := E.2.2.2.1
  have hK := E.2.2.2.2
  intro T H locs ls s0 h G hl
  unfold g_X11_sourceAt_b80 at h
  exact (Nat.succ_ne_zero _ (congrArg Prod.fst (Option.some.inj h)).symm).elim
set_option maxHeartbeats 4000000 in
set_option maxRecDepth 100000 in
theorem x_X11_sourceAt (l : Launch) (hst : l.stackTraces = false) (D : va_G) (cI cJ cZ cMic cSrc cSt cAI cAJ : ClassId) (ad : Nat → Nat) (T : AT) (o : Nat) (a0 : Int32) (a1 : Int32) (a2 : Int32) {e1 : Nat} {r1 : Int32} {T1 : AT} (h : g_X11_sourceAt T o a0 a1 a2 = some (e1 + 1, r1, T1)) : kXi l yX11_sourceAt (Cond.code yX11_sourceAt cX11_sourceAt 4 (some .int) :: wsA) 8 123 cI cJ cZ cMic cSrc cSt cAI cAJ D ad T [.ref (ad o), .int a0, .int a1, .int a2] e1 T1 := by
  intro sz
  refine vx_ofW (cc := cX11_sourceAt) (maxL := 4) (ret := (some .int)) (by decide) rfl ?_
  intro p e s m args below meth c s₁ B hml htab hv
  obtain ⟨rfl, hsz, hP, hK, hD0, hX, hN⟩ := hv
  have hx := B.exec
  have hb := B.bytes
  have hr := B.returns
  have hts := atoms_spec (ws := (Cond.code yX11_sourceAt cX11_sourceAt 4 (some .int) :: wsA)) B.pre
  have hown : s.vm.findClass RX11 = some m.cls := findClass_of_methodNamed B.named
  have hlocks := B.notSynchronized
  subst hsz
  have hD := hD0.self (sz := s.heap.size)
  generalize hAe : va_A (cW ad T.1 (cc cI cJ cZ cMic cSrc cSt cAI cAJ ad T)) s.heap.size = A at hD hX ⊢
  have hA : ∀ q : Nat, s.heap.size ≤ q → A q := fun q h => by rw [← hAe]; exact Or.inr h
  have G : gC cI cJ cZ cMic cSrc cSt cAI cAJ D ad A s.heap s.heap [] T := ⟨hP, hD, va_S.rf⟩
  have E : cE p c cX11_sourceAt s m ([.ref (ad o), .int a0, .int a1, .int a2] : List Value).toArray (Cond.code yX11_sourceAt cX11_sourceAt 4 (some .int) :: wsA) D RX11 (CT cI cJ cZ cMic cSrc cSt cAI cAJ) := ⟨hx, hb, hts, hown, hK⟩
  have htab : ∀ x ∈ c.exceptionTable.toList, False := fun x hx => htab x hx
  have hl := lv_entry ([.ref (ad o), .int a0, .int a1, .int a2]) (n := 4) (Nat.le_of_ble_eq_true rfl)
  rw [lg_entry_eq]
  generalize (lg_sl ([.ref (ad o), .int a0, .int a1, .int a2]) ++ List.replicate (4 - (lg_sl ([.ref (ad o), .int a0, .int a1, .int a2])).length) Slot.unset).toArray = ls at hl ⊢
  have hl : lv_has ls 4 [(0, .ref (ad o)), (1, .int a0), (2, .int a1), (3, .int a2)] := hl
  unfold g_X11_sourceAt at h
  refine lv_aload_n hx hb dX11_sourceAt_0 rfl (lv_at hl 0 rfl) ?_
  obtain ⟨g2, h⟩ := oif_some h
  rcases othr_t h with ⟨r0, eT3⟩ | ⟨r5, T3, eT3, h⟩
  · refine q_xvv (As := []) (rest := []) E G hA hX hN hml (x_X11_needCamera l hst D cI cJ cZ cMic cSrc cSt cAI cAJ ad T o eT3) (cwV 0 hts (gaV qA_728 qA_729 qA_730 qA_131 qA_731) rfl rfl rfl (by decide +kernel) ⟨Nat.le_of_ble_eq_true rfl, Nat.le_of_ble_eq_true rfl⟩) (oO_k g2).1 (cc_o11 (oO_k g2).2) rfl rfl hl.1 rfl (lv_room (Nat.le_of_ble_eq_true rfl)) dX11_sourceAt_1 ⟨Nat.le_of_ble_eq_true rfl, Nat.le_of_ble_eq_true rfl⟩ (fun E9 ce q9 T9 H locs hp G hce hcv hcl => ?_)
    obtain ⟨hE, hT⟩ := hp
    subst hE
    rw [hT] at G
    exact vx_out (fun x hx => (htab x hx).elim) hlocks hce hcv hcl (fun t ht hvm => ⟨T1, trivial, ⟨⟨rfl, rfl⟩, by rw [ht]; exact G.1, va_K.moved hvm hK, G.2.1⟩, G.2.2.F ht⟩) G.2.2.2.2 (Nat.le_refl _) (Nat.le_refl _)
  refine q_cvv (As := []) (rest := []) E G hA hX hN hml (u_X11_needCamera l hst D cI cJ cZ cMic cSrc cSt cAI cAJ ad T o eT3) (cwV 0 hts (gaV qA_728 qA_729 qA_730 qA_131 qA_731) rfl rfl rfl (by decide +kernel) ⟨Nat.le_of_ble_eq_true rfl, Nat.le_of_ble_eq_true rfl⟩) (oO_k g2).1 (cc_o11 (oO_k g2).2) rfl rfl hl.1 rfl (lv_room (Nat.le_of_ble_eq_true rfl)) dX11_sourceAt_1 ⟨Nat.zero_le _, Nat.zero_le _⟩ (fun T4 H locs hq G => ?_)
  rw [hq] at G
  clear hq eT3
  refine lv_aload_n hx hb dX11_sourceAt_4 rfl (lv_at hl 0 rfl) ?_
  refine lv_iload_n hx hb dX11_sourceAt_5 rfl (lv_at hl 1 rfl) ?_
  obtain ⟨g7, h⟩ := oif_some h
  rcases othr_t h with ⟨r0, eT8⟩ | ⟨r10, T8, eT8, h⟩
  · refine q_xvv (As := [.int a0]) (rest := []) E G hA hX hN hml (x_X11_needSource l hst D cI cJ cZ cMic cSrc cSt cAI cAJ ad T3 o a0 eT8) (cwV 1 hts (gaV qA_766 qA_767 qA_768 qA_131 qA_769) rfl rfl rfl (by decide +kernel) ⟨Nat.le_of_ble_eq_true rfl, Nat.le_of_ble_eq_true rfl⟩) (oO_k g7).1 (cc_o11 (oO_k g7).2) rfl rfl hl.1 rfl (lv_room (Nat.le_of_ble_eq_true rfl)) dX11_sourceAt_6 ⟨Nat.le_of_ble_eq_true rfl, Nat.le_of_ble_eq_true rfl⟩ (fun E9 ce q9 T9 H locs hp G hce hcv hcl => ?_)
    obtain ⟨hE, hT⟩ := hp
    subst hE
    rw [hT] at G
    exact vx_out (fun x hx => (htab x hx).elim) hlocks hce hcv hcl (fun t ht hvm => ⟨T1, trivial, ⟨⟨rfl, rfl⟩, by rw [ht]; exact G.1, va_K.moved hvm hK, G.2.1⟩, G.2.2.F ht⟩) G.2.2.2.2 (Nat.le_refl _) (Nat.le_refl _)
  refine q_cvv (As := [.int a0]) (rest := []) E G hA hX hN hml (u_X11_needSource l hst D cI cJ cZ cMic cSrc cSt cAI cAJ ad T3 o a0 eT8) (cwV 1 hts (gaV qA_766 qA_767 qA_768 qA_131 qA_769) rfl rfl rfl (by decide +kernel) ⟨Nat.le_of_ble_eq_true rfl, Nat.le_of_ble_eq_true rfl⟩) (oO_k g7).1 (cc_o11 (oO_k g7).2) rfl rfl hl.1 rfl (lv_room (Nat.le_of_ble_eq_true rfl)) dX11_sourceAt_6 ⟨Nat.zero_le _, Nat.zero_le _⟩ (fun T9 H locs hq G => ?_)
  rw [hq] at G
  clear hq eT8
  refine lv_iload_n hx hb dX11_sourceAt_9 rfl (lv_at hl 2 rfl) ?_
  refine lv_iconst (v := 0) hx hb dX11_sourceAt_10 (by decide) ?_
  refine lv_iconst (v := 1) hx hb dX11_sourceAt_11 (by decide) ?_
  rcases othr_t h with ⟨r0, eT12⟩ | ⟨r14, T12, eT12, h⟩
  · refine q_xsv (As := [.int a1, .int 0, .int 1]) (rest := []) E G hA hX hN hml (x_X11_needRange l hst D cI cJ cZ cMic cSrc cSt cAI cAJ ad T8 a1 (0 : Int32) (1 : Int32) eT12) (cwS 3 hts (gaS qA_741 qA_742 qA_131 qA_743) rfl rfl rfl (by decide +kernel) ⟨Nat.le_of_ble_eq_true rfl, Nat.le_of_ble_eq_true rfl⟩) rfl hl.1 rfl (lv_room (Nat.le_of_ble_eq_true rfl)) dX11_sourceAt_12 ⟨Nat.le_of_ble_eq_true rfl, Nat.le_of_ble_eq_true rfl⟩ (fun E9 ce q9 T9 H locs hp G hce hcv hcl => ?_)
    obtain ⟨hE, hT⟩ := hp
    subst hE
    rw [hT] at G
    exact vx_out (fun x hx => (htab x hx).elim) hlocks hce hcv hcl (fun t ht hvm => ⟨T1, trivial, ⟨⟨rfl, rfl⟩, by rw [ht]; exact G.1, va_K.moved hvm hK, G.2.1⟩, G.2.2.F ht⟩) G.2.2.2.2 (Nat.le_refl _) (Nat.le_refl _)
  refine q_csv (As := [.int a1, .int 0, .int 1]) (rest := []) E G hA hX hN hml (u_X11_needRange l hst D cI cJ cZ cMic cSrc cSt cAI cAJ ad T8 a1 (0 : Int32) (1 : Int32) eT12) (cwS 3 hts (gaS qA_741 qA_742 qA_131 qA_743) rfl rfl rfl (by decide +kernel) ⟨Nat.le_of_ble_eq_true rfl, Nat.le_of_ble_eq_true rfl⟩) rfl hl.1 rfl (lv_room (Nat.le_of_ble_eq_true rfl)) dX11_sourceAt_12 ⟨Nat.zero_le _, Nat.zero_le _⟩ (fun T13 H locs hq G => ?_)
  rw [hq] at G
  clear hq eT12
  refine lv_iload_n hx hb dX11_sourceAt_15 rfl (lv_at hl 3 rfl) ?_
  refine lv_iconst (v := 0) hx hb dX11_sourceAt_16 (by decide) ?_
  refine lv_aload_n hx hb dX11_sourceAt_17 rfl (lv_at hl 0 rfl) ?_
  obtain ⟨g16, h⟩ := oif_some h
  obtain ⟨n17, en17, h⟩ := obind_some h
  refine c_get E G o 14 (v := .ref (ad n17)) (oO_k g16).1 (cc_o11 (oO_k g16).2) rfl (fun w h => .tail _ (iA_23 h)) (by decide) (.tail _ qA_675) rfl (by rw [en17]; rfl) dX11_sourceAt_18 ?_
  clear en17
  obtain ⟨g18, h⟩ := oif_some h
  refine c_get E G n17 2 (oO_k g18).1 (cc_o6 (oO_k g18).2) rfl (fun w h => .tail _ (iA_14 h)) (by decide) (.tail _ qA_761) rfl rfl dX11_sourceAt_21 ?_
  refine lv_topi (fun v19 ev19 => ?_)
  have h := elet_at ev19 h
  clear ev19
  refine lv_iconst (v := 1) hx hb dX11_sourceAt_24 (by decide) ?_
  refine lv_isub hx hb dX11_sourceAt_25 ?_
  refine lv_topi (fun v20 ev20 => ?_)
  have h := elet_at ev20 h
  clear ev20
  rcases othr_t h with ⟨r0, eT21⟩ | ⟨r23, T21, eT21, h⟩
  · refine q_xsv (As := [.int a2, .int 0, .int v20]) (rest := []) E G hA hX hN hml (x_X11_needRange l hst D cI cJ cZ cMic cSrc cSt cAI cAJ ad T12 a2 (0 : Int32) v20 eT21) (cwS 3 hts (gaS qA_741 qA_742 qA_131 qA_743) rfl rfl rfl (by decide +kernel) ⟨Nat.le_of_ble_eq_true rfl, Nat.le_of_ble_eq_true rfl⟩) rfl hl.1 rfl (lv_room (Nat.le_of_ble_eq_true rfl)) dX11_sourceAt_26 ⟨Nat.le_of_ble_eq_true rfl, Nat.le_of_ble_eq_true rfl⟩ (fun E9 ce q9 T9 H locs hp G hce hcv hcl => ?_)
    obtain ⟨hE, hT⟩ := hp
    subst hE
    rw [hT] at G
    exact vx_out (fun x hx => (htab x hx).elim) hlocks hce hcv hcl (fun t ht hvm => ⟨T1, trivial, ⟨⟨rfl, rfl⟩, by rw [ht]; exact G.1, va_K.moved hvm hK, G.2.1⟩, G.2.2.F ht⟩) G.2.2.2.2 (Nat.le_refl _) (Nat.le_refl _)
  refine q_csv (As := [.int a2, .int 0, .int v20]) (rest := []) E G hA hX hN hml (u_X11_needRange l hst D cI cJ cZ cMic cSrc cSt cAI cAJ ad T12 a2 (0 : Int32) v20 eT21) (cwS 3 hts (gaS qA_741 qA_742 qA_131 qA_743) rfl rfl rfl (by decide +kernel) ⟨Nat.le_of_ble_eq_true rfl, Nat.le_of_ble_eq_true rfl⟩) rfl hl.1 rfl (lv_room (Nat.le_of_ble_eq_true rfl)) dX11_sourceAt_26 ⟨Nat.zero_le _, Nat.zero_le _⟩ (fun T22 H locs hq G => ?_)
  rw [hq] at G
  clear hq eT21
  refine lv_iload_n hx hb dX11_sourceAt_29 rfl (lv_at hl 2 rfl) ?_
  refine lv_if_ne (tgt := 58) hx hb dX11_sourceAt_30 (by decide) (fun c25 => ?_) (fun c25 => ?_)
  · have h := oif_neg c25 h
    refine lv_aload_n hx hb dX11_sourceAt_58 rfl (lv_at hl 0 rfl) ?_
    obtain ⟨g42, h⟩ := oif_some h
    obtain ⟨n43, en43, h⟩ := obind_some h
    refine c_get E G o 6 (v := .ref (ad n43)) (oO_k g42).1 (cc_o11 (oO_k g42).2) rfl (fun w h => .tail _ (iA_23 h)) (by decide) (.tail _ qA_664) rfl (by rw [en43]; rfl) dX11_sourceAt_59 ?_
    clear en43
    obtain ⟨g44, h⟩ := oif_some h
    obtain ⟨n45, en45, h⟩ := obind_some h
    refine c_get E G n43 7 (v := .ref (ad n45)) (oO_k g44).1 (cc_o8 (oO_k g44).2) rfl (fun w h => .tail _ (iA_16 h)) (by decide) (.tail _ qA_764) rfl (by rw [en45]; rfl) dX11_sourceAt_62 ?_
    clear en45
    refine lv_iload_n hx hb dX11_sourceAt_65 rfl (lv_at hl 1 rfl) ?_
    obtain ⟨g46, h⟩ := oif_some h
    obtain ⟨g47, h⟩ := oif_some h
    refine c_iald E G n45 0 (k := a0.toNatClampNeg) (aA_k g46).1 (cc_a100 (aA_k g46).2.1) rfl (inb_k g47).1 (inb_k g47).2 (aA_k g46).2.2 dX11_sourceAt_66 ?_
    refine lv_topi (fun v48 ev48 => ?_)
    have h := elet_at ev48 h
    clear ev48
    refine lv_aload_n hx hb dX11_sourceAt_67 rfl (lv_at hl 0 rfl) ?_
    obtain ⟨g49, h⟩ := oif_some h
    obtain ⟨n50, en50, h⟩ := obind_some h
    refine c_get E G o 6 (v := .ref (ad n50)) (oO_k g49).1 (cc_o11 (oO_k g49).2) rfl (fun w h => .tail _ (iA_23 h)) (by decide) (.tail _ qA_664) rfl (by rw [en50]; rfl) dX11_sourceAt_68 ?_
    clear en50
    obtain ⟨g51, h⟩ := oif_some h
    obtain ⟨n52, en52, h⟩ := obind_some h
    refine c_get E G n50 9 (v := .ref (ad n52)) (oO_k g51).1 (cc_o8 (oO_k g51).2) rfl (fun w h => .tail _ (iA_16 h)) (by decide) (.tail _ qA_765) rfl (by rw [en52]; rfl) dX11_sourceAt_71 ?_
    clear en52
    refine lv_iload_n hx hb dX11_sourceAt_74 rfl (lv_at hl 1 rfl) ?_
    obtain ⟨g53, h⟩ := oif_some h
    obtain ⟨g54, h⟩ := oif_some h
    refine c_iald E G n52 0 (k := a0.toNatClampNeg) (aA_k g53).1 (cc_a100 (aA_k g53).2.1) rfl (inb_k g54).1 (inb_k g54).2 (aA_k g53).2.2 dX11_sourceAt_75 ?_
    refine lv_topi (fun v55 ev55 => ?_)
    have h := elet_at ev55 h
    clear ev55
    refine lv_iload_n hx hb dX11_sourceAt_76 rfl (lv_at hl 3 rfl) ?_
    obtain ⟨r56, er56, h⟩ := obind_some h
    refine q_sti (As := [.int v48, .int v55, .int a2]) (rest := []) ⟨hx, hb, hml, hown, hts⟩ hN (u_X11_moved l v48 v55 a2 er56) (cwS 3 hts (gaS qA_770 qA_481 qA_131 qA_482) rfl rfl rfl (by decide +kernel) ⟨Nat.le_of_ble_eq_true rfl, Nat.le_of_ble_eq_true rfl⟩) rfl hl.1 rfl (lv_room (Nat.le_of_ble_eq_true rfl)) dX11_sourceAt_77 ⟨Nat.zero_le _, Nat.zero_le _⟩ (fun q57 hq => ?_)
    refine lv_to hq ?_
    clear hq er56
    have hl := lv_sub hl [] rfl
    exact x_X11_sourceAt_b80 E hA hX hN hml trivial hst htab hlocks (fun H locs t G hvm h1 h2 => ⟨T1, trivial, ⟨⟨rfl, rfl⟩, (c_thrown G hK hvm h1 h2).1⟩, (c_thrown G hK hvm h1 h2).2⟩) _ _ _ _ _ h G hl
  · have h := oif_pos c25 h
    refine lv_aload_n hx hb dX11_sourceAt_33 rfl (lv_at hl 0 rfl) ?_
    obtain ⟨g26, h⟩ := oif_some h
    obtain ⟨n27, en27, h⟩ := obind_some h
    refine c_get E G o 6 (v := .ref (ad n27)) (oO_k g26).1 (cc_o11 (oO_k g26).2) rfl (fun w h => .tail _ (iA_23 h)) (by decide) (.tail _ qA_664) rfl (by rw [en27]; rfl) dX11_sourceAt_34 ?_
    clear en27
    obtain ⟨g28, h⟩ := oif_some h
    obtain ⟨n29, en29, h⟩ := obind_some h
    refine c_get E G n27 6 (v := .ref (ad n29)) (oO_k g28).1 (cc_o8 (oO_k g28).2) rfl (fun w h => .tail _ (iA_16 h)) (by decide) (.tail _ qA_762) rfl (by rw [en29]; rfl) dX11_sourceAt_37 ?_
    clear en29
    refine lv_iload_n hx hb dX11_sourceAt_40 rfl (lv_at hl 1 rfl) ?_
    obtain ⟨g30, h⟩ := oif_some h
    obtain ⟨g31, h⟩ := oif_some h
    refine c_iald E G n29 0 (k := a0.toNatClampNeg) (aA_k g30).1 (cc_a100 (aA_k g30).2.1) rfl (inb_k g31).1 (inb_k g31).2 (aA_k g30).2.2 dX11_sourceAt_41 ?_
    refine lv_topi (fun v32 ev32 => ?_)
    have h := elet_at ev32 h
    clear ev32
    refine lv_aload_n hx hb dX11_sourceAt_42 rfl (lv_at hl 0 rfl) ?_
    obtain ⟨g33, h⟩ := oif_some h
    obtain ⟨n34, en34, h⟩ := obind_some h
    refine c_get E G o 6 (v := .ref (ad n34)) (oO_k g33).1 (cc_o11 (oO_k g33).2) rfl (fun w h => .tail _ (iA_23 h)) (by decide) (.tail _ qA_664) rfl (by rw [en34]; rfl) dX11_sourceAt_43 ?_
    clear en34
    obtain ⟨g35, h⟩ := oif_some h
    obtain ⟨n36, en36, h⟩ := obind_some h
    refine c_get E G n34 8 (v := .ref (ad n36)) (oO_k g35).1 (cc_o8 (oO_k g35).2) rfl (fun w h => .tail _ (iA_16 h)) (by decide) (.tail _ qA_763) rfl (by rw [en36]; rfl) dX11_sourceAt_46 ?_
    clear en36
    refine lv_iload_n hx hb dX11_sourceAt_49 rfl (lv_at hl 1 rfl) ?_
    obtain ⟨g37, h⟩ := oif_some h
    obtain ⟨g38, h⟩ := oif_some h
    refine c_iald E G n36 0 (k := a0.toNatClampNeg) (aA_k g37).1 (cc_a100 (aA_k g37).2.1) rfl (inb_k g38).1 (inb_k g38).2 (aA_k g37).2.2 dX11_sourceAt_50 ?_
    refine lv_topi (fun v39 ev39 => ?_)
    have h := elet_at ev39 h
    clear ev39
    refine lv_iload_n hx hb dX11_sourceAt_51 rfl (lv_at hl 3 rfl) ?_
    obtain ⟨r40, er40, h⟩ := obind_some h
    refine q_sti (As := [.int v32, .int v39, .int a2]) (rest := []) ⟨hx, hb, hml, hown, hts⟩ hN (u_X11_moved l v32 v39 a2 er40) (cwS 3 hts (gaS qA_770 qA_481 qA_131 qA_482) rfl rfl rfl (by decide +kernel) ⟨Nat.le_of_ble_eq_true rfl, Nat.le_of_ble_eq_true rfl⟩) rfl hl.1 rfl (lv_room (Nat.le_of_ble_eq_true rfl)) dX11_sourceAt_52 ⟨Nat.zero_le _, Nat.zero_le _⟩ (fun q41 hq => ?_)
    refine lv_to hq ?_
    clear hq er40
    refine lv_goto (tgt := 80) hx hb dX11_sourceAt_55 (by decide) ?_
    have hl := lv_sub hl [] rfl
    exact x_X11_sourceAt_b80 E hA hX hN hml trivial hst htab hlocks (fun H locs t G hvm h1 h2 => ⟨T1, trivial, ⟨⟨rfl, rfl⟩, (c_thrown G hK hvm h1 h2).1⟩, (c_thrown G hK hvm h1 h2).2⟩) _ _ _ _ _ h G hl
def g_X11_isOn (T : AT) (o : Nat) (a0 : Int32) : Option (Nat × Int32 × AT) := oif (oO T o 11 = true) <| othr (g_X11_needCamera T o) 0 fun r5 T3 => oif (oO T3 o 11 = true) <| othr (g_X11_needSource T3 o a0) 0 fun r10 T8 => oif (oO T8 o 11 = true) <| obind (T8.2.2.2.2 o 6) fun n13 => oif (oO T8 n13 8 = true) <| obind (T8.2.2.2.2 n13 5) fun n15 => oif (aA T8 n15 102 = true) <| oif (inb a0 (T8.2.1 n15).2 = true) <| elet (T8.2.2.1 n15 a0.toNatClampNeg) fun v18 => oif (v18 = 0 ∨ v18 = 1) <| some (0, v18, T8)
set_option maxHeartbeats 4000000 in
set_option maxRecDepth 100000 in
theorem u_X11_isOn (l : Launch) (hst : l.stackTraces = false) (D : va_G) (cI cJ cZ cMic cSrc cSt cAI cAJ : ClassId) (ad : Nat → Nat) (T : AT) (o : Nat) (a0 : Int32) {r1 : Int32} {T1 : AT} (h : g_X11_isOn T o a0 = some (0, r1, T1)) : kCi l yX11_isOn (Cond.code yX11_isOn cX11_isOn 2 (some .boolean) :: wsA) 8 123 cI cJ cZ cMic cSrc cSt cAI cAJ D ad T [.ref (ad o), .int a0] (fun r T9 => r = r1 ∧ T9 = T1) := by
  intro sz
  refine Met.ofW (cc := cX11_isOn) (maxL := 2) (ret := (some .boolean)) (by decide) rfl ?_
  intro p e s m args below meth c s₁ B hml hv
  obtain ⟨rfl, hsz, hP, hK, hD0, hX, hN⟩ := hv
  have hx := B.exec
  have hb := B.bytes
  have hr := B.returns
  have hts := atoms_spec (ws := (Cond.code yX11_isOn cX11_isOn 2 (some .boolean) :: wsA)) B.pre
  have hown : s.vm.findClass RX11 = some m.cls := findClass_of_methodNamed B.named
  have hlocks := B.notSynchronized
  subst hsz
  have hD := hD0.self (sz := s.heap.size)
  generalize hAe : va_A (cW ad T.1 (cc cI cJ cZ cMic cSrc cSt cAI cAJ ad T)) s.heap.size = A at hD hX ⊢
  have hA : ∀ q : Nat, s.heap.size ≤ q → A q := fun q h => by rw [← hAe]; exact Or.inr h
  have G : gC cI cJ cZ cMic cSrc cSt cAI cAJ D ad A s.heap s.heap [] T := ⟨hP, hD, va_S.rf⟩
  have E : cE p c cX11_isOn s m ([.ref (ad o), .int a0] : List Value).toArray (Cond.code yX11_isOn cX11_isOn 2 (some .boolean) :: wsA) D RX11 (CT cI cJ cZ cMic cSrc cSt cAI cAJ) := ⟨hx, hb, hts, hown, hK⟩
  have hl := lv_entry ([.ref (ad o), .int a0]) (n := 2) (Nat.le_of_ble_eq_true rfl)
  rw [lg_entry_eq]
  generalize (lg_sl ([.ref (ad o), .int a0]) ++ List.replicate (2 - (lg_sl ([.ref (ad o), .int a0])).length) Slot.unset).toArray = ls at hl ⊢
  have hl : lv_has ls 2 [(0, .ref (ad o)), (1, .int a0)] := hl
  unfold g_X11_isOn at h
  refine lv_aload_n hx hb dX11_isOn_0 rfl (lv_at hl 0 rfl) ?_
  obtain ⟨g2, h⟩ := oif_some h
  obtain ⟨r5, T3, eT3, h⟩ := othr_n h
  refine q_cvv (As := []) (rest := []) E G hA hX hN hml (u_X11_needCamera l hst D cI cJ cZ cMic cSrc cSt cAI cAJ ad T o eT3) (cwV 0 hts (gaV qA_728 qA_729 qA_730 qA_131 qA_731) rfl rfl rfl (by decide +kernel) ⟨Nat.le_of_ble_eq_true rfl, Nat.le_of_ble_eq_true rfl⟩) (oO_k g2).1 (cc_o11 (oO_k g2).2) rfl rfl hl.1 rfl (lv_room (Nat.le_of_ble_eq_true rfl)) dX11_isOn_1 ⟨Nat.zero_le _, Nat.zero_le _⟩ (fun T4 H locs hq G => ?_)
  rw [hq] at G
  clear hq eT3
  refine lv_aload_n hx hb dX11_isOn_4 rfl (lv_at hl 0 rfl) ?_
  refine lv_iload_n hx hb dX11_isOn_5 rfl (lv_at hl 1 rfl) ?_
  obtain ⟨g7, h⟩ := oif_some h
  obtain ⟨r10, T8, eT8, h⟩ := othr_n h
  refine q_cvv (As := [.int a0]) (rest := []) E G hA hX hN hml (u_X11_needSource l hst D cI cJ cZ cMic cSrc cSt cAI cAJ ad T3 o a0 eT8) (cwV 1 hts (gaV qA_766 qA_767 qA_768 qA_131 qA_769) rfl rfl rfl (by decide +kernel) ⟨Nat.le_of_ble_eq_true rfl, Nat.le_of_ble_eq_true rfl⟩) (oO_k g7).1 (cc_o11 (oO_k g7).2) rfl rfl hl.1 rfl (lv_room (Nat.le_of_ble_eq_true rfl)) dX11_isOn_6 ⟨Nat.zero_le _, Nat.zero_le _⟩ (fun T9 H locs hq G => ?_)
  rw [hq] at G
  clear hq eT8
  refine lv_aload_n hx hb dX11_isOn_9 rfl (lv_at hl 0 rfl) ?_
  obtain ⟨g12, h⟩ := oif_some h
  obtain ⟨n13, en13, h⟩ := obind_some h
  refine c_get E G o 6 (v := .ref (ad n13)) (oO_k g12).1 (cc_o11 (oO_k g12).2) rfl (fun w h => .tail _ (iA_23 h)) (by decide) (.tail _ qA_664) rfl (by rw [en13]; rfl) dX11_isOn_10 ?_
  clear en13
  obtain ⟨g14, h⟩ := oif_some h
  obtain ⟨n15, en15, h⟩ := obind_some h
  refine c_get E G n13 5 (v := .ref (ad n15)) (oO_k g14).1 (cc_o8 (oO_k g14).2) rfl (fun w h => .tail _ (iA_16 h)) (by decide) (.tail _ qA_772) rfl (by rw [en15]; rfl) dX11_isOn_13 ?_
  clear en15
  refine lv_iload_n hx hb dX11_isOn_16 rfl (lv_at hl 1 rfl) ?_
  obtain ⟨g16, h⟩ := oif_some h
  obtain ⟨g17, h⟩ := oif_some h
  refine c_zald E G n15 2 (k := a0.toNatClampNeg) (aA_k g16).1 (cc_a102 (aA_k g16).2.1) rfl (inb_k g17).1 (inb_k g17).2 (aA_k g16).2.2 dX11_isOn_17 ?_
  refine lv_topi (fun v18 ev18 => ?_)
  have h := elet_at ev18 h
  clear ev18
  obtain ⟨gz, h⟩ := oif_some h
  exact W.zret (v := v18) hx hb hr (nar01 gz) (fun t ht hW => ⟨⟨v18, T8, rfl, (osome3 h).2, ⟨by rw [ht]; exact G.1, va_K.moved hW.alike hK, G.2.1⟩⟩, G.2.2.F ht⟩) G.2.2.2.2 dX11_isOn_18
set_option maxHeartbeats 4000000 in
set_option maxRecDepth 100000 in
theorem s_X11_isOn {T : AT} {o : Nat} {a0 : Int32} {e1 : Nat} {r1 : Int32} {T1 : AT} (h : g_X11_isOn T o a0 = some (e1, r1, T1)) : SP T T1 := by
  have p0 := SP.rf T
  unfold g_X11_isOn at h
  obtain ⟨g2, h⟩ := oif_some h
  rcases othr_s h with ⟨k9, r9, e9, -⟩ | ⟨r4, T3, eT3, h⟩
  · exact SP.tr p0 (s_X11_needCamera e9)
  have p1 : SP T T3 := SP.tr p0 (s_X11_needCamera eT3)
  obtain ⟨g5, h⟩ := oif_some h
  rcases othr_s h with ⟨k9, r9, e9, -⟩ | ⟨r7, T6, eT6, h⟩
  · exact SP.tr p1 (s_X11_needSource e9)
  have p2 : SP T T6 := SP.tr p1 (s_X11_needSource eT6)
  obtain ⟨g8, h⟩ := oif_some h
  obtain ⟨n9, en9, h⟩ := obind_some h
  obtain ⟨g10, h⟩ := oif_some h
  obtain ⟨n11, en11, h⟩ := obind_some h
  obtain ⟨g12, h⟩ := oif_some h
  obtain ⟨g13, h⟩ := oif_some h
  obtain ⟨v14, -, h⟩ := elet_some h
  obtain ⟨gz, h⟩ := oif_some h
  rw [← (osome3 h).2.2]
  exact p2
set_option maxHeartbeats 4000000 in
set_option maxRecDepth 100000 in
theorem x_X11_isOn (l : Launch) (hst : l.stackTraces = false) (D : va_G) (cI cJ cZ cMic cSrc cSt cAI cAJ : ClassId) (ad : Nat → Nat) (T : AT) (o : Nat) (a0 : Int32) {e1 : Nat} {r1 : Int32} {T1 : AT} (h : g_X11_isOn T o a0 = some (e1 + 1, r1, T1)) : kXi l yX11_isOn (Cond.code yX11_isOn cX11_isOn 2 (some .boolean) :: wsA) 8 123 cI cJ cZ cMic cSrc cSt cAI cAJ D ad T [.ref (ad o), .int a0] e1 T1 := by
  intro sz
  refine vx_ofW (cc := cX11_isOn) (maxL := 2) (ret := (some .boolean)) (by decide) rfl ?_
  intro p e s m args below meth c s₁ B hml htab hv
  obtain ⟨rfl, hsz, hP, hK, hD0, hX, hN⟩ := hv
  have hx := B.exec
  have hb := B.bytes
  have hr := B.returns
  have hts := atoms_spec (ws := (Cond.code yX11_isOn cX11_isOn 2 (some .boolean) :: wsA)) B.pre
  have hown : s.vm.findClass RX11 = some m.cls := findClass_of_methodNamed B.named
  have hlocks := B.notSynchronized
  subst hsz
  have hD := hD0.self (sz := s.heap.size)
  generalize hAe : va_A (cW ad T.1 (cc cI cJ cZ cMic cSrc cSt cAI cAJ ad T)) s.heap.size = A at hD hX ⊢
  have hA : ∀ q : Nat, s.heap.size ≤ q → A q := fun q h => by rw [← hAe]; exact Or.inr h
  have G : gC cI cJ cZ cMic cSrc cSt cAI cAJ D ad A s.heap s.heap [] T := ⟨hP, hD, va_S.rf⟩
  have E : cE p c cX11_isOn s m ([.ref (ad o), .int a0] : List Value).toArray (Cond.code yX11_isOn cX11_isOn 2 (some .boolean) :: wsA) D RX11 (CT cI cJ cZ cMic cSrc cSt cAI cAJ) := ⟨hx, hb, hts, hown, hK⟩
  have htab : ∀ x ∈ c.exceptionTable.toList, False := fun x hx => htab x hx
  have hl := lv_entry ([.ref (ad o), .int a0]) (n := 2) (Nat.le_of_ble_eq_true rfl)
  rw [lg_entry_eq]
  generalize (lg_sl ([.ref (ad o), .int a0]) ++ List.replicate (2 - (lg_sl ([.ref (ad o), .int a0])).length) Slot.unset).toArray = ls at hl ⊢
  have hl : lv_has ls 2 [(0, .ref (ad o)), (1, .int a0)] := hl
  unfold g_X11_isOn at h
  refine lv_aload_n hx hb dX11_isOn_0 rfl (lv_at hl 0 rfl) ?_
  obtain ⟨g2, h⟩ := oif_some h
  rcases othr_t h with ⟨r0, eT3⟩ | ⟨r5, T3, eT3, h⟩
  · refine q_xvv (As := []) (rest := []) E G hA hX hN hml (x_X11_needCamera l hst D cI cJ cZ cMic cSrc cSt cAI cAJ ad T o eT3) (cwV 0 hts (gaV qA_728 qA_729 qA_730 qA_131 qA_731) rfl rfl rfl (by decide +kernel) ⟨Nat.le_of_ble_eq_true rfl, Nat.le_of_ble_eq_true rfl⟩) (oO_k g2).1 (cc_o11 (oO_k g2).2) rfl rfl hl.1 rfl (lv_room (Nat.le_of_ble_eq_true rfl)) dX11_isOn_1 ⟨Nat.le_of_ble_eq_true rfl, Nat.le_of_ble_eq_true rfl⟩ (fun E9 ce q9 T9 H locs hp G hce hcv hcl => ?_)
    obtain ⟨hE, hT⟩ := hp
    subst hE
    rw [hT] at G
    exact vx_out (fun x hx => (htab x hx).elim) hlocks hce hcv hcl (fun t ht hvm => ⟨T1, trivial, ⟨⟨rfl, rfl⟩, by rw [ht]; exact G.1, va_K.moved hvm hK, G.2.1⟩, G.2.2.F ht⟩) G.2.2.2.2 (Nat.le_refl _) (Nat.le_refl _)
  refine q_cvv (As := []) (rest := []) E G hA hX hN hml (u_X11_needCamera l hst D cI cJ cZ cMic cSrc cSt cAI cAJ ad T o eT3) (cwV 0 hts (gaV qA_728 qA_729 qA_730 qA_131 qA_731) rfl rfl rfl (by decide +kernel) ⟨Nat.le_of_ble_eq_true rfl, Nat.le_of_ble_eq_true rfl⟩) (oO_k g2).1 (cc_o11 (oO_k g2).2) rfl rfl hl.1 rfl (lv_room (Nat.le_of_ble_eq_true rfl)) dX11_isOn_1 ⟨Nat.zero_le _, Nat.zero_le _⟩ (fun T4 H locs hq G => ?_)
  rw [hq] at G
  clear hq eT3
  refine lv_aload_n hx hb dX11_isOn_4 rfl (lv_at hl 0 rfl) ?_
  refine lv_iload_n hx hb dX11_isOn_5 rfl (lv_at hl 1 rfl) ?_
  obtain ⟨g7, h⟩ := oif_some h
  rcases othr_t h with ⟨r0, eT8⟩ | ⟨r10, T8, eT8, h⟩
  · refine q_xvv (As := [.int a0]) (rest := []) E G hA hX hN hml (x_X11_needSource l hst D cI cJ cZ cMic cSrc cSt cAI cAJ ad T3 o a0 eT8) (cwV 1 hts (gaV qA_766 qA_767 qA_768 qA_131 qA_769) rfl rfl rfl (by decide +kernel) ⟨Nat.le_of_ble_eq_true rfl, Nat.le_of_ble_eq_true rfl⟩) (oO_k g7).1 (cc_o11 (oO_k g7).2) rfl rfl hl.1 rfl (lv_room (Nat.le_of_ble_eq_true rfl)) dX11_isOn_6 ⟨Nat.le_of_ble_eq_true rfl, Nat.le_of_ble_eq_true rfl⟩ (fun E9 ce q9 T9 H locs hp G hce hcv hcl => ?_)
    obtain ⟨hE, hT⟩ := hp
    subst hE
    rw [hT] at G
    exact vx_out (fun x hx => (htab x hx).elim) hlocks hce hcv hcl (fun t ht hvm => ⟨T1, trivial, ⟨⟨rfl, rfl⟩, by rw [ht]; exact G.1, va_K.moved hvm hK, G.2.1⟩, G.2.2.F ht⟩) G.2.2.2.2 (Nat.le_refl _) (Nat.le_refl _)
  refine q_cvv (As := [.int a0]) (rest := []) E G hA hX hN hml (u_X11_needSource l hst D cI cJ cZ cMic cSrc cSt cAI cAJ ad T3 o a0 eT8) (cwV 1 hts (gaV qA_766 qA_767 qA_768 qA_131 qA_769) rfl rfl rfl (by decide +kernel) ⟨Nat.le_of_ble_eq_true rfl, Nat.le_of_ble_eq_true rfl⟩) (oO_k g7).1 (cc_o11 (oO_k g7).2) rfl rfl hl.1 rfl (lv_room (Nat.le_of_ble_eq_true rfl)) dX11_isOn_6 ⟨Nat.zero_le _, Nat.zero_le _⟩ (fun T9 H locs hq G => ?_)
  rw [hq] at G
  clear hq eT8
  refine lv_aload_n hx hb dX11_isOn_9 rfl (lv_at hl 0 rfl) ?_
  obtain ⟨g12, h⟩ := oif_some h
  obtain ⟨n13, en13, h⟩ := obind_some h
  refine c_get E G o 6 (v := .ref (ad n13)) (oO_k g12).1 (cc_o11 (oO_k g12).2) rfl (fun w h => .tail _ (iA_23 h)) (by decide) (.tail _ qA_664) rfl (by rw [en13]; rfl) dX11_isOn_10 ?_
  clear en13
  obtain ⟨g14, h⟩ := oif_some h
  obtain ⟨n15, en15, h⟩ := obind_some h
  refine c_get E G n13 5 (v := .ref (ad n15)) (oO_k g14).1 (cc_o8 (oO_k g14).2) rfl (fun w h => .tail _ (iA_16 h)) (by decide) (.tail _ qA_772) rfl (by rw [en15]; rfl) dX11_isOn_13 ?_
  clear en15
  refine lv_iload_n hx hb dX11_isOn_16 rfl (lv_at hl 1 rfl) ?_
  obtain ⟨g16, h⟩ := oif_some h
  obtain ⟨g17, h⟩ := oif_some h
  refine c_zald E G n15 2 (k := a0.toNatClampNeg) (aA_k g16).1 (cc_a102 (aA_k g16).2.1) rfl (inb_k g17).1 (inb_k g17).2 (aA_k g16).2.2 dX11_isOn_17 ?_
  refine lv_topi (fun v18 ev18 => ?_)
  have h := elet_at ev18 h
  clear ev18
  obtain ⟨gz, h⟩ := oif_some h
  exact (Nat.succ_ne_zero _ (congrArg Prod.fst (Option.some.inj h)).symm).elim
def g_X11_waveAt (T : AT) (o : Nat) (a0 : Int32) (a1 : Int32) : Option (Nat × Int32 × AT) := oif (oO T o 11 = true) <| othr (g_X11_needCamera T o) 0 fun r5 T3 => oif (oO T3 o 11 = true) <| othr (g_X11_needSource T3 o a0) 0 fun r10 T8 => oif (oO T8 o 11 = true) <| obind (T8.2.2.2.2 o 14) fun n13 => oif (oO T8 n13 6 = true) <| elet (T8.2.2.1 n13 2) fun v15 => elet (v15 - 1) fun v16 => othr (g_X11_needRange T8 a1 (0 : Int32) v16) 0 fun r19 T17 => oif (oO T17 o 11 = true) <| obind (T17.2.2.2.2 o 14) fun n22 => oif (oO T17 n22 6 = true) <| obind (T17.2.2.2.2 n22 7) fun n24 => oif (aA T17 n24 104 = true) <| oif (inb a0 (T17.2.1 n24).2 = true) <| obind (T17.2.2.2.2 n24 a0.toNatClampNeg) fun n27 => oif (oO T17 n27 7 = true) <| obind2 (g_X7_valueAt T17 n27 a1) fun r31 T29 => some (0, r31, T29)
set_option maxHeartbeats 4000000 in
set_option maxRecDepth 100000 in
theorem u_X11_waveAt (l : Launch) (hst : l.stackTraces = false) (D : va_G) (cI cJ cZ cMic cSrc cSt cAI cAJ : ClassId) (ad : Nat → Nat) (T : AT) (o : Nat) (a0 : Int32) (a1 : Int32) {r1 : Int32} {T1 : AT} (h : g_X11_waveAt T o a0 a1 = some (0, r1, T1)) : kCi l yX11_waveAt (Cond.code yX11_waveAt cX11_waveAt 3 (some .int) :: wsA) 8 123 cI cJ cZ cMic cSrc cSt cAI cAJ D ad T [.ref (ad o), .int a0, .int a1] (fun r T9 => r = r1 ∧ T9 = T1) := by
  intro sz
  refine Met.ofW (cc := cX11_waveAt) (maxL := 3) (ret := (some .int)) (by decide) rfl ?_
  intro p e s m args below meth c s₁ B hml hv
  obtain ⟨rfl, hsz, hP, hK, hD0, hX, hN⟩ := hv
  have hx := B.exec
  have hb := B.bytes
  have hr := B.returns
  have hts := atoms_spec (ws := (Cond.code yX11_waveAt cX11_waveAt 3 (some .int) :: wsA)) B.pre
  have hown : s.vm.findClass RX11 = some m.cls := findClass_of_methodNamed B.named
  have hlocks := B.notSynchronized
  subst hsz
  have hD := hD0.self (sz := s.heap.size)
  generalize hAe : va_A (cW ad T.1 (cc cI cJ cZ cMic cSrc cSt cAI cAJ ad T)) s.heap.size = A at hD hX ⊢
  have hA : ∀ q : Nat, s.heap.size ≤ q → A q := fun q h => by rw [← hAe]; exact Or.inr h
  have G : gC cI cJ cZ cMic cSrc cSt cAI cAJ D ad A s.heap s.heap [] T := ⟨hP, hD, va_S.rf⟩
  have E : cE p c cX11_waveAt s m ([.ref (ad o), .int a0, .int a1] : List Value).toArray (Cond.code yX11_waveAt cX11_waveAt 3 (some .int) :: wsA) D RX11 (CT cI cJ cZ cMic cSrc cSt cAI cAJ) := ⟨hx, hb, hts, hown, hK⟩
  have hl := lv_entry ([.ref (ad o), .int a0, .int a1]) (n := 3) (Nat.le_of_ble_eq_true rfl)
  rw [lg_entry_eq]
  generalize (lg_sl ([.ref (ad o), .int a0, .int a1]) ++ List.replicate (3 - (lg_sl ([.ref (ad o), .int a0, .int a1])).length) Slot.unset).toArray = ls at hl ⊢
  have hl : lv_has ls 3 [(0, .ref (ad o)), (1, .int a0), (2, .int a1)] := hl
  unfold g_X11_waveAt at h
  refine lv_aload_n hx hb dX11_waveAt_0 rfl (lv_at hl 0 rfl) ?_
  obtain ⟨g2, h⟩ := oif_some h
  obtain ⟨r5, T3, eT3, h⟩ := othr_n h
  refine q_cvv (As := []) (rest := []) E G hA hX hN hml (u_X11_needCamera l hst D cI cJ cZ cMic cSrc cSt cAI cAJ ad T o eT3) (cwV 0 hts (gaV qA_728 qA_729 qA_730 qA_131 qA_731) rfl rfl rfl (by decide +kernel) ⟨Nat.le_of_ble_eq_true rfl, Nat.le_of_ble_eq_true rfl⟩) (oO_k g2).1 (cc_o11 (oO_k g2).2) rfl rfl hl.1 rfl (lv_room (Nat.le_of_ble_eq_true rfl)) dX11_waveAt_1 ⟨Nat.zero_le _, Nat.zero_le _⟩ (fun T4 H locs hq G => ?_)
  rw [hq] at G
  clear hq eT3
  refine lv_aload_n hx hb dX11_waveAt_4 rfl (lv_at hl 0 rfl) ?_
  refine lv_iload_n hx hb dX11_waveAt_5 rfl (lv_at hl 1 rfl) ?_
  obtain ⟨g7, h⟩ := oif_some h
  obtain ⟨r10, T8, eT8, h⟩ := othr_n h
  refine q_cvv (As := [.int a0]) (rest := []) E G hA hX hN hml (u_X11_needSource l hst D cI cJ cZ cMic cSrc cSt cAI cAJ ad T3 o a0 eT8) (cwV 1 hts (gaV qA_766 qA_767 qA_768 qA_131 qA_769) rfl rfl rfl (by decide +kernel) ⟨Nat.le_of_ble_eq_true rfl, Nat.le_of_ble_eq_true rfl⟩) (oO_k g7).1 (cc_o11 (oO_k g7).2) rfl rfl hl.1 rfl (lv_room (Nat.le_of_ble_eq_true rfl)) dX11_waveAt_6 ⟨Nat.zero_le _, Nat.zero_le _⟩ (fun T9 H locs hq G => ?_)
  rw [hq] at G
  clear hq eT8
  refine lv_iload_n hx hb dX11_waveAt_9 rfl (lv_at hl 2 rfl) ?_
  refine lv_iconst (v := 0) hx hb dX11_waveAt_10 (by decide) ?_
  refine lv_aload_n hx hb dX11_waveAt_11 rfl (lv_at hl 0 rfl) ?_
  obtain ⟨g12, h⟩ := oif_some h
  obtain ⟨n13, en13, h⟩ := obind_some h
  refine c_get E G o 14 (v := .ref (ad n13)) (oO_k g12).1 (cc_o11 (oO_k g12).2) rfl (fun w h => .tail _ (iA_23 h)) (by decide) (.tail _ qA_675) rfl (by rw [en13]; rfl) dX11_waveAt_12 ?_
  clear en13
  obtain ⟨g14, h⟩ := oif_some h
  refine c_get E G n13 2 (oO_k g14).1 (cc_o6 (oO_k g14).2) rfl (fun w h => .tail _ (iA_14 h)) (by decide) (.tail _ qA_761) rfl rfl dX11_waveAt_15 ?_
  refine lv_topi (fun v15 ev15 => ?_)
  have h := elet_at ev15 h
  clear ev15
  refine lv_iconst (v := 1) hx hb dX11_waveAt_18 (by decide) ?_
  refine lv_isub hx hb dX11_waveAt_19 ?_
  refine lv_topi (fun v16 ev16 => ?_)
  have h := elet_at ev16 h
  clear ev16
  obtain ⟨r19, T17, eT17, h⟩ := othr_n h
  refine q_csv (As := [.int a1, .int 0, .int v16]) (rest := []) E G hA hX hN hml (u_X11_needRange l hst D cI cJ cZ cMic cSrc cSt cAI cAJ ad T8 a1 (0 : Int32) v16 eT17) (cwS 3 hts (gaS qA_741 qA_742 qA_131 qA_743) rfl rfl rfl (by decide +kernel) ⟨Nat.le_of_ble_eq_true rfl, Nat.le_of_ble_eq_true rfl⟩) rfl hl.1 rfl (lv_room (Nat.le_of_ble_eq_true rfl)) dX11_waveAt_20 ⟨Nat.zero_le _, Nat.zero_le _⟩ (fun T18 H locs hq G => ?_)
  rw [hq] at G
  clear hq eT17
  refine lv_aload_n hx hb dX11_waveAt_23 rfl (lv_at hl 0 rfl) ?_
  obtain ⟨g21, h⟩ := oif_some h
  obtain ⟨n22, en22, h⟩ := obind_some h
  refine c_get E G o 14 (v := .ref (ad n22)) (oO_k g21).1 (cc_o11 (oO_k g21).2) rfl (fun w h => .tail _ (iA_23 h)) (by decide) (.tail _ qA_675) rfl (by rw [en22]; rfl) dX11_waveAt_24 ?_
  clear en22
  obtain ⟨g23, h⟩ := oif_some h
  obtain ⟨n24, en24, h⟩ := obind_some h
  refine c_get E G n22 7 (v := .ref (ad n24)) (oO_k g23).1 (cc_o6 (oO_k g23).2) rfl (fun w h => .tail _ (iA_14 h)) (by decide) (.tail _ qA_774) rfl (by rw [en24]; rfl) dX11_waveAt_27 ?_
  clear en24
  refine lv_iload_n hx hb dX11_waveAt_30 rfl (lv_at hl 1 rfl) ?_
  obtain ⟨g25, h⟩ := oif_some h
  obtain ⟨g26, h⟩ := oif_some h
  obtain ⟨n27, en27, h⟩ := obind_some h
  refine c_aldq E G n24 4 (k := a0.toNatClampNeg) (v := .ref (ad n27)) (aA_k g25).1 (cc_a104 (aA_k g25).2.1) rfl (inb_k g26).1 (inb_k g26).2 (aA_k g25).2.2 (by show va_rf ((T17.2.2.2.2 n24 a0.toNatClampNeg).map ad) = _; rw [en27]; rfl) dX11_waveAt_31 ?_
  clear en27
  refine lv_iload_n hx hb dX11_waveAt_32 rfl (lv_at hl 2 rfl) ?_
  obtain ⟨g28, h⟩ := oif_some h
  obtain ⟨r31, T29, eT29, h⟩ := obind2_some h
  refine q_cvi (As := [.int a1]) (rest := []) E G hA hX hN hml (u_X7_valueAt l hst D cI cJ cZ cMic cSrc cSt cAI cAJ ad T17 n27 a1 eT29) (cwV 1 hts (gaV qA_775 qA_507 qA_508 qA_458 qA_509) rfl rfl rfl (by decide +kernel) ⟨Nat.le_of_ble_eq_true rfl, Nat.le_of_ble_eq_true rfl⟩) (oO_k g28).1 (cc_o7 (oO_k g28).2) rfl rfl hl.1 rfl (lv_room (Nat.le_of_ble_eq_true rfl)) dX11_waveAt_33 ⟨Nat.zero_le _, Nat.zero_le _⟩ (fun q32 T30 H locs hq G => ?_)
  obtain ⟨hq1, hq2⟩ := hq
  rw [hq2] at G
  refine lv_to hq1 ?_
  clear hq1 hq2 eT29
  exact W.iret (v := r31) hx hb hr (fun t ht hW => ⟨⟨r31, T29, rfl, (osome3 h).2, ⟨by rw [ht]; exact G.1, va_K.moved hW.alike hK, G.2.1⟩⟩, G.2.2.F ht⟩) G.2.2.2.2 dX11_waveAt_36
set_option maxHeartbeats 4000000 in
set_option maxRecDepth 100000 in
theorem s_X11_waveAt {T : AT} {o : Nat} {a0 : Int32} {a1 : Int32} {e1 : Nat} {r1 : Int32} {T1 : AT} (h : g_X11_waveAt T o a0 a1 = some (e1, r1, T1)) : SP T T1 := by
  have p0 := SP.rf T
  unfold g_X11_waveAt at h
  obtain ⟨g2, h⟩ := oif_some h
  rcases othr_s h with ⟨k9, r9, e9, -⟩ | ⟨r4, T3, eT3, h⟩
  · exact SP.tr p0 (s_X11_needCamera e9)
  have p1 : SP T T3 := SP.tr p0 (s_X11_needCamera eT3)
  obtain ⟨g5, h⟩ := oif_some h
  rcases othr_s h with ⟨k9, r9, e9, -⟩ | ⟨r7, T6, eT6, h⟩
  · exact SP.tr p1 (s_X11_needSource e9)
  have p2 : SP T T6 := SP.tr p1 (s_X11_needSource eT6)
  obtain ⟨g8, h⟩ := oif_some h
  obtain ⟨n9, en9, h⟩ := obind_some h
  obtain ⟨g10, h⟩ := oif_some h
  obtain ⟨v11, -, h⟩ := elet_some h
  obtain ⟨v12, -, h⟩ := elet_some h
  rcases othr_s h with ⟨k9, r9, e9, -⟩ | ⟨r14, T13, eT13, h⟩
  · exact SP.tr p2 (s_X11_needRange e9)
  have p3 : SP T T13 := SP.tr p2 (s_X11_needRange eT13)
  obtain ⟨g15, h⟩ := oif_some h
  obtain ⟨n16, en16, h⟩ := obind_some h
  obtain ⟨g17, h⟩ := oif_some h
  obtain ⟨n18, en18, h⟩ := obind_some h
  obtain ⟨g19, h⟩ := oif_some h
  obtain ⟨g20, h⟩ := oif_some h
  obtain ⟨n21, en21, h⟩ := obind_some h
  obtain ⟨g22, h⟩ := oif_some h
  obtain ⟨r24, T23, eT23, h⟩ := obind2_some h
  have p4 : SP T T23 := SP.tr p3 (s_X7_valueAt eT23)
  rw [← (osome3 h).2.2]
  exact p4
set_option maxHeartbeats 4000000 in
set_option maxRecDepth 100000 in
theorem x_X11_waveAt (l : Launch) (hst : l.stackTraces = false) (D : va_G) (cI cJ cZ cMic cSrc cSt cAI cAJ : ClassId) (ad : Nat → Nat) (T : AT) (o : Nat) (a0 : Int32) (a1 : Int32) {e1 : Nat} {r1 : Int32} {T1 : AT} (h : g_X11_waveAt T o a0 a1 = some (e1 + 1, r1, T1)) : kXi l yX11_waveAt (Cond.code yX11_waveAt cX11_waveAt 3 (some .int) :: wsA) 8 123 cI cJ cZ cMic cSrc cSt cAI cAJ D ad T [.ref (ad o), .int a0, .int a1] e1 T1 := by
  intro sz
  refine vx_ofW (cc := cX11_waveAt) (maxL := 3) (ret := (some .int)) (by decide) rfl ?_
  intro p e s m args below meth c s₁ B hml htab hv
  obtain ⟨rfl, hsz, hP, hK, hD0, hX, hN⟩ := hv
  have hx := B.exec
  have hb := B.bytes
  have hr := B.returns
  have hts := atoms_spec (ws := (Cond.code yX11_waveAt cX11_waveAt 3 (some .int) :: wsA)) B.pre
  have hown : s.vm.findClass RX11 = some m.cls := findClass_of_methodNamed B.named
  have hlocks := B.notSynchronized
  subst hsz
  have hD := hD0.self (sz := s.heap.size)
  generalize hAe : va_A (cW ad T.1 (cc cI cJ cZ cMic cSrc cSt cAI cAJ ad T)) s.heap.size = A at hD hX ⊢
  have hA : ∀ q : Nat, s.heap.size ≤ q → A q := fun q h => by rw [← hAe]; exact Or.inr h
  have G : gC cI cJ cZ cMic cSrc cSt cAI cAJ D ad A s.heap s.heap [] T := ⟨hP, hD, va_S.rf⟩
  have E : cE p c cX11_waveAt s m ([.ref (ad o), .int a0, .int a1] : List Value).toArray (Cond.code yX11_waveAt cX11_waveAt 3 (some .int) :: wsA) D RX11 (CT cI cJ cZ cMic cSrc cSt cAI cAJ) := ⟨hx, hb, hts, hown, hK⟩
  have htab : ∀ x ∈ c.exceptionTable.toList, False := fun x hx => htab x hx
  have hl := lv_entry ([.ref (ad o), .int a0, .int a1]) (n := 3) (Nat.le_of_ble_eq_true rfl)
  rw [lg_entry_eq]
  generalize (lg_sl ([.ref (ad o), .int a0, .int a1]) ++ List.replicate (3 - (lg_sl ([.ref (ad o), .int a0, .int a1])).length) Slot.unset).toArray = ls at hl ⊢
  have hl : lv_has ls 3 [(0, .ref (ad o)), (1, .int a0), (2, .int a1)] := hl
  unfold g_X11_waveAt at h
  refine lv_aload_n hx hb dX11_waveAt_0 rfl (lv_at hl 0 rfl) ?_
  obtain ⟨g2, h⟩ := oif_some h
  rcases othr_t h with ⟨r0, eT3⟩ | ⟨r5, T3, eT3, h⟩
  · refine q_xvv (As := []) (rest := []) E G hA hX hN hml (x_X11_needCamera l hst D cI cJ cZ cMic cSrc cSt cAI cAJ ad T o eT3) (cwV 0 hts (gaV qA_728 qA_729 qA_730 qA_131 qA_731) rfl rfl rfl (by decide +kernel) ⟨Nat.le_of_ble_eq_true rfl, Nat.le_of_ble_eq_true rfl⟩) (oO_k g2).1 (cc_o11 (oO_k g2).2) rfl rfl hl.1 rfl (lv_room (Nat.le_of_ble_eq_true rfl)) dX11_waveAt_1 ⟨Nat.le_of_ble_eq_true rfl, Nat.le_of_ble_eq_true rfl⟩ (fun E9 ce q9 T9 H locs hp G hce hcv hcl => ?_)
    obtain ⟨hE, hT⟩ := hp
    subst hE
    rw [hT] at G
    exact vx_out (fun x hx => (htab x hx).elim) hlocks hce hcv hcl (fun t ht hvm => ⟨T1, trivial, ⟨⟨rfl, rfl⟩, by rw [ht]; exact G.1, va_K.moved hvm hK, G.2.1⟩, G.2.2.F ht⟩) G.2.2.2.2 (Nat.le_refl _) (Nat.le_refl _)
  refine q_cvv (As := []) (rest := []) E G hA hX hN hml (u_X11_needCamera l hst D cI cJ cZ cMic cSrc cSt cAI cAJ ad T o eT3) (cwV 0 hts (gaV qA_728 qA_729 qA_730 qA_131 qA_731) rfl rfl rfl (by decide +kernel) ⟨Nat.le_of_ble_eq_true rfl, Nat.le_of_ble_eq_true rfl⟩) (oO_k g2).1 (cc_o11 (oO_k g2).2) rfl rfl hl.1 rfl (lv_room (Nat.le_of_ble_eq_true rfl)) dX11_waveAt_1 ⟨Nat.zero_le _, Nat.zero_le _⟩ (fun T4 H locs hq G => ?_)
  rw [hq] at G
  clear hq eT3
  refine lv_aload_n hx hb dX11_waveAt_4 rfl (lv_at hl 0 rfl) ?_
  refine lv_iload_n hx hb dX11_waveAt_5 rfl (lv_at hl 1 rfl) ?_
  obtain ⟨g7, h⟩ := oif_some h
  rcases othr_t h with ⟨r0, eT8⟩ | ⟨r10, T8, eT8, h⟩
  · refine q_xvv (As := [.int a0]) (rest := []) E G hA hX hN hml (x_X11_needSource l hst D cI cJ cZ cMic cSrc cSt cAI cAJ ad T3 o a0 eT8) (cwV 1 hts (gaV qA_766 qA_767 qA_768 qA_131 qA_769) rfl rfl rfl (by decide +kernel) ⟨Nat.le_of_ble_eq_true rfl, Nat.le_of_ble_eq_true rfl⟩) (oO_k g7).1 (cc_o11 (oO_k g7).2) rfl rfl hl.1 rfl (lv_room (Nat.le_of_ble_eq_true rfl)) dX11_waveAt_6 ⟨Nat.le_of_ble_eq_true rfl, Nat.le_of_ble_eq_true rfl⟩ (fun E9 ce q9 T9 H locs hp G hce hcv hcl => ?_)
    obtain ⟨hE, hT⟩ := hp
    subst hE
    rw [hT] at G
    exact vx_out (fun x hx => (htab x hx).elim) hlocks hce hcv hcl (fun t ht hvm => ⟨T1, trivial, ⟨⟨rfl, rfl⟩, by rw [ht]; exact G.1, va_K.moved hvm hK, G.2.1⟩, G.2.2.F ht⟩) G.2.2.2.2 (Nat.le_refl _) (Nat.le_refl _)
  refine q_cvv (As := [.int a0]) (rest := []) E G hA hX hN hml (u_X11_needSource l hst D cI cJ cZ cMic cSrc cSt cAI cAJ ad T3 o a0 eT8) (cwV 1 hts (gaV qA_766 qA_767 qA_768 qA_131 qA_769) rfl rfl rfl (by decide +kernel) ⟨Nat.le_of_ble_eq_true rfl, Nat.le_of_ble_eq_true rfl⟩) (oO_k g7).1 (cc_o11 (oO_k g7).2) rfl rfl hl.1 rfl (lv_room (Nat.le_of_ble_eq_true rfl)) dX11_waveAt_6 ⟨Nat.zero_le _, Nat.zero_le _⟩ (fun T9 H locs hq G => ?_)
  rw [hq] at G
  clear hq eT8
  refine lv_iload_n hx hb dX11_waveAt_9 rfl (lv_at hl 2 rfl) ?_
  refine lv_iconst (v := 0) hx hb dX11_waveAt_10 (by decide) ?_
  refine lv_aload_n hx hb dX11_waveAt_11 rfl (lv_at hl 0 rfl) ?_
  obtain ⟨g12, h⟩ := oif_some h
  obtain ⟨n13, en13, h⟩ := obind_some h
  refine c_get E G o 14 (v := .ref (ad n13)) (oO_k g12).1 (cc_o11 (oO_k g12).2) rfl (fun w h => .tail _ (iA_23 h)) (by decide) (.tail _ qA_675) rfl (by rw [en13]; rfl) dX11_waveAt_12 ?_
  clear en13
  obtain ⟨g14, h⟩ := oif_some h
  refine c_get E G n13 2 (oO_k g14).1 (cc_o6 (oO_k g14).2) rfl (fun w h => .tail _ (iA_14 h)) (by decide) (.tail _ qA_761) rfl rfl dX11_waveAt_15 ?_
  refine lv_topi (fun v15 ev15 => ?_)
  have h := elet_at ev15 h
  clear ev15
  refine lv_iconst (v := 1) hx hb dX11_waveAt_18 (by decide) ?_
  refine lv_isub hx hb dX11_waveAt_19 ?_
  refine lv_topi (fun v16 ev16 => ?_)
  have h := elet_at ev16 h
  clear ev16
  rcases othr_t h with ⟨r0, eT17⟩ | ⟨r19, T17, eT17, h⟩
  · refine q_xsv (As := [.int a1, .int 0, .int v16]) (rest := []) E G hA hX hN hml (x_X11_needRange l hst D cI cJ cZ cMic cSrc cSt cAI cAJ ad T8 a1 (0 : Int32) v16 eT17) (cwS 3 hts (gaS qA_741 qA_742 qA_131 qA_743) rfl rfl rfl (by decide +kernel) ⟨Nat.le_of_ble_eq_true rfl, Nat.le_of_ble_eq_true rfl⟩) rfl hl.1 rfl (lv_room (Nat.le_of_ble_eq_true rfl)) dX11_waveAt_20 ⟨Nat.le_of_ble_eq_true rfl, Nat.le_of_ble_eq_true rfl⟩ (fun E9 ce q9 T9 H locs hp G hce hcv hcl => ?_)
    obtain ⟨hE, hT⟩ := hp
    subst hE
    rw [hT] at G
    exact vx_out (fun x hx => (htab x hx).elim) hlocks hce hcv hcl (fun t ht hvm => ⟨T1, trivial, ⟨⟨rfl, rfl⟩, by rw [ht]; exact G.1, va_K.moved hvm hK, G.2.1⟩, G.2.2.F ht⟩) G.2.2.2.2 (Nat.le_refl _) (Nat.le_refl _)
  refine q_csv (As := [.int a1, .int 0, .int v16]) (rest := []) E G hA hX hN hml (u_X11_needRange l hst D cI cJ cZ cMic cSrc cSt cAI cAJ ad T8 a1 (0 : Int32) v16 eT17) (cwS 3 hts (gaS qA_741 qA_742 qA_131 qA_743) rfl rfl rfl (by decide +kernel) ⟨Nat.le_of_ble_eq_true rfl, Nat.le_of_ble_eq_true rfl⟩) rfl hl.1 rfl (lv_room (Nat.le_of_ble_eq_true rfl)) dX11_waveAt_20 ⟨Nat.zero_le _, Nat.zero_le _⟩ (fun T18 H locs hq G => ?_)
  rw [hq] at G
  clear hq eT17
  refine lv_aload_n hx hb dX11_waveAt_23 rfl (lv_at hl 0 rfl) ?_
  obtain ⟨g21, h⟩ := oif_some h
  obtain ⟨n22, en22, h⟩ := obind_some h
  refine c_get E G o 14 (v := .ref (ad n22)) (oO_k g21).1 (cc_o11 (oO_k g21).2) rfl (fun w h => .tail _ (iA_23 h)) (by decide) (.tail _ qA_675) rfl (by rw [en22]; rfl) dX11_waveAt_24 ?_
  clear en22
  obtain ⟨g23, h⟩ := oif_some h
  obtain ⟨n24, en24, h⟩ := obind_some h
  refine c_get E G n22 7 (v := .ref (ad n24)) (oO_k g23).1 (cc_o6 (oO_k g23).2) rfl (fun w h => .tail _ (iA_14 h)) (by decide) (.tail _ qA_774) rfl (by rw [en24]; rfl) dX11_waveAt_27 ?_
  clear en24
  refine lv_iload_n hx hb dX11_waveAt_30 rfl (lv_at hl 1 rfl) ?_
  obtain ⟨g25, h⟩ := oif_some h
  obtain ⟨g26, h⟩ := oif_some h
  obtain ⟨n27, en27, h⟩ := obind_some h
  refine c_aldq E G n24 4 (k := a0.toNatClampNeg) (v := .ref (ad n27)) (aA_k g25).1 (cc_a104 (aA_k g25).2.1) rfl (inb_k g26).1 (inb_k g26).2 (aA_k g25).2.2 (by show va_rf ((T17.2.2.2.2 n24 a0.toNatClampNeg).map ad) = _; rw [en27]; rfl) dX11_waveAt_31 ?_
  clear en27
  refine lv_iload_n hx hb dX11_waveAt_32 rfl (lv_at hl 2 rfl) ?_
  obtain ⟨g28, h⟩ := oif_some h
  obtain ⟨r31, T29, eT29, h⟩ := obind2_some h
  refine q_cvi (As := [.int a1]) (rest := []) E G hA hX hN hml (u_X7_valueAt l hst D cI cJ cZ cMic cSrc cSt cAI cAJ ad T17 n27 a1 eT29) (cwV 1 hts (gaV qA_775 qA_507 qA_508 qA_458 qA_509) rfl rfl rfl (by decide +kernel) ⟨Nat.le_of_ble_eq_true rfl, Nat.le_of_ble_eq_true rfl⟩) (oO_k g28).1 (cc_o7 (oO_k g28).2) rfl rfl hl.1 rfl (lv_room (Nat.le_of_ble_eq_true rfl)) dX11_waveAt_33 ⟨Nat.zero_le _, Nat.zero_le _⟩ (fun q32 T30 H locs hq G => ?_)
  obtain ⟨hq1, hq2⟩ := hq
  rw [hq2] at G
  refine lv_to hq1 ?_
  clear hq1 hq2 eT29
  exact (Nat.succ_ne_zero _ (congrArg Prod.fst (Option.some.inj h)).symm).elim
def g_X11_samples (T : AT) (o : Nat) : Option (Int32 × AT) := oif (oO T o 11 = true) <| obind (T.2.2.2.2 o 14) fun n3 => oif (oO T n3 6 = true) <| elet (T.2.2.1 n3 2) fun v5 => some (v5, T)
set_option maxHeartbeats 4000000 in
set_option maxRecDepth 100000 in
theorem u_X11_samples (l : Launch) (hst : l.stackTraces = false) (D : va_G) (cI cJ cZ cMic cSrc cSt cAI cAJ : ClassId) (ad : Nat → Nat) (T : AT) (o : Nat) {r1 : Int32} {T1 : AT} (h : g_X11_samples T o = some (r1, T1)) : kCi l yX11_samples (Cond.code yX11_samples cX11_samples 1 (some .int) :: wsA) 1 0 cI cJ cZ cMic cSrc cSt cAI cAJ D ad T [.ref (ad o)] (fun r T9 => r = r1 ∧ T9 = T1) := by
  intro sz
  refine Met.ofW (cc := cX11_samples) (maxL := 1) (ret := (some .int)) (by decide) rfl ?_
  intro p e s m args below meth c s₁ B hml hv
  obtain ⟨rfl, hsz, hP, hK, hD0, hX, hN⟩ := hv
  have hx := B.exec
  have hb := B.bytes
  have hr := B.returns
  have hts := atoms_spec (ws := (Cond.code yX11_samples cX11_samples 1 (some .int) :: wsA)) B.pre
  have hown : s.vm.findClass RX11 = some m.cls := findClass_of_methodNamed B.named
  have hlocks := B.notSynchronized
  subst hsz
  have hD := hD0.self (sz := s.heap.size)
  generalize hAe : va_A (cW ad T.1 (cc cI cJ cZ cMic cSrc cSt cAI cAJ ad T)) s.heap.size = A at hD hX ⊢
  have hA : ∀ q : Nat, s.heap.size ≤ q → A q := fun q h => by rw [← hAe]; exact Or.inr h
  have G : gC cI cJ cZ cMic cSrc cSt cAI cAJ D ad A s.heap s.heap [] T := ⟨hP, hD, va_S.rf⟩
  have E : cE p c cX11_samples s m ([.ref (ad o)] : List Value).toArray (Cond.code yX11_samples cX11_samples 1 (some .int) :: wsA) D RX11 (CT cI cJ cZ cMic cSrc cSt cAI cAJ) := ⟨hx, hb, hts, hown, hK⟩
  have hl := lv_entry ([.ref (ad o)]) (n := 1) (Nat.le_of_ble_eq_true rfl)
  rw [lg_entry_eq]
  generalize (lg_sl ([.ref (ad o)]) ++ List.replicate (1 - (lg_sl ([.ref (ad o)])).length) Slot.unset).toArray = ls at hl ⊢
  have hl : lv_has ls 1 [(0, .ref (ad o))] := hl
  unfold g_X11_samples at h
  refine lv_aload_n hx hb dX11_samples_0 rfl (lv_at hl 0 rfl) ?_
  obtain ⟨g2, h⟩ := oif_some h
  obtain ⟨n3, en3, h⟩ := obind_some h
  refine c_get E G o 14 (v := .ref (ad n3)) (oO_k g2).1 (cc_o11 (oO_k g2).2) rfl (fun w h => .tail _ (iA_23 h)) (by decide) (.tail _ qA_675) rfl (by rw [en3]; rfl) dX11_samples_1 ?_
  clear en3
  obtain ⟨g4, h⟩ := oif_some h
  refine c_get E G n3 2 (oO_k g4).1 (cc_o6 (oO_k g4).2) rfl (fun w h => .tail _ (iA_14 h)) (by decide) (.tail _ qA_761) rfl rfl dX11_samples_4 ?_
  refine lv_topi (fun v5 ev5 => ?_)
  have h := elet_at ev5 h
  clear ev5
  exact W.iret (v := v5) hx hb hr (fun t ht hW => ⟨⟨v5, T, rfl, osome2 h, ⟨by rw [ht]; exact G.1, va_K.moved hW.alike hK, G.2.1⟩⟩, G.2.2.F ht⟩) G.2.2.2.2 dX11_samples_7
set_option maxHeartbeats 4000000 in
set_option maxRecDepth 100000 in
theorem s_X11_samples {T : AT} {o : Nat} {r1 : Int32} {T1 : AT} (h : g_X11_samples T o = some (r1, T1)) : SP T T1 := by
  have p0 := SP.rf T
  unfold g_X11_samples at h
  obtain ⟨g2, h⟩ := oif_some h
  obtain ⟨n3, en3, h⟩ := obind_some h
  obtain ⟨g4, h⟩ := oif_some h
  obtain ⟨v5, -, h⟩ := elet_some h
  rw [← (osome2 h).2]
  exact p0
def g_X11_delay (T : AT) (o : Nat) (a0 : Int32) (a1 : Int32) : Option (Nat × Int32 × AT) := oif (oO T o 11 = true) <| othr (g_X11_needCamera T o) 0 fun r5 T3 => oif (oO T3 o 11 = true) <| othr (g_X11_needMic T3 o a0) 0 fun r10 T8 => oif (oO T8 o 11 = true) <| othr (g_X11_needCell T8 o a1) 0 fun r15 T13 => oif (oO T13 o 11 = true) <| obind (T13.2.2.2.2 o 14) fun n18 => oif (oO T13 n18 6 = true) <| obind (T13.2.2.2.2 n18 17) fun n20 => oif (aA T13 n20 106 = true) <| oif (inb a1 (T13.2.1 n20).2 = true) <| obind (T13.2.2.2.2 n20 a1.toNatClampNeg) fun n23 => oif (aA T13 n23 100 = true) <| oif (inb a0 (T13.2.1 n23).2 = true) <| elet (T13.2.2.1 n23 a0.toNatClampNeg) fun v26 => some (0, v26, T13)
set_option maxHeartbeats 4000000 in
set_option maxRecDepth 100000 in
theorem u_X11_delay (l : Launch) (hst : l.stackTraces = false) (D : va_G) (cI cJ cZ cMic cSrc cSt cAI cAJ : ClassId) (ad : Nat → Nat) (T : AT) (o : Nat) (a0 : Int32) (a1 : Int32) {r1 : Int32} {T1 : AT} (h : g_X11_delay T o a0 a1 = some (0, r1, T1)) : kCi l yX11_delay (Cond.code yX11_delay cX11_delay 3 (some .int) :: wsA) 8 123 cI cJ cZ cMic cSrc cSt cAI cAJ D ad T [.ref (ad o), .int a0, .int a1] (fun r T9 => r = r1 ∧ T9 = T1) := by
  intro sz
  refine Met.ofW (cc := cX11_delay) (maxL := 3) (ret := (some .int)) (by decide) rfl ?_
  intro p e s m args below meth c s₁ B hml hv
  obtain ⟨rfl, hsz, hP, hK, hD0, hX, hN⟩ := hv
  have hx := B.exec
  have hb := B.bytes
  have hr := B.returns
  have hts := atoms_spec (ws := (Cond.code yX11_delay cX11_delay 3 (some .int) :: wsA)) B.pre
  have hown : s.vm.findClass RX11 = some m.cls := findClass_of_methodNamed B.named
  have hlocks := B.notSynchronized
  subst hsz
  have hD := hD0.self (sz := s.heap.size)
  generalize hAe : va_A (cW ad T.1 (cc cI cJ cZ cMic cSrc cSt cAI cAJ ad T)) s.heap.size = A at hD hX ⊢
  have hA : ∀ q : Nat, s.heap.size ≤ q → A q := fun q h => by rw [← hAe]; exact Or.inr h
  have G : gC cI cJ cZ cMic cSrc cSt cAI cAJ D ad A s.heap s.heap [] T := ⟨hP, hD, va_S.rf⟩
  have E : cE p c cX11_delay s m ([.ref (ad o), .int a0, .int a1] : List Value).toArray (Cond.code yX11_delay cX11_delay 3 (some .int) :: wsA) D RX11 (CT cI cJ cZ cMic cSrc cSt cAI cAJ) := ⟨hx, hb, hts, hown, hK⟩
  have hl := lv_entry ([.ref (ad o), .int a0, .int a1]) (n := 3) (Nat.le_of_ble_eq_true rfl)
  rw [lg_entry_eq]
  generalize (lg_sl ([.ref (ad o), .int a0, .int a1]) ++ List.replicate (3 - (lg_sl ([.ref (ad o), .int a0, .int a1])).length) Slot.unset).toArray = ls at hl ⊢
  have hl : lv_has ls 3 [(0, .ref (ad o)), (1, .int a0), (2, .int a1)] := hl
  unfold g_X11_delay at h
  refine lv_aload_n hx hb dX11_delay_0 rfl (lv_at hl 0 rfl) ?_
  obtain ⟨g2, h⟩ := oif_some h
  obtain ⟨r5, T3, eT3, h⟩ := othr_n h
  refine q_cvv (As := []) (rest := []) E G hA hX hN hml (u_X11_needCamera l hst D cI cJ cZ cMic cSrc cSt cAI cAJ ad T o eT3) (cwV 0 hts (gaV qA_728 qA_729 qA_730 qA_131 qA_731) rfl rfl rfl (by decide +kernel) ⟨Nat.le_of_ble_eq_true rfl, Nat.le_of_ble_eq_true rfl⟩) (oO_k g2).1 (cc_o11 (oO_k g2).2) rfl rfl hl.1 rfl (lv_room (Nat.le_of_ble_eq_true rfl)) dX11_delay_1 ⟨Nat.zero_le _, Nat.zero_le _⟩ (fun T4 H locs hq G => ?_)
  rw [hq] at G
  clear hq eT3
  refine lv_aload_n hx hb dX11_delay_4 rfl (lv_at hl 0 rfl) ?_
  refine lv_iload_n hx hb dX11_delay_5 rfl (lv_at hl 1 rfl) ?_
  obtain ⟨g7, h⟩ := oif_some h
  obtain ⟨r10, T8, eT8, h⟩ := othr_n h
  refine q_cvv (As := [.int a0]) (rest := []) E G hA hX hN hml (u_X11_needMic l hst D cI cJ cZ cMic cSrc cSt cAI cAJ ad T3 o a0 eT8) (cwV 1 hts (gaV qA_734 qA_735 qA_736 qA_131 qA_737) rfl rfl rfl (by decide +kernel) ⟨Nat.le_of_ble_eq_true rfl, Nat.le_of_ble_eq_true rfl⟩) (oO_k g7).1 (cc_o11 (oO_k g7).2) rfl rfl hl.1 rfl (lv_room (Nat.le_of_ble_eq_true rfl)) dX11_delay_6 ⟨Nat.zero_le _, Nat.zero_le _⟩ (fun T9 H locs hq G => ?_)
  rw [hq] at G
  clear hq eT8
  refine lv_aload_n hx hb dX11_delay_9 rfl (lv_at hl 0 rfl) ?_
  refine lv_iload_n hx hb dX11_delay_10 rfl (lv_at hl 2 rfl) ?_
  obtain ⟨g12, h⟩ := oif_some h
  obtain ⟨r15, T13, eT13, h⟩ := othr_n h
  refine q_cvv (As := [.int a1]) (rest := []) E G hA hX hN hml (u_X11_needCell l hst D cI cJ cZ cMic cSrc cSt cAI cAJ ad T8 o a1 eT13) (cwV 1 hts (gaV qA_752 qA_753 qA_754 qA_131 qA_755) rfl rfl rfl (by decide +kernel) ⟨Nat.le_of_ble_eq_true rfl, Nat.le_of_ble_eq_true rfl⟩) (oO_k g12).1 (cc_o11 (oO_k g12).2) rfl rfl hl.1 rfl (lv_room (Nat.le_of_ble_eq_true rfl)) dX11_delay_11 ⟨Nat.zero_le _, Nat.zero_le _⟩ (fun T14 H locs hq G => ?_)
  rw [hq] at G
  clear hq eT13
  refine lv_aload_n hx hb dX11_delay_14 rfl (lv_at hl 0 rfl) ?_
  obtain ⟨g17, h⟩ := oif_some h
  obtain ⟨n18, en18, h⟩ := obind_some h
  refine c_get E G o 14 (v := .ref (ad n18)) (oO_k g17).1 (cc_o11 (oO_k g17).2) rfl (fun w h => .tail _ (iA_23 h)) (by decide) (.tail _ qA_675) rfl (by rw [en18]; rfl) dX11_delay_15 ?_
  clear en18
  obtain ⟨g19, h⟩ := oif_some h
  obtain ⟨n20, en20, h⟩ := obind_some h
  refine c_get E G n18 17 (v := .ref (ad n20)) (oO_k g19).1 (cc_o6 (oO_k g19).2) rfl (fun w h => .tail _ (iA_14 h)) (by decide) (.tail _ qA_778) rfl (by rw [en20]; rfl) dX11_delay_18 ?_
  clear en20
  refine lv_iload_n hx hb dX11_delay_21 rfl (lv_at hl 2 rfl) ?_
  obtain ⟨g21, h⟩ := oif_some h
  obtain ⟨g22, h⟩ := oif_some h
  obtain ⟨n23, en23, h⟩ := obind_some h
  refine c_alda E G n20 6 (k := a1.toNatClampNeg) (v := .ref (ad n23)) (aA_k g21).1 (cc_a106 (aA_k g21).2.1) rfl (inb_k g22).1 (inb_k g22).2 (aA_k g21).2.2 (by show va_rf ((T13.2.2.2.2 n20 a1.toNatClampNeg).map ad) = _; rw [en23]; rfl) dX11_delay_22 ?_
  clear en23
  refine lv_iload_n hx hb dX11_delay_23 rfl (lv_at hl 1 rfl) ?_
  obtain ⟨g24, h⟩ := oif_some h
  obtain ⟨g25, h⟩ := oif_some h
  refine c_iald E G n23 0 (k := a0.toNatClampNeg) (aA_k g24).1 (cc_a100 (aA_k g24).2.1) rfl (inb_k g25).1 (inb_k g25).2 (aA_k g24).2.2 dX11_delay_24 ?_
  refine lv_topi (fun v26 ev26 => ?_)
  have h := elet_at ev26 h
  clear ev26
  exact W.iret (v := v26) hx hb hr (fun t ht hW => ⟨⟨v26, T13, rfl, (osome3 h).2, ⟨by rw [ht]; exact G.1, va_K.moved hW.alike hK, G.2.1⟩⟩, G.2.2.F ht⟩) G.2.2.2.2 dX11_delay_25
set_option maxHeartbeats 4000000 in
set_option maxRecDepth 100000 in
theorem s_X11_delay {T : AT} {o : Nat} {a0 : Int32} {a1 : Int32} {e1 : Nat} {r1 : Int32} {T1 : AT} (h : g_X11_delay T o a0 a1 = some (e1, r1, T1)) : SP T T1 := by
  have p0 := SP.rf T
  unfold g_X11_delay at h
  obtain ⟨g2, h⟩ := oif_some h
  rcases othr_s h with ⟨k9, r9, e9, -⟩ | ⟨r4, T3, eT3, h⟩
  · exact SP.tr p0 (s_X11_needCamera e9)
  have p1 : SP T T3 := SP.tr p0 (s_X11_needCamera eT3)
  obtain ⟨g5, h⟩ := oif_some h
  rcases othr_s h with ⟨k9, r9, e9, -⟩ | ⟨r7, T6, eT6, h⟩
  · exact SP.tr p1 (s_X11_needMic e9)
  have p2 : SP T T6 := SP.tr p1 (s_X11_needMic eT6)
  obtain ⟨g8, h⟩ := oif_some h
  rcases othr_s h with ⟨k9, r9, e9, -⟩ | ⟨r10, T9, eT9, h⟩
  · exact SP.tr p2 (s_X11_needCell e9)
  have p3 : SP T T9 := SP.tr p2 (s_X11_needCell eT9)
  obtain ⟨g11, h⟩ := oif_some h
  obtain ⟨n12, en12, h⟩ := obind_some h
  obtain ⟨g13, h⟩ := oif_some h
  obtain ⟨n14, en14, h⟩ := obind_some h
  obtain ⟨g15, h⟩ := oif_some h
  obtain ⟨g16, h⟩ := oif_some h
  obtain ⟨n17, en17, h⟩ := obind_some h
  obtain ⟨g18, h⟩ := oif_some h
  obtain ⟨g19, h⟩ := oif_some h
  obtain ⟨v20, -, h⟩ := elet_some h
  rw [← (osome3 h).2.2]
  exact p3
set_option maxHeartbeats 4000000 in
set_option maxRecDepth 100000 in
theorem x_X11_delay (l : Launch) (hst : l.stackTraces = false) (D : va_G) (cI cJ cZ cMic cSrc cSt cAI cAJ : ClassId) (ad : Nat → Nat) (T : AT) (o : Nat) (a0 : Int32) (a1 : Int32) {e1 : Nat} {r1 : Int32} {T1 : AT} (h : g_X11_delay T o a0 a1 = some (e1 + 1, r1, T1)) : kXi l yX11_delay (Cond.code yX11_delay cX11_delay 3 (some .int) :: wsA) 8 123 cI cJ cZ cMic cSrc cSt cAI cAJ D ad T [.ref (ad o), .int a0, .int a1] e1 T1 := by
  intro sz
  refine vx_ofW (cc := cX11_delay) (maxL := 3) (ret := (some .int)) (by decide) rfl ?_
  intro p e s m args below meth c s₁ B hml htab hv
  obtain ⟨rfl, hsz, hP, hK, hD0, hX, hN⟩ := hv
  have hx := B.exec
  have hb := B.bytes
  have hr := B.returns
  have hts := atoms_spec (ws := (Cond.code yX11_delay cX11_delay 3 (some .int) :: wsA)) B.pre
  have hown : s.vm.findClass RX11 = some m.cls := findClass_of_methodNamed B.named
  have hlocks := B.notSynchronized
  subst hsz
  have hD := hD0.self (sz := s.heap.size)
  generalize hAe : va_A (cW ad T.1 (cc cI cJ cZ cMic cSrc cSt cAI cAJ ad T)) s.heap.size = A at hD hX ⊢
  have hA : ∀ q : Nat, s.heap.size ≤ q → A q := fun q h => by rw [← hAe]; exact Or.inr h
  have G : gC cI cJ cZ cMic cSrc cSt cAI cAJ D ad A s.heap s.heap [] T := ⟨hP, hD, va_S.rf⟩
  have E : cE p c cX11_delay s m ([.ref (ad o), .int a0, .int a1] : List Value).toArray (Cond.code yX11_delay cX11_delay 3 (some .int) :: wsA) D RX11 (CT cI cJ cZ cMic cSrc cSt cAI cAJ) := ⟨hx, hb, hts, hown, hK⟩
  have htab : ∀ x ∈ c.exceptionTable.toList, False := fun x hx => htab x hx
  have hl := lv_entry ([.ref (ad o), .int a0, .int a1]) (n := 3) (Nat.le_of_ble_eq_true rfl)
  rw [lg_entry_eq]
  generalize (lg_sl ([.ref (ad o), .int a0, .int a1]) ++ List.replicate (3 - (lg_sl ([.ref (ad o), .int a0, .int a1])).length) Slot.unset).toArray = ls at hl ⊢
  have hl : lv_has ls 3 [(0, .ref (ad o)), (1, .int a0), (2, .int a1)] := hl
  unfold g_X11_delay at h
  refine lv_aload_n hx hb dX11_delay_0 rfl (lv_at hl 0 rfl) ?_
  obtain ⟨g2, h⟩ := oif_some h
  rcases othr_t h with ⟨r0, eT3⟩ | ⟨r5, T3, eT3, h⟩
  · refine q_xvv (As := []) (rest := []) E G hA hX hN hml (x_X11_needCamera l hst D cI cJ cZ cMic cSrc cSt cAI cAJ ad T o eT3) (cwV 0 hts (gaV qA_728 qA_729 qA_730 qA_131 qA_731) rfl rfl rfl (by decide +kernel) ⟨Nat.le_of_ble_eq_true rfl, Nat.le_of_ble_eq_true rfl⟩) (oO_k g2).1 (cc_o11 (oO_k g2).2) rfl rfl hl.1 rfl (lv_room (Nat.le_of_ble_eq_true rfl)) dX11_delay_1 ⟨Nat.le_of_ble_eq_true rfl, Nat.le_of_ble_eq_true rfl⟩ (fun E9 ce q9 T9 H locs hp G hce hcv hcl => ?_)
    obtain ⟨hE, hT⟩ := hp
    subst hE
    rw [hT] at G
    exact vx_out (fun x hx => (htab x hx).elim) hlocks hce hcv hcl (fun t ht hvm => ⟨T1, trivial, ⟨⟨rfl, rfl⟩, by rw [ht]; exact G.1, va_K.moved hvm hK, G.2.1⟩, G.2.2.F ht⟩) G.2.2.2.2 (Nat.le_refl _) (Nat.le_refl _)
  refine q_cvv (As := []) (rest := []) E G hA hX hN hml (u_X11_needCamera l hst D cI cJ cZ cMic cSrc cSt cAI cAJ ad T o eT3) (cwV 0 hts (gaV qA_728 qA_729 qA_730 qA_131 qA_731) rfl rfl rfl (by decide +kernel) ⟨Nat.le_of_ble_eq_true rfl, Nat.le_of_ble_eq_true rfl⟩) (oO_k g2).1 (cc_o11 (oO_k g2).2) rfl rfl hl.1 rfl (lv_room (Nat.le_of_ble_eq_true rfl)) dX11_delay_1 ⟨Nat.zero_le _, Nat.zero_le _⟩ (fun T4 H locs hq G => ?_)
  rw [hq] at G
  clear hq eT3
  refine lv_aload_n hx hb dX11_delay_4 rfl (lv_at hl 0 rfl) ?_
  refine lv_iload_n hx hb dX11_delay_5 rfl (lv_at hl 1 rfl) ?_
  obtain ⟨g7, h⟩ := oif_some h
  rcases othr_t h with ⟨r0, eT8⟩ | ⟨r10, T8, eT8, h⟩
  · refine q_xvv (As := [.int a0]) (rest := []) E G hA hX hN hml (x_X11_needMic l hst D cI cJ cZ cMic cSrc cSt cAI cAJ ad T3 o a0 eT8) (cwV 1 hts (gaV qA_734 qA_735 qA_736 qA_131 qA_737) rfl rfl rfl (by decide +kernel) ⟨Nat.le_of_ble_eq_true rfl, Nat.le_of_ble_eq_true rfl⟩) (oO_k g7).1 (cc_o11 (oO_k g7).2) rfl rfl hl.1 rfl (lv_room (Nat.le_of_ble_eq_true rfl)) dX11_delay_6 ⟨Nat.le_of_ble_eq_true rfl, Nat.le_of_ble_eq_true rfl⟩ (fun E9 ce q9 T9 H locs hp G hce hcv hcl => ?_)
    obtain ⟨hE, hT⟩ := hp
    subst hE
    rw [hT] at G
    exact vx_out (fun x hx => (htab x hx).elim) hlocks hce hcv hcl (fun t ht hvm => ⟨T1, trivial, ⟨⟨rfl, rfl⟩, by rw [ht]; exact G.1, va_K.moved hvm hK, G.2.1⟩, G.2.2.F ht⟩) G.2.2.2.2 (Nat.le_refl _) (Nat.le_refl _)
  refine q_cvv (As := [.int a0]) (rest := []) E G hA hX hN hml (u_X11_needMic l hst D cI cJ cZ cMic cSrc cSt cAI cAJ ad T3 o a0 eT8) (cwV 1 hts (gaV qA_734 qA_735 qA_736 qA_131 qA_737) rfl rfl rfl (by decide +kernel) ⟨Nat.le_of_ble_eq_true rfl, Nat.le_of_ble_eq_true rfl⟩) (oO_k g7).1 (cc_o11 (oO_k g7).2) rfl rfl hl.1 rfl (lv_room (Nat.le_of_ble_eq_true rfl)) dX11_delay_6 ⟨Nat.zero_le _, Nat.zero_le _⟩ (fun T9 H locs hq G => ?_)
  rw [hq] at G
  clear hq eT8
  refine lv_aload_n hx hb dX11_delay_9 rfl (lv_at hl 0 rfl) ?_
  refine lv_iload_n hx hb dX11_delay_10 rfl (lv_at hl 2 rfl) ?_
  obtain ⟨g12, h⟩ := oif_some h
  rcases othr_t h with ⟨r0, eT13⟩ | ⟨r15, T13, eT13, h⟩
  · refine q_xvv (As := [.int a1]) (rest := []) E G hA hX hN hml (x_X11_needCell l hst D cI cJ cZ cMic cSrc cSt cAI cAJ ad T8 o a1 eT13) (cwV 1 hts (gaV qA_752 qA_753 qA_754 qA_131 qA_755) rfl rfl rfl (by decide +kernel) ⟨Nat.le_of_ble_eq_true rfl, Nat.le_of_ble_eq_true rfl⟩) (oO_k g12).1 (cc_o11 (oO_k g12).2) rfl rfl hl.1 rfl (lv_room (Nat.le_of_ble_eq_true rfl)) dX11_delay_11 ⟨Nat.le_of_ble_eq_true rfl, Nat.le_of_ble_eq_true rfl⟩ (fun E9 ce q9 T9 H locs hp G hce hcv hcl => ?_)
    obtain ⟨hE, hT⟩ := hp
    subst hE
    rw [hT] at G
    exact vx_out (fun x hx => (htab x hx).elim) hlocks hce hcv hcl (fun t ht hvm => ⟨T1, trivial, ⟨⟨rfl, rfl⟩, by rw [ht]; exact G.1, va_K.moved hvm hK, G.2.1⟩, G.2.2.F ht⟩) G.2.2.2.2 (Nat.le_refl _) (Nat.le_refl _)
  refine q_cvv (As := [.int a1]) (rest := []) E G hA hX hN hml (u_X11_needCell l hst D cI cJ cZ cMic cSrc cSt cAI cAJ ad T8 o a1 eT13) (cwV 1 hts (gaV qA_752 qA_753 qA_754 qA_131 qA_755) rfl rfl rfl (by decide +kernel) ⟨Nat.le_of_ble_eq_true rfl, Nat.le_of_ble_eq_true rfl⟩) (oO_k g12).1 (cc_o11 (oO_k g12).2) rfl rfl hl.1 rfl (lv_room (Nat.le_of_ble_eq_true rfl)) dX11_delay_11 ⟨Nat.zero_le _, Nat.zero_le _⟩ (fun T14 H locs hq G => ?_)
  rw [hq] at G
  clear hq eT13
  refine lv_aload_n hx hb dX11_delay_14 rfl (lv_at hl 0 rfl) ?_
  obtain ⟨g17, h⟩ := oif_some h
  obtain ⟨n18, en18, h⟩ := obind_some h
  refine c_get E G o 14 (v := .ref (ad n18)) (oO_k g17).1 (cc_o11 (oO_k g17).2) rfl (fun w h => .tail _ (iA_23 h)) (by decide) (.tail _ qA_675) rfl (by rw [en18]; rfl) dX11_delay_15 ?_
  clear en18
  obtain ⟨g19, h⟩ := oif_some h
  obtain ⟨n20, en20, h⟩ := obind_some h
  refine c_get E G n18 17 (v := .ref (ad n20)) (oO_k g19).1 (cc_o6 (oO_k g19).2) rfl (fun w h => .tail _ (iA_14 h)) (by decide) (.tail _ qA_778) rfl (by rw [en20]; rfl) dX11_delay_18 ?_
  clear en20
  refine lv_iload_n hx hb dX11_delay_21 rfl (lv_at hl 2 rfl) ?_
  obtain ⟨g21, h⟩ := oif_some h
  obtain ⟨g22, h⟩ := oif_some h
  obtain ⟨n23, en23, h⟩ := obind_some h
  refine c_alda E G n20 6 (k := a1.toNatClampNeg) (v := .ref (ad n23)) (aA_k g21).1 (cc_a106 (aA_k g21).2.1) rfl (inb_k g22).1 (inb_k g22).2 (aA_k g21).2.2 (by show va_rf ((T13.2.2.2.2 n20 a1.toNatClampNeg).map ad) = _; rw [en23]; rfl) dX11_delay_22 ?_
  clear en23
  refine lv_iload_n hx hb dX11_delay_23 rfl (lv_at hl 1 rfl) ?_
  obtain ⟨g24, h⟩ := oif_some h
  obtain ⟨g25, h⟩ := oif_some h
  refine c_iald E G n23 0 (k := a0.toNatClampNeg) (aA_k g24).1 (cc_a100 (aA_k g24).2.1) rfl (inb_k g25).1 (inb_k g25).2 (aA_k g24).2.2 dX11_delay_24 ?_
  refine lv_topi (fun v26 ev26 => ?_)
  have h := elet_at ev26 h
  clear ev26
  exact (Nat.succ_ne_zero _ (congrArg Prod.fst (Option.some.inj h)).symm).elim
def g_X11_delayTo (T : AT) (o : Nat) (a0 : Int32) (a1 : Int32) (a2 : Int32) : Option (Nat × Int32 × AT) := oif (oO T o 11 = true) <| othr (g_X11_needCamera T o) 0 fun r5 T3 => oif (oO T3 o 11 = true) <| othr (g_X11_needMic T3 o a0) 0 fun r10 T8 => othr (g_X11_needRange T8 a1 ((-9999) : Int32) (9999 : Int32)) 0 fun r14 T12 => othr (g_X11_needRange T12 a2 ((-9999) : Int32) (9999 : Int32)) 0 fun r18 T16 => oif (oO T16 o 11 = true) <| obind (T16.2.2.2.2 o 14) fun n21 => oif (oO T16 o 11 = true) <| obind (T16.2.2.2.2 o 14) fun n23 => oif (oO T16 n23 6 = true) <| obind (T16.2.2.2.2 n23 4) fun n25 => oif (aA T16 n25 103 = true) <| oif (inb a0 (T16.2.1 n25).2 = true) <| obind (T16.2.2.2.2 n25 a0.toNatClampNeg) fun n28 => oif (oO T16 n21 6 = true) <| obind2 (g_X6_delayFrom T16 n21 n28 a1 a2) fun r32 T30 => some (0, r32, T30)
set_option maxHeartbeats 4000000 in
set_option maxRecDepth 100000 in
theorem u_X11_delayTo (l : Launch) (hst : l.stackTraces = false) (D : va_G) (cI cJ cZ cMic cSrc cSt cAI cAJ : ClassId) (ad : Nat → Nat) (T : AT) (o : Nat) (a0 : Int32) (a1 : Int32) (a2 : Int32) {r1 : Int32} {T1 : AT} (h : g_X11_delayTo T o a0 a1 a2 = some (0, r1, T1)) : kCi l yX11_delayTo (Cond.code yX11_delayTo cX11_delayTo 4 (some .int) :: wsA) 8 123 cI cJ cZ cMic cSrc cSt cAI cAJ D ad T [.ref (ad o), .int a0, .int a1, .int a2] (fun r T9 => r = r1 ∧ T9 = T1) := by
  intro sz
  refine Met.ofW (cc := cX11_delayTo) (maxL := 4) (ret := (some .int)) (by decide) rfl ?_
  intro p e s m args below meth c s₁ B hml hv
  obtain ⟨rfl, hsz, hP, hK, hD0, hX, hN⟩ := hv
  have hx := B.exec
  have hb := B.bytes
  have hr := B.returns
  have hts := atoms_spec (ws := (Cond.code yX11_delayTo cX11_delayTo 4 (some .int) :: wsA)) B.pre
  have hown : s.vm.findClass RX11 = some m.cls := findClass_of_methodNamed B.named
  have hlocks := B.notSynchronized
  subst hsz
  have hD := hD0.self (sz := s.heap.size)
  generalize hAe : va_A (cW ad T.1 (cc cI cJ cZ cMic cSrc cSt cAI cAJ ad T)) s.heap.size = A at hD hX ⊢
  have hA : ∀ q : Nat, s.heap.size ≤ q → A q := fun q h => by rw [← hAe]; exact Or.inr h
  have G : gC cI cJ cZ cMic cSrc cSt cAI cAJ D ad A s.heap s.heap [] T := ⟨hP, hD, va_S.rf⟩
  have E : cE p c cX11_delayTo s m ([.ref (ad o), .int a0, .int a1, .int a2] : List Value).toArray (Cond.code yX11_delayTo cX11_delayTo 4 (some .int) :: wsA) D RX11 (CT cI cJ cZ cMic cSrc cSt cAI cAJ) := ⟨hx, hb, hts, hown, hK⟩
  have hl := lv_entry ([.ref (ad o), .int a0, .int a1, .int a2]) (n := 4) (Nat.le_of_ble_eq_true rfl)
  rw [lg_entry_eq]
  generalize (lg_sl ([.ref (ad o), .int a0, .int a1, .int a2]) ++ List.replicate (4 - (lg_sl ([.ref (ad o), .int a0, .int a1, .int a2])).length) Slot.unset).toArray = ls at hl ⊢
  have hl : lv_has ls 4 [(0, .ref (ad o)), (1, .int a0), (2, .int a1), (3, .int a2)] := hl
  unfold g_X11_delayTo at h
  refine lv_aload_n hx hb dX11_delayTo_0 rfl (lv_at hl 0 rfl) ?_
  obtain ⟨g2, h⟩ := oif_some h
  obtain ⟨r5, T3, eT3, h⟩ := othr_n h
  refine q_cvv (As := []) (rest := []) E G hA hX hN hml (u_X11_needCamera l hst D cI cJ cZ cMic cSrc cSt cAI cAJ ad T o eT3) (cwV 0 hts (gaV qA_728 qA_729 qA_730 qA_131 qA_731) rfl rfl rfl (by decide +kernel) ⟨Nat.le_of_ble_eq_true rfl, Nat.le_of_ble_eq_true rfl⟩) (oO_k g2).1 (cc_o11 (oO_k g2).2) rfl rfl hl.1 rfl (lv_room (Nat.le_of_ble_eq_true rfl)) dX11_delayTo_1 ⟨Nat.zero_le _, Nat.zero_le _⟩ (fun T4 H locs hq G => ?_)
  rw [hq] at G
  clear hq eT3
  refine lv_aload_n hx hb dX11_delayTo_4 rfl (lv_at hl 0 rfl) ?_
  refine lv_iload_n hx hb dX11_delayTo_5 rfl (lv_at hl 1 rfl) ?_
  obtain ⟨g7, h⟩ := oif_some h
  obtain ⟨r10, T8, eT8, h⟩ := othr_n h
  refine q_cvv (As := [.int a0]) (rest := []) E G hA hX hN hml (u_X11_needMic l hst D cI cJ cZ cMic cSrc cSt cAI cAJ ad T3 o a0 eT8) (cwV 1 hts (gaV qA_734 qA_735 qA_736 qA_131 qA_737) rfl rfl rfl (by decide +kernel) ⟨Nat.le_of_ble_eq_true rfl, Nat.le_of_ble_eq_true rfl⟩) (oO_k g7).1 (cc_o11 (oO_k g7).2) rfl rfl hl.1 rfl (lv_room (Nat.le_of_ble_eq_true rfl)) dX11_delayTo_6 ⟨Nat.zero_le _, Nat.zero_le _⟩ (fun T9 H locs hq G => ?_)
  rw [hq] at G
  clear hq eT8
  refine lv_iload_n hx hb dX11_delayTo_9 rfl (lv_at hl 2 rfl) ?_
  refine lv_sipush (v := (-9999)) hx hb dX11_delayTo_10 (by decide) ?_
  refine lv_sipush (v := 9999) hx hb dX11_delayTo_13 (by decide) ?_
  obtain ⟨r14, T12, eT12, h⟩ := othr_n h
  refine q_csv (As := [.int a1, .int (-9999), .int 9999]) (rest := []) E G hA hX hN hml (u_X11_needRange l hst D cI cJ cZ cMic cSrc cSt cAI cAJ ad T8 a1 ((-9999) : Int32) (9999 : Int32) eT12) (cwS 3 hts (gaS qA_741 qA_742 qA_131 qA_743) rfl rfl rfl (by decide +kernel) ⟨Nat.le_of_ble_eq_true rfl, Nat.le_of_ble_eq_true rfl⟩) rfl hl.1 rfl (lv_room (Nat.le_of_ble_eq_true rfl)) dX11_delayTo_16 ⟨Nat.zero_le _, Nat.zero_le _⟩ (fun T13 H locs hq G => ?_)
  rw [hq] at G
  clear hq eT12
  refine lv_iload_n hx hb dX11_delayTo_19 rfl (lv_at hl 3 rfl) ?_
  refine lv_sipush (v := (-9999)) hx hb dX11_delayTo_20 (by decide) ?_
  refine lv_sipush (v := 9999) hx hb dX11_delayTo_23 (by decide) ?_
  obtain ⟨r18, T16, eT16, h⟩ := othr_n h
  refine q_csv (As := [.int a2, .int (-9999), .int 9999]) (rest := []) E G hA hX hN hml (u_X11_needRange l hst D cI cJ cZ cMic cSrc cSt cAI cAJ ad T12 a2 ((-9999) : Int32) (9999 : Int32) eT16) (cwS 3 hts (gaS qA_741 qA_742 qA_131 qA_743) rfl rfl rfl (by decide +kernel) ⟨Nat.le_of_ble_eq_true rfl, Nat.le_of_ble_eq_true rfl⟩) rfl hl.1 rfl (lv_room (Nat.le_of_ble_eq_true rfl)) dX11_delayTo_26 ⟨Nat.zero_le _, Nat.zero_le _⟩ (fun T17 H locs hq G => ?_)
  rw [hq] at G
  clear hq eT16
  refine lv_aload_n hx hb dX11_delayTo_29 rfl (lv_at hl 0 rfl) ?_
  obtain ⟨g20, h⟩ := oif_some h
  obtain ⟨n21, en21, h⟩ := obind_some h
  refine c_get E G o 14 (v := .ref (ad n21)) (oO_k g20).1 (cc_o11 (oO_k g20).2) rfl (fun w h => .tail _ (iA_23 h)) (by decide) (.tail _ qA_675) rfl (by rw [en21]; rfl) dX11_delayTo_30 ?_
  clear en21
  refine lv_aload_n hx hb dX11_delayTo_33 rfl (lv_at hl 0 rfl) ?_
  obtain ⟨g22, h⟩ := oif_some h
  obtain ⟨n23, en23, h⟩ := obind_some h
  refine c_get E G o 14 (v := .ref (ad n23)) (oO_k g22).1 (cc_o11 (oO_k g22).2) rfl (fun w h => .tail _ (iA_23 h)) (by decide) (.tail _ qA_675) rfl (by rw [en23]; rfl) dX11_delayTo_34 ?_
  clear en23
  obtain ⟨g24, h⟩ := oif_some h
  obtain ⟨n25, en25, h⟩ := obind_some h
  refine c_get E G n23 4 (v := .ref (ad n25)) (oO_k g24).1 (cc_o6 (oO_k g24).2) rfl (fun w h => .tail _ (iA_14 h)) (by decide) (.tail _ qA_723) rfl (by rw [en25]; rfl) dX11_delayTo_37 ?_
  clear en25
  refine lv_iload_n hx hb dX11_delayTo_40 rfl (lv_at hl 1 rfl) ?_
  obtain ⟨g26, h⟩ := oif_some h
  obtain ⟨g27, h⟩ := oif_some h
  obtain ⟨n28, en28, h⟩ := obind_some h
  refine c_aldq E G n25 3 (k := a0.toNatClampNeg) (v := .ref (ad n28)) (aA_k g26).1 (cc_a103 (aA_k g26).2.1) rfl (inb_k g27).1 (inb_k g27).2 (aA_k g26).2.2 (by show va_rf ((T16.2.2.2.2 n25 a0.toNatClampNeg).map ad) = _; rw [en28]; rfl) dX11_delayTo_41 ?_
  clear en28
  refine lv_iload_n hx hb dX11_delayTo_42 rfl (lv_at hl 2 rfl) ?_
  refine lv_iload_n hx hb dX11_delayTo_43 rfl (lv_at hl 3 rfl) ?_
  obtain ⟨g29, h⟩ := oif_some h
  obtain ⟨r32, T30, eT30, h⟩ := obind2_some h
  refine q_cvi (As := [.ref (ad n28), .int a1, .int a2]) (rest := []) E G hA hX hN hml (u_X6_delayFrom l hst D cI cJ cZ cMic cSrc cSt cAI cAJ ad T16 n21 n28 a1 a2 eT30) (cwV 3 hts (gaV qA_780 qA_493 qA_494 qA_207 qA_495) rfl rfl rfl (by decide +kernel) ⟨Nat.le_of_ble_eq_true rfl, Nat.le_of_ble_eq_true rfl⟩) (oO_k g29).1 (cc_o6 (oO_k g29).2) rfl rfl hl.1 rfl (lv_room (Nat.le_of_ble_eq_true rfl)) dX11_delayTo_44 ⟨Nat.zero_le _, Nat.zero_le _⟩ (fun q33 T31 H locs hq G => ?_)
  obtain ⟨hq1, hq2⟩ := hq
  rw [hq2] at G
  refine lv_to hq1 ?_
  clear hq1 hq2 eT30
  exact W.iret (v := r32) hx hb hr (fun t ht hW => ⟨⟨r32, T30, rfl, (osome3 h).2, ⟨by rw [ht]; exact G.1, va_K.moved hW.alike hK, G.2.1⟩⟩, G.2.2.F ht⟩) G.2.2.2.2 dX11_delayTo_47
set_option maxHeartbeats 4000000 in
set_option maxRecDepth 100000 in
theorem s_X11_delayTo {T : AT} {o : Nat} {a0 : Int32} {a1 : Int32} {a2 : Int32} {e1 : Nat} {r1 : Int32} {T1 : AT} (h : g_X11_delayTo T o a0 a1 a2 = some (e1, r1, T1)) : SP T T1 := by
  have p0 := SP.rf T
  unfold g_X11_delayTo at h
  obtain ⟨g2, h⟩ := oif_some h
  rcases othr_s h with ⟨k9, r9, e9, -⟩ | ⟨r4, T3, eT3, h⟩
  · exact SP.tr p0 (s_X11_needCamera e9)
  have p1 : SP T T3 := SP.tr p0 (s_X11_needCamera eT3)
  obtain ⟨g5, h⟩ := oif_some h
  rcases othr_s h with ⟨k9, r9, e9, -⟩ | ⟨r7, T6, eT6, h⟩
  · exact SP.tr p1 (s_X11_needMic e9)
  have p2 : SP T T6 := SP.tr p1 (s_X11_needMic eT6)
  rcases othr_s h with ⟨k9, r9, e9, -⟩ | ⟨r9, T8, eT8, h⟩
  · exact SP.tr p2 (s_X11_needRange e9)
  have p3 : SP T T8 := SP.tr p2 (s_X11_needRange eT8)
  rcases othr_s h with ⟨k9, r9, e9, -⟩ | ⟨r11, T10, eT10, h⟩
  · exact SP.tr p3 (s_X11_needRange e9)
  have p4 : SP T T10 := SP.tr p3 (s_X11_needRange eT10)
  obtain ⟨g12, h⟩ := oif_some h
  obtain ⟨n13, en13, h⟩ := obind_some h
  obtain ⟨g14, h⟩ := oif_some h
  obtain ⟨n15, en15, h⟩ := obind_some h
  obtain ⟨g16, h⟩ := oif_some h
  obtain ⟨n17, en17, h⟩ := obind_some h
  obtain ⟨g18, h⟩ := oif_some h
  obtain ⟨g19, h⟩ := oif_some h
  obtain ⟨n20, en20, h⟩ := obind_some h
  obtain ⟨g21, h⟩ := oif_some h
  obtain ⟨r23, T22, eT22, h⟩ := obind2_some h
  have p5 : SP T T22 := SP.tr p4 (s_X6_delayFrom eT22)
  rw [← (osome3 h).2.2]
  exact p5
set_option maxHeartbeats 4000000 in
set_option maxRecDepth 100000 in
theorem x_X11_delayTo (l : Launch) (hst : l.stackTraces = false) (D : va_G) (cI cJ cZ cMic cSrc cSt cAI cAJ : ClassId) (ad : Nat → Nat) (T : AT) (o : Nat) (a0 : Int32) (a1 : Int32) (a2 : Int32) {e1 : Nat} {r1 : Int32} {T1 : AT} (h : g_X11_delayTo T o a0 a1 a2 = some (e1 + 1, r1, T1)) : kXi l yX11_delayTo (Cond.code yX11_delayTo cX11_delayTo 4 (some .int) :: wsA) 8 123 cI cJ cZ cMic cSrc cSt cAI cAJ D ad T [.ref (ad o), .int a0, .int a1, .int a2] e1 T1 := by
  intro sz
  refine vx_ofW (cc := cX11_delayTo) (maxL := 4) (ret := (some .int)) (by decide) rfl ?_
  intro p e s m args below meth c s₁ B hml htab hv
  obtain ⟨rfl, hsz, hP, hK, hD0, hX, hN⟩ := hv
  have hx := B.exec
  have hb := B.bytes
  have hr := B.returns
  have hts := atoms_spec (ws := (Cond.code yX11_delayTo cX11_delayTo 4 (some .int) :: wsA)) B.pre
  have hown : s.vm.findClass RX11 = some m.cls := findClass_of_methodNamed B.named
  have hlocks := B.notSynchronized
  subst hsz
  have hD := hD0.self (sz := s.heap.size)
  generalize hAe : va_A (cW ad T.1 (cc cI cJ cZ cMic cSrc cSt cAI cAJ ad T)) s.heap.size = A at hD hX ⊢
  have hA : ∀ q : Nat, s.heap.size ≤ q → A q := fun q h => by rw [← hAe]; exact Or.inr h
  have G : gC cI cJ cZ cMic cSrc cSt cAI cAJ D ad A s.heap s.heap [] T := ⟨hP, hD, va_S.rf⟩
  have E : cE p c cX11_delayTo s m ([.ref (ad o), .int a0, .int a1, .int a2] : List Value).toArray (Cond.code yX11_delayTo cX11_delayTo 4 (some .int) :: wsA) D RX11 (CT cI cJ cZ cMic cSrc cSt cAI cAJ) := ⟨hx, hb, hts, hown, hK⟩
  have htab : ∀ x ∈ c.exceptionTable.toList, False := fun x hx => htab x hx
  have hl := lv_entry ([.ref (ad o), .int a0, .int a1, .int a2]) (n := 4) (Nat.le_of_ble_eq_true rfl)
  rw [lg_entry_eq]
  generalize (lg_sl ([.ref (ad o), .int a0, .int a1, .int a2]) ++ List.replicate (4 - (lg_sl ([.ref (ad o), .int a0, .int a1, .int a2])).length) Slot.unset).toArray = ls at hl ⊢
  have hl : lv_has ls 4 [(0, .ref (ad o)), (1, .int a0), (2, .int a1), (3, .int a2)] := hl
  unfold g_X11_delayTo at h
  refine lv_aload_n hx hb dX11_delayTo_0 rfl (lv_at hl 0 rfl) ?_
  obtain ⟨g2, h⟩ := oif_some h
  rcases othr_t h with ⟨r0, eT3⟩ | ⟨r5, T3, eT3, h⟩
  · refine q_xvv (As := []) (rest := []) E G hA hX hN hml (x_X11_needCamera l hst D cI cJ cZ cMic cSrc cSt cAI cAJ ad T o eT3) (cwV 0 hts (gaV qA_728 qA_729 qA_730 qA_131 qA_731) rfl rfl rfl (by decide +kernel) ⟨Nat.le_of_ble_eq_true rfl, Nat.le_of_ble_eq_true rfl⟩) (oO_k g2).1 (cc_o11 (oO_k g2).2) rfl rfl hl.1 rfl (lv_room (Nat.le_of_ble_eq_true rfl)) dX11_delayTo_1 ⟨Nat.le_of_ble_eq_true rfl, Nat.le_of_ble_eq_true rfl⟩ (fun E9 ce q9 T9 H locs hp G hce hcv hcl => ?_)
    obtain ⟨hE, hT⟩ := hp
    subst hE
    rw [hT] at G
    exact vx_out (fun x hx => (htab x hx).elim) hlocks hce hcv hcl (fun t ht hvm => ⟨T1, trivial, ⟨⟨rfl, rfl⟩, by rw [ht]; exact G.1, va_K.moved hvm hK, G.2.1⟩, G.2.2.F ht⟩) G.2.2.2.2 (Nat.le_refl _) (Nat.le_refl _)
  refine q_cvv (As := []) (rest := []) E G hA hX hN hml (u_X11_needCamera l hst D cI cJ cZ cMic cSrc cSt cAI cAJ ad T o eT3) (cwV 0 hts (gaV qA_728 qA_729 qA_730 qA_131 qA_731) rfl rfl rfl (by decide +kernel) ⟨Nat.le_of_ble_eq_true rfl, Nat.le_of_ble_eq_true rfl⟩) (oO_k g2).1 (cc_o11 (oO_k g2).2) rfl rfl hl.1 rfl (lv_room (Nat.le_of_ble_eq_true rfl)) dX11_delayTo_1 ⟨Nat.zero_le _, Nat.zero_le _⟩ (fun T4 H locs hq G => ?_)
  rw [hq] at G
  clear hq eT3
  refine lv_aload_n hx hb dX11_delayTo_4 rfl (lv_at hl 0 rfl) ?_
  refine lv_iload_n hx hb dX11_delayTo_5 rfl (lv_at hl 1 rfl) ?_
  obtain ⟨g7, h⟩ := oif_some h
  rcases othr_t h with ⟨r0, eT8⟩ | ⟨r10, T8, eT8, h⟩
  · refine q_xvv (As := [.int a0]) (rest := []) E G hA hX hN hml (x_X11_needMic l hst D cI cJ cZ cMic cSrc cSt cAI cAJ ad T3 o a0 eT8) (cwV 1 hts (gaV qA_734 qA_735 qA_736 qA_131 qA_737) rfl rfl rfl (by decide +kernel) ⟨Nat.le_of_ble_eq_true rfl, Nat.le_of_ble_eq_true rfl⟩) (oO_k g7).1 (cc_o11 (oO_k g7).2) rfl rfl hl.1 rfl (lv_room (Nat.le_of_ble_eq_true rfl)) dX11_delayTo_6 ⟨Nat.le_of_ble_eq_true rfl, Nat.le_of_ble_eq_true rfl⟩ (fun E9 ce q9 T9 H locs hp G hce hcv hcl => ?_)
    obtain ⟨hE, hT⟩ := hp
    subst hE
    rw [hT] at G
    exact vx_out (fun x hx => (htab x hx).elim) hlocks hce hcv hcl (fun t ht hvm => ⟨T1, trivial, ⟨⟨rfl, rfl⟩, by rw [ht]; exact G.1, va_K.moved hvm hK, G.2.1⟩, G.2.2.F ht⟩) G.2.2.2.2 (Nat.le_refl _) (Nat.le_refl _)
  refine q_cvv (As := [.int a0]) (rest := []) E G hA hX hN hml (u_X11_needMic l hst D cI cJ cZ cMic cSrc cSt cAI cAJ ad T3 o a0 eT8) (cwV 1 hts (gaV qA_734 qA_735 qA_736 qA_131 qA_737) rfl rfl rfl (by decide +kernel) ⟨Nat.le_of_ble_eq_true rfl, Nat.le_of_ble_eq_true rfl⟩) (oO_k g7).1 (cc_o11 (oO_k g7).2) rfl rfl hl.1 rfl (lv_room (Nat.le_of_ble_eq_true rfl)) dX11_delayTo_6 ⟨Nat.zero_le _, Nat.zero_le _⟩ (fun T9 H locs hq G => ?_)
  rw [hq] at G
  clear hq eT8
  refine lv_iload_n hx hb dX11_delayTo_9 rfl (lv_at hl 2 rfl) ?_
  refine lv_sipush (v := (-9999)) hx hb dX11_delayTo_10 (by decide) ?_
  refine lv_sipush (v := 9999) hx hb dX11_delayTo_13 (by decide) ?_
  rcases othr_t h with ⟨r0, eT12⟩ | ⟨r14, T12, eT12, h⟩
  · refine q_xsv (As := [.int a1, .int (-9999), .int 9999]) (rest := []) E G hA hX hN hml (x_X11_needRange l hst D cI cJ cZ cMic cSrc cSt cAI cAJ ad T8 a1 ((-9999) : Int32) (9999 : Int32) eT12) (cwS 3 hts (gaS qA_741 qA_742 qA_131 qA_743) rfl rfl rfl (by decide +kernel) ⟨Nat.le_of_ble_eq_true rfl, Nat.le_of_ble_eq_true rfl⟩) rfl hl.1 rfl (lv_room (Nat.le_of_ble_eq_true rfl)) dX11_delayTo_16 ⟨Nat.le_of_ble_eq_true rfl, Nat.le_of_ble_eq_true rfl⟩ (fun E9 ce q9 T9 H locs hp G hce hcv hcl => ?_)
    obtain ⟨hE, hT⟩ := hp
    subst hE
    rw [hT] at G
    exact vx_out (fun x hx => (htab x hx).elim) hlocks hce hcv hcl (fun t ht hvm => ⟨T1, trivial, ⟨⟨rfl, rfl⟩, by rw [ht]; exact G.1, va_K.moved hvm hK, G.2.1⟩, G.2.2.F ht⟩) G.2.2.2.2 (Nat.le_refl _) (Nat.le_refl _)
  refine q_csv (As := [.int a1, .int (-9999), .int 9999]) (rest := []) E G hA hX hN hml (u_X11_needRange l hst D cI cJ cZ cMic cSrc cSt cAI cAJ ad T8 a1 ((-9999) : Int32) (9999 : Int32) eT12) (cwS 3 hts (gaS qA_741 qA_742 qA_131 qA_743) rfl rfl rfl (by decide +kernel) ⟨Nat.le_of_ble_eq_true rfl, Nat.le_of_ble_eq_true rfl⟩) rfl hl.1 rfl (lv_room (Nat.le_of_ble_eq_true rfl)) dX11_delayTo_16 ⟨Nat.zero_le _, Nat.zero_le _⟩ (fun T13 H locs hq G => ?_)
  rw [hq] at G
  clear hq eT12
  refine lv_iload_n hx hb dX11_delayTo_19 rfl (lv_at hl 3 rfl) ?_
  refine lv_sipush (v := (-9999)) hx hb dX11_delayTo_20 (by decide) ?_
  refine lv_sipush (v := 9999) hx hb dX11_delayTo_23 (by decide) ?_
  rcases othr_t h with ⟨r0, eT16⟩ | ⟨r18, T16, eT16, h⟩
  · refine q_xsv (As := [.int a2, .int (-9999), .int 9999]) (rest := []) E G hA hX hN hml (x_X11_needRange l hst D cI cJ cZ cMic cSrc cSt cAI cAJ ad T12 a2 ((-9999) : Int32) (9999 : Int32) eT16) (cwS 3 hts (gaS qA_741 qA_742 qA_131 qA_743) rfl rfl rfl (by decide +kernel) ⟨Nat.le_of_ble_eq_true rfl, Nat.le_of_ble_eq_true rfl⟩) rfl hl.1 rfl (lv_room (Nat.le_of_ble_eq_true rfl)) dX11_delayTo_26 ⟨Nat.le_of_ble_eq_true rfl, Nat.le_of_ble_eq_true rfl⟩ (fun E9 ce q9 T9 H locs hp G hce hcv hcl => ?_)
    obtain ⟨hE, hT⟩ := hp
    subst hE
    rw [hT] at G
    exact vx_out (fun x hx => (htab x hx).elim) hlocks hce hcv hcl (fun t ht hvm => ⟨T1, trivial, ⟨⟨rfl, rfl⟩, by rw [ht]; exact G.1, va_K.moved hvm hK, G.2.1⟩, G.2.2.F ht⟩) G.2.2.2.2 (Nat.le_refl _) (Nat.le_refl _)
  refine q_csv (As := [.int a2, .int (-9999), .int 9999]) (rest := []) E G hA hX hN hml (u_X11_needRange l hst D cI cJ cZ cMic cSrc cSt cAI cAJ ad T12 a2 ((-9999) : Int32) (9999 : Int32) eT16) (cwS 3 hts (gaS qA_741 qA_742 qA_131 qA_743) rfl rfl rfl (by decide +kernel) ⟨Nat.le_of_ble_eq_true rfl, Nat.le_of_ble_eq_true rfl⟩) rfl hl.1 rfl (lv_room (Nat.le_of_ble_eq_true rfl)) dX11_delayTo_26 ⟨Nat.zero_le _, Nat.zero_le _⟩ (fun T17 H locs hq G => ?_)
  rw [hq] at G
  clear hq eT16
  refine lv_aload_n hx hb dX11_delayTo_29 rfl (lv_at hl 0 rfl) ?_
  obtain ⟨g20, h⟩ := oif_some h
  obtain ⟨n21, en21, h⟩ := obind_some h
  refine c_get E G o 14 (v := .ref (ad n21)) (oO_k g20).1 (cc_o11 (oO_k g20).2) rfl (fun w h => .tail _ (iA_23 h)) (by decide) (.tail _ qA_675) rfl (by rw [en21]; rfl) dX11_delayTo_30 ?_
  clear en21
  refine lv_aload_n hx hb dX11_delayTo_33 rfl (lv_at hl 0 rfl) ?_
  obtain ⟨g22, h⟩ := oif_some h
  obtain ⟨n23, en23, h⟩ := obind_some h
  refine c_get E G o 14 (v := .ref (ad n23)) (oO_k g22).1 (cc_o11 (oO_k g22).2) rfl (fun w h => .tail _ (iA_23 h)) (by decide) (.tail _ qA_675) rfl (by rw [en23]; rfl) dX11_delayTo_34 ?_
  clear en23
  obtain ⟨g24, h⟩ := oif_some h
  obtain ⟨n25, en25, h⟩ := obind_some h
  refine c_get E G n23 4 (v := .ref (ad n25)) (oO_k g24).1 (cc_o6 (oO_k g24).2) rfl (fun w h => .tail _ (iA_14 h)) (by decide) (.tail _ qA_723) rfl (by rw [en25]; rfl) dX11_delayTo_37 ?_
  clear en25
  refine lv_iload_n hx hb dX11_delayTo_40 rfl (lv_at hl 1 rfl) ?_
  obtain ⟨g26, h⟩ := oif_some h
  obtain ⟨g27, h⟩ := oif_some h
  obtain ⟨n28, en28, h⟩ := obind_some h
  refine c_aldq E G n25 3 (k := a0.toNatClampNeg) (v := .ref (ad n28)) (aA_k g26).1 (cc_a103 (aA_k g26).2.1) rfl (inb_k g27).1 (inb_k g27).2 (aA_k g26).2.2 (by show va_rf ((T16.2.2.2.2 n25 a0.toNatClampNeg).map ad) = _; rw [en28]; rfl) dX11_delayTo_41 ?_
  clear en28
  refine lv_iload_n hx hb dX11_delayTo_42 rfl (lv_at hl 2 rfl) ?_
  refine lv_iload_n hx hb dX11_delayTo_43 rfl (lv_at hl 3 rfl) ?_
  obtain ⟨g29, h⟩ := oif_some h
  obtain ⟨r32, T30, eT30, h⟩ := obind2_some h
  refine q_cvi (As := [.ref (ad n28), .int a1, .int a2]) (rest := []) E G hA hX hN hml (u_X6_delayFrom l hst D cI cJ cZ cMic cSrc cSt cAI cAJ ad T16 n21 n28 a1 a2 eT30) (cwV 3 hts (gaV qA_780 qA_493 qA_494 qA_207 qA_495) rfl rfl rfl (by decide +kernel) ⟨Nat.le_of_ble_eq_true rfl, Nat.le_of_ble_eq_true rfl⟩) (oO_k g29).1 (cc_o6 (oO_k g29).2) rfl rfl hl.1 rfl (lv_room (Nat.le_of_ble_eq_true rfl)) dX11_delayTo_44 ⟨Nat.zero_le _, Nat.zero_le _⟩ (fun q33 T31 H locs hq G => ?_)
  obtain ⟨hq1, hq2⟩ := hq
  rw [hq2] at G
  refine lv_to hq1 ?_
  clear hq1 hq2 eT30
  exact (Nat.succ_ne_zero _ (congrArg Prod.fst (Option.some.inj h)).symm).elim
def g_X11_spread (T : AT) (o : Nat) (a0 : Int32) : Option (Nat × Int32 × AT) := oif (oO T o 11 = true) <| othr (g_X11_needCamera T o) 0 fun r5 T3 => oif (oO T3 o 11 = true) <| othr (g_X11_needCell T3 o a0) 0 fun r10 T8 => oif (oO T8 o 11 = true) <| obind (T8.2.2.2.2 o 14) fun n13 => oif (oO T8 n13 6 = true) <| obind (T8.2.2.2.2 n13 17) fun n15 => oif (aA T8 n15 106 = true) <| oif (inb a0 (T8.2.1 n15).2 = true) <| obind (T8.2.2.2.2 n15 a0.toNatClampNeg) fun n18 => oif (oO T8 o 11 = true) <| obind (T8.2.2.2.2 o 6) fun n20 => oif (oO T8 n20 8 = true) <| obind2 (g_X8_greatestDelay T8 n20 n18) fun r24 T22 => oif (oO T22 o 11 = true) <| obind (T22.2.2.2.2 o 6) fun n27 => oif (oO T22 n27 8 = true) <| obind2 (g_X8_smallestDelay T22 n27 n18) fun r31 T29 => elet (r24 - r31) fun v33 => some (0, v33, T29)
set_option maxHeartbeats 4000000 in
set_option maxRecDepth 100000 in
theorem u_X11_spread (l : Launch) (hst : l.stackTraces = false) (D : va_G) (cI cJ cZ cMic cSrc cSt cAI cAJ : ClassId) (ad : Nat → Nat) (T : AT) (o : Nat) (a0 : Int32) {r1 : Int32} {T1 : AT} (h : g_X11_spread T o a0 = some (0, r1, T1)) : kCi l yX11_spread (Cond.code yX11_spread cX11_spread 3 (some .int) :: wsA) 8 123 cI cJ cZ cMic cSrc cSt cAI cAJ D ad T [.ref (ad o), .int a0] (fun r T9 => r = r1 ∧ T9 = T1) := by
  intro sz
  refine Met.ofW (cc := cX11_spread) (maxL := 3) (ret := (some .int)) (by decide) rfl ?_
  intro p e s m args below meth c s₁ B hml hv
  obtain ⟨rfl, hsz, hP, hK, hD0, hX, hN⟩ := hv
  have hx := B.exec
  have hb := B.bytes
  have hr := B.returns
  have hts := atoms_spec (ws := (Cond.code yX11_spread cX11_spread 3 (some .int) :: wsA)) B.pre
  have hown : s.vm.findClass RX11 = some m.cls := findClass_of_methodNamed B.named
  have hlocks := B.notSynchronized
  subst hsz
  have hD := hD0.self (sz := s.heap.size)
  generalize hAe : va_A (cW ad T.1 (cc cI cJ cZ cMic cSrc cSt cAI cAJ ad T)) s.heap.size = A at hD hX ⊢
  have hA : ∀ q : Nat, s.heap.size ≤ q → A q := fun q h => by rw [← hAe]; exact Or.inr h
  have G : gC cI cJ cZ cMic cSrc cSt cAI cAJ D ad A s.heap s.heap [] T := ⟨hP, hD, va_S.rf⟩
  have E : cE p c cX11_spread s m ([.ref (ad o), .int a0] : List Value).toArray (Cond.code yX11_spread cX11_spread 3 (some .int) :: wsA) D RX11 (CT cI cJ cZ cMic cSrc cSt cAI cAJ) := ⟨hx, hb, hts, hown, hK⟩
  have hl := lv_entry ([.ref (ad o), .int a0]) (n := 3) (Nat.le_of_ble_eq_true rfl)
  rw [lg_entry_eq]
  generalize (lg_sl ([.ref (ad o), .int a0]) ++ List.replicate (3 - (lg_sl ([.ref (ad o), .int a0])).length) Slot.unset).toArray = ls at hl ⊢
  have hl : lv_has ls 3 [(0, .ref (ad o)), (1, .int a0)] := hl
  unfold g_X11_spread at h
  refine lv_aload_n hx hb dX11_spread_0 rfl (lv_at hl 0 rfl) ?_
  obtain ⟨g2, h⟩ := oif_some h
  obtain ⟨r5, T3, eT3, h⟩ := othr_n h
  refine q_cvv (As := []) (rest := []) E G hA hX hN hml (u_X11_needCamera l hst D cI cJ cZ cMic cSrc cSt cAI cAJ ad T o eT3) (cwV 0 hts (gaV qA_728 qA_729 qA_730 qA_131 qA_731) rfl rfl rfl (by decide +kernel) ⟨Nat.le_of_ble_eq_true rfl, Nat.le_of_ble_eq_true rfl⟩) (oO_k g2).1 (cc_o11 (oO_k g2).2) rfl rfl hl.1 rfl (lv_room (Nat.le_of_ble_eq_true rfl)) dX11_spread_1 ⟨Nat.zero_le _, Nat.zero_le _⟩ (fun T4 H locs hq G => ?_)
  rw [hq] at G
  clear hq eT3
  refine lv_aload_n hx hb dX11_spread_4 rfl (lv_at hl 0 rfl) ?_
  refine lv_iload_n hx hb dX11_spread_5 rfl (lv_at hl 1 rfl) ?_
  obtain ⟨g7, h⟩ := oif_some h
  obtain ⟨r10, T8, eT8, h⟩ := othr_n h
  refine q_cvv (As := [.int a0]) (rest := []) E G hA hX hN hml (u_X11_needCell l hst D cI cJ cZ cMic cSrc cSt cAI cAJ ad T3 o a0 eT8) (cwV 1 hts (gaV qA_752 qA_753 qA_754 qA_131 qA_755) rfl rfl rfl (by decide +kernel) ⟨Nat.le_of_ble_eq_true rfl, Nat.le_of_ble_eq_true rfl⟩) (oO_k g7).1 (cc_o11 (oO_k g7).2) rfl rfl hl.1 rfl (lv_room (Nat.le_of_ble_eq_true rfl)) dX11_spread_6 ⟨Nat.zero_le _, Nat.zero_le _⟩ (fun T9 H locs hq G => ?_)
  rw [hq] at G
  clear hq eT8
  refine lv_aload_n hx hb dX11_spread_9 rfl (lv_at hl 0 rfl) ?_
  obtain ⟨g12, h⟩ := oif_some h
  obtain ⟨n13, en13, h⟩ := obind_some h
  refine c_get E G o 14 (v := .ref (ad n13)) (oO_k g12).1 (cc_o11 (oO_k g12).2) rfl (fun w h => .tail _ (iA_23 h)) (by decide) (.tail _ qA_675) rfl (by rw [en13]; rfl) dX11_spread_10 ?_
  clear en13
  obtain ⟨g14, h⟩ := oif_some h
  obtain ⟨n15, en15, h⟩ := obind_some h
  refine c_get E G n13 17 (v := .ref (ad n15)) (oO_k g14).1 (cc_o6 (oO_k g14).2) rfl (fun w h => .tail _ (iA_14 h)) (by decide) (.tail _ qA_778) rfl (by rw [en15]; rfl) dX11_spread_13 ?_
  clear en15
  refine lv_iload_n hx hb dX11_spread_16 rfl (lv_at hl 1 rfl) ?_
  obtain ⟨g16, h⟩ := oif_some h
  obtain ⟨g17, h⟩ := oif_some h
  obtain ⟨n18, en18, h⟩ := obind_some h
  refine c_alda E G n15 6 (k := a0.toNatClampNeg) (v := .ref (ad n18)) (aA_k g16).1 (cc_a106 (aA_k g16).2.1) rfl (inb_k g17).1 (inb_k g17).2 (aA_k g16).2.2 (by show va_rf ((T8.2.2.2.2 n15 a0.toNatClampNeg).map ad) = _; rw [en18]; rfl) dX11_spread_17 ?_
  clear en18
  refine lv_astore_n (lv' := [(2, .ref (ad n18)), (0, .ref (ad o)), (1, .int a0)]) hx hb dX11_spread_18 rfl hl (by decide) rfl (fun ls hl => ?_)
  refine lv_aload_n hx hb dX11_spread_19 rfl (lv_at hl 1 rfl) ?_
  obtain ⟨g19, h⟩ := oif_some h
  obtain ⟨n20, en20, h⟩ := obind_some h
  refine c_get E G o 6 (v := .ref (ad n20)) (oO_k g19).1 (cc_o11 (oO_k g19).2) rfl (fun w h => .tail _ (iA_23 h)) (by decide) (.tail _ qA_664) rfl (by rw [en20]; rfl) dX11_spread_20 ?_
  clear en20
  refine lv_aload_n hx hb dX11_spread_23 rfl (lv_at hl 0 rfl) ?_
  obtain ⟨g21, h⟩ := oif_some h
  obtain ⟨r24, T22, eT22, h⟩ := obind2_some h
  refine q_cvi (As := [.ref (ad n18)]) (rest := []) E G hA hX hN hml (u_X8_greatestDelay l hst D cI cJ cZ cMic cSrc cSt cAI cAJ ad T8 n20 n18 eT22) (cwV 1 hts (gaV qA_782 qA_60 qA_61 qA_47 qA_62) rfl rfl rfl (by decide +kernel) ⟨Nat.le_of_ble_eq_true rfl, Nat.le_of_ble_eq_true rfl⟩) (oO_k g21).1 (cc_o8 (oO_k g21).2) rfl rfl hl.1 rfl (lv_room (Nat.le_of_ble_eq_true rfl)) dX11_spread_24 ⟨Nat.zero_le _, Nat.zero_le _⟩ (fun q25 T23 H locs hq G => ?_)
  obtain ⟨hq1, hq2⟩ := hq
  rw [hq2] at G
  refine lv_to hq1 ?_
  clear hq1 hq2 eT22
  refine lv_aload_n hx hb dX11_spread_27 rfl (lv_at hl 1 rfl) ?_
  obtain ⟨g26, h⟩ := oif_some h
  obtain ⟨n27, en27, h⟩ := obind_some h
  refine c_get E G o 6 (v := .ref (ad n27)) (oO_k g26).1 (cc_o11 (oO_k g26).2) rfl (fun w h => .tail _ (iA_23 h)) (by decide) (.tail _ qA_664) rfl (by rw [en27]; rfl) dX11_spread_28 ?_
  clear en27
  refine lv_aload_n hx hb dX11_spread_31 rfl (lv_at hl 0 rfl) ?_
  obtain ⟨g28, h⟩ := oif_some h
  obtain ⟨r31, T29, eT29, h⟩ := obind2_some h
  refine q_cvi (As := [.ref (ad n18)]) (rest := [.int r24]) E G hA hX hN hml (u_X8_smallestDelay l hst D cI cJ cZ cMic cSrc cSt cAI cAJ ad T22 n27 n18 eT29) (cwV 1 hts (gaV qA_783 qA_784 qA_785 qA_47 qA_616) rfl rfl rfl (by decide +kernel) ⟨Nat.le_of_ble_eq_true rfl, Nat.le_of_ble_eq_true rfl⟩) (oO_k g28).1 (cc_o8 (oO_k g28).2) rfl rfl hl.1 rfl (lv_room (Nat.le_of_ble_eq_true rfl)) dX11_spread_32 ⟨Nat.zero_le _, Nat.zero_le _⟩ (fun q32 T30 H locs hq G => ?_)
  obtain ⟨hq1, hq2⟩ := hq
  rw [hq2] at G
  refine lv_to hq1 ?_
  clear hq1 hq2 eT29
  refine lv_isub hx hb dX11_spread_35 ?_
  refine lv_topi (fun v33 ev33 => ?_)
  have h := elet_at ev33 h
  clear ev33
  exact W.iret (v := v33) hx hb hr (fun t ht hW => ⟨⟨v33, T29, rfl, (osome3 h).2, ⟨by rw [ht]; exact G.1, va_K.moved hW.alike hK, G.2.1⟩⟩, G.2.2.F ht⟩) G.2.2.2.2 dX11_spread_36
set_option maxHeartbeats 4000000 in
set_option maxRecDepth 100000 in
theorem s_X11_spread {T : AT} {o : Nat} {a0 : Int32} {e1 : Nat} {r1 : Int32} {T1 : AT} (h : g_X11_spread T o a0 = some (e1, r1, T1)) : SP T T1 := by
  have p0 := SP.rf T
  unfold g_X11_spread at h
  obtain ⟨g2, h⟩ := oif_some h
  rcases othr_s h with ⟨k9, r9, e9, -⟩ | ⟨r4, T3, eT3, h⟩
  · exact SP.tr p0 (s_X11_needCamera e9)
  have p1 : SP T T3 := SP.tr p0 (s_X11_needCamera eT3)
  obtain ⟨g5, h⟩ := oif_some h
  rcases othr_s h with ⟨k9, r9, e9, -⟩ | ⟨r7, T6, eT6, h⟩
  · exact SP.tr p1 (s_X11_needCell e9)
  have p2 : SP T T6 := SP.tr p1 (s_X11_needCell eT6)
  obtain ⟨g8, h⟩ := oif_some h
  obtain ⟨n9, en9, h⟩ := obind_some h
  obtain ⟨g10, h⟩ := oif_some h
  obtain ⟨n11, en11, h⟩ := obind_some h
  obtain ⟨g12, h⟩ := oif_some h
  obtain ⟨g13, h⟩ := oif_some h
  obtain ⟨n14, en14, h⟩ := obind_some h
  obtain ⟨g15, h⟩ := oif_some h
  obtain ⟨n16, en16, h⟩ := obind_some h
  obtain ⟨g17, h⟩ := oif_some h
  obtain ⟨r19, T18, eT18, h⟩ := obind2_some h
  have p3 : SP T T18 := SP.tr p2 (s_X8_greatestDelay eT18)
  obtain ⟨g20, h⟩ := oif_some h
  obtain ⟨n21, en21, h⟩ := obind_some h
  obtain ⟨g22, h⟩ := oif_some h
  obtain ⟨r24, T23, eT23, h⟩ := obind2_some h
  have p4 : SP T T23 := SP.tr p3 (s_X8_smallestDelay eT23)
  obtain ⟨v25, -, h⟩ := elet_some h
  rw [← (osome3 h).2.2]
  exact p4
set_option maxHeartbeats 4000000 in
set_option maxRecDepth 100000 in
theorem x_X11_spread (l : Launch) (hst : l.stackTraces = false) (D : va_G) (cI cJ cZ cMic cSrc cSt cAI cAJ : ClassId) (ad : Nat → Nat) (T : AT) (o : Nat) (a0 : Int32) {e1 : Nat} {r1 : Int32} {T1 : AT} (h : g_X11_spread T o a0 = some (e1 + 1, r1, T1)) : kXi l yX11_spread (Cond.code yX11_spread cX11_spread 3 (some .int) :: wsA) 8 123 cI cJ cZ cMic cSrc cSt cAI cAJ D ad T [.ref (ad o), .int a0] e1 T1 := by
  intro sz
  refine vx_ofW (cc := cX11_spread) (maxL := 3) (ret := (some .int)) (by decide) rfl ?_
  intro p e s m args below meth c s₁ B hml htab hv
  obtain ⟨rfl, hsz, hP, hK, hD0, hX, hN⟩ := hv
  have hx := B.exec
  have hb := B.bytes
  have hr := B.returns
  have hts := atoms_spec (ws := (Cond.code yX11_spread cX11_spread 3 (some .int) :: wsA)) B.pre
  have hown : s.vm.findClass RX11 = some m.cls := findClass_of_methodNamed B.named
  have hlocks := B.notSynchronized
  subst hsz
  have hD := hD0.self (sz := s.heap.size)
  generalize hAe : va_A (cW ad T.1 (cc cI cJ cZ cMic cSrc cSt cAI cAJ ad T)) s.heap.size = A at hD hX ⊢
  have hA : ∀ q : Nat, s.heap.size ≤ q → A q := fun q h => by rw [← hAe]; exact Or.inr h
  have G : gC cI cJ cZ cMic cSrc cSt cAI cAJ D ad A s.heap s.heap [] T := ⟨hP, hD, va_S.rf⟩
  have E : cE p c cX11_spread s m ([.ref (ad o), .int a0] : List Value).toArray (Cond.code yX11_spread cX11_spread 3 (some .int) :: wsA) D RX11 (CT cI cJ cZ cMic cSrc cSt cAI cAJ) := ⟨hx, hb, hts, hown, hK⟩
  have htab : ∀ x ∈ c.exceptionTable.toList, False := fun x hx => htab x hx
  have hl := lv_entry ([.ref (ad o), .int a0]) (n := 3) (Nat.le_of_ble_eq_true rfl)
  rw [lg_entry_eq]
  generalize (lg_sl ([.ref (ad o), .int a0]) ++ List.replicate (3 - (lg_sl ([.ref (ad o), .int a0])).length) Slot.unset).toArray = ls at hl ⊢
  have hl : lv_has ls 3 [(0, .ref (ad o)), (1, .int a0)] := hl
  unfold g_X11_spread at h
  refine lv_aload_n hx hb dX11_spread_0 rfl (lv_at hl 0 rfl) ?_
  obtain ⟨g2, h⟩ := oif_some h
  rcases othr_t h with ⟨r0, eT3⟩ | ⟨r5, T3, eT3, h⟩
  · refine q_xvv (As := []) (rest := []) E G hA hX hN hml (x_X11_needCamera l hst D cI cJ cZ cMic cSrc cSt cAI cAJ ad T o eT3) (cwV 0 hts (gaV qA_728 qA_729 qA_730 qA_131 qA_731) rfl rfl rfl (by decide +kernel) ⟨Nat.le_of_ble_eq_true rfl, Nat.le_of_ble_eq_true rfl⟩) (oO_k g2).1 (cc_o11 (oO_k g2).2) rfl rfl hl.1 rfl (lv_room (Nat.le_of_ble_eq_true rfl)) dX11_spread_1 ⟨Nat.le_of_ble_eq_true rfl, Nat.le_of_ble_eq_true rfl⟩ (fun E9 ce q9 T9 H locs hp G hce hcv hcl => ?_)
    obtain ⟨hE, hT⟩ := hp
    subst hE
    rw [hT] at G
    exact vx_out (fun x hx => (htab x hx).elim) hlocks hce hcv hcl (fun t ht hvm => ⟨T1, trivial, ⟨⟨rfl, rfl⟩, by rw [ht]; exact G.1, va_K.moved hvm hK, G.2.1⟩, G.2.2.F ht⟩) G.2.2.2.2 (Nat.le_refl _) (Nat.le_refl _)
  refine q_cvv (As := []) (rest := []) E G hA hX hN hml (u_X11_needCamera l hst D cI cJ cZ cMic cSrc cSt cAI cAJ ad T o eT3) (cwV 0 hts (gaV qA_728 qA_729 qA_730 qA_131 qA_731) rfl rfl rfl (by decide +kernel) ⟨Nat.le_of_ble_eq_true rfl, Nat.le_of_ble_eq_true rfl⟩) (oO_k g2).1 (cc_o11 (oO_k g2).2) rfl rfl hl.1 rfl (lv_room (Nat.le_of_ble_eq_true rfl)) dX11_spread_1 ⟨Nat.zero_le _, Nat.zero_le _⟩ (fun T4 H locs hq G => ?_)
  rw [hq] at G
  clear hq eT3
  refine lv_aload_n hx hb dX11_spread_4 rfl (lv_at hl 0 rfl) ?_
  refine lv_iload_n hx hb dX11_spread_5 rfl (lv_at hl 1 rfl) ?_
  obtain ⟨g7, h⟩ := oif_some h
  rcases othr_t h with ⟨r0, eT8⟩ | ⟨r10, T8, eT8, h⟩
  · refine q_xvv (As := [.int a0]) (rest := []) E G hA hX hN hml (x_X11_needCell l hst D cI cJ cZ cMic cSrc cSt cAI cAJ ad T3 o a0 eT8) (cwV 1 hts (gaV qA_752 qA_753 qA_754 qA_131 qA_755) rfl rfl rfl (by decide +kernel) ⟨Nat.le_of_ble_eq_true rfl, Nat.le_of_ble_eq_true rfl⟩) (oO_k g7).1 (cc_o11 (oO_k g7).2) rfl rfl hl.1 rfl (lv_room (Nat.le_of_ble_eq_true rfl)) dX11_spread_6 ⟨Nat.le_of_ble_eq_true rfl, Nat.le_of_ble_eq_true rfl⟩ (fun E9 ce q9 T9 H locs hp G hce hcv hcl => ?_)
    obtain ⟨hE, hT⟩ := hp
    subst hE
    rw [hT] at G
    exact vx_out (fun x hx => (htab x hx).elim) hlocks hce hcv hcl (fun t ht hvm => ⟨T1, trivial, ⟨⟨rfl, rfl⟩, by rw [ht]; exact G.1, va_K.moved hvm hK, G.2.1⟩, G.2.2.F ht⟩) G.2.2.2.2 (Nat.le_refl _) (Nat.le_refl _)
  refine q_cvv (As := [.int a0]) (rest := []) E G hA hX hN hml (u_X11_needCell l hst D cI cJ cZ cMic cSrc cSt cAI cAJ ad T3 o a0 eT8) (cwV 1 hts (gaV qA_752 qA_753 qA_754 qA_131 qA_755) rfl rfl rfl (by decide +kernel) ⟨Nat.le_of_ble_eq_true rfl, Nat.le_of_ble_eq_true rfl⟩) (oO_k g7).1 (cc_o11 (oO_k g7).2) rfl rfl hl.1 rfl (lv_room (Nat.le_of_ble_eq_true rfl)) dX11_spread_6 ⟨Nat.zero_le _, Nat.zero_le _⟩ (fun T9 H locs hq G => ?_)
  rw [hq] at G
  clear hq eT8
  refine lv_aload_n hx hb dX11_spread_9 rfl (lv_at hl 0 rfl) ?_
  obtain ⟨g12, h⟩ := oif_some h
  obtain ⟨n13, en13, h⟩ := obind_some h
  refine c_get E G o 14 (v := .ref (ad n13)) (oO_k g12).1 (cc_o11 (oO_k g12).2) rfl (fun w h => .tail _ (iA_23 h)) (by decide) (.tail _ qA_675) rfl (by rw [en13]; rfl) dX11_spread_10 ?_
  clear en13
  obtain ⟨g14, h⟩ := oif_some h
  obtain ⟨n15, en15, h⟩ := obind_some h
  refine c_get E G n13 17 (v := .ref (ad n15)) (oO_k g14).1 (cc_o6 (oO_k g14).2) rfl (fun w h => .tail _ (iA_14 h)) (by decide) (.tail _ qA_778) rfl (by rw [en15]; rfl) dX11_spread_13 ?_
  clear en15
  refine lv_iload_n hx hb dX11_spread_16 rfl (lv_at hl 1 rfl) ?_
  obtain ⟨g16, h⟩ := oif_some h
  obtain ⟨g17, h⟩ := oif_some h
  obtain ⟨n18, en18, h⟩ := obind_some h
  refine c_alda E G n15 6 (k := a0.toNatClampNeg) (v := .ref (ad n18)) (aA_k g16).1 (cc_a106 (aA_k g16).2.1) rfl (inb_k g17).1 (inb_k g17).2 (aA_k g16).2.2 (by show va_rf ((T8.2.2.2.2 n15 a0.toNatClampNeg).map ad) = _; rw [en18]; rfl) dX11_spread_17 ?_
  clear en18
  refine lv_astore_n (lv' := [(2, .ref (ad n18)), (0, .ref (ad o)), (1, .int a0)]) hx hb dX11_spread_18 rfl hl (by decide) rfl (fun ls hl => ?_)
  refine lv_aload_n hx hb dX11_spread_19 rfl (lv_at hl 1 rfl) ?_
  obtain ⟨g19, h⟩ := oif_some h
  obtain ⟨n20, en20, h⟩ := obind_some h
  refine c_get E G o 6 (v := .ref (ad n20)) (oO_k g19).1 (cc_o11 (oO_k g19).2) rfl (fun w h => .tail _ (iA_23 h)) (by decide) (.tail _ qA_664) rfl (by rw [en20]; rfl) dX11_spread_20 ?_
  clear en20
  refine lv_aload_n hx hb dX11_spread_23 rfl (lv_at hl 0 rfl) ?_
  obtain ⟨g21, h⟩ := oif_some h
  obtain ⟨r24, T22, eT22, h⟩ := obind2_some h
  refine q_cvi (As := [.ref (ad n18)]) (rest := []) E G hA hX hN hml (u_X8_greatestDelay l hst D cI cJ cZ cMic cSrc cSt cAI cAJ ad T8 n20 n18 eT22) (cwV 1 hts (gaV qA_782 qA_60 qA_61 qA_47 qA_62) rfl rfl rfl (by decide +kernel) ⟨Nat.le_of_ble_eq_true rfl, Nat.le_of_ble_eq_true rfl⟩) (oO_k g21).1 (cc_o8 (oO_k g21).2) rfl rfl hl.1 rfl (lv_room (Nat.le_of_ble_eq_true rfl)) dX11_spread_24 ⟨Nat.zero_le _, Nat.zero_le _⟩ (fun q25 T23 H locs hq G => ?_)
  obtain ⟨hq1, hq2⟩ := hq
  rw [hq2] at G
  refine lv_to hq1 ?_
  clear hq1 hq2 eT22
  refine lv_aload_n hx hb dX11_spread_27 rfl (lv_at hl 1 rfl) ?_
  obtain ⟨g26, h⟩ := oif_some h
  obtain ⟨n27, en27, h⟩ := obind_some h
  refine c_get E G o 6 (v := .ref (ad n27)) (oO_k g26).1 (cc_o11 (oO_k g26).2) rfl (fun w h => .tail _ (iA_23 h)) (by decide) (.tail _ qA_664) rfl (by rw [en27]; rfl) dX11_spread_28 ?_
  clear en27
  refine lv_aload_n hx hb dX11_spread_31 rfl (lv_at hl 0 rfl) ?_
  obtain ⟨g28, h⟩ := oif_some h
  obtain ⟨r31, T29, eT29, h⟩ := obind2_some h
  refine q_cvi (As := [.ref (ad n18)]) (rest := [.int r24]) E G hA hX hN hml (u_X8_smallestDelay l hst D cI cJ cZ cMic cSrc cSt cAI cAJ ad T22 n27 n18 eT29) (cwV 1 hts (gaV qA_783 qA_784 qA_785 qA_47 qA_616) rfl rfl rfl (by decide +kernel) ⟨Nat.le_of_ble_eq_true rfl, Nat.le_of_ble_eq_true rfl⟩) (oO_k g28).1 (cc_o8 (oO_k g28).2) rfl rfl hl.1 rfl (lv_room (Nat.le_of_ble_eq_true rfl)) dX11_spread_32 ⟨Nat.zero_le _, Nat.zero_le _⟩ (fun q32 T30 H locs hq G => ?_)
  obtain ⟨hq1, hq2⟩ := hq
  rw [hq2] at G
  refine lv_to hq1 ?_
  clear hq1 hq2 eT29
  refine lv_isub hx hb dX11_spread_35 ?_
  refine lv_topi (fun v33 ev33 => ?_)
  have h := elet_at ev33 h
  clear ev33
  exact (Nat.succ_ne_zero _ (congrArg Prod.fst (Option.some.inj h)).symm).elim
def g_X11_window (T : AT) (o : Nat) (a0 : Int32) : Option (Nat × Int32 × AT) := oif (oO T o 11 = true) <| othr (g_X11_needCamera T o) 0 fun r5 T3 => oif (oO T3 o 11 = true) <| othr (g_X11_needCell T3 o a0) 0 fun r10 T8 => oif (oO T8 o 11 = true) <| obind (T8.2.2.2.2 o 6) fun n13 => oif (oO T8 o 11 = true) <| obind (T8.2.2.2.2 o 14) fun n15 => oif (oO T8 n15 6 = true) <| obind (T8.2.2.2.2 n15 17) fun n17 => oif (aA T8 n17 106 = true) <| oif (inb a0 (T8.2.1 n17).2 = true) <| obind (T8.2.2.2.2 n17 a0.toNatClampNeg) fun n20 => oif (oO T8 n13 8 = true) <| obind2 (g_X8_windowOf T8 n13 n20) fun r24 T22 => some (0, r24, T22)
set_option maxHeartbeats 4000000 in
set_option maxRecDepth 100000 in
theorem u_X11_window (l : Launch) (hst : l.stackTraces = false) (D : va_G) (cI cJ cZ cMic cSrc cSt cAI cAJ : ClassId) (ad : Nat → Nat) (T : AT) (o : Nat) (a0 : Int32) {r1 : Int32} {T1 : AT} (h : g_X11_window T o a0 = some (0, r1, T1)) : kCi l yX11_window (Cond.code yX11_window cX11_window 2 (some .int) :: wsA) 8 123 cI cJ cZ cMic cSrc cSt cAI cAJ D ad T [.ref (ad o), .int a0] (fun r T9 => r = r1 ∧ T9 = T1) := by
  intro sz
  refine Met.ofW (cc := cX11_window) (maxL := 2) (ret := (some .int)) (by decide) rfl ?_
  intro p e s m args below meth c s₁ B hml hv
  obtain ⟨rfl, hsz, hP, hK, hD0, hX, hN⟩ := hv
  have hx := B.exec
  have hb := B.bytes
  have hr := B.returns
  have hts := atoms_spec (ws := (Cond.code yX11_window cX11_window 2 (some .int) :: wsA)) B.pre
  have hown : s.vm.findClass RX11 = some m.cls := findClass_of_methodNamed B.named
  have hlocks := B.notSynchronized
  subst hsz
  have hD := hD0.self (sz := s.heap.size)
  generalize hAe : va_A (cW ad T.1 (cc cI cJ cZ cMic cSrc cSt cAI cAJ ad T)) s.heap.size = A at hD hX ⊢
  have hA : ∀ q : Nat, s.heap.size ≤ q → A q := fun q h => by rw [← hAe]; exact Or.inr h
  have G : gC cI cJ cZ cMic cSrc cSt cAI cAJ D ad A s.heap s.heap [] T := ⟨hP, hD, va_S.rf⟩
  have E : cE p c cX11_window s m ([.ref (ad o), .int a0] : List Value).toArray (Cond.code yX11_window cX11_window 2 (some .int) :: wsA) D RX11 (CT cI cJ cZ cMic cSrc cSt cAI cAJ) := ⟨hx, hb, hts, hown, hK⟩
  have hl := lv_entry ([.ref (ad o), .int a0]) (n := 2) (Nat.le_of_ble_eq_true rfl)
  rw [lg_entry_eq]
  generalize (lg_sl ([.ref (ad o), .int a0]) ++ List.replicate (2 - (lg_sl ([.ref (ad o), .int a0])).length) Slot.unset).toArray = ls at hl ⊢
  have hl : lv_has ls 2 [(0, .ref (ad o)), (1, .int a0)] := hl
  unfold g_X11_window at h
  refine lv_aload_n hx hb dX11_window_0 rfl (lv_at hl 0 rfl) ?_
  obtain ⟨g2, h⟩ := oif_some h
  obtain ⟨r5, T3, eT3, h⟩ := othr_n h
  refine q_cvv (As := []) (rest := []) E G hA hX hN hml (u_X11_needCamera l hst D cI cJ cZ cMic cSrc cSt cAI cAJ ad T o eT3) (cwV 0 hts (gaV qA_728 qA_729 qA_730 qA_131 qA_731) rfl rfl rfl (by decide +kernel) ⟨Nat.le_of_ble_eq_true rfl, Nat.le_of_ble_eq_true rfl⟩) (oO_k g2).1 (cc_o11 (oO_k g2).2) rfl rfl hl.1 rfl (lv_room (Nat.le_of_ble_eq_true rfl)) dX11_window_1 ⟨Nat.zero_le _, Nat.zero_le _⟩ (fun T4 H locs hq G => ?_)
  rw [hq] at G
  clear hq eT3
  refine lv_aload_n hx hb dX11_window_4 rfl (lv_at hl 0 rfl) ?_
  refine lv_iload_n hx hb dX11_window_5 rfl (lv_at hl 1 rfl) ?_
  obtain ⟨g7, h⟩ := oif_some h
  obtain ⟨r10, T8, eT8, h⟩ := othr_n h
  refine q_cvv (As := [.int a0]) (rest := []) E G hA hX hN hml (u_X11_needCell l hst D cI cJ cZ cMic cSrc cSt cAI cAJ ad T3 o a0 eT8) (cwV 1 hts (gaV qA_752 qA_753 qA_754 qA_131 qA_755) rfl rfl rfl (by decide +kernel) ⟨Nat.le_of_ble_eq_true rfl, Nat.le_of_ble_eq_true rfl⟩) (oO_k g7).1 (cc_o11 (oO_k g7).2) rfl rfl hl.1 rfl (lv_room (Nat.le_of_ble_eq_true rfl)) dX11_window_6 ⟨Nat.zero_le _, Nat.zero_le _⟩ (fun T9 H locs hq G => ?_)
  rw [hq] at G
  clear hq eT8
  refine lv_aload_n hx hb dX11_window_9 rfl (lv_at hl 0 rfl) ?_
  obtain ⟨g12, h⟩ := oif_some h
  obtain ⟨n13, en13, h⟩ := obind_some h
  refine c_get E G o 6 (v := .ref (ad n13)) (oO_k g12).1 (cc_o11 (oO_k g12).2) rfl (fun w h => .tail _ (iA_23 h)) (by decide) (.tail _ qA_664) rfl (by rw [en13]; rfl) dX11_window_10 ?_
  clear en13
  refine lv_aload_n hx hb dX11_window_13 rfl (lv_at hl 0 rfl) ?_
  obtain ⟨g14, h⟩ := oif_some h
  obtain ⟨n15, en15, h⟩ := obind_some h
  refine c_get E G o 14 (v := .ref (ad n15)) (oO_k g14).1 (cc_o11 (oO_k g14).2) rfl (fun w h => .tail _ (iA_23 h)) (by decide) (.tail _ qA_675) rfl (by rw [en15]; rfl) dX11_window_14 ?_
  clear en15
  obtain ⟨g16, h⟩ := oif_some h
  obtain ⟨n17, en17, h⟩ := obind_some h
  refine c_get E G n15 17 (v := .ref (ad n17)) (oO_k g16).1 (cc_o6 (oO_k g16).2) rfl (fun w h => .tail _ (iA_14 h)) (by decide) (.tail _ qA_778) rfl (by rw [en17]; rfl) dX11_window_17 ?_
  clear en17
  refine lv_iload_n hx hb dX11_window_20 rfl (lv_at hl 1 rfl) ?_
  obtain ⟨g18, h⟩ := oif_some h
  obtain ⟨g19, h⟩ := oif_some h
  obtain ⟨n20, en20, h⟩ := obind_some h
  refine c_alda E G n17 6 (k := a0.toNatClampNeg) (v := .ref (ad n20)) (aA_k g18).1 (cc_a106 (aA_k g18).2.1) rfl (inb_k g19).1 (inb_k g19).2 (aA_k g18).2.2 (by show va_rf ((T8.2.2.2.2 n17 a0.toNatClampNeg).map ad) = _; rw [en20]; rfl) dX11_window_21 ?_
  clear en20
  obtain ⟨g21, h⟩ := oif_some h
  obtain ⟨r24, T22, eT22, h⟩ := obind2_some h
  refine q_cvi (As := [.ref (ad n20)]) (rest := []) E G hA hX hN hml (u_X8_windowOf l hst D cI cJ cZ cMic cSrc cSt cAI cAJ ad T8 n13 n20 eT22) (cwV 1 hts (gaV qA_787 qA_54 qA_55 qA_47 qA_56) rfl rfl rfl (by decide +kernel) ⟨Nat.le_of_ble_eq_true rfl, Nat.le_of_ble_eq_true rfl⟩) (oO_k g21).1 (cc_o8 (oO_k g21).2) rfl rfl hl.1 rfl (lv_room (Nat.le_of_ble_eq_true rfl)) dX11_window_22 ⟨Nat.zero_le _, Nat.zero_le _⟩ (fun q25 T23 H locs hq G => ?_)
  obtain ⟨hq1, hq2⟩ := hq
  rw [hq2] at G
  refine lv_to hq1 ?_
  clear hq1 hq2 eT22
  exact W.iret (v := r24) hx hb hr (fun t ht hW => ⟨⟨r24, T22, rfl, (osome3 h).2, ⟨by rw [ht]; exact G.1, va_K.moved hW.alike hK, G.2.1⟩⟩, G.2.2.F ht⟩) G.2.2.2.2 dX11_window_25
set_option maxHeartbeats 4000000 in
set_option maxRecDepth 100000 in
theorem s_X11_window {T : AT} {o : Nat} {a0 : Int32} {e1 : Nat} {r1 : Int32} {T1 : AT} (h : g_X11_window T o a0 = some (e1, r1, T1)) : SP T T1 := by
  have p0 := SP.rf T
  unfold g_X11_window at h
  obtain ⟨g2, h⟩ := oif_some h
  rcases othr_s h with ⟨k9, r9, e9, -⟩ | ⟨r4, T3, eT3, h⟩
  · exact SP.tr p0 (s_X11_needCamera e9)
  have p1 : SP T T3 := SP.tr p0 (s_X11_needCamera eT3)
  obtain ⟨g5, h⟩ := oif_some h
  rcases othr_s h with ⟨k9, r9, e9, -⟩ | ⟨r7, T6, eT6, h⟩
  · exact SP.tr p1 (s_X11_needCell e9)
  have p2 : SP T T6 := SP.tr p1 (s_X11_needCell eT6)
  obtain ⟨g8, h⟩ := oif_some h
  obtain ⟨n9, en9, h⟩ := obind_some h
  obtain ⟨g10, h⟩ := oif_some h
  obtain ⟨n11, en11, h⟩ := obind_some h
  obtain ⟨g12, h⟩ := oif_some h
  obtain ⟨n13, en13, h⟩ := obind_some h
  obtain ⟨g14, h⟩ := oif_some h
  obtain ⟨g15, h⟩ := oif_some h
  obtain ⟨n16, en16, h⟩ := obind_some h
  obtain ⟨g17, h⟩ := oif_some h
  obtain ⟨r19, T18, eT18, h⟩ := obind2_some h
  have p3 : SP T T18 := SP.tr p2 (s_X8_windowOf eT18)
  rw [← (osome3 h).2.2]
  exact p3
set_option maxHeartbeats 4000000 in
set_option maxRecDepth 100000 in
theorem x_X11_window (l : Launch) (hst : l.stackTraces = false) (D : va_G) (cI cJ cZ cMic cSrc cSt cAI cAJ : ClassId) (ad : Nat → Nat) (T : AT) (o : Nat) (a0 : Int32) {e1 : Nat} {r1 : Int32} {T1 : AT} (h : g_X11_window T o a0 = some (e1 + 1, r1, T1)) : kXi l yX11_window (Cond.code yX11_window cX11_window 2 (some .int) :: wsA) 8 123 cI cJ cZ cMic cSrc cSt cAI cAJ D ad T [.ref (ad o), .int a0] e1 T1 := by
  intro sz
  refine vx_ofW (cc := cX11_window) (maxL := 2) (ret := (some .int)) (by decide) rfl ?_
  intro p e s m args below meth c s₁ B hml htab hv
  obtain ⟨rfl, hsz, hP, hK, hD0, hX, hN⟩ := hv
  have hx := B.exec
  have hb := B.bytes
  have hr := B.returns
  have hts := atoms_spec (ws := (Cond.code yX11_window cX11_window 2 (some .int) :: wsA)) B.pre
  have hown : s.vm.findClass RX11 = some m.cls := findClass_of_methodNamed B.named
  have hlocks := B.notSynchronized
  subst hsz
  have hD := hD0.self (sz := s.heap.size)
  generalize hAe : va_A (cW ad T.1 (cc cI cJ cZ cMic cSrc cSt cAI cAJ ad T)) s.heap.size = A at hD hX ⊢
  have hA : ∀ q : Nat, s.heap.size ≤ q → A q := fun q h => by rw [← hAe]; exact Or.inr h
  have G : gC cI cJ cZ cMic cSrc cSt cAI cAJ D ad A s.heap s.heap [] T := ⟨hP, hD, va_S.rf⟩
  have E : cE p c cX11_window s m ([.ref (ad o), .int a0] : List Value).toArray (Cond.code yX11_window cX11_window 2 (some .int) :: wsA) D RX11 (CT cI cJ cZ cMic cSrc cSt cAI cAJ) := ⟨hx, hb, hts, hown, hK⟩
  have htab : ∀ x ∈ c.exceptionTable.toList, False := fun x hx => htab x hx
  have hl := lv_entry ([.ref (ad o), .int a0]) (n := 2) (Nat.le_of_ble_eq_true rfl)
  rw [lg_entry_eq]
  generalize (lg_sl ([.ref (ad o), .int a0]) ++ List.replicate (2 - (lg_sl ([.ref (ad o), .int a0])).length) Slot.unset).toArray = ls at hl ⊢
  have hl : lv_has ls 2 [(0, .ref (ad o)), (1, .int a0)] := hl
  unfold g_X11_window at h
  refine lv_aload_n hx hb dX11_window_0 rfl (lv_at hl 0 rfl) ?_
  obtain ⟨g2, h⟩ := oif_some h
  rcases othr_t h with ⟨r0, eT3⟩ | ⟨r5, T3, eT3, h⟩
  · refine q_xvv (As := []) (rest := []) E G hA hX hN hml (x_X11_needCamera l hst D cI cJ cZ cMic cSrc cSt cAI cAJ ad T o eT3) (cwV 0 hts (gaV qA_728 qA_729 qA_730 qA_131 qA_731) rfl rfl rfl (by decide +kernel) ⟨Nat.le_of_ble_eq_true rfl, Nat.le_of_ble_eq_true rfl⟩) (oO_k g2).1 (cc_o11 (oO_k g2).2) rfl rfl hl.1 rfl (lv_room (Nat.le_of_ble_eq_true rfl)) dX11_window_1 ⟨Nat.le_of_ble_eq_true rfl, Nat.le_of_ble_eq_true rfl⟩ (fun E9 ce q9 T9 H locs hp G hce hcv hcl => ?_)
    obtain ⟨hE, hT⟩ := hp
    subst hE
    rw [hT] at G
    exact vx_out (fun x hx => (htab x hx).elim) hlocks hce hcv hcl (fun t ht hvm => ⟨T1, trivial, ⟨⟨rfl, rfl⟩, by rw [ht]; exact G.1, va_K.moved hvm hK, G.2.1⟩, G.2.2.F ht⟩) G.2.2.2.2 (Nat.le_refl _) (Nat.le_refl _)
  refine q_cvv (As := []) (rest := []) E G hA hX hN hml (u_X11_needCamera l hst D cI cJ cZ cMic cSrc cSt cAI cAJ ad T o eT3) (cwV 0 hts (gaV qA_728 qA_729 qA_730 qA_131 qA_731) rfl rfl rfl (by decide +kernel) ⟨Nat.le_of_ble_eq_true rfl, Nat.le_of_ble_eq_true rfl⟩) (oO_k g2).1 (cc_o11 (oO_k g2).2) rfl rfl hl.1 rfl (lv_room (Nat.le_of_ble_eq_true rfl)) dX11_window_1 ⟨Nat.zero_le _, Nat.zero_le _⟩ (fun T4 H locs hq G => ?_)
  rw [hq] at G
  clear hq eT3
  refine lv_aload_n hx hb dX11_window_4 rfl (lv_at hl 0 rfl) ?_
  refine lv_iload_n hx hb dX11_window_5 rfl (lv_at hl 1 rfl) ?_
  obtain ⟨g7, h⟩ := oif_some h
  rcases othr_t h with ⟨r0, eT8⟩ | ⟨r10, T8, eT8, h⟩
  · refine q_xvv (As := [.int a0]) (rest := []) E G hA hX hN hml (x_X11_needCell l hst D cI cJ cZ cMic cSrc cSt cAI cAJ ad T3 o a0 eT8) (cwV 1 hts (gaV qA_752 qA_753 qA_754 qA_131 qA_755) rfl rfl rfl (by decide +kernel) ⟨Nat.le_of_ble_eq_true rfl, Nat.le_of_ble_eq_true rfl⟩) (oO_k g7).1 (cc_o11 (oO_k g7).2) rfl rfl hl.1 rfl (lv_room (Nat.le_of_ble_eq_true rfl)) dX11_window_6 ⟨Nat.le_of_ble_eq_true rfl, Nat.le_of_ble_eq_true rfl⟩ (fun E9 ce q9 T9 H locs hp G hce hcv hcl => ?_)
    obtain ⟨hE, hT⟩ := hp
    subst hE
    rw [hT] at G
    exact vx_out (fun x hx => (htab x hx).elim) hlocks hce hcv hcl (fun t ht hvm => ⟨T1, trivial, ⟨⟨rfl, rfl⟩, by rw [ht]; exact G.1, va_K.moved hvm hK, G.2.1⟩, G.2.2.F ht⟩) G.2.2.2.2 (Nat.le_refl _) (Nat.le_refl _)
  refine q_cvv (As := [.int a0]) (rest := []) E G hA hX hN hml (u_X11_needCell l hst D cI cJ cZ cMic cSrc cSt cAI cAJ ad T3 o a0 eT8) (cwV 1 hts (gaV qA_752 qA_753 qA_754 qA_131 qA_755) rfl rfl rfl (by decide +kernel) ⟨Nat.le_of_ble_eq_true rfl, Nat.le_of_ble_eq_true rfl⟩) (oO_k g7).1 (cc_o11 (oO_k g7).2) rfl rfl hl.1 rfl (lv_room (Nat.le_of_ble_eq_true rfl)) dX11_window_6 ⟨Nat.zero_le _, Nat.zero_le _⟩ (fun T9 H locs hq G => ?_)
  rw [hq] at G
  clear hq eT8
  refine lv_aload_n hx hb dX11_window_9 rfl (lv_at hl 0 rfl) ?_
  obtain ⟨g12, h⟩ := oif_some h
  obtain ⟨n13, en13, h⟩ := obind_some h
  refine c_get E G o 6 (v := .ref (ad n13)) (oO_k g12).1 (cc_o11 (oO_k g12).2) rfl (fun w h => .tail _ (iA_23 h)) (by decide) (.tail _ qA_664) rfl (by rw [en13]; rfl) dX11_window_10 ?_
  clear en13
  refine lv_aload_n hx hb dX11_window_13 rfl (lv_at hl 0 rfl) ?_
  obtain ⟨g14, h⟩ := oif_some h
  obtain ⟨n15, en15, h⟩ := obind_some h
  refine c_get E G o 14 (v := .ref (ad n15)) (oO_k g14).1 (cc_o11 (oO_k g14).2) rfl (fun w h => .tail _ (iA_23 h)) (by decide) (.tail _ qA_675) rfl (by rw [en15]; rfl) dX11_window_14 ?_
  clear en15
  obtain ⟨g16, h⟩ := oif_some h
  obtain ⟨n17, en17, h⟩ := obind_some h
  refine c_get E G n15 17 (v := .ref (ad n17)) (oO_k g16).1 (cc_o6 (oO_k g16).2) rfl (fun w h => .tail _ (iA_14 h)) (by decide) (.tail _ qA_778) rfl (by rw [en17]; rfl) dX11_window_17 ?_
  clear en17
  refine lv_iload_n hx hb dX11_window_20 rfl (lv_at hl 1 rfl) ?_
  obtain ⟨g18, h⟩ := oif_some h
  obtain ⟨g19, h⟩ := oif_some h
  obtain ⟨n20, en20, h⟩ := obind_some h
  refine c_alda E G n17 6 (k := a0.toNatClampNeg) (v := .ref (ad n20)) (aA_k g18).1 (cc_a106 (aA_k g18).2.1) rfl (inb_k g19).1 (inb_k g19).2 (aA_k g18).2.2 (by show va_rf ((T8.2.2.2.2 n17 a0.toNatClampNeg).map ad) = _; rw [en20]; rfl) dX11_window_21 ?_
  clear en20
  obtain ⟨g21, h⟩ := oif_some h
  obtain ⟨r24, T22, eT22, h⟩ := obind2_some h
  refine q_cvi (As := [.ref (ad n20)]) (rest := []) E G hA hX hN hml (u_X8_windowOf l hst D cI cJ cZ cMic cSrc cSt cAI cAJ ad T8 n13 n20 eT22) (cwV 1 hts (gaV qA_787 qA_54 qA_55 qA_47 qA_56) rfl rfl rfl (by decide +kernel) ⟨Nat.le_of_ble_eq_true rfl, Nat.le_of_ble_eq_true rfl⟩) (oO_k g21).1 (cc_o8 (oO_k g21).2) rfl rfl hl.1 rfl (lv_room (Nat.le_of_ble_eq_true rfl)) dX11_window_22 ⟨Nat.zero_le _, Nat.zero_le _⟩ (fun q25 T23 H locs hq G => ?_)
  obtain ⟨hq1, hq2⟩ := hq
  rw [hq2] at G
  refine lv_to hq1 ?_
  clear hq1 hq2 eT22
  exact (Nat.succ_ne_zero _ (congrArg Prod.fst (Option.some.inj h)).symm).elim
def g_X11_sample (T : AT) (o : Nat) (a0 : Int32) (a1 : Int32) : Option (Nat × Int32 × AT) := oif (oO T o 11 = true) <| othr (g_X11_needCamera T o) 0 fun r5 T3 => oif (oO T3 o 11 = true) <| othr (g_X11_needMic T3 o a0) 0 fun r10 T8 => oif (oO T8 o 11 = true) <| obind (T8.2.2.2.2 o 14) fun n13 => oif (oO T8 n13 6 = true) <| elet (T8.2.2.1 n13 2) fun v15 => elet (v15 - 1) fun v16 => othr (g_X11_needRange T8 a1 (0 : Int32) v16) 0 fun r19 T17 => oif (oO T17 o 11 = true) <| obind (T17.2.2.2.2 o 6) fun n22 => oif (oO T17 n22 8 = true) <| obind (T17.2.2.2.2 n22 10) fun n24 => obind (g_X8_placeOf a0 a1) fun r25 => oif (oO T17 n24 10 = true) <| obind2 (g_X10_value T17 n24 r25) fun r30 T28 => elet (r30.toInt32) fun v32 => some (0, v32, T28)
set_option maxHeartbeats 4000000 in
set_option maxRecDepth 100000 in
theorem u_X11_sample (l : Launch) (hst : l.stackTraces = false) (D : va_G) (cI cJ cZ cMic cSrc cSt cAI cAJ : ClassId) (ad : Nat → Nat) (T : AT) (o : Nat) (a0 : Int32) (a1 : Int32) {r1 : Int32} {T1 : AT} (h : g_X11_sample T o a0 a1 = some (0, r1, T1)) : kCi l yX11_sample (Cond.code yX11_sample cX11_sample 3 (some .int) :: wsA) 8 123 cI cJ cZ cMic cSrc cSt cAI cAJ D ad T [.ref (ad o), .int a0, .int a1] (fun r T9 => r = r1 ∧ T9 = T1) := by
  intro sz
  refine Met.ofW (cc := cX11_sample) (maxL := 3) (ret := (some .int)) (by decide) rfl ?_
  intro p e s m args below meth c s₁ B hml hv
  obtain ⟨rfl, hsz, hP, hK, hD0, hX, hN⟩ := hv
  have hx := B.exec
  have hb := B.bytes
  have hr := B.returns
  have hts := atoms_spec (ws := (Cond.code yX11_sample cX11_sample 3 (some .int) :: wsA)) B.pre
  have hown : s.vm.findClass RX11 = some m.cls := findClass_of_methodNamed B.named
  have hlocks := B.notSynchronized
  subst hsz
  have hD := hD0.self (sz := s.heap.size)
  generalize hAe : va_A (cW ad T.1 (cc cI cJ cZ cMic cSrc cSt cAI cAJ ad T)) s.heap.size = A at hD hX ⊢
  have hA : ∀ q : Nat, s.heap.size ≤ q → A q := fun q h => by rw [← hAe]; exact Or.inr h
  have G : gC cI cJ cZ cMic cSrc cSt cAI cAJ D ad A s.heap s.heap [] T := ⟨hP, hD, va_S.rf⟩
  have E : cE p c cX11_sample s m ([.ref (ad o), .int a0, .int a1] : List Value).toArray (Cond.code yX11_sample cX11_sample 3 (some .int) :: wsA) D RX11 (CT cI cJ cZ cMic cSrc cSt cAI cAJ) := ⟨hx, hb, hts, hown, hK⟩
  have hl := lv_entry ([.ref (ad o), .int a0, .int a1]) (n := 3) (Nat.le_of_ble_eq_true rfl)
  rw [lg_entry_eq]
  generalize (lg_sl ([.ref (ad o), .int a0, .int a1]) ++ List.replicate (3 - (lg_sl ([.ref (ad o), .int a0, .int a1])).length) Slot.unset).toArray = ls at hl ⊢
  have hl : lv_has ls 3 [(0, .ref (ad o)), (1, .int a0), (2, .int a1)] := hl
  unfold g_X11_sample at h
  refine lv_aload_n hx hb dX11_sample_0 rfl (lv_at hl 0 rfl) ?_
  obtain ⟨g2, h⟩ := oif_some h
  obtain ⟨r5, T3, eT3, h⟩ := othr_n h
  refine q_cvv (As := []) (rest := []) E G hA hX hN hml (u_X11_needCamera l hst D cI cJ cZ cMic cSrc cSt cAI cAJ ad T o eT3) (cwV 0 hts (gaV qA_728 qA_729 qA_730 qA_131 qA_731) rfl rfl rfl (by decide +kernel) ⟨Nat.le_of_ble_eq_true rfl, Nat.le_of_ble_eq_true rfl⟩) (oO_k g2).1 (cc_o11 (oO_k g2).2) rfl rfl hl.1 rfl (lv_room (Nat.le_of_ble_eq_true rfl)) dX11_sample_1 ⟨Nat.zero_le _, Nat.zero_le _⟩ (fun T4 H locs hq G => ?_)
  rw [hq] at G
  clear hq eT3
  refine lv_aload_n hx hb dX11_sample_4 rfl (lv_at hl 0 rfl) ?_
  refine lv_iload_n hx hb dX11_sample_5 rfl (lv_at hl 1 rfl) ?_
  obtain ⟨g7, h⟩ := oif_some h
  obtain ⟨r10, T8, eT8, h⟩ := othr_n h
  refine q_cvv (As := [.int a0]) (rest := []) E G hA hX hN hml (u_X11_needMic l hst D cI cJ cZ cMic cSrc cSt cAI cAJ ad T3 o a0 eT8) (cwV 1 hts (gaV qA_734 qA_735 qA_736 qA_131 qA_737) rfl rfl rfl (by decide +kernel) ⟨Nat.le_of_ble_eq_true rfl, Nat.le_of_ble_eq_true rfl⟩) (oO_k g7).1 (cc_o11 (oO_k g7).2) rfl rfl hl.1 rfl (lv_room (Nat.le_of_ble_eq_true rfl)) dX11_sample_6 ⟨Nat.zero_le _, Nat.zero_le _⟩ (fun T9 H locs hq G => ?_)
  rw [hq] at G
  clear hq eT8
  refine lv_iload_n hx hb dX11_sample_9 rfl (lv_at hl 2 rfl) ?_
  refine lv_iconst (v := 0) hx hb dX11_sample_10 (by decide) ?_
  refine lv_aload_n hx hb dX11_sample_11 rfl (lv_at hl 0 rfl) ?_
  obtain ⟨g12, h⟩ := oif_some h
  obtain ⟨n13, en13, h⟩ := obind_some h
  refine c_get E G o 14 (v := .ref (ad n13)) (oO_k g12).1 (cc_o11 (oO_k g12).2) rfl (fun w h => .tail _ (iA_23 h)) (by decide) (.tail _ qA_675) rfl (by rw [en13]; rfl) dX11_sample_12 ?_
  clear en13
  obtain ⟨g14, h⟩ := oif_some h
  refine c_get E G n13 2 (oO_k g14).1 (cc_o6 (oO_k g14).2) rfl (fun w h => .tail _ (iA_14 h)) (by decide) (.tail _ qA_761) rfl rfl dX11_sample_15 ?_
  refine lv_topi (fun v15 ev15 => ?_)
  have h := elet_at ev15 h
  clear ev15
  refine lv_iconst (v := 1) hx hb dX11_sample_18 (by decide) ?_
  refine lv_isub hx hb dX11_sample_19 ?_
  refine lv_topi (fun v16 ev16 => ?_)
  have h := elet_at ev16 h
  clear ev16
  obtain ⟨r19, T17, eT17, h⟩ := othr_n h
  refine q_csv (As := [.int a1, .int 0, .int v16]) (rest := []) E G hA hX hN hml (u_X11_needRange l hst D cI cJ cZ cMic cSrc cSt cAI cAJ ad T8 a1 (0 : Int32) v16 eT17) (cwS 3 hts (gaS qA_741 qA_742 qA_131 qA_743) rfl rfl rfl (by decide +kernel) ⟨Nat.le_of_ble_eq_true rfl, Nat.le_of_ble_eq_true rfl⟩) rfl hl.1 rfl (lv_room (Nat.le_of_ble_eq_true rfl)) dX11_sample_20 ⟨Nat.zero_le _, Nat.zero_le _⟩ (fun T18 H locs hq G => ?_)
  rw [hq] at G
  clear hq eT17
  refine lv_aload_n hx hb dX11_sample_23 rfl (lv_at hl 0 rfl) ?_
  obtain ⟨g21, h⟩ := oif_some h
  obtain ⟨n22, en22, h⟩ := obind_some h
  refine c_get E G o 6 (v := .ref (ad n22)) (oO_k g21).1 (cc_o11 (oO_k g21).2) rfl (fun w h => .tail _ (iA_23 h)) (by decide) (.tail _ qA_664) rfl (by rw [en22]; rfl) dX11_sample_24 ?_
  clear en22
  obtain ⟨g23, h⟩ := oif_some h
  obtain ⟨n24, en24, h⟩ := obind_some h
  refine c_get E G n22 10 (v := .ref (ad n24)) (oO_k g23).1 (cc_o8 (oO_k g23).2) rfl (fun w h => .tail _ (iA_16 h)) (by decide) (.tail _ qA_789) rfl (by rw [en24]; rfl) dX11_sample_27 ?_
  clear en24
  refine lv_iload_n hx hb dX11_sample_30 rfl (lv_at hl 1 rfl) ?_
  refine lv_iload_n hx hb dX11_sample_31 rfl (lv_at hl 2 rfl) ?_
  obtain ⟨r25, er25, h⟩ := obind_some h
  refine q_sti (As := [.int a0, .int a1]) (rest := [.ref (ad n24)]) ⟨hx, hb, hml, hown, hts⟩ hN (u_X8_placeOf l a0 a1 er25) ⟨callB_of 2 hts (gaC qA_89) rfl rfl rfl (hts _ (.tail _ qA_47)) (hts _ (.tail _ qA_790)) (by decide +kernel) ⟨Nat.le_of_ble_eq_true rfl, Nat.le_of_ble_eq_true rfl⟩, hts _ (.tail _ qA_88)⟩ rfl hl.1 rfl (lv_room (Nat.le_of_ble_eq_true rfl)) dX11_sample_32 ⟨Nat.zero_le _, Nat.zero_le _⟩ (fun q26 hq => ?_)
  refine lv_to hq ?_
  clear hq er25
  obtain ⟨g27, h⟩ := oif_some h
  obtain ⟨r30, T28, eT28, h⟩ := obind2_some h
  refine q_cvl (As := [.int r25]) (rest := []) E G hA hX hN hml (u_X10_value l hst D cI cJ cZ cMic cSrc cSt cAI cAJ ad T17 n24 r25 eT28) (cwV 1 hts (gaV qA_791 qA_792 qA_793 qA_6 qA_633) rfl rfl rfl (by decide +kernel) ⟨Nat.le_of_ble_eq_true rfl, Nat.le_of_ble_eq_true rfl⟩) (oO_k g27).1 (cc_o10 (oO_k g27).2) rfl rfl hl.1 rfl (lv_room (Nat.le_of_ble_eq_true rfl)) dX11_sample_35 ⟨Nat.zero_le _, Nat.zero_le _⟩ (fun q31 T29 H locs hq G => ?_)
  obtain ⟨hq1, hq2⟩ := hq
  rw [hq2] at G
  refine lv_tol hq1 ?_
  clear hq1 hq2 eT28
  refine lv_l2i (v := r30.toInt32) hx hb dX11_sample_38 rfl ?_
  refine lv_topi (fun v32 ev32 => ?_)
  have h := elet_at ev32 h
  clear ev32
  exact W.iret (v := v32) hx hb hr (fun t ht hW => ⟨⟨v32, T28, rfl, (osome3 h).2, ⟨by rw [ht]; exact G.1, va_K.moved hW.alike hK, G.2.1⟩⟩, G.2.2.F ht⟩) G.2.2.2.2 dX11_sample_39
set_option maxHeartbeats 4000000 in
set_option maxRecDepth 100000 in
theorem s_X11_sample {T : AT} {o : Nat} {a0 : Int32} {a1 : Int32} {e1 : Nat} {r1 : Int32} {T1 : AT} (h : g_X11_sample T o a0 a1 = some (e1, r1, T1)) : SP T T1 := by
  have p0 := SP.rf T
  unfold g_X11_sample at h
  obtain ⟨g2, h⟩ := oif_some h
  rcases othr_s h with ⟨k9, r9, e9, -⟩ | ⟨r4, T3, eT3, h⟩
  · exact SP.tr p0 (s_X11_needCamera e9)
  have p1 : SP T T3 := SP.tr p0 (s_X11_needCamera eT3)
  obtain ⟨g5, h⟩ := oif_some h
  rcases othr_s h with ⟨k9, r9, e9, -⟩ | ⟨r7, T6, eT6, h⟩
  · exact SP.tr p1 (s_X11_needMic e9)
  have p2 : SP T T6 := SP.tr p1 (s_X11_needMic eT6)
  obtain ⟨g8, h⟩ := oif_some h
  obtain ⟨n9, en9, h⟩ := obind_some h
  obtain ⟨g10, h⟩ := oif_some h
  obtain ⟨v11, -, h⟩ := elet_some h
  obtain ⟨v12, -, h⟩ := elet_some h
  rcases othr_s h with ⟨k9, r9, e9, -⟩ | ⟨r14, T13, eT13, h⟩
  · exact SP.tr p2 (s_X11_needRange e9)
  have p3 : SP T T13 := SP.tr p2 (s_X11_needRange eT13)
  obtain ⟨g15, h⟩ := oif_some h
  obtain ⟨n16, en16, h⟩ := obind_some h
  obtain ⟨g17, h⟩ := oif_some h
  obtain ⟨n18, en18, h⟩ := obind_some h
  obtain ⟨r19, -, h⟩ := obind_some h
  obtain ⟨g20, h⟩ := oif_some h
  obtain ⟨r22, T21, eT21, h⟩ := obind2_some h
  have p4 : SP T T21 := SP.tr p3 (s_X10_value eT21)
  obtain ⟨v23, -, h⟩ := elet_some h
  rw [← (osome3 h).2.2]
  exact p4
set_option maxHeartbeats 4000000 in
set_option maxRecDepth 100000 in
theorem x_X11_sample (l : Launch) (hst : l.stackTraces = false) (D : va_G) (cI cJ cZ cMic cSrc cSt cAI cAJ : ClassId) (ad : Nat → Nat) (T : AT) (o : Nat) (a0 : Int32) (a1 : Int32) {e1 : Nat} {r1 : Int32} {T1 : AT} (h : g_X11_sample T o a0 a1 = some (e1 + 1, r1, T1)) : kXi l yX11_sample (Cond.code yX11_sample cX11_sample 3 (some .int) :: wsA) 8 123 cI cJ cZ cMic cSrc cSt cAI cAJ D ad T [.ref (ad o), .int a0, .int a1] e1 T1 := by
  intro sz
  refine vx_ofW (cc := cX11_sample) (maxL := 3) (ret := (some .int)) (by decide) rfl ?_
  intro p e s m args below meth c s₁ B hml htab hv
  obtain ⟨rfl, hsz, hP, hK, hD0, hX, hN⟩ := hv
  have hx := B.exec
  have hb := B.bytes
  have hr := B.returns
  have hts := atoms_spec (ws := (Cond.code yX11_sample cX11_sample 3 (some .int) :: wsA)) B.pre
  have hown : s.vm.findClass RX11 = some m.cls := findClass_of_methodNamed B.named
  have hlocks := B.notSynchronized
  subst hsz
  have hD := hD0.self (sz := s.heap.size)
  generalize hAe : va_A (cW ad T.1 (cc cI cJ cZ cMic cSrc cSt cAI cAJ ad T)) s.heap.size = A at hD hX ⊢
  have hA : ∀ q : Nat, s.heap.size ≤ q → A q := fun q h => by rw [← hAe]; exact Or.inr h
  have G : gC cI cJ cZ cMic cSrc cSt cAI cAJ D ad A s.heap s.heap [] T := ⟨hP, hD, va_S.rf⟩
  have E : cE p c cX11_sample s m ([.ref (ad o), .int a0, .int a1] : List Value).toArray (Cond.code yX11_sample cX11_sample 3 (some .int) :: wsA) D RX11 (CT cI cJ cZ cMic cSrc cSt cAI cAJ) := ⟨hx, hb, hts, hown, hK⟩
  have htab : ∀ x ∈ c.exceptionTable.toList, False := fun x hx => htab x hx
  have hl := lv_entry ([.ref (ad o), .int a0, .int a1]) (n := 3) (Nat.le_of_ble_eq_true rfl)
  rw [lg_entry_eq]
  generalize (lg_sl ([.ref (ad o), .int a0, .int a1]) ++ List.replicate (3 - (lg_sl ([.ref (ad o), .int a0, .int a1])).length) Slot.unset).toArray = ls at hl ⊢
  have hl : lv_has ls 3 [(0, .ref (ad o)), (1, .int a0), (2, .int a1)] := hl
  unfold g_X11_sample at h
  refine lv_aload_n hx hb dX11_sample_0 rfl (lv_at hl 0 rfl) ?_
  obtain ⟨g2, h⟩ := oif_some h
  rcases othr_t h with ⟨r0, eT3⟩ | ⟨r5, T3, eT3, h⟩
  · refine q_xvv (As := []) (rest := []) E G hA hX hN hml (x_X11_needCamera l hst D cI cJ cZ cMic cSrc cSt cAI cAJ ad T o eT3) (cwV 0 hts (gaV qA_728 qA_729 qA_730 qA_131 qA_731) rfl rfl rfl (by decide +kernel) ⟨Nat.le_of_ble_eq_true rfl, Nat.le_of_ble_eq_true rfl⟩) (oO_k g2).1 (cc_o11 (oO_k g2).2) rfl rfl hl.1 rfl (lv_room (Nat.le_of_ble_eq_true rfl)) dX11_sample_1 ⟨Nat.le_of_ble_eq_true rfl, Nat.le_of_ble_eq_true rfl⟩ (fun E9 ce q9 T9 H locs hp G hce hcv hcl => ?_)
    obtain ⟨hE, hT⟩ := hp
    subst hE
    rw [hT] at G
    exact vx_out (fun x hx => (htab x hx).elim) hlocks hce hcv hcl (fun t ht hvm => ⟨T1, trivial, ⟨⟨rfl, rfl⟩, by rw [ht]; exact G.1, va_K.moved hvm hK, G.2.1⟩, G.2.2.F ht⟩) G.2.2.2.2 (Nat.le_refl _) (Nat.le_refl _)
  refine q_cvv (As := []) (rest := []) E G hA hX hN hml (u_X11_needCamera l hst D cI cJ cZ cMic cSrc cSt cAI cAJ ad T o eT3) (cwV 0 hts (gaV qA_728 qA_729 qA_730 qA_131 qA_731) rfl rfl rfl (by decide +kernel) ⟨Nat.le_of_ble_eq_true rfl, Nat.le_of_ble_eq_true rfl⟩) (oO_k g2).1 (cc_o11 (oO_k g2).2) rfl rfl hl.1 rfl (lv_room (Nat.le_of_ble_eq_true rfl)) dX11_sample_1 ⟨Nat.zero_le _, Nat.zero_le _⟩ (fun T4 H locs hq G => ?_)
  rw [hq] at G
  clear hq eT3
  refine lv_aload_n hx hb dX11_sample_4 rfl (lv_at hl 0 rfl) ?_
  refine lv_iload_n hx hb dX11_sample_5 rfl (lv_at hl 1 rfl) ?_
  obtain ⟨g7, h⟩ := oif_some h
  rcases othr_t h with ⟨r0, eT8⟩ | ⟨r10, T8, eT8, h⟩
  · refine q_xvv (As := [.int a0]) (rest := []) E G hA hX hN hml (x_X11_needMic l hst D cI cJ cZ cMic cSrc cSt cAI cAJ ad T3 o a0 eT8) (cwV 1 hts (gaV qA_734 qA_735 qA_736 qA_131 qA_737) rfl rfl rfl (by decide +kernel) ⟨Nat.le_of_ble_eq_true rfl, Nat.le_of_ble_eq_true rfl⟩) (oO_k g7).1 (cc_o11 (oO_k g7).2) rfl rfl hl.1 rfl (lv_room (Nat.le_of_ble_eq_true rfl)) dX11_sample_6 ⟨Nat.le_of_ble_eq_true rfl, Nat.le_of_ble_eq_true rfl⟩ (fun E9 ce q9 T9 H locs hp G hce hcv hcl => ?_)
    obtain ⟨hE, hT⟩ := hp
    subst hE
    rw [hT] at G
    exact vx_out (fun x hx => (htab x hx).elim) hlocks hce hcv hcl (fun t ht hvm => ⟨T1, trivial, ⟨⟨rfl, rfl⟩, by rw [ht]; exact G.1, va_K.moved hvm hK, G.2.1⟩, G.2.2.F ht⟩) G.2.2.2.2 (Nat.le_refl _) (Nat.le_refl _)
  refine q_cvv (As := [.int a0]) (rest := []) E G hA hX hN hml (u_X11_needMic l hst D cI cJ cZ cMic cSrc cSt cAI cAJ ad T3 o a0 eT8) (cwV 1 hts (gaV qA_734 qA_735 qA_736 qA_131 qA_737) rfl rfl rfl (by decide +kernel) ⟨Nat.le_of_ble_eq_true rfl, Nat.le_of_ble_eq_true rfl⟩) (oO_k g7).1 (cc_o11 (oO_k g7).2) rfl rfl hl.1 rfl (lv_room (Nat.le_of_ble_eq_true rfl)) dX11_sample_6 ⟨Nat.zero_le _, Nat.zero_le _⟩ (fun T9 H locs hq G => ?_)
  rw [hq] at G
  clear hq eT8
  refine lv_iload_n hx hb dX11_sample_9 rfl (lv_at hl 2 rfl) ?_
  refine lv_iconst (v := 0) hx hb dX11_sample_10 (by decide) ?_
  refine lv_aload_n hx hb dX11_sample_11 rfl (lv_at hl 0 rfl) ?_
  obtain ⟨g12, h⟩ := oif_some h
  obtain ⟨n13, en13, h⟩ := obind_some h
  refine c_get E G o 14 (v := .ref (ad n13)) (oO_k g12).1 (cc_o11 (oO_k g12).2) rfl (fun w h => .tail _ (iA_23 h)) (by decide) (.tail _ qA_675) rfl (by rw [en13]; rfl) dX11_sample_12 ?_
  clear en13
  obtain ⟨g14, h⟩ := oif_some h
  refine c_get E G n13 2 (oO_k g14).1 (cc_o6 (oO_k g14).2) rfl (fun w h => .tail _ (iA_14 h)) (by decide) (.tail _ qA_761) rfl rfl dX11_sample_15 ?_
  refine lv_topi (fun v15 ev15 => ?_)
  have h := elet_at ev15 h
  clear ev15
  refine lv_iconst (v := 1) hx hb dX11_sample_18 (by decide) ?_
  refine lv_isub hx hb dX11_sample_19 ?_
  refine lv_topi (fun v16 ev16 => ?_)
  have h := elet_at ev16 h
  clear ev16
  rcases othr_t h with ⟨r0, eT17⟩ | ⟨r19, T17, eT17, h⟩
  · refine q_xsv (As := [.int a1, .int 0, .int v16]) (rest := []) E G hA hX hN hml (x_X11_needRange l hst D cI cJ cZ cMic cSrc cSt cAI cAJ ad T8 a1 (0 : Int32) v16 eT17) (cwS 3 hts (gaS qA_741 qA_742 qA_131 qA_743) rfl rfl rfl (by decide +kernel) ⟨Nat.le_of_ble_eq_true rfl, Nat.le_of_ble_eq_true rfl⟩) rfl hl.1 rfl (lv_room (Nat.le_of_ble_eq_true rfl)) dX11_sample_20 ⟨Nat.le_of_ble_eq_true rfl, Nat.le_of_ble_eq_true rfl⟩ (fun E9 ce q9 T9 H locs hp G hce hcv hcl => ?_)
    obtain ⟨hE, hT⟩ := hp
    subst hE
    rw [hT] at G
    exact vx_out (fun x hx => (htab x hx).elim) hlocks hce hcv hcl (fun t ht hvm => ⟨T1, trivial, ⟨⟨rfl, rfl⟩, by rw [ht]; exact G.1, va_K.moved hvm hK, G.2.1⟩, G.2.2.F ht⟩) G.2.2.2.2 (Nat.le_refl _) (Nat.le_refl _)
  refine q_csv (As := [.int a1, .int 0, .int v16]) (rest := []) E G hA hX hN hml (u_X11_needRange l hst D cI cJ cZ cMic cSrc cSt cAI cAJ ad T8 a1 (0 : Int32) v16 eT17) (cwS 3 hts (gaS qA_741 qA_742 qA_131 qA_743) rfl rfl rfl (by decide +kernel) ⟨Nat.le_of_ble_eq_true rfl, Nat.le_of_ble_eq_true rfl⟩) rfl hl.1 rfl (lv_room (Nat.le_of_ble_eq_true rfl)) dX11_sample_20 ⟨Nat.zero_le _, Nat.zero_le _⟩ (fun T18 H locs hq G => ?_)
  rw [hq] at G
  clear hq eT17
  refine lv_aload_n hx hb dX11_sample_23 rfl (lv_at hl 0 rfl) ?_
  obtain ⟨g21, h⟩ := oif_some h
  obtain ⟨n22, en22, h⟩ := obind_some h
  refine c_get E G o 6 (v := .ref (ad n22)) (oO_k g21).1 (cc_o11 (oO_k g21).2) rfl (fun w h => .tail _ (iA_23 h)) (by decide) (.tail _ qA_664) rfl (by rw [en22]; rfl) dX11_sample_24 ?_
  clear en22
  obtain ⟨g23, h⟩ := oif_some h
  obtain ⟨n24, en24, h⟩ := obind_some h
  refine c_get E G n22 10 (v := .ref (ad n24)) (oO_k g23).1 (cc_o8 (oO_k g23).2) rfl (fun w h => .tail _ (iA_16 h)) (by decide) (.tail _ qA_789) rfl (by rw [en24]; rfl) dX11_sample_27 ?_
  clear en24
  refine lv_iload_n hx hb dX11_sample_30 rfl (lv_at hl 1 rfl) ?_
  refine lv_iload_n hx hb dX11_sample_31 rfl (lv_at hl 2 rfl) ?_
  obtain ⟨r25, er25, h⟩ := obind_some h
  refine q_sti (As := [.int a0, .int a1]) (rest := [.ref (ad n24)]) ⟨hx, hb, hml, hown, hts⟩ hN (u_X8_placeOf l a0 a1 er25) ⟨callB_of 2 hts (gaC qA_89) rfl rfl rfl (hts _ (.tail _ qA_47)) (hts _ (.tail _ qA_790)) (by decide +kernel) ⟨Nat.le_of_ble_eq_true rfl, Nat.le_of_ble_eq_true rfl⟩, hts _ (.tail _ qA_88)⟩ rfl hl.1 rfl (lv_room (Nat.le_of_ble_eq_true rfl)) dX11_sample_32 ⟨Nat.zero_le _, Nat.zero_le _⟩ (fun q26 hq => ?_)
  refine lv_to hq ?_
  clear hq er25
  obtain ⟨g27, h⟩ := oif_some h
  obtain ⟨r30, T28, eT28, h⟩ := obind2_some h
  refine q_cvl (As := [.int r25]) (rest := []) E G hA hX hN hml (u_X10_value l hst D cI cJ cZ cMic cSrc cSt cAI cAJ ad T17 n24 r25 eT28) (cwV 1 hts (gaV qA_791 qA_792 qA_793 qA_6 qA_633) rfl rfl rfl (by decide +kernel) ⟨Nat.le_of_ble_eq_true rfl, Nat.le_of_ble_eq_true rfl⟩) (oO_k g27).1 (cc_o10 (oO_k g27).2) rfl rfl hl.1 rfl (lv_room (Nat.le_of_ble_eq_true rfl)) dX11_sample_35 ⟨Nat.zero_le _, Nat.zero_le _⟩ (fun q31 T29 H locs hq G => ?_)
  obtain ⟨hq1, hq2⟩ := hq
  rw [hq2] at G
  refine lv_tol hq1 ?_
  clear hq1 hq2 eT28
  refine lv_l2i (v := r30.toInt32) hx hb dX11_sample_38 rfl ?_
  refine lv_topi (fun v32 ev32 => ?_)
  have h := elet_at ev32 h
  clear ev32
  exact (Nat.succ_ne_zero _ (congrArg Prod.fst (Option.some.inj h)).symm).elim
end
