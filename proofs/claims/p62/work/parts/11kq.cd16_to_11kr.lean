section
/-! 11kq.cd16.lean.txt -/
def g_X11_addMapByte_b32  (T : AT)  : Option (AT) := some T
set_option maxHeartbeats 4000000 in
set_option maxRecDepth 100000 in
theorem u_X11_addMapByte_b32 {p : Program} {l : Launch} {e : Env} {s : State} {m : MethodId} {args : Array Value} {below : List Frame} {meth : Method} {c : Code} {Q : State → Prop} {D : va_G} {A : Nat → Prop} {cI cJ cZ cMic cSrc cSt cAI cAJ : ClassId} {ad : Nat → Nat} {T1 : AT} (E : cE p c cX11_addMapByte s m args (Cond.code yX11_addMapByte cX11_addMapByte 2 none :: wsA) D RX11 (CT cI cJ cZ cMic cSrc cSt cAI cAJ)) (hA : ∀ q : Nat, s.heap.size ≤ q → A q) (hX : xT A s) (hN : nX s) (hml : c.maxLocals = 2) (hst : l.stackTraces = false) (kr32 : ∀ (H : Heap) (locs : List Loc) (ls : Array Slot), gC cI cJ cZ cMic cSrc cSt cAI cAJ D ad A s.heap H locs T1 → W p l e { frames := 1, cells := 0, slots := 0, locals := 0 } s m args below meth c H locs 0 0 Q (F0 m 32 ls [])) : ∀ (T : AT) (H : Heap) (locs : List Loc) (ls : Array Slot), g_X11_addMapByte_b32 T = some T1 → gC cI cJ cZ cMic cSrc cSt cAI cAJ D ad A s.heap H locs T → lv_has ls 2 [] → W p l e { frames := 1, cells := 0, slots := 0, locals := 0 } s m args below meth c H locs 0 0 Q (F0 m 32 ls []) := by
  have hx := E.1
  have hb := E.2.1
  have hts := E.2.2.1
  have hown := E.2.2.2.1
  have hK := E.2.2.2.2
  intro T H locs ls h G hl
  unfold g_X11_addMapByte_b32 at h
  rw [osome1 h] at G
  exact kr32 _ _ _ G
def g_X11_addMapByte (T : AT) (o : Nat) (a0 : Int32) : Option (AT) := oif (oO T o 11 = true) <| elet (T.2.2.1 o 18) fun v3 => oif (oO T o 11 = true) <| obind (T.2.2.2.2 o 13) fun n5 => oif (aA T n5 100 = true) <| elet (nI (T.2.1 n5).2) fun v7 => if v7 ≤ v3 then (g_X11_addMapByte_b32 T) else (oif (oO T o 11 = true) <| obind (T.2.2.2.2 o 13) fun n10 => oif (oO T o 11 = true) <| elet (T.2.2.1 o 18) fun v12 => oif (aA T n10 100 = true) <| oif (inb v12 (T.2.1 n10).2 = true) <| elet (uI T n10 v12.toNatClampNeg a0) fun T15 => oif (oO T15 o 11 = true) <| elet (T15.2.2.1 o 18) fun v17 => elet (v17 + 1) fun v18 => oif (oO T15 o 11 = true) <| elet (uI T15 o 18 v18) fun T20 => g_X11_addMapByte_b32 T20)
set_option maxHeartbeats 4000000 in
set_option maxRecDepth 100000 in
theorem u_X11_addMapByte (l : Launch) (hst : l.stackTraces = false) (D : va_G) (cI cJ cZ cMic cSrc cSt cAI cAJ : ClassId) (ad : Nat → Nat) (T : AT) (o : Nat) (a0 : Int32) {T1 : AT} (h : g_X11_addMapByte T o a0 = some T1) : kCv l yX11_addMapByte (Cond.code yX11_addMapByte cX11_addMapByte 2 none :: wsA) 1 0 cI cJ cZ cMic cSrc cSt cAI cAJ D ad T [.ref (ad o), .int a0] (fun T9 => T9 = T1) := by
  intro sz
  refine Met.ofW (cc := cX11_addMapByte) (maxL := 2) (ret := none) (by decide) rfl ?_
  intro p e s m args below meth c s₁ B hml hv
  obtain ⟨rfl, hsz, hP, hK, hD0, hX, hN⟩ := hv
  have hx := B.exec
  have hb := B.bytes
  have hr := B.returns
  have hts := atoms_spec (ws := (Cond.code yX11_addMapByte cX11_addMapByte 2 none :: wsA)) B.pre
  have hown : s.vm.findClass RX11 = some m.cls := findClass_of_methodNamed B.named
  have hlocks := B.notSynchronized
  subst hsz
  have hD := hD0.self (sz := s.heap.size)
  generalize hAe : va_A (cW ad T.1 (cc cI cJ cZ cMic cSrc cSt cAI cAJ ad T)) s.heap.size = A at hD hX ⊢
  have hA : ∀ q : Nat, s.heap.size ≤ q → A q := fun q h => by rw [← hAe]; exact Or.inr h
  have G : gC cI cJ cZ cMic cSrc cSt cAI cAJ D ad A s.heap s.heap [] T := ⟨hP, hD, va_S.rf⟩
  have E : cE p c cX11_addMapByte s m ([.ref (ad o), .int a0] : List Value).toArray (Cond.code yX11_addMapByte cX11_addMapByte 2 none :: wsA) D RX11 (CT cI cJ cZ cMic cSrc cSt cAI cAJ) := ⟨hx, hb, hts, hown, hK⟩
  have hl := lv_entry ([.ref (ad o), .int a0]) (n := 2) (Nat.le_of_ble_eq_true rfl)
  rw [lg_entry_eq]
  generalize (lg_sl ([.ref (ad o), .int a0]) ++ List.replicate (2 - (lg_sl ([.ref (ad o), .int a0])).length) Slot.unset).toArray = ls at hl ⊢
  have hl : lv_has ls 2 [(0, .ref (ad o)), (1, .int a0)] := hl
  unfold g_X11_addMapByte at h
  refine lv_aload_n hx hb dX11_addMapByte_0 rfl (lv_at hl 0 rfl) ?_
  obtain ⟨g2, h⟩ := oif_some h
  refine c_get E G o 18 (oO_k g2).1 (cc_o11 (oO_k g2).2) rfl (fun w h => .tail _ (iA_23 h)) (by decide) (.tail _ qA_896) rfl rfl dX11_addMapByte_1 ?_
  refine lv_topi (fun v3 ev3 => ?_)
  have h := elet_at ev3 h
  clear ev3
  refine lv_aload_n hx hb dX11_addMapByte_4 rfl (lv_at hl 0 rfl) ?_
  obtain ⟨g4, h⟩ := oif_some h
  obtain ⟨n5, en5, h⟩ := obind_some h
  refine c_get E G o 13 (v := .ref (ad n5)) (oO_k g4).1 (cc_o11 (oO_k g4).2) rfl (fun w h => .tail _ (iA_23 h)) (by decide) (.tail _ qA_672) rfl (by rw [en5]; rfl) dX11_addMapByte_5 ?_
  clear en5
  obtain ⟨g6, h⟩ := oif_some h
  refine va_alen hx hb hK G.1 n5 0 (cW_e (aA_k g6).1 (cc_a100 (aA_k g6).2.1)) rfl (v := nI (T.2.1 n5).2) rfl dX11_addMapByte_8 ?_
  refine lv_topi (fun v7 ev7 => ?_)
  have h := elet_at ev7 h
  clear ev7
  refine lv_icmp_ge (tgt := 32) hx hb dX11_addMapByte_9 (by decide) (fun c8 => ?_) (fun c8 => ?_)
  · have h := oif_pos c8 h
    have hl := lv_sub hl [] rfl
    exact u_X11_addMapByte_b32 E hA hX hN hml hst (fun H locs ls G => W.vret hx hb hr (fun t ht hW => ⟨⟨T1, rfl, rfl, ⟨by rw [ht]; exact G.1, va_K.moved hW.alike hK, G.2.1⟩⟩, G.2.2.F ht⟩) G.2.2.2.2 dX11_addMapByte_32) _ _ _ _ h G hl
  · have h := oif_neg c8 h
    refine lv_aload_n hx hb dX11_addMapByte_12 rfl (lv_at hl 0 rfl) ?_
    obtain ⟨g9, h⟩ := oif_some h
    obtain ⟨n10, en10, h⟩ := obind_some h
    refine c_get E G o 13 (v := .ref (ad n10)) (oO_k g9).1 (cc_o11 (oO_k g9).2) rfl (fun w h => .tail _ (iA_23 h)) (by decide) (.tail _ qA_672) rfl (by rw [en10]; rfl) dX11_addMapByte_13 ?_
    clear en10
    refine lv_aload_n hx hb dX11_addMapByte_16 rfl (lv_at hl 0 rfl) ?_
    obtain ⟨g11, h⟩ := oif_some h
    refine c_get E G o 18 (oO_k g11).1 (cc_o11 (oO_k g11).2) rfl (fun w h => .tail _ (iA_23 h)) (by decide) (.tail _ qA_896) rfl rfl dX11_addMapByte_17 ?_
    refine lv_topi (fun v12 ev12 => ?_)
    have h := elet_at ev12 h
    clear ev12
    refine lv_iload_n hx hb dX11_addMapByte_20 rfl (lv_at hl 1 rfl) ?_
    obtain ⟨g13, h⟩ := oif_some h
    obtain ⟨g14, h⟩ := oif_some h
    refine c_iast E G n10 0 (k := v12.toNatClampNeg) (v := a0) (aA_k g13).1 (cc_a100 (aA_k g13).2.1) rfl (inb_k g14).1 (inb_k g14).2 (aA_k g13).2.2 dX11_addMapByte_21 (fun H locs G => ?_)
    have G := gC_up_i (f := upd (T.2.2.1 n10) v12.toNatClampNeg a0) (ccv_100 (aA_k g13).2.1) G
    obtain ⟨T15, eT15, h⟩ := elet_some h
    have G : gC cI cJ cZ cMic cSrc cSt cAI cAJ D ad A s.heap H locs T15 := by rw [eT15]; exact G
    clear eT15
    refine lv_aload_n hx hb dX11_addMapByte_22 rfl (lv_at hl 0 rfl) ?_
    refine lv_dup hx hb dX11_addMapByte_23 rfl ?_
    obtain ⟨g16, h⟩ := oif_some h
    refine c_get E G o 18 (oO_k g16).1 (cc_o11 (oO_k g16).2) rfl (fun w h => .tail _ (iA_23 h)) (by decide) (.tail _ qA_896) rfl rfl dX11_addMapByte_24 ?_
    refine lv_topi (fun v17 ev17 => ?_)
    have h := elet_at ev17 h
    clear ev17
    refine lv_iconst (v := 1) hx hb dX11_addMapByte_27 (by decide) ?_
    refine lv_iadd hx hb dX11_addMapByte_28 ?_
    refine lv_topi (fun v18 ev18 => ?_)
    have h := elet_at ev18 h
    clear ev18
    obtain ⟨g19, h⟩ := oif_some h
    refine c_put E G o 18 (v := .int v18) (oO_k g19).1 (cc_o11 (oO_k g19).2) rfl (fun w h => .tail _ (iA_23 h)) tyX11 tyX11_ok nmX11 (by decide) (.tail _ qA_896) ⟨rfl, rfl, rfl⟩ rfl rfl (Nat.le_of_ble_eq_true rfl) dX11_addMapByte_29 (fun H locs G => ?_)
    have G := gC_up_i (f := upd (T15.2.2.1 o) 18 v18) (by rw [(oO_k g19).2]; rfl) G
    obtain ⟨T20, eT20, h⟩ := elet_some h
    have G : gC cI cJ cZ cMic cSrc cSt cAI cAJ D ad A s.heap H locs T20 := by rw [eT20]; exact G
    clear eT20
    have hl := lv_sub hl [] rfl
    exact u_X11_addMapByte_b32 E hA hX hN hml hst (fun H locs ls G => W.vret hx hb hr (fun t ht hW => ⟨⟨T1, rfl, rfl, ⟨by rw [ht]; exact G.1, va_K.moved hW.alike hK, G.2.1⟩⟩, G.2.2.F ht⟩) G.2.2.2.2 dX11_addMapByte_32) _ _ _ _ h G hl
set_option maxHeartbeats 4000000 in
set_option maxRecDepth 100000 in
theorem s_X11_addMapByte_b32 {T1 : AT} : ∀ (T : AT), g_X11_addMapByte_b32 T = some T1 → SP T T1 := by
  intro T h
  have p0 := SP.rf T
  unfold g_X11_addMapByte_b32 at h
  rw [← osome1 h]
  exact p0
set_option maxHeartbeats 4000000 in
set_option maxRecDepth 100000 in
theorem s_X11_addMapByte {T : AT} {o : Nat} {a0 : Int32} {T1 : AT} (h : g_X11_addMapByte T o a0 = some T1) : SP T T1 := by
  have p0 := SP.rf T
  unfold g_X11_addMapByte at h
  obtain ⟨g2, h⟩ := oif_some h
  obtain ⟨v3, -, h⟩ := elet_some h
  obtain ⟨g4, h⟩ := oif_some h
  obtain ⟨n5, en5, h⟩ := obind_some h
  obtain ⟨g6, h⟩ := oif_some h
  obtain ⟨v7, -, h⟩ := elet_some h
  rcases oif_or h with ⟨c8, h⟩ | ⟨c8, h⟩
  · have h := h
    exact SP.tr p0 (s_X11_addMapByte_b32 _ h)
  · have h := h
    obtain ⟨g9, h⟩ := oif_some h
    obtain ⟨n10, en10, h⟩ := obind_some h
    obtain ⟨g11, h⟩ := oif_some h
    obtain ⟨v12, -, h⟩ := elet_some h
    obtain ⟨g13, h⟩ := oif_some h
    obtain ⟨g14, h⟩ := oif_some h
    obtain ⟨T15, eT15, h⟩ := elet_some h
    have p1 : SP T T15 := SP.tr p0 (by rw [eT15]; exact sp_uI)
    obtain ⟨g16, h⟩ := oif_some h
    obtain ⟨v17, -, h⟩ := elet_some h
    obtain ⟨v18, -, h⟩ := elet_some h
    obtain ⟨g19, h⟩ := oif_some h
    obtain ⟨T20, eT20, h⟩ := elet_some h
    have p2 : SP T T20 := SP.tr p1 (by rw [eT20]; exact sp_uI)
    exact SP.tr p2 (s_X11_addMapByte_b32 _ h)
def g_X11_writeMap_b66 (k16 : AT → Nat → Nat → Int32 → Option (Nat × Int32 × AT)) (T : AT) (s0 : Int32) (s1 : Int32) (s2 : Nat) (l0 : Nat) (l1 : Nat) (l2 : Int32) : Option (Nat × Int32 × AT) := elet (s1 + s0) fun v2 => oif (oO T s2 11 = true) <| obind (g_X11_addMapByte T s2 v2) fun T4 => elet (l2 + Int32.ofInt (1)) fun v6 => k16 T4 l0 l1 v6
def g_X11_writeMap_b54 (k16 : AT → Nat → Nat → Int32 → Option (Nat × Int32 × AT)) (T : AT) (l0 : Nat) (l1 : Nat) (l2 : Int32) : Option (Nat × Int32 × AT) := oif (oO T l0 11 = true) <| obind (T.2.2.2.2 l0 12) fun n3 => oif (oO T l1 4 = true) <| obind2 (g_X4_digit T l1 l2 n3) fun r6 T5 => g_X11_writeMap_b66 k16 T5 r6 48 l0 l0 l1 l2
def g_X11_writeMap_b16  : Nat → AT → Nat → Nat → Int32 → Option (Nat × Int32 × AT)
  | 0, _, _, _, _ => none
  | n + 1, T, l0, l1, l2 => oif (oO T l0 11 = true) <| obind (T.2.2.2.2 l0 14) fun n3 => oif (oO T n3 6 = true) <| obind (T.2.2.2.2 n3 6) fun n5 => oif (oO T n5 1 = true) <| obind2 (g_X1_cells T n5) fun r9 T7 => if r9 ≤ l2 then (oif (oO T7 l0 11 = true) <| elet (T7.2.2.1 l0 18) fun v13 => some (0, v13, T7)) else (if l2 ≤ 0 then (g_X11_writeMap_b54 (g_X11_writeMap_b16 n) T7 l0 l1 l2) else (oif (oO T7 l0 11 = true) <| obind (T7.2.2.2.2 l0 14) fun n16 => oif (oO T7 n16 6 = true) <| obind (T7.2.2.2.2 n16 6) fun n18 => oif (oO T7 n18 1 = true) <| obind2 (g_X1_columnOf T7 n18 l2) fun r22 T20 => if r22 = 0 then (oif (oO T20 l0 11 = true) <| obind (g_X11_addMapByte T20 l0 (59 : Int32)) fun T26 => g_X11_writeMap_b54 (g_X11_writeMap_b16 n) T26 l0 l1 l2) else (g_X11_writeMap_b54 (g_X11_writeMap_b16 n) T20 l0 l1 l2)))
def g_X11_writeMap_b8  (T : AT) (s0 : Nat) (l0 : Nat) : Option (Nat × Int32 × AT) := oif (oO T l0 11 = true) <| elet (uI T l0 18 0) fun T3 => g_X11_writeMap_b16 16384 T3 l0 s0 0
def g_X11_writeMap (T : AT) (o : Nat) : Option (Nat × Int32 × AT) := oif (oO T o 11 = true) <| othr (g_X11_needCamera T o) 0 fun r5 T3 => oif (oO T3 o 11 = true) <| obind2 (g_X11_powersNow T3 o) fun r9 T8 => oif (Nat.blt r9 T8.1 = true) <| g_X11_writeMap_b8 T8 r9 o
set_option maxHeartbeats 4000000 in
set_option maxRecDepth 100000 in
theorem s_X11_writeMap_b66 {e1 : Nat} {r1 : Int32} {T1 : AT} {k16 : AT → Nat → Nat → Int32 → Option (Nat × Int32 × AT)} (hk16 : ∀ (T : AT) (l0 : Nat) (l1 : Nat) (l2 : Int32), k16 T l0 l1 l2 = some (e1, r1, T1) → GL T T1) : ∀ (T : AT) (s0 : Int32) (s1 : Int32) (s2 : Nat) (l0 : Nat) (l1 : Nat) (l2 : Int32), g_X11_writeMap_b66 k16 T s0 s1 s2 l0 l1 l2 = some (e1, r1, T1) → GL T T1 := by
  intro T s0 s1 s2 l0 l1 l2 h
  have p0 := GL.rf T
  unfold g_X11_writeMap_b66 at h
  obtain ⟨v2, -, h⟩ := elet_some h
  obtain ⟨g3, h⟩ := oif_some h
  obtain ⟨T4, eT4, h⟩ := obind_some h
  have p1 : GL T T4 := GL.tr p0 (gl_sp (s_X11_addMapByte eT4))
  obtain ⟨v6, ev6, h⟩ := elet_some h
  exact GL.tr p1 (hk16 _ _ _ _ h)
set_option maxHeartbeats 4000000 in
set_option maxRecDepth 100000 in
theorem s_X11_writeMap_b54 {e1 : Nat} {r1 : Int32} {T1 : AT} {k16 : AT → Nat → Nat → Int32 → Option (Nat × Int32 × AT)} (hk16 : ∀ (T : AT) (l0 : Nat) (l1 : Nat) (l2 : Int32), k16 T l0 l1 l2 = some (e1, r1, T1) → GL T T1) : ∀ (T : AT) (l0 : Nat) (l1 : Nat) (l2 : Int32), g_X11_writeMap_b54 k16 T l0 l1 l2 = some (e1, r1, T1) → GL T T1 := by
  intro T l0 l1 l2 h
  have p0 := GL.rf T
  unfold g_X11_writeMap_b54 at h
  obtain ⟨g2, h⟩ := oif_some h
  obtain ⟨n3, en3, h⟩ := obind_some h
  obtain ⟨g4, h⟩ := oif_some h
  obtain ⟨r6, T5, eT5, h⟩ := obind2_some h
  have p1 : GL T T5 := GL.tr p0 (s_X4_digit eT5)
  exact GL.tr p1 (s_X11_writeMap_b66 hk16 _ _ _ _ _ _ _ h)
set_option maxHeartbeats 4000000 in
set_option maxRecDepth 100000 in
theorem s_X11_writeMap_b16 {e1 : Nat} {r1 : Int32} {T1 : AT} : ∀ n : Nat, ∀ (T : AT) (l0 : Nat) (l1 : Nat) (l2 : Int32), g_X11_writeMap_b16 n T l0 l1 l2 = some (e1, r1, T1) → GL T T1 := by
  intro n
  induction n with
  | zero =>
    intro T l0 l1 l2 h
    have h : (none : Option (Nat × Int32 × AT)) = some (e1, r1, T1) := h
    cases h
  | succ n ih =>
    intro T l0 l1 l2 h
    have p0 := GL.rf T
    unfold g_X11_writeMap_b16 at h
    obtain ⟨g2, h⟩ := oif_some h
    obtain ⟨n3, en3, h⟩ := obind_some h
    obtain ⟨g4, h⟩ := oif_some h
    obtain ⟨n5, en5, h⟩ := obind_some h
    obtain ⟨g6, h⟩ := oif_some h
    obtain ⟨r8, T7, eT7, h⟩ := obind2_some h
    have p1 : GL T T7 := GL.tr p0 (gl_sp (s_X1_cells eT7))
    rcases oif_or h with ⟨c9, h⟩ | ⟨c9, h⟩
    · have h := h
      obtain ⟨g10, h⟩ := oif_some h
      obtain ⟨v11, -, h⟩ := elet_some h
      rw [← (osome3 h).2.2]
      exact p1
    · have h := h
      rcases oif_or h with ⟨c12, h⟩ | ⟨c12, h⟩
      · have h := h
        exact GL.tr p1 (s_X11_writeMap_b54 ih _ _ _ _ h)
      · have h := h
        obtain ⟨g13, h⟩ := oif_some h
        obtain ⟨n14, en14, h⟩ := obind_some h
        obtain ⟨g15, h⟩ := oif_some h
        obtain ⟨n16, en16, h⟩ := obind_some h
        obtain ⟨g17, h⟩ := oif_some h
        obtain ⟨r19, T18, eT18, h⟩ := obind2_some h
        have p2 : GL T T18 := GL.tr p1 (gl_sp (s_X1_columnOf eT18))
        rcases oif_or h with ⟨c20, h⟩ | ⟨c20, h⟩
        · have h := h
          obtain ⟨g21, h⟩ := oif_some h
          obtain ⟨T22, eT22, h⟩ := obind_some h
          have p3 : GL T T22 := GL.tr p2 (gl_sp (s_X11_addMapByte eT22))
          exact GL.tr p3 (s_X11_writeMap_b54 ih _ _ _ _ h)
        · have h := h
          exact GL.tr p2 (s_X11_writeMap_b54 ih _ _ _ _ h)
set_option maxHeartbeats 4000000 in
set_option maxRecDepth 100000 in
theorem s_X11_writeMap_b8 {e1 : Nat} {r1 : Int32} {T1 : AT} : ∀ (T : AT) (s0 : Nat) (l0 : Nat), g_X11_writeMap_b8 T s0 l0 = some (e1, r1, T1) → GL T T1 := by
  intro T s0 l0 h
  have p0 := GL.rf T
  unfold g_X11_writeMap_b8 at h
  obtain ⟨g2, h⟩ := oif_some h
  obtain ⟨T3, eT3, h⟩ := elet_some h
  have p1 : GL T T3 := GL.tr p0 (by rw [eT3]; exact gl_sp sp_uI)
  exact GL.tr p1 (s_X11_writeMap_b16 _ _ _ _ _ h)
set_option maxHeartbeats 4000000 in
set_option maxRecDepth 100000 in
theorem s_X11_writeMap {T : AT} {o : Nat} {e1 : Nat} {r1 : Int32} {T1 : AT} (h : g_X11_writeMap T o = some (e1, r1, T1)) : GL T T1 := by
  have p0 := GL.rf T
  unfold g_X11_writeMap at h
  obtain ⟨g2, h⟩ := oif_some h
  rcases othr_s h with ⟨k9, r9, e9, -⟩ | ⟨r4, T3, eT3, h⟩
  · exact GL.tr p0 (gl_sp (s_X11_needCamera e9))
  have p1 : GL T T3 := GL.tr p0 (gl_sp (s_X11_needCamera eT3))
  obtain ⟨g5, h⟩ := oif_some h
  obtain ⟨r7, T6, eT6, h⟩ := obind2_some h
  obtain ⟨g8, h⟩ := oif_some h
  have p2 : GL T T6 := GL.tr p1 (s_X11_powersNow eT6)
  exact GL.tr p2 (s_X11_writeMap_b8 _ _ _ h)
set_option maxHeartbeats 4000000 in
set_option maxRecDepth 100000 in
theorem a_X11_writeMap_b66 {p : Program} {l : Launch} {e : Env} {s : State} {m : MethodId} {args : Array Value} {below : List Frame} {meth : Method} {c : Code} {Q : State → Prop} {D : va_G} {A : Nat → Prop} {cI cJ cZ cMic cSrc cSt cAI cAJ : ClassId} {ad0 : Nat → Nat} {T0 : AT} {r1 : Int32} {T1 : AT} (E : cE p c cX11_writeMap s m args (Cond.code yX11_writeMap cX11_writeMap 3 (some .int) :: wsA) D RX11 (CT cI cJ cZ cMic cSrc cSt cAI cAJ)) (hA : ∀ q : Nat, s.heap.size ≤ q → A q) (hX : xT A s) (hN : nX s) (hml : c.maxLocals = 3) (hst : l.stackTraces = false) (kr80 : ∀ (ad : Nat → Nat) (H : Heap) (locs : List Loc) (ls : Array Slot), (∀ n, n < T0.1 → ad n = ad0 n) → gC cI cJ cZ cMic cSrc cSt cAI cAJ D ad A s.heap H locs T1 → W p l e { frames := 7, cells := T1.1 - T0.1, slots := sg T1 - sg T0, locals := 149 } s m args below meth c H locs (T1.1 - T0.1) (sg T1 - sg T0) Q (F0 m 80 ls [.int r1])) {k16 : AT → Nat → Nat → Int32 → Option (Nat × Int32 × AT)} (hs16 : ∀ (T : AT) (l0 : Nat) (l1 : Nat) (l2 : Int32), k16 T l0 l1 l2 = some (0, r1, T1) → GL T T1) (hk16 : ∀ (T : AT) (ad : Nat → Nat) (H : Heap) (locs : List Loc) (ls : Array Slot) (l0 : Nat) (l1 : Nat) (l2 : Int32), k16 T l0 l1 l2 = some (0, r1, T1) → GL T0 T → RC T → (∀ n, n < T0.1 → ad n = ad0 n) → l0 < T.1 → l1 < T.1 → gC cI cJ cZ cMic cSrc cSt cAI cAJ D ad A s.heap H locs T → lv_has ls 3 [(0, .ref (ad l0)), (1, .ref (ad l1)), (2, .int l2)] → W p l e { frames := 7, cells := T1.1 - T0.1, slots := sg T1 - sg T0, locals := 149 } s m args below meth c H locs (T.1 - T0.1) (sg T - sg T0) Q (F0 m 16 ls [])) : ∀ (T : AT) (ad : Nat → Nat) (H : Heap) (locs : List Loc) (ls : Array Slot) (s0 : Int32) (s1 : Int32) (s2 : Nat) (l0 : Nat) (l1 : Nat) (l2 : Int32), g_X11_writeMap_b66 k16 T s0 s1 s2 l0 l1 l2 = some (0, r1, T1) → GL T0 T → RC T → (∀ n, n < T0.1 → ad n = ad0 n) → s2 < T.1 → l0 < T.1 → l1 < T.1 → gC cI cJ cZ cMic cSrc cSt cAI cAJ D ad A s.heap H locs T → lv_has ls 3 [(0, .ref (ad l0)), (1, .ref (ad l1)), (2, .int l2)] → W p l e { frames := 7, cells := T1.1 - T0.1, slots := sg T1 - sg T0, locals := 149 } s m args below meth c H locs (T.1 - T0.1) (sg T - sg T0) Q (F0 m 66 ls [.int s0, .int s1, .ref (ad s2)]) := by
  have hx := E.1
  have hb := E.2.1
  have hts := E.2.2.1
  have hown := E.2.2.2.1
  have hK := E.2.2.2.2
  intro T ad H locs ls s0 s1 s2 l0 l1 l2 h hgl hrc had h_s2 h_l0 h_l1 G hl
  have hT1 := s_X11_writeMap_b66 hs16 _ _ _ _ _ _ _ h
  have hcs := cs_ok hgl hT1
  have cp0 := cpr0 hrc
  unfold g_X11_writeMap_b66 at h
  refine lv_iadd hx hb dX11_writeMap_66 ?_
  refine lv_topi (fun v2 ev2 => ?_)
  have h := elet_at ev2 h
  clear ev2
  obtain ⟨g3, h⟩ := oif_some h
  obtain ⟨T4, eT4, h⟩ := obind_some h
  refine q_cvv (As := [.int v2]) (rest := []) E G hA hX hN hml (u_X11_addMapByte l hst D cI cJ cZ cMic cSrc cSt cAI cAJ ad T s2 v2 eT4) (cwV 1 hts (gaV qA_898 qA_899 qA_900 qA_131 qA_901) rfl rfl rfl (by decide +kernel) ⟨Nat.le_of_ble_eq_true rfl, Nat.le_of_ble_eq_true rfl⟩) (oO_k g3).1 (cc_o11 (oO_k g3).2) rfl rfl hl.1 rfl (lv_room (Nat.le_of_ble_eq_true rfl)) dX11_writeMap_67 hcs (fun T5 H locs hq G => ?_)
  rw [hq] at G
  clear hq
  have cp1 := cpr_sp cp0 (s_X11_addMapByte eT4)
  obtain ⟨v6, ev6, h⟩ := elet_some h
  refine lv_iinc (v := v6) (lv' := [(2, .int v6), (0, .ref (ad l0)), (1, .ref (ad l1))]) hx hb dX11_writeMap_70 hl (k := 2) rfl ev6.symm (by decide) rfl (fun ls hl => ?_)
  refine lv_goto (tgt := 16) hx hb dX11_writeMap_73 (by decide) ?_
  have hl := lv_sub hl [1, 2, 0] rfl
  refine w_cast (c2 := T4.1 - T0.1) (s2 := sg T4 - sg T0) (by rw [cp1.1] <;> rfl) (by rw [sg_cpr cp1] <;> rfl) ?_
  exact hk16 _ _ _ _ _ _ _ _ h (gl_cpr hgl cp1) cp1.2.2 had (by rw [cp1.1]; exact h_l0) (by rw [cp1.1]; exact h_l1) G hl
set_option maxHeartbeats 4000000 in
set_option maxRecDepth 100000 in
theorem a_X11_writeMap_b54 {p : Program} {l : Launch} {e : Env} {s : State} {m : MethodId} {args : Array Value} {below : List Frame} {meth : Method} {c : Code} {Q : State → Prop} {D : va_G} {A : Nat → Prop} {cI cJ cZ cMic cSrc cSt cAI cAJ : ClassId} {ad0 : Nat → Nat} {T0 : AT} {r1 : Int32} {T1 : AT} (E : cE p c cX11_writeMap s m args (Cond.code yX11_writeMap cX11_writeMap 3 (some .int) :: wsA) D RX11 (CT cI cJ cZ cMic cSrc cSt cAI cAJ)) (hA : ∀ q : Nat, s.heap.size ≤ q → A q) (hX : xT A s) (hN : nX s) (hml : c.maxLocals = 3) (hst : l.stackTraces = false) (kr80 : ∀ (ad : Nat → Nat) (H : Heap) (locs : List Loc) (ls : Array Slot), (∀ n, n < T0.1 → ad n = ad0 n) → gC cI cJ cZ cMic cSrc cSt cAI cAJ D ad A s.heap H locs T1 → W p l e { frames := 7, cells := T1.1 - T0.1, slots := sg T1 - sg T0, locals := 149 } s m args below meth c H locs (T1.1 - T0.1) (sg T1 - sg T0) Q (F0 m 80 ls [.int r1])) {k16 : AT → Nat → Nat → Int32 → Option (Nat × Int32 × AT)} (hs16 : ∀ (T : AT) (l0 : Nat) (l1 : Nat) (l2 : Int32), k16 T l0 l1 l2 = some (0, r1, T1) → GL T T1) (hk16 : ∀ (T : AT) (ad : Nat → Nat) (H : Heap) (locs : List Loc) (ls : Array Slot) (l0 : Nat) (l1 : Nat) (l2 : Int32), k16 T l0 l1 l2 = some (0, r1, T1) → GL T0 T → RC T → (∀ n, n < T0.1 → ad n = ad0 n) → l0 < T.1 → l1 < T.1 → gC cI cJ cZ cMic cSrc cSt cAI cAJ D ad A s.heap H locs T → lv_has ls 3 [(0, .ref (ad l0)), (1, .ref (ad l1)), (2, .int l2)] → W p l e { frames := 7, cells := T1.1 - T0.1, slots := sg T1 - sg T0, locals := 149 } s m args below meth c H locs (T.1 - T0.1) (sg T - sg T0) Q (F0 m 16 ls [])) : ∀ (T : AT) (ad : Nat → Nat) (H : Heap) (locs : List Loc) (ls : Array Slot) (l0 : Nat) (l1 : Nat) (l2 : Int32), g_X11_writeMap_b54 k16 T l0 l1 l2 = some (0, r1, T1) → GL T0 T → RC T → (∀ n, n < T0.1 → ad n = ad0 n) → l0 < T.1 → l1 < T.1 → gC cI cJ cZ cMic cSrc cSt cAI cAJ D ad A s.heap H locs T → lv_has ls 3 [(0, .ref (ad l0)), (1, .ref (ad l1)), (2, .int l2)] → W p l e { frames := 7, cells := T1.1 - T0.1, slots := sg T1 - sg T0, locals := 149 } s m args below meth c H locs (T.1 - T0.1) (sg T - sg T0) Q (F0 m 54 ls []) := by
  have hx := E.1
  have hb := E.2.1
  have hts := E.2.2.1
  have hown := E.2.2.2.1
  have hK := E.2.2.2.2
  intro T ad H locs ls l0 l1 l2 h hgl hrc had h_l0 h_l1 G hl
  have hT1 := s_X11_writeMap_b54 hs16 _ _ _ _ h
  have hcs := cs_ok hgl hT1
  have cp0 := cpr0 hrc
  unfold g_X11_writeMap_b54 at h
  refine lv_aload_n hx hb dX11_writeMap_54 rfl (lv_at hl 0 rfl) ?_
  refine lv_bipush (v := 48) hx hb dX11_writeMap_55 (by decide) ?_
  refine lv_aload_n hx hb dX11_writeMap_57 rfl (lv_at hl 1 rfl) ?_
  refine lv_iload_n hx hb dX11_writeMap_58 rfl (lv_at hl 2 rfl) ?_
  refine lv_aload_n hx hb dX11_writeMap_59 rfl (lv_at hl 0 rfl) ?_
  obtain ⟨g2, h⟩ := oif_some h
  obtain ⟨n3, en3, h⟩ := obind_some h
  have h_n3 : n3 < T.1 := by rw [← cp0.1]; exact cp0.2.2 _ _ _ en3
  refine c_get E G l0 12 (v := .ref (ad n3)) (oO_k g2).1 (cc_o11 (oO_k g2).2) rfl (fun w h => .tail _ (iA_23 h)) (by decide) (.tail _ qA_671) rfl (by rw [en3]; rfl) dX11_writeMap_60 ?_
  clear en3
  obtain ⟨g4, h⟩ := oif_some h
  obtain ⟨r6, T5, eT5, h⟩ := obind2_some h
  have hg2 := s_X4_digit eT5
  have hrc2 := hg2.2.2 cp0.2.2
  have hT2 := s_X11_writeMap_b66 hs16 _ _ _ _ _ _ _ h
  refine q_avi (As := [.int l2, .ref (ad n3)]) (rest := [.int 48, .ref (ad l0)]) E G hA hX hN hml (a_X4_digit l hst D cI cJ cZ cMic cSrc cSt cAI cAJ ad T l1 l2 n3 eT5 cp0.2.2 (by rw [cp0.1]; exact h_l1) (by rw [cp0.1]; exact h_n3)) (cwV 2 hts (gaV qA_902 qA_903 qA_904 qA_426 qA_447) rfl rfl rfl (by decide +kernel) ⟨Nat.le_of_ble_eq_true rfl, Nat.le_of_ble_eq_true rfl⟩) (oO_k g4).1 (cc_o4 (oO_k g4).2) rfl rfl hl.1 rfl (lv_room (Nat.le_of_ble_eq_true rfl)) dX11_writeMap_63 (cs_av hgl cp0 hg2 hT2) (fun ad2 H locs hga G => ?_)
  refine w_cast (c2 := T5.1 - T0.1) (s2 := sg T5 - sg T0) (cs_f1 hgl cp0 hg2) (cs_f2 hgl cp0 hg2) ?_
  have hl := lv_sub hl [0, 1, 2] rfl
  rw [show ad l0 = ad2 l0 from (hga l0 (by rw [cp0.1]; exact h_l0)).symm] at hl
  rw [show ad l1 = ad2 l1 from (hga l1 (by rw [cp0.1]; exact h_l1)).symm] at hl
  refine w_st (st2 := [.int r6, .int 48, .ref (ad2 l0)]) (by rw [hga l0 (by rw [cp0.1]; exact h_l0)]) ?_
  exact a_X11_writeMap_b66 E hA hX hN hml hst kr80 hs16 hk16 _ _ _ _ _ _ _ _ _ _ _ h (GL.tr (gl_cpr hgl cp0) hg2) hrc2 (fun n hn => (hga n (by rw [cp0.1]; exact Nat.lt_of_lt_of_le hn hgl.1)).trans (had n hn)) (Nat.lt_of_lt_of_le (by rw [cp0.1]; exact h_l0) hg2.1) (Nat.lt_of_lt_of_le (by rw [cp0.1]; exact h_l0) hg2.1) (Nat.lt_of_lt_of_le (by rw [cp0.1]; exact h_l1) hg2.1) G hl
set_option maxHeartbeats 4000000 in
set_option maxRecDepth 100000 in
theorem a_X11_writeMap_b16 {p : Program} {l : Launch} {e : Env} {s : State} {m : MethodId} {args : Array Value} {below : List Frame} {meth : Method} {c : Code} {Q : State → Prop} {D : va_G} {A : Nat → Prop} {cI cJ cZ cMic cSrc cSt cAI cAJ : ClassId} {ad0 : Nat → Nat} {T0 : AT} {r1 : Int32} {T1 : AT} (E : cE p c cX11_writeMap s m args (Cond.code yX11_writeMap cX11_writeMap 3 (some .int) :: wsA) D RX11 (CT cI cJ cZ cMic cSrc cSt cAI cAJ)) (hA : ∀ q : Nat, s.heap.size ≤ q → A q) (hX : xT A s) (hN : nX s) (hml : c.maxLocals = 3) (hst : l.stackTraces = false) (kr80 : ∀ (ad : Nat → Nat) (H : Heap) (locs : List Loc) (ls : Array Slot), (∀ n, n < T0.1 → ad n = ad0 n) → gC cI cJ cZ cMic cSrc cSt cAI cAJ D ad A s.heap H locs T1 → W p l e { frames := 7, cells := T1.1 - T0.1, slots := sg T1 - sg T0, locals := 149 } s m args below meth c H locs (T1.1 - T0.1) (sg T1 - sg T0) Q (F0 m 80 ls [.int r1])) : ∀ n : Nat, ∀ (T : AT) (ad : Nat → Nat) (H : Heap) (locs : List Loc) (ls : Array Slot) (l0 : Nat) (l1 : Nat) (l2 : Int32), g_X11_writeMap_b16 n T l0 l1 l2 = some (0, r1, T1) → GL T0 T → RC T → (∀ n, n < T0.1 → ad n = ad0 n) → l0 < T.1 → l1 < T.1 → gC cI cJ cZ cMic cSrc cSt cAI cAJ D ad A s.heap H locs T → lv_has ls 3 [(0, .ref (ad l0)), (1, .ref (ad l1)), (2, .int l2)] → W p l e { frames := 7, cells := T1.1 - T0.1, slots := sg T1 - sg T0, locals := 149 } s m args below meth c H locs (T.1 - T0.1) (sg T - sg T0) Q (F0 m 16 ls []) := by
  have hx := E.1
  have hb := E.2.1
  have hts := E.2.2.1
  have hown := E.2.2.2.1
  have hK := E.2.2.2.2
  intro n
  induction n with
  | zero =>
    intro T ad H locs ls l0 l1 l2 h
    have h : (none : Option (Nat × Int32 × AT)) = some (0, r1, T1) := h
    cases h
  | succ n ih =>
    intro T ad H locs ls l0 l1 l2 h hgl hrc had h_l0 h_l1 G hl
    have hT1 := s_X11_writeMap_b16 _ _ _ _ _ h
    have hcs := cs_ok hgl hT1
    have cp0 := cpr0 hrc
    unfold g_X11_writeMap_b16 at h
    refine lv_iload_n hx hb dX11_writeMap_16 rfl (lv_at hl 2 rfl) ?_
    refine lv_aload_n hx hb dX11_writeMap_17 rfl (lv_at hl 0 rfl) ?_
    obtain ⟨g2, h⟩ := oif_some h
    obtain ⟨n3, en3, h⟩ := obind_some h
    have h_n3 : n3 < T.1 := by rw [← cp0.1]; exact cp0.2.2 _ _ _ en3
    refine c_get E G l0 14 (v := .ref (ad n3)) (oO_k g2).1 (cc_o11 (oO_k g2).2) rfl (fun w h => .tail _ (iA_23 h)) (by decide) (.tail _ qA_675) rfl (by rw [en3]; rfl) dX11_writeMap_18 ?_
    clear en3
    obtain ⟨g4, h⟩ := oif_some h
    obtain ⟨n5, en5, h⟩ := obind_some h
    have h_n5 : n5 < T.1 := by rw [← cp0.1]; exact cp0.2.2 _ _ _ en5
    refine c_get E G n3 6 (v := .ref (ad n5)) (oO_k g4).1 (cc_o6 (oO_k g4).2) rfl (fun w h => .tail _ (iA_14 h)) (by decide) (.tail _ qA_695) rfl (by rw [en5]; rfl) dX11_writeMap_21 ?_
    clear en5
    obtain ⟨g6, h⟩ := oif_some h
    obtain ⟨r9, T7, eT7, h⟩ := obind2_some h
    refine q_cvi (As := []) (rest := [.int l2]) E G hA hX hN hml (u_X1_cells l hst D cI cJ cZ cMic cSrc cSt cAI cAJ ad T n5 eT7) (cwV 0 hts (gaV qA_714 qA_35 qA_36 qA_37 qA_38) rfl rfl rfl (by decide +kernel) ⟨Nat.le_of_ble_eq_true rfl, Nat.le_of_ble_eq_true rfl⟩) (oO_k g6).1 (cc_o1 (oO_k g6).2) rfl rfl hl.1 rfl (lv_room (Nat.le_of_ble_eq_true rfl)) dX11_writeMap_24 hcs (fun q10 T8 H locs hq G => ?_)
    obtain ⟨hq1, hq2⟩ := hq
    rw [hq2] at G
    refine lv_to hq1 ?_
    clear hq1 hq2
    have cp1 := cpr_sp cp0 (s_X1_cells eT7)
    refine lv_icmp_ge (tgt := 76) hx hb dX11_writeMap_27 (by decide) (fun c11 => ?_) (fun c11 => ?_)
    · have h := oif_pos c11 h
      refine lv_aload_n hx hb dX11_writeMap_76 rfl (lv_at hl 0 rfl) ?_
      obtain ⟨g12, h⟩ := oif_some h
      refine c_get E G l0 18 (oO_k g12).1 (cc_o11 (oO_k g12).2) rfl (fun w h => .tail _ (iA_23 h)) (by decide) (.tail _ qA_896) rfl rfl dX11_writeMap_77 ?_
      refine lv_topi (fun v13 ev13 => ?_)
      have h := elet_at ev13 h
      clear ev13
      rw [(osome3 h).2.2] at G
      refine w_cast (c2 := T1.1 - T0.1) (s2 := sg T1 - sg T0) (by rw [← (osome3 h).2.2, cp1.1] <;> rfl) (by rw [← (osome3 h).2.2, sg_cpr cp1] <;> rfl) ?_
      refine lv_to ((osome3 h).2.1) ?_
      exact kr80 ad _ _ _ had G
    · have h := oif_neg c11 h
      refine lv_iload_n hx hb dX11_writeMap_30 rfl (lv_at hl 2 rfl) ?_
      refine lv_if_le (tgt := 54) hx hb dX11_writeMap_31 (by decide) (fun c14 => ?_) (fun c14 => ?_)
      · have h := oif_pos c14 h
        have hl := lv_sub hl [0, 1, 2] rfl
        refine w_cast (c2 := T7.1 - T0.1) (s2 := sg T7 - sg T0) (by rw [cp1.1] <;> rfl) (by rw [sg_cpr cp1] <;> rfl) ?_
        exact a_X11_writeMap_b54 E hA hX hN hml hst kr80 (s_X11_writeMap_b16 n) ih _ _ _ _ _ _ _ _ h (gl_cpr hgl cp1) cp1.2.2 had (by rw [cp1.1]; exact h_l0) (by rw [cp1.1]; exact h_l1) G hl
      · have h := oif_neg c14 h
        refine lv_aload_n hx hb dX11_writeMap_34 rfl (lv_at hl 0 rfl) ?_
        obtain ⟨g15, h⟩ := oif_some h
        obtain ⟨n16, en16, h⟩ := obind_some h
        have h_n16 : n16 < T.1 := by rw [← cp1.1]; exact cp1.2.2 _ _ _ en16
        refine c_get E G l0 14 (v := .ref (ad n16)) (oO_k g15).1 (cc_o11 (oO_k g15).2) rfl (fun w h => .tail _ (iA_23 h)) (by decide) (.tail _ qA_675) rfl (by rw [en16]; rfl) dX11_writeMap_35 ?_
        clear en16
        obtain ⟨g17, h⟩ := oif_some h
        obtain ⟨n18, en18, h⟩ := obind_some h
        have h_n18 : n18 < T.1 := by rw [← cp1.1]; exact cp1.2.2 _ _ _ en18
        refine c_get E G n16 6 (v := .ref (ad n18)) (oO_k g17).1 (cc_o6 (oO_k g17).2) rfl (fun w h => .tail _ (iA_14 h)) (by decide) (.tail _ qA_695) rfl (by rw [en18]; rfl) dX11_writeMap_38 ?_
        clear en18
        refine lv_iload_n hx hb dX11_writeMap_41 rfl (lv_at hl 2 rfl) ?_
        obtain ⟨g19, h⟩ := oif_some h
        obtain ⟨r22, T20, eT20, h⟩ := obind2_some h
        refine q_cvi (As := [.int l2]) (rest := []) E G hA hX hN hml (u_X1_columnOf l hst D cI cJ cZ cMic cSrc cSt cAI cAJ ad T7 n18 l2 eT20) (cwV 1 hts (gaV qA_897 qA_141 qA_142 qA_37 qA_143) rfl rfl rfl (by decide +kernel) ⟨Nat.le_of_ble_eq_true rfl, Nat.le_of_ble_eq_true rfl⟩) (oO_k g19).1 (cc_o1 (oO_k g19).2) rfl rfl hl.1 rfl (lv_room (Nat.le_of_ble_eq_true rfl)) dX11_writeMap_42 hcs (fun q23 T21 H locs hq G => ?_)
        obtain ⟨hq1, hq2⟩ := hq
        rw [hq2] at G
        refine lv_to hq1 ?_
        clear hq1 hq2
        have cp2 := cpr_sp cp1 (s_X1_columnOf eT20)
        refine lv_if_ne (tgt := 54) hx hb dX11_writeMap_45 (by decide) (fun c24 => ?_) (fun c24 => ?_)
        · have h := oif_neg c24 h
          have hl := lv_sub hl [0, 1, 2] rfl
          refine w_cast (c2 := T20.1 - T0.1) (s2 := sg T20 - sg T0) (by rw [cp2.1] <;> rfl) (by rw [sg_cpr cp2] <;> rfl) ?_
          exact a_X11_writeMap_b54 E hA hX hN hml hst kr80 (s_X11_writeMap_b16 n) ih _ _ _ _ _ _ _ _ h (gl_cpr hgl cp2) cp2.2.2 had (by rw [cp2.1]; exact h_l0) (by rw [cp2.1]; exact h_l1) G hl
        · have h := oif_pos c24 h
          refine lv_aload_n hx hb dX11_writeMap_48 rfl (lv_at hl 0 rfl) ?_
          refine lv_bipush (v := 59) hx hb dX11_writeMap_49 (by decide) ?_
          obtain ⟨g25, h⟩ := oif_some h
          obtain ⟨T26, eT26, h⟩ := obind_some h
          refine q_cvv (As := [.int 59]) (rest := []) E G hA hX hN hml (u_X11_addMapByte l hst D cI cJ cZ cMic cSrc cSt cAI cAJ ad T20 l0 (59 : Int32) eT26) (cwV 1 hts (gaV qA_898 qA_899 qA_900 qA_131 qA_901) rfl rfl rfl (by decide +kernel) ⟨Nat.le_of_ble_eq_true rfl, Nat.le_of_ble_eq_true rfl⟩) (oO_k g25).1 (cc_o11 (oO_k g25).2) rfl rfl hl.1 rfl (lv_room (Nat.le_of_ble_eq_true rfl)) dX11_writeMap_51 hcs (fun T27 H locs hq G => ?_)
          rw [hq] at G
          clear hq
          have cp3 := cpr_sp cp2 (s_X11_addMapByte eT26)
          have hl := lv_sub hl [0, 1, 2] rfl
          refine w_cast (c2 := T26.1 - T0.1) (s2 := sg T26 - sg T0) (by rw [cp3.1] <;> rfl) (by rw [sg_cpr cp3] <;> rfl) ?_
          exact a_X11_writeMap_b54 E hA hX hN hml hst kr80 (s_X11_writeMap_b16 n) ih _ _ _ _ _ _ _ _ h (gl_cpr hgl cp3) cp3.2.2 had (by rw [cp3.1]; exact h_l0) (by rw [cp3.1]; exact h_l1) G hl
set_option maxHeartbeats 4000000 in
set_option maxRecDepth 100000 in
theorem a_X11_writeMap_b8 {p : Program} {l : Launch} {e : Env} {s : State} {m : MethodId} {args : Array Value} {below : List Frame} {meth : Method} {c : Code} {Q : State → Prop} {D : va_G} {A : Nat → Prop} {cI cJ cZ cMic cSrc cSt cAI cAJ : ClassId} {ad0 : Nat → Nat} {T0 : AT} {r1 : Int32} {T1 : AT} (E : cE p c cX11_writeMap s m args (Cond.code yX11_writeMap cX11_writeMap 3 (some .int) :: wsA) D RX11 (CT cI cJ cZ cMic cSrc cSt cAI cAJ)) (hA : ∀ q : Nat, s.heap.size ≤ q → A q) (hX : xT A s) (hN : nX s) (hml : c.maxLocals = 3) (hst : l.stackTraces = false) (kr80 : ∀ (ad : Nat → Nat) (H : Heap) (locs : List Loc) (ls : Array Slot), (∀ n, n < T0.1 → ad n = ad0 n) → gC cI cJ cZ cMic cSrc cSt cAI cAJ D ad A s.heap H locs T1 → W p l e { frames := 7, cells := T1.1 - T0.1, slots := sg T1 - sg T0, locals := 149 } s m args below meth c H locs (T1.1 - T0.1) (sg T1 - sg T0) Q (F0 m 80 ls [.int r1])) : ∀ (T : AT) (ad : Nat → Nat) (H : Heap) (locs : List Loc) (ls : Array Slot) (s0 : Nat) (l0 : Nat), g_X11_writeMap_b8 T s0 l0 = some (0, r1, T1) → GL T0 T → RC T → (∀ n, n < T0.1 → ad n = ad0 n) → s0 < T.1 → l0 < T.1 → gC cI cJ cZ cMic cSrc cSt cAI cAJ D ad A s.heap H locs T → lv_has ls 3 [(0, .ref (ad l0))] → W p l e { frames := 7, cells := T1.1 - T0.1, slots := sg T1 - sg T0, locals := 149 } s m args below meth c H locs (T.1 - T0.1) (sg T - sg T0) Q (F0 m 8 ls [.ref (ad s0)]) := by
  have hx := E.1
  have hb := E.2.1
  have hts := E.2.2.1
  have hown := E.2.2.2.1
  have hK := E.2.2.2.2
  intro T ad H locs ls s0 l0 h hgl hrc had h_s0 h_l0 G hl
  have hT1 := s_X11_writeMap_b8 _ _ _ h
  have hcs := cs_ok hgl hT1
  have cp0 := cpr0 hrc
  unfold g_X11_writeMap_b8 at h
  refine lv_astore_n (lv' := [(1, .ref (ad s0)), (0, .ref (ad l0))]) hx hb dX11_writeMap_8 rfl hl (by decide) rfl (fun ls hl => ?_)
  refine lv_aload_n hx hb dX11_writeMap_9 rfl (lv_at hl 1 rfl) ?_
  refine lv_iconst (v := 0) hx hb dX11_writeMap_10 (by decide) ?_
  obtain ⟨g2, h⟩ := oif_some h
  refine c_put E G l0 18 (v := .int 0) (oO_k g2).1 (cc_o11 (oO_k g2).2) rfl (fun w h => .tail _ (iA_23 h)) tyX11 tyX11_ok nmX11 (by decide) (.tail _ qA_896) ⟨rfl, rfl, rfl⟩ rfl rfl (Nat.le_of_ble_eq_true rfl) dX11_writeMap_11 (fun H locs G => ?_)
  have G := gC_up_i (f := upd (T.2.2.1 l0) 18 0) (by rw [(oO_k g2).2]; rfl) G
  obtain ⟨T3, eT3, h⟩ := elet_some h
  have G : gC cI cJ cZ cMic cSrc cSt cAI cAJ D ad A s.heap H locs T3 := by rw [eT3]; exact G
  have cp1 := show CPR T T3 from by rw [eT3]; exact cpr_sp cp0 sp_uI
  clear eT3
  refine lv_iconst (v := 0) hx hb dX11_writeMap_14 (by decide) ?_
  refine lv_istore_n (lv' := [(2, .int 0), (1, .ref (ad s0)), (0, .ref (ad l0))]) hx hb dX11_writeMap_15 rfl hl (by decide) rfl (fun ls hl => ?_)
  have hl := lv_sub hl [2, 1, 0] rfl
  refine w_cast (c2 := T3.1 - T0.1) (s2 := sg T3 - sg T0) (by rw [cp1.1] <;> rfl) (by rw [sg_cpr cp1] <;> rfl) ?_
  exact a_X11_writeMap_b16 E hA hX hN hml hst kr80 _ _ _ _ _ _ _ _ _ h (gl_cpr hgl cp1) cp1.2.2 had (by rw [cp1.1]; exact h_l0) (by rw [cp1.1]; exact h_s0) G hl
set_option maxHeartbeats 4000000 in
set_option maxRecDepth 100000 in
theorem a_X11_writeMap (l : Launch) (hst : l.stackTraces = false) (D : va_G) (cI cJ cZ cMic cSrc cSt cAI cAJ : ClassId) (ad : Nat → Nat) (T : AT) (o : Nat) {r1 : Int32} {T1 : AT} (h : g_X11_writeMap T o = some (0, r1, T1)) (hrc : RC T) (h_o : o < T.1) : kAi l yX11_writeMap (Cond.code yX11_writeMap cX11_writeMap 3 (some .int) :: wsA) 7 149 cI cJ cZ cMic cSrc cSt cAI cAJ D ad T [.ref (ad o)] r1 T1 := by
  intro sz
  refine Met.ofW (cc := cX11_writeMap) (maxL := 3) (ret := (some .int)) (by decide) rfl ?_
  intro p e s m args below meth c s₁ B hml hv
  obtain ⟨rfl, hsz, hP, hK, hD0, hX, hN⟩ := hv
  have hx := B.exec
  have hb := B.bytes
  have hr := B.returns
  have hts := atoms_spec (ws := (Cond.code yX11_writeMap cX11_writeMap 3 (some .int) :: wsA)) B.pre
  have hown : s.vm.findClass RX11 = some m.cls := findClass_of_methodNamed B.named
  have hlocks := B.notSynchronized
  subst hsz
  have hD := hD0.self (sz := s.heap.size)
  generalize hAe : va_A (cW ad T.1 (cc cI cJ cZ cMic cSrc cSt cAI cAJ ad T)) s.heap.size = A at hD hX ⊢
  have hA : ∀ q : Nat, s.heap.size ≤ q → A q := fun q h => by rw [← hAe]; exact Or.inr h
  have G : gC cI cJ cZ cMic cSrc cSt cAI cAJ D ad A s.heap s.heap [] T := ⟨hP, hD, va_S.rf⟩
  have E : cE p c cX11_writeMap s m ([.ref (ad o)] : List Value).toArray (Cond.code yX11_writeMap cX11_writeMap 3 (some .int) :: wsA) D RX11 (CT cI cJ cZ cMic cSrc cSt cAI cAJ) := ⟨hx, hb, hts, hown, hK⟩
  have hl := lv_entry ([.ref (ad o)]) (n := 3) (Nat.le_of_ble_eq_true rfl)
  rw [lg_entry_eq]
  generalize (lg_sl ([.ref (ad o)]) ++ List.replicate (3 - (lg_sl ([.ref (ad o)])).length) Slot.unset).toArray = ls at hl ⊢
  have hl : lv_has ls 3 [(0, .ref (ad o))] := hl
  have hgl := GL.rf T
  have had : ∀ n, n < T.1 → ad n = ad n := fun _ _ => rfl
  have hT1 := s_X11_writeMap h
  have hcs := cs_ok hgl hT1
  refine w_cast (Nat.sub_self T.1).symm (Nat.sub_self (sg T)).symm ?_
  have cp0 := cpr0 hrc
  unfold g_X11_writeMap at h
  refine lv_aload_n hx hb dX11_writeMap_0 rfl (lv_at hl 0 rfl) ?_
  obtain ⟨g2, h⟩ := oif_some h
  obtain ⟨r5, T3, eT3, h⟩ := othr_n h
  refine q_cvv (As := []) (rest := []) E G hA hX hN hml (u_X11_needCamera l hst D cI cJ cZ cMic cSrc cSt cAI cAJ ad T o eT3) (cwV 0 hts (gaV qA_728 qA_729 qA_730 qA_131 qA_731) rfl rfl rfl (by decide +kernel) ⟨Nat.le_of_ble_eq_true rfl, Nat.le_of_ble_eq_true rfl⟩) (oO_k g2).1 (cc_o11 (oO_k g2).2) rfl rfl hl.1 rfl (lv_room (Nat.le_of_ble_eq_true rfl)) dX11_writeMap_1 hcs (fun T4 H locs hq G => ?_)
  rw [hq] at G
  clear hq
  have cp1 := cpr_sp cp0 (s_X11_needCamera eT3)
  refine lv_aload_n hx hb dX11_writeMap_4 rfl (lv_at hl 0 rfl) ?_
  obtain ⟨g7, h⟩ := oif_some h
  obtain ⟨r9, T8, eT8, h⟩ := obind2_some h
  obtain ⟨g10, h⟩ := oif_some h
  have hg2 := s_X11_powersNow eT8
  have hrc2 := hg2.2.2 cp1.2.2
  have hT2 := s_X11_writeMap_b8 _ _ _ h
  refine q_avr (As := []) (rest := []) E G hA hX hN hml (a_X11_powersNow l hst D cI cJ cZ cMic cSrc cSt cAI cAJ ad T3 o eT8 cp1.2.2 (by rw [cp1.1]; exact h_o)) (cwV 0 hts (gaV qA_799 qA_800 qA_801 qA_131 qA_802) rfl rfl rfl (by decide +kernel) ⟨Nat.le_of_ble_eq_true rfl, Nat.le_of_ble_eq_true rfl⟩) (oO_k g7).1 (cc_o11 (oO_k g7).2) rfl rfl hl.1 rfl (lv_room (Nat.le_of_ble_eq_true rfl)) dX11_writeMap_5 (cs_av hgl cp1 hg2 hT2) (fun ad2 H locs hga G => ?_)
  refine w_cast (c2 := T8.1 - T.1) (s2 := sg T8 - sg T) (cs_f1 hgl cp1 hg2) (cs_f2 hgl cp1 hg2) ?_
  have h_new : r9 < T8.1 := Nat.le_of_ble_eq_true g10
  have hl := lv_sub hl [0] rfl
  rw [show ad o = ad2 o from (hga o (by rw [cp1.1]; exact h_o)).symm] at hl
  exact a_X11_writeMap_b8 E hA hX hN hml hst (fun ad H locs ls had G => W.iret (v := r1) hx hb hr (fun t ht hW => ⟨⟨r1, (T1, ad), rfl, ⟨rfl, rfl, had⟩, ⟨by rw [ht]; exact G.1, va_K.moved hW.alike hK, G.2.1⟩⟩, G.2.2.F ht⟩) G.2.2.2.2 dX11_writeMap_80) _ _ _ _ _ _ _ h (GL.tr (gl_cpr hgl cp1) hg2) hrc2 (fun n hn => (hga n (by rw [cp1.1]; exact Nat.lt_of_lt_of_le hn hgl.1)).trans (had n hn)) h_new (Nat.lt_of_lt_of_le (by rw [cp1.1]; exact h_o) hg2.1) G hl
set_option maxHeartbeats 4000000 in
set_option maxRecDepth 100000 in
theorem b_X11_writeMap_b66 {p : Program} {l : Launch} {e : Env} {s : State} {m : MethodId} {args : Array Value} {below : List Frame} {meth : Method} {c : Code} {Qc : Array Value → State → Outcome → State → Prop} {XC : String → State → State → Prop} {D : va_G} {A : Nat → Prop} {cI cJ cZ cMic cSrc cSt cAI cAJ : ClassId} {ad0 : Nat → Nat} {T0 : AT} {e1 : Nat} {r1 : Int32} {T1 : AT} (E : cE p c cX11_writeMap s m args (Cond.code yX11_writeMap cX11_writeMap 3 (some .int) :: wsA) D RX11 (CT cI cJ cZ cMic cSrc cSt cAI cAJ)) (hA : ∀ q : Nat, s.heap.size ≤ q → A q) (hX : xT A s) (hN : nX s) (hml : c.maxLocals = 3) (hst : l.stackTraces = false) (htab : ∀ x ∈ c.exceptionTable.toList, False) (hlocks : meth.locks = false) (kx : ∀ (ad : Nat → Nat) (H : Heap) (locs : List Loc) (t : State), (∀ n, n < T0.1 → ad n = ad0 n) → gC cI cJ cZ cMic cSrc cSt cAI cAJ D ad A s.heap H locs T1 → s.vm.Alike t.vm → H.size ≤ t.heap.size → (∀ q, q < H.size → t.heap[q]? = H[q]?) → XC (exn e1) s t) {k16 : AT → Nat → Nat → Int32 → Option (Nat × Int32 × AT)} (hs16 : ∀ (T : AT) (l0 : Nat) (l1 : Nat) (l2 : Int32), k16 T l0 l1 l2 = some (e1 + 1, r1, T1) → GL T T1) (hk16 : ∀ (T : AT) (ad : Nat → Nat) (H : Heap) (locs : List Loc) (ls : Array Slot) (l0 : Nat) (l1 : Nat) (l2 : Int32), k16 T l0 l1 l2 = some (e1 + 1, r1, T1) → GL T0 T → RC T → (∀ n, n < T0.1 → ad n = ad0 n) → l0 < T.1 → l1 < T.1 → gC cI cJ cZ cMic cSrc cSt cAI cAJ D ad A s.heap H locs T → lv_has ls 3 [(0, .ref (ad l0)), (1, .ref (ad l1)), (2, .int l2)] → W p l e { frames := 7, cells := T1.1 - T0.1 + 1, slots := sg T1 - sg T0 + 6, locals := 149 } s m args below meth c H locs (T.1 - T0.1) (sg T - sg T0) (vx_MQ below Qc XC args s (T1.1 - T0.1 + 1) (sg T1 - sg T0 + 6) A) (F0 m 16 ls [])) : ∀ (T : AT) (ad : Nat → Nat) (H : Heap) (locs : List Loc) (ls : Array Slot) (s0 : Int32) (s1 : Int32) (s2 : Nat) (l0 : Nat) (l1 : Nat) (l2 : Int32), g_X11_writeMap_b66 k16 T s0 s1 s2 l0 l1 l2 = some (e1 + 1, r1, T1) → GL T0 T → RC T → (∀ n, n < T0.1 → ad n = ad0 n) → s2 < T.1 → l0 < T.1 → l1 < T.1 → gC cI cJ cZ cMic cSrc cSt cAI cAJ D ad A s.heap H locs T → lv_has ls 3 [(0, .ref (ad l0)), (1, .ref (ad l1)), (2, .int l2)] → W p l e { frames := 7, cells := T1.1 - T0.1 + 1, slots := sg T1 - sg T0 + 6, locals := 149 } s m args below meth c H locs (T.1 - T0.1) (sg T - sg T0) (vx_MQ below Qc XC args s (T1.1 - T0.1 + 1) (sg T1 - sg T0 + 6) A) (F0 m 66 ls [.int s0, .int s1, .ref (ad s2)]) := by
  have hx := E.1
  have hb := E.2.1
  have hts := E.2.2.1
  have hown := E.2.2.2.1
  have hK := E.2.2.2.2
  intro T ad H locs ls s0 s1 s2 l0 l1 l2 h hgl hrc had h_s2 h_l0 h_l1 G hl
  have hT1 := s_X11_writeMap_b66 hs16 _ _ _ _ _ _ _ h
  have hcs := cs_okx hgl hT1
  have hcx := cs_okx1 hgl hT1
  have cp0 := cpr0 hrc
  unfold g_X11_writeMap_b66 at h
  refine lv_iadd hx hb dX11_writeMap_66 ?_
  refine lv_topi (fun v2 ev2 => ?_)
  have h := elet_at ev2 h
  clear ev2
  obtain ⟨g3, h⟩ := oif_some h
  obtain ⟨T4, eT4, h⟩ := obind_some h
  refine q_cvv (As := [.int v2]) (rest := []) E G hA hX hN hml (u_X11_addMapByte l hst D cI cJ cZ cMic cSrc cSt cAI cAJ ad T s2 v2 eT4) (cwV 1 hts (gaV qA_898 qA_899 qA_900 qA_131 qA_901) rfl rfl rfl (by decide +kernel) ⟨Nat.le_of_ble_eq_true rfl, Nat.le_of_ble_eq_true rfl⟩) (oO_k g3).1 (cc_o11 (oO_k g3).2) rfl rfl hl.1 rfl (lv_room (Nat.le_of_ble_eq_true rfl)) dX11_writeMap_67 hcs (fun T5 H locs hq G => ?_)
  rw [hq] at G
  clear hq
  have cp1 := cpr_sp cp0 (s_X11_addMapByte eT4)
  obtain ⟨v6, ev6, h⟩ := elet_some h
  refine lv_iinc (v := v6) (lv' := [(2, .int v6), (0, .ref (ad l0)), (1, .ref (ad l1))]) hx hb dX11_writeMap_70 hl (k := 2) rfl ev6.symm (by decide) rfl (fun ls hl => ?_)
  refine lv_goto (tgt := 16) hx hb dX11_writeMap_73 (by decide) ?_
  have hl := lv_sub hl [1, 2, 0] rfl
  refine w_cast (c2 := T4.1 - T0.1) (s2 := sg T4 - sg T0) (by rw [cp1.1] <;> rfl) (by rw [sg_cpr cp1] <;> rfl) ?_
  exact hk16 _ _ _ _ _ _ _ _ h (gl_cpr hgl cp1) cp1.2.2 had (by rw [cp1.1]; exact h_l0) (by rw [cp1.1]; exact h_l1) G hl
set_option maxHeartbeats 4000000 in
set_option maxRecDepth 100000 in
theorem b_X11_writeMap_b54 {p : Program} {l : Launch} {e : Env} {s : State} {m : MethodId} {args : Array Value} {below : List Frame} {meth : Method} {c : Code} {Qc : Array Value → State → Outcome → State → Prop} {XC : String → State → State → Prop} {D : va_G} {A : Nat → Prop} {cI cJ cZ cMic cSrc cSt cAI cAJ : ClassId} {ad0 : Nat → Nat} {T0 : AT} {e1 : Nat} {r1 : Int32} {T1 : AT} (E : cE p c cX11_writeMap s m args (Cond.code yX11_writeMap cX11_writeMap 3 (some .int) :: wsA) D RX11 (CT cI cJ cZ cMic cSrc cSt cAI cAJ)) (hA : ∀ q : Nat, s.heap.size ≤ q → A q) (hX : xT A s) (hN : nX s) (hml : c.maxLocals = 3) (hst : l.stackTraces = false) (htab : ∀ x ∈ c.exceptionTable.toList, False) (hlocks : meth.locks = false) (kx : ∀ (ad : Nat → Nat) (H : Heap) (locs : List Loc) (t : State), (∀ n, n < T0.1 → ad n = ad0 n) → gC cI cJ cZ cMic cSrc cSt cAI cAJ D ad A s.heap H locs T1 → s.vm.Alike t.vm → H.size ≤ t.heap.size → (∀ q, q < H.size → t.heap[q]? = H[q]?) → XC (exn e1) s t) {k16 : AT → Nat → Nat → Int32 → Option (Nat × Int32 × AT)} (hs16 : ∀ (T : AT) (l0 : Nat) (l1 : Nat) (l2 : Int32), k16 T l0 l1 l2 = some (e1 + 1, r1, T1) → GL T T1) (hk16 : ∀ (T : AT) (ad : Nat → Nat) (H : Heap) (locs : List Loc) (ls : Array Slot) (l0 : Nat) (l1 : Nat) (l2 : Int32), k16 T l0 l1 l2 = some (e1 + 1, r1, T1) → GL T0 T → RC T → (∀ n, n < T0.1 → ad n = ad0 n) → l0 < T.1 → l1 < T.1 → gC cI cJ cZ cMic cSrc cSt cAI cAJ D ad A s.heap H locs T → lv_has ls 3 [(0, .ref (ad l0)), (1, .ref (ad l1)), (2, .int l2)] → W p l e { frames := 7, cells := T1.1 - T0.1 + 1, slots := sg T1 - sg T0 + 6, locals := 149 } s m args below meth c H locs (T.1 - T0.1) (sg T - sg T0) (vx_MQ below Qc XC args s (T1.1 - T0.1 + 1) (sg T1 - sg T0 + 6) A) (F0 m 16 ls [])) : ∀ (T : AT) (ad : Nat → Nat) (H : Heap) (locs : List Loc) (ls : Array Slot) (l0 : Nat) (l1 : Nat) (l2 : Int32), g_X11_writeMap_b54 k16 T l0 l1 l2 = some (e1 + 1, r1, T1) → GL T0 T → RC T → (∀ n, n < T0.1 → ad n = ad0 n) → l0 < T.1 → l1 < T.1 → gC cI cJ cZ cMic cSrc cSt cAI cAJ D ad A s.heap H locs T → lv_has ls 3 [(0, .ref (ad l0)), (1, .ref (ad l1)), (2, .int l2)] → W p l e { frames := 7, cells := T1.1 - T0.1 + 1, slots := sg T1 - sg T0 + 6, locals := 149 } s m args below meth c H locs (T.1 - T0.1) (sg T - sg T0) (vx_MQ below Qc XC args s (T1.1 - T0.1 + 1) (sg T1 - sg T0 + 6) A) (F0 m 54 ls []) := by
  have hx := E.1
  have hb := E.2.1
  have hts := E.2.2.1
  have hown := E.2.2.2.1
  have hK := E.2.2.2.2
  intro T ad H locs ls l0 l1 l2 h hgl hrc had h_l0 h_l1 G hl
  have hT1 := s_X11_writeMap_b54 hs16 _ _ _ _ h
  have hcs := cs_okx hgl hT1
  have hcx := cs_okx1 hgl hT1
  have cp0 := cpr0 hrc
  unfold g_X11_writeMap_b54 at h
  refine lv_aload_n hx hb dX11_writeMap_54 rfl (lv_at hl 0 rfl) ?_
  refine lv_bipush (v := 48) hx hb dX11_writeMap_55 (by decide) ?_
  refine lv_aload_n hx hb dX11_writeMap_57 rfl (lv_at hl 1 rfl) ?_
  refine lv_iload_n hx hb dX11_writeMap_58 rfl (lv_at hl 2 rfl) ?_
  refine lv_aload_n hx hb dX11_writeMap_59 rfl (lv_at hl 0 rfl) ?_
  obtain ⟨g2, h⟩ := oif_some h
  obtain ⟨n3, en3, h⟩ := obind_some h
  have h_n3 : n3 < T.1 := by rw [← cp0.1]; exact cp0.2.2 _ _ _ en3
  refine c_get E G l0 12 (v := .ref (ad n3)) (oO_k g2).1 (cc_o11 (oO_k g2).2) rfl (fun w h => .tail _ (iA_23 h)) (by decide) (.tail _ qA_671) rfl (by rw [en3]; rfl) dX11_writeMap_60 ?_
  clear en3
  obtain ⟨g4, h⟩ := oif_some h
  obtain ⟨r6, T5, eT5, h⟩ := obind2_some h
  have hg2 := s_X4_digit eT5
  have hrc2 := hg2.2.2 cp0.2.2
  have hT2 := s_X11_writeMap_b66 hs16 _ _ _ _ _ _ _ h
  refine q_avi (As := [.int l2, .ref (ad n3)]) (rest := [.int 48, .ref (ad l0)]) E G hA hX hN hml (a_X4_digit l hst D cI cJ cZ cMic cSrc cSt cAI cAJ ad T l1 l2 n3 eT5 cp0.2.2 (by rw [cp0.1]; exact h_l1) (by rw [cp0.1]; exact h_n3)) (cwV 2 hts (gaV qA_902 qA_903 qA_904 qA_426 qA_447) rfl rfl rfl (by decide +kernel) ⟨Nat.le_of_ble_eq_true rfl, Nat.le_of_ble_eq_true rfl⟩) (oO_k g4).1 (cc_o4 (oO_k g4).2) rfl rfl hl.1 rfl (lv_room (Nat.le_of_ble_eq_true rfl)) dX11_writeMap_63 (cs_avx hgl cp0 hg2 hT2) (fun ad2 H locs hga G => ?_)
  refine w_cast (c2 := T5.1 - T0.1) (s2 := sg T5 - sg T0) (cs_f1 hgl cp0 hg2) (cs_f2 hgl cp0 hg2) ?_
  have hl := lv_sub hl [0, 1, 2] rfl
  rw [show ad l0 = ad2 l0 from (hga l0 (by rw [cp0.1]; exact h_l0)).symm] at hl
  rw [show ad l1 = ad2 l1 from (hga l1 (by rw [cp0.1]; exact h_l1)).symm] at hl
  refine w_st (st2 := [.int r6, .int 48, .ref (ad2 l0)]) (by rw [hga l0 (by rw [cp0.1]; exact h_l0)]) ?_
  exact b_X11_writeMap_b66 E hA hX hN hml hst htab hlocks kx hs16 hk16 _ _ _ _ _ _ _ _ _ _ _ h (GL.tr (gl_cpr hgl cp0) hg2) hrc2 (fun n hn => (hga n (by rw [cp0.1]; exact Nat.lt_of_lt_of_le hn hgl.1)).trans (had n hn)) (Nat.lt_of_lt_of_le (by rw [cp0.1]; exact h_l0) hg2.1) (Nat.lt_of_lt_of_le (by rw [cp0.1]; exact h_l0) hg2.1) (Nat.lt_of_lt_of_le (by rw [cp0.1]; exact h_l1) hg2.1) G hl
set_option maxHeartbeats 4000000 in
set_option maxRecDepth 100000 in
theorem b_X11_writeMap_b16 {p : Program} {l : Launch} {e : Env} {s : State} {m : MethodId} {args : Array Value} {below : List Frame} {meth : Method} {c : Code} {Qc : Array Value → State → Outcome → State → Prop} {XC : String → State → State → Prop} {D : va_G} {A : Nat → Prop} {cI cJ cZ cMic cSrc cSt cAI cAJ : ClassId} {ad0 : Nat → Nat} {T0 : AT} {e1 : Nat} {r1 : Int32} {T1 : AT} (E : cE p c cX11_writeMap s m args (Cond.code yX11_writeMap cX11_writeMap 3 (some .int) :: wsA) D RX11 (CT cI cJ cZ cMic cSrc cSt cAI cAJ)) (hA : ∀ q : Nat, s.heap.size ≤ q → A q) (hX : xT A s) (hN : nX s) (hml : c.maxLocals = 3) (hst : l.stackTraces = false) (htab : ∀ x ∈ c.exceptionTable.toList, False) (hlocks : meth.locks = false) (kx : ∀ (ad : Nat → Nat) (H : Heap) (locs : List Loc) (t : State), (∀ n, n < T0.1 → ad n = ad0 n) → gC cI cJ cZ cMic cSrc cSt cAI cAJ D ad A s.heap H locs T1 → s.vm.Alike t.vm → H.size ≤ t.heap.size → (∀ q, q < H.size → t.heap[q]? = H[q]?) → XC (exn e1) s t) : ∀ n : Nat, ∀ (T : AT) (ad : Nat → Nat) (H : Heap) (locs : List Loc) (ls : Array Slot) (l0 : Nat) (l1 : Nat) (l2 : Int32), g_X11_writeMap_b16 n T l0 l1 l2 = some (e1 + 1, r1, T1) → GL T0 T → RC T → (∀ n, n < T0.1 → ad n = ad0 n) → l0 < T.1 → l1 < T.1 → gC cI cJ cZ cMic cSrc cSt cAI cAJ D ad A s.heap H locs T → lv_has ls 3 [(0, .ref (ad l0)), (1, .ref (ad l1)), (2, .int l2)] → W p l e { frames := 7, cells := T1.1 - T0.1 + 1, slots := sg T1 - sg T0 + 6, locals := 149 } s m args below meth c H locs (T.1 - T0.1) (sg T - sg T0) (vx_MQ below Qc XC args s (T1.1 - T0.1 + 1) (sg T1 - sg T0 + 6) A) (F0 m 16 ls []) := by
  have hx := E.1
  have hb := E.2.1
  have hts := E.2.2.1
  have hown := E.2.2.2.1
  have hK := E.2.2.2.2
  intro n
  induction n with
  | zero =>
    intro T ad H locs ls l0 l1 l2 h
    have h : (none : Option (Nat × Int32 × AT)) = some (e1 + 1, r1, T1) := h
    cases h
  | succ n ih =>
    intro T ad H locs ls l0 l1 l2 h hgl hrc had h_l0 h_l1 G hl
    have hT1 := s_X11_writeMap_b16 _ _ _ _ _ h
    have hcs := cs_okx hgl hT1
    have hcx := cs_okx1 hgl hT1
    have cp0 := cpr0 hrc
    unfold g_X11_writeMap_b16 at h
    refine lv_iload_n hx hb dX11_writeMap_16 rfl (lv_at hl 2 rfl) ?_
    refine lv_aload_n hx hb dX11_writeMap_17 rfl (lv_at hl 0 rfl) ?_
    obtain ⟨g2, h⟩ := oif_some h
    obtain ⟨n3, en3, h⟩ := obind_some h
    have h_n3 : n3 < T.1 := by rw [← cp0.1]; exact cp0.2.2 _ _ _ en3
    refine c_get E G l0 14 (v := .ref (ad n3)) (oO_k g2).1 (cc_o11 (oO_k g2).2) rfl (fun w h => .tail _ (iA_23 h)) (by decide) (.tail _ qA_675) rfl (by rw [en3]; rfl) dX11_writeMap_18 ?_
    clear en3
    obtain ⟨g4, h⟩ := oif_some h
    obtain ⟨n5, en5, h⟩ := obind_some h
    have h_n5 : n5 < T.1 := by rw [← cp0.1]; exact cp0.2.2 _ _ _ en5
    refine c_get E G n3 6 (v := .ref (ad n5)) (oO_k g4).1 (cc_o6 (oO_k g4).2) rfl (fun w h => .tail _ (iA_14 h)) (by decide) (.tail _ qA_695) rfl (by rw [en5]; rfl) dX11_writeMap_21 ?_
    clear en5
    obtain ⟨g6, h⟩ := oif_some h
    obtain ⟨r9, T7, eT7, h⟩ := obind2_some h
    refine q_cvi (As := []) (rest := [.int l2]) E G hA hX hN hml (u_X1_cells l hst D cI cJ cZ cMic cSrc cSt cAI cAJ ad T n5 eT7) (cwV 0 hts (gaV qA_714 qA_35 qA_36 qA_37 qA_38) rfl rfl rfl (by decide +kernel) ⟨Nat.le_of_ble_eq_true rfl, Nat.le_of_ble_eq_true rfl⟩) (oO_k g6).1 (cc_o1 (oO_k g6).2) rfl rfl hl.1 rfl (lv_room (Nat.le_of_ble_eq_true rfl)) dX11_writeMap_24 hcs (fun q10 T8 H locs hq G => ?_)
    obtain ⟨hq1, hq2⟩ := hq
    rw [hq2] at G
    refine lv_to hq1 ?_
    clear hq1 hq2
    have cp1 := cpr_sp cp0 (s_X1_cells eT7)
    refine lv_icmp_ge (tgt := 76) hx hb dX11_writeMap_27 (by decide) (fun c11 => ?_) (fun c11 => ?_)
    · have h := oif_pos c11 h
      refine lv_aload_n hx hb dX11_writeMap_76 rfl (lv_at hl 0 rfl) ?_
      obtain ⟨g12, h⟩ := oif_some h
      refine c_get E G l0 18 (oO_k g12).1 (cc_o11 (oO_k g12).2) rfl (fun w h => .tail _ (iA_23 h)) (by decide) (.tail _ qA_896) rfl rfl dX11_writeMap_77 ?_
      refine lv_topi (fun v13 ev13 => ?_)
      have h := elet_at ev13 h
      clear ev13
      exact (Nat.succ_ne_zero _ (congrArg Prod.fst (Option.some.inj h)).symm).elim
    · have h := oif_neg c11 h
      refine lv_iload_n hx hb dX11_writeMap_30 rfl (lv_at hl 2 rfl) ?_
      refine lv_if_le (tgt := 54) hx hb dX11_writeMap_31 (by decide) (fun c14 => ?_) (fun c14 => ?_)
      · have h := oif_pos c14 h
        have hl := lv_sub hl [0, 1, 2] rfl
        refine w_cast (c2 := T7.1 - T0.1) (s2 := sg T7 - sg T0) (by rw [cp1.1] <;> rfl) (by rw [sg_cpr cp1] <;> rfl) ?_
        exact b_X11_writeMap_b54 E hA hX hN hml hst htab hlocks kx (s_X11_writeMap_b16 n) ih _ _ _ _ _ _ _ _ h (gl_cpr hgl cp1) cp1.2.2 had (by rw [cp1.1]; exact h_l0) (by rw [cp1.1]; exact h_l1) G hl
      · have h := oif_neg c14 h
        refine lv_aload_n hx hb dX11_writeMap_34 rfl (lv_at hl 0 rfl) ?_
        obtain ⟨g15, h⟩ := oif_some h
        obtain ⟨n16, en16, h⟩ := obind_some h
        have h_n16 : n16 < T.1 := by rw [← cp1.1]; exact cp1.2.2 _ _ _ en16
        refine c_get E G l0 14 (v := .ref (ad n16)) (oO_k g15).1 (cc_o11 (oO_k g15).2) rfl (fun w h => .tail _ (iA_23 h)) (by decide) (.tail _ qA_675) rfl (by rw [en16]; rfl) dX11_writeMap_35 ?_
        clear en16
        obtain ⟨g17, h⟩ := oif_some h
        obtain ⟨n18, en18, h⟩ := obind_some h
        have h_n18 : n18 < T.1 := by rw [← cp1.1]; exact cp1.2.2 _ _ _ en18
        refine c_get E G n16 6 (v := .ref (ad n18)) (oO_k g17).1 (cc_o6 (oO_k g17).2) rfl (fun w h => .tail _ (iA_14 h)) (by decide) (.tail _ qA_695) rfl (by rw [en18]; rfl) dX11_writeMap_38 ?_
        clear en18
        refine lv_iload_n hx hb dX11_writeMap_41 rfl (lv_at hl 2 rfl) ?_
        obtain ⟨g19, h⟩ := oif_some h
        obtain ⟨r22, T20, eT20, h⟩ := obind2_some h
        refine q_cvi (As := [.int l2]) (rest := []) E G hA hX hN hml (u_X1_columnOf l hst D cI cJ cZ cMic cSrc cSt cAI cAJ ad T7 n18 l2 eT20) (cwV 1 hts (gaV qA_897 qA_141 qA_142 qA_37 qA_143) rfl rfl rfl (by decide +kernel) ⟨Nat.le_of_ble_eq_true rfl, Nat.le_of_ble_eq_true rfl⟩) (oO_k g19).1 (cc_o1 (oO_k g19).2) rfl rfl hl.1 rfl (lv_room (Nat.le_of_ble_eq_true rfl)) dX11_writeMap_42 hcs (fun q23 T21 H locs hq G => ?_)
        obtain ⟨hq1, hq2⟩ := hq
        rw [hq2] at G
        refine lv_to hq1 ?_
        clear hq1 hq2
        have cp2 := cpr_sp cp1 (s_X1_columnOf eT20)
        refine lv_if_ne (tgt := 54) hx hb dX11_writeMap_45 (by decide) (fun c24 => ?_) (fun c24 => ?_)
        · have h := oif_neg c24 h
          have hl := lv_sub hl [0, 1, 2] rfl
          refine w_cast (c2 := T20.1 - T0.1) (s2 := sg T20 - sg T0) (by rw [cp2.1] <;> rfl) (by rw [sg_cpr cp2] <;> rfl) ?_
          exact b_X11_writeMap_b54 E hA hX hN hml hst htab hlocks kx (s_X11_writeMap_b16 n) ih _ _ _ _ _ _ _ _ h (gl_cpr hgl cp2) cp2.2.2 had (by rw [cp2.1]; exact h_l0) (by rw [cp2.1]; exact h_l1) G hl
        · have h := oif_pos c24 h
          refine lv_aload_n hx hb dX11_writeMap_48 rfl (lv_at hl 0 rfl) ?_
          refine lv_bipush (v := 59) hx hb dX11_writeMap_49 (by decide) ?_
          obtain ⟨g25, h⟩ := oif_some h
          obtain ⟨T26, eT26, h⟩ := obind_some h
          refine q_cvv (As := [.int 59]) (rest := []) E G hA hX hN hml (u_X11_addMapByte l hst D cI cJ cZ cMic cSrc cSt cAI cAJ ad T20 l0 (59 : Int32) eT26) (cwV 1 hts (gaV qA_898 qA_899 qA_900 qA_131 qA_901) rfl rfl rfl (by decide +kernel) ⟨Nat.le_of_ble_eq_true rfl, Nat.le_of_ble_eq_true rfl⟩) (oO_k g25).1 (cc_o11 (oO_k g25).2) rfl rfl hl.1 rfl (lv_room (Nat.le_of_ble_eq_true rfl)) dX11_writeMap_51 hcs (fun T27 H locs hq G => ?_)
          rw [hq] at G
          clear hq
          have cp3 := cpr_sp cp2 (s_X11_addMapByte eT26)
          have hl := lv_sub hl [0, 1, 2] rfl
          refine w_cast (c2 := T26.1 - T0.1) (s2 := sg T26 - sg T0) (by rw [cp3.1] <;> rfl) (by rw [sg_cpr cp3] <;> rfl) ?_
          exact b_X11_writeMap_b54 E hA hX hN hml hst htab hlocks kx (s_X11_writeMap_b16 n) ih _ _ _ _ _ _ _ _ h (gl_cpr hgl cp3) cp3.2.2 had (by rw [cp3.1]; exact h_l0) (by rw [cp3.1]; exact h_l1) G hl
set_option maxHeartbeats 4000000 in
set_option maxRecDepth 100000 in
theorem b_X11_writeMap_b8 {p : Program} {l : Launch} {e : Env} {s : State} {m : MethodId} {args : Array Value} {below : List Frame} {meth : Method} {c : Code} {Qc : Array Value → State → Outcome → State → Prop} {XC : String → State → State → Prop} {D : va_G} {A : Nat → Prop} {cI cJ cZ cMic cSrc cSt cAI cAJ : ClassId} {ad0 : Nat → Nat} {T0 : AT} {e1 : Nat} {r1 : Int32} {T1 : AT} (E : cE p c cX11_writeMap s m args (Cond.code yX11_writeMap cX11_writeMap 3 (some .int) :: wsA) D RX11 (CT cI cJ cZ cMic cSrc cSt cAI cAJ)) (hA : ∀ q : Nat, s.heap.size ≤ q → A q) (hX : xT A s) (hN : nX s) (hml : c.maxLocals = 3) (hst : l.stackTraces = false) (htab : ∀ x ∈ c.exceptionTable.toList, False) (hlocks : meth.locks = false) (kx : ∀ (ad : Nat → Nat) (H : Heap) (locs : List Loc) (t : State), (∀ n, n < T0.1 → ad n = ad0 n) → gC cI cJ cZ cMic cSrc cSt cAI cAJ D ad A s.heap H locs T1 → s.vm.Alike t.vm → H.size ≤ t.heap.size → (∀ q, q < H.size → t.heap[q]? = H[q]?) → XC (exn e1) s t) : ∀ (T : AT) (ad : Nat → Nat) (H : Heap) (locs : List Loc) (ls : Array Slot) (s0 : Nat) (l0 : Nat), g_X11_writeMap_b8 T s0 l0 = some (e1 + 1, r1, T1) → GL T0 T → RC T → (∀ n, n < T0.1 → ad n = ad0 n) → s0 < T.1 → l0 < T.1 → gC cI cJ cZ cMic cSrc cSt cAI cAJ D ad A s.heap H locs T → lv_has ls 3 [(0, .ref (ad l0))] → W p l e { frames := 7, cells := T1.1 - T0.1 + 1, slots := sg T1 - sg T0 + 6, locals := 149 } s m args below meth c H locs (T.1 - T0.1) (sg T - sg T0) (vx_MQ below Qc XC args s (T1.1 - T0.1 + 1) (sg T1 - sg T0 + 6) A) (F0 m 8 ls [.ref (ad s0)]) := by
  have hx := E.1
  have hb := E.2.1
  have hts := E.2.2.1
  have hown := E.2.2.2.1
  have hK := E.2.2.2.2
  intro T ad H locs ls s0 l0 h hgl hrc had h_s0 h_l0 G hl
  have hT1 := s_X11_writeMap_b8 _ _ _ h
  have hcs := cs_okx hgl hT1
  have hcx := cs_okx1 hgl hT1
  have cp0 := cpr0 hrc
  unfold g_X11_writeMap_b8 at h
  refine lv_astore_n (lv' := [(1, .ref (ad s0)), (0, .ref (ad l0))]) hx hb dX11_writeMap_8 rfl hl (by decide) rfl (fun ls hl => ?_)
  refine lv_aload_n hx hb dX11_writeMap_9 rfl (lv_at hl 1 rfl) ?_
  refine lv_iconst (v := 0) hx hb dX11_writeMap_10 (by decide) ?_
  obtain ⟨g2, h⟩ := oif_some h
  refine c_put E G l0 18 (v := .int 0) (oO_k g2).1 (cc_o11 (oO_k g2).2) rfl (fun w h => .tail _ (iA_23 h)) tyX11 tyX11_ok nmX11 (by decide) (.tail _ qA_896) ⟨rfl, rfl, rfl⟩ rfl rfl (Nat.le_of_ble_eq_true rfl) dX11_writeMap_11 (fun H locs G => ?_)
  have G := gC_up_i (f := upd (T.2.2.1 l0) 18 0) (by rw [(oO_k g2).2]; rfl) G
  obtain ⟨T3, eT3, h⟩ := elet_some h
  have G : gC cI cJ cZ cMic cSrc cSt cAI cAJ D ad A s.heap H locs T3 := by rw [eT3]; exact G
  have cp1 := show CPR T T3 from by rw [eT3]; exact cpr_sp cp0 sp_uI
  clear eT3
  refine lv_iconst (v := 0) hx hb dX11_writeMap_14 (by decide) ?_
  refine lv_istore_n (lv' := [(2, .int 0), (1, .ref (ad s0)), (0, .ref (ad l0))]) hx hb dX11_writeMap_15 rfl hl (by decide) rfl (fun ls hl => ?_)
  have hl := lv_sub hl [2, 1, 0] rfl
  refine w_cast (c2 := T3.1 - T0.1) (s2 := sg T3 - sg T0) (by rw [cp1.1] <;> rfl) (by rw [sg_cpr cp1] <;> rfl) ?_
  exact b_X11_writeMap_b16 E hA hX hN hml hst htab hlocks kx _ _ _ _ _ _ _ _ _ h (gl_cpr hgl cp1) cp1.2.2 had (by rw [cp1.1]; exact h_l0) (by rw [cp1.1]; exact h_s0) G hl
set_option maxHeartbeats 4000000 in
set_option maxRecDepth 100000 in
theorem b_X11_writeMap (l : Launch) (hst : l.stackTraces = false) (D : va_G) (cI cJ cZ cMic cSrc cSt cAI cAJ : ClassId) (ad : Nat → Nat) (T : AT) (o : Nat) {e1 : Nat} {r1 : Int32} {T1 : AT} (h : g_X11_writeMap T o = some (e1 + 1, r1, T1)) (hrc : RC T) (h_o : o < T.1) : kAXi l yX11_writeMap (Cond.code yX11_writeMap cX11_writeMap 3 (some .int) :: wsA) 7 149 cI cJ cZ cMic cSrc cSt cAI cAJ D ad T [.ref (ad o)] e1 T1 := by
  intro sz
  refine vx_ofW (cc := cX11_writeMap) (maxL := 3) (ret := (some .int)) (by decide) rfl ?_
  intro p e s m args below meth c s₁ B hml htab hv
  obtain ⟨rfl, hsz, hP, hK, hD0, hX, hN⟩ := hv
  have hx := B.exec
  have hb := B.bytes
  have hr := B.returns
  have hts := atoms_spec (ws := (Cond.code yX11_writeMap cX11_writeMap 3 (some .int) :: wsA)) B.pre
  have hown : s.vm.findClass RX11 = some m.cls := findClass_of_methodNamed B.named
  have hlocks := B.notSynchronized
  subst hsz
  have hD := hD0.self (sz := s.heap.size)
  generalize hAe : va_A (cW ad T.1 (cc cI cJ cZ cMic cSrc cSt cAI cAJ ad T)) s.heap.size = A at hD hX ⊢
  have hA : ∀ q : Nat, s.heap.size ≤ q → A q := fun q h => by rw [← hAe]; exact Or.inr h
  have G : gC cI cJ cZ cMic cSrc cSt cAI cAJ D ad A s.heap s.heap [] T := ⟨hP, hD, va_S.rf⟩
  have E : cE p c cX11_writeMap s m ([.ref (ad o)] : List Value).toArray (Cond.code yX11_writeMap cX11_writeMap 3 (some .int) :: wsA) D RX11 (CT cI cJ cZ cMic cSrc cSt cAI cAJ) := ⟨hx, hb, hts, hown, hK⟩
  have htab : ∀ x ∈ c.exceptionTable.toList, False := fun x hx => htab x hx
  have hl := lv_entry ([.ref (ad o)]) (n := 3) (Nat.le_of_ble_eq_true rfl)
  rw [lg_entry_eq]
  generalize (lg_sl ([.ref (ad o)]) ++ List.replicate (3 - (lg_sl ([.ref (ad o)])).length) Slot.unset).toArray = ls at hl ⊢
  have hl : lv_has ls 3 [(0, .ref (ad o))] := hl
  have hgl := GL.rf T
  have had : ∀ n, n < T.1 → ad n = ad n := fun _ _ => rfl
  have hT1 := s_X11_writeMap h
  have hcs := cs_okx hgl hT1
  have hcx := cs_okx1 hgl hT1
  refine w_cast (Nat.sub_self T.1).symm (Nat.sub_self (sg T)).symm ?_
  have cp0 := cpr0 hrc
  unfold g_X11_writeMap at h
  refine lv_aload_n hx hb dX11_writeMap_0 rfl (lv_at hl 0 rfl) ?_
  obtain ⟨g2, h⟩ := oif_some h
  rcases othr_t h with ⟨r0, eT3⟩ | ⟨r5, T3, eT3, h⟩
  · refine q_xvv (As := []) (rest := []) E G hA hX hN hml (x_X11_needCamera l hst D cI cJ cZ cMic cSrc cSt cAI cAJ ad T o eT3) (cwV 0 hts (gaV qA_728 qA_729 qA_730 qA_131 qA_731) rfl rfl rfl (by decide +kernel) ⟨Nat.le_of_ble_eq_true rfl, Nat.le_of_ble_eq_true rfl⟩) (oO_k g2).1 (cc_o11 (oO_k g2).2) rfl rfl hl.1 rfl (lv_room (Nat.le_of_ble_eq_true rfl)) dX11_writeMap_1 hcx (fun E9 ce q9 T9 H locs hp G hce hcv hcl => ?_)
    obtain ⟨hE, hT⟩ := hp
    subst hE
    rw [hT] at G
    exact vx_out (fun x hx => (htab x hx).elim) hlocks hce hcv hcl (fun t ht hvm => ⟨(T1, ad), trivial, ⟨⟨rfl, rfl, had⟩, by rw [ht]; exact G.1, va_K.moved hvm hK, G.2.1⟩, G.2.2.F ht⟩) G.2.2.2.2 hcx.1 hcx.2
  refine q_cvv (As := []) (rest := []) E G hA hX hN hml (u_X11_needCamera l hst D cI cJ cZ cMic cSrc cSt cAI cAJ ad T o eT3) (cwV 0 hts (gaV qA_728 qA_729 qA_730 qA_131 qA_731) rfl rfl rfl (by decide +kernel) ⟨Nat.le_of_ble_eq_true rfl, Nat.le_of_ble_eq_true rfl⟩) (oO_k g2).1 (cc_o11 (oO_k g2).2) rfl rfl hl.1 rfl (lv_room (Nat.le_of_ble_eq_true rfl)) dX11_writeMap_1 hcs (fun T4 H locs hq G => ?_)
  rw [hq] at G
  clear hq
  have cp1 := cpr_sp cp0 (s_X11_needCamera eT3)
  refine lv_aload_n hx hb dX11_writeMap_4 rfl (lv_at hl 0 rfl) ?_
  obtain ⟨g7, h⟩ := oif_some h
  obtain ⟨r9, T8, eT8, h⟩ := obind2_some h
  obtain ⟨g10, h⟩ := oif_some h
  have hg2 := s_X11_powersNow eT8
  have hrc2 := hg2.2.2 cp1.2.2
  have hT2 := s_X11_writeMap_b8 _ _ _ h
  refine q_avr (As := []) (rest := []) E G hA hX hN hml (a_X11_powersNow l hst D cI cJ cZ cMic cSrc cSt cAI cAJ ad T3 o eT8 cp1.2.2 (by rw [cp1.1]; exact h_o)) (cwV 0 hts (gaV qA_799 qA_800 qA_801 qA_131 qA_802) rfl rfl rfl (by decide +kernel) ⟨Nat.le_of_ble_eq_true rfl, Nat.le_of_ble_eq_true rfl⟩) (oO_k g7).1 (cc_o11 (oO_k g7).2) rfl rfl hl.1 rfl (lv_room (Nat.le_of_ble_eq_true rfl)) dX11_writeMap_5 (cs_avx hgl cp1 hg2 hT2) (fun ad2 H locs hga G => ?_)
  refine w_cast (c2 := T8.1 - T.1) (s2 := sg T8 - sg T) (cs_f1 hgl cp1 hg2) (cs_f2 hgl cp1 hg2) ?_
  have h_new : r9 < T8.1 := Nat.le_of_ble_eq_true g10
  have hl := lv_sub hl [0] rfl
  rw [show ad o = ad2 o from (hga o (by rw [cp1.1]; exact h_o)).symm] at hl
  exact b_X11_writeMap_b8 E hA hX hN hml hst htab hlocks (fun ad H locs t had G hvm h1 h2 => ⟨(T1, ad), trivial, ⟨⟨rfl, rfl, had⟩, (c_thrown G hK hvm h1 h2).1⟩, (c_thrown G hK hvm h1 h2).2⟩) _ _ _ _ _ _ _ h (GL.tr (gl_cpr hgl cp1) hg2) hrc2 (fun n hn => (hga n (by rw [cp1.1]; exact Nat.lt_of_lt_of_le hn hgl.1)).trans (had n hn)) h_new (Nat.lt_of_lt_of_le (by rw [cp1.1]; exact h_o) hg2.1) G hl
def g_X11_mapByte (T : AT) (o : Nat) (a0 : Int32) : Option (Nat × Int32 × AT) := oif (oO T o 11 = true) <| elet (T.2.2.1 o 18) fun v3 => othr (g_X11_needIndex T a0 v3) 0 fun r6 T4 => oif (oO T4 o 11 = true) <| obind (T4.2.2.2.2 o 13) fun n9 => oif (aA T4 n9 100 = true) <| oif (inb a0 (T4.2.1 n9).2 = true) <| elet (T4.2.2.1 n9 a0.toNatClampNeg) fun v12 => some (0, v12, T4)
set_option maxHeartbeats 4000000 in
set_option maxRecDepth 100000 in
theorem u_X11_mapByte (l : Launch) (hst : l.stackTraces = false) (D : va_G) (cI cJ cZ cMic cSrc cSt cAI cAJ : ClassId) (ad : Nat → Nat) (T : AT) (o : Nat) (a0 : Int32) {r1 : Int32} {T1 : AT} (h : g_X11_mapByte T o a0 = some (0, r1, T1)) : kCi l yX11_mapByte (Cond.code yX11_mapByte cX11_mapByte 2 (some .int) :: wsA) 7 102 cI cJ cZ cMic cSrc cSt cAI cAJ D ad T [.ref (ad o), .int a0] (fun r T9 => r = r1 ∧ T9 = T1) := by
  intro sz
  refine Met.ofW (cc := cX11_mapByte) (maxL := 2) (ret := (some .int)) (by decide) rfl ?_
  intro p e s m args below meth c s₁ B hml hv
  obtain ⟨rfl, hsz, hP, hK, hD0, hX, hN⟩ := hv
  have hx := B.exec
  have hb := B.bytes
  have hr := B.returns
  have hts := atoms_spec (ws := (Cond.code yX11_mapByte cX11_mapByte 2 (some .int) :: wsA)) B.pre
  have hown : s.vm.findClass RX11 = some m.cls := findClass_of_methodNamed B.named
  have hlocks := B.notSynchronized
  subst hsz
  have hD := hD0.self (sz := s.heap.size)
  generalize hAe : va_A (cW ad T.1 (cc cI cJ cZ cMic cSrc cSt cAI cAJ ad T)) s.heap.size = A at hD hX ⊢
  have hA : ∀ q : Nat, s.heap.size ≤ q → A q := fun q h => by rw [← hAe]; exact Or.inr h
  have G : gC cI cJ cZ cMic cSrc cSt cAI cAJ D ad A s.heap s.heap [] T := ⟨hP, hD, va_S.rf⟩
  have E : cE p c cX11_mapByte s m ([.ref (ad o), .int a0] : List Value).toArray (Cond.code yX11_mapByte cX11_mapByte 2 (some .int) :: wsA) D RX11 (CT cI cJ cZ cMic cSrc cSt cAI cAJ) := ⟨hx, hb, hts, hown, hK⟩
  have hl := lv_entry ([.ref (ad o), .int a0]) (n := 2) (Nat.le_of_ble_eq_true rfl)
  rw [lg_entry_eq]
  generalize (lg_sl ([.ref (ad o), .int a0]) ++ List.replicate (2 - (lg_sl ([.ref (ad o), .int a0])).length) Slot.unset).toArray = ls at hl ⊢
  have hl : lv_has ls 2 [(0, .ref (ad o)), (1, .int a0)] := hl
  unfold g_X11_mapByte at h
  refine lv_iload_n hx hb dX11_mapByte_0 rfl (lv_at hl 1 rfl) ?_
  refine lv_aload_n hx hb dX11_mapByte_1 rfl (lv_at hl 0 rfl) ?_
  obtain ⟨g2, h⟩ := oif_some h
  refine c_get E G o 18 (oO_k g2).1 (cc_o11 (oO_k g2).2) rfl (fun w h => .tail _ (iA_23 h)) (by decide) (.tail _ qA_896) rfl rfl dX11_mapByte_2 ?_
  refine lv_topi (fun v3 ev3 => ?_)
  have h := elet_at ev3 h
  clear ev3
  obtain ⟨r6, T4, eT4, h⟩ := othr_n h
  refine q_csv (As := [.int a0, .int v3]) (rest := []) E G hA hX hN hml (u_X11_needIndex l hst D cI cJ cZ cMic cSrc cSt cAI cAJ ad T a0 v3 eT4) (cwS 2 hts (gaS qA_738 qA_739 qA_131 qA_740) rfl rfl rfl (by decide +kernel) ⟨Nat.le_of_ble_eq_true rfl, Nat.le_of_ble_eq_true rfl⟩) rfl hl.1 rfl (lv_room (Nat.le_of_ble_eq_true rfl)) dX11_mapByte_5 ⟨Nat.zero_le _, Nat.zero_le _⟩ (fun T5 H locs hq G => ?_)
  rw [hq] at G
  clear hq eT4
  refine lv_aload_n hx hb dX11_mapByte_8 rfl (lv_at hl 0 rfl) ?_
  obtain ⟨g8, h⟩ := oif_some h
  obtain ⟨n9, en9, h⟩ := obind_some h
  refine c_get E G o 13 (v := .ref (ad n9)) (oO_k g8).1 (cc_o11 (oO_k g8).2) rfl (fun w h => .tail _ (iA_23 h)) (by decide) (.tail _ qA_672) rfl (by rw [en9]; rfl) dX11_mapByte_9 ?_
  clear en9
  refine lv_iload_n hx hb dX11_mapByte_12 rfl (lv_at hl 1 rfl) ?_
  obtain ⟨g10, h⟩ := oif_some h
  obtain ⟨g11, h⟩ := oif_some h
  refine c_iald E G n9 0 (k := a0.toNatClampNeg) (aA_k g10).1 (cc_a100 (aA_k g10).2.1) rfl (inb_k g11).1 (inb_k g11).2 (aA_k g10).2.2 dX11_mapByte_13 ?_
  refine lv_topi (fun v12 ev12 => ?_)
  have h := elet_at ev12 h
  clear ev12
  exact W.iret (v := v12) hx hb hr (fun t ht hW => ⟨⟨v12, T4, rfl, (osome3 h).2, ⟨by rw [ht]; exact G.1, va_K.moved hW.alike hK, G.2.1⟩⟩, G.2.2.F ht⟩) G.2.2.2.2 dX11_mapByte_14
set_option maxHeartbeats 4000000 in
set_option maxRecDepth 100000 in
theorem s_X11_mapByte {T : AT} {o : Nat} {a0 : Int32} {e1 : Nat} {r1 : Int32} {T1 : AT} (h : g_X11_mapByte T o a0 = some (e1, r1, T1)) : SP T T1 := by
  have p0 := SP.rf T
  unfold g_X11_mapByte at h
  obtain ⟨g2, h⟩ := oif_some h
  obtain ⟨v3, -, h⟩ := elet_some h
  rcases othr_s h with ⟨k9, r9, e9, -⟩ | ⟨r5, T4, eT4, h⟩
  · exact SP.tr p0 (s_X11_needIndex e9)
  have p1 : SP T T4 := SP.tr p0 (s_X11_needIndex eT4)
  obtain ⟨g6, h⟩ := oif_some h
  obtain ⟨n7, en7, h⟩ := obind_some h
  obtain ⟨g8, h⟩ := oif_some h
  obtain ⟨g9, h⟩ := oif_some h
  obtain ⟨v10, -, h⟩ := elet_some h
  rw [← (osome3 h).2.2]
  exact p1
set_option maxHeartbeats 4000000 in
set_option maxRecDepth 100000 in
theorem x_X11_mapByte (l : Launch) (hst : l.stackTraces = false) (D : va_G) (cI cJ cZ cMic cSrc cSt cAI cAJ : ClassId) (ad : Nat → Nat) (T : AT) (o : Nat) (a0 : Int32) {e1 : Nat} {r1 : Int32} {T1 : AT} (h : g_X11_mapByte T o a0 = some (e1 + 1, r1, T1)) : kXi l yX11_mapByte (Cond.code yX11_mapByte cX11_mapByte 2 (some .int) :: wsA) 7 102 cI cJ cZ cMic cSrc cSt cAI cAJ D ad T [.ref (ad o), .int a0] e1 T1 := by
  intro sz
  refine vx_ofW (cc := cX11_mapByte) (maxL := 2) (ret := (some .int)) (by decide) rfl ?_
  intro p e s m args below meth c s₁ B hml htab hv
  obtain ⟨rfl, hsz, hP, hK, hD0, hX, hN⟩ := hv
  have hx := B.exec
  have hb := B.bytes
  have hr := B.returns
  have hts := atoms_spec (ws := (Cond.code yX11_mapByte cX11_mapByte 2 (some .int) :: wsA)) B.pre
  have hown : s.vm.findClass RX11 = some m.cls := findClass_of_methodNamed B.named
  have hlocks := B.notSynchronized
  subst hsz
  have hD := hD0.self (sz := s.heap.size)
  generalize hAe : va_A (cW ad T.1 (cc cI cJ cZ cMic cSrc cSt cAI cAJ ad T)) s.heap.size = A at hD hX ⊢
  have hA : ∀ q : Nat, s.heap.size ≤ q → A q := fun q h => by rw [← hAe]; exact Or.inr h
  have G : gC cI cJ cZ cMic cSrc cSt cAI cAJ D ad A s.heap s.heap [] T := ⟨hP, hD, va_S.rf⟩
  have E : cE p c cX11_mapByte s m ([.ref (ad o), .int a0] : List Value).toArray (Cond.code yX11_mapByte cX11_mapByte 2 (some .int) :: wsA) D RX11 (CT cI cJ cZ cMic cSrc cSt cAI cAJ) := ⟨hx, hb, hts, hown, hK⟩
  have htab : ∀ x ∈ c.exceptionTable.toList, False := fun x hx => htab x hx
  have hl := lv_entry ([.ref (ad o), .int a0]) (n := 2) (Nat.le_of_ble_eq_true rfl)
  rw [lg_entry_eq]
  generalize (lg_sl ([.ref (ad o), .int a0]) ++ List.replicate (2 - (lg_sl ([.ref (ad o), .int a0])).length) Slot.unset).toArray = ls at hl ⊢
  have hl : lv_has ls 2 [(0, .ref (ad o)), (1, .int a0)] := hl
  unfold g_X11_mapByte at h
  refine lv_iload_n hx hb dX11_mapByte_0 rfl (lv_at hl 1 rfl) ?_
  refine lv_aload_n hx hb dX11_mapByte_1 rfl (lv_at hl 0 rfl) ?_
  obtain ⟨g2, h⟩ := oif_some h
  refine c_get E G o 18 (oO_k g2).1 (cc_o11 (oO_k g2).2) rfl (fun w h => .tail _ (iA_23 h)) (by decide) (.tail _ qA_896) rfl rfl dX11_mapByte_2 ?_
  refine lv_topi (fun v3 ev3 => ?_)
  have h := elet_at ev3 h
  clear ev3
  rcases othr_t h with ⟨r0, eT4⟩ | ⟨r6, T4, eT4, h⟩
  · refine q_xsv (As := [.int a0, .int v3]) (rest := []) E G hA hX hN hml (x_X11_needIndex l hst D cI cJ cZ cMic cSrc cSt cAI cAJ ad T a0 v3 eT4) (cwS 2 hts (gaS qA_738 qA_739 qA_131 qA_740) rfl rfl rfl (by decide +kernel) ⟨Nat.le_of_ble_eq_true rfl, Nat.le_of_ble_eq_true rfl⟩) rfl hl.1 rfl (lv_room (Nat.le_of_ble_eq_true rfl)) dX11_mapByte_5 ⟨Nat.le_of_ble_eq_true rfl, Nat.le_of_ble_eq_true rfl⟩ (fun E9 ce q9 T9 H locs hp G hce hcv hcl => ?_)
    obtain ⟨hE, hT⟩ := hp
    subst hE
    rw [hT] at G
    exact vx_out (fun x hx => (htab x hx).elim) hlocks hce hcv hcl (fun t ht hvm => ⟨T1, trivial, ⟨⟨rfl, rfl⟩, by rw [ht]; exact G.1, va_K.moved hvm hK, G.2.1⟩, G.2.2.F ht⟩) G.2.2.2.2 (Nat.le_refl _) (Nat.le_refl _)
  refine q_csv (As := [.int a0, .int v3]) (rest := []) E G hA hX hN hml (u_X11_needIndex l hst D cI cJ cZ cMic cSrc cSt cAI cAJ ad T a0 v3 eT4) (cwS 2 hts (gaS qA_738 qA_739 qA_131 qA_740) rfl rfl rfl (by decide +kernel) ⟨Nat.le_of_ble_eq_true rfl, Nat.le_of_ble_eq_true rfl⟩) rfl hl.1 rfl (lv_room (Nat.le_of_ble_eq_true rfl)) dX11_mapByte_5 ⟨Nat.zero_le _, Nat.zero_le _⟩ (fun T5 H locs hq G => ?_)
  rw [hq] at G
  clear hq eT4
  refine lv_aload_n hx hb dX11_mapByte_8 rfl (lv_at hl 0 rfl) ?_
  obtain ⟨g8, h⟩ := oif_some h
  obtain ⟨n9, en9, h⟩ := obind_some h
  refine c_get E G o 13 (v := .ref (ad n9)) (oO_k g8).1 (cc_o11 (oO_k g8).2) rfl (fun w h => .tail _ (iA_23 h)) (by decide) (.tail _ qA_672) rfl (by rw [en9]; rfl) dX11_mapByte_9 ?_
  clear en9
  refine lv_iload_n hx hb dX11_mapByte_12 rfl (lv_at hl 1 rfl) ?_
  obtain ⟨g10, h⟩ := oif_some h
  obtain ⟨g11, h⟩ := oif_some h
  refine c_iald E G n9 0 (k := a0.toNatClampNeg) (aA_k g10).1 (cc_a100 (aA_k g10).2.1) rfl (inb_k g11).1 (inb_k g11).2 (aA_k g10).2.2 dX11_mapByte_13 ?_
  refine lv_topi (fun v12 ev12 => ?_)
  have h := elet_at ev12 h
  clear ev12
  exact (Nat.succ_ne_zero _ (congrArg Prod.fst (Option.some.inj h)).symm).elim
def g_X11_recordPoint_b28  (T : AT)  : Option (AT) := some T
def g_X11_recordPoint_b11  (T : AT) (l0 : Nat) (l1 : Int32) (l2 : Int32) : Option (AT) := oif (oO T l0 11 = true) <| obind (T.2.2.2.2 l0 2) fun n3 => oif (oO T l0 11 = true) <| obind (T.2.2.2.2 l0 14) fun n5 => oif (oO T l0 11 = true) <| obind (T.2.2.2.2 l0 7) fun n7 => oif (oO T n3 5 = true) <| obind (g_X5_recordPoint T n3 n5 n7 l1 l2) fun T9 => g_X11_recordPoint_b28 T9
def g_X11_recordPoint (T : AT) (o : Nat) (a0 : Int32) (a1 : Int32) : Option (AT) := oif (oO T o 11 = true) <| obind (T.2.2.2.2 o 7) fun n3 => oif (oO T o 11 = true) <| obind (T.2.2.2.2 o 6) fun n5 => oif (oO T n3 8 = true) <| obind (g_X8_copyFrom T n3 n5) fun T7 => g_X11_recordPoint_b11 T7 o a0 a1
set_option maxHeartbeats 4000000 in
set_option maxRecDepth 100000 in
theorem s_X11_recordPoint_b28 {T1 : AT} : ∀ (T : AT), g_X11_recordPoint_b28 T = some T1 → GL T T1 := by
  intro T h
  have p0 := GL.rf T
  unfold g_X11_recordPoint_b28 at h
  rw [← osome1 h]
  exact p0
set_option maxHeartbeats 4000000 in
set_option maxRecDepth 100000 in
theorem s_X11_recordPoint_b11 {T1 : AT} : ∀ (T : AT) (l0 : Nat) (l1 : Int32) (l2 : Int32), g_X11_recordPoint_b11 T l0 l1 l2 = some T1 → GL T T1 := by
  intro T l0 l1 l2 h
  have p0 := GL.rf T
  unfold g_X11_recordPoint_b11 at h
  obtain ⟨g2, h⟩ := oif_some h
  obtain ⟨n3, en3, h⟩ := obind_some h
  obtain ⟨g4, h⟩ := oif_some h
  obtain ⟨n5, en5, h⟩ := obind_some h
  obtain ⟨g6, h⟩ := oif_some h
  obtain ⟨n7, en7, h⟩ := obind_some h
  obtain ⟨g8, h⟩ := oif_some h
  obtain ⟨T9, eT9, h⟩ := obind_some h
  have p1 : GL T T9 := GL.tr p0 (s_X5_recordPoint eT9)
  exact GL.tr p1 (s_X11_recordPoint_b28 _ h)
set_option maxHeartbeats 4000000 in
set_option maxRecDepth 100000 in
theorem s_X11_recordPoint {T : AT} {o : Nat} {a0 : Int32} {a1 : Int32} {T1 : AT} (h : g_X11_recordPoint T o a0 a1 = some T1) : GL T T1 := by
  have p0 := GL.rf T
  unfold g_X11_recordPoint at h
  obtain ⟨g2, h⟩ := oif_some h
  obtain ⟨n3, en3, h⟩ := obind_some h
  obtain ⟨g4, h⟩ := oif_some h
  obtain ⟨n5, en5, h⟩ := obind_some h
  obtain ⟨g6, h⟩ := oif_some h
  obtain ⟨T7, eT7, h⟩ := obind_some h
  have p1 : GL T T7 := GL.tr p0 (s_X8_copyFrom eT7)
  exact GL.tr p1 (s_X11_recordPoint_b11 _ _ _ _ h)
set_option maxHeartbeats 4000000 in
set_option maxRecDepth 100000 in
theorem a_X11_recordPoint_b28 {p : Program} {l : Launch} {e : Env} {s : State} {m : MethodId} {args : Array Value} {below : List Frame} {meth : Method} {c : Code} {Q : State → Prop} {D : va_G} {A : Nat → Prop} {cI cJ cZ cMic cSrc cSt cAI cAJ : ClassId} {ad0 : Nat → Nat} {T0 : AT} {T1 : AT} (E : cE p c cX11_recordPoint s m args (Cond.code yX11_recordPoint cX11_recordPoint 3 none :: wsA) D RX11 (CT cI cJ cZ cMic cSrc cSt cAI cAJ)) (hA : ∀ q : Nat, s.heap.size ≤ q → A q) (hX : xT A s) (hN : nX s) (hml : c.maxLocals = 3) (hst : l.stackTraces = false) (kr28 : ∀ (ad : Nat → Nat) (H : Heap) (locs : List Loc) (ls : Array Slot), (∀ n, n < T0.1 → ad n = ad0 n) → gC cI cJ cZ cMic cSrc cSt cAI cAJ D ad A s.heap H locs T1 → W p l e { frames := 6, cells := T1.1 - T0.1, slots := sg T1 - sg T0, locals := 126 } s m args below meth c H locs (T1.1 - T0.1) (sg T1 - sg T0) Q (F0 m 28 ls [])) : ∀ (T : AT) (ad : Nat → Nat) (H : Heap) (locs : List Loc) (ls : Array Slot), g_X11_recordPoint_b28 T = some T1 → GL T0 T → RC T → (∀ n, n < T0.1 → ad n = ad0 n) → gC cI cJ cZ cMic cSrc cSt cAI cAJ D ad A s.heap H locs T → lv_has ls 3 [] → W p l e { frames := 6, cells := T1.1 - T0.1, slots := sg T1 - sg T0, locals := 126 } s m args below meth c H locs (T.1 - T0.1) (sg T - sg T0) Q (F0 m 28 ls []) := by
  have hx := E.1
  have hb := E.2.1
  have hts := E.2.2.1
  have hown := E.2.2.2.1
  have hK := E.2.2.2.2
  intro T ad H locs ls h hgl hrc had G hl
  have hT1 := s_X11_recordPoint_b28 _ h
  have hcs := cs_ok hgl hT1
  have cp0 := cpr0 hrc
  unfold g_X11_recordPoint_b28 at h
  rw [osome1 h] at G
  refine w_cast (c2 := T1.1 - T0.1) (s2 := sg T1 - sg T0) (by rw [← osome1 h, cp0.1] <;> rfl) (by rw [← osome1 h, sg_cpr cp0] <;> rfl) ?_
  exact kr28 ad _ _ _ had G
set_option maxHeartbeats 4000000 in
set_option maxRecDepth 100000 in
theorem a_X11_recordPoint_b11 {p : Program} {l : Launch} {e : Env} {s : State} {m : MethodId} {args : Array Value} {below : List Frame} {meth : Method} {c : Code} {Q : State → Prop} {D : va_G} {A : Nat → Prop} {cI cJ cZ cMic cSrc cSt cAI cAJ : ClassId} {ad0 : Nat → Nat} {T0 : AT} {T1 : AT} (E : cE p c cX11_recordPoint s m args (Cond.code yX11_recordPoint cX11_recordPoint 3 none :: wsA) D RX11 (CT cI cJ cZ cMic cSrc cSt cAI cAJ)) (hA : ∀ q : Nat, s.heap.size ≤ q → A q) (hX : xT A s) (hN : nX s) (hml : c.maxLocals = 3) (hst : l.stackTraces = false) (kr28 : ∀ (ad : Nat → Nat) (H : Heap) (locs : List Loc) (ls : Array Slot), (∀ n, n < T0.1 → ad n = ad0 n) → gC cI cJ cZ cMic cSrc cSt cAI cAJ D ad A s.heap H locs T1 → W p l e { frames := 6, cells := T1.1 - T0.1, slots := sg T1 - sg T0, locals := 126 } s m args below meth c H locs (T1.1 - T0.1) (sg T1 - sg T0) Q (F0 m 28 ls [])) : ∀ (T : AT) (ad : Nat → Nat) (H : Heap) (locs : List Loc) (ls : Array Slot) (l0 : Nat) (l1 : Int32) (l2 : Int32), g_X11_recordPoint_b11 T l0 l1 l2 = some T1 → GL T0 T → RC T → (∀ n, n < T0.1 → ad n = ad0 n) → l0 < T.1 → gC cI cJ cZ cMic cSrc cSt cAI cAJ D ad A s.heap H locs T → lv_has ls 3 [(0, .ref (ad l0)), (1, .int l1), (2, .int l2)] → W p l e { frames := 6, cells := T1.1 - T0.1, slots := sg T1 - sg T0, locals := 126 } s m args below meth c H locs (T.1 - T0.1) (sg T - sg T0) Q (F0 m 11 ls []) := by
  have hx := E.1
  have hb := E.2.1
  have hts := E.2.2.1
  have hown := E.2.2.2.1
  have hK := E.2.2.2.2
  intro T ad H locs ls l0 l1 l2 h hgl hrc had h_l0 G hl
  have hT1 := s_X11_recordPoint_b11 _ _ _ _ h
  have hcs := cs_ok hgl hT1
  have cp0 := cpr0 hrc
  unfold g_X11_recordPoint_b11 at h
  refine lv_aload_n hx hb dX11_recordPoint_11 rfl (lv_at hl 0 rfl) ?_
  obtain ⟨g2, h⟩ := oif_some h
  obtain ⟨n3, en3, h⟩ := obind_some h
  have h_n3 : n3 < T.1 := by rw [← cp0.1]; exact cp0.2.2 _ _ _ en3
  refine c_get E G l0 2 (v := .ref (ad n3)) (oO_k g2).1 (cc_o11 (oO_k g2).2) rfl (fun w h => .tail _ (iA_23 h)) (by decide) (.tail _ qA_654) rfl (by rw [en3]; rfl) dX11_recordPoint_12 ?_
  clear en3
  refine lv_aload_n hx hb dX11_recordPoint_15 rfl (lv_at hl 0 rfl) ?_
  obtain ⟨g4, h⟩ := oif_some h
  obtain ⟨n5, en5, h⟩ := obind_some h
  have h_n5 : n5 < T.1 := by rw [← cp0.1]; exact cp0.2.2 _ _ _ en5
  refine c_get E G l0 14 (v := .ref (ad n5)) (oO_k g4).1 (cc_o11 (oO_k g4).2) rfl (fun w h => .tail _ (iA_23 h)) (by decide) (.tail _ qA_675) rfl (by rw [en5]; rfl) dX11_recordPoint_16 ?_
  clear en5
  refine lv_aload_n hx hb dX11_recordPoint_19 rfl (lv_at hl 0 rfl) ?_
  obtain ⟨g6, h⟩ := oif_some h
  obtain ⟨n7, en7, h⟩ := obind_some h
  have h_n7 : n7 < T.1 := by rw [← cp0.1]; exact cp0.2.2 _ _ _ en7
  refine c_get E G l0 7 (v := .ref (ad n7)) (oO_k g6).1 (cc_o11 (oO_k g6).2) rfl (fun w h => .tail _ (iA_23 h)) (by decide) (.tail _ qA_665) rfl (by rw [en7]; rfl) dX11_recordPoint_20 ?_
  clear en7
  refine lv_iload_n hx hb dX11_recordPoint_23 rfl (lv_at hl 1 rfl) ?_
  refine lv_iload_n hx hb dX11_recordPoint_24 rfl (lv_at hl 2 rfl) ?_
  obtain ⟨g8, h⟩ := oif_some h
  obtain ⟨T9, eT9, h⟩ := obind_some h
  have hg2 := s_X5_recordPoint eT9
  have hrc2 := hg2.2.2 cp0.2.2
  have hT2 := s_X11_recordPoint_b28 _ h
  refine q_avv (As := [.ref (ad n5), .ref (ad n7), .int l1, .int l2]) (rest := []) E G hA hX hN hml (a_X5_recordPoint l hst D cI cJ cZ cMic cSrc cSt cAI cAJ ad T n3 n5 n7 l1 l2 eT9 cp0.2.2 (by rw [cp0.1]; exact h_n3) (by rw [cp0.1]; exact h_n5) (by rw [cp0.1]; exact h_n7)) (cwV 4 hts (gaV qA_914 qA_915 qA_916 qA_475 qA_546) rfl rfl rfl (by decide +kernel) ⟨Nat.le_of_ble_eq_true rfl, Nat.le_of_ble_eq_true rfl⟩) (oO_k g8).1 (cc_o5 (oO_k g8).2) rfl rfl hl.1 rfl (lv_room (Nat.le_of_ble_eq_true rfl)) dX11_recordPoint_25 (cs_av hgl cp0 hg2 hT2) (fun ad2 H locs hga G => ?_)
  refine w_cast (c2 := T9.1 - T0.1) (s2 := sg T9 - sg T0) (cs_f1 hgl cp0 hg2) (cs_f2 hgl cp0 hg2) ?_
  have hl := lv_sub hl [] rfl
  exact a_X11_recordPoint_b28 E hA hX hN hml hst kr28 _ _ _ _ _ h (GL.tr (gl_cpr hgl cp0) hg2) hrc2 (fun n hn => (hga n (by rw [cp0.1]; exact Nat.lt_of_lt_of_le hn hgl.1)).trans (had n hn)) G hl
set_option maxHeartbeats 4000000 in
set_option maxRecDepth 100000 in
theorem a_X11_recordPoint (l : Launch) (hst : l.stackTraces = false) (D : va_G) (cI cJ cZ cMic cSrc cSt cAI cAJ : ClassId) (ad : Nat → Nat) (T : AT) (o : Nat) (a0 : Int32) (a1 : Int32) {T1 : AT} (h : g_X11_recordPoint T o a0 a1 = some T1) (hrc : RC T) (h_o : o < T.1) : kAv l yX11_recordPoint (Cond.code yX11_recordPoint cX11_recordPoint 3 none :: wsA) 6 126 cI cJ cZ cMic cSrc cSt cAI cAJ D ad T [.ref (ad o), .int a0, .int a1] T1 := by
  intro sz
  refine Met.ofW (cc := cX11_recordPoint) (maxL := 3) (ret := none) (by decide) rfl ?_
  intro p e s m args below meth c s₁ B hml hv
  obtain ⟨rfl, hsz, hP, hK, hD0, hX, hN⟩ := hv
  have hx := B.exec
  have hb := B.bytes
  have hr := B.returns
  have hts := atoms_spec (ws := (Cond.code yX11_recordPoint cX11_recordPoint 3 none :: wsA)) B.pre
  have hown : s.vm.findClass RX11 = some m.cls := findClass_of_methodNamed B.named
  have hlocks := B.notSynchronized
  subst hsz
  have hD := hD0.self (sz := s.heap.size)
  generalize hAe : va_A (cW ad T.1 (cc cI cJ cZ cMic cSrc cSt cAI cAJ ad T)) s.heap.size = A at hD hX ⊢
  have hA : ∀ q : Nat, s.heap.size ≤ q → A q := fun q h => by rw [← hAe]; exact Or.inr h
  have G : gC cI cJ cZ cMic cSrc cSt cAI cAJ D ad A s.heap s.heap [] T := ⟨hP, hD, va_S.rf⟩
  have E : cE p c cX11_recordPoint s m ([.ref (ad o), .int a0, .int a1] : List Value).toArray (Cond.code yX11_recordPoint cX11_recordPoint 3 none :: wsA) D RX11 (CT cI cJ cZ cMic cSrc cSt cAI cAJ) := ⟨hx, hb, hts, hown, hK⟩
  have hl := lv_entry ([.ref (ad o), .int a0, .int a1]) (n := 3) (Nat.le_of_ble_eq_true rfl)
  rw [lg_entry_eq]
  generalize (lg_sl ([.ref (ad o), .int a0, .int a1]) ++ List.replicate (3 - (lg_sl ([.ref (ad o), .int a0, .int a1])).length) Slot.unset).toArray = ls at hl ⊢
  have hl : lv_has ls 3 [(0, .ref (ad o)), (1, .int a0), (2, .int a1)] := hl
  have hgl := GL.rf T
  have had : ∀ n, n < T.1 → ad n = ad n := fun _ _ => rfl
  have hT1 := s_X11_recordPoint h
  have hcs := cs_ok hgl hT1
  refine w_cast (Nat.sub_self T.1).symm (Nat.sub_self (sg T)).symm ?_
  have cp0 := cpr0 hrc
  unfold g_X11_recordPoint at h
  refine lv_aload_n hx hb dX11_recordPoint_0 rfl (lv_at hl 0 rfl) ?_
  obtain ⟨g2, h⟩ := oif_some h
  obtain ⟨n3, en3, h⟩ := obind_some h
  have h_n3 : n3 < T.1 := by rw [← cp0.1]; exact cp0.2.2 _ _ _ en3
  refine c_get E G o 7 (v := .ref (ad n3)) (oO_k g2).1 (cc_o11 (oO_k g2).2) rfl (fun w h => .tail _ (iA_23 h)) (by decide) (.tail _ qA_665) rfl (by rw [en3]; rfl) dX11_recordPoint_1 ?_
  clear en3
  refine lv_aload_n hx hb dX11_recordPoint_4 rfl (lv_at hl 0 rfl) ?_
  obtain ⟨g4, h⟩ := oif_some h
  obtain ⟨n5, en5, h⟩ := obind_some h
  have h_n5 : n5 < T.1 := by rw [← cp0.1]; exact cp0.2.2 _ _ _ en5
  refine c_get E G o 6 (v := .ref (ad n5)) (oO_k g4).1 (cc_o11 (oO_k g4).2) rfl (fun w h => .tail _ (iA_23 h)) (by decide) (.tail _ qA_664) rfl (by rw [en5]; rfl) dX11_recordPoint_5 ?_
  clear en5
  obtain ⟨g6, h⟩ := oif_some h
  obtain ⟨T7, eT7, h⟩ := obind_some h
  have hg2 := s_X8_copyFrom eT7
  have hrc2 := hg2.2.2 cp0.2.2
  have hT2 := s_X11_recordPoint_b11 _ _ _ _ h
  refine q_avv (As := [.ref (ad n5)]) (rest := []) E G hA hX hN hml (a_X8_copyFrom l hst D cI cJ cZ cMic cSrc cSt cAI cAJ ad T n3 n5 eT7 cp0.2.2 (by rw [cp0.1]; exact h_n3) (by rw [cp0.1]; exact h_n5)) (cwV 1 hts (gaV qA_911 qA_912 qA_913 qA_47 qA_603) rfl rfl rfl (by decide +kernel) ⟨Nat.le_of_ble_eq_true rfl, Nat.le_of_ble_eq_true rfl⟩) (oO_k g6).1 (cc_o8 (oO_k g6).2) rfl rfl hl.1 rfl (lv_room (Nat.le_of_ble_eq_true rfl)) dX11_recordPoint_8 (cs_av hgl cp0 hg2 hT2) (fun ad2 H locs hga G => ?_)
  refine w_cast (c2 := T7.1 - T.1) (s2 := sg T7 - sg T) (cs_f1 hgl cp0 hg2) (cs_f2 hgl cp0 hg2) ?_
  have hl := lv_sub hl [0, 1, 2] rfl
  rw [show ad o = ad2 o from (hga o (by rw [cp0.1]; exact h_o)).symm] at hl
  exact a_X11_recordPoint_b11 E hA hX hN hml hst (fun ad H locs ls had G => W.vret hx hb hr (fun t ht hW => ⟨⟨(T1, ad), rfl, ⟨rfl, had⟩, ⟨by rw [ht]; exact G.1, va_K.moved hW.alike hK, G.2.1⟩⟩, G.2.2.F ht⟩) G.2.2.2.2 dX11_recordPoint_28) _ _ _ _ _ _ _ _ h (GL.tr (gl_cpr hgl cp0) hg2) hrc2 (fun n hn => (hga n (by rw [cp0.1]; exact Nat.lt_of_lt_of_le hn hgl.1)).trans (had n hn)) (Nat.lt_of_lt_of_le (by rw [cp0.1]; exact h_o) hg2.1) G hl
def g_X11_trialBest_b15  (T : AT) (l0 : Nat) : Option (Int32 × AT) := oif (oO T l0 11 = true) <| obind (T.2.2.2.2 l0 5) fun n3 => oif (oO T n3 4 = true) <| elet (T.2.2.1 n3 2) fun v5 => some (v5, T)
def g_X11_trialBest (T : AT) (o : Nat) : Option (Int32 × AT) := oif (oO T o 11 = true) <| obind (T.2.2.2.2 o 5) fun n3 => oif (oO T o 11 = true) <| obind (T.2.2.2.2 o 14) fun n5 => oif (oO T o 11 = true) <| obind (T.2.2.2.2 o 7) fun n7 => oif (oO T n3 4 = true) <| obind (g_X4_measure T n3 n5 n7) fun T9 => g_X11_trialBest_b15 T9 o
set_option maxHeartbeats 4000000 in
set_option maxRecDepth 100000 in
theorem s_X11_trialBest_b15 {r1 : Int32} {T1 : AT} : ∀ (T : AT) (l0 : Nat), g_X11_trialBest_b15 T l0 = some (r1, T1) → GL T T1 := by
  intro T l0 h
  have p0 := GL.rf T
  unfold g_X11_trialBest_b15 at h
  obtain ⟨g2, h⟩ := oif_some h
  obtain ⟨n3, en3, h⟩ := obind_some h
  obtain ⟨g4, h⟩ := oif_some h
  obtain ⟨v5, -, h⟩ := elet_some h
  rw [← (osome2 h).2]
  exact p0
set_option maxHeartbeats 4000000 in
set_option maxRecDepth 100000 in
theorem s_X11_trialBest {T : AT} {o : Nat} {r1 : Int32} {T1 : AT} (h : g_X11_trialBest T o = some (r1, T1)) : GL T T1 := by
  have p0 := GL.rf T
  unfold g_X11_trialBest at h
  obtain ⟨g2, h⟩ := oif_some h
  obtain ⟨n3, en3, h⟩ := obind_some h
  obtain ⟨g4, h⟩ := oif_some h
  obtain ⟨n5, en5, h⟩ := obind_some h
  obtain ⟨g6, h⟩ := oif_some h
  obtain ⟨n7, en7, h⟩ := obind_some h
  obtain ⟨g8, h⟩ := oif_some h
  obtain ⟨T9, eT9, h⟩ := obind_some h
  have p1 : GL T T9 := GL.tr p0 (s_X4_measure eT9)
  exact GL.tr p1 (s_X11_trialBest_b15 _ _ h)
set_option maxHeartbeats 4000000 in
set_option maxRecDepth 100000 in
theorem a_X11_trialBest_b15 {p : Program} {l : Launch} {e : Env} {s : State} {m : MethodId} {args : Array Value} {below : List Frame} {meth : Method} {c : Code} {Q : State → Prop} {D : va_G} {A : Nat → Prop} {cI cJ cZ cMic cSrc cSt cAI cAJ : ClassId} {ad0 : Nat → Nat} {T0 : AT} {r1 : Int32} {T1 : AT} (E : cE p c cX11_trialBest s m args (Cond.code yX11_trialBest cX11_trialBest 1 (some .int) :: wsA) D RX11 (CT cI cJ cZ cMic cSrc cSt cAI cAJ)) (hA : ∀ q : Nat, s.heap.size ≤ q → A q) (hX : xT A s) (hN : nX s) (hml : c.maxLocals = 1) (hst : l.stackTraces = false) (kr22 : ∀ (ad : Nat → Nat) (H : Heap) (locs : List Loc) (ls : Array Slot), (∀ n, n < T0.1 → ad n = ad0 n) → gC cI cJ cZ cMic cSrc cSt cAI cAJ D ad A s.heap H locs T1 → W p l e { frames := 6, cells := T1.1 - T0.1, slots := sg T1 - sg T0, locals := 129 } s m args below meth c H locs (T1.1 - T0.1) (sg T1 - sg T0) Q (F0 m 22 ls [.int r1])) : ∀ (T : AT) (ad : Nat → Nat) (H : Heap) (locs : List Loc) (ls : Array Slot) (l0 : Nat), g_X11_trialBest_b15 T l0 = some (r1, T1) → GL T0 T → RC T → (∀ n, n < T0.1 → ad n = ad0 n) → l0 < T.1 → gC cI cJ cZ cMic cSrc cSt cAI cAJ D ad A s.heap H locs T → lv_has ls 1 [(0, .ref (ad l0))] → W p l e { frames := 6, cells := T1.1 - T0.1, slots := sg T1 - sg T0, locals := 129 } s m args below meth c H locs (T.1 - T0.1) (sg T - sg T0) Q (F0 m 15 ls []) := by
  have hx := E.1
  have hb := E.2.1
  have hts := E.2.2.1
  have hown := E.2.2.2.1
  have hK := E.2.2.2.2
  intro T ad H locs ls l0 h hgl hrc had h_l0 G hl
  have hT1 := s_X11_trialBest_b15 _ _ h
  have hcs := cs_ok hgl hT1
  have cp0 := cpr0 hrc
  unfold g_X11_trialBest_b15 at h
  refine lv_aload_n hx hb dX11_trialBest_15 rfl (lv_at hl 0 rfl) ?_
  obtain ⟨g2, h⟩ := oif_some h
  obtain ⟨n3, en3, h⟩ := obind_some h
  have h_n3 : n3 < T.1 := by rw [← cp0.1]; exact cp0.2.2 _ _ _ en3
  refine c_get E G l0 5 (v := .ref (ad n3)) (oO_k g2).1 (cc_o11 (oO_k g2).2) rfl (fun w h => .tail _ (iA_23 h)) (by decide) (.tail _ qA_661) rfl (by rw [en3]; rfl) dX11_trialBest_16 ?_
  clear en3
  obtain ⟨g4, h⟩ := oif_some h
  refine c_get E G n3 2 (oO_k g4).1 (cc_o4 (oO_k g4).2) rfl (fun w h => .tail _ (iA_21 h)) (by decide) (.tail _ qA_812) rfl rfl dX11_trialBest_19 ?_
  refine lv_topi (fun v5 ev5 => ?_)
  have h := elet_at ev5 h
  clear ev5
  rw [(osome2 h).2] at G
  refine w_cast (c2 := T1.1 - T0.1) (s2 := sg T1 - sg T0) (by rw [← (osome2 h).2, cp0.1] <;> rfl) (by rw [← (osome2 h).2, sg_cpr cp0] <;> rfl) ?_
  refine lv_to ((osome2 h).1) ?_
  exact kr22 ad _ _ _ had G
set_option maxHeartbeats 4000000 in
set_option maxRecDepth 100000 in
theorem a_X11_trialBest (l : Launch) (hst : l.stackTraces = false) (D : va_G) (cI cJ cZ cMic cSrc cSt cAI cAJ : ClassId) (ad : Nat → Nat) (T : AT) (o : Nat) {r1 : Int32} {T1 : AT} (h : g_X11_trialBest T o = some (r1, T1)) (hrc : RC T) (h_o : o < T.1) : kAi l yX11_trialBest (Cond.code yX11_trialBest cX11_trialBest 1 (some .int) :: wsA) 6 129 cI cJ cZ cMic cSrc cSt cAI cAJ D ad T [.ref (ad o)] r1 T1 := by
  intro sz
  refine Met.ofW (cc := cX11_trialBest) (maxL := 1) (ret := (some .int)) (by decide) rfl ?_
  intro p e s m args below meth c s₁ B hml hv
  obtain ⟨rfl, hsz, hP, hK, hD0, hX, hN⟩ := hv
  have hx := B.exec
  have hb := B.bytes
  have hr := B.returns
  have hts := atoms_spec (ws := (Cond.code yX11_trialBest cX11_trialBest 1 (some .int) :: wsA)) B.pre
  have hown : s.vm.findClass RX11 = some m.cls := findClass_of_methodNamed B.named
  have hlocks := B.notSynchronized
  subst hsz
  have hD := hD0.self (sz := s.heap.size)
  generalize hAe : va_A (cW ad T.1 (cc cI cJ cZ cMic cSrc cSt cAI cAJ ad T)) s.heap.size = A at hD hX ⊢
  have hA : ∀ q : Nat, s.heap.size ≤ q → A q := fun q h => by rw [← hAe]; exact Or.inr h
  have G : gC cI cJ cZ cMic cSrc cSt cAI cAJ D ad A s.heap s.heap [] T := ⟨hP, hD, va_S.rf⟩
  have E : cE p c cX11_trialBest s m ([.ref (ad o)] : List Value).toArray (Cond.code yX11_trialBest cX11_trialBest 1 (some .int) :: wsA) D RX11 (CT cI cJ cZ cMic cSrc cSt cAI cAJ) := ⟨hx, hb, hts, hown, hK⟩
  have hl := lv_entry ([.ref (ad o)]) (n := 1) (Nat.le_of_ble_eq_true rfl)
  rw [lg_entry_eq]
  generalize (lg_sl ([.ref (ad o)]) ++ List.replicate (1 - (lg_sl ([.ref (ad o)])).length) Slot.unset).toArray = ls at hl ⊢
  have hl : lv_has ls 1 [(0, .ref (ad o))] := hl
  have hgl := GL.rf T
  have had : ∀ n, n < T.1 → ad n = ad n := fun _ _ => rfl
  have hT1 := s_X11_trialBest h
  have hcs := cs_ok hgl hT1
  refine w_cast (Nat.sub_self T.1).symm (Nat.sub_self (sg T)).symm ?_
  have cp0 := cpr0 hrc
  unfold g_X11_trialBest at h
  refine lv_aload_n hx hb dX11_trialBest_0 rfl (lv_at hl 0 rfl) ?_
  obtain ⟨g2, h⟩ := oif_some h
  obtain ⟨n3, en3, h⟩ := obind_some h
  have h_n3 : n3 < T.1 := by rw [← cp0.1]; exact cp0.2.2 _ _ _ en3
  refine c_get E G o 5 (v := .ref (ad n3)) (oO_k g2).1 (cc_o11 (oO_k g2).2) rfl (fun w h => .tail _ (iA_23 h)) (by decide) (.tail _ qA_661) rfl (by rw [en3]; rfl) dX11_trialBest_1 ?_
  clear en3
  refine lv_aload_n hx hb dX11_trialBest_4 rfl (lv_at hl 0 rfl) ?_
  obtain ⟨g4, h⟩ := oif_some h
  obtain ⟨n5, en5, h⟩ := obind_some h
  have h_n5 : n5 < T.1 := by rw [← cp0.1]; exact cp0.2.2 _ _ _ en5
  refine c_get E G o 14 (v := .ref (ad n5)) (oO_k g4).1 (cc_o11 (oO_k g4).2) rfl (fun w h => .tail _ (iA_23 h)) (by decide) (.tail _ qA_675) rfl (by rw [en5]; rfl) dX11_trialBest_5 ?_
  clear en5
  refine lv_aload_n hx hb dX11_trialBest_8 rfl (lv_at hl 0 rfl) ?_
  obtain ⟨g6, h⟩ := oif_some h
  obtain ⟨n7, en7, h⟩ := obind_some h
  have h_n7 : n7 < T.1 := by rw [← cp0.1]; exact cp0.2.2 _ _ _ en7
  refine c_get E G o 7 (v := .ref (ad n7)) (oO_k g6).1 (cc_o11 (oO_k g6).2) rfl (fun w h => .tail _ (iA_23 h)) (by decide) (.tail _ qA_665) rfl (by rw [en7]; rfl) dX11_trialBest_9 ?_
  clear en7
  obtain ⟨g8, h⟩ := oif_some h
  obtain ⟨T9, eT9, h⟩ := obind_some h
  have hg2 := s_X4_measure eT9
  have hrc2 := hg2.2.2 cp0.2.2
  have hT2 := s_X11_trialBest_b15 _ _ h
  refine q_avv (As := [.ref (ad n5), .ref (ad n7)]) (rest := []) E G hA hX hN hml (a_X4_measure l hst D cI cJ cZ cMic cSrc cSt cAI cAJ ad T n3 n5 n7 eT9 cp0.2.2 (by rw [cp0.1]; exact h_n3) (by rw [cp0.1]; exact h_n5) (by rw [cp0.1]; exact h_n7)) (cwV 2 hts (gaV qA_803 qA_804 qA_805 qA_426 qA_412) rfl rfl rfl (by decide +kernel) ⟨Nat.le_of_ble_eq_true rfl, Nat.le_of_ble_eq_true rfl⟩) (oO_k g8).1 (cc_o4 (oO_k g8).2) rfl rfl hl.1 rfl (lv_room (Nat.le_of_ble_eq_true rfl)) dX11_trialBest_12 (cs_av hgl cp0 hg2 hT2) (fun ad2 H locs hga G => ?_)
  refine w_cast (c2 := T9.1 - T.1) (s2 := sg T9 - sg T) (cs_f1 hgl cp0 hg2) (cs_f2 hgl cp0 hg2) ?_
  have hl := lv_sub hl [0] rfl
  rw [show ad o = ad2 o from (hga o (by rw [cp0.1]; exact h_o)).symm] at hl
  exact a_X11_trialBest_b15 E hA hX hN hml hst (fun ad H locs ls had G => W.iret (v := r1) hx hb hr (fun t ht hW => ⟨⟨r1, (T1, ad), rfl, ⟨rfl, rfl, had⟩, ⟨by rw [ht]; exact G.1, va_K.moved hW.alike hK, G.2.1⟩⟩, G.2.2.F ht⟩) G.2.2.2.2 dX11_trialBest_22) _ _ _ _ _ _ h (GL.tr (gl_cpr hgl cp0) hg2) hrc2 (fun n hn => (hga n (by rw [cp0.1]; exact Nat.lt_of_lt_of_le hn hgl.1)).trans (had n hn)) (Nat.lt_of_lt_of_le (by rw [cp0.1]; exact h_o) hg2.1) G hl
def g_X11_pointBest_b26  (T : AT) (s0 : Int32) : Option (Nat × Int32 × AT) := some (0, s0, T)
def g_X11_pointBest_b22  (T : AT) (l0 : Nat) : Option (Nat × Int32 × AT) := oif (oO T l0 11 = true) <| obind2 (g_X11_trialBest T l0) fun r4 T3 => g_X11_pointBest_b26 T3 r4
def g_X11_pointBest (T : AT) (o : Nat) (a0 : Int32) (a1 : Int32) : Option (Nat × Int32 × AT) := oif (oO T o 11 = true) <| othr (g_X11_needCamera T o) 0 fun r5 T3 => oif (oO T3 o 11 = true) <| othr (g_X11_needCell T3 o a0) 0 fun r10 T8 => othr (g_X11_needRange T8 a1 (2 : Int32) (99 : Int32)) 0 fun r14 T12 => oif (oO T12 o 11 = true) <| obind (g_X11_recordPoint T12 o a0 a1) fun T17 => g_X11_pointBest_b22 T17 o
set_option maxHeartbeats 4000000 in
set_option maxRecDepth 100000 in
theorem s_X11_pointBest_b26 {e1 : Nat} {r1 : Int32} {T1 : AT} : ∀ (T : AT) (s0 : Int32), g_X11_pointBest_b26 T s0 = some (e1, r1, T1) → GL T T1 := by
  intro T s0 h
  have p0 := GL.rf T
  unfold g_X11_pointBest_b26 at h
  rw [← (osome3 h).2.2]
  exact p0
set_option maxHeartbeats 4000000 in
set_option maxRecDepth 100000 in
theorem s_X11_pointBest_b22 {e1 : Nat} {r1 : Int32} {T1 : AT} : ∀ (T : AT) (l0 : Nat), g_X11_pointBest_b22 T l0 = some (e1, r1, T1) → GL T T1 := by
  intro T l0 h
  have p0 := GL.rf T
  unfold g_X11_pointBest_b22 at h
  obtain ⟨g2, h⟩ := oif_some h
  obtain ⟨r4, T3, eT3, h⟩ := obind2_some h
  have p1 : GL T T3 := GL.tr p0 (s_X11_trialBest eT3)
  exact GL.tr p1 (s_X11_pointBest_b26 _ _ h)
set_option maxHeartbeats 4000000 in
set_option maxRecDepth 100000 in
theorem s_X11_pointBest {T : AT} {o : Nat} {a0 : Int32} {a1 : Int32} {e1 : Nat} {r1 : Int32} {T1 : AT} (h : g_X11_pointBest T o a0 a1 = some (e1, r1, T1)) : GL T T1 := by
  have p0 := GL.rf T
  unfold g_X11_pointBest at h
  obtain ⟨g2, h⟩ := oif_some h
  rcases othr_s h with ⟨k9, r9, e9, -⟩ | ⟨r4, T3, eT3, h⟩
  · exact GL.tr p0 (gl_sp (s_X11_needCamera e9))
  have p1 : GL T T3 := GL.tr p0 (gl_sp (s_X11_needCamera eT3))
  obtain ⟨g5, h⟩ := oif_some h
  rcases othr_s h with ⟨k9, r9, e9, -⟩ | ⟨r7, T6, eT6, h⟩
  · exact GL.tr p1 (gl_sp (s_X11_needCell e9))
  have p2 : GL T T6 := GL.tr p1 (gl_sp (s_X11_needCell eT6))
  rcases othr_s h with ⟨k9, r9, e9, -⟩ | ⟨r9, T8, eT8, h⟩
  · exact GL.tr p2 (gl_sp (s_X11_needRange e9))
  have p3 : GL T T8 := GL.tr p2 (gl_sp (s_X11_needRange eT8))
  obtain ⟨g10, h⟩ := oif_some h
  obtain ⟨T11, eT11, h⟩ := obind_some h
  have p4 : GL T T11 := GL.tr p3 (s_X11_recordPoint eT11)
  exact GL.tr p4 (s_X11_pointBest_b22 _ _ h)
set_option maxHeartbeats 4000000 in
set_option maxRecDepth 100000 in
theorem a_X11_pointBest_b26 {p : Program} {l : Launch} {e : Env} {s : State} {m : MethodId} {args : Array Value} {below : List Frame} {meth : Method} {c : Code} {Q : State → Prop} {D : va_G} {A : Nat → Prop} {cI cJ cZ cMic cSrc cSt cAI cAJ : ClassId} {ad0 : Nat → Nat} {T0 : AT} {r1 : Int32} {T1 : AT} (E : cE p c cX11_pointBest s m args (Cond.code yX11_pointBest cX11_pointBest 3 (some .int) :: wsA) D RX11 (CT cI cJ cZ cMic cSrc cSt cAI cAJ)) (hA : ∀ q : Nat, s.heap.size ≤ q → A q) (hX : xT A s) (hN : nX s) (hml : c.maxLocals = 3) (hst : l.stackTraces = false) (kr26 : ∀ (ad : Nat → Nat) (H : Heap) (locs : List Loc) (ls : Array Slot), (∀ n, n < T0.1 → ad n = ad0 n) → gC cI cJ cZ cMic cSrc cSt cAI cAJ D ad A s.heap H locs T1 → W p l e { frames := 8, cells := T1.1 - T0.1, slots := sg T1 - sg T0, locals := 149 } s m args below meth c H locs (T1.1 - T0.1) (sg T1 - sg T0) Q (F0 m 26 ls [.int r1])) : ∀ (T : AT) (ad : Nat → Nat) (H : Heap) (locs : List Loc) (ls : Array Slot) (s0 : Int32), g_X11_pointBest_b26 T s0 = some (0, r1, T1) → GL T0 T → RC T → (∀ n, n < T0.1 → ad n = ad0 n) → gC cI cJ cZ cMic cSrc cSt cAI cAJ D ad A s.heap H locs T → lv_has ls 3 [] → W p l e { frames := 8, cells := T1.1 - T0.1, slots := sg T1 - sg T0, locals := 149 } s m args below meth c H locs (T.1 - T0.1) (sg T - sg T0) Q (F0 m 26 ls [.int s0]) := by
  have hx := E.1
  have hb := E.2.1
  have hts := E.2.2.1
  have hown := E.2.2.2.1
  have hK := E.2.2.2.2
  intro T ad H locs ls s0 h hgl hrc had G hl
  have hT1 := s_X11_pointBest_b26 _ _ h
  have hcs := cs_ok hgl hT1
  have cp0 := cpr0 hrc
  unfold g_X11_pointBest_b26 at h
  rw [(osome3 h).2.2] at G
  refine w_cast (c2 := T1.1 - T0.1) (s2 := sg T1 - sg T0) (by rw [← (osome3 h).2.2, cp0.1] <;> rfl) (by rw [← (osome3 h).2.2, sg_cpr cp0] <;> rfl) ?_
  refine lv_to ((osome3 h).2.1) ?_
  exact kr26 ad _ _ _ had G
set_option maxHeartbeats 4000000 in
set_option maxRecDepth 100000 in
theorem a_X11_pointBest_b22 {p : Program} {l : Launch} {e : Env} {s : State} {m : MethodId} {args : Array Value} {below : List Frame} {meth : Method} {c : Code} {Q : State → Prop} {D : va_G} {A : Nat → Prop} {cI cJ cZ cMic cSrc cSt cAI cAJ : ClassId} {ad0 : Nat → Nat} {T0 : AT} {r1 : Int32} {T1 : AT} (E : cE p c cX11_pointBest s m args (Cond.code yX11_pointBest cX11_pointBest 3 (some .int) :: wsA) D RX11 (CT cI cJ cZ cMic cSrc cSt cAI cAJ)) (hA : ∀ q : Nat, s.heap.size ≤ q → A q) (hX : xT A s) (hN : nX s) (hml : c.maxLocals = 3) (hst : l.stackTraces = false) (kr26 : ∀ (ad : Nat → Nat) (H : Heap) (locs : List Loc) (ls : Array Slot), (∀ n, n < T0.1 → ad n = ad0 n) → gC cI cJ cZ cMic cSrc cSt cAI cAJ D ad A s.heap H locs T1 → W p l e { frames := 8, cells := T1.1 - T0.1, slots := sg T1 - sg T0, locals := 149 } s m args below meth c H locs (T1.1 - T0.1) (sg T1 - sg T0) Q (F0 m 26 ls [.int r1])) : ∀ (T : AT) (ad : Nat → Nat) (H : Heap) (locs : List Loc) (ls : Array Slot) (l0 : Nat), g_X11_pointBest_b22 T l0 = some (0, r1, T1) → GL T0 T → RC T → (∀ n, n < T0.1 → ad n = ad0 n) → l0 < T.1 → gC cI cJ cZ cMic cSrc cSt cAI cAJ D ad A s.heap H locs T → lv_has ls 3 [(0, .ref (ad l0))] → W p l e { frames := 8, cells := T1.1 - T0.1, slots := sg T1 - sg T0, locals := 149 } s m args below meth c H locs (T.1 - T0.1) (sg T - sg T0) Q (F0 m 22 ls []) := by
  have hx := E.1
  have hb := E.2.1
  have hts := E.2.2.1
  have hown := E.2.2.2.1
  have hK := E.2.2.2.2
  intro T ad H locs ls l0 h hgl hrc had h_l0 G hl
  have hT1 := s_X11_pointBest_b22 _ _ h
  have hcs := cs_ok hgl hT1
  have cp0 := cpr0 hrc
  unfold g_X11_pointBest_b22 at h
  refine lv_aload_n hx hb dX11_pointBest_22 rfl (lv_at hl 0 rfl) ?_
  obtain ⟨g2, h⟩ := oif_some h
  obtain ⟨r4, T3, eT3, h⟩ := obind2_some h
  have hg2 := s_X11_trialBest eT3
  have hrc2 := hg2.2.2 cp0.2.2
  have hT2 := s_X11_pointBest_b26 _ _ h
  refine q_avi (As := []) (rest := []) E G hA hX hN hml (a_X11_trialBest l hst D cI cJ cZ cMic cSrc cSt cAI cAJ ad T l0 eT3 cp0.2.2 (by rw [cp0.1]; exact h_l0)) (cwV 0 hts (gaV qA_917 qA_918 qA_919 qA_131 qA_920) rfl rfl rfl (by decide +kernel) ⟨Nat.le_of_ble_eq_true rfl, Nat.le_of_ble_eq_true rfl⟩) (oO_k g2).1 (cc_o11 (oO_k g2).2) rfl rfl hl.1 rfl (lv_room (Nat.le_of_ble_eq_true rfl)) dX11_pointBest_23 (cs_av hgl cp0 hg2 hT2) (fun ad2 H locs hga G => ?_)
  refine w_cast (c2 := T3.1 - T0.1) (s2 := sg T3 - sg T0) (cs_f1 hgl cp0 hg2) (cs_f2 hgl cp0 hg2) ?_
  have hl := lv_sub hl [] rfl
  exact a_X11_pointBest_b26 E hA hX hN hml hst kr26 _ _ _ _ _ _ h (GL.tr (gl_cpr hgl cp0) hg2) hrc2 (fun n hn => (hga n (by rw [cp0.1]; exact Nat.lt_of_lt_of_le hn hgl.1)).trans (had n hn)) G hl
set_option maxHeartbeats 4000000 in
set_option maxRecDepth 100000 in
theorem a_X11_pointBest (l : Launch) (hst : l.stackTraces = false) (D : va_G) (cI cJ cZ cMic cSrc cSt cAI cAJ : ClassId) (ad : Nat → Nat) (T : AT) (o : Nat) (a0 : Int32) (a1 : Int32) {r1 : Int32} {T1 : AT} (h : g_X11_pointBest T o a0 a1 = some (0, r1, T1)) (hrc : RC T) (h_o : o < T.1) : kAi l yX11_pointBest (Cond.code yX11_pointBest cX11_pointBest 3 (some .int) :: wsA) 8 149 cI cJ cZ cMic cSrc cSt cAI cAJ D ad T [.ref (ad o), .int a0, .int a1] r1 T1 := by
  intro sz
  refine Met.ofW (cc := cX11_pointBest) (maxL := 3) (ret := (some .int)) (by decide) rfl ?_
  intro p e s m args below meth c s₁ B hml hv
  obtain ⟨rfl, hsz, hP, hK, hD0, hX, hN⟩ := hv
  have hx := B.exec
  have hb := B.bytes
  have hr := B.returns
  have hts := atoms_spec (ws := (Cond.code yX11_pointBest cX11_pointBest 3 (some .int) :: wsA)) B.pre
  have hown : s.vm.findClass RX11 = some m.cls := findClass_of_methodNamed B.named
  have hlocks := B.notSynchronized
  subst hsz
  have hD := hD0.self (sz := s.heap.size)
  generalize hAe : va_A (cW ad T.1 (cc cI cJ cZ cMic cSrc cSt cAI cAJ ad T)) s.heap.size = A at hD hX ⊢
  have hA : ∀ q : Nat, s.heap.size ≤ q → A q := fun q h => by rw [← hAe]; exact Or.inr h
  have G : gC cI cJ cZ cMic cSrc cSt cAI cAJ D ad A s.heap s.heap [] T := ⟨hP, hD, va_S.rf⟩
  have E : cE p c cX11_pointBest s m ([.ref (ad o), .int a0, .int a1] : List Value).toArray (Cond.code yX11_pointBest cX11_pointBest 3 (some .int) :: wsA) D RX11 (CT cI cJ cZ cMic cSrc cSt cAI cAJ) := ⟨hx, hb, hts, hown, hK⟩
  have hl := lv_entry ([.ref (ad o), .int a0, .int a1]) (n := 3) (Nat.le_of_ble_eq_true rfl)
  rw [lg_entry_eq]
  generalize (lg_sl ([.ref (ad o), .int a0, .int a1]) ++ List.replicate (3 - (lg_sl ([.ref (ad o), .int a0, .int a1])).length) Slot.unset).toArray = ls at hl ⊢
  have hl : lv_has ls 3 [(0, .ref (ad o)), (1, .int a0), (2, .int a1)] := hl
  have hgl := GL.rf T
  have had : ∀ n, n < T.1 → ad n = ad n := fun _ _ => rfl
  have hT1 := s_X11_pointBest h
  have hcs := cs_ok hgl hT1
  refine w_cast (Nat.sub_self T.1).symm (Nat.sub_self (sg T)).symm ?_
  have cp0 := cpr0 hrc
  unfold g_X11_pointBest at h
  refine lv_aload_n hx hb dX11_pointBest_0 rfl (lv_at hl 0 rfl) ?_
  obtain ⟨g2, h⟩ := oif_some h
  obtain ⟨r5, T3, eT3, h⟩ := othr_n h
  refine q_cvv (As := []) (rest := []) E G hA hX hN hml (u_X11_needCamera l hst D cI cJ cZ cMic cSrc cSt cAI cAJ ad T o eT3) (cwV 0 hts (gaV qA_728 qA_729 qA_730 qA_131 qA_731) rfl rfl rfl (by decide +kernel) ⟨Nat.le_of_ble_eq_true rfl, Nat.le_of_ble_eq_true rfl⟩) (oO_k g2).1 (cc_o11 (oO_k g2).2) rfl rfl hl.1 rfl (lv_room (Nat.le_of_ble_eq_true rfl)) dX11_pointBest_1 hcs (fun T4 H locs hq G => ?_)
  rw [hq] at G
  clear hq
  have cp1 := cpr_sp cp0 (s_X11_needCamera eT3)
  refine lv_aload_n hx hb dX11_pointBest_4 rfl (lv_at hl 0 rfl) ?_
  refine lv_iload_n hx hb dX11_pointBest_5 rfl (lv_at hl 1 rfl) ?_
  obtain ⟨g7, h⟩ := oif_some h
  obtain ⟨r10, T8, eT8, h⟩ := othr_n h
  refine q_cvv (As := [.int a0]) (rest := []) E G hA hX hN hml (u_X11_needCell l hst D cI cJ cZ cMic cSrc cSt cAI cAJ ad T3 o a0 eT8) (cwV 1 hts (gaV qA_752 qA_753 qA_754 qA_131 qA_755) rfl rfl rfl (by decide +kernel) ⟨Nat.le_of_ble_eq_true rfl, Nat.le_of_ble_eq_true rfl⟩) (oO_k g7).1 (cc_o11 (oO_k g7).2) rfl rfl hl.1 rfl (lv_room (Nat.le_of_ble_eq_true rfl)) dX11_pointBest_6 hcs (fun T9 H locs hq G => ?_)
  rw [hq] at G
  clear hq
  have cp2 := cpr_sp cp1 (s_X11_needCell eT8)
  refine lv_iload_n hx hb dX11_pointBest_9 rfl (lv_at hl 2 rfl) ?_
  refine lv_iconst (v := 2) hx hb dX11_pointBest_10 (by decide) ?_
  refine lv_bipush (v := 99) hx hb dX11_pointBest_11 (by decide) ?_
  obtain ⟨r14, T12, eT12, h⟩ := othr_n h
  refine q_csv (As := [.int a1, .int 2, .int 99]) (rest := []) E G hA hX hN hml (u_X11_needRange l hst D cI cJ cZ cMic cSrc cSt cAI cAJ ad T8 a1 (2 : Int32) (99 : Int32) eT12) (cwS 3 hts (gaS qA_741 qA_742 qA_131 qA_743) rfl rfl rfl (by decide +kernel) ⟨Nat.le_of_ble_eq_true rfl, Nat.le_of_ble_eq_true rfl⟩) rfl hl.1 rfl (lv_room (Nat.le_of_ble_eq_true rfl)) dX11_pointBest_13 hcs (fun T13 H locs hq G => ?_)
  rw [hq] at G
  clear hq
  have cp3 := cpr_sp cp2 (s_X11_needRange eT12)
  refine lv_aload_n hx hb dX11_pointBest_16 rfl (lv_at hl 0 rfl) ?_
  refine lv_iload_n hx hb dX11_pointBest_17 rfl (lv_at hl 1 rfl) ?_
  refine lv_iload_n hx hb dX11_pointBest_18 rfl (lv_at hl 2 rfl) ?_
  obtain ⟨g16, h⟩ := oif_some h
  obtain ⟨T17, eT17, h⟩ := obind_some h
  have hg2 := s_X11_recordPoint eT17
  have hrc2 := hg2.2.2 cp3.2.2
  have hT2 := s_X11_pointBest_b22 _ _ h
  refine q_avv (As := [.int a0, .int a1]) (rest := []) E G hA hX hN hml (a_X11_recordPoint l hst D cI cJ cZ cMic cSrc cSt cAI cAJ ad T12 o a0 a1 eT17 cp3.2.2 (by rw [cp3.1]; exact h_o)) (cwV 2 hts (gaV qA_907 qA_908 qA_909 qA_131 qA_910) rfl rfl rfl (by decide +kernel) ⟨Nat.le_of_ble_eq_true rfl, Nat.le_of_ble_eq_true rfl⟩) (oO_k g16).1 (cc_o11 (oO_k g16).2) rfl rfl hl.1 rfl (lv_room (Nat.le_of_ble_eq_true rfl)) dX11_pointBest_19 (cs_av hgl cp3 hg2 hT2) (fun ad2 H locs hga G => ?_)
  refine w_cast (c2 := T17.1 - T.1) (s2 := sg T17 - sg T) (cs_f1 hgl cp3 hg2) (cs_f2 hgl cp3 hg2) ?_
  have hl := lv_sub hl [0] rfl
  rw [show ad o = ad2 o from (hga o (by rw [cp3.1]; exact h_o)).symm] at hl
  exact a_X11_pointBest_b22 E hA hX hN hml hst (fun ad H locs ls had G => W.iret (v := r1) hx hb hr (fun t ht hW => ⟨⟨r1, (T1, ad), rfl, ⟨rfl, rfl, had⟩, ⟨by rw [ht]; exact G.1, va_K.moved hW.alike hK, G.2.1⟩⟩, G.2.2.F ht⟩) G.2.2.2.2 dX11_pointBest_26) _ _ _ _ _ _ h (GL.tr (gl_cpr hgl cp3) hg2) hrc2 (fun n hn => (hga n (by rw [cp3.1]; exact Nat.lt_of_lt_of_le hn hgl.1)).trans (had n hn)) (Nat.lt_of_lt_of_le (by rw [cp3.1]; exact h_o) hg2.1) G hl
set_option maxHeartbeats 4000000 in
set_option maxRecDepth 100000 in
theorem b_X11_pointBest_b26 {p : Program} {l : Launch} {e : Env} {s : State} {m : MethodId} {args : Array Value} {below : List Frame} {meth : Method} {c : Code} {Qc : Array Value → State → Outcome → State → Prop} {XC : String → State → State → Prop} {D : va_G} {A : Nat → Prop} {cI cJ cZ cMic cSrc cSt cAI cAJ : ClassId} {ad0 : Nat → Nat} {T0 : AT} {e1 : Nat} {r1 : Int32} {T1 : AT} (E : cE p c cX11_pointBest s m args (Cond.code yX11_pointBest cX11_pointBest 3 (some .int) :: wsA) D RX11 (CT cI cJ cZ cMic cSrc cSt cAI cAJ)) (hA : ∀ q : Nat, s.heap.size ≤ q → A q) (hX : xT A s) (hN : nX s) (hml : c.maxLocals = 3) (hst : l.stackTraces = false) (htab : ∀ x ∈ c.exceptionTable.toList, False) (hlocks : meth.locks = false) (kx : ∀ (ad : Nat → Nat) (H : Heap) (locs : List Loc) (t : State), (∀ n, n < T0.1 → ad n = ad0 n) → gC cI cJ cZ cMic cSrc cSt cAI cAJ D ad A s.heap H locs T1 → s.vm.Alike t.vm → H.size ≤ t.heap.size → (∀ q, q < H.size → t.heap[q]? = H[q]?) → XC (exn e1) s t) : ∀ (T : AT) (ad : Nat → Nat) (H : Heap) (locs : List Loc) (ls : Array Slot) (s0 : Int32), g_X11_pointBest_b26 T s0 = some (e1 + 1, r1, T1) → GL T0 T → RC T → (∀ n, n < T0.1 → ad n = ad0 n) → gC cI cJ cZ cMic cSrc cSt cAI cAJ D ad A s.heap H locs T → lv_has ls 3 [] → W p l e { frames := 8, cells := T1.1 - T0.1 + 1, slots := sg T1 - sg T0 + 6, locals := 149 } s m args below meth c H locs (T.1 - T0.1) (sg T - sg T0) (vx_MQ below Qc XC args s (T1.1 - T0.1 + 1) (sg T1 - sg T0 + 6) A) (F0 m 26 ls [.int s0]) := by
  have hx := E.1
  have hb := E.2.1
  have hts := E.2.2.1
  have hown := E.2.2.2.1
  have hK := E.2.2.2.2
  intro T ad H locs ls s0 h hgl hrc had G hl
  have hT1 := s_X11_pointBest_b26 _ _ h
  have hcs := cs_okx hgl hT1
  have hcx := cs_okx1 hgl hT1
  have cp0 := cpr0 hrc
  unfold g_X11_pointBest_b26 at h
  exact (Nat.succ_ne_zero _ (congrArg Prod.fst (Option.some.inj h)).symm).elim
set_option maxHeartbeats 4000000 in
set_option maxRecDepth 100000 in
theorem b_X11_pointBest_b22 {p : Program} {l : Launch} {e : Env} {s : State} {m : MethodId} {args : Array Value} {below : List Frame} {meth : Method} {c : Code} {Qc : Array Value → State → Outcome → State → Prop} {XC : String → State → State → Prop} {D : va_G} {A : Nat → Prop} {cI cJ cZ cMic cSrc cSt cAI cAJ : ClassId} {ad0 : Nat → Nat} {T0 : AT} {e1 : Nat} {r1 : Int32} {T1 : AT} (E : cE p c cX11_pointBest s m args (Cond.code yX11_pointBest cX11_pointBest 3 (some .int) :: wsA) D RX11 (CT cI cJ cZ cMic cSrc cSt cAI cAJ)) (hA : ∀ q : Nat, s.heap.size ≤ q → A q) (hX : xT A s) (hN : nX s) (hml : c.maxLocals = 3) (hst : l.stackTraces = false) (htab : ∀ x ∈ c.exceptionTable.toList, False) (hlocks : meth.locks = false) (kx : ∀ (ad : Nat → Nat) (H : Heap) (locs : List Loc) (t : State), (∀ n, n < T0.1 → ad n = ad0 n) → gC cI cJ cZ cMic cSrc cSt cAI cAJ D ad A s.heap H locs T1 → s.vm.Alike t.vm → H.size ≤ t.heap.size → (∀ q, q < H.size → t.heap[q]? = H[q]?) → XC (exn e1) s t) : ∀ (T : AT) (ad : Nat → Nat) (H : Heap) (locs : List Loc) (ls : Array Slot) (l0 : Nat), g_X11_pointBest_b22 T l0 = some (e1 + 1, r1, T1) → GL T0 T → RC T → (∀ n, n < T0.1 → ad n = ad0 n) → l0 < T.1 → gC cI cJ cZ cMic cSrc cSt cAI cAJ D ad A s.heap H locs T → lv_has ls 3 [(0, .ref (ad l0))] → W p l e { frames := 8, cells := T1.1 - T0.1 + 1, slots := sg T1 - sg T0 + 6, locals := 149 } s m args below meth c H locs (T.1 - T0.1) (sg T - sg T0) (vx_MQ below Qc XC args s (T1.1 - T0.1 + 1) (sg T1 - sg T0 + 6) A) (F0 m 22 ls []) := by
  have hx := E.1
  have hb := E.2.1
  have hts := E.2.2.1
  have hown := E.2.2.2.1
  have hK := E.2.2.2.2
  intro T ad H locs ls l0 h hgl hrc had h_l0 G hl
  have hT1 := s_X11_pointBest_b22 _ _ h
  have hcs := cs_okx hgl hT1
  have hcx := cs_okx1 hgl hT1
  have cp0 := cpr0 hrc
  unfold g_X11_pointBest_b22 at h
  refine lv_aload_n hx hb dX11_pointBest_22 rfl (lv_at hl 0 rfl) ?_
  obtain ⟨g2, h⟩ := oif_some h
  obtain ⟨r4, T3, eT3, h⟩ := obind2_some h
  have hg2 := s_X11_trialBest eT3
  have hrc2 := hg2.2.2 cp0.2.2
  have hT2 := s_X11_pointBest_b26 _ _ h
  refine q_avi (As := []) (rest := []) E G hA hX hN hml (a_X11_trialBest l hst D cI cJ cZ cMic cSrc cSt cAI cAJ ad T l0 eT3 cp0.2.2 (by rw [cp0.1]; exact h_l0)) (cwV 0 hts (gaV qA_917 qA_918 qA_919 qA_131 qA_920) rfl rfl rfl (by decide +kernel) ⟨Nat.le_of_ble_eq_true rfl, Nat.le_of_ble_eq_true rfl⟩) (oO_k g2).1 (cc_o11 (oO_k g2).2) rfl rfl hl.1 rfl (lv_room (Nat.le_of_ble_eq_true rfl)) dX11_pointBest_23 (cs_avx hgl cp0 hg2 hT2) (fun ad2 H locs hga G => ?_)
  refine w_cast (c2 := T3.1 - T0.1) (s2 := sg T3 - sg T0) (cs_f1 hgl cp0 hg2) (cs_f2 hgl cp0 hg2) ?_
  have hl := lv_sub hl [] rfl
  exact b_X11_pointBest_b26 E hA hX hN hml hst htab hlocks kx _ _ _ _ _ _ h (GL.tr (gl_cpr hgl cp0) hg2) hrc2 (fun n hn => (hga n (by rw [cp0.1]; exact Nat.lt_of_lt_of_le hn hgl.1)).trans (had n hn)) G hl
set_option maxHeartbeats 4000000 in
set_option maxRecDepth 100000 in
theorem b_X11_pointBest (l : Launch) (hst : l.stackTraces = false) (D : va_G) (cI cJ cZ cMic cSrc cSt cAI cAJ : ClassId) (ad : Nat → Nat) (T : AT) (o : Nat) (a0 : Int32) (a1 : Int32) {e1 : Nat} {r1 : Int32} {T1 : AT} (h : g_X11_pointBest T o a0 a1 = some (e1 + 1, r1, T1)) (hrc : RC T) (h_o : o < T.1) : kAXi l yX11_pointBest (Cond.code yX11_pointBest cX11_pointBest 3 (some .int) :: wsA) 8 149 cI cJ cZ cMic cSrc cSt cAI cAJ D ad T [.ref (ad o), .int a0, .int a1] e1 T1 := by
  intro sz
  refine vx_ofW (cc := cX11_pointBest) (maxL := 3) (ret := (some .int)) (by decide) rfl ?_
  intro p e s m args below meth c s₁ B hml htab hv
  obtain ⟨rfl, hsz, hP, hK, hD0, hX, hN⟩ := hv
  have hx := B.exec
  have hb := B.bytes
  have hr := B.returns
  have hts := atoms_spec (ws := (Cond.code yX11_pointBest cX11_pointBest 3 (some .int) :: wsA)) B.pre
  have hown : s.vm.findClass RX11 = some m.cls := findClass_of_methodNamed B.named
  have hlocks := B.notSynchronized
  subst hsz
  have hD := hD0.self (sz := s.heap.size)
  generalize hAe : va_A (cW ad T.1 (cc cI cJ cZ cMic cSrc cSt cAI cAJ ad T)) s.heap.size = A at hD hX ⊢
  have hA : ∀ q : Nat, s.heap.size ≤ q → A q := fun q h => by rw [← hAe]; exact Or.inr h
  have G : gC cI cJ cZ cMic cSrc cSt cAI cAJ D ad A s.heap s.heap [] T := ⟨hP, hD, va_S.rf⟩
  have E : cE p c cX11_pointBest s m ([.ref (ad o), .int a0, .int a1] : List Value).toArray (Cond.code yX11_pointBest cX11_pointBest 3 (some .int) :: wsA) D RX11 (CT cI cJ cZ cMic cSrc cSt cAI cAJ) := ⟨hx, hb, hts, hown, hK⟩
  have htab : ∀ x ∈ c.exceptionTable.toList, False := fun x hx => htab x hx
  have hl := lv_entry ([.ref (ad o), .int a0, .int a1]) (n := 3) (Nat.le_of_ble_eq_true rfl)
  rw [lg_entry_eq]
  generalize (lg_sl ([.ref (ad o), .int a0, .int a1]) ++ List.replicate (3 - (lg_sl ([.ref (ad o), .int a0, .int a1])).length) Slot.unset).toArray = ls at hl ⊢
  have hl : lv_has ls 3 [(0, .ref (ad o)), (1, .int a0), (2, .int a1)] := hl
  have hgl := GL.rf T
  have had : ∀ n, n < T.1 → ad n = ad n := fun _ _ => rfl
  have hT1 := s_X11_pointBest h
  have hcs := cs_okx hgl hT1
  have hcx := cs_okx1 hgl hT1
  refine w_cast (Nat.sub_self T.1).symm (Nat.sub_self (sg T)).symm ?_
  have cp0 := cpr0 hrc
  unfold g_X11_pointBest at h
  refine lv_aload_n hx hb dX11_pointBest_0 rfl (lv_at hl 0 rfl) ?_
  obtain ⟨g2, h⟩ := oif_some h
  rcases othr_t h with ⟨r0, eT3⟩ | ⟨r5, T3, eT3, h⟩
  · refine q_xvv (As := []) (rest := []) E G hA hX hN hml (x_X11_needCamera l hst D cI cJ cZ cMic cSrc cSt cAI cAJ ad T o eT3) (cwV 0 hts (gaV qA_728 qA_729 qA_730 qA_131 qA_731) rfl rfl rfl (by decide +kernel) ⟨Nat.le_of_ble_eq_true rfl, Nat.le_of_ble_eq_true rfl⟩) (oO_k g2).1 (cc_o11 (oO_k g2).2) rfl rfl hl.1 rfl (lv_room (Nat.le_of_ble_eq_true rfl)) dX11_pointBest_1 hcx (fun E9 ce q9 T9 H locs hp G hce hcv hcl => ?_)
    obtain ⟨hE, hT⟩ := hp
    subst hE
    rw [hT] at G
    exact vx_out (fun x hx => (htab x hx).elim) hlocks hce hcv hcl (fun t ht hvm => ⟨(T1, ad), trivial, ⟨⟨rfl, rfl, had⟩, by rw [ht]; exact G.1, va_K.moved hvm hK, G.2.1⟩, G.2.2.F ht⟩) G.2.2.2.2 hcx.1 hcx.2
  refine q_cvv (As := []) (rest := []) E G hA hX hN hml (u_X11_needCamera l hst D cI cJ cZ cMic cSrc cSt cAI cAJ ad T o eT3) (cwV 0 hts (gaV qA_728 qA_729 qA_730 qA_131 qA_731) rfl rfl rfl (by decide +kernel) ⟨Nat.le_of_ble_eq_true rfl, Nat.le_of_ble_eq_true rfl⟩) (oO_k g2).1 (cc_o11 (oO_k g2).2) rfl rfl hl.1 rfl (lv_room (Nat.le_of_ble_eq_true rfl)) dX11_pointBest_1 hcs (fun T4 H locs hq G => ?_)
  rw [hq] at G
  clear hq
  have cp1 := cpr_sp cp0 (s_X11_needCamera eT3)
  refine lv_aload_n hx hb dX11_pointBest_4 rfl (lv_at hl 0 rfl) ?_
  refine lv_iload_n hx hb dX11_pointBest_5 rfl (lv_at hl 1 rfl) ?_
  obtain ⟨g7, h⟩ := oif_some h
  rcases othr_t h with ⟨r0, eT8⟩ | ⟨r10, T8, eT8, h⟩
  · refine q_xvv (As := [.int a0]) (rest := []) E G hA hX hN hml (x_X11_needCell l hst D cI cJ cZ cMic cSrc cSt cAI cAJ ad T3 o a0 eT8) (cwV 1 hts (gaV qA_752 qA_753 qA_754 qA_131 qA_755) rfl rfl rfl (by decide +kernel) ⟨Nat.le_of_ble_eq_true rfl, Nat.le_of_ble_eq_true rfl⟩) (oO_k g7).1 (cc_o11 (oO_k g7).2) rfl rfl hl.1 rfl (lv_room (Nat.le_of_ble_eq_true rfl)) dX11_pointBest_6 hcx (fun E9 ce q9 T9 H locs hp G hce hcv hcl => ?_)
    obtain ⟨hE, hT⟩ := hp
    subst hE
    rw [hT] at G
    exact vx_out (fun x hx => (htab x hx).elim) hlocks hce hcv hcl (fun t ht hvm => ⟨(T1, ad), trivial, ⟨⟨rfl, rfl, had⟩, by rw [ht]; exact G.1, va_K.moved hvm hK, G.2.1⟩, G.2.2.F ht⟩) G.2.2.2.2 hcx.1 hcx.2
  refine q_cvv (As := [.int a0]) (rest := []) E G hA hX hN hml (u_X11_needCell l hst D cI cJ cZ cMic cSrc cSt cAI cAJ ad T3 o a0 eT8) (cwV 1 hts (gaV qA_752 qA_753 qA_754 qA_131 qA_755) rfl rfl rfl (by decide +kernel) ⟨Nat.le_of_ble_eq_true rfl, Nat.le_of_ble_eq_true rfl⟩) (oO_k g7).1 (cc_o11 (oO_k g7).2) rfl rfl hl.1 rfl (lv_room (Nat.le_of_ble_eq_true rfl)) dX11_pointBest_6 hcs (fun T9 H locs hq G => ?_)
  rw [hq] at G
  clear hq
  have cp2 := cpr_sp cp1 (s_X11_needCell eT8)
  refine lv_iload_n hx hb dX11_pointBest_9 rfl (lv_at hl 2 rfl) ?_
  refine lv_iconst (v := 2) hx hb dX11_pointBest_10 (by decide) ?_
  refine lv_bipush (v := 99) hx hb dX11_pointBest_11 (by decide) ?_
  rcases othr_t h with ⟨r0, eT12⟩ | ⟨r14, T12, eT12, h⟩
  · refine q_xsv (As := [.int a1, .int 2, .int 99]) (rest := []) E G hA hX hN hml (x_X11_needRange l hst D cI cJ cZ cMic cSrc cSt cAI cAJ ad T8 a1 (2 : Int32) (99 : Int32) eT12) (cwS 3 hts (gaS qA_741 qA_742 qA_131 qA_743) rfl rfl rfl (by decide +kernel) ⟨Nat.le_of_ble_eq_true rfl, Nat.le_of_ble_eq_true rfl⟩) rfl hl.1 rfl (lv_room (Nat.le_of_ble_eq_true rfl)) dX11_pointBest_13 hcx (fun E9 ce q9 T9 H locs hp G hce hcv hcl => ?_)
    obtain ⟨hE, hT⟩ := hp
    subst hE
    rw [hT] at G
    exact vx_out (fun x hx => (htab x hx).elim) hlocks hce hcv hcl (fun t ht hvm => ⟨(T1, ad), trivial, ⟨⟨rfl, rfl, had⟩, by rw [ht]; exact G.1, va_K.moved hvm hK, G.2.1⟩, G.2.2.F ht⟩) G.2.2.2.2 hcx.1 hcx.2
  refine q_csv (As := [.int a1, .int 2, .int 99]) (rest := []) E G hA hX hN hml (u_X11_needRange l hst D cI cJ cZ cMic cSrc cSt cAI cAJ ad T8 a1 (2 : Int32) (99 : Int32) eT12) (cwS 3 hts (gaS qA_741 qA_742 qA_131 qA_743) rfl rfl rfl (by decide +kernel) ⟨Nat.le_of_ble_eq_true rfl, Nat.le_of_ble_eq_true rfl⟩) rfl hl.1 rfl (lv_room (Nat.le_of_ble_eq_true rfl)) dX11_pointBest_13 hcs (fun T13 H locs hq G => ?_)
  rw [hq] at G
  clear hq
  have cp3 := cpr_sp cp2 (s_X11_needRange eT12)
  refine lv_aload_n hx hb dX11_pointBest_16 rfl (lv_at hl 0 rfl) ?_
  refine lv_iload_n hx hb dX11_pointBest_17 rfl (lv_at hl 1 rfl) ?_
  refine lv_iload_n hx hb dX11_pointBest_18 rfl (lv_at hl 2 rfl) ?_
  obtain ⟨g16, h⟩ := oif_some h
  obtain ⟨T17, eT17, h⟩ := obind_some h
  have hg2 := s_X11_recordPoint eT17
  have hrc2 := hg2.2.2 cp3.2.2
  have hT2 := s_X11_pointBest_b22 _ _ h
  refine q_avv (As := [.int a0, .int a1]) (rest := []) E G hA hX hN hml (a_X11_recordPoint l hst D cI cJ cZ cMic cSrc cSt cAI cAJ ad T12 o a0 a1 eT17 cp3.2.2 (by rw [cp3.1]; exact h_o)) (cwV 2 hts (gaV qA_907 qA_908 qA_909 qA_131 qA_910) rfl rfl rfl (by decide +kernel) ⟨Nat.le_of_ble_eq_true rfl, Nat.le_of_ble_eq_true rfl⟩) (oO_k g16).1 (cc_o11 (oO_k g16).2) rfl rfl hl.1 rfl (lv_room (Nat.le_of_ble_eq_true rfl)) dX11_pointBest_19 (cs_avx hgl cp3 hg2 hT2) (fun ad2 H locs hga G => ?_)
  refine w_cast (c2 := T17.1 - T.1) (s2 := sg T17 - sg T) (cs_f1 hgl cp3 hg2) (cs_f2 hgl cp3 hg2) ?_
  have hl := lv_sub hl [0] rfl
  rw [show ad o = ad2 o from (hga o (by rw [cp3.1]; exact h_o)).symm] at hl
  exact b_X11_pointBest_b22 E hA hX hN hml hst htab hlocks (fun ad H locs t had G hvm h1 h2 => ⟨(T1, ad), trivial, ⟨⟨rfl, rfl, had⟩, (c_thrown G hK hvm h1 h2).1⟩, (c_thrown G hK hvm h1 h2).2⟩) _ _ _ _ _ _ h (GL.tr (gl_cpr hgl cp3) hg2) hrc2 (fun n hn => (hga n (by rw [cp3.1]; exact Nat.lt_of_lt_of_le hn hgl.1)).trans (had n hn)) (Nat.lt_of_lt_of_le (by rw [cp3.1]; exact h_o) hg2.1) G hl
def g_X11_pointPower_b48  (T : AT) (l0 : Nat) : Option (Nat × Int64 × AT) := oif (oO T l0 11 = true) <| obind (T.2.2.2.2 l0 12) fun n3 => oif (oO T n3 10 = true) <| obind2 (g_X10_value T n3 (0 : Int32)) fun r7 T5 => some (0, r7, T5)
def g_X11_pointPower_b27  (T : AT) (l0 : Nat) (l2 : Int32) : Option (Nat × Int64 × AT) := oif (oO T l0 11 = true) <| obind (T.2.2.2.2 l0 7) fun n3 => oif (oO T l0 11 = true) <| obind (T.2.2.2.2 l0 14) fun n5 => oif (oO T n5 6 = true) <| obind (T.2.2.2.2 n5 17) fun n7 => oif (aA T n7 106 = true) <| oif (inb l2 (T.2.1 n7).2 = true) <| obind (T.2.2.2.2 n7 l2.toNatClampNeg) fun n10 => oif (oO T l0 11 = true) <| obind (T.2.2.2.2 l0 12) fun n12 => oif (oO T n3 8 = true) <| obind (g_X8_powerOf T n3 n10 n12 (0 : Int32)) fun T14 => g_X11_pointPower_b48 T14 l0
def g_X11_pointPower (T : AT) (o : Nat) (a0 : Int32) (a1 : Int32) (a2 : Int32) : Option (Nat × Int64 × AT) := oif (oO T o 11 = true) <| othr (g_X11_needCamera T o) 0 fun r5 T3 => oif (oO T3 o 11 = true) <| othr (g_X11_needCell T3 o a0) 0 fun r10 T8 => oif (oO T8 o 11 = true) <| othr (g_X11_needCell T8 o a1) 0 fun r15 T13 => othr (g_X11_needRange T13 a2 (2 : Int32) (99 : Int32)) 0 fun r19 T17 => oif (oO T17 o 11 = true) <| obind (g_X11_recordPoint T17 o a0 a2) fun T22 => g_X11_pointPower_b27 T22 o a1
set_option maxHeartbeats 4000000 in
set_option maxRecDepth 100000 in
theorem s_X11_pointPower_b48 {e1 : Nat} {r1 : Int64} {T1 : AT} : ∀ (T : AT) (l0 : Nat), g_X11_pointPower_b48 T l0 = some (e1, r1, T1) → GL T T1 := by
  intro T l0 h
  have p0 := GL.rf T
  unfold g_X11_pointPower_b48 at h
  obtain ⟨g2, h⟩ := oif_some h
  obtain ⟨n3, en3, h⟩ := obind_some h
  obtain ⟨g4, h⟩ := oif_some h
  obtain ⟨r6, T5, eT5, h⟩ := obind2_some h
  have p1 : GL T T5 := GL.tr p0 (gl_sp (s_X10_value eT5))
  rw [← (osome3 h).2.2]
  exact p1
set_option maxHeartbeats 4000000 in
set_option maxRecDepth 100000 in
theorem s_X11_pointPower_b27 {e1 : Nat} {r1 : Int64} {T1 : AT} : ∀ (T : AT) (l0 : Nat) (l2 : Int32), g_X11_pointPower_b27 T l0 l2 = some (e1, r1, T1) → GL T T1 := by
  intro T l0 l2 h
  have p0 := GL.rf T
  unfold g_X11_pointPower_b27 at h
  obtain ⟨g2, h⟩ := oif_some h
  obtain ⟨n3, en3, h⟩ := obind_some h
  obtain ⟨g4, h⟩ := oif_some h
  obtain ⟨n5, en5, h⟩ := obind_some h
  obtain ⟨g6, h⟩ := oif_some h
  obtain ⟨n7, en7, h⟩ := obind_some h
  obtain ⟨g8, h⟩ := oif_some h
  obtain ⟨g9, h⟩ := oif_some h
  obtain ⟨n10, en10, h⟩ := obind_some h
  obtain ⟨g11, h⟩ := oif_some h
  obtain ⟨n12, en12, h⟩ := obind_some h
  obtain ⟨g13, h⟩ := oif_some h
  obtain ⟨T14, eT14, h⟩ := obind_some h
  have p1 : GL T T14 := GL.tr p0 (s_X8_powerOf eT14)
  exact GL.tr p1 (s_X11_pointPower_b48 _ _ h)
set_option maxHeartbeats 4000000 in
set_option maxRecDepth 100000 in
theorem s_X11_pointPower {T : AT} {o : Nat} {a0 : Int32} {a1 : Int32} {a2 : Int32} {e1 : Nat} {r1 : Int64} {T1 : AT} (h : g_X11_pointPower T o a0 a1 a2 = some (e1, r1, T1)) : GL T T1 := by
  have p0 := GL.rf T
  unfold g_X11_pointPower at h
  obtain ⟨g2, h⟩ := oif_some h
  rcases othr_s h with ⟨k9, r9, e9, -⟩ | ⟨r4, T3, eT3, h⟩
  · exact GL.tr p0 (gl_sp (s_X11_needCamera e9))
  have p1 : GL T T3 := GL.tr p0 (gl_sp (s_X11_needCamera eT3))
  obtain ⟨g5, h⟩ := oif_some h
  rcases othr_s h with ⟨k9, r9, e9, -⟩ | ⟨r7, T6, eT6, h⟩
  · exact GL.tr p1 (gl_sp (s_X11_needCell e9))
  have p2 : GL T T6 := GL.tr p1 (gl_sp (s_X11_needCell eT6))
  obtain ⟨g8, h⟩ := oif_some h
  rcases othr_s h with ⟨k9, r9, e9, -⟩ | ⟨r10, T9, eT9, h⟩
  · exact GL.tr p2 (gl_sp (s_X11_needCell e9))
  have p3 : GL T T9 := GL.tr p2 (gl_sp (s_X11_needCell eT9))
  rcases othr_s h with ⟨k9, r9, e9, -⟩ | ⟨r12, T11, eT11, h⟩
  · exact GL.tr p3 (gl_sp (s_X11_needRange e9))
  have p4 : GL T T11 := GL.tr p3 (gl_sp (s_X11_needRange eT11))
  obtain ⟨g13, h⟩ := oif_some h
  obtain ⟨T14, eT14, h⟩ := obind_some h
  have p5 : GL T T14 := GL.tr p4 (s_X11_recordPoint eT14)
  exact GL.tr p5 (s_X11_pointPower_b27 _ _ _ h)
set_option maxHeartbeats 4000000 in
set_option maxRecDepth 100000 in
theorem a_X11_pointPower_b48 {p : Program} {l : Launch} {e : Env} {s : State} {m : MethodId} {args : Array Value} {below : List Frame} {meth : Method} {c : Code} {Q : State → Prop} {D : va_G} {A : Nat → Prop} {cI cJ cZ cMic cSrc cSt cAI cAJ : ClassId} {ad0 : Nat → Nat} {T0 : AT} {r1 : Int64} {T1 : AT} (E : cE p c cX11_pointPower s m args (Cond.code yX11_pointPower cX11_pointPower 4 (some .long) :: wsA) D RX11 (CT cI cJ cZ cMic cSrc cSt cAI cAJ)) (hA : ∀ q : Nat, s.heap.size ≤ q → A q) (hX : xT A s) (hN : nX s) (hml : c.maxLocals = 4) (hst : l.stackTraces = false) (kr56 : ∀ (ad : Nat → Nat) (H : Heap) (locs : List Loc) (ls : Array Slot), (∀ n, n < T0.1 → ad n = ad0 n) → gC cI cJ cZ cMic cSrc cSt cAI cAJ D ad A s.heap H locs T1 → W p l e { frames := 8, cells := T1.1 - T0.1, slots := sg T1 - sg T0, locals := 148 } s m args below meth c H locs (T1.1 - T0.1) (sg T1 - sg T0) Q (F0 m 56 ls [.long r1])) : ∀ (T : AT) (ad : Nat → Nat) (H : Heap) (locs : List Loc) (ls : Array Slot) (l0 : Nat), g_X11_pointPower_b48 T l0 = some (0, r1, T1) → GL T0 T → RC T → (∀ n, n < T0.1 → ad n = ad0 n) → l0 < T.1 → gC cI cJ cZ cMic cSrc cSt cAI cAJ D ad A s.heap H locs T → lv_has ls 4 [(0, .ref (ad l0))] → W p l e { frames := 8, cells := T1.1 - T0.1, slots := sg T1 - sg T0, locals := 148 } s m args below meth c H locs (T.1 - T0.1) (sg T - sg T0) Q (F0 m 48 ls []) := by
  have hx := E.1
  have hb := E.2.1
  have hts := E.2.2.1
  have hown := E.2.2.2.1
  have hK := E.2.2.2.2
  intro T ad H locs ls l0 h hgl hrc had h_l0 G hl
  have hT1 := s_X11_pointPower_b48 _ _ h
  have hcs := cs_ok hgl hT1
  have cp0 := cpr0 hrc
  unfold g_X11_pointPower_b48 at h
  refine lv_aload_n hx hb dX11_pointPower_48 rfl (lv_at hl 0 rfl) ?_
  obtain ⟨g2, h⟩ := oif_some h
  obtain ⟨n3, en3, h⟩ := obind_some h
  have h_n3 : n3 < T.1 := by rw [← cp0.1]; exact cp0.2.2 _ _ _ en3
  refine c_get E G l0 12 (v := .ref (ad n3)) (oO_k g2).1 (cc_o11 (oO_k g2).2) rfl (fun w h => .tail _ (iA_23 h)) (by decide) (.tail _ qA_671) rfl (by rw [en3]; rfl) dX11_pointPower_49 ?_
  clear en3
  refine lv_iconst (v := 0) hx hb dX11_pointPower_52 (by decide) ?_
  obtain ⟨g4, h⟩ := oif_some h
  obtain ⟨r7, T5, eT5, h⟩ := obind2_some h
  refine q_cvl (As := [.int 0]) (rest := []) E G hA hX hN hml (u_X10_value l hst D cI cJ cZ cMic cSrc cSt cAI cAJ ad T n3 (0 : Int32) eT5) (cwV 1 hts (gaV qA_791 qA_792 qA_793 qA_6 qA_633) rfl rfl rfl (by decide +kernel) ⟨Nat.le_of_ble_eq_true rfl, Nat.le_of_ble_eq_true rfl⟩) (oO_k g4).1 (cc_o10 (oO_k g4).2) rfl rfl hl.1 rfl (lv_room (Nat.le_of_ble_eq_true rfl)) dX11_pointPower_53 hcs (fun q8 T6 H locs hq G => ?_)
  obtain ⟨hq1, hq2⟩ := hq
  rw [hq2] at G
  refine lv_tol hq1 ?_
  clear hq1 hq2
  have cp1 := cpr_sp cp0 (s_X10_value eT5)
  rw [(osome3 h).2.2] at G
  refine w_cast (c2 := T1.1 - T0.1) (s2 := sg T1 - sg T0) (by rw [← (osome3 h).2.2, cp1.1] <;> rfl) (by rw [← (osome3 h).2.2, sg_cpr cp1] <;> rfl) ?_
  refine lv_tol ((osome3 h).2.1) ?_
  exact kr56 ad _ _ _ had G
set_option maxHeartbeats 4000000 in
set_option maxRecDepth 100000 in
theorem a_X11_pointPower_b27 {p : Program} {l : Launch} {e : Env} {s : State} {m : MethodId} {args : Array Value} {below : List Frame} {meth : Method} {c : Code} {Q : State → Prop} {D : va_G} {A : Nat → Prop} {cI cJ cZ cMic cSrc cSt cAI cAJ : ClassId} {ad0 : Nat → Nat} {T0 : AT} {r1 : Int64} {T1 : AT} (E : cE p c cX11_pointPower s m args (Cond.code yX11_pointPower cX11_pointPower 4 (some .long) :: wsA) D RX11 (CT cI cJ cZ cMic cSrc cSt cAI cAJ)) (hA : ∀ q : Nat, s.heap.size ≤ q → A q) (hX : xT A s) (hN : nX s) (hml : c.maxLocals = 4) (hst : l.stackTraces = false) (kr56 : ∀ (ad : Nat → Nat) (H : Heap) (locs : List Loc) (ls : Array Slot), (∀ n, n < T0.1 → ad n = ad0 n) → gC cI cJ cZ cMic cSrc cSt cAI cAJ D ad A s.heap H locs T1 → W p l e { frames := 8, cells := T1.1 - T0.1, slots := sg T1 - sg T0, locals := 148 } s m args below meth c H locs (T1.1 - T0.1) (sg T1 - sg T0) Q (F0 m 56 ls [.long r1])) : ∀ (T : AT) (ad : Nat → Nat) (H : Heap) (locs : List Loc) (ls : Array Slot) (l0 : Nat) (l2 : Int32), g_X11_pointPower_b27 T l0 l2 = some (0, r1, T1) → GL T0 T → RC T → (∀ n, n < T0.1 → ad n = ad0 n) → l0 < T.1 → gC cI cJ cZ cMic cSrc cSt cAI cAJ D ad A s.heap H locs T → lv_has ls 4 [(0, .ref (ad l0)), (2, .int l2)] → W p l e { frames := 8, cells := T1.1 - T0.1, slots := sg T1 - sg T0, locals := 148 } s m args below meth c H locs (T.1 - T0.1) (sg T - sg T0) Q (F0 m 27 ls []) := by
  have hx := E.1
  have hb := E.2.1
  have hts := E.2.2.1
  have hown := E.2.2.2.1
  have hK := E.2.2.2.2
  intro T ad H locs ls l0 l2 h hgl hrc had h_l0 G hl
  have hT1 := s_X11_pointPower_b27 _ _ _ h
  have hcs := cs_ok hgl hT1
  have cp0 := cpr0 hrc
  unfold g_X11_pointPower_b27 at h
  refine lv_aload_n hx hb dX11_pointPower_27 rfl (lv_at hl 0 rfl) ?_
  obtain ⟨g2, h⟩ := oif_some h
  obtain ⟨n3, en3, h⟩ := obind_some h
  have h_n3 : n3 < T.1 := by rw [← cp0.1]; exact cp0.2.2 _ _ _ en3
  refine c_get E G l0 7 (v := .ref (ad n3)) (oO_k g2).1 (cc_o11 (oO_k g2).2) rfl (fun w h => .tail _ (iA_23 h)) (by decide) (.tail _ qA_665) rfl (by rw [en3]; rfl) dX11_pointPower_28 ?_
  clear en3
  refine lv_aload_n hx hb dX11_pointPower_31 rfl (lv_at hl 0 rfl) ?_
  obtain ⟨g4, h⟩ := oif_some h
  obtain ⟨n5, en5, h⟩ := obind_some h
  have h_n5 : n5 < T.1 := by rw [← cp0.1]; exact cp0.2.2 _ _ _ en5
  refine c_get E G l0 14 (v := .ref (ad n5)) (oO_k g4).1 (cc_o11 (oO_k g4).2) rfl (fun w h => .tail _ (iA_23 h)) (by decide) (.tail _ qA_675) rfl (by rw [en5]; rfl) dX11_pointPower_32 ?_
  clear en5
  obtain ⟨g6, h⟩ := oif_some h
  obtain ⟨n7, en7, h⟩ := obind_some h
  have h_n7 : n7 < T.1 := by rw [← cp0.1]; exact cp0.2.2 _ _ _ en7
  refine c_get E G n5 17 (v := .ref (ad n7)) (oO_k g6).1 (cc_o6 (oO_k g6).2) rfl (fun w h => .tail _ (iA_14 h)) (by decide) (.tail _ qA_778) rfl (by rw [en7]; rfl) dX11_pointPower_35 ?_
  clear en7
  refine lv_iload_n hx hb dX11_pointPower_38 rfl (lv_at hl 1 rfl) ?_
  obtain ⟨g8, h⟩ := oif_some h
  obtain ⟨g9, h⟩ := oif_some h
  obtain ⟨n10, en10, h⟩ := obind_some h
  have h_n10 : n10 < T.1 := by rw [← cp0.1]; exact cp0.2.2 _ _ _ en10
  refine c_alda E G n7 6 (k := l2.toNatClampNeg) (v := .ref (ad n10)) (aA_k g8).1 (cc_a106 (aA_k g8).2.1) rfl (inb_k g9).1 (inb_k g9).2 (aA_k g8).2.2 (by show va_rf ((T.2.2.2.2 n7 l2.toNatClampNeg).map ad) = _; rw [en10]; rfl) dX11_pointPower_39 ?_
  clear en10
  refine lv_aload_n hx hb dX11_pointPower_40 rfl (lv_at hl 0 rfl) ?_
  obtain ⟨g11, h⟩ := oif_some h
  obtain ⟨n12, en12, h⟩ := obind_some h
  have h_n12 : n12 < T.1 := by rw [← cp0.1]; exact cp0.2.2 _ _ _ en12
  refine c_get E G l0 12 (v := .ref (ad n12)) (oO_k g11).1 (cc_o11 (oO_k g11).2) rfl (fun w h => .tail _ (iA_23 h)) (by decide) (.tail _ qA_671) rfl (by rw [en12]; rfl) dX11_pointPower_41 ?_
  clear en12
  refine lv_iconst (v := 0) hx hb dX11_pointPower_44 (by decide) ?_
  obtain ⟨g13, h⟩ := oif_some h
  obtain ⟨T14, eT14, h⟩ := obind_some h
  have hg2 := s_X8_powerOf eT14
  have hrc2 := hg2.2.2 cp0.2.2
  have hT2 := s_X11_pointPower_b48 _ _ h
  refine q_avv (As := [.ref (ad n10), .ref (ad n12), .int 0]) (rest := []) E G hA hX hN hml (a_X8_powerOf l hst D cI cJ cZ cMic cSrc cSt cAI cAJ ad T n3 n10 n12 (0 : Int32) eT14 cp0.2.2 (by rw [cp0.1]; exact h_n3) (by rw [cp0.1]; exact h_n10) (by rw [cp0.1]; exact h_n12)) (cwV 3 hts (gaV qA_808 qA_809 qA_810 qA_47 qA_617) rfl rfl rfl (by decide +kernel) ⟨Nat.le_of_ble_eq_true rfl, Nat.le_of_ble_eq_true rfl⟩) (oO_k g13).1 (cc_o8 (oO_k g13).2) rfl rfl hl.1 rfl (lv_room (Nat.le_of_ble_eq_true rfl)) dX11_pointPower_45 (cs_av hgl cp0 hg2 hT2) (fun ad2 H locs hga G => ?_)
  refine w_cast (c2 := T14.1 - T0.1) (s2 := sg T14 - sg T0) (cs_f1 hgl cp0 hg2) (cs_f2 hgl cp0 hg2) ?_
  have hl := lv_sub hl [0] rfl
  rw [show ad l0 = ad2 l0 from (hga l0 (by rw [cp0.1]; exact h_l0)).symm] at hl
  exact a_X11_pointPower_b48 E hA hX hN hml hst kr56 _ _ _ _ _ _ h (GL.tr (gl_cpr hgl cp0) hg2) hrc2 (fun n hn => (hga n (by rw [cp0.1]; exact Nat.lt_of_lt_of_le hn hgl.1)).trans (had n hn)) (Nat.lt_of_lt_of_le (by rw [cp0.1]; exact h_l0) hg2.1) G hl
set_option maxHeartbeats 4000000 in
set_option maxRecDepth 100000 in
theorem a_X11_pointPower (l : Launch) (hst : l.stackTraces = false) (D : va_G) (cI cJ cZ cMic cSrc cSt cAI cAJ : ClassId) (ad : Nat → Nat) (T : AT) (o : Nat) (a0 : Int32) (a1 : Int32) (a2 : Int32) {r1 : Int64} {T1 : AT} (h : g_X11_pointPower T o a0 a1 a2 = some (0, r1, T1)) (hrc : RC T) (h_o : o < T.1) : kAl l yX11_pointPower (Cond.code yX11_pointPower cX11_pointPower 4 (some .long) :: wsA) 8 148 cI cJ cZ cMic cSrc cSt cAI cAJ D ad T [.ref (ad o), .int a0, .int a1, .int a2] r1 T1 := by
  intro sz
  refine Met.ofW (cc := cX11_pointPower) (maxL := 4) (ret := (some .long)) (by decide) rfl ?_
  intro p e s m args below meth c s₁ B hml hv
  obtain ⟨rfl, hsz, hP, hK, hD0, hX, hN⟩ := hv
  have hx := B.exec
  have hb := B.bytes
  have hr := B.returns
  have hts := atoms_spec (ws := (Cond.code yX11_pointPower cX11_pointPower 4 (some .long) :: wsA)) B.pre
  have hown : s.vm.findClass RX11 = some m.cls := findClass_of_methodNamed B.named
  have hlocks := B.notSynchronized
  subst hsz
  have hD := hD0.self (sz := s.heap.size)
  generalize hAe : va_A (cW ad T.1 (cc cI cJ cZ cMic cSrc cSt cAI cAJ ad T)) s.heap.size = A at hD hX ⊢
  have hA : ∀ q : Nat, s.heap.size ≤ q → A q := fun q h => by rw [← hAe]; exact Or.inr h
  have G : gC cI cJ cZ cMic cSrc cSt cAI cAJ D ad A s.heap s.heap [] T := ⟨hP, hD, va_S.rf⟩
  have E : cE p c cX11_pointPower s m ([.ref (ad o), .int a0, .int a1, .int a2] : List Value).toArray (Cond.code yX11_pointPower cX11_pointPower 4 (some .long) :: wsA) D RX11 (CT cI cJ cZ cMic cSrc cSt cAI cAJ) := ⟨hx, hb, hts, hown, hK⟩
  have hl := lv_entry ([.ref (ad o), .int a0, .int a1, .int a2]) (n := 4) (Nat.le_of_ble_eq_true rfl)
  rw [lg_entry_eq]
  generalize (lg_sl ([.ref (ad o), .int a0, .int a1, .int a2]) ++ List.replicate (4 - (lg_sl ([.ref (ad o), .int a0, .int a1, .int a2])).length) Slot.unset).toArray = ls at hl ⊢
  have hl : lv_has ls 4 [(0, .ref (ad o)), (1, .int a0), (2, .int a1), (3, .int a2)] := hl
  have hgl := GL.rf T
  have had : ∀ n, n < T.1 → ad n = ad n := fun _ _ => rfl
  have hT1 := s_X11_pointPower h
  have hcs := cs_ok hgl hT1
  refine w_cast (Nat.sub_self T.1).symm (Nat.sub_self (sg T)).symm ?_
  have cp0 := cpr0 hrc
  unfold g_X11_pointPower at h
  refine lv_aload_n hx hb dX11_pointPower_0 rfl (lv_at hl 0 rfl) ?_
  obtain ⟨g2, h⟩ := oif_some h
  obtain ⟨r5, T3, eT3, h⟩ := othr_n h
  refine q_cvv (As := []) (rest := []) E G hA hX hN hml (u_X11_needCamera l hst D cI cJ cZ cMic cSrc cSt cAI cAJ ad T o eT3) (cwV 0 hts (gaV qA_728 qA_729 qA_730 qA_131 qA_731) rfl rfl rfl (by decide +kernel) ⟨Nat.le_of_ble_eq_true rfl, Nat.le_of_ble_eq_true rfl⟩) (oO_k g2).1 (cc_o11 (oO_k g2).2) rfl rfl hl.1 rfl (lv_room (Nat.le_of_ble_eq_true rfl)) dX11_pointPower_1 hcs (fun T4 H locs hq G => ?_)
  rw [hq] at G
  clear hq
  have cp1 := cpr_sp cp0 (s_X11_needCamera eT3)
  refine lv_aload_n hx hb dX11_pointPower_4 rfl (lv_at hl 0 rfl) ?_
  refine lv_iload_n hx hb dX11_pointPower_5 rfl (lv_at hl 1 rfl) ?_
  obtain ⟨g7, h⟩ := oif_some h
  obtain ⟨r10, T8, eT8, h⟩ := othr_n h
  refine q_cvv (As := [.int a0]) (rest := []) E G hA hX hN hml (u_X11_needCell l hst D cI cJ cZ cMic cSrc cSt cAI cAJ ad T3 o a0 eT8) (cwV 1 hts (gaV qA_752 qA_753 qA_754 qA_131 qA_755) rfl rfl rfl (by decide +kernel) ⟨Nat.le_of_ble_eq_true rfl, Nat.le_of_ble_eq_true rfl⟩) (oO_k g7).1 (cc_o11 (oO_k g7).2) rfl rfl hl.1 rfl (lv_room (Nat.le_of_ble_eq_true rfl)) dX11_pointPower_6 hcs (fun T9 H locs hq G => ?_)
  rw [hq] at G
  clear hq
  have cp2 := cpr_sp cp1 (s_X11_needCell eT8)
  refine lv_aload_n hx hb dX11_pointPower_9 rfl (lv_at hl 0 rfl) ?_
  refine lv_iload_n hx hb dX11_pointPower_10 rfl (lv_at hl 2 rfl) ?_
  obtain ⟨g12, h⟩ := oif_some h
  obtain ⟨r15, T13, eT13, h⟩ := othr_n h
  refine q_cvv (As := [.int a1]) (rest := []) E G hA hX hN hml (u_X11_needCell l hst D cI cJ cZ cMic cSrc cSt cAI cAJ ad T8 o a1 eT13) (cwV 1 hts (gaV qA_752 qA_753 qA_754 qA_131 qA_755) rfl rfl rfl (by decide +kernel) ⟨Nat.le_of_ble_eq_true rfl, Nat.le_of_ble_eq_true rfl⟩) (oO_k g12).1 (cc_o11 (oO_k g12).2) rfl rfl hl.1 rfl (lv_room (Nat.le_of_ble_eq_true rfl)) dX11_pointPower_11 hcs (fun T14 H locs hq G => ?_)
  rw [hq] at G
  clear hq
  have cp3 := cpr_sp cp2 (s_X11_needCell eT13)
  refine lv_iload_n hx hb dX11_pointPower_14 rfl (lv_at hl 3 rfl) ?_
  refine lv_iconst (v := 2) hx hb dX11_pointPower_15 (by decide) ?_
  refine lv_bipush (v := 99) hx hb dX11_pointPower_16 (by decide) ?_
  obtain ⟨r19, T17, eT17, h⟩ := othr_n h
  refine q_csv (As := [.int a2, .int 2, .int 99]) (rest := []) E G hA hX hN hml (u_X11_needRange l hst D cI cJ cZ cMic cSrc cSt cAI cAJ ad T13 a2 (2 : Int32) (99 : Int32) eT17) (cwS 3 hts (gaS qA_741 qA_742 qA_131 qA_743) rfl rfl rfl (by decide +kernel) ⟨Nat.le_of_ble_eq_true rfl, Nat.le_of_ble_eq_true rfl⟩) rfl hl.1 rfl (lv_room (Nat.le_of_ble_eq_true rfl)) dX11_pointPower_18 hcs (fun T18 H locs hq G => ?_)
  rw [hq] at G
  clear hq
  have cp4 := cpr_sp cp3 (s_X11_needRange eT17)
  refine lv_aload_n hx hb dX11_pointPower_21 rfl (lv_at hl 0 rfl) ?_
  refine lv_iload_n hx hb dX11_pointPower_22 rfl (lv_at hl 1 rfl) ?_
  refine lv_iload_n hx hb dX11_pointPower_23 rfl (lv_at hl 3 rfl) ?_
  obtain ⟨g21, h⟩ := oif_some h
  obtain ⟨T22, eT22, h⟩ := obind_some h
  have hg2 := s_X11_recordPoint eT22
  have hrc2 := hg2.2.2 cp4.2.2
  have hT2 := s_X11_pointPower_b27 _ _ _ h
  refine q_avv (As := [.int a0, .int a2]) (rest := []) E G hA hX hN hml (a_X11_recordPoint l hst D cI cJ cZ cMic cSrc cSt cAI cAJ ad T17 o a0 a2 eT22 cp4.2.2 (by rw [cp4.1]; exact h_o)) (cwV 2 hts (gaV qA_907 qA_908 qA_909 qA_131 qA_910) rfl rfl rfl (by decide +kernel) ⟨Nat.le_of_ble_eq_true rfl, Nat.le_of_ble_eq_true rfl⟩) (oO_k g21).1 (cc_o11 (oO_k g21).2) rfl rfl hl.1 rfl (lv_room (Nat.le_of_ble_eq_true rfl)) dX11_pointPower_24 (cs_av hgl cp4 hg2 hT2) (fun ad2 H locs hga G => ?_)
  refine w_cast (c2 := T22.1 - T.1) (s2 := sg T22 - sg T) (cs_f1 hgl cp4 hg2) (cs_f2 hgl cp4 hg2) ?_
  have hl := lv_sub hl [0, 2] rfl
  rw [show ad o = ad2 o from (hga o (by rw [cp4.1]; exact h_o)).symm] at hl
  exact a_X11_pointPower_b27 E hA hX hN hml hst (fun ad H locs ls had G => W.lret (v := r1) hx hb hr (fun t ht hW => ⟨⟨r1, (T1, ad), rfl, ⟨rfl, rfl, had⟩, ⟨by rw [ht]; exact G.1, va_K.moved hW.alike hK, G.2.1⟩⟩, G.2.2.F ht⟩) G.2.2.2.2 dX11_pointPower_56) _ _ _ _ _ _ _ h (GL.tr (gl_cpr hgl cp4) hg2) hrc2 (fun n hn => (hga n (by rw [cp4.1]; exact Nat.lt_of_lt_of_le hn hgl.1)).trans (had n hn)) (Nat.lt_of_lt_of_le (by rw [cp4.1]; exact h_o) hg2.1) G hl
set_option maxHeartbeats 4000000 in
set_option maxRecDepth 100000 in
theorem b_X11_pointPower_b48 {p : Program} {l : Launch} {e : Env} {s : State} {m : MethodId} {args : Array Value} {below : List Frame} {meth : Method} {c : Code} {Qc : Array Value → State → Outcome → State → Prop} {XC : String → State → State → Prop} {D : va_G} {A : Nat → Prop} {cI cJ cZ cMic cSrc cSt cAI cAJ : ClassId} {ad0 : Nat → Nat} {T0 : AT} {e1 : Nat} {r1 : Int64} {T1 : AT} (E : cE p c cX11_pointPower s m args (Cond.code yX11_pointPower cX11_pointPower 4 (some .long) :: wsA) D RX11 (CT cI cJ cZ cMic cSrc cSt cAI cAJ)) (hA : ∀ q : Nat, s.heap.size ≤ q → A q) (hX : xT A s) (hN : nX s) (hml : c.maxLocals = 4) (hst : l.stackTraces = false) (htab : ∀ x ∈ c.exceptionTable.toList, False) (hlocks : meth.locks = false) (kx : ∀ (ad : Nat → Nat) (H : Heap) (locs : List Loc) (t : State), (∀ n, n < T0.1 → ad n = ad0 n) → gC cI cJ cZ cMic cSrc cSt cAI cAJ D ad A s.heap H locs T1 → s.vm.Alike t.vm → H.size ≤ t.heap.size → (∀ q, q < H.size → t.heap[q]? = H[q]?) → XC (exn e1) s t) : ∀ (T : AT) (ad : Nat → Nat) (H : Heap) (locs : List Loc) (ls : Array Slot) (l0 : Nat), g_X11_pointPower_b48 T l0 = some (e1 + 1, r1, T1) → GL T0 T → RC T → (∀ n, n < T0.1 → ad n = ad0 n) → l0 < T.1 → gC cI cJ cZ cMic cSrc cSt cAI cAJ D ad A s.heap H locs T → lv_has ls 4 [(0, .ref (ad l0))] → W p l e { frames := 8, cells := T1.1 - T0.1 + 1, slots := sg T1 - sg T0 + 6, locals := 148 } s m args below meth c H locs (T.1 - T0.1) (sg T - sg T0) (vx_MQ below Qc XC args s (T1.1 - T0.1 + 1) (sg T1 - sg T0 + 6) A) (F0 m 48 ls []) := by
  have hx := E.1
  have hb := E.2.1
  have hts := E.2.2.1
  have hown := E.2.2.2.1
  have hK := E.2.2.2.2
  intro T ad H locs ls l0 h hgl hrc had h_l0 G hl
  have hT1 := s_X11_pointPower_b48 _ _ h
  have hcs := cs_okx hgl hT1
  have hcx := cs_okx1 hgl hT1
  have cp0 := cpr0 hrc
  unfold g_X11_pointPower_b48 at h
  refine lv_aload_n hx hb dX11_pointPower_48 rfl (lv_at hl 0 rfl) ?_
  obtain ⟨g2, h⟩ := oif_some h
  obtain ⟨n3, en3, h⟩ := obind_some h
  have h_n3 : n3 < T.1 := by rw [← cp0.1]; exact cp0.2.2 _ _ _ en3
  refine c_get E G l0 12 (v := .ref (ad n3)) (oO_k g2).1 (cc_o11 (oO_k g2).2) rfl (fun w h => .tail _ (iA_23 h)) (by decide) (.tail _ qA_671) rfl (by rw [en3]; rfl) dX11_pointPower_49 ?_
  clear en3
  refine lv_iconst (v := 0) hx hb dX11_pointPower_52 (by decide) ?_
  obtain ⟨g4, h⟩ := oif_some h
  obtain ⟨r7, T5, eT5, h⟩ := obind2_some h
  refine q_cvl (As := [.int 0]) (rest := []) E G hA hX hN hml (u_X10_value l hst D cI cJ cZ cMic cSrc cSt cAI cAJ ad T n3 (0 : Int32) eT5) (cwV 1 hts (gaV qA_791 qA_792 qA_793 qA_6 qA_633) rfl rfl rfl (by decide +kernel) ⟨Nat.le_of_ble_eq_true rfl, Nat.le_of_ble_eq_true rfl⟩) (oO_k g4).1 (cc_o10 (oO_k g4).2) rfl rfl hl.1 rfl (lv_room (Nat.le_of_ble_eq_true rfl)) dX11_pointPower_53 hcs (fun q8 T6 H locs hq G => ?_)
  obtain ⟨hq1, hq2⟩ := hq
  rw [hq2] at G
  refine lv_tol hq1 ?_
  clear hq1 hq2
  have cp1 := cpr_sp cp0 (s_X10_value eT5)
  exact (Nat.succ_ne_zero _ (congrArg Prod.fst (Option.some.inj h)).symm).elim
set_option maxHeartbeats 4000000 in
set_option maxRecDepth 100000 in
theorem b_X11_pointPower_b27 {p : Program} {l : Launch} {e : Env} {s : State} {m : MethodId} {args : Array Value} {below : List Frame} {meth : Method} {c : Code} {Qc : Array Value → State → Outcome → State → Prop} {XC : String → State → State → Prop} {D : va_G} {A : Nat → Prop} {cI cJ cZ cMic cSrc cSt cAI cAJ : ClassId} {ad0 : Nat → Nat} {T0 : AT} {e1 : Nat} {r1 : Int64} {T1 : AT} (E : cE p c cX11_pointPower s m args (Cond.code yX11_pointPower cX11_pointPower 4 (some .long) :: wsA) D RX11 (CT cI cJ cZ cMic cSrc cSt cAI cAJ)) (hA : ∀ q : Nat, s.heap.size ≤ q → A q) (hX : xT A s) (hN : nX s) (hml : c.maxLocals = 4) (hst : l.stackTraces = false) (htab : ∀ x ∈ c.exceptionTable.toList, False) (hlocks : meth.locks = false) (kx : ∀ (ad : Nat → Nat) (H : Heap) (locs : List Loc) (t : State), (∀ n, n < T0.1 → ad n = ad0 n) → gC cI cJ cZ cMic cSrc cSt cAI cAJ D ad A s.heap H locs T1 → s.vm.Alike t.vm → H.size ≤ t.heap.size → (∀ q, q < H.size → t.heap[q]? = H[q]?) → XC (exn e1) s t) : ∀ (T : AT) (ad : Nat → Nat) (H : Heap) (locs : List Loc) (ls : Array Slot) (l0 : Nat) (l2 : Int32), g_X11_pointPower_b27 T l0 l2 = some (e1 + 1, r1, T1) → GL T0 T → RC T → (∀ n, n < T0.1 → ad n = ad0 n) → l0 < T.1 → gC cI cJ cZ cMic cSrc cSt cAI cAJ D ad A s.heap H locs T → lv_has ls 4 [(0, .ref (ad l0)), (2, .int l2)] → W p l e { frames := 8, cells := T1.1 - T0.1 + 1, slots := sg T1 - sg T0 + 6, locals := 148 } s m args below meth c H locs (T.1 - T0.1) (sg T - sg T0) (vx_MQ below Qc XC args s (T1.1 - T0.1 + 1) (sg T1 - sg T0 + 6) A) (F0 m 27 ls []) := by
  have hx := E.1
  have hb := E.2.1
  have hts := E.2.2.1
  have hown := E.2.2.2.1
  have hK := E.2.2.2.2
  intro T ad H locs ls l0 l2 h hgl hrc had h_l0 G hl
  have hT1 := s_X11_pointPower_b27 _ _ _ h
  have hcs := cs_okx hgl hT1
  have hcx := cs_okx1 hgl hT1
  have cp0 := cpr0 hrc
  unfold g_X11_pointPower_b27 at h
  refine lv_aload_n hx hb dX11_pointPower_27 rfl (lv_at hl 0 rfl) ?_
  obtain ⟨g2, h⟩ := oif_some h
  obtain ⟨n3, en3, h⟩ := obind_some h
  have h_n3 : n3 < T.1 := by rw [← cp0.1]; exact cp0.2.2 _ _ _ en3
  refine c_get E G l0 7 (v := .ref (ad n3)) (oO_k g2).1 (cc_o11 (oO_k g2).2) rfl (fun w h => .tail _ (iA_23 h)) (by decide) (.tail _ qA_665) rfl (by rw [en3]; rfl) dX11_pointPower_28 ?_
  clear en3
  refine lv_aload_n hx hb dX11_pointPower_31 rfl (lv_at hl 0 rfl) ?_
  obtain ⟨g4, h⟩ := oif_some h
  obtain ⟨n5, en5, h⟩ := obind_some h
  have h_n5 : n5 < T.1 := by rw [← cp0.1]; exact cp0.2.2 _ _ _ en5
  refine c_get E G l0 14 (v := .ref (ad n5)) (oO_k g4).1 (cc_o11 (oO_k g4).2) rfl (fun w h => .tail _ (iA_23 h)) (by decide) (.tail _ qA_675) rfl (by rw [en5]; rfl) dX11_pointPower_32 ?_
  clear en5
  obtain ⟨g6, h⟩ := oif_some h
  obtain ⟨n7, en7, h⟩ := obind_some h
  have h_n7 : n7 < T.1 := by rw [← cp0.1]; exact cp0.2.2 _ _ _ en7
  refine c_get E G n5 17 (v := .ref (ad n7)) (oO_k g6).1 (cc_o6 (oO_k g6).2) rfl (fun w h => .tail _ (iA_14 h)) (by decide) (.tail _ qA_778) rfl (by rw [en7]; rfl) dX11_pointPower_35 ?_
  clear en7
  refine lv_iload_n hx hb dX11_pointPower_38 rfl (lv_at hl 1 rfl) ?_
  obtain ⟨g8, h⟩ := oif_some h
  obtain ⟨g9, h⟩ := oif_some h
  obtain ⟨n10, en10, h⟩ := obind_some h
  have h_n10 : n10 < T.1 := by rw [← cp0.1]; exact cp0.2.2 _ _ _ en10
  refine c_alda E G n7 6 (k := l2.toNatClampNeg) (v := .ref (ad n10)) (aA_k g8).1 (cc_a106 (aA_k g8).2.1) rfl (inb_k g9).1 (inb_k g9).2 (aA_k g8).2.2 (by show va_rf ((T.2.2.2.2 n7 l2.toNatClampNeg).map ad) = _; rw [en10]; rfl) dX11_pointPower_39 ?_
  clear en10
  refine lv_aload_n hx hb dX11_pointPower_40 rfl (lv_at hl 0 rfl) ?_
  obtain ⟨g11, h⟩ := oif_some h
  obtain ⟨n12, en12, h⟩ := obind_some h
  have h_n12 : n12 < T.1 := by rw [← cp0.1]; exact cp0.2.2 _ _ _ en12
  refine c_get E G l0 12 (v := .ref (ad n12)) (oO_k g11).1 (cc_o11 (oO_k g11).2) rfl (fun w h => .tail _ (iA_23 h)) (by decide) (.tail _ qA_671) rfl (by rw [en12]; rfl) dX11_pointPower_41 ?_
  clear en12
  refine lv_iconst (v := 0) hx hb dX11_pointPower_44 (by decide) ?_
  obtain ⟨g13, h⟩ := oif_some h
  obtain ⟨T14, eT14, h⟩ := obind_some h
  have hg2 := s_X8_powerOf eT14
  have hrc2 := hg2.2.2 cp0.2.2
  have hT2 := s_X11_pointPower_b48 _ _ h
  refine q_avv (As := [.ref (ad n10), .ref (ad n12), .int 0]) (rest := []) E G hA hX hN hml (a_X8_powerOf l hst D cI cJ cZ cMic cSrc cSt cAI cAJ ad T n3 n10 n12 (0 : Int32) eT14 cp0.2.2 (by rw [cp0.1]; exact h_n3) (by rw [cp0.1]; exact h_n10) (by rw [cp0.1]; exact h_n12)) (cwV 3 hts (gaV qA_808 qA_809 qA_810 qA_47 qA_617) rfl rfl rfl (by decide +kernel) ⟨Nat.le_of_ble_eq_true rfl, Nat.le_of_ble_eq_true rfl⟩) (oO_k g13).1 (cc_o8 (oO_k g13).2) rfl rfl hl.1 rfl (lv_room (Nat.le_of_ble_eq_true rfl)) dX11_pointPower_45 (cs_avx hgl cp0 hg2 hT2) (fun ad2 H locs hga G => ?_)
  refine w_cast (c2 := T14.1 - T0.1) (s2 := sg T14 - sg T0) (cs_f1 hgl cp0 hg2) (cs_f2 hgl cp0 hg2) ?_
  have hl := lv_sub hl [0] rfl
  rw [show ad l0 = ad2 l0 from (hga l0 (by rw [cp0.1]; exact h_l0)).symm] at hl
  exact b_X11_pointPower_b48 E hA hX hN hml hst htab hlocks kx _ _ _ _ _ _ h (GL.tr (gl_cpr hgl cp0) hg2) hrc2 (fun n hn => (hga n (by rw [cp0.1]; exact Nat.lt_of_lt_of_le hn hgl.1)).trans (had n hn)) (Nat.lt_of_lt_of_le (by rw [cp0.1]; exact h_l0) hg2.1) G hl
set_option maxHeartbeats 4000000 in
set_option maxRecDepth 100000 in
theorem b_X11_pointPower (l : Launch) (hst : l.stackTraces = false) (D : va_G) (cI cJ cZ cMic cSrc cSt cAI cAJ : ClassId) (ad : Nat → Nat) (T : AT) (o : Nat) (a0 : Int32) (a1 : Int32) (a2 : Int32) {e1 : Nat} {r1 : Int64} {T1 : AT} (h : g_X11_pointPower T o a0 a1 a2 = some (e1 + 1, r1, T1)) (hrc : RC T) (h_o : o < T.1) : kAXl l yX11_pointPower (Cond.code yX11_pointPower cX11_pointPower 4 (some .long) :: wsA) 8 148 cI cJ cZ cMic cSrc cSt cAI cAJ D ad T [.ref (ad o), .int a0, .int a1, .int a2] e1 T1 := by
  intro sz
  refine vx_ofW (cc := cX11_pointPower) (maxL := 4) (ret := (some .long)) (by decide) rfl ?_
  intro p e s m args below meth c s₁ B hml htab hv
  obtain ⟨rfl, hsz, hP, hK, hD0, hX, hN⟩ := hv
  have hx := B.exec
  have hb := B.bytes
  have hr := B.returns
  have hts := atoms_spec (ws := (Cond.code yX11_pointPower cX11_pointPower 4 (some .long) :: wsA)) B.pre
  have hown : s.vm.findClass RX11 = some m.cls := findClass_of_methodNamed B.named
  have hlocks := B.notSynchronized
  subst hsz
  have hD := hD0.self (sz := s.heap.size)
  generalize hAe : va_A (cW ad T.1 (cc cI cJ cZ cMic cSrc cSt cAI cAJ ad T)) s.heap.size = A at hD hX ⊢
  have hA : ∀ q : Nat, s.heap.size ≤ q → A q := fun q h => by rw [← hAe]; exact Or.inr h
  have G : gC cI cJ cZ cMic cSrc cSt cAI cAJ D ad A s.heap s.heap [] T := ⟨hP, hD, va_S.rf⟩
  have E : cE p c cX11_pointPower s m ([.ref (ad o), .int a0, .int a1, .int a2] : List Value).toArray (Cond.code yX11_pointPower cX11_pointPower 4 (some .long) :: wsA) D RX11 (CT cI cJ cZ cMic cSrc cSt cAI cAJ) := ⟨hx, hb, hts, hown, hK⟩
  have htab : ∀ x ∈ c.exceptionTable.toList, False := fun x hx => htab x hx
  have hl := lv_entry ([.ref (ad o), .int a0, .int a1, .int a2]) (n := 4) (Nat.le_of_ble_eq_true rfl)
  rw [lg_entry_eq]
  generalize (lg_sl ([.ref (ad o), .int a0, .int a1, .int a2]) ++ List.replicate (4 - (lg_sl ([.ref (ad o), .int a0, .int a1, .int a2])).length) Slot.unset).toArray = ls at hl ⊢
  have hl : lv_has ls 4 [(0, .ref (ad o)), (1, .int a0), (2, .int a1), (3, .int a2)] := hl
  have hgl := GL.rf T
  have had : ∀ n, n < T.1 → ad n = ad n := fun _ _ => rfl
  have hT1 := s_X11_pointPower h
  have hcs := cs_okx hgl hT1
  have hcx := cs_okx1 hgl hT1
  refine w_cast (Nat.sub_self T.1).symm (Nat.sub_self (sg T)).symm ?_
  have cp0 := cpr0 hrc
  unfold g_X11_pointPower at h
  refine lv_aload_n hx hb dX11_pointPower_0 rfl (lv_at hl 0 rfl) ?_
  obtain ⟨g2, h⟩ := oif_some h
  rcases othr_t h with ⟨r0, eT3⟩ | ⟨r5, T3, eT3, h⟩
  · refine q_xvv (As := []) (rest := []) E G hA hX hN hml (x_X11_needCamera l hst D cI cJ cZ cMic cSrc cSt cAI cAJ ad T o eT3) (cwV 0 hts (gaV qA_728 qA_729 qA_730 qA_131 qA_731) rfl rfl rfl (by decide +kernel) ⟨Nat.le_of_ble_eq_true rfl, Nat.le_of_ble_eq_true rfl⟩) (oO_k g2).1 (cc_o11 (oO_k g2).2) rfl rfl hl.1 rfl (lv_room (Nat.le_of_ble_eq_true rfl)) dX11_pointPower_1 hcx (fun E9 ce q9 T9 H locs hp G hce hcv hcl => ?_)
    obtain ⟨hE, hT⟩ := hp
    subst hE
    rw [hT] at G
    exact vx_out (fun x hx => (htab x hx).elim) hlocks hce hcv hcl (fun t ht hvm => ⟨(T1, ad), trivial, ⟨⟨rfl, rfl, had⟩, by rw [ht]; exact G.1, va_K.moved hvm hK, G.2.1⟩, G.2.2.F ht⟩) G.2.2.2.2 hcx.1 hcx.2
  refine q_cvv (As := []) (rest := []) E G hA hX hN hml (u_X11_needCamera l hst D cI cJ cZ cMic cSrc cSt cAI cAJ ad T o eT3) (cwV 0 hts (gaV qA_728 qA_729 qA_730 qA_131 qA_731) rfl rfl rfl (by decide +kernel) ⟨Nat.le_of_ble_eq_true rfl, Nat.le_of_ble_eq_true rfl⟩) (oO_k g2).1 (cc_o11 (oO_k g2).2) rfl rfl hl.1 rfl (lv_room (Nat.le_of_ble_eq_true rfl)) dX11_pointPower_1 hcs (fun T4 H locs hq G => ?_)
  rw [hq] at G
  clear hq
  have cp1 := cpr_sp cp0 (s_X11_needCamera eT3)
  refine lv_aload_n hx hb dX11_pointPower_4 rfl (lv_at hl 0 rfl) ?_
  refine lv_iload_n hx hb dX11_pointPower_5 rfl (lv_at hl 1 rfl) ?_
  obtain ⟨g7, h⟩ := oif_some h
  rcases othr_t h with ⟨r0, eT8⟩ | ⟨r10, T8, eT8, h⟩
  · refine q_xvv (As := [.int a0]) (rest := []) E G hA hX hN hml (x_X11_needCell l hst D cI cJ cZ cMic cSrc cSt cAI cAJ ad T3 o a0 eT8) (cwV 1 hts (gaV qA_752 qA_753 qA_754 qA_131 qA_755) rfl rfl rfl (by decide +kernel) ⟨Nat.le_of_ble_eq_true rfl, Nat.le_of_ble_eq_true rfl⟩) (oO_k g7).1 (cc_o11 (oO_k g7).2) rfl rfl hl.1 rfl (lv_room (Nat.le_of_ble_eq_true rfl)) dX11_pointPower_6 hcx (fun E9 ce q9 T9 H locs hp G hce hcv hcl => ?_)
    obtain ⟨hE, hT⟩ := hp
    subst hE
    rw [hT] at G
    exact vx_out (fun x hx => (htab x hx).elim) hlocks hce hcv hcl (fun t ht hvm => ⟨(T1, ad), trivial, ⟨⟨rfl, rfl, had⟩, by rw [ht]; exact G.1, va_K.moved hvm hK, G.2.1⟩, G.2.2.F ht⟩) G.2.2.2.2 hcx.1 hcx.2
  refine q_cvv (As := [.int a0]) (rest := []) E G hA hX hN hml (u_X11_needCell l hst D cI cJ cZ cMic cSrc cSt cAI cAJ ad T3 o a0 eT8) (cwV 1 hts (gaV qA_752 qA_753 qA_754 qA_131 qA_755) rfl rfl rfl (by decide +kernel) ⟨Nat.le_of_ble_eq_true rfl, Nat.le_of_ble_eq_true rfl⟩) (oO_k g7).1 (cc_o11 (oO_k g7).2) rfl rfl hl.1 rfl (lv_room (Nat.le_of_ble_eq_true rfl)) dX11_pointPower_6 hcs (fun T9 H locs hq G => ?_)
  rw [hq] at G
  clear hq
  have cp2 := cpr_sp cp1 (s_X11_needCell eT8)
  refine lv_aload_n hx hb dX11_pointPower_9 rfl (lv_at hl 0 rfl) ?_
  refine lv_iload_n hx hb dX11_pointPower_10 rfl (lv_at hl 2 rfl) ?_
  obtain ⟨g12, h⟩ := oif_some h
  rcases othr_t h with ⟨r0, eT13⟩ | ⟨r15, T13, eT13, h⟩
  · refine q_xvv (As := [.int a1]) (rest := []) E G hA hX hN hml (x_X11_needCell l hst D cI cJ cZ cMic cSrc cSt cAI cAJ ad T8 o a1 eT13) (cwV 1 hts (gaV qA_752 qA_753 qA_754 qA_131 qA_755) rfl rfl rfl (by decide +kernel) ⟨Nat.le_of_ble_eq_true rfl, Nat.le_of_ble_eq_true rfl⟩) (oO_k g12).1 (cc_o11 (oO_k g12).2) rfl rfl hl.1 rfl (lv_room (Nat.le_of_ble_eq_true rfl)) dX11_pointPower_11 hcx (fun E9 ce q9 T9 H locs hp G hce hcv hcl => ?_)
    obtain ⟨hE, hT⟩ := hp
    subst hE
    rw [hT] at G
    exact vx_out (fun x hx => (htab x hx).elim) hlocks hce hcv hcl (fun t ht hvm => ⟨(T1, ad), trivial, ⟨⟨rfl, rfl, had⟩, by rw [ht]; exact G.1, va_K.moved hvm hK, G.2.1⟩, G.2.2.F ht⟩) G.2.2.2.2 hcx.1 hcx.2
  refine q_cvv (As := [.int a1]) (rest := []) E G hA hX hN hml (u_X11_needCell l hst D cI cJ cZ cMic cSrc cSt cAI cAJ ad T8 o a1 eT13) (cwV 1 hts (gaV qA_752 qA_753 qA_754 qA_131 qA_755) rfl rfl rfl (by decide +kernel) ⟨Nat.le_of_ble_eq_true rfl, Nat.le_of_ble_eq_true rfl⟩) (oO_k g12).1 (cc_o11 (oO_k g12).2) rfl rfl hl.1 rfl (lv_room (Nat.le_of_ble_eq_true rfl)) dX11_pointPower_11 hcs (fun T14 H locs hq G => ?_)
  rw [hq] at G
  clear hq
  have cp3 := cpr_sp cp2 (s_X11_needCell eT13)
  refine lv_iload_n hx hb dX11_pointPower_14 rfl (lv_at hl 3 rfl) ?_
  refine lv_iconst (v := 2) hx hb dX11_pointPower_15 (by decide) ?_
  refine lv_bipush (v := 99) hx hb dX11_pointPower_16 (by decide) ?_
  rcases othr_t h with ⟨r0, eT17⟩ | ⟨r19, T17, eT17, h⟩
  · refine q_xsv (As := [.int a2, .int 2, .int 99]) (rest := []) E G hA hX hN hml (x_X11_needRange l hst D cI cJ cZ cMic cSrc cSt cAI cAJ ad T13 a2 (2 : Int32) (99 : Int32) eT17) (cwS 3 hts (gaS qA_741 qA_742 qA_131 qA_743) rfl rfl rfl (by decide +kernel) ⟨Nat.le_of_ble_eq_true rfl, Nat.le_of_ble_eq_true rfl⟩) rfl hl.1 rfl (lv_room (Nat.le_of_ble_eq_true rfl)) dX11_pointPower_18 hcx (fun E9 ce q9 T9 H locs hp G hce hcv hcl => ?_)
    obtain ⟨hE, hT⟩ := hp
    subst hE
    rw [hT] at G
    exact vx_out (fun x hx => (htab x hx).elim) hlocks hce hcv hcl (fun t ht hvm => ⟨(T1, ad), trivial, ⟨⟨rfl, rfl, had⟩, by rw [ht]; exact G.1, va_K.moved hvm hK, G.2.1⟩, G.2.2.F ht⟩) G.2.2.2.2 hcx.1 hcx.2
  refine q_csv (As := [.int a2, .int 2, .int 99]) (rest := []) E G hA hX hN hml (u_X11_needRange l hst D cI cJ cZ cMic cSrc cSt cAI cAJ ad T13 a2 (2 : Int32) (99 : Int32) eT17) (cwS 3 hts (gaS qA_741 qA_742 qA_131 qA_743) rfl rfl rfl (by decide +kernel) ⟨Nat.le_of_ble_eq_true rfl, Nat.le_of_ble_eq_true rfl⟩) rfl hl.1 rfl (lv_room (Nat.le_of_ble_eq_true rfl)) dX11_pointPower_18 hcs (fun T18 H locs hq G => ?_)
  rw [hq] at G
  clear hq
  have cp4 := cpr_sp cp3 (s_X11_needRange eT17)
  refine lv_aload_n hx hb dX11_pointPower_21 rfl (lv_at hl 0 rfl) ?_
  refine lv_iload_n hx hb dX11_pointPower_22 rfl (lv_at hl 1 rfl) ?_
  refine lv_iload_n hx hb dX11_pointPower_23 rfl (lv_at hl 3 rfl) ?_
  obtain ⟨g21, h⟩ := oif_some h
  obtain ⟨T22, eT22, h⟩ := obind_some h
  have hg2 := s_X11_recordPoint eT22
  have hrc2 := hg2.2.2 cp4.2.2
  have hT2 := s_X11_pointPower_b27 _ _ _ h
  refine q_avv (As := [.int a0, .int a2]) (rest := []) E G hA hX hN hml (a_X11_recordPoint l hst D cI cJ cZ cMic cSrc cSt cAI cAJ ad T17 o a0 a2 eT22 cp4.2.2 (by rw [cp4.1]; exact h_o)) (cwV 2 hts (gaV qA_907 qA_908 qA_909 qA_131 qA_910) rfl rfl rfl (by decide +kernel) ⟨Nat.le_of_ble_eq_true rfl, Nat.le_of_ble_eq_true rfl⟩) (oO_k g21).1 (cc_o11 (oO_k g21).2) rfl rfl hl.1 rfl (lv_room (Nat.le_of_ble_eq_true rfl)) dX11_pointPower_24 (cs_avx hgl cp4 hg2 hT2) (fun ad2 H locs hga G => ?_)
  refine w_cast (c2 := T22.1 - T.1) (s2 := sg T22 - sg T) (cs_f1 hgl cp4 hg2) (cs_f2 hgl cp4 hg2) ?_
  have hl := lv_sub hl [0, 2] rfl
  rw [show ad o = ad2 o from (hga o (by rw [cp4.1]; exact h_o)).symm] at hl
  exact b_X11_pointPower_b27 E hA hX hN hml hst htab hlocks (fun ad H locs t had G hvm h1 h2 => ⟨(T1, ad), trivial, ⟨⟨rfl, rfl, had⟩, (c_thrown G hK hvm h1 h2).1⟩, (c_thrown G hK hvm h1 h2).2⟩) _ _ _ _ _ _ _ h (GL.tr (gl_cpr hgl cp4) hg2) hrc2 (fun n hn => (hga n (by rw [cp4.1]; exact Nat.lt_of_lt_of_le hn hgl.1)).trans (had n hn)) (Nat.lt_of_lt_of_le (by rw [cp4.1]; exact h_o) hg2.1) G hl
def g_X11_bestWithout_b34  (T : AT) (s0 : Int32) : Option (Nat × Int32 × AT) := some (0, s0, T)
def g_X11_bestWithout_b20  (T : AT) (l0 : Nat) (l1 : Int32) : Option (Nat × Int32 × AT) := oif (oO T l0 11 = true) <| obind (T.2.2.2.2 l0 7) fun n3 => oif (oO T n3 8 = true) <| obind (T.2.2.2.2 n3 3) fun n5 => oif (aA T n5 102 = true) <| oif (inb l1 (T.2.1 n5).2 = true) <| elet (uI T n5 l1.toNatClampNeg 1) fun T8 => oif (oO T8 l0 11 = true) <| obind2 (g_X11_trialBest T8 l0) fun r11 T10 => g_X11_bestWithout_b34 T10 r11
def g_X11_bestWithout (T : AT) (o : Nat) (a0 : Int32) : Option (Nat × Int32 × AT) := oif (oO T o 11 = true) <| othr (g_X11_needCamera T o) 0 fun r5 T3 => oif (oO T3 o 11 = true) <| othr (g_X11_needMic T3 o a0) 0 fun r10 T8 => oif (oO T8 o 11 = true) <| obind (T8.2.2.2.2 o 7) fun n13 => oif (oO T8 o 11 = true) <| obind (T8.2.2.2.2 o 6) fun n15 => oif (oO T8 n13 8 = true) <| obind (g_X8_copyFrom T8 n13 n15) fun T17 => g_X11_bestWithout_b20 T17 o a0
set_option maxHeartbeats 4000000 in
set_option maxRecDepth 100000 in
theorem s_X11_bestWithout_b34 {e1 : Nat} {r1 : Int32} {T1 : AT} : ∀ (T : AT) (s0 : Int32), g_X11_bestWithout_b34 T s0 = some (e1, r1, T1) → GL T T1 := by
  intro T s0 h
  have p0 := GL.rf T
  unfold g_X11_bestWithout_b34 at h
  rw [← (osome3 h).2.2]
  exact p0
set_option maxHeartbeats 4000000 in
set_option maxRecDepth 100000 in
theorem s_X11_bestWithout_b20 {e1 : Nat} {r1 : Int32} {T1 : AT} : ∀ (T : AT) (l0 : Nat) (l1 : Int32), g_X11_bestWithout_b20 T l0 l1 = some (e1, r1, T1) → GL T T1 := by
  intro T l0 l1 h
  have p0 := GL.rf T
  unfold g_X11_bestWithout_b20 at h
  obtain ⟨g2, h⟩ := oif_some h
  obtain ⟨n3, en3, h⟩ := obind_some h
  obtain ⟨g4, h⟩ := oif_some h
  obtain ⟨n5, en5, h⟩ := obind_some h
  obtain ⟨g6, h⟩ := oif_some h
  obtain ⟨g7, h⟩ := oif_some h
  obtain ⟨T8, eT8, h⟩ := elet_some h
  have p1 : GL T T8 := GL.tr p0 (by rw [eT8]; exact gl_sp sp_uI)
  obtain ⟨g9, h⟩ := oif_some h
  obtain ⟨r11, T10, eT10, h⟩ := obind2_some h
  have p2 : GL T T10 := GL.tr p1 (s_X11_trialBest eT10)
  exact GL.tr p2 (s_X11_bestWithout_b34 _ _ h)
set_option maxHeartbeats 4000000 in
set_option maxRecDepth 100000 in
theorem s_X11_bestWithout {T : AT} {o : Nat} {a0 : Int32} {e1 : Nat} {r1 : Int32} {T1 : AT} (h : g_X11_bestWithout T o a0 = some (e1, r1, T1)) : GL T T1 := by
  have p0 := GL.rf T
  unfold g_X11_bestWithout at h
  obtain ⟨g2, h⟩ := oif_some h
  rcases othr_s h with ⟨k9, r9, e9, -⟩ | ⟨r4, T3, eT3, h⟩
  · exact GL.tr p0 (gl_sp (s_X11_needCamera e9))
  have p1 : GL T T3 := GL.tr p0 (gl_sp (s_X11_needCamera eT3))
  obtain ⟨g5, h⟩ := oif_some h
  rcases othr_s h with ⟨k9, r9, e9, -⟩ | ⟨r7, T6, eT6, h⟩
  · exact GL.tr p1 (gl_sp (s_X11_needMic e9))
  have p2 : GL T T6 := GL.tr p1 (gl_sp (s_X11_needMic eT6))
  obtain ⟨g8, h⟩ := oif_some h
  obtain ⟨n9, en9, h⟩ := obind_some h
  obtain ⟨g10, h⟩ := oif_some h
  obtain ⟨n11, en11, h⟩ := obind_some h
  obtain ⟨g12, h⟩ := oif_some h
  obtain ⟨T13, eT13, h⟩ := obind_some h
  have p3 : GL T T13 := GL.tr p2 (s_X8_copyFrom eT13)
  exact GL.tr p3 (s_X11_bestWithout_b20 _ _ _ h)
set_option maxHeartbeats 4000000 in
set_option maxRecDepth 100000 in
theorem a_X11_bestWithout_b34 {p : Program} {l : Launch} {e : Env} {s : State} {m : MethodId} {args : Array Value} {below : List Frame} {meth : Method} {c : Code} {Q : State → Prop} {D : va_G} {A : Nat → Prop} {cI cJ cZ cMic cSrc cSt cAI cAJ : ClassId} {ad0 : Nat → Nat} {T0 : AT} {r1 : Int32} {T1 : AT} (E : cE p c cX11_bestWithout s m args (Cond.code yX11_bestWithout cX11_bestWithout 2 (some .int) :: wsA) D RX11 (CT cI cJ cZ cMic cSrc cSt cAI cAJ)) (hA : ∀ q : Nat, s.heap.size ≤ q → A q) (hX : xT A s) (hN : nX s) (hml : c.maxLocals = 2) (hst : l.stackTraces = false) (kr34 : ∀ (ad : Nat → Nat) (H : Heap) (locs : List Loc) (ls : Array Slot), (∀ n, n < T0.1 → ad n = ad0 n) → gC cI cJ cZ cMic cSrc cSt cAI cAJ D ad A s.heap H locs T1 → W p l e { frames := 8, cells := T1.1 - T0.1, slots := sg T1 - sg T0, locals := 149 } s m args below meth c H locs (T1.1 - T0.1) (sg T1 - sg T0) Q (F0 m 34 ls [.int r1])) : ∀ (T : AT) (ad : Nat → Nat) (H : Heap) (locs : List Loc) (ls : Array Slot) (s0 : Int32), g_X11_bestWithout_b34 T s0 = some (0, r1, T1) → GL T0 T → RC T → (∀ n, n < T0.1 → ad n = ad0 n) → gC cI cJ cZ cMic cSrc cSt cAI cAJ D ad A s.heap H locs T → lv_has ls 2 [] → W p l e { frames := 8, cells := T1.1 - T0.1, slots := sg T1 - sg T0, locals := 149 } s m args below meth c H locs (T.1 - T0.1) (sg T - sg T0) Q (F0 m 34 ls [.int s0]) := by
  have hx := E.1
  have hb := E.2.1
  have hts := E.2.2.1
  have hown := E.2.2.2.1
  have hK := E.2.2.2.2
  intro T ad H locs ls s0 h hgl hrc had G hl
  have hT1 := s_X11_bestWithout_b34 _ _ h
  have hcs := cs_ok hgl hT1
  have cp0 := cpr0 hrc
  unfold g_X11_bestWithout_b34 at h
  rw [(osome3 h).2.2] at G
  refine w_cast (c2 := T1.1 - T0.1) (s2 := sg T1 - sg T0) (by rw [← (osome3 h).2.2, cp0.1] <;> rfl) (by rw [← (osome3 h).2.2, sg_cpr cp0] <;> rfl) ?_
  refine lv_to ((osome3 h).2.1) ?_
  exact kr34 ad _ _ _ had G
set_option maxHeartbeats 4000000 in
set_option maxRecDepth 100000 in
theorem a_X11_bestWithout_b20 {p : Program} {l : Launch} {e : Env} {s : State} {m : MethodId} {args : Array Value} {below : List Frame} {meth : Method} {c : Code} {Q : State → Prop} {D : va_G} {A : Nat → Prop} {cI cJ cZ cMic cSrc cSt cAI cAJ : ClassId} {ad0 : Nat → Nat} {T0 : AT} {r1 : Int32} {T1 : AT} (E : cE p c cX11_bestWithout s m args (Cond.code yX11_bestWithout cX11_bestWithout 2 (some .int) :: wsA) D RX11 (CT cI cJ cZ cMic cSrc cSt cAI cAJ)) (hA : ∀ q : Nat, s.heap.size ≤ q → A q) (hX : xT A s) (hN : nX s) (hml : c.maxLocals = 2) (hst : l.stackTraces = false) (kr34 : ∀ (ad : Nat → Nat) (H : Heap) (locs : List Loc) (ls : Array Slot), (∀ n, n < T0.1 → ad n = ad0 n) → gC cI cJ cZ cMic cSrc cSt cAI cAJ D ad A s.heap H locs T1 → W p l e { frames := 8, cells := T1.1 - T0.1, slots := sg T1 - sg T0, locals := 149 } s m args below meth c H locs (T1.1 - T0.1) (sg T1 - sg T0) Q (F0 m 34 ls [.int r1])) : ∀ (T : AT) (ad : Nat → Nat) (H : Heap) (locs : List Loc) (ls : Array Slot) (l0 : Nat) (l1 : Int32), g_X11_bestWithout_b20 T l0 l1 = some (0, r1, T1) → GL T0 T → RC T → (∀ n, n < T0.1 → ad n = ad0 n) → l0 < T.1 → gC cI cJ cZ cMic cSrc cSt cAI cAJ D ad A s.heap H locs T → lv_has ls 2 [(0, .ref (ad l0)), (1, .int l1)] → W p l e { frames := 8, cells := T1.1 - T0.1, slots := sg T1 - sg T0, locals := 149 } s m args below meth c H locs (T.1 - T0.1) (sg T - sg T0) Q (F0 m 20 ls []) := by
  have hx := E.1
  have hb := E.2.1
  have hts := E.2.2.1
  have hown := E.2.2.2.1
  have hK := E.2.2.2.2
  intro T ad H locs ls l0 l1 h hgl hrc had h_l0 G hl
  have hT1 := s_X11_bestWithout_b20 _ _ _ h
  have hcs := cs_ok hgl hT1
  have cp0 := cpr0 hrc
  unfold g_X11_bestWithout_b20 at h
  refine lv_aload_n hx hb dX11_bestWithout_20 rfl (lv_at hl 0 rfl) ?_
  obtain ⟨g2, h⟩ := oif_some h
  obtain ⟨n3, en3, h⟩ := obind_some h
  have h_n3 : n3 < T.1 := by rw [← cp0.1]; exact cp0.2.2 _ _ _ en3
  refine c_get E G l0 7 (v := .ref (ad n3)) (oO_k g2).1 (cc_o11 (oO_k g2).2) rfl (fun w h => .tail _ (iA_23 h)) (by decide) (.tail _ qA_665) rfl (by rw [en3]; rfl) dX11_bestWithout_21 ?_
  clear en3
  obtain ⟨g4, h⟩ := oif_some h
  obtain ⟨n5, en5, h⟩ := obind_some h
  have h_n5 : n5 < T.1 := by rw [← cp0.1]; exact cp0.2.2 _ _ _ en5
  refine c_get E G n3 3 (v := .ref (ad n5)) (oO_k g4).1 (cc_o8 (oO_k g4).2) rfl (fun w h => .tail _ (iA_16 h)) (by decide) (.tail _ qA_746) rfl (by rw [en5]; rfl) dX11_bestWithout_24 ?_
  clear en5
  refine lv_iload_n hx hb dX11_bestWithout_27 rfl (lv_at hl 1 rfl) ?_
  refine lv_iconst (v := 1) hx hb dX11_bestWithout_28 (by decide) ?_
  obtain ⟨g6, h⟩ := oif_some h
  obtain ⟨g7, h⟩ := oif_some h
  refine c_zast E G n5 2 (k := l1.toNatClampNeg) (v := 1) (aA_k g6).1 (cc_a102 (aA_k g6).2.1) rfl (inb_k g7).1 (inb_k g7).2 (aA_k g6).2.2 rfl dX11_bestWithout_29 (fun H locs G => ?_)
  have G := gC_up_i (f := upd (T.2.2.1 n5) l1.toNatClampNeg 1) (ccv_102 (aA_k g6).2.1) G
  obtain ⟨T8, eT8, h⟩ := elet_some h
  have G : gC cI cJ cZ cMic cSrc cSt cAI cAJ D ad A s.heap H locs T8 := by rw [eT8]; exact G
  have cp1 := show CPR T T8 from by rw [eT8]; exact cpr_sp cp0 sp_uI
  clear eT8
  refine lv_aload_n hx hb dX11_bestWithout_30 rfl (lv_at hl 0 rfl) ?_
  obtain ⟨g9, h⟩ := oif_some h
  obtain ⟨r11, T10, eT10, h⟩ := obind2_some h
  have hg2 := s_X11_trialBest eT10
  have hrc2 := hg2.2.2 cp1.2.2
  have hT2 := s_X11_bestWithout_b34 _ _ h
  refine q_avi (As := []) (rest := []) E G hA hX hN hml (a_X11_trialBest l hst D cI cJ cZ cMic cSrc cSt cAI cAJ ad T8 l0 eT10 cp1.2.2 (by rw [cp1.1]; exact h_l0)) (cwV 0 hts (gaV qA_917 qA_918 qA_919 qA_131 qA_920) rfl rfl rfl (by decide +kernel) ⟨Nat.le_of_ble_eq_true rfl, Nat.le_of_ble_eq_true rfl⟩) (oO_k g9).1 (cc_o11 (oO_k g9).2) rfl rfl hl.1 rfl (lv_room (Nat.le_of_ble_eq_true rfl)) dX11_bestWithout_31 (cs_av hgl cp1 hg2 hT2) (fun ad2 H locs hga G => ?_)
  refine w_cast (c2 := T10.1 - T0.1) (s2 := sg T10 - sg T0) (cs_f1 hgl cp1 hg2) (cs_f2 hgl cp1 hg2) ?_
  have hl := lv_sub hl [] rfl
  exact a_X11_bestWithout_b34 E hA hX hN hml hst kr34 _ _ _ _ _ _ h (GL.tr (gl_cpr hgl cp1) hg2) hrc2 (fun n hn => (hga n (by rw [cp1.1]; exact Nat.lt_of_lt_of_le hn hgl.1)).trans (had n hn)) G hl
set_option maxHeartbeats 4000000 in
set_option maxRecDepth 100000 in
theorem a_X11_bestWithout (l : Launch) (hst : l.stackTraces = false) (D : va_G) (cI cJ cZ cMic cSrc cSt cAI cAJ : ClassId) (ad : Nat → Nat) (T : AT) (o : Nat) (a0 : Int32) {r1 : Int32} {T1 : AT} (h : g_X11_bestWithout T o a0 = some (0, r1, T1)) (hrc : RC T) (h_o : o < T.1) : kAi l yX11_bestWithout (Cond.code yX11_bestWithout cX11_bestWithout 2 (some .int) :: wsA) 8 149 cI cJ cZ cMic cSrc cSt cAI cAJ D ad T [.ref (ad o), .int a0] r1 T1 := by
  intro sz
  refine Met.ofW (cc := cX11_bestWithout) (maxL := 2) (ret := (some .int)) (by decide) rfl ?_
  intro p e s m args below meth c s₁ B hml hv
  obtain ⟨rfl, hsz, hP, hK, hD0, hX, hN⟩ := hv
  have hx := B.exec
  have hb := B.bytes
  have hr := B.returns
  have hts := atoms_spec (ws := (Cond.code yX11_bestWithout cX11_bestWithout 2 (some .int) :: wsA)) B.pre
  have hown : s.vm.findClass RX11 = some m.cls := findClass_of_methodNamed B.named
  have hlocks := B.notSynchronized
  subst hsz
  have hD := hD0.self (sz := s.heap.size)
  generalize hAe : va_A (cW ad T.1 (cc cI cJ cZ cMic cSrc cSt cAI cAJ ad T)) s.heap.size = A at hD hX ⊢
  have hA : ∀ q : Nat, s.heap.size ≤ q → A q := fun q h => by rw [← hAe]; exact Or.inr h
  have G : gC cI cJ cZ cMic cSrc cSt cAI cAJ D ad A s.heap s.heap [] T := ⟨hP, hD, va_S.rf⟩
  have E : cE p c cX11_bestWithout s m ([.ref (ad o), .int a0] : List Value).toArray (Cond.code yX11_bestWithout cX11_bestWithout 2 (some .int) :: wsA) D RX11 (CT cI cJ cZ cMic cSrc cSt cAI cAJ) := ⟨hx, hb, hts, hown, hK⟩
  have hl := lv_entry ([.ref (ad o), .int a0]) (n := 2) (Nat.le_of_ble_eq_true rfl)
  rw [lg_entry_eq]
  generalize (lg_sl ([.ref (ad o), .int a0]) ++ List.replicate (2 - (lg_sl ([.ref (ad o), .int a0])).length) Slot.unset).toArray = ls at hl ⊢
  have hl : lv_has ls 2 [(0, .ref (ad o)), (1, .int a0)] := hl
  have hgl := GL.rf T
  have had : ∀ n, n < T.1 → ad n = ad n := fun _ _ => rfl
  have hT1 := s_X11_bestWithout h
  have hcs := cs_ok hgl hT1
  refine w_cast (Nat.sub_self T.1).symm (Nat.sub_self (sg T)).symm ?_
  have cp0 := cpr0 hrc
  unfold g_X11_bestWithout at h
  refine lv_aload_n hx hb dX11_bestWithout_0 rfl (lv_at hl 0 rfl) ?_
  obtain ⟨g2, h⟩ := oif_some h
  obtain ⟨r5, T3, eT3, h⟩ := othr_n h
  refine q_cvv (As := []) (rest := []) E G hA hX hN hml (u_X11_needCamera l hst D cI cJ cZ cMic cSrc cSt cAI cAJ ad T o eT3) (cwV 0 hts (gaV qA_728 qA_729 qA_730 qA_131 qA_731) rfl rfl rfl (by decide +kernel) ⟨Nat.le_of_ble_eq_true rfl, Nat.le_of_ble_eq_true rfl⟩) (oO_k g2).1 (cc_o11 (oO_k g2).2) rfl rfl hl.1 rfl (lv_room (Nat.le_of_ble_eq_true rfl)) dX11_bestWithout_1 hcs (fun T4 H locs hq G => ?_)
  rw [hq] at G
  clear hq
  have cp1 := cpr_sp cp0 (s_X11_needCamera eT3)
  refine lv_aload_n hx hb dX11_bestWithout_4 rfl (lv_at hl 0 rfl) ?_
  refine lv_iload_n hx hb dX11_bestWithout_5 rfl (lv_at hl 1 rfl) ?_
  obtain ⟨g7, h⟩ := oif_some h
  obtain ⟨r10, T8, eT8, h⟩ := othr_n h
  refine q_cvv (As := [.int a0]) (rest := []) E G hA hX hN hml (u_X11_needMic l hst D cI cJ cZ cMic cSrc cSt cAI cAJ ad T3 o a0 eT8) (cwV 1 hts (gaV qA_734 qA_735 qA_736 qA_131 qA_737) rfl rfl rfl (by decide +kernel) ⟨Nat.le_of_ble_eq_true rfl, Nat.le_of_ble_eq_true rfl⟩) (oO_k g7).1 (cc_o11 (oO_k g7).2) rfl rfl hl.1 rfl (lv_room (Nat.le_of_ble_eq_true rfl)) dX11_bestWithout_6 hcs (fun T9 H locs hq G => ?_)
  rw [hq] at G
  clear hq
  have cp2 := cpr_sp cp1 (s_X11_needMic eT8)
  refine lv_aload_n hx hb dX11_bestWithout_9 rfl (lv_at hl 0 rfl) ?_
  obtain ⟨g12, h⟩ := oif_some h
  obtain ⟨n13, en13, h⟩ := obind_some h
  have h_n13 : n13 < T.1 := by rw [← cp2.1]; exact cp2.2.2 _ _ _ en13
  refine c_get E G o 7 (v := .ref (ad n13)) (oO_k g12).1 (cc_o11 (oO_k g12).2) rfl (fun w h => .tail _ (iA_23 h)) (by decide) (.tail _ qA_665) rfl (by rw [en13]; rfl) dX11_bestWithout_10 ?_
  clear en13
  refine lv_aload_n hx hb dX11_bestWithout_13 rfl (lv_at hl 0 rfl) ?_
  obtain ⟨g14, h⟩ := oif_some h
  obtain ⟨n15, en15, h⟩ := obind_some h
  have h_n15 : n15 < T.1 := by rw [← cp2.1]; exact cp2.2.2 _ _ _ en15
  refine c_get E G o 6 (v := .ref (ad n15)) (oO_k g14).1 (cc_o11 (oO_k g14).2) rfl (fun w h => .tail _ (iA_23 h)) (by decide) (.tail _ qA_664) rfl (by rw [en15]; rfl) dX11_bestWithout_14 ?_
  clear en15
  obtain ⟨g16, h⟩ := oif_some h
  obtain ⟨T17, eT17, h⟩ := obind_some h
  have hg2 := s_X8_copyFrom eT17
  have hrc2 := hg2.2.2 cp2.2.2
  have hT2 := s_X11_bestWithout_b20 _ _ _ h
  refine q_avv (As := [.ref (ad n15)]) (rest := []) E G hA hX hN hml (a_X8_copyFrom l hst D cI cJ cZ cMic cSrc cSt cAI cAJ ad T8 n13 n15 eT17 cp2.2.2 (by rw [cp2.1]; exact h_n13) (by rw [cp2.1]; exact h_n15)) (cwV 1 hts (gaV qA_911 qA_912 qA_913 qA_47 qA_603) rfl rfl rfl (by decide +kernel) ⟨Nat.le_of_ble_eq_true rfl, Nat.le_of_ble_eq_true rfl⟩) (oO_k g16).1 (cc_o8 (oO_k g16).2) rfl rfl hl.1 rfl (lv_room (Nat.le_of_ble_eq_true rfl)) dX11_bestWithout_17 (cs_av hgl cp2 hg2 hT2) (fun ad2 H locs hga G => ?_)
  refine w_cast (c2 := T17.1 - T.1) (s2 := sg T17 - sg T) (cs_f1 hgl cp2 hg2) (cs_f2 hgl cp2 hg2) ?_
  have hl := lv_sub hl [0, 1] rfl
  rw [show ad o = ad2 o from (hga o (by rw [cp2.1]; exact h_o)).symm] at hl
  exact a_X11_bestWithout_b20 E hA hX hN hml hst (fun ad H locs ls had G => W.iret (v := r1) hx hb hr (fun t ht hW => ⟨⟨r1, (T1, ad), rfl, ⟨rfl, rfl, had⟩, ⟨by rw [ht]; exact G.1, va_K.moved hW.alike hK, G.2.1⟩⟩, G.2.2.F ht⟩) G.2.2.2.2 dX11_bestWithout_34) _ _ _ _ _ _ _ h (GL.tr (gl_cpr hgl cp2) hg2) hrc2 (fun n hn => (hga n (by rw [cp2.1]; exact Nat.lt_of_lt_of_le hn hgl.1)).trans (had n hn)) (Nat.lt_of_lt_of_le (by rw [cp2.1]; exact h_o) hg2.1) G hl
set_option maxHeartbeats 4000000 in
set_option maxRecDepth 100000 in
theorem b_X11_bestWithout_b34 {p : Program} {l : Launch} {e : Env} {s : State} {m : MethodId} {args : Array Value} {below : List Frame} {meth : Method} {c : Code} {Qc : Array Value → State → Outcome → State → Prop} {XC : String → State → State → Prop} {D : va_G} {A : Nat → Prop} {cI cJ cZ cMic cSrc cSt cAI cAJ : ClassId} {ad0 : Nat → Nat} {T0 : AT} {e1 : Nat} {r1 : Int32} {T1 : AT} (E : cE p c cX11_bestWithout s m args (Cond.code yX11_bestWithout cX11_bestWithout 2 (some .int) :: wsA) D RX11 (CT cI cJ cZ cMic cSrc cSt cAI cAJ)) (hA : ∀ q : Nat, s.heap.size ≤ q → A q) (hX : xT A s) (hN : nX s) (hml : c.maxLocals = 2) (hst : l.stackTraces = false) (htab : ∀ x ∈ c.exceptionTable.toList, False) (hlocks : meth.locks = false) (kx : ∀ (ad : Nat → Nat) (H : Heap) (locs : List Loc) (t : State), (∀ n, n < T0.1 → ad n = ad0 n) → gC cI cJ cZ cMic cSrc cSt cAI cAJ D ad A s.heap H locs T1 → s.vm.Alike t.vm → H.size ≤ t.heap.size → (∀ q, q < H.size → t.heap[q]? = H[q]?) → XC (exn e1) s t) : ∀ (T : AT) (ad : Nat → Nat) (H : Heap) (locs : List Loc) (ls : Array Slot) (s0 : Int32), g_X11_bestWithout_b34 T s0 = some (e1 + 1, r1, T1) → GL T0 T → RC T → (∀ n, n < T0.1 → ad n = ad0 n) → gC cI cJ cZ cMic cSrc cSt cAI cAJ D ad A s.heap H locs T → lv_has ls 2 [] → W p l e { frames := 8, cells := T1.1 - T0.1 + 1, slots := sg T1 - sg T0 + 6, locals := 149 } s m args below meth c H locs (T.1 - T0.1) (sg T - sg T0) (vx_MQ below Qc XC args s (T1.1 - T0.1 + 1) (sg T1 - sg T0 + 6) A) (F0 m 34 ls [.int s0]) := by
  have hx := E.1
  have hb := E.2.1
  have hts := E.2.2.1
  have hown := E.2.2.2.1
  have hK := E.2.2.2.2
  intro T ad H locs ls s0 h hgl hrc had G hl
  have hT1 := s_X11_bestWithout_b34 _ _ h
  have hcs := cs_okx hgl hT1
  have hcx := cs_okx1 hgl hT1
  have cp0 := cpr0 hrc
  unfold g_X11_bestWithout_b34 at h
  exact (Nat.succ_ne_zero _ (congrArg Prod.fst (Option.some.inj h)).symm).elim
set_option maxHeartbeats 4000000 in
set_option maxRecDepth 100000 in
theorem b_X11_bestWithout_b20 {p : Program} {l : Launch} {e : Env} {s : State} {m : MethodId} {args : Array Value} {below : List Frame} {meth : Method} {c : Code} {Qc : Array Value → State → Outcome → State → Prop} {XC : String → State → State → Prop} {D : va_G} {A : Nat → Prop} {cI cJ cZ cMic cSrc cSt cAI cAJ : ClassId} {ad0 : Nat → Nat} {T0 : AT} {e1 : Nat} {r1 : Int32} {T1 : AT} (E : cE p c cX11_bestWithout s m args (Cond.code yX11_bestWithout cX11_bestWithout 2 (some .int) :: wsA) D RX11 (CT cI cJ cZ cMic cSrc cSt cAI cAJ)) (hA : ∀ q : Nat, s.heap.size ≤ q → A q) (hX : xT A s) (hN : nX s) (hml : c.maxLocals = 2) (hst : l.stackTraces = false) (htab : ∀ x ∈ c.exceptionTable.toList, False) (hlocks : meth.locks = false) (kx : ∀ (ad : Nat → Nat) (H : Heap) (locs : List Loc) (t : State), (∀ n, n < T0.1 → ad n = ad0 n) → gC cI cJ cZ cMic cSrc cSt cAI cAJ D ad A s.heap H locs T1 → s.vm.Alike t.vm → H.size ≤ t.heap.size → (∀ q, q < H.size → t.heap[q]? = H[q]?) → XC (exn e1) s t) : ∀ (T : AT) (ad : Nat → Nat) (H : Heap) (locs : List Loc) (ls : Array Slot) (l0 : Nat) (l1 : Int32), g_X11_bestWithout_b20 T l0 l1 = some (e1 + 1, r1, T1) → GL T0 T → RC T → (∀ n, n < T0.1 → ad n = ad0 n) → l0 < T.1 → gC cI cJ cZ cMic cSrc cSt cAI cAJ D ad A s.heap H locs T → lv_has ls 2 [(0, .ref (ad l0)), (1, .int l1)] → W p l e { frames := 8, cells := T1.1 - T0.1 + 1, slots := sg T1 - sg T0 + 6, locals := 149 } s m args below meth c H locs (T.1 - T0.1) (sg T - sg T0) (vx_MQ below Qc XC args s (T1.1 - T0.1 + 1) (sg T1 - sg T0 + 6) A) (F0 m 20 ls []) := by
  have hx := E.1
  have hb := E.2.1
  have hts := E.2.2.1
  have hown := E.2.2.2.1
  have hK := E.2.2.2.2
  intro T ad H locs ls l0 l1 h hgl hrc had h_l0 G hl
  have hT1 := s_X11_bestWithout_b20 _ _ _ h
  have hcs := cs_okx hgl hT1
  have hcx := cs_okx1 hgl hT1
  have cp0 := cpr0 hrc
  unfold g_X11_bestWithout_b20 at h
  refine lv_aload_n hx hb dX11_bestWithout_20 rfl (lv_at hl 0 rfl) ?_
  obtain ⟨g2, h⟩ := oif_some h
  obtain ⟨n3, en3, h⟩ := obind_some h
  have h_n3 : n3 < T.1 := by rw [← cp0.1]; exact cp0.2.2 _ _ _ en3
  refine c_get E G l0 7 (v := .ref (ad n3)) (oO_k g2).1 (cc_o11 (oO_k g2).2) rfl (fun w h => .tail _ (iA_23 h)) (by decide) (.tail _ qA_665) rfl (by rw [en3]; rfl) dX11_bestWithout_21 ?_
  clear en3
  obtain ⟨g4, h⟩ := oif_some h
  obtain ⟨n5, en5, h⟩ := obind_some h
  have h_n5 : n5 < T.1 := by rw [← cp0.1]; exact cp0.2.2 _ _ _ en5
  refine c_get E G n3 3 (v := .ref (ad n5)) (oO_k g4).1 (cc_o8 (oO_k g4).2) rfl (fun w h => .tail _ (iA_16 h)) (by decide) (.tail _ qA_746) rfl (by rw [en5]; rfl) dX11_bestWithout_24 ?_
  clear en5
  refine lv_iload_n hx hb dX11_bestWithout_27 rfl (lv_at hl 1 rfl) ?_
  refine lv_iconst (v := 1) hx hb dX11_bestWithout_28 (by decide) ?_
  obtain ⟨g6, h⟩ := oif_some h
  obtain ⟨g7, h⟩ := oif_some h
  refine c_zast E G n5 2 (k := l1.toNatClampNeg) (v := 1) (aA_k g6).1 (cc_a102 (aA_k g6).2.1) rfl (inb_k g7).1 (inb_k g7).2 (aA_k g6).2.2 rfl dX11_bestWithout_29 (fun H locs G => ?_)
  have G := gC_up_i (f := upd (T.2.2.1 n5) l1.toNatClampNeg 1) (ccv_102 (aA_k g6).2.1) G
  obtain ⟨T8, eT8, h⟩ := elet_some h
  have G : gC cI cJ cZ cMic cSrc cSt cAI cAJ D ad A s.heap H locs T8 := by rw [eT8]; exact G
  have cp1 := show CPR T T8 from by rw [eT8]; exact cpr_sp cp0 sp_uI
  clear eT8
  refine lv_aload_n hx hb dX11_bestWithout_30 rfl (lv_at hl 0 rfl) ?_
  obtain ⟨g9, h⟩ := oif_some h
  obtain ⟨r11, T10, eT10, h⟩ := obind2_some h
  have hg2 := s_X11_trialBest eT10
  have hrc2 := hg2.2.2 cp1.2.2
  have hT2 := s_X11_bestWithout_b34 _ _ h
  refine q_avi (As := []) (rest := []) E G hA hX hN hml (a_X11_trialBest l hst D cI cJ cZ cMic cSrc cSt cAI cAJ ad T8 l0 eT10 cp1.2.2 (by rw [cp1.1]; exact h_l0)) (cwV 0 hts (gaV qA_917 qA_918 qA_919 qA_131 qA_920) rfl rfl rfl (by decide +kernel) ⟨Nat.le_of_ble_eq_true rfl, Nat.le_of_ble_eq_true rfl⟩) (oO_k g9).1 (cc_o11 (oO_k g9).2) rfl rfl hl.1 rfl (lv_room (Nat.le_of_ble_eq_true rfl)) dX11_bestWithout_31 (cs_avx hgl cp1 hg2 hT2) (fun ad2 H locs hga G => ?_)
  refine w_cast (c2 := T10.1 - T0.1) (s2 := sg T10 - sg T0) (cs_f1 hgl cp1 hg2) (cs_f2 hgl cp1 hg2) ?_
  have hl := lv_sub hl [] rfl
  exact b_X11_bestWithout_b34 E hA hX hN hml hst htab hlocks kx _ _ _ _ _ _ h (GL.tr (gl_cpr hgl cp1) hg2) hrc2 (fun n hn => (hga n (by rw [cp1.1]; exact Nat.lt_of_lt_of_le hn hgl.1)).trans (had n hn)) G hl
set_option maxHeartbeats 4000000 in
set_option maxRecDepth 100000 in
theorem b_X11_bestWithout (l : Launch) (hst : l.stackTraces = false) (D : va_G) (cI cJ cZ cMic cSrc cSt cAI cAJ : ClassId) (ad : Nat → Nat) (T : AT) (o : Nat) (a0 : Int32) {e1 : Nat} {r1 : Int32} {T1 : AT} (h : g_X11_bestWithout T o a0 = some (e1 + 1, r1, T1)) (hrc : RC T) (h_o : o < T.1) : kAXi l yX11_bestWithout (Cond.code yX11_bestWithout cX11_bestWithout 2 (some .int) :: wsA) 8 149 cI cJ cZ cMic cSrc cSt cAI cAJ D ad T [.ref (ad o), .int a0] e1 T1 := by
  intro sz
  refine vx_ofW (cc := cX11_bestWithout) (maxL := 2) (ret := (some .int)) (by decide) rfl ?_
  intro p e s m args below meth c s₁ B hml htab hv
  obtain ⟨rfl, hsz, hP, hK, hD0, hX, hN⟩ := hv
  have hx := B.exec
  have hb := B.bytes
  have hr := B.returns
  have hts := atoms_spec (ws := (Cond.code yX11_bestWithout cX11_bestWithout 2 (some .int) :: wsA)) B.pre
  have hown : s.vm.findClass RX11 = some m.cls := findClass_of_methodNamed B.named
  have hlocks := B.notSynchronized
  subst hsz
  have hD := hD0.self (sz := s.heap.size)
  generalize hAe : va_A (cW ad T.1 (cc cI cJ cZ cMic cSrc cSt cAI cAJ ad T)) s.heap.size = A at hD hX ⊢
  have hA : ∀ q : Nat, s.heap.size ≤ q → A q := fun q h => by rw [← hAe]; exact Or.inr h
  have G : gC cI cJ cZ cMic cSrc cSt cAI cAJ D ad A s.heap s.heap [] T := ⟨hP, hD, va_S.rf⟩
  have E : cE p c cX11_bestWithout s m ([.ref (ad o), .int a0] : List Value).toArray (Cond.code yX11_bestWithout cX11_bestWithout 2 (some .int) :: wsA) D RX11 (CT cI cJ cZ cMic cSrc cSt cAI cAJ) := ⟨hx, hb, hts, hown, hK⟩
  have htab : ∀ x ∈ c.exceptionTable.toList, False := fun x hx => htab x hx
  have hl := lv_entry ([.ref (ad o), .int a0]) (n := 2) (Nat.le_of_ble_eq_true rfl)
  rw [lg_entry_eq]
  generalize (lg_sl ([.ref (ad o), .int a0]) ++ List.replicate (2 - (lg_sl ([.ref (ad o), .int a0])).length) Slot.unset).toArray = ls at hl ⊢
  have hl : lv_has ls 2 [(0, .ref (ad o)), (1, .int a0)] := hl
  have hgl := GL.rf T
  have had : ∀ n, n < T.1 → ad n = ad n := fun _ _ => rfl
  have hT1 := s_X11_bestWithout h
  have hcs := cs_okx hgl hT1
  have hcx := cs_okx1 hgl hT1
  refine w_cast (Nat.sub_self T.1).symm (Nat.sub_self (sg T)).symm ?_
  have cp0 := cpr0 hrc
  unfold g_X11_bestWithout at h
  refine lv_aload_n hx hb dX11_bestWithout_0 rfl (lv_at hl 0 rfl) ?_
  obtain ⟨g2, h⟩ := oif_some h
  rcases othr_t h with ⟨r0, eT3⟩ | ⟨r5, T3, eT3, h⟩
  · refine q_xvv (As := []) (rest := []) E G hA hX hN hml (x_X11_needCamera l hst D cI cJ cZ cMic cSrc cSt cAI cAJ ad T o eT3) (cwV 0 hts (gaV qA_728 qA_729 qA_730 qA_131 qA_731) rfl rfl rfl (by decide +kernel) ⟨Nat.le_of_ble_eq_true rfl, Nat.le_of_ble_eq_true rfl⟩) (oO_k g2).1 (cc_o11 (oO_k g2).2) rfl rfl hl.1 rfl (lv_room (Nat.le_of_ble_eq_true rfl)) dX11_bestWithout_1 hcx (fun E9 ce q9 T9 H locs hp G hce hcv hcl => ?_)
    obtain ⟨hE, hT⟩ := hp
    subst hE
    rw [hT] at G
    exact vx_out (fun x hx => (htab x hx).elim) hlocks hce hcv hcl (fun t ht hvm => ⟨(T1, ad), trivial, ⟨⟨rfl, rfl, had⟩, by rw [ht]; exact G.1, va_K.moved hvm hK, G.2.1⟩, G.2.2.F ht⟩) G.2.2.2.2 hcx.1 hcx.2
  refine q_cvv (As := []) (rest := []) E G hA hX hN hml (u_X11_needCamera l hst D cI cJ cZ cMic cSrc cSt cAI cAJ ad T o eT3) (cwV 0 hts (gaV qA_728 qA_729 qA_730 qA_131 qA_731) rfl rfl rfl (by decide +kernel) ⟨Nat.le_of_ble_eq_true rfl, Nat.le_of_ble_eq_true rfl⟩) (oO_k g2).1 (cc_o11 (oO_k g2).2) rfl rfl hl.1 rfl (lv_room (Nat.le_of_ble_eq_true rfl)) dX11_bestWithout_1 hcs (fun T4 H locs hq G => ?_)
  rw [hq] at G
  clear hq
  have cp1 := cpr_sp cp0 (s_X11_needCamera eT3)
  refine lv_aload_n hx hb dX11_bestWithout_4 rfl (lv_at hl 0 rfl) ?_
  refine lv_iload_n hx hb dX11_bestWithout_5 rfl (lv_at hl 1 rfl) ?_
  obtain ⟨g7, h⟩ := oif_some h
  rcases othr_t h with ⟨r0, eT8⟩ | ⟨r10, T8, eT8, h⟩
  · refine q_xvv (As := [.int a0]) (rest := []) E G hA hX hN hml (x_X11_needMic l hst D cI cJ cZ cMic cSrc cSt cAI cAJ ad T3 o a0 eT8) (cwV 1 hts (gaV qA_734 qA_735 qA_736 qA_131 qA_737) rfl rfl rfl (by decide +kernel) ⟨Nat.le_of_ble_eq_true rfl, Nat.le_of_ble_eq_true rfl⟩) (oO_k g7).1 (cc_o11 (oO_k g7).2) rfl rfl hl.1 rfl (lv_room (Nat.le_of_ble_eq_true rfl)) dX11_bestWithout_6 hcx (fun E9 ce q9 T9 H locs hp G hce hcv hcl => ?_)
    obtain ⟨hE, hT⟩ := hp
    subst hE
    rw [hT] at G
    exact vx_out (fun x hx => (htab x hx).elim) hlocks hce hcv hcl (fun t ht hvm => ⟨(T1, ad), trivial, ⟨⟨rfl, rfl, had⟩, by rw [ht]; exact G.1, va_K.moved hvm hK, G.2.1⟩, G.2.2.F ht⟩) G.2.2.2.2 hcx.1 hcx.2
  refine q_cvv (As := [.int a0]) (rest := []) E G hA hX hN hml (u_X11_needMic l hst D cI cJ cZ cMic cSrc cSt cAI cAJ ad T3 o a0 eT8) (cwV 1 hts (gaV qA_734 qA_735 qA_736 qA_131 qA_737) rfl rfl rfl (by decide +kernel) ⟨Nat.le_of_ble_eq_true rfl, Nat.le_of_ble_eq_true rfl⟩) (oO_k g7).1 (cc_o11 (oO_k g7).2) rfl rfl hl.1 rfl (lv_room (Nat.le_of_ble_eq_true rfl)) dX11_bestWithout_6 hcs (fun T9 H locs hq G => ?_)
  rw [hq] at G
  clear hq
  have cp2 := cpr_sp cp1 (s_X11_needMic eT8)
  refine lv_aload_n hx hb dX11_bestWithout_9 rfl (lv_at hl 0 rfl) ?_
  obtain ⟨g12, h⟩ := oif_some h
  obtain ⟨n13, en13, h⟩ := obind_some h
  have h_n13 : n13 < T.1 := by rw [← cp2.1]; exact cp2.2.2 _ _ _ en13
  refine c_get E G o 7 (v := .ref (ad n13)) (oO_k g12).1 (cc_o11 (oO_k g12).2) rfl (fun w h => .tail _ (iA_23 h)) (by decide) (.tail _ qA_665) rfl (by rw [en13]; rfl) dX11_bestWithout_10 ?_
  clear en13
  refine lv_aload_n hx hb dX11_bestWithout_13 rfl (lv_at hl 0 rfl) ?_
  obtain ⟨g14, h⟩ := oif_some h
  obtain ⟨n15, en15, h⟩ := obind_some h
  have h_n15 : n15 < T.1 := by rw [← cp2.1]; exact cp2.2.2 _ _ _ en15
  refine c_get E G o 6 (v := .ref (ad n15)) (oO_k g14).1 (cc_o11 (oO_k g14).2) rfl (fun w h => .tail _ (iA_23 h)) (by decide) (.tail _ qA_664) rfl (by rw [en15]; rfl) dX11_bestWithout_14 ?_
  clear en15
  obtain ⟨g16, h⟩ := oif_some h
  obtain ⟨T17, eT17, h⟩ := obind_some h
  have hg2 := s_X8_copyFrom eT17
  have hrc2 := hg2.2.2 cp2.2.2
  have hT2 := s_X11_bestWithout_b20 _ _ _ h
  refine q_avv (As := [.ref (ad n15)]) (rest := []) E G hA hX hN hml (a_X8_copyFrom l hst D cI cJ cZ cMic cSrc cSt cAI cAJ ad T8 n13 n15 eT17 cp2.2.2 (by rw [cp2.1]; exact h_n13) (by rw [cp2.1]; exact h_n15)) (cwV 1 hts (gaV qA_911 qA_912 qA_913 qA_47 qA_603) rfl rfl rfl (by decide +kernel) ⟨Nat.le_of_ble_eq_true rfl, Nat.le_of_ble_eq_true rfl⟩) (oO_k g16).1 (cc_o8 (oO_k g16).2) rfl rfl hl.1 rfl (lv_room (Nat.le_of_ble_eq_true rfl)) dX11_bestWithout_17 (cs_avx hgl cp2 hg2 hT2) (fun ad2 H locs hga G => ?_)
  refine w_cast (c2 := T17.1 - T.1) (s2 := sg T17 - sg T) (cs_f1 hgl cp2 hg2) (cs_f2 hgl cp2 hg2) ?_
  have hl := lv_sub hl [0, 1] rfl
  rw [show ad o = ad2 o from (hga o (by rw [cp2.1]; exact h_o)).symm] at hl
  exact b_X11_bestWithout_b20 E hA hX hN hml hst htab hlocks (fun ad H locs t had G hvm h1 h2 => ⟨(T1, ad), trivial, ⟨⟨rfl, rfl, had⟩, (c_thrown G hK hvm h1 h2).1⟩, (c_thrown G hK hvm h1 h2).2⟩) _ _ _ _ _ _ _ h (GL.tr (gl_cpr hgl cp2) hg2) hrc2 (fun n hn => (hga n (by rw [cp2.1]; exact Nat.lt_of_lt_of_le hn hgl.1)).trans (had n hn)) (Nat.lt_of_lt_of_le (by rw [cp2.1]; exact h_o) hg2.1) G hl
def g_X11_bestIfOff_b49  (T : AT) (s0 : Int32) : Option (Nat × Int32 × AT) := some (0, s0, T)
def g_X11_bestIfOff_b45  (T : AT) (l0 : Nat) : Option (Nat × Int32 × AT) := oif (oO T l0 11 = true) <| obind2 (g_X11_trialBest T l0) fun r4 T3 => g_X11_bestIfOff_b49 T3 r4
def g_X11_bestIfOff_b20  (T : AT) (l0 : Nat) (l1 : Int32) : Option (Nat × Int32 × AT) := oif (oO T l0 11 = true) <| obind (T.2.2.2.2 l0 7) fun n3 => oif (oO T n3 8 = true) <| obind (T.2.2.2.2 n3 5) fun n5 => oif (aA T n5 102 = true) <| oif (inb l1 (T.2.1 n5).2 = true) <| elet (uI T n5 l1.toNatClampNeg 0) fun T8 => oif (oO T8 l0 11 = true) <| obind (T8.2.2.2.2 l0 2) fun n10 => oif (oO T8 l0 11 = true) <| obind (T8.2.2.2.2 l0 14) fun n12 => oif (oO T8 l0 11 = true) <| obind (T8.2.2.2.2 l0 7) fun n14 => oif (oO T8 n10 5 = true) <| obind (g_X5_record T8 n10 n12 n14) fun T16 => g_X11_bestIfOff_b45 T16 l0
def g_X11_bestIfOff (T : AT) (o : Nat) (a0 : Int32) : Option (Nat × Int32 × AT) := oif (oO T o 11 = true) <| othr (g_X11_needCamera T o) 0 fun r5 T3 => oif (oO T3 o 11 = true) <| othr (g_X11_needSource T3 o a0) 0 fun r10 T8 => oif (oO T8 o 11 = true) <| obind (T8.2.2.2.2 o 7) fun n13 => oif (oO T8 o 11 = true) <| obind (T8.2.2.2.2 o 6) fun n15 => oif (oO T8 n13 8 = true) <| obind (g_X8_copyFrom T8 n13 n15) fun T17 => g_X11_bestIfOff_b20 T17 o a0
set_option maxHeartbeats 4000000 in
set_option maxRecDepth 100000 in
theorem s_X11_bestIfOff_b49 {e1 : Nat} {r1 : Int32} {T1 : AT} : ∀ (T : AT) (s0 : Int32), g_X11_bestIfOff_b49 T s0 = some (e1, r1, T1) → GL T T1 := by
  intro T s0 h
  have p0 := GL.rf T
  unfold g_X11_bestIfOff_b49 at h
  rw [← (osome3 h).2.2]
  exact p0
set_option maxHeartbeats 4000000 in
set_option maxRecDepth 100000 in
theorem s_X11_bestIfOff_b45 {e1 : Nat} {r1 : Int32} {T1 : AT} : ∀ (T : AT) (l0 : Nat), g_X11_bestIfOff_b45 T l0 = some (e1, r1, T1) → GL T T1 := by
  intro T l0 h
  have p0 := GL.rf T
  unfold g_X11_bestIfOff_b45 at h
  obtain ⟨g2, h⟩ := oif_some h
  obtain ⟨r4, T3, eT3, h⟩ := obind2_some h
  have p1 : GL T T3 := GL.tr p0 (s_X11_trialBest eT3)
  exact GL.tr p1 (s_X11_bestIfOff_b49 _ _ h)
set_option maxHeartbeats 4000000 in
set_option maxRecDepth 100000 in
theorem s_X11_bestIfOff_b20 {e1 : Nat} {r1 : Int32} {T1 : AT} : ∀ (T : AT) (l0 : Nat) (l1 : Int32), g_X11_bestIfOff_b20 T l0 l1 = some (e1, r1, T1) → GL T T1 := by
  intro T l0 l1 h
  have p0 := GL.rf T
  unfold g_X11_bestIfOff_b20 at h
  obtain ⟨g2, h⟩ := oif_some h
  obtain ⟨n3, en3, h⟩ := obind_some h
  obtain ⟨g4, h⟩ := oif_some h
  obtain ⟨n5, en5, h⟩ := obind_some h
  obtain ⟨g6, h⟩ := oif_some h
  obtain ⟨g7, h⟩ := oif_some h
  obtain ⟨T8, eT8, h⟩ := elet_some h
  have p1 : GL T T8 := GL.tr p0 (by rw [eT8]; exact gl_sp sp_uI)
  obtain ⟨g9, h⟩ := oif_some h
  obtain ⟨n10, en10, h⟩ := obind_some h
  obtain ⟨g11, h⟩ := oif_some h
  obtain ⟨n12, en12, h⟩ := obind_some h
  obtain ⟨g13, h⟩ := oif_some h
  obtain ⟨n14, en14, h⟩ := obind_some h
  obtain ⟨g15, h⟩ := oif_some h
  obtain ⟨T16, eT16, h⟩ := obind_some h
  have p2 : GL T T16 := GL.tr p1 (s_X5_record eT16)
  exact GL.tr p2 (s_X11_bestIfOff_b45 _ _ h)
set_option maxHeartbeats 4000000 in
set_option maxRecDepth 100000 in
theorem s_X11_bestIfOff {T : AT} {o : Nat} {a0 : Int32} {e1 : Nat} {r1 : Int32} {T1 : AT} (h : g_X11_bestIfOff T o a0 = some (e1, r1, T1)) : GL T T1 := by
  have p0 := GL.rf T
  unfold g_X11_bestIfOff at h
  obtain ⟨g2, h⟩ := oif_some h
  rcases othr_s h with ⟨k9, r9, e9, -⟩ | ⟨r4, T3, eT3, h⟩
  · exact GL.tr p0 (gl_sp (s_X11_needCamera e9))
  have p1 : GL T T3 := GL.tr p0 (gl_sp (s_X11_needCamera eT3))
  obtain ⟨g5, h⟩ := oif_some h
  rcases othr_s h with ⟨k9, r9, e9, -⟩ | ⟨r7, T6, eT6, h⟩
  · exact GL.tr p1 (gl_sp (s_X11_needSource e9))
  have p2 : GL T T6 := GL.tr p1 (gl_sp (s_X11_needSource eT6))
  obtain ⟨g8, h⟩ := oif_some h
  obtain ⟨n9, en9, h⟩ := obind_some h
  obtain ⟨g10, h⟩ := oif_some h
  obtain ⟨n11, en11, h⟩ := obind_some h
  obtain ⟨g12, h⟩ := oif_some h
  obtain ⟨T13, eT13, h⟩ := obind_some h
  have p3 : GL T T13 := GL.tr p2 (s_X8_copyFrom eT13)
  exact GL.tr p3 (s_X11_bestIfOff_b20 _ _ _ h)
set_option maxHeartbeats 4000000 in
set_option maxRecDepth 100000 in
theorem a_X11_bestIfOff_b49 {p : Program} {l : Launch} {e : Env} {s : State} {m : MethodId} {args : Array Value} {below : List Frame} {meth : Method} {c : Code} {Q : State → Prop} {D : va_G} {A : Nat → Prop} {cI cJ cZ cMic cSrc cSt cAI cAJ : ClassId} {ad0 : Nat → Nat} {T0 : AT} {r1 : Int32} {T1 : AT} (E : cE p c cX11_bestIfOff s m args (Cond.code yX11_bestIfOff cX11_bestIfOff 2 (some .int) :: wsA) D RX11 (CT cI cJ cZ cMic cSrc cSt cAI cAJ)) (hA : ∀ q : Nat, s.heap.size ≤ q → A q) (hX : xT A s) (hN : nX s) (hml : c.maxLocals = 2) (hst : l.stackTraces = false) (kr49 : ∀ (ad : Nat → Nat) (H : Heap) (locs : List Loc) (ls : Array Slot), (∀ n, n < T0.1 → ad n = ad0 n) → gC cI cJ cZ cMic cSrc cSt cAI cAJ D ad A s.heap H locs T1 → W p l e { frames := 8, cells := T1.1 - T0.1, slots := sg T1 - sg T0, locals := 149 } s m args below meth c H locs (T1.1 - T0.1) (sg T1 - sg T0) Q (F0 m 49 ls [.int r1])) : ∀ (T : AT) (ad : Nat → Nat) (H : Heap) (locs : List Loc) (ls : Array Slot) (s0 : Int32), g_X11_bestIfOff_b49 T s0 = some (0, r1, T1) → GL T0 T → RC T → (∀ n, n < T0.1 → ad n = ad0 n) → gC cI cJ cZ cMic cSrc cSt cAI cAJ D ad A s.heap H locs T → lv_has ls 2 [] → W p l e { frames := 8, cells := T1.1 - T0.1, slots := sg T1 - sg T0, locals := 149 } s m args below meth c H locs (T.1 - T0.1) (sg T - sg T0) Q (F0 m 49 ls [.int s0]) := by
  have hx := E.1
  have hb := E.2.1
  have hts := E.2.2.1
  have hown := E.2.2.2.1
  have hK := E.2.2.2.2
  intro T ad H locs ls s0 h hgl hrc had G hl
  have hT1 := s_X11_bestIfOff_b49 _ _ h
  have hcs := cs_ok hgl hT1
  have cp0 := cpr0 hrc
  unfold g_X11_bestIfOff_b49 at h
  rw [(osome3 h).2.2] at G
  refine w_cast (c2 := T1.1 - T0.1) (s2 := sg T1 - sg T0) (by rw [← (osome3 h).2.2, cp0.1] <;> rfl) (by rw [← (osome3 h).2.2, sg_cpr cp0] <;> rfl) ?_
  refine lv_to ((osome3 h).2.1) ?_
  exact kr49 ad _ _ _ had G
set_option maxHeartbeats 4000000 in
set_option maxRecDepth 100000 in
theorem a_X11_bestIfOff_b45 {p : Program} {l : Launch} {e : Env} {s : State} {m : MethodId} {args : Array Value} {below : List Frame} {meth : Method} {c : Code} {Q : State → Prop} {D : va_G} {A : Nat → Prop} {cI cJ cZ cMic cSrc cSt cAI cAJ : ClassId} {ad0 : Nat → Nat} {T0 : AT} {r1 : Int32} {T1 : AT} (E : cE p c cX11_bestIfOff s m args (Cond.code yX11_bestIfOff cX11_bestIfOff 2 (some .int) :: wsA) D RX11 (CT cI cJ cZ cMic cSrc cSt cAI cAJ)) (hA : ∀ q : Nat, s.heap.size ≤ q → A q) (hX : xT A s) (hN : nX s) (hml : c.maxLocals = 2) (hst : l.stackTraces = false) (kr49 : ∀ (ad : Nat → Nat) (H : Heap) (locs : List Loc) (ls : Array Slot), (∀ n, n < T0.1 → ad n = ad0 n) → gC cI cJ cZ cMic cSrc cSt cAI cAJ D ad A s.heap H locs T1 → W p l e { frames := 8, cells := T1.1 - T0.1, slots := sg T1 - sg T0, locals := 149 } s m args below meth c H locs (T1.1 - T0.1) (sg T1 - sg T0) Q (F0 m 49 ls [.int r1])) : ∀ (T : AT) (ad : Nat → Nat) (H : Heap) (locs : List Loc) (ls : Array Slot) (l0 : Nat), g_X11_bestIfOff_b45 T l0 = some (0, r1, T1) → GL T0 T → RC T → (∀ n, n < T0.1 → ad n = ad0 n) → l0 < T.1 → gC cI cJ cZ cMic cSrc cSt cAI cAJ D ad A s.heap H locs T → lv_has ls 2 [(0, .ref (ad l0))] → W p l e { frames := 8, cells := T1.1 - T0.1, slots := sg T1 - sg T0, locals := 149 } s m args below meth c H locs (T.1 - T0.1) (sg T - sg T0) Q (F0 m 45 ls []) := by
  have hx := E.1
  have hb := E.2.1
  have hts := E.2.2.1
  have hown := E.2.2.2.1
  have hK := E.2.2.2.2
  intro T ad H locs ls l0 h hgl hrc had h_l0 G hl
  have hT1 := s_X11_bestIfOff_b45 _ _ h
  have hcs := cs_ok hgl hT1
  have cp0 := cpr0 hrc
  unfold g_X11_bestIfOff_b45 at h
  refine lv_aload_n hx hb dX11_bestIfOff_45 rfl (lv_at hl 0 rfl) ?_
  obtain ⟨g2, h⟩ := oif_some h
  obtain ⟨r4, T3, eT3, h⟩ := obind2_some h
  have hg2 := s_X11_trialBest eT3
  have hrc2 := hg2.2.2 cp0.2.2
  have hT2 := s_X11_bestIfOff_b49 _ _ h
  refine q_avi (As := []) (rest := []) E G hA hX hN hml (a_X11_trialBest l hst D cI cJ cZ cMic cSrc cSt cAI cAJ ad T l0 eT3 cp0.2.2 (by rw [cp0.1]; exact h_l0)) (cwV 0 hts (gaV qA_917 qA_918 qA_919 qA_131 qA_920) rfl rfl rfl (by decide +kernel) ⟨Nat.le_of_ble_eq_true rfl, Nat.le_of_ble_eq_true rfl⟩) (oO_k g2).1 (cc_o11 (oO_k g2).2) rfl rfl hl.1 rfl (lv_room (Nat.le_of_ble_eq_true rfl)) dX11_bestIfOff_46 (cs_av hgl cp0 hg2 hT2) (fun ad2 H locs hga G => ?_)
  refine w_cast (c2 := T3.1 - T0.1) (s2 := sg T3 - sg T0) (cs_f1 hgl cp0 hg2) (cs_f2 hgl cp0 hg2) ?_
  have hl := lv_sub hl [] rfl
  exact a_X11_bestIfOff_b49 E hA hX hN hml hst kr49 _ _ _ _ _ _ h (GL.tr (gl_cpr hgl cp0) hg2) hrc2 (fun n hn => (hga n (by rw [cp0.1]; exact Nat.lt_of_lt_of_le hn hgl.1)).trans (had n hn)) G hl
set_option maxHeartbeats 4000000 in
set_option maxRecDepth 100000 in
theorem a_X11_bestIfOff_b20 {p : Program} {l : Launch} {e : Env} {s : State} {m : MethodId} {args : Array Value} {below : List Frame} {meth : Method} {c : Code} {Q : State → Prop} {D : va_G} {A : Nat → Prop} {cI cJ cZ cMic cSrc cSt cAI cAJ : ClassId} {ad0 : Nat → Nat} {T0 : AT} {r1 : Int32} {T1 : AT} (E : cE p c cX11_bestIfOff s m args (Cond.code yX11_bestIfOff cX11_bestIfOff 2 (some .int) :: wsA) D RX11 (CT cI cJ cZ cMic cSrc cSt cAI cAJ)) (hA : ∀ q : Nat, s.heap.size ≤ q → A q) (hX : xT A s) (hN : nX s) (hml : c.maxLocals = 2) (hst : l.stackTraces = false) (kr49 : ∀ (ad : Nat → Nat) (H : Heap) (locs : List Loc) (ls : Array Slot), (∀ n, n < T0.1 → ad n = ad0 n) → gC cI cJ cZ cMic cSrc cSt cAI cAJ D ad A s.heap H locs T1 → W p l e { frames := 8, cells := T1.1 - T0.1, slots := sg T1 - sg T0, locals := 149 } s m args below meth c H locs (T1.1 - T0.1) (sg T1 - sg T0) Q (F0 m 49 ls [.int r1])) : ∀ (T : AT) (ad : Nat → Nat) (H : Heap) (locs : List Loc) (ls : Array Slot) (l0 : Nat) (l1 : Int32), g_X11_bestIfOff_b20 T l0 l1 = some (0, r1, T1) → GL T0 T → RC T → (∀ n, n < T0.1 → ad n = ad0 n) → l0 < T.1 → gC cI cJ cZ cMic cSrc cSt cAI cAJ D ad A s.heap H locs T → lv_has ls 2 [(0, .ref (ad l0)), (1, .int l1)] → W p l e { frames := 8, cells := T1.1 - T0.1, slots := sg T1 - sg T0, locals := 149 } s m args below meth c H locs (T.1 - T0.1) (sg T - sg T0) Q (F0 m 20 ls []) := by
  have hx := E.1
  have hb := E.2.1
  have hts := E.2.2.1
  have hown := E.2.2.2.1
  have hK := E.2.2.2.2
  intro T ad H locs ls l0 l1 h hgl hrc had h_l0 G hl
  have hT1 := s_X11_bestIfOff_b20 _ _ _ h
  have hcs := cs_ok hgl hT1
  have cp0 := cpr0 hrc
  unfold g_X11_bestIfOff_b20 at h
  refine lv_aload_n hx hb dX11_bestIfOff_20 rfl (lv_at hl 0 rfl) ?_
  obtain ⟨g2, h⟩ := oif_some h
  obtain ⟨n3, en3, h⟩ := obind_some h
  have h_n3 : n3 < T.1 := by rw [← cp0.1]; exact cp0.2.2 _ _ _ en3
  refine c_get E G l0 7 (v := .ref (ad n3)) (oO_k g2).1 (cc_o11 (oO_k g2).2) rfl (fun w h => .tail _ (iA_23 h)) (by decide) (.tail _ qA_665) rfl (by rw [en3]; rfl) dX11_bestIfOff_21 ?_
  clear en3
  obtain ⟨g4, h⟩ := oif_some h
  obtain ⟨n5, en5, h⟩ := obind_some h
  have h_n5 : n5 < T.1 := by rw [← cp0.1]; exact cp0.2.2 _ _ _ en5
  refine c_get E G n3 5 (v := .ref (ad n5)) (oO_k g4).1 (cc_o8 (oO_k g4).2) rfl (fun w h => .tail _ (iA_16 h)) (by decide) (.tail _ qA_772) rfl (by rw [en5]; rfl) dX11_bestIfOff_24 ?_
  clear en5
  refine lv_iload_n hx hb dX11_bestIfOff_27 rfl (lv_at hl 1 rfl) ?_
  refine lv_iconst (v := 0) hx hb dX11_bestIfOff_28 (by decide) ?_
  obtain ⟨g6, h⟩ := oif_some h
  obtain ⟨g7, h⟩ := oif_some h
  refine c_zast E G n5 2 (k := l1.toNatClampNeg) (v := 0) (aA_k g6).1 (cc_a102 (aA_k g6).2.1) rfl (inb_k g7).1 (inb_k g7).2 (aA_k g6).2.2 rfl dX11_bestIfOff_29 (fun H locs G => ?_)
  have G := gC_up_i (f := upd (T.2.2.1 n5) l1.toNatClampNeg 0) (ccv_102 (aA_k g6).2.1) G
  obtain ⟨T8, eT8, h⟩ := elet_some h
  have G : gC cI cJ cZ cMic cSrc cSt cAI cAJ D ad A s.heap H locs T8 := by rw [eT8]; exact G
  have cp1 := show CPR T T8 from by rw [eT8]; exact cpr_sp cp0 sp_uI
  clear eT8
  refine lv_aload_n hx hb dX11_bestIfOff_30 rfl (lv_at hl 0 rfl) ?_
  obtain ⟨g9, h⟩ := oif_some h
  obtain ⟨n10, en10, h⟩ := obind_some h
  have h_n10 : n10 < T.1 := by rw [← cp1.1]; exact cp1.2.2 _ _ _ en10
  refine c_get E G l0 2 (v := .ref (ad n10)) (oO_k g9).1 (cc_o11 (oO_k g9).2) rfl (fun w h => .tail _ (iA_23 h)) (by decide) (.tail _ qA_654) rfl (by rw [en10]; rfl) dX11_bestIfOff_31 ?_
  clear en10
  refine lv_aload_n hx hb dX11_bestIfOff_34 rfl (lv_at hl 0 rfl) ?_
  obtain ⟨g11, h⟩ := oif_some h
  obtain ⟨n12, en12, h⟩ := obind_some h
  have h_n12 : n12 < T.1 := by rw [← cp1.1]; exact cp1.2.2 _ _ _ en12
  refine c_get E G l0 14 (v := .ref (ad n12)) (oO_k g11).1 (cc_o11 (oO_k g11).2) rfl (fun w h => .tail _ (iA_23 h)) (by decide) (.tail _ qA_675) rfl (by rw [en12]; rfl) dX11_bestIfOff_35 ?_
  clear en12
  refine lv_aload_n hx hb dX11_bestIfOff_38 rfl (lv_at hl 0 rfl) ?_
  obtain ⟨g13, h⟩ := oif_some h
  obtain ⟨n14, en14, h⟩ := obind_some h
  have h_n14 : n14 < T.1 := by rw [← cp1.1]; exact cp1.2.2 _ _ _ en14
  refine c_get E G l0 7 (v := .ref (ad n14)) (oO_k g13).1 (cc_o11 (oO_k g13).2) rfl (fun w h => .tail _ (iA_23 h)) (by decide) (.tail _ qA_665) rfl (by rw [en14]; rfl) dX11_bestIfOff_39 ?_
  clear en14
  obtain ⟨g15, h⟩ := oif_some h
  obtain ⟨T16, eT16, h⟩ := obind_some h
  have hg2 := s_X5_record eT16
  have hrc2 := hg2.2.2 cp1.2.2
  have hT2 := s_X11_bestIfOff_b45 _ _ h
  refine q_avv (As := [.ref (ad n12), .ref (ad n14)]) (rest := []) E G hA hX hN hml (a_X5_record l hst D cI cJ cZ cMic cSrc cSt cAI cAJ ad T8 n10 n12 n14 eT16 cp1.2.2 (by rw [cp1.1]; exact h_n10) (by rw [cp1.1]; exact h_n12) (by rw [cp1.1]; exact h_n14)) (cwV 2 hts (gaV qA_711 qA_712 qA_713 qA_475 qA_463) rfl rfl rfl (by decide +kernel) ⟨Nat.le_of_ble_eq_true rfl, Nat.le_of_ble_eq_true rfl⟩) (oO_k g15).1 (cc_o5 (oO_k g15).2) rfl rfl hl.1 rfl (lv_room (Nat.le_of_ble_eq_true rfl)) dX11_bestIfOff_42 (cs_av hgl cp1 hg2 hT2) (fun ad2 H locs hga G => ?_)
  refine w_cast (c2 := T16.1 - T0.1) (s2 := sg T16 - sg T0) (cs_f1 hgl cp1 hg2) (cs_f2 hgl cp1 hg2) ?_
  have hl := lv_sub hl [0] rfl
  rw [show ad l0 = ad2 l0 from (hga l0 (by rw [cp1.1]; exact h_l0)).symm] at hl
  exact a_X11_bestIfOff_b45 E hA hX hN hml hst kr49 _ _ _ _ _ _ h (GL.tr (gl_cpr hgl cp1) hg2) hrc2 (fun n hn => (hga n (by rw [cp1.1]; exact Nat.lt_of_lt_of_le hn hgl.1)).trans (had n hn)) (Nat.lt_of_lt_of_le (by rw [cp1.1]; exact h_l0) hg2.1) G hl
set_option maxHeartbeats 4000000 in
set_option maxRecDepth 100000 in
theorem a_X11_bestIfOff (l : Launch) (hst : l.stackTraces = false) (D : va_G) (cI cJ cZ cMic cSrc cSt cAI cAJ : ClassId) (ad : Nat → Nat) (T : AT) (o : Nat) (a0 : Int32) {r1 : Int32} {T1 : AT} (h : g_X11_bestIfOff T o a0 = some (0, r1, T1)) (hrc : RC T) (h_o : o < T.1) : kAi l yX11_bestIfOff (Cond.code yX11_bestIfOff cX11_bestIfOff 2 (some .int) :: wsA) 8 149 cI cJ cZ cMic cSrc cSt cAI cAJ D ad T [.ref (ad o), .int a0] r1 T1 := by
  intro sz
  refine Met.ofW (cc := cX11_bestIfOff) (maxL := 2) (ret := (some .int)) (by decide) rfl ?_
  intro p e s m args below meth c s₁ B hml hv
  obtain ⟨rfl, hsz, hP, hK, hD0, hX, hN⟩ := hv
  have hx := B.exec
  have hb := B.bytes
  have hr := B.returns
  have hts := atoms_spec (ws := (Cond.code yX11_bestIfOff cX11_bestIfOff 2 (some .int) :: wsA)) B.pre
  have hown : s.vm.findClass RX11 = some m.cls := findClass_of_methodNamed B.named
  have hlocks := B.notSynchronized
  subst hsz
  have hD := hD0.self (sz := s.heap.size)
  generalize hAe : va_A (cW ad T.1 (cc cI cJ cZ cMic cSrc cSt cAI cAJ ad T)) s.heap.size = A at hD hX ⊢
  have hA : ∀ q : Nat, s.heap.size ≤ q → A q := fun q h => by rw [← hAe]; exact Or.inr h
  have G : gC cI cJ cZ cMic cSrc cSt cAI cAJ D ad A s.heap s.heap [] T := ⟨hP, hD, va_S.rf⟩
  have E : cE p c cX11_bestIfOff s m ([.ref (ad o), .int a0] : List Value).toArray (Cond.code yX11_bestIfOff cX11_bestIfOff 2 (some .int) :: wsA) D RX11 (CT cI cJ cZ cMic cSrc cSt cAI cAJ) := ⟨hx, hb, hts, hown, hK⟩
  have hl := lv_entry ([.ref (ad o), .int a0]) (n := 2) (Nat.le_of_ble_eq_true rfl)
  rw [lg_entry_eq]
  generalize (lg_sl ([.ref (ad o), .int a0]) ++ List.replicate (2 - (lg_sl ([.ref (ad o), .int a0])).length) Slot.unset).toArray = ls at hl ⊢
  have hl : lv_has ls 2 [(0, .ref (ad o)), (1, .int a0)] := hl
  have hgl := GL.rf T
  have had : ∀ n, n < T.1 → ad n = ad n := fun _ _ => rfl
  have hT1 := s_X11_bestIfOff h
  have hcs := cs_ok hgl hT1
  refine w_cast (Nat.sub_self T.1).symm (Nat.sub_self (sg T)).symm ?_
  have cp0 := cpr0 hrc
  unfold g_X11_bestIfOff at h
  refine lv_aload_n hx hb dX11_bestIfOff_0 rfl (lv_at hl 0 rfl) ?_
  obtain ⟨g2, h⟩ := oif_some h
  obtain ⟨r5, T3, eT3, h⟩ := othr_n h
  refine q_cvv (As := []) (rest := []) E G hA hX hN hml (u_X11_needCamera l hst D cI cJ cZ cMic cSrc cSt cAI cAJ ad T o eT3) (cwV 0 hts (gaV qA_728 qA_729 qA_730 qA_131 qA_731) rfl rfl rfl (by decide +kernel) ⟨Nat.le_of_ble_eq_true rfl, Nat.le_of_ble_eq_true rfl⟩) (oO_k g2).1 (cc_o11 (oO_k g2).2) rfl rfl hl.1 rfl (lv_room (Nat.le_of_ble_eq_true rfl)) dX11_bestIfOff_1 hcs (fun T4 H locs hq G => ?_)
  rw [hq] at G
  clear hq
  have cp1 := cpr_sp cp0 (s_X11_needCamera eT3)
  refine lv_aload_n hx hb dX11_bestIfOff_4 rfl (lv_at hl 0 rfl) ?_
  refine lv_iload_n hx hb dX11_bestIfOff_5 rfl (lv_at hl 1 rfl) ?_
  obtain ⟨g7, h⟩ := oif_some h
  obtain ⟨r10, T8, eT8, h⟩ := othr_n h
  refine q_cvv (As := [.int a0]) (rest := []) E G hA hX hN hml (u_X11_needSource l hst D cI cJ cZ cMic cSrc cSt cAI cAJ ad T3 o a0 eT8) (cwV 1 hts (gaV qA_766 qA_767 qA_768 qA_131 qA_769) rfl rfl rfl (by decide +kernel) ⟨Nat.le_of_ble_eq_true rfl, Nat.le_of_ble_eq_true rfl⟩) (oO_k g7).1 (cc_o11 (oO_k g7).2) rfl rfl hl.1 rfl (lv_room (Nat.le_of_ble_eq_true rfl)) dX11_bestIfOff_6 hcs (fun T9 H locs hq G => ?_)
  rw [hq] at G
  clear hq
  have cp2 := cpr_sp cp1 (s_X11_needSource eT8)
  refine lv_aload_n hx hb dX11_bestIfOff_9 rfl (lv_at hl 0 rfl) ?_
  obtain ⟨g12, h⟩ := oif_some h
  obtain ⟨n13, en13, h⟩ := obind_some h
  have h_n13 : n13 < T.1 := by rw [← cp2.1]; exact cp2.2.2 _ _ _ en13
  refine c_get E G o 7 (v := .ref (ad n13)) (oO_k g12).1 (cc_o11 (oO_k g12).2) rfl (fun w h => .tail _ (iA_23 h)) (by decide) (.tail _ qA_665) rfl (by rw [en13]; rfl) dX11_bestIfOff_10 ?_
  clear en13
  refine lv_aload_n hx hb dX11_bestIfOff_13 rfl (lv_at hl 0 rfl) ?_
  obtain ⟨g14, h⟩ := oif_some h
  obtain ⟨n15, en15, h⟩ := obind_some h
  have h_n15 : n15 < T.1 := by rw [← cp2.1]; exact cp2.2.2 _ _ _ en15
  refine c_get E G o 6 (v := .ref (ad n15)) (oO_k g14).1 (cc_o11 (oO_k g14).2) rfl (fun w h => .tail _ (iA_23 h)) (by decide) (.tail _ qA_664) rfl (by rw [en15]; rfl) dX11_bestIfOff_14 ?_
  clear en15
  obtain ⟨g16, h⟩ := oif_some h
  obtain ⟨T17, eT17, h⟩ := obind_some h
  have hg2 := s_X8_copyFrom eT17
  have hrc2 := hg2.2.2 cp2.2.2
  have hT2 := s_X11_bestIfOff_b20 _ _ _ h
  refine q_avv (As := [.ref (ad n15)]) (rest := []) E G hA hX hN hml (a_X8_copyFrom l hst D cI cJ cZ cMic cSrc cSt cAI cAJ ad T8 n13 n15 eT17 cp2.2.2 (by rw [cp2.1]; exact h_n13) (by rw [cp2.1]; exact h_n15)) (cwV 1 hts (gaV qA_911 qA_912 qA_913 qA_47 qA_603) rfl rfl rfl (by decide +kernel) ⟨Nat.le_of_ble_eq_true rfl, Nat.le_of_ble_eq_true rfl⟩) (oO_k g16).1 (cc_o8 (oO_k g16).2) rfl rfl hl.1 rfl (lv_room (Nat.le_of_ble_eq_true rfl)) dX11_bestIfOff_17 (cs_av hgl cp2 hg2 hT2) (fun ad2 H locs hga G => ?_)
  refine w_cast (c2 := T17.1 - T.1) (s2 := sg T17 - sg T) (cs_f1 hgl cp2 hg2) (cs_f2 hgl cp2 hg2) ?_
  have hl := lv_sub hl [0, 1] rfl
  rw [show ad o = ad2 o from (hga o (by rw [cp2.1]; exact h_o)).symm] at hl
  exact a_X11_bestIfOff_b20 E hA hX hN hml hst (fun ad H locs ls had G => W.iret (v := r1) hx hb hr (fun t ht hW => ⟨⟨r1, (T1, ad), rfl, ⟨rfl, rfl, had⟩, ⟨by rw [ht]; exact G.1, va_K.moved hW.alike hK, G.2.1⟩⟩, G.2.2.F ht⟩) G.2.2.2.2 dX11_bestIfOff_49) _ _ _ _ _ _ _ h (GL.tr (gl_cpr hgl cp2) hg2) hrc2 (fun n hn => (hga n (by rw [cp2.1]; exact Nat.lt_of_lt_of_le hn hgl.1)).trans (had n hn)) (Nat.lt_of_lt_of_le (by rw [cp2.1]; exact h_o) hg2.1) G hl
set_option maxHeartbeats 4000000 in
set_option maxRecDepth 100000 in
theorem b_X11_bestIfOff_b49 {p : Program} {l : Launch} {e : Env} {s : State} {m : MethodId} {args : Array Value} {below : List Frame} {meth : Method} {c : Code} {Qc : Array Value → State → Outcome → State → Prop} {XC : String → State → State → Prop} {D : va_G} {A : Nat → Prop} {cI cJ cZ cMic cSrc cSt cAI cAJ : ClassId} {ad0 : Nat → Nat} {T0 : AT} {e1 : Nat} {r1 : Int32} {T1 : AT} (E : cE p c cX11_bestIfOff s m args (Cond.code yX11_bestIfOff cX11_bestIfOff 2 (some .int) :: wsA) D RX11 (CT cI cJ cZ cMic cSrc cSt cAI cAJ)) (hA : ∀ q : Nat, s.heap.size ≤ q → A q) (hX : xT A s) (hN : nX s) (hml : c.maxLocals = 2) (hst : l.stackTraces = false) (htab : ∀ x ∈ c.exceptionTable.toList, False) (hlocks : meth.locks = false) (kx : ∀ (ad : Nat → Nat) (H : Heap) (locs : List Loc) (t : State), (∀ n, n < T0.1 → ad n = ad0 n) → gC cI cJ cZ cMic cSrc cSt cAI cAJ D ad A s.heap H locs T1 → s.vm.Alike t.vm → H.size ≤ t.heap.size → (∀ q, q < H.size → t.heap[q]? = H[q]?) → XC (exn e1) s t) : ∀ (T : AT) (ad : Nat → Nat) (H : Heap) (locs : List Loc) (ls : Array Slot) (s0 : Int32), g_X11_bestIfOff_b49 T s0 = some (e1 + 1, r1, T1) → GL T0 T → RC T → (∀ n, n < T0.1 → ad n = ad0 n) → gC cI cJ cZ cMic cSrc cSt cAI cAJ D ad A s.heap H locs T → lv_has ls 2 [] → W p l e { frames := 8, cells := T1.1 - T0.1 + 1, slots := sg T1 - sg T0 + 6, locals := 149 } s m args below meth c H locs (T.1 - T0.1) (sg T - sg T0) (vx_MQ below Qc XC args s (T1.1 - T0.1 + 1) (sg T1 - sg T0 + 6) A) (F0 m 49 ls [.int s0]) := by
  have hx := E.1
  have hb := E.2.1
  have hts := E.2.2.1
  have hown := E.2.2.2.1
  have hK := E.2.2.2.2
  intro T ad H locs ls s0 h hgl hrc had G hl
  have hT1 := s_X11_bestIfOff_b49 _ _ h
  have hcs := cs_okx hgl hT1
  have hcx := cs_okx1 hgl hT1
  have cp0 := cpr0 hrc
  unfold g_X11_bestIfOff_b49 at h
  exact (Nat.succ_ne_zero _ (congrArg Prod.fst (Option.some.inj h)).symm).elim
set_option maxHeartbeats 4000000 in
set_option maxRecDepth 100000 in
theorem b_X11_bestIfOff_b45 {p : Program} {l : Launch} {e : Env} {s : State} {m : MethodId} {args : Array Value} {below : List Frame} {meth : Method} {c : Code} {Qc : Array Value → State → Outcome → State → Prop} {XC : String → State → State → Prop} {D : va_G} {A : Nat → Prop} {cI cJ cZ cMic cSrc cSt cAI cAJ : ClassId} {ad0 : Nat → Nat} {T0 : AT} {e1 : Nat} {r1 : Int32} {T1 : AT} (E : cE p c cX11_bestIfOff s m args (Cond.code yX11_bestIfOff cX11_bestIfOff 2 (some .int) :: wsA) D RX11 (CT cI cJ cZ cMic cSrc cSt cAI cAJ)) (hA : ∀ q : Nat, s.heap.size ≤ q → A q) (hX : xT A s) (hN : nX s) (hml : c.maxLocals = 2) (hst : l.stackTraces = false) (htab : ∀ x ∈ c.exceptionTable.toList, False) (hlocks : meth.locks = false) (kx : ∀ (ad : Nat → Nat) (H : Heap) (locs : List Loc) (t : State), (∀ n, n < T0.1 → ad n = ad0 n) → gC cI cJ cZ cMic cSrc cSt cAI cAJ D ad A s.heap H locs T1 → s.vm.Alike t.vm → H.size ≤ t.heap.size → (∀ q, q < H.size → t.heap[q]? = H[q]?) → XC (exn e1) s t) : ∀ (T : AT) (ad : Nat → Nat) (H : Heap) (locs : List Loc) (ls : Array Slot) (l0 : Nat), g_X11_bestIfOff_b45 T l0 = some (e1 + 1, r1, T1) → GL T0 T → RC T → (∀ n, n < T0.1 → ad n = ad0 n) → l0 < T.1 → gC cI cJ cZ cMic cSrc cSt cAI cAJ D ad A s.heap H locs T → lv_has ls 2 [(0, .ref (ad l0))] → W p l e { frames := 8, cells := T1.1 - T0.1 + 1, slots := sg T1 - sg T0 + 6, locals := 149 } s m args below meth c H locs (T.1 - T0.1) (sg T - sg T0) (vx_MQ below Qc XC args s (T1.1 - T0.1 + 1) (sg T1 - sg T0 + 6) A) (F0 m 45 ls []) := by
  have hx := E.1
  have hb := E.2.1
  have hts := E.2.2.1
  have hown := E.2.2.2.1
  have hK := E.2.2.2.2
  intro T ad H locs ls l0 h hgl hrc had h_l0 G hl
  have hT1 := s_X11_bestIfOff_b45 _ _ h
  have hcs := cs_okx hgl hT1
  have hcx := cs_okx1 hgl hT1
  have cp0 := cpr0 hrc
  unfold g_X11_bestIfOff_b45 at h
  refine lv_aload_n hx hb dX11_bestIfOff_45 rfl (lv_at hl 0 rfl) ?_
  obtain ⟨g2, h⟩ := oif_some h
  obtain ⟨r4, T3, eT3, h⟩ := obind2_some h
  have hg2 := s_X11_trialBest eT3
  have hrc2 := hg2.2.2 cp0.2.2
  have hT2 := s_X11_bestIfOff_b49 _ _ h
  refine q_avi (As := []) (rest := []) E G hA hX hN hml (a_X11_trialBest l hst D cI cJ cZ cMic cSrc cSt cAI cAJ ad T l0 eT3 cp0.2.2 (by rw [cp0.1]; exact h_l0)) (cwV 0 hts (gaV qA_917 qA_918 qA_919 qA_131 qA_920) rfl rfl rfl (by decide +kernel) ⟨Nat.le_of_ble_eq_true rfl, Nat.le_of_ble_eq_true rfl⟩) (oO_k g2).1 (cc_o11 (oO_k g2).2) rfl rfl hl.1 rfl (lv_room (Nat.le_of_ble_eq_true rfl)) dX11_bestIfOff_46 (cs_avx hgl cp0 hg2 hT2) (fun ad2 H locs hga G => ?_)
  refine w_cast (c2 := T3.1 - T0.1) (s2 := sg T3 - sg T0) (cs_f1 hgl cp0 hg2) (cs_f2 hgl cp0 hg2) ?_
  have hl := lv_sub hl [] rfl
  exact b_X11_bestIfOff_b49 E hA hX hN hml hst htab hlocks kx _ _ _ _ _ _ h (GL.tr (gl_cpr hgl cp0) hg2) hrc2 (fun n hn => (hga n (by rw [cp0.1]; exact Nat.lt_of_lt_of_le hn hgl.1)).trans (had n hn)) G hl
set_option maxHeartbeats 4000000 in
set_option maxRecDepth 100000 in
theorem b_X11_bestIfOff_b20 {p : Program} {l : Launch} {e : Env} {s : State} {m : MethodId} {args : Array Value} {below : List Frame} {meth : Method} {c : Code} {Qc : Array Value → State → Outcome → State → Prop} {XC : String → State → State → Prop} {D : va_G} {A : Nat → Prop} {cI cJ cZ cMic cSrc cSt cAI cAJ : ClassId} {ad0 : Nat → Nat} {T0 : AT} {e1 : Nat} {r1 : Int32} {T1 : AT} (E : cE p c cX11_bestIfOff s m args (Cond.code yX11_bestIfOff cX11_bestIfOff 2 (some .int) :: wsA) D RX11 (CT cI cJ cZ cMic cSrc cSt cAI cAJ)) (hA : ∀ q : Nat, s.heap.size ≤ q → A q) (hX : xT A s) (hN : nX s) (hml : c.maxLocals = 2) (hst : l.stackTraces = false) (htab : ∀ x ∈ c.exceptionTable.toList, False) (hlocks : meth.locks = false) (kx : ∀ (ad : Nat → Nat) (H : Heap) (locs : List Loc) (t : State), (∀ n, n < T0.1 → ad n = ad0 n) → gC cI cJ cZ cMic cSrc cSt cAI cAJ D ad A s.heap H locs T1 → s.vm.Alike t.vm → H.size ≤ t.heap.size → (∀ q, q < H.size → t.heap[q]? = H[q]?) → XC (exn e1) s t) : ∀ (T : AT) (ad : Nat → Nat) (H : Heap) (locs : List Loc) (ls : Array Slot) (l0 : Nat) (l1 : Int32), g_X11_bestIfOff_b20 T l0 l1 = some (e1 + 1, r1, T1) → GL T0 T → RC T → (∀ n, n < T0.1 → ad n = ad0 n) → l0 < T.1 → gC cI cJ cZ cMic cSrc cSt cAI cAJ D ad A s.heap H locs T → lv_has ls 2 [(0, .ref (ad l0)), (1, .int l1)] → W p l e { frames := 8, cells := T1.1 - T0.1 + 1, slots := sg T1 - sg T0 + 6, locals := 149 } s m args below meth c H locs (T.1 - T0.1) (sg T - sg T0) (vx_MQ below Qc XC args s (T1.1 - T0.1 + 1) (sg T1 - sg T0 + 6) A) (F0 m 20 ls []) := by
  have hx := E.1
  have hb := E.2.1
  have hts := E.2.2.1
  have hown := E.2.2.2.1
  have hK := E.2.2.2.2
  intro T ad H locs ls l0 l1 h hgl hrc had h_l0 G hl
  have hT1 := s_X11_bestIfOff_b20 _ _ _ h
  have hcs := cs_okx hgl hT1
  have hcx := cs_okx1 hgl hT1
  have cp0 := cpr0 hrc
  unfold g_X11_bestIfOff_b20 at h
  refine lv_aload_n hx hb dX11_bestIfOff_20 rfl (lv_at hl 0 rfl) ?_
  obtain ⟨g2, h⟩ := oif_some h
  obtain ⟨n3, en3, h⟩ := obind_some h
  have h_n3 : n3 < T.1 := by rw [← cp0.1]; exact cp0.2.2 _ _ _ en3
  refine c_get E G l0 7 (v := .ref (ad n3)) (oO_k g2).1 (cc_o11 (oO_k g2).2) rfl (fun w h => .tail _ (iA_23 h)) (by decide) (.tail _ qA_665) rfl (by rw [en3]; rfl) dX11_bestIfOff_21 ?_
  clear en3
  obtain ⟨g4, h⟩ := oif_some h
  obtain ⟨n5, en5, h⟩ := obind_some h
  have h_n5 : n5 < T.1 := by rw [← cp0.1]; exact cp0.2.2 _ _ _ en5
  refine c_get E G n3 5 (v := .ref (ad n5)) (oO_k g4).1 (cc_o8 (oO_k g4).2) rfl (fun w h => .tail _ (iA_16 h)) (by decide) (.tail _ qA_772) rfl (by rw [en5]; rfl) dX11_bestIfOff_24 ?_
  clear en5
  refine lv_iload_n hx hb dX11_bestIfOff_27 rfl (lv_at hl 1 rfl) ?_
  refine lv_iconst (v := 0) hx hb dX11_bestIfOff_28 (by decide) ?_
  obtain ⟨g6, h⟩ := oif_some h
  obtain ⟨g7, h⟩ := oif_some h
  refine c_zast E G n5 2 (k := l1.toNatClampNeg) (v := 0) (aA_k g6).1 (cc_a102 (aA_k g6).2.1) rfl (inb_k g7).1 (inb_k g7).2 (aA_k g6).2.2 rfl dX11_bestIfOff_29 (fun H locs G => ?_)
  have G := gC_up_i (f := upd (T.2.2.1 n5) l1.toNatClampNeg 0) (ccv_102 (aA_k g6).2.1) G
  obtain ⟨T8, eT8, h⟩ := elet_some h
  have G : gC cI cJ cZ cMic cSrc cSt cAI cAJ D ad A s.heap H locs T8 := by rw [eT8]; exact G
  have cp1 := show CPR T T8 from by rw [eT8]; exact cpr_sp cp0 sp_uI
  clear eT8
  refine lv_aload_n hx hb dX11_bestIfOff_30 rfl (lv_at hl 0 rfl) ?_
  obtain ⟨g9, h⟩ := oif_some h
  obtain ⟨n10, en10, h⟩ := obind_some h
  have h_n10 : n10 < T.1 := by rw [← cp1.1]; exact cp1.2.2 _ _ _ en10
  refine c_get E G l0 2 (v := .ref (ad n10)) (oO_k g9).1 (cc_o11 (oO_k g9).2) rfl (fun w h => .tail _ (iA_23 h)) (by decide) (.tail _ qA_654) rfl (by rw [en10]; rfl) dX11_bestIfOff_31 ?_
  clear en10
  refine lv_aload_n hx hb dX11_bestIfOff_34 rfl (lv_at hl 0 rfl) ?_
  obtain ⟨g11, h⟩ := oif_some h
  obtain ⟨n12, en12, h⟩ := obind_some h
  have h_n12 : n12 < T.1 := by rw [← cp1.1]; exact cp1.2.2 _ _ _ en12
  refine c_get E G l0 14 (v := .ref (ad n12)) (oO_k g11).1 (cc_o11 (oO_k g11).2) rfl (fun w h => .tail _ (iA_23 h)) (by decide) (.tail _ qA_675) rfl (by rw [en12]; rfl) dX11_bestIfOff_35 ?_
  clear en12
  refine lv_aload_n hx hb dX11_bestIfOff_38 rfl (lv_at hl 0 rfl) ?_
  obtain ⟨g13, h⟩ := oif_some h
  obtain ⟨n14, en14, h⟩ := obind_some h
  have h_n14 : n14 < T.1 := by rw [← cp1.1]; exact cp1.2.2 _ _ _ en14
  refine c_get E G l0 7 (v := .ref (ad n14)) (oO_k g13).1 (cc_o11 (oO_k g13).2) rfl (fun w h => .tail _ (iA_23 h)) (by decide) (.tail _ qA_665) rfl (by rw [en14]; rfl) dX11_bestIfOff_39 ?_
  clear en14
  obtain ⟨g15, h⟩ := oif_some h
  obtain ⟨T16, eT16, h⟩ := obind_some h
  have hg2 := s_X5_record eT16
  have hrc2 := hg2.2.2 cp1.2.2
  have hT2 := s_X11_bestIfOff_b45 _ _ h
  refine q_avv (As := [.ref (ad n12), .ref (ad n14)]) (rest := []) E G hA hX hN hml (a_X5_record l hst D cI cJ cZ cMic cSrc cSt cAI cAJ ad T8 n10 n12 n14 eT16 cp1.2.2 (by rw [cp1.1]; exact h_n10) (by rw [cp1.1]; exact h_n12) (by rw [cp1.1]; exact h_n14)) (cwV 2 hts (gaV qA_711 qA_712 qA_713 qA_475 qA_463) rfl rfl rfl (by decide +kernel) ⟨Nat.le_of_ble_eq_true rfl, Nat.le_of_ble_eq_true rfl⟩) (oO_k g15).1 (cc_o5 (oO_k g15).2) rfl rfl hl.1 rfl (lv_room (Nat.le_of_ble_eq_true rfl)) dX11_bestIfOff_42 (cs_avx hgl cp1 hg2 hT2) (fun ad2 H locs hga G => ?_)
  refine w_cast (c2 := T16.1 - T0.1) (s2 := sg T16 - sg T0) (cs_f1 hgl cp1 hg2) (cs_f2 hgl cp1 hg2) ?_
  have hl := lv_sub hl [0] rfl
  rw [show ad l0 = ad2 l0 from (hga l0 (by rw [cp1.1]; exact h_l0)).symm] at hl
  exact b_X11_bestIfOff_b45 E hA hX hN hml hst htab hlocks kx _ _ _ _ _ _ h (GL.tr (gl_cpr hgl cp1) hg2) hrc2 (fun n hn => (hga n (by rw [cp1.1]; exact Nat.lt_of_lt_of_le hn hgl.1)).trans (had n hn)) (Nat.lt_of_lt_of_le (by rw [cp1.1]; exact h_l0) hg2.1) G hl
set_option maxHeartbeats 4000000 in
set_option maxRecDepth 100000 in
theorem b_X11_bestIfOff (l : Launch) (hst : l.stackTraces = false) (D : va_G) (cI cJ cZ cMic cSrc cSt cAI cAJ : ClassId) (ad : Nat → Nat) (T : AT) (o : Nat) (a0 : Int32) {e1 : Nat} {r1 : Int32} {T1 : AT} (h : g_X11_bestIfOff T o a0 = some (e1 + 1, r1, T1)) (hrc : RC T) (h_o : o < T.1) : kAXi l yX11_bestIfOff (Cond.code yX11_bestIfOff cX11_bestIfOff 2 (some .int) :: wsA) 8 149 cI cJ cZ cMic cSrc cSt cAI cAJ D ad T [.ref (ad o), .int a0] e1 T1 := by
  intro sz
  refine vx_ofW (cc := cX11_bestIfOff) (maxL := 2) (ret := (some .int)) (by decide) rfl ?_
  intro p e s m args below meth c s₁ B hml htab hv
  obtain ⟨rfl, hsz, hP, hK, hD0, hX, hN⟩ := hv
  have hx := B.exec
  have hb := B.bytes
  have hr := B.returns
  have hts := atoms_spec (ws := (Cond.code yX11_bestIfOff cX11_bestIfOff 2 (some .int) :: wsA)) B.pre
  have hown : s.vm.findClass RX11 = some m.cls := findClass_of_methodNamed B.named
  have hlocks := B.notSynchronized
  subst hsz
  have hD := hD0.self (sz := s.heap.size)
  generalize hAe : va_A (cW ad T.1 (cc cI cJ cZ cMic cSrc cSt cAI cAJ ad T)) s.heap.size = A at hD hX ⊢
  have hA : ∀ q : Nat, s.heap.size ≤ q → A q := fun q h => by rw [← hAe]; exact Or.inr h
  have G : gC cI cJ cZ cMic cSrc cSt cAI cAJ D ad A s.heap s.heap [] T := ⟨hP, hD, va_S.rf⟩
  have E : cE p c cX11_bestIfOff s m ([.ref (ad o), .int a0] : List Value).toArray (Cond.code yX11_bestIfOff cX11_bestIfOff 2 (some .int) :: wsA) D RX11 (CT cI cJ cZ cMic cSrc cSt cAI cAJ) := ⟨hx, hb, hts, hown, hK⟩
  have htab : ∀ x ∈ c.exceptionTable.toList, False := fun x hx => htab x hx
  have hl := lv_entry ([.ref (ad o), .int a0]) (n := 2) (Nat.le_of_ble_eq_true rfl)
  rw [lg_entry_eq]
  generalize (lg_sl ([.ref (ad o), .int a0]) ++ List.replicate (2 - (lg_sl ([.ref (ad o), .int a0])).length) Slot.unset).toArray = ls at hl ⊢
  have hl : lv_has ls 2 [(0, .ref (ad o)), (1, .int a0)] := hl
  have hgl := GL.rf T
  have had : ∀ n, n < T.1 → ad n = ad n := fun _ _ => rfl
  have hT1 := s_X11_bestIfOff h
  have hcs := cs_okx hgl hT1
  have hcx := cs_okx1 hgl hT1
  refine w_cast (Nat.sub_self T.1).symm (Nat.sub_self (sg T)).symm ?_
  have cp0 := cpr0 hrc
  unfold g_X11_bestIfOff at h
  refine lv_aload_n hx hb dX11_bestIfOff_0 rfl (lv_at hl 0 rfl) ?_
  obtain ⟨g2, h⟩ := oif_some h
  rcases othr_t h with ⟨r0, eT3⟩ | ⟨r5, T3, eT3, h⟩
  · refine q_xvv (As := []) (rest := []) E G hA hX hN hml (x_X11_needCamera l hst D cI cJ cZ cMic cSrc cSt cAI cAJ ad T o eT3) (cwV 0 hts (gaV qA_728 qA_729 qA_730 qA_131 qA_731) rfl rfl rfl (by decide +kernel) ⟨Nat.le_of_ble_eq_true rfl, Nat.le_of_ble_eq_true rfl⟩) (oO_k g2).1 (cc_o11 (oO_k g2).2) rfl rfl hl.1 rfl (lv_room (Nat.le_of_ble_eq_true rfl)) dX11_bestIfOff_1 hcx (fun E9 ce q9 T9 H locs hp G hce hcv hcl => ?_)
    obtain ⟨hE, hT⟩ := hp
    subst hE
    rw [hT] at G
    exact vx_out (fun x hx => (htab x hx).elim) hlocks hce hcv hcl (fun t ht hvm => ⟨(T1, ad), trivial, ⟨⟨rfl, rfl, had⟩, by rw [ht]; exact G.1, va_K.moved hvm hK, G.2.1⟩, G.2.2.F ht⟩) G.2.2.2.2 hcx.1 hcx.2
  refine q_cvv (As := []) (rest := []) E G hA hX hN hml (u_X11_needCamera l hst D cI cJ cZ cMic cSrc cSt cAI cAJ ad T o eT3) (cwV 0 hts (gaV qA_728 qA_729 qA_730 qA_131 qA_731) rfl rfl rfl (by decide +kernel) ⟨Nat.le_of_ble_eq_true rfl, Nat.le_of_ble_eq_true rfl⟩) (oO_k g2).1 (cc_o11 (oO_k g2).2) rfl rfl hl.1 rfl (lv_room (Nat.le_of_ble_eq_true rfl)) dX11_bestIfOff_1 hcs (fun T4 H locs hq G => ?_)
  rw [hq] at G
  clear hq
  have cp1 := cpr_sp cp0 (s_X11_needCamera eT3)
  refine lv_aload_n hx hb dX11_bestIfOff_4 rfl (lv_at hl 0 rfl) ?_
  refine lv_iload_n hx hb dX11_bestIfOff_5 rfl (lv_at hl 1 rfl) ?_
  obtain ⟨g7, h⟩ := oif_some h
  rcases othr_t h with ⟨r0, eT8⟩ | ⟨r10, T8, eT8, h⟩
  · refine q_xvv (As := [.int a0]) (rest := []) E G hA hX hN hml (x_X11_needSource l hst D cI cJ cZ cMic cSrc cSt cAI cAJ ad T3 o a0 eT8) (cwV 1 hts (gaV qA_766 qA_767 qA_768 qA_131 qA_769) rfl rfl rfl (by decide +kernel) ⟨Nat.le_of_ble_eq_true rfl, Nat.le_of_ble_eq_true rfl⟩) (oO_k g7).1 (cc_o11 (oO_k g7).2) rfl rfl hl.1 rfl (lv_room (Nat.le_of_ble_eq_true rfl)) dX11_bestIfOff_6 hcx (fun E9 ce q9 T9 H locs hp G hce hcv hcl => ?_)
    obtain ⟨hE, hT⟩ := hp
    subst hE
    rw [hT] at G
    exact vx_out (fun x hx => (htab x hx).elim) hlocks hce hcv hcl (fun t ht hvm => ⟨(T1, ad), trivial, ⟨⟨rfl, rfl, had⟩, by rw [ht]; exact G.1, va_K.moved hvm hK, G.2.1⟩, G.2.2.F ht⟩) G.2.2.2.2 hcx.1 hcx.2
  refine q_cvv (As := [.int a0]) (rest := []) E G hA hX hN hml (u_X11_needSource l hst D cI cJ cZ cMic cSrc cSt cAI cAJ ad T3 o a0 eT8) (cwV 1 hts (gaV qA_766 qA_767 qA_768 qA_131 qA_769) rfl rfl rfl (by decide +kernel) ⟨Nat.le_of_ble_eq_true rfl, Nat.le_of_ble_eq_true rfl⟩) (oO_k g7).1 (cc_o11 (oO_k g7).2) rfl rfl hl.1 rfl (lv_room (Nat.le_of_ble_eq_true rfl)) dX11_bestIfOff_6 hcs (fun T9 H locs hq G => ?_)
  rw [hq] at G
  clear hq
  have cp2 := cpr_sp cp1 (s_X11_needSource eT8)
  refine lv_aload_n hx hb dX11_bestIfOff_9 rfl (lv_at hl 0 rfl) ?_
  obtain ⟨g12, h⟩ := oif_some h
  obtain ⟨n13, en13, h⟩ := obind_some h
  have h_n13 : n13 < T.1 := by rw [← cp2.1]; exact cp2.2.2 _ _ _ en13
  refine c_get E G o 7 (v := .ref (ad n13)) (oO_k g12).1 (cc_o11 (oO_k g12).2) rfl (fun w h => .tail _ (iA_23 h)) (by decide) (.tail _ qA_665) rfl (by rw [en13]; rfl) dX11_bestIfOff_10 ?_
  clear en13
  refine lv_aload_n hx hb dX11_bestIfOff_13 rfl (lv_at hl 0 rfl) ?_
  obtain ⟨g14, h⟩ := oif_some h
  obtain ⟨n15, en15, h⟩ := obind_some h
  have h_n15 : n15 < T.1 := by rw [← cp2.1]; exact cp2.2.2 _ _ _ en15
  refine c_get E G o 6 (v := .ref (ad n15)) (oO_k g14).1 (cc_o11 (oO_k g14).2) rfl (fun w h => .tail _ (iA_23 h)) (by decide) (.tail _ qA_664) rfl (by rw [en15]; rfl) dX11_bestIfOff_14 ?_
  clear en15
  obtain ⟨g16, h⟩ := oif_some h
  obtain ⟨T17, eT17, h⟩ := obind_some h
  have hg2 := s_X8_copyFrom eT17
  have hrc2 := hg2.2.2 cp2.2.2
  have hT2 := s_X11_bestIfOff_b20 _ _ _ h
  refine q_avv (As := [.ref (ad n15)]) (rest := []) E G hA hX hN hml (a_X8_copyFrom l hst D cI cJ cZ cMic cSrc cSt cAI cAJ ad T8 n13 n15 eT17 cp2.2.2 (by rw [cp2.1]; exact h_n13) (by rw [cp2.1]; exact h_n15)) (cwV 1 hts (gaV qA_911 qA_912 qA_913 qA_47 qA_603) rfl rfl rfl (by decide +kernel) ⟨Nat.le_of_ble_eq_true rfl, Nat.le_of_ble_eq_true rfl⟩) (oO_k g16).1 (cc_o8 (oO_k g16).2) rfl rfl hl.1 rfl (lv_room (Nat.le_of_ble_eq_true rfl)) dX11_bestIfOff_17 (cs_avx hgl cp2 hg2 hT2) (fun ad2 H locs hga G => ?_)
  refine w_cast (c2 := T17.1 - T.1) (s2 := sg T17 - sg T) (cs_f1 hgl cp2 hg2) (cs_f2 hgl cp2 hg2) ?_
  have hl := lv_sub hl [0, 1] rfl
  rw [show ad o = ad2 o from (hga o (by rw [cp2.1]; exact h_o)).symm] at hl
  exact b_X11_bestIfOff_b20 E hA hX hN hml hst htab hlocks (fun ad H locs t had G hvm h1 h2 => ⟨(T1, ad), trivial, ⟨⟨rfl, rfl, had⟩, (c_thrown G hK hvm h1 h2).1⟩, (c_thrown G hK hvm h1 h2).2⟩) _ _ _ _ _ _ _ h (GL.tr (gl_cpr hgl cp2) hg2) hrc2 (fun n hn => (hga n (by rw [cp2.1]; exact Nat.lt_of_lt_of_le hn hgl.1)).trans (had n hn)) (Nat.lt_of_lt_of_le (by rw [cp2.1]; exact h_o) hg2.1) G hl
end
section
/-! 11kr.cd17.lean.txt -/
def g_X11_keepForUndo_b48  (T : AT) (l0 : Nat) : Option (AT) := oif (oO T l0 11 = true) <| obind (T.2.2.2.2 l0 4) fun n3 => oif (oO T n3 4 = true) <| elet (uI T n3 0 0) fun T5 => some T5
def g_X11_keepForUndo_b29  (T : AT) (l0 : Nat) : Option (AT) := oif (oO T l0 11 = true) <| elet (T.2.2.1 l0 16) fun v3 => if 6 ≤ v3 then (g_X11_keepForUndo_b48 T l0) else (oif (oO T l0 11 = true) <| elet (T.2.2.1 l0 16) fun v6 => elet (v6 + 1) fun v7 => oif (oO T l0 11 = true) <| elet (uI T l0 16 v7) fun T9 => g_X11_keepForUndo_b48 T9 l0)
def g_X11_keepForUndo (T : AT) (o : Nat) : Option (AT) := oif (oO T o 11 = true) <| elet (T.2.2.1 o 17) fun v3 => elet (v3 + 1) fun v4 => elet (v4 - v4 / 6 * 6) fun v5 => oif (oO T o 11 = true) <| elet (uI T o 17 v5) fun T7 => oif (oO T7 o 11 = true) <| obind (T7.2.2.2.2 o 8) fun n9 => oif (oO T7 o 11 = true) <| elet (T7.2.2.1 o 17) fun v11 => oif (aA T7 n9 105 = true) <| oif (inb v11 (T7.2.1 n9).2 = true) <| obind (T7.2.2.2.2 n9 v11.toNatClampNeg) fun n14 => oif (oO T7 o 11 = true) <| obind (T7.2.2.2.2 o 6) fun n16 => oif (oO T7 n14 8 = true) <| obind (g_X8_copyFrom T7 n14 n16) fun T18 => g_X11_keepForUndo_b29 T18 o
set_option maxHeartbeats 4000000 in
set_option maxRecDepth 100000 in
theorem s_X11_keepForUndo_b48 {T1 : AT} : ∀ (T : AT) (l0 : Nat), g_X11_keepForUndo_b48 T l0 = some T1 → GL T T1 := by
  intro T l0 h
  have p0 := GL.rf T
  unfold g_X11_keepForUndo_b48 at h
  obtain ⟨g2, h⟩ := oif_some h
  obtain ⟨n3, en3, h⟩ := obind_some h
  obtain ⟨g4, h⟩ := oif_some h
  obtain ⟨T5, eT5, h⟩ := elet_some h
  have p1 : GL T T5 := GL.tr p0 (by rw [eT5]; exact gl_sp sp_uI)
  rw [← osome1 h]
  exact p1
set_option maxHeartbeats 4000000 in
set_option maxRecDepth 100000 in
theorem s_X11_keepForUndo_b29 {T1 : AT} : ∀ (T : AT) (l0 : Nat), g_X11_keepForUndo_b29 T l0 = some T1 → GL T T1 := by
  intro T l0 h
  have p0 := GL.rf T
  unfold g_X11_keepForUndo_b29 at h
  obtain ⟨g2, h⟩ := oif_some h
  obtain ⟨v3, -, h⟩ := elet_some h
  rcases oif_or h with ⟨c4, h⟩ | ⟨c4, h⟩
  · have h := h
    exact GL.tr p0 (s_X11_keepForUndo_b48 _ _ h)
  · have h := h
    obtain ⟨g5, h⟩ := oif_some h
    obtain ⟨v6, -, h⟩ := elet_some h
    obtain ⟨v7, -, h⟩ := elet_some h
    obtain ⟨g8, h⟩ := oif_some h
    obtain ⟨T9, eT9, h⟩ := elet_some h
    have p1 : GL T T9 := GL.tr p0 (by rw [eT9]; exact gl_sp sp_uI)
    exact GL.tr p1 (s_X11_keepForUndo_b48 _ _ h)
set_option maxHeartbeats 4000000 in
set_option maxRecDepth 100000 in
theorem s_X11_keepForUndo {T : AT} {o : Nat} {T1 : AT} (h : g_X11_keepForUndo T o = some T1) : GL T T1 := by
  have p0 := GL.rf T
  unfold g_X11_keepForUndo at h
  obtain ⟨g2, h⟩ := oif_some h
  obtain ⟨v3, -, h⟩ := elet_some h
  obtain ⟨v4, -, h⟩ := elet_some h
  obtain ⟨v5, -, h⟩ := elet_some h
  obtain ⟨g6, h⟩ := oif_some h
  obtain ⟨T7, eT7, h⟩ := elet_some h
  have p1 : GL T T7 := GL.tr p0 (by rw [eT7]; exact gl_sp sp_uI)
  obtain ⟨g8, h⟩ := oif_some h
  obtain ⟨n9, en9, h⟩ := obind_some h
  obtain ⟨g10, h⟩ := oif_some h
  obtain ⟨v11, -, h⟩ := elet_some h
  obtain ⟨g12, h⟩ := oif_some h
  obtain ⟨g13, h⟩ := oif_some h
  obtain ⟨n14, en14, h⟩ := obind_some h
  obtain ⟨g15, h⟩ := oif_some h
  obtain ⟨n16, en16, h⟩ := obind_some h
  obtain ⟨g17, h⟩ := oif_some h
  obtain ⟨T18, eT18, h⟩ := obind_some h
  have p2 : GL T T18 := GL.tr p1 (s_X8_copyFrom eT18)
  exact GL.tr p2 (s_X11_keepForUndo_b29 _ _ h)
set_option maxHeartbeats 4000000 in
set_option maxRecDepth 100000 in
theorem a_X11_keepForUndo_b48 {p : Program} {l : Launch} {e : Env} {s : State} {m : MethodId} {args : Array Value} {below : List Frame} {meth : Method} {c : Code} {Q : State → Prop} {D : va_G} {A : Nat → Prop} {cI cJ cZ cMic cSrc cSt cAI cAJ : ClassId} {ad0 : Nat → Nat} {T0 : AT} {T1 : AT} (E : cE p c cX11_keepForUndo s m args (Cond.code yX11_keepForUndo cX11_keepForUndo 1 none :: wsA) D RX11 (CT cI cJ cZ cMic cSrc cSt cAI cAJ)) (hA : ∀ q : Nat, s.heap.size ≤ q → A q) (hX : xT A s) (hN : nX s) (hml : c.maxLocals = 1) (hst : l.stackTraces = false) (kr56 : ∀ (ad : Nat → Nat) (H : Heap) (locs : List Loc) (ls : Array Slot), (∀ n, n < T0.1 → ad n = ad0 n) → gC cI cJ cZ cMic cSrc cSt cAI cAJ D ad A s.heap H locs T1 → W p l e { frames := 4, cells := T1.1 - T0.1, slots := sg T1 - sg T0, locals := 84 } s m args below meth c H locs (T1.1 - T0.1) (sg T1 - sg T0) Q (F0 m 56 ls [])) : ∀ (T : AT) (ad : Nat → Nat) (H : Heap) (locs : List Loc) (ls : Array Slot) (l0 : Nat), g_X11_keepForUndo_b48 T l0 = some T1 → GL T0 T → RC T → (∀ n, n < T0.1 → ad n = ad0 n) → l0 < T.1 → gC cI cJ cZ cMic cSrc cSt cAI cAJ D ad A s.heap H locs T → lv_has ls 1 [(0, .ref (ad l0))] → W p l e { frames := 4, cells := T1.1 - T0.1, slots := sg T1 - sg T0, locals := 84 } s m args below meth c H locs (T.1 - T0.1) (sg T - sg T0) Q (F0 m 48 ls []) := by
  have hx := E.1
  have hb := E.2.1
  have hts := E.2.2.1
  have hown := E.2.2.2.1
  have hK := E.2.2.2.2
  intro T ad H locs ls l0 h hgl hrc had h_l0 G hl
  have hT1 := s_X11_keepForUndo_b48 _ _ h
  have hcs := cs_ok hgl hT1
  have cp0 := cpr0 hrc
  unfold g_X11_keepForUndo_b48 at h
  refine lv_aload_n hx hb dX11_keepForUndo_48 rfl (lv_at hl 0 rfl) ?_
  obtain ⟨g2, h⟩ := oif_some h
  obtain ⟨n3, en3, h⟩ := obind_some h
  have h_n3 : n3 < T.1 := by rw [← cp0.1]; exact cp0.2.2 _ _ _ en3
  refine c_get E G l0 4 (v := .ref (ad n3)) (oO_k g2).1 (cc_o11 (oO_k g2).2) rfl (fun w h => .tail _ (iA_23 h)) (by decide) (.tail _ qA_660) rfl (by rw [en3]; rfl) dX11_keepForUndo_49 ?_
  clear en3
  refine lv_iconst (v := 0) hx hb dX11_keepForUndo_52 (by decide) ?_
  obtain ⟨g4, h⟩ := oif_some h
  refine c_put E G n3 0 (v := .int 0) (oO_k g4).1 (cc_o4 (oO_k g4).2) rfl (fun w h => .tail _ (iA_21 h)) tyX4 tyX4_ok nmX4 (by decide) (.tail _ qA_704) ⟨rfl, rfl, rfl⟩ rfl rfl (Nat.le_of_ble_eq_true rfl) dX11_keepForUndo_53 (fun H locs G => ?_)
  have G := gC_up_i (f := upd (T.2.2.1 n3) 0 0) (by rw [(oO_k g4).2]; rfl) G
  obtain ⟨T5, eT5, h⟩ := elet_some h
  have G : gC cI cJ cZ cMic cSrc cSt cAI cAJ D ad A s.heap H locs T5 := by rw [eT5]; exact G
  have cp1 := show CPR T T5 from by rw [eT5]; exact cpr_sp cp0 sp_uI
  clear eT5
  rw [osome1 h] at G
  refine w_cast (c2 := T1.1 - T0.1) (s2 := sg T1 - sg T0) (by rw [← osome1 h, cp1.1] <;> rfl) (by rw [← osome1 h, sg_cpr cp1] <;> rfl) ?_
  exact kr56 ad _ _ _ had G
set_option maxHeartbeats 4000000 in
set_option maxRecDepth 100000 in
theorem a_X11_keepForUndo_b29 {p : Program} {l : Launch} {e : Env} {s : State} {m : MethodId} {args : Array Value} {below : List Frame} {meth : Method} {c : Code} {Q : State → Prop} {D : va_G} {A : Nat → Prop} {cI cJ cZ cMic cSrc cSt cAI cAJ : ClassId} {ad0 : Nat → Nat} {T0 : AT} {T1 : AT} (E : cE p c cX11_keepForUndo s m args (Cond.code yX11_keepForUndo cX11_keepForUndo 1 none :: wsA) D RX11 (CT cI cJ cZ cMic cSrc cSt cAI cAJ)) (hA : ∀ q : Nat, s.heap.size ≤ q → A q) (hX : xT A s) (hN : nX s) (hml : c.maxLocals = 1) (hst : l.stackTraces = false) (kr56 : ∀ (ad : Nat → Nat) (H : Heap) (locs : List Loc) (ls : Array Slot), (∀ n, n < T0.1 → ad n = ad0 n) → gC cI cJ cZ cMic cSrc cSt cAI cAJ D ad A s.heap H locs T1 → W p l e { frames := 4, cells := T1.1 - T0.1, slots := sg T1 - sg T0, locals := 84 } s m args below meth c H locs (T1.1 - T0.1) (sg T1 - sg T0) Q (F0 m 56 ls [])) : ∀ (T : AT) (ad : Nat → Nat) (H : Heap) (locs : List Loc) (ls : Array Slot) (l0 : Nat), g_X11_keepForUndo_b29 T l0 = some T1 → GL T0 T → RC T → (∀ n, n < T0.1 → ad n = ad0 n) → l0 < T.1 → gC cI cJ cZ cMic cSrc cSt cAI cAJ D ad A s.heap H locs T → lv_has ls 1 [(0, .ref (ad l0))] → W p l e { frames := 4, cells := T1.1 - T0.1, slots := sg T1 - sg T0, locals := 84 } s m args below meth c H locs (T.1 - T0.1) (sg T - sg T0) Q (F0 m 29 ls []) := by
  have hx := E.1
  have hb := E.2.1
  have hts := E.2.2.1
  have hown := E.2.2.2.1
  have hK := E.2.2.2.2
  intro T ad H locs ls l0 h hgl hrc had h_l0 G hl
  have hT1 := s_X11_keepForUndo_b29 _ _ h
  have hcs := cs_ok hgl hT1
  have cp0 := cpr0 hrc
  unfold g_X11_keepForUndo_b29 at h
  refine lv_aload_n hx hb dX11_keepForUndo_29 rfl (lv_at hl 0 rfl) ?_
  obtain ⟨g2, h⟩ := oif_some h
  refine c_get E G l0 16 (oO_k g2).1 (cc_o11 (oO_k g2).2) rfl (fun w h => .tail _ (iA_23 h)) (by decide) (.tail _ qA_703) rfl rfl dX11_keepForUndo_30 ?_
  refine lv_topi (fun v3 ev3 => ?_)
  have h := elet_at ev3 h
  clear ev3
  refine lv_bipush (v := 6) hx hb dX11_keepForUndo_33 (by decide) ?_
  refine lv_icmp_ge (tgt := 48) hx hb dX11_keepForUndo_35 (by decide) (fun c4 => ?_) (fun c4 => ?_)
  · have h := oif_pos c4 h
    have hl := lv_sub hl [0] rfl
    refine w_cast (c2 := T.1 - T0.1) (s2 := sg T - sg T0) (by rw [cp0.1] <;> rfl) (by rw [sg_cpr cp0] <;> rfl) ?_
    exact a_X11_keepForUndo_b48 E hA hX hN hml hst kr56 _ _ _ _ _ _ h (gl_cpr hgl cp0) cp0.2.2 had (by rw [cp0.1]; exact h_l0) G hl
  · have h := oif_neg c4 h
    refine lv_aload_n hx hb dX11_keepForUndo_38 rfl (lv_at hl 0 rfl) ?_
    refine lv_dup hx hb dX11_keepForUndo_39 rfl ?_
    obtain ⟨g5, h⟩ := oif_some h
    refine c_get E G l0 16 (oO_k g5).1 (cc_o11 (oO_k g5).2) rfl (fun w h => .tail _ (iA_23 h)) (by decide) (.tail _ qA_703) rfl rfl dX11_keepForUndo_40 ?_
    refine lv_topi (fun v6 ev6 => ?_)
    have h := elet_at ev6 h
    clear ev6
    refine lv_iconst (v := 1) hx hb dX11_keepForUndo_43 (by decide) ?_
    refine lv_iadd hx hb dX11_keepForUndo_44 ?_
    refine lv_topi (fun v7 ev7 => ?_)
    have h := elet_at ev7 h
    clear ev7
    obtain ⟨g8, h⟩ := oif_some h
    refine c_put E G l0 16 (v := .int v7) (oO_k g8).1 (cc_o11 (oO_k g8).2) rfl (fun w h => .tail _ (iA_23 h)) tyX11 tyX11_ok nmX11 (by decide) (.tail _ qA_703) ⟨rfl, rfl, rfl⟩ rfl rfl (Nat.le_of_ble_eq_true rfl) dX11_keepForUndo_45 (fun H locs G => ?_)
    have G := gC_up_i (f := upd (T.2.2.1 l0) 16 v7) (by rw [(oO_k g8).2]; rfl) G
    obtain ⟨T9, eT9, h⟩ := elet_some h
    have G : gC cI cJ cZ cMic cSrc cSt cAI cAJ D ad A s.heap H locs T9 := by rw [eT9]; exact G
    have cp1 := show CPR T T9 from by rw [eT9]; exact cpr_sp cp0 sp_uI
    clear eT9
    have hl := lv_sub hl [0] rfl
    refine w_cast (c2 := T9.1 - T0.1) (s2 := sg T9 - sg T0) (by rw [cp1.1] <;> rfl) (by rw [sg_cpr cp1] <;> rfl) ?_
    exact a_X11_keepForUndo_b48 E hA hX hN hml hst kr56 _ _ _ _ _ _ h (gl_cpr hgl cp1) cp1.2.2 had (by rw [cp1.1]; exact h_l0) G hl
set_option maxHeartbeats 4000000 in
set_option maxRecDepth 100000 in
theorem a_X11_keepForUndo (l : Launch) (hst : l.stackTraces = false) (D : va_G) (cI cJ cZ cMic cSrc cSt cAI cAJ : ClassId) (ad : Nat → Nat) (T : AT) (o : Nat) {T1 : AT} (h : g_X11_keepForUndo T o = some T1) (hrc : RC T) (h_o : o < T.1) : kAv l yX11_keepForUndo (Cond.code yX11_keepForUndo cX11_keepForUndo 1 none :: wsA) 4 84 cI cJ cZ cMic cSrc cSt cAI cAJ D ad T [.ref (ad o)] T1 := by
  intro sz
  refine Met.ofW (cc := cX11_keepForUndo) (maxL := 1) (ret := none) (by decide) rfl ?_
  intro p e s m args below meth c s₁ B hml hv
  obtain ⟨rfl, hsz, hP, hK, hD0, hX, hN⟩ := hv
  have hx := B.exec
  have hb := B.bytes
  have hr := B.returns
  have hts := atoms_spec (ws := (Cond.code yX11_keepForUndo cX11_keepForUndo 1 none :: wsA)) B.pre
  have hown : s.vm.findClass RX11 = some m.cls := findClass_of_methodNamed B.named
  have hlocks := B.notSynchronized
  subst hsz
  have hD := hD0.self (sz := s.heap.size)
  generalize hAe : va_A (cW ad T.1 (cc cI cJ cZ cMic cSrc cSt cAI cAJ ad T)) s.heap.size = A at hD hX ⊢
  have hA : ∀ q : Nat, s.heap.size ≤ q → A q := fun q h => by rw [← hAe]; exact Or.inr h
  have G : gC cI cJ cZ cMic cSrc cSt cAI cAJ D ad A s.heap s.heap [] T := ⟨hP, hD, va_S.rf⟩
  have E : cE p c cX11_keepForUndo s m ([.ref (ad o)] : List Value).toArray (Cond.code yX11_keepForUndo cX11_keepForUndo 1 none :: wsA) D RX11 (CT cI cJ cZ cMic cSrc cSt cAI cAJ) := ⟨hx, hb, hts, hown, hK⟩
  have hl := lv_entry ([.ref (ad o)]) (n := 1) (Nat.le_of_ble_eq_true rfl)
  rw [lg_entry_eq]
  generalize (lg_sl ([.ref (ad o)]) ++ List.replicate (1 - (lg_sl ([.ref (ad o)])).length) Slot.unset).toArray = ls at hl ⊢
  have hl : lv_has ls 1 [(0, .ref (ad o))] := hl
  have hgl := GL.rf T
  have had : ∀ n, n < T.1 → ad n = ad n := fun _ _ => rfl
  have hT1 := s_X11_keepForUndo h
  have hcs := cs_ok hgl hT1
  refine w_cast (Nat.sub_self T.1).symm (Nat.sub_self (sg T)).symm ?_
  have cp0 := cpr0 hrc
  unfold g_X11_keepForUndo at h
  refine lv_aload_n hx hb dX11_keepForUndo_0 rfl (lv_at hl 0 rfl) ?_
  refine lv_aload_n hx hb dX11_keepForUndo_1 rfl (lv_at hl 0 rfl) ?_
  obtain ⟨g2, h⟩ := oif_some h
  refine c_get E G o 17 (oO_k g2).1 (cc_o11 (oO_k g2).2) rfl (fun w h => .tail _ (iA_23 h)) (by decide) (.tail _ qA_929) rfl rfl dX11_keepForUndo_2 ?_
  refine lv_topi (fun v3 ev3 => ?_)
  have h := elet_at ev3 h
  clear ev3
  refine lv_iconst (v := 1) hx hb dX11_keepForUndo_5 (by decide) ?_
  refine lv_iadd hx hb dX11_keepForUndo_6 ?_
  refine lv_topi (fun v4 ev4 => ?_)
  have h := elet_at ev4 h
  clear ev4
  refine lv_bipush (v := 6) hx hb dX11_keepForUndo_7 (by decide) ?_
  refine lv_irem hx hb dX11_keepForUndo_9 (by decide) ?_
  refine lv_topi (fun v5 ev5 => ?_)
  have h := elet_at ev5 h
  clear ev5
  obtain ⟨g6, h⟩ := oif_some h
  refine c_put E G o 17 (v := .int v5) (oO_k g6).1 (cc_o11 (oO_k g6).2) rfl (fun w h => .tail _ (iA_23 h)) tyX11 tyX11_ok nmX11 (by decide) (.tail _ qA_929) ⟨rfl, rfl, rfl⟩ rfl rfl (Nat.le_of_ble_eq_true rfl) dX11_keepForUndo_10 (fun H locs G => ?_)
  have G := gC_up_i (f := upd (T.2.2.1 o) 17 v5) (by rw [(oO_k g6).2]; rfl) G
  obtain ⟨T7, eT7, h⟩ := elet_some h
  have G : gC cI cJ cZ cMic cSrc cSt cAI cAJ D ad A s.heap H locs T7 := by rw [eT7]; exact G
  have cp1 := show CPR T T7 from by rw [eT7]; exact cpr_sp cp0 sp_uI
  clear eT7
  refine lv_aload_n hx hb dX11_keepForUndo_13 rfl (lv_at hl 0 rfl) ?_
  obtain ⟨g8, h⟩ := oif_some h
  obtain ⟨n9, en9, h⟩ := obind_some h
  have h_n9 : n9 < T.1 := by rw [← cp1.1]; exact cp1.2.2 _ _ _ en9
  refine c_get E G o 8 (v := .ref (ad n9)) (oO_k g8).1 (cc_o11 (oO_k g8).2) rfl (fun w h => .tail _ (iA_23 h)) (by decide) (.tail _ qA_666) rfl (by rw [en9]; rfl) dX11_keepForUndo_14 ?_
  clear en9
  refine lv_aload_n hx hb dX11_keepForUndo_17 rfl (lv_at hl 0 rfl) ?_
  obtain ⟨g10, h⟩ := oif_some h
  refine c_get E G o 17 (oO_k g10).1 (cc_o11 (oO_k g10).2) rfl (fun w h => .tail _ (iA_23 h)) (by decide) (.tail _ qA_929) rfl rfl dX11_keepForUndo_18 ?_
  refine lv_topi (fun v11 ev11 => ?_)
  have h := elet_at ev11 h
  clear ev11
  obtain ⟨g12, h⟩ := oif_some h
  obtain ⟨g13, h⟩ := oif_some h
  obtain ⟨n14, en14, h⟩ := obind_some h
  have h_n14 : n14 < T.1 := by rw [← cp1.1]; exact cp1.2.2 _ _ _ en14
  refine c_aldq E G n9 5 (k := v11.toNatClampNeg) (v := .ref (ad n14)) (aA_k g12).1 (cc_a105 (aA_k g12).2.1) rfl (inb_k g13).1 (inb_k g13).2 (aA_k g12).2.2 (by show va_rf ((T7.2.2.2.2 n9 v11.toNatClampNeg).map ad) = _; rw [en14]; rfl) dX11_keepForUndo_21 ?_
  clear en14
  refine lv_aload_n hx hb dX11_keepForUndo_22 rfl (lv_at hl 0 rfl) ?_
  obtain ⟨g15, h⟩ := oif_some h
  obtain ⟨n16, en16, h⟩ := obind_some h
  have h_n16 : n16 < T.1 := by rw [← cp1.1]; exact cp1.2.2 _ _ _ en16
  refine c_get E G o 6 (v := .ref (ad n16)) (oO_k g15).1 (cc_o11 (oO_k g15).2) rfl (fun w h => .tail _ (iA_23 h)) (by decide) (.tail _ qA_664) rfl (by rw [en16]; rfl) dX11_keepForUndo_23 ?_
  clear en16
  obtain ⟨g17, h⟩ := oif_some h
  obtain ⟨T18, eT18, h⟩ := obind_some h
  have hg2 := s_X8_copyFrom eT18
  have hrc2 := hg2.2.2 cp1.2.2
  have hT2 := s_X11_keepForUndo_b29 _ _ h
  refine q_avv (As := [.ref (ad n16)]) (rest := []) E G hA hX hN hml (a_X8_copyFrom l hst D cI cJ cZ cMic cSrc cSt cAI cAJ ad T7 n14 n16 eT18 cp1.2.2 (by rw [cp1.1]; exact h_n14) (by rw [cp1.1]; exact h_n16)) (cwV 1 hts (gaV qA_911 qA_912 qA_913 qA_47 qA_603) rfl rfl rfl (by decide +kernel) ⟨Nat.le_of_ble_eq_true rfl, Nat.le_of_ble_eq_true rfl⟩) (oO_k g17).1 (cc_o8 (oO_k g17).2) rfl rfl hl.1 rfl (lv_room (Nat.le_of_ble_eq_true rfl)) dX11_keepForUndo_26 (cs_av hgl cp1 hg2 hT2) (fun ad2 H locs hga G => ?_)
  refine w_cast (c2 := T18.1 - T.1) (s2 := sg T18 - sg T) (cs_f1 hgl cp1 hg2) (cs_f2 hgl cp1 hg2) ?_
  have hl := lv_sub hl [0] rfl
  rw [show ad o = ad2 o from (hga o (by rw [cp1.1]; exact h_o)).symm] at hl
  exact a_X11_keepForUndo_b29 E hA hX hN hml hst (fun ad H locs ls had G => W.vret hx hb hr (fun t ht hW => ⟨⟨(T1, ad), rfl, ⟨rfl, had⟩, ⟨by rw [ht]; exact G.1, va_K.moved hW.alike hK, G.2.1⟩⟩, G.2.2.F ht⟩) G.2.2.2.2 dX11_keepForUndo_56) _ _ _ _ _ _ h (GL.tr (gl_cpr hgl cp1) hg2) hrc2 (fun n hn => (hga n (by rw [cp1.1]; exact Nat.lt_of_lt_of_le hn hgl.1)).trans (had n hn)) (Nat.lt_of_lt_of_le (by rw [cp1.1]; exact h_o) hg2.1) G hl
def g_X11_mute_b23  (T : AT) (l0 : Nat) (l1 : Int32) (l2 : Int32) (l3 : Int32) : Option (Nat × Int32 × AT) := oif (oO T l0 11 = true) <| obind (T.2.2.2.2 l0 6) fun n3 => oif (oO T n3 8 = true) <| obind (T.2.2.2.2 n3 3) fun n5 => oif (aA T n5 102 = true) <| oif (inb l1 (T.2.1 n5).2 = true) <| oif (l2 = 0 ∨ l2 = 1) <| elet (uI T n5 l1.toNatClampNeg l2) fun T8 => oif (l3 = 0 ∨ l3 = 1) <| some (0, l3, T8)
def g_X11_mute (T : AT) (o : Nat) (a0 : Int32) (a1 : Int32) : Option (Nat × Int32 × AT) := oif (oO T o 11 = true) <| othr (g_X11_needCamera T o) 0 fun r5 T3 => oif (oO T3 o 11 = true) <| othr (g_X11_needMic T3 o a0) 0 fun r10 T8 => oif (oO T8 o 11 = true) <| obind (T8.2.2.2.2 o 6) fun n13 => oif (oO T8 n13 8 = true) <| obind (T8.2.2.2.2 n13 3) fun n15 => oif (aA T8 n15 102 = true) <| oif (inb a0 (T8.2.1 n15).2 = true) <| elet (T8.2.2.1 n15 a0.toNatClampNeg) fun v18 => oif (oO T8 o 11 = true) <| obind (g_X11_keepForUndo T8 o) fun T20 => g_X11_mute_b23 T20 o a0 a1 v18
set_option maxHeartbeats 4000000 in
set_option maxRecDepth 100000 in
theorem s_X11_mute_b23 {e1 : Nat} {r1 : Int32} {T1 : AT} : ∀ (T : AT) (l0 : Nat) (l1 : Int32) (l2 : Int32) (l3 : Int32), g_X11_mute_b23 T l0 l1 l2 l3 = some (e1, r1, T1) → GL T T1 := by
  intro T l0 l1 l2 l3 h
  have p0 := GL.rf T
  unfold g_X11_mute_b23 at h
  obtain ⟨g2, h⟩ := oif_some h
  obtain ⟨n3, en3, h⟩ := obind_some h
  obtain ⟨g4, h⟩ := oif_some h
  obtain ⟨n5, en5, h⟩ := obind_some h
  obtain ⟨g6, h⟩ := oif_some h
  obtain ⟨g7, h⟩ := oif_some h
  obtain ⟨gz, h⟩ := oif_some h
  obtain ⟨T8, eT8, h⟩ := elet_some h
  have p1 : GL T T8 := GL.tr p0 (by rw [eT8]; exact gl_sp sp_uI)
  obtain ⟨gz, h⟩ := oif_some h
  rw [← (osome3 h).2.2]
  exact p1
set_option maxHeartbeats 4000000 in
set_option maxRecDepth 100000 in
theorem s_X11_mute {T : AT} {o : Nat} {a0 : Int32} {a1 : Int32} {e1 : Nat} {r1 : Int32} {T1 : AT} (h : g_X11_mute T o a0 a1 = some (e1, r1, T1)) : GL T T1 := by
  have p0 := GL.rf T
  unfold g_X11_mute at h
  obtain ⟨g2, h⟩ := oif_some h
  rcases othr_s h with ⟨k9, r9, e9, -⟩ | ⟨r4, T3, eT3, h⟩
  · exact GL.tr p0 (gl_sp (s_X11_needCamera e9))
  have p1 : GL T T3 := GL.tr p0 (gl_sp (s_X11_needCamera eT3))
  obtain ⟨g5, h⟩ := oif_some h
  rcases othr_s h with ⟨k9, r9, e9, -⟩ | ⟨r7, T6, eT6, h⟩
  · exact GL.tr p1 (gl_sp (s_X11_needMic e9))
  have p2 : GL T T6 := GL.tr p1 (gl_sp (s_X11_needMic eT6))
  obtain ⟨g8, h⟩ := oif_some h
  obtain ⟨n9, en9, h⟩ := obind_some h
  obtain ⟨g10, h⟩ := oif_some h
  obtain ⟨n11, en11, h⟩ := obind_some h
  obtain ⟨g12, h⟩ := oif_some h
  obtain ⟨g13, h⟩ := oif_some h
  obtain ⟨v14, -, h⟩ := elet_some h
  obtain ⟨g15, h⟩ := oif_some h
  obtain ⟨T16, eT16, h⟩ := obind_some h
  have p3 : GL T T16 := GL.tr p2 (s_X11_keepForUndo eT16)
  exact GL.tr p3 (s_X11_mute_b23 _ _ _ _ _ h)
set_option maxHeartbeats 4000000 in
set_option maxRecDepth 100000 in
theorem a_X11_mute_b23 {p : Program} {l : Launch} {e : Env} {s : State} {m : MethodId} {args : Array Value} {below : List Frame} {meth : Method} {c : Code} {Q : State → Prop} {D : va_G} {A : Nat → Prop} {cI cJ cZ cMic cSrc cSt cAI cAJ : ClassId} {ad0 : Nat → Nat} {T0 : AT} {r1 : Int32} {T1 : AT} (E : cE p c cX11_mute s m args (Cond.code yX11_mute cX11_mute 4 (some .boolean) :: wsA) D RX11 (CT cI cJ cZ cMic cSrc cSt cAI cAJ)) (hA : ∀ q : Nat, s.heap.size ≤ q → A q) (hX : xT A s) (hN : nX s) (hml : c.maxLocals = 4) (hst : l.stackTraces = false) (kr34 : ∀ (ad : Nat → Nat) (H : Heap) (locs : List Loc) (ls : Array Slot), (r1 = 0 ∨ r1 = 1) → (∀ n, n < T0.1 → ad n = ad0 n) → gC cI cJ cZ cMic cSrc cSt cAI cAJ D ad A s.heap H locs T1 → W p l e { frames := 8, cells := T1.1 - T0.1, slots := sg T1 - sg T0, locals := 123 } s m args below meth c H locs (T1.1 - T0.1) (sg T1 - sg T0) Q (F0 m 34 ls [.int r1])) : ∀ (T : AT) (ad : Nat → Nat) (H : Heap) (locs : List Loc) (ls : Array Slot) (l0 : Nat) (l1 : Int32) (l2 : Int32) (l3 : Int32), g_X11_mute_b23 T l0 l1 l2 l3 = some (0, r1, T1) → GL T0 T → RC T → (∀ n, n < T0.1 → ad n = ad0 n) → l0 < T.1 → gC cI cJ cZ cMic cSrc cSt cAI cAJ D ad A s.heap H locs T → lv_has ls 4 [(0, .ref (ad l0)), (1, .int l1), (2, .int l2), (3, .int l3)] → W p l e { frames := 8, cells := T1.1 - T0.1, slots := sg T1 - sg T0, locals := 123 } s m args below meth c H locs (T.1 - T0.1) (sg T - sg T0) Q (F0 m 23 ls []) := by
  have hx := E.1
  have hb := E.2.1
  have hts := E.2.2.1
  have hown := E.2.2.2.1
  have hK := E.2.2.2.2
  intro T ad H locs ls l0 l1 l2 l3 h hgl hrc had h_l0 G hl
  have hT1 := s_X11_mute_b23 _ _ _ _ _ h
  have hcs := cs_ok hgl hT1
  have cp0 := cpr0 hrc
  unfold g_X11_mute_b23 at h
  refine lv_aload_n hx hb dX11_mute_23 rfl (lv_at hl 0 rfl) ?_
  obtain ⟨g2, h⟩ := oif_some h
  obtain ⟨n3, en3, h⟩ := obind_some h
  have h_n3 : n3 < T.1 := by rw [← cp0.1]; exact cp0.2.2 _ _ _ en3
  refine c_get E G l0 6 (v := .ref (ad n3)) (oO_k g2).1 (cc_o11 (oO_k g2).2) rfl (fun w h => .tail _ (iA_23 h)) (by decide) (.tail _ qA_664) rfl (by rw [en3]; rfl) dX11_mute_24 ?_
  clear en3
  obtain ⟨g4, h⟩ := oif_some h
  obtain ⟨n5, en5, h⟩ := obind_some h
  have h_n5 : n5 < T.1 := by rw [← cp0.1]; exact cp0.2.2 _ _ _ en5
  refine c_get E G n3 3 (v := .ref (ad n5)) (oO_k g4).1 (cc_o8 (oO_k g4).2) rfl (fun w h => .tail _ (iA_16 h)) (by decide) (.tail _ qA_746) rfl (by rw [en5]; rfl) dX11_mute_27 ?_
  clear en5
  refine lv_iload_n hx hb dX11_mute_30 rfl (lv_at hl 1 rfl) ?_
  refine lv_iload_n hx hb dX11_mute_31 rfl (lv_at hl 2 rfl) ?_
  obtain ⟨g6, h⟩ := oif_some h
  obtain ⟨g7, h⟩ := oif_some h
  obtain ⟨gz, h⟩ := oif_some h
  refine c_zast E G n5 2 (k := l1.toNatClampNeg) (v := l2) (aA_k g6).1 (cc_a102 (aA_k g6).2.1) rfl (inb_k g7).1 (inb_k g7).2 (aA_k g6).2.2 (by rcases gz with rfl | rfl <;> rfl) dX11_mute_32 (fun H locs G => ?_)
  have G := gC_up_i (f := upd (T.2.2.1 n5) l1.toNatClampNeg l2) (ccv_102 (aA_k g6).2.1) G
  obtain ⟨T8, eT8, h⟩ := elet_some h
  have G : gC cI cJ cZ cMic cSrc cSt cAI cAJ D ad A s.heap H locs T8 := by rw [eT8]; exact G
  have cp1 := show CPR T T8 from by rw [eT8]; exact cpr_sp cp0 sp_uI
  clear eT8
  refine lv_iload_n hx hb dX11_mute_33 rfl (lv_at hl 3 rfl) ?_
  obtain ⟨gz, h⟩ := oif_some h
  rw [(osome3 h).2.2] at G
  refine w_cast (c2 := T1.1 - T0.1) (s2 := sg T1 - sg T0) (by rw [← (osome3 h).2.2, cp1.1] <;> rfl) (by rw [← (osome3 h).2.2, sg_cpr cp1] <;> rfl) ?_
  have gr : r1 = 0 ∨ r1 = 1 := by rw [← (osome3 h).2.1]; exact gz
  refine lv_to ((osome3 h).2.1) ?_
  exact kr34 ad _ _ _ gr had G
set_option maxHeartbeats 4000000 in
set_option maxRecDepth 100000 in
theorem a_X11_mute (l : Launch) (hst : l.stackTraces = false) (D : va_G) (cI cJ cZ cMic cSrc cSt cAI cAJ : ClassId) (ad : Nat → Nat) (T : AT) (o : Nat) (a0 : Int32) (a1 : Int32) {r1 : Int32} {T1 : AT} (h : g_X11_mute T o a0 a1 = some (0, r1, T1)) (hrc : RC T) (h_o : o < T.1) : kAi l yX11_mute (Cond.code yX11_mute cX11_mute 4 (some .boolean) :: wsA) 8 123 cI cJ cZ cMic cSrc cSt cAI cAJ D ad T [.ref (ad o), .int a0, .int a1] r1 T1 := by
  intro sz
  refine Met.ofW (cc := cX11_mute) (maxL := 4) (ret := (some .boolean)) (by decide) rfl ?_
  intro p e s m args below meth c s₁ B hml hv
  obtain ⟨rfl, hsz, hP, hK, hD0, hX, hN⟩ := hv
  have hx := B.exec
  have hb := B.bytes
  have hr := B.returns
  have hts := atoms_spec (ws := (Cond.code yX11_mute cX11_mute 4 (some .boolean) :: wsA)) B.pre
  have hown : s.vm.findClass RX11 = some m.cls := findClass_of_methodNamed B.named
  have hlocks := B.notSynchronized
  subst hsz
  have hD := hD0.self (sz := s.heap.size)
  generalize hAe : va_A (cW ad T.1 (cc cI cJ cZ cMic cSrc cSt cAI cAJ ad T)) s.heap.size = A at hD hX ⊢
  have hA : ∀ q : Nat, s.heap.size ≤ q → A q := fun q h => by rw [← hAe]; exact Or.inr h
  have G : gC cI cJ cZ cMic cSrc cSt cAI cAJ D ad A s.heap s.heap [] T := ⟨hP, hD, va_S.rf⟩
  have E : cE p c cX11_mute s m ([.ref (ad o), .int a0, .int a1] : List Value).toArray (Cond.code yX11_mute cX11_mute 4 (some .boolean) :: wsA) D RX11 (CT cI cJ cZ cMic cSrc cSt cAI cAJ) := ⟨hx, hb, hts, hown, hK⟩
  have hl := lv_entry ([.ref (ad o), .int a0, .int a1]) (n := 4) (Nat.le_of_ble_eq_true rfl)
  rw [lg_entry_eq]
  generalize (lg_sl ([.ref (ad o), .int a0, .int a1]) ++ List.replicate (4 - (lg_sl ([.ref (ad o), .int a0, .int a1])).length) Slot.unset).toArray = ls at hl ⊢
  have hl : lv_has ls 4 [(0, .ref (ad o)), (1, .int a0), (2, .int a1)] := hl
  have hgl := GL.rf T
  have had : ∀ n, n < T.1 → ad n = ad n := fun _ _ => rfl
  have hT1 := s_X11_mute h
  have hcs := cs_ok hgl hT1
  refine w_cast (Nat.sub_self T.1).symm (Nat.sub_self (sg T)).symm ?_
  have cp0 := cpr0 hrc
  unfold g_X11_mute at h
  refine lv_aload_n hx hb dX11_mute_0 rfl (lv_at hl 0 rfl) ?_
  obtain ⟨g2, h⟩ := oif_some h
  obtain ⟨r5, T3, eT3, h⟩ := othr_n h
  refine q_cvv (As := []) (rest := []) E G hA hX hN hml (u_X11_needCamera l hst D cI cJ cZ cMic cSrc cSt cAI cAJ ad T o eT3) (cwV 0 hts (gaV qA_728 qA_729 qA_730 qA_131 qA_731) rfl rfl rfl (by decide +kernel) ⟨Nat.le_of_ble_eq_true rfl, Nat.le_of_ble_eq_true rfl⟩) (oO_k g2).1 (cc_o11 (oO_k g2).2) rfl rfl hl.1 rfl (lv_room (Nat.le_of_ble_eq_true rfl)) dX11_mute_1 hcs (fun T4 H locs hq G => ?_)
  rw [hq] at G
  clear hq
  have cp1 := cpr_sp cp0 (s_X11_needCamera eT3)
  refine lv_aload_n hx hb dX11_mute_4 rfl (lv_at hl 0 rfl) ?_
  refine lv_iload_n hx hb dX11_mute_5 rfl (lv_at hl 1 rfl) ?_
  obtain ⟨g7, h⟩ := oif_some h
  obtain ⟨r10, T8, eT8, h⟩ := othr_n h
  refine q_cvv (As := [.int a0]) (rest := []) E G hA hX hN hml (u_X11_needMic l hst D cI cJ cZ cMic cSrc cSt cAI cAJ ad T3 o a0 eT8) (cwV 1 hts (gaV qA_734 qA_735 qA_736 qA_131 qA_737) rfl rfl rfl (by decide +kernel) ⟨Nat.le_of_ble_eq_true rfl, Nat.le_of_ble_eq_true rfl⟩) (oO_k g7).1 (cc_o11 (oO_k g7).2) rfl rfl hl.1 rfl (lv_room (Nat.le_of_ble_eq_true rfl)) dX11_mute_6 hcs (fun T9 H locs hq G => ?_)
  rw [hq] at G
  clear hq
  have cp2 := cpr_sp cp1 (s_X11_needMic eT8)
  refine lv_aload_n hx hb dX11_mute_9 rfl (lv_at hl 0 rfl) ?_
  obtain ⟨g12, h⟩ := oif_some h
  obtain ⟨n13, en13, h⟩ := obind_some h
  have h_n13 : n13 < T.1 := by rw [← cp2.1]; exact cp2.2.2 _ _ _ en13
  refine c_get E G o 6 (v := .ref (ad n13)) (oO_k g12).1 (cc_o11 (oO_k g12).2) rfl (fun w h => .tail _ (iA_23 h)) (by decide) (.tail _ qA_664) rfl (by rw [en13]; rfl) dX11_mute_10 ?_
  clear en13
  obtain ⟨g14, h⟩ := oif_some h
  obtain ⟨n15, en15, h⟩ := obind_some h
  have h_n15 : n15 < T.1 := by rw [← cp2.1]; exact cp2.2.2 _ _ _ en15
  refine c_get E G n13 3 (v := .ref (ad n15)) (oO_k g14).1 (cc_o8 (oO_k g14).2) rfl (fun w h => .tail _ (iA_16 h)) (by decide) (.tail _ qA_746) rfl (by rw [en15]; rfl) dX11_mute_13 ?_
  clear en15
  refine lv_iload_n hx hb dX11_mute_16 rfl (lv_at hl 1 rfl) ?_
  obtain ⟨g16, h⟩ := oif_some h
  obtain ⟨g17, h⟩ := oif_some h
  refine c_zald E G n15 2 (k := a0.toNatClampNeg) (aA_k g16).1 (cc_a102 (aA_k g16).2.1) rfl (inb_k g17).1 (inb_k g17).2 (aA_k g16).2.2 dX11_mute_17 ?_
  refine lv_topi (fun v18 ev18 => ?_)
  have h := elet_at ev18 h
  clear ev18
  refine lv_istore_n (lv' := [(3, .int v18), (0, .ref (ad o)), (1, .int a0), (2, .int a1)]) hx hb dX11_mute_18 rfl hl (by decide) rfl (fun ls hl => ?_)
  refine lv_aload_n hx hb dX11_mute_19 rfl (lv_at hl 1 rfl) ?_
  obtain ⟨g19, h⟩ := oif_some h
  obtain ⟨T20, eT20, h⟩ := obind_some h
  have hg2 := s_X11_keepForUndo eT20
  have hrc2 := hg2.2.2 cp2.2.2
  have hT2 := s_X11_mute_b23 _ _ _ _ _ h
  refine q_avv (As := []) (rest := []) E G hA hX hN hml (a_X11_keepForUndo l hst D cI cJ cZ cMic cSrc cSt cAI cAJ ad T8 o eT20 cp2.2.2 (by rw [cp2.1]; exact h_o)) (cwV 0 hts (gaV qA_925 qA_926 qA_927 qA_131 qA_928) rfl rfl rfl (by decide +kernel) ⟨Nat.le_of_ble_eq_true rfl, Nat.le_of_ble_eq_true rfl⟩) (oO_k g19).1 (cc_o11 (oO_k g19).2) rfl rfl hl.1 rfl (lv_room (Nat.le_of_ble_eq_true rfl)) dX11_mute_20 (cs_av hgl cp2 hg2 hT2) (fun ad2 H locs hga G => ?_)
  refine w_cast (c2 := T20.1 - T.1) (s2 := sg T20 - sg T) (cs_f1 hgl cp2 hg2) (cs_f2 hgl cp2 hg2) ?_
  have hl := lv_sub hl [1, 2, 3, 0] rfl
  rw [show ad o = ad2 o from (hga o (by rw [cp2.1]; exact h_o)).symm] at hl
  exact a_X11_mute_b23 E hA hX hN hml hst (fun ad H locs ls gz had G => W.zret (v := r1) hx hb hr (nar01 gz) (fun t ht hW => ⟨⟨r1, (T1, ad), rfl, ⟨rfl, rfl, had⟩, ⟨by rw [ht]; exact G.1, va_K.moved hW.alike hK, G.2.1⟩⟩, G.2.2.F ht⟩) G.2.2.2.2 dX11_mute_34) _ _ _ _ _ _ _ _ _ h (GL.tr (gl_cpr hgl cp2) hg2) hrc2 (fun n hn => (hga n (by rw [cp2.1]; exact Nat.lt_of_lt_of_le hn hgl.1)).trans (had n hn)) (Nat.lt_of_lt_of_le (by rw [cp2.1]; exact h_o) hg2.1) G hl
set_option maxHeartbeats 4000000 in
set_option maxRecDepth 100000 in
theorem b_X11_mute_b23 {p : Program} {l : Launch} {e : Env} {s : State} {m : MethodId} {args : Array Value} {below : List Frame} {meth : Method} {c : Code} {Qc : Array Value → State → Outcome → State → Prop} {XC : String → State → State → Prop} {D : va_G} {A : Nat → Prop} {cI cJ cZ cMic cSrc cSt cAI cAJ : ClassId} {ad0 : Nat → Nat} {T0 : AT} {e1 : Nat} {r1 : Int32} {T1 : AT} (E : cE p c cX11_mute s m args (Cond.code yX11_mute cX11_mute 4 (some .boolean) :: wsA) D RX11 (CT cI cJ cZ cMic cSrc cSt cAI cAJ)) (hA : ∀ q : Nat, s.heap.size ≤ q → A q) (hX : xT A s) (hN : nX s) (hml : c.maxLocals = 4) (hst : l.stackTraces = false) (htab : ∀ x ∈ c.exceptionTable.toList, False) (hlocks : meth.locks = false) (kx : ∀ (ad : Nat → Nat) (H : Heap) (locs : List Loc) (t : State), (∀ n, n < T0.1 → ad n = ad0 n) → gC cI cJ cZ cMic cSrc cSt cAI cAJ D ad A s.heap H locs T1 → s.vm.Alike t.vm → H.size ≤ t.heap.size → (∀ q, q < H.size → t.heap[q]? = H[q]?) → XC (exn e1) s t) : ∀ (T : AT) (ad : Nat → Nat) (H : Heap) (locs : List Loc) (ls : Array Slot) (l0 : Nat) (l1 : Int32) (l2 : Int32) (l3 : Int32), g_X11_mute_b23 T l0 l1 l2 l3 = some (e1 + 1, r1, T1) → GL T0 T → RC T → (∀ n, n < T0.1 → ad n = ad0 n) → l0 < T.1 → gC cI cJ cZ cMic cSrc cSt cAI cAJ D ad A s.heap H locs T → lv_has ls 4 [(0, .ref (ad l0)), (1, .int l1), (2, .int l2), (3, .int l3)] → W p l e { frames := 8, cells := T1.1 - T0.1 + 1, slots := sg T1 - sg T0 + 6, locals := 123 } s m args below meth c H locs (T.1 - T0.1) (sg T - sg T0) (vx_MQ below Qc XC args s (T1.1 - T0.1 + 1) (sg T1 - sg T0 + 6) A) (F0 m 23 ls []) := by
  have hx := E.1
  have hb := E.2.1
  have hts := E.2.2.1
  have hown := E.2.2.2.1
  have hK := E.2.2.2.2
  intro T ad H locs ls l0 l1 l2 l3 h hgl hrc had h_l0 G hl
  have hT1 := s_X11_mute_b23 _ _ _ _ _ h
  have hcs := cs_okx hgl hT1
  have hcx := cs_okx1 hgl hT1
  have cp0 := cpr0 hrc
  unfold g_X11_mute_b23 at h
  refine lv_aload_n hx hb dX11_mute_23 rfl (lv_at hl 0 rfl) ?_
  obtain ⟨g2, h⟩ := oif_some h
  obtain ⟨n3, en3, h⟩ := obind_some h
  have h_n3 : n3 < T.1 := by rw [← cp0.1]; exact cp0.2.2 _ _ _ en3
  refine c_get E G l0 6 (v := .ref (ad n3)) (oO_k g2).1 (cc_o11 (oO_k g2).2) rfl (fun w h => .tail _ (iA_23 h)) (by decide) (.tail _ qA_664) rfl (by rw [en3]; rfl) dX11_mute_24 ?_
  clear en3
  obtain ⟨g4, h⟩ := oif_some h
  obtain ⟨n5, en5, h⟩ := obind_some h
  have h_n5 : n5 < T.1 := by rw [← cp0.1]; exact cp0.2.2 _ _ _ en5
  refine c_get E G n3 3 (v := .ref (ad n5)) (oO_k g4).1 (cc_o8 (oO_k g4).2) rfl (fun w h => .tail _ (iA_16 h)) (by decide) (.tail _ qA_746) rfl (by rw [en5]; rfl) dX11_mute_27 ?_
  clear en5
  refine lv_iload_n hx hb dX11_mute_30 rfl (lv_at hl 1 rfl) ?_
  refine lv_iload_n hx hb dX11_mute_31 rfl (lv_at hl 2 rfl) ?_
  obtain ⟨g6, h⟩ := oif_some h
  obtain ⟨g7, h⟩ := oif_some h
  obtain ⟨gz, h⟩ := oif_some h
  refine c_zast E G n5 2 (k := l1.toNatClampNeg) (v := l2) (aA_k g6).1 (cc_a102 (aA_k g6).2.1) rfl (inb_k g7).1 (inb_k g7).2 (aA_k g6).2.2 (by rcases gz with rfl | rfl <;> rfl) dX11_mute_32 (fun H locs G => ?_)
  have G := gC_up_i (f := upd (T.2.2.1 n5) l1.toNatClampNeg l2) (ccv_102 (aA_k g6).2.1) G
  obtain ⟨T8, eT8, h⟩ := elet_some h
  have G : gC cI cJ cZ cMic cSrc cSt cAI cAJ D ad A s.heap H locs T8 := by rw [eT8]; exact G
  have cp1 := show CPR T T8 from by rw [eT8]; exact cpr_sp cp0 sp_uI
  clear eT8
  refine lv_iload_n hx hb dX11_mute_33 rfl (lv_at hl 3 rfl) ?_
  obtain ⟨gz, h⟩ := oif_some h
  exact (Nat.succ_ne_zero _ (congrArg Prod.fst (Option.some.inj h)).symm).elim
set_option maxHeartbeats 4000000 in
set_option maxRecDepth 100000 in
theorem b_X11_mute (l : Launch) (hst : l.stackTraces = false) (D : va_G) (cI cJ cZ cMic cSrc cSt cAI cAJ : ClassId) (ad : Nat → Nat) (T : AT) (o : Nat) (a0 : Int32) (a1 : Int32) {e1 : Nat} {r1 : Int32} {T1 : AT} (h : g_X11_mute T o a0 a1 = some (e1 + 1, r1, T1)) (hrc : RC T) (h_o : o < T.1) : kAXi l yX11_mute (Cond.code yX11_mute cX11_mute 4 (some .boolean) :: wsA) 8 123 cI cJ cZ cMic cSrc cSt cAI cAJ D ad T [.ref (ad o), .int a0, .int a1] e1 T1 := by
  intro sz
  refine vx_ofW (cc := cX11_mute) (maxL := 4) (ret := (some .boolean)) (by decide) rfl ?_
  intro p e s m args below meth c s₁ B hml htab hv
  obtain ⟨rfl, hsz, hP, hK, hD0, hX, hN⟩ := hv
  have hx := B.exec
  have hb := B.bytes
  have hr := B.returns
  have hts := atoms_spec (ws := (Cond.code yX11_mute cX11_mute 4 (some .boolean) :: wsA)) B.pre
  have hown : s.vm.findClass RX11 = some m.cls := findClass_of_methodNamed B.named
  have hlocks := B.notSynchronized
  subst hsz
  have hD := hD0.self (sz := s.heap.size)
  generalize hAe : va_A (cW ad T.1 (cc cI cJ cZ cMic cSrc cSt cAI cAJ ad T)) s.heap.size = A at hD hX ⊢
  have hA : ∀ q : Nat, s.heap.size ≤ q → A q := fun q h => by rw [← hAe]; exact Or.inr h
  have G : gC cI cJ cZ cMic cSrc cSt cAI cAJ D ad A s.heap s.heap [] T := ⟨hP, hD, va_S.rf⟩
  have E : cE p c cX11_mute s m ([.ref (ad o), .int a0, .int a1] : List Value).toArray (Cond.code yX11_mute cX11_mute 4 (some .boolean) :: wsA) D RX11 (CT cI cJ cZ cMic cSrc cSt cAI cAJ) := ⟨hx, hb, hts, hown, hK⟩
  have htab : ∀ x ∈ c.exceptionTable.toList, False := fun x hx => htab x hx
  have hl := lv_entry ([.ref (ad o), .int a0, .int a1]) (n := 4) (Nat.le_of_ble_eq_true rfl)
  rw [lg_entry_eq]
  generalize (lg_sl ([.ref (ad o), .int a0, .int a1]) ++ List.replicate (4 - (lg_sl ([.ref (ad o), .int a0, .int a1])).length) Slot.unset).toArray = ls at hl ⊢
  have hl : lv_has ls 4 [(0, .ref (ad o)), (1, .int a0), (2, .int a1)] := hl
  have hgl := GL.rf T
  have had : ∀ n, n < T.1 → ad n = ad n := fun _ _ => rfl
  have hT1 := s_X11_mute h
  have hcs := cs_okx hgl hT1
  have hcx := cs_okx1 hgl hT1
  refine w_cast (Nat.sub_self T.1).symm (Nat.sub_self (sg T)).symm ?_
  have cp0 := cpr0 hrc
  unfold g_X11_mute at h
  refine lv_aload_n hx hb dX11_mute_0 rfl (lv_at hl 0 rfl) ?_
  obtain ⟨g2, h⟩ := oif_some h
  rcases othr_t h with ⟨r0, eT3⟩ | ⟨r5, T3, eT3, h⟩
  · refine q_xvv (As := []) (rest := []) E G hA hX hN hml (x_X11_needCamera l hst D cI cJ cZ cMic cSrc cSt cAI cAJ ad T o eT3) (cwV 0 hts (gaV qA_728 qA_729 qA_730 qA_131 qA_731) rfl rfl rfl (by decide +kernel) ⟨Nat.le_of_ble_eq_true rfl, Nat.le_of_ble_eq_true rfl⟩) (oO_k g2).1 (cc_o11 (oO_k g2).2) rfl rfl hl.1 rfl (lv_room (Nat.le_of_ble_eq_true rfl)) dX11_mute_1 hcx (fun E9 ce q9 T9 H locs hp G hce hcv hcl => ?_)
    obtain ⟨hE, hT⟩ := hp
    subst hE
    rw [hT] at G
    exact vx_out (fun x hx => (htab x hx).elim) hlocks hce hcv hcl (fun t ht hvm => ⟨(T1, ad), trivial, ⟨⟨rfl, rfl, had⟩, by rw [ht]; exact G.1, va_K.moved hvm hK, G.2.1⟩, G.2.2.F ht⟩) G.2.2.2.2 hcx.1 hcx.2
  refine q_cvv (As := []) (rest := []) E G hA hX hN hml (u_X11_needCamera l hst D cI cJ cZ cMic cSrc cSt cAI cAJ ad T o eT3) (cwV 0 hts (gaV qA_728 qA_729 qA_730 qA_131 qA_731) rfl rfl rfl (by decide +kernel) ⟨Nat.le_of_ble_eq_true rfl, Nat.le_of_ble_eq_true rfl⟩) (oO_k g2).1 (cc_o11 (oO_k g2).2) rfl rfl hl.1 rfl (lv_room (Nat.le_of_ble_eq_true rfl)) dX11_mute_1 hcs (fun T4 H locs hq G => ?_)
  rw [hq] at G
  clear hq
  have cp1 := cpr_sp cp0 (s_X11_needCamera eT3)
  refine lv_aload_n hx hb dX11_mute_4 rfl (lv_at hl 0 rfl) ?_
  refine lv_iload_n hx hb dX11_mute_5 rfl (lv_at hl 1 rfl) ?_
  obtain ⟨g7, h⟩ := oif_some h
  rcases othr_t h with ⟨r0, eT8⟩ | ⟨r10, T8, eT8, h⟩
  · refine q_xvv (As := [.int a0]) (rest := []) E G hA hX hN hml (x_X11_needMic l hst D cI cJ cZ cMic cSrc cSt cAI cAJ ad T3 o a0 eT8) (cwV 1 hts (gaV qA_734 qA_735 qA_736 qA_131 qA_737) rfl rfl rfl (by decide +kernel) ⟨Nat.le_of_ble_eq_true rfl, Nat.le_of_ble_eq_true rfl⟩) (oO_k g7).1 (cc_o11 (oO_k g7).2) rfl rfl hl.1 rfl (lv_room (Nat.le_of_ble_eq_true rfl)) dX11_mute_6 hcx (fun E9 ce q9 T9 H locs hp G hce hcv hcl => ?_)
    obtain ⟨hE, hT⟩ := hp
    subst hE
    rw [hT] at G
    exact vx_out (fun x hx => (htab x hx).elim) hlocks hce hcv hcl (fun t ht hvm => ⟨(T1, ad), trivial, ⟨⟨rfl, rfl, had⟩, by rw [ht]; exact G.1, va_K.moved hvm hK, G.2.1⟩, G.2.2.F ht⟩) G.2.2.2.2 hcx.1 hcx.2
  refine q_cvv (As := [.int a0]) (rest := []) E G hA hX hN hml (u_X11_needMic l hst D cI cJ cZ cMic cSrc cSt cAI cAJ ad T3 o a0 eT8) (cwV 1 hts (gaV qA_734 qA_735 qA_736 qA_131 qA_737) rfl rfl rfl (by decide +kernel) ⟨Nat.le_of_ble_eq_true rfl, Nat.le_of_ble_eq_true rfl⟩) (oO_k g7).1 (cc_o11 (oO_k g7).2) rfl rfl hl.1 rfl (lv_room (Nat.le_of_ble_eq_true rfl)) dX11_mute_6 hcs (fun T9 H locs hq G => ?_)
  rw [hq] at G
  clear hq
  have cp2 := cpr_sp cp1 (s_X11_needMic eT8)
  refine lv_aload_n hx hb dX11_mute_9 rfl (lv_at hl 0 rfl) ?_
  obtain ⟨g12, h⟩ := oif_some h
  obtain ⟨n13, en13, h⟩ := obind_some h
  have h_n13 : n13 < T.1 := by rw [← cp2.1]; exact cp2.2.2 _ _ _ en13
  refine c_get E G o 6 (v := .ref (ad n13)) (oO_k g12).1 (cc_o11 (oO_k g12).2) rfl (fun w h => .tail _ (iA_23 h)) (by decide) (.tail _ qA_664) rfl (by rw [en13]; rfl) dX11_mute_10 ?_
  clear en13
  obtain ⟨g14, h⟩ := oif_some h
  obtain ⟨n15, en15, h⟩ := obind_some h
  have h_n15 : n15 < T.1 := by rw [← cp2.1]; exact cp2.2.2 _ _ _ en15
  refine c_get E G n13 3 (v := .ref (ad n15)) (oO_k g14).1 (cc_o8 (oO_k g14).2) rfl (fun w h => .tail _ (iA_16 h)) (by decide) (.tail _ qA_746) rfl (by rw [en15]; rfl) dX11_mute_13 ?_
  clear en15
  refine lv_iload_n hx hb dX11_mute_16 rfl (lv_at hl 1 rfl) ?_
  obtain ⟨g16, h⟩ := oif_some h
  obtain ⟨g17, h⟩ := oif_some h
  refine c_zald E G n15 2 (k := a0.toNatClampNeg) (aA_k g16).1 (cc_a102 (aA_k g16).2.1) rfl (inb_k g17).1 (inb_k g17).2 (aA_k g16).2.2 dX11_mute_17 ?_
  refine lv_topi (fun v18 ev18 => ?_)
  have h := elet_at ev18 h
  clear ev18
  refine lv_istore_n (lv' := [(3, .int v18), (0, .ref (ad o)), (1, .int a0), (2, .int a1)]) hx hb dX11_mute_18 rfl hl (by decide) rfl (fun ls hl => ?_)
  refine lv_aload_n hx hb dX11_mute_19 rfl (lv_at hl 1 rfl) ?_
  obtain ⟨g19, h⟩ := oif_some h
  obtain ⟨T20, eT20, h⟩ := obind_some h
  have hg2 := s_X11_keepForUndo eT20
  have hrc2 := hg2.2.2 cp2.2.2
  have hT2 := s_X11_mute_b23 _ _ _ _ _ h
  refine q_avv (As := []) (rest := []) E G hA hX hN hml (a_X11_keepForUndo l hst D cI cJ cZ cMic cSrc cSt cAI cAJ ad T8 o eT20 cp2.2.2 (by rw [cp2.1]; exact h_o)) (cwV 0 hts (gaV qA_925 qA_926 qA_927 qA_131 qA_928) rfl rfl rfl (by decide +kernel) ⟨Nat.le_of_ble_eq_true rfl, Nat.le_of_ble_eq_true rfl⟩) (oO_k g19).1 (cc_o11 (oO_k g19).2) rfl rfl hl.1 rfl (lv_room (Nat.le_of_ble_eq_true rfl)) dX11_mute_20 (cs_avx hgl cp2 hg2 hT2) (fun ad2 H locs hga G => ?_)
  refine w_cast (c2 := T20.1 - T.1) (s2 := sg T20 - sg T) (cs_f1 hgl cp2 hg2) (cs_f2 hgl cp2 hg2) ?_
  have hl := lv_sub hl [1, 2, 3, 0] rfl
  rw [show ad o = ad2 o from (hga o (by rw [cp2.1]; exact h_o)).symm] at hl
  exact b_X11_mute_b23 E hA hX hN hml hst htab hlocks (fun ad H locs t had G hvm h1 h2 => ⟨(T1, ad), trivial, ⟨⟨rfl, rfl, had⟩, (c_thrown G hK hvm h1 h2).1⟩, (c_thrown G hK hvm h1 h2).2⟩) _ _ _ _ _ _ _ _ _ h (GL.tr (gl_cpr hgl cp2) hg2) hrc2 (fun n hn => (hga n (by rw [cp2.1]; exact Nat.lt_of_lt_of_le hn hgl.1)).trans (had n hn)) (Nat.lt_of_lt_of_le (by rw [cp2.1]; exact h_o) hg2.1) G hl
def g_X11_setWeight_b30  (T : AT) (l0 : Nat) (l1 : Int32) (l2 : Int32) (l3 : Int32) : Option (Nat × Int32 × AT) := oif (oO T l0 11 = true) <| obind (T.2.2.2.2 l0 6) fun n3 => oif (oO T n3 8 = true) <| obind (T.2.2.2.2 n3 4) fun n5 => oif (aA T n5 100 = true) <| oif (inb l1 (T.2.1 n5).2 = true) <| elet (uI T n5 l1.toNatClampNeg l2) fun T8 => some (0, l3, T8)
def g_X11_setWeight (T : AT) (o : Nat) (a0 : Int32) (a1 : Int32) : Option (Nat × Int32 × AT) := oif (oO T o 11 = true) <| othr (g_X11_needCamera T o) 0 fun r5 T3 => oif (oO T3 o 11 = true) <| othr (g_X11_needMic T3 o a0) 0 fun r10 T8 => othr (g_X11_needRange T8 a1 (0 : Int32) (9 : Int32)) 0 fun r14 T12 => oif (oO T12 o 11 = true) <| obind (T12.2.2.2.2 o 6) fun n17 => oif (oO T12 n17 8 = true) <| obind (T12.2.2.2.2 n17 4) fun n19 => oif (aA T12 n19 100 = true) <| oif (inb a0 (T12.2.1 n19).2 = true) <| elet (T12.2.2.1 n19 a0.toNatClampNeg) fun v22 => oif (oO T12 o 11 = true) <| obind (g_X11_keepForUndo T12 o) fun T24 => g_X11_setWeight_b30 T24 o a0 a1 v22
set_option maxHeartbeats 4000000 in
set_option maxRecDepth 100000 in
theorem s_X11_setWeight_b30 {e1 : Nat} {r1 : Int32} {T1 : AT} : ∀ (T : AT) (l0 : Nat) (l1 : Int32) (l2 : Int32) (l3 : Int32), g_X11_setWeight_b30 T l0 l1 l2 l3 = some (e1, r1, T1) → GL T T1 := by
  intro T l0 l1 l2 l3 h
  have p0 := GL.rf T
  unfold g_X11_setWeight_b30 at h
  obtain ⟨g2, h⟩ := oif_some h
  obtain ⟨n3, en3, h⟩ := obind_some h
  obtain ⟨g4, h⟩ := oif_some h
  obtain ⟨n5, en5, h⟩ := obind_some h
  obtain ⟨g6, h⟩ := oif_some h
  obtain ⟨g7, h⟩ := oif_some h
  obtain ⟨T8, eT8, h⟩ := elet_some h
  have p1 : GL T T8 := GL.tr p0 (by rw [eT8]; exact gl_sp sp_uI)
  rw [← (osome3 h).2.2]
  exact p1
set_option maxHeartbeats 4000000 in
set_option maxRecDepth 100000 in
theorem s_X11_setWeight {T : AT} {o : Nat} {a0 : Int32} {a1 : Int32} {e1 : Nat} {r1 : Int32} {T1 : AT} (h : g_X11_setWeight T o a0 a1 = some (e1, r1, T1)) : GL T T1 := by
  have p0 := GL.rf T
  unfold g_X11_setWeight at h
  obtain ⟨g2, h⟩ := oif_some h
  rcases othr_s h with ⟨k9, r9, e9, -⟩ | ⟨r4, T3, eT3, h⟩
  · exact GL.tr p0 (gl_sp (s_X11_needCamera e9))
  have p1 : GL T T3 := GL.tr p0 (gl_sp (s_X11_needCamera eT3))
  obtain ⟨g5, h⟩ := oif_some h
  rcases othr_s h with ⟨k9, r9, e9, -⟩ | ⟨r7, T6, eT6, h⟩
  · exact GL.tr p1 (gl_sp (s_X11_needMic e9))
  have p2 : GL T T6 := GL.tr p1 (gl_sp (s_X11_needMic eT6))
  rcases othr_s h with ⟨k9, r9, e9, -⟩ | ⟨r9, T8, eT8, h⟩
  · exact GL.tr p2 (gl_sp (s_X11_needRange e9))
  have p3 : GL T T8 := GL.tr p2 (gl_sp (s_X11_needRange eT8))
  obtain ⟨g10, h⟩ := oif_some h
  obtain ⟨n11, en11, h⟩ := obind_some h
  obtain ⟨g12, h⟩ := oif_some h
  obtain ⟨n13, en13, h⟩ := obind_some h
  obtain ⟨g14, h⟩ := oif_some h
  obtain ⟨g15, h⟩ := oif_some h
  obtain ⟨v16, -, h⟩ := elet_some h
  obtain ⟨g17, h⟩ := oif_some h
  obtain ⟨T18, eT18, h⟩ := obind_some h
  have p4 : GL T T18 := GL.tr p3 (s_X11_keepForUndo eT18)
  exact GL.tr p4 (s_X11_setWeight_b30 _ _ _ _ _ h)
set_option maxHeartbeats 4000000 in
set_option maxRecDepth 100000 in
theorem a_X11_setWeight_b30 {p : Program} {l : Launch} {e : Env} {s : State} {m : MethodId} {args : Array Value} {below : List Frame} {meth : Method} {c : Code} {Q : State → Prop} {D : va_G} {A : Nat → Prop} {cI cJ cZ cMic cSrc cSt cAI cAJ : ClassId} {ad0 : Nat → Nat} {T0 : AT} {r1 : Int32} {T1 : AT} (E : cE p c cX11_setWeight s m args (Cond.code yX11_setWeight cX11_setWeight 4 (some .int) :: wsA) D RX11 (CT cI cJ cZ cMic cSrc cSt cAI cAJ)) (hA : ∀ q : Nat, s.heap.size ≤ q → A q) (hX : xT A s) (hN : nX s) (hml : c.maxLocals = 4) (hst : l.stackTraces = false) (kr41 : ∀ (ad : Nat → Nat) (H : Heap) (locs : List Loc) (ls : Array Slot), (∀ n, n < T0.1 → ad n = ad0 n) → gC cI cJ cZ cMic cSrc cSt cAI cAJ D ad A s.heap H locs T1 → W p l e { frames := 8, cells := T1.1 - T0.1, slots := sg T1 - sg T0, locals := 123 } s m args below meth c H locs (T1.1 - T0.1) (sg T1 - sg T0) Q (F0 m 41 ls [.int r1])) : ∀ (T : AT) (ad : Nat → Nat) (H : Heap) (locs : List Loc) (ls : Array Slot) (l0 : Nat) (l1 : Int32) (l2 : Int32) (l3 : Int32), g_X11_setWeight_b30 T l0 l1 l2 l3 = some (0, r1, T1) → GL T0 T → RC T → (∀ n, n < T0.1 → ad n = ad0 n) → l0 < T.1 → gC cI cJ cZ cMic cSrc cSt cAI cAJ D ad A s.heap H locs T → lv_has ls 4 [(0, .ref (ad l0)), (1, .int l1), (2, .int l2), (3, .int l3)] → W p l e { frames := 8, cells := T1.1 - T0.1, slots := sg T1 - sg T0, locals := 123 } s m args below meth c H locs (T.1 - T0.1) (sg T - sg T0) Q (F0 m 30 ls []) := by
  have hx := E.1
  have hb := E.2.1
  have hts := E.2.2.1
  have hown := E.2.2.2.1
  have hK := E.2.2.2.2
  intro T ad H locs ls l0 l1 l2 l3 h hgl hrc had h_l0 G hl
  have hT1 := s_X11_setWeight_b30 _ _ _ _ _ h
  have hcs := cs_ok hgl hT1
  have cp0 := cpr0 hrc
  unfold g_X11_setWeight_b30 at h
  refine lv_aload_n hx hb dX11_setWeight_30 rfl (lv_at hl 0 rfl) ?_
  obtain ⟨g2, h⟩ := oif_some h
  obtain ⟨n3, en3, h⟩ := obind_some h
  have h_n3 : n3 < T.1 := by rw [← cp0.1]; exact cp0.2.2 _ _ _ en3
  refine c_get E G l0 6 (v := .ref (ad n3)) (oO_k g2).1 (cc_o11 (oO_k g2).2) rfl (fun w h => .tail _ (iA_23 h)) (by decide) (.tail _ qA_664) rfl (by rw [en3]; rfl) dX11_setWeight_31 ?_
  clear en3
  obtain ⟨g4, h⟩ := oif_some h
  obtain ⟨n5, en5, h⟩ := obind_some h
  have h_n5 : n5 < T.1 := by rw [← cp0.1]; exact cp0.2.2 _ _ _ en5
  refine c_get E G n3 4 (v := .ref (ad n5)) (oO_k g4).1 (cc_o8 (oO_k g4).2) rfl (fun w h => .tail _ (iA_16 h)) (by decide) (.tail _ qA_727) rfl (by rw [en5]; rfl) dX11_setWeight_34 ?_
  clear en5
  refine lv_iload_n hx hb dX11_setWeight_37 rfl (lv_at hl 1 rfl) ?_
  refine lv_iload_n hx hb dX11_setWeight_38 rfl (lv_at hl 2 rfl) ?_
  obtain ⟨g6, h⟩ := oif_some h
  obtain ⟨g7, h⟩ := oif_some h
  refine c_iast E G n5 0 (k := l1.toNatClampNeg) (v := l2) (aA_k g6).1 (cc_a100 (aA_k g6).2.1) rfl (inb_k g7).1 (inb_k g7).2 (aA_k g6).2.2 dX11_setWeight_39 (fun H locs G => ?_)
  have G := gC_up_i (f := upd (T.2.2.1 n5) l1.toNatClampNeg l2) (ccv_100 (aA_k g6).2.1) G
  obtain ⟨T8, eT8, h⟩ := elet_some h
  have G : gC cI cJ cZ cMic cSrc cSt cAI cAJ D ad A s.heap H locs T8 := by rw [eT8]; exact G
  have cp1 := show CPR T T8 from by rw [eT8]; exact cpr_sp cp0 sp_uI
  clear eT8
  refine lv_iload_n hx hb dX11_setWeight_40 rfl (lv_at hl 3 rfl) ?_
  rw [(osome3 h).2.2] at G
  refine w_cast (c2 := T1.1 - T0.1) (s2 := sg T1 - sg T0) (by rw [← (osome3 h).2.2, cp1.1] <;> rfl) (by rw [← (osome3 h).2.2, sg_cpr cp1] <;> rfl) ?_
  refine lv_to ((osome3 h).2.1) ?_
  exact kr41 ad _ _ _ had G
set_option maxHeartbeats 4000000 in
set_option maxRecDepth 100000 in
theorem a_X11_setWeight (l : Launch) (hst : l.stackTraces = false) (D : va_G) (cI cJ cZ cMic cSrc cSt cAI cAJ : ClassId) (ad : Nat → Nat) (T : AT) (o : Nat) (a0 : Int32) (a1 : Int32) {r1 : Int32} {T1 : AT} (h : g_X11_setWeight T o a0 a1 = some (0, r1, T1)) (hrc : RC T) (h_o : o < T.1) : kAi l yX11_setWeight (Cond.code yX11_setWeight cX11_setWeight 4 (some .int) :: wsA) 8 123 cI cJ cZ cMic cSrc cSt cAI cAJ D ad T [.ref (ad o), .int a0, .int a1] r1 T1 := by
  intro sz
  refine Met.ofW (cc := cX11_setWeight) (maxL := 4) (ret := (some .int)) (by decide) rfl ?_
  intro p e s m args below meth c s₁ B hml hv
  obtain ⟨rfl, hsz, hP, hK, hD0, hX, hN⟩ := hv
  have hx := B.exec
  have hb := B.bytes
  have hr := B.returns
  have hts := atoms_spec (ws := (Cond.code yX11_setWeight cX11_setWeight 4 (some .int) :: wsA)) B.pre
  have hown : s.vm.findClass RX11 = some m.cls := findClass_of_methodNamed B.named
  have hlocks := B.notSynchronized
  subst hsz
  have hD := hD0.self (sz := s.heap.size)
  generalize hAe : va_A (cW ad T.1 (cc cI cJ cZ cMic cSrc cSt cAI cAJ ad T)) s.heap.size = A at hD hX ⊢
  have hA : ∀ q : Nat, s.heap.size ≤ q → A q := fun q h => by rw [← hAe]; exact Or.inr h
  have G : gC cI cJ cZ cMic cSrc cSt cAI cAJ D ad A s.heap s.heap [] T := ⟨hP, hD, va_S.rf⟩
  have E : cE p c cX11_setWeight s m ([.ref (ad o), .int a0, .int a1] : List Value).toArray (Cond.code yX11_setWeight cX11_setWeight 4 (some .int) :: wsA) D RX11 (CT cI cJ cZ cMic cSrc cSt cAI cAJ) := ⟨hx, hb, hts, hown, hK⟩
  have hl := lv_entry ([.ref (ad o), .int a0, .int a1]) (n := 4) (Nat.le_of_ble_eq_true rfl)
  rw [lg_entry_eq]
  generalize (lg_sl ([.ref (ad o), .int a0, .int a1]) ++ List.replicate (4 - (lg_sl ([.ref (ad o), .int a0, .int a1])).length) Slot.unset).toArray = ls at hl ⊢
  have hl : lv_has ls 4 [(0, .ref (ad o)), (1, .int a0), (2, .int a1)] := hl
  have hgl := GL.rf T
  have had : ∀ n, n < T.1 → ad n = ad n := fun _ _ => rfl
  have hT1 := s_X11_setWeight h
  have hcs := cs_ok hgl hT1
  refine w_cast (Nat.sub_self T.1).symm (Nat.sub_self (sg T)).symm ?_
  have cp0 := cpr0 hrc
  unfold g_X11_setWeight at h
  refine lv_aload_n hx hb dX11_setWeight_0 rfl (lv_at hl 0 rfl) ?_
  obtain ⟨g2, h⟩ := oif_some h
  obtain ⟨r5, T3, eT3, h⟩ := othr_n h
  refine q_cvv (As := []) (rest := []) E G hA hX hN hml (u_X11_needCamera l hst D cI cJ cZ cMic cSrc cSt cAI cAJ ad T o eT3) (cwV 0 hts (gaV qA_728 qA_729 qA_730 qA_131 qA_731) rfl rfl rfl (by decide +kernel) ⟨Nat.le_of_ble_eq_true rfl, Nat.le_of_ble_eq_true rfl⟩) (oO_k g2).1 (cc_o11 (oO_k g2).2) rfl rfl hl.1 rfl (lv_room (Nat.le_of_ble_eq_true rfl)) dX11_setWeight_1 hcs (fun T4 H locs hq G => ?_)
  rw [hq] at G
  clear hq
  have cp1 := cpr_sp cp0 (s_X11_needCamera eT3)
  refine lv_aload_n hx hb dX11_setWeight_4 rfl (lv_at hl 0 rfl) ?_
  refine lv_iload_n hx hb dX11_setWeight_5 rfl (lv_at hl 1 rfl) ?_
  obtain ⟨g7, h⟩ := oif_some h
  obtain ⟨r10, T8, eT8, h⟩ := othr_n h
  refine q_cvv (As := [.int a0]) (rest := []) E G hA hX hN hml (u_X11_needMic l hst D cI cJ cZ cMic cSrc cSt cAI cAJ ad T3 o a0 eT8) (cwV 1 hts (gaV qA_734 qA_735 qA_736 qA_131 qA_737) rfl rfl rfl (by decide +kernel) ⟨Nat.le_of_ble_eq_true rfl, Nat.le_of_ble_eq_true rfl⟩) (oO_k g7).1 (cc_o11 (oO_k g7).2) rfl rfl hl.1 rfl (lv_room (Nat.le_of_ble_eq_true rfl)) dX11_setWeight_6 hcs (fun T9 H locs hq G => ?_)
  rw [hq] at G
  clear hq
  have cp2 := cpr_sp cp1 (s_X11_needMic eT8)
  refine lv_iload_n hx hb dX11_setWeight_9 rfl (lv_at hl 2 rfl) ?_
  refine lv_iconst (v := 0) hx hb dX11_setWeight_10 (by decide) ?_
  refine lv_bipush (v := 9) hx hb dX11_setWeight_11 (by decide) ?_
  obtain ⟨r14, T12, eT12, h⟩ := othr_n h
  refine q_csv (As := [.int a1, .int 0, .int 9]) (rest := []) E G hA hX hN hml (u_X11_needRange l hst D cI cJ cZ cMic cSrc cSt cAI cAJ ad T8 a1 (0 : Int32) (9 : Int32) eT12) (cwS 3 hts (gaS qA_741 qA_742 qA_131 qA_743) rfl rfl rfl (by decide +kernel) ⟨Nat.le_of_ble_eq_true rfl, Nat.le_of_ble_eq_true rfl⟩) rfl hl.1 rfl (lv_room (Nat.le_of_ble_eq_true rfl)) dX11_setWeight_13 hcs (fun T13 H locs hq G => ?_)
  rw [hq] at G
  clear hq
  have cp3 := cpr_sp cp2 (s_X11_needRange eT12)
  refine lv_aload_n hx hb dX11_setWeight_16 rfl (lv_at hl 0 rfl) ?_
  obtain ⟨g16, h⟩ := oif_some h
  obtain ⟨n17, en17, h⟩ := obind_some h
  have h_n17 : n17 < T.1 := by rw [← cp3.1]; exact cp3.2.2 _ _ _ en17
  refine c_get E G o 6 (v := .ref (ad n17)) (oO_k g16).1 (cc_o11 (oO_k g16).2) rfl (fun w h => .tail _ (iA_23 h)) (by decide) (.tail _ qA_664) rfl (by rw [en17]; rfl) dX11_setWeight_17 ?_
  clear en17
  obtain ⟨g18, h⟩ := oif_some h
  obtain ⟨n19, en19, h⟩ := obind_some h
  have h_n19 : n19 < T.1 := by rw [← cp3.1]; exact cp3.2.2 _ _ _ en19
  refine c_get E G n17 4 (v := .ref (ad n19)) (oO_k g18).1 (cc_o8 (oO_k g18).2) rfl (fun w h => .tail _ (iA_16 h)) (by decide) (.tail _ qA_727) rfl (by rw [en19]; rfl) dX11_setWeight_20 ?_
  clear en19
  refine lv_iload_n hx hb dX11_setWeight_23 rfl (lv_at hl 1 rfl) ?_
  obtain ⟨g20, h⟩ := oif_some h
  obtain ⟨g21, h⟩ := oif_some h
  refine c_iald E G n19 0 (k := a0.toNatClampNeg) (aA_k g20).1 (cc_a100 (aA_k g20).2.1) rfl (inb_k g21).1 (inb_k g21).2 (aA_k g20).2.2 dX11_setWeight_24 ?_
  refine lv_topi (fun v22 ev22 => ?_)
  have h := elet_at ev22 h
  clear ev22
  refine lv_istore_n (lv' := [(3, .int v22), (0, .ref (ad o)), (1, .int a0), (2, .int a1)]) hx hb dX11_setWeight_25 rfl hl (by decide) rfl (fun ls hl => ?_)
  refine lv_aload_n hx hb dX11_setWeight_26 rfl (lv_at hl 1 rfl) ?_
  obtain ⟨g23, h⟩ := oif_some h
  obtain ⟨T24, eT24, h⟩ := obind_some h
  have hg2 := s_X11_keepForUndo eT24
  have hrc2 := hg2.2.2 cp3.2.2
  have hT2 := s_X11_setWeight_b30 _ _ _ _ _ h
  refine q_avv (As := []) (rest := []) E G hA hX hN hml (a_X11_keepForUndo l hst D cI cJ cZ cMic cSrc cSt cAI cAJ ad T12 o eT24 cp3.2.2 (by rw [cp3.1]; exact h_o)) (cwV 0 hts (gaV qA_925 qA_926 qA_927 qA_131 qA_928) rfl rfl rfl (by decide +kernel) ⟨Nat.le_of_ble_eq_true rfl, Nat.le_of_ble_eq_true rfl⟩) (oO_k g23).1 (cc_o11 (oO_k g23).2) rfl rfl hl.1 rfl (lv_room (Nat.le_of_ble_eq_true rfl)) dX11_setWeight_27 (cs_av hgl cp3 hg2 hT2) (fun ad2 H locs hga G => ?_)
  refine w_cast (c2 := T24.1 - T.1) (s2 := sg T24 - sg T) (cs_f1 hgl cp3 hg2) (cs_f2 hgl cp3 hg2) ?_
  have hl := lv_sub hl [1, 2, 3, 0] rfl
  rw [show ad o = ad2 o from (hga o (by rw [cp3.1]; exact h_o)).symm] at hl
  exact a_X11_setWeight_b30 E hA hX hN hml hst (fun ad H locs ls had G => W.iret (v := r1) hx hb hr (fun t ht hW => ⟨⟨r1, (T1, ad), rfl, ⟨rfl, rfl, had⟩, ⟨by rw [ht]; exact G.1, va_K.moved hW.alike hK, G.2.1⟩⟩, G.2.2.F ht⟩) G.2.2.2.2 dX11_setWeight_41) _ _ _ _ _ _ _ _ _ h (GL.tr (gl_cpr hgl cp3) hg2) hrc2 (fun n hn => (hga n (by rw [cp3.1]; exact Nat.lt_of_lt_of_le hn hgl.1)).trans (had n hn)) (Nat.lt_of_lt_of_le (by rw [cp3.1]; exact h_o) hg2.1) G hl
set_option maxHeartbeats 4000000 in
set_option maxRecDepth 100000 in
theorem b_X11_setWeight_b30 {p : Program} {l : Launch} {e : Env} {s : State} {m : MethodId} {args : Array Value} {below : List Frame} {meth : Method} {c : Code} {Qc : Array Value → State → Outcome → State → Prop} {XC : String → State → State → Prop} {D : va_G} {A : Nat → Prop} {cI cJ cZ cMic cSrc cSt cAI cAJ : ClassId} {ad0 : Nat → Nat} {T0 : AT} {e1 : Nat} {r1 : Int32} {T1 : AT} (E : cE p c cX11_setWeight s m args (Cond.code yX11_setWeight cX11_setWeight 4 (some .int) :: wsA) D RX11 (CT cI cJ cZ cMic cSrc cSt cAI cAJ)) (hA : ∀ q : Nat, s.heap.size ≤ q → A q) (hX : xT A s) (hN : nX s) (hml : c.maxLocals = 4) (hst : l.stackTraces = false) (htab : ∀ x ∈ c.exceptionTable.toList, False) (hlocks : meth.locks = false) (kx : ∀ (ad : Nat → Nat) (H : Heap) (locs : List Loc) (t : State), (∀ n, n < T0.1 → ad n = ad0 n) → gC cI cJ cZ cMic cSrc cSt cAI cAJ D ad A s.heap H locs T1 → s.vm.Alike t.vm → H.size ≤ t.heap.size → (∀ q, q < H.size → t.heap[q]? = H[q]?) → XC (exn e1) s t) : ∀ (T : AT) (ad : Nat → Nat) (H : Heap) (locs : List Loc) (ls : Array Slot) (l0 : Nat) (l1 : Int32) (l2 : Int32) (l3 : Int32), g_X11_setWeight_b30 T l0 l1 l2 l3 = some (e1 + 1, r1, T1) → GL T0 T → RC T → (∀ n, n < T0.1 → ad n = ad0 n) → l0 < T.1 → gC cI cJ cZ cMic cSrc cSt cAI cAJ D ad A s.heap H locs T → lv_has ls 4 [(0, .ref (ad l0)), (1, .int l1), (2, .int l2), (3, .int l3)] → W p l e { frames := 8, cells := T1.1 - T0.1 + 1, slots := sg T1 - sg T0 + 6, locals := 123 } s m args below meth c H locs (T.1 - T0.1) (sg T - sg T0) (vx_MQ below Qc XC args s (T1.1 - T0.1 + 1) (sg T1 - sg T0 + 6) A) (F0 m 30 ls []) := by
  have hx := E.1
  have hb := E.2.1
  have hts := E.2.2.1
  have hown := E.2.2.2.1
  have hK := E.2.2.2.2
  intro T ad H locs ls l0 l1 l2 l3 h hgl hrc had h_l0 G hl
  have hT1 := s_X11_setWeight_b30 _ _ _ _ _ h
  have hcs := cs_okx hgl hT1
  have hcx := cs_okx1 hgl hT1
  have cp0 := cpr0 hrc
  unfold g_X11_setWeight_b30 at h
  refine lv_aload_n hx hb dX11_setWeight_30 rfl (lv_at hl 0 rfl) ?_
  obtain ⟨g2, h⟩ := oif_some h
  obtain ⟨n3, en3, h⟩ := obind_some h
  have h_n3 : n3 < T.1 := by rw [← cp0.1]; exact cp0.2.2 _ _ _ en3
  refine c_get E G l0 6 (v := .ref (ad n3)) (oO_k g2).1 (cc_o11 (oO_k g2).2) rfl (fun w h => .tail _ (iA_23 h)) (by decide) (.tail _ qA_664) rfl (by rw [en3]; rfl) dX11_setWeight_31 ?_
  clear en3
  obtain ⟨g4, h⟩ := oif_some h
  obtain ⟨n5, en5, h⟩ := obind_some h
  have h_n5 : n5 < T.1 := by rw [← cp0.1]; exact cp0.2.2 _ _ _ en5
  refine c_get E G n3 4 (v := .ref (ad n5)) (oO_k g4).1 (cc_o8 (oO_k g4).2) rfl (fun w h => .tail _ (iA_16 h)) (by decide) (.tail _ qA_727) rfl (by rw [en5]; rfl) dX11_setWeight_34 ?_
  clear en5
  refine lv_iload_n hx hb dX11_setWeight_37 rfl (lv_at hl 1 rfl) ?_
  refine lv_iload_n hx hb dX11_setWeight_38 rfl (lv_at hl 2 rfl) ?_
  obtain ⟨g6, h⟩ := oif_some h
  obtain ⟨g7, h⟩ := oif_some h
  refine c_iast E G n5 0 (k := l1.toNatClampNeg) (v := l2) (aA_k g6).1 (cc_a100 (aA_k g6).2.1) rfl (inb_k g7).1 (inb_k g7).2 (aA_k g6).2.2 dX11_setWeight_39 (fun H locs G => ?_)
  have G := gC_up_i (f := upd (T.2.2.1 n5) l1.toNatClampNeg l2) (ccv_100 (aA_k g6).2.1) G
  obtain ⟨T8, eT8, h⟩ := elet_some h
  have G : gC cI cJ cZ cMic cSrc cSt cAI cAJ D ad A s.heap H locs T8 := by rw [eT8]; exact G
  have cp1 := show CPR T T8 from by rw [eT8]; exact cpr_sp cp0 sp_uI
  clear eT8
  refine lv_iload_n hx hb dX11_setWeight_40 rfl (lv_at hl 3 rfl) ?_
  exact (Nat.succ_ne_zero _ (congrArg Prod.fst (Option.some.inj h)).symm).elim
set_option maxHeartbeats 4000000 in
set_option maxRecDepth 100000 in
theorem b_X11_setWeight (l : Launch) (hst : l.stackTraces = false) (D : va_G) (cI cJ cZ cMic cSrc cSt cAI cAJ : ClassId) (ad : Nat → Nat) (T : AT) (o : Nat) (a0 : Int32) (a1 : Int32) {e1 : Nat} {r1 : Int32} {T1 : AT} (h : g_X11_setWeight T o a0 a1 = some (e1 + 1, r1, T1)) (hrc : RC T) (h_o : o < T.1) : kAXi l yX11_setWeight (Cond.code yX11_setWeight cX11_setWeight 4 (some .int) :: wsA) 8 123 cI cJ cZ cMic cSrc cSt cAI cAJ D ad T [.ref (ad o), .int a0, .int a1] e1 T1 := by
  intro sz
  refine vx_ofW (cc := cX11_setWeight) (maxL := 4) (ret := (some .int)) (by decide) rfl ?_
  intro p e s m args below meth c s₁ B hml htab hv
  obtain ⟨rfl, hsz, hP, hK, hD0, hX, hN⟩ := hv
  have hx := B.exec
  have hb := B.bytes
  have hr := B.returns
  have hts := atoms_spec (ws := (Cond.code yX11_setWeight cX11_setWeight 4 (some .int) :: wsA)) B.pre
  have hown : s.vm.findClass RX11 = some m.cls := findClass_of_methodNamed B.named
  have hlocks := B.notSynchronized
  subst hsz
  have hD := hD0.self (sz := s.heap.size)
  generalize hAe : va_A (cW ad T.1 (cc cI cJ cZ cMic cSrc cSt cAI cAJ ad T)) s.heap.size = A at hD hX ⊢
  have hA : ∀ q : Nat, s.heap.size ≤ q → A q := fun q h => by rw [← hAe]; exact Or.inr h
  have G : gC cI cJ cZ cMic cSrc cSt cAI cAJ D ad A s.heap s.heap [] T := ⟨hP, hD, va_S.rf⟩
  have E : cE p c cX11_setWeight s m ([.ref (ad o), .int a0, .int a1] : List Value).toArray (Cond.code yX11_setWeight cX11_setWeight 4 (some .int) :: wsA) D RX11 (CT cI cJ cZ cMic cSrc cSt cAI cAJ) := ⟨hx, hb, hts, hown, hK⟩
  have htab : ∀ x ∈ c.exceptionTable.toList, False := fun x hx => htab x hx
  have hl := lv_entry ([.ref (ad o), .int a0, .int a1]) (n := 4) (Nat.le_of_ble_eq_true rfl)
  rw [lg_entry_eq]
  generalize (lg_sl ([.ref (ad o), .int a0, .int a1]) ++ List.replicate (4 - (lg_sl ([.ref (ad o), .int a0, .int a1])).length) Slot.unset).toArray = ls at hl ⊢
  have hl : lv_has ls 4 [(0, .ref (ad o)), (1, .int a0), (2, .int a1)] := hl
  have hgl := GL.rf T
  have had : ∀ n, n < T.1 → ad n = ad n := fun _ _ => rfl
  have hT1 := s_X11_setWeight h
  have hcs := cs_okx hgl hT1
  have hcx := cs_okx1 hgl hT1
  refine w_cast (Nat.sub_self T.1).symm (Nat.sub_self (sg T)).symm ?_
  have cp0 := cpr0 hrc
  unfold g_X11_setWeight at h
  refine lv_aload_n hx hb dX11_setWeight_0 rfl (lv_at hl 0 rfl) ?_
  obtain ⟨g2, h⟩ := oif_some h
  rcases othr_t h with ⟨r0, eT3⟩ | ⟨r5, T3, eT3, h⟩
  · refine q_xvv (As := []) (rest := []) E G hA hX hN hml (x_X11_needCamera l hst D cI cJ cZ cMic cSrc cSt cAI cAJ ad T o eT3) (cwV 0 hts (gaV qA_728 qA_729 qA_730 qA_131 qA_731) rfl rfl rfl (by decide +kernel) ⟨Nat.le_of_ble_eq_true rfl, Nat.le_of_ble_eq_true rfl⟩) (oO_k g2).1 (cc_o11 (oO_k g2).2) rfl rfl hl.1 rfl (lv_room (Nat.le_of_ble_eq_true rfl)) dX11_setWeight_1 hcx (fun E9 ce q9 T9 H locs hp G hce hcv hcl => ?_)
    obtain ⟨hE, hT⟩ := hp
    subst hE
    rw [hT] at G
    exact vx_out (fun x hx => (htab x hx).elim) hlocks hce hcv hcl (fun t ht hvm => ⟨(T1, ad), trivial, ⟨⟨rfl, rfl, had⟩, by rw [ht]; exact G.1, va_K.moved hvm hK, G.2.1⟩, G.2.2.F ht⟩) G.2.2.2.2 hcx.1 hcx.2
  refine q_cvv (As := []) (rest := []) E G hA hX hN hml (u_X11_needCamera l hst D cI cJ cZ cMic cSrc cSt cAI cAJ ad T o eT3) (cwV 0 hts (gaV qA_728 qA_729 qA_730 qA_131 qA_731) rfl rfl rfl (by decide +kernel) ⟨Nat.le_of_ble_eq_true rfl, Nat.le_of_ble_eq_true rfl⟩) (oO_k g2).1 (cc_o11 (oO_k g2).2) rfl rfl hl.1 rfl (lv_room (Nat.le_of_ble_eq_true rfl)) dX11_setWeight_1 hcs (fun T4 H locs hq G => ?_)
  rw [hq] at G
  clear hq
  have cp1 := cpr_sp cp0 (s_X11_needCamera eT3)
  refine lv_aload_n hx hb dX11_setWeight_4 rfl (lv_at hl 0 rfl) ?_
  refine lv_iload_n hx hb dX11_setWeight_5 rfl (lv_at hl 1 rfl) ?_
  obtain ⟨g7, h⟩ := oif_some h
  rcases othr_t h with ⟨r0, eT8⟩ | ⟨r10, T8, eT8, h⟩
  · refine q_xvv (As := [.int a0]) (rest := []) E G hA hX hN hml (x_X11_needMic l hst D cI cJ cZ cMic cSrc cSt cAI cAJ ad T3 o a0 eT8) (cwV 1 hts (gaV qA_734 qA_735 qA_736 qA_131 qA_737) rfl rfl rfl (by decide +kernel) ⟨Nat.le_of_ble_eq_true rfl, Nat.le_of_ble_eq_true rfl⟩) (oO_k g7).1 (cc_o11 (oO_k g7).2) rfl rfl hl.1 rfl (lv_room (Nat.le_of_ble_eq_true rfl)) dX11_setWeight_6 hcx (fun E9 ce q9 T9 H locs hp G hce hcv hcl => ?_)
    obtain ⟨hE, hT⟩ := hp
    subst hE
    rw [hT] at G
    exact vx_out (fun x hx => (htab x hx).elim) hlocks hce hcv hcl (fun t ht hvm => ⟨(T1, ad), trivial, ⟨⟨rfl, rfl, had⟩, by rw [ht]; exact G.1, va_K.moved hvm hK, G.2.1⟩, G.2.2.F ht⟩) G.2.2.2.2 hcx.1 hcx.2
  refine q_cvv (As := [.int a0]) (rest := []) E G hA hX hN hml (u_X11_needMic l hst D cI cJ cZ cMic cSrc cSt cAI cAJ ad T3 o a0 eT8) (cwV 1 hts (gaV qA_734 qA_735 qA_736 qA_131 qA_737) rfl rfl rfl (by decide +kernel) ⟨Nat.le_of_ble_eq_true rfl, Nat.le_of_ble_eq_true rfl⟩) (oO_k g7).1 (cc_o11 (oO_k g7).2) rfl rfl hl.1 rfl (lv_room (Nat.le_of_ble_eq_true rfl)) dX11_setWeight_6 hcs (fun T9 H locs hq G => ?_)
  rw [hq] at G
  clear hq
  have cp2 := cpr_sp cp1 (s_X11_needMic eT8)
  refine lv_iload_n hx hb dX11_setWeight_9 rfl (lv_at hl 2 rfl) ?_
  refine lv_iconst (v := 0) hx hb dX11_setWeight_10 (by decide) ?_
  refine lv_bipush (v := 9) hx hb dX11_setWeight_11 (by decide) ?_
  rcases othr_t h with ⟨r0, eT12⟩ | ⟨r14, T12, eT12, h⟩
  · refine q_xsv (As := [.int a1, .int 0, .int 9]) (rest := []) E G hA hX hN hml (x_X11_needRange l hst D cI cJ cZ cMic cSrc cSt cAI cAJ ad T8 a1 (0 : Int32) (9 : Int32) eT12) (cwS 3 hts (gaS qA_741 qA_742 qA_131 qA_743) rfl rfl rfl (by decide +kernel) ⟨Nat.le_of_ble_eq_true rfl, Nat.le_of_ble_eq_true rfl⟩) rfl hl.1 rfl (lv_room (Nat.le_of_ble_eq_true rfl)) dX11_setWeight_13 hcx (fun E9 ce q9 T9 H locs hp G hce hcv hcl => ?_)
    obtain ⟨hE, hT⟩ := hp
    subst hE
    rw [hT] at G
    exact vx_out (fun x hx => (htab x hx).elim) hlocks hce hcv hcl (fun t ht hvm => ⟨(T1, ad), trivial, ⟨⟨rfl, rfl, had⟩, by rw [ht]; exact G.1, va_K.moved hvm hK, G.2.1⟩, G.2.2.F ht⟩) G.2.2.2.2 hcx.1 hcx.2
  refine q_csv (As := [.int a1, .int 0, .int 9]) (rest := []) E G hA hX hN hml (u_X11_needRange l hst D cI cJ cZ cMic cSrc cSt cAI cAJ ad T8 a1 (0 : Int32) (9 : Int32) eT12) (cwS 3 hts (gaS qA_741 qA_742 qA_131 qA_743) rfl rfl rfl (by decide +kernel) ⟨Nat.le_of_ble_eq_true rfl, Nat.le_of_ble_eq_true rfl⟩) rfl hl.1 rfl (lv_room (Nat.le_of_ble_eq_true rfl)) dX11_setWeight_13 hcs (fun T13 H locs hq G => ?_)
  rw [hq] at G
  clear hq
  have cp3 := cpr_sp cp2 (s_X11_needRange eT12)
  refine lv_aload_n hx hb dX11_setWeight_16 rfl (lv_at hl 0 rfl) ?_
  obtain ⟨g16, h⟩ := oif_some h
  obtain ⟨n17, en17, h⟩ := obind_some h
  have h_n17 : n17 < T.1 := by rw [← cp3.1]; exact cp3.2.2 _ _ _ en17
  refine c_get E G o 6 (v := .ref (ad n17)) (oO_k g16).1 (cc_o11 (oO_k g16).2) rfl (fun w h => .tail _ (iA_23 h)) (by decide) (.tail _ qA_664) rfl (by rw [en17]; rfl) dX11_setWeight_17 ?_
  clear en17
  obtain ⟨g18, h⟩ := oif_some h
  obtain ⟨n19, en19, h⟩ := obind_some h
  have h_n19 : n19 < T.1 := by rw [← cp3.1]; exact cp3.2.2 _ _ _ en19
  refine c_get E G n17 4 (v := .ref (ad n19)) (oO_k g18).1 (cc_o8 (oO_k g18).2) rfl (fun w h => .tail _ (iA_16 h)) (by decide) (.tail _ qA_727) rfl (by rw [en19]; rfl) dX11_setWeight_20 ?_
  clear en19
  refine lv_iload_n hx hb dX11_setWeight_23 rfl (lv_at hl 1 rfl) ?_
  obtain ⟨g20, h⟩ := oif_some h
  obtain ⟨g21, h⟩ := oif_some h
  refine c_iald E G n19 0 (k := a0.toNatClampNeg) (aA_k g20).1 (cc_a100 (aA_k g20).2.1) rfl (inb_k g21).1 (inb_k g21).2 (aA_k g20).2.2 dX11_setWeight_24 ?_
  refine lv_topi (fun v22 ev22 => ?_)
  have h := elet_at ev22 h
  clear ev22
  refine lv_istore_n (lv' := [(3, .int v22), (0, .ref (ad o)), (1, .int a0), (2, .int a1)]) hx hb dX11_setWeight_25 rfl hl (by decide) rfl (fun ls hl => ?_)
  refine lv_aload_n hx hb dX11_setWeight_26 rfl (lv_at hl 1 rfl) ?_
  obtain ⟨g23, h⟩ := oif_some h
  obtain ⟨T24, eT24, h⟩ := obind_some h
  have hg2 := s_X11_keepForUndo eT24
  have hrc2 := hg2.2.2 cp3.2.2
  have hT2 := s_X11_setWeight_b30 _ _ _ _ _ h
  refine q_avv (As := []) (rest := []) E G hA hX hN hml (a_X11_keepForUndo l hst D cI cJ cZ cMic cSrc cSt cAI cAJ ad T12 o eT24 cp3.2.2 (by rw [cp3.1]; exact h_o)) (cwV 0 hts (gaV qA_925 qA_926 qA_927 qA_131 qA_928) rfl rfl rfl (by decide +kernel) ⟨Nat.le_of_ble_eq_true rfl, Nat.le_of_ble_eq_true rfl⟩) (oO_k g23).1 (cc_o11 (oO_k g23).2) rfl rfl hl.1 rfl (lv_room (Nat.le_of_ble_eq_true rfl)) dX11_setWeight_27 (cs_avx hgl cp3 hg2 hT2) (fun ad2 H locs hga G => ?_)
  refine w_cast (c2 := T24.1 - T.1) (s2 := sg T24 - sg T) (cs_f1 hgl cp3 hg2) (cs_f2 hgl cp3 hg2) ?_
  have hl := lv_sub hl [1, 2, 3, 0] rfl
  rw [show ad o = ad2 o from (hga o (by rw [cp3.1]; exact h_o)).symm] at hl
  exact b_X11_setWeight_b30 E hA hX hN hml hst htab hlocks (fun ad H locs t had G hvm h1 h2 => ⟨(T1, ad), trivial, ⟨⟨rfl, rfl, had⟩, (c_thrown G hK hvm h1 h2).1⟩, (c_thrown G hK hvm h1 h2).2⟩) _ _ _ _ _ _ _ _ _ h (GL.tr (gl_cpr hgl cp3) hg2) hrc2 (fun n hn => (hga n (by rw [cp3.1]; exact Nat.lt_of_lt_of_le hn hgl.1)).trans (had n hn)) (Nat.lt_of_lt_of_le (by rw [cp3.1]; exact h_o) hg2.1) G hl
def g_X11_setOn_b48  (T : AT) (l3 : Int32) : Option (Nat × Int32 × AT) := oif (l3 = 0 ∨ l3 = 1) <| some (0, l3, T)
def g_X11_setOn_b23  (T : AT) (l0 : Nat) (l1 : Int32) (l2 : Int32) (l3 : Int32) : Option (Nat × Int32 × AT) := oif (oO T l0 11 = true) <| obind (T.2.2.2.2 l0 6) fun n3 => oif (oO T n3 8 = true) <| obind (T.2.2.2.2 n3 5) fun n5 => oif (aA T n5 102 = true) <| oif (inb l1 (T.2.1 n5).2 = true) <| oif (l2 = 0 ∨ l2 = 1) <| elet (uI T n5 l1.toNatClampNeg l2) fun T8 => oif (oO T8 l0 11 = true) <| obind (T8.2.2.2.2 l0 2) fun n10 => oif (oO T8 l0 11 = true) <| obind (T8.2.2.2.2 l0 14) fun n12 => oif (oO T8 l0 11 = true) <| obind (T8.2.2.2.2 l0 6) fun n14 => oif (oO T8 n10 5 = true) <| obind (g_X5_record T8 n10 n12 n14) fun T16 => g_X11_setOn_b48 T16 l3
def g_X11_setOn (T : AT) (o : Nat) (a0 : Int32) (a1 : Int32) : Option (Nat × Int32 × AT) := oif (oO T o 11 = true) <| othr (g_X11_needCamera T o) 0 fun r5 T3 => oif (oO T3 o 11 = true) <| othr (g_X11_needSource T3 o a0) 0 fun r10 T8 => oif (oO T8 o 11 = true) <| obind (T8.2.2.2.2 o 6) fun n13 => oif (oO T8 n13 8 = true) <| obind (T8.2.2.2.2 n13 5) fun n15 => oif (aA T8 n15 102 = true) <| oif (inb a0 (T8.2.1 n15).2 = true) <| elet (T8.2.2.1 n15 a0.toNatClampNeg) fun v18 => oif (oO T8 o 11 = true) <| obind (g_X11_keepForUndo T8 o) fun T20 => g_X11_setOn_b23 T20 o a0 a1 v18
set_option maxHeartbeats 4000000 in
set_option maxRecDepth 100000 in
theorem s_X11_setOn_b48 {e1 : Nat} {r1 : Int32} {T1 : AT} : ∀ (T : AT) (l3 : Int32), g_X11_setOn_b48 T l3 = some (e1, r1, T1) → GL T T1 := by
  intro T l3 h
  have p0 := GL.rf T
  unfold g_X11_setOn_b48 at h
  obtain ⟨gz, h⟩ := oif_some h
  rw [← (osome3 h).2.2]
  exact p0
set_option maxHeartbeats 4000000 in
set_option maxRecDepth 100000 in
theorem s_X11_setOn_b23 {e1 : Nat} {r1 : Int32} {T1 : AT} : ∀ (T : AT) (l0 : Nat) (l1 : Int32) (l2 : Int32) (l3 : Int32), g_X11_setOn_b23 T l0 l1 l2 l3 = some (e1, r1, T1) → GL T T1 := by
  intro T l0 l1 l2 l3 h
  have p0 := GL.rf T
  unfold g_X11_setOn_b23 at h
  obtain ⟨g2, h⟩ := oif_some h
  obtain ⟨n3, en3, h⟩ := obind_some h
  obtain ⟨g4, h⟩ := oif_some h
  obtain ⟨n5, en5, h⟩ := obind_some h
  obtain ⟨g6, h⟩ := oif_some h
  obtain ⟨g7, h⟩ := oif_some h
  obtain ⟨gz, h⟩ := oif_some h
  obtain ⟨T8, eT8, h⟩ := elet_some h
  have p1 : GL T T8 := GL.tr p0 (by rw [eT8]; exact gl_sp sp_uI)
  obtain ⟨g9, h⟩ := oif_some h
  obtain ⟨n10, en10, h⟩ := obind_some h
  obtain ⟨g11, h⟩ := oif_some h
  obtain ⟨n12, en12, h⟩ := obind_some h
  obtain ⟨g13, h⟩ := oif_some h
  obtain ⟨n14, en14, h⟩ := obind_some h
  obtain ⟨g15, h⟩ := oif_some h
  obtain ⟨T16, eT16, h⟩ := obind_some h
  have p2 : GL T T16 := GL.tr p1 (s_X5_record eT16)
  exact GL.tr p2 (s_X11_setOn_b48 _ _ h)
set_option maxHeartbeats 4000000 in
set_option maxRecDepth 100000 in
theorem s_X11_setOn {T : AT} {o : Nat} {a0 : Int32} {a1 : Int32} {e1 : Nat} {r1 : Int32} {T1 : AT} (h : g_X11_setOn T o a0 a1 = some (e1, r1, T1)) : GL T T1 := by
  have p0 := GL.rf T
  unfold g_X11_setOn at h
  obtain ⟨g2, h⟩ := oif_some h
  rcases othr_s h with ⟨k9, r9, e9, -⟩ | ⟨r4, T3, eT3, h⟩
  · exact GL.tr p0 (gl_sp (s_X11_needCamera e9))
  have p1 : GL T T3 := GL.tr p0 (gl_sp (s_X11_needCamera eT3))
  obtain ⟨g5, h⟩ := oif_some h
  rcases othr_s h with ⟨k9, r9, e9, -⟩ | ⟨r7, T6, eT6, h⟩
  · exact GL.tr p1 (gl_sp (s_X11_needSource e9))
  have p2 : GL T T6 := GL.tr p1 (gl_sp (s_X11_needSource eT6))
  obtain ⟨g8, h⟩ := oif_some h
  obtain ⟨n9, en9, h⟩ := obind_some h
  obtain ⟨g10, h⟩ := oif_some h
  obtain ⟨n11, en11, h⟩ := obind_some h
  obtain ⟨g12, h⟩ := oif_some h
  obtain ⟨g13, h⟩ := oif_some h
  obtain ⟨v14, -, h⟩ := elet_some h
  obtain ⟨g15, h⟩ := oif_some h
  obtain ⟨T16, eT16, h⟩ := obind_some h
  have p3 : GL T T16 := GL.tr p2 (s_X11_keepForUndo eT16)
  exact GL.tr p3 (s_X11_setOn_b23 _ _ _ _ _ h)
set_option maxHeartbeats 4000000 in
set_option maxRecDepth 100000 in
theorem a_X11_setOn_b48 {p : Program} {l : Launch} {e : Env} {s : State} {m : MethodId} {args : Array Value} {below : List Frame} {meth : Method} {c : Code} {Q : State → Prop} {D : va_G} {A : Nat → Prop} {cI cJ cZ cMic cSrc cSt cAI cAJ : ClassId} {ad0 : Nat → Nat} {T0 : AT} {r1 : Int32} {T1 : AT} (E : cE p c cX11_setOn s m args (Cond.code yX11_setOn cX11_setOn 4 (some .boolean) :: wsA) D RX11 (CT cI cJ cZ cMic cSrc cSt cAI cAJ)) (hA : ∀ q : Nat, s.heap.size ≤ q → A q) (hX : xT A s) (hN : nX s) (hml : c.maxLocals = 4) (hst : l.stackTraces = false) (kr49 : ∀ (ad : Nat → Nat) (H : Heap) (locs : List Loc) (ls : Array Slot), (r1 = 0 ∨ r1 = 1) → (∀ n, n < T0.1 → ad n = ad0 n) → gC cI cJ cZ cMic cSrc cSt cAI cAJ D ad A s.heap H locs T1 → W p l e { frames := 8, cells := T1.1 - T0.1, slots := sg T1 - sg T0, locals := 124 } s m args below meth c H locs (T1.1 - T0.1) (sg T1 - sg T0) Q (F0 m 49 ls [.int r1])) : ∀ (T : AT) (ad : Nat → Nat) (H : Heap) (locs : List Loc) (ls : Array Slot) (l3 : Int32), g_X11_setOn_b48 T l3 = some (0, r1, T1) → GL T0 T → RC T → (∀ n, n < T0.1 → ad n = ad0 n) → gC cI cJ cZ cMic cSrc cSt cAI cAJ D ad A s.heap H locs T → lv_has ls 4 [(3, .int l3)] → W p l e { frames := 8, cells := T1.1 - T0.1, slots := sg T1 - sg T0, locals := 124 } s m args below meth c H locs (T.1 - T0.1) (sg T - sg T0) Q (F0 m 48 ls []) := by
  have hx := E.1
  have hb := E.2.1
  have hts := E.2.2.1
  have hown := E.2.2.2.1
  have hK := E.2.2.2.2
  intro T ad H locs ls l3 h hgl hrc had G hl
  have hT1 := s_X11_setOn_b48 _ _ h
  have hcs := cs_ok hgl hT1
  have cp0 := cpr0 hrc
  unfold g_X11_setOn_b48 at h
  refine lv_iload_n hx hb dX11_setOn_48 rfl (lv_at hl 0 rfl) ?_
  obtain ⟨gz, h⟩ := oif_some h
  rw [(osome3 h).2.2] at G
  refine w_cast (c2 := T1.1 - T0.1) (s2 := sg T1 - sg T0) (by rw [← (osome3 h).2.2, cp0.1] <;> rfl) (by rw [← (osome3 h).2.2, sg_cpr cp0] <;> rfl) ?_
  have gr : r1 = 0 ∨ r1 = 1 := by rw [← (osome3 h).2.1]; exact gz
  refine lv_to ((osome3 h).2.1) ?_
  exact kr49 ad _ _ _ gr had G
set_option maxHeartbeats 4000000 in
set_option maxRecDepth 100000 in
theorem a_X11_setOn_b23 {p : Program} {l : Launch} {e : Env} {s : State} {m : MethodId} {args : Array Value} {below : List Frame} {meth : Method} {c : Code} {Q : State → Prop} {D : va_G} {A : Nat → Prop} {cI cJ cZ cMic cSrc cSt cAI cAJ : ClassId} {ad0 : Nat → Nat} {T0 : AT} {r1 : Int32} {T1 : AT} (E : cE p c cX11_setOn s m args (Cond.code yX11_setOn cX11_setOn 4 (some .boolean) :: wsA) D RX11 (CT cI cJ cZ cMic cSrc cSt cAI cAJ)) (hA : ∀ q : Nat, s.heap.size ≤ q → A q) (hX : xT A s) (hN : nX s) (hml : c.maxLocals = 4) (hst : l.stackTraces = false) (kr49 : ∀ (ad : Nat → Nat) (H : Heap) (locs : List Loc) (ls : Array Slot), (r1 = 0 ∨ r1 = 1) → (∀ n, n < T0.1 → ad n = ad0 n) → gC cI cJ cZ cMic cSrc cSt cAI cAJ D ad A s.heap H locs T1 → W p l e { frames := 8, cells := T1.1 - T0.1, slots := sg T1 - sg T0, locals := 124 } s m args below meth c H locs (T1.1 - T0.1) (sg T1 - sg T0) Q (F0 m 49 ls [.int r1])) : ∀ (T : AT) (ad : Nat → Nat) (H : Heap) (locs : List Loc) (ls : Array Slot) (l0 : Nat) (l1 : Int32) (l2 : Int32) (l3 : Int32), g_X11_setOn_b23 T l0 l1 l2 l3 = some (0, r1, T1) → GL T0 T → RC T → (∀ n, n < T0.1 → ad n = ad0 n) → l0 < T.1 → gC cI cJ cZ cMic cSrc cSt cAI cAJ D ad A s.heap H locs T → lv_has ls 4 [(0, .ref (ad l0)), (1, .int l1), (2, .int l2), (3, .int l3)] → W p l e { frames := 8, cells := T1.1 - T0.1, slots := sg T1 - sg T0, locals := 124 } s m args below meth c H locs (T.1 - T0.1) (sg T - sg T0) Q (F0 m 23 ls []) := by
  have hx := E.1
  have hb := E.2.1
  have hts := E.2.2.1
  have hown := E.2.2.2.1
  have hK := E.2.2.2.2
  intro T ad H locs ls l0 l1 l2 l3 h hgl hrc had h_l0 G hl
  have hT1 := s_X11_setOn_b23 _ _ _ _ _ h
  have hcs := cs_ok hgl hT1
  have cp0 := cpr0 hrc
  unfold g_X11_setOn_b23 at h
  refine lv_aload_n hx hb dX11_setOn_23 rfl (lv_at hl 0 rfl) ?_
  obtain ⟨g2, h⟩ := oif_some h
  obtain ⟨n3, en3, h⟩ := obind_some h
  have h_n3 : n3 < T.1 := by rw [← cp0.1]; exact cp0.2.2 _ _ _ en3
  refine c_get E G l0 6 (v := .ref (ad n3)) (oO_k g2).1 (cc_o11 (oO_k g2).2) rfl (fun w h => .tail _ (iA_23 h)) (by decide) (.tail _ qA_664) rfl (by rw [en3]; rfl) dX11_setOn_24 ?_
  clear en3
  obtain ⟨g4, h⟩ := oif_some h
  obtain ⟨n5, en5, h⟩ := obind_some h
  have h_n5 : n5 < T.1 := by rw [← cp0.1]; exact cp0.2.2 _ _ _ en5
  refine c_get E G n3 5 (v := .ref (ad n5)) (oO_k g4).1 (cc_o8 (oO_k g4).2) rfl (fun w h => .tail _ (iA_16 h)) (by decide) (.tail _ qA_772) rfl (by rw [en5]; rfl) dX11_setOn_27 ?_
  clear en5
  refine lv_iload_n hx hb dX11_setOn_30 rfl (lv_at hl 1 rfl) ?_
  refine lv_iload_n hx hb dX11_setOn_31 rfl (lv_at hl 2 rfl) ?_
  obtain ⟨g6, h⟩ := oif_some h
  obtain ⟨g7, h⟩ := oif_some h
  obtain ⟨gz, h⟩ := oif_some h
  refine c_zast E G n5 2 (k := l1.toNatClampNeg) (v := l2) (aA_k g6).1 (cc_a102 (aA_k g6).2.1) rfl (inb_k g7).1 (inb_k g7).2 (aA_k g6).2.2 (by rcases gz with rfl | rfl <;> rfl) dX11_setOn_32 (fun H locs G => ?_)
  have G := gC_up_i (f := upd (T.2.2.1 n5) l1.toNatClampNeg l2) (ccv_102 (aA_k g6).2.1) G
  obtain ⟨T8, eT8, h⟩ := elet_some h
  have G : gC cI cJ cZ cMic cSrc cSt cAI cAJ D ad A s.heap H locs T8 := by rw [eT8]; exact G
  have cp1 := show CPR T T8 from by rw [eT8]; exact cpr_sp cp0 sp_uI
  clear eT8
  refine lv_aload_n hx hb dX11_setOn_33 rfl (lv_at hl 0 rfl) ?_
  obtain ⟨g9, h⟩ := oif_some h
  obtain ⟨n10, en10, h⟩ := obind_some h
  have h_n10 : n10 < T.1 := by rw [← cp1.1]; exact cp1.2.2 _ _ _ en10
  refine c_get E G l0 2 (v := .ref (ad n10)) (oO_k g9).1 (cc_o11 (oO_k g9).2) rfl (fun w h => .tail _ (iA_23 h)) (by decide) (.tail _ qA_654) rfl (by rw [en10]; rfl) dX11_setOn_34 ?_
  clear en10
  refine lv_aload_n hx hb dX11_setOn_37 rfl (lv_at hl 0 rfl) ?_
  obtain ⟨g11, h⟩ := oif_some h
  obtain ⟨n12, en12, h⟩ := obind_some h
  have h_n12 : n12 < T.1 := by rw [← cp1.1]; exact cp1.2.2 _ _ _ en12
  refine c_get E G l0 14 (v := .ref (ad n12)) (oO_k g11).1 (cc_o11 (oO_k g11).2) rfl (fun w h => .tail _ (iA_23 h)) (by decide) (.tail _ qA_675) rfl (by rw [en12]; rfl) dX11_setOn_38 ?_
  clear en12
  refine lv_aload_n hx hb dX11_setOn_41 rfl (lv_at hl 0 rfl) ?_
  obtain ⟨g13, h⟩ := oif_some h
  obtain ⟨n14, en14, h⟩ := obind_some h
  have h_n14 : n14 < T.1 := by rw [← cp1.1]; exact cp1.2.2 _ _ _ en14
  refine c_get E G l0 6 (v := .ref (ad n14)) (oO_k g13).1 (cc_o11 (oO_k g13).2) rfl (fun w h => .tail _ (iA_23 h)) (by decide) (.tail _ qA_664) rfl (by rw [en14]; rfl) dX11_setOn_42 ?_
  clear en14
  obtain ⟨g15, h⟩ := oif_some h
  obtain ⟨T16, eT16, h⟩ := obind_some h
  have hg2 := s_X5_record eT16
  have hrc2 := hg2.2.2 cp1.2.2
  have hT2 := s_X11_setOn_b48 _ _ h
  refine q_avv (As := [.ref (ad n12), .ref (ad n14)]) (rest := []) E G hA hX hN hml (a_X5_record l hst D cI cJ cZ cMic cSrc cSt cAI cAJ ad T8 n10 n12 n14 eT16 cp1.2.2 (by rw [cp1.1]; exact h_n10) (by rw [cp1.1]; exact h_n12) (by rw [cp1.1]; exact h_n14)) (cwV 2 hts (gaV qA_711 qA_712 qA_713 qA_475 qA_463) rfl rfl rfl (by decide +kernel) ⟨Nat.le_of_ble_eq_true rfl, Nat.le_of_ble_eq_true rfl⟩) (oO_k g15).1 (cc_o5 (oO_k g15).2) rfl rfl hl.1 rfl (lv_room (Nat.le_of_ble_eq_true rfl)) dX11_setOn_45 (cs_av hgl cp1 hg2 hT2) (fun ad2 H locs hga G => ?_)
  refine w_cast (c2 := T16.1 - T0.1) (s2 := sg T16 - sg T0) (cs_f1 hgl cp1 hg2) (cs_f2 hgl cp1 hg2) ?_
  have hl := lv_sub hl [3] rfl
  exact a_X11_setOn_b48 E hA hX hN hml hst kr49 _ _ _ _ _ _ h (GL.tr (gl_cpr hgl cp1) hg2) hrc2 (fun n hn => (hga n (by rw [cp1.1]; exact Nat.lt_of_lt_of_le hn hgl.1)).trans (had n hn)) G hl
set_option maxHeartbeats 4000000 in
set_option maxRecDepth 100000 in
theorem a_X11_setOn (l : Launch) (hst : l.stackTraces = false) (D : va_G) (cI cJ cZ cMic cSrc cSt cAI cAJ : ClassId) (ad : Nat → Nat) (T : AT) (o : Nat) (a0 : Int32) (a1 : Int32) {r1 : Int32} {T1 : AT} (h : g_X11_setOn T o a0 a1 = some (0, r1, T1)) (hrc : RC T) (h_o : o < T.1) : kAi l yX11_setOn (Cond.code yX11_setOn cX11_setOn 4 (some .boolean) :: wsA) 8 124 cI cJ cZ cMic cSrc cSt cAI cAJ D ad T [.ref (ad o), .int a0, .int a1] r1 T1 := by
  intro sz
  refine Met.ofW (cc := cX11_setOn) (maxL := 4) (ret := (some .boolean)) (by decide) rfl ?_
  intro p e s m args below meth c s₁ B hml hv
  obtain ⟨rfl, hsz, hP, hK, hD0, hX, hN⟩ := hv
  have hx := B.exec
  have hb := B.bytes
  have hr := B.returns
  have hts := atoms_spec (ws := (Cond.code yX11_setOn cX11_setOn 4 (some .boolean) :: wsA)) B.pre
  have hown : s.vm.findClass RX11 = some m.cls := findClass_of_methodNamed B.named
  have hlocks := B.notSynchronized
  subst hsz
  have hD := hD0.self (sz := s.heap.size)
  generalize hAe : va_A (cW ad T.1 (cc cI cJ cZ cMic cSrc cSt cAI cAJ ad T)) s.heap.size = A at hD hX ⊢
  have hA : ∀ q : Nat, s.heap.size ≤ q → A q := fun q h => by rw [← hAe]; exact Or.inr h
  have G : gC cI cJ cZ cMic cSrc cSt cAI cAJ D ad A s.heap s.heap [] T := ⟨hP, hD, va_S.rf⟩
  have E : cE p c cX11_setOn s m ([.ref (ad o), .int a0, .int a1] : List Value).toArray (Cond.code yX11_setOn cX11_setOn 4 (some .boolean) :: wsA) D RX11 (CT cI cJ cZ cMic cSrc cSt cAI cAJ) := ⟨hx, hb, hts, hown, hK⟩
  have hl := lv_entry ([.ref (ad o), .int a0, .int a1]) (n := 4) (Nat.le_of_ble_eq_true rfl)
  rw [lg_entry_eq]
  generalize (lg_sl ([.ref (ad o), .int a0, .int a1]) ++ List.replicate (4 - (lg_sl ([.ref (ad o), .int a0, .int a1])).length) Slot.unset).toArray = ls at hl ⊢
  have hl : lv_has ls 4 [(0, .ref (ad o)), (1, .int a0), (2, .int a1)] := hl
  have hgl := GL.rf T
  have had : ∀ n, n < T.1 → ad n = ad n := fun _ _ => rfl
  have hT1 := s_X11_setOn h
  have hcs := cs_ok hgl hT1
  refine w_cast (Nat.sub_self T.1).symm (Nat.sub_self (sg T)).symm ?_
  have cp0 := cpr0 hrc
  unfold g_X11_setOn at h
  refine lv_aload_n hx hb dX11_setOn_0 rfl (lv_at hl 0 rfl) ?_
  obtain ⟨g2, h⟩ := oif_some h
  obtain ⟨r5, T3, eT3, h⟩ := othr_n h
  refine q_cvv (As := []) (rest := []) E G hA hX hN hml (u_X11_needCamera l hst D cI cJ cZ cMic cSrc cSt cAI cAJ ad T o eT3) (cwV 0 hts (gaV qA_728 qA_729 qA_730 qA_131 qA_731) rfl rfl rfl (by decide +kernel) ⟨Nat.le_of_ble_eq_true rfl, Nat.le_of_ble_eq_true rfl⟩) (oO_k g2).1 (cc_o11 (oO_k g2).2) rfl rfl hl.1 rfl (lv_room (Nat.le_of_ble_eq_true rfl)) dX11_setOn_1 hcs (fun T4 H locs hq G => ?_)
  rw [hq] at G
  clear hq
  have cp1 := cpr_sp cp0 (s_X11_needCamera eT3)
  refine lv_aload_n hx hb dX11_setOn_4 rfl (lv_at hl 0 rfl) ?_
  refine lv_iload_n hx hb dX11_setOn_5 rfl (lv_at hl 1 rfl) ?_
  obtain ⟨g7, h⟩ := oif_some h
  obtain ⟨r10, T8, eT8, h⟩ := othr_n h
  refine q_cvv (As := [.int a0]) (rest := []) E G hA hX hN hml (u_X11_needSource l hst D cI cJ cZ cMic cSrc cSt cAI cAJ ad T3 o a0 eT8) (cwV 1 hts (gaV qA_766 qA_767 qA_768 qA_131 qA_769) rfl rfl rfl (by decide +kernel) ⟨Nat.le_of_ble_eq_true rfl, Nat.le_of_ble_eq_true rfl⟩) (oO_k g7).1 (cc_o11 (oO_k g7).2) rfl rfl hl.1 rfl (lv_room (Nat.le_of_ble_eq_true rfl)) dX11_setOn_6 hcs (fun T9 H locs hq G => ?_)
  rw [hq] at G
  clear hq
  have cp2 := cpr_sp cp1 (s_X11_needSource eT8)
  refine lv_aload_n hx hb dX11_setOn_9 rfl (lv_at hl 0 rfl) ?_
  obtain ⟨g12, h⟩ := oif_some h
  obtain ⟨n13, en13, h⟩ := obind_some h
  have h_n13 : n13 < T.1 := by rw [← cp2.1]; exact cp2.2.2 _ _ _ en13
  refine c_get E G o 6 (v := .ref (ad n13)) (oO_k g12).1 (cc_o11 (oO_k g12).2) rfl (fun w h => .tail _ (iA_23 h)) (by decide) (.tail _ qA_664) rfl (by rw [en13]; rfl) dX11_setOn_10 ?_
  clear en13
  obtain ⟨g14, h⟩ := oif_some h
  obtain ⟨n15, en15, h⟩ := obind_some h
  have h_n15 : n15 < T.1 := by rw [← cp2.1]; exact cp2.2.2 _ _ _ en15
  refine c_get E G n13 5 (v := .ref (ad n15)) (oO_k g14).1 (cc_o8 (oO_k g14).2) rfl (fun w h => .tail _ (iA_16 h)) (by decide) (.tail _ qA_772) rfl (by rw [en15]; rfl) dX11_setOn_13 ?_
  clear en15
  refine lv_iload_n hx hb dX11_setOn_16 rfl (lv_at hl 1 rfl) ?_
  obtain ⟨g16, h⟩ := oif_some h
  obtain ⟨g17, h⟩ := oif_some h
  refine c_zald E G n15 2 (k := a0.toNatClampNeg) (aA_k g16).1 (cc_a102 (aA_k g16).2.1) rfl (inb_k g17).1 (inb_k g17).2 (aA_k g16).2.2 dX11_setOn_17 ?_
  refine lv_topi (fun v18 ev18 => ?_)
  have h := elet_at ev18 h
  clear ev18
  refine lv_istore_n (lv' := [(3, .int v18), (0, .ref (ad o)), (1, .int a0), (2, .int a1)]) hx hb dX11_setOn_18 rfl hl (by decide) rfl (fun ls hl => ?_)
  refine lv_aload_n hx hb dX11_setOn_19 rfl (lv_at hl 1 rfl) ?_
  obtain ⟨g19, h⟩ := oif_some h
  obtain ⟨T20, eT20, h⟩ := obind_some h
  have hg2 := s_X11_keepForUndo eT20
  have hrc2 := hg2.2.2 cp2.2.2
  have hT2 := s_X11_setOn_b23 _ _ _ _ _ h
  refine q_avv (As := []) (rest := []) E G hA hX hN hml (a_X11_keepForUndo l hst D cI cJ cZ cMic cSrc cSt cAI cAJ ad T8 o eT20 cp2.2.2 (by rw [cp2.1]; exact h_o)) (cwV 0 hts (gaV qA_925 qA_926 qA_927 qA_131 qA_928) rfl rfl rfl (by decide +kernel) ⟨Nat.le_of_ble_eq_true rfl, Nat.le_of_ble_eq_true rfl⟩) (oO_k g19).1 (cc_o11 (oO_k g19).2) rfl rfl hl.1 rfl (lv_room (Nat.le_of_ble_eq_true rfl)) dX11_setOn_20 (cs_av hgl cp2 hg2 hT2) (fun ad2 H locs hga G => ?_)
  refine w_cast (c2 := T20.1 - T.1) (s2 := sg T20 - sg T) (cs_f1 hgl cp2 hg2) (cs_f2 hgl cp2 hg2) ?_
  have hl := lv_sub hl [1, 2, 3, 0] rfl
  rw [show ad o = ad2 o from (hga o (by rw [cp2.1]; exact h_o)).symm] at hl
  exact a_X11_setOn_b23 E hA hX hN hml hst (fun ad H locs ls gz had G => W.zret (v := r1) hx hb hr (nar01 gz) (fun t ht hW => ⟨⟨r1, (T1, ad), rfl, ⟨rfl, rfl, had⟩, ⟨by rw [ht]; exact G.1, va_K.moved hW.alike hK, G.2.1⟩⟩, G.2.2.F ht⟩) G.2.2.2.2 dX11_setOn_49) _ _ _ _ _ _ _ _ _ h (GL.tr (gl_cpr hgl cp2) hg2) hrc2 (fun n hn => (hga n (by rw [cp2.1]; exact Nat.lt_of_lt_of_le hn hgl.1)).trans (had n hn)) (Nat.lt_of_lt_of_le (by rw [cp2.1]; exact h_o) hg2.1) G hl
set_option maxHeartbeats 4000000 in
set_option maxRecDepth 100000 in
theorem b_X11_setOn_b48 {p : Program} {l : Launch} {e : Env} {s : State} {m : MethodId} {args : Array Value} {below : List Frame} {meth : Method} {c : Code} {Qc : Array Value → State → Outcome → State → Prop} {XC : String → State → State → Prop} {D : va_G} {A : Nat → Prop} {cI cJ cZ cMic cSrc cSt cAI cAJ : ClassId} {ad0 : Nat → Nat} {T0 : AT} {e1 : Nat} {r1 : Int32} {T1 : AT} (E : cE p c cX11_setOn s m args (Cond.code yX11_setOn cX11_setOn 4 (some .boolean) :: wsA) D RX11 (CT cI cJ cZ cMic cSrc cSt cAI cAJ)) (hA : ∀ q : Nat, s.heap.size ≤ q → A q) (hX : xT A s) (hN : nX s) (hml : c.maxLocals = 4) (hst : l.stackTraces = false) (htab : ∀ x ∈ c.exceptionTable.toList, False) (hlocks : meth.locks = false) (kx : ∀ (ad : Nat → Nat) (H : Heap) (locs : List Loc) (t : State), (∀ n, n < T0.1 → ad n = ad0 n) → gC cI cJ cZ cMic cSrc cSt cAI cAJ D ad A s.heap H locs T1 → s.vm.Alike t.vm → H.size ≤ t.heap.size → (∀ q, q < H.size → t.heap[q]? = H[q]?) → XC (exn e1) s t) : ∀ (T : AT) (ad : Nat → Nat) (H : Heap) (locs : List Loc) (ls : Array Slot) (l3 : Int32), g_X11_setOn_b48 T l3 = some (e1 + 1, r1, T1) → GL T0 T → RC T → (∀ n, n < T0.1 → ad n = ad0 n) → gC cI cJ cZ cMic cSrc cSt cAI cAJ D ad A s.heap H locs T → lv_has ls 4 [(3, .int l3)] → W p l e { frames := 8, cells := T1.1 - T0.1 + 1, slots := sg T1 - sg T0 + 6, locals := 124 } s m args below meth c H locs (T.1 - T0.1) (sg T - sg T0) (vx_MQ below Qc XC args s (T1.1 - T0.1 + 1) (sg T1 - sg T0 + 6) A) (F0 m 48 ls []) := by
  have hx := E.1
  have hb := E.2.1
  have hts := E.2.2.1
  have hown := E.2.2.2.1
  have hK := E.2.2.2.2
  intro T ad H locs ls l3 h hgl hrc had G hl
  have hT1 := s_X11_setOn_b48 _ _ h
  have hcs := cs_okx hgl hT1
  have hcx := cs_okx1 hgl hT1
  have cp0 := cpr0 hrc
  unfold g_X11_setOn_b48 at h
  refine lv_iload_n hx hb dX11_setOn_48 rfl (lv_at hl 0 rfl) ?_
  obtain ⟨gz, h⟩ := oif_some h
  exact (Nat.succ_ne_zero _ (congrArg Prod.fst (Option.some.inj h)).symm).elim
set_option maxHeartbeats 4000000 in
set_option maxRecDepth 100000 in
theorem b_X11_setOn_b23 {p : Program} {l : Launch} {e : Env} {s : State} {m : MethodId} {args : Array Value} {below : List Frame} {meth : Method} {c : Code} {Qc : Array Value → State → Outcome → State → Prop} {XC : String → State → State → Prop} {D : va_G} {A : Nat → Prop} {cI cJ cZ cMic cSrc cSt cAI cAJ : ClassId} {ad0 : Nat → Nat} {T0 : AT} {e1 : Nat} {r1 : Int32} {T1 : AT} (E : cE p c cX11_setOn s m args (Cond.code yX11_setOn cX11_setOn 4 (some .boolean) :: wsA) D RX11 (CT cI cJ cZ cMic cSrc cSt cAI cAJ)) (hA : ∀ q : Nat, s.heap.size ≤ q → A q) (hX : xT A s) (hN : nX s) (hml : c.maxLocals = 4) (hst : l.stackTraces = false) (htab : ∀ x ∈ c.exceptionTable.toList, False) (hlocks : meth.locks = false) (kx : ∀ (ad : Nat → Nat) (H : Heap) (locs : List Loc) (t : State), (∀ n, n < T0.1 → ad n = ad0 n) → gC cI cJ cZ cMic cSrc cSt cAI cAJ D ad A s.heap H locs T1 → s.vm.Alike t.vm → H.size ≤ t.heap.size → (∀ q, q < H.size → t.heap[q]? = H[q]?) → XC (exn e1) s t) : ∀ (T : AT) (ad : Nat → Nat) (H : Heap) (locs : List Loc) (ls : Array Slot) (l0 : Nat) (l1 : Int32) (l2 : Int32) (l3 : Int32), g_X11_setOn_b23 T l0 l1 l2 l3 = some (e1 + 1, r1, T1) → GL T0 T → RC T → (∀ n, n < T0.1 → ad n = ad0 n) → l0 < T.1 → gC cI cJ cZ cMic cSrc cSt cAI cAJ D ad A s.heap H locs T → lv_has ls 4 [(0, .ref (ad l0)), (1, .int l1), (2, .int l2), (3, .int l3)] → W p l e { frames := 8, cells := T1.1 - T0.1 + 1, slots := sg T1 - sg T0 + 6, locals := 124 } s m args below meth c H locs (T.1 - T0.1) (sg T - sg T0) (vx_MQ below Qc XC args s (T1.1 - T0.1 + 1) (sg T1 - sg T0 + 6) A) (F0 m 23 ls []) := by
  have hx := E.1
  have hb := E.2.1
  have hts := E.2.2.1
  have hown := E.2.2.2.1
  have hK := E.2.2.2.2
  intro T ad H locs ls l0 l1 l2 l3 h hgl hrc had h_l0 G hl
  have hT1 := s_X11_setOn_b23 _ _ _ _ _ h
  have hcs := cs_okx hgl hT1
  have hcx := cs_okx1 hgl hT1
  have cp0 := cpr0 hrc
  unfold g_X11_setOn_b23 at h
  refine lv_aload_n hx hb dX11_setOn_23 rfl (lv_at hl 0 rfl) ?_
  obtain ⟨g2, h⟩ := oif_some h
  obtain ⟨n3, en3, h⟩ := obind_some h
  have h_n3 : n3 < T.1 := by rw [← cp0.1]; exact cp0.2.2 _ _ _ en3
  refine c_get E G l0 6 (v := .ref (ad n3)) (oO_k g2).1 (cc_o11 (oO_k g2).2) rfl (fun w h => .tail _ (iA_23 h)) (by decide) (.tail _ qA_664) rfl (by rw [en3]; rfl) dX11_setOn_24 ?_
  clear en3
  obtain ⟨g4, h⟩ := oif_some h
  obtain ⟨n5, en5, h⟩ := obind_some h
  have h_n5 : n5 < T.1 := by rw [← cp0.1]; exact cp0.2.2 _ _ _ en5
  refine c_get E G n3 5 (v := .ref (ad n5)) (oO_k g4).1 (cc_o8 (oO_k g4).2) rfl (fun w h => .tail _ (iA_16 h)) (by decide) (.tail _ qA_772) rfl (by rw [en5]; rfl) dX11_setOn_27 ?_
  clear en5
  refine lv_iload_n hx hb dX11_setOn_30 rfl (lv_at hl 1 rfl) ?_
  refine lv_iload_n hx hb dX11_setOn_31 rfl (lv_at hl 2 rfl) ?_
  obtain ⟨g6, h⟩ := oif_some h
  obtain ⟨g7, h⟩ := oif_some h
  obtain ⟨gz, h⟩ := oif_some h
  refine c_zast E G n5 2 (k := l1.toNatClampNeg) (v := l2) (aA_k g6).1 (cc_a102 (aA_k g6).2.1) rfl (inb_k g7).1 (inb_k g7).2 (aA_k g6).2.2 (by rcases gz with rfl | rfl <;> rfl) dX11_setOn_32 (fun H locs G => ?_)
  have G := gC_up_i (f := upd (T.2.2.1 n5) l1.toNatClampNeg l2) (ccv_102 (aA_k g6).2.1) G
  obtain ⟨T8, eT8, h⟩ := elet_some h
  have G : gC cI cJ cZ cMic cSrc cSt cAI cAJ D ad A s.heap H locs T8 := by rw [eT8]; exact G
  have cp1 := show CPR T T8 from by rw [eT8]; exact cpr_sp cp0 sp_uI
  clear eT8
  refine lv_aload_n hx hb dX11_setOn_33 rfl (lv_at hl 0 rfl) ?_
  obtain ⟨g9, h⟩ := oif_some h
  obtain ⟨n10, en10, h⟩ := obind_some h
  have h_n10 : n10 < T.1 := by rw [← cp1.1]; exact cp1.2.2 _ _ _ en10
  refine c_get E G l0 2 (v := .ref (ad n10)) (oO_k g9).1 (cc_o11 (oO_k g9).2) rfl (fun w h => .tail _ (iA_23 h)) (by decide) (.tail _ qA_654) rfl (by rw [en10]; rfl) dX11_setOn_34 ?_
  clear en10
  refine lv_aload_n hx hb dX11_setOn_37 rfl (lv_at hl 0 rfl) ?_
  obtain ⟨g11, h⟩ := oif_some h
  obtain ⟨n12, en12, h⟩ := obind_some h
  have h_n12 : n12 < T.1 := by rw [← cp1.1]; exact cp1.2.2 _ _ _ en12
  refine c_get E G l0 14 (v := .ref (ad n12)) (oO_k g11).1 (cc_o11 (oO_k g11).2) rfl (fun w h => .tail _ (iA_23 h)) (by decide) (.tail _ qA_675) rfl (by rw [en12]; rfl) dX11_setOn_38 ?_
  clear en12
  refine lv_aload_n hx hb dX11_setOn_41 rfl (lv_at hl 0 rfl) ?_
  obtain ⟨g13, h⟩ := oif_some h
  obtain ⟨n14, en14, h⟩ := obind_some h
  have h_n14 : n14 < T.1 := by rw [← cp1.1]; exact cp1.2.2 _ _ _ en14
  refine c_get E G l0 6 (v := .ref (ad n14)) (oO_k g13).1 (cc_o11 (oO_k g13).2) rfl (fun w h => .tail _ (iA_23 h)) (by decide) (.tail _ qA_664) rfl (by rw [en14]; rfl) dX11_setOn_42 ?_
  clear en14
  obtain ⟨g15, h⟩ := oif_some h
  obtain ⟨T16, eT16, h⟩ := obind_some h
  have hg2 := s_X5_record eT16
  have hrc2 := hg2.2.2 cp1.2.2
  have hT2 := s_X11_setOn_b48 _ _ h
  refine q_avv (As := [.ref (ad n12), .ref (ad n14)]) (rest := []) E G hA hX hN hml (a_X5_record l hst D cI cJ cZ cMic cSrc cSt cAI cAJ ad T8 n10 n12 n14 eT16 cp1.2.2 (by rw [cp1.1]; exact h_n10) (by rw [cp1.1]; exact h_n12) (by rw [cp1.1]; exact h_n14)) (cwV 2 hts (gaV qA_711 qA_712 qA_713 qA_475 qA_463) rfl rfl rfl (by decide +kernel) ⟨Nat.le_of_ble_eq_true rfl, Nat.le_of_ble_eq_true rfl⟩) (oO_k g15).1 (cc_o5 (oO_k g15).2) rfl rfl hl.1 rfl (lv_room (Nat.le_of_ble_eq_true rfl)) dX11_setOn_45 (cs_avx hgl cp1 hg2 hT2) (fun ad2 H locs hga G => ?_)
  refine w_cast (c2 := T16.1 - T0.1) (s2 := sg T16 - sg T0) (cs_f1 hgl cp1 hg2) (cs_f2 hgl cp1 hg2) ?_
  have hl := lv_sub hl [3] rfl
  exact b_X11_setOn_b48 E hA hX hN hml hst htab hlocks kx _ _ _ _ _ _ h (GL.tr (gl_cpr hgl cp1) hg2) hrc2 (fun n hn => (hga n (by rw [cp1.1]; exact Nat.lt_of_lt_of_le hn hgl.1)).trans (had n hn)) G hl
set_option maxHeartbeats 4000000 in
set_option maxRecDepth 100000 in
theorem b_X11_setOn (l : Launch) (hst : l.stackTraces = false) (D : va_G) (cI cJ cZ cMic cSrc cSt cAI cAJ : ClassId) (ad : Nat → Nat) (T : AT) (o : Nat) (a0 : Int32) (a1 : Int32) {e1 : Nat} {r1 : Int32} {T1 : AT} (h : g_X11_setOn T o a0 a1 = some (e1 + 1, r1, T1)) (hrc : RC T) (h_o : o < T.1) : kAXi l yX11_setOn (Cond.code yX11_setOn cX11_setOn 4 (some .boolean) :: wsA) 8 124 cI cJ cZ cMic cSrc cSt cAI cAJ D ad T [.ref (ad o), .int a0, .int a1] e1 T1 := by
  intro sz
  refine vx_ofW (cc := cX11_setOn) (maxL := 4) (ret := (some .boolean)) (by decide) rfl ?_
  intro p e s m args below meth c s₁ B hml htab hv
  obtain ⟨rfl, hsz, hP, hK, hD0, hX, hN⟩ := hv
  have hx := B.exec
  have hb := B.bytes
  have hr := B.returns
  have hts := atoms_spec (ws := (Cond.code yX11_setOn cX11_setOn 4 (some .boolean) :: wsA)) B.pre
  have hown : s.vm.findClass RX11 = some m.cls := findClass_of_methodNamed B.named
  have hlocks := B.notSynchronized
  subst hsz
  have hD := hD0.self (sz := s.heap.size)
  generalize hAe : va_A (cW ad T.1 (cc cI cJ cZ cMic cSrc cSt cAI cAJ ad T)) s.heap.size = A at hD hX ⊢
  have hA : ∀ q : Nat, s.heap.size ≤ q → A q := fun q h => by rw [← hAe]; exact Or.inr h
  have G : gC cI cJ cZ cMic cSrc cSt cAI cAJ D ad A s.heap s.heap [] T := ⟨hP, hD, va_S.rf⟩
  have E : cE p c cX11_setOn s m ([.ref (ad o), .int a0, .int a1] : List Value).toArray (Cond.code yX11_setOn cX11_setOn 4 (some .boolean) :: wsA) D RX11 (CT cI cJ cZ cMic cSrc cSt cAI cAJ) := ⟨hx, hb, hts, hown, hK⟩
  have htab : ∀ x ∈ c.exceptionTable.toList, False := fun x hx => htab x hx
  have hl := lv_entry ([.ref (ad o), .int a0, .int a1]) (n := 4) (Nat.le_of_ble_eq_true rfl)
  rw [lg_entry_eq]
  generalize (lg_sl ([.ref (ad o), .int a0, .int a1]) ++ List.replicate (4 - (lg_sl ([.ref (ad o), .int a0, .int a1])).length) Slot.unset).toArray = ls at hl ⊢
  have hl : lv_has ls 4 [(0, .ref (ad o)), (1, .int a0), (2, .int a1)] := hl
  have hgl := GL.rf T
  have had : ∀ n, n < T.1 → ad n = ad n := fun _ _ => rfl
  have hT1 := s_X11_setOn h
  have hcs := cs_okx hgl hT1
  have hcx := cs_okx1 hgl hT1
  refine w_cast (Nat.sub_self T.1).symm (Nat.sub_self (sg T)).symm ?_
  have cp0 := cpr0 hrc
  unfold g_X11_setOn at h
  refine lv_aload_n hx hb dX11_setOn_0 rfl (lv_at hl 0 rfl) ?_
  obtain ⟨g2, h⟩ := oif_some h
  rcases othr_t h with ⟨r0, eT3⟩ | ⟨r5, T3, eT3, h⟩
  · refine q_xvv (As := []) (rest := []) E G hA hX hN hml (x_X11_needCamera l hst D cI cJ cZ cMic cSrc cSt cAI cAJ ad T o eT3) (cwV 0 hts (gaV qA_728 qA_729 qA_730 qA_131 qA_731) rfl rfl rfl (by decide +kernel) ⟨Nat.le_of_ble_eq_true rfl, Nat.le_of_ble_eq_true rfl⟩) (oO_k g2).1 (cc_o11 (oO_k g2).2) rfl rfl hl.1 rfl (lv_room (Nat.le_of_ble_eq_true rfl)) dX11_setOn_1 hcx (fun E9 ce q9 T9 H locs hp G hce hcv hcl => ?_)
    obtain ⟨hE, hT⟩ := hp
    subst hE
    rw [hT] at G
    exact vx_out (fun x hx => (htab x hx).elim) hlocks hce hcv hcl (fun t ht hvm => ⟨(T1, ad), trivial, ⟨⟨rfl, rfl, had⟩, by rw [ht]; exact G.1, va_K.moved hvm hK, G.2.1⟩, G.2.2.F ht⟩) G.2.2.2.2 hcx.1 hcx.2
  refine q_cvv (As := []) (rest := []) E G hA hX hN hml (u_X11_needCamera l hst D cI cJ cZ cMic cSrc cSt cAI cAJ ad T o eT3) (cwV 0 hts (gaV qA_728 qA_729 qA_730 qA_131 qA_731) rfl rfl rfl (by decide +kernel) ⟨Nat.le_of_ble_eq_true rfl, Nat.le_of_ble_eq_true rfl⟩) (oO_k g2).1 (cc_o11 (oO_k g2).2) rfl rfl hl.1 rfl (lv_room (Nat.le_of_ble_eq_true rfl)) dX11_setOn_1 hcs (fun T4 H locs hq G => ?_)
  rw [hq] at G
  clear hq
  have cp1 := cpr_sp cp0 (s_X11_needCamera eT3)
  refine lv_aload_n hx hb dX11_setOn_4 rfl (lv_at hl 0 rfl) ?_
  refine lv_iload_n hx hb dX11_setOn_5 rfl (lv_at hl 1 rfl) ?_
  obtain ⟨g7, h⟩ := oif_some h
  rcases othr_t h with ⟨r0, eT8⟩ | ⟨r10, T8, eT8, h⟩
  · refine q_xvv (As := [.int a0]) (rest := []) E G hA hX hN hml (x_X11_needSource l hst D cI cJ cZ cMic cSrc cSt cAI cAJ ad T3 o a0 eT8) (cwV 1 hts (gaV qA_766 qA_767 qA_768 qA_131 qA_769) rfl rfl rfl (by decide +kernel) ⟨Nat.le_of_ble_eq_true rfl, Nat.le_of_ble_eq_true rfl⟩) (oO_k g7).1 (cc_o11 (oO_k g7).2) rfl rfl hl.1 rfl (lv_room (Nat.le_of_ble_eq_true rfl)) dX11_setOn_6 hcx (fun E9 ce q9 T9 H locs hp G hce hcv hcl => ?_)
    obtain ⟨hE, hT⟩ := hp
    subst hE
    rw [hT] at G
    exact vx_out (fun x hx => (htab x hx).elim) hlocks hce hcv hcl (fun t ht hvm => ⟨(T1, ad), trivial, ⟨⟨rfl, rfl, had⟩, by rw [ht]; exact G.1, va_K.moved hvm hK, G.2.1⟩, G.2.2.F ht⟩) G.2.2.2.2 hcx.1 hcx.2
  refine q_cvv (As := [.int a0]) (rest := []) E G hA hX hN hml (u_X11_needSource l hst D cI cJ cZ cMic cSrc cSt cAI cAJ ad T3 o a0 eT8) (cwV 1 hts (gaV qA_766 qA_767 qA_768 qA_131 qA_769) rfl rfl rfl (by decide +kernel) ⟨Nat.le_of_ble_eq_true rfl, Nat.le_of_ble_eq_true rfl⟩) (oO_k g7).1 (cc_o11 (oO_k g7).2) rfl rfl hl.1 rfl (lv_room (Nat.le_of_ble_eq_true rfl)) dX11_setOn_6 hcs (fun T9 H locs hq G => ?_)
  rw [hq] at G
  clear hq
  have cp2 := cpr_sp cp1 (s_X11_needSource eT8)
  refine lv_aload_n hx hb dX11_setOn_9 rfl (lv_at hl 0 rfl) ?_
  obtain ⟨g12, h⟩ := oif_some h
  obtain ⟨n13, en13, h⟩ := obind_some h
  have h_n13 : n13 < T.1 := by rw [← cp2.1]; exact cp2.2.2 _ _ _ en13
  refine c_get E G o 6 (v := .ref (ad n13)) (oO_k g12).1 (cc_o11 (oO_k g12).2) rfl (fun w h => .tail _ (iA_23 h)) (by decide) (.tail _ qA_664) rfl (by rw [en13]; rfl) dX11_setOn_10 ?_
  clear en13
  obtain ⟨g14, h⟩ := oif_some h
  obtain ⟨n15, en15, h⟩ := obind_some h
  have h_n15 : n15 < T.1 := by rw [← cp2.1]; exact cp2.2.2 _ _ _ en15
  refine c_get E G n13 5 (v := .ref (ad n15)) (oO_k g14).1 (cc_o8 (oO_k g14).2) rfl (fun w h => .tail _ (iA_16 h)) (by decide) (.tail _ qA_772) rfl (by rw [en15]; rfl) dX11_setOn_13 ?_
  clear en15
  refine lv_iload_n hx hb dX11_setOn_16 rfl (lv_at hl 1 rfl) ?_
  obtain ⟨g16, h⟩ := oif_some h
  obtain ⟨g17, h⟩ := oif_some h
  refine c_zald E G n15 2 (k := a0.toNatClampNeg) (aA_k g16).1 (cc_a102 (aA_k g16).2.1) rfl (inb_k g17).1 (inb_k g17).2 (aA_k g16).2.2 dX11_setOn_17 ?_
  refine lv_topi (fun v18 ev18 => ?_)
  have h := elet_at ev18 h
  clear ev18
  refine lv_istore_n (lv' := [(3, .int v18), (0, .ref (ad o)), (1, .int a0), (2, .int a1)]) hx hb dX11_setOn_18 rfl hl (by decide) rfl (fun ls hl => ?_)
  refine lv_aload_n hx hb dX11_setOn_19 rfl (lv_at hl 1 rfl) ?_
  obtain ⟨g19, h⟩ := oif_some h
  obtain ⟨T20, eT20, h⟩ := obind_some h
  have hg2 := s_X11_keepForUndo eT20
  have hrc2 := hg2.2.2 cp2.2.2
  have hT2 := s_X11_setOn_b23 _ _ _ _ _ h
  refine q_avv (As := []) (rest := []) E G hA hX hN hml (a_X11_keepForUndo l hst D cI cJ cZ cMic cSrc cSt cAI cAJ ad T8 o eT20 cp2.2.2 (by rw [cp2.1]; exact h_o)) (cwV 0 hts (gaV qA_925 qA_926 qA_927 qA_131 qA_928) rfl rfl rfl (by decide +kernel) ⟨Nat.le_of_ble_eq_true rfl, Nat.le_of_ble_eq_true rfl⟩) (oO_k g19).1 (cc_o11 (oO_k g19).2) rfl rfl hl.1 rfl (lv_room (Nat.le_of_ble_eq_true rfl)) dX11_setOn_20 (cs_avx hgl cp2 hg2 hT2) (fun ad2 H locs hga G => ?_)
  refine w_cast (c2 := T20.1 - T.1) (s2 := sg T20 - sg T) (cs_f1 hgl cp2 hg2) (cs_f2 hgl cp2 hg2) ?_
  have hl := lv_sub hl [1, 2, 3, 0] rfl
  rw [show ad o = ad2 o from (hga o (by rw [cp2.1]; exact h_o)).symm] at hl
  exact b_X11_setOn_b23 E hA hX hN hml hst htab hlocks (fun ad H locs t had G hvm h1 h2 => ⟨(T1, ad), trivial, ⟨⟨rfl, rfl, had⟩, (c_thrown G hK hvm h1 h2).1⟩, (c_thrown G hK hvm h1 h2).2⟩) _ _ _ _ _ _ _ _ _ h (GL.tr (gl_cpr hgl cp2) hg2) hrc2 (fun n hn => (hga n (by rw [cp2.1]; exact Nat.lt_of_lt_of_le hn hgl.1)).trans (had n hn)) (Nat.lt_of_lt_of_le (by rw [cp2.1]; exact h_o) hg2.1) G hl
def g_X11_moveSource_b72  (T : AT) (s0 : Nat) : Option (Nat × Int32 × AT) := oif (oO T s0 4 = true) <| elet (T.2.2.1 s0 2) fun v3 => some (0, v3, T)
def g_X11_moveSource_b68  (T : AT) (l0 : Nat) : Option (Nat × Int32 × AT) := oif (oO T l0 11 = true) <| obind2 (g_X11_powersNow T l0) fun r4 T3 => oif (Nat.blt r4 T3.1 = true) <| g_X11_moveSource_b72 T3 r4
def g_X11_moveSource_b33  (T : AT) (l0 : Nat) (l1 : Int32) (l2 : Int32) (l3 : Int32) : Option (Nat × Int32 × AT) := oif (oO T l0 11 = true) <| obind (T.2.2.2.2 l0 6) fun n3 => oif (oO T n3 8 = true) <| obind (T.2.2.2.2 n3 6) fun n5 => oif (aA T n5 100 = true) <| oif (inb l1 (T.2.1 n5).2 = true) <| elet (uI T n5 l1.toNatClampNeg l2) fun T8 => oif (oO T8 l0 11 = true) <| obind (T8.2.2.2.2 l0 6) fun n10 => oif (oO T8 n10 8 = true) <| obind (T8.2.2.2.2 n10 7) fun n12 => oif (aA T8 n12 100 = true) <| oif (inb l1 (T8.2.1 n12).2 = true) <| elet (uI T8 n12 l1.toNatClampNeg l3) fun T15 => oif (oO T15 l0 11 = true) <| obind (T15.2.2.2.2 l0 2) fun n17 => oif (oO T15 l0 11 = true) <| obind (T15.2.2.2.2 l0 14) fun n19 => oif (oO T15 l0 11 = true) <| obind (T15.2.2.2.2 l0 6) fun n21 => oif (oO T15 n17 5 = true) <| obind (g_X5_record T15 n17 n19 n21) fun T23 => g_X11_moveSource_b68 T23 l0
def g_X11_moveSource (T : AT) (o : Nat) (a0 : Int32) (a1 : Int32) (a2 : Int32) : Option (Nat × Int32 × AT) := oif (oO T o 11 = true) <| othr (g_X11_needCamera T o) 0 fun r5 T3 => oif (oO T3 o 11 = true) <| othr (g_X11_needSource T3 o a0) 0 fun r10 T8 => othr (g_X11_needRange T8 a1 ((-2000) : Int32) (2000 : Int32)) 0 fun r14 T12 => othr (g_X11_needRange T12 a2 ((-2000) : Int32) (2000 : Int32)) 0 fun r18 T16 => oif (oO T16 o 11 = true) <| obind (g_X11_keepForUndo T16 o) fun T21 => g_X11_moveSource_b33 T21 o a0 a1 a2
set_option maxHeartbeats 4000000 in
set_option maxRecDepth 100000 in
theorem s_X11_moveSource_b72 {e1 : Nat} {r1 : Int32} {T1 : AT} : ∀ (T : AT) (s0 : Nat), g_X11_moveSource_b72 T s0 = some (e1, r1, T1) → GL T T1 := by
  intro T s0 h
  have p0 := GL.rf T
  unfold g_X11_moveSource_b72 at h
  obtain ⟨g2, h⟩ := oif_some h
  obtain ⟨v3, -, h⟩ := elet_some h
  rw [← (osome3 h).2.2]
  exact p0
set_option maxHeartbeats 4000000 in
set_option maxRecDepth 100000 in
theorem s_X11_moveSource_b68 {e1 : Nat} {r1 : Int32} {T1 : AT} : ∀ (T : AT) (l0 : Nat), g_X11_moveSource_b68 T l0 = some (e1, r1, T1) → GL T T1 := by
  intro T l0 h
  have p0 := GL.rf T
  unfold g_X11_moveSource_b68 at h
  obtain ⟨g2, h⟩ := oif_some h
  obtain ⟨r4, T3, eT3, h⟩ := obind2_some h
  obtain ⟨g5, h⟩ := oif_some h
  have p1 : GL T T3 := GL.tr p0 (s_X11_powersNow eT3)
  exact GL.tr p1 (s_X11_moveSource_b72 _ _ h)
set_option maxHeartbeats 4000000 in
set_option maxRecDepth 100000 in
theorem s_X11_moveSource_b33 {e1 : Nat} {r1 : Int32} {T1 : AT} : ∀ (T : AT) (l0 : Nat) (l1 : Int32) (l2 : Int32) (l3 : Int32), g_X11_moveSource_b33 T l0 l1 l2 l3 = some (e1, r1, T1) → GL T T1 := by
  intro T l0 l1 l2 l3 h
  have p0 := GL.rf T
  unfold g_X11_moveSource_b33 at h
  obtain ⟨g2, h⟩ := oif_some h
  obtain ⟨n3, en3, h⟩ := obind_some h
  obtain ⟨g4, h⟩ := oif_some h
  obtain ⟨n5, en5, h⟩ := obind_some h
  obtain ⟨g6, h⟩ := oif_some h
  obtain ⟨g7, h⟩ := oif_some h
  obtain ⟨T8, eT8, h⟩ := elet_some h
  have p1 : GL T T8 := GL.tr p0 (by rw [eT8]; exact gl_sp sp_uI)
  obtain ⟨g9, h⟩ := oif_some h
  obtain ⟨n10, en10, h⟩ := obind_some h
  obtain ⟨g11, h⟩ := oif_some h
  obtain ⟨n12, en12, h⟩ := obind_some h
  obtain ⟨g13, h⟩ := oif_some h
  obtain ⟨g14, h⟩ := oif_some h
  obtain ⟨T15, eT15, h⟩ := elet_some h
  have p2 : GL T T15 := GL.tr p1 (by rw [eT15]; exact gl_sp sp_uI)
  obtain ⟨g16, h⟩ := oif_some h
  obtain ⟨n17, en17, h⟩ := obind_some h
  obtain ⟨g18, h⟩ := oif_some h
  obtain ⟨n19, en19, h⟩ := obind_some h
  obtain ⟨g20, h⟩ := oif_some h
  obtain ⟨n21, en21, h⟩ := obind_some h
  obtain ⟨g22, h⟩ := oif_some h
  obtain ⟨T23, eT23, h⟩ := obind_some h
  have p3 : GL T T23 := GL.tr p2 (s_X5_record eT23)
  exact GL.tr p3 (s_X11_moveSource_b68 _ _ h)
set_option maxHeartbeats 4000000 in
set_option maxRecDepth 100000 in
theorem s_X11_moveSource {T : AT} {o : Nat} {a0 : Int32} {a1 : Int32} {a2 : Int32} {e1 : Nat} {r1 : Int32} {T1 : AT} (h : g_X11_moveSource T o a0 a1 a2 = some (e1, r1, T1)) : GL T T1 := by
  have p0 := GL.rf T
  unfold g_X11_moveSource at h
  obtain ⟨g2, h⟩ := oif_some h
  rcases othr_s h with ⟨k9, r9, e9, -⟩ | ⟨r4, T3, eT3, h⟩
  · exact GL.tr p0 (gl_sp (s_X11_needCamera e9))
  have p1 : GL T T3 := GL.tr p0 (gl_sp (s_X11_needCamera eT3))
  obtain ⟨g5, h⟩ := oif_some h
  rcases othr_s h with ⟨k9, r9, e9, -⟩ | ⟨r7, T6, eT6, h⟩
  · exact GL.tr p1 (gl_sp (s_X11_needSource e9))
  have p2 : GL T T6 := GL.tr p1 (gl_sp (s_X11_needSource eT6))
  rcases othr_s h with ⟨k9, r9, e9, -⟩ | ⟨r9, T8, eT8, h⟩
  · exact GL.tr p2 (gl_sp (s_X11_needRange e9))
  have p3 : GL T T8 := GL.tr p2 (gl_sp (s_X11_needRange eT8))
  rcases othr_s h with ⟨k9, r9, e9, -⟩ | ⟨r11, T10, eT10, h⟩
  · exact GL.tr p3 (gl_sp (s_X11_needRange e9))
  have p4 : GL T T10 := GL.tr p3 (gl_sp (s_X11_needRange eT10))
  obtain ⟨g12, h⟩ := oif_some h
  obtain ⟨T13, eT13, h⟩ := obind_some h
  have p5 : GL T T13 := GL.tr p4 (s_X11_keepForUndo eT13)
  exact GL.tr p5 (s_X11_moveSource_b33 _ _ _ _ _ h)
set_option maxHeartbeats 4000000 in
set_option maxRecDepth 100000 in
theorem a_X11_moveSource_b72 {p : Program} {l : Launch} {e : Env} {s : State} {m : MethodId} {args : Array Value} {below : List Frame} {meth : Method} {c : Code} {Q : State → Prop} {D : va_G} {A : Nat → Prop} {cI cJ cZ cMic cSrc cSt cAI cAJ : ClassId} {ad0 : Nat → Nat} {T0 : AT} {r1 : Int32} {T1 : AT} (E : cE p c cX11_moveSource s m args (Cond.code yX11_moveSource cX11_moveSource 4 (some .int) :: wsA) D RX11 (CT cI cJ cZ cMic cSrc cSt cAI cAJ)) (hA : ∀ q : Nat, s.heap.size ≤ q → A q) (hX : xT A s) (hN : nX s) (hml : c.maxLocals = 4) (hst : l.stackTraces = false) (kr75 : ∀ (ad : Nat → Nat) (H : Heap) (locs : List Loc) (ls : Array Slot), (∀ n, n < T0.1 → ad n = ad0 n) → gC cI cJ cZ cMic cSrc cSt cAI cAJ D ad A s.heap H locs T1 → W p l e { frames := 8, cells := T1.1 - T0.1, slots := sg T1 - sg T0, locals := 149 } s m args below meth c H locs (T1.1 - T0.1) (sg T1 - sg T0) Q (F0 m 75 ls [.int r1])) : ∀ (T : AT) (ad : Nat → Nat) (H : Heap) (locs : List Loc) (ls : Array Slot) (s0 : Nat), g_X11_moveSource_b72 T s0 = some (0, r1, T1) → GL T0 T → RC T → (∀ n, n < T0.1 → ad n = ad0 n) → s0 < T.1 → gC cI cJ cZ cMic cSrc cSt cAI cAJ D ad A s.heap H locs T → lv_has ls 4 [] → W p l e { frames := 8, cells := T1.1 - T0.1, slots := sg T1 - sg T0, locals := 149 } s m args below meth c H locs (T.1 - T0.1) (sg T - sg T0) Q (F0 m 72 ls [.ref (ad s0)]) := by
  have hx := E.1
  have hb := E.2.1
  have hts := E.2.2.1
  have hown := E.2.2.2.1
  have hK := E.2.2.2.2
  intro T ad H locs ls s0 h hgl hrc had h_s0 G hl
  have hT1 := s_X11_moveSource_b72 _ _ h
  have hcs := cs_ok hgl hT1
  have cp0 := cpr0 hrc
  unfold g_X11_moveSource_b72 at h
  obtain ⟨g2, h⟩ := oif_some h
  refine c_get E G s0 2 (oO_k g2).1 (cc_o4 (oO_k g2).2) rfl (fun w h => .tail _ (iA_21 h)) (by decide) (.tail _ qA_812) rfl rfl dX11_moveSource_72 ?_
  refine lv_topi (fun v3 ev3 => ?_)
  have h := elet_at ev3 h
  clear ev3
  rw [(osome3 h).2.2] at G
  refine w_cast (c2 := T1.1 - T0.1) (s2 := sg T1 - sg T0) (by rw [← (osome3 h).2.2, cp0.1] <;> rfl) (by rw [← (osome3 h).2.2, sg_cpr cp0] <;> rfl) ?_
  refine lv_to ((osome3 h).2.1) ?_
  exact kr75 ad _ _ _ had G
set_option maxHeartbeats 4000000 in
set_option maxRecDepth 100000 in
theorem a_X11_moveSource_b68 {p : Program} {l : Launch} {e : Env} {s : State} {m : MethodId} {args : Array Value} {below : List Frame} {meth : Method} {c : Code} {Q : State → Prop} {D : va_G} {A : Nat → Prop} {cI cJ cZ cMic cSrc cSt cAI cAJ : ClassId} {ad0 : Nat → Nat} {T0 : AT} {r1 : Int32} {T1 : AT} (E : cE p c cX11_moveSource s m args (Cond.code yX11_moveSource cX11_moveSource 4 (some .int) :: wsA) D RX11 (CT cI cJ cZ cMic cSrc cSt cAI cAJ)) (hA : ∀ q : Nat, s.heap.size ≤ q → A q) (hX : xT A s) (hN : nX s) (hml : c.maxLocals = 4) (hst : l.stackTraces = false) (kr75 : ∀ (ad : Nat → Nat) (H : Heap) (locs : List Loc) (ls : Array Slot), (∀ n, n < T0.1 → ad n = ad0 n) → gC cI cJ cZ cMic cSrc cSt cAI cAJ D ad A s.heap H locs T1 → W p l e { frames := 8, cells := T1.1 - T0.1, slots := sg T1 - sg T0, locals := 149 } s m args below meth c H locs (T1.1 - T0.1) (sg T1 - sg T0) Q (F0 m 75 ls [.int r1])) : ∀ (T : AT) (ad : Nat → Nat) (H : Heap) (locs : List Loc) (ls : Array Slot) (l0 : Nat), g_X11_moveSource_b68 T l0 = some (0, r1, T1) → GL T0 T → RC T → (∀ n, n < T0.1 → ad n = ad0 n) → l0 < T.1 → gC cI cJ cZ cMic cSrc cSt cAI cAJ D ad A s.heap H locs T → lv_has ls 4 [(0, .ref (ad l0))] → W p l e { frames := 8, cells := T1.1 - T0.1, slots := sg T1 - sg T0, locals := 149 } s m args below meth c H locs (T.1 - T0.1) (sg T - sg T0) Q (F0 m 68 ls []) := by
  have hx := E.1
  have hb := E.2.1
  have hts := E.2.2.1
  have hown := E.2.2.2.1
  have hK := E.2.2.2.2
  intro T ad H locs ls l0 h hgl hrc had h_l0 G hl
  have hT1 := s_X11_moveSource_b68 _ _ h
  have hcs := cs_ok hgl hT1
  have cp0 := cpr0 hrc
  unfold g_X11_moveSource_b68 at h
  refine lv_aload_n hx hb dX11_moveSource_68 rfl (lv_at hl 0 rfl) ?_
  obtain ⟨g2, h⟩ := oif_some h
  obtain ⟨r4, T3, eT3, h⟩ := obind2_some h
  obtain ⟨g5, h⟩ := oif_some h
  have hg2 := s_X11_powersNow eT3
  have hrc2 := hg2.2.2 cp0.2.2
  have hT2 := s_X11_moveSource_b72 _ _ h
  refine q_avr (As := []) (rest := []) E G hA hX hN hml (a_X11_powersNow l hst D cI cJ cZ cMic cSrc cSt cAI cAJ ad T l0 eT3 cp0.2.2 (by rw [cp0.1]; exact h_l0)) (cwV 0 hts (gaV qA_799 qA_800 qA_801 qA_131 qA_802) rfl rfl rfl (by decide +kernel) ⟨Nat.le_of_ble_eq_true rfl, Nat.le_of_ble_eq_true rfl⟩) (oO_k g2).1 (cc_o11 (oO_k g2).2) rfl rfl hl.1 rfl (lv_room (Nat.le_of_ble_eq_true rfl)) dX11_moveSource_69 (cs_av hgl cp0 hg2 hT2) (fun ad2 H locs hga G => ?_)
  refine w_cast (c2 := T3.1 - T0.1) (s2 := sg T3 - sg T0) (cs_f1 hgl cp0 hg2) (cs_f2 hgl cp0 hg2) ?_
  have h_new : r4 < T3.1 := Nat.le_of_ble_eq_true g5
  have hl := lv_sub hl [] rfl
  exact a_X11_moveSource_b72 E hA hX hN hml hst kr75 _ _ _ _ _ _ h (GL.tr (gl_cpr hgl cp0) hg2) hrc2 (fun n hn => (hga n (by rw [cp0.1]; exact Nat.lt_of_lt_of_le hn hgl.1)).trans (had n hn)) h_new G hl
set_option maxHeartbeats 4000000 in
set_option maxRecDepth 100000 in
theorem a_X11_moveSource_b33 {p : Program} {l : Launch} {e : Env} {s : State} {m : MethodId} {args : Array Value} {below : List Frame} {meth : Method} {c : Code} {Q : State → Prop} {D : va_G} {A : Nat → Prop} {cI cJ cZ cMic cSrc cSt cAI cAJ : ClassId} {ad0 : Nat → Nat} {T0 : AT} {r1 : Int32} {T1 : AT} (E : cE p c cX11_moveSource s m args (Cond.code yX11_moveSource cX11_moveSource 4 (some .int) :: wsA) D RX11 (CT cI cJ cZ cMic cSrc cSt cAI cAJ)) (hA : ∀ q : Nat, s.heap.size ≤ q → A q) (hX : xT A s) (hN : nX s) (hml : c.maxLocals = 4) (hst : l.stackTraces = false) (kr75 : ∀ (ad : Nat → Nat) (H : Heap) (locs : List Loc) (ls : Array Slot), (∀ n, n < T0.1 → ad n = ad0 n) → gC cI cJ cZ cMic cSrc cSt cAI cAJ D ad A s.heap H locs T1 → W p l e { frames := 8, cells := T1.1 - T0.1, slots := sg T1 - sg T0, locals := 149 } s m args below meth c H locs (T1.1 - T0.1) (sg T1 - sg T0) Q (F0 m 75 ls [.int r1])) : ∀ (T : AT) (ad : Nat → Nat) (H : Heap) (locs : List Loc) (ls : Array Slot) (l0 : Nat) (l1 : Int32) (l2 : Int32) (l3 : Int32), g_X11_moveSource_b33 T l0 l1 l2 l3 = some (0, r1, T1) → GL T0 T → RC T → (∀ n, n < T0.1 → ad n = ad0 n) → l0 < T.1 → gC cI cJ cZ cMic cSrc cSt cAI cAJ D ad A s.heap H locs T → lv_has ls 4 [(0, .ref (ad l0)), (1, .int l1), (2, .int l2), (3, .int l3)] → W p l e { frames := 8, cells := T1.1 - T0.1, slots := sg T1 - sg T0, locals := 149 } s m args below meth c H locs (T.1 - T0.1) (sg T - sg T0) Q (F0 m 33 ls []) := by
  have hx := E.1
  have hb := E.2.1
  have hts := E.2.2.1
  have hown := E.2.2.2.1
  have hK := E.2.2.2.2
  intro T ad H locs ls l0 l1 l2 l3 h hgl hrc had h_l0 G hl
  have hT1 := s_X11_moveSource_b33 _ _ _ _ _ h
  have hcs := cs_ok hgl hT1
  have cp0 := cpr0 hrc
  unfold g_X11_moveSource_b33 at h
  refine lv_aload_n hx hb dX11_moveSource_33 rfl (lv_at hl 0 rfl) ?_
  obtain ⟨g2, h⟩ := oif_some h
  obtain ⟨n3, en3, h⟩ := obind_some h
  have h_n3 : n3 < T.1 := by rw [← cp0.1]; exact cp0.2.2 _ _ _ en3
  refine c_get E G l0 6 (v := .ref (ad n3)) (oO_k g2).1 (cc_o11 (oO_k g2).2) rfl (fun w h => .tail _ (iA_23 h)) (by decide) (.tail _ qA_664) rfl (by rw [en3]; rfl) dX11_moveSource_34 ?_
  clear en3
  obtain ⟨g4, h⟩ := oif_some h
  obtain ⟨n5, en5, h⟩ := obind_some h
  have h_n5 : n5 < T.1 := by rw [← cp0.1]; exact cp0.2.2 _ _ _ en5
  refine c_get E G n3 6 (v := .ref (ad n5)) (oO_k g4).1 (cc_o8 (oO_k g4).2) rfl (fun w h => .tail _ (iA_16 h)) (by decide) (.tail _ qA_762) rfl (by rw [en5]; rfl) dX11_moveSource_37 ?_
  clear en5
  refine lv_iload_n hx hb dX11_moveSource_40 rfl (lv_at hl 1 rfl) ?_
  refine lv_iload_n hx hb dX11_moveSource_41 rfl (lv_at hl 2 rfl) ?_
  obtain ⟨g6, h⟩ := oif_some h
  obtain ⟨g7, h⟩ := oif_some h
  refine c_iast E G n5 0 (k := l1.toNatClampNeg) (v := l2) (aA_k g6).1 (cc_a100 (aA_k g6).2.1) rfl (inb_k g7).1 (inb_k g7).2 (aA_k g6).2.2 dX11_moveSource_42 (fun H locs G => ?_)
  have G := gC_up_i (f := upd (T.2.2.1 n5) l1.toNatClampNeg l2) (ccv_100 (aA_k g6).2.1) G
  obtain ⟨T8, eT8, h⟩ := elet_some h
  have G : gC cI cJ cZ cMic cSrc cSt cAI cAJ D ad A s.heap H locs T8 := by rw [eT8]; exact G
  have cp1 := show CPR T T8 from by rw [eT8]; exact cpr_sp cp0 sp_uI
  clear eT8
  refine lv_aload_n hx hb dX11_moveSource_43 rfl (lv_at hl 0 rfl) ?_
  obtain ⟨g9, h⟩ := oif_some h
  obtain ⟨n10, en10, h⟩ := obind_some h
  have h_n10 : n10 < T.1 := by rw [← cp1.1]; exact cp1.2.2 _ _ _ en10
  refine c_get E G l0 6 (v := .ref (ad n10)) (oO_k g9).1 (cc_o11 (oO_k g9).2) rfl (fun w h => .tail _ (iA_23 h)) (by decide) (.tail _ qA_664) rfl (by rw [en10]; rfl) dX11_moveSource_44 ?_
  clear en10
  obtain ⟨g11, h⟩ := oif_some h
  obtain ⟨n12, en12, h⟩ := obind_some h
  have h_n12 : n12 < T.1 := by rw [← cp1.1]; exact cp1.2.2 _ _ _ en12
  refine c_get E G n10 7 (v := .ref (ad n12)) (oO_k g11).1 (cc_o8 (oO_k g11).2) rfl (fun w h => .tail _ (iA_16 h)) (by decide) (.tail _ qA_764) rfl (by rw [en12]; rfl) dX11_moveSource_47 ?_
  clear en12
  refine lv_iload_n hx hb dX11_moveSource_50 rfl (lv_at hl 1 rfl) ?_
  refine lv_iload_n hx hb dX11_moveSource_51 rfl (lv_at hl 3 rfl) ?_
  obtain ⟨g13, h⟩ := oif_some h
  obtain ⟨g14, h⟩ := oif_some h
  refine c_iast E G n12 0 (k := l1.toNatClampNeg) (v := l3) (aA_k g13).1 (cc_a100 (aA_k g13).2.1) rfl (inb_k g14).1 (inb_k g14).2 (aA_k g13).2.2 dX11_moveSource_52 (fun H locs G => ?_)
  have G := gC_up_i (f := upd (T8.2.2.1 n12) l1.toNatClampNeg l3) (ccv_100 (aA_k g13).2.1) G
  obtain ⟨T15, eT15, h⟩ := elet_some h
  have G : gC cI cJ cZ cMic cSrc cSt cAI cAJ D ad A s.heap H locs T15 := by rw [eT15]; exact G
  have cp2 := show CPR T T15 from by rw [eT15]; exact cpr_sp cp1 sp_uI
  clear eT15
  refine lv_aload_n hx hb dX11_moveSource_53 rfl (lv_at hl 0 rfl) ?_
  obtain ⟨g16, h⟩ := oif_some h
  obtain ⟨n17, en17, h⟩ := obind_some h
  have h_n17 : n17 < T.1 := by rw [← cp2.1]; exact cp2.2.2 _ _ _ en17
  refine c_get E G l0 2 (v := .ref (ad n17)) (oO_k g16).1 (cc_o11 (oO_k g16).2) rfl (fun w h => .tail _ (iA_23 h)) (by decide) (.tail _ qA_654) rfl (by rw [en17]; rfl) dX11_moveSource_54 ?_
  clear en17
  refine lv_aload_n hx hb dX11_moveSource_57 rfl (lv_at hl 0 rfl) ?_
  obtain ⟨g18, h⟩ := oif_some h
  obtain ⟨n19, en19, h⟩ := obind_some h
  have h_n19 : n19 < T.1 := by rw [← cp2.1]; exact cp2.2.2 _ _ _ en19
  refine c_get E G l0 14 (v := .ref (ad n19)) (oO_k g18).1 (cc_o11 (oO_k g18).2) rfl (fun w h => .tail _ (iA_23 h)) (by decide) (.tail _ qA_675) rfl (by rw [en19]; rfl) dX11_moveSource_58 ?_
  clear en19
  refine lv_aload_n hx hb dX11_moveSource_61 rfl (lv_at hl 0 rfl) ?_
  obtain ⟨g20, h⟩ := oif_some h
  obtain ⟨n21, en21, h⟩ := obind_some h
  have h_n21 : n21 < T.1 := by rw [← cp2.1]; exact cp2.2.2 _ _ _ en21
  refine c_get E G l0 6 (v := .ref (ad n21)) (oO_k g20).1 (cc_o11 (oO_k g20).2) rfl (fun w h => .tail _ (iA_23 h)) (by decide) (.tail _ qA_664) rfl (by rw [en21]; rfl) dX11_moveSource_62 ?_
  clear en21
  obtain ⟨g22, h⟩ := oif_some h
  obtain ⟨T23, eT23, h⟩ := obind_some h
  have hg2 := s_X5_record eT23
  have hrc2 := hg2.2.2 cp2.2.2
  have hT2 := s_X11_moveSource_b68 _ _ h
  refine q_avv (As := [.ref (ad n19), .ref (ad n21)]) (rest := []) E G hA hX hN hml (a_X5_record l hst D cI cJ cZ cMic cSrc cSt cAI cAJ ad T15 n17 n19 n21 eT23 cp2.2.2 (by rw [cp2.1]; exact h_n17) (by rw [cp2.1]; exact h_n19) (by rw [cp2.1]; exact h_n21)) (cwV 2 hts (gaV qA_711 qA_712 qA_713 qA_475 qA_463) rfl rfl rfl (by decide +kernel) ⟨Nat.le_of_ble_eq_true rfl, Nat.le_of_ble_eq_true rfl⟩) (oO_k g22).1 (cc_o5 (oO_k g22).2) rfl rfl hl.1 rfl (lv_room (Nat.le_of_ble_eq_true rfl)) dX11_moveSource_65 (cs_av hgl cp2 hg2 hT2) (fun ad2 H locs hga G => ?_)
  refine w_cast (c2 := T23.1 - T0.1) (s2 := sg T23 - sg T0) (cs_f1 hgl cp2 hg2) (cs_f2 hgl cp2 hg2) ?_
  have hl := lv_sub hl [0] rfl
  rw [show ad l0 = ad2 l0 from (hga l0 (by rw [cp2.1]; exact h_l0)).symm] at hl
  exact a_X11_moveSource_b68 E hA hX hN hml hst kr75 _ _ _ _ _ _ h (GL.tr (gl_cpr hgl cp2) hg2) hrc2 (fun n hn => (hga n (by rw [cp2.1]; exact Nat.lt_of_lt_of_le hn hgl.1)).trans (had n hn)) (Nat.lt_of_lt_of_le (by rw [cp2.1]; exact h_l0) hg2.1) G hl
set_option maxHeartbeats 4000000 in
set_option maxRecDepth 100000 in
theorem a_X11_moveSource (l : Launch) (hst : l.stackTraces = false) (D : va_G) (cI cJ cZ cMic cSrc cSt cAI cAJ : ClassId) (ad : Nat → Nat) (T : AT) (o : Nat) (a0 : Int32) (a1 : Int32) (a2 : Int32) {r1 : Int32} {T1 : AT} (h : g_X11_moveSource T o a0 a1 a2 = some (0, r1, T1)) (hrc : RC T) (h_o : o < T.1) : kAi l yX11_moveSource (Cond.code yX11_moveSource cX11_moveSource 4 (some .int) :: wsA) 8 149 cI cJ cZ cMic cSrc cSt cAI cAJ D ad T [.ref (ad o), .int a0, .int a1, .int a2] r1 T1 := by
  intro sz
  refine Met.ofW (cc := cX11_moveSource) (maxL := 4) (ret := (some .int)) (by decide) rfl ?_
  intro p e s m args below meth c s₁ B hml hv
  obtain ⟨rfl, hsz, hP, hK, hD0, hX, hN⟩ := hv
  have hx := B.exec
  have hb := B.bytes
  have hr := B.returns
  have hts := atoms_spec (ws := (Cond.code yX11_moveSource cX11_moveSource 4 (some .int) :: wsA)) B.pre
  have hown : s.vm.findClass RX11 = some m.cls := findClass_of_methodNamed B.named
  have hlocks := B.notSynchronized
  subst hsz
  have hD := hD0.self (sz := s.heap.size)
  generalize hAe : va_A (cW ad T.1 (cc cI cJ cZ cMic cSrc cSt cAI cAJ ad T)) s.heap.size = A at hD hX ⊢
  have hA : ∀ q : Nat, s.heap.size ≤ q → A q := fun q h => by rw [← hAe]; exact Or.inr h
  have G : gC cI cJ cZ cMic cSrc cSt cAI cAJ D ad A s.heap s.heap [] T := ⟨hP, hD, va_S.rf⟩
  have E : cE p c cX11_moveSource s m ([.ref (ad o), .int a0, .int a1, .int a2] : List Value).toArray (Cond.code yX11_moveSource cX11_moveSource 4 (some .int) :: wsA) D RX11 (CT cI cJ cZ cMic cSrc cSt cAI cAJ) := ⟨hx, hb, hts, hown, hK⟩
  have hl := lv_entry ([.ref (ad o), .int a0, .int a1, .int a2]) (n := 4) (Nat.le_of_ble_eq_true rfl)
  rw [lg_entry_eq]
  generalize (lg_sl ([.ref (ad o), .int a0, .int a1, .int a2]) ++ List.replicate (4 - (lg_sl ([.ref (ad o), .int a0, .int a1, .int a2])).length) Slot.unset).toArray = ls at hl ⊢
  have hl : lv_has ls 4 [(0, .ref (ad o)), (1, .int a0), (2, .int a1), (3, .int a2)] := hl
  have hgl := GL.rf T
  have had : ∀ n, n < T.1 → ad n = ad n := fun _ _ => rfl
  have hT1 := s_X11_moveSource h
  have hcs := cs_ok hgl hT1
  refine w_cast (Nat.sub_self T.1).symm (Nat.sub_self (sg T)).symm ?_
  have cp0 := cpr0 hrc
  unfold g_X11_moveSource at h
  refine lv_aload_n hx hb dX11_moveSource_0 rfl (lv_at hl 0 rfl) ?_
  obtain ⟨g2, h⟩ := oif_some h
  obtain ⟨r5, T3, eT3, h⟩ := othr_n h
  refine q_cvv (As := []) (rest := []) E G hA hX hN hml (u_X11_needCamera l hst D cI cJ cZ cMic cSrc cSt cAI cAJ ad T o eT3) (cwV 0 hts (gaV qA_728 qA_729 qA_730 qA_131 qA_731) rfl rfl rfl (by decide +kernel) ⟨Nat.le_of_ble_eq_true rfl, Nat.le_of_ble_eq_true rfl⟩) (oO_k g2).1 (cc_o11 (oO_k g2).2) rfl rfl hl.1 rfl (lv_room (Nat.le_of_ble_eq_true rfl)) dX11_moveSource_1 hcs (fun T4 H locs hq G => ?_)
  rw [hq] at G
  clear hq
  have cp1 := cpr_sp cp0 (s_X11_needCamera eT3)
  refine lv_aload_n hx hb dX11_moveSource_4 rfl (lv_at hl 0 rfl) ?_
  refine lv_iload_n hx hb dX11_moveSource_5 rfl (lv_at hl 1 rfl) ?_
  obtain ⟨g7, h⟩ := oif_some h
  obtain ⟨r10, T8, eT8, h⟩ := othr_n h
  refine q_cvv (As := [.int a0]) (rest := []) E G hA hX hN hml (u_X11_needSource l hst D cI cJ cZ cMic cSrc cSt cAI cAJ ad T3 o a0 eT8) (cwV 1 hts (gaV qA_766 qA_767 qA_768 qA_131 qA_769) rfl rfl rfl (by decide +kernel) ⟨Nat.le_of_ble_eq_true rfl, Nat.le_of_ble_eq_true rfl⟩) (oO_k g7).1 (cc_o11 (oO_k g7).2) rfl rfl hl.1 rfl (lv_room (Nat.le_of_ble_eq_true rfl)) dX11_moveSource_6 hcs (fun T9 H locs hq G => ?_)
  rw [hq] at G
  clear hq
  have cp2 := cpr_sp cp1 (s_X11_needSource eT8)
  refine lv_iload_n hx hb dX11_moveSource_9 rfl (lv_at hl 2 rfl) ?_
  refine lv_sipush (v := (-2000)) hx hb dX11_moveSource_10 (by decide) ?_
  refine lv_sipush (v := 2000) hx hb dX11_moveSource_13 (by decide) ?_
  obtain ⟨r14, T12, eT12, h⟩ := othr_n h
  refine q_csv (As := [.int a1, .int (-2000), .int 2000]) (rest := []) E G hA hX hN hml (u_X11_needRange l hst D cI cJ cZ cMic cSrc cSt cAI cAJ ad T8 a1 ((-2000) : Int32) (2000 : Int32) eT12) (cwS 3 hts (gaS qA_741 qA_742 qA_131 qA_743) rfl rfl rfl (by decide +kernel) ⟨Nat.le_of_ble_eq_true rfl, Nat.le_of_ble_eq_true rfl⟩) rfl hl.1 rfl (lv_room (Nat.le_of_ble_eq_true rfl)) dX11_moveSource_16 hcs (fun T13 H locs hq G => ?_)
  rw [hq] at G
  clear hq
  have cp3 := cpr_sp cp2 (s_X11_needRange eT12)
  refine lv_iload_n hx hb dX11_moveSource_19 rfl (lv_at hl 3 rfl) ?_
  refine lv_sipush (v := (-2000)) hx hb dX11_moveSource_20 (by decide) ?_
  refine lv_sipush (v := 2000) hx hb dX11_moveSource_23 (by decide) ?_
  obtain ⟨r18, T16, eT16, h⟩ := othr_n h
  refine q_csv (As := [.int a2, .int (-2000), .int 2000]) (rest := []) E G hA hX hN hml (u_X11_needRange l hst D cI cJ cZ cMic cSrc cSt cAI cAJ ad T12 a2 ((-2000) : Int32) (2000 : Int32) eT16) (cwS 3 hts (gaS qA_741 qA_742 qA_131 qA_743) rfl rfl rfl (by decide +kernel) ⟨Nat.le_of_ble_eq_true rfl, Nat.le_of_ble_eq_true rfl⟩) rfl hl.1 rfl (lv_room (Nat.le_of_ble_eq_true rfl)) dX11_moveSource_26 hcs (fun T17 H locs hq G => ?_)
  rw [hq] at G
  clear hq
  have cp4 := cpr_sp cp3 (s_X11_needRange eT16)
  refine lv_aload_n hx hb dX11_moveSource_29 rfl (lv_at hl 0 rfl) ?_
  obtain ⟨g20, h⟩ := oif_some h
  obtain ⟨T21, eT21, h⟩ := obind_some h
  have hg2 := s_X11_keepForUndo eT21
  have hrc2 := hg2.2.2 cp4.2.2
  have hT2 := s_X11_moveSource_b33 _ _ _ _ _ h
  refine q_avv (As := []) (rest := []) E G hA hX hN hml (a_X11_keepForUndo l hst D cI cJ cZ cMic cSrc cSt cAI cAJ ad T16 o eT21 cp4.2.2 (by rw [cp4.1]; exact h_o)) (cwV 0 hts (gaV qA_925 qA_926 qA_927 qA_131 qA_928) rfl rfl rfl (by decide +kernel) ⟨Nat.le_of_ble_eq_true rfl, Nat.le_of_ble_eq_true rfl⟩) (oO_k g20).1 (cc_o11 (oO_k g20).2) rfl rfl hl.1 rfl (lv_room (Nat.le_of_ble_eq_true rfl)) dX11_moveSource_30 (cs_av hgl cp4 hg2 hT2) (fun ad2 H locs hga G => ?_)
  refine w_cast (c2 := T21.1 - T.1) (s2 := sg T21 - sg T) (cs_f1 hgl cp4 hg2) (cs_f2 hgl cp4 hg2) ?_
  have hl := lv_sub hl [0, 1, 2, 3] rfl
  rw [show ad o = ad2 o from (hga o (by rw [cp4.1]; exact h_o)).symm] at hl
  exact a_X11_moveSource_b33 E hA hX hN hml hst (fun ad H locs ls had G => W.iret (v := r1) hx hb hr (fun t ht hW => ⟨⟨r1, (T1, ad), rfl, ⟨rfl, rfl, had⟩, ⟨by rw [ht]; exact G.1, va_K.moved hW.alike hK, G.2.1⟩⟩, G.2.2.F ht⟩) G.2.2.2.2 dX11_moveSource_75) _ _ _ _ _ _ _ _ _ h (GL.tr (gl_cpr hgl cp4) hg2) hrc2 (fun n hn => (hga n (by rw [cp4.1]; exact Nat.lt_of_lt_of_le hn hgl.1)).trans (had n hn)) (Nat.lt_of_lt_of_le (by rw [cp4.1]; exact h_o) hg2.1) G hl
set_option maxHeartbeats 4000000 in
set_option maxRecDepth 100000 in
theorem b_X11_moveSource_b72 {p : Program} {l : Launch} {e : Env} {s : State} {m : MethodId} {args : Array Value} {below : List Frame} {meth : Method} {c : Code} {Qc : Array Value → State → Outcome → State → Prop} {XC : String → State → State → Prop} {D : va_G} {A : Nat → Prop} {cI cJ cZ cMic cSrc cSt cAI cAJ : ClassId} {ad0 : Nat → Nat} {T0 : AT} {e1 : Nat} {r1 : Int32} {T1 : AT} (E : cE p c cX11_moveSource s m args (Cond.code yX11_moveSource cX11_moveSource 4 (some .int) :: wsA) D RX11 (CT cI cJ cZ cMic cSrc cSt cAI cAJ)) (hA : ∀ q : Nat, s.heap.size ≤ q → A q) (hX : xT A s) (hN : nX s) (hml : c.maxLocals = 4) (hst : l.stackTraces = false) (htab : ∀ x ∈ c.exceptionTable.toList, False) (hlocks : meth.locks = false) (kx : ∀ (ad : Nat → Nat) (H : Heap) (locs : List Loc) (t : State), (∀ n, n < T0.1 → ad n = ad0 n) → gC cI cJ cZ cMic cSrc cSt cAI cAJ D ad A s.heap H locs T1 → s.vm.Alike t.vm → H.size ≤ t.heap.size → (∀ q, q < H.size → t.heap[q]? = H[q]?) → XC (exn e1) s t) : ∀ (T : AT) (ad : Nat → Nat) (H : Heap) (locs : List Loc) (ls : Array Slot) (s0 : Nat), g_X11_moveSource_b72 T s0 = some (e1 + 1, r1, T1) → GL T0 T → RC T → (∀ n, n < T0.1 → ad n = ad0 n) → s0 < T.1 → gC cI cJ cZ cMic cSrc cSt cAI cAJ D ad A s.heap H locs T → lv_has ls 4 [] → W p l e { frames := 8, cells := T1.1 - T0.1 + 1, slots := sg T1 - sg T0 + 6, locals := 149 } s m args below meth c H locs (T.1 - T0.1) (sg T - sg T0) (vx_MQ below Qc XC args s (T1.1 - T0.1 + 1) (sg T1 - sg T0 + 6) A) (F0 m 72 ls [.ref (ad s0)]) := by
  have hx := E.1
  have hb := E.2.1
  have hts := E.2.2.1
  have hown := E.2.2.2.1
  have hK := E.2.2.2.2
  intro T ad H locs ls s0 h hgl hrc had h_s0 G hl
  have hT1 := s_X11_moveSource_b72 _ _ h
  have hcs := cs_okx hgl hT1
  have hcx := cs_okx1 hgl hT1
  have cp0 := cpr0 hrc
  unfold g_X11_moveSource_b72 at h
  obtain ⟨g2, h⟩ := oif_some h
  refine c_get E G s0 2 (oO_k g2).1 (cc_o4 (oO_k g2).2) rfl (fun w h => .tail _ (iA_21 h)) (by decide) (.tail _ qA_812) rfl rfl dX11_moveSource_72 ?_
  refine lv_topi (fun v3 ev3 => ?_)
  have h := elet_at ev3 h
  clear ev3
  exact (Nat.succ_ne_zero _ (congrArg Prod.fst (Option.some.inj h)).symm).elim
set_option maxHeartbeats 4000000 in
set_option maxRecDepth 100000 in
theorem b_X11_moveSource_b68 {p : Program} {l : Launch} {e : Env} {s : State} {m : MethodId} {args : Array Value} {below : List Frame} {meth : Method} {c : Code} {Qc : Array Value → State → Outcome → State → Prop} {XC : String → State → State → Prop} {D : va_G} {A : Nat → Prop} {cI cJ cZ cMic cSrc cSt cAI cAJ : ClassId} {ad0 : Nat → Nat} {T0 : AT} {e1 : Nat} {r1 : Int32} {T1 : AT} (E : cE p c cX11_moveSource s m args (Cond.code yX11_moveSource cX11_moveSource 4 (some .int) :: wsA) D RX11 (CT cI cJ cZ cMic cSrc cSt cAI cAJ)) (hA : ∀ q : Nat, s.heap.size ≤ q → A q) (hX : xT A s) (hN : nX s) (hml : c.maxLocals = 4) (hst : l.stackTraces = false) (htab : ∀ x ∈ c.exceptionTable.toList, False) (hlocks : meth.locks = false) (kx : ∀ (ad : Nat → Nat) (H : Heap) (locs : List Loc) (t : State), (∀ n, n < T0.1 → ad n = ad0 n) → gC cI cJ cZ cMic cSrc cSt cAI cAJ D ad A s.heap H locs T1 → s.vm.Alike t.vm → H.size ≤ t.heap.size → (∀ q, q < H.size → t.heap[q]? = H[q]?) → XC (exn e1) s t) : ∀ (T : AT) (ad : Nat → Nat) (H : Heap) (locs : List Loc) (ls : Array Slot) (l0 : Nat), g_X11_moveSource_b68 T l0 = some (e1 + 1, r1, T1) → GL T0 T → RC T → (∀ n, n < T0.1 → ad n = ad0 n) → l0 < T.1 → gC cI cJ cZ cMic cSrc cSt cAI cAJ D ad A s.heap H locs T → lv_has ls 4 [(0, .ref (ad l0))] → W p l e { frames := 8, cells := T1.1 - T0.1 + 1, slots := sg T1 - sg T0 + 6, locals := 149 } s m args below meth c H locs (T.1 - T0.1) (sg T - sg T0) (vx_MQ below Qc XC args s (T1.1 - T0.1 + 1) (sg T1 - sg T0 + 6) A) (F0 m 68 ls []) := by
  have hx := E.1
  have hb := E.2.1
  have hts := E.2.2.1
  have hown := E.2.2.2.1
  have hK := E.2.2.2.2
  intro T ad H locs ls l0 h hgl hrc had h_l0 G hl
  have hT1 := s_X11_moveSource_b68 _ _ h
  have hcs := cs_okx hgl hT1
  have hcx := cs_okx1 hgl hT1
  have cp0 := cpr0 hrc
  unfold g_X11_moveSource_b68 at h
  refine lv_aload_n hx hb dX11_moveSource_68 rfl (lv_at hl 0 rfl) ?_
  obtain ⟨g2, h⟩ := oif_some h
  obtain ⟨r4, T3, eT3, h⟩ := obind2_some h
  obtain ⟨g5, h⟩ := oif_some h
  have hg2 := s_X11_powersNow eT3
  have hrc2 := hg2.2.2 cp0.2.2
  have hT2 := s_X11_moveSource_b72 _ _ h
  refine q_avr (As := []) (rest := []) E G hA hX hN hml (a_X11_powersNow l hst D cI cJ cZ cMic cSrc cSt cAI cAJ ad T l0 eT3 cp0.2.2 (by rw [cp0.1]; exact h_l0)) (cwV 0 hts (gaV qA_799 qA_800 qA_801 qA_131 qA_802) rfl rfl rfl (by decide +kernel) ⟨Nat.le_of_ble_eq_true rfl, Nat.le_of_ble_eq_true rfl⟩) (oO_k g2).1 (cc_o11 (oO_k g2).2) rfl rfl hl.1 rfl (lv_room (Nat.le_of_ble_eq_true rfl)) dX11_moveSource_69 (cs_avx hgl cp0 hg2 hT2) (fun ad2 H locs hga G => ?_)
  refine w_cast (c2 := T3.1 - T0.1) (s2 := sg T3 - sg T0) (cs_f1 hgl cp0 hg2) (cs_f2 hgl cp0 hg2) ?_
  have h_new : r4 < T3.1 := Nat.le_of_ble_eq_true g5
  have hl := lv_sub hl [] rfl
  exact b_X11_moveSource_b72 E hA hX hN hml hst htab hlocks kx _ _ _ _ _ _ h (GL.tr (gl_cpr hgl cp0) hg2) hrc2 (fun n hn => (hga n (by rw [cp0.1]; exact Nat.lt_of_lt_of_le hn hgl.1)).trans (had n hn)) h_new G hl
set_option maxHeartbeats 4000000 in
set_option maxRecDepth 100000 in
theorem b_X11_moveSource_b33 {p : Program} {l : Launch} {e : Env} {s : State} {m : MethodId} {args : Array Value} {below : List Frame} {meth : Method} {c : Code} {Qc : Array Value → State → Outcome → State → Prop} {XC : String → State → State → Prop} {D : va_G} {A : Nat → Prop} {cI cJ cZ cMic cSrc cSt cAI cAJ : ClassId} {ad0 : Nat → Nat} {T0 : AT} {e1 : Nat} {r1 : Int32} {T1 : AT} (E : cE p c cX11_moveSource s m args (Cond.code yX11_moveSource cX11_moveSource 4 (some .int) :: wsA) D RX11 (CT cI cJ cZ cMic cSrc cSt cAI cAJ)) (hA : ∀ q : Nat, s.heap.size ≤ q → A q) (hX : xT A s) (hN : nX s) (hml : c.maxLocals = 4) (hst : l.stackTraces = false) (htab : ∀ x ∈ c.exceptionTable.toList, False) (hlocks : meth.locks = false) (kx : ∀ (ad : Nat → Nat) (H : Heap) (locs : List Loc) (t : State), (∀ n, n < T0.1 → ad n = ad0 n) → gC cI cJ cZ cMic cSrc cSt cAI cAJ D ad A s.heap H locs T1 → s.vm.Alike t.vm → H.size ≤ t.heap.size → (∀ q, q < H.size → t.heap[q]? = H[q]?) → XC (exn e1) s t) : ∀ (T : AT) (ad : Nat → Nat) (H : Heap) (locs : List Loc) (ls : Array Slot) (l0 : Nat) (l1 : Int32) (l2 : Int32) (l3 : Int32), g_X11_moveSource_b33 T l0 l1 l2 l3 = some (e1 + 1, r1, T1) → GL T0 T → RC T → (∀ n, n < T0.1 → ad n = ad0 n) → l0 < T.1 → gC cI cJ cZ cMic cSrc cSt cAI cAJ D ad A s.heap H locs T → lv_has ls 4 [(0, .ref (ad l0)), (1, .int l1), (2, .int l2), (3, .int l3)] → W p l e { frames := 8, cells := T1.1 - T0.1 + 1, slots := sg T1 - sg T0 + 6, locals := 149 } s m args below meth c H locs (T.1 - T0.1) (sg T - sg T0) (vx_MQ below Qc XC args s (T1.1 - T0.1 + 1) (sg T1 - sg T0 + 6) A) (F0 m 33 ls []) := by
  have hx := E.1
  have hb := E.2.1
  have hts := E.2.2.1
  have hown := E.2.2.2.1
  have hK := E.2.2.2.2
  intro T ad H locs ls l0 l1 l2 l3 h hgl hrc had h_l0 G hl
  have hT1 := s_X11_moveSource_b33 _ _ _ _ _ h
  have hcs := cs_okx hgl hT1
  have hcx := cs_okx1 hgl hT1
  have cp0 := cpr0 hrc
  unfold g_X11_moveSource_b33 at h
  refine lv_aload_n hx hb dX11_moveSource_33 rfl (lv_at hl 0 rfl) ?_
  obtain ⟨g2, h⟩ := oif_some h
  obtain ⟨n3, en3, h⟩ := obind_some h
  have h_n3 : n3 < T.1 := by rw [← cp0.1]; exact cp0.2.2 _ _ _ en3
  refine c_get E G l0 6 (v := .ref (ad n3)) (oO_k g2).1 (cc_o11 (oO_k g2).2) rfl (fun w h => .tail _ (iA_23 h)) (by decide) (.tail _ qA_664) rfl (by rw [en3]; rfl) dX11_moveSource_34 ?_
  clear en3
  obtain ⟨g4, h⟩ := oif_some h
  obtain ⟨n5, en5, h⟩ := obind_some h
  have h_n5 : n5 < T.1 := by rw [← cp0.1]; exact cp0.2.2 _ _ _ en5
  refine c_get E G n3 6 (v := .ref (ad n5)) (oO_k g4).1 (cc_o8 (oO_k g4).2) rfl (fun w h => .tail _ (iA_16 h)) (by decide) (.tail _ qA_762) rfl (by rw [en5]; rfl) dX11_moveSource_37 ?_
  clear en5
  refine lv_iload_n hx hb dX11_moveSource_40 rfl (lv_at hl 1 rfl) ?_
  refine lv_iload_n hx hb dX11_moveSource_41 rfl (lv_at hl 2 rfl) ?_
  obtain ⟨g6, h⟩ := oif_some h
  obtain ⟨g7, h⟩ := oif_some h
  refine c_iast E G n5 0 (k := l1.toNatClampNeg) (v := l2) (aA_k g6).1 (cc_a100 (aA_k g6).2.1) rfl (inb_k g7).1 (inb_k g7).2 (aA_k g6).2.2 dX11_moveSource_42 (fun H locs G => ?_)
  have G := gC_up_i (f := upd (T.2.2.1 n5) l1.toNatClampNeg l2) (ccv_100 (aA_k g6).2.1) G
  obtain ⟨T8, eT8, h⟩ := elet_some h
  have G : gC cI cJ cZ cMic cSrc cSt cAI cAJ D ad A s.heap H locs T8 := by rw [eT8]; exact G
  have cp1 := show CPR T T8 from by rw [eT8]; exact cpr_sp cp0 sp_uI
  clear eT8
  refine lv_aload_n hx hb dX11_moveSource_43 rfl (lv_at hl 0 rfl) ?_
  obtain ⟨g9, h⟩ := oif_some h
  obtain ⟨n10, en10, h⟩ := obind_some h
  have h_n10 : n10 < T.1 := by rw [← cp1.1]; exact cp1.2.2 _ _ _ en10
  refine c_get E G l0 6 (v := .ref (ad n10)) (oO_k g9).1 (cc_o11 (oO_k g9).2) rfl (fun w h => .tail _ (iA_23 h)) (by decide) (.tail _ qA_664) rfl (by rw [en10]; rfl) dX11_moveSource_44 ?_
  clear en10
  obtain ⟨g11, h⟩ := oif_some h
  obtain ⟨n12, en12, h⟩ := obind_some h
  have h_n12 : n12 < T.1 := by rw [← cp1.1]; exact cp1.2.2 _ _ _ en12
  refine c_get E G n10 7 (v := .ref (ad n12)) (oO_k g11).1 (cc_o8 (oO_k g11).2) rfl (fun w h => .tail _ (iA_16 h)) (by decide) (.tail _ qA_764) rfl (by rw [en12]; rfl) dX11_moveSource_47 ?_
  clear en12
  refine lv_iload_n hx hb dX11_moveSource_50 rfl (lv_at hl 1 rfl) ?_
  refine lv_iload_n hx hb dX11_moveSource_51 rfl (lv_at hl 3 rfl) ?_
  obtain ⟨g13, h⟩ := oif_some h
  obtain ⟨g14, h⟩ := oif_some h
  refine c_iast E G n12 0 (k := l1.toNatClampNeg) (v := l3) (aA_k g13).1 (cc_a100 (aA_k g13).2.1) rfl (inb_k g14).1 (inb_k g14).2 (aA_k g13).2.2 dX11_moveSource_52 (fun H locs G => ?_)
  have G := gC_up_i (f := upd (T8.2.2.1 n12) l1.toNatClampNeg l3) (ccv_100 (aA_k g13).2.1) G
  obtain ⟨T15, eT15, h⟩ := elet_some h
  have G : gC cI cJ cZ cMic cSrc cSt cAI cAJ D ad A s.heap H locs T15 := by rw [eT15]; exact G
  have cp2 := show CPR T T15 from by rw [eT15]; exact cpr_sp cp1 sp_uI
  clear eT15
  refine lv_aload_n hx hb dX11_moveSource_53 rfl (lv_at hl 0 rfl) ?_
  obtain ⟨g16, h⟩ := oif_some h
  obtain ⟨n17, en17, h⟩ := obind_some h
  have h_n17 : n17 < T.1 := by rw [← cp2.1]; exact cp2.2.2 _ _ _ en17
  refine c_get E G l0 2 (v := .ref (ad n17)) (oO_k g16).1 (cc_o11 (oO_k g16).2) rfl (fun w h => .tail _ (iA_23 h)) (by decide) (.tail _ qA_654) rfl (by rw [en17]; rfl) dX11_moveSource_54 ?_
  clear en17
  refine lv_aload_n hx hb dX11_moveSource_57 rfl (lv_at hl 0 rfl) ?_
  obtain ⟨g18, h⟩ := oif_some h
  obtain ⟨n19, en19, h⟩ := obind_some h
  have h_n19 : n19 < T.1 := by rw [← cp2.1]; exact cp2.2.2 _ _ _ en19
  refine c_get E G l0 14 (v := .ref (ad n19)) (oO_k g18).1 (cc_o11 (oO_k g18).2) rfl (fun w h => .tail _ (iA_23 h)) (by decide) (.tail _ qA_675) rfl (by rw [en19]; rfl) dX11_moveSource_58 ?_
  clear en19
  refine lv_aload_n hx hb dX11_moveSource_61 rfl (lv_at hl 0 rfl) ?_
  obtain ⟨g20, h⟩ := oif_some h
  obtain ⟨n21, en21, h⟩ := obind_some h
  have h_n21 : n21 < T.1 := by rw [← cp2.1]; exact cp2.2.2 _ _ _ en21
  refine c_get E G l0 6 (v := .ref (ad n21)) (oO_k g20).1 (cc_o11 (oO_k g20).2) rfl (fun w h => .tail _ (iA_23 h)) (by decide) (.tail _ qA_664) rfl (by rw [en21]; rfl) dX11_moveSource_62 ?_
  clear en21
  obtain ⟨g22, h⟩ := oif_some h
  obtain ⟨T23, eT23, h⟩ := obind_some h
  have hg2 := s_X5_record eT23
  have hrc2 := hg2.2.2 cp2.2.2
  have hT2 := s_X11_moveSource_b68 _ _ h
  refine q_avv (As := [.ref (ad n19), .ref (ad n21)]) (rest := []) E G hA hX hN hml (a_X5_record l hst D cI cJ cZ cMic cSrc cSt cAI cAJ ad T15 n17 n19 n21 eT23 cp2.2.2 (by rw [cp2.1]; exact h_n17) (by rw [cp2.1]; exact h_n19) (by rw [cp2.1]; exact h_n21)) (cwV 2 hts (gaV qA_711 qA_712 qA_713 qA_475 qA_463) rfl rfl rfl (by decide +kernel) ⟨Nat.le_of_ble_eq_true rfl, Nat.le_of_ble_eq_true rfl⟩) (oO_k g22).1 (cc_o5 (oO_k g22).2) rfl rfl hl.1 rfl (lv_room (Nat.le_of_ble_eq_true rfl)) dX11_moveSource_65 (cs_avx hgl cp2 hg2 hT2) (fun ad2 H locs hga G => ?_)
  refine w_cast (c2 := T23.1 - T0.1) (s2 := sg T23 - sg T0) (cs_f1 hgl cp2 hg2) (cs_f2 hgl cp2 hg2) ?_
  have hl := lv_sub hl [0] rfl
  rw [show ad l0 = ad2 l0 from (hga l0 (by rw [cp2.1]; exact h_l0)).symm] at hl
  exact b_X11_moveSource_b68 E hA hX hN hml hst htab hlocks kx _ _ _ _ _ _ h (GL.tr (gl_cpr hgl cp2) hg2) hrc2 (fun n hn => (hga n (by rw [cp2.1]; exact Nat.lt_of_lt_of_le hn hgl.1)).trans (had n hn)) (Nat.lt_of_lt_of_le (by rw [cp2.1]; exact h_l0) hg2.1) G hl
set_option maxHeartbeats 4000000 in
set_option maxRecDepth 100000 in
theorem b_X11_moveSource (l : Launch) (hst : l.stackTraces = false) (D : va_G) (cI cJ cZ cMic cSrc cSt cAI cAJ : ClassId) (ad : Nat → Nat) (T : AT) (o : Nat) (a0 : Int32) (a1 : Int32) (a2 : Int32) {e1 : Nat} {r1 : Int32} {T1 : AT} (h : g_X11_moveSource T o a0 a1 a2 = some (e1 + 1, r1, T1)) (hrc : RC T) (h_o : o < T.1) : kAXi l yX11_moveSource (Cond.code yX11_moveSource cX11_moveSource 4 (some .int) :: wsA) 8 149 cI cJ cZ cMic cSrc cSt cAI cAJ D ad T [.ref (ad o), .int a0, .int a1, .int a2] e1 T1 := by
  intro sz
  refine vx_ofW (cc := cX11_moveSource) (maxL := 4) (ret := (some .int)) (by decide) rfl ?_
  intro p e s m args below meth c s₁ B hml htab hv
  obtain ⟨rfl, hsz, hP, hK, hD0, hX, hN⟩ := hv
  have hx := B.exec
  have hb := B.bytes
  have hr := B.returns
  have hts := atoms_spec (ws := (Cond.code yX11_moveSource cX11_moveSource 4 (some .int) :: wsA)) B.pre
  have hown : s.vm.findClass RX11 = some m.cls := findClass_of_methodNamed B.named
  have hlocks := B.notSynchronized
  subst hsz
  have hD := hD0.self (sz := s.heap.size)
  generalize hAe : va_A (cW ad T.1 (cc cI cJ cZ cMic cSrc cSt cAI cAJ ad T)) s.heap.size = A at hD hX ⊢
  have hA : ∀ q : Nat, s.heap.size ≤ q → A q := fun q h => by rw [← hAe]; exact Or.inr h
  have G : gC cI cJ cZ cMic cSrc cSt cAI cAJ D ad A s.heap s.heap [] T := ⟨hP, hD, va_S.rf⟩
  have E : cE p c cX11_moveSource s m ([.ref (ad o), .int a0, .int a1, .int a2] : List Value).toArray (Cond.code yX11_moveSource cX11_moveSource 4 (some .int) :: wsA) D RX11 (CT cI cJ cZ cMic cSrc cSt cAI cAJ) := ⟨hx, hb, hts, hown, hK⟩
  have htab : ∀ x ∈ c.exceptionTable.toList, False := fun x hx => htab x hx
  have hl := lv_entry ([.ref (ad o), .int a0, .int a1, .int a2]) (n := 4) (Nat.le_of_ble_eq_true rfl)
  rw [lg_entry_eq]
  generalize (lg_sl ([.ref (ad o), .int a0, .int a1, .int a2]) ++ List.replicate (4 - (lg_sl ([.ref (ad o), .int a0, .int a1, .int a2])).length) Slot.unset).toArray = ls at hl ⊢
  have hl : lv_has ls 4 [(0, .ref (ad o)), (1, .int a0), (2, .int a1), (3, .int a2)] := hl
  have hgl := GL.rf T
  have had : ∀ n, n < T.1 → ad n = ad n := fun _ _ => rfl
  have hT1 := s_X11_moveSource h
  have hcs := cs_okx hgl hT1
  have hcx := cs_okx1 hgl hT1
  refine w_cast (Nat.sub_self T.1).symm (Nat.sub_self (sg T)).symm ?_
  have cp0 := cpr0 hrc
  unfold g_X11_moveSource at h
  refine lv_aload_n hx hb dX11_moveSource_0 rfl (lv_at hl 0 rfl) ?_
  obtain ⟨g2, h⟩ := oif_some h
  rcases othr_t h with ⟨r0, eT3⟩ | ⟨r5, T3, eT3, h⟩
  · refine q_xvv (As := []) (rest := []) E G hA hX hN hml (x_X11_needCamera l hst D cI cJ cZ cMic cSrc cSt cAI cAJ ad T o eT3) (cwV 0 hts (gaV qA_728 qA_729 qA_730 qA_131 qA_731) rfl rfl rfl (by decide +kernel) ⟨Nat.le_of_ble_eq_true rfl, Nat.le_of_ble_eq_true rfl⟩) (oO_k g2).1 (cc_o11 (oO_k g2).2) rfl rfl hl.1 rfl (lv_room (Nat.le_of_ble_eq_true rfl)) dX11_moveSource_1 hcx (fun E9 ce q9 T9 H locs hp G hce hcv hcl => ?_)
    obtain ⟨hE, hT⟩ := hp
    subst hE
    rw [hT] at G
    exact vx_out (fun x hx => (htab x hx).elim) hlocks hce hcv hcl (fun t ht hvm => ⟨(T1, ad), trivial, ⟨⟨rfl, rfl, had⟩, by rw [ht]; exact G.1, va_K.moved hvm hK, G.2.1⟩, G.2.2.F ht⟩) G.2.2.2.2 hcx.1 hcx.2
  refine q_cvv (As := []) (rest := []) E G hA hX hN hml (u_X11_needCamera l hst D cI cJ cZ cMic cSrc cSt cAI cAJ ad T o eT3) (cwV 0 hts (gaV qA_728 qA_729 qA_730 qA_131 qA_731) rfl rfl rfl (by decide +kernel) ⟨Nat.le_of_ble_eq_true rfl, Nat.le_of_ble_eq_true rfl⟩) (oO_k g2).1 (cc_o11 (oO_k g2).2) rfl rfl hl.1 rfl (lv_room (Nat.le_of_ble_eq_true rfl)) dX11_moveSource_1 hcs (fun T4 H locs hq G => ?_)
  rw [hq] at G
  clear hq
  have cp1 := cpr_sp cp0 (s_X11_needCamera eT3)
  refine lv_aload_n hx hb dX11_moveSource_4 rfl (lv_at hl 0 rfl) ?_
  refine lv_iload_n hx hb dX11_moveSource_5 rfl (lv_at hl 1 rfl) ?_
  obtain ⟨g7, h⟩ := oif_some h
  rcases othr_t h with ⟨r0, eT8⟩ | ⟨r10, T8, eT8, h⟩
  · refine q_xvv (As := [.int a0]) (rest := []) E G hA hX hN hml (x_X11_needSource l hst D cI cJ cZ cMic cSrc cSt cAI cAJ ad T3 o a0 eT8) (cwV 1 hts (gaV qA_766 qA_767 qA_768 qA_131 qA_769) rfl rfl rfl (by decide +kernel) ⟨Nat.le_of_ble_eq_true rfl, Nat.le_of_ble_eq_true rfl⟩) (oO_k g7).1 (cc_o11 (oO_k g7).2) rfl rfl hl.1 rfl (lv_room (Nat.le_of_ble_eq_true rfl)) dX11_moveSource_6 hcx (fun E9 ce q9 T9 H locs hp G hce hcv hcl => ?_)
    obtain ⟨hE, hT⟩ := hp
    subst hE
    rw [hT] at G
    exact vx_out (fun x hx => (htab x hx).elim) hlocks hce hcv hcl (fun t ht hvm => ⟨(T1, ad), trivial, ⟨⟨rfl, rfl, had⟩, by rw [ht]; exact G.1, va_K.moved hvm hK, G.2.1⟩, G.2.2.F ht⟩) G.2.2.2.2 hcx.1 hcx.2
  refine q_cvv (As := [.int a0]) (rest := []) E G hA hX hN hml (u_X11_needSource l hst D cI cJ cZ cMic cSrc cSt cAI cAJ ad T3 o a0 eT8) (cwV 1 hts (gaV qA_766 qA_767 qA_768 qA_131 qA_769) rfl rfl rfl (by decide +kernel) ⟨Nat.le_of_ble_eq_true rfl, Nat.le_of_ble_eq_true rfl⟩) (oO_k g7).1 (cc_o11 (oO_k g7).2) rfl rfl hl.1 rfl (lv_room (Nat.le_of_ble_eq_true rfl)) dX11_moveSource_6 hcs (fun T9 H locs hq G => ?_)
  rw [hq] at G
  clear hq
  have cp2 := cpr_sp cp1 (s_X11_needSource eT8)
  refine lv_iload_n hx hb dX11_moveSource_9 rfl (lv_at hl 2 rfl) ?_
  refine lv_sipush (v := (-2000)) hx hb dX11_moveSource_10 (by decide) ?_
  refine lv_sipush (v := 2000) hx hb dX11_moveSource_13 (by decide) ?_
  rcases othr_t h with ⟨r0, eT12⟩ | ⟨r14, T12, eT12, h⟩
  · refine q_xsv (As := [.int a1, .int (-2000), .int 2000]) (rest := []) E G hA hX hN hml (x_X11_needRange l hst D cI cJ cZ cMic cSrc cSt cAI cAJ ad T8 a1 ((-2000) : Int32) (2000 : Int32) eT12) (cwS 3 hts (gaS qA_741 qA_742 qA_131 qA_743) rfl rfl rfl (by decide +kernel) ⟨Nat.le_of_ble_eq_true rfl, Nat.le_of_ble_eq_true rfl⟩) rfl hl.1 rfl (lv_room (Nat.le_of_ble_eq_true rfl)) dX11_moveSource_16 hcx (fun E9 ce q9 T9 H locs hp G hce hcv hcl => ?_)
    obtain ⟨hE, hT⟩ := hp
    subst hE
    rw [hT] at G
    exact vx_out (fun x hx => (htab x hx).elim) hlocks hce hcv hcl (fun t ht hvm => ⟨(T1, ad), trivial, ⟨⟨rfl, rfl, had⟩, by rw [ht]; exact G.1, va_K.moved hvm hK, G.2.1⟩, G.2.2.F ht⟩) G.2.2.2.2 hcx.1 hcx.2
  refine q_csv (As := [.int a1, .int (-2000), .int 2000]) (rest := []) E G hA hX hN hml (u_X11_needRange l hst D cI cJ cZ cMic cSrc cSt cAI cAJ ad T8 a1 ((-2000) : Int32) (2000 : Int32) eT12) (cwS 3 hts (gaS qA_741 qA_742 qA_131 qA_743) rfl rfl rfl (by decide +kernel) ⟨Nat.le_of_ble_eq_true rfl, Nat.le_of_ble_eq_true rfl⟩) rfl hl.1 rfl (lv_room (Nat.le_of_ble_eq_true rfl)) dX11_moveSource_16 hcs (fun T13 H locs hq G => ?_)
  rw [hq] at G
  clear hq
  have cp3 := cpr_sp cp2 (s_X11_needRange eT12)
  refine lv_iload_n hx hb dX11_moveSource_19 rfl (lv_at hl 3 rfl) ?_
  refine lv_sipush (v := (-2000)) hx hb dX11_moveSource_20 (by decide) ?_
  refine lv_sipush (v := 2000) hx hb dX11_moveSource_23 (by decide) ?_
  rcases othr_t h with ⟨r0, eT16⟩ | ⟨r18, T16, eT16, h⟩
  · refine q_xsv (As := [.int a2, .int (-2000), .int 2000]) (rest := []) E G hA hX hN hml (x_X11_needRange l hst D cI cJ cZ cMic cSrc cSt cAI cAJ ad T12 a2 ((-2000) : Int32) (2000 : Int32) eT16) (cwS 3 hts (gaS qA_741 qA_742 qA_131 qA_743) rfl rfl rfl (by decide +kernel) ⟨Nat.le_of_ble_eq_true rfl, Nat.le_of_ble_eq_true rfl⟩) rfl hl.1 rfl (lv_room (Nat.le_of_ble_eq_true rfl)) dX11_moveSource_26 hcx (fun E9 ce q9 T9 H locs hp G hce hcv hcl => ?_)
    obtain ⟨hE, hT⟩ := hp
    subst hE
    rw [hT] at G
    exact vx_out (fun x hx => (htab x hx).elim) hlocks hce hcv hcl (fun t ht hvm => ⟨(T1, ad), trivial, ⟨⟨rfl, rfl, had⟩, by rw [ht]; exact G.1, va_K.moved hvm hK, G.2.1⟩, G.2.2.F ht⟩) G.2.2.2.2 hcx.1 hcx.2
  refine q_csv (As := [.int a2, .int (-2000), .int 2000]) (rest := []) E G hA hX hN hml (u_X11_needRange l hst D cI cJ cZ cMic cSrc cSt cAI cAJ ad T12 a2 ((-2000) : Int32) (2000 : Int32) eT16) (cwS 3 hts (gaS qA_741 qA_742 qA_131 qA_743) rfl rfl rfl (by decide +kernel) ⟨Nat.le_of_ble_eq_true rfl, Nat.le_of_ble_eq_true rfl⟩) rfl hl.1 rfl (lv_room (Nat.le_of_ble_eq_true rfl)) dX11_moveSource_26 hcs (fun T17 H locs hq G => ?_)
  rw [hq] at G
  clear hq
  have cp4 := cpr_sp cp3 (s_X11_needRange eT16)
  refine lv_aload_n hx hb dX11_moveSource_29 rfl (lv_at hl 0 rfl) ?_
  obtain ⟨g20, h⟩ := oif_some h
  obtain ⟨T21, eT21, h⟩ := obind_some h
  have hg2 := s_X11_keepForUndo eT21
  have hrc2 := hg2.2.2 cp4.2.2
  have hT2 := s_X11_moveSource_b33 _ _ _ _ _ h
  refine q_avv (As := []) (rest := []) E G hA hX hN hml (a_X11_keepForUndo l hst D cI cJ cZ cMic cSrc cSt cAI cAJ ad T16 o eT21 cp4.2.2 (by rw [cp4.1]; exact h_o)) (cwV 0 hts (gaV qA_925 qA_926 qA_927 qA_131 qA_928) rfl rfl rfl (by decide +kernel) ⟨Nat.le_of_ble_eq_true rfl, Nat.le_of_ble_eq_true rfl⟩) (oO_k g20).1 (cc_o11 (oO_k g20).2) rfl rfl hl.1 rfl (lv_room (Nat.le_of_ble_eq_true rfl)) dX11_moveSource_30 (cs_avx hgl cp4 hg2 hT2) (fun ad2 H locs hga G => ?_)
  refine w_cast (c2 := T21.1 - T.1) (s2 := sg T21 - sg T) (cs_f1 hgl cp4 hg2) (cs_f2 hgl cp4 hg2) ?_
  have hl := lv_sub hl [0, 1, 2, 3] rfl
  rw [show ad o = ad2 o from (hga o (by rw [cp4.1]; exact h_o)).symm] at hl
  exact b_X11_moveSource_b33 E hA hX hN hml hst htab hlocks (fun ad H locs t had G hvm h1 h2 => ⟨(T1, ad), trivial, ⟨⟨rfl, rfl, had⟩, (c_thrown G hK hvm h1 h2).1⟩, (c_thrown G hK hvm h1 h2).2⟩) _ _ _ _ _ _ _ _ _ h (GL.tr (gl_cpr hgl cp4) hg2) hrc2 (fun n hn => (hga n (by rw [cp4.1]; exact Nat.lt_of_lt_of_le hn hgl.1)).trans (had n hn)) (Nat.lt_of_lt_of_le (by rw [cp4.1]; exact h_o) hg2.1) G hl
def g_X11_setVelocity_b72  (T : AT) (s0 : Nat) : Option (Nat × Int32 × AT) := oif (oO T s0 4 = true) <| elet (T.2.2.1 s0 2) fun v3 => some (0, v3, T)
def g_X11_setVelocity_b68  (T : AT) (l0 : Nat) : Option (Nat × Int32 × AT) := oif (oO T l0 11 = true) <| obind2 (g_X11_powersNow T l0) fun r4 T3 => oif (Nat.blt r4 T3.1 = true) <| g_X11_setVelocity_b72 T3 r4
def g_X11_setVelocity_b33  (T : AT) (l0 : Nat) (l1 : Int32) (l2 : Int32) (l3 : Int32) : Option (Nat × Int32 × AT) := oif (oO T l0 11 = true) <| obind (T.2.2.2.2 l0 6) fun n3 => oif (oO T n3 8 = true) <| obind (T.2.2.2.2 n3 8) fun n5 => oif (aA T n5 100 = true) <| oif (inb l1 (T.2.1 n5).2 = true) <| elet (uI T n5 l1.toNatClampNeg l2) fun T8 => oif (oO T8 l0 11 = true) <| obind (T8.2.2.2.2 l0 6) fun n10 => oif (oO T8 n10 8 = true) <| obind (T8.2.2.2.2 n10 9) fun n12 => oif (aA T8 n12 100 = true) <| oif (inb l1 (T8.2.1 n12).2 = true) <| elet (uI T8 n12 l1.toNatClampNeg l3) fun T15 => oif (oO T15 l0 11 = true) <| obind (T15.2.2.2.2 l0 2) fun n17 => oif (oO T15 l0 11 = true) <| obind (T15.2.2.2.2 l0 14) fun n19 => oif (oO T15 l0 11 = true) <| obind (T15.2.2.2.2 l0 6) fun n21 => oif (oO T15 n17 5 = true) <| obind (g_X5_record T15 n17 n19 n21) fun T23 => g_X11_setVelocity_b68 T23 l0
def g_X11_setVelocity (T : AT) (o : Nat) (a0 : Int32) (a1 : Int32) (a2 : Int32) : Option (Nat × Int32 × AT) := oif (oO T o 11 = true) <| othr (g_X11_needCamera T o) 0 fun r5 T3 => oif (oO T3 o 11 = true) <| othr (g_X11_needSource T3 o a0) 0 fun r10 T8 => othr (g_X11_needRange T8 a1 ((-999) : Int32) (999 : Int32)) 0 fun r14 T12 => othr (g_X11_needRange T12 a2 ((-999) : Int32) (999 : Int32)) 0 fun r18 T16 => oif (oO T16 o 11 = true) <| obind (g_X11_keepForUndo T16 o) fun T21 => g_X11_setVelocity_b33 T21 o a0 a1 a2
set_option maxHeartbeats 4000000 in
set_option maxRecDepth 100000 in
theorem s_X11_setVelocity_b72 {e1 : Nat} {r1 : Int32} {T1 : AT} : ∀ (T : AT) (s0 : Nat), g_X11_setVelocity_b72 T s0 = some (e1, r1, T1) → GL T T1 := by
  intro T s0 h
  have p0 := GL.rf T
  unfold g_X11_setVelocity_b72 at h
  obtain ⟨g2, h⟩ := oif_some h
  obtain ⟨v3, -, h⟩ := elet_some h
  rw [← (osome3 h).2.2]
  exact p0
set_option maxHeartbeats 4000000 in
set_option maxRecDepth 100000 in
theorem s_X11_setVelocity_b68 {e1 : Nat} {r1 : Int32} {T1 : AT} : ∀ (T : AT) (l0 : Nat), g_X11_setVelocity_b68 T l0 = some (e1, r1, T1) → GL T T1 := by
  intro T l0 h
  have p0 := GL.rf T
  unfold g_X11_setVelocity_b68 at h
  obtain ⟨g2, h⟩ := oif_some h
  obtain ⟨r4, T3, eT3, h⟩ := obind2_some h
  obtain ⟨g5, h⟩ := oif_some h
  have p1 : GL T T3 := GL.tr p0 (s_X11_powersNow eT3)
  exact GL.tr p1 (s_X11_setVelocity_b72 _ _ h)
set_option maxHeartbeats 4000000 in
set_option maxRecDepth 100000 in
theorem s_X11_setVelocity_b33 {e1 : Nat} {r1 : Int32} {T1 : AT} : ∀ (T : AT) (l0 : Nat) (l1 : Int32) (l2 : Int32) (l3 : Int32), g_X11_setVelocity_b33 T l0 l1 l2 l3 = some (e1, r1, T1) → GL T T1 := by
  intro T l0 l1 l2 l3 h
  have p0 := GL.rf T
  unfold g_X11_setVelocity_b33 at h
  obtain ⟨g2, h⟩ := oif_some h
  obtain ⟨n3, en3, h⟩ := obind_some h
  obtain ⟨g4, h⟩ := oif_some h
  obtain ⟨n5, en5, h⟩ := obind_some h
  obtain ⟨g6, h⟩ := oif_some h
  obtain ⟨g7, h⟩ := oif_some h
  obtain ⟨T8, eT8, h⟩ := elet_some h
  have p1 : GL T T8 := GL.tr p0 (by rw [eT8]; exact gl_sp sp_uI)
  obtain ⟨g9, h⟩ := oif_some h
  obtain ⟨n10, en10, h⟩ := obind_some h
  obtain ⟨g11, h⟩ := oif_some h
  obtain ⟨n12, en12, h⟩ := obind_some h
  obtain ⟨g13, h⟩ := oif_some h
  obtain ⟨g14, h⟩ := oif_some h
  obtain ⟨T15, eT15, h⟩ := elet_some h
  have p2 : GL T T15 := GL.tr p1 (by rw [eT15]; exact gl_sp sp_uI)
  obtain ⟨g16, h⟩ := oif_some h
  obtain ⟨n17, en17, h⟩ := obind_some h
  obtain ⟨g18, h⟩ := oif_some h
  obtain ⟨n19, en19, h⟩ := obind_some h
  obtain ⟨g20, h⟩ := oif_some h
  obtain ⟨n21, en21, h⟩ := obind_some h
  obtain ⟨g22, h⟩ := oif_some h
  obtain ⟨T23, eT23, h⟩ := obind_some h
  have p3 : GL T T23 := GL.tr p2 (s_X5_record eT23)
  exact GL.tr p3 (s_X11_setVelocity_b68 _ _ h)
set_option maxHeartbeats 4000000 in
set_option maxRecDepth 100000 in
theorem s_X11_setVelocity {T : AT} {o : Nat} {a0 : Int32} {a1 : Int32} {a2 : Int32} {e1 : Nat} {r1 : Int32} {T1 : AT} (h : g_X11_setVelocity T o a0 a1 a2 = some (e1, r1, T1)) : GL T T1 := by
  have p0 := GL.rf T
  unfold g_X11_setVelocity at h
  obtain ⟨g2, h⟩ := oif_some h
  rcases othr_s h with ⟨k9, r9, e9, -⟩ | ⟨r4, T3, eT3, h⟩
  · exact GL.tr p0 (gl_sp (s_X11_needCamera e9))
  have p1 : GL T T3 := GL.tr p0 (gl_sp (s_X11_needCamera eT3))
  obtain ⟨g5, h⟩ := oif_some h
  rcases othr_s h with ⟨k9, r9, e9, -⟩ | ⟨r7, T6, eT6, h⟩
  · exact GL.tr p1 (gl_sp (s_X11_needSource e9))
  have p2 : GL T T6 := GL.tr p1 (gl_sp (s_X11_needSource eT6))
  rcases othr_s h with ⟨k9, r9, e9, -⟩ | ⟨r9, T8, eT8, h⟩
  · exact GL.tr p2 (gl_sp (s_X11_needRange e9))
  have p3 : GL T T8 := GL.tr p2 (gl_sp (s_X11_needRange eT8))
  rcases othr_s h with ⟨k9, r9, e9, -⟩ | ⟨r11, T10, eT10, h⟩
  · exact GL.tr p3 (gl_sp (s_X11_needRange e9))
  have p4 : GL T T10 := GL.tr p3 (gl_sp (s_X11_needRange eT10))
  obtain ⟨g12, h⟩ := oif_some h
  obtain ⟨T13, eT13, h⟩ := obind_some h
  have p5 : GL T T13 := GL.tr p4 (s_X11_keepForUndo eT13)
  exact GL.tr p5 (s_X11_setVelocity_b33 _ _ _ _ _ h)
set_option maxHeartbeats 4000000 in
set_option maxRecDepth 100000 in
theorem a_X11_setVelocity_b72 {p : Program} {l : Launch} {e : Env} {s : State} {m : MethodId} {args : Array Value} {below : List Frame} {meth : Method} {c : Code} {Q : State → Prop} {D : va_G} {A : Nat → Prop} {cI cJ cZ cMic cSrc cSt cAI cAJ : ClassId} {ad0 : Nat → Nat} {T0 : AT} {r1 : Int32} {T1 : AT} (E : cE p c cX11_setVelocity s m args (Cond.code yX11_setVelocity cX11_setVelocity 4 (some .int) :: wsA) D RX11 (CT cI cJ cZ cMic cSrc cSt cAI cAJ)) (hA : ∀ q : Nat, s.heap.size ≤ q → A q) (hX : xT A s) (hN : nX s) (hml : c.maxLocals = 4) (hst : l.stackTraces = false) (kr75 : ∀ (ad : Nat → Nat) (H : Heap) (locs : List Loc) (ls : Array Slot), (∀ n, n < T0.1 → ad n = ad0 n) → gC cI cJ cZ cMic cSrc cSt cAI cAJ D ad A s.heap H locs T1 → W p l e { frames := 8, cells := T1.1 - T0.1, slots := sg T1 - sg T0, locals := 149 } s m args below meth c H locs (T1.1 - T0.1) (sg T1 - sg T0) Q (F0 m 75 ls [.int r1])) : ∀ (T : AT) (ad : Nat → Nat) (H : Heap) (locs : List Loc) (ls : Array Slot) (s0 : Nat), g_X11_setVelocity_b72 T s0 = some (0, r1, T1) → GL T0 T → RC T → (∀ n, n < T0.1 → ad n = ad0 n) → s0 < T.1 → gC cI cJ cZ cMic cSrc cSt cAI cAJ D ad A s.heap H locs T → lv_has ls 4 [] → W p l e { frames := 8, cells := T1.1 - T0.1, slots := sg T1 - sg T0, locals := 149 } s m args below meth c H locs (T.1 - T0.1) (sg T - sg T0) Q (F0 m 72 ls [.ref (ad s0)]) := by
  have hx := E.1
  have hb := E.2.1
  have hts := E.2.2.1
  have hown := E.2.2.2.1
  have hK := E.2.2.2.2
  intro T ad H locs ls s0 h hgl hrc had h_s0 G hl
  have hT1 := s_X11_setVelocity_b72 _ _ h
  have hcs := cs_ok hgl hT1
  have cp0 := cpr0 hrc
  unfold g_X11_setVelocity_b72 at h
  obtain ⟨g2, h⟩ := oif_some h
  refine c_get E G s0 2 (oO_k g2).1 (cc_o4 (oO_k g2).2) rfl (fun w h => .tail _ (iA_21 h)) (by decide) (.tail _ qA_812) rfl rfl dX11_setVelocity_72 ?_
  refine lv_topi (fun v3 ev3 => ?_)
  have h := elet_at ev3 h
  clear ev3
  rw [(osome3 h).2.2] at G
  refine w_cast (c2 := T1.1 - T0.1) (s2 := sg T1 - sg T0) (by rw [← (osome3 h).2.2, cp0.1] <;> rfl) (by rw [← (osome3 h).2.2, sg_cpr cp0] <;> rfl) ?_
  refine lv_to ((osome3 h).2.1) ?_
  exact kr75 ad _ _ _ had G
set_option maxHeartbeats 4000000 in
set_option maxRecDepth 100000 in
theorem a_X11_setVelocity_b68 {p : Program} {l : Launch} {e : Env} {s : State} {m : MethodId} {args : Array Value} {below : List Frame} {meth : Method} {c : Code} {Q : State → Prop} {D : va_G} {A : Nat → Prop} {cI cJ cZ cMic cSrc cSt cAI cAJ : ClassId} {ad0 : Nat → Nat} {T0 : AT} {r1 : Int32} {T1 : AT} (E : cE p c cX11_setVelocity s m args (Cond.code yX11_setVelocity cX11_setVelocity 4 (some .int) :: wsA) D RX11 (CT cI cJ cZ cMic cSrc cSt cAI cAJ)) (hA : ∀ q : Nat, s.heap.size ≤ q → A q) (hX : xT A s) (hN : nX s) (hml : c.maxLocals = 4) (hst : l.stackTraces = false) (kr75 : ∀ (ad : Nat → Nat) (H : Heap) (locs : List Loc) (ls : Array Slot), (∀ n, n < T0.1 → ad n = ad0 n) → gC cI cJ cZ cMic cSrc cSt cAI cAJ D ad A s.heap H locs T1 → W p l e { frames := 8, cells := T1.1 - T0.1, slots := sg T1 - sg T0, locals := 149 } s m args below meth c H locs (T1.1 - T0.1) (sg T1 - sg T0) Q (F0 m 75 ls [.int r1])) : ∀ (T : AT) (ad : Nat → Nat) (H : Heap) (locs : List Loc) (ls : Array Slot) (l0 : Nat), g_X11_setVelocity_b68 T l0 = some (0, r1, T1) → GL T0 T → RC T → (∀ n, n < T0.1 → ad n = ad0 n) → l0 < T.1 → gC cI cJ cZ cMic cSrc cSt cAI cAJ D ad A s.heap H locs T → lv_has ls 4 [(0, .ref (ad l0))] → W p l e { frames := 8, cells := T1.1 - T0.1, slots := sg T1 - sg T0, locals := 149 } s m args below meth c H locs (T.1 - T0.1) (sg T - sg T0) Q (F0 m 68 ls []) := by
  have hx := E.1
  have hb := E.2.1
  have hts := E.2.2.1
  have hown := E.2.2.2.1
  have hK := E.2.2.2.2
  intro T ad H locs ls l0 h hgl hrc had h_l0 G hl
  have hT1 := s_X11_setVelocity_b68 _ _ h
  have hcs := cs_ok hgl hT1
  have cp0 := cpr0 hrc
  unfold g_X11_setVelocity_b68 at h
  refine lv_aload_n hx hb dX11_setVelocity_68 rfl (lv_at hl 0 rfl) ?_
  obtain ⟨g2, h⟩ := oif_some h
  obtain ⟨r4, T3, eT3, h⟩ := obind2_some h
  obtain ⟨g5, h⟩ := oif_some h
  have hg2 := s_X11_powersNow eT3
  have hrc2 := hg2.2.2 cp0.2.2
  have hT2 := s_X11_setVelocity_b72 _ _ h
  refine q_avr (As := []) (rest := []) E G hA hX hN hml (a_X11_powersNow l hst D cI cJ cZ cMic cSrc cSt cAI cAJ ad T l0 eT3 cp0.2.2 (by rw [cp0.1]; exact h_l0)) (cwV 0 hts (gaV qA_799 qA_800 qA_801 qA_131 qA_802) rfl rfl rfl (by decide +kernel) ⟨Nat.le_of_ble_eq_true rfl, Nat.le_of_ble_eq_true rfl⟩) (oO_k g2).1 (cc_o11 (oO_k g2).2) rfl rfl hl.1 rfl (lv_room (Nat.le_of_ble_eq_true rfl)) dX11_setVelocity_69 (cs_av hgl cp0 hg2 hT2) (fun ad2 H locs hga G => ?_)
  refine w_cast (c2 := T3.1 - T0.1) (s2 := sg T3 - sg T0) (cs_f1 hgl cp0 hg2) (cs_f2 hgl cp0 hg2) ?_
  have h_new : r4 < T3.1 := Nat.le_of_ble_eq_true g5
  have hl := lv_sub hl [] rfl
  exact a_X11_setVelocity_b72 E hA hX hN hml hst kr75 _ _ _ _ _ _ h (GL.tr (gl_cpr hgl cp0) hg2) hrc2 (fun n hn => (hga n (by rw [cp0.1]; exact Nat.lt_of_lt_of_le hn hgl.1)).trans (had n hn)) h_new G hl
set_option maxHeartbeats 4000000 in
set_option maxRecDepth 100000 in
theorem a_X11_setVelocity_b33 {p : Program} {l : Launch} {e : Env} {s : State} {m : MethodId} {args : Array Value} {below : List Frame} {meth : Method} {c : Code} {Q : State → Prop} {D : va_G} {A : Nat → Prop} {cI cJ cZ cMic cSrc cSt cAI cAJ : ClassId} {ad0 : Nat → Nat} {T0 : AT} {r1 : Int32} {T1 : AT} (E : cE p c cX11_setVelocity s m args (Cond.code yX11_setVelocity cX11_setVelocity 4 (some .int) :: wsA) D RX11 (CT cI cJ cZ cMic cSrc cSt cAI cAJ)) (hA : ∀ q : Nat, s.heap.size ≤ q → A q) (hX : xT A s) (hN : nX s) (hml : c.maxLocals = 4) (hst : l.stackTraces = false) (kr75 : ∀ (ad : Nat → Nat) (H : Heap) (locs : List Loc) (ls : Array Slot), (∀ n, n < T0.1 → ad n = ad0 n) → gC cI cJ cZ cMic cSrc cSt cAI cAJ D ad A s.heap H locs T1 → W p l e { frames := 8, cells := T1.1 - T0.1, slots := sg T1 - sg T0, locals := 149 } s m args below meth c H locs (T1.1 - T0.1) (sg T1 - sg T0) Q (F0 m 75 ls [.int r1])) : ∀ (T : AT) (ad : Nat → Nat) (H : Heap) (locs : List Loc) (ls : Array Slot) (l0 : Nat) (l1 : Int32) (l2 : Int32) (l3 : Int32), g_X11_setVelocity_b33 T l0 l1 l2 l3 = some (0, r1, T1) → GL T0 T → RC T → (∀ n, n < T0.1 → ad n = ad0 n) → l0 < T.1 → gC cI cJ cZ cMic cSrc cSt cAI cAJ D ad A s.heap H locs T → lv_has ls 4 [(0, .ref (ad l0)), (1, .int l1), (2, .int l2), (3, .int l3)] → W p l e { frames := 8, cells := T1.1 - T0.1, slots := sg T1 - sg T0, locals := 149 } s m args below meth c H locs (T.1 - T0.1) (sg T - sg T0) Q (F0 m 33 ls []) := by
  have hx := E.1
  have hb := E.2.1
  have hts := E.2.2.1
  have hown := E.2.2.2.1
  have hK := E.2.2.2.2
  intro T ad H locs ls l0 l1 l2 l3 h hgl hrc had h_l0 G hl
  have hT1 := s_X11_setVelocity_b33 _ _ _ _ _ h
  have hcs := cs_ok hgl hT1
  have cp0 := cpr0 hrc
  unfold g_X11_setVelocity_b33 at h
  refine lv_aload_n hx hb dX11_setVelocity_33 rfl (lv_at hl 0 rfl) ?_
  obtain ⟨g2, h⟩ := oif_some h
  obtain ⟨n3, en3, h⟩ := obind_some h
  have h_n3 : n3 < T.1 := by rw [← cp0.1]; exact cp0.2.2 _ _ _ en3
  refine c_get E G l0 6 (v := .ref (ad n3)) (oO_k g2).1 (cc_o11 (oO_k g2).2) rfl (fun w h => .tail _ (iA_23 h)) (by decide) (.tail _ qA_664) rfl (by rw [en3]; rfl) dX11_setVelocity_34 ?_
  clear en3
  obtain ⟨g4, h⟩ := oif_some h
  obtain ⟨n5, en5, h⟩ := obind_some h
  have h_n5 : n5 < T.1 := by rw [← cp0.1]; exact cp0.2.2 _ _ _ en5
  refine c_get E G n3 8 (v := .ref (ad n5)) (oO_k g4).1 (cc_o8 (oO_k g4).2) rfl (fun w h => .tail _ (iA_16 h)) (by decide) (.tail _ qA_763) rfl (by rw [en5]; rfl) dX11_setVelocity_37 ?_
  clear en5
  refine lv_iload_n hx hb dX11_setVelocity_40 rfl (lv_at hl 1 rfl) ?_
  refine lv_iload_n hx hb dX11_setVelocity_41 rfl (lv_at hl 2 rfl) ?_
  obtain ⟨g6, h⟩ := oif_some h
  obtain ⟨g7, h⟩ := oif_some h
  refine c_iast E G n5 0 (k := l1.toNatClampNeg) (v := l2) (aA_k g6).1 (cc_a100 (aA_k g6).2.1) rfl (inb_k g7).1 (inb_k g7).2 (aA_k g6).2.2 dX11_setVelocity_42 (fun H locs G => ?_)
  have G := gC_up_i (f := upd (T.2.2.1 n5) l1.toNatClampNeg l2) (ccv_100 (aA_k g6).2.1) G
  obtain ⟨T8, eT8, h⟩ := elet_some h
  have G : gC cI cJ cZ cMic cSrc cSt cAI cAJ D ad A s.heap H locs T8 := by rw [eT8]; exact G
  have cp1 := show CPR T T8 from by rw [eT8]; exact cpr_sp cp0 sp_uI
  clear eT8
  refine lv_aload_n hx hb dX11_setVelocity_43 rfl (lv_at hl 0 rfl) ?_
  obtain ⟨g9, h⟩ := oif_some h
  obtain ⟨n10, en10, h⟩ := obind_some h
  have h_n10 : n10 < T.1 := by rw [← cp1.1]; exact cp1.2.2 _ _ _ en10
  refine c_get E G l0 6 (v := .ref (ad n10)) (oO_k g9).1 (cc_o11 (oO_k g9).2) rfl (fun w h => .tail _ (iA_23 h)) (by decide) (.tail _ qA_664) rfl (by rw [en10]; rfl) dX11_setVelocity_44 ?_
  clear en10
  obtain ⟨g11, h⟩ := oif_some h
  obtain ⟨n12, en12, h⟩ := obind_some h
  have h_n12 : n12 < T.1 := by rw [← cp1.1]; exact cp1.2.2 _ _ _ en12
  refine c_get E G n10 9 (v := .ref (ad n12)) (oO_k g11).1 (cc_o8 (oO_k g11).2) rfl (fun w h => .tail _ (iA_16 h)) (by decide) (.tail _ qA_765) rfl (by rw [en12]; rfl) dX11_setVelocity_47 ?_
  clear en12
  refine lv_iload_n hx hb dX11_setVelocity_50 rfl (lv_at hl 1 rfl) ?_
  refine lv_iload_n hx hb dX11_setVelocity_51 rfl (lv_at hl 3 rfl) ?_
  obtain ⟨g13, h⟩ := oif_some h
  obtain ⟨g14, h⟩ := oif_some h
  refine c_iast E G n12 0 (k := l1.toNatClampNeg) (v := l3) (aA_k g13).1 (cc_a100 (aA_k g13).2.1) rfl (inb_k g14).1 (inb_k g14).2 (aA_k g13).2.2 dX11_setVelocity_52 (fun H locs G => ?_)
  have G := gC_up_i (f := upd (T8.2.2.1 n12) l1.toNatClampNeg l3) (ccv_100 (aA_k g13).2.1) G
  obtain ⟨T15, eT15, h⟩ := elet_some h
  have G : gC cI cJ cZ cMic cSrc cSt cAI cAJ D ad A s.heap H locs T15 := by rw [eT15]; exact G
  have cp2 := show CPR T T15 from by rw [eT15]; exact cpr_sp cp1 sp_uI
  clear eT15
  refine lv_aload_n hx hb dX11_setVelocity_53 rfl (lv_at hl 0 rfl) ?_
  obtain ⟨g16, h⟩ := oif_some h
  obtain ⟨n17, en17, h⟩ := obind_some h
  have h_n17 : n17 < T.1 := by rw [← cp2.1]; exact cp2.2.2 _ _ _ en17
  refine c_get E G l0 2 (v := .ref (ad n17)) (oO_k g16).1 (cc_o11 (oO_k g16).2) rfl (fun w h => .tail _ (iA_23 h)) (by decide) (.tail _ qA_654) rfl (by rw [en17]; rfl) dX11_setVelocity_54 ?_
  clear en17
  refine lv_aload_n hx hb dX11_setVelocity_57 rfl (lv_at hl 0 rfl) ?_
  obtain ⟨g18, h⟩ := oif_some h
  obtain ⟨n19, en19, h⟩ := obind_some h
  have h_n19 : n19 < T.1 := by rw [← cp2.1]; exact cp2.2.2 _ _ _ en19
  refine c_get E G l0 14 (v := .ref (ad n19)) (oO_k g18).1 (cc_o11 (oO_k g18).2) rfl (fun w h => .tail _ (iA_23 h)) (by decide) (.tail _ qA_675) rfl (by rw [en19]; rfl) dX11_setVelocity_58 ?_
  clear en19
  refine lv_aload_n hx hb dX11_setVelocity_61 rfl (lv_at hl 0 rfl) ?_
  obtain ⟨g20, h⟩ := oif_some h
  obtain ⟨n21, en21, h⟩ := obind_some h
  have h_n21 : n21 < T.1 := by rw [← cp2.1]; exact cp2.2.2 _ _ _ en21
  refine c_get E G l0 6 (v := .ref (ad n21)) (oO_k g20).1 (cc_o11 (oO_k g20).2) rfl (fun w h => .tail _ (iA_23 h)) (by decide) (.tail _ qA_664) rfl (by rw [en21]; rfl) dX11_setVelocity_62 ?_
  clear en21
  obtain ⟨g22, h⟩ := oif_some h
  obtain ⟨T23, eT23, h⟩ := obind_some h
  have hg2 := s_X5_record eT23
  have hrc2 := hg2.2.2 cp2.2.2
  have hT2 := s_X11_setVelocity_b68 _ _ h
  refine q_avv (As := [.ref (ad n19), .ref (ad n21)]) (rest := []) E G hA hX hN hml (a_X5_record l hst D cI cJ cZ cMic cSrc cSt cAI cAJ ad T15 n17 n19 n21 eT23 cp2.2.2 (by rw [cp2.1]; exact h_n17) (by rw [cp2.1]; exact h_n19) (by rw [cp2.1]; exact h_n21)) (cwV 2 hts (gaV qA_711 qA_712 qA_713 qA_475 qA_463) rfl rfl rfl (by decide +kernel) ⟨Nat.le_of_ble_eq_true rfl, Nat.le_of_ble_eq_true rfl⟩) (oO_k g22).1 (cc_o5 (oO_k g22).2) rfl rfl hl.1 rfl (lv_room (Nat.le_of_ble_eq_true rfl)) dX11_setVelocity_65 (cs_av hgl cp2 hg2 hT2) (fun ad2 H locs hga G => ?_)
  refine w_cast (c2 := T23.1 - T0.1) (s2 := sg T23 - sg T0) (cs_f1 hgl cp2 hg2) (cs_f2 hgl cp2 hg2) ?_
  have hl := lv_sub hl [0] rfl
  rw [show ad l0 = ad2 l0 from (hga l0 (by rw [cp2.1]; exact h_l0)).symm] at hl
  exact a_X11_setVelocity_b68 E hA hX hN hml hst kr75 _ _ _ _ _ _ h (GL.tr (gl_cpr hgl cp2) hg2) hrc2 (fun n hn => (hga n (by rw [cp2.1]; exact Nat.lt_of_lt_of_le hn hgl.1)).trans (had n hn)) (Nat.lt_of_lt_of_le (by rw [cp2.1]; exact h_l0) hg2.1) G hl
set_option maxHeartbeats 4000000 in
set_option maxRecDepth 100000 in
theorem a_X11_setVelocity (l : Launch) (hst : l.stackTraces = false) (D : va_G) (cI cJ cZ cMic cSrc cSt cAI cAJ : ClassId) (ad : Nat → Nat) (T : AT) (o : Nat) (a0 : Int32) (a1 : Int32) (a2 : Int32) {r1 : Int32} {T1 : AT} (h : g_X11_setVelocity T o a0 a1 a2 = some (0, r1, T1)) (hrc : RC T) (h_o : o < T.1) : kAi l yX11_setVelocity (Cond.code yX11_setVelocity cX11_setVelocity 4 (some .int) :: wsA) 8 149 cI cJ cZ cMic cSrc cSt cAI cAJ D ad T [.ref (ad o), .int a0, .int a1, .int a2] r1 T1 := by
  intro sz
  refine Met.ofW (cc := cX11_setVelocity) (maxL := 4) (ret := (some .int)) (by decide) rfl ?_
  intro p e s m args below meth c s₁ B hml hv
  obtain ⟨rfl, hsz, hP, hK, hD0, hX, hN⟩ := hv
  have hx := B.exec
  have hb := B.bytes
  have hr := B.returns
  have hts := atoms_spec (ws := (Cond.code yX11_setVelocity cX11_setVelocity 4 (some .int) :: wsA)) B.pre
  have hown : s.vm.findClass RX11 = some m.cls := findClass_of_methodNamed B.named
  have hlocks := B.notSynchronized
  subst hsz
  have hD := hD0.self (sz := s.heap.size)
  generalize hAe : va_A (cW ad T.1 (cc cI cJ cZ cMic cSrc cSt cAI cAJ ad T)) s.heap.size = A at hD hX ⊢
  have hA : ∀ q : Nat, s.heap.size ≤ q → A q := fun q h => by rw [← hAe]; exact Or.inr h
  have G : gC cI cJ cZ cMic cSrc cSt cAI cAJ D ad A s.heap s.heap [] T := ⟨hP, hD, va_S.rf⟩
  have E : cE p c cX11_setVelocity s m ([.ref (ad o), .int a0, .int a1, .int a2] : List Value).toArray (Cond.code yX11_setVelocity cX11_setVelocity 4 (some .int) :: wsA) D RX11 (CT cI cJ cZ cMic cSrc cSt cAI cAJ) := ⟨hx, hb, hts, hown, hK⟩
  have hl := lv_entry ([.ref (ad o), .int a0, .int a1, .int a2]) (n := 4) (Nat.le_of_ble_eq_true rfl)
  rw [lg_entry_eq]
  generalize (lg_sl ([.ref (ad o), .int a0, .int a1, .int a2]) ++ List.replicate (4 - (lg_sl ([.ref (ad o), .int a0, .int a1, .int a2])).length) Slot.unset).toArray = ls at hl ⊢
  have hl : lv_has ls 4 [(0, .ref (ad o)), (1, .int a0), (2, .int a1), (3, .int a2)] := hl
  have hgl := GL.rf T
  have had : ∀ n, n < T.1 → ad n = ad n := fun _ _ => rfl
  have hT1 := s_X11_setVelocity h
  have hcs := cs_ok hgl hT1
  refine w_cast (Nat.sub_self T.1).symm (Nat.sub_self (sg T)).symm ?_
  have cp0 := cpr0 hrc
  unfold g_X11_setVelocity at h
  refine lv_aload_n hx hb dX11_setVelocity_0 rfl (lv_at hl 0 rfl) ?_
  obtain ⟨g2, h⟩ := oif_some h
  obtain ⟨r5, T3, eT3, h⟩ := othr_n h
  refine q_cvv (As := []) (rest := []) E G hA hX hN hml (u_X11_needCamera l hst D cI cJ cZ cMic cSrc cSt cAI cAJ ad T o eT3) (cwV 0 hts (gaV qA_728 qA_729 qA_730 qA_131 qA_731) rfl rfl rfl (by decide +kernel) ⟨Nat.le_of_ble_eq_true rfl, Nat.le_of_ble_eq_true rfl⟩) (oO_k g2).1 (cc_o11 (oO_k g2).2) rfl rfl hl.1 rfl (lv_room (Nat.le_of_ble_eq_true rfl)) dX11_setVelocity_1 hcs (fun T4 H locs hq G => ?_)
  rw [hq] at G
  clear hq
  have cp1 := cpr_sp cp0 (s_X11_needCamera eT3)
  refine lv_aload_n hx hb dX11_setVelocity_4 rfl (lv_at hl 0 rfl) ?_
  refine lv_iload_n hx hb dX11_setVelocity_5 rfl (lv_at hl 1 rfl) ?_
  obtain ⟨g7, h⟩ := oif_some h
  obtain ⟨r10, T8, eT8, h⟩ := othr_n h
  refine q_cvv (As := [.int a0]) (rest := []) E G hA hX hN hml (u_X11_needSource l hst D cI cJ cZ cMic cSrc cSt cAI cAJ ad T3 o a0 eT8) (cwV 1 hts (gaV qA_766 qA_767 qA_768 qA_131 qA_769) rfl rfl rfl (by decide +kernel) ⟨Nat.le_of_ble_eq_true rfl, Nat.le_of_ble_eq_true rfl⟩) (oO_k g7).1 (cc_o11 (oO_k g7).2) rfl rfl hl.1 rfl (lv_room (Nat.le_of_ble_eq_true rfl)) dX11_setVelocity_6 hcs (fun T9 H locs hq G => ?_)
  rw [hq] at G
  clear hq
  have cp2 := cpr_sp cp1 (s_X11_needSource eT8)
  refine lv_iload_n hx hb dX11_setVelocity_9 rfl (lv_at hl 2 rfl) ?_
  refine lv_sipush (v := (-999)) hx hb dX11_setVelocity_10 (by decide) ?_
  refine lv_sipush (v := 999) hx hb dX11_setVelocity_13 (by decide) ?_
  obtain ⟨r14, T12, eT12, h⟩ := othr_n h
  refine q_csv (As := [.int a1, .int (-999), .int 999]) (rest := []) E G hA hX hN hml (u_X11_needRange l hst D cI cJ cZ cMic cSrc cSt cAI cAJ ad T8 a1 ((-999) : Int32) (999 : Int32) eT12) (cwS 3 hts (gaS qA_741 qA_742 qA_131 qA_743) rfl rfl rfl (by decide +kernel) ⟨Nat.le_of_ble_eq_true rfl, Nat.le_of_ble_eq_true rfl⟩) rfl hl.1 rfl (lv_room (Nat.le_of_ble_eq_true rfl)) dX11_setVelocity_16 hcs (fun T13 H locs hq G => ?_)
  rw [hq] at G
  clear hq
  have cp3 := cpr_sp cp2 (s_X11_needRange eT12)
  refine lv_iload_n hx hb dX11_setVelocity_19 rfl (lv_at hl 3 rfl) ?_
  refine lv_sipush (v := (-999)) hx hb dX11_setVelocity_20 (by decide) ?_
  refine lv_sipush (v := 999) hx hb dX11_setVelocity_23 (by decide) ?_
  obtain ⟨r18, T16, eT16, h⟩ := othr_n h
  refine q_csv (As := [.int a2, .int (-999), .int 999]) (rest := []) E G hA hX hN hml (u_X11_needRange l hst D cI cJ cZ cMic cSrc cSt cAI cAJ ad T12 a2 ((-999) : Int32) (999 : Int32) eT16) (cwS 3 hts (gaS qA_741 qA_742 qA_131 qA_743) rfl rfl rfl (by decide +kernel) ⟨Nat.le_of_ble_eq_true rfl, Nat.le_of_ble_eq_true rfl⟩) rfl hl.1 rfl (lv_room (Nat.le_of_ble_eq_true rfl)) dX11_setVelocity_26 hcs (fun T17 H locs hq G => ?_)
  rw [hq] at G
  clear hq
  have cp4 := cpr_sp cp3 (s_X11_needRange eT16)
  refine lv_aload_n hx hb dX11_setVelocity_29 rfl (lv_at hl 0 rfl) ?_
  obtain ⟨g20, h⟩ := oif_some h
  obtain ⟨T21, eT21, h⟩ := obind_some h
  have hg2 := s_X11_keepForUndo eT21
  have hrc2 := hg2.2.2 cp4.2.2
  have hT2 := s_X11_setVelocity_b33 _ _ _ _ _ h
  refine q_avv (As := []) (rest := []) E G hA hX hN hml (a_X11_keepForUndo l hst D cI cJ cZ cMic cSrc cSt cAI cAJ ad T16 o eT21 cp4.2.2 (by rw [cp4.1]; exact h_o)) (cwV 0 hts (gaV qA_925 qA_926 qA_927 qA_131 qA_928) rfl rfl rfl (by decide +kernel) ⟨Nat.le_of_ble_eq_true rfl, Nat.le_of_ble_eq_true rfl⟩) (oO_k g20).1 (cc_o11 (oO_k g20).2) rfl rfl hl.1 rfl (lv_room (Nat.le_of_ble_eq_true rfl)) dX11_setVelocity_30 (cs_av hgl cp4 hg2 hT2) (fun ad2 H locs hga G => ?_)
  refine w_cast (c2 := T21.1 - T.1) (s2 := sg T21 - sg T) (cs_f1 hgl cp4 hg2) (cs_f2 hgl cp4 hg2) ?_
  have hl := lv_sub hl [0, 1, 2, 3] rfl
  rw [show ad o = ad2 o from (hga o (by rw [cp4.1]; exact h_o)).symm] at hl
  exact a_X11_setVelocity_b33 E hA hX hN hml hst (fun ad H locs ls had G => W.iret (v := r1) hx hb hr (fun t ht hW => ⟨⟨r1, (T1, ad), rfl, ⟨rfl, rfl, had⟩, ⟨by rw [ht]; exact G.1, va_K.moved hW.alike hK, G.2.1⟩⟩, G.2.2.F ht⟩) G.2.2.2.2 dX11_setVelocity_75) _ _ _ _ _ _ _ _ _ h (GL.tr (gl_cpr hgl cp4) hg2) hrc2 (fun n hn => (hga n (by rw [cp4.1]; exact Nat.lt_of_lt_of_le hn hgl.1)).trans (had n hn)) (Nat.lt_of_lt_of_le (by rw [cp4.1]; exact h_o) hg2.1) G hl
set_option maxHeartbeats 4000000 in
set_option maxRecDepth 100000 in
theorem b_X11_setVelocity_b72 {p : Program} {l : Launch} {e : Env} {s : State} {m : MethodId} {args : Array Value} {below : List Frame} {meth : Method} {c : Code} {Qc : Array Value → State → Outcome → State → Prop} {XC : String → State → State → Prop} {D : va_G} {A : Nat → Prop} {cI cJ cZ cMic cSrc cSt cAI cAJ : ClassId} {ad0 : Nat → Nat} {T0 : AT} {e1 : Nat} {r1 : Int32} {T1 : AT} (E : cE p c cX11_setVelocity s m args (Cond.code yX11_setVelocity cX11_setVelocity 4 (some .int) :: wsA) D RX11 (CT cI cJ cZ cMic cSrc cSt cAI cAJ)) (hA : ∀ q : Nat, s.heap.size ≤ q → A q) (hX : xT A s) (hN : nX s) (hml : c.maxLocals = 4) (hst : l.stackTraces = false) (htab : ∀ x ∈ c.exceptionTable.toList, False) (hlocks : meth.locks = false) (kx : ∀ (ad : Nat → Nat) (H : Heap) (locs : List Loc) (t : State), (∀ n, n < T0.1 → ad n = ad0 n) → gC cI cJ cZ cMic cSrc cSt cAI cAJ D ad A s.heap H locs T1 → s.vm.Alike t.vm → H.size ≤ t.heap.size → (∀ q, q < H.size → t.heap[q]? = H[q]?) → XC (exn e1) s t) : ∀ (T : AT) (ad : Nat → Nat) (H : Heap) (locs : List Loc) (ls : Array Slot) (s0 : Nat), g_X11_setVelocity_b72 T s0 = some (e1 + 1, r1, T1) → GL T0 T → RC T → (∀ n, n < T0.1 → ad n = ad0 n) → s0 < T.1 → gC cI cJ cZ cMic cSrc cSt cAI cAJ D ad A s.heap H locs T → lv_has ls 4 [] → W p l e { frames := 8, cells := T1.1 - T0.1 + 1, slots := sg T1 - sg T0 + 6, locals := 149 } s m args below meth c H locs (T.1 - T0.1) (sg T - sg T0) (vx_MQ below Qc XC args s (T1.1 - T0.1 + 1) (sg T1 - sg T0 + 6) A) (F0 m 72 ls [.ref (ad s0)]) := by
  have hx := E.1
  have hb := E.2.1
  have hts := E.2.2.1
  have hown := E.2.2.2.1
  have hK := E.2.2.2.2
  intro T ad H locs ls s0 h hgl hrc had h_s0 G hl
  have hT1 := s_X11_setVelocity_b72 _ _ h
  have hcs := cs_okx hgl hT1
  have hcx := cs_okx1 hgl hT1
  have cp0 := cpr0 hrc
  unfold g_X11_setVelocity_b72 at h
  obtain ⟨g2, h⟩ := oif_some h
  refine c_get E G s0 2 (oO_k g2).1 (cc_o4 (oO_k g2).2) rfl (fun w h => .tail _ (iA_21 h)) (by decide) (.tail _ qA_812) rfl rfl dX11_setVelocity_72 ?_
  refine lv_topi (fun v3 ev3 => ?_)
  have h := elet_at ev3 h
  clear ev3
  exact (Nat.succ_ne_zero _ (congrArg Prod.fst (Option.some.inj h)).symm).elim
set_option maxHeartbeats 4000000 in
set_option maxRecDepth 100000 in
theorem b_X11_setVelocity_b68 {p : Program} {l : Launch} {e : Env} {s : State} {m : MethodId} {args : Array Value} {below : List Frame} {meth : Method} {c : Code} {Qc : Array Value → State → Outcome → State → Prop} {XC : String → State → State → Prop} {D : va_G} {A : Nat → Prop} {cI cJ cZ cMic cSrc cSt cAI cAJ : ClassId} {ad0 : Nat → Nat} {T0 : AT} {e1 : Nat} {r1 : Int32} {T1 : AT} (E : cE p c cX11_setVelocity s m args (Cond.code yX11_setVelocity cX11_setVelocity 4 (some .int) :: wsA) D RX11 (CT cI cJ cZ cMic cSrc cSt cAI cAJ)) (hA : ∀ q : Nat, s.heap.size ≤ q → A q) (hX : xT A s) (hN : nX s) (hml : c.maxLocals = 4) (hst : l.stackTraces = false) (htab : ∀ x ∈ c.exceptionTable.toList, False) (hlocks : meth.locks = false) (kx : ∀ (ad : Nat → Nat) (H : Heap) (locs : List Loc) (t : State), (∀ n, n < T0.1 → ad n = ad0 n) → gC cI cJ cZ cMic cSrc cSt cAI cAJ D ad A s.heap H locs T1 → s.vm.Alike t.vm → H.size ≤ t.heap.size → (∀ q, q < H.size → t.heap[q]? = H[q]?) → XC (exn e1) s t) : ∀ (T : AT) (ad : Nat → Nat) (H : Heap) (locs : List Loc) (ls : Array Slot) (l0 : Nat), g_X11_setVelocity_b68 T l0 = some (e1 + 1, r1, T1) → GL T0 T → RC T → (∀ n, n < T0.1 → ad n = ad0 n) → l0 < T.1 → gC cI cJ cZ cMic cSrc cSt cAI cAJ D ad A s.heap H locs T → lv_has ls 4 [(0, .ref (ad l0))] → W p l e { frames := 8, cells := T1.1 - T0.1 + 1, slots := sg T1 - sg T0 + 6, locals := 149 } s m args below meth c H locs (T.1 - T0.1) (sg T - sg T0) (vx_MQ below Qc XC args s (T1.1 - T0.1 + 1) (sg T1 - sg T0 + 6) A) (F0 m 68 ls []) := by
  have hx := E.1
  have hb := E.2.1
  have hts := E.2.2.1
  have hown := E.2.2.2.1
  have hK := E.2.2.2.2
  intro T ad H locs ls l0 h hgl hrc had h_l0 G hl
  have hT1 := s_X11_setVelocity_b68 _ _ h
  have hcs := cs_okx hgl hT1
  have hcx := cs_okx1 hgl hT1
  have cp0 := cpr0 hrc
  unfold g_X11_setVelocity_b68 at h
  refine lv_aload_n hx hb dX11_setVelocity_68 rfl (lv_at hl 0 rfl) ?_
  obtain ⟨g2, h⟩ := oif_some h
  obtain ⟨r4, T3, eT3, h⟩ := obind2_some h
  obtain ⟨g5, h⟩ := oif_some h
  have hg2 := s_X11_powersNow eT3
  have hrc2 := hg2.2.2 cp0.2.2
  have hT2 := s_X11_setVelocity_b72 _ _ h
  refine q_avr (As := []) (rest := []) E G hA hX hN hml (a_X11_powersNow l hst D cI cJ cZ cMic cSrc cSt cAI cAJ ad T l0 eT3 cp0.2.2 (by rw [cp0.1]; exact h_l0)) (cwV 0 hts (gaV qA_799 qA_800 qA_801 qA_131 qA_802) rfl rfl rfl (by decide +kernel) ⟨Nat.le_of_ble_eq_true rfl, Nat.le_of_ble_eq_true rfl⟩) (oO_k g2).1 (cc_o11 (oO_k g2).2) rfl rfl hl.1 rfl (lv_room (Nat.le_of_ble_eq_true rfl)) dX11_setVelocity_69 (cs_avx hgl cp0 hg2 hT2) (fun ad2 H locs hga G => ?_)
  refine w_cast (c2 := T3.1 - T0.1) (s2 := sg T3 - sg T0) (cs_f1 hgl cp0 hg2) (cs_f2 hgl cp0 hg2) ?_
  have h_new : r4 < T3.1 := Nat.le_of_ble_eq_true g5
  have hl := lv_sub hl [] rfl
  exact b_X11_setVelocity_b72 E hA hX hN hml hst htab hlocks kx _ _ _ _ _ _ h (GL.tr (gl_cpr hgl cp0) hg2) hrc2 (fun n hn => (hga n (by rw [cp0.1]; exact Nat.lt_of_lt_of_le hn hgl.1)).trans (had n hn)) h_new G hl
set_option maxHeartbeats 4000000 in
set_option maxRecDepth 100000 in
theorem b_X11_setVelocity_b33 {p : Program} {l : Launch} {e : Env} {s : State} {m : MethodId} {args : Array Value} {below : List Frame} {meth : Method} {c : Code} {Qc : Array Value → State → Outcome → State → Prop} {XC : String → State → State → Prop} {D : va_G} {A : Nat → Prop} {cI cJ cZ cMic cSrc cSt cAI cAJ : ClassId} {ad0 : Nat → Nat} {T0 : AT} {e1 : Nat} {r1 : Int32} {T1 : AT} (E : cE p c cX11_setVelocity s m args (Cond.code yX11_setVelocity cX11_setVelocity 4 (some .int) :: wsA) D RX11 (CT cI cJ cZ cMic cSrc cSt cAI cAJ)) (hA : ∀ q : Nat, s.heap.size ≤ q → A q) (hX : xT A s) (hN : nX s) (hml : c.maxLocals = 4) (hst : l.stackTraces = false) (htab : ∀ x ∈ c.exceptionTable.toList, False) (hlocks : meth.locks = false) (kx : ∀ (ad : Nat → Nat) (H : Heap) (locs : List Loc) (t : State), (∀ n, n < T0.1 → ad n = ad0 n) → gC cI cJ cZ cMic cSrc cSt cAI cAJ D ad A s.heap H locs T1 → s.vm.Alike t.vm → H.size ≤ t.heap.size → (∀ q, q < H.size → t.heap[q]? = H[q]?) → XC (exn e1) s t) : ∀ (T : AT) (ad : Nat → Nat) (H : Heap) (locs : List Loc) (ls : Array Slot) (l0 : Nat) (l1 : Int32) (l2 : Int32) (l3 : Int32), g_X11_setVelocity_b33 T l0 l1 l2 l3 = some (e1 + 1, r1, T1) → GL T0 T → RC T → (∀ n, n < T0.1 → ad n = ad0 n) → l0 < T.1 → gC cI cJ cZ cMic cSrc cSt cAI cAJ D ad A s.heap H locs T → lv_has ls 4 [(0, .ref (ad l0)), (1, .int l1), (2, .int l2), (3, .int l3)] → W p l e { frames := 8, cells := T1.1 - T0.1 + 1, slots := sg T1 - sg T0 + 6, locals := 149 } s m args below meth c H locs (T.1 - T0.1) (sg T - sg T0) (vx_MQ below Qc XC args s (T1.1 - T0.1 + 1) (sg T1 - sg T0 + 6) A) (F0 m 33 ls []) := by
  have hx := E.1
  have hb := E.2.1
  have hts := E.2.2.1
  have hown := E.2.2.2.1
  have hK := E.2.2.2.2
  intro T ad H locs ls l0 l1 l2 l3 h hgl hrc had h_l0 G hl
  have hT1 := s_X11_setVelocity_b33 _ _ _ _ _ h
  have hcs := cs_okx hgl hT1
  have hcx := cs_okx1 hgl hT1
  have cp0 := cpr0 hrc
  unfold g_X11_setVelocity_b33 at h
  refine lv_aload_n hx hb dX11_setVelocity_33 rfl (lv_at hl 0 rfl) ?_
  obtain ⟨g2, h⟩ := oif_some h
  obtain ⟨n3, en3, h⟩ := obind_some h
  have h_n3 : n3 < T.1 := by rw [← cp0.1]; exact cp0.2.2 _ _ _ en3
  refine c_get E G l0 6 (v := .ref (ad n3)) (oO_k g2).1 (cc_o11 (oO_k g2).2) rfl (fun w h => .tail _ (iA_23 h)) (by decide) (.tail _ qA_664) rfl (by rw [en3]; rfl) dX11_setVelocity_34 ?_
  clear en3
  obtain ⟨g4, h⟩ := oif_some h
  obtain ⟨n5, en5, h⟩ := obind_some h
  have h_n5 : n5 < T.1 := by rw [← cp0.1]; exact cp0.2.2 _ _ _ en5
  refine c_get E G n3 8 (v := .ref (ad n5)) (oO_k g4).1 (cc_o8 (oO_k g4).2) rfl (fun w h => .tail _ (iA_16 h)) (by decide) (.tail _ qA_763) rfl (by rw [en5]; rfl) dX11_setVelocity_37 ?_
  clear en5
  refine lv_iload_n hx hb dX11_setVelocity_40 rfl (lv_at hl 1 rfl) ?_
  refine lv_iload_n hx hb dX11_setVelocity_41 rfl (lv_at hl 2 rfl) ?_
  obtain ⟨g6, h⟩ := oif_some h
  obtain ⟨g7, h⟩ := oif_some h
  refine c_iast E G n5 0 (k := l1.toNatClampNeg) (v := l2) (aA_k g6).1 (cc_a100 (aA_k g6).2.1) rfl (inb_k g7).1 (inb_k g7).2 (aA_k g6).2.2 dX11_setVelocity_42 (fun H locs G => ?_)
  have G := gC_up_i (f := upd (T.2.2.1 n5) l1.toNatClampNeg l2) (ccv_100 (aA_k g6).2.1) G
  obtain ⟨T8, eT8, h⟩ := elet_some h
  have G : gC cI cJ cZ cMic cSrc cSt cAI cAJ D ad A s.heap H locs T8 := by rw [eT8]; exact G
  have cp1 := show CPR T T8 from by rw [eT8]; exact cpr_sp cp0 sp_uI
  clear eT8
  refine lv_aload_n hx hb dX11_setVelocity_43 rfl (lv_at hl 0 rfl) ?_
  obtain ⟨g9, h⟩ := oif_some h
  obtain ⟨n10, en10, h⟩ := obind_some h
  have h_n10 : n10 < T.1 := by rw [← cp1.1]; exact cp1.2.2 _ _ _ en10
  refine c_get E G l0 6 (v := .ref (ad n10)) (oO_k g9).1 (cc_o11 (oO_k g9).2) rfl (fun w h => .tail _ (iA_23 h)) (by decide) (.tail _ qA_664) rfl (by rw [en10]; rfl) dX11_setVelocity_44 ?_
  clear en10
  obtain ⟨g11, h⟩ := oif_some h
  obtain ⟨n12, en12, h⟩ := obind_some h
  have h_n12 : n12 < T.1 := by rw [← cp1.1]; exact cp1.2.2 _ _ _ en12
  refine c_get E G n10 9 (v := .ref (ad n12)) (oO_k g11).1 (cc_o8 (oO_k g11).2) rfl (fun w h => .tail _ (iA_16 h)) (by decide) (.tail _ qA_765) rfl (by rw [en12]; rfl) dX11_setVelocity_47 ?_
  clear en12
  refine lv_iload_n hx hb dX11_setVelocity_50 rfl (lv_at hl 1 rfl) ?_
  refine lv_iload_n hx hb dX11_setVelocity_51 rfl (lv_at hl 3 rfl) ?_
  obtain ⟨g13, h⟩ := oif_some h
  obtain ⟨g14, h⟩ := oif_some h
  refine c_iast E G n12 0 (k := l1.toNatClampNeg) (v := l3) (aA_k g13).1 (cc_a100 (aA_k g13).2.1) rfl (inb_k g14).1 (inb_k g14).2 (aA_k g13).2.2 dX11_setVelocity_52 (fun H locs G => ?_)
  have G := gC_up_i (f := upd (T8.2.2.1 n12) l1.toNatClampNeg l3) (ccv_100 (aA_k g13).2.1) G
  obtain ⟨T15, eT15, h⟩ := elet_some h
  have G : gC cI cJ cZ cMic cSrc cSt cAI cAJ D ad A s.heap H locs T15 := by rw [eT15]; exact G
  have cp2 := show CPR T T15 from by rw [eT15]; exact cpr_sp cp1 sp_uI
  clear eT15
  refine lv_aload_n hx hb dX11_setVelocity_53 rfl (lv_at hl 0 rfl) ?_
  obtain ⟨g16, h⟩ := oif_some h
  obtain ⟨n17, en17, h⟩ := obind_some h
  have h_n17 : n17 < T.1 := by rw [← cp2.1]; exact cp2.2.2 _ _ _ en17
  refine c_get E G l0 2 (v := .ref (ad n17)) (oO_k g16).1 (cc_o11 (oO_k g16).2) rfl (fun w h => .tail _ (iA_23 h)) (by decide) (.tail _ qA_654) rfl (by rw [en17]; rfl) dX11_setVelocity_54 ?_
  clear en17
  refine lv_aload_n hx hb dX11_setVelocity_57 rfl (lv_at hl 0 rfl) ?_
  obtain ⟨g18, h⟩ := oif_some h
  obtain ⟨n19, en19, h⟩ := obind_some h
  have h_n19 : n19 < T.1 := by rw [← cp2.1]; exact cp2.2.2 _ _ _ en19
  refine c_get E G l0 14 (v := .ref (ad n19)) (oO_k g18).1 (cc_o11 (oO_k g18).2) rfl (fun w h => .tail _ (iA_23 h)) (by decide) (.tail _ qA_675) rfl (by rw [en19]; rfl) dX11_setVelocity_58 ?_
  clear en19
  refine lv_aload_n hx hb dX11_setVelocity_61 rfl (lv_at hl 0 rfl) ?_
  obtain ⟨g20, h⟩ := oif_some h
  obtain ⟨n21, en21, h⟩ := obind_some h
  have h_n21 : n21 < T.1 := by rw [← cp2.1]; exact cp2.2.2 _ _ _ en21
  refine c_get E G l0 6 (v := .ref (ad n21)) (oO_k g20).1 (cc_o11 (oO_k g20).2) rfl (fun w h => .tail _ (iA_23 h)) (by decide) (.tail _ qA_664) rfl (by rw [en21]; rfl) dX11_setVelocity_62 ?_
  clear en21
  obtain ⟨g22, h⟩ := oif_some h
  obtain ⟨T23, eT23, h⟩ := obind_some h
  have hg2 := s_X5_record eT23
  have hrc2 := hg2.2.2 cp2.2.2
  have hT2 := s_X11_setVelocity_b68 _ _ h
  refine q_avv (As := [.ref (ad n19), .ref (ad n21)]) (rest := []) E G hA hX hN hml (a_X5_record l hst D cI cJ cZ cMic cSrc cSt cAI cAJ ad T15 n17 n19 n21 eT23 cp2.2.2 (by rw [cp2.1]; exact h_n17) (by rw [cp2.1]; exact h_n19) (by rw [cp2.1]; exact h_n21)) (cwV 2 hts (gaV qA_711 qA_712 qA_713 qA_475 qA_463) rfl rfl rfl (by decide +kernel) ⟨Nat.le_of_ble_eq_true rfl, Nat.le_of_ble_eq_true rfl⟩) (oO_k g22).1 (cc_o5 (oO_k g22).2) rfl rfl hl.1 rfl (lv_room (Nat.le_of_ble_eq_true rfl)) dX11_setVelocity_65 (cs_avx hgl cp2 hg2 hT2) (fun ad2 H locs hga G => ?_)
  refine w_cast (c2 := T23.1 - T0.1) (s2 := sg T23 - sg T0) (cs_f1 hgl cp2 hg2) (cs_f2 hgl cp2 hg2) ?_
  have hl := lv_sub hl [0] rfl
  rw [show ad l0 = ad2 l0 from (hga l0 (by rw [cp2.1]; exact h_l0)).symm] at hl
  exact b_X11_setVelocity_b68 E hA hX hN hml hst htab hlocks kx _ _ _ _ _ _ h (GL.tr (gl_cpr hgl cp2) hg2) hrc2 (fun n hn => (hga n (by rw [cp2.1]; exact Nat.lt_of_lt_of_le hn hgl.1)).trans (had n hn)) (Nat.lt_of_lt_of_le (by rw [cp2.1]; exact h_l0) hg2.1) G hl
set_option maxHeartbeats 4000000 in
set_option maxRecDepth 100000 in
theorem b_X11_setVelocity (l : Launch) (hst : l.stackTraces = false) (D : va_G) (cI cJ cZ cMic cSrc cSt cAI cAJ : ClassId) (ad : Nat → Nat) (T : AT) (o : Nat) (a0 : Int32) (a1 : Int32) (a2 : Int32) {e1 : Nat} {r1 : Int32} {T1 : AT} (h : g_X11_setVelocity T o a0 a1 a2 = some (e1 + 1, r1, T1)) (hrc : RC T) (h_o : o < T.1) : kAXi l yX11_setVelocity (Cond.code yX11_setVelocity cX11_setVelocity 4 (some .int) :: wsA) 8 149 cI cJ cZ cMic cSrc cSt cAI cAJ D ad T [.ref (ad o), .int a0, .int a1, .int a2] e1 T1 := by
  intro sz
  refine vx_ofW (cc := cX11_setVelocity) (maxL := 4) (ret := (some .int)) (by decide) rfl ?_
  intro p e s m args below meth c s₁ B hml htab hv
  obtain ⟨rfl, hsz, hP, hK, hD0, hX, hN⟩ := hv
  have hx := B.exec
  have hb := B.bytes
  have hr := B.returns
  have hts := atoms_spec (ws := (Cond.code yX11_setVelocity cX11_setVelocity 4 (some .int) :: wsA)) B.pre
  have hown : s.vm.findClass RX11 = some m.cls := findClass_of_methodNamed B.named
  have hlocks := B.notSynchronized
  subst hsz
  have hD := hD0.self (sz := s.heap.size)
  generalize hAe : va_A (cW ad T.1 (cc cI cJ cZ cMic cSrc cSt cAI cAJ ad T)) s.heap.size = A at hD hX ⊢
  have hA : ∀ q : Nat, s.heap.size ≤ q → A q := fun q h => by rw [← hAe]; exact Or.inr h
  have G : gC cI cJ cZ cMic cSrc cSt cAI cAJ D ad A s.heap s.heap [] T := ⟨hP, hD, va_S.rf⟩
  have E : cE p c cX11_setVelocity s m ([.ref (ad o), .int a0, .int a1, .int a2] : List Value).toArray (Cond.code yX11_setVelocity cX11_setVelocity 4 (some .int) :: wsA) D RX11 (CT cI cJ cZ cMic cSrc cSt cAI cAJ) := ⟨hx, hb, hts, hown, hK⟩
  have htab : ∀ x ∈ c.exceptionTable.toList, False := fun x hx => htab x hx
  have hl := lv_entry ([.ref (ad o), .int a0, .int a1, .int a2]) (n := 4) (Nat.le_of_ble_eq_true rfl)
  rw [lg_entry_eq]
  generalize (lg_sl ([.ref (ad o), .int a0, .int a1, .int a2]) ++ List.replicate (4 - (lg_sl ([.ref (ad o), .int a0, .int a1, .int a2])).length) Slot.unset).toArray = ls at hl ⊢
  have hl : lv_has ls 4 [(0, .ref (ad o)), (1, .int a0), (2, .int a1), (3, .int a2)] := hl
  have hgl := GL.rf T
  have had : ∀ n, n < T.1 → ad n = ad n := fun _ _ => rfl
  have hT1 := s_X11_setVelocity h
  have hcs := cs_okx hgl hT1
  have hcx := cs_okx1 hgl hT1
  refine w_cast (Nat.sub_self T.1).symm (Nat.sub_self (sg T)).symm ?_
  have cp0 := cpr0 hrc
  unfold g_X11_setVelocity at h
  refine lv_aload_n hx hb dX11_setVelocity_0 rfl (lv_at hl 0 rfl) ?_
  obtain ⟨g2, h⟩ := oif_some h
  rcases othr_t h with ⟨r0, eT3⟩ | ⟨r5, T3, eT3, h⟩
  · refine q_xvv (As := []) (rest := []) E G hA hX hN hml (x_X11_needCamera l hst D cI cJ cZ cMic cSrc cSt cAI cAJ ad T o eT3) (cwV 0 hts (gaV qA_728 qA_729 qA_730 qA_131 qA_731) rfl rfl rfl (by decide +kernel) ⟨Nat.le_of_ble_eq_true rfl, Nat.le_of_ble_eq_true rfl⟩) (oO_k g2).1 (cc_o11 (oO_k g2).2) rfl rfl hl.1 rfl (lv_room (Nat.le_of_ble_eq_true rfl)) dX11_setVelocity_1 hcx (fun E9 ce q9 T9 H locs hp G hce hcv hcl => ?_)
    obtain ⟨hE, hT⟩ := hp
    subst hE
    rw [hT] at G
    exact vx_out (fun x hx => (htab x hx).elim) hlocks hce hcv hcl (fun t ht hvm => ⟨(T1, ad), trivial, ⟨⟨rfl, rfl, had⟩, by rw [ht]; exact G.1, va_K.moved hvm hK, G.2.1⟩, G.2.2.F ht⟩) G.2.2.2.2 hcx.1 hcx.2
  refine q_cvv (As := []) (rest := []) E G hA hX hN hml (u_X11_needCamera l hst D cI cJ cZ cMic cSrc cSt cAI cAJ ad T o eT3) (cwV 0 hts (gaV qA_728 qA_729 qA_730 qA_131 qA_731) rfl rfl rfl (by decide +kernel) ⟨Nat.le_of_ble_eq_true rfl, Nat.le_of_ble_eq_true rfl⟩) (oO_k g2).1 (cc_o11 (oO_k g2).2) rfl rfl hl.1 rfl (lv_room (Nat.le_of_ble_eq_true rfl)) dX11_setVelocity_1 hcs (fun T4 H locs hq G => ?_)
  rw [hq] at G
  clear hq
  have cp1 := cpr_sp cp0 (s_X11_needCamera eT3)
  refine lv_aload_n hx hb dX11_setVelocity_4 rfl (lv_at hl 0 rfl) ?_
  refine lv_iload_n hx hb dX11_setVelocity_5 rfl (lv_at hl 1 rfl) ?_
  obtain ⟨g7, h⟩ := oif_some h
  rcases othr_t h with ⟨r0, eT8⟩ | ⟨r10, T8, eT8, h⟩
  · refine q_xvv (As := [.int a0]) (rest := []) E G hA hX hN hml (x_X11_needSource l hst D cI cJ cZ cMic cSrc cSt cAI cAJ ad T3 o a0 eT8) (cwV 1 hts (gaV qA_766 qA_767 qA_768 qA_131 qA_769) rfl rfl rfl (by decide +kernel) ⟨Nat.le_of_ble_eq_true rfl, Nat.le_of_ble_eq_true rfl⟩) (oO_k g7).1 (cc_o11 (oO_k g7).2) rfl rfl hl.1 rfl (lv_room (Nat.le_of_ble_eq_true rfl)) dX11_setVelocity_6 hcx (fun E9 ce q9 T9 H locs hp G hce hcv hcl => ?_)
    obtain ⟨hE, hT⟩ := hp
    subst hE
    rw [hT] at G
    exact vx_out (fun x hx => (htab x hx).elim) hlocks hce hcv hcl (fun t ht hvm => ⟨(T1, ad), trivial, ⟨⟨rfl, rfl, had⟩, by rw [ht]; exact G.1, va_K.moved hvm hK, G.2.1⟩, G.2.2.F ht⟩) G.2.2.2.2 hcx.1 hcx.2
  refine q_cvv (As := [.int a0]) (rest := []) E G hA hX hN hml (u_X11_needSource l hst D cI cJ cZ cMic cSrc cSt cAI cAJ ad T3 o a0 eT8) (cwV 1 hts (gaV qA_766 qA_767 qA_768 qA_131 qA_769) rfl rfl rfl (by decide +kernel) ⟨Nat.le_of_ble_eq_true rfl, Nat.le_of_ble_eq_true rfl⟩) (oO_k g7).1 (cc_o11 (oO_k g7).2) rfl rfl hl.1 rfl (lv_room (Nat.le_of_ble_eq_true rfl)) dX11_setVelocity_6 hcs (fun T9 H locs hq G => ?_)
  rw [hq] at G
  clear hq
  have cp2 := cpr_sp cp1 (s_X11_needSource eT8)
  refine lv_iload_n hx hb dX11_setVelocity_9 rfl (lv_at hl 2 rfl) ?_
  refine lv_sipush (v := (-999)) hx hb dX11_setVelocity_10 (by decide) ?_
  refine lv_sipush (v := 999) hx hb dX11_setVelocity_13 (by decide) ?_
  rcases othr_t h with ⟨r0, eT12⟩ | ⟨r14, T12, eT12, h⟩
  · refine q_xsv (As := [.int a1, .int (-999), .int 999]) (rest := []) E G hA hX hN hml (x_X11_needRange l hst D cI cJ cZ cMic cSrc cSt cAI cAJ ad T8 a1 ((-999) : Int32) (999 : Int32) eT12) (cwS 3 hts (gaS qA_741 qA_742 qA_131 qA_743) rfl rfl rfl (by decide +kernel) ⟨Nat.le_of_ble_eq_true rfl, Nat.le_of_ble_eq_true rfl⟩) rfl hl.1 rfl (lv_room (Nat.le_of_ble_eq_true rfl)) dX11_setVelocity_16 hcx (fun E9 ce q9 T9 H locs hp G hce hcv hcl => ?_)
    obtain ⟨hE, hT⟩ := hp
    subst hE
    rw [hT] at G
    exact vx_out (fun x hx => (htab x hx).elim) hlocks hce hcv hcl (fun t ht hvm => ⟨(T1, ad), trivial, ⟨⟨rfl, rfl, had⟩, by rw [ht]; exact G.1, va_K.moved hvm hK, G.2.1⟩, G.2.2.F ht⟩) G.2.2.2.2 hcx.1 hcx.2
  refine q_csv (As := [.int a1, .int (-999), .int 999]) (rest := []) E G hA hX hN hml (u_X11_needRange l hst D cI cJ cZ cMic cSrc cSt cAI cAJ ad T8 a1 ((-999) : Int32) (999 : Int32) eT12) (cwS 3 hts (gaS qA_741 qA_742 qA_131 qA_743) rfl rfl rfl (by decide +kernel) ⟨Nat.le_of_ble_eq_true rfl, Nat.le_of_ble_eq_true rfl⟩) rfl hl.1 rfl (lv_room (Nat.le_of_ble_eq_true rfl)) dX11_setVelocity_16 hcs (fun T13 H locs hq G => ?_)
  rw [hq] at G
  clear hq
  have cp3 := cpr_sp cp2 (s_X11_needRange eT12)
  refine lv_iload_n hx hb dX11_setVelocity_19 rfl (lv_at hl 3 rfl) ?_
  refine lv_sipush (v := (-999)) hx hb dX11_setVelocity_20 (by decide) ?_
  refine lv_sipush (v := 999) hx hb dX11_setVelocity_23 (by decide) ?_
  rcases othr_t h with ⟨r0, eT16⟩ | ⟨r18, T16, eT16, h⟩
  · refine q_xsv (As := [.int a2, .int (-999), .int 999]) (rest := []) E G hA hX hN hml (x_X11_needRange l hst D cI cJ cZ cMic cSrc cSt cAI cAJ ad T12 a2 ((-999) : Int32) (999 : Int32) eT16) (cwS 3 hts (gaS qA_741 qA_742 qA_131 qA_743) rfl rfl rfl (by decide +kernel) ⟨Nat.le_of_ble_eq_true rfl, Nat.le_of_ble_eq_true rfl⟩) rfl hl.1 rfl (lv_room (Nat.le_of_ble_eq_true rfl)) dX11_setVelocity_26 hcx (fun E9 ce q9 T9 H locs hp G hce hcv hcl => ?_)
    obtain ⟨hE, hT⟩ := hp
    subst hE
    rw [hT] at G
    exact vx_out (fun x hx => (htab x hx).elim) hlocks hce hcv hcl (fun t ht hvm => ⟨(T1, ad), trivial, ⟨⟨rfl, rfl, had⟩, by rw [ht]; exact G.1, va_K.moved hvm hK, G.2.1⟩, G.2.2.F ht⟩) G.2.2.2.2 hcx.1 hcx.2
  refine q_csv (As := [.int a2, .int (-999), .int 999]) (rest := []) E G hA hX hN hml (u_X11_needRange l hst D cI cJ cZ cMic cSrc cSt cAI cAJ ad T12 a2 ((-999) : Int32) (999 : Int32) eT16) (cwS 3 hts (gaS qA_741 qA_742 qA_131 qA_743) rfl rfl rfl (by decide +kernel) ⟨Nat.le_of_ble_eq_true rfl, Nat.le_of_ble_eq_true rfl⟩) rfl hl.1 rfl (lv_room (Nat.le_of_ble_eq_true rfl)) dX11_setVelocity_26 hcs (fun T17 H locs hq G => ?_)
  rw [hq] at G
  clear hq
  have cp4 := cpr_sp cp3 (s_X11_needRange eT16)
  refine lv_aload_n hx hb dX11_setVelocity_29 rfl (lv_at hl 0 rfl) ?_
  obtain ⟨g20, h⟩ := oif_some h
  obtain ⟨T21, eT21, h⟩ := obind_some h
  have hg2 := s_X11_keepForUndo eT21
  have hrc2 := hg2.2.2 cp4.2.2
  have hT2 := s_X11_setVelocity_b33 _ _ _ _ _ h
  refine q_avv (As := []) (rest := []) E G hA hX hN hml (a_X11_keepForUndo l hst D cI cJ cZ cMic cSrc cSt cAI cAJ ad T16 o eT21 cp4.2.2 (by rw [cp4.1]; exact h_o)) (cwV 0 hts (gaV qA_925 qA_926 qA_927 qA_131 qA_928) rfl rfl rfl (by decide +kernel) ⟨Nat.le_of_ble_eq_true rfl, Nat.le_of_ble_eq_true rfl⟩) (oO_k g20).1 (cc_o11 (oO_k g20).2) rfl rfl hl.1 rfl (lv_room (Nat.le_of_ble_eq_true rfl)) dX11_setVelocity_30 (cs_avx hgl cp4 hg2 hT2) (fun ad2 H locs hga G => ?_)
  refine w_cast (c2 := T21.1 - T.1) (s2 := sg T21 - sg T) (cs_f1 hgl cp4 hg2) (cs_f2 hgl cp4 hg2) ?_
  have hl := lv_sub hl [0, 1, 2, 3] rfl
  rw [show ad o = ad2 o from (hga o (by rw [cp4.1]; exact h_o)).symm] at hl
  exact b_X11_setVelocity_b33 E hA hX hN hml hst htab hlocks (fun ad H locs t had G hvm h1 h2 => ⟨(T1, ad), trivial, ⟨⟨rfl, rfl, had⟩, (c_thrown G hK hvm h1 h2).1⟩, (c_thrown G hK hvm h1 h2).2⟩) _ _ _ _ _ _ _ _ _ h (GL.tr (gl_cpr hgl cp4) hg2) hrc2 (fun n hn => (hga n (by rw [cp4.1]; exact Nat.lt_of_lt_of_le hn hgl.1)).trans (had n hn)) (Nat.lt_of_lt_of_le (by rw [cp4.1]; exact h_o) hg2.1) G hl
def g_X11_clean_b58  (T : AT) (l2 : Int32) : Option (Nat × Int32 × AT) := some (0, l2, T)
def g_X11_clean_b41  (T : AT) (l0 : Nat) (l1 : Int32) (l2 : Int32) : Option (Nat × Int32 × AT) := oif (oO T l0 11 = true) <| obind (T.2.2.2.2 l0 6) fun n3 => oif (oO T l0 11 = true) <| obind (T.2.2.2.2 l0 14) fun n5 => oif (oO T n5 6 = true) <| obind (T.2.2.2.2 n5 17) fun n7 => oif (aA T n7 106 = true) <| oif (inb l2 (T.2.1 n7).2 = true) <| obind (T.2.2.2.2 n7 l2.toNatClampNeg) fun n10 => oif (oO T n3 8 = true) <| obind (g_X8_subtractBeam T n3 n10 l1) fun T12 => g_X11_clean_b58 T12 l2
def g_X11_clean_b33  (T : AT) (s0 : Nat) (l0 : Nat) (l1 : Int32) : Option (Nat × Int32 × AT) := oif (oO T s0 4 = true) <| elet (T.2.2.1 s0 2) fun v3 => oif (oO T l0 11 = true) <| obind (g_X11_keepForUndo T l0) fun T5 => g_X11_clean_b41 T5 l0 l1 v3
def g_X11_clean (T : AT) (o : Nat) (a0 : Int32) : Option (Nat × Int32 × AT) := oif (oO T o 11 = true) <| othr (g_X11_needCamera T o) 0 fun r5 T3 => oif (oO T3 o 11 = true) <| obind (T3.2.2.2.2 o 6) fun n8 => oif (oO T3 n8 8 = true) <| obind2 (g_X8_activeWeight T3 n8) fun r12 T10 => if r12 = 0 then (some (1, 0, T10)) else (othr (g_X11_needRange T10 a0 (1 : Int32) (100 : Int32)) 0 fun r17 T15 => oif (oO T15 o 11 = true) <| obind2 (g_X11_powersNow T15 o) fun r21 T20 => oif (Nat.blt r21 T20.1 = true) <| g_X11_clean_b33 T20 r21 o a0)
set_option maxHeartbeats 4000000 in
set_option maxRecDepth 100000 in
theorem s_X11_clean_b58 {e1 : Nat} {r1 : Int32} {T1 : AT} : ∀ (T : AT) (l2 : Int32), g_X11_clean_b58 T l2 = some (e1, r1, T1) → GL T T1 := by
  intro T l2 h
  have p0 := GL.rf T
  unfold g_X11_clean_b58 at h
  rw [← (osome3 h).2.2]
  exact p0
set_option maxHeartbeats 4000000 in
set_option maxRecDepth 100000 in
theorem s_X11_clean_b41 {e1 : Nat} {r1 : Int32} {T1 : AT} : ∀ (T : AT) (l0 : Nat) (l1 : Int32) (l2 : Int32), g_X11_clean_b41 T l0 l1 l2 = some (e1, r1, T1) → GL T T1 := by
  intro T l0 l1 l2 h
  have p0 := GL.rf T
  unfold g_X11_clean_b41 at h
  obtain ⟨g2, h⟩ := oif_some h
  obtain ⟨n3, en3, h⟩ := obind_some h
  obtain ⟨g4, h⟩ := oif_some h
  obtain ⟨n5, en5, h⟩ := obind_some h
  obtain ⟨g6, h⟩ := oif_some h
  obtain ⟨n7, en7, h⟩ := obind_some h
  obtain ⟨g8, h⟩ := oif_some h
  obtain ⟨g9, h⟩ := oif_some h
  obtain ⟨n10, en10, h⟩ := obind_some h
  obtain ⟨g11, h⟩ := oif_some h
  obtain ⟨T12, eT12, h⟩ := obind_some h
  have p1 : GL T T12 := GL.tr p0 (s_X8_subtractBeam eT12)
  exact GL.tr p1 (s_X11_clean_b58 _ _ h)
set_option maxHeartbeats 4000000 in
set_option maxRecDepth 100000 in
theorem s_X11_clean_b33 {e1 : Nat} {r1 : Int32} {T1 : AT} : ∀ (T : AT) (s0 : Nat) (l0 : Nat) (l1 : Int32), g_X11_clean_b33 T s0 l0 l1 = some (e1, r1, T1) → GL T T1 := by
  intro T s0 l0 l1 h
  have p0 := GL.rf T
  unfold g_X11_clean_b33 at h
  obtain ⟨g2, h⟩ := oif_some h
  obtain ⟨v3, -, h⟩ := elet_some h
  obtain ⟨g4, h⟩ := oif_some h
  obtain ⟨T5, eT5, h⟩ := obind_some h
  have p1 : GL T T5 := GL.tr p0 (s_X11_keepForUndo eT5)
  exact GL.tr p1 (s_X11_clean_b41 _ _ _ _ h)
set_option maxHeartbeats 4000000 in
set_option maxRecDepth 100000 in
theorem s_X11_clean {T : AT} {o : Nat} {a0 : Int32} {e1 : Nat} {r1 : Int32} {T1 : AT} (h : g_X11_clean T o a0 = some (e1, r1, T1)) : GL T T1 := by
  have p0 := GL.rf T
  unfold g_X11_clean at h
  obtain ⟨g2, h⟩ := oif_some h
  rcases othr_s h with ⟨k9, r9, e9, -⟩ | ⟨r4, T3, eT3, h⟩
  · exact GL.tr p0 (gl_sp (s_X11_needCamera e9))
  have p1 : GL T T3 := GL.tr p0 (gl_sp (s_X11_needCamera eT3))
  obtain ⟨g5, h⟩ := oif_some h
  obtain ⟨n6, en6, h⟩ := obind_some h
  obtain ⟨g7, h⟩ := oif_some h
  obtain ⟨r9, T8, eT8, h⟩ := obind2_some h
  have p2 : GL T T8 := GL.tr p1 (gl_sp (s_X8_activeWeight eT8))
  rcases oif_or h with ⟨c10, h⟩ | ⟨c10, h⟩
  · have h := h
    rw [← (osome3 h).2.2]
    exact p2
  · have h := h
    rcases othr_s h with ⟨k9, r9, e9, -⟩ | ⟨r12, T11, eT11, h⟩
    · exact GL.tr p2 (gl_sp (s_X11_needRange e9))
    have p3 : GL T T11 := GL.tr p2 (gl_sp (s_X11_needRange eT11))
    obtain ⟨g13, h⟩ := oif_some h
    obtain ⟨r15, T14, eT14, h⟩ := obind2_some h
    obtain ⟨g16, h⟩ := oif_some h
    have p4 : GL T T14 := GL.tr p3 (s_X11_powersNow eT14)
    exact GL.tr p4 (s_X11_clean_b33 _ _ _ _ h)
set_option maxHeartbeats 4000000 in
set_option maxRecDepth 100000 in
theorem a_X11_clean_b58 {p : Program} {l : Launch} {e : Env} {s : State} {m : MethodId} {args : Array Value} {below : List Frame} {meth : Method} {c : Code} {Q : State → Prop} {D : va_G} {A : Nat → Prop} {cI cJ cZ cMic cSrc cSt cAI cAJ : ClassId} {ad0 : Nat → Nat} {T0 : AT} {r1 : Int32} {T1 : AT} (E : cE p c cX11_clean s m args (Cond.code yX11_clean cX11_clean 3 (some .int) :: wsA) D RX11 (CT cI cJ cZ cMic cSrc cSt cAI cAJ)) (hA : ∀ q : Nat, s.heap.size ≤ q → A q) (hX : xT A s) (hN : nX s) (hml : c.maxLocals = 3) (hst : l.stackTraces = false) (kr59 : ∀ (ad : Nat → Nat) (H : Heap) (locs : List Loc) (ls : Array Slot), (∀ n, n < T0.1 → ad n = ad0 n) → gC cI cJ cZ cMic cSrc cSt cAI cAJ D ad A s.heap H locs T1 → W p l e { frames := 7, cells := T1.1 - T0.1, slots := sg T1 - sg T0, locals := 149 } s m args below meth c H locs (T1.1 - T0.1) (sg T1 - sg T0) Q (F0 m 59 ls [.int r1])) : ∀ (T : AT) (ad : Nat → Nat) (H : Heap) (locs : List Loc) (ls : Array Slot) (l2 : Int32), g_X11_clean_b58 T l2 = some (0, r1, T1) → GL T0 T → RC T → (∀ n, n < T0.1 → ad n = ad0 n) → gC cI cJ cZ cMic cSrc cSt cAI cAJ D ad A s.heap H locs T → lv_has ls 3 [(2, .int l2)] → W p l e { frames := 7, cells := T1.1 - T0.1, slots := sg T1 - sg T0, locals := 149 } s m args below meth c H locs (T.1 - T0.1) (sg T - sg T0) Q (F0 m 58 ls []) := by
  have hx := E.1
  have hb := E.2.1
  have hts := E.2.2.1
  have hown := E.2.2.2.1
  have hK := E.2.2.2.2
  intro T ad H locs ls l2 h hgl hrc had G hl
  have hT1 := s_X11_clean_b58 _ _ h
  have hcs := cs_ok hgl hT1
  have cp0 := cpr0 hrc
  unfold g_X11_clean_b58 at h
  refine lv_iload_n hx hb dX11_clean_58 rfl (lv_at hl 0 rfl) ?_
  rw [(osome3 h).2.2] at G
  refine w_cast (c2 := T1.1 - T0.1) (s2 := sg T1 - sg T0) (by rw [← (osome3 h).2.2, cp0.1] <;> rfl) (by rw [← (osome3 h).2.2, sg_cpr cp0] <;> rfl) ?_
  refine lv_to ((osome3 h).2.1) ?_
  exact kr59 ad _ _ _ had G
set_option maxHeartbeats 4000000 in
set_option maxRecDepth 100000 in
theorem a_X11_clean_b41 {p : Program} {l : Launch} {e : Env} {s : State} {m : MethodId} {args : Array Value} {below : List Frame} {meth : Method} {c : Code} {Q : State → Prop} {D : va_G} {A : Nat → Prop} {cI cJ cZ cMic cSrc cSt cAI cAJ : ClassId} {ad0 : Nat → Nat} {T0 : AT} {r1 : Int32} {T1 : AT} (E : cE p c cX11_clean s m args (Cond.code yX11_clean cX11_clean 3 (some .int) :: wsA) D RX11 (CT cI cJ cZ cMic cSrc cSt cAI cAJ)) (hA : ∀ q : Nat, s.heap.size ≤ q → A q) (hX : xT A s) (hN : nX s) (hml : c.maxLocals = 3) (hst : l.stackTraces = false) (kr59 : ∀ (ad : Nat → Nat) (H : Heap) (locs : List Loc) (ls : Array Slot), (∀ n, n < T0.1 → ad n = ad0 n) → gC cI cJ cZ cMic cSrc cSt cAI cAJ D ad A s.heap H locs T1 → W p l e { frames := 7, cells := T1.1 - T0.1, slots := sg T1 - sg T0, locals := 149 } s m args below meth c H locs (T1.1 - T0.1) (sg T1 - sg T0) Q (F0 m 59 ls [.int r1])) : ∀ (T : AT) (ad : Nat → Nat) (H : Heap) (locs : List Loc) (ls : Array Slot) (l0 : Nat) (l1 : Int32) (l2 : Int32), g_X11_clean_b41 T l0 l1 l2 = some (0, r1, T1) → GL T0 T → RC T → (∀ n, n < T0.1 → ad n = ad0 n) → l0 < T.1 → gC cI cJ cZ cMic cSrc cSt cAI cAJ D ad A s.heap H locs T → lv_has ls 3 [(0, .ref (ad l0)), (1, .int l1), (2, .int l2)] → W p l e { frames := 7, cells := T1.1 - T0.1, slots := sg T1 - sg T0, locals := 149 } s m args below meth c H locs (T.1 - T0.1) (sg T - sg T0) Q (F0 m 41 ls []) := by
  have hx := E.1
  have hb := E.2.1
  have hts := E.2.2.1
  have hown := E.2.2.2.1
  have hK := E.2.2.2.2
  intro T ad H locs ls l0 l1 l2 h hgl hrc had h_l0 G hl
  have hT1 := s_X11_clean_b41 _ _ _ _ h
  have hcs := cs_ok hgl hT1
  have cp0 := cpr0 hrc
  unfold g_X11_clean_b41 at h
  refine lv_aload_n hx hb dX11_clean_41 rfl (lv_at hl 0 rfl) ?_
  obtain ⟨g2, h⟩ := oif_some h
  obtain ⟨n3, en3, h⟩ := obind_some h
  have h_n3 : n3 < T.1 := by rw [← cp0.1]; exact cp0.2.2 _ _ _ en3
  refine c_get E G l0 6 (v := .ref (ad n3)) (oO_k g2).1 (cc_o11 (oO_k g2).2) rfl (fun w h => .tail _ (iA_23 h)) (by decide) (.tail _ qA_664) rfl (by rw [en3]; rfl) dX11_clean_42 ?_
  clear en3
  refine lv_aload_n hx hb dX11_clean_45 rfl (lv_at hl 0 rfl) ?_
  obtain ⟨g4, h⟩ := oif_some h
  obtain ⟨n5, en5, h⟩ := obind_some h
  have h_n5 : n5 < T.1 := by rw [← cp0.1]; exact cp0.2.2 _ _ _ en5
  refine c_get E G l0 14 (v := .ref (ad n5)) (oO_k g4).1 (cc_o11 (oO_k g4).2) rfl (fun w h => .tail _ (iA_23 h)) (by decide) (.tail _ qA_675) rfl (by rw [en5]; rfl) dX11_clean_46 ?_
  clear en5
  obtain ⟨g6, h⟩ := oif_some h
  obtain ⟨n7, en7, h⟩ := obind_some h
  have h_n7 : n7 < T.1 := by rw [← cp0.1]; exact cp0.2.2 _ _ _ en7
  refine c_get E G n5 17 (v := .ref (ad n7)) (oO_k g6).1 (cc_o6 (oO_k g6).2) rfl (fun w h => .tail _ (iA_14 h)) (by decide) (.tail _ qA_778) rfl (by rw [en7]; rfl) dX11_clean_49 ?_
  clear en7
  refine lv_iload_n hx hb dX11_clean_52 rfl (lv_at hl 2 rfl) ?_
  obtain ⟨g8, h⟩ := oif_some h
  obtain ⟨g9, h⟩ := oif_some h
  obtain ⟨n10, en10, h⟩ := obind_some h
  have h_n10 : n10 < T.1 := by rw [← cp0.1]; exact cp0.2.2 _ _ _ en10
  refine c_alda E G n7 6 (k := l2.toNatClampNeg) (v := .ref (ad n10)) (aA_k g8).1 (cc_a106 (aA_k g8).2.1) rfl (inb_k g9).1 (inb_k g9).2 (aA_k g8).2.2 (by show va_rf ((T.2.2.2.2 n7 l2.toNatClampNeg).map ad) = _; rw [en10]; rfl) dX11_clean_53 ?_
  clear en10
  refine lv_iload_n hx hb dX11_clean_54 rfl (lv_at hl 1 rfl) ?_
  obtain ⟨g11, h⟩ := oif_some h
  obtain ⟨T12, eT12, h⟩ := obind_some h
  have hg2 := s_X8_subtractBeam eT12
  have hrc2 := hg2.2.2 cp0.2.2
  have hT2 := s_X11_clean_b58 _ _ h
  refine q_avv (As := [.ref (ad n10), .int l1]) (rest := []) E G hA hX hN hml (a_X8_subtractBeam l hst D cI cJ cZ cMic cSrc cSt cAI cAJ ad T n3 n10 l1 eT12 cp0.2.2 (by rw [cp0.1]; exact h_n3) (by rw [cp0.1]; exact h_n10)) (cwV 2 hts (gaV qA_936 qA_937 qA_938 qA_47 qA_620) rfl rfl rfl (by decide +kernel) ⟨Nat.le_of_ble_eq_true rfl, Nat.le_of_ble_eq_true rfl⟩) (oO_k g11).1 (cc_o8 (oO_k g11).2) rfl rfl hl.1 rfl (lv_room (Nat.le_of_ble_eq_true rfl)) dX11_clean_55 (cs_av hgl cp0 hg2 hT2) (fun ad2 H locs hga G => ?_)
  refine w_cast (c2 := T12.1 - T0.1) (s2 := sg T12 - sg T0) (cs_f1 hgl cp0 hg2) (cs_f2 hgl cp0 hg2) ?_
  have hl := lv_sub hl [2] rfl
  exact a_X11_clean_b58 E hA hX hN hml hst kr59 _ _ _ _ _ _ h (GL.tr (gl_cpr hgl cp0) hg2) hrc2 (fun n hn => (hga n (by rw [cp0.1]; exact Nat.lt_of_lt_of_le hn hgl.1)).trans (had n hn)) G hl
set_option maxHeartbeats 4000000 in
set_option maxRecDepth 100000 in
theorem a_X11_clean_b33 {p : Program} {l : Launch} {e : Env} {s : State} {m : MethodId} {args : Array Value} {below : List Frame} {meth : Method} {c : Code} {Q : State → Prop} {D : va_G} {A : Nat → Prop} {cI cJ cZ cMic cSrc cSt cAI cAJ : ClassId} {ad0 : Nat → Nat} {T0 : AT} {r1 : Int32} {T1 : AT} (E : cE p c cX11_clean s m args (Cond.code yX11_clean cX11_clean 3 (some .int) :: wsA) D RX11 (CT cI cJ cZ cMic cSrc cSt cAI cAJ)) (hA : ∀ q : Nat, s.heap.size ≤ q → A q) (hX : xT A s) (hN : nX s) (hml : c.maxLocals = 3) (hst : l.stackTraces = false) (kr59 : ∀ (ad : Nat → Nat) (H : Heap) (locs : List Loc) (ls : Array Slot), (∀ n, n < T0.1 → ad n = ad0 n) → gC cI cJ cZ cMic cSrc cSt cAI cAJ D ad A s.heap H locs T1 → W p l e { frames := 7, cells := T1.1 - T0.1, slots := sg T1 - sg T0, locals := 149 } s m args below meth c H locs (T1.1 - T0.1) (sg T1 - sg T0) Q (F0 m 59 ls [.int r1])) : ∀ (T : AT) (ad : Nat → Nat) (H : Heap) (locs : List Loc) (ls : Array Slot) (s0 : Nat) (l0 : Nat) (l1 : Int32), g_X11_clean_b33 T s0 l0 l1 = some (0, r1, T1) → GL T0 T → RC T → (∀ n, n < T0.1 → ad n = ad0 n) → s0 < T.1 → l0 < T.1 → gC cI cJ cZ cMic cSrc cSt cAI cAJ D ad A s.heap H locs T → lv_has ls 3 [(0, .ref (ad l0)), (1, .int l1)] → W p l e { frames := 7, cells := T1.1 - T0.1, slots := sg T1 - sg T0, locals := 149 } s m args below meth c H locs (T.1 - T0.1) (sg T - sg T0) Q (F0 m 33 ls [.ref (ad s0)]) := by
  have hx := E.1
  have hb := E.2.1
  have hts := E.2.2.1
  have hown := E.2.2.2.1
  have hK := E.2.2.2.2
  intro T ad H locs ls s0 l0 l1 h hgl hrc had h_s0 h_l0 G hl
  have hT1 := s_X11_clean_b33 _ _ _ _ h
  have hcs := cs_ok hgl hT1
  have cp0 := cpr0 hrc
  unfold g_X11_clean_b33 at h
  obtain ⟨g2, h⟩ := oif_some h
  refine c_get E G s0 2 (oO_k g2).1 (cc_o4 (oO_k g2).2) rfl (fun w h => .tail _ (iA_21 h)) (by decide) (.tail _ qA_812) rfl rfl dX11_clean_33 ?_
  refine lv_topi (fun v3 ev3 => ?_)
  have h := elet_at ev3 h
  clear ev3
  refine lv_istore_n (lv' := [(2, .int v3), (0, .ref (ad l0)), (1, .int l1)]) hx hb dX11_clean_36 rfl hl (by decide) rfl (fun ls hl => ?_)
  refine lv_aload_n hx hb dX11_clean_37 rfl (lv_at hl 1 rfl) ?_
  obtain ⟨g4, h⟩ := oif_some h
  obtain ⟨T5, eT5, h⟩ := obind_some h
  have hg2 := s_X11_keepForUndo eT5
  have hrc2 := hg2.2.2 cp0.2.2
  have hT2 := s_X11_clean_b41 _ _ _ _ h
  refine q_avv (As := []) (rest := []) E G hA hX hN hml (a_X11_keepForUndo l hst D cI cJ cZ cMic cSrc cSt cAI cAJ ad T l0 eT5 cp0.2.2 (by rw [cp0.1]; exact h_l0)) (cwV 0 hts (gaV qA_925 qA_926 qA_927 qA_131 qA_928) rfl rfl rfl (by decide +kernel) ⟨Nat.le_of_ble_eq_true rfl, Nat.le_of_ble_eq_true rfl⟩) (oO_k g4).1 (cc_o11 (oO_k g4).2) rfl rfl hl.1 rfl (lv_room (Nat.le_of_ble_eq_true rfl)) dX11_clean_38 (cs_av hgl cp0 hg2 hT2) (fun ad2 H locs hga G => ?_)
  refine w_cast (c2 := T5.1 - T0.1) (s2 := sg T5 - sg T0) (cs_f1 hgl cp0 hg2) (cs_f2 hgl cp0 hg2) ?_
  have hl := lv_sub hl [1, 2, 0] rfl
  rw [show ad l0 = ad2 l0 from (hga l0 (by rw [cp0.1]; exact h_l0)).symm] at hl
  exact a_X11_clean_b41 E hA hX hN hml hst kr59 _ _ _ _ _ _ _ _ h (GL.tr (gl_cpr hgl cp0) hg2) hrc2 (fun n hn => (hga n (by rw [cp0.1]; exact Nat.lt_of_lt_of_le hn hgl.1)).trans (had n hn)) (Nat.lt_of_lt_of_le (by rw [cp0.1]; exact h_l0) hg2.1) G hl
set_option maxHeartbeats 4000000 in
set_option maxRecDepth 100000 in
theorem a_X11_clean (l : Launch) (hst : l.stackTraces = false) (D : va_G) (cI cJ cZ cMic cSrc cSt cAI cAJ : ClassId) (ad : Nat → Nat) (T : AT) (o : Nat) (a0 : Int32) {r1 : Int32} {T1 : AT} (h : g_X11_clean T o a0 = some (0, r1, T1)) (hrc : RC T) (h_o : o < T.1) : kAi l yX11_clean (Cond.code yX11_clean cX11_clean 3 (some .int) :: wsA) 7 149 cI cJ cZ cMic cSrc cSt cAI cAJ D ad T [.ref (ad o), .int a0] r1 T1 := by
  intro sz
  refine Met.ofW (cc := cX11_clean) (maxL := 3) (ret := (some .int)) (by decide) rfl ?_
  intro p e s m args below meth c s₁ B hml hv
  obtain ⟨rfl, hsz, hP, hK, hD0, hX, hN⟩ := hv
  have hx := B.exec
  have hb := B.bytes
  have hr := B.returns
  have hts := atoms_spec (ws := (Cond.code yX11_clean cX11_clean 3 (some .int) :: wsA)) B.pre
  have hown : s.vm.findClass RX11 = some m.cls := findClass_of_methodNamed B.named
  have hlocks := B.notSynchronized
  subst hsz
  have hD := hD0.self (sz := s.heap.size)
  generalize hAe : va_A (cW ad T.1 (cc cI cJ cZ cMic cSrc cSt cAI cAJ ad T)) s.heap.size = A at hD hX ⊢
  have hA : ∀ q : Nat, s.heap.size ≤ q → A q := fun q h => by rw [← hAe]; exact Or.inr h
  have G : gC cI cJ cZ cMic cSrc cSt cAI cAJ D ad A s.heap s.heap [] T := ⟨hP, hD, va_S.rf⟩
  have E : cE p c cX11_clean s m ([.ref (ad o), .int a0] : List Value).toArray (Cond.code yX11_clean cX11_clean 3 (some .int) :: wsA) D RX11 (CT cI cJ cZ cMic cSrc cSt cAI cAJ) := ⟨hx, hb, hts, hown, hK⟩
  have hl := lv_entry ([.ref (ad o), .int a0]) (n := 3) (Nat.le_of_ble_eq_true rfl)
  rw [lg_entry_eq]
  generalize (lg_sl ([.ref (ad o), .int a0]) ++ List.replicate (3 - (lg_sl ([.ref (ad o), .int a0])).length) Slot.unset).toArray = ls at hl ⊢
  have hl : lv_has ls 3 [(0, .ref (ad o)), (1, .int a0)] := hl
  have hgl := GL.rf T
  have had : ∀ n, n < T.1 → ad n = ad n := fun _ _ => rfl
  have hT1 := s_X11_clean h
  have hcs := cs_ok hgl hT1
  refine w_cast (Nat.sub_self T.1).symm (Nat.sub_self (sg T)).symm ?_
  have cp0 := cpr0 hrc
  unfold g_X11_clean at h
  refine lv_aload_n hx hb dX11_clean_0 rfl (lv_at hl 0 rfl) ?_
  obtain ⟨g2, h⟩ := oif_some h
  obtain ⟨r5, T3, eT3, h⟩ := othr_n h
  refine q_cvv (As := []) (rest := []) E G hA hX hN hml (u_X11_needCamera l hst D cI cJ cZ cMic cSrc cSt cAI cAJ ad T o eT3) (cwV 0 hts (gaV qA_728 qA_729 qA_730 qA_131 qA_731) rfl rfl rfl (by decide +kernel) ⟨Nat.le_of_ble_eq_true rfl, Nat.le_of_ble_eq_true rfl⟩) (oO_k g2).1 (cc_o11 (oO_k g2).2) rfl rfl hl.1 rfl (lv_room (Nat.le_of_ble_eq_true rfl)) dX11_clean_1 hcs (fun T4 H locs hq G => ?_)
  rw [hq] at G
  clear hq
  have cp1 := cpr_sp cp0 (s_X11_needCamera eT3)
  refine lv_aload_n hx hb dX11_clean_4 rfl (lv_at hl 0 rfl) ?_
  obtain ⟨g7, h⟩ := oif_some h
  obtain ⟨n8, en8, h⟩ := obind_some h
  have h_n8 : n8 < T.1 := by rw [← cp1.1]; exact cp1.2.2 _ _ _ en8
  refine c_get E G o 6 (v := .ref (ad n8)) (oO_k g7).1 (cc_o11 (oO_k g7).2) rfl (fun w h => .tail _ (iA_23 h)) (by decide) (.tail _ qA_664) rfl (by rw [en8]; rfl) dX11_clean_5 ?_
  clear en8
  obtain ⟨g9, h⟩ := oif_some h
  obtain ⟨r12, T10, eT10, h⟩ := obind2_some h
  refine q_cvi (As := []) (rest := []) E G hA hX hN hml (u_X8_activeWeight l hst D cI cJ cZ cMic cSrc cSt cAI cAJ ad T3 n8 eT10) (cwV 0 hts (gaV qA_935 qA_622 qA_623 qA_47 qA_615) rfl rfl rfl (by decide +kernel) ⟨Nat.le_of_ble_eq_true rfl, Nat.le_of_ble_eq_true rfl⟩) (oO_k g9).1 (cc_o8 (oO_k g9).2) rfl rfl hl.1 rfl (lv_room (Nat.le_of_ble_eq_true rfl)) dX11_clean_8 hcs (fun q13 T11 H locs hq G => ?_)
  obtain ⟨hq1, hq2⟩ := hq
  rw [hq2] at G
  refine lv_to hq1 ?_
  clear hq1 hq2
  have cp2 := cpr_sp cp1 (s_X8_activeWeight eT10)
  refine lv_if_ne (tgt := 22) hx hb dX11_clean_11 (by decide) (fun c14 => ?_) (fun c14 => ?_)
  · have h := oif_neg c14 h
    refine lv_iload_n hx hb dX11_clean_22 rfl (lv_at hl 1 rfl) ?_
    refine lv_iconst (v := 1) hx hb dX11_clean_23 (by decide) ?_
    refine lv_bipush (v := 100) hx hb dX11_clean_24 (by decide) ?_
    obtain ⟨r17, T15, eT15, h⟩ := othr_n h
    refine q_csv (As := [.int a0, .int 1, .int 100]) (rest := []) E G hA hX hN hml (u_X11_needRange l hst D cI cJ cZ cMic cSrc cSt cAI cAJ ad T10 a0 (1 : Int32) (100 : Int32) eT15) (cwS 3 hts (gaS qA_741 qA_742 qA_131 qA_743) rfl rfl rfl (by decide +kernel) ⟨Nat.le_of_ble_eq_true rfl, Nat.le_of_ble_eq_true rfl⟩) rfl hl.1 rfl (lv_room (Nat.le_of_ble_eq_true rfl)) dX11_clean_26 hcs (fun T16 H locs hq G => ?_)
    rw [hq] at G
    clear hq
    have cp3 := cpr_sp cp2 (s_X11_needRange eT15)
    refine lv_aload_n hx hb dX11_clean_29 rfl (lv_at hl 0 rfl) ?_
    obtain ⟨g19, h⟩ := oif_some h
    obtain ⟨r21, T20, eT20, h⟩ := obind2_some h
    obtain ⟨g22, h⟩ := oif_some h
    have hg2 := s_X11_powersNow eT20
    have hrc2 := hg2.2.2 cp3.2.2
    have hT2 := s_X11_clean_b33 _ _ _ _ h
    refine q_avr (As := []) (rest := []) E G hA hX hN hml (a_X11_powersNow l hst D cI cJ cZ cMic cSrc cSt cAI cAJ ad T15 o eT20 cp3.2.2 (by rw [cp3.1]; exact h_o)) (cwV 0 hts (gaV qA_799 qA_800 qA_801 qA_131 qA_802) rfl rfl rfl (by decide +kernel) ⟨Nat.le_of_ble_eq_true rfl, Nat.le_of_ble_eq_true rfl⟩) (oO_k g19).1 (cc_o11 (oO_k g19).2) rfl rfl hl.1 rfl (lv_room (Nat.le_of_ble_eq_true rfl)) dX11_clean_30 (cs_av hgl cp3 hg2 hT2) (fun ad2 H locs hga G => ?_)
    refine w_cast (c2 := T20.1 - T.1) (s2 := sg T20 - sg T) (cs_f1 hgl cp3 hg2) (cs_f2 hgl cp3 hg2) ?_
    have h_new : r21 < T20.1 := Nat.le_of_ble_eq_true g22
    have hl := lv_sub hl [0, 1] rfl
    rw [show ad o = ad2 o from (hga o (by rw [cp3.1]; exact h_o)).symm] at hl
    exact a_X11_clean_b33 E hA hX hN hml hst (fun ad H locs ls had G => W.iret (v := r1) hx hb hr (fun t ht hW => ⟨⟨r1, (T1, ad), rfl, ⟨rfl, rfl, had⟩, ⟨by rw [ht]; exact G.1, va_K.moved hW.alike hK, G.2.1⟩⟩, G.2.2.F ht⟩) G.2.2.2.2 dX11_clean_59) _ _ _ _ _ _ _ _ h (GL.tr (gl_cpr hgl cp3) hg2) hrc2 (fun n hn => (hga n (by rw [cp3.1]; exact Nat.lt_of_lt_of_le hn hgl.1)).trans (had n hn)) h_new (Nat.lt_of_lt_of_le (by rw [cp3.1]; exact h_o) hg2.1) G hl
  · have h := oif_pos c14 h
    exact absurd (osome3 h).1 (by decide)
set_option maxHeartbeats 4000000 in
set_option maxRecDepth 100000 in
theorem b_X11_clean_b58 {p : Program} {l : Launch} {e : Env} {s : State} {m : MethodId} {args : Array Value} {below : List Frame} {meth : Method} {c : Code} {Qc : Array Value → State → Outcome → State → Prop} {XC : String → State → State → Prop} {D : va_G} {A : Nat → Prop} {cI cJ cZ cMic cSrc cSt cAI cAJ : ClassId} {ad0 : Nat → Nat} {T0 : AT} {e1 : Nat} {r1 : Int32} {T1 : AT} (E : cE p c cX11_clean s m args (Cond.code yX11_clean cX11_clean 3 (some .int) :: wsA) D RX11 (CT cI cJ cZ cMic cSrc cSt cAI cAJ)) (hA : ∀ q : Nat, s.heap.size ≤ q → A q) (hX : xT A s) (hN : nX s) (hml : c.maxLocals = 3) (hst : l.stackTraces = false) (htab : ∀ x ∈ c.exceptionTable.toList, False) (hlocks : meth.locks = false) (kx : ∀ (ad : Nat → Nat) (H : Heap) (locs : List Loc) (t : State), (∀ n, n < T0.1 → ad n = ad0 n) → gC cI cJ cZ cMic cSrc cSt cAI cAJ D ad A s.heap H locs T1 → s.vm.Alike t.vm → H.size ≤ t.heap.size → (∀ q, q < H.size → t.heap[q]? = H[q]?) → XC (exn e1) s t) : ∀ (T : AT) (ad : Nat → Nat) (H : Heap) (locs : List Loc) (ls : Array Slot) (l2 : Int32), g_X11_clean_b58 T l2 = some (e1 + 1, r1, T1) → GL T0 T → RC T → (∀ n, n < T0.1 → ad n = ad0 n) → gC cI cJ cZ cMic cSrc cSt cAI cAJ D ad A s.heap H locs T → lv_has ls 3 [(2, .int l2)] → W p l e { frames := 7, cells := T1.1 - T0.1 + 1, slots := sg T1 - sg T0 + 6, locals := 149 } s m args below meth c H locs (T.1 - T0.1) (sg T - sg T0) (vx_MQ below Qc XC args s (T1.1 - T0.1 + 1) (sg T1 - sg T0 + 6) A) (F0 m 58 ls []) := by
  have hx := E.1
  have hb := E.2.1
  have hts := E.2.2.1
  have hown := E.2.2.2.1
  have hK := E.2.2.2.2
  intro T ad H locs ls l2 h hgl hrc had G hl
  have hT1 := s_X11_clean_b58 _ _ h
  have hcs := cs_okx hgl hT1
  have hcx := cs_okx1 hgl hT1
  have cp0 := cpr0 hrc
  unfold g_X11_clean_b58 at h
  refine lv_iload_n hx hb dX11_clean_58 rfl (lv_at hl 0 rfl) ?_
  exact (Nat.succ_ne_zero _ (congrArg Prod.fst (Option.some.inj h)).symm).elim
set_option maxHeartbeats 4000000 in
set_option maxRecDepth 100000 in
theorem b_X11_clean_b41 {p : Program} {l : Launch} {e : Env} {s : State} {m : MethodId} {args : Array Value} {below : List Frame} {meth : Method} {c : Code} {Qc : Array Value → State → Outcome → State → Prop} {XC : String → State → State → Prop} {D : va_G} {A : Nat → Prop} {cI cJ cZ cMic cSrc cSt cAI cAJ : ClassId} {ad0 : Nat → Nat} {T0 : AT} {e1 : Nat} {r1 : Int32} {T1 : AT} (E : cE p c cX11_clean s m args (Cond.code yX11_clean cX11_clean 3 (some .int) :: wsA) D RX11 (CT cI cJ cZ cMic cSrc cSt cAI cAJ)) (hA : ∀ q : Nat, s.heap.size ≤ q → A q) (hX : xT A s) (hN : nX s) (hml : c.maxLocals = 3) (hst : l.stackTraces = false) (htab : ∀ x ∈ c.exceptionTable.toList, False) (hlocks : meth.locks = false) (kx : ∀ (ad : Nat → Nat) (H : Heap) (locs : List Loc) (t : State), (∀ n, n < T0.1 → ad n = ad0 n) → gC cI cJ cZ cMic cSrc cSt cAI cAJ D ad A s.heap H locs T1 → s.vm.Alike t.vm → H.size ≤ t.heap.size → (∀ q, q < H.size → t.heap[q]? = H[q]?) → XC (exn e1) s t) : ∀ (T : AT) (ad : Nat → Nat) (H : Heap) (locs : List Loc) (ls : Array Slot) (l0 : Nat) (l1 : Int32) (l2 : Int32), g_X11_clean_b41 T l0 l1 l2 = some (e1 + 1, r1, T1) → GL T0 T → RC T → (∀ n, n < T0.1 → ad n = ad0 n) → l0 < T.1 → gC cI cJ cZ cMic cSrc cSt cAI cAJ D ad A s.heap H locs T → lv_has ls 3 [(0, .ref (ad l0)), (1, .int l1), (2, .int l2)] → W p l e { frames := 7, cells := T1.1 - T0.1 + 1, slots := sg T1 - sg T0 + 6, locals := 149 } s m args below meth c H locs (T.1 - T0.1) (sg T - sg T0) (vx_MQ below Qc XC args s (T1.1 - T0.1 + 1) (sg T1 - sg T0 + 6) A) (F0 m 41 ls []) := by
  have hx := E.1
  have hb := E.2.1
  have hts := E.2.2.1
  have hown := E.2.2.2.1
  have hK := E.2.2.2.2
  intro T ad H locs ls l0 l1 l2 h hgl hrc had h_l0 G hl
  have hT1 := s_X11_clean_b41 _ _ _ _ h
  have hcs := cs_okx hgl hT1
  have hcx := cs_okx1 hgl hT1
  have cp0 := cpr0 hrc
  unfold g_X11_clean_b41 at h
  refine lv_aload_n hx hb dX11_clean_41 rfl (lv_at hl 0 rfl) ?_
  obtain ⟨g2, h⟩ := oif_some h
  obtain ⟨n3, en3, h⟩ := obind_some h
  have h_n3 : n3 < T.1 := by rw [← cp0.1]; exact cp0.2.2 _ _ _ en3
  refine c_get E G l0 6 (v := .ref (ad n3)) (oO_k g2).1 (cc_o11 (oO_k g2).2) rfl (fun w h => .tail _ (iA_23 h)) (by decide) (.tail _ qA_664) rfl (by rw [en3]; rfl) dX11_clean_42 ?_
  clear en3
  refine lv_aload_n hx hb dX11_clean_45 rfl (lv_at hl 0 rfl) ?_
  obtain ⟨g4, h⟩ := oif_some h
  obtain ⟨n5, en5, h⟩ := obind_some h
  have h_n5 : n5 < T.1 := by rw [← cp0.1]; exact cp0.2.2 _ _ _ en5
  refine c_get E G l0 14 (v := .ref (ad n5)) (oO_k g4).1 (cc_o11 (oO_k g4).2) rfl (fun w h => .tail _ (iA_23 h)) (by decide) (.tail _ qA_675) rfl (by rw [en5]; rfl) dX11_clean_46 ?_
  clear en5
  obtain ⟨g6, h⟩ := oif_some h
  obtain ⟨n7, en7, h⟩ := obind_some h
  have h_n7 : n7 < T.1 := by rw [← cp0.1]; exact cp0.2.2 _ _ _ en7
  refine c_get E G n5 17 (v := .ref (ad n7)) (oO_k g6).1 (cc_o6 (oO_k g6).2) rfl (fun w h => .tail _ (iA_14 h)) (by decide) (.tail _ qA_778) rfl (by rw [en7]; rfl) dX11_clean_49 ?_
  clear en7
  refine lv_iload_n hx hb dX11_clean_52 rfl (lv_at hl 2 rfl) ?_
  obtain ⟨g8, h⟩ := oif_some h
  obtain ⟨g9, h⟩ := oif_some h
  obtain ⟨n10, en10, h⟩ := obind_some h
  have h_n10 : n10 < T.1 := by rw [← cp0.1]; exact cp0.2.2 _ _ _ en10
  refine c_alda E G n7 6 (k := l2.toNatClampNeg) (v := .ref (ad n10)) (aA_k g8).1 (cc_a106 (aA_k g8).2.1) rfl (inb_k g9).1 (inb_k g9).2 (aA_k g8).2.2 (by show va_rf ((T.2.2.2.2 n7 l2.toNatClampNeg).map ad) = _; rw [en10]; rfl) dX11_clean_53 ?_
  clear en10
  refine lv_iload_n hx hb dX11_clean_54 rfl (lv_at hl 1 rfl) ?_
  obtain ⟨g11, h⟩ := oif_some h
  obtain ⟨T12, eT12, h⟩ := obind_some h
  have hg2 := s_X8_subtractBeam eT12
  have hrc2 := hg2.2.2 cp0.2.2
  have hT2 := s_X11_clean_b58 _ _ h
  refine q_avv (As := [.ref (ad n10), .int l1]) (rest := []) E G hA hX hN hml (a_X8_subtractBeam l hst D cI cJ cZ cMic cSrc cSt cAI cAJ ad T n3 n10 l1 eT12 cp0.2.2 (by rw [cp0.1]; exact h_n3) (by rw [cp0.1]; exact h_n10)) (cwV 2 hts (gaV qA_936 qA_937 qA_938 qA_47 qA_620) rfl rfl rfl (by decide +kernel) ⟨Nat.le_of_ble_eq_true rfl, Nat.le_of_ble_eq_true rfl⟩) (oO_k g11).1 (cc_o8 (oO_k g11).2) rfl rfl hl.1 rfl (lv_room (Nat.le_of_ble_eq_true rfl)) dX11_clean_55 (cs_avx hgl cp0 hg2 hT2) (fun ad2 H locs hga G => ?_)
  refine w_cast (c2 := T12.1 - T0.1) (s2 := sg T12 - sg T0) (cs_f1 hgl cp0 hg2) (cs_f2 hgl cp0 hg2) ?_
  have hl := lv_sub hl [2] rfl
  exact b_X11_clean_b58 E hA hX hN hml hst htab hlocks kx _ _ _ _ _ _ h (GL.tr (gl_cpr hgl cp0) hg2) hrc2 (fun n hn => (hga n (by rw [cp0.1]; exact Nat.lt_of_lt_of_le hn hgl.1)).trans (had n hn)) G hl
set_option maxHeartbeats 4000000 in
set_option maxRecDepth 100000 in
theorem b_X11_clean_b33 {p : Program} {l : Launch} {e : Env} {s : State} {m : MethodId} {args : Array Value} {below : List Frame} {meth : Method} {c : Code} {Qc : Array Value → State → Outcome → State → Prop} {XC : String → State → State → Prop} {D : va_G} {A : Nat → Prop} {cI cJ cZ cMic cSrc cSt cAI cAJ : ClassId} {ad0 : Nat → Nat} {T0 : AT} {e1 : Nat} {r1 : Int32} {T1 : AT} (E : cE p c cX11_clean s m args (Cond.code yX11_clean cX11_clean 3 (some .int) :: wsA) D RX11 (CT cI cJ cZ cMic cSrc cSt cAI cAJ)) (hA : ∀ q : Nat, s.heap.size ≤ q → A q) (hX : xT A s) (hN : nX s) (hml : c.maxLocals = 3) (hst : l.stackTraces = false) (htab : ∀ x ∈ c.exceptionTable.toList, False) (hlocks : meth.locks = false) (kx : ∀ (ad : Nat → Nat) (H : Heap) (locs : List Loc) (t : State), (∀ n, n < T0.1 → ad n = ad0 n) → gC cI cJ cZ cMic cSrc cSt cAI cAJ D ad A s.heap H locs T1 → s.vm.Alike t.vm → H.size ≤ t.heap.size → (∀ q, q < H.size → t.heap[q]? = H[q]?) → XC (exn e1) s t) : ∀ (T : AT) (ad : Nat → Nat) (H : Heap) (locs : List Loc) (ls : Array Slot) (s0 : Nat) (l0 : Nat) (l1 : Int32), g_X11_clean_b33 T s0 l0 l1 = some (e1 + 1, r1, T1) → GL T0 T → RC T → (∀ n, n < T0.1 → ad n = ad0 n) → s0 < T.1 → l0 < T.1 → gC cI cJ cZ cMic cSrc cSt cAI cAJ D ad A s.heap H locs T → lv_has ls 3 [(0, .ref (ad l0)), (1, .int l1)] → W p l e { frames := 7, cells := T1.1 - T0.1 + 1, slots := sg T1 - sg T0 + 6, locals := 149 } s m args below meth c H locs (T.1 - T0.1) (sg T - sg T0) (vx_MQ below Qc XC args s (T1.1 - T0.1 + 1) (sg T1 - sg T0 + 6) A) (F0 m 33 ls [.ref (ad s0)]) := by
  have hx := E.1
  have hb := E.2.1
  have hts := E.2.2.1
  have hown := E.2.2.2.1
  have hK := E.2.2.2.2
  intro T ad H locs ls s0 l0 l1 h hgl hrc had h_s0 h_l0 G hl
  have hT1 := s_X11_clean_b33 _ _ _ _ h
  have hcs := cs_okx hgl hT1
  have hcx := cs_okx1 hgl hT1
  have cp0 := cpr0 hrc
  unfold g_X11_clean_b33 at h
  obtain ⟨g2, h⟩ := oif_some h
  refine c_get E G s0 2 (oO_k g2).1 (cc_o4 (oO_k g2).2) rfl (fun w h => .tail _ (iA_21 h)) (by decide) (.tail _ qA_812) rfl rfl dX11_clean_33 ?_
  refine lv_topi (fun v3 ev3 => ?_)
  have h := elet_at ev3 h
  clear ev3
  refine lv_istore_n (lv' := [(2, .int v3), (0, .ref (ad l0)), (1, .int l1)]) hx hb dX11_clean_36 rfl hl (by decide) rfl (fun ls hl => ?_)
  refine lv_aload_n hx hb dX11_clean_37 rfl (lv_at hl 1 rfl) ?_
  obtain ⟨g4, h⟩ := oif_some h
  obtain ⟨T5, eT5, h⟩ := obind_some h
  have hg2 := s_X11_keepForUndo eT5
  have hrc2 := hg2.2.2 cp0.2.2
  have hT2 := s_X11_clean_b41 _ _ _ _ h
  refine q_avv (As := []) (rest := []) E G hA hX hN hml (a_X11_keepForUndo l hst D cI cJ cZ cMic cSrc cSt cAI cAJ ad T l0 eT5 cp0.2.2 (by rw [cp0.1]; exact h_l0)) (cwV 0 hts (gaV qA_925 qA_926 qA_927 qA_131 qA_928) rfl rfl rfl (by decide +kernel) ⟨Nat.le_of_ble_eq_true rfl, Nat.le_of_ble_eq_true rfl⟩) (oO_k g4).1 (cc_o11 (oO_k g4).2) rfl rfl hl.1 rfl (lv_room (Nat.le_of_ble_eq_true rfl)) dX11_clean_38 (cs_avx hgl cp0 hg2 hT2) (fun ad2 H locs hga G => ?_)
  refine w_cast (c2 := T5.1 - T0.1) (s2 := sg T5 - sg T0) (cs_f1 hgl cp0 hg2) (cs_f2 hgl cp0 hg2) ?_
  have hl := lv_sub hl [1, 2, 0] rfl
  rw [show ad l0 = ad2 l0 from (hga l0 (by rw [cp0.1]; exact h_l0)).symm] at hl
  exact b_X11_clean_b41 E hA hX hN hml hst htab hlocks kx _ _ _ _ _ _ _ _ h (GL.tr (gl_cpr hgl cp0) hg2) hrc2 (fun n hn => (hga n (by rw [cp0.1]; exact Nat.lt_of_lt_of_le hn hgl.1)).trans (had n hn)) (Nat.lt_of_lt_of_le (by rw [cp0.1]; exact h_l0) hg2.1) G hl
set_option maxHeartbeats 4000000 in
set_option maxRecDepth 100000 in
theorem b_X11_clean (l : Launch) (hst : l.stackTraces = false) (D : va_G) (cI cJ cZ cMic cSrc cSt cAI cAJ : ClassId) (ad : Nat → Nat) (T : AT) (o : Nat) (a0 : Int32) {e1 : Nat} {r1 : Int32} {T1 : AT} (h : g_X11_clean T o a0 = some (e1 + 1, r1, T1)) (hrc : RC T) (h_o : o < T.1) : kAXi l yX11_clean (Cond.code yX11_clean cX11_clean 3 (some .int) :: wsA) 7 149 cI cJ cZ cMic cSrc cSt cAI cAJ D ad T [.ref (ad o), .int a0] e1 T1 := by
  intro sz
  refine vx_ofW (cc := cX11_clean) (maxL := 3) (ret := (some .int)) (by decide) rfl ?_
  intro p e s m args below meth c s₁ B hml htab hv
  obtain ⟨rfl, hsz, hP, hK, hD0, hX, hN⟩ := hv
  have hx := B.exec
  have hb := B.bytes
  have hr := B.returns
  have hts := atoms_spec (ws := (Cond.code yX11_clean cX11_clean 3 (some .int) :: wsA)) B.pre
  have hown : s.vm.findClass RX11 = some m.cls := findClass_of_methodNamed B.named
  have hlocks := B.notSynchronized
  subst hsz
  have hD := hD0.self (sz := s.heap.size)
  generalize hAe : va_A (cW ad T.1 (cc cI cJ cZ cMic cSrc cSt cAI cAJ ad T)) s.heap.size = A at hD hX ⊢
  have hA : ∀ q : Nat, s.heap.size ≤ q → A q := fun q h => by rw [← hAe]; exact Or.inr h
  have G : gC cI cJ cZ cMic cSrc cSt cAI cAJ D ad A s.heap s.heap [] T := ⟨hP, hD, va_S.rf⟩
  have E : cE p c cX11_clean s m ([.ref (ad o), .int a0] : List Value).toArray (Cond.code yX11_clean cX11_clean 3 (some .int) :: wsA) D RX11 (CT cI cJ cZ cMic cSrc cSt cAI cAJ) := ⟨hx, hb, hts, hown, hK⟩
  have htab : ∀ x ∈ c.exceptionTable.toList, False := fun x hx => htab x hx
  have hl := lv_entry ([.ref (ad o), .int a0]) (n := 3) (Nat.le_of_ble_eq_true rfl)
  rw [lg_entry_eq]
  generalize (lg_sl ([.ref (ad o), .int a0]) ++ List.replicate (3 - (lg_sl ([.ref (ad o), .int a0])).length) Slot.unset).toArray = ls at hl ⊢
  have hl : lv_has ls 3 [(0, .ref (ad o)), (1, .int a0)] := hl
  have hgl := GL.rf T
  have had : ∀ n, n < T.1 → ad n = ad n := fun _ _ => rfl
  have hT1 := s_X11_clean h
  have hcs := cs_okx hgl hT1
  have hcx := cs_okx1 hgl hT1
  refine w_cast (Nat.sub_self T.1).symm (Nat.sub_self (sg T)).symm ?_
  have cp0 := cpr0 hrc
  unfold g_X11_clean at h
  refine lv_aload_n hx hb dX11_clean_0 rfl (lv_at hl 0 rfl) ?_
  obtain ⟨g2, h⟩ := oif_some h
  rcases othr_t h with ⟨r0, eT3⟩ | ⟨r5, T3, eT3, h⟩
  · refine q_xvv (As := []) (rest := []) E G hA hX hN hml (x_X11_needCamera l hst D cI cJ cZ cMic cSrc cSt cAI cAJ ad T o eT3) (cwV 0 hts (gaV qA_728 qA_729 qA_730 qA_131 qA_731) rfl rfl rfl (by decide +kernel) ⟨Nat.le_of_ble_eq_true rfl, Nat.le_of_ble_eq_true rfl⟩) (oO_k g2).1 (cc_o11 (oO_k g2).2) rfl rfl hl.1 rfl (lv_room (Nat.le_of_ble_eq_true rfl)) dX11_clean_1 hcx (fun E9 ce q9 T9 H locs hp G hce hcv hcl => ?_)
    obtain ⟨hE, hT⟩ := hp
    subst hE
    rw [hT] at G
    exact vx_out (fun x hx => (htab x hx).elim) hlocks hce hcv hcl (fun t ht hvm => ⟨(T1, ad), trivial, ⟨⟨rfl, rfl, had⟩, by rw [ht]; exact G.1, va_K.moved hvm hK, G.2.1⟩, G.2.2.F ht⟩) G.2.2.2.2 hcx.1 hcx.2
  refine q_cvv (As := []) (rest := []) E G hA hX hN hml (u_X11_needCamera l hst D cI cJ cZ cMic cSrc cSt cAI cAJ ad T o eT3) (cwV 0 hts (gaV qA_728 qA_729 qA_730 qA_131 qA_731) rfl rfl rfl (by decide +kernel) ⟨Nat.le_of_ble_eq_true rfl, Nat.le_of_ble_eq_true rfl⟩) (oO_k g2).1 (cc_o11 (oO_k g2).2) rfl rfl hl.1 rfl (lv_room (Nat.le_of_ble_eq_true rfl)) dX11_clean_1 hcs (fun T4 H locs hq G => ?_)
  rw [hq] at G
  clear hq
  have cp1 := cpr_sp cp0 (s_X11_needCamera eT3)
  refine lv_aload_n hx hb dX11_clean_4 rfl (lv_at hl 0 rfl) ?_
  obtain ⟨g7, h⟩ := oif_some h
  obtain ⟨n8, en8, h⟩ := obind_some h
  have h_n8 : n8 < T.1 := by rw [← cp1.1]; exact cp1.2.2 _ _ _ en8
  refine c_get E G o 6 (v := .ref (ad n8)) (oO_k g7).1 (cc_o11 (oO_k g7).2) rfl (fun w h => .tail _ (iA_23 h)) (by decide) (.tail _ qA_664) rfl (by rw [en8]; rfl) dX11_clean_5 ?_
  clear en8
  obtain ⟨g9, h⟩ := oif_some h
  obtain ⟨r12, T10, eT10, h⟩ := obind2_some h
  refine q_cvi (As := []) (rest := []) E G hA hX hN hml (u_X8_activeWeight l hst D cI cJ cZ cMic cSrc cSt cAI cAJ ad T3 n8 eT10) (cwV 0 hts (gaV qA_935 qA_622 qA_623 qA_47 qA_615) rfl rfl rfl (by decide +kernel) ⟨Nat.le_of_ble_eq_true rfl, Nat.le_of_ble_eq_true rfl⟩) (oO_k g9).1 (cc_o8 (oO_k g9).2) rfl rfl hl.1 rfl (lv_room (Nat.le_of_ble_eq_true rfl)) dX11_clean_8 hcs (fun q13 T11 H locs hq G => ?_)
  obtain ⟨hq1, hq2⟩ := hq
  rw [hq2] at G
  refine lv_to hq1 ?_
  clear hq1 hq2
  have cp2 := cpr_sp cp1 (s_X8_activeWeight eT10)
  refine lv_if_ne (tgt := 22) hx hb dX11_clean_11 (by decide) (fun c14 => ?_) (fun c14 => ?_)
  · have h := oif_neg c14 h
    refine lv_iload_n hx hb dX11_clean_22 rfl (lv_at hl 1 rfl) ?_
    refine lv_iconst (v := 1) hx hb dX11_clean_23 (by decide) ?_
    refine lv_bipush (v := 100) hx hb dX11_clean_24 (by decide) ?_
    rcases othr_t h with ⟨r0, eT15⟩ | ⟨r17, T15, eT15, h⟩
    · refine q_xsv (As := [.int a0, .int 1, .int 100]) (rest := []) E G hA hX hN hml (x_X11_needRange l hst D cI cJ cZ cMic cSrc cSt cAI cAJ ad T10 a0 (1 : Int32) (100 : Int32) eT15) (cwS 3 hts (gaS qA_741 qA_742 qA_131 qA_743) rfl rfl rfl (by decide +kernel) ⟨Nat.le_of_ble_eq_true rfl, Nat.le_of_ble_eq_true rfl⟩) rfl hl.1 rfl (lv_room (Nat.le_of_ble_eq_true rfl)) dX11_clean_26 hcx (fun E9 ce q9 T9 H locs hp G hce hcv hcl => ?_)
      obtain ⟨hE, hT⟩ := hp
      subst hE
      rw [hT] at G
      exact vx_out (fun x hx => (htab x hx).elim) hlocks hce hcv hcl (fun t ht hvm => ⟨(T1, ad), trivial, ⟨⟨rfl, rfl, had⟩, by rw [ht]; exact G.1, va_K.moved hvm hK, G.2.1⟩, G.2.2.F ht⟩) G.2.2.2.2 hcx.1 hcx.2
    refine q_csv (As := [.int a0, .int 1, .int 100]) (rest := []) E G hA hX hN hml (u_X11_needRange l hst D cI cJ cZ cMic cSrc cSt cAI cAJ ad T10 a0 (1 : Int32) (100 : Int32) eT15) (cwS 3 hts (gaS qA_741 qA_742 qA_131 qA_743) rfl rfl rfl (by decide +kernel) ⟨Nat.le_of_ble_eq_true rfl, Nat.le_of_ble_eq_true rfl⟩) rfl hl.1 rfl (lv_room (Nat.le_of_ble_eq_true rfl)) dX11_clean_26 hcs (fun T16 H locs hq G => ?_)
    rw [hq] at G
    clear hq
    have cp3 := cpr_sp cp2 (s_X11_needRange eT15)
    refine lv_aload_n hx hb dX11_clean_29 rfl (lv_at hl 0 rfl) ?_
    obtain ⟨g19, h⟩ := oif_some h
    obtain ⟨r21, T20, eT20, h⟩ := obind2_some h
    obtain ⟨g22, h⟩ := oif_some h
    have hg2 := s_X11_powersNow eT20
    have hrc2 := hg2.2.2 cp3.2.2
    have hT2 := s_X11_clean_b33 _ _ _ _ h
    refine q_avr (As := []) (rest := []) E G hA hX hN hml (a_X11_powersNow l hst D cI cJ cZ cMic cSrc cSt cAI cAJ ad T15 o eT20 cp3.2.2 (by rw [cp3.1]; exact h_o)) (cwV 0 hts (gaV qA_799 qA_800 qA_801 qA_131 qA_802) rfl rfl rfl (by decide +kernel) ⟨Nat.le_of_ble_eq_true rfl, Nat.le_of_ble_eq_true rfl⟩) (oO_k g19).1 (cc_o11 (oO_k g19).2) rfl rfl hl.1 rfl (lv_room (Nat.le_of_ble_eq_true rfl)) dX11_clean_30 (cs_avx hgl cp3 hg2 hT2) (fun ad2 H locs hga G => ?_)
    refine w_cast (c2 := T20.1 - T.1) (s2 := sg T20 - sg T) (cs_f1 hgl cp3 hg2) (cs_f2 hgl cp3 hg2) ?_
    have h_new : r21 < T20.1 := Nat.le_of_ble_eq_true g22
    have hl := lv_sub hl [0, 1] rfl
    rw [show ad o = ad2 o from (hga o (by rw [cp3.1]; exact h_o)).symm] at hl
    exact b_X11_clean_b33 E hA hX hN hml hst htab hlocks (fun ad H locs t had G hvm h1 h2 => ⟨(T1, ad), trivial, ⟨⟨rfl, rfl, had⟩, (c_thrown G hK hvm h1 h2).1⟩, (c_thrown G hK hvm h1 h2).2⟩) _ _ _ _ _ _ _ _ h (GL.tr (gl_cpr hgl cp3) hg2) hrc2 (fun n hn => (hga n (by rw [cp3.1]; exact Nat.lt_of_lt_of_le hn hgl.1)).trans (had n hn)) h_new (Nat.lt_of_lt_of_le (by rw [cp3.1]; exact h_o) hg2.1) G hl
  · have h := oif_pos c14 h
    have hz : exn e1 = xISE := by rw [show e1 = 0 by have := (osome3 h).1; omega]; rfl
    rw [(osome3 h).2.2] at G
    refine w_cast (c2 := T1.1 - T.1) (s2 := sg T1 - sg T) (by rw [← (osome3 h).2.2, cp2.1] <;> rfl) (by rw [← (osome3 h).2.2, sg_cpr cp2] <;> rfl) ?_
    refine vx_throw0 (own := RX11) (cls := xISE) (names := ["java/lang/RuntimeException", "java/lang/Exception"]) (ik := 397) (ic := 399) (A := A) hx hb hst hown (by decide +kernel) (by decide +kernel) (hts _ (.tail _ qA_732)) (hts _ (.tail _ qA_733)) (vx_hat (B := xB) (fun w h => hts w (.tail _ (iA_26 h))) (by decide +kernel) hX.use) (by decide +kernel) hX.1 hX.2.1 G.2.2 (hl.1.trans hml.symm) dX11_clean_14 dX11_clean_17 dX11_clean_18 dX11_clean_21 (fun x hx => (htab x hx).elim) (Nat.le_of_ble_eq_true rfl) (Nat.le_of_ble_eq_true rfl) (Nat.le_refl _) (Nat.le_refl _) hlocks (fun t hvm h1 h2 => ?_) G.2.2.2.2 (Nat.le_refl _) (Nat.le_refl _)
    exact ⟨(T1, ad), trivial, ⟨⟨hz.symm, rfl, had⟩, (c_thrown G hK hvm h1 h2).1⟩, (c_thrown G hK hvm h1 h2).2⟩
end
