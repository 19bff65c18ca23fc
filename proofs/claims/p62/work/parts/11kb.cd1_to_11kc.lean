section
/-! 11kb.cd1.lean.txt -/
def g_X10_narrow (T : AT) (o : Nat) : Option (AT) := oif (oO T o 10 = true) <| elet (uI T o 2 1) fun T3 => some T3
set_option maxHeartbeats 4000000 in
set_option maxRecDepth 100000 in
theorem u_X10_narrow (l : Launch) (hst : l.stackTraces = false) (D : va_G) (cI cJ cZ cMic cSrc cSt cAI cAJ : ClassId) (ad : Nat → Nat) (T : AT) (o : Nat) {T1 : AT} (h : g_X10_narrow T o = some T1) : kCv l yX10_narrow (Cond.code yX10_narrow cX10_narrow 1 none :: wsA) 1 0 cI cJ cZ cMic cSrc cSt cAI cAJ D ad T [.ref (ad o)] (fun T9 => T9 = T1) := by
  intro sz
  refine Met.ofW (cc := cX10_narrow) (maxL := 1) (ret := none) (by decide) rfl ?_
  intro p e s m args below meth c s₁ B hml hv
  obtain ⟨rfl, hsz, hP, hK, hD0, hX, hN⟩ := hv
  have hx := B.exec
  have hb := B.bytes
  have hr := B.returns
  have hts := atoms_spec (ws := (Cond.code yX10_narrow cX10_narrow 1 none :: wsA)) B.pre
  have hown : s.vm.findClass RX10 = some m.cls := findClass_of_methodNamed B.named
  have hlocks := B.notSynchronized
  subst hsz
  have hD := hD0.self (sz := s.heap.size)
  generalize hAe : va_A (cW ad T.1 (cc cI cJ cZ cMic cSrc cSt cAI cAJ ad T)) s.heap.size = A at hD hX ⊢
  have hA : ∀ q : Nat, s.heap.size ≤ q → A q := fun q h => by rw [← hAe]; exact Or.inr h
  have G : gC cI cJ cZ cMic cSrc cSt cAI cAJ D ad A s.heap s.heap [] T := ⟨hP, hD, va_S.rf⟩
  have E : cE p c cX10_narrow s m ([.ref (ad o)] : List Value).toArray (Cond.code yX10_narrow cX10_narrow 1 none :: wsA) D RX10 (CT cI cJ cZ cMic cSrc cSt cAI cAJ) := ⟨hx, hb, hts, hown, hK⟩
  have hl := lv_entry ([.ref (ad o)]) (n := 1) (Nat.le_of_ble_eq_true rfl)
  rw [lg_entry_eq]
  generalize (lg_sl ([.ref (ad o)]) ++ List.replicate (1 - (lg_sl ([.ref (ad o)])).length) Slot.unset).toArray = ls at hl ⊢
  have hl : lv_has ls 1 [(0, .ref (ad o))] := hl
  unfold g_X10_narrow at h
  refine lv_aload_n hx hb dX10_narrow_0 rfl (lv_at hl 0 rfl) ?_
  refine lv_iconst (v := 1) hx hb dX10_narrow_1 (by decide) ?_
  obtain ⟨g2, h⟩ := oif_some h
  refine c_put E G o 2 (v := .int 1) (oO_k g2).1 (cc_o10 (oO_k g2).2) rfl (fun w h => .tail _ (iA_12 h)) tyX10 tyX10_ok nmX10 (by decide) (.tail _ qA_15) ⟨rfl, rfl, rfl⟩ rfl rfl (Nat.le_of_ble_eq_true rfl) dX10_narrow_2 (fun H locs G => ?_)
  have G := gC_up_i (f := upd (T.2.2.1 o) 2 1) (by rw [(oO_k g2).2]; rfl) G
  obtain ⟨T3, eT3, h⟩ := elet_some h
  have G : gC cI cJ cZ cMic cSrc cSt cAI cAJ D ad A s.heap H locs T3 := by rw [eT3]; exact G
  clear eT3
  exact W.vret hx hb hr (fun t ht hW => ⟨⟨T3, rfl, osome1 h, ⟨by rw [ht]; exact G.1, va_K.moved hW.alike hK, G.2.1⟩⟩, G.2.2.F ht⟩) G.2.2.2.2 dX10_narrow_5
set_option maxHeartbeats 4000000 in
set_option maxRecDepth 100000 in
theorem s_X10_narrow {T : AT} {o : Nat} {T1 : AT} (h : g_X10_narrow T o = some T1) : SP T T1 := by
  have p0 := SP.rf T
  unfold g_X10_narrow at h
  obtain ⟨g2, h⟩ := oif_some h
  obtain ⟨T3, eT3, h⟩ := elet_some h
  have p1 : SP T T3 := SP.tr p0 (by rw [eT3]; exact sp_uI)
  rw [← osome1 h]
  exact p1
def g_X1_cells (T : AT) (o : Nat) : Option (Int32 × AT) := oif (oO T o 1 = true) <| elet (T.2.2.1 o 3) fun v3 => oif (oO T o 1 = true) <| elet (T.2.2.1 o 4) fun v5 => elet (v3 * v5) fun v6 => some (v6, T)
set_option maxHeartbeats 4000000 in
set_option maxRecDepth 100000 in
theorem u_X1_cells (l : Launch) (hst : l.stackTraces = false) (D : va_G) (cI cJ cZ cMic cSrc cSt cAI cAJ : ClassId) (ad : Nat → Nat) (T : AT) (o : Nat) {r1 : Int32} {T1 : AT} (h : g_X1_cells T o = some (r1, T1)) : kCi l yX1_cells (Cond.code yX1_cells cX1_cells 1 (some .int) :: wsA) 1 0 cI cJ cZ cMic cSrc cSt cAI cAJ D ad T [.ref (ad o)] (fun r T9 => r = r1 ∧ T9 = T1) := by
  intro sz
  refine Met.ofW (cc := cX1_cells) (maxL := 1) (ret := (some .int)) (by decide) rfl ?_
  intro p e s m args below meth c s₁ B hml hv
  obtain ⟨rfl, hsz, hP, hK, hD0, hX, hN⟩ := hv
  have hx := B.exec
  have hb := B.bytes
  have hr := B.returns
  have hts := atoms_spec (ws := (Cond.code yX1_cells cX1_cells 1 (some .int) :: wsA)) B.pre
  have hown : s.vm.findClass RX1 = some m.cls := findClass_of_methodNamed B.named
  have hlocks := B.notSynchronized
  subst hsz
  have hD := hD0.self (sz := s.heap.size)
  generalize hAe : va_A (cW ad T.1 (cc cI cJ cZ cMic cSrc cSt cAI cAJ ad T)) s.heap.size = A at hD hX ⊢
  have hA : ∀ q : Nat, s.heap.size ≤ q → A q := fun q h => by rw [← hAe]; exact Or.inr h
  have G : gC cI cJ cZ cMic cSrc cSt cAI cAJ D ad A s.heap s.heap [] T := ⟨hP, hD, va_S.rf⟩
  have E : cE p c cX1_cells s m ([.ref (ad o)] : List Value).toArray (Cond.code yX1_cells cX1_cells 1 (some .int) :: wsA) D RX1 (CT cI cJ cZ cMic cSrc cSt cAI cAJ) := ⟨hx, hb, hts, hown, hK⟩
  have hl := lv_entry ([.ref (ad o)]) (n := 1) (Nat.le_of_ble_eq_true rfl)
  rw [lg_entry_eq]
  generalize (lg_sl ([.ref (ad o)]) ++ List.replicate (1 - (lg_sl ([.ref (ad o)])).length) Slot.unset).toArray = ls at hl ⊢
  have hl : lv_has ls 1 [(0, .ref (ad o))] := hl
  unfold g_X1_cells at h
  refine lv_aload_n hx hb dX1_cells_0 rfl (lv_at hl 0 rfl) ?_
  obtain ⟨g2, h⟩ := oif_some h
  refine c_get E G o 3 (oO_k g2).1 (cc_o1 (oO_k g2).2) rfl (fun w h => .tail _ (iA_15 h)) (by decide) (.tail _ qA_39) rfl rfl dX1_cells_1 ?_
  refine lv_topi (fun v3 ev3 => ?_)
  have h := elet_at ev3 h
  clear ev3
  refine lv_aload_n hx hb dX1_cells_4 rfl (lv_at hl 0 rfl) ?_
  obtain ⟨g4, h⟩ := oif_some h
  refine c_get E G o 4 (oO_k g4).1 (cc_o1 (oO_k g4).2) rfl (fun w h => .tail _ (iA_15 h)) (by decide) (.tail _ qA_40) rfl rfl dX1_cells_5 ?_
  refine lv_topi (fun v5 ev5 => ?_)
  have h := elet_at ev5 h
  clear ev5
  refine lv_imul hx hb dX1_cells_8 ?_
  refine lv_topi (fun v6 ev6 => ?_)
  have h := elet_at ev6 h
  clear ev6
  exact W.iret (v := v6) hx hb hr (fun t ht hW => ⟨⟨v6, T, rfl, osome2 h, ⟨by rw [ht]; exact G.1, va_K.moved hW.alike hK, G.2.1⟩⟩, G.2.2.F ht⟩) G.2.2.2.2 dX1_cells_9
set_option maxHeartbeats 4000000 in
set_option maxRecDepth 100000 in
theorem s_X1_cells {T : AT} {o : Nat} {r1 : Int32} {T1 : AT} (h : g_X1_cells T o = some (r1, T1)) : SP T T1 := by
  have p0 := SP.rf T
  unfold g_X1_cells at h
  obtain ⟨g2, h⟩ := oif_some h
  obtain ⟨v3, -, h⟩ := elet_some h
  obtain ⟨g4, h⟩ := oif_some h
  obtain ⟨v5, -, h⟩ := elet_some h
  obtain ⟨v6, -, h⟩ := elet_some h
  rw [← (osome2 h).2]
  exact p0
def g_X0_rowStart  (a0 : Int32) : Option (Int32) := elet (a0 * 144) fun v2 => some v2
set_option maxHeartbeats 4000000 in
set_option maxRecDepth 100000 in
theorem u_X0_rowStart (l : Launch) (a0 : Int32) {r1 : Int32} (h : g_X0_rowStart a0 = some r1) : Met l yX0_rowStart (Cond.code yX0_rowStart cX0_rowStart 1 (some .int) :: wsA) { frames := 1, cells := 0, slots := 0, locals := 0 } (va_Pc [.int a0] nX) (vp_Si (fun r => r = r1)) 0 0 (fun _ => False) := by
  refine Met.ofW (cc := cX0_rowStart) (maxL := 1) (ret := (some .int)) (by decide) rfl ?_
  intro p e s m args below meth c s₁ B hml hv
  obtain ⟨rfl, hN⟩ := hv
  have hx := B.exec
  have hb := B.bytes
  have hr := B.returns
  have hts := atoms_spec (ws := (Cond.code yX0_rowStart cX0_rowStart 1 (some .int) :: wsA)) B.pre
  have hown : s.vm.findClass RX0 = some m.cls := findClass_of_methodNamed B.named
  have hlocks := B.notSynchronized
  have E : p.tables.exec = Jvm.exec ∧ c.code = cX0_rowStart ∧ (∀ w ∈ (Cond.code yX0_rowStart cX0_rowStart 1 (some .int) :: wsA), w.before ([.int a0] : List Value).toArray s = true) ∧ s.vm.findClass RX0 = some m.cls := ⟨hx, hb, hts, hown⟩
  have hl := lv_entry ([.int a0]) (n := 1) (Nat.le_of_ble_eq_true rfl)
  rw [lg_entry_eq]
  generalize (lg_sl ([.int a0]) ++ List.replicate (1 - (lg_sl ([.int a0])).length) Slot.unset).toArray = ls at hl ⊢
  have hl : lv_has ls 1 [(0, .int a0)] := hl
  unfold g_X0_rowStart at h
  refine lv_iload_n hx hb dX0_rowStart_0 rfl (lv_at hl 0 rfl) ?_
  refine lv_sipush (v := 144) hx hb dX0_rowStart_1 (by decide) ?_
  refine lv_imul hx hb dX0_rowStart_4 ?_
  refine lv_topi (fun v2 ev2 => ?_)
  have h := elet_at ev2 h
  clear ev2
  exact W.iret (v := v2) hx hb hr (fun t ht hW => ⟨v2, rfl, osome1 h, ht⟩) (fun _ h => absurd h List.not_mem_nil) dX0_rowStart_5
def g_X8_greatestDelay_b29 (k4 : AT → Nat → Nat → Int32 → Int32 → Option (Int32 × AT)) (T : AT) (l0 : Nat) (l1 : Nat) (l2 : Int32) (l3 : Int32) : Option (Int32 × AT) := elet (l3 + Int32.ofInt (1)) fun v2 => k4 T l0 l1 l2 v2
set_option maxHeartbeats 4000000 in
set_option maxRecDepth 100000 in
theorem u_X8_greatestDelay_b29 {p : Program} {l : Launch} {e : Env} {s : State} {m : MethodId} {args : Array Value} {below : List Frame} {meth : Method} {c : Code} {Q : State → Prop} {D : va_G} {A : Nat → Prop} {cI cJ cZ cMic cSrc cSt cAI cAJ : ClassId} {ad : Nat → Nat} {r1 : Int32} {T1 : AT} (E : cE p c cX8_greatestDelay s m args (Cond.code yX8_greatestDelay cX8_greatestDelay 4 (some .int) :: wsA) D RX8 (CT cI cJ cZ cMic cSrc cSt cAI cAJ)) (hA : ∀ q : Nat, s.heap.size ≤ q → A q) (hX : xT A s) (hN : nX s) (hml : c.maxLocals = 4) (hst : l.stackTraces = false) (kr36 : ∀ (H : Heap) (locs : List Loc) (ls : Array Slot), gC cI cJ cZ cMic cSrc cSt cAI cAJ D ad A s.heap H locs T1 → W p l e { frames := 1, cells := 0, slots := 0, locals := 15 } s m args below meth c H locs 0 0 Q (F0 m 36 ls [.int r1])) {k4 : AT → Nat → Nat → Int32 → Int32 → Option (Int32 × AT)} (hk4 : ∀ (T : AT) (H : Heap) (locs : List Loc) (ls : Array Slot) (l0 : Nat) (l1 : Nat) (l2 : Int32) (l3 : Int32), k4 T l0 l1 l2 l3 = some (r1, T1) → gC cI cJ cZ cMic cSrc cSt cAI cAJ D ad A s.heap H locs T → lv_has ls 4 [(0, .ref (ad l0)), (1, .ref (ad l1)), (2, .int l2), (3, .int l3)] → W p l e { frames := 1, cells := 0, slots := 0, locals := 15 } s m args below meth c H locs 0 0 Q (F0 m 4 ls [])) : ∀ (T : AT) (H : Heap) (locs : List Loc) (ls : Array Slot) (l0 : Nat) (l1 : Nat) (l2 : Int32) (l3 : Int32), g_X8_greatestDelay_b29 k4 T l0 l1 l2 l3 = some (r1, T1) → gC cI cJ cZ cMic cSrc cSt cAI cAJ D ad A s.heap H locs T → lv_has ls 4 [(0, .ref (ad l0)), (1, .ref (ad l1)), (2, .int l2), (3, .int l3)] → W p l e { frames := 1, cells := 0, slots := 0, locals := 15 } s m args below meth c H locs 0 0 Q (F0 m 29 ls []) := by
  have hx := E.1
  have hb := E.2.1
  have hts := E.2.2.1
  have hown := E.2.2.2.1
  have hK := E.2.2.2.2
  intro T H locs ls l0 l1 l2 l3 h G hl
  unfold g_X8_greatestDelay_b29 at h
  obtain ⟨v2, ev2, h⟩ := elet_some h
  refine lv_iinc (v := v2) (lv' := [(3, .int v2), (0, .ref (ad l0)), (1, .ref (ad l1)), (2, .int l2)]) hx hb dX8_greatestDelay_29 hl (k := 3) rfl ev2.symm (by decide) rfl (fun ls hl => ?_)
  refine lv_goto (tgt := 4) hx hb dX8_greatestDelay_32 (by decide) ?_
  have hl := lv_sub hl [1, 2, 3, 0] rfl
  exact hk4 _ _ _ _ _ _ _ _ h G hl
def g_X8_greatestDelay_b4  : Nat → AT → Nat → Nat → Int32 → Int32 → Option (Int32 × AT)
  | 0, _, _, _, _, _ => none
  | n + 1, T, l0, l1, l2, l3 => oif (oO T l0 8 = true) <| elet (T.2.2.1 l0 0) fun v3 => if v3 ≤ l3 then (some (l2, T)) else (oif (oO T l0 8 = true) <| obind (T.2.2.2.2 l0 3) fun n6 => oif (aA T n6 102 = true) <| oif (inb l3 (T.2.1 n6).2 = true) <| elet (T.2.2.1 n6 l3.toNatClampNeg) fun v9 => if v9 = 0 then (oif (aA T l1 100 = true) <| oif (inb l3 (T.2.1 l1).2 = true) <| elet (T.2.2.1 l1 l3.toNatClampNeg) fun v13 => elet (if l2 < v13 then v13 else l2) fun v14 => g_X8_greatestDelay_b29 (g_X8_greatestDelay_b4 n) T l0 l1 v14 l3) else (g_X8_greatestDelay_b29 (g_X8_greatestDelay_b4 n) T l0 l1 l2 l3))
set_option maxHeartbeats 4000000 in
set_option maxRecDepth 100000 in
theorem u_X8_greatestDelay_b4 {p : Program} {l : Launch} {e : Env} {s : State} {m : MethodId} {args : Array Value} {below : List Frame} {meth : Method} {c : Code} {Q : State → Prop} {D : va_G} {A : Nat → Prop} {cI cJ cZ cMic cSrc cSt cAI cAJ : ClassId} {ad : Nat → Nat} {r1 : Int32} {T1 : AT} (E : cE p c cX8_greatestDelay s m args (Cond.code yX8_greatestDelay cX8_greatestDelay 4 (some .int) :: wsA) D RX8 (CT cI cJ cZ cMic cSrc cSt cAI cAJ)) (hA : ∀ q : Nat, s.heap.size ≤ q → A q) (hX : xT A s) (hN : nX s) (hml : c.maxLocals = 4) (hst : l.stackTraces = false) (kr36 : ∀ (H : Heap) (locs : List Loc) (ls : Array Slot), gC cI cJ cZ cMic cSrc cSt cAI cAJ D ad A s.heap H locs T1 → W p l e { frames := 1, cells := 0, slots := 0, locals := 15 } s m args below meth c H locs 0 0 Q (F0 m 36 ls [.int r1])) : ∀ n : Nat, ∀ (T : AT) (H : Heap) (locs : List Loc) (ls : Array Slot) (l0 : Nat) (l1 : Nat) (l2 : Int32) (l3 : Int32), g_X8_greatestDelay_b4 n T l0 l1 l2 l3 = some (r1, T1) → gC cI cJ cZ cMic cSrc cSt cAI cAJ D ad A s.heap H locs T → lv_has ls 4 [(0, .ref (ad l0)), (1, .ref (ad l1)), (2, .int l2), (3, .int l3)] → W p l e { frames := 1, cells := 0, slots := 0, locals := 15 } s m args below meth c H locs 0 0 Q (F0 m 4 ls []) := by
  have hx := E.1
  have hb := E.2.1
  have hts := E.2.2.1
  have hown := E.2.2.2.1
  have hK := E.2.2.2.2
  intro n
  induction n with
  | zero =>
    intro T H locs ls l0 l1 l2 l3 h
    have h : (none : Option (Int32 × AT)) = some (r1, T1) := h
    cases h
  | succ n ih =>
    intro T H locs ls l0 l1 l2 l3 h G hl
    unfold g_X8_greatestDelay_b4 at h
    refine lv_iload_n hx hb dX8_greatestDelay_4 rfl (lv_at hl 3 rfl) ?_
    refine lv_aload_n hx hb dX8_greatestDelay_5 rfl (lv_at hl 0 rfl) ?_
    obtain ⟨g2, h⟩ := oif_some h
    refine c_get E G l0 0 (oO_k g2).1 (cc_o8 (oO_k g2).2) rfl (fun w h => .tail _ (iA_16 h)) (by decide) (.tail _ qA_63) rfl rfl dX8_greatestDelay_6 ?_
    refine lv_topi (fun v3 ev3 => ?_)
    have h := elet_at ev3 h
    clear ev3
    refine lv_icmp_ge (tgt := 35) hx hb dX8_greatestDelay_9 (by decide) (fun c4 => ?_) (fun c4 => ?_)
    · have h := oif_pos c4 h
      refine lv_iload_n hx hb dX8_greatestDelay_35 rfl (lv_at hl 2 rfl) ?_
      rw [(osome2 h).2] at G
      refine lv_to (osome2 h).1 ?_
      exact kr36 _ _ _ G
    · have h := oif_neg c4 h
      refine lv_aload_n hx hb dX8_greatestDelay_12 rfl (lv_at hl 0 rfl) ?_
      obtain ⟨g5, h⟩ := oif_some h
      obtain ⟨n6, en6, h⟩ := obind_some h
      refine c_get E G l0 3 (v := .ref (ad n6)) (oO_k g5).1 (cc_o8 (oO_k g5).2) rfl (fun w h => .tail _ (iA_16 h)) (by decide) (.tail _ qA_64) rfl (by rw [en6]; rfl) dX8_greatestDelay_13 ?_
      clear en6
      refine lv_iload_n hx hb dX8_greatestDelay_16 rfl (lv_at hl 3 rfl) ?_
      obtain ⟨g7, h⟩ := oif_some h
      obtain ⟨g8, h⟩ := oif_some h
      refine c_zald E G n6 2 (k := l3.toNatClampNeg) (aA_k g7).1 (cc_a102 (aA_k g7).2.1) rfl (inb_k g8).1 (inb_k g8).2 (aA_k g7).2.2 dX8_greatestDelay_17 ?_
      refine lv_topi (fun v9 ev9 => ?_)
      have h := elet_at ev9 h
      clear ev9
      refine lv_if_ne (tgt := 29) hx hb dX8_greatestDelay_18 (by decide) (fun c10 => ?_) (fun c10 => ?_)
      · have h := oif_neg c10 h
        have hl := lv_sub hl [0, 1, 2, 3] rfl
        exact u_X8_greatestDelay_b29 E hA hX hN hml hst kr36 ih _ _ _ _ _ _ _ _ h G hl
      · have h := oif_pos c10 h
        refine lv_iload_n hx hb dX8_greatestDelay_21 rfl (lv_at hl 2 rfl) ?_
        refine lv_aload_n hx hb dX8_greatestDelay_22 rfl (lv_at hl 1 rfl) ?_
        refine lv_iload_n hx hb dX8_greatestDelay_23 rfl (lv_at hl 3 rfl) ?_
        obtain ⟨g11, h⟩ := oif_some h
        obtain ⟨g12, h⟩ := oif_some h
        refine c_iald E G l1 0 (k := l3.toNatClampNeg) (aA_k g11).1 (cc_a100 (aA_k g11).2.1) rfl (inb_k g12).1 (inb_k g12).2 (aA_k g11).2.2 dX8_greatestDelay_24 ?_
        refine lv_topi (fun v13 ev13 => ?_)
        have h := elet_at ev13 h
        clear ev13
        refine va_mmax hx hb (hml.trans hl.1.symm) hown (hts _ (.tail _ qA_58)) (hts _ (.tail _ qA_17)) (hts _ (.tail _ qA_18)) (hts _ (.tail _ qA_19)) (Nat.le_of_ble_eq_true rfl) (Nat.le_of_ble_eq_true rfl) (Nat.zero_le _) (Nat.zero_le _) dX8_greatestDelay_25 ?_
        refine lv_topi (fun v14 ev14 => ?_)
        have h := elet_at ev14 h
        clear ev14
        refine lv_istore_n (lv' := [(2, .int v14), (0, .ref (ad l0)), (1, .ref (ad l1)), (3, .int l3)]) hx hb dX8_greatestDelay_28 rfl hl (by decide) rfl (fun ls hl => ?_)
        have hl := lv_sub hl [1, 2, 0, 3] rfl
        exact u_X8_greatestDelay_b29 E hA hX hN hml hst kr36 ih _ _ _ _ _ _ _ _ h G hl
def g_X8_greatestDelay (T : AT) (o : Nat) (a0 : Nat) : Option (Int32 × AT) := g_X8_greatestDelay_b4 16384 T o a0 0 0
set_option maxHeartbeats 4000000 in
set_option maxRecDepth 100000 in
theorem u_X8_greatestDelay (l : Launch) (hst : l.stackTraces = false) (D : va_G) (cI cJ cZ cMic cSrc cSt cAI cAJ : ClassId) (ad : Nat → Nat) (T : AT) (o : Nat) (a0 : Nat) {r1 : Int32} {T1 : AT} (h : g_X8_greatestDelay T o a0 = some (r1, T1)) : kCi l yX8_greatestDelay (Cond.code yX8_greatestDelay cX8_greatestDelay 4 (some .int) :: wsA) 1 15 cI cJ cZ cMic cSrc cSt cAI cAJ D ad T [.ref (ad o), .ref (ad a0)] (fun r T9 => r = r1 ∧ T9 = T1) := by
  intro sz
  refine Met.ofW (cc := cX8_greatestDelay) (maxL := 4) (ret := (some .int)) (by decide) rfl ?_
  intro p e s m args below meth c s₁ B hml hv
  obtain ⟨rfl, hsz, hP, hK, hD0, hX, hN⟩ := hv
  have hx := B.exec
  have hb := B.bytes
  have hr := B.returns
  have hts := atoms_spec (ws := (Cond.code yX8_greatestDelay cX8_greatestDelay 4 (some .int) :: wsA)) B.pre
  have hown : s.vm.findClass RX8 = some m.cls := findClass_of_methodNamed B.named
  have hlocks := B.notSynchronized
  subst hsz
  have hD := hD0.self (sz := s.heap.size)
  generalize hAe : va_A (cW ad T.1 (cc cI cJ cZ cMic cSrc cSt cAI cAJ ad T)) s.heap.size = A at hD hX ⊢
  have hA : ∀ q : Nat, s.heap.size ≤ q → A q := fun q h => by rw [← hAe]; exact Or.inr h
  have G : gC cI cJ cZ cMic cSrc cSt cAI cAJ D ad A s.heap s.heap [] T := ⟨hP, hD, va_S.rf⟩
  have E : cE p c cX8_greatestDelay s m ([.ref (ad o), .ref (ad a0)] : List Value).toArray (Cond.code yX8_greatestDelay cX8_greatestDelay 4 (some .int) :: wsA) D RX8 (CT cI cJ cZ cMic cSrc cSt cAI cAJ) := ⟨hx, hb, hts, hown, hK⟩
  have hl := lv_entry ([.ref (ad o), .ref (ad a0)]) (n := 4) (Nat.le_of_ble_eq_true rfl)
  rw [lg_entry_eq]
  generalize (lg_sl ([.ref (ad o), .ref (ad a0)]) ++ List.replicate (4 - (lg_sl ([.ref (ad o), .ref (ad a0)])).length) Slot.unset).toArray = ls at hl ⊢
  have hl : lv_has ls 4 [(0, .ref (ad o)), (1, .ref (ad a0))] := hl
  unfold g_X8_greatestDelay at h
  refine lv_iconst (v := 0) hx hb dX8_greatestDelay_0 (by decide) ?_
  refine lv_istore_n (lv' := [(2, .int 0), (0, .ref (ad o)), (1, .ref (ad a0))]) hx hb dX8_greatestDelay_1 rfl hl (by decide) rfl (fun ls hl => ?_)
  refine lv_iconst (v := 0) hx hb dX8_greatestDelay_2 (by decide) ?_
  refine lv_istore_n (lv' := [(3, .int 0), (2, .int 0), (0, .ref (ad o)), (1, .ref (ad a0))]) hx hb dX8_greatestDelay_3 rfl hl (by decide) rfl (fun ls hl => ?_)
  have hl := lv_sub hl [2, 3, 1, 0] rfl
  exact u_X8_greatestDelay_b4 E hA hX hN hml hst (fun H locs ls G => W.iret (v := r1) hx hb hr (fun t ht hW => ⟨⟨r1, T1, rfl, ⟨rfl, rfl⟩, ⟨by rw [ht]; exact G.1, va_K.moved hW.alike hK, G.2.1⟩⟩, G.2.2.F ht⟩) G.2.2.2.2 dX8_greatestDelay_36) _ _ _ _ _ _ _ _ _ h G hl
set_option maxHeartbeats 4000000 in
set_option maxRecDepth 100000 in
theorem s_X8_greatestDelay_b29 {r1 : Int32} {T1 : AT} {k4 : AT → Nat → Nat → Int32 → Int32 → Option (Int32 × AT)} (hk4 : ∀ (T : AT) (l0 : Nat) (l1 : Nat) (l2 : Int32) (l3 : Int32), k4 T l0 l1 l2 l3 = some (r1, T1) → SP T T1) : ∀ (T : AT) (l0 : Nat) (l1 : Nat) (l2 : Int32) (l3 : Int32), g_X8_greatestDelay_b29 k4 T l0 l1 l2 l3 = some (r1, T1) → SP T T1 := by
  intro T l0 l1 l2 l3 h
  have p0 := SP.rf T
  unfold g_X8_greatestDelay_b29 at h
  obtain ⟨v2, ev2, h⟩ := elet_some h
  exact SP.tr p0 (hk4 _ _ _ _ _ h)
set_option maxHeartbeats 4000000 in
set_option maxRecDepth 100000 in
theorem s_X8_greatestDelay_b4 {r1 : Int32} {T1 : AT} : ∀ n : Nat, ∀ (T : AT) (l0 : Nat) (l1 : Nat) (l2 : Int32) (l3 : Int32), g_X8_greatestDelay_b4 n T l0 l1 l2 l3 = some (r1, T1) → SP T T1 := by
  intro n
  induction n with
  | zero =>
    intro T l0 l1 l2 l3 h
    have h : (none : Option (Int32 × AT)) = some (r1, T1) := h
    cases h
  | succ n ih =>
    intro T l0 l1 l2 l3 h
    have p0 := SP.rf T
    unfold g_X8_greatestDelay_b4 at h
    obtain ⟨g2, h⟩ := oif_some h
    obtain ⟨v3, -, h⟩ := elet_some h
    rcases oif_or h with ⟨c4, h⟩ | ⟨c4, h⟩
    · have h := h
      rw [← (osome2 h).2]
      exact p0
    · have h := h
      obtain ⟨g5, h⟩ := oif_some h
      obtain ⟨n6, en6, h⟩ := obind_some h
      obtain ⟨g7, h⟩ := oif_some h
      obtain ⟨g8, h⟩ := oif_some h
      obtain ⟨v9, -, h⟩ := elet_some h
      rcases oif_or h with ⟨c10, h⟩ | ⟨c10, h⟩
      · have h := h
        obtain ⟨g11, h⟩ := oif_some h
        obtain ⟨g12, h⟩ := oif_some h
        obtain ⟨v13, -, h⟩ := elet_some h
        obtain ⟨v14, -, h⟩ := elet_some h
        exact SP.tr p0 (s_X8_greatestDelay_b29 ih _ _ _ _ _ h)
      · have h := h
        exact SP.tr p0 (s_X8_greatestDelay_b29 ih _ _ _ _ _ h)
set_option maxHeartbeats 4000000 in
set_option maxRecDepth 100000 in
theorem s_X8_greatestDelay {T : AT} {o : Nat} {a0 : Nat} {r1 : Int32} {T1 : AT} (h : g_X8_greatestDelay T o a0 = some (r1, T1)) : SP T T1 := by
  have p0 := SP.rf T
  unfold g_X8_greatestDelay at h
  exact SP.tr p0 (s_X8_greatestDelay_b4 _ _ _ _ _ _ h)
def g_X8_windowOf (T : AT) (o : Nat) (a0 : Nat) : Option (Int32 × AT) := oif (oO T o 8 = true) <| elet (T.2.2.1 o 1) fun v3 => oif (oO T o 8 = true) <| obind2 (g_X8_greatestDelay T o a0) fun r7 T5 => elet (v3 - r7) fun v9 => elet (if v9 < 0 then 0 else v9) fun v10 => some (v10, T5)
set_option maxHeartbeats 4000000 in
set_option maxRecDepth 100000 in
theorem u_X8_windowOf (l : Launch) (hst : l.stackTraces = false) (D : va_G) (cI cJ cZ cMic cSrc cSt cAI cAJ : ClassId) (ad : Nat → Nat) (T : AT) (o : Nat) (a0 : Nat) {r1 : Int32} {T1 : AT} (h : g_X8_windowOf T o a0 = some (r1, T1)) : kCi l yX8_windowOf (Cond.code yX8_windowOf cX8_windowOf 2 (some .int) :: wsA) 2 38 cI cJ cZ cMic cSrc cSt cAI cAJ D ad T [.ref (ad o), .ref (ad a0)] (fun r T9 => r = r1 ∧ T9 = T1) := by
  intro sz
  refine Met.ofW (cc := cX8_windowOf) (maxL := 2) (ret := (some .int)) (by decide) rfl ?_
  intro p e s m args below meth c s₁ B hml hv
  obtain ⟨rfl, hsz, hP, hK, hD0, hX, hN⟩ := hv
  have hx := B.exec
  have hb := B.bytes
  have hr := B.returns
  have hts := atoms_spec (ws := (Cond.code yX8_windowOf cX8_windowOf 2 (some .int) :: wsA)) B.pre
  have hown : s.vm.findClass RX8 = some m.cls := findClass_of_methodNamed B.named
  have hlocks := B.notSynchronized
  subst hsz
  have hD := hD0.self (sz := s.heap.size)
  generalize hAe : va_A (cW ad T.1 (cc cI cJ cZ cMic cSrc cSt cAI cAJ ad T)) s.heap.size = A at hD hX ⊢
  have hA : ∀ q : Nat, s.heap.size ≤ q → A q := fun q h => by rw [← hAe]; exact Or.inr h
  have G : gC cI cJ cZ cMic cSrc cSt cAI cAJ D ad A s.heap s.heap [] T := ⟨hP, hD, va_S.rf⟩
  have E : cE p c cX8_windowOf s m ([.ref (ad o), .ref (ad a0)] : List Value).toArray (Cond.code yX8_windowOf cX8_windowOf 2 (some .int) :: wsA) D RX8 (CT cI cJ cZ cMic cSrc cSt cAI cAJ) := ⟨hx, hb, hts, hown, hK⟩
  have hl := lv_entry ([.ref (ad o), .ref (ad a0)]) (n := 2) (Nat.le_of_ble_eq_true rfl)
  rw [lg_entry_eq]
  generalize (lg_sl ([.ref (ad o), .ref (ad a0)]) ++ List.replicate (2 - (lg_sl ([.ref (ad o), .ref (ad a0)])).length) Slot.unset).toArray = ls at hl ⊢
  have hl : lv_has ls 2 [(0, .ref (ad o)), (1, .ref (ad a0))] := hl
  unfold g_X8_windowOf at h
  refine lv_aload_n hx hb dX8_windowOf_0 rfl (lv_at hl 0 rfl) ?_
  obtain ⟨g2, h⟩ := oif_some h
  refine c_get E G o 1 (oO_k g2).1 (cc_o8 (oO_k g2).2) rfl (fun w h => .tail _ (iA_16 h)) (by decide) (.tail _ qA_57) rfl rfl dX8_windowOf_1 ?_
  refine lv_topi (fun v3 ev3 => ?_)
  have h := elet_at ev3 h
  clear ev3
  refine lv_aload_n hx hb dX8_windowOf_4 rfl (lv_at hl 0 rfl) ?_
  refine lv_aload_n hx hb dX8_windowOf_5 rfl (lv_at hl 1 rfl) ?_
  obtain ⟨g4, h⟩ := oif_some h
  obtain ⟨r7, T5, eT5, h⟩ := obind2_some h
  refine q_cvi (As := [.ref (ad a0)]) (rest := [.int v3]) E G hA hX hN hml (u_X8_greatestDelay l hst D cI cJ cZ cMic cSrc cSt cAI cAJ ad T o a0 eT5) (cwV 1 hts (gaV qA_59 qA_60 qA_61 qA_47 qA_62) rfl rfl rfl (by decide +kernel) ⟨Nat.le_of_ble_eq_true rfl, Nat.le_of_ble_eq_true rfl⟩) (oO_k g4).1 (cc_o8 (oO_k g4).2) rfl rfl hl.1 rfl (lv_room (Nat.le_of_ble_eq_true rfl)) dX8_windowOf_6 ⟨Nat.zero_le _, Nat.zero_le _⟩ (fun q8 T6 H locs hq G => ?_)
  obtain ⟨hq1, hq2⟩ := hq
  rw [hq2] at G
  refine lv_to hq1 ?_
  clear hq1 hq2 eT5
  refine lv_isub hx hb dX8_windowOf_9 ?_
  refine lv_topi (fun v9 ev9 => ?_)
  have h := elet_at ev9 h
  clear ev9
  refine lv_iconst (v := 0) hx hb dX8_windowOf_10 (by decide) ?_
  refine va_mmax hx hb (hml.trans hl.1.symm) hown (hts _ (.tail _ qA_58)) (hts _ (.tail _ qA_17)) (hts _ (.tail _ qA_18)) (hts _ (.tail _ qA_19)) (Nat.le_of_ble_eq_true rfl) (Nat.le_of_ble_eq_true rfl) (Nat.zero_le _) (Nat.zero_le _) dX8_windowOf_11 ?_
  refine lv_topi (fun v10 ev10 => ?_)
  have h := elet_at ev10 h
  clear ev10
  exact W.iret (v := v10) hx hb hr (fun t ht hW => ⟨⟨v10, T5, rfl, osome2 h, ⟨by rw [ht]; exact G.1, va_K.moved hW.alike hK, G.2.1⟩⟩, G.2.2.F ht⟩) G.2.2.2.2 dX8_windowOf_14
set_option maxHeartbeats 4000000 in
set_option maxRecDepth 100000 in
theorem s_X8_windowOf {T : AT} {o : Nat} {a0 : Nat} {r1 : Int32} {T1 : AT} (h : g_X8_windowOf T o a0 = some (r1, T1)) : SP T T1 := by
  have p0 := SP.rf T
  unfold g_X8_windowOf at h
  obtain ⟨g2, h⟩ := oif_some h
  obtain ⟨v3, -, h⟩ := elet_some h
  obtain ⟨g4, h⟩ := oif_some h
  obtain ⟨r6, T5, eT5, h⟩ := obind2_some h
  have p1 : SP T T5 := SP.tr p0 (s_X8_greatestDelay eT5)
  obtain ⟨v7, -, h⟩ := elet_some h
  obtain ⟨v8, -, h⟩ := elet_some h
  rw [← (osome2 h).2]
  exact p1
def g_X10_clear_b2  : Nat → AT → Nat → Int32 → Int32 → Option (AT)
  | 0, _, _, _, _ => none
  | n + 1, T, l0, l1, l2 => oif (oO T l0 10 = true) <| elet (T.2.2.1 l0 2) fun v3 => if v3 ≤ l2 then (some T) else (oif (oO T l0 10 = true) <| obind (T.2.2.2.2 l0 1) fun n6 => oif (aA T n6 107 = true) <| oif (inb l2 (T.2.1 n6).2 = true) <| obind (T.2.2.2.2 n6 l2.toNatClampNeg) fun n9 => oif (aA T n9 101 = true) <| oif (inb l1 (T.2.1 n9).2 = true) <| elet (uJ T n9 l1.toNatClampNeg (0 : Int64)) fun T12 => elet (l2 + Int32.ofInt (1)) fun v13 => g_X10_clear_b2 n T12 l0 l1 v13)
set_option maxHeartbeats 4000000 in
set_option maxRecDepth 100000 in
theorem u_X10_clear_b2 {p : Program} {l : Launch} {e : Env} {s : State} {m : MethodId} {args : Array Value} {below : List Frame} {meth : Method} {c : Code} {Q : State → Prop} {D : va_G} {A : Nat → Prop} {cI cJ cZ cMic cSrc cSt cAI cAJ : ClassId} {ad : Nat → Nat} {T1 : AT} (E : cE p c cX10_clear s m args (Cond.code yX10_clear cX10_clear 3 none :: wsA) D RX10 (CT cI cJ cZ cMic cSrc cSt cAI cAJ)) (hA : ∀ q : Nat, s.heap.size ≤ q → A q) (hX : xT A s) (hN : nX s) (hml : c.maxLocals = 3) (hst : l.stackTraces = false) (kr25 : ∀ (H : Heap) (locs : List Loc) (ls : Array Slot), gC cI cJ cZ cMic cSrc cSt cAI cAJ D ad A s.heap H locs T1 → W p l e { frames := 1, cells := 0, slots := 0, locals := 0 } s m args below meth c H locs 0 0 Q (F0 m 25 ls [])) : ∀ n : Nat, ∀ (T : AT) (H : Heap) (locs : List Loc) (ls : Array Slot) (l0 : Nat) (l1 : Int32) (l2 : Int32), g_X10_clear_b2 n T l0 l1 l2 = some T1 → gC cI cJ cZ cMic cSrc cSt cAI cAJ D ad A s.heap H locs T → lv_has ls 3 [(0, .ref (ad l0)), (1, .int l1), (2, .int l2)] → W p l e { frames := 1, cells := 0, slots := 0, locals := 0 } s m args below meth c H locs 0 0 Q (F0 m 2 ls []) := by
  have hx := E.1
  have hb := E.2.1
  have hts := E.2.2.1
  have hown := E.2.2.2.1
  have hK := E.2.2.2.2
  intro n
  induction n with
  | zero =>
    intro T H locs ls l0 l1 l2 h
    have h : (none : Option (AT)) = some T1 := h
    cases h
  | succ n ih =>
    intro T H locs ls l0 l1 l2 h G hl
    unfold g_X10_clear_b2 at h
    refine lv_iload_n hx hb dX10_clear_2 rfl (lv_at hl 2 rfl) ?_
    refine lv_aload_n hx hb dX10_clear_3 rfl (lv_at hl 0 rfl) ?_
    obtain ⟨g2, h⟩ := oif_some h
    refine c_get E G l0 2 (oO_k g2).1 (cc_o10 (oO_k g2).2) rfl (fun w h => .tail _ (iA_12 h)) (by decide) (.tail _ qA_15) rfl rfl dX10_clear_4 ?_
    refine lv_topi (fun v3 ev3 => ?_)
    have h := elet_at ev3 h
    clear ev3
    refine lv_icmp_ge (tgt := 25) hx hb dX10_clear_7 (by decide) (fun c4 => ?_) (fun c4 => ?_)
    · have h := oif_pos c4 h
      rw [osome1 h] at G
      exact kr25 _ _ _ G
    · have h := oif_neg c4 h
      refine lv_aload_n hx hb dX10_clear_10 rfl (lv_at hl 0 rfl) ?_
      obtain ⟨g5, h⟩ := oif_some h
      obtain ⟨n6, en6, h⟩ := obind_some h
      refine c_get E G l0 1 (v := .ref (ad n6)) (oO_k g5).1 (cc_o10 (oO_k g5).2) rfl (fun w h => .tail _ (iA_12 h)) (by decide) (.tail _ qA_14) rfl (by rw [en6]; rfl) dX10_clear_11 ?_
      clear en6
      refine lv_iload_n hx hb dX10_clear_14 rfl (lv_at hl 2 rfl) ?_
      obtain ⟨g7, h⟩ := oif_some h
      obtain ⟨g8, h⟩ := oif_some h
      obtain ⟨n9, en9, h⟩ := obind_some h
      refine c_alda E G n6 7 (k := l2.toNatClampNeg) (v := .ref (ad n9)) (aA_k g7).1 (cc_a107 (aA_k g7).2.1) rfl (inb_k g8).1 (inb_k g8).2 (aA_k g7).2.2 (by show va_rf ((T.2.2.2.2 n6 l2.toNatClampNeg).map ad) = _; rw [en9]; rfl) dX10_clear_15 ?_
      clear en9
      refine lv_iload_n hx hb dX10_clear_16 rfl (lv_at hl 1 rfl) ?_
      refine lv_lconst (v := 0) hx hb dX10_clear_17 (by decide) ?_
      obtain ⟨g10, h⟩ := oif_some h
      obtain ⟨g11, h⟩ := oif_some h
      refine c_last E G n9 1 (k := l1.toNatClampNeg) (v := (0 : Int64)) (aA_k g10).1 (cc_a101 (aA_k g10).2.1) rfl (inb_k g11).1 (inb_k g11).2 (aA_k g10).2.2 dX10_clear_18 (fun H locs G => ?_)
      have G := gC_up_j (f := vp_updL (T.2.2.2.1 n9) l1.toNatClampNeg (0 : Int64)) (ccv_101 (aA_k g10).2.1) G
      obtain ⟨T12, eT12, h⟩ := elet_some h
      have G : gC cI cJ cZ cMic cSrc cSt cAI cAJ D ad A s.heap H locs T12 := by rw [eT12]; exact G
      clear eT12
      obtain ⟨v13, ev13, h⟩ := elet_some h
      refine lv_iinc (v := v13) (lv' := [(2, .int v13), (0, .ref (ad l0)), (1, .int l1)]) hx hb dX10_clear_19 hl (k := 2) rfl ev13.symm (by decide) rfl (fun ls hl => ?_)
      refine lv_goto (tgt := 2) hx hb dX10_clear_22 (by decide) ?_
      have hl := lv_sub hl [1, 2, 0] rfl
      exact ih _ _ _ _ _ _ _ h G hl
def g_X10_clear (T : AT) (o : Nat) (a0 : Int32) : Option (AT) := g_X10_clear_b2 16384 T o a0 0
set_option maxHeartbeats 4000000 in
set_option maxRecDepth 100000 in
theorem u_X10_clear (l : Launch) (hst : l.stackTraces = false) (D : va_G) (cI cJ cZ cMic cSrc cSt cAI cAJ : ClassId) (ad : Nat → Nat) (T : AT) (o : Nat) (a0 : Int32) {T1 : AT} (h : g_X10_clear T o a0 = some T1) : kCv l yX10_clear (Cond.code yX10_clear cX10_clear 3 none :: wsA) 1 0 cI cJ cZ cMic cSrc cSt cAI cAJ D ad T [.ref (ad o), .int a0] (fun T9 => T9 = T1) := by
  intro sz
  refine Met.ofW (cc := cX10_clear) (maxL := 3) (ret := none) (by decide) rfl ?_
  intro p e s m args below meth c s₁ B hml hv
  obtain ⟨rfl, hsz, hP, hK, hD0, hX, hN⟩ := hv
  have hx := B.exec
  have hb := B.bytes
  have hr := B.returns
  have hts := atoms_spec (ws := (Cond.code yX10_clear cX10_clear 3 none :: wsA)) B.pre
  have hown : s.vm.findClass RX10 = some m.cls := findClass_of_methodNamed B.named
  have hlocks := B.notSynchronized
  subst hsz
  have hD := hD0.self (sz := s.heap.size)
  generalize hAe : va_A (cW ad T.1 (cc cI cJ cZ cMic cSrc cSt cAI cAJ ad T)) s.heap.size = A at hD hX ⊢
  have hA : ∀ q : Nat, s.heap.size ≤ q → A q := fun q h => by rw [← hAe]; exact Or.inr h
  have G : gC cI cJ cZ cMic cSrc cSt cAI cAJ D ad A s.heap s.heap [] T := ⟨hP, hD, va_S.rf⟩
  have E : cE p c cX10_clear s m ([.ref (ad o), .int a0] : List Value).toArray (Cond.code yX10_clear cX10_clear 3 none :: wsA) D RX10 (CT cI cJ cZ cMic cSrc cSt cAI cAJ) := ⟨hx, hb, hts, hown, hK⟩
  have hl := lv_entry ([.ref (ad o), .int a0]) (n := 3) (Nat.le_of_ble_eq_true rfl)
  rw [lg_entry_eq]
  generalize (lg_sl ([.ref (ad o), .int a0]) ++ List.replicate (3 - (lg_sl ([.ref (ad o), .int a0])).length) Slot.unset).toArray = ls at hl ⊢
  have hl : lv_has ls 3 [(0, .ref (ad o)), (1, .int a0)] := hl
  unfold g_X10_clear at h
  refine lv_iconst (v := 0) hx hb dX10_clear_0 (by decide) ?_
  refine lv_istore_n (lv' := [(2, .int 0), (0, .ref (ad o)), (1, .int a0)]) hx hb dX10_clear_1 rfl hl (by decide) rfl (fun ls hl => ?_)
  have hl := lv_sub hl [1, 2, 0] rfl
  exact u_X10_clear_b2 E hA hX hN hml hst (fun H locs ls G => W.vret hx hb hr (fun t ht hW => ⟨⟨T1, rfl, rfl, ⟨by rw [ht]; exact G.1, va_K.moved hW.alike hK, G.2.1⟩⟩, G.2.2.F ht⟩) G.2.2.2.2 dX10_clear_25) _ _ _ _ _ _ _ _ h G hl
set_option maxHeartbeats 4000000 in
set_option maxRecDepth 100000 in
theorem s_X10_clear_b2 {T1 : AT} : ∀ n : Nat, ∀ (T : AT) (l0 : Nat) (l1 : Int32) (l2 : Int32), g_X10_clear_b2 n T l0 l1 l2 = some T1 → SP T T1 := by
  intro n
  induction n with
  | zero =>
    intro T l0 l1 l2 h
    have h : (none : Option (AT)) = some T1 := h
    cases h
  | succ n ih =>
    intro T l0 l1 l2 h
    have p0 := SP.rf T
    unfold g_X10_clear_b2 at h
    obtain ⟨g2, h⟩ := oif_some h
    obtain ⟨v3, -, h⟩ := elet_some h
    rcases oif_or h with ⟨c4, h⟩ | ⟨c4, h⟩
    · have h := h
      rw [← osome1 h]
      exact p0
    · have h := h
      obtain ⟨g5, h⟩ := oif_some h
      obtain ⟨n6, en6, h⟩ := obind_some h
      obtain ⟨g7, h⟩ := oif_some h
      obtain ⟨g8, h⟩ := oif_some h
      obtain ⟨n9, en9, h⟩ := obind_some h
      obtain ⟨g10, h⟩ := oif_some h
      obtain ⟨g11, h⟩ := oif_some h
      obtain ⟨T12, eT12, h⟩ := elet_some h
      have p1 : SP T T12 := SP.tr p0 (by rw [eT12]; exact sp_uJ)
      obtain ⟨v13, ev13, h⟩ := elet_some h
      exact SP.tr p1 (ih _ _ _ _ h)
set_option maxHeartbeats 4000000 in
set_option maxRecDepth 100000 in
theorem s_X10_clear {T : AT} {o : Nat} {a0 : Int32} {T1 : AT} (h : g_X10_clear T o a0 = some T1) : SP T T1 := by
  have p0 := SP.rf T
  unfold g_X10_clear at h
  exact SP.tr p0 (s_X10_clear_b2 _ _ _ _ _ h)
def g_X10_isBeyondPart_b24   (s0 : Int32) : Option (Int32) := oif (s0 = 0 ∨ s0 = 1) <| some s0
set_option maxHeartbeats 4000000 in
set_option maxRecDepth 100000 in
theorem u_X10_isBeyondPart_b24 {p : Program} {l : Launch} {e : Env} {s : State} {m : MethodId} {args : Array Value} {below : List Frame} {meth : Method} {c : Code} {Q : State → Prop} {r1 : Int32}  (E : p.tables.exec = Jvm.exec ∧ c.code = cX10_isBeyondPart ∧ (∀ w ∈ (Cond.code yX10_isBeyondPart cX10_isBeyondPart 4 (some .boolean) :: wsA), w.before args s = true) ∧ s.vm.findClass RX10 = some m.cls) (hN : nX s) (hml : c.maxLocals = 4) (kr24 : ∀ (ls : Array Slot), (r1 = 0 ∨ r1 = 1) → W p l e { frames := 1, cells := 0, slots := 0, locals := 0 } s m args below meth c s.heap [] 0 0 Q (F0 m 24 ls [.int r1])) : ∀ (ls : Array Slot) (s0 : Int32), g_X10_isBeyondPart_b24 s0 = some r1 → lv_has ls 4 [] → W p l e { frames := 1, cells := 0, slots := 0, locals := 0 } s m args below meth c s.heap [] 0 0 Q (F0 m 24 ls [.int s0]) := by
  have hx := E.1
  have hb := E.2.1
  have hts := E.2.2.1
  have hown := E.2.2.2
  intro ls s0 h hl
  unfold g_X10_isBeyondPart_b24 at h
  obtain ⟨gz, h⟩ := oif_some h
  have gr : r1 = 0 ∨ r1 = 1 := by rw [← osome1 h]; exact gz
  refine lv_to (osome1 h) ?_
  exact kr24 _ gr
def g_X10_isBeyondPart_b23    : Option (Int32) := g_X10_isBeyondPart_b24 0
set_option maxHeartbeats 4000000 in
set_option maxRecDepth 100000 in
theorem u_X10_isBeyondPart_b23 {p : Program} {l : Launch} {e : Env} {s : State} {m : MethodId} {args : Array Value} {below : List Frame} {meth : Method} {c : Code} {Q : State → Prop} {r1 : Int32}  (E : p.tables.exec = Jvm.exec ∧ c.code = cX10_isBeyondPart ∧ (∀ w ∈ (Cond.code yX10_isBeyondPart cX10_isBeyondPart 4 (some .boolean) :: wsA), w.before args s = true) ∧ s.vm.findClass RX10 = some m.cls) (hN : nX s) (hml : c.maxLocals = 4) (kr24 : ∀ (ls : Array Slot), (r1 = 0 ∨ r1 = 1) → W p l e { frames := 1, cells := 0, slots := 0, locals := 0 } s m args below meth c s.heap [] 0 0 Q (F0 m 24 ls [.int r1])) : ∀ (ls : Array Slot), g_X10_isBeyondPart_b23 = some r1 → lv_has ls 4 [] → W p l e { frames := 1, cells := 0, slots := 0, locals := 0 } s m args below meth c s.heap [] 0 0 Q (F0 m 23 ls []) := by
  have hx := E.1
  have hb := E.2.1
  have hts := E.2.2.1
  have hown := E.2.2.2
  intro ls h hl
  unfold g_X10_isBeyondPart_b23 at h
  refine lv_iconst (v := 0) hx hb dX10_isBeyondPart_23 (by decide) ?_
  have hl := lv_sub hl [] rfl
  exact u_X10_isBeyondPart_b24 E hN hml kr24 _ _ h hl
def g_X10_isBeyondPart  (a0 : Int64) : Option (Int32) := elet (a0 >>> ((28 : Int32).toInt64 &&& 63)) fun v2 => elet (lg_cmp v2 (0 : Int64)) fun v3 => if v3 = 0 then (g_X10_isBeyondPart_b23) else (elet (lg_cmp v2 (-1 : Int64)) fun v5 => if v5 = 0 then (g_X10_isBeyondPart_b23) else (g_X10_isBeyondPart_b24 1))
set_option maxHeartbeats 4000000 in
set_option maxRecDepth 100000 in
theorem u_X10_isBeyondPart (l : Launch) (a0 : Int64) {r1 : Int32} (h : g_X10_isBeyondPart a0 = some r1) : Met l yX10_isBeyondPart (Cond.code yX10_isBeyondPart cX10_isBeyondPart 4 (some .boolean) :: wsA) { frames := 1, cells := 0, slots := 0, locals := 0 } (va_Pc [.long a0] nX) (vp_Si (fun r => r = r1)) 0 0 (fun _ => False) := by
  refine Met.ofW (cc := cX10_isBeyondPart) (maxL := 4) (ret := (some .boolean)) (by decide) rfl ?_
  intro p e s m args below meth c s₁ B hml hv
  obtain ⟨rfl, hN⟩ := hv
  have hx := B.exec
  have hb := B.bytes
  have hr := B.returns
  have hts := atoms_spec (ws := (Cond.code yX10_isBeyondPart cX10_isBeyondPart 4 (some .boolean) :: wsA)) B.pre
  have hown : s.vm.findClass RX10 = some m.cls := findClass_of_methodNamed B.named
  have hlocks := B.notSynchronized
  have E : p.tables.exec = Jvm.exec ∧ c.code = cX10_isBeyondPart ∧ (∀ w ∈ (Cond.code yX10_isBeyondPart cX10_isBeyondPart 4 (some .boolean) :: wsA), w.before ([.long a0] : List Value).toArray s = true) ∧ s.vm.findClass RX10 = some m.cls := ⟨hx, hb, hts, hown⟩
  have hl := lv_entry ([.long a0]) (n := 4) (Nat.le_of_ble_eq_true rfl)
  rw [lg_entry_eq]
  generalize (lg_sl ([.long a0]) ++ List.replicate (4 - (lg_sl ([.long a0])).length) Slot.unset).toArray = ls at hl ⊢
  have hl : lv_has ls 4 [(0, .long a0)] := hl
  unfold g_X10_isBeyondPart at h
  refine lv_lload_n hx hb dX10_isBeyondPart_0 rfl (lv_at hl 0 rfl) ?_
  refine lv_bipush (v := 28) hx hb dX10_isBeyondPart_1 (by decide) ?_
  refine lv_lshr (v := a0 >>> ((28 : Int32).toInt64 &&& 63)) hx hb dX10_isBeyondPart_3 rfl ?_
  refine lv_topl (fun v2 ev2 => ?_)
  have h := elet_at ev2 h
  clear ev2
  refine lv_lstore_n (lv' := [(2, .long v2), (0, .long a0)]) hx hb dX10_isBeyondPart_4 rfl hl (by decide) rfl (fun ls hl => ?_)
  refine lv_lload_n hx hb dX10_isBeyondPart_5 rfl (lv_at hl 0 rfl) ?_
  refine lv_lconst (v := 0) hx hb dX10_isBeyondPart_6 (by decide) ?_
  refine W.lcmp hx hb dX10_isBeyondPart_7 ?_
  refine lv_topi (fun v3 ev3 => ?_)
  have h := elet_at ev3 h
  clear ev3
  refine lv_if_eq (tgt := 23) hx hb dX10_isBeyondPart_8 (by decide) (fun c4 => ?_) (fun c4 => ?_)
  · have h := oif_pos c4 h
    have hl := lv_sub hl [] rfl
    exact u_X10_isBeyondPart_b23 E hN hml (fun ls gz => W.zret (v := r1) hx hb hr (nar01 gz) (fun t ht hW => ⟨r1, rfl, rfl, ht⟩) (fun _ h => absurd h List.not_mem_nil) dX10_isBeyondPart_24) _ h hl
  · have h := oif_neg c4 h
    refine lv_lload_n hx hb dX10_isBeyondPart_11 rfl (lv_at hl 0 rfl) ?_
    refine lv_ldc2 (v := -1) hx hb hown (hts (.constantLong RX10 65 (-1)) (.tail _ qA_97)) dX10_isBeyondPart_12 ?_
    refine W.lcmp hx hb dX10_isBeyondPart_15 ?_
    refine lv_topi (fun v5 ev5 => ?_)
    have h := elet_at ev5 h
    clear ev5
    refine lv_if_eq (tgt := 23) hx hb dX10_isBeyondPart_16 (by decide) (fun c6 => ?_) (fun c6 => ?_)
    · have h := oif_pos c6 h
      have hl := lv_sub hl [] rfl
      exact u_X10_isBeyondPart_b23 E hN hml (fun ls gz => W.zret (v := r1) hx hb hr (nar01 gz) (fun t ht hW => ⟨r1, rfl, rfl, ht⟩) (fun _ h => absurd h List.not_mem_nil) dX10_isBeyondPart_24) _ h hl
    · have h := oif_neg c6 h
      refine lv_iconst (v := 1) hx hb dX10_isBeyondPart_19 (by decide) ?_
      refine lv_goto (tgt := 24) hx hb dX10_isBeyondPart_20 (by decide) ?_
      have hl := lv_sub hl [] rfl
      exact u_X10_isBeyondPart_b24 E hN hml (fun ls gz => W.zret (v := r1) hx hb hr (nar01 gz) (fun t ht hW => ⟨r1, rfl, rfl, ht⟩) (fun _ h => absurd h List.not_mem_nil) dX10_isBeyondPart_24) _ _ h hl
def g_X10_widenTo_b108  (T : AT)  : Option (AT) := some T
def g_X10_widenTo_b40 (k5 : AT → Nat → Int32 → Int32 → Option (AT)) : Nat → AT → Nat → Int32 → Int32 → Int32 → Option (AT)
  | 0, _, _, _, _, _ => none
  | n + 1, T, l0, l1, l2, l3 => oif (oO T l0 10 = true) <| elet (T.2.2.1 l0 0) fun v3 => if v3 ≤ l3 then (elet (l2 + 1) fun v5 => oif (oO T l0 10 = true) <| elet (uI T l0 2 v5) fun T7 => elet (l2 + Int32.ofInt (1)) fun v8 => k5 T7 l0 l1 v8) else (oif (oO T l0 10 = true) <| obind (T.2.2.2.2 l0 1) fun n10 => elet (l2 - 1) fun v11 => oif (aA T n10 107 = true) <| oif (inb v11 (T.2.1 n10).2 = true) <| obind (T.2.2.2.2 n10 v11.toNatClampNeg) fun n14 => oif (aA T n14 101 = true) <| oif (inb l3 (T.2.1 n14).2 = true) <| elet (T.2.2.2.1 n14 l3.toNatClampNeg) fun v17 => oif (oO T l0 10 = true) <| obind (T.2.2.2.2 l0 1) fun n19 => elet (l2 - 1) fun v20 => oif (aA T n19 107 = true) <| oif (inb v20 (T.2.1 n19).2 = true) <| obind (T.2.2.2.2 n19 v20.toNatClampNeg) fun n23 => elet (v17 &&& (268435455 : Int64)) fun v24 => oif (aA T n23 101 = true) <| oif (inb l3 (T.2.1 n23).2 = true) <| elet (uJ T n23 l3.toNatClampNeg v24) fun T27 => oif (oO T27 l0 10 = true) <| obind (T27.2.2.2.2 l0 1) fun n29 => oif (aA T27 n29 107 = true) <| oif (inb l2 (T27.2.1 n29).2 = true) <| obind (T27.2.2.2.2 n29 l2.toNatClampNeg) fun n32 => elet (v17 >>> ((28 : Int32).toInt64 &&& 63)) fun v33 => oif (aA T27 n32 101 = true) <| oif (inb l3 (T27.2.1 n32).2 = true) <| elet (uJ T27 n32 l3.toNatClampNeg v33) fun T36 => elet (l3 + Int32.ofInt (1)) fun v37 => g_X10_widenTo_b40 k5 n T36 l0 l1 l2 v37)
def g_X10_widenTo_b38 (k5 : AT → Nat → Int32 → Int32 → Option (AT)) (T : AT) (l0 : Nat) (l1 : Int32) (l2 : Int32) : Option (AT) := g_X10_widenTo_b40 k5 16384 T l0 l1 l2 0
def g_X10_widenTo_b37 (k5 : AT → Nat → Int32 → Int32 → Option (AT)) (T : AT) (s0 : Nat) (s1 : Int32) (s2 : Nat) (l0 : Nat) (l1 : Int32) (l2 : Int32) : Option (AT) := oif (aA T s2 107 = true) <| oif (inb s1 (T.2.1 s2).2 = true) <| oif (aA T s0 101 = true) <| elet (uR T s2 s1.toNatClampNeg s0) fun T5 => g_X10_widenTo_b38 k5 T5 l0 l1 l2
def g_X10_widenTo_b5  : Nat → AT → Nat → Int32 → Int32 → Option (AT)
  | 0, _, _, _, _ => none
  | n + 1, T, l0, l1, l2 => if l1 ≤ l2 then (g_X10_widenTo_b108 T) else (if 40 ≤ l2 then (g_X10_widenTo_b108 T) else (oif (oO T l0 10 = true) <| obind (T.2.2.2.2 l0 1) fun n5 => oif (aA T n5 107 = true) <| oif (inb l2 (T.2.1 n5).2 = true) <| obind (T.2.2.2.2 n5 l2.toNatClampNeg) fun n8 => oif (aA T n8 101 = true) <| elet (nI (T.2.1 n8).2) fun v10 => if v10 = 0 then (oif (oO T l0 10 = true) <| obind (T.2.2.2.2 l0 1) fun n13 => oif (oO T l0 10 = true) <| elet (T.2.2.1 l0 0) fun v15 => oif (inb v15 100001 = true) <| elet (newJ T (v15.toNatClampNeg)) fun T17 => g_X10_widenTo_b37 (g_X10_widenTo_b5 n) T17 T.1 l2 n13 l0 l1 l2) else (g_X10_widenTo_b38 (g_X10_widenTo_b5 n) T l0 l1 l2)))
def g_X10_widenTo (T : AT) (o : Nat) (a0 : Int32) : Option (AT) := oif (oO T o 10 = true) <| elet (T.2.2.1 o 2) fun v3 => g_X10_widenTo_b5 16384 T o a0 v3
set_option maxHeartbeats 4000000 in
set_option maxRecDepth 100000 in
theorem s_X10_widenTo_b108 {T1 : AT} : ∀ (T : AT), g_X10_widenTo_b108 T = some T1 → GL T T1 := by
  intro T h
  have p0 := GL.rf T
  unfold g_X10_widenTo_b108 at h
  rw [← osome1 h]
  exact p0
set_option maxHeartbeats 4000000 in
set_option maxRecDepth 100000 in
theorem s_X10_widenTo_b40 {T1 : AT} {k5 : AT → Nat → Int32 → Int32 → Option (AT)} (hk5 : ∀ (T : AT) (l0 : Nat) (l1 : Int32) (l2 : Int32), k5 T l0 l1 l2 = some T1 → GL T T1) : ∀ n : Nat, ∀ (T : AT) (l0 : Nat) (l1 : Int32) (l2 : Int32) (l3 : Int32), g_X10_widenTo_b40 k5 n T l0 l1 l2 l3 = some T1 → GL T T1 := by
  intro n
  induction n with
  | zero =>
    intro T l0 l1 l2 l3 h
    have h : (none : Option (AT)) = some T1 := h
    cases h
  | succ n ih =>
    intro T l0 l1 l2 l3 h
    have p0 := GL.rf T
    unfold g_X10_widenTo_b40 at h
    obtain ⟨g2, h⟩ := oif_some h
    obtain ⟨v3, -, h⟩ := elet_some h
    rcases oif_or h with ⟨c4, h⟩ | ⟨c4, h⟩
    · have h := h
      obtain ⟨v5, -, h⟩ := elet_some h
      obtain ⟨g6, h⟩ := oif_some h
      obtain ⟨T7, eT7, h⟩ := elet_some h
      have p1 : GL T T7 := GL.tr p0 (by rw [eT7]; exact gl_sp sp_uI)
      obtain ⟨v8, ev8, h⟩ := elet_some h
      exact GL.tr p1 (hk5 _ _ _ _ h)
    · have h := h
      obtain ⟨g9, h⟩ := oif_some h
      obtain ⟨n10, en10, h⟩ := obind_some h
      obtain ⟨v11, -, h⟩ := elet_some h
      obtain ⟨g12, h⟩ := oif_some h
      obtain ⟨g13, h⟩ := oif_some h
      obtain ⟨n14, en14, h⟩ := obind_some h
      obtain ⟨g15, h⟩ := oif_some h
      obtain ⟨g16, h⟩ := oif_some h
      obtain ⟨v17, -, h⟩ := elet_some h
      obtain ⟨g18, h⟩ := oif_some h
      obtain ⟨n19, en19, h⟩ := obind_some h
      obtain ⟨v20, -, h⟩ := elet_some h
      obtain ⟨g21, h⟩ := oif_some h
      obtain ⟨g22, h⟩ := oif_some h
      obtain ⟨n23, en23, h⟩ := obind_some h
      obtain ⟨v24, -, h⟩ := elet_some h
      obtain ⟨g25, h⟩ := oif_some h
      obtain ⟨g26, h⟩ := oif_some h
      obtain ⟨T27, eT27, h⟩ := elet_some h
      have p1 : GL T T27 := GL.tr p0 (by rw [eT27]; exact gl_sp sp_uJ)
      obtain ⟨g28, h⟩ := oif_some h
      obtain ⟨n29, en29, h⟩ := obind_some h
      obtain ⟨g30, h⟩ := oif_some h
      obtain ⟨g31, h⟩ := oif_some h
      obtain ⟨n32, en32, h⟩ := obind_some h
      obtain ⟨v33, -, h⟩ := elet_some h
      obtain ⟨g34, h⟩ := oif_some h
      obtain ⟨g35, h⟩ := oif_some h
      obtain ⟨T36, eT36, h⟩ := elet_some h
      have p2 : GL T T36 := GL.tr p1 (by rw [eT36]; exact gl_sp sp_uJ)
      obtain ⟨v37, ev37, h⟩ := elet_some h
      exact GL.tr p2 (ih _ _ _ _ _ h)
set_option maxHeartbeats 4000000 in
set_option maxRecDepth 100000 in
theorem s_X10_widenTo_b38 {T1 : AT} {k5 : AT → Nat → Int32 → Int32 → Option (AT)} (hk5 : ∀ (T : AT) (l0 : Nat) (l1 : Int32) (l2 : Int32), k5 T l0 l1 l2 = some T1 → GL T T1) : ∀ (T : AT) (l0 : Nat) (l1 : Int32) (l2 : Int32), g_X10_widenTo_b38 k5 T l0 l1 l2 = some T1 → GL T T1 := by
  intro T l0 l1 l2 h
  have p0 := GL.rf T
  unfold g_X10_widenTo_b38 at h
  exact GL.tr p0 (s_X10_widenTo_b40 hk5 _ _ _ _ _ _ h)
set_option maxHeartbeats 4000000 in
set_option maxRecDepth 100000 in
theorem s_X10_widenTo_b37 {T1 : AT} {k5 : AT → Nat → Int32 → Int32 → Option (AT)} (hk5 : ∀ (T : AT) (l0 : Nat) (l1 : Int32) (l2 : Int32), k5 T l0 l1 l2 = some T1 → GL T T1) : ∀ (T : AT) (s0 : Nat) (s1 : Int32) (s2 : Nat) (l0 : Nat) (l1 : Int32) (l2 : Int32), g_X10_widenTo_b37 k5 T s0 s1 s2 l0 l1 l2 = some T1 → GL T T1 := by
  intro T s0 s1 s2 l0 l1 l2 h
  have p0 := GL.rf T
  unfold g_X10_widenTo_b37 at h
  obtain ⟨g2, h⟩ := oif_some h
  obtain ⟨g3, h⟩ := oif_some h
  obtain ⟨g4, h⟩ := oif_some h
  obtain ⟨T5, eT5, h⟩ := elet_some h
  have p1 : GL T T5 := GL.tr p0 (by rw [eT5]; exact gl_uR (aA_k g4).1)
  exact GL.tr p1 (s_X10_widenTo_b38 hk5 _ _ _ _ h)
set_option maxHeartbeats 4000000 in
set_option maxRecDepth 100000 in
theorem s_X10_widenTo_b5 {T1 : AT} : ∀ n : Nat, ∀ (T : AT) (l0 : Nat) (l1 : Int32) (l2 : Int32), g_X10_widenTo_b5 n T l0 l1 l2 = some T1 → GL T T1 := by
  intro n
  induction n with
  | zero =>
    intro T l0 l1 l2 h
    have h : (none : Option (AT)) = some T1 := h
    cases h
  | succ n ih =>
    intro T l0 l1 l2 h
    have p0 := GL.rf T
    unfold g_X10_widenTo_b5 at h
    rcases oif_or h with ⟨c2, h⟩ | ⟨c2, h⟩
    · have h := h
      exact GL.tr p0 (s_X10_widenTo_b108 _ h)
    · have h := h
      rcases oif_or h with ⟨c3, h⟩ | ⟨c3, h⟩
      · have h := h
        exact GL.tr p0 (s_X10_widenTo_b108 _ h)
      · have h := h
        obtain ⟨g4, h⟩ := oif_some h
        obtain ⟨n5, en5, h⟩ := obind_some h
        obtain ⟨g6, h⟩ := oif_some h
        obtain ⟨g7, h⟩ := oif_some h
        obtain ⟨n8, en8, h⟩ := obind_some h
        obtain ⟨g9, h⟩ := oif_some h
        obtain ⟨v10, -, h⟩ := elet_some h
        rcases oif_or h with ⟨c11, h⟩ | ⟨c11, h⟩
        · have h := h
          obtain ⟨g12, h⟩ := oif_some h
          obtain ⟨n13, en13, h⟩ := obind_some h
          obtain ⟨g14, h⟩ := oif_some h
          obtain ⟨v15, -, h⟩ := elet_some h
          obtain ⟨g16, h⟩ := oif_some h
          obtain ⟨T17, eT17, h⟩ := elet_some h
          have p1 : GL T T17 := GL.tr p0 (by rw [eT17]; exact gl_newJ)
          exact GL.tr p1 (s_X10_widenTo_b37 ih _ _ _ _ _ _ _ h)
        · have h := h
          exact GL.tr p0 (s_X10_widenTo_b38 ih _ _ _ _ h)
set_option maxHeartbeats 4000000 in
set_option maxRecDepth 100000 in
theorem s_X10_widenTo {T : AT} {o : Nat} {a0 : Int32} {T1 : AT} (h : g_X10_widenTo T o a0 = some T1) : GL T T1 := by
  have p0 := GL.rf T
  unfold g_X10_widenTo at h
  obtain ⟨g2, h⟩ := oif_some h
  obtain ⟨v3, -, h⟩ := elet_some h
  exact GL.tr p0 (s_X10_widenTo_b5 _ _ _ _ _ h)
set_option maxHeartbeats 4000000 in
set_option maxRecDepth 100000 in
theorem a_X10_widenTo_b108 {p : Program} {l : Launch} {e : Env} {s : State} {m : MethodId} {args : Array Value} {below : List Frame} {meth : Method} {c : Code} {Q : State → Prop} {D : va_G} {A : Nat → Prop} {cI cJ cZ cMic cSrc cSt cAI cAJ : ClassId} {ad0 : Nat → Nat} {T0 : AT} {T1 : AT} (E : cE p c cX10_widenTo s m args (Cond.code yX10_widenTo cX10_widenTo 6 none :: wsA) D RX10 (CT cI cJ cZ cMic cSrc cSt cAI cAJ)) (hA : ∀ q : Nat, s.heap.size ≤ q → A q) (hX : xT A s) (hN : nX s) (hml : c.maxLocals = 6) (hst : l.stackTraces = false) (kr108 : ∀ (ad : Nat → Nat) (H : Heap) (locs : List Loc) (ls : Array Slot), (∀ n, n < T0.1 → ad n = ad0 n) → gC cI cJ cZ cMic cSrc cSt cAI cAJ D ad A s.heap H locs T1 → W p l e { frames := 1, cells := T1.1 - T0.1, slots := sg T1 - sg T0, locals := 0 } s m args below meth c H locs (T1.1 - T0.1) (sg T1 - sg T0) Q (F0 m 108 ls [])) : ∀ (T : AT) (ad : Nat → Nat) (H : Heap) (locs : List Loc) (ls : Array Slot), g_X10_widenTo_b108 T = some T1 → GL T0 T → RC T → (∀ n, n < T0.1 → ad n = ad0 n) → gC cI cJ cZ cMic cSrc cSt cAI cAJ D ad A s.heap H locs T → lv_has ls 6 [] → W p l e { frames := 1, cells := T1.1 - T0.1, slots := sg T1 - sg T0, locals := 0 } s m args below meth c H locs (T.1 - T0.1) (sg T - sg T0) Q (F0 m 108 ls []) := by
  have hx := E.1
  have hb := E.2.1
  have hts := E.2.2.1
  have hown := E.2.2.2.1
  have hK := E.2.2.2.2
  intro T ad H locs ls h hgl hrc had G hl
  have hT1 := s_X10_widenTo_b108 _ h
  have hcs := cs_ok hgl hT1
  have cp0 := cpr0 hrc
  unfold g_X10_widenTo_b108 at h
  rw [osome1 h] at G
  refine w_cast (c2 := T1.1 - T0.1) (s2 := sg T1 - sg T0) (by rw [← osome1 h, cp0.1] <;> rfl) (by rw [← osome1 h, sg_cpr cp0] <;> rfl) ?_
  exact kr108 ad _ _ _ had G
set_option maxHeartbeats 4000000 in
set_option maxRecDepth 100000 in
theorem a_X10_widenTo_b40 {p : Program} {l : Launch} {e : Env} {s : State} {m : MethodId} {args : Array Value} {below : List Frame} {meth : Method} {c : Code} {Q : State → Prop} {D : va_G} {A : Nat → Prop} {cI cJ cZ cMic cSrc cSt cAI cAJ : ClassId} {ad0 : Nat → Nat} {T0 : AT} {T1 : AT} (E : cE p c cX10_widenTo s m args (Cond.code yX10_widenTo cX10_widenTo 6 none :: wsA) D RX10 (CT cI cJ cZ cMic cSrc cSt cAI cAJ)) (hA : ∀ q : Nat, s.heap.size ≤ q → A q) (hX : xT A s) (hN : nX s) (hml : c.maxLocals = 6) (hst : l.stackTraces = false) (kr108 : ∀ (ad : Nat → Nat) (H : Heap) (locs : List Loc) (ls : Array Slot), (∀ n, n < T0.1 → ad n = ad0 n) → gC cI cJ cZ cMic cSrc cSt cAI cAJ D ad A s.heap H locs T1 → W p l e { frames := 1, cells := T1.1 - T0.1, slots := sg T1 - sg T0, locals := 0 } s m args below meth c H locs (T1.1 - T0.1) (sg T1 - sg T0) Q (F0 m 108 ls [])) {k5 : AT → Nat → Int32 → Int32 → Option (AT)} (hs5 : ∀ (T : AT) (l0 : Nat) (l1 : Int32) (l2 : Int32), k5 T l0 l1 l2 = some T1 → GL T T1) (hk5 : ∀ (T : AT) (ad : Nat → Nat) (H : Heap) (locs : List Loc) (ls : Array Slot) (l0 : Nat) (l1 : Int32) (l2 : Int32), k5 T l0 l1 l2 = some T1 → GL T0 T → RC T → (∀ n, n < T0.1 → ad n = ad0 n) → l0 < T.1 → gC cI cJ cZ cMic cSrc cSt cAI cAJ D ad A s.heap H locs T → lv_has ls 6 [(0, .ref (ad l0)), (1, .int l1), (2, .int l2)] → W p l e { frames := 1, cells := T1.1 - T0.1, slots := sg T1 - sg T0, locals := 0 } s m args below meth c H locs (T.1 - T0.1) (sg T - sg T0) Q (F0 m 5 ls [])) : ∀ n : Nat, ∀ (T : AT) (ad : Nat → Nat) (H : Heap) (locs : List Loc) (ls : Array Slot) (l0 : Nat) (l1 : Int32) (l2 : Int32) (l3 : Int32), g_X10_widenTo_b40 k5 n T l0 l1 l2 l3 = some T1 → GL T0 T → RC T → (∀ n, n < T0.1 → ad n = ad0 n) → l0 < T.1 → gC cI cJ cZ cMic cSrc cSt cAI cAJ D ad A s.heap H locs T → lv_has ls 6 [(0, .ref (ad l0)), (1, .int l1), (2, .int l2), (3, .int l3)] → W p l e { frames := 1, cells := T1.1 - T0.1, slots := sg T1 - sg T0, locals := 0 } s m args below meth c H locs (T.1 - T0.1) (sg T - sg T0) Q (F0 m 40 ls []) := by
  have hx := E.1
  have hb := E.2.1
  have hts := E.2.2.1
  have hown := E.2.2.2.1
  have hK := E.2.2.2.2
  intro n
  induction n with
  | zero =>
    intro T ad H locs ls l0 l1 l2 l3 h
    have h : (none : Option (AT)) = some T1 := h
    cases h
  | succ n ih =>
    intro T ad H locs ls l0 l1 l2 l3 h hgl hrc had h_l0 G hl
    have hT1 := s_X10_widenTo_b40 hs5 _ _ _ _ _ _ h
    have hcs := cs_ok hgl hT1
    have cp0 := cpr0 hrc
    unfold g_X10_widenTo_b40 at h
    refine lv_iload_n hx hb dX10_widenTo_40 rfl (lv_at hl 3 rfl) ?_
    refine lv_aload_n hx hb dX10_widenTo_41 rfl (lv_at hl 0 rfl) ?_
    obtain ⟨g2, h⟩ := oif_some h
    refine c_get E G l0 0 (oO_k g2).1 (cc_o10 (oO_k g2).2) rfl (fun w h => .tail _ (iA_12 h)) (by decide) (.tail _ qA_20) rfl rfl dX10_widenTo_42 ?_
    refine lv_topi (fun v3 ev3 => ?_)
    have h := elet_at ev3 h
    clear ev3
    refine lv_icmp_ge (tgt := 95) hx hb dX10_widenTo_45 (by decide) (fun c4 => ?_) (fun c4 => ?_)
    · have h := oif_pos c4 h
      refine lv_aload_n hx hb dX10_widenTo_95 rfl (lv_at hl 0 rfl) ?_
      refine lv_iload_n hx hb dX10_widenTo_96 rfl (lv_at hl 2 rfl) ?_
      refine lv_iconst (v := 1) hx hb dX10_widenTo_97 (by decide) ?_
      refine lv_iadd hx hb dX10_widenTo_98 ?_
      refine lv_topi (fun v5 ev5 => ?_)
      have h := elet_at ev5 h
      clear ev5
      obtain ⟨g6, h⟩ := oif_some h
      refine c_put E G l0 2 (v := .int v5) (oO_k g6).1 (cc_o10 (oO_k g6).2) rfl (fun w h => .tail _ (iA_12 h)) tyX10 tyX10_ok nmX10 (by decide) (.tail _ qA_15) ⟨rfl, rfl, rfl⟩ rfl rfl (Nat.le_of_ble_eq_true rfl) dX10_widenTo_99 (fun H locs G => ?_)
      have G := gC_up_i (f := upd (T.2.2.1 l0) 2 v5) (by rw [(oO_k g6).2]; rfl) G
      obtain ⟨T7, eT7, h⟩ := elet_some h
      have G : gC cI cJ cZ cMic cSrc cSt cAI cAJ D ad A s.heap H locs T7 := by rw [eT7]; exact G
      have cp1 := show CPR T T7 from by rw [eT7]; exact cpr_sp cp0 sp_uI
      clear eT7
      obtain ⟨v8, ev8, h⟩ := elet_some h
      refine lv_iinc (v := v8) (lv' := [(2, .int v8), (0, .ref (ad l0)), (1, .int l1), (3, .int l3)]) hx hb dX10_widenTo_102 hl (k := 2) rfl ev8.symm (by decide) rfl (fun ls hl => ?_)
      refine lv_goto (tgt := 5) hx hb dX10_widenTo_105 (by decide) ?_
      have hl := lv_sub hl [1, 2, 0] rfl
      refine w_cast (c2 := T7.1 - T0.1) (s2 := sg T7 - sg T0) (by rw [cp1.1] <;> rfl) (by rw [sg_cpr cp1] <;> rfl) ?_
      exact hk5 _ _ _ _ _ _ _ _ h (gl_cpr hgl cp1) cp1.2.2 had (by rw [cp1.1]; exact h_l0) G hl
    · have h := oif_neg c4 h
      refine lv_aload_n hx hb dX10_widenTo_48 rfl (lv_at hl 0 rfl) ?_
      obtain ⟨g9, h⟩ := oif_some h
      obtain ⟨n10, en10, h⟩ := obind_some h
      have h_n10 : n10 < T.1 := by rw [← cp0.1]; exact cp0.2.2 _ _ _ en10
      refine c_get E G l0 1 (v := .ref (ad n10)) (oO_k g9).1 (cc_o10 (oO_k g9).2) rfl (fun w h => .tail _ (iA_12 h)) (by decide) (.tail _ qA_14) rfl (by rw [en10]; rfl) dX10_widenTo_49 ?_
      clear en10
      refine lv_iload_n hx hb dX10_widenTo_52 rfl (lv_at hl 2 rfl) ?_
      refine lv_iconst (v := 1) hx hb dX10_widenTo_53 (by decide) ?_
      refine lv_isub hx hb dX10_widenTo_54 ?_
      refine lv_topi (fun v11 ev11 => ?_)
      have h := elet_at ev11 h
      clear ev11
      obtain ⟨g12, h⟩ := oif_some h
      obtain ⟨g13, h⟩ := oif_some h
      obtain ⟨n14, en14, h⟩ := obind_some h
      have h_n14 : n14 < T.1 := by rw [← cp0.1]; exact cp0.2.2 _ _ _ en14
      refine c_alda E G n10 7 (k := v11.toNatClampNeg) (v := .ref (ad n14)) (aA_k g12).1 (cc_a107 (aA_k g12).2.1) rfl (inb_k g13).1 (inb_k g13).2 (aA_k g12).2.2 (by show va_rf ((T.2.2.2.2 n10 v11.toNatClampNeg).map ad) = _; rw [en14]; rfl) dX10_widenTo_55 ?_
      clear en14
      refine lv_iload_n hx hb dX10_widenTo_56 rfl (lv_at hl 3 rfl) ?_
      obtain ⟨g15, h⟩ := oif_some h
      obtain ⟨g16, h⟩ := oif_some h
      refine c_lald E G n14 1 (k := l3.toNatClampNeg) (aA_k g15).1 (cc_a101 (aA_k g15).2.1) rfl (inb_k g16).1 (inb_k g16).2 (aA_k g15).2.2 dX10_widenTo_57 ?_
      refine lv_topl (fun v17 ev17 => ?_)
      have h := elet_at ev17 h
      clear ev17
      refine lv_lstore (lv' := [(4, .long v17), (0, .ref (ad l0)), (1, .int l1), (2, .int l2), (3, .int l3)]) hx hb dX10_widenTo_58 hl (by decide) rfl (fun ls hl => ?_)
      refine lv_aload_n hx hb dX10_widenTo_60 rfl (lv_at hl 1 rfl) ?_
      obtain ⟨g18, h⟩ := oif_some h
      obtain ⟨n19, en19, h⟩ := obind_some h
      have h_n19 : n19 < T.1 := by rw [← cp0.1]; exact cp0.2.2 _ _ _ en19
      refine c_get E G l0 1 (v := .ref (ad n19)) (oO_k g18).1 (cc_o10 (oO_k g18).2) rfl (fun w h => .tail _ (iA_12 h)) (by decide) (.tail _ qA_14) rfl (by rw [en19]; rfl) dX10_widenTo_61 ?_
      clear en19
      refine lv_iload_n hx hb dX10_widenTo_64 rfl (lv_at hl 3 rfl) ?_
      refine lv_iconst (v := 1) hx hb dX10_widenTo_65 (by decide) ?_
      refine lv_isub hx hb dX10_widenTo_66 ?_
      refine lv_topi (fun v20 ev20 => ?_)
      have h := elet_at ev20 h
      clear ev20
      obtain ⟨g21, h⟩ := oif_some h
      obtain ⟨g22, h⟩ := oif_some h
      obtain ⟨n23, en23, h⟩ := obind_some h
      have h_n23 : n23 < T.1 := by rw [← cp0.1]; exact cp0.2.2 _ _ _ en23
      refine c_alda E G n19 7 (k := v20.toNatClampNeg) (v := .ref (ad n23)) (aA_k g21).1 (cc_a107 (aA_k g21).2.1) rfl (inb_k g22).1 (inb_k g22).2 (aA_k g21).2.2 (by show va_rf ((T.2.2.2.2 n19 v20.toNatClampNeg).map ad) = _; rw [en23]; rfl) dX10_widenTo_67 ?_
      clear en23
      refine lv_iload_n hx hb dX10_widenTo_68 rfl (lv_at hl 4 rfl) ?_
      refine lv_lload hx hb dX10_widenTo_69 (lv_at hl 0 rfl) ?_
      refine lv_ldc2 (v := 268435455) hx hb hown (hts (.constantLong RX10 59 (268435455)) (.tail _ qA_81)) dX10_widenTo_71 ?_
      refine lv_land hx hb dX10_widenTo_74 ?_
      refine lv_topl (fun v24 ev24 => ?_)
      have h := elet_at ev24 h
      clear ev24
      obtain ⟨g25, h⟩ := oif_some h
      obtain ⟨g26, h⟩ := oif_some h
      refine c_last E G n23 1 (k := l3.toNatClampNeg) (v := v24) (aA_k g25).1 (cc_a101 (aA_k g25).2.1) rfl (inb_k g26).1 (inb_k g26).2 (aA_k g25).2.2 dX10_widenTo_75 (fun H locs G => ?_)
      have G := gC_up_j (f := vp_updL (T.2.2.2.1 n23) l3.toNatClampNeg v24) (ccv_101 (aA_k g25).2.1) G
      obtain ⟨T27, eT27, h⟩ := elet_some h
      have G : gC cI cJ cZ cMic cSrc cSt cAI cAJ D ad A s.heap H locs T27 := by rw [eT27]; exact G
      have cp1 := show CPR T T27 from by rw [eT27]; exact cpr_sp cp0 sp_uJ
      clear eT27
      refine lv_aload_n hx hb dX10_widenTo_76 rfl (lv_at hl 1 rfl) ?_
      obtain ⟨g28, h⟩ := oif_some h
      obtain ⟨n29, en29, h⟩ := obind_some h
      have h_n29 : n29 < T.1 := by rw [← cp1.1]; exact cp1.2.2 _ _ _ en29
      refine c_get E G l0 1 (v := .ref (ad n29)) (oO_k g28).1 (cc_o10 (oO_k g28).2) rfl (fun w h => .tail _ (iA_12 h)) (by decide) (.tail _ qA_14) rfl (by rw [en29]; rfl) dX10_widenTo_77 ?_
      clear en29
      refine lv_iload_n hx hb dX10_widenTo_80 rfl (lv_at hl 3 rfl) ?_
      obtain ⟨g30, h⟩ := oif_some h
      obtain ⟨g31, h⟩ := oif_some h
      obtain ⟨n32, en32, h⟩ := obind_some h
      have h_n32 : n32 < T.1 := by rw [← cp1.1]; exact cp1.2.2 _ _ _ en32
      refine c_alda E G n29 7 (k := l2.toNatClampNeg) (v := .ref (ad n32)) (aA_k g30).1 (cc_a107 (aA_k g30).2.1) rfl (inb_k g31).1 (inb_k g31).2 (aA_k g30).2.2 (by show va_rf ((T27.2.2.2.2 n29 l2.toNatClampNeg).map ad) = _; rw [en32]; rfl) dX10_widenTo_81 ?_
      clear en32
      refine lv_iload_n hx hb dX10_widenTo_82 rfl (lv_at hl 4 rfl) ?_
      refine lv_lload hx hb dX10_widenTo_83 (lv_at hl 0 rfl) ?_
      refine lv_bipush (v := 28) hx hb dX10_widenTo_85 (by decide) ?_
      refine lv_lshr (v := v17 >>> ((28 : Int32).toInt64 &&& 63)) hx hb dX10_widenTo_87 rfl ?_
      refine lv_topl (fun v33 ev33 => ?_)
      have h := elet_at ev33 h
      clear ev33
      obtain ⟨g34, h⟩ := oif_some h
      obtain ⟨g35, h⟩ := oif_some h
      refine c_last E G n32 1 (k := l3.toNatClampNeg) (v := v33) (aA_k g34).1 (cc_a101 (aA_k g34).2.1) rfl (inb_k g35).1 (inb_k g35).2 (aA_k g34).2.2 dX10_widenTo_88 (fun H locs G => ?_)
      have G := gC_up_j (f := vp_updL (T27.2.2.2.1 n32) l3.toNatClampNeg v33) (ccv_101 (aA_k g34).2.1) G
      obtain ⟨T36, eT36, h⟩ := elet_some h
      have G : gC cI cJ cZ cMic cSrc cSt cAI cAJ D ad A s.heap H locs T36 := by rw [eT36]; exact G
      have cp2 := show CPR T T36 from by rw [eT36]; exact cpr_sp cp1 sp_uJ
      clear eT36
      obtain ⟨v37, ev37, h⟩ := elet_some h
      refine lv_iinc (v := v37) (lv' := [(3, .int v37), (4, .long v17), (0, .ref (ad l0)), (1, .int l1), (2, .int l2)]) hx hb dX10_widenTo_89 hl (k := 4) rfl ev37.symm (by decide) rfl (fun ls hl => ?_)
      refine lv_goto (tgt := 40) hx hb dX10_widenTo_92 (by decide) ?_
      have hl := lv_sub hl [2, 3, 4, 0] rfl
      refine w_cast (c2 := T36.1 - T0.1) (s2 := sg T36 - sg T0) (by rw [cp2.1] <;> rfl) (by rw [sg_cpr cp2] <;> rfl) ?_
      exact ih _ _ _ _ _ _ _ _ _ h (gl_cpr hgl cp2) cp2.2.2 had (by rw [cp2.1]; exact h_l0) G hl
set_option maxHeartbeats 4000000 in
set_option maxRecDepth 100000 in
theorem a_X10_widenTo_b38 {p : Program} {l : Launch} {e : Env} {s : State} {m : MethodId} {args : Array Value} {below : List Frame} {meth : Method} {c : Code} {Q : State → Prop} {D : va_G} {A : Nat → Prop} {cI cJ cZ cMic cSrc cSt cAI cAJ : ClassId} {ad0 : Nat → Nat} {T0 : AT} {T1 : AT} (E : cE p c cX10_widenTo s m args (Cond.code yX10_widenTo cX10_widenTo 6 none :: wsA) D RX10 (CT cI cJ cZ cMic cSrc cSt cAI cAJ)) (hA : ∀ q : Nat, s.heap.size ≤ q → A q) (hX : xT A s) (hN : nX s) (hml : c.maxLocals = 6) (hst : l.stackTraces = false) (kr108 : ∀ (ad : Nat → Nat) (H : Heap) (locs : List Loc) (ls : Array Slot), (∀ n, n < T0.1 → ad n = ad0 n) → gC cI cJ cZ cMic cSrc cSt cAI cAJ D ad A s.heap H locs T1 → W p l e { frames := 1, cells := T1.1 - T0.1, slots := sg T1 - sg T0, locals := 0 } s m args below meth c H locs (T1.1 - T0.1) (sg T1 - sg T0) Q (F0 m 108 ls [])) {k5 : AT → Nat → Int32 → Int32 → Option (AT)} (hs5 : ∀ (T : AT) (l0 : Nat) (l1 : Int32) (l2 : Int32), k5 T l0 l1 l2 = some T1 → GL T T1) (hk5 : ∀ (T : AT) (ad : Nat → Nat) (H : Heap) (locs : List Loc) (ls : Array Slot) (l0 : Nat) (l1 : Int32) (l2 : Int32), k5 T l0 l1 l2 = some T1 → GL T0 T → RC T → (∀ n, n < T0.1 → ad n = ad0 n) → l0 < T.1 → gC cI cJ cZ cMic cSrc cSt cAI cAJ D ad A s.heap H locs T → lv_has ls 6 [(0, .ref (ad l0)), (1, .int l1), (2, .int l2)] → W p l e { frames := 1, cells := T1.1 - T0.1, slots := sg T1 - sg T0, locals := 0 } s m args below meth c H locs (T.1 - T0.1) (sg T - sg T0) Q (F0 m 5 ls [])) : ∀ (T : AT) (ad : Nat → Nat) (H : Heap) (locs : List Loc) (ls : Array Slot) (l0 : Nat) (l1 : Int32) (l2 : Int32), g_X10_widenTo_b38 k5 T l0 l1 l2 = some T1 → GL T0 T → RC T → (∀ n, n < T0.1 → ad n = ad0 n) → l0 < T.1 → gC cI cJ cZ cMic cSrc cSt cAI cAJ D ad A s.heap H locs T → lv_has ls 6 [(0, .ref (ad l0)), (1, .int l1), (2, .int l2)] → W p l e { frames := 1, cells := T1.1 - T0.1, slots := sg T1 - sg T0, locals := 0 } s m args below meth c H locs (T.1 - T0.1) (sg T - sg T0) Q (F0 m 38 ls []) := by
  have hx := E.1
  have hb := E.2.1
  have hts := E.2.2.1
  have hown := E.2.2.2.1
  have hK := E.2.2.2.2
  intro T ad H locs ls l0 l1 l2 h hgl hrc had h_l0 G hl
  have hT1 := s_X10_widenTo_b38 hs5 _ _ _ _ h
  have hcs := cs_ok hgl hT1
  have cp0 := cpr0 hrc
  unfold g_X10_widenTo_b38 at h
  refine lv_iconst (v := 0) hx hb dX10_widenTo_38 (by decide) ?_
  refine lv_istore_n (lv' := [(3, .int 0), (0, .ref (ad l0)), (1, .int l1), (2, .int l2)]) hx hb dX10_widenTo_39 rfl hl (by decide) rfl (fun ls hl => ?_)
  have hl := lv_sub hl [1, 2, 3, 0] rfl
  refine w_cast (c2 := T.1 - T0.1) (s2 := sg T - sg T0) (by rw [cp0.1] <;> rfl) (by rw [sg_cpr cp0] <;> rfl) ?_
  exact a_X10_widenTo_b40 E hA hX hN hml hst kr108 hs5 hk5 _ _ _ _ _ _ _ _ _ _ h (gl_cpr hgl cp0) cp0.2.2 had (by rw [cp0.1]; exact h_l0) G hl
set_option maxHeartbeats 4000000 in
set_option maxRecDepth 100000 in
theorem a_X10_widenTo_b37 {p : Program} {l : Launch} {e : Env} {s : State} {m : MethodId} {args : Array Value} {below : List Frame} {meth : Method} {c : Code} {Q : State → Prop} {D : va_G} {A : Nat → Prop} {cI cJ cZ cMic cSrc cSt cAI cAJ : ClassId} {ad0 : Nat → Nat} {T0 : AT} {T1 : AT} (E : cE p c cX10_widenTo s m args (Cond.code yX10_widenTo cX10_widenTo 6 none :: wsA) D RX10 (CT cI cJ cZ cMic cSrc cSt cAI cAJ)) (hA : ∀ q : Nat, s.heap.size ≤ q → A q) (hX : xT A s) (hN : nX s) (hml : c.maxLocals = 6) (hst : l.stackTraces = false) (kr108 : ∀ (ad : Nat → Nat) (H : Heap) (locs : List Loc) (ls : Array Slot), (∀ n, n < T0.1 → ad n = ad0 n) → gC cI cJ cZ cMic cSrc cSt cAI cAJ D ad A s.heap H locs T1 → W p l e { frames := 1, cells := T1.1 - T0.1, slots := sg T1 - sg T0, locals := 0 } s m args below meth c H locs (T1.1 - T0.1) (sg T1 - sg T0) Q (F0 m 108 ls [])) {k5 : AT → Nat → Int32 → Int32 → Option (AT)} (hs5 : ∀ (T : AT) (l0 : Nat) (l1 : Int32) (l2 : Int32), k5 T l0 l1 l2 = some T1 → GL T T1) (hk5 : ∀ (T : AT) (ad : Nat → Nat) (H : Heap) (locs : List Loc) (ls : Array Slot) (l0 : Nat) (l1 : Int32) (l2 : Int32), k5 T l0 l1 l2 = some T1 → GL T0 T → RC T → (∀ n, n < T0.1 → ad n = ad0 n) → l0 < T.1 → gC cI cJ cZ cMic cSrc cSt cAI cAJ D ad A s.heap H locs T → lv_has ls 6 [(0, .ref (ad l0)), (1, .int l1), (2, .int l2)] → W p l e { frames := 1, cells := T1.1 - T0.1, slots := sg T1 - sg T0, locals := 0 } s m args below meth c H locs (T.1 - T0.1) (sg T - sg T0) Q (F0 m 5 ls [])) : ∀ (T : AT) (ad : Nat → Nat) (H : Heap) (locs : List Loc) (ls : Array Slot) (s0 : Nat) (s1 : Int32) (s2 : Nat) (l0 : Nat) (l1 : Int32) (l2 : Int32), g_X10_widenTo_b37 k5 T s0 s1 s2 l0 l1 l2 = some T1 → GL T0 T → RC T → (∀ n, n < T0.1 → ad n = ad0 n) → s0 < T.1 → s2 < T.1 → l0 < T.1 → gC cI cJ cZ cMic cSrc cSt cAI cAJ D ad A s.heap H locs T → lv_has ls 6 [(0, .ref (ad l0)), (1, .int l1), (2, .int l2)] → W p l e { frames := 1, cells := T1.1 - T0.1, slots := sg T1 - sg T0, locals := 0 } s m args below meth c H locs (T.1 - T0.1) (sg T - sg T0) Q (F0 m 37 ls [.ref (ad s0), .int s1, .ref (ad s2)]) := by
  have hx := E.1
  have hb := E.2.1
  have hts := E.2.2.1
  have hown := E.2.2.2.1
  have hK := E.2.2.2.2
  intro T ad H locs ls s0 s1 s2 l0 l1 l2 h hgl hrc had h_s0 h_s2 h_l0 G hl
  have hT1 := s_X10_widenTo_b37 hs5 _ _ _ _ _ _ _ h
  have hcs := cs_ok hgl hT1
  have cp0 := cpr0 hrc
  unfold g_X10_widenTo_b37 at h
  obtain ⟨g2, h⟩ := oif_some h
  obtain ⟨g3, h⟩ := oif_some h
  obtain ⟨g4, h⟩ := oif_some h
  refine n_asta E G s2 7 s0 (ty := .long) (k := s1.toNatClampNeg) (aA_k g2).1 rfl (cc_a107 (aA_k g2).2.1) rfl hN.2.2.2.2.1 (va_nm_long (hK.2 1 _ rfl).2) (aA_k g4).1 rfl (cc_a101 (aA_k g4).2.1) (inb_k g3).1 (inb_k g3).2 (aA_k g2).2.2 dX10_widenTo_37 (fun H locs G => ?_)
  have G := gC_up_r (f := va_up (T.2.2.2.2 s2) s1.toNatClampNeg (some s0)) (by rw [ccv_107 (aA_k g2).2.1, map_up]) G
  obtain ⟨T5, eT5, h⟩ := elet_some h
  have G : gC cI cJ cZ cMic cSrc cSt cAI cAJ D ad A s.heap H locs T5 := by rw [eT5]; exact G
  have cp1 := show CPR T T5 from by rw [eT5]; exact cpr_uR cp0 (aA_k g4).1
  clear eT5
  have hl := lv_sub hl [0, 1, 2] rfl
  refine w_cast (c2 := T5.1 - T0.1) (s2 := sg T5 - sg T0) (by rw [cp1.1] <;> rfl) (by rw [sg_cpr cp1] <;> rfl) ?_
  exact a_X10_widenTo_b38 E hA hX hN hml hst kr108 hs5 hk5 _ _ _ _ _ _ _ _ h (gl_cpr hgl cp1) cp1.2.2 had (by rw [cp1.1]; exact h_l0) G hl
set_option maxHeartbeats 4000000 in
set_option maxRecDepth 100000 in
theorem a_X10_widenTo_b5 {p : Program} {l : Launch} {e : Env} {s : State} {m : MethodId} {args : Array Value} {below : List Frame} {meth : Method} {c : Code} {Q : State → Prop} {D : va_G} {A : Nat → Prop} {cI cJ cZ cMic cSrc cSt cAI cAJ : ClassId} {ad0 : Nat → Nat} {T0 : AT} {T1 : AT} (E : cE p c cX10_widenTo s m args (Cond.code yX10_widenTo cX10_widenTo 6 none :: wsA) D RX10 (CT cI cJ cZ cMic cSrc cSt cAI cAJ)) (hA : ∀ q : Nat, s.heap.size ≤ q → A q) (hX : xT A s) (hN : nX s) (hml : c.maxLocals = 6) (hst : l.stackTraces = false) (kr108 : ∀ (ad : Nat → Nat) (H : Heap) (locs : List Loc) (ls : Array Slot), (∀ n, n < T0.1 → ad n = ad0 n) → gC cI cJ cZ cMic cSrc cSt cAI cAJ D ad A s.heap H locs T1 → W p l e { frames := 1, cells := T1.1 - T0.1, slots := sg T1 - sg T0, locals := 0 } s m args below meth c H locs (T1.1 - T0.1) (sg T1 - sg T0) Q (F0 m 108 ls [])) : ∀ n : Nat, ∀ (T : AT) (ad : Nat → Nat) (H : Heap) (locs : List Loc) (ls : Array Slot) (l0 : Nat) (l1 : Int32) (l2 : Int32), g_X10_widenTo_b5 n T l0 l1 l2 = some T1 → GL T0 T → RC T → (∀ n, n < T0.1 → ad n = ad0 n) → l0 < T.1 → gC cI cJ cZ cMic cSrc cSt cAI cAJ D ad A s.heap H locs T → lv_has ls 6 [(0, .ref (ad l0)), (1, .int l1), (2, .int l2)] → W p l e { frames := 1, cells := T1.1 - T0.1, slots := sg T1 - sg T0, locals := 0 } s m args below meth c H locs (T.1 - T0.1) (sg T - sg T0) Q (F0 m 5 ls []) := by
  have hx := E.1
  have hb := E.2.1
  have hts := E.2.2.1
  have hown := E.2.2.2.1
  have hK := E.2.2.2.2
  intro n
  induction n with
  | zero =>
    intro T ad H locs ls l0 l1 l2 h
    have h : (none : Option (AT)) = some T1 := h
    cases h
  | succ n ih =>
    intro T ad H locs ls l0 l1 l2 h hgl hrc had h_l0 G hl
    have hT1 := s_X10_widenTo_b5 _ _ _ _ _ h
    have hcs := cs_ok hgl hT1
    have cp0 := cpr0 hrc
    unfold g_X10_widenTo_b5 at h
    refine lv_iload_n hx hb dX10_widenTo_5 rfl (lv_at hl 2 rfl) ?_
    refine lv_iload_n hx hb dX10_widenTo_6 rfl (lv_at hl 1 rfl) ?_
    refine lv_icmp_ge (tgt := 108) hx hb dX10_widenTo_7 (by decide) (fun c2 => ?_) (fun c2 => ?_)
    · have h := oif_pos c2 h
      have hl := lv_sub hl [] rfl
      refine w_cast (c2 := T.1 - T0.1) (s2 := sg T - sg T0) (by rw [cp0.1] <;> rfl) (by rw [sg_cpr cp0] <;> rfl) ?_
      exact a_X10_widenTo_b108 E hA hX hN hml hst kr108 _ _ _ _ _ h (gl_cpr hgl cp0) cp0.2.2 had G hl
    · have h := oif_neg c2 h
      refine lv_iload_n hx hb dX10_widenTo_10 rfl (lv_at hl 2 rfl) ?_
      refine lv_bipush (v := 40) hx hb dX10_widenTo_11 (by decide) ?_
      refine lv_icmp_ge (tgt := 108) hx hb dX10_widenTo_13 (by decide) (fun c3 => ?_) (fun c3 => ?_)
      · have h := oif_pos c3 h
        have hl := lv_sub hl [] rfl
        refine w_cast (c2 := T.1 - T0.1) (s2 := sg T - sg T0) (by rw [cp0.1] <;> rfl) (by rw [sg_cpr cp0] <;> rfl) ?_
        exact a_X10_widenTo_b108 E hA hX hN hml hst kr108 _ _ _ _ _ h (gl_cpr hgl cp0) cp0.2.2 had G hl
      · have h := oif_neg c3 h
        refine lv_aload_n hx hb dX10_widenTo_16 rfl (lv_at hl 0 rfl) ?_
        obtain ⟨g4, h⟩ := oif_some h
        obtain ⟨n5, en5, h⟩ := obind_some h
        have h_n5 : n5 < T.1 := by rw [← cp0.1]; exact cp0.2.2 _ _ _ en5
        refine c_get E G l0 1 (v := .ref (ad n5)) (oO_k g4).1 (cc_o10 (oO_k g4).2) rfl (fun w h => .tail _ (iA_12 h)) (by decide) (.tail _ qA_14) rfl (by rw [en5]; rfl) dX10_widenTo_17 ?_
        clear en5
        refine lv_iload_n hx hb dX10_widenTo_20 rfl (lv_at hl 2 rfl) ?_
        obtain ⟨g6, h⟩ := oif_some h
        obtain ⟨g7, h⟩ := oif_some h
        obtain ⟨n8, en8, h⟩ := obind_some h
        have h_n8 : n8 < T.1 := by rw [← cp0.1]; exact cp0.2.2 _ _ _ en8
        refine c_alda E G n5 7 (k := l2.toNatClampNeg) (v := .ref (ad n8)) (aA_k g6).1 (cc_a107 (aA_k g6).2.1) rfl (inb_k g7).1 (inb_k g7).2 (aA_k g6).2.2 (by show va_rf ((T.2.2.2.2 n5 l2.toNatClampNeg).map ad) = _; rw [en8]; rfl) dX10_widenTo_21 ?_
        clear en8
        obtain ⟨g9, h⟩ := oif_some h
        refine va_alen hx hb hK G.1 n8 1 (cW_e (aA_k g9).1 (cc_a101 (aA_k g9).2.1)) rfl (v := nI (T.2.1 n8).2) rfl dX10_widenTo_22 ?_
        refine lv_topi (fun v10 ev10 => ?_)
        have h := elet_at ev10 h
        clear ev10
        refine lv_if_ne (tgt := 38) hx hb dX10_widenTo_23 (by decide) (fun c11 => ?_) (fun c11 => ?_)
        · have h := oif_neg c11 h
          have hl := lv_sub hl [0, 1, 2] rfl
          refine w_cast (c2 := T.1 - T0.1) (s2 := sg T - sg T0) (by rw [cp0.1] <;> rfl) (by rw [sg_cpr cp0] <;> rfl) ?_
          exact a_X10_widenTo_b38 E hA hX hN hml hst kr108 (s_X10_widenTo_b5 n) ih _ _ _ _ _ _ _ _ h (gl_cpr hgl cp0) cp0.2.2 had (by rw [cp0.1]; exact h_l0) G hl
        · have h := oif_pos c11 h
          refine lv_aload_n hx hb dX10_widenTo_26 rfl (lv_at hl 0 rfl) ?_
          obtain ⟨g12, h⟩ := oif_some h
          obtain ⟨n13, en13, h⟩ := obind_some h
          have h_n13 : n13 < T.1 := by rw [← cp0.1]; exact cp0.2.2 _ _ _ en13
          refine c_get E G l0 1 (v := .ref (ad n13)) (oO_k g12).1 (cc_o10 (oO_k g12).2) rfl (fun w h => .tail _ (iA_12 h)) (by decide) (.tail _ qA_14) rfl (by rw [en13]; rfl) dX10_widenTo_27 ?_
          clear en13
          refine lv_iload_n hx hb dX10_widenTo_30 rfl (lv_at hl 2 rfl) ?_
          refine lv_aload_n hx hb dX10_widenTo_31 rfl (lv_at hl 0 rfl) ?_
          obtain ⟨g14, h⟩ := oif_some h
          refine c_get E G l0 0 (oO_k g14).1 (cc_o10 (oO_k g14).2) rfl (fun w h => .tail _ (iA_12 h)) (by decide) (.tail _ qA_20) rfl rfl dX10_widenTo_32 ?_
          refine lv_topi (fun v15 ev15 => ?_)
          have h := elet_at ev15 h
          clear ev15
          obtain ⟨g16, h⟩ := oif_some h
          obtain ⟨T17, eT17, h⟩ := elet_some h
          have hT2 := s_X10_widenTo_b37 (s_X10_widenTo_b5 n) _ _ _ _ _ _ _ h
          have hg2 : GL T T17 := by rw [eT17]; exact gl_newJ
          have hcn := cs_new hgl cp0 hT2 (by rw [eT17]; rfl) (by rw [eT17]; exact sg_newJ)
          refine n_newl E G hA 1 (K := v15.toNatClampNeg) (.tail _ qA_13) rfl (inb_k g16).1 (Nat.le_of_lt_succ (inb_k g16).2) hcn.1 hcn.2 dX10_widenTo_35 (fun q18 H G => ?_)
          have G := gC_new cp0.2.2 G
          rw [← eT17] at G
          have hga : ∀ n, n < T.1 → cat T.1 ad (fun _ => q18) n = ad n := fun n hn => cat_lo hn
          have hnew : cat T.1 ad (fun _ => q18) T.1 = q18 := cat_hi (Nat.le_refl _)
          have hrc2 := hg2.2.2 cp0.2.2
          refine w_cast (c2 := T17.1 - T0.1) (s2 := sg T17 - sg T0) (cs_e1 hgl cp0 (by rw [eT17]; rfl)) (cs_e2 hgl cp0 (by rw [eT17]; exact sg_newJ)) ?_
          have h_new : T.1 < T17.1 := by rw [eT17]; exact Nat.lt_succ_self _
          rw [← hnew]
          generalize cat T.1 ad (fun _ => q18) = ad2 at G hga ⊢
          have hl := lv_sub hl [0, 1, 2] rfl
          rw [show ad l0 = ad2 l0 from (hga l0 (by rw [cp0.1]; exact h_l0)).symm] at hl
          refine w_st (st2 := [.ref (ad2 T.1), .int l2, .ref (ad2 n13)]) (by rw [hga n13 (by rw [cp0.1]; exact h_n13)]) ?_
          exact a_X10_widenTo_b37 E hA hX hN hml hst kr108 (s_X10_widenTo_b5 n) ih _ _ _ _ _ _ _ _ _ _ _ h (GL.tr (gl_cpr hgl cp0) hg2) hrc2 (fun n hn => (hga n (by rw [cp0.1]; exact Nat.lt_of_lt_of_le hn hgl.1)).trans (had n hn)) h_new (Nat.lt_of_lt_of_le (by rw [cp0.1]; exact h_n13) hg2.1) (Nat.lt_of_lt_of_le (by rw [cp0.1]; exact h_l0) hg2.1) G hl
set_option maxHeartbeats 4000000 in
set_option maxRecDepth 100000 in
theorem a_X10_widenTo (l : Launch) (hst : l.stackTraces = false) (D : va_G) (cI cJ cZ cMic cSrc cSt cAI cAJ : ClassId) (ad : Nat → Nat) (T : AT) (o : Nat) (a0 : Int32) {T1 : AT} (h : g_X10_widenTo T o a0 = some T1) (hrc : RC T) (h_o : o < T.1) : kAv l yX10_widenTo (Cond.code yX10_widenTo cX10_widenTo 6 none :: wsA) 1 0 cI cJ cZ cMic cSrc cSt cAI cAJ D ad T [.ref (ad o), .int a0] T1 := by
  intro sz
  refine Met.ofW (cc := cX10_widenTo) (maxL := 6) (ret := none) (by decide) rfl ?_
  intro p e s m args below meth c s₁ B hml hv
  obtain ⟨rfl, hsz, hP, hK, hD0, hX, hN⟩ := hv
  have hx := B.exec
  have hb := B.bytes
  have hr := B.returns
  have hts := atoms_spec (ws := (Cond.code yX10_widenTo cX10_widenTo 6 none :: wsA)) B.pre
  have hown : s.vm.findClass RX10 = some m.cls := findClass_of_methodNamed B.named
  have hlocks := B.notSynchronized
  subst hsz
  have hD := hD0.self (sz := s.heap.size)
  generalize hAe : va_A (cW ad T.1 (cc cI cJ cZ cMic cSrc cSt cAI cAJ ad T)) s.heap.size = A at hD hX ⊢
  have hA : ∀ q : Nat, s.heap.size ≤ q → A q := fun q h => by rw [← hAe]; exact Or.inr h
  have G : gC cI cJ cZ cMic cSrc cSt cAI cAJ D ad A s.heap s.heap [] T := ⟨hP, hD, va_S.rf⟩
  have E : cE p c cX10_widenTo s m ([.ref (ad o), .int a0] : List Value).toArray (Cond.code yX10_widenTo cX10_widenTo 6 none :: wsA) D RX10 (CT cI cJ cZ cMic cSrc cSt cAI cAJ) := ⟨hx, hb, hts, hown, hK⟩
  have hl := lv_entry ([.ref (ad o), .int a0]) (n := 6) (Nat.le_of_ble_eq_true rfl)
  rw [lg_entry_eq]
  generalize (lg_sl ([.ref (ad o), .int a0]) ++ List.replicate (6 - (lg_sl ([.ref (ad o), .int a0])).length) Slot.unset).toArray = ls at hl ⊢
  have hl : lv_has ls 6 [(0, .ref (ad o)), (1, .int a0)] := hl
  have hgl := GL.rf T
  have had : ∀ n, n < T.1 → ad n = ad n := fun _ _ => rfl
  have hT1 := s_X10_widenTo h
  have hcs := cs_ok hgl hT1
  refine w_cast (Nat.sub_self T.1).symm (Nat.sub_self (sg T)).symm ?_
  have cp0 := cpr0 hrc
  unfold g_X10_widenTo at h
  refine lv_aload_n hx hb dX10_widenTo_0 rfl (lv_at hl 0 rfl) ?_
  obtain ⟨g2, h⟩ := oif_some h
  refine c_get E G o 2 (oO_k g2).1 (cc_o10 (oO_k g2).2) rfl (fun w h => .tail _ (iA_12 h)) (by decide) (.tail _ qA_15) rfl rfl dX10_widenTo_1 ?_
  refine lv_topi (fun v3 ev3 => ?_)
  have h := elet_at ev3 h
  clear ev3
  refine lv_istore_n (lv' := [(2, .int v3), (0, .ref (ad o)), (1, .int a0)]) hx hb dX10_widenTo_4 rfl hl (by decide) rfl (fun ls hl => ?_)
  have hl := lv_sub hl [1, 2, 0] rfl
  refine w_cast (c2 := T.1 - T.1) (s2 := sg T - sg T) (by rw [cp0.1] <;> rfl) (by rw [sg_cpr cp0] <;> rfl) ?_
  exact a_X10_widenTo_b5 E hA hX hN hml hst (fun ad H locs ls had G => W.vret hx hb hr (fun t ht hW => ⟨⟨(T1, ad), rfl, ⟨rfl, had⟩, ⟨by rw [ht]; exact G.1, va_K.moved hW.alike hK, G.2.1⟩⟩, G.2.2.F ht⟩) G.2.2.2.2 dX10_widenTo_108) _ _ _ _ _ _ _ _ _ h (gl_cpr hgl cp0) cp0.2.2 had (by rw [cp0.1]; exact h_o) G hl
def g_X10_settle_b99  (T : AT)  : Option (AT) := some T
def g_X10_settle_b93 (k64 : AT → Nat → Int32 → Int32 → Option (AT)) (T : AT) (l0 : Nat) (l1 : Int32) (l2 : Int32) : Option (AT) := elet (l2 + Int32.ofInt (1)) fun v2 => k64 T l0 l1 v2
def g_X10_settle_b64  : Nat → AT → Nat → Int32 → Int32 → Option (AT)
  | 0, _, _, _, _ => none
  | n + 1, T, l0, l1, l2 => elet (l2 + 1) fun v2 => if 40 ≤ v2 then (g_X10_settle_b99 T) else (oif (oO T l0 10 = true) <| obind (T.2.2.2.2 l0 1) fun n5 => oif (aA T n5 107 = true) <| oif (inb l2 (T.2.1 n5).2 = true) <| obind (T.2.2.2.2 n5 l2.toNatClampNeg) fun n8 => oif (aA T n8 101 = true) <| oif (inb l1 (T.2.1 n8).2 = true) <| elet (T.2.2.2.1 n8 l1.toNatClampNeg) fun v11 => obind (g_X10_isBeyondPart v11) fun r12 => if r12 = 0 then (g_X10_settle_b99 T) else (elet (l2 + 2) fun v15 => oif (oO T l0 10 = true) <| obind (g_X10_widenTo T l0 v15) fun T17 => g_X10_settle_b93 (g_X10_settle_b64 n) T17 l0 l1 l2))
def g_X10_settle_b2  : Nat → AT → Nat → Int32 → Int32 → Option (AT)
  | 0, _, _, _, _ => none
  | n + 1, T, l0, l1, l2 => elet (l2 + 1) fun v2 => oif (oO T l0 10 = true) <| elet (T.2.2.1 l0 2) fun v4 => if v4 ≤ v2 then (oif (oO T l0 10 = true) <| elet (T.2.2.1 l0 2) fun v7 => elet (v7 - 1) fun v8 => g_X10_settle_b64 16384 T l0 l1 v8) else (oif (oO T l0 10 = true) <| obind (T.2.2.2.2 l0 1) fun n10 => oif (aA T n10 107 = true) <| oif (inb l2 (T.2.1 n10).2 = true) <| obind (T.2.2.2.2 n10 l2.toNatClampNeg) fun n13 => oif (aA T n13 101 = true) <| oif (inb l1 (T.2.1 n13).2 = true) <| elet (T.2.2.2.1 n13 l1.toNatClampNeg) fun v16 => oif (oO T l0 10 = true) <| obind (T.2.2.2.2 l0 1) fun n18 => oif (aA T n18 107 = true) <| oif (inb l2 (T.2.1 n18).2 = true) <| obind (T.2.2.2.2 n18 l2.toNatClampNeg) fun n21 => elet (v16 &&& (268435455 : Int64)) fun v22 => oif (aA T n21 101 = true) <| oif (inb l1 (T.2.1 n21).2 = true) <| elet (uJ T n21 l1.toNatClampNeg v22) fun T25 => oif (oO T25 l0 10 = true) <| obind (T25.2.2.2.2 l0 1) fun n27 => elet (l2 + 1) fun v28 => oif (aA T25 n27 107 = true) <| oif (inb v28 (T25.2.1 n27).2 = true) <| obind (T25.2.2.2.2 n27 v28.toNatClampNeg) fun n31 => oif (aA T25 n31 101 = true) <| oif (inb l1 (T25.2.1 n31).2 = true) <| elet (T25.2.2.2.1 n31 l1.toNatClampNeg) fun v34 => elet (v16 >>> ((28 : Int32).toInt64 &&& 63)) fun v35 => elet (v34 + v35) fun v36 => oif (aA T25 n31 101 = true) <| oif (inb l1 (T25.2.1 n31).2 = true) <| elet (uJ T25 n31 l1.toNatClampNeg v36) fun T39 => elet (l2 + Int32.ofInt (1)) fun v40 => g_X10_settle_b2 n T39 l0 l1 v40)
def g_X10_settle (T : AT) (o : Nat) (a0 : Int32) : Option (AT) := g_X10_settle_b2 16384 T o a0 0
set_option maxHeartbeats 4000000 in
set_option maxRecDepth 100000 in
theorem s_X10_settle_b99 {T1 : AT} : ∀ (T : AT), g_X10_settle_b99 T = some T1 → GL T T1 := by
  intro T h
  have p0 := GL.rf T
  unfold g_X10_settle_b99 at h
  rw [← osome1 h]
  exact p0
set_option maxHeartbeats 4000000 in
set_option maxRecDepth 100000 in
theorem s_X10_settle_b93 {T1 : AT} {k64 : AT → Nat → Int32 → Int32 → Option (AT)} (hk64 : ∀ (T : AT) (l0 : Nat) (l1 : Int32) (l2 : Int32), k64 T l0 l1 l2 = some T1 → GL T T1) : ∀ (T : AT) (l0 : Nat) (l1 : Int32) (l2 : Int32), g_X10_settle_b93 k64 T l0 l1 l2 = some T1 → GL T T1 := by
  intro T l0 l1 l2 h
  have p0 := GL.rf T
  unfold g_X10_settle_b93 at h
  obtain ⟨v2, ev2, h⟩ := elet_some h
  exact GL.tr p0 (hk64 _ _ _ _ h)
set_option maxHeartbeats 4000000 in
set_option maxRecDepth 100000 in
theorem s_X10_settle_b64 {T1 : AT} : ∀ n : Nat, ∀ (T : AT) (l0 : Nat) (l1 : Int32) (l2 : Int32), g_X10_settle_b64 n T l0 l1 l2 = some T1 → GL T T1 := by
  intro n
  induction n with
  | zero =>
    intro T l0 l1 l2 h
    have h : (none : Option (AT)) = some T1 := h
    cases h
  | succ n ih =>
    intro T l0 l1 l2 h
    have p0 := GL.rf T
    unfold g_X10_settle_b64 at h
    obtain ⟨v2, -, h⟩ := elet_some h
    rcases oif_or h with ⟨c3, h⟩ | ⟨c3, h⟩
    · have h := h
      exact GL.tr p0 (s_X10_settle_b99 _ h)
    · have h := h
      obtain ⟨g4, h⟩ := oif_some h
      obtain ⟨n5, en5, h⟩ := obind_some h
      obtain ⟨g6, h⟩ := oif_some h
      obtain ⟨g7, h⟩ := oif_some h
      obtain ⟨n8, en8, h⟩ := obind_some h
      obtain ⟨g9, h⟩ := oif_some h
      obtain ⟨g10, h⟩ := oif_some h
      obtain ⟨v11, -, h⟩ := elet_some h
      obtain ⟨r12, -, h⟩ := obind_some h
      rcases oif_or h with ⟨c13, h⟩ | ⟨c13, h⟩
      · have h := h
        exact GL.tr p0 (s_X10_settle_b99 _ h)
      · have h := h
        obtain ⟨v14, -, h⟩ := elet_some h
        obtain ⟨g15, h⟩ := oif_some h
        obtain ⟨T16, eT16, h⟩ := obind_some h
        have p1 : GL T T16 := GL.tr p0 (s_X10_widenTo eT16)
        exact GL.tr p1 (s_X10_settle_b93 ih _ _ _ _ h)
set_option maxHeartbeats 4000000 in
set_option maxRecDepth 100000 in
theorem s_X10_settle_b2 {T1 : AT} : ∀ n : Nat, ∀ (T : AT) (l0 : Nat) (l1 : Int32) (l2 : Int32), g_X10_settle_b2 n T l0 l1 l2 = some T1 → GL T T1 := by
  intro n
  induction n with
  | zero =>
    intro T l0 l1 l2 h
    have h : (none : Option (AT)) = some T1 := h
    cases h
  | succ n ih =>
    intro T l0 l1 l2 h
    have p0 := GL.rf T
    unfold g_X10_settle_b2 at h
    obtain ⟨v2, -, h⟩ := elet_some h
    obtain ⟨g3, h⟩ := oif_some h
    obtain ⟨v4, -, h⟩ := elet_some h
    rcases oif_or h with ⟨c5, h⟩ | ⟨c5, h⟩
    · have h := h
      obtain ⟨g6, h⟩ := oif_some h
      obtain ⟨v7, -, h⟩ := elet_some h
      obtain ⟨v8, -, h⟩ := elet_some h
      exact GL.tr p0 (s_X10_settle_b64 _ _ _ _ _ h)
    · have h := h
      obtain ⟨g9, h⟩ := oif_some h
      obtain ⟨n10, en10, h⟩ := obind_some h
      obtain ⟨g11, h⟩ := oif_some h
      obtain ⟨g12, h⟩ := oif_some h
      obtain ⟨n13, en13, h⟩ := obind_some h
      obtain ⟨g14, h⟩ := oif_some h
      obtain ⟨g15, h⟩ := oif_some h
      obtain ⟨v16, -, h⟩ := elet_some h
      obtain ⟨g17, h⟩ := oif_some h
      obtain ⟨n18, en18, h⟩ := obind_some h
      obtain ⟨g19, h⟩ := oif_some h
      obtain ⟨g20, h⟩ := oif_some h
      obtain ⟨n21, en21, h⟩ := obind_some h
      obtain ⟨v22, -, h⟩ := elet_some h
      obtain ⟨g23, h⟩ := oif_some h
      obtain ⟨g24, h⟩ := oif_some h
      obtain ⟨T25, eT25, h⟩ := elet_some h
      have p1 : GL T T25 := GL.tr p0 (by rw [eT25]; exact gl_sp sp_uJ)
      obtain ⟨g26, h⟩ := oif_some h
      obtain ⟨n27, en27, h⟩ := obind_some h
      obtain ⟨v28, -, h⟩ := elet_some h
      obtain ⟨g29, h⟩ := oif_some h
      obtain ⟨g30, h⟩ := oif_some h
      obtain ⟨n31, en31, h⟩ := obind_some h
      obtain ⟨g32, h⟩ := oif_some h
      obtain ⟨g33, h⟩ := oif_some h
      obtain ⟨v34, -, h⟩ := elet_some h
      obtain ⟨v35, -, h⟩ := elet_some h
      obtain ⟨v36, -, h⟩ := elet_some h
      obtain ⟨g37, h⟩ := oif_some h
      obtain ⟨g38, h⟩ := oif_some h
      obtain ⟨T39, eT39, h⟩ := elet_some h
      have p2 : GL T T39 := GL.tr p1 (by rw [eT39]; exact gl_sp sp_uJ)
      obtain ⟨v40, ev40, h⟩ := elet_some h
      exact GL.tr p2 (ih _ _ _ _ h)
set_option maxHeartbeats 4000000 in
set_option maxRecDepth 100000 in
theorem s_X10_settle {T : AT} {o : Nat} {a0 : Int32} {T1 : AT} (h : g_X10_settle T o a0 = some T1) : GL T T1 := by
  have p0 := GL.rf T
  unfold g_X10_settle at h
  exact GL.tr p0 (s_X10_settle_b2 _ _ _ _ _ h)
set_option maxHeartbeats 4000000 in
set_option maxRecDepth 100000 in
theorem a_X10_settle_b99 {p : Program} {l : Launch} {e : Env} {s : State} {m : MethodId} {args : Array Value} {below : List Frame} {meth : Method} {c : Code} {Q : State → Prop} {D : va_G} {A : Nat → Prop} {cI cJ cZ cMic cSrc cSt cAI cAJ : ClassId} {ad0 : Nat → Nat} {T0 : AT} {T1 : AT} (E : cE p c cX10_settle s m args (Cond.code yX10_settle cX10_settle 5 none :: wsA) D RX10 (CT cI cJ cZ cMic cSrc cSt cAI cAJ)) (hA : ∀ q : Nat, s.heap.size ≤ q → A q) (hX : xT A s) (hN : nX s) (hml : c.maxLocals = 5) (hst : l.stackTraces = false) (kr99 : ∀ (ad : Nat → Nat) (H : Heap) (locs : List Loc) (ls : Array Slot), (∀ n, n < T0.1 → ad n = ad0 n) → gC cI cJ cZ cMic cSrc cSt cAI cAJ D ad A s.heap H locs T1 → W p l e { frames := 2, cells := T1.1 - T0.1, slots := sg T1 - sg T0, locals := 25 } s m args below meth c H locs (T1.1 - T0.1) (sg T1 - sg T0) Q (F0 m 99 ls [])) : ∀ (T : AT) (ad : Nat → Nat) (H : Heap) (locs : List Loc) (ls : Array Slot), g_X10_settle_b99 T = some T1 → GL T0 T → RC T → (∀ n, n < T0.1 → ad n = ad0 n) → gC cI cJ cZ cMic cSrc cSt cAI cAJ D ad A s.heap H locs T → lv_has ls 5 [] → W p l e { frames := 2, cells := T1.1 - T0.1, slots := sg T1 - sg T0, locals := 25 } s m args below meth c H locs (T.1 - T0.1) (sg T - sg T0) Q (F0 m 99 ls []) := by
  have hx := E.1
  have hb := E.2.1
  have hts := E.2.2.1
  have hown := E.2.2.2.1
  have hK := E.2.2.2.2
  intro T ad H locs ls h hgl hrc had G hl
  have hT1 := s_X10_settle_b99 _ h
  have hcs := cs_ok hgl hT1
  have cp0 := cpr0 hrc
  unfold g_X10_settle_b99 at h
  rw [osome1 h] at G
  refine w_cast (c2 := T1.1 - T0.1) (s2 := sg T1 - sg T0) (by rw [← osome1 h, cp0.1] <;> rfl) (by rw [← osome1 h, sg_cpr cp0] <;> rfl) ?_
  exact kr99 ad _ _ _ had G
set_option maxHeartbeats 4000000 in
set_option maxRecDepth 100000 in
theorem a_X10_settle_b93 {p : Program} {l : Launch} {e : Env} {s : State} {m : MethodId} {args : Array Value} {below : List Frame} {meth : Method} {c : Code} {Q : State → Prop} {D : va_G} {A : Nat → Prop} {cI cJ cZ cMic cSrc cSt cAI cAJ : ClassId} {ad0 : Nat → Nat} {T0 : AT} {T1 : AT} (E : cE p c cX10_settle s m args (Cond.code yX10_settle cX10_settle 5 none :: wsA) D RX10 (CT cI cJ cZ cMic cSrc cSt cAI cAJ)) (hA : ∀ q : Nat, s.heap.size ≤ q → A q) (hX : xT A s) (hN : nX s) (hml : c.maxLocals = 5) (hst : l.stackTraces = false) (kr99 : ∀ (ad : Nat → Nat) (H : Heap) (locs : List Loc) (ls : Array Slot), (∀ n, n < T0.1 → ad n = ad0 n) → gC cI cJ cZ cMic cSrc cSt cAI cAJ D ad A s.heap H locs T1 → W p l e { frames := 2, cells := T1.1 - T0.1, slots := sg T1 - sg T0, locals := 25 } s m args below meth c H locs (T1.1 - T0.1) (sg T1 - sg T0) Q (F0 m 99 ls [])) {k64 : AT → Nat → Int32 → Int32 → Option (AT)} (hs64 : ∀ (T : AT) (l0 : Nat) (l1 : Int32) (l2 : Int32), k64 T l0 l1 l2 = some T1 → GL T T1) (hk64 : ∀ (T : AT) (ad : Nat → Nat) (H : Heap) (locs : List Loc) (ls : Array Slot) (l0 : Nat) (l1 : Int32) (l2 : Int32), k64 T l0 l1 l2 = some T1 → GL T0 T → RC T → (∀ n, n < T0.1 → ad n = ad0 n) → l0 < T.1 → gC cI cJ cZ cMic cSrc cSt cAI cAJ D ad A s.heap H locs T → lv_has ls 5 [(0, .ref (ad l0)), (1, .int l1), (2, .int l2)] → W p l e { frames := 2, cells := T1.1 - T0.1, slots := sg T1 - sg T0, locals := 25 } s m args below meth c H locs (T.1 - T0.1) (sg T - sg T0) Q (F0 m 64 ls [])) : ∀ (T : AT) (ad : Nat → Nat) (H : Heap) (locs : List Loc) (ls : Array Slot) (l0 : Nat) (l1 : Int32) (l2 : Int32), g_X10_settle_b93 k64 T l0 l1 l2 = some T1 → GL T0 T → RC T → (∀ n, n < T0.1 → ad n = ad0 n) → l0 < T.1 → gC cI cJ cZ cMic cSrc cSt cAI cAJ D ad A s.heap H locs T → lv_has ls 5 [(0, .ref (ad l0)), (1, .int l1), (2, .int l2)] → W p l e { frames := 2, cells := T1.1 - T0.1, slots := sg T1 - sg T0, locals := 25 } s m args below meth c H locs (T.1 - T0.1) (sg T - sg T0) Q (F0 m 93 ls []) := by
  have hx := E.1
  have hb := E.2.1
  have hts := E.2.2.1
  have hown := E.2.2.2.1
  have hK := E.2.2.2.2
  intro T ad H locs ls l0 l1 l2 h hgl hrc had h_l0 G hl
  have hT1 := s_X10_settle_b93 hs64 _ _ _ _ h
  have hcs := cs_ok hgl hT1
  have cp0 := cpr0 hrc
  unfold g_X10_settle_b93 at h
  obtain ⟨v2, ev2, h⟩ := elet_some h
  refine lv_iinc (v := v2) (lv' := [(2, .int v2), (0, .ref (ad l0)), (1, .int l1)]) hx hb dX10_settle_93 hl (k := 2) rfl ev2.symm (by decide) rfl (fun ls hl => ?_)
  refine lv_goto (tgt := 64) hx hb dX10_settle_96 (by decide) ?_
  have hl := lv_sub hl [1, 2, 0] rfl
  refine w_cast (c2 := T.1 - T0.1) (s2 := sg T - sg T0) (by rw [cp0.1] <;> rfl) (by rw [sg_cpr cp0] <;> rfl) ?_
  exact hk64 _ _ _ _ _ _ _ _ h (gl_cpr hgl cp0) cp0.2.2 had (by rw [cp0.1]; exact h_l0) G hl
set_option maxHeartbeats 4000000 in
set_option maxRecDepth 100000 in
theorem a_X10_settle_b64 {p : Program} {l : Launch} {e : Env} {s : State} {m : MethodId} {args : Array Value} {below : List Frame} {meth : Method} {c : Code} {Q : State → Prop} {D : va_G} {A : Nat → Prop} {cI cJ cZ cMic cSrc cSt cAI cAJ : ClassId} {ad0 : Nat → Nat} {T0 : AT} {T1 : AT} (E : cE p c cX10_settle s m args (Cond.code yX10_settle cX10_settle 5 none :: wsA) D RX10 (CT cI cJ cZ cMic cSrc cSt cAI cAJ)) (hA : ∀ q : Nat, s.heap.size ≤ q → A q) (hX : xT A s) (hN : nX s) (hml : c.maxLocals = 5) (hst : l.stackTraces = false) (kr99 : ∀ (ad : Nat → Nat) (H : Heap) (locs : List Loc) (ls : Array Slot), (∀ n, n < T0.1 → ad n = ad0 n) → gC cI cJ cZ cMic cSrc cSt cAI cAJ D ad A s.heap H locs T1 → W p l e { frames := 2, cells := T1.1 - T0.1, slots := sg T1 - sg T0, locals := 25 } s m args below meth c H locs (T1.1 - T0.1) (sg T1 - sg T0) Q (F0 m 99 ls [])) : ∀ n : Nat, ∀ (T : AT) (ad : Nat → Nat) (H : Heap) (locs : List Loc) (ls : Array Slot) (l0 : Nat) (l1 : Int32) (l2 : Int32), g_X10_settle_b64 n T l0 l1 l2 = some T1 → GL T0 T → RC T → (∀ n, n < T0.1 → ad n = ad0 n) → l0 < T.1 → gC cI cJ cZ cMic cSrc cSt cAI cAJ D ad A s.heap H locs T → lv_has ls 5 [(0, .ref (ad l0)), (1, .int l1), (2, .int l2)] → W p l e { frames := 2, cells := T1.1 - T0.1, slots := sg T1 - sg T0, locals := 25 } s m args below meth c H locs (T.1 - T0.1) (sg T - sg T0) Q (F0 m 64 ls []) := by
  have hx := E.1
  have hb := E.2.1
  have hts := E.2.2.1
  have hown := E.2.2.2.1
  have hK := E.2.2.2.2
  intro n
  induction n with
  | zero =>
    intro T ad H locs ls l0 l1 l2 h
    have h : (none : Option (AT)) = some T1 := h
    cases h
  | succ n ih =>
    intro T ad H locs ls l0 l1 l2 h hgl hrc had h_l0 G hl
    have hT1 := s_X10_settle_b64 _ _ _ _ _ h
    have hcs := cs_ok hgl hT1
    have cp0 := cpr0 hrc
    unfold g_X10_settle_b64 at h
    refine lv_iload_n hx hb dX10_settle_64 rfl (lv_at hl 2 rfl) ?_
    refine lv_iconst (v := 1) hx hb dX10_settle_65 (by decide) ?_
    refine lv_iadd hx hb dX10_settle_66 ?_
    refine lv_topi (fun v2 ev2 => ?_)
    have h := elet_at ev2 h
    clear ev2
    refine lv_bipush (v := 40) hx hb dX10_settle_67 (by decide) ?_
    refine lv_icmp_ge (tgt := 99) hx hb dX10_settle_69 (by decide) (fun c3 => ?_) (fun c3 => ?_)
    · have h := oif_pos c3 h
      have hl := lv_sub hl [] rfl
      refine w_cast (c2 := T.1 - T0.1) (s2 := sg T - sg T0) (by rw [cp0.1] <;> rfl) (by rw [sg_cpr cp0] <;> rfl) ?_
      exact a_X10_settle_b99 E hA hX hN hml hst kr99 _ _ _ _ _ h (gl_cpr hgl cp0) cp0.2.2 had G hl
    · have h := oif_neg c3 h
      refine lv_aload_n hx hb dX10_settle_72 rfl (lv_at hl 0 rfl) ?_
      obtain ⟨g4, h⟩ := oif_some h
      obtain ⟨n5, en5, h⟩ := obind_some h
      have h_n5 : n5 < T.1 := by rw [← cp0.1]; exact cp0.2.2 _ _ _ en5
      refine c_get E G l0 1 (v := .ref (ad n5)) (oO_k g4).1 (cc_o10 (oO_k g4).2) rfl (fun w h => .tail _ (iA_12 h)) (by decide) (.tail _ qA_14) rfl (by rw [en5]; rfl) dX10_settle_73 ?_
      clear en5
      refine lv_iload_n hx hb dX10_settle_76 rfl (lv_at hl 2 rfl) ?_
      obtain ⟨g6, h⟩ := oif_some h
      obtain ⟨g7, h⟩ := oif_some h
      obtain ⟨n8, en8, h⟩ := obind_some h
      have h_n8 : n8 < T.1 := by rw [← cp0.1]; exact cp0.2.2 _ _ _ en8
      refine c_alda E G n5 7 (k := l2.toNatClampNeg) (v := .ref (ad n8)) (aA_k g6).1 (cc_a107 (aA_k g6).2.1) rfl (inb_k g7).1 (inb_k g7).2 (aA_k g6).2.2 (by show va_rf ((T.2.2.2.2 n5 l2.toNatClampNeg).map ad) = _; rw [en8]; rfl) dX10_settle_77 ?_
      clear en8
      refine lv_iload_n hx hb dX10_settle_78 rfl (lv_at hl 1 rfl) ?_
      obtain ⟨g9, h⟩ := oif_some h
      obtain ⟨g10, h⟩ := oif_some h
      refine c_lald E G n8 1 (k := l1.toNatClampNeg) (aA_k g9).1 (cc_a101 (aA_k g9).2.1) rfl (inb_k g10).1 (inb_k g10).2 (aA_k g9).2.2 dX10_settle_79 ?_
      refine lv_topl (fun v11 ev11 => ?_)
      have h := elet_at ev11 h
      clear ev11
      obtain ⟨r12, er12, h⟩ := obind_some h
      refine q_sti (As := [.long v11]) (rest := []) ⟨hx, hb, hml, hown, hts⟩ hN (u_X10_isBeyondPart l v11 er12) (cwS 1 hts (gaS qA_94 qA_95 qA_6 qA_96) rfl rfl rfl (by decide +kernel) ⟨Nat.le_of_ble_eq_true rfl, Nat.le_of_ble_eq_true rfl⟩) rfl hl.1 rfl (lv_room (Nat.le_of_ble_eq_true rfl)) dX10_settle_80 hcs (fun q13 hq => ?_)
      refine lv_to hq ?_
      clear hq er12
      refine lv_if_eq (tgt := 99) hx hb dX10_settle_83 (by decide) (fun c14 => ?_) (fun c14 => ?_)
      · have h := oif_pos c14 h
        have hl := lv_sub hl [] rfl
        refine w_cast (c2 := T.1 - T0.1) (s2 := sg T - sg T0) (by rw [cp0.1] <;> rfl) (by rw [sg_cpr cp0] <;> rfl) ?_
        exact a_X10_settle_b99 E hA hX hN hml hst kr99 _ _ _ _ _ h (gl_cpr hgl cp0) cp0.2.2 had G hl
      · have h := oif_neg c14 h
        refine lv_aload_n hx hb dX10_settle_86 rfl (lv_at hl 0 rfl) ?_
        refine lv_iload_n hx hb dX10_settle_87 rfl (lv_at hl 2 rfl) ?_
        refine lv_iconst (v := 2) hx hb dX10_settle_88 (by decide) ?_
        refine lv_iadd hx hb dX10_settle_89 ?_
        refine lv_topi (fun v15 ev15 => ?_)
        have h := elet_at ev15 h
        clear ev15
        obtain ⟨g16, h⟩ := oif_some h
        obtain ⟨T17, eT17, h⟩ := obind_some h
        have hg2 := s_X10_widenTo eT17
        have hrc2 := hg2.2.2 cp0.2.2
        have hT2 := s_X10_settle_b93 (s_X10_settle_b64 n) _ _ _ _ h
        refine q_avv (As := [.int v15]) (rest := []) E G hA hX hN hml (a_X10_widenTo l hst D cI cJ cZ cMic cSrc cSt cAI cAJ ad T l0 v15 eT17 cp0.2.2 (by rw [cp0.1]; exact h_l0)) (cwV 1 hts (gaV qA_98 qA_78 qA_79 qA_6 qA_80) rfl rfl rfl (by decide +kernel) ⟨Nat.le_of_ble_eq_true rfl, Nat.le_of_ble_eq_true rfl⟩) (oO_k g16).1 (cc_o10 (oO_k g16).2) rfl rfl hl.1 rfl (lv_room (Nat.le_of_ble_eq_true rfl)) dX10_settle_90 (cs_av hgl cp0 hg2 hT2) (fun ad2 H locs hga G => ?_)
        refine w_cast (c2 := T17.1 - T0.1) (s2 := sg T17 - sg T0) (cs_f1 hgl cp0 hg2) (cs_f2 hgl cp0 hg2) ?_
        have hl := lv_sub hl [0, 1, 2] rfl
        rw [show ad l0 = ad2 l0 from (hga l0 (by rw [cp0.1]; exact h_l0)).symm] at hl
        exact a_X10_settle_b93 E hA hX hN hml hst kr99 (s_X10_settle_b64 n) ih _ _ _ _ _ _ _ _ h (GL.tr (gl_cpr hgl cp0) hg2) hrc2 (fun n hn => (hga n (by rw [cp0.1]; exact Nat.lt_of_lt_of_le hn hgl.1)).trans (had n hn)) (Nat.lt_of_lt_of_le (by rw [cp0.1]; exact h_l0) hg2.1) G hl
set_option maxHeartbeats 4000000 in
set_option maxRecDepth 100000 in
theorem a_X10_settle_b2 {p : Program} {l : Launch} {e : Env} {s : State} {m : MethodId} {args : Array Value} {below : List Frame} {meth : Method} {c : Code} {Q : State → Prop} {D : va_G} {A : Nat → Prop} {cI cJ cZ cMic cSrc cSt cAI cAJ : ClassId} {ad0 : Nat → Nat} {T0 : AT} {T1 : AT} (E : cE p c cX10_settle s m args (Cond.code yX10_settle cX10_settle 5 none :: wsA) D RX10 (CT cI cJ cZ cMic cSrc cSt cAI cAJ)) (hA : ∀ q : Nat, s.heap.size ≤ q → A q) (hX : xT A s) (hN : nX s) (hml : c.maxLocals = 5) (hst : l.stackTraces = false) (kr99 : ∀ (ad : Nat → Nat) (H : Heap) (locs : List Loc) (ls : Array Slot), (∀ n, n < T0.1 → ad n = ad0 n) → gC cI cJ cZ cMic cSrc cSt cAI cAJ D ad A s.heap H locs T1 → W p l e { frames := 2, cells := T1.1 - T0.1, slots := sg T1 - sg T0, locals := 25 } s m args below meth c H locs (T1.1 - T0.1) (sg T1 - sg T0) Q (F0 m 99 ls [])) : ∀ n : Nat, ∀ (T : AT) (ad : Nat → Nat) (H : Heap) (locs : List Loc) (ls : Array Slot) (l0 : Nat) (l1 : Int32) (l2 : Int32), g_X10_settle_b2 n T l0 l1 l2 = some T1 → GL T0 T → RC T → (∀ n, n < T0.1 → ad n = ad0 n) → l0 < T.1 → gC cI cJ cZ cMic cSrc cSt cAI cAJ D ad A s.heap H locs T → lv_has ls 5 [(0, .ref (ad l0)), (1, .int l1), (2, .int l2)] → W p l e { frames := 2, cells := T1.1 - T0.1, slots := sg T1 - sg T0, locals := 25 } s m args below meth c H locs (T.1 - T0.1) (sg T - sg T0) Q (F0 m 2 ls []) := by
  have hx := E.1
  have hb := E.2.1
  have hts := E.2.2.1
  have hown := E.2.2.2.1
  have hK := E.2.2.2.2
  intro n
  induction n with
  | zero =>
    intro T ad H locs ls l0 l1 l2 h
    have h : (none : Option (AT)) = some T1 := h
    cases h
  | succ n ih =>
    intro T ad H locs ls l0 l1 l2 h hgl hrc had h_l0 G hl
    have hT1 := s_X10_settle_b2 _ _ _ _ _ h
    have hcs := cs_ok hgl hT1
    have cp0 := cpr0 hrc
    unfold g_X10_settle_b2 at h
    refine lv_iload_n hx hb dX10_settle_2 rfl (lv_at hl 2 rfl) ?_
    refine lv_iconst (v := 1) hx hb dX10_settle_3 (by decide) ?_
    refine lv_iadd hx hb dX10_settle_4 ?_
    refine lv_topi (fun v2 ev2 => ?_)
    have h := elet_at ev2 h
    clear ev2
    refine lv_aload_n hx hb dX10_settle_5 rfl (lv_at hl 0 rfl) ?_
    obtain ⟨g3, h⟩ := oif_some h
    refine c_get E G l0 2 (oO_k g3).1 (cc_o10 (oO_k g3).2) rfl (fun w h => .tail _ (iA_12 h)) (by decide) (.tail _ qA_15) rfl rfl dX10_settle_6 ?_
    refine lv_topi (fun v4 ev4 => ?_)
    have h := elet_at ev4 h
    clear ev4
    refine lv_icmp_ge (tgt := 57) hx hb dX10_settle_9 (by decide) (fun c5 => ?_) (fun c5 => ?_)
    · have h := oif_pos c5 h
      refine lv_aload_n hx hb dX10_settle_57 rfl (lv_at hl 0 rfl) ?_
      obtain ⟨g6, h⟩ := oif_some h
      refine c_get E G l0 2 (oO_k g6).1 (cc_o10 (oO_k g6).2) rfl (fun w h => .tail _ (iA_12 h)) (by decide) (.tail _ qA_15) rfl rfl dX10_settle_58 ?_
      refine lv_topi (fun v7 ev7 => ?_)
      have h := elet_at ev7 h
      clear ev7
      refine lv_iconst (v := 1) hx hb dX10_settle_61 (by decide) ?_
      refine lv_isub hx hb dX10_settle_62 ?_
      refine lv_topi (fun v8 ev8 => ?_)
      have h := elet_at ev8 h
      clear ev8
      refine lv_istore_n (lv' := [(2, .int v8), (0, .ref (ad l0)), (1, .int l1)]) hx hb dX10_settle_63 rfl hl (by decide) rfl (fun ls hl => ?_)
      have hl := lv_sub hl [1, 2, 0] rfl
      refine w_cast (c2 := T.1 - T0.1) (s2 := sg T - sg T0) (by rw [cp0.1] <;> rfl) (by rw [sg_cpr cp0] <;> rfl) ?_
      exact a_X10_settle_b64 E hA hX hN hml hst kr99 _ _ _ _ _ _ _ _ _ h (gl_cpr hgl cp0) cp0.2.2 had (by rw [cp0.1]; exact h_l0) G hl
    · have h := oif_neg c5 h
      refine lv_aload_n hx hb dX10_settle_12 rfl (lv_at hl 0 rfl) ?_
      obtain ⟨g9, h⟩ := oif_some h
      obtain ⟨n10, en10, h⟩ := obind_some h
      have h_n10 : n10 < T.1 := by rw [← cp0.1]; exact cp0.2.2 _ _ _ en10
      refine c_get E G l0 1 (v := .ref (ad n10)) (oO_k g9).1 (cc_o10 (oO_k g9).2) rfl (fun w h => .tail _ (iA_12 h)) (by decide) (.tail _ qA_14) rfl (by rw [en10]; rfl) dX10_settle_13 ?_
      clear en10
      refine lv_iload_n hx hb dX10_settle_16 rfl (lv_at hl 2 rfl) ?_
      obtain ⟨g11, h⟩ := oif_some h
      obtain ⟨g12, h⟩ := oif_some h
      obtain ⟨n13, en13, h⟩ := obind_some h
      have h_n13 : n13 < T.1 := by rw [← cp0.1]; exact cp0.2.2 _ _ _ en13
      refine c_alda E G n10 7 (k := l2.toNatClampNeg) (v := .ref (ad n13)) (aA_k g11).1 (cc_a107 (aA_k g11).2.1) rfl (inb_k g12).1 (inb_k g12).2 (aA_k g11).2.2 (by show va_rf ((T.2.2.2.2 n10 l2.toNatClampNeg).map ad) = _; rw [en13]; rfl) dX10_settle_17 ?_
      clear en13
      refine lv_iload_n hx hb dX10_settle_18 rfl (lv_at hl 1 rfl) ?_
      obtain ⟨g14, h⟩ := oif_some h
      obtain ⟨g15, h⟩ := oif_some h
      refine c_lald E G n13 1 (k := l1.toNatClampNeg) (aA_k g14).1 (cc_a101 (aA_k g14).2.1) rfl (inb_k g15).1 (inb_k g15).2 (aA_k g14).2.2 dX10_settle_19 ?_
      refine lv_topl (fun v16 ev16 => ?_)
      have h := elet_at ev16 h
      clear ev16
      refine lv_lstore_n (lv' := [(3, .long v16), (0, .ref (ad l0)), (1, .int l1), (2, .int l2)]) hx hb dX10_settle_20 rfl hl (by decide) rfl (fun ls hl => ?_)
      refine lv_aload_n hx hb dX10_settle_21 rfl (lv_at hl 1 rfl) ?_
      obtain ⟨g17, h⟩ := oif_some h
      obtain ⟨n18, en18, h⟩ := obind_some h
      have h_n18 : n18 < T.1 := by rw [← cp0.1]; exact cp0.2.2 _ _ _ en18
      refine c_get E G l0 1 (v := .ref (ad n18)) (oO_k g17).1 (cc_o10 (oO_k g17).2) rfl (fun w h => .tail _ (iA_12 h)) (by decide) (.tail _ qA_14) rfl (by rw [en18]; rfl) dX10_settle_22 ?_
      clear en18
      refine lv_iload_n hx hb dX10_settle_25 rfl (lv_at hl 3 rfl) ?_
      obtain ⟨g19, h⟩ := oif_some h
      obtain ⟨g20, h⟩ := oif_some h
      obtain ⟨n21, en21, h⟩ := obind_some h
      have h_n21 : n21 < T.1 := by rw [← cp0.1]; exact cp0.2.2 _ _ _ en21
      refine c_alda E G n18 7 (k := l2.toNatClampNeg) (v := .ref (ad n21)) (aA_k g19).1 (cc_a107 (aA_k g19).2.1) rfl (inb_k g20).1 (inb_k g20).2 (aA_k g19).2.2 (by show va_rf ((T.2.2.2.2 n18 l2.toNatClampNeg).map ad) = _; rw [en21]; rfl) dX10_settle_26 ?_
      clear en21
      refine lv_iload_n hx hb dX10_settle_27 rfl (lv_at hl 2 rfl) ?_
      refine lv_lload_n hx hb dX10_settle_28 rfl (lv_at hl 0 rfl) ?_
      refine lv_ldc2 (v := 268435455) hx hb hown (hts (.constantLong RX10 59 (268435455)) (.tail _ qA_81)) dX10_settle_29 ?_
      refine lv_land hx hb dX10_settle_32 ?_
      refine lv_topl (fun v22 ev22 => ?_)
      have h := elet_at ev22 h
      clear ev22
      obtain ⟨g23, h⟩ := oif_some h
      obtain ⟨g24, h⟩ := oif_some h
      refine c_last E G n21 1 (k := l1.toNatClampNeg) (v := v22) (aA_k g23).1 (cc_a101 (aA_k g23).2.1) rfl (inb_k g24).1 (inb_k g24).2 (aA_k g23).2.2 dX10_settle_33 (fun H locs G => ?_)
      have G := gC_up_j (f := vp_updL (T.2.2.2.1 n21) l1.toNatClampNeg v22) (ccv_101 (aA_k g23).2.1) G
      obtain ⟨T25, eT25, h⟩ := elet_some h
      have G : gC cI cJ cZ cMic cSrc cSt cAI cAJ D ad A s.heap H locs T25 := by rw [eT25]; exact G
      have cp1 := show CPR T T25 from by rw [eT25]; exact cpr_sp cp0 sp_uJ
      clear eT25
      refine lv_aload_n hx hb dX10_settle_34 rfl (lv_at hl 1 rfl) ?_
      obtain ⟨g26, h⟩ := oif_some h
      obtain ⟨n27, en27, h⟩ := obind_some h
      have h_n27 : n27 < T.1 := by rw [← cp1.1]; exact cp1.2.2 _ _ _ en27
      refine c_get E G l0 1 (v := .ref (ad n27)) (oO_k g26).1 (cc_o10 (oO_k g26).2) rfl (fun w h => .tail _ (iA_12 h)) (by decide) (.tail _ qA_14) rfl (by rw [en27]; rfl) dX10_settle_35 ?_
      clear en27
      refine lv_iload_n hx hb dX10_settle_38 rfl (lv_at hl 3 rfl) ?_
      refine lv_iconst (v := 1) hx hb dX10_settle_39 (by decide) ?_
      refine lv_iadd hx hb dX10_settle_40 ?_
      refine lv_topi (fun v28 ev28 => ?_)
      have h := elet_at ev28 h
      clear ev28
      obtain ⟨g29, h⟩ := oif_some h
      obtain ⟨g30, h⟩ := oif_some h
      obtain ⟨n31, en31, h⟩ := obind_some h
      have h_n31 : n31 < T.1 := by rw [← cp1.1]; exact cp1.2.2 _ _ _ en31
      refine c_alda E G n27 7 (k := v28.toNatClampNeg) (v := .ref (ad n31)) (aA_k g29).1 (cc_a107 (aA_k g29).2.1) rfl (inb_k g30).1 (inb_k g30).2 (aA_k g29).2.2 (by show va_rf ((T25.2.2.2.2 n27 v28.toNatClampNeg).map ad) = _; rw [en31]; rfl) dX10_settle_41 ?_
      clear en31
      refine lv_iload_n hx hb dX10_settle_42 rfl (lv_at hl 2 rfl) ?_
      refine lv_dup2_11 hx hb dX10_settle_43 rfl rfl ?_
      obtain ⟨g32, h⟩ := oif_some h
      obtain ⟨g33, h⟩ := oif_some h
      refine c_lald E G n31 1 (k := l1.toNatClampNeg) (aA_k g32).1 (cc_a101 (aA_k g32).2.1) rfl (inb_k g33).1 (inb_k g33).2 (aA_k g32).2.2 dX10_settle_44 ?_
      refine lv_topl (fun v34 ev34 => ?_)
      have h := elet_at ev34 h
      clear ev34
      refine lv_lload_n hx hb dX10_settle_45 rfl (lv_at hl 0 rfl) ?_
      refine lv_bipush (v := 28) hx hb dX10_settle_46 (by decide) ?_
      refine lv_lshr (v := v16 >>> ((28 : Int32).toInt64 &&& 63)) hx hb dX10_settle_48 rfl ?_
      refine lv_topl (fun v35 ev35 => ?_)
      have h := elet_at ev35 h
      clear ev35
      refine lv_ladd hx hb dX10_settle_49 ?_
      refine lv_topl (fun v36 ev36 => ?_)
      have h := elet_at ev36 h
      clear ev36
      obtain ⟨g37, h⟩ := oif_some h
      obtain ⟨g38, h⟩ := oif_some h
      refine c_last E G n31 1 (k := l1.toNatClampNeg) (v := v36) (aA_k g37).1 (cc_a101 (aA_k g37).2.1) rfl (inb_k g38).1 (inb_k g38).2 (aA_k g37).2.2 dX10_settle_50 (fun H locs G => ?_)
      have G := gC_up_j (f := vp_updL (T25.2.2.2.1 n31) l1.toNatClampNeg v36) (ccv_101 (aA_k g37).2.1) G
      obtain ⟨T39, eT39, h⟩ := elet_some h
      have G : gC cI cJ cZ cMic cSrc cSt cAI cAJ D ad A s.heap H locs T39 := by rw [eT39]; exact G
      have cp2 := show CPR T T39 from by rw [eT39]; exact cpr_sp cp1 sp_uJ
      clear eT39
      obtain ⟨v40, ev40, h⟩ := elet_some h
      refine lv_iinc (v := v40) (lv' := [(2, .int v40), (3, .long v16), (0, .ref (ad l0)), (1, .int l1)]) hx hb dX10_settle_51 hl (k := 3) rfl ev40.symm (by decide) rfl (fun ls hl => ?_)
      refine lv_goto (tgt := 2) hx hb dX10_settle_54 (by decide) ?_
      have hl := lv_sub hl [2, 3, 0] rfl
      refine w_cast (c2 := T39.1 - T0.1) (s2 := sg T39 - sg T0) (by rw [cp2.1] <;> rfl) (by rw [sg_cpr cp2] <;> rfl) ?_
      exact ih _ _ _ _ _ _ _ _ h (gl_cpr hgl cp2) cp2.2.2 had (by rw [cp2.1]; exact h_l0) G hl
set_option maxHeartbeats 4000000 in
set_option maxRecDepth 100000 in
theorem a_X10_settle (l : Launch) (hst : l.stackTraces = false) (D : va_G) (cI cJ cZ cMic cSrc cSt cAI cAJ : ClassId) (ad : Nat → Nat) (T : AT) (o : Nat) (a0 : Int32) {T1 : AT} (h : g_X10_settle T o a0 = some T1) (hrc : RC T) (h_o : o < T.1) : kAv l yX10_settle (Cond.code yX10_settle cX10_settle 5 none :: wsA) 2 25 cI cJ cZ cMic cSrc cSt cAI cAJ D ad T [.ref (ad o), .int a0] T1 := by
  intro sz
  refine Met.ofW (cc := cX10_settle) (maxL := 5) (ret := none) (by decide) rfl ?_
  intro p e s m args below meth c s₁ B hml hv
  obtain ⟨rfl, hsz, hP, hK, hD0, hX, hN⟩ := hv
  have hx := B.exec
  have hb := B.bytes
  have hr := B.returns
  have hts := atoms_spec (ws := (Cond.code yX10_settle cX10_settle 5 none :: wsA)) B.pre
  have hown : s.vm.findClass RX10 = some m.cls := findClass_of_methodNamed B.named
  have hlocks := B.notSynchronized
  subst hsz
  have hD := hD0.self (sz := s.heap.size)
  generalize hAe : va_A (cW ad T.1 (cc cI cJ cZ cMic cSrc cSt cAI cAJ ad T)) s.heap.size = A at hD hX ⊢
  have hA : ∀ q : Nat, s.heap.size ≤ q → A q := fun q h => by rw [← hAe]; exact Or.inr h
  have G : gC cI cJ cZ cMic cSrc cSt cAI cAJ D ad A s.heap s.heap [] T := ⟨hP, hD, va_S.rf⟩
  have E : cE p c cX10_settle s m ([.ref (ad o), .int a0] : List Value).toArray (Cond.code yX10_settle cX10_settle 5 none :: wsA) D RX10 (CT cI cJ cZ cMic cSrc cSt cAI cAJ) := ⟨hx, hb, hts, hown, hK⟩
  have hl := lv_entry ([.ref (ad o), .int a0]) (n := 5) (Nat.le_of_ble_eq_true rfl)
  rw [lg_entry_eq]
  generalize (lg_sl ([.ref (ad o), .int a0]) ++ List.replicate (5 - (lg_sl ([.ref (ad o), .int a0])).length) Slot.unset).toArray = ls at hl ⊢
  have hl : lv_has ls 5 [(0, .ref (ad o)), (1, .int a0)] := hl
  have hgl := GL.rf T
  have had : ∀ n, n < T.1 → ad n = ad n := fun _ _ => rfl
  have hT1 := s_X10_settle h
  have hcs := cs_ok hgl hT1
  refine w_cast (Nat.sub_self T.1).symm (Nat.sub_self (sg T)).symm ?_
  have cp0 := cpr0 hrc
  unfold g_X10_settle at h
  refine lv_iconst (v := 0) hx hb dX10_settle_0 (by decide) ?_
  refine lv_istore_n (lv' := [(2, .int 0), (0, .ref (ad o)), (1, .int a0)]) hx hb dX10_settle_1 rfl hl (by decide) rfl (fun ls hl => ?_)
  have hl := lv_sub hl [1, 2, 0] rfl
  refine w_cast (c2 := T.1 - T.1) (s2 := sg T - sg T) (by rw [cp0.1] <;> rfl) (by rw [sg_cpr cp0] <;> rfl) ?_
  exact a_X10_settle_b2 E hA hX hN hml hst (fun ad H locs ls had G => W.vret hx hb hr (fun t ht hW => ⟨⟨(T1, ad), rfl, ⟨rfl, had⟩, ⟨by rw [ht]; exact G.1, va_K.moved hW.alike hK, G.2.1⟩⟩, G.2.2.F ht⟩) G.2.2.2.2 dX10_settle_99) _ _ _ _ _ _ _ _ _ h (gl_cpr hgl cp0) cp0.2.2 had (by rw [cp0.1]; exact h_o) G hl
def g_J9_floorDiv_f86c9_b27   (l4 : Int64) : Option (Int64) := some l4
set_option maxHeartbeats 4000000 in
set_option maxRecDepth 100000 in
theorem u_J9_floorDiv_f86c9_b27 {p : Program} {l : Launch} {e : Env} {s : State} {m : MethodId} {args : Array Value} {below : List Frame} {meth : Method} {c : Code} {Q : State → Prop} {r1 : Int64}  (E : p.tables.exec = Jvm.exec ∧ c.code = cJ9_floorDiv_f86c9 ∧ (∀ w ∈ (Cond.code yJ9_floorDiv_f86c9 cJ9_floorDiv_f86c9 6 (some .long) :: wsA), w.before args s = true) ∧ s.vm.findClass RJ9 = some m.cls) (hN : nX s) (hml : c.maxLocals = 6) (kr26 : ∀ (ls : Array Slot), W p l e { frames := 1, cells := 0, slots := 0, locals := 0 } s m args below meth c s.heap [] 0 0 Q (F0 m 26 ls [.long r1])) (kr29 : ∀ (ls : Array Slot), W p l e { frames := 1, cells := 0, slots := 0, locals := 0 } s m args below meth c s.heap [] 0 0 Q (F0 m 29 ls [.long r1])) : ∀ (ls : Array Slot) (l4 : Int64), g_J9_floorDiv_f86c9_b27 l4 = some r1 → lv_has ls 6 [(4, .long l4)] → W p l e { frames := 1, cells := 0, slots := 0, locals := 0 } s m args below meth c s.heap [] 0 0 Q (F0 m 27 ls []) := by
  have hx := E.1
  have hb := E.2.1
  have hts := E.2.2.1
  have hown := E.2.2.2
  intro ls l4 h hl
  unfold g_J9_floorDiv_f86c9_b27 at h
  refine lv_lload hx hb dJ9_floorDiv_f86c9_27 (lv_at hl 0 rfl) ?_
  refine lv_tol (osome1 h) ?_
  exact kr29 _
def g_J9_floorDiv_f86c9  (a0 : Int64) (a1 : Int64) : Option (Int64) := oif (¬ a1 = 0) <| elet (a0 / a1) fun v3 => elet (a0 ^^^ a1) fun v4 => elet (lg_cmp v4 (0 : Int64)) fun v5 => if 0 ≤ v5 then (g_J9_floorDiv_f86c9_b27 v3) else (elet (v3 * a1) fun v7 => elet (lg_cmp v7 a0) fun v8 => if v8 = 0 then (g_J9_floorDiv_f86c9_b27 v3) else (elet (v3 - (1 : Int64)) fun v10 => some v10))
set_option maxHeartbeats 4000000 in
set_option maxRecDepth 100000 in
theorem u_J9_floorDiv_f86c9 (l : Launch) (a0 : Int64) (a1 : Int64) {r1 : Int64} (h : g_J9_floorDiv_f86c9 a0 a1 = some r1) : Met l yJ9_floorDiv_f86c9 (Cond.code yJ9_floorDiv_f86c9 cJ9_floorDiv_f86c9 6 (some .long) :: wsA) { frames := 1, cells := 0, slots := 0, locals := 0 } (va_Pc [.long a0, .long a1] nX) (vp_Sl (fun r => r = r1)) 0 0 (fun _ => False) := by
  refine met_ofF (cc := cJ9_floorDiv_f86c9) (maxL := 6) (ret := (some .long)) (by decide +kernel) rfl ?_
  intro p e s m args below meth c s₁ B hml hv
  obtain ⟨rfl, hN⟩ := hv
  have hx := B.exec
  have hb := B.bytes
  have hr := B.returns
  have hts := atoms_spec (ws := (Cond.code yJ9_floorDiv_f86c9 cJ9_floorDiv_f86c9 6 (some .long) :: wsA)) B.pre
  have hown : s.vm.findClass RJ9 = some m.cls := findClass_of_methodNamed B.named
  have hlocks := B.notSynchronized
  have E : p.tables.exec = Jvm.exec ∧ c.code = cJ9_floorDiv_f86c9 ∧ (∀ w ∈ (Cond.code yJ9_floorDiv_f86c9 cJ9_floorDiv_f86c9 6 (some .long) :: wsA), w.before ([.long a0, .long a1] : List Value).toArray s = true) ∧ s.vm.findClass RJ9 = some m.cls := ⟨hx, hb, hts, hown⟩
  have hl := lv_entry ([.long a0, .long a1]) (n := 6) (Nat.le_of_ble_eq_true rfl)
  rw [lg_entry_eq]
  generalize (lg_sl ([.long a0, .long a1]) ++ List.replicate (6 - (lg_sl ([.long a0, .long a1])).length) Slot.unset).toArray = ls at hl ⊢
  have hl : lv_has ls 6 [(0, .long a0), (2, .long a1)] := hl
  unfold g_J9_floorDiv_f86c9 at h
  refine lv_lload_n hx hb dJ9_floorDiv_f86c9_0 rfl (lv_at hl 0 rfl) ?_
  refine lv_lload_n hx hb dJ9_floorDiv_f86c9_1 rfl (lv_at hl 1 rfl) ?_
  obtain ⟨g2, h⟩ := oif_some h
  refine lv_ldiv hx hb dJ9_floorDiv_f86c9_2 g2 ?_
  refine lv_topl (fun v3 ev3 => ?_)
  have h := elet_at ev3 h
  clear ev3
  refine lv_lstore (lv' := [(4, .long v3), (0, .long a0), (2, .long a1)]) hx hb dJ9_floorDiv_f86c9_3 hl (by decide) rfl (fun ls hl => ?_)
  refine lv_lload_n hx hb dJ9_floorDiv_f86c9_5 rfl (lv_at hl 1 rfl) ?_
  refine lv_lload_n hx hb dJ9_floorDiv_f86c9_6 rfl (lv_at hl 2 rfl) ?_
  refine lv_lxor hx hb dJ9_floorDiv_f86c9_7 ?_
  refine lv_topl (fun v4 ev4 => ?_)
  have h := elet_at ev4 h
  clear ev4
  refine lv_lconst (v := 0) hx hb dJ9_floorDiv_f86c9_8 (by decide) ?_
  refine W.lcmp hx hb dJ9_floorDiv_f86c9_9 ?_
  refine lv_topi (fun v5 ev5 => ?_)
  have h := elet_at ev5 h
  clear ev5
  refine lv_if_ge (tgt := 27) hx hb dJ9_floorDiv_f86c9_10 (by decide) (fun c6 => ?_) (fun c6 => ?_)
  · have h := oif_pos c6 h
    have hl := lv_sub hl [0] rfl
    exact u_J9_floorDiv_f86c9_b27 E hN hml (fun ls => W.lret (v := r1) hx hb hr (fun t ht hW => ⟨r1, rfl, rfl, ht⟩) (fun _ h => absurd h List.not_mem_nil) dJ9_floorDiv_f86c9_26) (fun ls => W.lret (v := r1) hx hb hr (fun t ht hW => ⟨r1, rfl, rfl, ht⟩) (fun _ h => absurd h List.not_mem_nil) dJ9_floorDiv_f86c9_29) _ _ h hl
  · have h := oif_neg c6 h
    refine lv_lload hx hb dJ9_floorDiv_f86c9_13 (lv_at hl 0 rfl) ?_
    refine lv_lload_n hx hb dJ9_floorDiv_f86c9_15 rfl (lv_at hl 2 rfl) ?_
    refine lv_lmul hx hb dJ9_floorDiv_f86c9_16 ?_
    refine lv_topl (fun v7 ev7 => ?_)
    have h := elet_at ev7 h
    clear ev7
    refine lv_lload_n hx hb dJ9_floorDiv_f86c9_17 rfl (lv_at hl 1 rfl) ?_
    refine W.lcmp hx hb dJ9_floorDiv_f86c9_18 ?_
    refine lv_topi (fun v8 ev8 => ?_)
    have h := elet_at ev8 h
    clear ev8
    refine lv_if_eq (tgt := 27) hx hb dJ9_floorDiv_f86c9_19 (by decide) (fun c9 => ?_) (fun c9 => ?_)
    · have h := oif_pos c9 h
      have hl := lv_sub hl [0] rfl
      exact u_J9_floorDiv_f86c9_b27 E hN hml (fun ls => W.lret (v := r1) hx hb hr (fun t ht hW => ⟨r1, rfl, rfl, ht⟩) (fun _ h => absurd h List.not_mem_nil) dJ9_floorDiv_f86c9_26) (fun ls => W.lret (v := r1) hx hb hr (fun t ht hW => ⟨r1, rfl, rfl, ht⟩) (fun _ h => absurd h List.not_mem_nil) dJ9_floorDiv_f86c9_29) _ _ h hl
    · have h := oif_neg c9 h
      refine lv_lload hx hb dJ9_floorDiv_f86c9_22 (lv_at hl 0 rfl) ?_
      refine lv_lconst (v := 1) hx hb dJ9_floorDiv_f86c9_24 (by decide) ?_
      refine lv_lsub hx hb dJ9_floorDiv_f86c9_25 ?_
      refine lv_topl (fun v10 ev10 => ?_)
      have h := elet_at ev10 h
      clear ev10
      exact W.lret (v := v10) hx hb hr (fun t ht hW => ⟨v10, rfl, osome1 h, ht⟩) (fun _ h => absurd h List.not_mem_nil) dJ9_floorDiv_f86c9_26
def g_J9_floorMod_f86c9_b25   (l4 : Int64) : Option (Int64) := some l4
set_option maxHeartbeats 4000000 in
set_option maxRecDepth 100000 in
theorem u_J9_floorMod_f86c9_b25 {p : Program} {l : Launch} {e : Env} {s : State} {m : MethodId} {args : Array Value} {below : List Frame} {meth : Method} {c : Code} {Q : State → Prop} {r1 : Int64}  (E : p.tables.exec = Jvm.exec ∧ c.code = cJ9_floorMod_f86c9 ∧ (∀ w ∈ (Cond.code yJ9_floorMod_f86c9 cJ9_floorMod_f86c9 6 (some .long) :: wsA), w.before args s = true) ∧ s.vm.findClass RJ9 = some m.cls) (hN : nX s) (hml : c.maxLocals = 6) (kr24 : ∀ (ls : Array Slot), W p l e { frames := 1, cells := 0, slots := 0, locals := 0 } s m args below meth c s.heap [] 0 0 Q (F0 m 24 ls [.long r1])) (kr27 : ∀ (ls : Array Slot), W p l e { frames := 1, cells := 0, slots := 0, locals := 0 } s m args below meth c s.heap [] 0 0 Q (F0 m 27 ls [.long r1])) : ∀ (ls : Array Slot) (l4 : Int64), g_J9_floorMod_f86c9_b25 l4 = some r1 → lv_has ls 6 [(4, .long l4)] → W p l e { frames := 1, cells := 0, slots := 0, locals := 0 } s m args below meth c s.heap [] 0 0 Q (F0 m 25 ls []) := by
  have hx := E.1
  have hb := E.2.1
  have hts := E.2.2.1
  have hown := E.2.2.2
  intro ls l4 h hl
  unfold g_J9_floorMod_f86c9_b25 at h
  refine lv_lload hx hb dJ9_floorMod_f86c9_25 (lv_at hl 0 rfl) ?_
  refine lv_tol (osome1 h) ?_
  exact kr27 _
def g_J9_floorMod_f86c9  (a0 : Int64) (a1 : Int64) : Option (Int64) := oif (¬ a1 = 0) <| elet (a0 - a0 / a1 * a1) fun v3 => elet (a0 ^^^ a1) fun v4 => elet (lg_cmp v4 (0 : Int64)) fun v5 => if 0 ≤ v5 then (g_J9_floorMod_f86c9_b25 v3) else (elet (lg_cmp v3 (0 : Int64)) fun v7 => if v7 = 0 then (g_J9_floorMod_f86c9_b25 v3) else (elet (v3 + a1) fun v9 => some v9))
set_option maxHeartbeats 4000000 in
set_option maxRecDepth 100000 in
theorem u_J9_floorMod_f86c9 (l : Launch) (a0 : Int64) (a1 : Int64) {r1 : Int64} (h : g_J9_floorMod_f86c9 a0 a1 = some r1) : Met l yJ9_floorMod_f86c9 (Cond.code yJ9_floorMod_f86c9 cJ9_floorMod_f86c9 6 (some .long) :: wsA) { frames := 1, cells := 0, slots := 0, locals := 0 } (va_Pc [.long a0, .long a1] nX) (vp_Sl (fun r => r = r1)) 0 0 (fun _ => False) := by
  refine met_ofF (cc := cJ9_floorMod_f86c9) (maxL := 6) (ret := (some .long)) (by decide +kernel) rfl ?_
  intro p e s m args below meth c s₁ B hml hv
  obtain ⟨rfl, hN⟩ := hv
  have hx := B.exec
  have hb := B.bytes
  have hr := B.returns
  have hts := atoms_spec (ws := (Cond.code yJ9_floorMod_f86c9 cJ9_floorMod_f86c9 6 (some .long) :: wsA)) B.pre
  have hown : s.vm.findClass RJ9 = some m.cls := findClass_of_methodNamed B.named
  have hlocks := B.notSynchronized
  have E : p.tables.exec = Jvm.exec ∧ c.code = cJ9_floorMod_f86c9 ∧ (∀ w ∈ (Cond.code yJ9_floorMod_f86c9 cJ9_floorMod_f86c9 6 (some .long) :: wsA), w.before ([.long a0, .long a1] : List Value).toArray s = true) ∧ s.vm.findClass RJ9 = some m.cls := ⟨hx, hb, hts, hown⟩
  have hl := lv_entry ([.long a0, .long a1]) (n := 6) (Nat.le_of_ble_eq_true rfl)
  rw [lg_entry_eq]
  generalize (lg_sl ([.long a0, .long a1]) ++ List.replicate (6 - (lg_sl ([.long a0, .long a1])).length) Slot.unset).toArray = ls at hl ⊢
  have hl : lv_has ls 6 [(0, .long a0), (2, .long a1)] := hl
  unfold g_J9_floorMod_f86c9 at h
  refine lv_lload_n hx hb dJ9_floorMod_f86c9_0 rfl (lv_at hl 0 rfl) ?_
  refine lv_lload_n hx hb dJ9_floorMod_f86c9_1 rfl (lv_at hl 1 rfl) ?_
  obtain ⟨g2, h⟩ := oif_some h
  refine lv_lrem hx hb dJ9_floorMod_f86c9_2 g2 ?_
  refine lv_topl (fun v3 ev3 => ?_)
  have h := elet_at ev3 h
  clear ev3
  refine lv_lstore (lv' := [(4, .long v3), (0, .long a0), (2, .long a1)]) hx hb dJ9_floorMod_f86c9_3 hl (by decide) rfl (fun ls hl => ?_)
  refine lv_lload_n hx hb dJ9_floorMod_f86c9_5 rfl (lv_at hl 1 rfl) ?_
  refine lv_lload_n hx hb dJ9_floorMod_f86c9_6 rfl (lv_at hl 2 rfl) ?_
  refine lv_lxor hx hb dJ9_floorMod_f86c9_7 ?_
  refine lv_topl (fun v4 ev4 => ?_)
  have h := elet_at ev4 h
  clear ev4
  refine lv_lconst (v := 0) hx hb dJ9_floorMod_f86c9_8 (by decide) ?_
  refine W.lcmp hx hb dJ9_floorMod_f86c9_9 ?_
  refine lv_topi (fun v5 ev5 => ?_)
  have h := elet_at ev5 h
  clear ev5
  refine lv_if_ge (tgt := 25) hx hb dJ9_floorMod_f86c9_10 (by decide) (fun c6 => ?_) (fun c6 => ?_)
  · have h := oif_pos c6 h
    have hl := lv_sub hl [0] rfl
    exact u_J9_floorMod_f86c9_b25 E hN hml (fun ls => W.lret (v := r1) hx hb hr (fun t ht hW => ⟨r1, rfl, rfl, ht⟩) (fun _ h => absurd h List.not_mem_nil) dJ9_floorMod_f86c9_24) (fun ls => W.lret (v := r1) hx hb hr (fun t ht hW => ⟨r1, rfl, rfl, ht⟩) (fun _ h => absurd h List.not_mem_nil) dJ9_floorMod_f86c9_27) _ _ h hl
  · have h := oif_neg c6 h
    refine lv_lload hx hb dJ9_floorMod_f86c9_13 (lv_at hl 0 rfl) ?_
    refine lv_lconst (v := 0) hx hb dJ9_floorMod_f86c9_15 (by decide) ?_
    refine W.lcmp hx hb dJ9_floorMod_f86c9_16 ?_
    refine lv_topi (fun v7 ev7 => ?_)
    have h := elet_at ev7 h
    clear ev7
    refine lv_if_eq (tgt := 25) hx hb dJ9_floorMod_f86c9_17 (by decide) (fun c8 => ?_) (fun c8 => ?_)
    · have h := oif_pos c8 h
      have hl := lv_sub hl [0] rfl
      exact u_J9_floorMod_f86c9_b25 E hN hml (fun ls => W.lret (v := r1) hx hb hr (fun t ht hW => ⟨r1, rfl, rfl, ht⟩) (fun _ h => absurd h List.not_mem_nil) dJ9_floorMod_f86c9_24) (fun ls => W.lret (v := r1) hx hb hr (fun t ht hW => ⟨r1, rfl, rfl, ht⟩) (fun _ h => absurd h List.not_mem_nil) dJ9_floorMod_f86c9_27) _ _ h hl
    · have h := oif_neg c8 h
      refine lv_lload hx hb dJ9_floorMod_f86c9_20 (lv_at hl 0 rfl) ?_
      refine lv_lload_n hx hb dJ9_floorMod_f86c9_22 rfl (lv_at hl 2 rfl) ?_
      refine lv_ladd hx hb dJ9_floorMod_f86c9_23 ?_
      refine lv_topl (fun v9 ev9 => ?_)
      have h := elet_at ev9 h
      clear ev9
      exact W.lret (v := v9) hx hb hr (fun t ht hW => ⟨v9, rfl, osome1 h, ht⟩) (fun _ h => absurd h List.not_mem_nil) dJ9_floorMod_f86c9_24
def g_X10_divide_b121  (T : AT)  : Option (AT) := some T
def g_X10_divide_b40  : Nat → AT → Nat → Int32 → Int32 → Int32 → Int64 → Int32 → Option (AT)
  | 0, _, _, _, _, _, _, _ => none
  | n + 1, T, l0, l1, l2, l3, l4, l6 => if l6 < 0 then (if l3 = 0 then (g_X10_divide_b121 T) else (elet (lg_cmp l4 (0 : Int64)) fun v4 => if v4 ≤ 0 then (g_X10_divide_b121 T) else (oif (oO T l0 10 = true) <| obind (T.2.2.2.2 l0 1) fun n7 => oif (aA T n7 107 = true) <| oif (inb 0 (T.2.1 n7).2 = true) <| obind (T.2.2.2.2 n7 (0 : Int32).toNatClampNeg) fun n10 => oif (aA T n10 101 = true) <| oif (inb l1 (T.2.1 n10).2 = true) <| elet (T.2.2.2.1 n10 l1.toNatClampNeg) fun v13 => elet (v13 + (1 : Int64)) fun v14 => oif (aA T n10 101 = true) <| oif (inb l1 (T.2.1 n10).2 = true) <| elet (uJ T n10 l1.toNatClampNeg v14) fun T17 => oif (oO T17 l0 10 = true) <| obind (g_X10_settle T17 l0 l1) fun T19 => g_X10_divide_b121 T19))) else (elet (l4 <<< ((28 : Int32).toInt64 &&& 63)) fun v21 => oif (oO T l0 10 = true) <| obind (T.2.2.2.2 l0 1) fun n23 => oif (aA T n23 107 = true) <| oif (inb l6 (T.2.1 n23).2 = true) <| obind (T.2.2.2.2 n23 l6.toNatClampNeg) fun n26 => oif (aA T n26 101 = true) <| oif (inb l1 (T.2.1 n26).2 = true) <| elet (T.2.2.2.1 n26 l1.toNatClampNeg) fun v29 => elet (v21 + v29) fun v30 => oif (oO T l0 10 = true) <| obind (T.2.2.2.2 l0 1) fun n32 => oif (aA T n32 107 = true) <| oif (inb l6 (T.2.1 n32).2 = true) <| obind (T.2.2.2.2 n32 l6.toNatClampNeg) fun n35 => elet (l2.toInt64) fun v36 => obind (g_J9_floorDiv_f86c9 v30 v36) fun r37 => oif (aA T n35 101 = true) <| oif (inb l1 (T.2.1 n35).2 = true) <| elet (uJ T n35 l1.toNatClampNeg r37) fun T41 => elet (l2.toInt64) fun v42 => obind (g_J9_floorMod_f86c9 v30 v42) fun r43 => elet (l6 + Int32.ofInt (-1)) fun v45 => g_X10_divide_b40 n T41 l0 l1 l2 l3 r43 v45)
def g_X10_divide_b28  (T : AT) (s0 : Int32) (l0 : Nat) (l1 : Int32) (l2 : Int32) : Option (AT) := oif (oO T l0 10 = true) <| elet (T.2.2.1 l0 2) fun v3 => elet (v3 - 1) fun v4 => g_X10_divide_b40 16384 T l0 l1 l2 s0 (0 : Int64) v4
def g_X10_divide (T : AT) (o : Nat) (a0 : Int32) (a1 : Int32) : Option (AT) := if 0 < a1 then (oif (oO T o 10 = true) <| obind (T.2.2.2.2 o 1) fun n4 => oif (oO T o 10 = true) <| elet (T.2.2.1 o 2) fun v6 => elet (v6 - 1) fun v7 => oif (aA T n4 107 = true) <| oif (inb v7 (T.2.1 n4).2 = true) <| obind (T.2.2.2.2 n4 v7.toNatClampNeg) fun n10 => oif (aA T n10 101 = true) <| oif (inb a0 (T.2.1 n10).2 = true) <| elet (T.2.2.2.1 n10 a0.toNatClampNeg) fun v13 => elet (lg_cmp v13 (0 : Int64)) fun v14 => if 0 ≤ v14 then (g_X10_divide_b28 T 0 o a0 a1) else (g_X10_divide_b28 T 1 o a0 a1)) else (some T)
set_option maxHeartbeats 4000000 in
set_option maxRecDepth 100000 in
theorem s_X10_divide_b121 {T1 : AT} : ∀ (T : AT), g_X10_divide_b121 T = some T1 → GL T T1 := by
  intro T h
  have p0 := GL.rf T
  unfold g_X10_divide_b121 at h
  rw [← osome1 h]
  exact p0
set_option maxHeartbeats 4000000 in
set_option maxRecDepth 100000 in
theorem s_X10_divide_b40 {T1 : AT} : ∀ n : Nat, ∀ (T : AT) (l0 : Nat) (l1 : Int32) (l2 : Int32) (l3 : Int32) (l4 : Int64) (l6 : Int32), g_X10_divide_b40 n T l0 l1 l2 l3 l4 l6 = some T1 → GL T T1 := by
  intro n
  induction n with
  | zero =>
    intro T l0 l1 l2 l3 l4 l6 h
    have h : (none : Option (AT)) = some T1 := h
    cases h
  | succ n ih =>
    intro T l0 l1 l2 l3 l4 l6 h
    have p0 := GL.rf T
    unfold g_X10_divide_b40 at h
    rcases oif_or h with ⟨c2, h⟩ | ⟨c2, h⟩
    · have h := h
      rcases oif_or h with ⟨c3, h⟩ | ⟨c3, h⟩
      · have h := h
        exact GL.tr p0 (s_X10_divide_b121 _ h)
      · have h := h
        obtain ⟨v4, -, h⟩ := elet_some h
        rcases oif_or h with ⟨c5, h⟩ | ⟨c5, h⟩
        · have h := h
          exact GL.tr p0 (s_X10_divide_b121 _ h)
        · have h := h
          obtain ⟨g6, h⟩ := oif_some h
          obtain ⟨n7, en7, h⟩ := obind_some h
          obtain ⟨g8, h⟩ := oif_some h
          obtain ⟨g9, h⟩ := oif_some h
          obtain ⟨n10, en10, h⟩ := obind_some h
          obtain ⟨g11, h⟩ := oif_some h
          obtain ⟨g12, h⟩ := oif_some h
          obtain ⟨v13, -, h⟩ := elet_some h
          obtain ⟨v14, -, h⟩ := elet_some h
          obtain ⟨g15, h⟩ := oif_some h
          obtain ⟨g16, h⟩ := oif_some h
          obtain ⟨T17, eT17, h⟩ := elet_some h
          have p1 : GL T T17 := GL.tr p0 (by rw [eT17]; exact gl_sp sp_uJ)
          obtain ⟨g18, h⟩ := oif_some h
          obtain ⟨T19, eT19, h⟩ := obind_some h
          have p2 : GL T T19 := GL.tr p1 (s_X10_settle eT19)
          exact GL.tr p2 (s_X10_divide_b121 _ h)
    · have h := h
      obtain ⟨v21, -, h⟩ := elet_some h
      obtain ⟨g22, h⟩ := oif_some h
      obtain ⟨n23, en23, h⟩ := obind_some h
      obtain ⟨g24, h⟩ := oif_some h
      obtain ⟨g25, h⟩ := oif_some h
      obtain ⟨n26, en26, h⟩ := obind_some h
      obtain ⟨g27, h⟩ := oif_some h
      obtain ⟨g28, h⟩ := oif_some h
      obtain ⟨v29, -, h⟩ := elet_some h
      obtain ⟨v30, -, h⟩ := elet_some h
      obtain ⟨g31, h⟩ := oif_some h
      obtain ⟨n32, en32, h⟩ := obind_some h
      obtain ⟨g33, h⟩ := oif_some h
      obtain ⟨g34, h⟩ := oif_some h
      obtain ⟨n35, en35, h⟩ := obind_some h
      obtain ⟨v36, -, h⟩ := elet_some h
      obtain ⟨r37, -, h⟩ := obind_some h
      obtain ⟨g38, h⟩ := oif_some h
      obtain ⟨g39, h⟩ := oif_some h
      obtain ⟨T40, eT40, h⟩ := elet_some h
      have p1 : GL T T40 := GL.tr p0 (by rw [eT40]; exact gl_sp sp_uJ)
      obtain ⟨v41, -, h⟩ := elet_some h
      obtain ⟨r42, -, h⟩ := obind_some h
      obtain ⟨v43, ev43, h⟩ := elet_some h
      exact GL.tr p1 (ih _ _ _ _ _ _ _ h)
set_option maxHeartbeats 4000000 in
set_option maxRecDepth 100000 in
theorem s_X10_divide_b28 {T1 : AT} : ∀ (T : AT) (s0 : Int32) (l0 : Nat) (l1 : Int32) (l2 : Int32), g_X10_divide_b28 T s0 l0 l1 l2 = some T1 → GL T T1 := by
  intro T s0 l0 l1 l2 h
  have p0 := GL.rf T
  unfold g_X10_divide_b28 at h
  obtain ⟨g2, h⟩ := oif_some h
  obtain ⟨v3, -, h⟩ := elet_some h
  obtain ⟨v4, -, h⟩ := elet_some h
  exact GL.tr p0 (s_X10_divide_b40 _ _ _ _ _ _ _ _ h)
set_option maxHeartbeats 4000000 in
set_option maxRecDepth 100000 in
theorem s_X10_divide {T : AT} {o : Nat} {a0 : Int32} {a1 : Int32} {T1 : AT} (h : g_X10_divide T o a0 a1 = some T1) : GL T T1 := by
  have p0 := GL.rf T
  unfold g_X10_divide at h
  rcases oif_or h with ⟨c2, h⟩ | ⟨c2, h⟩
  · have h := h
    obtain ⟨g3, h⟩ := oif_some h
    obtain ⟨n4, en4, h⟩ := obind_some h
    obtain ⟨g5, h⟩ := oif_some h
    obtain ⟨v6, -, h⟩ := elet_some h
    obtain ⟨v7, -, h⟩ := elet_some h
    obtain ⟨g8, h⟩ := oif_some h
    obtain ⟨g9, h⟩ := oif_some h
    obtain ⟨n10, en10, h⟩ := obind_some h
    obtain ⟨g11, h⟩ := oif_some h
    obtain ⟨g12, h⟩ := oif_some h
    obtain ⟨v13, -, h⟩ := elet_some h
    obtain ⟨v14, -, h⟩ := elet_some h
    rcases oif_or h with ⟨c15, h⟩ | ⟨c15, h⟩
    · have h := h
      exact GL.tr p0 (s_X10_divide_b28 _ _ _ _ _ h)
    · have h := h
      exact GL.tr p0 (s_X10_divide_b28 _ _ _ _ _ h)
  · have h := h
    rw [← osome1 h]
    exact p0
set_option maxHeartbeats 4000000 in
set_option maxRecDepth 100000 in
theorem a_X10_divide_b121 {p : Program} {l : Launch} {e : Env} {s : State} {m : MethodId} {args : Array Value} {below : List Frame} {meth : Method} {c : Code} {Q : State → Prop} {D : va_G} {A : Nat → Prop} {cI cJ cZ cMic cSrc cSt cAI cAJ : ClassId} {ad0 : Nat → Nat} {T0 : AT} {T1 : AT} (E : cE p c cX10_divide s m args (Cond.code yX10_divide cX10_divide 9 none :: wsA) D RX10 (CT cI cJ cZ cMic cSrc cSt cAI cAJ)) (hA : ∀ q : Nat, s.heap.size ≤ q → A q) (hX : xT A s) (hN : nX s) (hml : c.maxLocals = 9) (hst : l.stackTraces = false) (kr4 : ∀ (ad : Nat → Nat) (H : Heap) (locs : List Loc) (ls : Array Slot), (∀ n, n < T0.1 → ad n = ad0 n) → gC cI cJ cZ cMic cSrc cSt cAI cAJ D ad A s.heap H locs T1 → W p l e { frames := 3, cells := T1.1 - T0.1, slots := sg T1 - sg T0, locals := 49 } s m args below meth c H locs (T1.1 - T0.1) (sg T1 - sg T0) Q (F0 m 4 ls [])) (kr121 : ∀ (ad : Nat → Nat) (H : Heap) (locs : List Loc) (ls : Array Slot), (∀ n, n < T0.1 → ad n = ad0 n) → gC cI cJ cZ cMic cSrc cSt cAI cAJ D ad A s.heap H locs T1 → W p l e { frames := 3, cells := T1.1 - T0.1, slots := sg T1 - sg T0, locals := 49 } s m args below meth c H locs (T1.1 - T0.1) (sg T1 - sg T0) Q (F0 m 121 ls [])) : ∀ (T : AT) (ad : Nat → Nat) (H : Heap) (locs : List Loc) (ls : Array Slot), g_X10_divide_b121 T = some T1 → GL T0 T → RC T → (∀ n, n < T0.1 → ad n = ad0 n) → gC cI cJ cZ cMic cSrc cSt cAI cAJ D ad A s.heap H locs T → lv_has ls 9 [] → W p l e { frames := 3, cells := T1.1 - T0.1, slots := sg T1 - sg T0, locals := 49 } s m args below meth c H locs (T.1 - T0.1) (sg T - sg T0) Q (F0 m 121 ls []) := by
  have hx := E.1
  have hb := E.2.1
  have hts := E.2.2.1
  have hown := E.2.2.2.1
  have hK := E.2.2.2.2
  intro T ad H locs ls h hgl hrc had G hl
  have hT1 := s_X10_divide_b121 _ h
  have hcs := cs_ok hgl hT1
  have cp0 := cpr0 hrc
  unfold g_X10_divide_b121 at h
  rw [osome1 h] at G
  refine w_cast (c2 := T1.1 - T0.1) (s2 := sg T1 - sg T0) (by rw [← osome1 h, cp0.1] <;> rfl) (by rw [← osome1 h, sg_cpr cp0] <;> rfl) ?_
  exact kr121 ad _ _ _ had G
set_option maxHeartbeats 4000000 in
set_option maxRecDepth 100000 in
theorem a_X10_divide_b40 {p : Program} {l : Launch} {e : Env} {s : State} {m : MethodId} {args : Array Value} {below : List Frame} {meth : Method} {c : Code} {Q : State → Prop} {D : va_G} {A : Nat → Prop} {cI cJ cZ cMic cSrc cSt cAI cAJ : ClassId} {ad0 : Nat → Nat} {T0 : AT} {T1 : AT} (E : cE p c cX10_divide s m args (Cond.code yX10_divide cX10_divide 9 none :: wsA) D RX10 (CT cI cJ cZ cMic cSrc cSt cAI cAJ)) (hA : ∀ q : Nat, s.heap.size ≤ q → A q) (hX : xT A s) (hN : nX s) (hml : c.maxLocals = 9) (hst : l.stackTraces = false) (kr4 : ∀ (ad : Nat → Nat) (H : Heap) (locs : List Loc) (ls : Array Slot), (∀ n, n < T0.1 → ad n = ad0 n) → gC cI cJ cZ cMic cSrc cSt cAI cAJ D ad A s.heap H locs T1 → W p l e { frames := 3, cells := T1.1 - T0.1, slots := sg T1 - sg T0, locals := 49 } s m args below meth c H locs (T1.1 - T0.1) (sg T1 - sg T0) Q (F0 m 4 ls [])) (kr121 : ∀ (ad : Nat → Nat) (H : Heap) (locs : List Loc) (ls : Array Slot), (∀ n, n < T0.1 → ad n = ad0 n) → gC cI cJ cZ cMic cSrc cSt cAI cAJ D ad A s.heap H locs T1 → W p l e { frames := 3, cells := T1.1 - T0.1, slots := sg T1 - sg T0, locals := 49 } s m args below meth c H locs (T1.1 - T0.1) (sg T1 - sg T0) Q (F0 m 121 ls [])) : ∀ n : Nat, ∀ (T : AT) (ad : Nat → Nat) (H : Heap) (locs : List Loc) (ls : Array Slot) (l0 : Nat) (l1 : Int32) (l2 : Int32) (l3 : Int32) (l4 : Int64) (l6 : Int32), g_X10_divide_b40 n T l0 l1 l2 l3 l4 l6 = some T1 → GL T0 T → RC T → (∀ n, n < T0.1 → ad n = ad0 n) → l0 < T.1 → gC cI cJ cZ cMic cSrc cSt cAI cAJ D ad A s.heap H locs T → lv_has ls 9 [(0, .ref (ad l0)), (1, .int l1), (2, .int l2), (3, .int l3), (4, .long l4), (6, .int l6)] → W p l e { frames := 3, cells := T1.1 - T0.1, slots := sg T1 - sg T0, locals := 49 } s m args below meth c H locs (T.1 - T0.1) (sg T - sg T0) Q (F0 m 40 ls []) := by
  have hx := E.1
  have hb := E.2.1
  have hts := E.2.2.1
  have hown := E.2.2.2.1
  have hK := E.2.2.2.2
  intro n
  induction n with
  | zero =>
    intro T ad H locs ls l0 l1 l2 l3 l4 l6 h
    have h : (none : Option (AT)) = some T1 := h
    cases h
  | succ n ih =>
    intro T ad H locs ls l0 l1 l2 l3 l4 l6 h hgl hrc had h_l0 G hl
    have hT1 := s_X10_divide_b40 _ _ _ _ _ _ _ _ h
    have hcs := cs_ok hgl hT1
    have cp0 := cpr0 hrc
    unfold g_X10_divide_b40 at h
    refine lv_iload hx hb dX10_divide_40 (lv_at hl 5 rfl) ?_
    refine lv_if_lt (tgt := 93) hx hb dX10_divide_42 (by decide) (fun c2 => ?_) (fun c2 => ?_)
    · have h := oif_pos c2 h
      refine lv_iload_n hx hb dX10_divide_93 rfl (lv_at hl 3 rfl) ?_
      refine lv_if_eq (tgt := 121) hx hb dX10_divide_94 (by decide) (fun c3 => ?_) (fun c3 => ?_)
      · have h := oif_pos c3 h
        have hl := lv_sub hl [] rfl
        refine w_cast (c2 := T.1 - T0.1) (s2 := sg T - sg T0) (by rw [cp0.1] <;> rfl) (by rw [sg_cpr cp0] <;> rfl) ?_
        exact a_X10_divide_b121 E hA hX hN hml hst kr4 kr121 _ _ _ _ _ h (gl_cpr hgl cp0) cp0.2.2 had G hl
      · have h := oif_neg c3 h
        refine lv_lload hx hb dX10_divide_97 (lv_at hl 4 rfl) ?_
        refine lv_lconst (v := 0) hx hb dX10_divide_99 (by decide) ?_
        refine W.lcmp hx hb dX10_divide_100 ?_
        refine lv_topi (fun v4 ev4 => ?_)
        have h := elet_at ev4 h
        clear ev4
        refine lv_if_le (tgt := 121) hx hb dX10_divide_101 (by decide) (fun c5 => ?_) (fun c5 => ?_)
        · have h := oif_pos c5 h
          have hl := lv_sub hl [] rfl
          refine w_cast (c2 := T.1 - T0.1) (s2 := sg T - sg T0) (by rw [cp0.1] <;> rfl) (by rw [sg_cpr cp0] <;> rfl) ?_
          exact a_X10_divide_b121 E hA hX hN hml hst kr4 kr121 _ _ _ _ _ h (gl_cpr hgl cp0) cp0.2.2 had G hl
        · have h := oif_neg c5 h
          refine lv_aload_n hx hb dX10_divide_104 rfl (lv_at hl 0 rfl) ?_
          obtain ⟨g6, h⟩ := oif_some h
          obtain ⟨n7, en7, h⟩ := obind_some h
          have h_n7 : n7 < T.1 := by rw [← cp0.1]; exact cp0.2.2 _ _ _ en7
          refine c_get E G l0 1 (v := .ref (ad n7)) (oO_k g6).1 (cc_o10 (oO_k g6).2) rfl (fun w h => .tail _ (iA_12 h)) (by decide) (.tail _ qA_14) rfl (by rw [en7]; rfl) dX10_divide_105 ?_
          clear en7
          refine lv_iconst (v := 0) hx hb dX10_divide_108 (by decide) ?_
          obtain ⟨g8, h⟩ := oif_some h
          obtain ⟨g9, h⟩ := oif_some h
          obtain ⟨n10, en10, h⟩ := obind_some h
          have h_n10 : n10 < T.1 := by rw [← cp0.1]; exact cp0.2.2 _ _ _ en10
          refine c_alda E G n7 7 (k := (0 : Int32).toNatClampNeg) (v := .ref (ad n10)) (aA_k g8).1 (cc_a107 (aA_k g8).2.1) rfl (inb_k g9).1 (inb_k g9).2 (aA_k g8).2.2 (by show va_rf ((T.2.2.2.2 n7 (0 : Int32).toNatClampNeg).map ad) = _; rw [en10]; rfl) dX10_divide_109 ?_
          clear en10
          refine lv_iload_n hx hb dX10_divide_110 rfl (lv_at hl 1 rfl) ?_
          refine lv_dup2_11 hx hb dX10_divide_111 rfl rfl ?_
          obtain ⟨g11, h⟩ := oif_some h
          obtain ⟨g12, h⟩ := oif_some h
          refine c_lald E G n10 1 (k := l1.toNatClampNeg) (aA_k g11).1 (cc_a101 (aA_k g11).2.1) rfl (inb_k g12).1 (inb_k g12).2 (aA_k g11).2.2 dX10_divide_112 ?_
          refine lv_topl (fun v13 ev13 => ?_)
          have h := elet_at ev13 h
          clear ev13
          refine lv_lconst (v := 1) hx hb dX10_divide_113 (by decide) ?_
          refine lv_ladd hx hb dX10_divide_114 ?_
          refine lv_topl (fun v14 ev14 => ?_)
          have h := elet_at ev14 h
          clear ev14
          obtain ⟨g15, h⟩ := oif_some h
          obtain ⟨g16, h⟩ := oif_some h
          refine c_last E G n10 1 (k := l1.toNatClampNeg) (v := v14) (aA_k g15).1 (cc_a101 (aA_k g15).2.1) rfl (inb_k g16).1 (inb_k g16).2 (aA_k g15).2.2 dX10_divide_115 (fun H locs G => ?_)
          have G := gC_up_j (f := vp_updL (T.2.2.2.1 n10) l1.toNatClampNeg v14) (ccv_101 (aA_k g15).2.1) G
          obtain ⟨T17, eT17, h⟩ := elet_some h
          have G : gC cI cJ cZ cMic cSrc cSt cAI cAJ D ad A s.heap H locs T17 := by rw [eT17]; exact G
          have cp1 := show CPR T T17 from by rw [eT17]; exact cpr_sp cp0 sp_uJ
          clear eT17
          refine lv_aload_n hx hb dX10_divide_116 rfl (lv_at hl 0 rfl) ?_
          refine lv_iload_n hx hb dX10_divide_117 rfl (lv_at hl 1 rfl) ?_
          obtain ⟨g18, h⟩ := oif_some h
          obtain ⟨T19, eT19, h⟩ := obind_some h
          have hg2 := s_X10_settle eT19
          have hrc2 := hg2.2.2 cp1.2.2
          have hT2 := s_X10_divide_b121 _ h
          refine q_avv (As := [.int l1]) (rest := []) E G hA hX hN hml (a_X10_settle l hst D cI cJ cZ cMic cSrc cSt cAI cAJ ad T17 l0 l1 eT19 cp1.2.2 (by rw [cp1.1]; exact h_l0)) (cwV 1 hts (gaV qA_103 qA_91 qA_92 qA_6 qA_93) rfl rfl rfl (by decide +kernel) ⟨Nat.le_of_ble_eq_true rfl, Nat.le_of_ble_eq_true rfl⟩) (oO_k g18).1 (cc_o10 (oO_k g18).2) rfl rfl hl.1 rfl (lv_room (Nat.le_of_ble_eq_true rfl)) dX10_divide_118 (cs_av hgl cp1 hg2 hT2) (fun ad2 H locs hga G => ?_)
          refine w_cast (c2 := T19.1 - T0.1) (s2 := sg T19 - sg T0) (cs_f1 hgl cp1 hg2) (cs_f2 hgl cp1 hg2) ?_
          have hl := lv_sub hl [] rfl
          exact a_X10_divide_b121 E hA hX hN hml hst kr4 kr121 _ _ _ _ _ h (GL.tr (gl_cpr hgl cp1) hg2) hrc2 (fun n hn => (hga n (by rw [cp1.1]; exact Nat.lt_of_lt_of_le hn hgl.1)).trans (had n hn)) G hl
    · have h := oif_neg c2 h
      refine lv_lload hx hb dX10_divide_45 (lv_at hl 4 rfl) ?_
      refine lv_bipush (v := 28) hx hb dX10_divide_47 (by decide) ?_
      refine lv_lshl (v := l4 <<< ((28 : Int32).toInt64 &&& 63)) hx hb dX10_divide_49 rfl ?_
      refine lv_topl (fun v21 ev21 => ?_)
      have h := elet_at ev21 h
      clear ev21
      refine lv_aload_n hx hb dX10_divide_50 rfl (lv_at hl 0 rfl) ?_
      obtain ⟨g22, h⟩ := oif_some h
      obtain ⟨n23, en23, h⟩ := obind_some h
      have h_n23 : n23 < T.1 := by rw [← cp0.1]; exact cp0.2.2 _ _ _ en23
      refine c_get E G l0 1 (v := .ref (ad n23)) (oO_k g22).1 (cc_o10 (oO_k g22).2) rfl (fun w h => .tail _ (iA_12 h)) (by decide) (.tail _ qA_14) rfl (by rw [en23]; rfl) dX10_divide_51 ?_
      clear en23
      refine lv_iload hx hb dX10_divide_54 (lv_at hl 5 rfl) ?_
      obtain ⟨g24, h⟩ := oif_some h
      obtain ⟨g25, h⟩ := oif_some h
      obtain ⟨n26, en26, h⟩ := obind_some h
      have h_n26 : n26 < T.1 := by rw [← cp0.1]; exact cp0.2.2 _ _ _ en26
      refine c_alda E G n23 7 (k := l6.toNatClampNeg) (v := .ref (ad n26)) (aA_k g24).1 (cc_a107 (aA_k g24).2.1) rfl (inb_k g25).1 (inb_k g25).2 (aA_k g24).2.2 (by show va_rf ((T.2.2.2.2 n23 l6.toNatClampNeg).map ad) = _; rw [en26]; rfl) dX10_divide_56 ?_
      clear en26
      refine lv_iload_n hx hb dX10_divide_57 rfl (lv_at hl 1 rfl) ?_
      obtain ⟨g27, h⟩ := oif_some h
      obtain ⟨g28, h⟩ := oif_some h
      refine c_lald E G n26 1 (k := l1.toNatClampNeg) (aA_k g27).1 (cc_a101 (aA_k g27).2.1) rfl (inb_k g28).1 (inb_k g28).2 (aA_k g27).2.2 dX10_divide_58 ?_
      refine lv_topl (fun v29 ev29 => ?_)
      have h := elet_at ev29 h
      clear ev29
      refine lv_ladd hx hb dX10_divide_59 ?_
      refine lv_topl (fun v30 ev30 => ?_)
      have h := elet_at ev30 h
      clear ev30
      refine lv_lstore (lv' := [(7, .long v30), (0, .ref (ad l0)), (1, .int l1), (2, .int l2), (3, .int l3), (4, .long l4), (6, .int l6)]) hx hb dX10_divide_60 hl (by decide) rfl (fun ls hl => ?_)
      refine lv_aload_n hx hb dX10_divide_62 rfl (lv_at hl 1 rfl) ?_
      obtain ⟨g31, h⟩ := oif_some h
      obtain ⟨n32, en32, h⟩ := obind_some h
      have h_n32 : n32 < T.1 := by rw [← cp0.1]; exact cp0.2.2 _ _ _ en32
      refine c_get E G l0 1 (v := .ref (ad n32)) (oO_k g31).1 (cc_o10 (oO_k g31).2) rfl (fun w h => .tail _ (iA_12 h)) (by decide) (.tail _ qA_14) rfl (by rw [en32]; rfl) dX10_divide_63 ?_
      clear en32
      refine lv_iload hx hb dX10_divide_66 (lv_at hl 6 rfl) ?_
      obtain ⟨g33, h⟩ := oif_some h
      obtain ⟨g34, h⟩ := oif_some h
      obtain ⟨n35, en35, h⟩ := obind_some h
      have h_n35 : n35 < T.1 := by rw [← cp0.1]; exact cp0.2.2 _ _ _ en35
      refine c_alda E G n32 7 (k := l6.toNatClampNeg) (v := .ref (ad n35)) (aA_k g33).1 (cc_a107 (aA_k g33).2.1) rfl (inb_k g34).1 (inb_k g34).2 (aA_k g33).2.2 (by show va_rf ((T.2.2.2.2 n32 l6.toNatClampNeg).map ad) = _; rw [en35]; rfl) dX10_divide_68 ?_
      clear en35
      refine lv_iload_n hx hb dX10_divide_69 rfl (lv_at hl 2 rfl) ?_
      refine lv_lload hx hb dX10_divide_70 (lv_at hl 0 rfl) ?_
      refine lv_iload_n hx hb dX10_divide_72 rfl (lv_at hl 3 rfl) ?_
      refine lv_i2l (v := l2.toInt64) hx hb dX10_divide_73 rfl ?_
      refine lv_topl (fun v36 ev36 => ?_)
      have h := elet_at ev36 h
      clear ev36
      obtain ⟨r37, er37, h⟩ := obind_some h
      refine q_stl (As := [.long v30, .long v36]) (rest := [.int l1, .ref (ad n35)]) ⟨hx, hb, hml, hown, hts⟩ hN (u_J9_floorDiv_f86c9 l v30 v36 er37) ⟨callB_of 2 hts (gaC qA_111) rfl rfl rfl (hts _ (.tail _ qA_18)) (hts _ (.tail _ qA_108)) (by decide +kernel) ⟨Nat.le_of_ble_eq_true rfl, Nat.le_of_ble_eq_true rfl⟩, hts _ (.tail _ qA_109)⟩ rfl hl.1 rfl (lv_room (Nat.le_of_ble_eq_true rfl)) dX10_divide_74 hcs (fun q38 hq => ?_)
      refine lv_tol hq ?_
      clear hq er37
      obtain ⟨g39, h⟩ := oif_some h
      obtain ⟨g40, h⟩ := oif_some h
      refine c_last E G n35 1 (k := l1.toNatClampNeg) (v := r37) (aA_k g39).1 (cc_a101 (aA_k g39).2.1) rfl (inb_k g40).1 (inb_k g40).2 (aA_k g39).2.2 dX10_divide_77 (fun H locs G => ?_)
      have G := gC_up_j (f := vp_updL (T.2.2.2.1 n35) l1.toNatClampNeg r37) (ccv_101 (aA_k g39).2.1) G
      obtain ⟨T41, eT41, h⟩ := elet_some h
      have G : gC cI cJ cZ cMic cSrc cSt cAI cAJ D ad A s.heap H locs T41 := by rw [eT41]; exact G
      have cp1 := show CPR T T41 from by rw [eT41]; exact cpr_sp cp0 sp_uJ
      clear eT41
      refine lv_lload hx hb dX10_divide_78 (lv_at hl 0 rfl) ?_
      refine lv_iload_n hx hb dX10_divide_80 rfl (lv_at hl 3 rfl) ?_
      refine lv_i2l (v := l2.toInt64) hx hb dX10_divide_81 rfl ?_
      refine lv_topl (fun v42 ev42 => ?_)
      have h := elet_at ev42 h
      clear ev42
      obtain ⟨r43, er43, h⟩ := obind_some h
      refine q_stl (As := [.long v30, .long v42]) (rest := []) ⟨hx, hb, hml, hown, hts⟩ hN (u_J9_floorMod_f86c9 l v30 v42 er43) ⟨callB_of 2 hts (gaC qA_114) rfl rfl rfl (hts _ (.tail _ qA_18)) (hts _ (.tail _ qA_112)) (by decide +kernel) ⟨Nat.le_of_ble_eq_true rfl, Nat.le_of_ble_eq_true rfl⟩, hts _ (.tail _ qA_113)⟩ rfl hl.1 rfl (lv_room (Nat.le_of_ble_eq_true rfl)) dX10_divide_82 hcs (fun q44 hq => ?_)
      refine lv_tol hq ?_
      clear hq er43
      refine lv_lstore (lv' := [(4, .long r43), (7, .long v30), (0, .ref (ad l0)), (1, .int l1), (2, .int l2), (3, .int l3), (6, .int l6)]) hx hb dX10_divide_85 hl (by decide) rfl (fun ls hl => ?_)
      obtain ⟨v45, ev45, h⟩ := elet_some h
      refine lv_iinc (v := v45) (lv' := [(6, .int v45), (4, .long r43), (7, .long v30), (0, .ref (ad l0)), (1, .int l1), (2, .int l2), (3, .int l3)]) hx hb dX10_divide_87 hl (k := 6) rfl ev45.symm (by decide) rfl (fun ls hl => ?_)
      refine lv_goto (tgt := 40) hx hb dX10_divide_90 (by decide) ?_
      have hl := lv_sub hl [3, 4, 5, 6, 1, 0] rfl
      refine w_cast (c2 := T41.1 - T0.1) (s2 := sg T41 - sg T0) (by rw [cp1.1] <;> rfl) (by rw [sg_cpr cp1] <;> rfl) ?_
      exact ih _ _ _ _ _ _ _ _ _ _ _ h (gl_cpr hgl cp1) cp1.2.2 had (by rw [cp1.1]; exact h_l0) G hl
set_option maxHeartbeats 4000000 in
set_option maxRecDepth 100000 in
theorem a_X10_divide_b28 {p : Program} {l : Launch} {e : Env} {s : State} {m : MethodId} {args : Array Value} {below : List Frame} {meth : Method} {c : Code} {Q : State → Prop} {D : va_G} {A : Nat → Prop} {cI cJ cZ cMic cSrc cSt cAI cAJ : ClassId} {ad0 : Nat → Nat} {T0 : AT} {T1 : AT} (E : cE p c cX10_divide s m args (Cond.code yX10_divide cX10_divide 9 none :: wsA) D RX10 (CT cI cJ cZ cMic cSrc cSt cAI cAJ)) (hA : ∀ q : Nat, s.heap.size ≤ q → A q) (hX : xT A s) (hN : nX s) (hml : c.maxLocals = 9) (hst : l.stackTraces = false) (kr4 : ∀ (ad : Nat → Nat) (H : Heap) (locs : List Loc) (ls : Array Slot), (∀ n, n < T0.1 → ad n = ad0 n) → gC cI cJ cZ cMic cSrc cSt cAI cAJ D ad A s.heap H locs T1 → W p l e { frames := 3, cells := T1.1 - T0.1, slots := sg T1 - sg T0, locals := 49 } s m args below meth c H locs (T1.1 - T0.1) (sg T1 - sg T0) Q (F0 m 4 ls [])) (kr121 : ∀ (ad : Nat → Nat) (H : Heap) (locs : List Loc) (ls : Array Slot), (∀ n, n < T0.1 → ad n = ad0 n) → gC cI cJ cZ cMic cSrc cSt cAI cAJ D ad A s.heap H locs T1 → W p l e { frames := 3, cells := T1.1 - T0.1, slots := sg T1 - sg T0, locals := 49 } s m args below meth c H locs (T1.1 - T0.1) (sg T1 - sg T0) Q (F0 m 121 ls [])) : ∀ (T : AT) (ad : Nat → Nat) (H : Heap) (locs : List Loc) (ls : Array Slot) (s0 : Int32) (l0 : Nat) (l1 : Int32) (l2 : Int32), g_X10_divide_b28 T s0 l0 l1 l2 = some T1 → GL T0 T → RC T → (∀ n, n < T0.1 → ad n = ad0 n) → l0 < T.1 → gC cI cJ cZ cMic cSrc cSt cAI cAJ D ad A s.heap H locs T → lv_has ls 9 [(0, .ref (ad l0)), (1, .int l1), (2, .int l2)] → W p l e { frames := 3, cells := T1.1 - T0.1, slots := sg T1 - sg T0, locals := 49 } s m args below meth c H locs (T.1 - T0.1) (sg T - sg T0) Q (F0 m 28 ls [.int s0]) := by
  have hx := E.1
  have hb := E.2.1
  have hts := E.2.2.1
  have hown := E.2.2.2.1
  have hK := E.2.2.2.2
  intro T ad H locs ls s0 l0 l1 l2 h hgl hrc had h_l0 G hl
  have hT1 := s_X10_divide_b28 _ _ _ _ _ h
  have hcs := cs_ok hgl hT1
  have cp0 := cpr0 hrc
  unfold g_X10_divide_b28 at h
  refine lv_istore_n (lv' := [(3, .int s0), (0, .ref (ad l0)), (1, .int l1), (2, .int l2)]) hx hb dX10_divide_28 rfl hl (by decide) rfl (fun ls hl => ?_)
  refine lv_lconst (v := 0) hx hb dX10_divide_29 (by decide) ?_
  refine lv_lstore (lv' := [(4, .long (0 : Int64)), (3, .int s0), (0, .ref (ad l0)), (1, .int l1), (2, .int l2)]) hx hb dX10_divide_30 hl (by decide) rfl (fun ls hl => ?_)
  refine lv_aload_n hx hb dX10_divide_32 rfl (lv_at hl 2 rfl) ?_
  obtain ⟨g2, h⟩ := oif_some h
  refine c_get E G l0 2 (oO_k g2).1 (cc_o10 (oO_k g2).2) rfl (fun w h => .tail _ (iA_12 h)) (by decide) (.tail _ qA_15) rfl rfl dX10_divide_33 ?_
  refine lv_topi (fun v3 ev3 => ?_)
  have h := elet_at ev3 h
  clear ev3
  refine lv_iconst (v := 1) hx hb dX10_divide_36 (by decide) ?_
  refine lv_isub hx hb dX10_divide_37 ?_
  refine lv_topi (fun v4 ev4 => ?_)
  have h := elet_at ev4 h
  clear ev4
  refine lv_istore (lv' := [(6, .int v4), (4, .long (0 : Int64)), (3, .int s0), (0, .ref (ad l0)), (1, .int l1), (2, .int l2)]) hx hb dX10_divide_38 hl (by decide) rfl (fun ls hl => ?_)
  have hl := lv_sub hl [3, 4, 5, 2, 1, 0] rfl
  refine w_cast (c2 := T.1 - T0.1) (s2 := sg T - sg T0) (by rw [cp0.1] <;> rfl) (by rw [sg_cpr cp0] <;> rfl) ?_
  exact a_X10_divide_b40 E hA hX hN hml hst kr4 kr121 _ _ _ _ _ _ _ _ _ _ _ _ h (gl_cpr hgl cp0) cp0.2.2 had (by rw [cp0.1]; exact h_l0) G hl
set_option maxHeartbeats 4000000 in
set_option maxRecDepth 100000 in
theorem a_X10_divide (l : Launch) (hst : l.stackTraces = false) (D : va_G) (cI cJ cZ cMic cSrc cSt cAI cAJ : ClassId) (ad : Nat → Nat) (T : AT) (o : Nat) (a0 : Int32) (a1 : Int32) {T1 : AT} (h : g_X10_divide T o a0 a1 = some T1) (hrc : RC T) (h_o : o < T.1) : kAv l yX10_divide (Cond.code yX10_divide cX10_divide 9 none :: wsA) 3 49 cI cJ cZ cMic cSrc cSt cAI cAJ D ad T [.ref (ad o), .int a0, .int a1] T1 := by
  intro sz
  refine Met.ofW (cc := cX10_divide) (maxL := 9) (ret := none) (by decide) rfl ?_
  intro p e s m args below meth c s₁ B hml hv
  obtain ⟨rfl, hsz, hP, hK, hD0, hX, hN⟩ := hv
  have hx := B.exec
  have hb := B.bytes
  have hr := B.returns
  have hts := atoms_spec (ws := (Cond.code yX10_divide cX10_divide 9 none :: wsA)) B.pre
  have hown : s.vm.findClass RX10 = some m.cls := findClass_of_methodNamed B.named
  have hlocks := B.notSynchronized
  subst hsz
  have hD := hD0.self (sz := s.heap.size)
  generalize hAe : va_A (cW ad T.1 (cc cI cJ cZ cMic cSrc cSt cAI cAJ ad T)) s.heap.size = A at hD hX ⊢
  have hA : ∀ q : Nat, s.heap.size ≤ q → A q := fun q h => by rw [← hAe]; exact Or.inr h
  have G : gC cI cJ cZ cMic cSrc cSt cAI cAJ D ad A s.heap s.heap [] T := ⟨hP, hD, va_S.rf⟩
  have E : cE p c cX10_divide s m ([.ref (ad o), .int a0, .int a1] : List Value).toArray (Cond.code yX10_divide cX10_divide 9 none :: wsA) D RX10 (CT cI cJ cZ cMic cSrc cSt cAI cAJ) := ⟨hx, hb, hts, hown, hK⟩
  have hl := lv_entry ([.ref (ad o), .int a0, .int a1]) (n := 9) (Nat.le_of_ble_eq_true rfl)
  rw [lg_entry_eq]
  generalize (lg_sl ([.ref (ad o), .int a0, .int a1]) ++ List.replicate (9 - (lg_sl ([.ref (ad o), .int a0, .int a1])).length) Slot.unset).toArray = ls at hl ⊢
  have hl : lv_has ls 9 [(0, .ref (ad o)), (1, .int a0), (2, .int a1)] := hl
  have hgl := GL.rf T
  have had : ∀ n, n < T.1 → ad n = ad n := fun _ _ => rfl
  have hT1 := s_X10_divide h
  have hcs := cs_ok hgl hT1
  refine w_cast (Nat.sub_self T.1).symm (Nat.sub_self (sg T)).symm ?_
  have cp0 := cpr0 hrc
  unfold g_X10_divide at h
  refine lv_iload_n hx hb dX10_divide_0 rfl (lv_at hl 2 rfl) ?_
  refine lv_if_gt (tgt := 5) hx hb dX10_divide_1 (by decide) (fun c2 => ?_) (fun c2 => ?_)
  · have h := oif_pos c2 h
    refine lv_aload_n hx hb dX10_divide_5 rfl (lv_at hl 0 rfl) ?_
    obtain ⟨g3, h⟩ := oif_some h
    obtain ⟨n4, en4, h⟩ := obind_some h
    have h_n4 : n4 < T.1 := by rw [← cp0.1]; exact cp0.2.2 _ _ _ en4
    refine c_get E G o 1 (v := .ref (ad n4)) (oO_k g3).1 (cc_o10 (oO_k g3).2) rfl (fun w h => .tail _ (iA_12 h)) (by decide) (.tail _ qA_14) rfl (by rw [en4]; rfl) dX10_divide_6 ?_
    clear en4
    refine lv_aload_n hx hb dX10_divide_9 rfl (lv_at hl 0 rfl) ?_
    obtain ⟨g5, h⟩ := oif_some h
    refine c_get E G o 2 (oO_k g5).1 (cc_o10 (oO_k g5).2) rfl (fun w h => .tail _ (iA_12 h)) (by decide) (.tail _ qA_15) rfl rfl dX10_divide_10 ?_
    refine lv_topi (fun v6 ev6 => ?_)
    have h := elet_at ev6 h
    clear ev6
    refine lv_iconst (v := 1) hx hb dX10_divide_13 (by decide) ?_
    refine lv_isub hx hb dX10_divide_14 ?_
    refine lv_topi (fun v7 ev7 => ?_)
    have h := elet_at ev7 h
    clear ev7
    obtain ⟨g8, h⟩ := oif_some h
    obtain ⟨g9, h⟩ := oif_some h
    obtain ⟨n10, en10, h⟩ := obind_some h
    have h_n10 : n10 < T.1 := by rw [← cp0.1]; exact cp0.2.2 _ _ _ en10
    refine c_alda E G n4 7 (k := v7.toNatClampNeg) (v := .ref (ad n10)) (aA_k g8).1 (cc_a107 (aA_k g8).2.1) rfl (inb_k g9).1 (inb_k g9).2 (aA_k g8).2.2 (by show va_rf ((T.2.2.2.2 n4 v7.toNatClampNeg).map ad) = _; rw [en10]; rfl) dX10_divide_15 ?_
    clear en10
    refine lv_iload_n hx hb dX10_divide_16 rfl (lv_at hl 1 rfl) ?_
    obtain ⟨g11, h⟩ := oif_some h
    obtain ⟨g12, h⟩ := oif_some h
    refine c_lald E G n10 1 (k := a0.toNatClampNeg) (aA_k g11).1 (cc_a101 (aA_k g11).2.1) rfl (inb_k g12).1 (inb_k g12).2 (aA_k g11).2.2 dX10_divide_17 ?_
    refine lv_topl (fun v13 ev13 => ?_)
    have h := elet_at ev13 h
    clear ev13
    refine lv_lconst (v := 0) hx hb dX10_divide_18 (by decide) ?_
    refine W.lcmp hx hb dX10_divide_19 ?_
    refine lv_topi (fun v14 ev14 => ?_)
    have h := elet_at ev14 h
    clear ev14
    refine lv_if_ge (tgt := 27) hx hb dX10_divide_20 (by decide) (fun c15 => ?_) (fun c15 => ?_)
    · have h := oif_pos c15 h
      refine lv_iconst (v := 0) hx hb dX10_divide_27 (by decide) ?_
      have hl := lv_sub hl [0, 1, 2] rfl
      refine w_cast (c2 := T.1 - T.1) (s2 := sg T - sg T) (by rw [cp0.1] <;> rfl) (by rw [sg_cpr cp0] <;> rfl) ?_
      exact a_X10_divide_b28 E hA hX hN hml hst (fun ad H locs ls had G => W.vret hx hb hr (fun t ht hW => ⟨⟨(T1, ad), rfl, ⟨rfl, had⟩, ⟨by rw [ht]; exact G.1, va_K.moved hW.alike hK, G.2.1⟩⟩, G.2.2.F ht⟩) G.2.2.2.2 dX10_divide_4) (fun ad H locs ls had G => W.vret hx hb hr (fun t ht hW => ⟨⟨(T1, ad), rfl, ⟨rfl, had⟩, ⟨by rw [ht]; exact G.1, va_K.moved hW.alike hK, G.2.1⟩⟩, G.2.2.F ht⟩) G.2.2.2.2 dX10_divide_121) _ _ _ _ _ _ _ _ _ h (gl_cpr hgl cp0) cp0.2.2 had (by rw [cp0.1]; exact h_o) G hl
    · have h := oif_neg c15 h
      refine lv_iconst (v := 1) hx hb dX10_divide_23 (by decide) ?_
      refine lv_goto (tgt := 28) hx hb dX10_divide_24 (by decide) ?_
      have hl := lv_sub hl [0, 1, 2] rfl
      refine w_cast (c2 := T.1 - T.1) (s2 := sg T - sg T) (by rw [cp0.1] <;> rfl) (by rw [sg_cpr cp0] <;> rfl) ?_
      exact a_X10_divide_b28 E hA hX hN hml hst (fun ad H locs ls had G => W.vret hx hb hr (fun t ht hW => ⟨⟨(T1, ad), rfl, ⟨rfl, had⟩, ⟨by rw [ht]; exact G.1, va_K.moved hW.alike hK, G.2.1⟩⟩, G.2.2.F ht⟩) G.2.2.2.2 dX10_divide_4) (fun ad H locs ls had G => W.vret hx hb hr (fun t ht hW => ⟨⟨(T1, ad), rfl, ⟨rfl, had⟩, ⟨by rw [ht]; exact G.1, va_K.moved hW.alike hK, G.2.1⟩⟩, G.2.2.F ht⟩) G.2.2.2.2 dX10_divide_121) _ _ _ _ _ _ _ _ _ h (gl_cpr hgl cp0) cp0.2.2 had (by rw [cp0.1]; exact h_o) G hl
  · have h := oif_neg c2 h
    rw [osome1 h] at G
    refine w_cast (c2 := T1.1 - T.1) (s2 := sg T1 - sg T) (by rw [← osome1 h, cp0.1] <;> rfl) (by rw [← osome1 h, sg_cpr cp0] <;> rfl) ?_
    exact W.vret hx hb hr (fun t ht hW => ⟨⟨(T1, ad), rfl, ⟨rfl, had⟩, ⟨by rw [ht]; exact G.1, va_K.moved hW.alike hK, G.2.1⟩⟩, G.2.2.F ht⟩) G.2.2.2.2 dX10_divide_4
def g_X8_placeOf  (a0 : Int32) (a1 : Int32) : Option (Int32) := elet (a0 * 200) fun v2 => elet (v2 + a1) fun v3 => some v3
set_option maxHeartbeats 4000000 in
set_option maxRecDepth 100000 in
theorem u_X8_placeOf (l : Launch) (a0 : Int32) (a1 : Int32) {r1 : Int32} (h : g_X8_placeOf a0 a1 = some r1) : Met l yX8_placeOf (Cond.code yX8_placeOf cX8_placeOf 2 (some .int) :: wsA) { frames := 1, cells := 0, slots := 0, locals := 0 } (va_Pc [.int a0, .int a1] nX) (vp_Si (fun r => r = r1)) 0 0 (fun _ => False) := by
  refine Met.ofW (cc := cX8_placeOf) (maxL := 2) (ret := (some .int)) (by decide) rfl ?_
  intro p e s m args below meth c s₁ B hml hv
  obtain ⟨rfl, hN⟩ := hv
  have hx := B.exec
  have hb := B.bytes
  have hr := B.returns
  have hts := atoms_spec (ws := (Cond.code yX8_placeOf cX8_placeOf 2 (some .int) :: wsA)) B.pre
  have hown : s.vm.findClass RX8 = some m.cls := findClass_of_methodNamed B.named
  have hlocks := B.notSynchronized
  have E : p.tables.exec = Jvm.exec ∧ c.code = cX8_placeOf ∧ (∀ w ∈ (Cond.code yX8_placeOf cX8_placeOf 2 (some .int) :: wsA), w.before ([.int a0, .int a1] : List Value).toArray s = true) ∧ s.vm.findClass RX8 = some m.cls := ⟨hx, hb, hts, hown⟩
  have hl := lv_entry ([.int a0, .int a1]) (n := 2) (Nat.le_of_ble_eq_true rfl)
  rw [lg_entry_eq]
  generalize (lg_sl ([.int a0, .int a1]) ++ List.replicate (2 - (lg_sl ([.int a0, .int a1])).length) Slot.unset).toArray = ls at hl ⊢
  have hl : lv_has ls 2 [(0, .int a0), (1, .int a1)] := hl
  unfold g_X8_placeOf at h
  refine lv_iload_n hx hb dX8_placeOf_0 rfl (lv_at hl 0 rfl) ?_
  refine lv_sipush (v := 200) hx hb dX8_placeOf_1 (by decide) ?_
  refine lv_imul hx hb dX8_placeOf_4 ?_
  refine lv_topi (fun v2 ev2 => ?_)
  have h := elet_at ev2 h
  clear ev2
  refine lv_iload_n hx hb dX8_placeOf_5 rfl (lv_at hl 1 rfl) ?_
  refine lv_iadd hx hb dX8_placeOf_6 ?_
  refine lv_topi (fun v3 ev3 => ?_)
  have h := elet_at ev3 h
  clear ev3
  exact W.iret (v := v3) hx hb hr (fun t ht hW => ⟨v3, rfl, osome1 h, ht⟩) (fun _ h => absurd h List.not_mem_nil) dX8_placeOf_7
def g_X8_weighted_b70 (k6 : AT → Nat → Nat → Nat → Int32 → Int64 → Int32 → Option (Int64 × AT)) (T : AT) (l0 : Nat) (l1 : Nat) (l2 : Nat) (l3 : Int32) (l4 : Int64) (l6 : Int32) : Option (Int64 × AT) := elet (l6 + Int32.ofInt (1)) fun v2 => k6 T l0 l1 l2 l3 l4 v2
set_option maxHeartbeats 4000000 in
set_option maxRecDepth 100000 in
theorem u_X8_weighted_b70 {p : Program} {l : Launch} {e : Env} {s : State} {m : MethodId} {args : Array Value} {below : List Frame} {meth : Method} {c : Code} {Q : State → Prop} {D : va_G} {A : Nat → Prop} {cI cJ cZ cMic cSrc cSt cAI cAJ : ClassId} {ad : Nat → Nat} {r1 : Int64} {T1 : AT} (E : cE p c cX8_weighted s m args (Cond.code yX8_weighted cX8_weighted 8 (some .long) :: wsA) D RX8 (CT cI cJ cZ cMic cSrc cSt cAI cAJ)) (hA : ∀ q : Nat, s.heap.size ≤ q → A q) (hX : xT A s) (hN : nX s) (hml : c.maxLocals = 8) (hst : l.stackTraces = false) (kr78 : ∀ (H : Heap) (locs : List Loc) (ls : Array Slot), gC cI cJ cZ cMic cSrc cSt cAI cAJ D ad A s.heap H locs T1 → W p l e { frames := 2, cells := 0, slots := 0, locals := 21 } s m args below meth c H locs 0 0 Q (F0 m 78 ls [.long r1])) {k6 : AT → Nat → Nat → Nat → Int32 → Int64 → Int32 → Option (Int64 × AT)} (hk6 : ∀ (T : AT) (H : Heap) (locs : List Loc) (ls : Array Slot) (l0 : Nat) (l1 : Nat) (l2 : Nat) (l3 : Int32) (l4 : Int64) (l6 : Int32), k6 T l0 l1 l2 l3 l4 l6 = some (r1, T1) → gC cI cJ cZ cMic cSrc cSt cAI cAJ D ad A s.heap H locs T → lv_has ls 8 [(0, .ref (ad l0)), (1, .ref (ad l1)), (2, .ref (ad l2)), (3, .int l3), (4, .long l4), (6, .int l6)] → W p l e { frames := 2, cells := 0, slots := 0, locals := 21 } s m args below meth c H locs 0 0 Q (F0 m 6 ls [])) : ∀ (T : AT) (H : Heap) (locs : List Loc) (ls : Array Slot) (l0 : Nat) (l1 : Nat) (l2 : Nat) (l3 : Int32) (l4 : Int64) (l6 : Int32), g_X8_weighted_b70 k6 T l0 l1 l2 l3 l4 l6 = some (r1, T1) → gC cI cJ cZ cMic cSrc cSt cAI cAJ D ad A s.heap H locs T → lv_has ls 8 [(0, .ref (ad l0)), (1, .ref (ad l1)), (2, .ref (ad l2)), (3, .int l3), (4, .long l4), (6, .int l6)] → W p l e { frames := 2, cells := 0, slots := 0, locals := 21 } s m args below meth c H locs 0 0 Q (F0 m 70 ls []) := by
  have hx := E.1
  have hb := E.2.1
  have hts := E.2.2.1
  have hown := E.2.2.2.1
  have hK := E.2.2.2.2
  intro T H locs ls l0 l1 l2 l3 l4 l6 h G hl
  unfold g_X8_weighted_b70 at h
  obtain ⟨v2, ev2, h⟩ := elet_some h
  refine lv_iinc (v := v2) (lv' := [(6, .int v2), (0, .ref (ad l0)), (1, .ref (ad l1)), (2, .ref (ad l2)), (3, .int l3), (4, .long l4)]) hx hb dX8_weighted_70 hl (k := 5) rfl ev2.symm (by decide) rfl (fun ls hl => ?_)
  refine lv_goto (tgt := 6) hx hb dX8_weighted_73 (by decide) ?_
  have hl := lv_sub hl [1, 2, 3, 4, 5, 0] rfl
  exact hk6 _ _ _ _ _ _ _ _ _ _ h G hl
def g_X8_weighted_b6  : Nat → AT → Nat → Nat → Nat → Int32 → Int64 → Int32 → Option (Int64 × AT)
  | 0, _, _, _, _, _, _, _ => none
  | n + 1, T, l0, l1, l2, l3, l4, l6 => oif (oO T l0 8 = true) <| elet (T.2.2.1 l0 0) fun v3 => if v3 ≤ l6 then (some (l4, T)) else (oif (aA T l2 100 = true) <| oif (inb l6 (T.2.1 l2).2 = true) <| elet (T.2.2.1 l2 l6.toNatClampNeg) fun v7 => elet (l3 + v7) fun v8 => oif (oO T l0 8 = true) <| obind (T.2.2.2.2 l0 3) fun n10 => oif (aA T n10 102 = true) <| oif (inb l6 (T.2.1 n10).2 = true) <| elet (T.2.2.1 n10 l6.toNatClampNeg) fun v13 => if v13 = 0 then (if v8 < 0 then (g_X8_weighted_b70 (g_X8_weighted_b6 n) T l0 l1 l2 l3 l4 l6) else (oif (oO T l0 8 = true) <| elet (T.2.2.1 l0 1) fun v17 => if v17 ≤ v8 then (g_X8_weighted_b70 (g_X8_weighted_b6 n) T l0 l1 l2 l3 l4 l6) else (oif (oO T l0 8 = true) <| obind (T.2.2.2.2 l0 4) fun n20 => oif (aA T n20 100 = true) <| oif (inb l6 (T.2.1 n20).2 = true) <| elet (T.2.2.1 n20 l6.toNatClampNeg) fun v23 => elet (v23.toInt64) fun v24 => obind (g_X8_placeOf l6 v8) fun r25 => oif (aA T l1 101 = true) <| oif (inb r25 (T.2.1 l1).2 = true) <| elet (T.2.2.2.1 l1 r25.toNatClampNeg) fun v29 => elet (v24 * v29) fun v30 => elet (l4 + v30) fun v31 => g_X8_weighted_b70 (g_X8_weighted_b6 n) T l0 l1 l2 l3 v31 l6))) else (g_X8_weighted_b70 (g_X8_weighted_b6 n) T l0 l1 l2 l3 l4 l6))
set_option maxHeartbeats 4000000 in
set_option maxRecDepth 100000 in
theorem u_X8_weighted_b6 {p : Program} {l : Launch} {e : Env} {s : State} {m : MethodId} {args : Array Value} {below : List Frame} {meth : Method} {c : Code} {Q : State → Prop} {D : va_G} {A : Nat → Prop} {cI cJ cZ cMic cSrc cSt cAI cAJ : ClassId} {ad : Nat → Nat} {r1 : Int64} {T1 : AT} (E : cE p c cX8_weighted s m args (Cond.code yX8_weighted cX8_weighted 8 (some .long) :: wsA) D RX8 (CT cI cJ cZ cMic cSrc cSt cAI cAJ)) (hA : ∀ q : Nat, s.heap.size ≤ q → A q) (hX : xT A s) (hN : nX s) (hml : c.maxLocals = 8) (hst : l.stackTraces = false) (kr78 : ∀ (H : Heap) (locs : List Loc) (ls : Array Slot), gC cI cJ cZ cMic cSrc cSt cAI cAJ D ad A s.heap H locs T1 → W p l e { frames := 2, cells := 0, slots := 0, locals := 21 } s m args below meth c H locs 0 0 Q (F0 m 78 ls [.long r1])) : ∀ n : Nat, ∀ (T : AT) (H : Heap) (locs : List Loc) (ls : Array Slot) (l0 : Nat) (l1 : Nat) (l2 : Nat) (l3 : Int32) (l4 : Int64) (l6 : Int32), g_X8_weighted_b6 n T l0 l1 l2 l3 l4 l6 = some (r1, T1) → gC cI cJ cZ cMic cSrc cSt cAI cAJ D ad A s.heap H locs T → lv_has ls 8 [(0, .ref (ad l0)), (1, .ref (ad l1)), (2, .ref (ad l2)), (3, .int l3), (4, .long l4), (6, .int l6)] → W p l e { frames := 2, cells := 0, slots := 0, locals := 21 } s m args below meth c H locs 0 0 Q (F0 m 6 ls []) := by
  have hx := E.1
  have hb := E.2.1
  have hts := E.2.2.1
  have hown := E.2.2.2.1
  have hK := E.2.2.2.2
  intro n
  induction n with
  | zero =>
    intro T H locs ls l0 l1 l2 l3 l4 l6 h
    have h : (none : Option (Int64 × AT)) = some (r1, T1) := h
    cases h
  | succ n ih =>
    intro T H locs ls l0 l1 l2 l3 l4 l6 h G hl
    unfold g_X8_weighted_b6 at h
    refine lv_iload hx hb dX8_weighted_6 (lv_at hl 5 rfl) ?_
    refine lv_aload_n hx hb dX8_weighted_8 rfl (lv_at hl 0 rfl) ?_
    obtain ⟨g2, h⟩ := oif_some h
    refine c_get E G l0 0 (oO_k g2).1 (cc_o8 (oO_k g2).2) rfl (fun w h => .tail _ (iA_16 h)) (by decide) (.tail _ qA_63) rfl rfl dX8_weighted_9 ?_
    refine lv_topi (fun v3 ev3 => ?_)
    have h := elet_at ev3 h
    clear ev3
    refine lv_icmp_ge (tgt := 76) hx hb dX8_weighted_12 (by decide) (fun c4 => ?_) (fun c4 => ?_)
    · have h := oif_pos c4 h
      refine lv_lload hx hb dX8_weighted_76 (lv_at hl 4 rfl) ?_
      rw [(osome2 h).2] at G
      refine lv_tol (osome2 h).1 ?_
      exact kr78 _ _ _ G
    · have h := oif_neg c4 h
      refine lv_iload_n hx hb dX8_weighted_15 rfl (lv_at hl 3 rfl) ?_
      refine lv_aload_n hx hb dX8_weighted_16 rfl (lv_at hl 2 rfl) ?_
      refine lv_iload hx hb dX8_weighted_17 (lv_at hl 5 rfl) ?_
      obtain ⟨g5, h⟩ := oif_some h
      obtain ⟨g6, h⟩ := oif_some h
      refine c_iald E G l2 0 (k := l6.toNatClampNeg) (aA_k g5).1 (cc_a100 (aA_k g5).2.1) rfl (inb_k g6).1 (inb_k g6).2 (aA_k g5).2.2 dX8_weighted_19 ?_
      refine lv_topi (fun v7 ev7 => ?_)
      have h := elet_at ev7 h
      clear ev7
      refine lv_iadd hx hb dX8_weighted_20 ?_
      refine lv_topi (fun v8 ev8 => ?_)
      have h := elet_at ev8 h
      clear ev8
      refine lv_istore (lv' := [(7, .int v8), (0, .ref (ad l0)), (1, .ref (ad l1)), (2, .ref (ad l2)), (3, .int l3), (4, .long l4), (6, .int l6)]) hx hb dX8_weighted_21 hl (by decide) rfl (fun ls hl => ?_)
      refine lv_aload_n hx hb dX8_weighted_23 rfl (lv_at hl 1 rfl) ?_
      obtain ⟨g9, h⟩ := oif_some h
      obtain ⟨n10, en10, h⟩ := obind_some h
      refine c_get E G l0 3 (v := .ref (ad n10)) (oO_k g9).1 (cc_o8 (oO_k g9).2) rfl (fun w h => .tail _ (iA_16 h)) (by decide) (.tail _ qA_64) rfl (by rw [en10]; rfl) dX8_weighted_24 ?_
      clear en10
      refine lv_iload hx hb dX8_weighted_27 (lv_at hl 6 rfl) ?_
      obtain ⟨g11, h⟩ := oif_some h
      obtain ⟨g12, h⟩ := oif_some h
      refine c_zald E G n10 2 (k := l6.toNatClampNeg) (aA_k g11).1 (cc_a102 (aA_k g11).2.1) rfl (inb_k g12).1 (inb_k g12).2 (aA_k g11).2.2 dX8_weighted_29 ?_
      refine lv_topi (fun v13 ev13 => ?_)
      have h := elet_at ev13 h
      clear ev13
      refine lv_if_ne (tgt := 70) hx hb dX8_weighted_30 (by decide) (fun c14 => ?_) (fun c14 => ?_)
      · have h := oif_neg c14 h
        have hl := lv_sub hl [1, 2, 3, 4, 5, 6] rfl
        exact u_X8_weighted_b70 E hA hX hN hml hst kr78 ih _ _ _ _ _ _ _ _ _ _ h G hl
      · have h := oif_pos c14 h
        refine lv_iload hx hb dX8_weighted_33 (lv_at hl 0 rfl) ?_
        refine lv_if_lt (tgt := 70) hx hb dX8_weighted_35 (by decide) (fun c15 => ?_) (fun c15 => ?_)
        · have h := oif_pos c15 h
          have hl := lv_sub hl [1, 2, 3, 4, 5, 6] rfl
          exact u_X8_weighted_b70 E hA hX hN hml hst kr78 ih _ _ _ _ _ _ _ _ _ _ h G hl
        · have h := oif_neg c15 h
          refine lv_iload hx hb dX8_weighted_38 (lv_at hl 0 rfl) ?_
          refine lv_aload_n hx hb dX8_weighted_40 rfl (lv_at hl 1 rfl) ?_
          obtain ⟨g16, h⟩ := oif_some h
          refine c_get E G l0 1 (oO_k g16).1 (cc_o8 (oO_k g16).2) rfl (fun w h => .tail _ (iA_16 h)) (by decide) (.tail _ qA_57) rfl rfl dX8_weighted_41 ?_
          refine lv_topi (fun v17 ev17 => ?_)
          have h := elet_at ev17 h
          clear ev17
          refine lv_icmp_ge (tgt := 70) hx hb dX8_weighted_44 (by decide) (fun c18 => ?_) (fun c18 => ?_)
          · have h := oif_pos c18 h
            have hl := lv_sub hl [1, 2, 3, 4, 5, 6] rfl
            exact u_X8_weighted_b70 E hA hX hN hml hst kr78 ih _ _ _ _ _ _ _ _ _ _ h G hl
          · have h := oif_neg c18 h
            refine lv_lload hx hb dX8_weighted_47 (lv_at hl 5 rfl) ?_
            refine lv_aload_n hx hb dX8_weighted_49 rfl (lv_at hl 1 rfl) ?_
            obtain ⟨g19, h⟩ := oif_some h
            obtain ⟨n20, en20, h⟩ := obind_some h
            refine c_get E G l0 4 (v := .ref (ad n20)) (oO_k g19).1 (cc_o8 (oO_k g19).2) rfl (fun w h => .tail _ (iA_16 h)) (by decide) (.tail _ qA_86) rfl (by rw [en20]; rfl) dX8_weighted_50 ?_
            clear en20
            refine lv_iload hx hb dX8_weighted_53 (lv_at hl 6 rfl) ?_
            obtain ⟨g21, h⟩ := oif_some h
            obtain ⟨g22, h⟩ := oif_some h
            refine c_iald E G n20 0 (k := l6.toNatClampNeg) (aA_k g21).1 (cc_a100 (aA_k g21).2.1) rfl (inb_k g22).1 (inb_k g22).2 (aA_k g21).2.2 dX8_weighted_55 ?_
            refine lv_topi (fun v23 ev23 => ?_)
            have h := elet_at ev23 h
            clear ev23
            refine lv_i2l (v := v23.toInt64) hx hb dX8_weighted_56 rfl ?_
            refine lv_topl (fun v24 ev24 => ?_)
            have h := elet_at ev24 h
            clear ev24
            refine lv_aload_n hx hb dX8_weighted_57 rfl (lv_at hl 2 rfl) ?_
            refine lv_iload hx hb dX8_weighted_58 (lv_at hl 6 rfl) ?_
            refine lv_iload hx hb dX8_weighted_60 (lv_at hl 0 rfl) ?_
            obtain ⟨r25, er25, h⟩ := obind_some h
            refine q_sti (As := [.int l6, .int v8]) (rest := [.ref (ad l1), .long v24, .long l4]) ⟨hx, hb, hml, hown, hts⟩ hN (u_X8_placeOf l l6 v8 er25) (cwS 2 hts (gaS qA_87 qA_88 qA_47 qA_89) rfl rfl rfl (by decide +kernel) ⟨Nat.le_of_ble_eq_true rfl, Nat.le_of_ble_eq_true rfl⟩) rfl hl.1 rfl (lv_room (Nat.le_of_ble_eq_true rfl)) dX8_weighted_62 ⟨Nat.zero_le _, Nat.zero_le _⟩ (fun q26 hq => ?_)
            refine lv_to hq ?_
            clear hq er25
            obtain ⟨g27, h⟩ := oif_some h
            obtain ⟨g28, h⟩ := oif_some h
            refine c_lald E G l1 1 (k := r25.toNatClampNeg) (aA_k g27).1 (cc_a101 (aA_k g27).2.1) rfl (inb_k g28).1 (inb_k g28).2 (aA_k g27).2.2 dX8_weighted_65 ?_
            refine lv_topl (fun v29 ev29 => ?_)
            have h := elet_at ev29 h
            clear ev29
            refine lv_lmul hx hb dX8_weighted_66 ?_
            refine lv_topl (fun v30 ev30 => ?_)
            have h := elet_at ev30 h
            clear ev30
            refine lv_ladd hx hb dX8_weighted_67 ?_
            refine lv_topl (fun v31 ev31 => ?_)
            have h := elet_at ev31 h
            clear ev31
            refine lv_lstore (lv' := [(4, .long v31), (7, .int v8), (0, .ref (ad l0)), (1, .ref (ad l1)), (2, .ref (ad l2)), (3, .int l3), (6, .int l6)]) hx hb dX8_weighted_68 hl (by decide) rfl (fun ls hl => ?_)
            have hl := lv_sub hl [2, 3, 4, 5, 0, 6] rfl
            exact u_X8_weighted_b70 E hA hX hN hml hst kr78 ih _ _ _ _ _ _ _ _ _ _ h G hl
def g_X8_weighted (T : AT) (o : Nat) (a0 : Nat) (a1 : Nat) (a2 : Int32) : Option (Int64 × AT) := g_X8_weighted_b6 16384 T o a0 a1 a2 (0 : Int64) 0
set_option maxHeartbeats 4000000 in
set_option maxRecDepth 100000 in
theorem u_X8_weighted (l : Launch) (hst : l.stackTraces = false) (D : va_G) (cI cJ cZ cMic cSrc cSt cAI cAJ : ClassId) (ad : Nat → Nat) (T : AT) (o : Nat) (a0 : Nat) (a1 : Nat) (a2 : Int32) {r1 : Int64} {T1 : AT} (h : g_X8_weighted T o a0 a1 a2 = some (r1, T1)) : kCl l yX8_weighted (Cond.code yX8_weighted cX8_weighted 8 (some .long) :: wsA) 2 21 cI cJ cZ cMic cSrc cSt cAI cAJ D ad T [.ref (ad o), .ref (ad a0), .ref (ad a1), .int a2] (fun r T9 => r = r1 ∧ T9 = T1) := by
  intro sz
  refine Met.ofW (cc := cX8_weighted) (maxL := 8) (ret := (some .long)) (by decide) rfl ?_
  intro p e s m args below meth c s₁ B hml hv
  obtain ⟨rfl, hsz, hP, hK, hD0, hX, hN⟩ := hv
  have hx := B.exec
  have hb := B.bytes
  have hr := B.returns
  have hts := atoms_spec (ws := (Cond.code yX8_weighted cX8_weighted 8 (some .long) :: wsA)) B.pre
  have hown : s.vm.findClass RX8 = some m.cls := findClass_of_methodNamed B.named
  have hlocks := B.notSynchronized
  subst hsz
  have hD := hD0.self (sz := s.heap.size)
  generalize hAe : va_A (cW ad T.1 (cc cI cJ cZ cMic cSrc cSt cAI cAJ ad T)) s.heap.size = A at hD hX ⊢
  have hA : ∀ q : Nat, s.heap.size ≤ q → A q := fun q h => by rw [← hAe]; exact Or.inr h
  have G : gC cI cJ cZ cMic cSrc cSt cAI cAJ D ad A s.heap s.heap [] T := ⟨hP, hD, va_S.rf⟩
  have E : cE p c cX8_weighted s m ([.ref (ad o), .ref (ad a0), .ref (ad a1), .int a2] : List Value).toArray (Cond.code yX8_weighted cX8_weighted 8 (some .long) :: wsA) D RX8 (CT cI cJ cZ cMic cSrc cSt cAI cAJ) := ⟨hx, hb, hts, hown, hK⟩
  have hl := lv_entry ([.ref (ad o), .ref (ad a0), .ref (ad a1), .int a2]) (n := 8) (Nat.le_of_ble_eq_true rfl)
  rw [lg_entry_eq]
  generalize (lg_sl ([.ref (ad o), .ref (ad a0), .ref (ad a1), .int a2]) ++ List.replicate (8 - (lg_sl ([.ref (ad o), .ref (ad a0), .ref (ad a1), .int a2])).length) Slot.unset).toArray = ls at hl ⊢
  have hl : lv_has ls 8 [(0, .ref (ad o)), (1, .ref (ad a0)), (2, .ref (ad a1)), (3, .int a2)] := hl
  unfold g_X8_weighted at h
  refine lv_lconst (v := 0) hx hb dX8_weighted_0 (by decide) ?_
  refine lv_lstore (lv' := [(4, .long (0 : Int64)), (0, .ref (ad o)), (1, .ref (ad a0)), (2, .ref (ad a1)), (3, .int a2)]) hx hb dX8_weighted_1 hl (by decide) rfl (fun ls hl => ?_)
  refine lv_iconst (v := 0) hx hb dX8_weighted_3 (by decide) ?_
  refine lv_istore (lv' := [(6, .int 0), (4, .long (0 : Int64)), (0, .ref (ad o)), (1, .ref (ad a0)), (2, .ref (ad a1)), (3, .int a2)]) hx hb dX8_weighted_4 hl (by decide) rfl (fun ls hl => ?_)
  have hl := lv_sub hl [2, 3, 4, 5, 1, 0] rfl
  exact u_X8_weighted_b6 E hA hX hN hml hst (fun H locs ls G => W.lret (v := r1) hx hb hr (fun t ht hW => ⟨⟨r1, T1, rfl, ⟨rfl, rfl⟩, ⟨by rw [ht]; exact G.1, va_K.moved hW.alike hK, G.2.1⟩⟩, G.2.2.F ht⟩) G.2.2.2.2 dX8_weighted_78) _ _ _ _ _ _ _ _ _ _ _ h G hl
set_option maxHeartbeats 4000000 in
set_option maxRecDepth 100000 in
theorem s_X8_weighted_b70 {r1 : Int64} {T1 : AT} {k6 : AT → Nat → Nat → Nat → Int32 → Int64 → Int32 → Option (Int64 × AT)} (hk6 : ∀ (T : AT) (l0 : Nat) (l1 : Nat) (l2 : Nat) (l3 : Int32) (l4 : Int64) (l6 : Int32), k6 T l0 l1 l2 l3 l4 l6 = some (r1, T1) → SP T T1) : ∀ (T : AT) (l0 : Nat) (l1 : Nat) (l2 : Nat) (l3 : Int32) (l4 : Int64) (l6 : Int32), g_X8_weighted_b70 k6 T l0 l1 l2 l3 l4 l6 = some (r1, T1) → SP T T1 := by
  intro T l0 l1 l2 l3 l4 l6 h
  have p0 := SP.rf T
  unfold g_X8_weighted_b70 at h
  obtain ⟨v2, ev2, h⟩ := elet_some h
  exact SP.tr p0 (hk6 _ _ _ _ _ _ _ h)
set_option maxHeartbeats 4000000 in
set_option maxRecDepth 100000 in
theorem s_X8_weighted_b6 {r1 : Int64} {T1 : AT} : ∀ n : Nat, ∀ (T : AT) (l0 : Nat) (l1 : Nat) (l2 : Nat) (l3 : Int32) (l4 : Int64) (l6 : Int32), g_X8_weighted_b6 n T l0 l1 l2 l3 l4 l6 = some (r1, T1) → SP T T1 := by
  intro n
  induction n with
  | zero =>
    intro T l0 l1 l2 l3 l4 l6 h
    have h : (none : Option (Int64 × AT)) = some (r1, T1) := h
    cases h
  | succ n ih =>
    intro T l0 l1 l2 l3 l4 l6 h
    have p0 := SP.rf T
    unfold g_X8_weighted_b6 at h
    obtain ⟨g2, h⟩ := oif_some h
    obtain ⟨v3, -, h⟩ := elet_some h
    rcases oif_or h with ⟨c4, h⟩ | ⟨c4, h⟩
    · have h := h
      rw [← (osome2 h).2]
      exact p0
    · have h := h
      obtain ⟨g5, h⟩ := oif_some h
      obtain ⟨g6, h⟩ := oif_some h
      obtain ⟨v7, -, h⟩ := elet_some h
      obtain ⟨v8, -, h⟩ := elet_some h
      obtain ⟨g9, h⟩ := oif_some h
      obtain ⟨n10, en10, h⟩ := obind_some h
      obtain ⟨g11, h⟩ := oif_some h
      obtain ⟨g12, h⟩ := oif_some h
      obtain ⟨v13, -, h⟩ := elet_some h
      rcases oif_or h with ⟨c14, h⟩ | ⟨c14, h⟩
      · have h := h
        rcases oif_or h with ⟨c15, h⟩ | ⟨c15, h⟩
        · have h := h
          exact SP.tr p0 (s_X8_weighted_b70 ih _ _ _ _ _ _ _ h)
        · have h := h
          obtain ⟨g16, h⟩ := oif_some h
          obtain ⟨v17, -, h⟩ := elet_some h
          rcases oif_or h with ⟨c18, h⟩ | ⟨c18, h⟩
          · have h := h
            exact SP.tr p0 (s_X8_weighted_b70 ih _ _ _ _ _ _ _ h)
          · have h := h
            obtain ⟨g19, h⟩ := oif_some h
            obtain ⟨n20, en20, h⟩ := obind_some h
            obtain ⟨g21, h⟩ := oif_some h
            obtain ⟨g22, h⟩ := oif_some h
            obtain ⟨v23, -, h⟩ := elet_some h
            obtain ⟨v24, -, h⟩ := elet_some h
            obtain ⟨r25, -, h⟩ := obind_some h
            obtain ⟨g26, h⟩ := oif_some h
            obtain ⟨g27, h⟩ := oif_some h
            obtain ⟨v28, -, h⟩ := elet_some h
            obtain ⟨v29, -, h⟩ := elet_some h
            obtain ⟨v30, -, h⟩ := elet_some h
            exact SP.tr p0 (s_X8_weighted_b70 ih _ _ _ _ _ _ _ h)
      · have h := h
        exact SP.tr p0 (s_X8_weighted_b70 ih _ _ _ _ _ _ _ h)
set_option maxHeartbeats 4000000 in
set_option maxRecDepth 100000 in
theorem s_X8_weighted {T : AT} {o : Nat} {a0 : Nat} {a1 : Nat} {a2 : Int32} {r1 : Int64} {T1 : AT} (h : g_X8_weighted T o a0 a1 a2 = some (r1, T1)) : SP T T1 := by
  have p0 := SP.rf T
  unfold g_X8_weighted at h
  exact SP.tr p0 (s_X8_weighted_b6 _ _ _ _ _ _ _ _ h)
def g_X8_focus_b74  (T : AT)  : Option (AT) := some T
def g_X8_focus_b23  : Nat → AT → Nat → Nat → Int32 → Int32 → Option (AT)
  | 0, _, _, _, _, _ => none
  | n + 1, T, l0, l1, l2, l3 => oif (oO T l0 8 = true) <| obind (T.2.2.2.2 l0 10) fun n3 => oif (oO T n3 10 = true) <| elet (T.2.2.1 n3 2) fun v5 => if v5 ≤ l3 then (oif (oO T l0 8 = true) <| obind (T.2.2.2.2 l0 11) fun n8 => oif (oO T n8 10 = true) <| obind (g_X10_settle T n8 (0 : Int32)) fun T10 => g_X8_focus_b74 T10) else (oif (oO T l0 8 = true) <| obind (T.2.2.2.2 l0 11) fun n13 => oif (oO T n13 10 = true) <| obind (T.2.2.2.2 n13 1) fun n15 => oif (aA T n15 107 = true) <| oif (inb l3 (T.2.1 n15).2 = true) <| obind (T.2.2.2.2 n15 l3.toNatClampNeg) fun n18 => oif (oO T l0 8 = true) <| obind (T.2.2.2.2 l0 10) fun n20 => oif (oO T n20 10 = true) <| obind (T.2.2.2.2 n20 1) fun n22 => oif (aA T n22 107 = true) <| oif (inb l3 (T.2.1 n22).2 = true) <| obind (T.2.2.2.2 n22 l3.toNatClampNeg) fun n25 => oif (oO T l0 8 = true) <| obind2 (g_X8_weighted T l0 n25 l1 l2) fun r29 T27 => oif (aA T27 n18 101 = true) <| oif (inb 0 (T27.2.1 n18).2 = true) <| elet (uJ T27 n18 (0 : Int32).toNatClampNeg r29) fun T33 => elet (l3 + Int32.ofInt (1)) fun v34 => g_X8_focus_b23 n T33 l0 l1 l2 v34)
def g_X8_focus_b21  (T : AT) (l0 : Nat) (l1 : Nat) (l2 : Int32) : Option (AT) := g_X8_focus_b23 16384 T l0 l1 l2 0
def g_X8_focus (T : AT) (o : Nat) (a0 : Nat) (a1 : Int32) : Option (AT) := oif (oO T o 8 = true) <| obind (T.2.2.2.2 o 11) fun n3 => oif (oO T n3 10 = true) <| obind (g_X10_narrow T n3) fun T5 => oif (oO T5 o 8 = true) <| obind (T5.2.2.2.2 o 11) fun n8 => oif (oO T5 o 8 = true) <| obind (T5.2.2.2.2 o 10) fun n10 => oif (oO T5 n10 10 = true) <| elet (T5.2.2.1 n10 2) fun v12 => oif (oO T5 n8 10 = true) <| obind (g_X10_widenTo T5 n8 v12) fun T14 => g_X8_focus_b21 T14 o a0 a1
set_option maxHeartbeats 4000000 in
set_option maxRecDepth 100000 in
theorem s_X8_focus_b74 {T1 : AT} : ∀ (T : AT), g_X8_focus_b74 T = some T1 → GL T T1 := by
  intro T h
  have p0 := GL.rf T
  unfold g_X8_focus_b74 at h
  rw [← osome1 h]
  exact p0
set_option maxHeartbeats 4000000 in
set_option maxRecDepth 100000 in
theorem s_X8_focus_b23 {T1 : AT} : ∀ n : Nat, ∀ (T : AT) (l0 : Nat) (l1 : Nat) (l2 : Int32) (l3 : Int32), g_X8_focus_b23 n T l0 l1 l2 l3 = some T1 → GL T T1 := by
  intro n
  induction n with
  | zero =>
    intro T l0 l1 l2 l3 h
    have h : (none : Option (AT)) = some T1 := h
    cases h
  | succ n ih =>
    intro T l0 l1 l2 l3 h
    have p0 := GL.rf T
    unfold g_X8_focus_b23 at h
    obtain ⟨g2, h⟩ := oif_some h
    obtain ⟨n3, en3, h⟩ := obind_some h
    obtain ⟨g4, h⟩ := oif_some h
    obtain ⟨v5, -, h⟩ := elet_some h
    rcases oif_or h with ⟨c6, h⟩ | ⟨c6, h⟩
    · have h := h
      obtain ⟨g7, h⟩ := oif_some h
      obtain ⟨n8, en8, h⟩ := obind_some h
      obtain ⟨g9, h⟩ := oif_some h
      obtain ⟨T10, eT10, h⟩ := obind_some h
      have p1 : GL T T10 := GL.tr p0 (s_X10_settle eT10)
      exact GL.tr p1 (s_X8_focus_b74 _ h)
    · have h := h
      obtain ⟨g12, h⟩ := oif_some h
      obtain ⟨n13, en13, h⟩ := obind_some h
      obtain ⟨g14, h⟩ := oif_some h
      obtain ⟨n15, en15, h⟩ := obind_some h
      obtain ⟨g16, h⟩ := oif_some h
      obtain ⟨g17, h⟩ := oif_some h
      obtain ⟨n18, en18, h⟩ := obind_some h
      obtain ⟨g19, h⟩ := oif_some h
      obtain ⟨n20, en20, h⟩ := obind_some h
      obtain ⟨g21, h⟩ := oif_some h
      obtain ⟨n22, en22, h⟩ := obind_some h
      obtain ⟨g23, h⟩ := oif_some h
      obtain ⟨g24, h⟩ := oif_some h
      obtain ⟨n25, en25, h⟩ := obind_some h
      obtain ⟨g26, h⟩ := oif_some h
      obtain ⟨r28, T27, eT27, h⟩ := obind2_some h
      have p1 : GL T T27 := GL.tr p0 (gl_sp (s_X8_weighted eT27))
      obtain ⟨g29, h⟩ := oif_some h
      obtain ⟨g30, h⟩ := oif_some h
      obtain ⟨T31, eT31, h⟩ := elet_some h
      have p2 : GL T T31 := GL.tr p1 (by rw [eT31]; exact gl_sp sp_uJ)
      obtain ⟨v32, ev32, h⟩ := elet_some h
      exact GL.tr p2 (ih _ _ _ _ _ h)
set_option maxHeartbeats 4000000 in
set_option maxRecDepth 100000 in
theorem s_X8_focus_b21 {T1 : AT} : ∀ (T : AT) (l0 : Nat) (l1 : Nat) (l2 : Int32), g_X8_focus_b21 T l0 l1 l2 = some T1 → GL T T1 := by
  intro T l0 l1 l2 h
  have p0 := GL.rf T
  unfold g_X8_focus_b21 at h
  exact GL.tr p0 (s_X8_focus_b23 _ _ _ _ _ _ h)
set_option maxHeartbeats 4000000 in
set_option maxRecDepth 100000 in
theorem s_X8_focus {T : AT} {o : Nat} {a0 : Nat} {a1 : Int32} {T1 : AT} (h : g_X8_focus T o a0 a1 = some T1) : GL T T1 := by
  have p0 := GL.rf T
  unfold g_X8_focus at h
  obtain ⟨g2, h⟩ := oif_some h
  obtain ⟨n3, en3, h⟩ := obind_some h
  obtain ⟨g4, h⟩ := oif_some h
  obtain ⟨T5, eT5, h⟩ := obind_some h
  have p1 : GL T T5 := GL.tr p0 (gl_sp (s_X10_narrow eT5))
  obtain ⟨g7, h⟩ := oif_some h
  obtain ⟨n8, en8, h⟩ := obind_some h
  obtain ⟨g9, h⟩ := oif_some h
  obtain ⟨n10, en10, h⟩ := obind_some h
  obtain ⟨g11, h⟩ := oif_some h
  obtain ⟨v12, -, h⟩ := elet_some h
  obtain ⟨g13, h⟩ := oif_some h
  obtain ⟨T14, eT14, h⟩ := obind_some h
  have p2 : GL T T14 := GL.tr p1 (s_X10_widenTo eT14)
  exact GL.tr p2 (s_X8_focus_b21 _ _ _ _ h)
set_option maxHeartbeats 4000000 in
set_option maxRecDepth 100000 in
theorem a_X8_focus_b74 {p : Program} {l : Launch} {e : Env} {s : State} {m : MethodId} {args : Array Value} {below : List Frame} {meth : Method} {c : Code} {Q : State → Prop} {D : va_G} {A : Nat → Prop} {cI cJ cZ cMic cSrc cSt cAI cAJ : ClassId} {ad0 : Nat → Nat} {T0 : AT} {T1 : AT} (E : cE p c cX8_focus s m args (Cond.code yX8_focus cX8_focus 4 none :: wsA) D RX8 (CT cI cJ cZ cMic cSrc cSt cAI cAJ)) (hA : ∀ q : Nat, s.heap.size ≤ q → A q) (hX : xT A s) (hN : nX s) (hml : c.maxLocals = 4) (hst : l.stackTraces = false) (kr74 : ∀ (ad : Nat → Nat) (H : Heap) (locs : List Loc) (ls : Array Slot), (∀ n, n < T0.1 → ad n = ad0 n) → gC cI cJ cZ cMic cSrc cSt cAI cAJ D ad A s.heap H locs T1 → W p l e { frames := 3, cells := T1.1 - T0.1, slots := sg T1 - sg T0, locals := 49 } s m args below meth c H locs (T1.1 - T0.1) (sg T1 - sg T0) Q (F0 m 74 ls [])) : ∀ (T : AT) (ad : Nat → Nat) (H : Heap) (locs : List Loc) (ls : Array Slot), g_X8_focus_b74 T = some T1 → GL T0 T → RC T → (∀ n, n < T0.1 → ad n = ad0 n) → gC cI cJ cZ cMic cSrc cSt cAI cAJ D ad A s.heap H locs T → lv_has ls 4 [] → W p l e { frames := 3, cells := T1.1 - T0.1, slots := sg T1 - sg T0, locals := 49 } s m args below meth c H locs (T.1 - T0.1) (sg T - sg T0) Q (F0 m 74 ls []) := by
  have hx := E.1
  have hb := E.2.1
  have hts := E.2.2.1
  have hown := E.2.2.2.1
  have hK := E.2.2.2.2
  intro T ad H locs ls h hgl hrc had G hl
  have hT1 := s_X8_focus_b74 _ h
  have hcs := cs_ok hgl hT1
  have cp0 := cpr0 hrc
  unfold g_X8_focus_b74 at h
  rw [osome1 h] at G
  refine w_cast (c2 := T1.1 - T0.1) (s2 := sg T1 - sg T0) (by rw [← osome1 h, cp0.1] <;> rfl) (by rw [← osome1 h, sg_cpr cp0] <;> rfl) ?_
  exact kr74 ad _ _ _ had G
set_option maxHeartbeats 4000000 in
set_option maxRecDepth 100000 in
theorem a_X8_focus_b23 {p : Program} {l : Launch} {e : Env} {s : State} {m : MethodId} {args : Array Value} {below : List Frame} {meth : Method} {c : Code} {Q : State → Prop} {D : va_G} {A : Nat → Prop} {cI cJ cZ cMic cSrc cSt cAI cAJ : ClassId} {ad0 : Nat → Nat} {T0 : AT} {T1 : AT} (E : cE p c cX8_focus s m args (Cond.code yX8_focus cX8_focus 4 none :: wsA) D RX8 (CT cI cJ cZ cMic cSrc cSt cAI cAJ)) (hA : ∀ q : Nat, s.heap.size ≤ q → A q) (hX : xT A s) (hN : nX s) (hml : c.maxLocals = 4) (hst : l.stackTraces = false) (kr74 : ∀ (ad : Nat → Nat) (H : Heap) (locs : List Loc) (ls : Array Slot), (∀ n, n < T0.1 → ad n = ad0 n) → gC cI cJ cZ cMic cSrc cSt cAI cAJ D ad A s.heap H locs T1 → W p l e { frames := 3, cells := T1.1 - T0.1, slots := sg T1 - sg T0, locals := 49 } s m args below meth c H locs (T1.1 - T0.1) (sg T1 - sg T0) Q (F0 m 74 ls [])) : ∀ n : Nat, ∀ (T : AT) (ad : Nat → Nat) (H : Heap) (locs : List Loc) (ls : Array Slot) (l0 : Nat) (l1 : Nat) (l2 : Int32) (l3 : Int32), g_X8_focus_b23 n T l0 l1 l2 l3 = some T1 → GL T0 T → RC T → (∀ n, n < T0.1 → ad n = ad0 n) → l0 < T.1 → l1 < T.1 → gC cI cJ cZ cMic cSrc cSt cAI cAJ D ad A s.heap H locs T → lv_has ls 4 [(0, .ref (ad l0)), (1, .ref (ad l1)), (2, .int l2), (3, .int l3)] → W p l e { frames := 3, cells := T1.1 - T0.1, slots := sg T1 - sg T0, locals := 49 } s m args below meth c H locs (T.1 - T0.1) (sg T - sg T0) Q (F0 m 23 ls []) := by
  have hx := E.1
  have hb := E.2.1
  have hts := E.2.2.1
  have hown := E.2.2.2.1
  have hK := E.2.2.2.2
  intro n
  induction n with
  | zero =>
    intro T ad H locs ls l0 l1 l2 l3 h
    have h : (none : Option (AT)) = some T1 := h
    cases h
  | succ n ih =>
    intro T ad H locs ls l0 l1 l2 l3 h hgl hrc had h_l0 h_l1 G hl
    have hT1 := s_X8_focus_b23 _ _ _ _ _ _ h
    have hcs := cs_ok hgl hT1
    have cp0 := cpr0 hrc
    unfold g_X8_focus_b23 at h
    refine lv_iload_n hx hb dX8_focus_23 rfl (lv_at hl 3 rfl) ?_
    refine lv_aload_n hx hb dX8_focus_24 rfl (lv_at hl 0 rfl) ?_
    obtain ⟨g2, h⟩ := oif_some h
    obtain ⟨n3, en3, h⟩ := obind_some h
    have h_n3 : n3 < T.1 := by rw [← cp0.1]; exact cp0.2.2 _ _ _ en3
    refine c_get E G l0 10 (v := .ref (ad n3)) (oO_k g2).1 (cc_o8 (oO_k g2).2) rfl (fun w h => .tail _ (iA_16 h)) (by decide) (.tail _ qA_73) rfl (by rw [en3]; rfl) dX8_focus_25 ?_
    clear en3
    obtain ⟨g4, h⟩ := oif_some h
    refine c_get E G n3 2 (oO_k g4).1 (cc_o10 (oO_k g4).2) rfl (fun w h => .tail _ (iA_12 h)) (by decide) (.tail _ qA_74) rfl rfl dX8_focus_28 ?_
    refine lv_topi (fun v5 ev5 => ?_)
    have h := elet_at ev5 h
    clear ev5
    refine lv_icmp_ge (tgt := 66) hx hb dX8_focus_31 (by decide) (fun c6 => ?_) (fun c6 => ?_)
    · have h := oif_pos c6 h
      refine lv_aload_n hx hb dX8_focus_66 rfl (lv_at hl 0 rfl) ?_
      obtain ⟨g7, h⟩ := oif_some h
      obtain ⟨n8, en8, h⟩ := obind_some h
      have h_n8 : n8 < T.1 := by rw [← cp0.1]; exact cp0.2.2 _ _ _ en8
      refine c_get E G l0 11 (v := .ref (ad n8)) (oO_k g7).1 (cc_o8 (oO_k g7).2) rfl (fun w h => .tail _ (iA_16 h)) (by decide) (.tail _ qA_52) rfl (by rw [en8]; rfl) dX8_focus_67 ?_
      clear en8
      refine lv_iconst (v := 0) hx hb dX8_focus_70 (by decide) ?_
      obtain ⟨g9, h⟩ := oif_some h
      obtain ⟨T10, eT10, h⟩ := obind_some h
      have hg2 := s_X10_settle eT10
      have hrc2 := hg2.2.2 cp0.2.2
      have hT2 := s_X8_focus_b74 _ h
      refine q_avv (As := [.int 0]) (rest := []) E G hA hX hN hml (a_X10_settle l hst D cI cJ cZ cMic cSrc cSt cAI cAJ ad T n8 (0 : Int32) eT10 cp0.2.2 (by rw [cp0.1]; exact h_n8)) (cwV 1 hts (gaV qA_90 qA_91 qA_92 qA_6 qA_93) rfl rfl rfl (by decide +kernel) ⟨Nat.le_of_ble_eq_true rfl, Nat.le_of_ble_eq_true rfl⟩) (oO_k g9).1 (cc_o10 (oO_k g9).2) rfl rfl hl.1 rfl (lv_room (Nat.le_of_ble_eq_true rfl)) dX8_focus_71 (cs_av hgl cp0 hg2 hT2) (fun ad2 H locs hga G => ?_)
      refine w_cast (c2 := T10.1 - T0.1) (s2 := sg T10 - sg T0) (cs_f1 hgl cp0 hg2) (cs_f2 hgl cp0 hg2) ?_
      have hl := lv_sub hl [] rfl
      exact a_X8_focus_b74 E hA hX hN hml hst kr74 _ _ _ _ _ h (GL.tr (gl_cpr hgl cp0) hg2) hrc2 (fun n hn => (hga n (by rw [cp0.1]; exact Nat.lt_of_lt_of_le hn hgl.1)).trans (had n hn)) G hl
    · have h := oif_neg c6 h
      refine lv_aload_n hx hb dX8_focus_34 rfl (lv_at hl 0 rfl) ?_
      obtain ⟨g12, h⟩ := oif_some h
      obtain ⟨n13, en13, h⟩ := obind_some h
      have h_n13 : n13 < T.1 := by rw [← cp0.1]; exact cp0.2.2 _ _ _ en13
      refine c_get E G l0 11 (v := .ref (ad n13)) (oO_k g12).1 (cc_o8 (oO_k g12).2) rfl (fun w h => .tail _ (iA_16 h)) (by decide) (.tail _ qA_52) rfl (by rw [en13]; rfl) dX8_focus_35 ?_
      clear en13
      obtain ⟨g14, h⟩ := oif_some h
      obtain ⟨n15, en15, h⟩ := obind_some h
      have h_n15 : n15 < T.1 := by rw [← cp0.1]; exact cp0.2.2 _ _ _ en15
      refine c_get E G n13 1 (v := .ref (ad n15)) (oO_k g14).1 (cc_o10 (oO_k g14).2) rfl (fun w h => .tail _ (iA_12 h)) (by decide) (.tail _ qA_75) rfl (by rw [en15]; rfl) dX8_focus_38 ?_
      clear en15
      refine lv_iload_n hx hb dX8_focus_41 rfl (lv_at hl 3 rfl) ?_
      obtain ⟨g16, h⟩ := oif_some h
      obtain ⟨g17, h⟩ := oif_some h
      obtain ⟨n18, en18, h⟩ := obind_some h
      have h_n18 : n18 < T.1 := by rw [← cp0.1]; exact cp0.2.2 _ _ _ en18
      refine c_alda E G n15 7 (k := l3.toNatClampNeg) (v := .ref (ad n18)) (aA_k g16).1 (cc_a107 (aA_k g16).2.1) rfl (inb_k g17).1 (inb_k g17).2 (aA_k g16).2.2 (by show va_rf ((T.2.2.2.2 n15 l3.toNatClampNeg).map ad) = _; rw [en18]; rfl) dX8_focus_42 ?_
      clear en18
      refine lv_iconst (v := 0) hx hb dX8_focus_43 (by decide) ?_
      refine lv_aload_n hx hb dX8_focus_44 rfl (lv_at hl 0 rfl) ?_
      refine lv_aload_n hx hb dX8_focus_45 rfl (lv_at hl 0 rfl) ?_
      obtain ⟨g19, h⟩ := oif_some h
      obtain ⟨n20, en20, h⟩ := obind_some h
      have h_n20 : n20 < T.1 := by rw [← cp0.1]; exact cp0.2.2 _ _ _ en20
      refine c_get E G l0 10 (v := .ref (ad n20)) (oO_k g19).1 (cc_o8 (oO_k g19).2) rfl (fun w h => .tail _ (iA_16 h)) (by decide) (.tail _ qA_73) rfl (by rw [en20]; rfl) dX8_focus_46 ?_
      clear en20
      obtain ⟨g21, h⟩ := oif_some h
      obtain ⟨n22, en22, h⟩ := obind_some h
      have h_n22 : n22 < T.1 := by rw [← cp0.1]; exact cp0.2.2 _ _ _ en22
      refine c_get E G n20 1 (v := .ref (ad n22)) (oO_k g21).1 (cc_o10 (oO_k g21).2) rfl (fun w h => .tail _ (iA_12 h)) (by decide) (.tail _ qA_75) rfl (by rw [en22]; rfl) dX8_focus_49 ?_
      clear en22
      refine lv_iload_n hx hb dX8_focus_52 rfl (lv_at hl 3 rfl) ?_
      obtain ⟨g23, h⟩ := oif_some h
      obtain ⟨g24, h⟩ := oif_some h
      obtain ⟨n25, en25, h⟩ := obind_some h
      have h_n25 : n25 < T.1 := by rw [← cp0.1]; exact cp0.2.2 _ _ _ en25
      refine c_alda E G n22 7 (k := l3.toNatClampNeg) (v := .ref (ad n25)) (aA_k g23).1 (cc_a107 (aA_k g23).2.1) rfl (inb_k g24).1 (inb_k g24).2 (aA_k g23).2.2 (by show va_rf ((T.2.2.2.2 n22 l3.toNatClampNeg).map ad) = _; rw [en25]; rfl) dX8_focus_53 ?_
      clear en25
      refine lv_aload_n hx hb dX8_focus_54 rfl (lv_at hl 1 rfl) ?_
      refine lv_iload_n hx hb dX8_focus_55 rfl (lv_at hl 2 rfl) ?_
      obtain ⟨g26, h⟩ := oif_some h
      obtain ⟨r29, T27, eT27, h⟩ := obind2_some h
      refine q_cvl (As := [.ref (ad n25), .ref (ad l1), .int l2]) (rest := [.int 0, .ref (ad n18)]) E G hA hX hN hml (u_X8_weighted l hst D cI cJ cZ cMic cSrc cSt cAI cAJ ad T l0 n25 l1 l2 eT27) (cwV 3 hts (gaV qA_82 qA_83 qA_84 qA_47 qA_85) rfl rfl rfl (by decide +kernel) ⟨Nat.le_of_ble_eq_true rfl, Nat.le_of_ble_eq_true rfl⟩) (oO_k g26).1 (cc_o8 (oO_k g26).2) rfl rfl hl.1 rfl (lv_room (Nat.le_of_ble_eq_true rfl)) dX8_focus_56 hcs (fun q30 T28 H locs hq G => ?_)
      obtain ⟨hq1, hq2⟩ := hq
      rw [hq2] at G
      refine lv_tol hq1 ?_
      clear hq1 hq2
      have cp1 := cpr_sp cp0 (s_X8_weighted eT27)
      obtain ⟨g31, h⟩ := oif_some h
      obtain ⟨g32, h⟩ := oif_some h
      refine c_last E G n18 1 (k := (0 : Int32).toNatClampNeg) (v := r29) (aA_k g31).1 (cc_a101 (aA_k g31).2.1) rfl (inb_k g32).1 (inb_k g32).2 (aA_k g31).2.2 dX8_focus_59 (fun H locs G => ?_)
      have G := gC_up_j (f := vp_updL (T27.2.2.2.1 n18) (0 : Int32).toNatClampNeg r29) (ccv_101 (aA_k g31).2.1) G
      obtain ⟨T33, eT33, h⟩ := elet_some h
      have G : gC cI cJ cZ cMic cSrc cSt cAI cAJ D ad A s.heap H locs T33 := by rw [eT33]; exact G
      have cp2 := show CPR T T33 from by rw [eT33]; exact cpr_sp cp1 sp_uJ
      clear eT33
      obtain ⟨v34, ev34, h⟩ := elet_some h
      refine lv_iinc (v := v34) (lv' := [(3, .int v34), (0, .ref (ad l0)), (1, .ref (ad l1)), (2, .int l2)]) hx hb dX8_focus_60 hl (k := 3) rfl ev34.symm (by decide) rfl (fun ls hl => ?_)
      refine lv_goto (tgt := 23) hx hb dX8_focus_63 (by decide) ?_
      have hl := lv_sub hl [1, 2, 3, 0] rfl
      refine w_cast (c2 := T33.1 - T0.1) (s2 := sg T33 - sg T0) (by rw [cp2.1] <;> rfl) (by rw [sg_cpr cp2] <;> rfl) ?_
      exact ih _ _ _ _ _ _ _ _ _ h (gl_cpr hgl cp2) cp2.2.2 had (by rw [cp2.1]; exact h_l0) (by rw [cp2.1]; exact h_l1) G hl
set_option maxHeartbeats 4000000 in
set_option maxRecDepth 100000 in
theorem a_X8_focus_b21 {p : Program} {l : Launch} {e : Env} {s : State} {m : MethodId} {args : Array Value} {below : List Frame} {meth : Method} {c : Code} {Q : State → Prop} {D : va_G} {A : Nat → Prop} {cI cJ cZ cMic cSrc cSt cAI cAJ : ClassId} {ad0 : Nat → Nat} {T0 : AT} {T1 : AT} (E : cE p c cX8_focus s m args (Cond.code yX8_focus cX8_focus 4 none :: wsA) D RX8 (CT cI cJ cZ cMic cSrc cSt cAI cAJ)) (hA : ∀ q : Nat, s.heap.size ≤ q → A q) (hX : xT A s) (hN : nX s) (hml : c.maxLocals = 4) (hst : l.stackTraces = false) (kr74 : ∀ (ad : Nat → Nat) (H : Heap) (locs : List Loc) (ls : Array Slot), (∀ n, n < T0.1 → ad n = ad0 n) → gC cI cJ cZ cMic cSrc cSt cAI cAJ D ad A s.heap H locs T1 → W p l e { frames := 3, cells := T1.1 - T0.1, slots := sg T1 - sg T0, locals := 49 } s m args below meth c H locs (T1.1 - T0.1) (sg T1 - sg T0) Q (F0 m 74 ls [])) : ∀ (T : AT) (ad : Nat → Nat) (H : Heap) (locs : List Loc) (ls : Array Slot) (l0 : Nat) (l1 : Nat) (l2 : Int32), g_X8_focus_b21 T l0 l1 l2 = some T1 → GL T0 T → RC T → (∀ n, n < T0.1 → ad n = ad0 n) → l0 < T.1 → l1 < T.1 → gC cI cJ cZ cMic cSrc cSt cAI cAJ D ad A s.heap H locs T → lv_has ls 4 [(0, .ref (ad l0)), (1, .ref (ad l1)), (2, .int l2)] → W p l e { frames := 3, cells := T1.1 - T0.1, slots := sg T1 - sg T0, locals := 49 } s m args below meth c H locs (T.1 - T0.1) (sg T - sg T0) Q (F0 m 21 ls []) := by
  have hx := E.1
  have hb := E.2.1
  have hts := E.2.2.1
  have hown := E.2.2.2.1
  have hK := E.2.2.2.2
  intro T ad H locs ls l0 l1 l2 h hgl hrc had h_l0 h_l1 G hl
  have hT1 := s_X8_focus_b21 _ _ _ _ h
  have hcs := cs_ok hgl hT1
  have cp0 := cpr0 hrc
  unfold g_X8_focus_b21 at h
  refine lv_iconst (v := 0) hx hb dX8_focus_21 (by decide) ?_
  refine lv_istore_n (lv' := [(3, .int 0), (0, .ref (ad l0)), (1, .ref (ad l1)), (2, .int l2)]) hx hb dX8_focus_22 rfl hl (by decide) rfl (fun ls hl => ?_)
  have hl := lv_sub hl [1, 2, 3, 0] rfl
  refine w_cast (c2 := T.1 - T0.1) (s2 := sg T - sg T0) (by rw [cp0.1] <;> rfl) (by rw [sg_cpr cp0] <;> rfl) ?_
  exact a_X8_focus_b23 E hA hX hN hml hst kr74 _ _ _ _ _ _ _ _ _ _ h (gl_cpr hgl cp0) cp0.2.2 had (by rw [cp0.1]; exact h_l0) (by rw [cp0.1]; exact h_l1) G hl
set_option maxHeartbeats 4000000 in
set_option maxRecDepth 100000 in
theorem a_X8_focus (l : Launch) (hst : l.stackTraces = false) (D : va_G) (cI cJ cZ cMic cSrc cSt cAI cAJ : ClassId) (ad : Nat → Nat) (T : AT) (o : Nat) (a0 : Nat) (a1 : Int32) {T1 : AT} (h : g_X8_focus T o a0 a1 = some T1) (hrc : RC T) (h_o : o < T.1) (h_a0 : a0 < T.1) : kAv l yX8_focus (Cond.code yX8_focus cX8_focus 4 none :: wsA) 3 49 cI cJ cZ cMic cSrc cSt cAI cAJ D ad T [.ref (ad o), .ref (ad a0), .int a1] T1 := by
  intro sz
  refine Met.ofW (cc := cX8_focus) (maxL := 4) (ret := none) (by decide) rfl ?_
  intro p e s m args below meth c s₁ B hml hv
  obtain ⟨rfl, hsz, hP, hK, hD0, hX, hN⟩ := hv
  have hx := B.exec
  have hb := B.bytes
  have hr := B.returns
  have hts := atoms_spec (ws := (Cond.code yX8_focus cX8_focus 4 none :: wsA)) B.pre
  have hown : s.vm.findClass RX8 = some m.cls := findClass_of_methodNamed B.named
  have hlocks := B.notSynchronized
  subst hsz
  have hD := hD0.self (sz := s.heap.size)
  generalize hAe : va_A (cW ad T.1 (cc cI cJ cZ cMic cSrc cSt cAI cAJ ad T)) s.heap.size = A at hD hX ⊢
  have hA : ∀ q : Nat, s.heap.size ≤ q → A q := fun q h => by rw [← hAe]; exact Or.inr h
  have G : gC cI cJ cZ cMic cSrc cSt cAI cAJ D ad A s.heap s.heap [] T := ⟨hP, hD, va_S.rf⟩
  have E : cE p c cX8_focus s m ([.ref (ad o), .ref (ad a0), .int a1] : List Value).toArray (Cond.code yX8_focus cX8_focus 4 none :: wsA) D RX8 (CT cI cJ cZ cMic cSrc cSt cAI cAJ) := ⟨hx, hb, hts, hown, hK⟩
  have hl := lv_entry ([.ref (ad o), .ref (ad a0), .int a1]) (n := 4) (Nat.le_of_ble_eq_true rfl)
  rw [lg_entry_eq]
  generalize (lg_sl ([.ref (ad o), .ref (ad a0), .int a1]) ++ List.replicate (4 - (lg_sl ([.ref (ad o), .ref (ad a0), .int a1])).length) Slot.unset).toArray = ls at hl ⊢
  have hl : lv_has ls 4 [(0, .ref (ad o)), (1, .ref (ad a0)), (2, .int a1)] := hl
  have hgl := GL.rf T
  have had : ∀ n, n < T.1 → ad n = ad n := fun _ _ => rfl
  have hT1 := s_X8_focus h
  have hcs := cs_ok hgl hT1
  refine w_cast (Nat.sub_self T.1).symm (Nat.sub_self (sg T)).symm ?_
  have cp0 := cpr0 hrc
  unfold g_X8_focus at h
  refine lv_aload_n hx hb dX8_focus_0 rfl (lv_at hl 0 rfl) ?_
  obtain ⟨g2, h⟩ := oif_some h
  obtain ⟨n3, en3, h⟩ := obind_some h
  have h_n3 : n3 < T.1 := by rw [← cp0.1]; exact cp0.2.2 _ _ _ en3
  refine c_get E G o 11 (v := .ref (ad n3)) (oO_k g2).1 (cc_o8 (oO_k g2).2) rfl (fun w h => .tail _ (iA_16 h)) (by decide) (.tail _ qA_52) rfl (by rw [en3]; rfl) dX8_focus_1 ?_
  clear en3
  obtain ⟨g4, h⟩ := oif_some h
  obtain ⟨T5, eT5, h⟩ := obind_some h
  refine q_cvv (As := []) (rest := []) E G hA hX hN hml (u_X10_narrow l hst D cI cJ cZ cMic cSrc cSt cAI cAJ ad T n3 eT5) (cwV 0 hts (gaV qA_76 qA_25 qA_26 qA_6 qA_27) rfl rfl rfl (by decide +kernel) ⟨Nat.le_of_ble_eq_true rfl, Nat.le_of_ble_eq_true rfl⟩) (oO_k g4).1 (cc_o10 (oO_k g4).2) rfl rfl hl.1 rfl (lv_room (Nat.le_of_ble_eq_true rfl)) dX8_focus_4 hcs (fun T6 H locs hq G => ?_)
  rw [hq] at G
  clear hq
  have cp1 := cpr_sp cp0 (s_X10_narrow eT5)
  refine lv_aload_n hx hb dX8_focus_7 rfl (lv_at hl 0 rfl) ?_
  obtain ⟨g7, h⟩ := oif_some h
  obtain ⟨n8, en8, h⟩ := obind_some h
  have h_n8 : n8 < T.1 := by rw [← cp1.1]; exact cp1.2.2 _ _ _ en8
  refine c_get E G o 11 (v := .ref (ad n8)) (oO_k g7).1 (cc_o8 (oO_k g7).2) rfl (fun w h => .tail _ (iA_16 h)) (by decide) (.tail _ qA_52) rfl (by rw [en8]; rfl) dX8_focus_8 ?_
  clear en8
  refine lv_aload_n hx hb dX8_focus_11 rfl (lv_at hl 0 rfl) ?_
  obtain ⟨g9, h⟩ := oif_some h
  obtain ⟨n10, en10, h⟩ := obind_some h
  have h_n10 : n10 < T.1 := by rw [← cp1.1]; exact cp1.2.2 _ _ _ en10
  refine c_get E G o 10 (v := .ref (ad n10)) (oO_k g9).1 (cc_o8 (oO_k g9).2) rfl (fun w h => .tail _ (iA_16 h)) (by decide) (.tail _ qA_73) rfl (by rw [en10]; rfl) dX8_focus_12 ?_
  clear en10
  obtain ⟨g11, h⟩ := oif_some h
  refine c_get E G n10 2 (oO_k g11).1 (cc_o10 (oO_k g11).2) rfl (fun w h => .tail _ (iA_12 h)) (by decide) (.tail _ qA_74) rfl rfl dX8_focus_15 ?_
  refine lv_topi (fun v12 ev12 => ?_)
  have h := elet_at ev12 h
  clear ev12
  obtain ⟨g13, h⟩ := oif_some h
  obtain ⟨T14, eT14, h⟩ := obind_some h
  have hg2 := s_X10_widenTo eT14
  have hrc2 := hg2.2.2 cp1.2.2
  have hT2 := s_X8_focus_b21 _ _ _ _ h
  refine q_avv (As := [.int v12]) (rest := []) E G hA hX hN hml (a_X10_widenTo l hst D cI cJ cZ cMic cSrc cSt cAI cAJ ad T5 n8 v12 eT14 cp1.2.2 (by rw [cp1.1]; exact h_n8)) (cwV 1 hts (gaV qA_77 qA_78 qA_79 qA_6 qA_80) rfl rfl rfl (by decide +kernel) ⟨Nat.le_of_ble_eq_true rfl, Nat.le_of_ble_eq_true rfl⟩) (oO_k g13).1 (cc_o10 (oO_k g13).2) rfl rfl hl.1 rfl (lv_room (Nat.le_of_ble_eq_true rfl)) dX8_focus_18 (cs_av hgl cp1 hg2 hT2) (fun ad2 H locs hga G => ?_)
  refine w_cast (c2 := T14.1 - T.1) (s2 := sg T14 - sg T) (cs_f1 hgl cp1 hg2) (cs_f2 hgl cp1 hg2) ?_
  have hl := lv_sub hl [0, 1, 2] rfl
  rw [show ad o = ad2 o from (hga o (by rw [cp1.1]; exact h_o)).symm] at hl
  rw [show ad a0 = ad2 a0 from (hga a0 (by rw [cp1.1]; exact h_a0)).symm] at hl
  exact a_X8_focus_b21 E hA hX hN hml hst (fun ad H locs ls had G => W.vret hx hb hr (fun t ht hW => ⟨⟨(T1, ad), rfl, ⟨rfl, had⟩, ⟨by rw [ht]; exact G.1, va_K.moved hW.alike hK, G.2.1⟩⟩, G.2.2.F ht⟩) G.2.2.2.2 dX8_focus_74) _ _ _ _ _ _ _ _ h (GL.tr (gl_cpr hgl cp1) hg2) hrc2 (fun n hn => (hga n (by rw [cp1.1]; exact Nat.lt_of_lt_of_le hn hgl.1)).trans (had n hn)) (Nat.lt_of_lt_of_le (by rw [cp1.1]; exact h_o) hg2.1) (Nat.lt_of_lt_of_le (by rw [cp1.1]; exact h_a0) hg2.1) G hl
end
section
/-! 11kc.cd2.lean.txt -/
def g_X10_addProduct_b138  (T : AT)  : Option (AT) := some T
def g_X10_addProduct_b133  (T : AT) (l0 : Nat) (l1 : Int32) : Option (AT) := oif (oO T l0 10 = true) <| obind (g_X10_settle T l0 l1) fun T3 => g_X10_addProduct_b138 T3
def g_X10_addProduct_b113 (k17 : AT → Nat → Int32 → Nat → Int32 → Nat → Int32 → Int32 → Option (AT)) (T : AT) (l0 : Nat) (l1 : Int32) (l2 : Nat) (l3 : Int32) (l4 : Nat) (l5 : Int32) (l6 : Int32) (l7 : Int64) : Option (AT) := oif (oO T l0 10 = true) <| obind (T.2.2.2.2 l0 1) fun n3 => oif (aA T n3 107 = true) <| oif (inb l6 (T.2.1 n3).2 = true) <| obind (T.2.2.2.2 n3 l6.toNatClampNeg) fun n6 => oif (aA T n6 101 = true) <| oif (inb l1 (T.2.1 n6).2 = true) <| elet (T.2.2.2.1 n6 l1.toNatClampNeg) fun v9 => elet (v9 + l7) fun v10 => oif (aA T n6 101 = true) <| oif (inb l1 (T.2.1 n6).2 = true) <| elet (uJ T n6 l1.toNatClampNeg v10) fun T13 => elet (l6 + Int32.ofInt (1)) fun v14 => k17 T13 l0 l1 l2 l3 l4 l5 v14
def g_X10_addProduct_b62 (k17 : AT → Nat → Int32 → Nat → Int32 → Nat → Int32 → Int32 → Option (AT)) : Nat → AT → Nat → Int32 → Nat → Int32 → Nat → Int32 → Int32 → Int64 → Int32 → Option (AT)
  | 0, _, _, _, _, _, _, _, _, _, _ => none
  | n + 1, T, l0, l1, l2, l3, l4, l5, l6, l7, l9 => if l6 < l9 then (g_X10_addProduct_b113 k17 T l0 l1 l2 l3 l4 l5 l6 l7) else (oif (oO T l2 10 = true) <| elet (T.2.2.1 l2 2) fun v4 => if v4 ≤ l9 then (g_X10_addProduct_b113 k17 T l0 l1 l2 l3 l4 l5 l6 l7) else (oif (oO T l2 10 = true) <| obind (T.2.2.2.2 l2 1) fun n7 => oif (aA T n7 107 = true) <| oif (inb l9 (T.2.1 n7).2 = true) <| obind (T.2.2.2.2 n7 l9.toNatClampNeg) fun n10 => oif (aA T n10 101 = true) <| oif (inb l3 (T.2.1 n10).2 = true) <| elet (T.2.2.2.1 n10 l3.toNatClampNeg) fun v13 => oif (oO T l4 10 = true) <| obind (T.2.2.2.2 l4 1) fun n15 => elet (l6 - l9) fun v16 => oif (aA T n15 107 = true) <| oif (inb v16 (T.2.1 n15).2 = true) <| obind (T.2.2.2.2 n15 v16.toNatClampNeg) fun n19 => oif (aA T n19 101 = true) <| oif (inb l5 (T.2.1 n19).2 = true) <| elet (T.2.2.2.1 n19 l5.toNatClampNeg) fun v22 => elet (v13 * v22) fun v23 => elet (l7 + v23) fun v24 => elet (l9 + Int32.ofInt (1)) fun v25 => g_X10_addProduct_b62 k17 n T l0 l1 l2 l3 l4 l5 l6 v24 v25))
def g_X10_addProduct_b17  : Nat → AT → Nat → Int32 → Nat → Int32 → Nat → Int32 → Int32 → Option (AT)
  | 0, _, _, _, _, _, _, _, _ => none
  | n + 1, T, l0, l1, l2, l3, l4, l5, l6 => oif (oO T l0 10 = true) <| elet (T.2.2.1 l0 2) fun v3 => if v3 ≤ l6 then (g_X10_addProduct_b133 T l0 l1) else (oif (oO T l2 10 = true) <| elet (T.2.2.1 l2 2) fun v6 => oif (oO T l4 10 = true) <| elet (T.2.2.1 l4 2) fun v8 => elet (v6 + v8) fun v9 => elet (v9 - 1) fun v10 => if v10 ≤ l6 then (g_X10_addProduct_b133 T l0 l1) else (oif (oO T l4 10 = true) <| elet (T.2.2.1 l4 2) fun v13 => elet (l6 - v13) fun v14 => elet (v14 + 1) fun v15 => elet (if v15 < 0 then 0 else v15) fun v16 => g_X10_addProduct_b62 (g_X10_addProduct_b17 n) 16384 T l0 l1 l2 l3 l4 l5 l6 (0 : Int64) v16))
def g_X10_addProduct_b14  (T : AT) (l0 : Nat) (l1 : Int32) (l2 : Nat) (l3 : Int32) (l4 : Nat) (l5 : Int32) : Option (AT) := g_X10_addProduct_b17 16384 T l0 l1 l2 l3 l4 l5 0
def g_X10_addProduct (T : AT) (o : Nat) (a0 : Int32) (a1 : Nat) (a2 : Int32) (a3 : Nat) (a4 : Int32) : Option (AT) := oif (oO T a1 10 = true) <| elet (T.2.2.1 a1 2) fun v3 => oif (oO T a3 10 = true) <| elet (T.2.2.1 a3 2) fun v5 => elet (v3 + v5) fun v6 => oif (oO T o 10 = true) <| obind (g_X10_widenTo T o v6) fun T8 => g_X10_addProduct_b14 T8 o a0 a1 a2 a3 a4
set_option maxHeartbeats 4000000 in
set_option maxRecDepth 100000 in
theorem s_X10_addProduct_b138 {T1 : AT} : ∀ (T : AT), g_X10_addProduct_b138 T = some T1 → GL T T1 := by
  intro T h
  have p0 := GL.rf T
  unfold g_X10_addProduct_b138 at h
  rw [← osome1 h]
  exact p0
set_option maxHeartbeats 4000000 in
set_option maxRecDepth 100000 in
theorem s_X10_addProduct_b133 {T1 : AT} : ∀ (T : AT) (l0 : Nat) (l1 : Int32), g_X10_addProduct_b133 T l0 l1 = some T1 → GL T T1 := by
  intro T l0 l1 h
  have p0 := GL.rf T
  unfold g_X10_addProduct_b133 at h
  obtain ⟨g2, h⟩ := oif_some h
  obtain ⟨T3, eT3, h⟩ := obind_some h
  have p1 : GL T T3 := GL.tr p0 (s_X10_settle eT3)
  exact GL.tr p1 (s_X10_addProduct_b138 _ h)
set_option maxHeartbeats 4000000 in
set_option maxRecDepth 100000 in
theorem s_X10_addProduct_b113 {T1 : AT} {k17 : AT → Nat → Int32 → Nat → Int32 → Nat → Int32 → Int32 → Option (AT)} (hk17 : ∀ (T : AT) (l0 : Nat) (l1 : Int32) (l2 : Nat) (l3 : Int32) (l4 : Nat) (l5 : Int32) (l6 : Int32), k17 T l0 l1 l2 l3 l4 l5 l6 = some T1 → GL T T1) : ∀ (T : AT) (l0 : Nat) (l1 : Int32) (l2 : Nat) (l3 : Int32) (l4 : Nat) (l5 : Int32) (l6 : Int32) (l7 : Int64), g_X10_addProduct_b113 k17 T l0 l1 l2 l3 l4 l5 l6 l7 = some T1 → GL T T1 := by
  intro T l0 l1 l2 l3 l4 l5 l6 l7 h
  have p0 := GL.rf T
  unfold g_X10_addProduct_b113 at h
  obtain ⟨g2, h⟩ := oif_some h
  obtain ⟨n3, en3, h⟩ := obind_some h
  obtain ⟨g4, h⟩ := oif_some h
  obtain ⟨g5, h⟩ := oif_some h
  obtain ⟨n6, en6, h⟩ := obind_some h
  obtain ⟨g7, h⟩ := oif_some h
  obtain ⟨g8, h⟩ := oif_some h
  obtain ⟨v9, -, h⟩ := elet_some h
  obtain ⟨v10, -, h⟩ := elet_some h
  obtain ⟨g11, h⟩ := oif_some h
  obtain ⟨g12, h⟩ := oif_some h
  obtain ⟨T13, eT13, h⟩ := elet_some h
  have p1 : GL T T13 := GL.tr p0 (by rw [eT13]; exact gl_sp sp_uJ)
  obtain ⟨v14, ev14, h⟩ := elet_some h
  exact GL.tr p1 (hk17 _ _ _ _ _ _ _ _ h)
set_option maxHeartbeats 4000000 in
set_option maxRecDepth 100000 in
theorem s_X10_addProduct_b62 {T1 : AT} {k17 : AT → Nat → Int32 → Nat → Int32 → Nat → Int32 → Int32 → Option (AT)} (hk17 : ∀ (T : AT) (l0 : Nat) (l1 : Int32) (l2 : Nat) (l3 : Int32) (l4 : Nat) (l5 : Int32) (l6 : Int32), k17 T l0 l1 l2 l3 l4 l5 l6 = some T1 → GL T T1) : ∀ n : Nat, ∀ (T : AT) (l0 : Nat) (l1 : Int32) (l2 : Nat) (l3 : Int32) (l4 : Nat) (l5 : Int32) (l6 : Int32) (l7 : Int64) (l9 : Int32), g_X10_addProduct_b62 k17 n T l0 l1 l2 l3 l4 l5 l6 l7 l9 = some T1 → GL T T1 := by
  intro n
  induction n with
  | zero =>
    intro T l0 l1 l2 l3 l4 l5 l6 l7 l9 h
    have h : (none : Option (AT)) = some T1 := h
    cases h
  | succ n ih =>
    intro T l0 l1 l2 l3 l4 l5 l6 l7 l9 h
    have p0 := GL.rf T
    unfold g_X10_addProduct_b62 at h
    rcases oif_or h with ⟨c2, h⟩ | ⟨c2, h⟩
    · have h := h
      exact GL.tr p0 (s_X10_addProduct_b113 hk17 _ _ _ _ _ _ _ _ _ h)
    · have h := h
      obtain ⟨g3, h⟩ := oif_some h
      obtain ⟨v4, -, h⟩ := elet_some h
      rcases oif_or h with ⟨c5, h⟩ | ⟨c5, h⟩
      · have h := h
        exact GL.tr p0 (s_X10_addProduct_b113 hk17 _ _ _ _ _ _ _ _ _ h)
      · have h := h
        obtain ⟨g6, h⟩ := oif_some h
        obtain ⟨n7, en7, h⟩ := obind_some h
        obtain ⟨g8, h⟩ := oif_some h
        obtain ⟨g9, h⟩ := oif_some h
        obtain ⟨n10, en10, h⟩ := obind_some h
        obtain ⟨g11, h⟩ := oif_some h
        obtain ⟨g12, h⟩ := oif_some h
        obtain ⟨v13, -, h⟩ := elet_some h
        obtain ⟨g14, h⟩ := oif_some h
        obtain ⟨n15, en15, h⟩ := obind_some h
        obtain ⟨v16, -, h⟩ := elet_some h
        obtain ⟨g17, h⟩ := oif_some h
        obtain ⟨g18, h⟩ := oif_some h
        obtain ⟨n19, en19, h⟩ := obind_some h
        obtain ⟨g20, h⟩ := oif_some h
        obtain ⟨g21, h⟩ := oif_some h
        obtain ⟨v22, -, h⟩ := elet_some h
        obtain ⟨v23, -, h⟩ := elet_some h
        obtain ⟨v24, -, h⟩ := elet_some h
        obtain ⟨v25, ev25, h⟩ := elet_some h
        exact GL.tr p0 (ih _ _ _ _ _ _ _ _ _ _ h)
set_option maxHeartbeats 4000000 in
set_option maxRecDepth 100000 in
theorem s_X10_addProduct_b17 {T1 : AT} : ∀ n : Nat, ∀ (T : AT) (l0 : Nat) (l1 : Int32) (l2 : Nat) (l3 : Int32) (l4 : Nat) (l5 : Int32) (l6 : Int32), g_X10_addProduct_b17 n T l0 l1 l2 l3 l4 l5 l6 = some T1 → GL T T1 := by
  intro n
  induction n with
  | zero =>
    intro T l0 l1 l2 l3 l4 l5 l6 h
    have h : (none : Option (AT)) = some T1 := h
    cases h
  | succ n ih =>
    intro T l0 l1 l2 l3 l4 l5 l6 h
    have p0 := GL.rf T
    unfold g_X10_addProduct_b17 at h
    obtain ⟨g2, h⟩ := oif_some h
    obtain ⟨v3, -, h⟩ := elet_some h
    rcases oif_or h with ⟨c4, h⟩ | ⟨c4, h⟩
    · have h := h
      exact GL.tr p0 (s_X10_addProduct_b133 _ _ _ h)
    · have h := h
      obtain ⟨g5, h⟩ := oif_some h
      obtain ⟨v6, -, h⟩ := elet_some h
      obtain ⟨g7, h⟩ := oif_some h
      obtain ⟨v8, -, h⟩ := elet_some h
      obtain ⟨v9, -, h⟩ := elet_some h
      obtain ⟨v10, -, h⟩ := elet_some h
      rcases oif_or h with ⟨c11, h⟩ | ⟨c11, h⟩
      · have h := h
        exact GL.tr p0 (s_X10_addProduct_b133 _ _ _ h)
      · have h := h
        obtain ⟨g12, h⟩ := oif_some h
        obtain ⟨v13, -, h⟩ := elet_some h
        obtain ⟨v14, -, h⟩ := elet_some h
        obtain ⟨v15, -, h⟩ := elet_some h
        obtain ⟨v16, -, h⟩ := elet_some h
        exact GL.tr p0 (s_X10_addProduct_b62 ih _ _ _ _ _ _ _ _ _ _ _ h)
set_option maxHeartbeats 4000000 in
set_option maxRecDepth 100000 in
theorem s_X10_addProduct_b14 {T1 : AT} : ∀ (T : AT) (l0 : Nat) (l1 : Int32) (l2 : Nat) (l3 : Int32) (l4 : Nat) (l5 : Int32), g_X10_addProduct_b14 T l0 l1 l2 l3 l4 l5 = some T1 → GL T T1 := by
  intro T l0 l1 l2 l3 l4 l5 h
  have p0 := GL.rf T
  unfold g_X10_addProduct_b14 at h
  exact GL.tr p0 (s_X10_addProduct_b17 _ _ _ _ _ _ _ _ _ h)
set_option maxHeartbeats 4000000 in
set_option maxRecDepth 100000 in
theorem s_X10_addProduct {T : AT} {o : Nat} {a0 : Int32} {a1 : Nat} {a2 : Int32} {a3 : Nat} {a4 : Int32} {T1 : AT} (h : g_X10_addProduct T o a0 a1 a2 a3 a4 = some T1) : GL T T1 := by
  have p0 := GL.rf T
  unfold g_X10_addProduct at h
  obtain ⟨g2, h⟩ := oif_some h
  obtain ⟨v3, -, h⟩ := elet_some h
  obtain ⟨g4, h⟩ := oif_some h
  obtain ⟨v5, -, h⟩ := elet_some h
  obtain ⟨v6, -, h⟩ := elet_some h
  obtain ⟨g7, h⟩ := oif_some h
  obtain ⟨T8, eT8, h⟩ := obind_some h
  have p1 : GL T T8 := GL.tr p0 (s_X10_widenTo eT8)
  exact GL.tr p1 (s_X10_addProduct_b14 _ _ _ _ _ _ _ h)
set_option maxHeartbeats 4000000 in
set_option maxRecDepth 100000 in
theorem a_X10_addProduct_b138 {p : Program} {l : Launch} {e : Env} {s : State} {m : MethodId} {args : Array Value} {below : List Frame} {meth : Method} {c : Code} {Q : State → Prop} {D : va_G} {A : Nat → Prop} {cI cJ cZ cMic cSrc cSt cAI cAJ : ClassId} {ad0 : Nat → Nat} {T0 : AT} {T1 : AT} (E : cE p c cX10_addProduct s m args (Cond.code yX10_addProduct cX10_addProduct 10 none :: wsA) D RX10 (CT cI cJ cZ cMic cSrc cSt cAI cAJ)) (hA : ∀ q : Nat, s.heap.size ≤ q → A q) (hX : xT A s) (hN : nX s) (hml : c.maxLocals = 10) (hst : l.stackTraces = false) (kr138 : ∀ (ad : Nat → Nat) (H : Heap) (locs : List Loc) (ls : Array Slot), (∀ n, n < T0.1 → ad n = ad0 n) → gC cI cJ cZ cMic cSrc cSt cAI cAJ D ad A s.heap H locs T1 → W p l e { frames := 3, cells := T1.1 - T0.1, slots := sg T1 - sg T0, locals := 49 } s m args below meth c H locs (T1.1 - T0.1) (sg T1 - sg T0) Q (F0 m 138 ls [])) : ∀ (T : AT) (ad : Nat → Nat) (H : Heap) (locs : List Loc) (ls : Array Slot), g_X10_addProduct_b138 T = some T1 → GL T0 T → RC T → (∀ n, n < T0.1 → ad n = ad0 n) → gC cI cJ cZ cMic cSrc cSt cAI cAJ D ad A s.heap H locs T → lv_has ls 10 [] → W p l e { frames := 3, cells := T1.1 - T0.1, slots := sg T1 - sg T0, locals := 49 } s m args below meth c H locs (T.1 - T0.1) (sg T - sg T0) Q (F0 m 138 ls []) := by
  have hx := E.1
  have hb := E.2.1
  have hts := E.2.2.1
  have hown := E.2.2.2.1
  have hK := E.2.2.2.2
  intro T ad H locs ls h hgl hrc had G hl
  have hT1 := s_X10_addProduct_b138 _ h
  have hcs := cs_ok hgl hT1
  have cp0 := cpr0 hrc
  unfold g_X10_addProduct_b138 at h
  rw [osome1 h] at G
  refine w_cast (c2 := T1.1 - T0.1) (s2 := sg T1 - sg T0) (by rw [← osome1 h, cp0.1] <;> rfl) (by rw [← osome1 h, sg_cpr cp0] <;> rfl) ?_
  exact kr138 ad _ _ _ had G
set_option maxHeartbeats 4000000 in
set_option maxRecDepth 100000 in
theorem a_X10_addProduct_b133 {p : Program} {l : Launch} {e : Env} {s : State} {m : MethodId} {args : Array Value} {below : List Frame} {meth : Method} {c : Code} {Q : State → Prop} {D : va_G} {A : Nat → Prop} {cI cJ cZ cMic cSrc cSt cAI cAJ : ClassId} {ad0 : Nat → Nat} {T0 : AT} {T1 : AT} (E : cE p c cX10_addProduct s m args (Cond.code yX10_addProduct cX10_addProduct 10 none :: wsA) D RX10 (CT cI cJ cZ cMic cSrc cSt cAI cAJ)) (hA : ∀ q : Nat, s.heap.size ≤ q → A q) (hX : xT A s) (hN : nX s) (hml : c.maxLocals = 10) (hst : l.stackTraces = false) (kr138 : ∀ (ad : Nat → Nat) (H : Heap) (locs : List Loc) (ls : Array Slot), (∀ n, n < T0.1 → ad n = ad0 n) → gC cI cJ cZ cMic cSrc cSt cAI cAJ D ad A s.heap H locs T1 → W p l e { frames := 3, cells := T1.1 - T0.1, slots := sg T1 - sg T0, locals := 49 } s m args below meth c H locs (T1.1 - T0.1) (sg T1 - sg T0) Q (F0 m 138 ls [])) : ∀ (T : AT) (ad : Nat → Nat) (H : Heap) (locs : List Loc) (ls : Array Slot) (l0 : Nat) (l1 : Int32), g_X10_addProduct_b133 T l0 l1 = some T1 → GL T0 T → RC T → (∀ n, n < T0.1 → ad n = ad0 n) → l0 < T.1 → gC cI cJ cZ cMic cSrc cSt cAI cAJ D ad A s.heap H locs T → lv_has ls 10 [(0, .ref (ad l0)), (1, .int l1)] → W p l e { frames := 3, cells := T1.1 - T0.1, slots := sg T1 - sg T0, locals := 49 } s m args below meth c H locs (T.1 - T0.1) (sg T - sg T0) Q (F0 m 133 ls []) := by
  have hx := E.1
  have hb := E.2.1
  have hts := E.2.2.1
  have hown := E.2.2.2.1
  have hK := E.2.2.2.2
  intro T ad H locs ls l0 l1 h hgl hrc had h_l0 G hl
  have hT1 := s_X10_addProduct_b133 _ _ _ h
  have hcs := cs_ok hgl hT1
  have cp0 := cpr0 hrc
  unfold g_X10_addProduct_b133 at h
  refine lv_aload_n hx hb dX10_addProduct_133 rfl (lv_at hl 0 rfl) ?_
  refine lv_iload_n hx hb dX10_addProduct_134 rfl (lv_at hl 1 rfl) ?_
  obtain ⟨g2, h⟩ := oif_some h
  obtain ⟨T3, eT3, h⟩ := obind_some h
  have hg2 := s_X10_settle eT3
  have hrc2 := hg2.2.2 cp0.2.2
  have hT2 := s_X10_addProduct_b138 _ h
  refine q_avv (As := [.int l1]) (rest := []) E G hA hX hN hml (a_X10_settle l hst D cI cJ cZ cMic cSrc cSt cAI cAJ ad T l0 l1 eT3 cp0.2.2 (by rw [cp0.1]; exact h_l0)) (cwV 1 hts (gaV qA_103 qA_91 qA_92 qA_6 qA_93) rfl rfl rfl (by decide +kernel) ⟨Nat.le_of_ble_eq_true rfl, Nat.le_of_ble_eq_true rfl⟩) (oO_k g2).1 (cc_o10 (oO_k g2).2) rfl rfl hl.1 rfl (lv_room (Nat.le_of_ble_eq_true rfl)) dX10_addProduct_135 (cs_av hgl cp0 hg2 hT2) (fun ad2 H locs hga G => ?_)
  refine w_cast (c2 := T3.1 - T0.1) (s2 := sg T3 - sg T0) (cs_f1 hgl cp0 hg2) (cs_f2 hgl cp0 hg2) ?_
  have hl := lv_sub hl [] rfl
  exact a_X10_addProduct_b138 E hA hX hN hml hst kr138 _ _ _ _ _ h (GL.tr (gl_cpr hgl cp0) hg2) hrc2 (fun n hn => (hga n (by rw [cp0.1]; exact Nat.lt_of_lt_of_le hn hgl.1)).trans (had n hn)) G hl
set_option maxHeartbeats 4000000 in
set_option maxRecDepth 100000 in
theorem a_X10_addProduct_b113 {p : Program} {l : Launch} {e : Env} {s : State} {m : MethodId} {args : Array Value} {below : List Frame} {meth : Method} {c : Code} {Q : State → Prop} {D : va_G} {A : Nat → Prop} {cI cJ cZ cMic cSrc cSt cAI cAJ : ClassId} {ad0 : Nat → Nat} {T0 : AT} {T1 : AT} (E : cE p c cX10_addProduct s m args (Cond.code yX10_addProduct cX10_addProduct 10 none :: wsA) D RX10 (CT cI cJ cZ cMic cSrc cSt cAI cAJ)) (hA : ∀ q : Nat, s.heap.size ≤ q → A q) (hX : xT A s) (hN : nX s) (hml : c.maxLocals = 10) (hst : l.stackTraces = false) (kr138 : ∀ (ad : Nat → Nat) (H : Heap) (locs : List Loc) (ls : Array Slot), (∀ n, n < T0.1 → ad n = ad0 n) → gC cI cJ cZ cMic cSrc cSt cAI cAJ D ad A s.heap H locs T1 → W p l e { frames := 3, cells := T1.1 - T0.1, slots := sg T1 - sg T0, locals := 49 } s m args below meth c H locs (T1.1 - T0.1) (sg T1 - sg T0) Q (F0 m 138 ls [])) {k17 : AT → Nat → Int32 → Nat → Int32 → Nat → Int32 → Int32 → Option (AT)} (hs17 : ∀ (T : AT) (l0 : Nat) (l1 : Int32) (l2 : Nat) (l3 : Int32) (l4 : Nat) (l5 : Int32) (l6 : Int32), k17 T l0 l1 l2 l3 l4 l5 l6 = some T1 → GL T T1) (hk17 : ∀ (T : AT) (ad : Nat → Nat) (H : Heap) (locs : List Loc) (ls : Array Slot) (l0 : Nat) (l1 : Int32) (l2 : Nat) (l3 : Int32) (l4 : Nat) (l5 : Int32) (l6 : Int32), k17 T l0 l1 l2 l3 l4 l5 l6 = some T1 → GL T0 T → RC T → (∀ n, n < T0.1 → ad n = ad0 n) → l0 < T.1 → l2 < T.1 → l4 < T.1 → gC cI cJ cZ cMic cSrc cSt cAI cAJ D ad A s.heap H locs T → lv_has ls 10 [(0, .ref (ad l0)), (1, .int l1), (2, .ref (ad l2)), (3, .int l3), (4, .ref (ad l4)), (5, .int l5), (6, .int l6)] → W p l e { frames := 3, cells := T1.1 - T0.1, slots := sg T1 - sg T0, locals := 49 } s m args below meth c H locs (T.1 - T0.1) (sg T - sg T0) Q (F0 m 17 ls [])) : ∀ (T : AT) (ad : Nat → Nat) (H : Heap) (locs : List Loc) (ls : Array Slot) (l0 : Nat) (l1 : Int32) (l2 : Nat) (l3 : Int32) (l4 : Nat) (l5 : Int32) (l6 : Int32) (l7 : Int64), g_X10_addProduct_b113 k17 T l0 l1 l2 l3 l4 l5 l6 l7 = some T1 → GL T0 T → RC T → (∀ n, n < T0.1 → ad n = ad0 n) → l0 < T.1 → l2 < T.1 → l4 < T.1 → gC cI cJ cZ cMic cSrc cSt cAI cAJ D ad A s.heap H locs T → lv_has ls 10 [(0, .ref (ad l0)), (1, .int l1), (2, .ref (ad l2)), (3, .int l3), (4, .ref (ad l4)), (5, .int l5), (6, .int l6), (7, .long l7)] → W p l e { frames := 3, cells := T1.1 - T0.1, slots := sg T1 - sg T0, locals := 49 } s m args below meth c H locs (T.1 - T0.1) (sg T - sg T0) Q (F0 m 113 ls []) := by
  have hx := E.1
  have hb := E.2.1
  have hts := E.2.2.1
  have hown := E.2.2.2.1
  have hK := E.2.2.2.2
  intro T ad H locs ls l0 l1 l2 l3 l4 l5 l6 l7 h hgl hrc had h_l0 h_l2 h_l4 G hl
  have hT1 := s_X10_addProduct_b113 hs17 _ _ _ _ _ _ _ _ _ h
  have hcs := cs_ok hgl hT1
  have cp0 := cpr0 hrc
  unfold g_X10_addProduct_b113 at h
  refine lv_aload_n hx hb dX10_addProduct_113 rfl (lv_at hl 0 rfl) ?_
  obtain ⟨g2, h⟩ := oif_some h
  obtain ⟨n3, en3, h⟩ := obind_some h
  have h_n3 : n3 < T.1 := by rw [← cp0.1]; exact cp0.2.2 _ _ _ en3
  refine c_get E G l0 1 (v := .ref (ad n3)) (oO_k g2).1 (cc_o10 (oO_k g2).2) rfl (fun w h => .tail _ (iA_12 h)) (by decide) (.tail _ qA_14) rfl (by rw [en3]; rfl) dX10_addProduct_114 ?_
  clear en3
  refine lv_iload hx hb dX10_addProduct_117 (lv_at hl 6 rfl) ?_
  obtain ⟨g4, h⟩ := oif_some h
  obtain ⟨g5, h⟩ := oif_some h
  obtain ⟨n6, en6, h⟩ := obind_some h
  have h_n6 : n6 < T.1 := by rw [← cp0.1]; exact cp0.2.2 _ _ _ en6
  refine c_alda E G n3 7 (k := l6.toNatClampNeg) (v := .ref (ad n6)) (aA_k g4).1 (cc_a107 (aA_k g4).2.1) rfl (inb_k g5).1 (inb_k g5).2 (aA_k g4).2.2 (by show va_rf ((T.2.2.2.2 n3 l6.toNatClampNeg).map ad) = _; rw [en6]; rfl) dX10_addProduct_119 ?_
  clear en6
  refine lv_iload_n hx hb dX10_addProduct_120 rfl (lv_at hl 1 rfl) ?_
  refine lv_dup2_11 hx hb dX10_addProduct_121 rfl rfl ?_
  obtain ⟨g7, h⟩ := oif_some h
  obtain ⟨g8, h⟩ := oif_some h
  refine c_lald E G n6 1 (k := l1.toNatClampNeg) (aA_k g7).1 (cc_a101 (aA_k g7).2.1) rfl (inb_k g8).1 (inb_k g8).2 (aA_k g7).2.2 dX10_addProduct_122 ?_
  refine lv_topl (fun v9 ev9 => ?_)
  have h := elet_at ev9 h
  clear ev9
  refine lv_lload hx hb dX10_addProduct_123 (lv_at hl 7 rfl) ?_
  refine lv_ladd hx hb dX10_addProduct_125 ?_
  refine lv_topl (fun v10 ev10 => ?_)
  have h := elet_at ev10 h
  clear ev10
  obtain ⟨g11, h⟩ := oif_some h
  obtain ⟨g12, h⟩ := oif_some h
  refine c_last E G n6 1 (k := l1.toNatClampNeg) (v := v10) (aA_k g11).1 (cc_a101 (aA_k g11).2.1) rfl (inb_k g12).1 (inb_k g12).2 (aA_k g11).2.2 dX10_addProduct_126 (fun H locs G => ?_)
  have G := gC_up_j (f := vp_updL (T.2.2.2.1 n6) l1.toNatClampNeg v10) (ccv_101 (aA_k g11).2.1) G
  obtain ⟨T13, eT13, h⟩ := elet_some h
  have G : gC cI cJ cZ cMic cSrc cSt cAI cAJ D ad A s.heap H locs T13 := by rw [eT13]; exact G
  have cp1 := show CPR T T13 from by rw [eT13]; exact cpr_sp cp0 sp_uJ
  clear eT13
  obtain ⟨v14, ev14, h⟩ := elet_some h
  refine lv_iinc (v := v14) (lv' := [(6, .int v14), (0, .ref (ad l0)), (1, .int l1), (2, .ref (ad l2)), (3, .int l3), (4, .ref (ad l4)), (5, .int l5), (7, .long l7)]) hx hb dX10_addProduct_127 hl (k := 6) rfl ev14.symm (by decide) rfl (fun ls hl => ?_)
  refine lv_goto (tgt := 17) hx hb dX10_addProduct_130 (by decide) ?_
  have hl := lv_sub hl [1, 2, 3, 4, 5, 6, 0] rfl
  refine w_cast (c2 := T13.1 - T0.1) (s2 := sg T13 - sg T0) (by rw [cp1.1] <;> rfl) (by rw [sg_cpr cp1] <;> rfl) ?_
  exact hk17 _ _ _ _ _ _ _ _ _ _ _ _ h (gl_cpr hgl cp1) cp1.2.2 had (by rw [cp1.1]; exact h_l0) (by rw [cp1.1]; exact h_l2) (by rw [cp1.1]; exact h_l4) G hl
set_option maxHeartbeats 4000000 in
set_option maxRecDepth 100000 in
theorem a_X10_addProduct_b62 {p : Program} {l : Launch} {e : Env} {s : State} {m : MethodId} {args : Array Value} {below : List Frame} {meth : Method} {c : Code} {Q : State → Prop} {D : va_G} {A : Nat → Prop} {cI cJ cZ cMic cSrc cSt cAI cAJ : ClassId} {ad0 : Nat → Nat} {T0 : AT} {T1 : AT} (E : cE p c cX10_addProduct s m args (Cond.code yX10_addProduct cX10_addProduct 10 none :: wsA) D RX10 (CT cI cJ cZ cMic cSrc cSt cAI cAJ)) (hA : ∀ q : Nat, s.heap.size ≤ q → A q) (hX : xT A s) (hN : nX s) (hml : c.maxLocals = 10) (hst : l.stackTraces = false) (kr138 : ∀ (ad : Nat → Nat) (H : Heap) (locs : List Loc) (ls : Array Slot), (∀ n, n < T0.1 → ad n = ad0 n) → gC cI cJ cZ cMic cSrc cSt cAI cAJ D ad A s.heap H locs T1 → W p l e { frames := 3, cells := T1.1 - T0.1, slots := sg T1 - sg T0, locals := 49 } s m args below meth c H locs (T1.1 - T0.1) (sg T1 - sg T0) Q (F0 m 138 ls [])) {k17 : AT → Nat → Int32 → Nat → Int32 → Nat → Int32 → Int32 → Option (AT)} (hs17 : ∀ (T : AT) (l0 : Nat) (l1 : Int32) (l2 : Nat) (l3 : Int32) (l4 : Nat) (l5 : Int32) (l6 : Int32), k17 T l0 l1 l2 l3 l4 l5 l6 = some T1 → GL T T1) (hk17 : ∀ (T : AT) (ad : Nat → Nat) (H : Heap) (locs : List Loc) (ls : Array Slot) (l0 : Nat) (l1 : Int32) (l2 : Nat) (l3 : Int32) (l4 : Nat) (l5 : Int32) (l6 : Int32), k17 T l0 l1 l2 l3 l4 l5 l6 = some T1 → GL T0 T → RC T → (∀ n, n < T0.1 → ad n = ad0 n) → l0 < T.1 → l2 < T.1 → l4 < T.1 → gC cI cJ cZ cMic cSrc cSt cAI cAJ D ad A s.heap H locs T → lv_has ls 10 [(0, .ref (ad l0)), (1, .int l1), (2, .ref (ad l2)), (3, .int l3), (4, .ref (ad l4)), (5, .int l5), (6, .int l6)] → W p l e { frames := 3, cells := T1.1 - T0.1, slots := sg T1 - sg T0, locals := 49 } s m args below meth c H locs (T.1 - T0.1) (sg T - sg T0) Q (F0 m 17 ls [])) : ∀ n : Nat, ∀ (T : AT) (ad : Nat → Nat) (H : Heap) (locs : List Loc) (ls : Array Slot) (l0 : Nat) (l1 : Int32) (l2 : Nat) (l3 : Int32) (l4 : Nat) (l5 : Int32) (l6 : Int32) (l7 : Int64) (l9 : Int32), g_X10_addProduct_b62 k17 n T l0 l1 l2 l3 l4 l5 l6 l7 l9 = some T1 → GL T0 T → RC T → (∀ n, n < T0.1 → ad n = ad0 n) → l0 < T.1 → l2 < T.1 → l4 < T.1 → gC cI cJ cZ cMic cSrc cSt cAI cAJ D ad A s.heap H locs T → lv_has ls 10 [(0, .ref (ad l0)), (1, .int l1), (2, .ref (ad l2)), (3, .int l3), (4, .ref (ad l4)), (5, .int l5), (6, .int l6), (7, .long l7), (9, .int l9)] → W p l e { frames := 3, cells := T1.1 - T0.1, slots := sg T1 - sg T0, locals := 49 } s m args below meth c H locs (T.1 - T0.1) (sg T - sg T0) Q (F0 m 62 ls []) := by
  have hx := E.1
  have hb := E.2.1
  have hts := E.2.2.1
  have hown := E.2.2.2.1
  have hK := E.2.2.2.2
  intro n
  induction n with
  | zero =>
    intro T ad H locs ls l0 l1 l2 l3 l4 l5 l6 l7 l9 h
    have h : (none : Option (AT)) = some T1 := h
    cases h
  | succ n ih =>
    intro T ad H locs ls l0 l1 l2 l3 l4 l5 l6 l7 l9 h hgl hrc had h_l0 h_l2 h_l4 G hl
    have hT1 := s_X10_addProduct_b62 hs17 _ _ _ _ _ _ _ _ _ _ _ h
    have hcs := cs_ok hgl hT1
    have cp0 := cpr0 hrc
    unfold g_X10_addProduct_b62 at h
    refine lv_iload hx hb dX10_addProduct_62 (lv_at hl 8 rfl) ?_
    refine lv_iload hx hb dX10_addProduct_64 (lv_at hl 6 rfl) ?_
    refine lv_icmp_gt (tgt := 113) hx hb dX10_addProduct_66 (by decide) (fun c2 => ?_) (fun c2 => ?_)
    · have h := oif_pos c2 h
      have hl := lv_sub hl [0, 1, 2, 3, 4, 5, 6, 7] rfl
      refine w_cast (c2 := T.1 - T0.1) (s2 := sg T - sg T0) (by rw [cp0.1] <;> rfl) (by rw [sg_cpr cp0] <;> rfl) ?_
      exact a_X10_addProduct_b113 E hA hX hN hml hst kr138 hs17 hk17 _ _ _ _ _ _ _ _ _ _ _ _ _ h (gl_cpr hgl cp0) cp0.2.2 had (by rw [cp0.1]; exact h_l0) (by rw [cp0.1]; exact h_l2) (by rw [cp0.1]; exact h_l4) G hl
    · have h := oif_neg c2 h
      refine lv_iload hx hb dX10_addProduct_69 (lv_at hl 8 rfl) ?_
      refine lv_aload_n hx hb dX10_addProduct_71 rfl (lv_at hl 2 rfl) ?_
      obtain ⟨g3, h⟩ := oif_some h
      refine c_get E G l2 2 (oO_k g3).1 (cc_o10 (oO_k g3).2) rfl (fun w h => .tail _ (iA_12 h)) (by decide) (.tail _ qA_15) rfl rfl dX10_addProduct_72 ?_
      refine lv_topi (fun v4 ev4 => ?_)
      have h := elet_at ev4 h
      clear ev4
      refine lv_icmp_ge (tgt := 113) hx hb dX10_addProduct_75 (by decide) (fun c5 => ?_) (fun c5 => ?_)
      · have h := oif_pos c5 h
        have hl := lv_sub hl [0, 1, 2, 3, 4, 5, 6, 7] rfl
        refine w_cast (c2 := T.1 - T0.1) (s2 := sg T - sg T0) (by rw [cp0.1] <;> rfl) (by rw [sg_cpr cp0] <;> rfl) ?_
        exact a_X10_addProduct_b113 E hA hX hN hml hst kr138 hs17 hk17 _ _ _ _ _ _ _ _ _ _ _ _ _ h (gl_cpr hgl cp0) cp0.2.2 had (by rw [cp0.1]; exact h_l0) (by rw [cp0.1]; exact h_l2) (by rw [cp0.1]; exact h_l4) G hl
      · have h := oif_neg c5 h
        refine lv_lload hx hb dX10_addProduct_78 (lv_at hl 7 rfl) ?_
        refine lv_aload_n hx hb dX10_addProduct_80 rfl (lv_at hl 2 rfl) ?_
        obtain ⟨g6, h⟩ := oif_some h
        obtain ⟨n7, en7, h⟩ := obind_some h
        have h_n7 : n7 < T.1 := by rw [← cp0.1]; exact cp0.2.2 _ _ _ en7
        refine c_get E G l2 1 (v := .ref (ad n7)) (oO_k g6).1 (cc_o10 (oO_k g6).2) rfl (fun w h => .tail _ (iA_12 h)) (by decide) (.tail _ qA_14) rfl (by rw [en7]; rfl) dX10_addProduct_81 ?_
        clear en7
        refine lv_iload hx hb dX10_addProduct_84 (lv_at hl 8 rfl) ?_
        obtain ⟨g8, h⟩ := oif_some h
        obtain ⟨g9, h⟩ := oif_some h
        obtain ⟨n10, en10, h⟩ := obind_some h
        have h_n10 : n10 < T.1 := by rw [← cp0.1]; exact cp0.2.2 _ _ _ en10
        refine c_alda E G n7 7 (k := l9.toNatClampNeg) (v := .ref (ad n10)) (aA_k g8).1 (cc_a107 (aA_k g8).2.1) rfl (inb_k g9).1 (inb_k g9).2 (aA_k g8).2.2 (by show va_rf ((T.2.2.2.2 n7 l9.toNatClampNeg).map ad) = _; rw [en10]; rfl) dX10_addProduct_86 ?_
        clear en10
        refine lv_iload_n hx hb dX10_addProduct_87 rfl (lv_at hl 3 rfl) ?_
        obtain ⟨g11, h⟩ := oif_some h
        obtain ⟨g12, h⟩ := oif_some h
        refine c_lald E G n10 1 (k := l3.toNatClampNeg) (aA_k g11).1 (cc_a101 (aA_k g11).2.1) rfl (inb_k g12).1 (inb_k g12).2 (aA_k g11).2.2 dX10_addProduct_88 ?_
        refine lv_topl (fun v13 ev13 => ?_)
        have h := elet_at ev13 h
        clear ev13
        refine lv_aload hx hb dX10_addProduct_89 (lv_at hl 4 rfl) ?_
        obtain ⟨g14, h⟩ := oif_some h
        obtain ⟨n15, en15, h⟩ := obind_some h
        have h_n15 : n15 < T.1 := by rw [← cp0.1]; exact cp0.2.2 _ _ _ en15
        refine c_get E G l4 1 (v := .ref (ad n15)) (oO_k g14).1 (cc_o10 (oO_k g14).2) rfl (fun w h => .tail _ (iA_12 h)) (by decide) (.tail _ qA_14) rfl (by rw [en15]; rfl) dX10_addProduct_91 ?_
        clear en15
        refine lv_iload hx hb dX10_addProduct_94 (lv_at hl 6 rfl) ?_
        refine lv_iload hx hb dX10_addProduct_96 (lv_at hl 8 rfl) ?_
        refine lv_isub hx hb dX10_addProduct_98 ?_
        refine lv_topi (fun v16 ev16 => ?_)
        have h := elet_at ev16 h
        clear ev16
        obtain ⟨g17, h⟩ := oif_some h
        obtain ⟨g18, h⟩ := oif_some h
        obtain ⟨n19, en19, h⟩ := obind_some h
        have h_n19 : n19 < T.1 := by rw [← cp0.1]; exact cp0.2.2 _ _ _ en19
        refine c_alda E G n15 7 (k := v16.toNatClampNeg) (v := .ref (ad n19)) (aA_k g17).1 (cc_a107 (aA_k g17).2.1) rfl (inb_k g18).1 (inb_k g18).2 (aA_k g17).2.2 (by show va_rf ((T.2.2.2.2 n15 v16.toNatClampNeg).map ad) = _; rw [en19]; rfl) dX10_addProduct_99 ?_
        clear en19
        refine lv_iload hx hb dX10_addProduct_100 (lv_at hl 5 rfl) ?_
        obtain ⟨g20, h⟩ := oif_some h
        obtain ⟨g21, h⟩ := oif_some h
        refine c_lald E G n19 1 (k := l5.toNatClampNeg) (aA_k g20).1 (cc_a101 (aA_k g20).2.1) rfl (inb_k g21).1 (inb_k g21).2 (aA_k g20).2.2 dX10_addProduct_102 ?_
        refine lv_topl (fun v22 ev22 => ?_)
        have h := elet_at ev22 h
        clear ev22
        refine lv_lmul hx hb dX10_addProduct_103 ?_
        refine lv_topl (fun v23 ev23 => ?_)
        have h := elet_at ev23 h
        clear ev23
        refine lv_ladd hx hb dX10_addProduct_104 ?_
        refine lv_topl (fun v24 ev24 => ?_)
        have h := elet_at ev24 h
        clear ev24
        refine lv_lstore (lv' := [(7, .long v24), (0, .ref (ad l0)), (1, .int l1), (2, .ref (ad l2)), (3, .int l3), (4, .ref (ad l4)), (5, .int l5), (6, .int l6), (9, .int l9)]) hx hb dX10_addProduct_105 hl (by decide) rfl (fun ls hl => ?_)
        obtain ⟨v25, ev25, h⟩ := elet_some h
        refine lv_iinc (v := v25) (lv' := [(9, .int v25), (7, .long v24), (0, .ref (ad l0)), (1, .int l1), (2, .ref (ad l2)), (3, .int l3), (4, .ref (ad l4)), (5, .int l5), (6, .int l6)]) hx hb dX10_addProduct_107 hl (k := 8) rfl ev25.symm (by decide) rfl (fun ls hl => ?_)
        refine lv_goto (tgt := 62) hx hb dX10_addProduct_110 (by decide) ?_
        have hl := lv_sub hl [2, 3, 4, 5, 6, 7, 8, 1, 0] rfl
        refine w_cast (c2 := T.1 - T0.1) (s2 := sg T - sg T0) (by rw [cp0.1] <;> rfl) (by rw [sg_cpr cp0] <;> rfl) ?_
        exact ih _ _ _ _ _ _ _ _ _ _ _ _ _ _ h (gl_cpr hgl cp0) cp0.2.2 had (by rw [cp0.1]; exact h_l0) (by rw [cp0.1]; exact h_l2) (by rw [cp0.1]; exact h_l4) G hl
set_option maxHeartbeats 4000000 in
set_option maxRecDepth 100000 in
theorem a_X10_addProduct_b17 {p : Program} {l : Launch} {e : Env} {s : State} {m : MethodId} {args : Array Value} {below : List Frame} {meth : Method} {c : Code} {Q : State → Prop} {D : va_G} {A : Nat → Prop} {cI cJ cZ cMic cSrc cSt cAI cAJ : ClassId} {ad0 : Nat → Nat} {T0 : AT} {T1 : AT} (E : cE p c cX10_addProduct s m args (Cond.code yX10_addProduct cX10_addProduct 10 none :: wsA) D RX10 (CT cI cJ cZ cMic cSrc cSt cAI cAJ)) (hA : ∀ q : Nat, s.heap.size ≤ q → A q) (hX : xT A s) (hN : nX s) (hml : c.maxLocals = 10) (hst : l.stackTraces = false) (kr138 : ∀ (ad : Nat → Nat) (H : Heap) (locs : List Loc) (ls : Array Slot), (∀ n, n < T0.1 → ad n = ad0 n) → gC cI cJ cZ cMic cSrc cSt cAI cAJ D ad A s.heap H locs T1 → W p l e { frames := 3, cells := T1.1 - T0.1, slots := sg T1 - sg T0, locals := 49 } s m args below meth c H locs (T1.1 - T0.1) (sg T1 - sg T0) Q (F0 m 138 ls [])) : ∀ n : Nat, ∀ (T : AT) (ad : Nat → Nat) (H : Heap) (locs : List Loc) (ls : Array Slot) (l0 : Nat) (l1 : Int32) (l2 : Nat) (l3 : Int32) (l4 : Nat) (l5 : Int32) (l6 : Int32), g_X10_addProduct_b17 n T l0 l1 l2 l3 l4 l5 l6 = some T1 → GL T0 T → RC T → (∀ n, n < T0.1 → ad n = ad0 n) → l0 < T.1 → l2 < T.1 → l4 < T.1 → gC cI cJ cZ cMic cSrc cSt cAI cAJ D ad A s.heap H locs T → lv_has ls 10 [(0, .ref (ad l0)), (1, .int l1), (2, .ref (ad l2)), (3, .int l3), (4, .ref (ad l4)), (5, .int l5), (6, .int l6)] → W p l e { frames := 3, cells := T1.1 - T0.1, slots := sg T1 - sg T0, locals := 49 } s m args below meth c H locs (T.1 - T0.1) (sg T - sg T0) Q (F0 m 17 ls []) := by
  have hx := E.1
  have hb := E.2.1
  have hts := E.2.2.1
  have hown := E.2.2.2.1
  have hK := E.2.2.2.2
  intro n
  induction n with
  | zero =>
    intro T ad H locs ls l0 l1 l2 l3 l4 l5 l6 h
    have h : (none : Option (AT)) = some T1 := h
    cases h
  | succ n ih =>
    intro T ad H locs ls l0 l1 l2 l3 l4 l5 l6 h hgl hrc had h_l0 h_l2 h_l4 G hl
    have hT1 := s_X10_addProduct_b17 _ _ _ _ _ _ _ _ _ h
    have hcs := cs_ok hgl hT1
    have cp0 := cpr0 hrc
    unfold g_X10_addProduct_b17 at h
    refine lv_iload hx hb dX10_addProduct_17 (lv_at hl 6 rfl) ?_
    refine lv_aload_n hx hb dX10_addProduct_19 rfl (lv_at hl 0 rfl) ?_
    obtain ⟨g2, h⟩ := oif_some h
    refine c_get E G l0 2 (oO_k g2).1 (cc_o10 (oO_k g2).2) rfl (fun w h => .tail _ (iA_12 h)) (by decide) (.tail _ qA_15) rfl rfl dX10_addProduct_20 ?_
    refine lv_topi (fun v3 ev3 => ?_)
    have h := elet_at ev3 h
    clear ev3
    refine lv_icmp_ge (tgt := 133) hx hb dX10_addProduct_23 (by decide) (fun c4 => ?_) (fun c4 => ?_)
    · have h := oif_pos c4 h
      have hl := lv_sub hl [0, 1] rfl
      refine w_cast (c2 := T.1 - T0.1) (s2 := sg T - sg T0) (by rw [cp0.1] <;> rfl) (by rw [sg_cpr cp0] <;> rfl) ?_
      exact a_X10_addProduct_b133 E hA hX hN hml hst kr138 _ _ _ _ _ _ _ h (gl_cpr hgl cp0) cp0.2.2 had (by rw [cp0.1]; exact h_l0) G hl
    · have h := oif_neg c4 h
      refine lv_iload hx hb dX10_addProduct_26 (lv_at hl 6 rfl) ?_
      refine lv_aload_n hx hb dX10_addProduct_28 rfl (lv_at hl 2 rfl) ?_
      obtain ⟨g5, h⟩ := oif_some h
      refine c_get E G l2 2 (oO_k g5).1 (cc_o10 (oO_k g5).2) rfl (fun w h => .tail _ (iA_12 h)) (by decide) (.tail _ qA_15) rfl rfl dX10_addProduct_29 ?_
      refine lv_topi (fun v6 ev6 => ?_)
      have h := elet_at ev6 h
      clear ev6
      refine lv_aload hx hb dX10_addProduct_32 (lv_at hl 4 rfl) ?_
      obtain ⟨g7, h⟩ := oif_some h
      refine c_get E G l4 2 (oO_k g7).1 (cc_o10 (oO_k g7).2) rfl (fun w h => .tail _ (iA_12 h)) (by decide) (.tail _ qA_15) rfl rfl dX10_addProduct_34 ?_
      refine lv_topi (fun v8 ev8 => ?_)
      have h := elet_at ev8 h
      clear ev8
      refine lv_iadd hx hb dX10_addProduct_37 ?_
      refine lv_topi (fun v9 ev9 => ?_)
      have h := elet_at ev9 h
      clear ev9
      refine lv_iconst (v := 1) hx hb dX10_addProduct_38 (by decide) ?_
      refine lv_isub hx hb dX10_addProduct_39 ?_
      refine lv_topi (fun v10 ev10 => ?_)
      have h := elet_at ev10 h
      clear ev10
      refine lv_icmp_ge (tgt := 133) hx hb dX10_addProduct_40 (by decide) (fun c11 => ?_) (fun c11 => ?_)
      · have h := oif_pos c11 h
        have hl := lv_sub hl [0, 1] rfl
        refine w_cast (c2 := T.1 - T0.1) (s2 := sg T - sg T0) (by rw [cp0.1] <;> rfl) (by rw [sg_cpr cp0] <;> rfl) ?_
        exact a_X10_addProduct_b133 E hA hX hN hml hst kr138 _ _ _ _ _ _ _ h (gl_cpr hgl cp0) cp0.2.2 had (by rw [cp0.1]; exact h_l0) G hl
      · have h := oif_neg c11 h
        refine lv_lconst (v := 0) hx hb dX10_addProduct_43 (by decide) ?_
        refine lv_lstore (lv' := [(7, .long (0 : Int64)), (0, .ref (ad l0)), (1, .int l1), (2, .ref (ad l2)), (3, .int l3), (4, .ref (ad l4)), (5, .int l5), (6, .int l6)]) hx hb dX10_addProduct_44 hl (by decide) rfl (fun ls hl => ?_)
        refine lv_iload hx hb dX10_addProduct_46 (lv_at hl 7 rfl) ?_
        refine lv_aload hx hb dX10_addProduct_48 (lv_at hl 5 rfl) ?_
        obtain ⟨g12, h⟩ := oif_some h
        refine c_get E G l4 2 (oO_k g12).1 (cc_o10 (oO_k g12).2) rfl (fun w h => .tail _ (iA_12 h)) (by decide) (.tail _ qA_15) rfl rfl dX10_addProduct_50 ?_
        refine lv_topi (fun v13 ev13 => ?_)
        have h := elet_at ev13 h
        clear ev13
        refine lv_isub hx hb dX10_addProduct_53 ?_
        refine lv_topi (fun v14 ev14 => ?_)
        have h := elet_at ev14 h
        clear ev14
        refine lv_iconst (v := 1) hx hb dX10_addProduct_54 (by decide) ?_
        refine lv_iadd hx hb dX10_addProduct_55 ?_
        refine lv_topi (fun v15 ev15 => ?_)
        have h := elet_at ev15 h
        clear ev15
        refine lv_iconst (v := 0) hx hb dX10_addProduct_56 (by decide) ?_
        refine va_mmax hx hb (hml.trans hl.1.symm) hown (hts _ (.tail _ qA_16)) (hts _ (.tail _ qA_17)) (hts _ (.tail _ qA_18)) (hts _ (.tail _ qA_19)) (Nat.le_of_ble_eq_true rfl) (Nat.le_of_ble_eq_true rfl) hcs.1 hcs.2 dX10_addProduct_57 ?_
        refine lv_topi (fun v16 ev16 => ?_)
        have h := elet_at ev16 h
        clear ev16
        refine lv_istore (lv' := [(9, .int v16), (7, .long (0 : Int64)), (0, .ref (ad l0)), (1, .int l1), (2, .ref (ad l2)), (3, .int l3), (4, .ref (ad l4)), (5, .int l5), (6, .int l6)]) hx hb dX10_addProduct_60 hl (by decide) rfl (fun ls hl => ?_)
        have hl := lv_sub hl [2, 3, 4, 5, 6, 7, 8, 1, 0] rfl
        refine w_cast (c2 := T.1 - T0.1) (s2 := sg T - sg T0) (by rw [cp0.1] <;> rfl) (by rw [sg_cpr cp0] <;> rfl) ?_
        exact a_X10_addProduct_b62 E hA hX hN hml hst kr138 (s_X10_addProduct_b17 n) ih _ _ _ _ _ _ _ _ _ _ _ _ _ _ _ h (gl_cpr hgl cp0) cp0.2.2 had (by rw [cp0.1]; exact h_l0) (by rw [cp0.1]; exact h_l2) (by rw [cp0.1]; exact h_l4) G hl
set_option maxHeartbeats 4000000 in
set_option maxRecDepth 100000 in
theorem a_X10_addProduct_b14 {p : Program} {l : Launch} {e : Env} {s : State} {m : MethodId} {args : Array Value} {below : List Frame} {meth : Method} {c : Code} {Q : State → Prop} {D : va_G} {A : Nat → Prop} {cI cJ cZ cMic cSrc cSt cAI cAJ : ClassId} {ad0 : Nat → Nat} {T0 : AT} {T1 : AT} (E : cE p c cX10_addProduct s m args (Cond.code yX10_addProduct cX10_addProduct 10 none :: wsA) D RX10 (CT cI cJ cZ cMic cSrc cSt cAI cAJ)) (hA : ∀ q : Nat, s.heap.size ≤ q → A q) (hX : xT A s) (hN : nX s) (hml : c.maxLocals = 10) (hst : l.stackTraces = false) (kr138 : ∀ (ad : Nat → Nat) (H : Heap) (locs : List Loc) (ls : Array Slot), (∀ n, n < T0.1 → ad n = ad0 n) → gC cI cJ cZ cMic cSrc cSt cAI cAJ D ad A s.heap H locs T1 → W p l e { frames := 3, cells := T1.1 - T0.1, slots := sg T1 - sg T0, locals := 49 } s m args below meth c H locs (T1.1 - T0.1) (sg T1 - sg T0) Q (F0 m 138 ls [])) : ∀ (T : AT) (ad : Nat → Nat) (H : Heap) (locs : List Loc) (ls : Array Slot) (l0 : Nat) (l1 : Int32) (l2 : Nat) (l3 : Int32) (l4 : Nat) (l5 : Int32), g_X10_addProduct_b14 T l0 l1 l2 l3 l4 l5 = some T1 → GL T0 T → RC T → (∀ n, n < T0.1 → ad n = ad0 n) → l0 < T.1 → l2 < T.1 → l4 < T.1 → gC cI cJ cZ cMic cSrc cSt cAI cAJ D ad A s.heap H locs T → lv_has ls 10 [(0, .ref (ad l0)), (1, .int l1), (2, .ref (ad l2)), (3, .int l3), (4, .ref (ad l4)), (5, .int l5)] → W p l e { frames := 3, cells := T1.1 - T0.1, slots := sg T1 - sg T0, locals := 49 } s m args below meth c H locs (T.1 - T0.1) (sg T - sg T0) Q (F0 m 14 ls []) := by
  have hx := E.1
  have hb := E.2.1
  have hts := E.2.2.1
  have hown := E.2.2.2.1
  have hK := E.2.2.2.2
  intro T ad H locs ls l0 l1 l2 l3 l4 l5 h hgl hrc had h_l0 h_l2 h_l4 G hl
  have hT1 := s_X10_addProduct_b14 _ _ _ _ _ _ _ h
  have hcs := cs_ok hgl hT1
  have cp0 := cpr0 hrc
  unfold g_X10_addProduct_b14 at h
  refine lv_iconst (v := 0) hx hb dX10_addProduct_14 (by decide) ?_
  refine lv_istore (lv' := [(6, .int 0), (0, .ref (ad l0)), (1, .int l1), (2, .ref (ad l2)), (3, .int l3), (4, .ref (ad l4)), (5, .int l5)]) hx hb dX10_addProduct_15 hl (by decide) rfl (fun ls hl => ?_)
  have hl := lv_sub hl [1, 2, 3, 4, 5, 6, 0] rfl
  refine w_cast (c2 := T.1 - T0.1) (s2 := sg T - sg T0) (by rw [cp0.1] <;> rfl) (by rw [sg_cpr cp0] <;> rfl) ?_
  exact a_X10_addProduct_b17 E hA hX hN hml hst kr138 _ _ _ _ _ _ _ _ _ _ _ _ _ h (gl_cpr hgl cp0) cp0.2.2 had (by rw [cp0.1]; exact h_l0) (by rw [cp0.1]; exact h_l2) (by rw [cp0.1]; exact h_l4) G hl
set_option maxHeartbeats 4000000 in
set_option maxRecDepth 100000 in
theorem a_X10_addProduct (l : Launch) (hst : l.stackTraces = false) (D : va_G) (cI cJ cZ cMic cSrc cSt cAI cAJ : ClassId) (ad : Nat → Nat) (T : AT) (o : Nat) (a0 : Int32) (a1 : Nat) (a2 : Int32) (a3 : Nat) (a4 : Int32) {T1 : AT} (h : g_X10_addProduct T o a0 a1 a2 a3 a4 = some T1) (hrc : RC T) (h_o : o < T.1) (h_a1 : a1 < T.1) (h_a3 : a3 < T.1) : kAv l yX10_addProduct (Cond.code yX10_addProduct cX10_addProduct 10 none :: wsA) 3 49 cI cJ cZ cMic cSrc cSt cAI cAJ D ad T [.ref (ad o), .int a0, .ref (ad a1), .int a2, .ref (ad a3), .int a4] T1 := by
  intro sz
  refine Met.ofW (cc := cX10_addProduct) (maxL := 10) (ret := none) (by decide) rfl ?_
  intro p e s m args below meth c s₁ B hml hv
  obtain ⟨rfl, hsz, hP, hK, hD0, hX, hN⟩ := hv
  have hx := B.exec
  have hb := B.bytes
  have hr := B.returns
  have hts := atoms_spec (ws := (Cond.code yX10_addProduct cX10_addProduct 10 none :: wsA)) B.pre
  have hown : s.vm.findClass RX10 = some m.cls := findClass_of_methodNamed B.named
  have hlocks := B.notSynchronized
  subst hsz
  have hD := hD0.self (sz := s.heap.size)
  generalize hAe : va_A (cW ad T.1 (cc cI cJ cZ cMic cSrc cSt cAI cAJ ad T)) s.heap.size = A at hD hX ⊢
  have hA : ∀ q : Nat, s.heap.size ≤ q → A q := fun q h => by rw [← hAe]; exact Or.inr h
  have G : gC cI cJ cZ cMic cSrc cSt cAI cAJ D ad A s.heap s.heap [] T := ⟨hP, hD, va_S.rf⟩
  have E : cE p c cX10_addProduct s m ([.ref (ad o), .int a0, .ref (ad a1), .int a2, .ref (ad a3), .int a4] : List Value).toArray (Cond.code yX10_addProduct cX10_addProduct 10 none :: wsA) D RX10 (CT cI cJ cZ cMic cSrc cSt cAI cAJ) := ⟨hx, hb, hts, hown, hK⟩
  have hl := lv_entry ([.ref (ad o), .int a0, .ref (ad a1), .int a2, .ref (ad a3), .int a4]) (n := 10) (Nat.le_of_ble_eq_true rfl)
  rw [lg_entry_eq]
  generalize (lg_sl ([.ref (ad o), .int a0, .ref (ad a1), .int a2, .ref (ad a3), .int a4]) ++ List.replicate (10 - (lg_sl ([.ref (ad o), .int a0, .ref (ad a1), .int a2, .ref (ad a3), .int a4])).length) Slot.unset).toArray = ls at hl ⊢
  have hl : lv_has ls 10 [(0, .ref (ad o)), (1, .int a0), (2, .ref (ad a1)), (3, .int a2), (4, .ref (ad a3)), (5, .int a4)] := hl
  have hgl := GL.rf T
  have had : ∀ n, n < T.1 → ad n = ad n := fun _ _ => rfl
  have hT1 := s_X10_addProduct h
  have hcs := cs_ok hgl hT1
  refine w_cast (Nat.sub_self T.1).symm (Nat.sub_self (sg T)).symm ?_
  have cp0 := cpr0 hrc
  unfold g_X10_addProduct at h
  refine lv_aload_n hx hb dX10_addProduct_0 rfl (lv_at hl 0 rfl) ?_
  refine lv_aload_n hx hb dX10_addProduct_1 rfl (lv_at hl 2 rfl) ?_
  obtain ⟨g2, h⟩ := oif_some h
  refine c_get E G a1 2 (oO_k g2).1 (cc_o10 (oO_k g2).2) rfl (fun w h => .tail _ (iA_12 h)) (by decide) (.tail _ qA_15) rfl rfl dX10_addProduct_2 ?_
  refine lv_topi (fun v3 ev3 => ?_)
  have h := elet_at ev3 h
  clear ev3
  refine lv_aload hx hb dX10_addProduct_5 (lv_at hl 4 rfl) ?_
  obtain ⟨g4, h⟩ := oif_some h
  refine c_get E G a3 2 (oO_k g4).1 (cc_o10 (oO_k g4).2) rfl (fun w h => .tail _ (iA_12 h)) (by decide) (.tail _ qA_15) rfl rfl dX10_addProduct_7 ?_
  refine lv_topi (fun v5 ev5 => ?_)
  have h := elet_at ev5 h
  clear ev5
  refine lv_iadd hx hb dX10_addProduct_10 ?_
  refine lv_topi (fun v6 ev6 => ?_)
  have h := elet_at ev6 h
  clear ev6
  obtain ⟨g7, h⟩ := oif_some h
  obtain ⟨T8, eT8, h⟩ := obind_some h
  have hg2 := s_X10_widenTo eT8
  have hrc2 := hg2.2.2 cp0.2.2
  have hT2 := s_X10_addProduct_b14 _ _ _ _ _ _ _ h
  refine q_avv (As := [.int v6]) (rest := []) E G hA hX hN hml (a_X10_widenTo l hst D cI cJ cZ cMic cSrc cSt cAI cAJ ad T o v6 eT8 cp0.2.2 (by rw [cp0.1]; exact h_o)) (cwV 1 hts (gaV qA_98 qA_78 qA_79 qA_6 qA_80) rfl rfl rfl (by decide +kernel) ⟨Nat.le_of_ble_eq_true rfl, Nat.le_of_ble_eq_true rfl⟩) (oO_k g7).1 (cc_o10 (oO_k g7).2) rfl rfl hl.1 rfl (lv_room (Nat.le_of_ble_eq_true rfl)) dX10_addProduct_11 (cs_av hgl cp0 hg2 hT2) (fun ad2 H locs hga G => ?_)
  refine w_cast (c2 := T8.1 - T.1) (s2 := sg T8 - sg T) (cs_f1 hgl cp0 hg2) (cs_f2 hgl cp0 hg2) ?_
  have hl := lv_sub hl [0, 1, 2, 3, 4, 5] rfl
  rw [show ad o = ad2 o from (hga o (by rw [cp0.1]; exact h_o)).symm] at hl
  rw [show ad a1 = ad2 a1 from (hga a1 (by rw [cp0.1]; exact h_a1)).symm] at hl
  rw [show ad a3 = ad2 a3 from (hga a3 (by rw [cp0.1]; exact h_a3)).symm] at hl
  exact a_X10_addProduct_b14 E hA hX hN hml hst (fun ad H locs ls had G => W.vret hx hb hr (fun t ht hW => ⟨⟨(T1, ad), rfl, ⟨rfl, had⟩, ⟨by rw [ht]; exact G.1, va_K.moved hW.alike hK, G.2.1⟩⟩, G.2.2.F ht⟩) G.2.2.2.2 dX10_addProduct_138) _ _ _ _ _ _ _ _ _ _ _ h (GL.tr (gl_cpr hgl cp0) hg2) hrc2 (fun n hn => (hga n (by rw [cp0.1]; exact Nat.lt_of_lt_of_le hn hgl.1)).trans (had n hn)) (Nat.lt_of_lt_of_le (by rw [cp0.1]; exact h_o) hg2.1) (Nat.lt_of_lt_of_le (by rw [cp0.1]; exact h_a1) hg2.1) (Nat.lt_of_lt_of_le (by rw [cp0.1]; exact h_a3) hg2.1) G hl
def g_X8_blockPowerOf_b68  (T : AT)  : Option (AT) := some T
def g_X8_blockPowerOf_b54 (k23 : AT → Nat → Nat → Int32 → Nat → Int32 → Int32 → Int32 → Option (AT)) (T : AT) (l0 : Nat) (l1 : Nat) (l3 : Int32) (l4 : Nat) (l5 : Int32) (l6 : Int32) (l7 : Int32) : Option (AT) := elet (l7 + Int32.ofInt (1)) fun v2 => k23 T l0 l1 l3 l4 l5 l6 v2
def g_X8_blockPowerOf_b37 (k23 : AT → Nat → Nat → Int32 → Nat → Int32 → Int32 → Int32 → Option (AT)) (T : AT) (l0 : Nat) (l1 : Nat) (l3 : Int32) (l4 : Nat) (l5 : Int32) (l6 : Int32) (l7 : Int32) : Option (AT) := oif (oO T l0 8 = true) <| obind (T.2.2.2.2 l0 11) fun n3 => oif (oO T l0 8 = true) <| obind (T.2.2.2.2 l0 11) fun n5 => oif (oO T l4 10 = true) <| obind (g_X10_addProduct T l4 l5 n3 (0 : Int32) n5 (0 : Int32)) fun T7 => g_X8_blockPowerOf_b54 k23 T7 l0 l1 l3 l4 l5 l6 l7
def g_X8_blockPowerOf_b23  : Nat → AT → Nat → Nat → Int32 → Nat → Int32 → Int32 → Int32 → Option (AT)
  | 0, _, _, _, _, _, _, _, _ => none
  | n + 1, T, l0, l1, l3, l4, l5, l6, l7 => if l6 ≤ l7 then (oif (oO T l4 10 = true) <| obind (g_X10_divide T l4 l5 l3) fun T4 => g_X8_blockPowerOf_b68 T4) else (oif (oO T l0 8 = true) <| obind (g_X8_focus T l0 l1 l7) fun T7 => g_X8_blockPowerOf_b37 (g_X8_blockPowerOf_b23 n) T7 l0 l1 l3 l4 l5 l6 l7)
def g_X8_blockPowerOf (T : AT) (o : Nat) (a0 : Nat) (a1 : Int32) (a2 : Int32) (a3 : Nat) (a4 : Int32) : Option (AT) := elet (a1 + a2) fun v2 => oif (oO T o 8 = true) <| obind2 (g_X8_windowOf T o a0) fun r6 T4 => elet (if r6 < v2 then r6 else v2) fun v8 => oif (oO T4 a3 10 = true) <| obind (g_X10_clear T4 a3 a4) fun T10 => g_X8_blockPowerOf_b23 16384 T10 o a0 a2 a3 a4 v8 a1
set_option maxHeartbeats 4000000 in
set_option maxRecDepth 100000 in
theorem s_X8_blockPowerOf_b68 {T1 : AT} : ∀ (T : AT), g_X8_blockPowerOf_b68 T = some T1 → GL T T1 := by
  intro T h
  have p0 := GL.rf T
  unfold g_X8_blockPowerOf_b68 at h
  rw [← osome1 h]
  exact p0
set_option maxHeartbeats 4000000 in
set_option maxRecDepth 100000 in
theorem s_X8_blockPowerOf_b54 {T1 : AT} {k23 : AT → Nat → Nat → Int32 → Nat → Int32 → Int32 → Int32 → Option (AT)} (hk23 : ∀ (T : AT) (l0 : Nat) (l1 : Nat) (l3 : Int32) (l4 : Nat) (l5 : Int32) (l6 : Int32) (l7 : Int32), k23 T l0 l1 l3 l4 l5 l6 l7 = some T1 → GL T T1) : ∀ (T : AT) (l0 : Nat) (l1 : Nat) (l3 : Int32) (l4 : Nat) (l5 : Int32) (l6 : Int32) (l7 : Int32), g_X8_blockPowerOf_b54 k23 T l0 l1 l3 l4 l5 l6 l7 = some T1 → GL T T1 := by
  intro T l0 l1 l3 l4 l5 l6 l7 h
  have p0 := GL.rf T
  unfold g_X8_blockPowerOf_b54 at h
  obtain ⟨v2, ev2, h⟩ := elet_some h
  exact GL.tr p0 (hk23 _ _ _ _ _ _ _ _ h)
set_option maxHeartbeats 4000000 in
set_option maxRecDepth 100000 in
theorem s_X8_blockPowerOf_b37 {T1 : AT} {k23 : AT → Nat → Nat → Int32 → Nat → Int32 → Int32 → Int32 → Option (AT)} (hk23 : ∀ (T : AT) (l0 : Nat) (l1 : Nat) (l3 : Int32) (l4 : Nat) (l5 : Int32) (l6 : Int32) (l7 : Int32), k23 T l0 l1 l3 l4 l5 l6 l7 = some T1 → GL T T1) : ∀ (T : AT) (l0 : Nat) (l1 : Nat) (l3 : Int32) (l4 : Nat) (l5 : Int32) (l6 : Int32) (l7 : Int32), g_X8_blockPowerOf_b37 k23 T l0 l1 l3 l4 l5 l6 l7 = some T1 → GL T T1 := by
  intro T l0 l1 l3 l4 l5 l6 l7 h
  have p0 := GL.rf T
  unfold g_X8_blockPowerOf_b37 at h
  obtain ⟨g2, h⟩ := oif_some h
  obtain ⟨n3, en3, h⟩ := obind_some h
  obtain ⟨g4, h⟩ := oif_some h
  obtain ⟨n5, en5, h⟩ := obind_some h
  obtain ⟨g6, h⟩ := oif_some h
  obtain ⟨T7, eT7, h⟩ := obind_some h
  have p1 : GL T T7 := GL.tr p0 (s_X10_addProduct eT7)
  exact GL.tr p1 (s_X8_blockPowerOf_b54 hk23 _ _ _ _ _ _ _ _ h)
set_option maxHeartbeats 4000000 in
set_option maxRecDepth 100000 in
theorem s_X8_blockPowerOf_b23 {T1 : AT} : ∀ n : Nat, ∀ (T : AT) (l0 : Nat) (l1 : Nat) (l3 : Int32) (l4 : Nat) (l5 : Int32) (l6 : Int32) (l7 : Int32), g_X8_blockPowerOf_b23 n T l0 l1 l3 l4 l5 l6 l7 = some T1 → GL T T1 := by
  intro n
  induction n with
  | zero =>
    intro T l0 l1 l3 l4 l5 l6 l7 h
    have h : (none : Option (AT)) = some T1 := h
    cases h
  | succ n ih =>
    intro T l0 l1 l3 l4 l5 l6 l7 h
    have p0 := GL.rf T
    unfold g_X8_blockPowerOf_b23 at h
    rcases oif_or h with ⟨c2, h⟩ | ⟨c2, h⟩
    · have h := h
      obtain ⟨g3, h⟩ := oif_some h
      obtain ⟨T4, eT4, h⟩ := obind_some h
      have p1 : GL T T4 := GL.tr p0 (s_X10_divide eT4)
      exact GL.tr p1 (s_X8_blockPowerOf_b68 _ h)
    · have h := h
      obtain ⟨g6, h⟩ := oif_some h
      obtain ⟨T7, eT7, h⟩ := obind_some h
      have p1 : GL T T7 := GL.tr p0 (s_X8_focus eT7)
      exact GL.tr p1 (s_X8_blockPowerOf_b37 ih _ _ _ _ _ _ _ _ h)
set_option maxHeartbeats 4000000 in
set_option maxRecDepth 100000 in
theorem s_X8_blockPowerOf {T : AT} {o : Nat} {a0 : Nat} {a1 : Int32} {a2 : Int32} {a3 : Nat} {a4 : Int32} {T1 : AT} (h : g_X8_blockPowerOf T o a0 a1 a2 a3 a4 = some T1) : GL T T1 := by
  have p0 := GL.rf T
  unfold g_X8_blockPowerOf at h
  obtain ⟨v2, -, h⟩ := elet_some h
  obtain ⟨g3, h⟩ := oif_some h
  obtain ⟨r5, T4, eT4, h⟩ := obind2_some h
  have p1 : GL T T4 := GL.tr p0 (gl_sp (s_X8_windowOf eT4))
  obtain ⟨v6, -, h⟩ := elet_some h
  obtain ⟨g7, h⟩ := oif_some h
  obtain ⟨T8, eT8, h⟩ := obind_some h
  have p2 : GL T T8 := GL.tr p1 (gl_sp (s_X10_clear eT8))
  exact GL.tr p2 (s_X8_blockPowerOf_b23 _ _ _ _ _ _ _ _ _ h)
set_option maxHeartbeats 4000000 in
set_option maxRecDepth 100000 in
theorem a_X8_blockPowerOf_b68 {p : Program} {l : Launch} {e : Env} {s : State} {m : MethodId} {args : Array Value} {below : List Frame} {meth : Method} {c : Code} {Q : State → Prop} {D : va_G} {A : Nat → Prop} {cI cJ cZ cMic cSrc cSt cAI cAJ : ClassId} {ad0 : Nat → Nat} {T0 : AT} {T1 : AT} (E : cE p c cX8_blockPowerOf s m args (Cond.code yX8_blockPowerOf cX8_blockPowerOf 8 none :: wsA) D RX8 (CT cI cJ cZ cMic cSrc cSt cAI cAJ)) (hA : ∀ q : Nat, s.heap.size ≤ q → A q) (hX : xT A s) (hN : nX s) (hml : c.maxLocals = 8) (hst : l.stackTraces = false) (kr68 : ∀ (ad : Nat → Nat) (H : Heap) (locs : List Loc) (ls : Array Slot), (∀ n, n < T0.1 → ad n = ad0 n) → gC cI cJ cZ cMic cSrc cSt cAI cAJ D ad A s.heap H locs T1 → W p l e { frames := 4, cells := T1.1 - T0.1, slots := sg T1 - sg T0, locals := 78 } s m args below meth c H locs (T1.1 - T0.1) (sg T1 - sg T0) Q (F0 m 68 ls [])) : ∀ (T : AT) (ad : Nat → Nat) (H : Heap) (locs : List Loc) (ls : Array Slot), g_X8_blockPowerOf_b68 T = some T1 → GL T0 T → RC T → (∀ n, n < T0.1 → ad n = ad0 n) → gC cI cJ cZ cMic cSrc cSt cAI cAJ D ad A s.heap H locs T → lv_has ls 8 [] → W p l e { frames := 4, cells := T1.1 - T0.1, slots := sg T1 - sg T0, locals := 78 } s m args below meth c H locs (T.1 - T0.1) (sg T - sg T0) Q (F0 m 68 ls []) := by
  have hx := E.1
  have hb := E.2.1
  have hts := E.2.2.1
  have hown := E.2.2.2.1
  have hK := E.2.2.2.2
  intro T ad H locs ls h hgl hrc had G hl
  have hT1 := s_X8_blockPowerOf_b68 _ h
  have hcs := cs_ok hgl hT1
  have cp0 := cpr0 hrc
  unfold g_X8_blockPowerOf_b68 at h
  rw [osome1 h] at G
  refine w_cast (c2 := T1.1 - T0.1) (s2 := sg T1 - sg T0) (by rw [← osome1 h, cp0.1] <;> rfl) (by rw [← osome1 h, sg_cpr cp0] <;> rfl) ?_
  exact kr68 ad _ _ _ had G
set_option maxHeartbeats 4000000 in
set_option maxRecDepth 100000 in
theorem a_X8_blockPowerOf_b54 {p : Program} {l : Launch} {e : Env} {s : State} {m : MethodId} {args : Array Value} {below : List Frame} {meth : Method} {c : Code} {Q : State → Prop} {D : va_G} {A : Nat → Prop} {cI cJ cZ cMic cSrc cSt cAI cAJ : ClassId} {ad0 : Nat → Nat} {T0 : AT} {T1 : AT} (E : cE p c cX8_blockPowerOf s m args (Cond.code yX8_blockPowerOf cX8_blockPowerOf 8 none :: wsA) D RX8 (CT cI cJ cZ cMic cSrc cSt cAI cAJ)) (hA : ∀ q : Nat, s.heap.size ≤ q → A q) (hX : xT A s) (hN : nX s) (hml : c.maxLocals = 8) (hst : l.stackTraces = false) (kr68 : ∀ (ad : Nat → Nat) (H : Heap) (locs : List Loc) (ls : Array Slot), (∀ n, n < T0.1 → ad n = ad0 n) → gC cI cJ cZ cMic cSrc cSt cAI cAJ D ad A s.heap H locs T1 → W p l e { frames := 4, cells := T1.1 - T0.1, slots := sg T1 - sg T0, locals := 78 } s m args below meth c H locs (T1.1 - T0.1) (sg T1 - sg T0) Q (F0 m 68 ls [])) {k23 : AT → Nat → Nat → Int32 → Nat → Int32 → Int32 → Int32 → Option (AT)} (hs23 : ∀ (T : AT) (l0 : Nat) (l1 : Nat) (l3 : Int32) (l4 : Nat) (l5 : Int32) (l6 : Int32) (l7 : Int32), k23 T l0 l1 l3 l4 l5 l6 l7 = some T1 → GL T T1) (hk23 : ∀ (T : AT) (ad : Nat → Nat) (H : Heap) (locs : List Loc) (ls : Array Slot) (l0 : Nat) (l1 : Nat) (l3 : Int32) (l4 : Nat) (l5 : Int32) (l6 : Int32) (l7 : Int32), k23 T l0 l1 l3 l4 l5 l6 l7 = some T1 → GL T0 T → RC T → (∀ n, n < T0.1 → ad n = ad0 n) → l0 < T.1 → l1 < T.1 → l4 < T.1 → gC cI cJ cZ cMic cSrc cSt cAI cAJ D ad A s.heap H locs T → lv_has ls 8 [(0, .ref (ad l0)), (1, .ref (ad l1)), (3, .int l3), (4, .ref (ad l4)), (5, .int l5), (6, .int l6), (7, .int l7)] → W p l e { frames := 4, cells := T1.1 - T0.1, slots := sg T1 - sg T0, locals := 78 } s m args below meth c H locs (T.1 - T0.1) (sg T - sg T0) Q (F0 m 23 ls [])) : ∀ (T : AT) (ad : Nat → Nat) (H : Heap) (locs : List Loc) (ls : Array Slot) (l0 : Nat) (l1 : Nat) (l3 : Int32) (l4 : Nat) (l5 : Int32) (l6 : Int32) (l7 : Int32), g_X8_blockPowerOf_b54 k23 T l0 l1 l3 l4 l5 l6 l7 = some T1 → GL T0 T → RC T → (∀ n, n < T0.1 → ad n = ad0 n) → l0 < T.1 → l1 < T.1 → l4 < T.1 → gC cI cJ cZ cMic cSrc cSt cAI cAJ D ad A s.heap H locs T → lv_has ls 8 [(0, .ref (ad l0)), (1, .ref (ad l1)), (3, .int l3), (4, .ref (ad l4)), (5, .int l5), (6, .int l6), (7, .int l7)] → W p l e { frames := 4, cells := T1.1 - T0.1, slots := sg T1 - sg T0, locals := 78 } s m args below meth c H locs (T.1 - T0.1) (sg T - sg T0) Q (F0 m 54 ls []) := by
  have hx := E.1
  have hb := E.2.1
  have hts := E.2.2.1
  have hown := E.2.2.2.1
  have hK := E.2.2.2.2
  intro T ad H locs ls l0 l1 l3 l4 l5 l6 l7 h hgl hrc had h_l0 h_l1 h_l4 G hl
  have hT1 := s_X8_blockPowerOf_b54 hs23 _ _ _ _ _ _ _ _ h
  have hcs := cs_ok hgl hT1
  have cp0 := cpr0 hrc
  unfold g_X8_blockPowerOf_b54 at h
  obtain ⟨v2, ev2, h⟩ := elet_some h
  refine lv_iinc (v := v2) (lv' := [(7, .int v2), (0, .ref (ad l0)), (1, .ref (ad l1)), (3, .int l3), (4, .ref (ad l4)), (5, .int l5), (6, .int l6)]) hx hb dX8_blockPowerOf_54 hl (k := 6) rfl ev2.symm (by decide) rfl (fun ls hl => ?_)
  refine lv_goto (tgt := 23) hx hb dX8_blockPowerOf_57 (by decide) ?_
  have hl := lv_sub hl [1, 2, 3, 4, 5, 6, 0] rfl
  refine w_cast (c2 := T.1 - T0.1) (s2 := sg T - sg T0) (by rw [cp0.1] <;> rfl) (by rw [sg_cpr cp0] <;> rfl) ?_
  exact hk23 _ _ _ _ _ _ _ _ _ _ _ _ h (gl_cpr hgl cp0) cp0.2.2 had (by rw [cp0.1]; exact h_l0) (by rw [cp0.1]; exact h_l1) (by rw [cp0.1]; exact h_l4) G hl
set_option maxHeartbeats 4000000 in
set_option maxRecDepth 100000 in
theorem a_X8_blockPowerOf_b37 {p : Program} {l : Launch} {e : Env} {s : State} {m : MethodId} {args : Array Value} {below : List Frame} {meth : Method} {c : Code} {Q : State → Prop} {D : va_G} {A : Nat → Prop} {cI cJ cZ cMic cSrc cSt cAI cAJ : ClassId} {ad0 : Nat → Nat} {T0 : AT} {T1 : AT} (E : cE p c cX8_blockPowerOf s m args (Cond.code yX8_blockPowerOf cX8_blockPowerOf 8 none :: wsA) D RX8 (CT cI cJ cZ cMic cSrc cSt cAI cAJ)) (hA : ∀ q : Nat, s.heap.size ≤ q → A q) (hX : xT A s) (hN : nX s) (hml : c.maxLocals = 8) (hst : l.stackTraces = false) (kr68 : ∀ (ad : Nat → Nat) (H : Heap) (locs : List Loc) (ls : Array Slot), (∀ n, n < T0.1 → ad n = ad0 n) → gC cI cJ cZ cMic cSrc cSt cAI cAJ D ad A s.heap H locs T1 → W p l e { frames := 4, cells := T1.1 - T0.1, slots := sg T1 - sg T0, locals := 78 } s m args below meth c H locs (T1.1 - T0.1) (sg T1 - sg T0) Q (F0 m 68 ls [])) {k23 : AT → Nat → Nat → Int32 → Nat → Int32 → Int32 → Int32 → Option (AT)} (hs23 : ∀ (T : AT) (l0 : Nat) (l1 : Nat) (l3 : Int32) (l4 : Nat) (l5 : Int32) (l6 : Int32) (l7 : Int32), k23 T l0 l1 l3 l4 l5 l6 l7 = some T1 → GL T T1) (hk23 : ∀ (T : AT) (ad : Nat → Nat) (H : Heap) (locs : List Loc) (ls : Array Slot) (l0 : Nat) (l1 : Nat) (l3 : Int32) (l4 : Nat) (l5 : Int32) (l6 : Int32) (l7 : Int32), k23 T l0 l1 l3 l4 l5 l6 l7 = some T1 → GL T0 T → RC T → (∀ n, n < T0.1 → ad n = ad0 n) → l0 < T.1 → l1 < T.1 → l4 < T.1 → gC cI cJ cZ cMic cSrc cSt cAI cAJ D ad A s.heap H locs T → lv_has ls 8 [(0, .ref (ad l0)), (1, .ref (ad l1)), (3, .int l3), (4, .ref (ad l4)), (5, .int l5), (6, .int l6), (7, .int l7)] → W p l e { frames := 4, cells := T1.1 - T0.1, slots := sg T1 - sg T0, locals := 78 } s m args below meth c H locs (T.1 - T0.1) (sg T - sg T0) Q (F0 m 23 ls [])) : ∀ (T : AT) (ad : Nat → Nat) (H : Heap) (locs : List Loc) (ls : Array Slot) (l0 : Nat) (l1 : Nat) (l3 : Int32) (l4 : Nat) (l5 : Int32) (l6 : Int32) (l7 : Int32), g_X8_blockPowerOf_b37 k23 T l0 l1 l3 l4 l5 l6 l7 = some T1 → GL T0 T → RC T → (∀ n, n < T0.1 → ad n = ad0 n) → l0 < T.1 → l1 < T.1 → l4 < T.1 → gC cI cJ cZ cMic cSrc cSt cAI cAJ D ad A s.heap H locs T → lv_has ls 8 [(0, .ref (ad l0)), (1, .ref (ad l1)), (3, .int l3), (4, .ref (ad l4)), (5, .int l5), (6, .int l6), (7, .int l7)] → W p l e { frames := 4, cells := T1.1 - T0.1, slots := sg T1 - sg T0, locals := 78 } s m args below meth c H locs (T.1 - T0.1) (sg T - sg T0) Q (F0 m 37 ls []) := by
  have hx := E.1
  have hb := E.2.1
  have hts := E.2.2.1
  have hown := E.2.2.2.1
  have hK := E.2.2.2.2
  intro T ad H locs ls l0 l1 l3 l4 l5 l6 l7 h hgl hrc had h_l0 h_l1 h_l4 G hl
  have hT1 := s_X8_blockPowerOf_b37 hs23 _ _ _ _ _ _ _ _ h
  have hcs := cs_ok hgl hT1
  have cp0 := cpr0 hrc
  unfold g_X8_blockPowerOf_b37 at h
  refine lv_aload hx hb dX8_blockPowerOf_37 (lv_at hl 3 rfl) ?_
  refine lv_iload hx hb dX8_blockPowerOf_39 (lv_at hl 4 rfl) ?_
  refine lv_aload_n hx hb dX8_blockPowerOf_41 rfl (lv_at hl 0 rfl) ?_
  obtain ⟨g2, h⟩ := oif_some h
  obtain ⟨n3, en3, h⟩ := obind_some h
  have h_n3 : n3 < T.1 := by rw [← cp0.1]; exact cp0.2.2 _ _ _ en3
  refine c_get E G l0 11 (v := .ref (ad n3)) (oO_k g2).1 (cc_o8 (oO_k g2).2) rfl (fun w h => .tail _ (iA_16 h)) (by decide) (.tail _ qA_52) rfl (by rw [en3]; rfl) dX8_blockPowerOf_42 ?_
  clear en3
  refine lv_iconst (v := 0) hx hb dX8_blockPowerOf_45 (by decide) ?_
  refine lv_aload_n hx hb dX8_blockPowerOf_46 rfl (lv_at hl 0 rfl) ?_
  obtain ⟨g4, h⟩ := oif_some h
  obtain ⟨n5, en5, h⟩ := obind_some h
  have h_n5 : n5 < T.1 := by rw [← cp0.1]; exact cp0.2.2 _ _ _ en5
  refine c_get E G l0 11 (v := .ref (ad n5)) (oO_k g4).1 (cc_o8 (oO_k g4).2) rfl (fun w h => .tail _ (iA_16 h)) (by decide) (.tail _ qA_52) rfl (by rw [en5]; rfl) dX8_blockPowerOf_47 ?_
  clear en5
  refine lv_iconst (v := 0) hx hb dX8_blockPowerOf_50 (by decide) ?_
  obtain ⟨g6, h⟩ := oif_some h
  obtain ⟨T7, eT7, h⟩ := obind_some h
  have hg2 := s_X10_addProduct eT7
  have hrc2 := hg2.2.2 cp0.2.2
  have hT2 := s_X8_blockPowerOf_b54 hs23 _ _ _ _ _ _ _ _ h
  refine q_avv (As := [.int l5, .ref (ad n3), .int 0, .ref (ad n5), .int 0]) (rest := []) E G hA hX hN hml (a_X10_addProduct l hst D cI cJ cZ cMic cSrc cSt cAI cAJ ad T l4 l5 n3 (0 : Int32) n5 (0 : Int32) eT7 cp0.2.2 (by rw [cp0.1]; exact h_l4) (by rw [cp0.1]; exact h_n3) (by rw [cp0.1]; exact h_n5)) (cwV 5 hts (gaV qA_99 qA_100 qA_101 qA_6 qA_102) rfl rfl rfl (by decide +kernel) ⟨Nat.le_of_ble_eq_true rfl, Nat.le_of_ble_eq_true rfl⟩) (oO_k g6).1 (cc_o10 (oO_k g6).2) rfl rfl hl.1 rfl (lv_room (Nat.le_of_ble_eq_true rfl)) dX8_blockPowerOf_51 (cs_av hgl cp0 hg2 hT2) (fun ad2 H locs hga G => ?_)
  refine w_cast (c2 := T7.1 - T0.1) (s2 := sg T7 - sg T0) (cs_f1 hgl cp0 hg2) (cs_f2 hgl cp0 hg2) ?_
  have hl := lv_sub hl [0, 1, 2, 3, 4, 5, 6] rfl
  rw [show ad l0 = ad2 l0 from (hga l0 (by rw [cp0.1]; exact h_l0)).symm] at hl
  rw [show ad l1 = ad2 l1 from (hga l1 (by rw [cp0.1]; exact h_l1)).symm] at hl
  rw [show ad l4 = ad2 l4 from (hga l4 (by rw [cp0.1]; exact h_l4)).symm] at hl
  exact a_X8_blockPowerOf_b54 E hA hX hN hml hst kr68 hs23 hk23 _ _ _ _ _ _ _ _ _ _ _ _ h (GL.tr (gl_cpr hgl cp0) hg2) hrc2 (fun n hn => (hga n (by rw [cp0.1]; exact Nat.lt_of_lt_of_le hn hgl.1)).trans (had n hn)) (Nat.lt_of_lt_of_le (by rw [cp0.1]; exact h_l0) hg2.1) (Nat.lt_of_lt_of_le (by rw [cp0.1]; exact h_l1) hg2.1) (Nat.lt_of_lt_of_le (by rw [cp0.1]; exact h_l4) hg2.1) G hl
set_option maxHeartbeats 4000000 in
set_option maxRecDepth 100000 in
theorem a_X8_blockPowerOf_b23 {p : Program} {l : Launch} {e : Env} {s : State} {m : MethodId} {args : Array Value} {below : List Frame} {meth : Method} {c : Code} {Q : State → Prop} {D : va_G} {A : Nat → Prop} {cI cJ cZ cMic cSrc cSt cAI cAJ : ClassId} {ad0 : Nat → Nat} {T0 : AT} {T1 : AT} (E : cE p c cX8_blockPowerOf s m args (Cond.code yX8_blockPowerOf cX8_blockPowerOf 8 none :: wsA) D RX8 (CT cI cJ cZ cMic cSrc cSt cAI cAJ)) (hA : ∀ q : Nat, s.heap.size ≤ q → A q) (hX : xT A s) (hN : nX s) (hml : c.maxLocals = 8) (hst : l.stackTraces = false) (kr68 : ∀ (ad : Nat → Nat) (H : Heap) (locs : List Loc) (ls : Array Slot), (∀ n, n < T0.1 → ad n = ad0 n) → gC cI cJ cZ cMic cSrc cSt cAI cAJ D ad A s.heap H locs T1 → W p l e { frames := 4, cells := T1.1 - T0.1, slots := sg T1 - sg T0, locals := 78 } s m args below meth c H locs (T1.1 - T0.1) (sg T1 - sg T0) Q (F0 m 68 ls [])) : ∀ n : Nat, ∀ (T : AT) (ad : Nat → Nat) (H : Heap) (locs : List Loc) (ls : Array Slot) (l0 : Nat) (l1 : Nat) (l3 : Int32) (l4 : Nat) (l5 : Int32) (l6 : Int32) (l7 : Int32), g_X8_blockPowerOf_b23 n T l0 l1 l3 l4 l5 l6 l7 = some T1 → GL T0 T → RC T → (∀ n, n < T0.1 → ad n = ad0 n) → l0 < T.1 → l1 < T.1 → l4 < T.1 → gC cI cJ cZ cMic cSrc cSt cAI cAJ D ad A s.heap H locs T → lv_has ls 8 [(0, .ref (ad l0)), (1, .ref (ad l1)), (3, .int l3), (4, .ref (ad l4)), (5, .int l5), (6, .int l6), (7, .int l7)] → W p l e { frames := 4, cells := T1.1 - T0.1, slots := sg T1 - sg T0, locals := 78 } s m args below meth c H locs (T.1 - T0.1) (sg T - sg T0) Q (F0 m 23 ls []) := by
  have hx := E.1
  have hb := E.2.1
  have hts := E.2.2.1
  have hown := E.2.2.2.1
  have hK := E.2.2.2.2
  intro n
  induction n with
  | zero =>
    intro T ad H locs ls l0 l1 l3 l4 l5 l6 l7 h
    have h : (none : Option (AT)) = some T1 := h
    cases h
  | succ n ih =>
    intro T ad H locs ls l0 l1 l3 l4 l5 l6 l7 h hgl hrc had h_l0 h_l1 h_l4 G hl
    have hT1 := s_X8_blockPowerOf_b23 _ _ _ _ _ _ _ _ _ h
    have hcs := cs_ok hgl hT1
    have cp0 := cpr0 hrc
    unfold g_X8_blockPowerOf_b23 at h
    refine lv_iload hx hb dX8_blockPowerOf_23 (lv_at hl 6 rfl) ?_
    refine lv_iload hx hb dX8_blockPowerOf_25 (lv_at hl 5 rfl) ?_
    refine lv_icmp_ge (tgt := 60) hx hb dX8_blockPowerOf_27 (by decide) (fun c2 => ?_) (fun c2 => ?_)
    · have h := oif_pos c2 h
      refine lv_aload hx hb dX8_blockPowerOf_60 (lv_at hl 3 rfl) ?_
      refine lv_iload hx hb dX8_blockPowerOf_62 (lv_at hl 4 rfl) ?_
      refine lv_iload_n hx hb dX8_blockPowerOf_64 rfl (lv_at hl 2 rfl) ?_
      obtain ⟨g3, h⟩ := oif_some h
      obtain ⟨T4, eT4, h⟩ := obind_some h
      have hg2 := s_X10_divide eT4
      have hrc2 := hg2.2.2 cp0.2.2
      have hT2 := s_X8_blockPowerOf_b68 _ h
      refine q_avv (As := [.int l5, .int l3]) (rest := []) E G hA hX hN hml (a_X10_divide l hst D cI cJ cZ cMic cSrc cSt cAI cAJ ad T l4 l5 l3 eT4 cp0.2.2 (by rw [cp0.1]; exact h_l4)) (cwV 2 hts (gaV qA_104 qA_105 qA_106 qA_6 qA_107) rfl rfl rfl (by decide +kernel) ⟨Nat.le_of_ble_eq_true rfl, Nat.le_of_ble_eq_true rfl⟩) (oO_k g3).1 (cc_o10 (oO_k g3).2) rfl rfl hl.1 rfl (lv_room (Nat.le_of_ble_eq_true rfl)) dX8_blockPowerOf_65 (cs_av hgl cp0 hg2 hT2) (fun ad2 H locs hga G => ?_)
      refine w_cast (c2 := T4.1 - T0.1) (s2 := sg T4 - sg T0) (cs_f1 hgl cp0 hg2) (cs_f2 hgl cp0 hg2) ?_
      have hl := lv_sub hl [] rfl
      exact a_X8_blockPowerOf_b68 E hA hX hN hml hst kr68 _ _ _ _ _ h (GL.tr (gl_cpr hgl cp0) hg2) hrc2 (fun n hn => (hga n (by rw [cp0.1]; exact Nat.lt_of_lt_of_le hn hgl.1)).trans (had n hn)) G hl
    · have h := oif_neg c2 h
      refine lv_aload_n hx hb dX8_blockPowerOf_30 rfl (lv_at hl 0 rfl) ?_
      refine lv_aload_n hx hb dX8_blockPowerOf_31 rfl (lv_at hl 1 rfl) ?_
      refine lv_iload hx hb dX8_blockPowerOf_32 (lv_at hl 6 rfl) ?_
      obtain ⟨g6, h⟩ := oif_some h
      obtain ⟨T7, eT7, h⟩ := obind_some h
      have hg2 := s_X8_focus eT7
      have hrc2 := hg2.2.2 cp0.2.2
      have hT2 := s_X8_blockPowerOf_b37 (s_X8_blockPowerOf_b23 n) _ _ _ _ _ _ _ _ h
      refine q_avv (As := [.ref (ad l1), .int l7]) (rest := []) E G hA hX hN hml (a_X8_focus l hst D cI cJ cZ cMic cSrc cSt cAI cAJ ad T l0 l1 l7 eT7 cp0.2.2 (by rw [cp0.1]; exact h_l0) (by rw [cp0.1]; exact h_l1)) (cwV 2 hts (gaV qA_69 qA_70 qA_71 qA_47 qA_72) rfl rfl rfl (by decide +kernel) ⟨Nat.le_of_ble_eq_true rfl, Nat.le_of_ble_eq_true rfl⟩) (oO_k g6).1 (cc_o8 (oO_k g6).2) rfl rfl hl.1 rfl (lv_room (Nat.le_of_ble_eq_true rfl)) dX8_blockPowerOf_34 (cs_av hgl cp0 hg2 hT2) (fun ad2 H locs hga G => ?_)
      refine w_cast (c2 := T7.1 - T0.1) (s2 := sg T7 - sg T0) (cs_f1 hgl cp0 hg2) (cs_f2 hgl cp0 hg2) ?_
      have hl := lv_sub hl [0, 1, 2, 3, 4, 5, 6] rfl
      rw [show ad l0 = ad2 l0 from (hga l0 (by rw [cp0.1]; exact h_l0)).symm] at hl
      rw [show ad l1 = ad2 l1 from (hga l1 (by rw [cp0.1]; exact h_l1)).symm] at hl
      rw [show ad l4 = ad2 l4 from (hga l4 (by rw [cp0.1]; exact h_l4)).symm] at hl
      exact a_X8_blockPowerOf_b37 E hA hX hN hml hst kr68 (s_X8_blockPowerOf_b23 n) ih _ _ _ _ _ _ _ _ _ _ _ _ h (GL.tr (gl_cpr hgl cp0) hg2) hrc2 (fun n hn => (hga n (by rw [cp0.1]; exact Nat.lt_of_lt_of_le hn hgl.1)).trans (had n hn)) (Nat.lt_of_lt_of_le (by rw [cp0.1]; exact h_l0) hg2.1) (Nat.lt_of_lt_of_le (by rw [cp0.1]; exact h_l1) hg2.1) (Nat.lt_of_lt_of_le (by rw [cp0.1]; exact h_l4) hg2.1) G hl
set_option maxHeartbeats 4000000 in
set_option maxRecDepth 100000 in
theorem a_X8_blockPowerOf (l : Launch) (hst : l.stackTraces = false) (D : va_G) (cI cJ cZ cMic cSrc cSt cAI cAJ : ClassId) (ad : Nat → Nat) (T : AT) (o : Nat) (a0 : Nat) (a1 : Int32) (a2 : Int32) (a3 : Nat) (a4 : Int32) {T1 : AT} (h : g_X8_blockPowerOf T o a0 a1 a2 a3 a4 = some T1) (hrc : RC T) (h_o : o < T.1) (h_a0 : a0 < T.1) (h_a3 : a3 < T.1) : kAv l yX8_blockPowerOf (Cond.code yX8_blockPowerOf cX8_blockPowerOf 8 none :: wsA) 4 78 cI cJ cZ cMic cSrc cSt cAI cAJ D ad T [.ref (ad o), .ref (ad a0), .int a1, .int a2, .ref (ad a3), .int a4] T1 := by
  intro sz
  refine Met.ofW (cc := cX8_blockPowerOf) (maxL := 8) (ret := none) (by decide) rfl ?_
  intro p e s m args below meth c s₁ B hml hv
  obtain ⟨rfl, hsz, hP, hK, hD0, hX, hN⟩ := hv
  have hx := B.exec
  have hb := B.bytes
  have hr := B.returns
  have hts := atoms_spec (ws := (Cond.code yX8_blockPowerOf cX8_blockPowerOf 8 none :: wsA)) B.pre
  have hown : s.vm.findClass RX8 = some m.cls := findClass_of_methodNamed B.named
  have hlocks := B.notSynchronized
  subst hsz
  have hD := hD0.self (sz := s.heap.size)
  generalize hAe : va_A (cW ad T.1 (cc cI cJ cZ cMic cSrc cSt cAI cAJ ad T)) s.heap.size = A at hD hX ⊢
  have hA : ∀ q : Nat, s.heap.size ≤ q → A q := fun q h => by rw [← hAe]; exact Or.inr h
  have G : gC cI cJ cZ cMic cSrc cSt cAI cAJ D ad A s.heap s.heap [] T := ⟨hP, hD, va_S.rf⟩
  have E : cE p c cX8_blockPowerOf s m ([.ref (ad o), .ref (ad a0), .int a1, .int a2, .ref (ad a3), .int a4] : List Value).toArray (Cond.code yX8_blockPowerOf cX8_blockPowerOf 8 none :: wsA) D RX8 (CT cI cJ cZ cMic cSrc cSt cAI cAJ) := ⟨hx, hb, hts, hown, hK⟩
  have hl := lv_entry ([.ref (ad o), .ref (ad a0), .int a1, .int a2, .ref (ad a3), .int a4]) (n := 8) (Nat.le_of_ble_eq_true rfl)
  rw [lg_entry_eq]
  generalize (lg_sl ([.ref (ad o), .ref (ad a0), .int a1, .int a2, .ref (ad a3), .int a4]) ++ List.replicate (8 - (lg_sl ([.ref (ad o), .ref (ad a0), .int a1, .int a2, .ref (ad a3), .int a4])).length) Slot.unset).toArray = ls at hl ⊢
  have hl : lv_has ls 8 [(0, .ref (ad o)), (1, .ref (ad a0)), (2, .int a1), (3, .int a2), (4, .ref (ad a3)), (5, .int a4)] := hl
  have hgl := GL.rf T
  have had : ∀ n, n < T.1 → ad n = ad n := fun _ _ => rfl
  have hT1 := s_X8_blockPowerOf h
  have hcs := cs_ok hgl hT1
  refine w_cast (Nat.sub_self T.1).symm (Nat.sub_self (sg T)).symm ?_
  have cp0 := cpr0 hrc
  unfold g_X8_blockPowerOf at h
  refine lv_iload_n hx hb dX8_blockPowerOf_0 rfl (lv_at hl 2 rfl) ?_
  refine lv_iload_n hx hb dX8_blockPowerOf_1 rfl (lv_at hl 3 rfl) ?_
  refine lv_iadd hx hb dX8_blockPowerOf_2 ?_
  refine lv_topi (fun v2 ev2 => ?_)
  have h := elet_at ev2 h
  clear ev2
  refine lv_aload_n hx hb dX8_blockPowerOf_3 rfl (lv_at hl 0 rfl) ?_
  refine lv_aload_n hx hb dX8_blockPowerOf_4 rfl (lv_at hl 1 rfl) ?_
  obtain ⟨g3, h⟩ := oif_some h
  obtain ⟨r6, T4, eT4, h⟩ := obind2_some h
  refine q_cvi (As := [.ref (ad a0)]) (rest := [.int v2]) E G hA hX hN hml (u_X8_windowOf l hst D cI cJ cZ cMic cSrc cSt cAI cAJ ad T o a0 eT4) (cwV 1 hts (gaV qA_53 qA_54 qA_55 qA_47 qA_56) rfl rfl rfl (by decide +kernel) ⟨Nat.le_of_ble_eq_true rfl, Nat.le_of_ble_eq_true rfl⟩) (oO_k g3).1 (cc_o8 (oO_k g3).2) rfl rfl hl.1 rfl (lv_room (Nat.le_of_ble_eq_true rfl)) dX8_blockPowerOf_5 hcs (fun q7 T5 H locs hq G => ?_)
  obtain ⟨hq1, hq2⟩ := hq
  rw [hq2] at G
  refine lv_to hq1 ?_
  clear hq1 hq2
  have cp1 := cpr_sp cp0 (s_X8_windowOf eT4)
  refine va_mmin hx hb (hml.trans hl.1.symm) hown (hts _ (.tail _ qA_49)) (hts _ (.tail _ qA_50)) (hts _ (.tail _ qA_18)) (hts _ (.tail _ qA_51)) (Nat.le_of_ble_eq_true rfl) (Nat.le_of_ble_eq_true rfl) hcs.1 hcs.2 dX8_blockPowerOf_8 ?_
  refine lv_topi (fun v8 ev8 => ?_)
  have h := elet_at ev8 h
  clear ev8
  refine lv_istore (lv' := [(6, .int v8), (0, .ref (ad o)), (1, .ref (ad a0)), (2, .int a1), (3, .int a2), (4, .ref (ad a3)), (5, .int a4)]) hx hb dX8_blockPowerOf_11 hl (by decide) rfl (fun ls hl => ?_)
  refine lv_aload hx hb dX8_blockPowerOf_13 (lv_at hl 5 rfl) ?_
  refine lv_iload hx hb dX8_blockPowerOf_15 (lv_at hl 6 rfl) ?_
  obtain ⟨g9, h⟩ := oif_some h
  obtain ⟨T10, eT10, h⟩ := obind_some h
  refine q_cvv (As := [.int a4]) (rest := []) E G hA hX hN hml (u_X10_clear l hst D cI cJ cZ cMic cSrc cSt cAI cAJ ad T4 a3 a4 eT10) (cwV 1 hts (gaV qA_65 qA_66 qA_67 qA_6 qA_68) rfl rfl rfl (by decide +kernel) ⟨Nat.le_of_ble_eq_true rfl, Nat.le_of_ble_eq_true rfl⟩) (oO_k g9).1 (cc_o10 (oO_k g9).2) rfl rfl hl.1 rfl (lv_room (Nat.le_of_ble_eq_true rfl)) dX8_blockPowerOf_17 hcs (fun T11 H locs hq G => ?_)
  rw [hq] at G
  clear hq
  have cp2 := cpr_sp cp1 (s_X10_clear eT10)
  refine lv_iload_n hx hb dX8_blockPowerOf_20 rfl (lv_at hl 3 rfl) ?_
  refine lv_istore (lv' := [(7, .int a1), (6, .int v8), (0, .ref (ad o)), (1, .ref (ad a0)), (2, .int a1), (3, .int a2), (4, .ref (ad a3)), (5, .int a4)]) hx hb dX8_blockPowerOf_21 hl (by decide) rfl (fun ls hl => ?_)
  have hl := lv_sub hl [2, 3, 5, 6, 7, 1, 0] rfl
  refine w_cast (c2 := T10.1 - T.1) (s2 := sg T10 - sg T) (by rw [cp2.1] <;> rfl) (by rw [sg_cpr cp2] <;> rfl) ?_
  exact a_X8_blockPowerOf_b23 E hA hX hN hml hst (fun ad H locs ls had G => W.vret hx hb hr (fun t ht hW => ⟨⟨(T1, ad), rfl, ⟨rfl, had⟩, ⟨by rw [ht]; exact G.1, va_K.moved hW.alike hK, G.2.1⟩⟩, G.2.2.F ht⟩) G.2.2.2.2 dX8_blockPowerOf_68) _ _ _ _ _ _ _ _ _ _ _ _ _ h (gl_cpr hgl cp2) cp2.2.2 had (by rw [cp2.1]; exact h_o) (by rw [cp2.1]; exact h_a0) (by rw [cp2.1]; exact h_a3) G hl
def g_X0_measure_b41 (k3 : AT → Nat → Nat → Nat → Int32 → Int32 → Int32 → Int32 → Option (AT)) (T : AT) (l0 : Nat) (l1 : Nat) (l2 : Nat) (l3 : Int32) (l4 : Int32) (l5 : Int32) (l6 : Int32) : Option (AT) := elet (l6 + Int32.ofInt (1)) fun v2 => k3 T l0 l1 l2 l3 l4 l5 v2
def g_X0_measure_b3  : Nat → AT → Nat → Nat → Nat → Int32 → Int32 → Int32 → Int32 → Option (AT)
  | 0, _, _, _, _, _, _, _, _ => none
  | n + 1, T, l0, l1, l2, l3, l4, l5, l6 => oif (oO T l1 6 = true) <| obind (T.2.2.2.2 l1 6) fun n3 => oif (oO T n3 1 = true) <| obind2 (g_X1_cells T n3) fun r7 T5 => if r7 ≤ l6 then (some T5) else (oif (oO T5 l1 6 = true) <| obind (T5.2.2.2.2 l1 17) fun n11 => oif (aA T5 n11 106 = true) <| oif (inb l6 (T5.2.1 n11).2 = true) <| obind (T5.2.2.2.2 n11 l6.toNatClampNeg) fun n14 => oif (oO T5 l0 0 = true) <| obind (T5.2.2.2.2 l0 0) fun n16 => obind (g_X0_rowStart l5) fun r17 => elet (r17 + l6) fun v19 => oif (oO T5 l2 8 = true) <| obind (g_X8_blockPowerOf T5 l2 n14 l3 l4 n16 v19) fun T21 => g_X0_measure_b41 (g_X0_measure_b3 n) T21 l0 l1 l2 l3 l4 l5 l6)
def g_X0_measure (T : AT) (o : Nat) (a0 : Nat) (a1 : Nat) (a2 : Int32) (a3 : Int32) (a4 : Int32) : Option (AT) := g_X0_measure_b3 16384 T o a0 a1 a2 a3 a4 0
set_option maxHeartbeats 4000000 in
set_option maxRecDepth 100000 in
theorem s_X0_measure_b41 {T1 : AT} {k3 : AT → Nat → Nat → Nat → Int32 → Int32 → Int32 → Int32 → Option (AT)} (hk3 : ∀ (T : AT) (l0 : Nat) (l1 : Nat) (l2 : Nat) (l3 : Int32) (l4 : Int32) (l5 : Int32) (l6 : Int32), k3 T l0 l1 l2 l3 l4 l5 l6 = some T1 → GL T T1) : ∀ (T : AT) (l0 : Nat) (l1 : Nat) (l2 : Nat) (l3 : Int32) (l4 : Int32) (l5 : Int32) (l6 : Int32), g_X0_measure_b41 k3 T l0 l1 l2 l3 l4 l5 l6 = some T1 → GL T T1 := by
  intro T l0 l1 l2 l3 l4 l5 l6 h
  have p0 := GL.rf T
  unfold g_X0_measure_b41 at h
  obtain ⟨v2, ev2, h⟩ := elet_some h
  exact GL.tr p0 (hk3 _ _ _ _ _ _ _ _ h)
set_option maxHeartbeats 4000000 in
set_option maxRecDepth 100000 in
theorem s_X0_measure_b3 {T1 : AT} : ∀ n : Nat, ∀ (T : AT) (l0 : Nat) (l1 : Nat) (l2 : Nat) (l3 : Int32) (l4 : Int32) (l5 : Int32) (l6 : Int32), g_X0_measure_b3 n T l0 l1 l2 l3 l4 l5 l6 = some T1 → GL T T1 := by
  intro n
  induction n with
  | zero =>
    intro T l0 l1 l2 l3 l4 l5 l6 h
    have h : (none : Option (AT)) = some T1 := h
    cases h
  | succ n ih =>
    intro T l0 l1 l2 l3 l4 l5 l6 h
    have p0 := GL.rf T
    unfold g_X0_measure_b3 at h
    obtain ⟨g2, h⟩ := oif_some h
    obtain ⟨n3, en3, h⟩ := obind_some h
    obtain ⟨g4, h⟩ := oif_some h
    obtain ⟨r6, T5, eT5, h⟩ := obind2_some h
    have p1 : GL T T5 := GL.tr p0 (gl_sp (s_X1_cells eT5))
    rcases oif_or h with ⟨c7, h⟩ | ⟨c7, h⟩
    · have h := h
      rw [← osome1 h]
      exact p1
    · have h := h
      obtain ⟨g8, h⟩ := oif_some h
      obtain ⟨n9, en9, h⟩ := obind_some h
      obtain ⟨g10, h⟩ := oif_some h
      obtain ⟨g11, h⟩ := oif_some h
      obtain ⟨n12, en12, h⟩ := obind_some h
      obtain ⟨g13, h⟩ := oif_some h
      obtain ⟨n14, en14, h⟩ := obind_some h
      obtain ⟨r15, -, h⟩ := obind_some h
      obtain ⟨v16, -, h⟩ := elet_some h
      obtain ⟨g17, h⟩ := oif_some h
      obtain ⟨T18, eT18, h⟩ := obind_some h
      have p2 : GL T T18 := GL.tr p1 (s_X8_blockPowerOf eT18)
      exact GL.tr p2 (s_X0_measure_b41 ih _ _ _ _ _ _ _ _ h)
set_option maxHeartbeats 4000000 in
set_option maxRecDepth 100000 in
theorem s_X0_measure {T : AT} {o : Nat} {a0 : Nat} {a1 : Nat} {a2 : Int32} {a3 : Int32} {a4 : Int32} {T1 : AT} (h : g_X0_measure T o a0 a1 a2 a3 a4 = some T1) : GL T T1 := by
  have p0 := GL.rf T
  unfold g_X0_measure at h
  exact GL.tr p0 (s_X0_measure_b3 _ _ _ _ _ _ _ _ _ h)
set_option maxHeartbeats 4000000 in
set_option maxRecDepth 100000 in
theorem a_X0_measure_b41 {p : Program} {l : Launch} {e : Env} {s : State} {m : MethodId} {args : Array Value} {below : List Frame} {meth : Method} {c : Code} {Q : State → Prop} {D : va_G} {A : Nat → Prop} {cI cJ cZ cMic cSrc cSt cAI cAJ : ClassId} {ad0 : Nat → Nat} {T0 : AT} {T1 : AT} (E : cE p c cX0_measure s m args (Cond.code yX0_measure cX0_measure 7 none :: wsA) D RX0 (CT cI cJ cZ cMic cSrc cSt cAI cAJ)) (hA : ∀ q : Nat, s.heap.size ≤ q → A q) (hX : xT A s) (hN : nX s) (hml : c.maxLocals = 7) (hst : l.stackTraces = false) (kr47 : ∀ (ad : Nat → Nat) (H : Heap) (locs : List Loc) (ls : Array Slot), (∀ n, n < T0.1 → ad n = ad0 n) → gC cI cJ cZ cMic cSrc cSt cAI cAJ D ad A s.heap H locs T1 → W p l e { frames := 5, cells := T1.1 - T0.1, slots := sg T1 - sg T0, locals := 105 } s m args below meth c H locs (T1.1 - T0.1) (sg T1 - sg T0) Q (F0 m 47 ls [])) {k3 : AT → Nat → Nat → Nat → Int32 → Int32 → Int32 → Int32 → Option (AT)} (hs3 : ∀ (T : AT) (l0 : Nat) (l1 : Nat) (l2 : Nat) (l3 : Int32) (l4 : Int32) (l5 : Int32) (l6 : Int32), k3 T l0 l1 l2 l3 l4 l5 l6 = some T1 → GL T T1) (hk3 : ∀ (T : AT) (ad : Nat → Nat) (H : Heap) (locs : List Loc) (ls : Array Slot) (l0 : Nat) (l1 : Nat) (l2 : Nat) (l3 : Int32) (l4 : Int32) (l5 : Int32) (l6 : Int32), k3 T l0 l1 l2 l3 l4 l5 l6 = some T1 → GL T0 T → RC T → (∀ n, n < T0.1 → ad n = ad0 n) → l0 < T.1 → l1 < T.1 → l2 < T.1 → gC cI cJ cZ cMic cSrc cSt cAI cAJ D ad A s.heap H locs T → lv_has ls 7 [(0, .ref (ad l0)), (1, .ref (ad l1)), (2, .ref (ad l2)), (3, .int l3), (4, .int l4), (5, .int l5), (6, .int l6)] → W p l e { frames := 5, cells := T1.1 - T0.1, slots := sg T1 - sg T0, locals := 105 } s m args below meth c H locs (T.1 - T0.1) (sg T - sg T0) Q (F0 m 3 ls [])) : ∀ (T : AT) (ad : Nat → Nat) (H : Heap) (locs : List Loc) (ls : Array Slot) (l0 : Nat) (l1 : Nat) (l2 : Nat) (l3 : Int32) (l4 : Int32) (l5 : Int32) (l6 : Int32), g_X0_measure_b41 k3 T l0 l1 l2 l3 l4 l5 l6 = some T1 → GL T0 T → RC T → (∀ n, n < T0.1 → ad n = ad0 n) → l0 < T.1 → l1 < T.1 → l2 < T.1 → gC cI cJ cZ cMic cSrc cSt cAI cAJ D ad A s.heap H locs T → lv_has ls 7 [(0, .ref (ad l0)), (1, .ref (ad l1)), (2, .ref (ad l2)), (3, .int l3), (4, .int l4), (5, .int l5), (6, .int l6)] → W p l e { frames := 5, cells := T1.1 - T0.1, slots := sg T1 - sg T0, locals := 105 } s m args below meth c H locs (T.1 - T0.1) (sg T - sg T0) Q (F0 m 41 ls []) := by
  have hx := E.1
  have hb := E.2.1
  have hts := E.2.2.1
  have hown := E.2.2.2.1
  have hK := E.2.2.2.2
  intro T ad H locs ls l0 l1 l2 l3 l4 l5 l6 h hgl hrc had h_l0 h_l1 h_l2 G hl
  have hT1 := s_X0_measure_b41 hs3 _ _ _ _ _ _ _ _ h
  have hcs := cs_ok hgl hT1
  have cp0 := cpr0 hrc
  unfold g_X0_measure_b41 at h
  obtain ⟨v2, ev2, h⟩ := elet_some h
  refine lv_iinc (v := v2) (lv' := [(6, .int v2), (0, .ref (ad l0)), (1, .ref (ad l1)), (2, .ref (ad l2)), (3, .int l3), (4, .int l4), (5, .int l5)]) hx hb dX0_measure_41 hl (k := 6) rfl ev2.symm (by decide) rfl (fun ls hl => ?_)
  refine lv_goto (tgt := 3) hx hb dX0_measure_44 (by decide) ?_
  have hl := lv_sub hl [1, 2, 3, 4, 5, 6, 0] rfl
  refine w_cast (c2 := T.1 - T0.1) (s2 := sg T - sg T0) (by rw [cp0.1] <;> rfl) (by rw [sg_cpr cp0] <;> rfl) ?_
  exact hk3 _ _ _ _ _ _ _ _ _ _ _ _ h (gl_cpr hgl cp0) cp0.2.2 had (by rw [cp0.1]; exact h_l0) (by rw [cp0.1]; exact h_l1) (by rw [cp0.1]; exact h_l2) G hl
set_option maxHeartbeats 4000000 in
set_option maxRecDepth 100000 in
theorem a_X0_measure_b3 {p : Program} {l : Launch} {e : Env} {s : State} {m : MethodId} {args : Array Value} {below : List Frame} {meth : Method} {c : Code} {Q : State → Prop} {D : va_G} {A : Nat → Prop} {cI cJ cZ cMic cSrc cSt cAI cAJ : ClassId} {ad0 : Nat → Nat} {T0 : AT} {T1 : AT} (E : cE p c cX0_measure s m args (Cond.code yX0_measure cX0_measure 7 none :: wsA) D RX0 (CT cI cJ cZ cMic cSrc cSt cAI cAJ)) (hA : ∀ q : Nat, s.heap.size ≤ q → A q) (hX : xT A s) (hN : nX s) (hml : c.maxLocals = 7) (hst : l.stackTraces = false) (kr47 : ∀ (ad : Nat → Nat) (H : Heap) (locs : List Loc) (ls : Array Slot), (∀ n, n < T0.1 → ad n = ad0 n) → gC cI cJ cZ cMic cSrc cSt cAI cAJ D ad A s.heap H locs T1 → W p l e { frames := 5, cells := T1.1 - T0.1, slots := sg T1 - sg T0, locals := 105 } s m args below meth c H locs (T1.1 - T0.1) (sg T1 - sg T0) Q (F0 m 47 ls [])) : ∀ n : Nat, ∀ (T : AT) (ad : Nat → Nat) (H : Heap) (locs : List Loc) (ls : Array Slot) (l0 : Nat) (l1 : Nat) (l2 : Nat) (l3 : Int32) (l4 : Int32) (l5 : Int32) (l6 : Int32), g_X0_measure_b3 n T l0 l1 l2 l3 l4 l5 l6 = some T1 → GL T0 T → RC T → (∀ n, n < T0.1 → ad n = ad0 n) → l0 < T.1 → l1 < T.1 → l2 < T.1 → gC cI cJ cZ cMic cSrc cSt cAI cAJ D ad A s.heap H locs T → lv_has ls 7 [(0, .ref (ad l0)), (1, .ref (ad l1)), (2, .ref (ad l2)), (3, .int l3), (4, .int l4), (5, .int l5), (6, .int l6)] → W p l e { frames := 5, cells := T1.1 - T0.1, slots := sg T1 - sg T0, locals := 105 } s m args below meth c H locs (T.1 - T0.1) (sg T - sg T0) Q (F0 m 3 ls []) := by
  have hx := E.1
  have hb := E.2.1
  have hts := E.2.2.1
  have hown := E.2.2.2.1
  have hK := E.2.2.2.2
  intro n
  induction n with
  | zero =>
    intro T ad H locs ls l0 l1 l2 l3 l4 l5 l6 h
    have h : (none : Option (AT)) = some T1 := h
    cases h
  | succ n ih =>
    intro T ad H locs ls l0 l1 l2 l3 l4 l5 l6 h hgl hrc had h_l0 h_l1 h_l2 G hl
    have hT1 := s_X0_measure_b3 _ _ _ _ _ _ _ _ _ h
    have hcs := cs_ok hgl hT1
    have cp0 := cpr0 hrc
    unfold g_X0_measure_b3 at h
    refine lv_iload hx hb dX0_measure_3 (lv_at hl 6 rfl) ?_
    refine lv_aload_n hx hb dX0_measure_5 rfl (lv_at hl 1 rfl) ?_
    obtain ⟨g2, h⟩ := oif_some h
    obtain ⟨n3, en3, h⟩ := obind_some h
    have h_n3 : n3 < T.1 := by rw [← cp0.1]; exact cp0.2.2 _ _ _ en3
    refine c_get E G l1 6 (v := .ref (ad n3)) (oO_k g2).1 (cc_o6 (oO_k g2).2) rfl (fun w h => .tail _ (iA_14 h)) (by decide) (.tail _ qA_22) rfl (by rw [en3]; rfl) dX0_measure_6 ?_
    clear en3
    obtain ⟨g4, h⟩ := oif_some h
    obtain ⟨r7, T5, eT5, h⟩ := obind2_some h
    refine q_cvi (As := []) (rest := [.int l6]) E G hA hX hN hml (u_X1_cells l hst D cI cJ cZ cMic cSrc cSt cAI cAJ ad T n3 eT5) (cwV 0 hts (gaV qA_34 qA_35 qA_36 qA_37 qA_38) rfl rfl rfl (by decide +kernel) ⟨Nat.le_of_ble_eq_true rfl, Nat.le_of_ble_eq_true rfl⟩) (oO_k g4).1 (cc_o1 (oO_k g4).2) rfl rfl hl.1 rfl (lv_room (Nat.le_of_ble_eq_true rfl)) dX0_measure_9 hcs (fun q8 T6 H locs hq G => ?_)
    obtain ⟨hq1, hq2⟩ := hq
    rw [hq2] at G
    refine lv_to hq1 ?_
    clear hq1 hq2
    have cp1 := cpr_sp cp0 (s_X1_cells eT5)
    refine lv_icmp_ge (tgt := 47) hx hb dX0_measure_12 (by decide) (fun c9 => ?_) (fun c9 => ?_)
    · have h := oif_pos c9 h
      rw [osome1 h] at G
      refine w_cast (c2 := T1.1 - T0.1) (s2 := sg T1 - sg T0) (by rw [← osome1 h, cp1.1] <;> rfl) (by rw [← osome1 h, sg_cpr cp1] <;> rfl) ?_
      exact kr47 ad _ _ _ had G
    · have h := oif_neg c9 h
      refine lv_aload_n hx hb dX0_measure_15 rfl (lv_at hl 2 rfl) ?_
      refine lv_aload_n hx hb dX0_measure_16 rfl (lv_at hl 1 rfl) ?_
      obtain ⟨g10, h⟩ := oif_some h
      obtain ⟨n11, en11, h⟩ := obind_some h
      have h_n11 : n11 < T.1 := by rw [← cp1.1]; exact cp1.2.2 _ _ _ en11
      refine c_get E G l1 17 (v := .ref (ad n11)) (oO_k g10).1 (cc_o6 (oO_k g10).2) rfl (fun w h => .tail _ (iA_14 h)) (by decide) (.tail _ qA_33) rfl (by rw [en11]; rfl) dX0_measure_17 ?_
      clear en11
      refine lv_iload hx hb dX0_measure_20 (lv_at hl 6 rfl) ?_
      obtain ⟨g12, h⟩ := oif_some h
      obtain ⟨g13, h⟩ := oif_some h
      obtain ⟨n14, en14, h⟩ := obind_some h
      have h_n14 : n14 < T.1 := by rw [← cp1.1]; exact cp1.2.2 _ _ _ en14
      refine c_alda E G n11 6 (k := l6.toNatClampNeg) (v := .ref (ad n14)) (aA_k g12).1 (cc_a106 (aA_k g12).2.1) rfl (inb_k g13).1 (inb_k g13).2 (aA_k g12).2.2 (by show va_rf ((T5.2.2.2.2 n11 l6.toNatClampNeg).map ad) = _; rw [en14]; rfl) dX0_measure_22 ?_
      clear en14
      refine lv_iload_n hx hb dX0_measure_23 rfl (lv_at hl 3 rfl) ?_
      refine lv_iload hx hb dX0_measure_24 (lv_at hl 4 rfl) ?_
      refine lv_aload_n hx hb dX0_measure_26 rfl (lv_at hl 0 rfl) ?_
      obtain ⟨g15, h⟩ := oif_some h
      obtain ⟨n16, en16, h⟩ := obind_some h
      have h_n16 : n16 < T.1 := by rw [← cp1.1]; exact cp1.2.2 _ _ _ en16
      refine c_get E G l0 0 (v := .ref (ad n16)) (oO_k g15).1 (cc_o0 (oO_k g15).2) rfl (fun w h => .tail _ (iA_13 h)) (by decide) (.tail _ qA_7) rfl (by rw [en16]; rfl) dX0_measure_27 ?_
      clear en16
      refine lv_iload hx hb dX0_measure_30 (lv_at hl 5 rfl) ?_
      obtain ⟨r17, er17, h⟩ := obind_some h
      refine q_sti (As := [.int l5]) (rest := [.ref (ad n16), .int l4, .int l3, .ref (ad n14), .ref (ad l2)]) ⟨hx, hb, hml, hown, hts⟩ hN (u_X0_rowStart l l5 er17) (cwS 1 hts (gaS qA_41 qA_42 qA_31 qA_43) rfl rfl rfl (by decide +kernel) ⟨Nat.le_of_ble_eq_true rfl, Nat.le_of_ble_eq_true rfl⟩) rfl hl.1 rfl (lv_room (Nat.le_of_ble_eq_true rfl)) dX0_measure_32 hcs (fun q18 hq => ?_)
      refine lv_to hq ?_
      clear hq er17
      refine lv_iload hx hb dX0_measure_35 (lv_at hl 6 rfl) ?_
      refine lv_iadd hx hb dX0_measure_37 ?_
      refine lv_topi (fun v19 ev19 => ?_)
      have h := elet_at ev19 h
      clear ev19
      obtain ⟨g20, h⟩ := oif_some h
      obtain ⟨T21, eT21, h⟩ := obind_some h
      have hg2 := s_X8_blockPowerOf eT21
      have hrc2 := hg2.2.2 cp1.2.2
      have hT2 := s_X0_measure_b41 (s_X0_measure_b3 n) _ _ _ _ _ _ _ _ h
      refine q_avv (As := [.ref (ad n14), .int l3, .int l4, .ref (ad n16), .int v19]) (rest := []) E G hA hX hN hml (a_X8_blockPowerOf l hst D cI cJ cZ cMic cSrc cSt cAI cAJ ad T5 l2 n14 l3 l4 n16 v19 eT21 cp1.2.2 (by rw [cp1.1]; exact h_l2) (by rw [cp1.1]; exact h_n14) (by rw [cp1.1]; exact h_n16)) (cwV 5 hts (gaV qA_44 qA_45 qA_46 qA_47 qA_48) rfl rfl rfl (by decide +kernel) ⟨Nat.le_of_ble_eq_true rfl, Nat.le_of_ble_eq_true rfl⟩) (oO_k g20).1 (cc_o8 (oO_k g20).2) rfl rfl hl.1 rfl (lv_room (Nat.le_of_ble_eq_true rfl)) dX0_measure_38 (cs_av hgl cp1 hg2 hT2) (fun ad2 H locs hga G => ?_)
      refine w_cast (c2 := T21.1 - T0.1) (s2 := sg T21 - sg T0) (cs_f1 hgl cp1 hg2) (cs_f2 hgl cp1 hg2) ?_
      have hl := lv_sub hl [0, 1, 2, 3, 4, 5, 6] rfl
      rw [show ad l0 = ad2 l0 from (hga l0 (by rw [cp1.1]; exact h_l0)).symm] at hl
      rw [show ad l1 = ad2 l1 from (hga l1 (by rw [cp1.1]; exact h_l1)).symm] at hl
      rw [show ad l2 = ad2 l2 from (hga l2 (by rw [cp1.1]; exact h_l2)).symm] at hl
      exact a_X0_measure_b41 E hA hX hN hml hst kr47 (s_X0_measure_b3 n) ih _ _ _ _ _ _ _ _ _ _ _ _ h (GL.tr (gl_cpr hgl cp1) hg2) hrc2 (fun n hn => (hga n (by rw [cp1.1]; exact Nat.lt_of_lt_of_le hn hgl.1)).trans (had n hn)) (Nat.lt_of_lt_of_le (by rw [cp1.1]; exact h_l0) hg2.1) (Nat.lt_of_lt_of_le (by rw [cp1.1]; exact h_l1) hg2.1) (Nat.lt_of_lt_of_le (by rw [cp1.1]; exact h_l2) hg2.1) G hl
set_option maxHeartbeats 4000000 in
set_option maxRecDepth 100000 in
theorem a_X0_measure (l : Launch) (hst : l.stackTraces = false) (D : va_G) (cI cJ cZ cMic cSrc cSt cAI cAJ : ClassId) (ad : Nat → Nat) (T : AT) (o : Nat) (a0 : Nat) (a1 : Nat) (a2 : Int32) (a3 : Int32) (a4 : Int32) {T1 : AT} (h : g_X0_measure T o a0 a1 a2 a3 a4 = some T1) (hrc : RC T) (h_o : o < T.1) (h_a0 : a0 < T.1) (h_a1 : a1 < T.1) : kAv l yX0_measure (Cond.code yX0_measure cX0_measure 7 none :: wsA) 5 105 cI cJ cZ cMic cSrc cSt cAI cAJ D ad T [.ref (ad o), .ref (ad a0), .ref (ad a1), .int a2, .int a3, .int a4] T1 := by
  intro sz
  refine Met.ofW (cc := cX0_measure) (maxL := 7) (ret := none) (by decide) rfl ?_
  intro p e s m args below meth c s₁ B hml hv
  obtain ⟨rfl, hsz, hP, hK, hD0, hX, hN⟩ := hv
  have hx := B.exec
  have hb := B.bytes
  have hr := B.returns
  have hts := atoms_spec (ws := (Cond.code yX0_measure cX0_measure 7 none :: wsA)) B.pre
  have hown : s.vm.findClass RX0 = some m.cls := findClass_of_methodNamed B.named
  have hlocks := B.notSynchronized
  subst hsz
  have hD := hD0.self (sz := s.heap.size)
  generalize hAe : va_A (cW ad T.1 (cc cI cJ cZ cMic cSrc cSt cAI cAJ ad T)) s.heap.size = A at hD hX ⊢
  have hA : ∀ q : Nat, s.heap.size ≤ q → A q := fun q h => by rw [← hAe]; exact Or.inr h
  have G : gC cI cJ cZ cMic cSrc cSt cAI cAJ D ad A s.heap s.heap [] T := ⟨hP, hD, va_S.rf⟩
  have E : cE p c cX0_measure s m ([.ref (ad o), .ref (ad a0), .ref (ad a1), .int a2, .int a3, .int a4] : List Value).toArray (Cond.code yX0_measure cX0_measure 7 none :: wsA) D RX0 (CT cI cJ cZ cMic cSrc cSt cAI cAJ) := ⟨hx, hb, hts, hown, hK⟩
  have hl := lv_entry ([.ref (ad o), .ref (ad a0), .ref (ad a1), .int a2, .int a3, .int a4]) (n := 7) (Nat.le_of_ble_eq_true rfl)
  rw [lg_entry_eq]
  generalize (lg_sl ([.ref (ad o), .ref (ad a0), .ref (ad a1), .int a2, .int a3, .int a4]) ++ List.replicate (7 - (lg_sl ([.ref (ad o), .ref (ad a0), .ref (ad a1), .int a2, .int a3, .int a4])).length) Slot.unset).toArray = ls at hl ⊢
  have hl : lv_has ls 7 [(0, .ref (ad o)), (1, .ref (ad a0)), (2, .ref (ad a1)), (3, .int a2), (4, .int a3), (5, .int a4)] := hl
  have hgl := GL.rf T
  have had : ∀ n, n < T.1 → ad n = ad n := fun _ _ => rfl
  have hT1 := s_X0_measure h
  have hcs := cs_ok hgl hT1
  refine w_cast (Nat.sub_self T.1).symm (Nat.sub_self (sg T)).symm ?_
  have cp0 := cpr0 hrc
  unfold g_X0_measure at h
  refine lv_iconst (v := 0) hx hb dX0_measure_0 (by decide) ?_
  refine lv_istore (lv' := [(6, .int 0), (0, .ref (ad o)), (1, .ref (ad a0)), (2, .ref (ad a1)), (3, .int a2), (4, .int a3), (5, .int a4)]) hx hb dX0_measure_1 hl (by decide) rfl (fun ls hl => ?_)
  have hl := lv_sub hl [1, 2, 3, 4, 5, 6, 0] rfl
  refine w_cast (c2 := T.1 - T.1) (s2 := sg T - sg T) (by rw [cp0.1] <;> rfl) (by rw [sg_cpr cp0] <;> rfl) ?_
  exact a_X0_measure_b3 E hA hX hN hml hst (fun ad H locs ls had G => W.vret hx hb hr (fun t ht hW => ⟨⟨(T1, ad), rfl, ⟨rfl, had⟩, ⟨by rw [ht]; exact G.1, va_K.moved hW.alike hK, G.2.1⟩⟩, G.2.2.F ht⟩) G.2.2.2.2 dX0_measure_47) _ _ _ _ _ _ _ _ _ _ _ _ _ h (gl_cpr hgl cp0) cp0.2.2 had (by rw [cp0.1]; exact h_o) (by rw [cp0.1]; exact h_a0) (by rw [cp0.1]; exact h_a1) G hl
def g_J13_compare_74951_b21   (s0 : Int32) : Option (Int32) := some s0
set_option maxHeartbeats 4000000 in
set_option maxRecDepth 100000 in
theorem u_J13_compare_74951_b21 {p : Program} {l : Launch} {e : Env} {s : State} {m : MethodId} {args : Array Value} {below : List Frame} {meth : Method} {c : Code} {Q : State → Prop} {r1 : Int32}  (E : p.tables.exec = Jvm.exec ∧ c.code = cJ13_compare_74951 ∧ (∀ w ∈ (Cond.code yJ13_compare_74951 cJ13_compare_74951 4 (some .int) :: wsA), w.before args s = true) ∧ s.vm.findClass RJ13 = some m.cls) (hN : nX s) (hml : c.maxLocals = 4) (kr21 : ∀ (ls : Array Slot), W p l e { frames := 1, cells := 0, slots := 0, locals := 0 } s m args below meth c s.heap [] 0 0 Q (F0 m 21 ls [.int r1])) : ∀ (ls : Array Slot) (s0 : Int32), g_J13_compare_74951_b21 s0 = some r1 → lv_has ls 4 [] → W p l e { frames := 1, cells := 0, slots := 0, locals := 0 } s m args below meth c s.heap [] 0 0 Q (F0 m 21 ls [.int s0]) := by
  have hx := E.1
  have hb := E.2.1
  have hts := E.2.2.1
  have hown := E.2.2.2
  intro ls s0 h hl
  unfold g_J13_compare_74951_b21 at h
  refine lv_to (osome1 h) ?_
  exact kr21 _
def g_J13_compare_74951  (a0 : Int64) (a1 : Int64) : Option (Int32) := elet (lg_cmp a0 a1) fun v2 => if 0 ≤ v2 then (elet (lg_cmp a0 a1) fun v4 => if v4 = 0 then (g_J13_compare_74951_b21 0) else (g_J13_compare_74951_b21 1)) else (g_J13_compare_74951_b21 (-1))
set_option maxHeartbeats 4000000 in
set_option maxRecDepth 100000 in
theorem u_J13_compare_74951 (l : Launch) (a0 : Int64) (a1 : Int64) {r1 : Int32} (h : g_J13_compare_74951 a0 a1 = some r1) : Met l yJ13_compare_74951 (Cond.code yJ13_compare_74951 cJ13_compare_74951 4 (some .int) :: wsA) { frames := 1, cells := 0, slots := 0, locals := 0 } (va_Pc [.long a0, .long a1] nX) (vp_Si (fun r => r = r1)) 0 0 (fun _ => False) := by
  refine Met.ofW (cc := cJ13_compare_74951) (maxL := 4) (ret := (some .int)) (by decide) rfl ?_
  intro p e s m args below meth c s₁ B hml hv
  obtain ⟨rfl, hN⟩ := hv
  have hx := B.exec
  have hb := B.bytes
  have hr := B.returns
  have hts := atoms_spec (ws := (Cond.code yJ13_compare_74951 cJ13_compare_74951 4 (some .int) :: wsA)) B.pre
  have hown : s.vm.findClass RJ13 = some m.cls := findClass_of_methodNamed B.named
  have hlocks := B.notSynchronized
  have E : p.tables.exec = Jvm.exec ∧ c.code = cJ13_compare_74951 ∧ (∀ w ∈ (Cond.code yJ13_compare_74951 cJ13_compare_74951 4 (some .int) :: wsA), w.before ([.long a0, .long a1] : List Value).toArray s = true) ∧ s.vm.findClass RJ13 = some m.cls := ⟨hx, hb, hts, hown⟩
  have hl := lv_entry ([.long a0, .long a1]) (n := 4) (Nat.le_of_ble_eq_true rfl)
  rw [lg_entry_eq]
  generalize (lg_sl ([.long a0, .long a1]) ++ List.replicate (4 - (lg_sl ([.long a0, .long a1])).length) Slot.unset).toArray = ls at hl ⊢
  have hl : lv_has ls 4 [(0, .long a0), (2, .long a1)] := hl
  unfold g_J13_compare_74951 at h
  refine lv_lload_n hx hb dJ13_compare_74951_0 rfl (lv_at hl 0 rfl) ?_
  refine lv_lload_n hx hb dJ13_compare_74951_1 rfl (lv_at hl 1 rfl) ?_
  refine W.lcmp hx hb dJ13_compare_74951_2 ?_
  refine lv_topi (fun v2 ev2 => ?_)
  have h := elet_at ev2 h
  clear ev2
  refine lv_if_ge (tgt := 10) hx hb dJ13_compare_74951_3 (by decide) (fun c3 => ?_) (fun c3 => ?_)
  · have h := oif_pos c3 h
    refine lv_lload_n hx hb dJ13_compare_74951_10 rfl (lv_at hl 0 rfl) ?_
    refine lv_lload_n hx hb dJ13_compare_74951_11 rfl (lv_at hl 1 rfl) ?_
    refine W.lcmp hx hb dJ13_compare_74951_12 ?_
    refine lv_topi (fun v4 ev4 => ?_)
    have h := elet_at ev4 h
    clear ev4
    refine lv_if_ne (tgt := 20) hx hb dJ13_compare_74951_13 (by decide) (fun c5 => ?_) (fun c5 => ?_)
    · have h := oif_neg c5 h
      refine lv_iconst (v := 1) hx hb dJ13_compare_74951_20 (by decide) ?_
      have hl := lv_sub hl [] rfl
      exact u_J13_compare_74951_b21 E hN hml (fun ls => W.iret (v := r1) hx hb hr (fun t ht hW => ⟨r1, rfl, rfl, ht⟩) (fun _ h => absurd h List.not_mem_nil) dJ13_compare_74951_21) _ _ h hl
    · have h := oif_pos c5 h
      refine lv_iconst (v := 0) hx hb dJ13_compare_74951_16 (by decide) ?_
      refine lv_goto (tgt := 21) hx hb dJ13_compare_74951_17 (by decide) ?_
      have hl := lv_sub hl [] rfl
      exact u_J13_compare_74951_b21 E hN hml (fun ls => W.iret (v := r1) hx hb hr (fun t ht hW => ⟨r1, rfl, rfl, ht⟩) (fun _ h => absurd h List.not_mem_nil) dJ13_compare_74951_21) _ _ h hl
  · have h := oif_neg c3 h
    refine lv_iconst (v := (-1)) hx hb dJ13_compare_74951_6 (by decide) ?_
    refine lv_goto (tgt := 21) hx hb dJ13_compare_74951_7 (by decide) ?_
    have hl := lv_sub hl [] rfl
    exact u_J13_compare_74951_b21 E hN hml (fun ls => W.iret (v := r1) hx hb hr (fun t ht hW => ⟨r1, rfl, rfl, ht⟩) (fun _ h => absurd h List.not_mem_nil) dJ13_compare_74951_21) _ _ h hl
def g_X10_compare_b47  (T : AT) (l3 : Int32) : Option (Int32 × AT) := some (l3, T)
set_option maxHeartbeats 4000000 in
set_option maxRecDepth 100000 in
theorem u_X10_compare_b47 {p : Program} {l : Launch} {e : Env} {s : State} {m : MethodId} {args : Array Value} {below : List Frame} {meth : Method} {c : Code} {Q : State → Prop} {D : va_G} {A : Nat → Prop} {cI cJ cZ cMic cSrc cSt cAI cAJ : ClassId} {ad : Nat → Nat} {r1 : Int32} {T1 : AT} (E : cE p c cX10_compare s m args (Cond.code yX10_compare cX10_compare 5 (some .int) :: wsA) D RX10 (CT cI cJ cZ cMic cSrc cSt cAI cAJ)) (hA : ∀ q : Nat, s.heap.size ≤ q → A q) (hX : xT A s) (hN : nX s) (hml : c.maxLocals = 5) (hst : l.stackTraces = false) (kr48 : ∀ (H : Heap) (locs : List Loc) (ls : Array Slot), gC cI cJ cZ cMic cSrc cSt cAI cAJ D ad A s.heap H locs T1 → W p l e { frames := 2, cells := 0, slots := 0, locals := 23 } s m args below meth c H locs 0 0 Q (F0 m 48 ls [.int r1])) : ∀ (T : AT) (H : Heap) (locs : List Loc) (ls : Array Slot) (l3 : Int32), g_X10_compare_b47 T l3 = some (r1, T1) → gC cI cJ cZ cMic cSrc cSt cAI cAJ D ad A s.heap H locs T → lv_has ls 5 [(3, .int l3)] → W p l e { frames := 2, cells := 0, slots := 0, locals := 23 } s m args below meth c H locs 0 0 Q (F0 m 47 ls []) := by
  have hx := E.1
  have hb := E.2.1
  have hts := E.2.2.1
  have hown := E.2.2.2.1
  have hK := E.2.2.2.2
  intro T H locs ls l3 h G hl
  unfold g_X10_compare_b47 at h
  refine lv_iload_n hx hb dX10_compare_47 rfl (lv_at hl 0 rfl) ?_
  rw [(osome2 h).2] at G
  refine lv_to (osome2 h).1 ?_
  exact kr48 _ _ _ G
def g_X10_compare_b10  : Nat → AT → Nat → Int32 → Int32 → Int32 → Int32 → Option (Int32 × AT)
  | 0, _, _, _, _, _, _ => none
  | n + 1, T, l0, l1, l2, l3, l4 => if l4 < 0 then (g_X10_compare_b47 T l3) else (if l3 = 0 then (oif (oO T l0 10 = true) <| obind (T.2.2.2.2 l0 1) fun n5 => oif (aA T n5 107 = true) <| oif (inb l4 (T.2.1 n5).2 = true) <| obind (T.2.2.2.2 n5 l4.toNatClampNeg) fun n8 => oif (aA T n8 101 = true) <| oif (inb l1 (T.2.1 n8).2 = true) <| elet (T.2.2.2.1 n8 l1.toNatClampNeg) fun v11 => oif (oO T l0 10 = true) <| obind (T.2.2.2.2 l0 1) fun n13 => oif (aA T n13 107 = true) <| oif (inb l4 (T.2.1 n13).2 = true) <| obind (T.2.2.2.2 n13 l4.toNatClampNeg) fun n16 => oif (aA T n16 101 = true) <| oif (inb l2 (T.2.1 n16).2 = true) <| elet (T.2.2.2.1 n16 l2.toNatClampNeg) fun v19 => obind (g_J13_compare_74951 v11 v19) fun r20 => elet (l4 + Int32.ofInt (-1)) fun v22 => g_X10_compare_b10 n T l0 l1 l2 r20 v22) else (g_X10_compare_b47 T l3))
set_option maxHeartbeats 4000000 in
set_option maxRecDepth 100000 in
theorem u_X10_compare_b10 {p : Program} {l : Launch} {e : Env} {s : State} {m : MethodId} {args : Array Value} {below : List Frame} {meth : Method} {c : Code} {Q : State → Prop} {D : va_G} {A : Nat → Prop} {cI cJ cZ cMic cSrc cSt cAI cAJ : ClassId} {ad : Nat → Nat} {r1 : Int32} {T1 : AT} (E : cE p c cX10_compare s m args (Cond.code yX10_compare cX10_compare 5 (some .int) :: wsA) D RX10 (CT cI cJ cZ cMic cSrc cSt cAI cAJ)) (hA : ∀ q : Nat, s.heap.size ≤ q → A q) (hX : xT A s) (hN : nX s) (hml : c.maxLocals = 5) (hst : l.stackTraces = false) (kr48 : ∀ (H : Heap) (locs : List Loc) (ls : Array Slot), gC cI cJ cZ cMic cSrc cSt cAI cAJ D ad A s.heap H locs T1 → W p l e { frames := 2, cells := 0, slots := 0, locals := 23 } s m args below meth c H locs 0 0 Q (F0 m 48 ls [.int r1])) : ∀ n : Nat, ∀ (T : AT) (H : Heap) (locs : List Loc) (ls : Array Slot) (l0 : Nat) (l1 : Int32) (l2 : Int32) (l3 : Int32) (l4 : Int32), g_X10_compare_b10 n T l0 l1 l2 l3 l4 = some (r1, T1) → gC cI cJ cZ cMic cSrc cSt cAI cAJ D ad A s.heap H locs T → lv_has ls 5 [(0, .ref (ad l0)), (1, .int l1), (2, .int l2), (3, .int l3), (4, .int l4)] → W p l e { frames := 2, cells := 0, slots := 0, locals := 23 } s m args below meth c H locs 0 0 Q (F0 m 10 ls []) := by
  have hx := E.1
  have hb := E.2.1
  have hts := E.2.2.1
  have hown := E.2.2.2.1
  have hK := E.2.2.2.2
  intro n
  induction n with
  | zero =>
    intro T H locs ls l0 l1 l2 l3 l4 h
    have h : (none : Option (Int32 × AT)) = some (r1, T1) := h
    cases h
  | succ n ih =>
    intro T H locs ls l0 l1 l2 l3 l4 h G hl
    unfold g_X10_compare_b10 at h
    refine lv_iload hx hb dX10_compare_10 (lv_at hl 4 rfl) ?_
    refine lv_if_lt (tgt := 47) hx hb dX10_compare_12 (by decide) (fun c2 => ?_) (fun c2 => ?_)
    · have h := oif_pos c2 h
      have hl := lv_sub hl [3] rfl
      exact u_X10_compare_b47 E hA hX hN hml hst kr48 _ _ _ _ _ h G hl
    · have h := oif_neg c2 h
      refine lv_iload_n hx hb dX10_compare_15 rfl (lv_at hl 3 rfl) ?_
      refine lv_if_ne (tgt := 47) hx hb dX10_compare_16 (by decide) (fun c3 => ?_) (fun c3 => ?_)
      · have h := oif_neg c3 h
        have hl := lv_sub hl [3] rfl
        exact u_X10_compare_b47 E hA hX hN hml hst kr48 _ _ _ _ _ h G hl
      · have h := oif_pos c3 h
        refine lv_aload_n hx hb dX10_compare_19 rfl (lv_at hl 0 rfl) ?_
        obtain ⟨g4, h⟩ := oif_some h
        obtain ⟨n5, en5, h⟩ := obind_some h
        refine c_get E G l0 1 (v := .ref (ad n5)) (oO_k g4).1 (cc_o10 (oO_k g4).2) rfl (fun w h => .tail _ (iA_12 h)) (by decide) (.tail _ qA_14) rfl (by rw [en5]; rfl) dX10_compare_20 ?_
        clear en5
        refine lv_iload hx hb dX10_compare_23 (lv_at hl 4 rfl) ?_
        obtain ⟨g6, h⟩ := oif_some h
        obtain ⟨g7, h⟩ := oif_some h
        obtain ⟨n8, en8, h⟩ := obind_some h
        refine c_alda E G n5 7 (k := l4.toNatClampNeg) (v := .ref (ad n8)) (aA_k g6).1 (cc_a107 (aA_k g6).2.1) rfl (inb_k g7).1 (inb_k g7).2 (aA_k g6).2.2 (by show va_rf ((T.2.2.2.2 n5 l4.toNatClampNeg).map ad) = _; rw [en8]; rfl) dX10_compare_25 ?_
        clear en8
        refine lv_iload_n hx hb dX10_compare_26 rfl (lv_at hl 1 rfl) ?_
        obtain ⟨g9, h⟩ := oif_some h
        obtain ⟨g10, h⟩ := oif_some h
        refine c_lald E G n8 1 (k := l1.toNatClampNeg) (aA_k g9).1 (cc_a101 (aA_k g9).2.1) rfl (inb_k g10).1 (inb_k g10).2 (aA_k g9).2.2 dX10_compare_27 ?_
        refine lv_topl (fun v11 ev11 => ?_)
        have h := elet_at ev11 h
        clear ev11
        refine lv_aload_n hx hb dX10_compare_28 rfl (lv_at hl 0 rfl) ?_
        obtain ⟨g12, h⟩ := oif_some h
        obtain ⟨n13, en13, h⟩ := obind_some h
        refine c_get E G l0 1 (v := .ref (ad n13)) (oO_k g12).1 (cc_o10 (oO_k g12).2) rfl (fun w h => .tail _ (iA_12 h)) (by decide) (.tail _ qA_14) rfl (by rw [en13]; rfl) dX10_compare_29 ?_
        clear en13
        refine lv_iload hx hb dX10_compare_32 (lv_at hl 4 rfl) ?_
        obtain ⟨g14, h⟩ := oif_some h
        obtain ⟨g15, h⟩ := oif_some h
        obtain ⟨n16, en16, h⟩ := obind_some h
        refine c_alda E G n13 7 (k := l4.toNatClampNeg) (v := .ref (ad n16)) (aA_k g14).1 (cc_a107 (aA_k g14).2.1) rfl (inb_k g15).1 (inb_k g15).2 (aA_k g14).2.2 (by show va_rf ((T.2.2.2.2 n13 l4.toNatClampNeg).map ad) = _; rw [en16]; rfl) dX10_compare_34 ?_
        clear en16
        refine lv_iload_n hx hb dX10_compare_35 rfl (lv_at hl 2 rfl) ?_
        obtain ⟨g17, h⟩ := oif_some h
        obtain ⟨g18, h⟩ := oif_some h
        refine c_lald E G n16 1 (k := l2.toNatClampNeg) (aA_k g17).1 (cc_a101 (aA_k g17).2.1) rfl (inb_k g18).1 (inb_k g18).2 (aA_k g17).2.2 dX10_compare_36 ?_
        refine lv_topl (fun v19 ev19 => ?_)
        have h := elet_at ev19 h
        clear ev19
        obtain ⟨r20, er20, h⟩ := obind_some h
        refine q_sti (As := [.long v11, .long v19]) (rest := []) ⟨hx, hb, hml, hown, hts⟩ hN (u_J13_compare_74951 l v11 v19 er20) ⟨callB_of 2 hts (gaC qA_126) rfl rfl rfl (hts _ (.tail _ qA_125)) (hts _ (.tail _ qA_123)) (by decide +kernel) ⟨Nat.le_of_ble_eq_true rfl, Nat.le_of_ble_eq_true rfl⟩, hts _ (.tail _ qA_124)⟩ rfl hl.1 rfl (lv_room (Nat.le_of_ble_eq_true rfl)) dX10_compare_37 ⟨Nat.zero_le _, Nat.zero_le _⟩ (fun q21 hq => ?_)
        refine lv_to hq ?_
        clear hq er20
        refine lv_istore_n (lv' := [(3, .int r20), (0, .ref (ad l0)), (1, .int l1), (2, .int l2), (4, .int l4)]) hx hb dX10_compare_40 rfl hl (by decide) rfl (fun ls hl => ?_)
        obtain ⟨v22, ev22, h⟩ := elet_some h
        refine lv_iinc (v := v22) (lv' := [(4, .int v22), (3, .int r20), (0, .ref (ad l0)), (1, .int l1), (2, .int l2)]) hx hb dX10_compare_41 hl (k := 4) rfl ev22.symm (by decide) rfl (fun ls hl => ?_)
        refine lv_goto (tgt := 10) hx hb dX10_compare_44 (by decide) ?_
        have hl := lv_sub hl [2, 3, 4, 1, 0] rfl
        exact ih _ _ _ _ _ _ _ _ _ h G hl
def g_X10_compare (T : AT) (o : Nat) (a0 : Int32) (a1 : Int32) : Option (Int32 × AT) := oif (oO T o 10 = true) <| elet (T.2.2.1 o 2) fun v3 => elet (v3 - 1) fun v4 => g_X10_compare_b10 16384 T o a0 a1 0 v4
set_option maxHeartbeats 4000000 in
set_option maxRecDepth 100000 in
theorem u_X10_compare (l : Launch) (hst : l.stackTraces = false) (D : va_G) (cI cJ cZ cMic cSrc cSt cAI cAJ : ClassId) (ad : Nat → Nat) (T : AT) (o : Nat) (a0 : Int32) (a1 : Int32) {r1 : Int32} {T1 : AT} (h : g_X10_compare T o a0 a1 = some (r1, T1)) : kCi l yX10_compare (Cond.code yX10_compare cX10_compare 5 (some .int) :: wsA) 2 23 cI cJ cZ cMic cSrc cSt cAI cAJ D ad T [.ref (ad o), .int a0, .int a1] (fun r T9 => r = r1 ∧ T9 = T1) := by
  intro sz
  refine Met.ofW (cc := cX10_compare) (maxL := 5) (ret := (some .int)) (by decide) rfl ?_
  intro p e s m args below meth c s₁ B hml hv
  obtain ⟨rfl, hsz, hP, hK, hD0, hX, hN⟩ := hv
  have hx := B.exec
  have hb := B.bytes
  have hr := B.returns
  have hts := atoms_spec (ws := (Cond.code yX10_compare cX10_compare 5 (some .int) :: wsA)) B.pre
  have hown : s.vm.findClass RX10 = some m.cls := findClass_of_methodNamed B.named
  have hlocks := B.notSynchronized
  subst hsz
  have hD := hD0.self (sz := s.heap.size)
  generalize hAe : va_A (cW ad T.1 (cc cI cJ cZ cMic cSrc cSt cAI cAJ ad T)) s.heap.size = A at hD hX ⊢
  have hA : ∀ q : Nat, s.heap.size ≤ q → A q := fun q h => by rw [← hAe]; exact Or.inr h
  have G : gC cI cJ cZ cMic cSrc cSt cAI cAJ D ad A s.heap s.heap [] T := ⟨hP, hD, va_S.rf⟩
  have E : cE p c cX10_compare s m ([.ref (ad o), .int a0, .int a1] : List Value).toArray (Cond.code yX10_compare cX10_compare 5 (some .int) :: wsA) D RX10 (CT cI cJ cZ cMic cSrc cSt cAI cAJ) := ⟨hx, hb, hts, hown, hK⟩
  have hl := lv_entry ([.ref (ad o), .int a0, .int a1]) (n := 5) (Nat.le_of_ble_eq_true rfl)
  rw [lg_entry_eq]
  generalize (lg_sl ([.ref (ad o), .int a0, .int a1]) ++ List.replicate (5 - (lg_sl ([.ref (ad o), .int a0, .int a1])).length) Slot.unset).toArray = ls at hl ⊢
  have hl : lv_has ls 5 [(0, .ref (ad o)), (1, .int a0), (2, .int a1)] := hl
  unfold g_X10_compare at h
  refine lv_iconst (v := 0) hx hb dX10_compare_0 (by decide) ?_
  refine lv_istore_n (lv' := [(3, .int 0), (0, .ref (ad o)), (1, .int a0), (2, .int a1)]) hx hb dX10_compare_1 rfl hl (by decide) rfl (fun ls hl => ?_)
  refine lv_aload_n hx hb dX10_compare_2 rfl (lv_at hl 1 rfl) ?_
  obtain ⟨g2, h⟩ := oif_some h
  refine c_get E G o 2 (oO_k g2).1 (cc_o10 (oO_k g2).2) rfl (fun w h => .tail _ (iA_12 h)) (by decide) (.tail _ qA_15) rfl rfl dX10_compare_3 ?_
  refine lv_topi (fun v3 ev3 => ?_)
  have h := elet_at ev3 h
  clear ev3
  refine lv_iconst (v := 1) hx hb dX10_compare_6 (by decide) ?_
  refine lv_isub hx hb dX10_compare_7 ?_
  refine lv_topi (fun v4 ev4 => ?_)
  have h := elet_at ev4 h
  clear ev4
  refine lv_istore (lv' := [(4, .int v4), (3, .int 0), (0, .ref (ad o)), (1, .int a0), (2, .int a1)]) hx hb dX10_compare_8 hl (by decide) rfl (fun ls hl => ?_)
  have hl := lv_sub hl [2, 3, 4, 1, 0] rfl
  exact u_X10_compare_b10 E hA hX hN hml hst (fun H locs ls G => W.iret (v := r1) hx hb hr (fun t ht hW => ⟨⟨r1, T1, rfl, ⟨rfl, rfl⟩, ⟨by rw [ht]; exact G.1, va_K.moved hW.alike hK, G.2.1⟩⟩, G.2.2.F ht⟩) G.2.2.2.2 dX10_compare_48) _ _ _ _ _ _ _ _ _ _ h G hl
set_option maxHeartbeats 4000000 in
set_option maxRecDepth 100000 in
theorem s_X10_compare_b47 {r1 : Int32} {T1 : AT} : ∀ (T : AT) (l3 : Int32), g_X10_compare_b47 T l3 = some (r1, T1) → SP T T1 := by
  intro T l3 h
  have p0 := SP.rf T
  unfold g_X10_compare_b47 at h
  rw [← (osome2 h).2]
  exact p0
set_option maxHeartbeats 4000000 in
set_option maxRecDepth 100000 in
theorem s_X10_compare_b10 {r1 : Int32} {T1 : AT} : ∀ n : Nat, ∀ (T : AT) (l0 : Nat) (l1 : Int32) (l2 : Int32) (l3 : Int32) (l4 : Int32), g_X10_compare_b10 n T l0 l1 l2 l3 l4 = some (r1, T1) → SP T T1 := by
  intro n
  induction n with
  | zero =>
    intro T l0 l1 l2 l3 l4 h
    have h : (none : Option (Int32 × AT)) = some (r1, T1) := h
    cases h
  | succ n ih =>
    intro T l0 l1 l2 l3 l4 h
    have p0 := SP.rf T
    unfold g_X10_compare_b10 at h
    rcases oif_or h with ⟨c2, h⟩ | ⟨c2, h⟩
    · have h := h
      exact SP.tr p0 (s_X10_compare_b47 _ _ h)
    · have h := h
      rcases oif_or h with ⟨c3, h⟩ | ⟨c3, h⟩
      · have h := h
        obtain ⟨g4, h⟩ := oif_some h
        obtain ⟨n5, en5, h⟩ := obind_some h
        obtain ⟨g6, h⟩ := oif_some h
        obtain ⟨g7, h⟩ := oif_some h
        obtain ⟨n8, en8, h⟩ := obind_some h
        obtain ⟨g9, h⟩ := oif_some h
        obtain ⟨g10, h⟩ := oif_some h
        obtain ⟨v11, -, h⟩ := elet_some h
        obtain ⟨g12, h⟩ := oif_some h
        obtain ⟨n13, en13, h⟩ := obind_some h
        obtain ⟨g14, h⟩ := oif_some h
        obtain ⟨g15, h⟩ := oif_some h
        obtain ⟨n16, en16, h⟩ := obind_some h
        obtain ⟨g17, h⟩ := oif_some h
        obtain ⟨g18, h⟩ := oif_some h
        obtain ⟨v19, -, h⟩ := elet_some h
        obtain ⟨r20, -, h⟩ := obind_some h
        obtain ⟨v21, ev21, h⟩ := elet_some h
        exact SP.tr p0 (ih _ _ _ _ _ _ h)
      · have h := h
        exact SP.tr p0 (s_X10_compare_b47 _ _ h)
set_option maxHeartbeats 4000000 in
set_option maxRecDepth 100000 in
theorem s_X10_compare {T : AT} {o : Nat} {a0 : Int32} {a1 : Int32} {r1 : Int32} {T1 : AT} (h : g_X10_compare T o a0 a1 = some (r1, T1)) : SP T T1 := by
  have p0 := SP.rf T
  unfold g_X10_compare at h
  obtain ⟨g2, h⟩ := oif_some h
  obtain ⟨v3, -, h⟩ := elet_some h
  obtain ⟨v4, -, h⟩ := elet_some h
  exact SP.tr p0 (s_X10_compare_b10 _ _ _ _ _ _ _ h)
def g_X1_bestIn_b71 (k19 : AT → Nat → Nat → Nat → Int32 → Int32 → Int32 → Option (Int32 × AT)) (k32 : AT → Nat → Nat → Nat → Int32 → Int32 → Int32 → Int32 → Option (Int32 × AT)) (T : AT) (l0 : Nat) (l1 : Nat) (l2 : Nat) (l3 : Int32) (l4 : Int32) (l5 : Int32) (l6 : Int32) : Option (Int32 × AT) := elet (l6 + Int32.ofInt (1)) fun v2 => k32 T l0 l1 l2 l3 l4 l5 v2
set_option maxHeartbeats 4000000 in
set_option maxRecDepth 100000 in
theorem u_X1_bestIn_b71 {p : Program} {l : Launch} {e : Env} {s : State} {m : MethodId} {args : Array Value} {below : List Frame} {meth : Method} {c : Code} {Q : State → Prop} {D : va_G} {A : Nat → Prop} {cI cJ cZ cMic cSrc cSt cAI cAJ : ClassId} {ad : Nat → Nat} {r1 : Int32} {T1 : AT} (E : cE p c cX1_bestIn s m args (Cond.code yX1_bestIn cX1_bestIn 8 (some .int) :: wsA) D RX1 (CT cI cJ cZ cMic cSrc cSt cAI cAJ)) (hA : ∀ q : Nat, s.heap.size ≤ q → A q) (hX : xT A s) (hN : nX s) (hml : c.maxLocals = 8) (hst : l.stackTraces = false) (kr85 : ∀ (H : Heap) (locs : List Loc) (ls : Array Slot), gC cI cJ cZ cMic cSrc cSt cAI cAJ D ad A s.heap H locs T1 → W p l e { frames := 3, cells := 0, slots := 0, locals := 47 } s m args below meth c H locs 0 0 Q (F0 m 85 ls [.int r1])) {k19 : AT → Nat → Nat → Nat → Int32 → Int32 → Int32 → Option (Int32 × AT)} {k32 : AT → Nat → Nat → Nat → Int32 → Int32 → Int32 → Int32 → Option (Int32 × AT)} (hk19 : ∀ (T : AT) (H : Heap) (locs : List Loc) (ls : Array Slot) (l0 : Nat) (l1 : Nat) (l2 : Nat) (l3 : Int32) (l4 : Int32) (l5 : Int32), k19 T l0 l1 l2 l3 l4 l5 = some (r1, T1) → gC cI cJ cZ cMic cSrc cSt cAI cAJ D ad A s.heap H locs T → lv_has ls 8 [(0, .ref (ad l0)), (1, .ref (ad l1)), (2, .ref (ad l2)), (3, .int l3), (4, .int l4), (5, .int l5)] → W p l e { frames := 3, cells := 0, slots := 0, locals := 47 } s m args below meth c H locs 0 0 Q (F0 m 19 ls [])) (hk32 : ∀ (T : AT) (H : Heap) (locs : List Loc) (ls : Array Slot) (l0 : Nat) (l1 : Nat) (l2 : Nat) (l3 : Int32) (l4 : Int32) (l5 : Int32) (l6 : Int32), k32 T l0 l1 l2 l3 l4 l5 l6 = some (r1, T1) → gC cI cJ cZ cMic cSrc cSt cAI cAJ D ad A s.heap H locs T → lv_has ls 8 [(0, .ref (ad l0)), (1, .ref (ad l1)), (2, .ref (ad l2)), (3, .int l3), (4, .int l4), (5, .int l5), (6, .int l6)] → W p l e { frames := 3, cells := 0, slots := 0, locals := 47 } s m args below meth c H locs 0 0 Q (F0 m 32 ls [])) : ∀ (T : AT) (H : Heap) (locs : List Loc) (ls : Array Slot) (l0 : Nat) (l1 : Nat) (l2 : Nat) (l3 : Int32) (l4 : Int32) (l5 : Int32) (l6 : Int32), g_X1_bestIn_b71 k19 k32 T l0 l1 l2 l3 l4 l5 l6 = some (r1, T1) → gC cI cJ cZ cMic cSrc cSt cAI cAJ D ad A s.heap H locs T → lv_has ls 8 [(0, .ref (ad l0)), (1, .ref (ad l1)), (2, .ref (ad l2)), (3, .int l3), (4, .int l4), (5, .int l5), (6, .int l6)] → W p l e { frames := 3, cells := 0, slots := 0, locals := 47 } s m args below meth c H locs 0 0 Q (F0 m 71 ls []) := by
  have hx := E.1
  have hb := E.2.1
  have hts := E.2.2.1
  have hown := E.2.2.2.1
  have hK := E.2.2.2.2
  intro T H locs ls l0 l1 l2 l3 l4 l5 l6 h G hl
  unfold g_X1_bestIn_b71 at h
  obtain ⟨v2, ev2, h⟩ := elet_some h
  refine lv_iinc (v := v2) (lv' := [(6, .int v2), (0, .ref (ad l0)), (1, .ref (ad l1)), (2, .ref (ad l2)), (3, .int l3), (4, .int l4), (5, .int l5)]) hx hb dX1_bestIn_71 hl (k := 6) rfl ev2.symm (by decide) rfl (fun ls hl => ?_)
  refine lv_goto (tgt := 32) hx hb dX1_bestIn_74 (by decide) ?_
  have hl := lv_sub hl [1, 2, 3, 4, 5, 6, 0] rfl
  exact hk32 _ _ _ _ _ _ _ _ _ _ _ h G hl
def g_X1_bestIn_b32 (k19 : AT → Nat → Nat → Nat → Int32 → Int32 → Int32 → Option (Int32 × AT)) : Nat → AT → Nat → Nat → Nat → Int32 → Int32 → Int32 → Int32 → Option (Int32 × AT)
  | 0, _, _, _, _, _, _, _, _ => none
  | n + 1, T, l0, l1, l2, l3, l4, l5, l6 => oif (aA T l1 100 = true) <| oif (inb 2 (T.2.1 l1).2 = true) <| elet (T.2.2.1 l1 (2 : Int32).toNatClampNeg) fun v4 => if v4 < l6 then (elet (l5 + Int32.ofInt (1)) fun v6 => k19 T l0 l1 l2 l3 l4 v6) else (oif (oO T l0 1 = true) <| elet (T.2.2.1 l0 3) fun v8 => elet (l5 * v8) fun v9 => elet (v9 + l6) fun v10 => elet (l3 + v10) fun v11 => elet (l3 + l4) fun v12 => oif (oO T l2 10 = true) <| obind2 (g_X10_compare T l2 v11 v12) fun r16 T14 => if r16 ≤ 0 then (g_X1_bestIn_b71 k19 (g_X1_bestIn_b32 k19 n) T14 l0 l1 l2 l3 l4 l5 l6) else (g_X1_bestIn_b71 k19 (g_X1_bestIn_b32 k19 n) T14 l0 l1 l2 l3 v10 l5 l6))
set_option maxHeartbeats 4000000 in
set_option maxRecDepth 100000 in
theorem u_X1_bestIn_b32 {p : Program} {l : Launch} {e : Env} {s : State} {m : MethodId} {args : Array Value} {below : List Frame} {meth : Method} {c : Code} {Q : State → Prop} {D : va_G} {A : Nat → Prop} {cI cJ cZ cMic cSrc cSt cAI cAJ : ClassId} {ad : Nat → Nat} {r1 : Int32} {T1 : AT} (E : cE p c cX1_bestIn s m args (Cond.code yX1_bestIn cX1_bestIn 8 (some .int) :: wsA) D RX1 (CT cI cJ cZ cMic cSrc cSt cAI cAJ)) (hA : ∀ q : Nat, s.heap.size ≤ q → A q) (hX : xT A s) (hN : nX s) (hml : c.maxLocals = 8) (hst : l.stackTraces = false) (kr85 : ∀ (H : Heap) (locs : List Loc) (ls : Array Slot), gC cI cJ cZ cMic cSrc cSt cAI cAJ D ad A s.heap H locs T1 → W p l e { frames := 3, cells := 0, slots := 0, locals := 47 } s m args below meth c H locs 0 0 Q (F0 m 85 ls [.int r1])) {k19 : AT → Nat → Nat → Nat → Int32 → Int32 → Int32 → Option (Int32 × AT)} (hk19 : ∀ (T : AT) (H : Heap) (locs : List Loc) (ls : Array Slot) (l0 : Nat) (l1 : Nat) (l2 : Nat) (l3 : Int32) (l4 : Int32) (l5 : Int32), k19 T l0 l1 l2 l3 l4 l5 = some (r1, T1) → gC cI cJ cZ cMic cSrc cSt cAI cAJ D ad A s.heap H locs T → lv_has ls 8 [(0, .ref (ad l0)), (1, .ref (ad l1)), (2, .ref (ad l2)), (3, .int l3), (4, .int l4), (5, .int l5)] → W p l e { frames := 3, cells := 0, slots := 0, locals := 47 } s m args below meth c H locs 0 0 Q (F0 m 19 ls [])) : ∀ n : Nat, ∀ (T : AT) (H : Heap) (locs : List Loc) (ls : Array Slot) (l0 : Nat) (l1 : Nat) (l2 : Nat) (l3 : Int32) (l4 : Int32) (l5 : Int32) (l6 : Int32), g_X1_bestIn_b32 k19 n T l0 l1 l2 l3 l4 l5 l6 = some (r1, T1) → gC cI cJ cZ cMic cSrc cSt cAI cAJ D ad A s.heap H locs T → lv_has ls 8 [(0, .ref (ad l0)), (1, .ref (ad l1)), (2, .ref (ad l2)), (3, .int l3), (4, .int l4), (5, .int l5), (6, .int l6)] → W p l e { frames := 3, cells := 0, slots := 0, locals := 47 } s m args below meth c H locs 0 0 Q (F0 m 32 ls []) := by
  have hx := E.1
  have hb := E.2.1
  have hts := E.2.2.1
  have hown := E.2.2.2.1
  have hK := E.2.2.2.2
  intro n
  induction n with
  | zero =>
    intro T H locs ls l0 l1 l2 l3 l4 l5 l6 h
    have h : (none : Option (Int32 × AT)) = some (r1, T1) := h
    cases h
  | succ n ih =>
    intro T H locs ls l0 l1 l2 l3 l4 l5 l6 h G hl
    unfold g_X1_bestIn_b32 at h
    refine lv_iload hx hb dX1_bestIn_32 (lv_at hl 6 rfl) ?_
    refine lv_aload_n hx hb dX1_bestIn_34 rfl (lv_at hl 1 rfl) ?_
    refine lv_iconst (v := 2) hx hb dX1_bestIn_35 (by decide) ?_
    obtain ⟨g2, h⟩ := oif_some h
    obtain ⟨g3, h⟩ := oif_some h
    refine c_iald E G l1 0 (k := (2 : Int32).toNatClampNeg) (aA_k g2).1 (cc_a100 (aA_k g2).2.1) rfl (inb_k g3).1 (inb_k g3).2 (aA_k g2).2.2 dX1_bestIn_36 ?_
    refine lv_topi (fun v4 ev4 => ?_)
    have h := elet_at ev4 h
    clear ev4
    refine lv_icmp_gt (tgt := 77) hx hb dX1_bestIn_37 (by decide) (fun c5 => ?_) (fun c5 => ?_)
    · have h := oif_pos c5 h
      obtain ⟨v6, ev6, h⟩ := elet_some h
      refine lv_iinc (v := v6) (lv' := [(5, .int v6), (0, .ref (ad l0)), (1, .ref (ad l1)), (2, .ref (ad l2)), (3, .int l3), (4, .int l4), (6, .int l6)]) hx hb dX1_bestIn_77 hl (k := 5) rfl ev6.symm (by decide) rfl (fun ls hl => ?_)
      refine lv_goto (tgt := 19) hx hb dX1_bestIn_80 (by decide) ?_
      have hl := lv_sub hl [1, 2, 3, 4, 5, 0] rfl
      exact hk19 _ _ _ _ _ _ _ _ _ _ h G hl
    · have h := oif_neg c5 h
      refine lv_iload hx hb dX1_bestIn_40 (lv_at hl 5 rfl) ?_
      refine lv_aload_n hx hb dX1_bestIn_42 rfl (lv_at hl 0 rfl) ?_
      obtain ⟨g7, h⟩ := oif_some h
      refine c_get E G l0 3 (oO_k g7).1 (cc_o1 (oO_k g7).2) rfl (fun w h => .tail _ (iA_15 h)) (by decide) (.tail _ qA_39) rfl rfl dX1_bestIn_43 ?_
      refine lv_topi (fun v8 ev8 => ?_)
      have h := elet_at ev8 h
      clear ev8
      refine lv_imul hx hb dX1_bestIn_46 ?_
      refine lv_topi (fun v9 ev9 => ?_)
      have h := elet_at ev9 h
      clear ev9
      refine lv_iload hx hb dX1_bestIn_47 (lv_at hl 6 rfl) ?_
      refine lv_iadd hx hb dX1_bestIn_49 ?_
      refine lv_topi (fun v10 ev10 => ?_)
      have h := elet_at ev10 h
      clear ev10
      refine lv_istore (lv' := [(7, .int v10), (0, .ref (ad l0)), (1, .ref (ad l1)), (2, .ref (ad l2)), (3, .int l3), (4, .int l4), (5, .int l5), (6, .int l6)]) hx hb dX1_bestIn_50 hl (by decide) rfl (fun ls hl => ?_)
      refine lv_aload_n hx hb dX1_bestIn_52 rfl (lv_at hl 3 rfl) ?_
      refine lv_iload_n hx hb dX1_bestIn_53 rfl (lv_at hl 4 rfl) ?_
      refine lv_iload hx hb dX1_bestIn_54 (lv_at hl 0 rfl) ?_
      refine lv_iadd hx hb dX1_bestIn_56 ?_
      refine lv_topi (fun v11 ev11 => ?_)
      have h := elet_at ev11 h
      clear ev11
      refine lv_iload_n hx hb dX1_bestIn_57 rfl (lv_at hl 4 rfl) ?_
      refine lv_iload hx hb dX1_bestIn_58 (lv_at hl 5 rfl) ?_
      refine lv_iadd hx hb dX1_bestIn_60 ?_
      refine lv_topi (fun v12 ev12 => ?_)
      have h := elet_at ev12 h
      clear ev12
      obtain ⟨g13, h⟩ := oif_some h
      obtain ⟨r16, T14, eT14, h⟩ := obind2_some h
      refine q_cvi (As := [.int v11, .int v12]) (rest := []) E G hA hX hN hml (u_X10_compare l hst D cI cJ cZ cMic cSrc cSt cAI cAJ ad T l2 v11 v12 eT14) (cwV 2 hts (gaV qA_119 qA_120 qA_121 qA_6 qA_122) rfl rfl rfl (by decide +kernel) ⟨Nat.le_of_ble_eq_true rfl, Nat.le_of_ble_eq_true rfl⟩) (oO_k g13).1 (cc_o10 (oO_k g13).2) rfl rfl hl.1 rfl (lv_room (Nat.le_of_ble_eq_true rfl)) dX1_bestIn_61 ⟨Nat.zero_le _, Nat.zero_le _⟩ (fun q17 T15 H locs hq G => ?_)
      obtain ⟨hq1, hq2⟩ := hq
      rw [hq2] at G
      refine lv_to hq1 ?_
      clear hq1 hq2 eT14
      refine lv_if_le (tgt := 71) hx hb dX1_bestIn_64 (by decide) (fun c18 => ?_) (fun c18 => ?_)
      · have h := oif_pos c18 h
        have hl := lv_sub hl [1, 2, 3, 4, 5, 6, 7] rfl
        exact u_X1_bestIn_b71 E hA hX hN hml hst kr85 hk19 ih _ _ _ _ _ _ _ _ _ _ _ h G hl
      · have h := oif_neg c18 h
        refine lv_iload hx hb dX1_bestIn_67 (lv_at hl 0 rfl) ?_
        refine lv_istore (lv' := [(4, .int v10), (7, .int v10), (0, .ref (ad l0)), (1, .ref (ad l1)), (2, .ref (ad l2)), (3, .int l3), (5, .int l5), (6, .int l6)]) hx hb dX1_bestIn_69 hl (by decide) rfl (fun ls hl => ?_)
        have hl := lv_sub hl [2, 3, 4, 5, 0, 6, 7] rfl
        exact u_X1_bestIn_b71 E hA hX hN hml hst kr85 hk19 ih _ _ _ _ _ _ _ _ _ _ _ h G hl
def g_X1_bestIn_b19  : Nat → AT → Nat → Nat → Nat → Int32 → Int32 → Int32 → Option (Int32 × AT)
  | 0, _, _, _, _, _, _, _ => none
  | n + 1, T, l0, l1, l2, l3, l4, l5 => oif (aA T l1 100 = true) <| oif (inb 3 (T.2.1 l1).2 = true) <| elet (T.2.2.1 l1 (3 : Int32).toNatClampNeg) fun v4 => if v4 < l5 then (some (l4, T)) else (oif (aA T l1 100 = true) <| oif (inb 0 (T.2.1 l1).2 = true) <| elet (T.2.2.1 l1 (0 : Int32).toNatClampNeg) fun v8 => g_X1_bestIn_b32 (g_X1_bestIn_b19 n) 16384 T l0 l1 l2 l3 l4 l5 v8)
set_option maxHeartbeats 4000000 in
set_option maxRecDepth 100000 in
theorem u_X1_bestIn_b19 {p : Program} {l : Launch} {e : Env} {s : State} {m : MethodId} {args : Array Value} {below : List Frame} {meth : Method} {c : Code} {Q : State → Prop} {D : va_G} {A : Nat → Prop} {cI cJ cZ cMic cSrc cSt cAI cAJ : ClassId} {ad : Nat → Nat} {r1 : Int32} {T1 : AT} (E : cE p c cX1_bestIn s m args (Cond.code yX1_bestIn cX1_bestIn 8 (some .int) :: wsA) D RX1 (CT cI cJ cZ cMic cSrc cSt cAI cAJ)) (hA : ∀ q : Nat, s.heap.size ≤ q → A q) (hX : xT A s) (hN : nX s) (hml : c.maxLocals = 8) (hst : l.stackTraces = false) (kr85 : ∀ (H : Heap) (locs : List Loc) (ls : Array Slot), gC cI cJ cZ cMic cSrc cSt cAI cAJ D ad A s.heap H locs T1 → W p l e { frames := 3, cells := 0, slots := 0, locals := 47 } s m args below meth c H locs 0 0 Q (F0 m 85 ls [.int r1])) : ∀ n : Nat, ∀ (T : AT) (H : Heap) (locs : List Loc) (ls : Array Slot) (l0 : Nat) (l1 : Nat) (l2 : Nat) (l3 : Int32) (l4 : Int32) (l5 : Int32), g_X1_bestIn_b19 n T l0 l1 l2 l3 l4 l5 = some (r1, T1) → gC cI cJ cZ cMic cSrc cSt cAI cAJ D ad A s.heap H locs T → lv_has ls 8 [(0, .ref (ad l0)), (1, .ref (ad l1)), (2, .ref (ad l2)), (3, .int l3), (4, .int l4), (5, .int l5)] → W p l e { frames := 3, cells := 0, slots := 0, locals := 47 } s m args below meth c H locs 0 0 Q (F0 m 19 ls []) := by
  have hx := E.1
  have hb := E.2.1
  have hts := E.2.2.1
  have hown := E.2.2.2.1
  have hK := E.2.2.2.2
  intro n
  induction n with
  | zero =>
    intro T H locs ls l0 l1 l2 l3 l4 l5 h
    have h : (none : Option (Int32 × AT)) = some (r1, T1) := h
    cases h
  | succ n ih =>
    intro T H locs ls l0 l1 l2 l3 l4 l5 h G hl
    unfold g_X1_bestIn_b19 at h
    refine lv_iload hx hb dX1_bestIn_19 (lv_at hl 5 rfl) ?_
    refine lv_aload_n hx hb dX1_bestIn_21 rfl (lv_at hl 1 rfl) ?_
    refine lv_iconst (v := 3) hx hb dX1_bestIn_22 (by decide) ?_
    obtain ⟨g2, h⟩ := oif_some h
    obtain ⟨g3, h⟩ := oif_some h
    refine c_iald E G l1 0 (k := (3 : Int32).toNatClampNeg) (aA_k g2).1 (cc_a100 (aA_k g2).2.1) rfl (inb_k g3).1 (inb_k g3).2 (aA_k g2).2.2 dX1_bestIn_23 ?_
    refine lv_topi (fun v4 ev4 => ?_)
    have h := elet_at ev4 h
    clear ev4
    refine lv_icmp_gt (tgt := 83) hx hb dX1_bestIn_24 (by decide) (fun c5 => ?_) (fun c5 => ?_)
    · have h := oif_pos c5 h
      refine lv_iload hx hb dX1_bestIn_83 (lv_at hl 4 rfl) ?_
      rw [(osome2 h).2] at G
      refine lv_to (osome2 h).1 ?_
      exact kr85 _ _ _ G
    · have h := oif_neg c5 h
      refine lv_aload_n hx hb dX1_bestIn_27 rfl (lv_at hl 1 rfl) ?_
      refine lv_iconst (v := 0) hx hb dX1_bestIn_28 (by decide) ?_
      obtain ⟨g6, h⟩ := oif_some h
      obtain ⟨g7, h⟩ := oif_some h
      refine c_iald E G l1 0 (k := (0 : Int32).toNatClampNeg) (aA_k g6).1 (cc_a100 (aA_k g6).2.1) rfl (inb_k g7).1 (inb_k g7).2 (aA_k g6).2.2 dX1_bestIn_29 ?_
      refine lv_topi (fun v8 ev8 => ?_)
      have h := elet_at ev8 h
      clear ev8
      refine lv_istore (lv' := [(6, .int v8), (0, .ref (ad l0)), (1, .ref (ad l1)), (2, .ref (ad l2)), (3, .int l3), (4, .int l4), (5, .int l5)]) hx hb dX1_bestIn_30 hl (by decide) rfl (fun ls hl => ?_)
      have hl := lv_sub hl [1, 2, 3, 4, 5, 6, 0] rfl
      exact u_X1_bestIn_b32 E hA hX hN hml hst kr85 ih _ _ _ _ _ _ _ _ _ _ _ _ h G hl
def g_X1_bestIn (T : AT) (o : Nat) (a0 : Nat) (a1 : Nat) (a2 : Int32) : Option (Int32 × AT) := oif (aA T a0 100 = true) <| oif (inb 1 (T.2.1 a0).2 = true) <| elet (T.2.2.1 a0 (1 : Int32).toNatClampNeg) fun v4 => oif (oO T o 1 = true) <| elet (T.2.2.1 o 3) fun v6 => elet (v4 * v6) fun v7 => oif (aA T a0 100 = true) <| oif (inb 0 (T.2.1 a0).2 = true) <| elet (T.2.2.1 a0 (0 : Int32).toNatClampNeg) fun v10 => elet (v7 + v10) fun v11 => oif (aA T a0 100 = true) <| oif (inb 1 (T.2.1 a0).2 = true) <| elet (T.2.2.1 a0 (1 : Int32).toNatClampNeg) fun v14 => g_X1_bestIn_b19 16384 T o a0 a1 a2 v11 v14
set_option maxHeartbeats 4000000 in
set_option maxRecDepth 100000 in
theorem u_X1_bestIn (l : Launch) (hst : l.stackTraces = false) (D : va_G) (cI cJ cZ cMic cSrc cSt cAI cAJ : ClassId) (ad : Nat → Nat) (T : AT) (o : Nat) (a0 : Nat) (a1 : Nat) (a2 : Int32) {r1 : Int32} {T1 : AT} (h : g_X1_bestIn T o a0 a1 a2 = some (r1, T1)) : kCi l yX1_bestIn (Cond.code yX1_bestIn cX1_bestIn 8 (some .int) :: wsA) 3 47 cI cJ cZ cMic cSrc cSt cAI cAJ D ad T [.ref (ad o), .ref (ad a0), .ref (ad a1), .int a2] (fun r T9 => r = r1 ∧ T9 = T1) := by
  intro sz
  refine Met.ofW (cc := cX1_bestIn) (maxL := 8) (ret := (some .int)) (by decide) rfl ?_
  intro p e s m args below meth c s₁ B hml hv
  obtain ⟨rfl, hsz, hP, hK, hD0, hX, hN⟩ := hv
  have hx := B.exec
  have hb := B.bytes
  have hr := B.returns
  have hts := atoms_spec (ws := (Cond.code yX1_bestIn cX1_bestIn 8 (some .int) :: wsA)) B.pre
  have hown : s.vm.findClass RX1 = some m.cls := findClass_of_methodNamed B.named
  have hlocks := B.notSynchronized
  subst hsz
  have hD := hD0.self (sz := s.heap.size)
  generalize hAe : va_A (cW ad T.1 (cc cI cJ cZ cMic cSrc cSt cAI cAJ ad T)) s.heap.size = A at hD hX ⊢
  have hA : ∀ q : Nat, s.heap.size ≤ q → A q := fun q h => by rw [← hAe]; exact Or.inr h
  have G : gC cI cJ cZ cMic cSrc cSt cAI cAJ D ad A s.heap s.heap [] T := ⟨hP, hD, va_S.rf⟩
  have E : cE p c cX1_bestIn s m ([.ref (ad o), .ref (ad a0), .ref (ad a1), .int a2] : List Value).toArray (Cond.code yX1_bestIn cX1_bestIn 8 (some .int) :: wsA) D RX1 (CT cI cJ cZ cMic cSrc cSt cAI cAJ) := ⟨hx, hb, hts, hown, hK⟩
  have hl := lv_entry ([.ref (ad o), .ref (ad a0), .ref (ad a1), .int a2]) (n := 8) (Nat.le_of_ble_eq_true rfl)
  rw [lg_entry_eq]
  generalize (lg_sl ([.ref (ad o), .ref (ad a0), .ref (ad a1), .int a2]) ++ List.replicate (8 - (lg_sl ([.ref (ad o), .ref (ad a0), .ref (ad a1), .int a2])).length) Slot.unset).toArray = ls at hl ⊢
  have hl : lv_has ls 8 [(0, .ref (ad o)), (1, .ref (ad a0)), (2, .ref (ad a1)), (3, .int a2)] := hl
  unfold g_X1_bestIn at h
  refine lv_aload_n hx hb dX1_bestIn_0 rfl (lv_at hl 1 rfl) ?_
  refine lv_iconst (v := 1) hx hb dX1_bestIn_1 (by decide) ?_
  obtain ⟨g2, h⟩ := oif_some h
  obtain ⟨g3, h⟩ := oif_some h
  refine c_iald E G a0 0 (k := (1 : Int32).toNatClampNeg) (aA_k g2).1 (cc_a100 (aA_k g2).2.1) rfl (inb_k g3).1 (inb_k g3).2 (aA_k g2).2.2 dX1_bestIn_2 ?_
  refine lv_topi (fun v4 ev4 => ?_)
  have h := elet_at ev4 h
  clear ev4
  refine lv_aload_n hx hb dX1_bestIn_3 rfl (lv_at hl 0 rfl) ?_
  obtain ⟨g5, h⟩ := oif_some h
  refine c_get E G o 3 (oO_k g5).1 (cc_o1 (oO_k g5).2) rfl (fun w h => .tail _ (iA_15 h)) (by decide) (.tail _ qA_39) rfl rfl dX1_bestIn_4 ?_
  refine lv_topi (fun v6 ev6 => ?_)
  have h := elet_at ev6 h
  clear ev6
  refine lv_imul hx hb dX1_bestIn_7 ?_
  refine lv_topi (fun v7 ev7 => ?_)
  have h := elet_at ev7 h
  clear ev7
  refine lv_aload_n hx hb dX1_bestIn_8 rfl (lv_at hl 1 rfl) ?_
  refine lv_iconst (v := 0) hx hb dX1_bestIn_9 (by decide) ?_
  obtain ⟨g8, h⟩ := oif_some h
  obtain ⟨g9, h⟩ := oif_some h
  refine c_iald E G a0 0 (k := (0 : Int32).toNatClampNeg) (aA_k g8).1 (cc_a100 (aA_k g8).2.1) rfl (inb_k g9).1 (inb_k g9).2 (aA_k g8).2.2 dX1_bestIn_10 ?_
  refine lv_topi (fun v10 ev10 => ?_)
  have h := elet_at ev10 h
  clear ev10
  refine lv_iadd hx hb dX1_bestIn_11 ?_
  refine lv_topi (fun v11 ev11 => ?_)
  have h := elet_at ev11 h
  clear ev11
  refine lv_istore (lv' := [(4, .int v11), (0, .ref (ad o)), (1, .ref (ad a0)), (2, .ref (ad a1)), (3, .int a2)]) hx hb dX1_bestIn_12 hl (by decide) rfl (fun ls hl => ?_)
  refine lv_aload_n hx hb dX1_bestIn_14 rfl (lv_at hl 2 rfl) ?_
  refine lv_iconst (v := 1) hx hb dX1_bestIn_15 (by decide) ?_
  obtain ⟨g12, h⟩ := oif_some h
  obtain ⟨g13, h⟩ := oif_some h
  refine c_iald E G a0 0 (k := (1 : Int32).toNatClampNeg) (aA_k g12).1 (cc_a100 (aA_k g12).2.1) rfl (inb_k g13).1 (inb_k g13).2 (aA_k g12).2.2 dX1_bestIn_16 ?_
  refine lv_topi (fun v14 ev14 => ?_)
  have h := elet_at ev14 h
  clear ev14
  refine lv_istore (lv' := [(5, .int v14), (4, .int v11), (0, .ref (ad o)), (1, .ref (ad a0)), (2, .ref (ad a1)), (3, .int a2)]) hx hb dX1_bestIn_17 hl (by decide) rfl (fun ls hl => ?_)
  have hl := lv_sub hl [2, 3, 4, 5, 1, 0] rfl
  exact u_X1_bestIn_b19 E hA hX hN hml hst (fun H locs ls G => W.iret (v := r1) hx hb hr (fun t ht hW => ⟨⟨r1, T1, rfl, ⟨rfl, rfl⟩, ⟨by rw [ht]; exact G.1, va_K.moved hW.alike hK, G.2.1⟩⟩, G.2.2.F ht⟩) G.2.2.2.2 dX1_bestIn_85) _ _ _ _ _ _ _ _ _ _ _ h G hl
set_option maxHeartbeats 4000000 in
set_option maxRecDepth 100000 in
theorem s_X1_bestIn_b71 {r1 : Int32} {T1 : AT} {k19 : AT → Nat → Nat → Nat → Int32 → Int32 → Int32 → Option (Int32 × AT)} {k32 : AT → Nat → Nat → Nat → Int32 → Int32 → Int32 → Int32 → Option (Int32 × AT)} (hk19 : ∀ (T : AT) (l0 : Nat) (l1 : Nat) (l2 : Nat) (l3 : Int32) (l4 : Int32) (l5 : Int32), k19 T l0 l1 l2 l3 l4 l5 = some (r1, T1) → SP T T1) (hk32 : ∀ (T : AT) (l0 : Nat) (l1 : Nat) (l2 : Nat) (l3 : Int32) (l4 : Int32) (l5 : Int32) (l6 : Int32), k32 T l0 l1 l2 l3 l4 l5 l6 = some (r1, T1) → SP T T1) : ∀ (T : AT) (l0 : Nat) (l1 : Nat) (l2 : Nat) (l3 : Int32) (l4 : Int32) (l5 : Int32) (l6 : Int32), g_X1_bestIn_b71 k19 k32 T l0 l1 l2 l3 l4 l5 l6 = some (r1, T1) → SP T T1 := by
  intro T l0 l1 l2 l3 l4 l5 l6 h
  have p0 := SP.rf T
  unfold g_X1_bestIn_b71 at h
  obtain ⟨v2, ev2, h⟩ := elet_some h
  exact SP.tr p0 (hk32 _ _ _ _ _ _ _ _ h)
set_option maxHeartbeats 4000000 in
set_option maxRecDepth 100000 in
theorem s_X1_bestIn_b32 {r1 : Int32} {T1 : AT} {k19 : AT → Nat → Nat → Nat → Int32 → Int32 → Int32 → Option (Int32 × AT)} (hk19 : ∀ (T : AT) (l0 : Nat) (l1 : Nat) (l2 : Nat) (l3 : Int32) (l4 : Int32) (l5 : Int32), k19 T l0 l1 l2 l3 l4 l5 = some (r1, T1) → SP T T1) : ∀ n : Nat, ∀ (T : AT) (l0 : Nat) (l1 : Nat) (l2 : Nat) (l3 : Int32) (l4 : Int32) (l5 : Int32) (l6 : Int32), g_X1_bestIn_b32 k19 n T l0 l1 l2 l3 l4 l5 l6 = some (r1, T1) → SP T T1 := by
  intro n
  induction n with
  | zero =>
    intro T l0 l1 l2 l3 l4 l5 l6 h
    have h : (none : Option (Int32 × AT)) = some (r1, T1) := h
    cases h
  | succ n ih =>
    intro T l0 l1 l2 l3 l4 l5 l6 h
    have p0 := SP.rf T
    unfold g_X1_bestIn_b32 at h
    obtain ⟨g2, h⟩ := oif_some h
    obtain ⟨g3, h⟩ := oif_some h
    obtain ⟨v4, -, h⟩ := elet_some h
    rcases oif_or h with ⟨c5, h⟩ | ⟨c5, h⟩
    · have h := h
      obtain ⟨v6, ev6, h⟩ := elet_some h
      exact SP.tr p0 (hk19 _ _ _ _ _ _ _ h)
    · have h := h
      obtain ⟨g7, h⟩ := oif_some h
      obtain ⟨v8, -, h⟩ := elet_some h
      obtain ⟨v9, -, h⟩ := elet_some h
      obtain ⟨v10, -, h⟩ := elet_some h
      obtain ⟨v11, -, h⟩ := elet_some h
      obtain ⟨v12, -, h⟩ := elet_some h
      obtain ⟨g13, h⟩ := oif_some h
      obtain ⟨r15, T14, eT14, h⟩ := obind2_some h
      have p1 : SP T T14 := SP.tr p0 (s_X10_compare eT14)
      rcases oif_or h with ⟨c16, h⟩ | ⟨c16, h⟩
      · have h := h
        exact SP.tr p1 (s_X1_bestIn_b71 hk19 ih _ _ _ _ _ _ _ _ h)
      · have h := h
        exact SP.tr p1 (s_X1_bestIn_b71 hk19 ih _ _ _ _ _ _ _ _ h)
set_option maxHeartbeats 4000000 in
set_option maxRecDepth 100000 in
theorem s_X1_bestIn_b19 {r1 : Int32} {T1 : AT} : ∀ n : Nat, ∀ (T : AT) (l0 : Nat) (l1 : Nat) (l2 : Nat) (l3 : Int32) (l4 : Int32) (l5 : Int32), g_X1_bestIn_b19 n T l0 l1 l2 l3 l4 l5 = some (r1, T1) → SP T T1 := by
  intro n
  induction n with
  | zero =>
    intro T l0 l1 l2 l3 l4 l5 h
    have h : (none : Option (Int32 × AT)) = some (r1, T1) := h
    cases h
  | succ n ih =>
    intro T l0 l1 l2 l3 l4 l5 h
    have p0 := SP.rf T
    unfold g_X1_bestIn_b19 at h
    obtain ⟨g2, h⟩ := oif_some h
    obtain ⟨g3, h⟩ := oif_some h
    obtain ⟨v4, -, h⟩ := elet_some h
    rcases oif_or h with ⟨c5, h⟩ | ⟨c5, h⟩
    · have h := h
      rw [← (osome2 h).2]
      exact p0
    · have h := h
      obtain ⟨g6, h⟩ := oif_some h
      obtain ⟨g7, h⟩ := oif_some h
      obtain ⟨v8, -, h⟩ := elet_some h
      exact SP.tr p0 (s_X1_bestIn_b32 ih _ _ _ _ _ _ _ _ _ h)
set_option maxHeartbeats 4000000 in
set_option maxRecDepth 100000 in
theorem s_X1_bestIn {T : AT} {o : Nat} {a0 : Nat} {a1 : Nat} {a2 : Int32} {r1 : Int32} {T1 : AT} (h : g_X1_bestIn T o a0 a1 a2 = some (r1, T1)) : SP T T1 := by
  have p0 := SP.rf T
  unfold g_X1_bestIn at h
  obtain ⟨g2, h⟩ := oif_some h
  obtain ⟨g3, h⟩ := oif_some h
  obtain ⟨v4, -, h⟩ := elet_some h
  obtain ⟨g5, h⟩ := oif_some h
  obtain ⟨v6, -, h⟩ := elet_some h
  obtain ⟨v7, -, h⟩ := elet_some h
  obtain ⟨g8, h⟩ := oif_some h
  obtain ⟨g9, h⟩ := oif_some h
  obtain ⟨v10, -, h⟩ := elet_some h
  obtain ⟨v11, -, h⟩ := elet_some h
  obtain ⟨g12, h⟩ := oif_some h
  obtain ⟨g13, h⟩ := oif_some h
  obtain ⟨v14, -, h⟩ := elet_some h
  exact SP.tr p0 (s_X1_bestIn_b19 _ _ _ _ _ _ _ _ h)
def g_X0_bestOf_b17  (T : AT) (l0 : Nat) (l1 : Nat) : Option (Int32 × AT) := oif (oO T l1 6 = true) <| obind (T.2.2.2.2 l1 6) fun n3 => oif (oO T l1 6 = true) <| obind (T.2.2.2.2 l1 6) fun n5 => oif (oO T n5 1 = true) <| obind (T.2.2.2.2 n5 5) fun n7 => oif (oO T l0 0 = true) <| obind (T.2.2.2.2 l0 0) fun n9 => oif (oO T n3 1 = true) <| obind2 (g_X1_bestIn T n3 n7 n9 (0 : Int32)) fun r13 T11 => some (r13, T11)
def g_X0_bestOf (T : AT) (o : Nat) (a0 : Nat) (a1 : Nat) (a2 : Int32) (a3 : Int32) : Option (Int32 × AT) := oif (oO T o 0 = true) <| obind (T.2.2.2.2 o 0) fun n3 => oif (oO T n3 10 = true) <| obind (g_X10_narrow T n3) fun T5 => oif (oO T5 o 0 = true) <| obind (g_X0_measure T5 o a0 a1 a2 a3 (0 : Int32)) fun T8 => g_X0_bestOf_b17 T8 o a0
set_option maxHeartbeats 4000000 in
set_option maxRecDepth 100000 in
theorem s_X0_bestOf_b17 {r1 : Int32} {T1 : AT} : ∀ (T : AT) (l0 : Nat) (l1 : Nat), g_X0_bestOf_b17 T l0 l1 = some (r1, T1) → GL T T1 := by
  intro T l0 l1 h
  have p0 := GL.rf T
  unfold g_X0_bestOf_b17 at h
  obtain ⟨g2, h⟩ := oif_some h
  obtain ⟨n3, en3, h⟩ := obind_some h
  obtain ⟨g4, h⟩ := oif_some h
  obtain ⟨n5, en5, h⟩ := obind_some h
  obtain ⟨g6, h⟩ := oif_some h
  obtain ⟨n7, en7, h⟩ := obind_some h
  obtain ⟨g8, h⟩ := oif_some h
  obtain ⟨n9, en9, h⟩ := obind_some h
  obtain ⟨g10, h⟩ := oif_some h
  obtain ⟨r12, T11, eT11, h⟩ := obind2_some h
  have p1 : GL T T11 := GL.tr p0 (gl_sp (s_X1_bestIn eT11))
  rw [← (osome2 h).2]
  exact p1
set_option maxHeartbeats 4000000 in
set_option maxRecDepth 100000 in
theorem s_X0_bestOf {T : AT} {o : Nat} {a0 : Nat} {a1 : Nat} {a2 : Int32} {a3 : Int32} {r1 : Int32} {T1 : AT} (h : g_X0_bestOf T o a0 a1 a2 a3 = some (r1, T1)) : GL T T1 := by
  have p0 := GL.rf T
  unfold g_X0_bestOf at h
  obtain ⟨g2, h⟩ := oif_some h
  obtain ⟨n3, en3, h⟩ := obind_some h
  obtain ⟨g4, h⟩ := oif_some h
  obtain ⟨T5, eT5, h⟩ := obind_some h
  have p1 : GL T T5 := GL.tr p0 (gl_sp (s_X10_narrow eT5))
  obtain ⟨g7, h⟩ := oif_some h
  obtain ⟨T8, eT8, h⟩ := obind_some h
  have p2 : GL T T8 := GL.tr p1 (s_X0_measure eT8)
  exact GL.tr p2 (s_X0_bestOf_b17 _ _ _ h)
set_option maxHeartbeats 4000000 in
set_option maxRecDepth 100000 in
theorem a_X0_bestOf_b17 {p : Program} {l : Launch} {e : Env} {s : State} {m : MethodId} {args : Array Value} {below : List Frame} {meth : Method} {c : Code} {Q : State → Prop} {D : va_G} {A : Nat → Prop} {cI cJ cZ cMic cSrc cSt cAI cAJ : ClassId} {ad0 : Nat → Nat} {T0 : AT} {r1 : Int32} {T1 : AT} (E : cE p c cX0_bestOf s m args (Cond.code yX0_bestOf cX0_bestOf 5 (some .int) :: wsA) D RX0 (CT cI cJ cZ cMic cSrc cSt cAI cAJ)) (hA : ∀ q : Nat, s.heap.size ≤ q → A q) (hX : xT A s) (hN : nX s) (hml : c.maxLocals = 5) (hst : l.stackTraces = false) (kr36 : ∀ (ad : Nat → Nat) (H : Heap) (locs : List Loc) (ls : Array Slot), (∀ n, n < T0.1 → ad n = ad0 n) → gC cI cJ cZ cMic cSrc cSt cAI cAJ D ad A s.heap H locs T1 → W p l e { frames := 6, cells := T1.1 - T0.1, slots := sg T1 - sg T0, locals := 131 } s m args below meth c H locs (T1.1 - T0.1) (sg T1 - sg T0) Q (F0 m 36 ls [.int r1])) : ∀ (T : AT) (ad : Nat → Nat) (H : Heap) (locs : List Loc) (ls : Array Slot) (l0 : Nat) (l1 : Nat), g_X0_bestOf_b17 T l0 l1 = some (r1, T1) → GL T0 T → RC T → (∀ n, n < T0.1 → ad n = ad0 n) → l0 < T.1 → l1 < T.1 → gC cI cJ cZ cMic cSrc cSt cAI cAJ D ad A s.heap H locs T → lv_has ls 5 [(0, .ref (ad l0)), (1, .ref (ad l1))] → W p l e { frames := 6, cells := T1.1 - T0.1, slots := sg T1 - sg T0, locals := 131 } s m args below meth c H locs (T.1 - T0.1) (sg T - sg T0) Q (F0 m 17 ls []) := by
  have hx := E.1
  have hb := E.2.1
  have hts := E.2.2.1
  have hown := E.2.2.2.1
  have hK := E.2.2.2.2
  intro T ad H locs ls l0 l1 h hgl hrc had h_l0 h_l1 G hl
  have hT1 := s_X0_bestOf_b17 _ _ _ h
  have hcs := cs_ok hgl hT1
  have cp0 := cpr0 hrc
  unfold g_X0_bestOf_b17 at h
  refine lv_aload_n hx hb dX0_bestOf_17 rfl (lv_at hl 1 rfl) ?_
  obtain ⟨g2, h⟩ := oif_some h
  obtain ⟨n3, en3, h⟩ := obind_some h
  have h_n3 : n3 < T.1 := by rw [← cp0.1]; exact cp0.2.2 _ _ _ en3
  refine c_get E G l1 6 (v := .ref (ad n3)) (oO_k g2).1 (cc_o6 (oO_k g2).2) rfl (fun w h => .tail _ (iA_14 h)) (by decide) (.tail _ qA_22) rfl (by rw [en3]; rfl) dX0_bestOf_18 ?_
  clear en3
  refine lv_aload_n hx hb dX0_bestOf_21 rfl (lv_at hl 1 rfl) ?_
  obtain ⟨g4, h⟩ := oif_some h
  obtain ⟨n5, en5, h⟩ := obind_some h
  have h_n5 : n5 < T.1 := by rw [← cp0.1]; exact cp0.2.2 _ _ _ en5
  refine c_get E G l1 6 (v := .ref (ad n5)) (oO_k g4).1 (cc_o6 (oO_k g4).2) rfl (fun w h => .tail _ (iA_14 h)) (by decide) (.tail _ qA_22) rfl (by rw [en5]; rfl) dX0_bestOf_22 ?_
  clear en5
  obtain ⟨g6, h⟩ := oif_some h
  obtain ⟨n7, en7, h⟩ := obind_some h
  have h_n7 : n7 < T.1 := by rw [← cp0.1]; exact cp0.2.2 _ _ _ en7
  refine c_get E G n5 5 (v := .ref (ad n7)) (oO_k g6).1 (cc_o1 (oO_k g6).2) rfl (fun w h => .tail _ (iA_15 h)) (by decide) (.tail _ qA_23) rfl (by rw [en7]; rfl) dX0_bestOf_25 ?_
  clear en7
  refine lv_aload_n hx hb dX0_bestOf_28 rfl (lv_at hl 0 rfl) ?_
  obtain ⟨g8, h⟩ := oif_some h
  obtain ⟨n9, en9, h⟩ := obind_some h
  have h_n9 : n9 < T.1 := by rw [← cp0.1]; exact cp0.2.2 _ _ _ en9
  refine c_get E G l0 0 (v := .ref (ad n9)) (oO_k g8).1 (cc_o0 (oO_k g8).2) rfl (fun w h => .tail _ (iA_13 h)) (by decide) (.tail _ qA_7) rfl (by rw [en9]; rfl) dX0_bestOf_29 ?_
  clear en9
  refine lv_iconst (v := 0) hx hb dX0_bestOf_32 (by decide) ?_
  obtain ⟨g10, h⟩ := oif_some h
  obtain ⟨r13, T11, eT11, h⟩ := obind2_some h
  refine q_cvi (As := [.ref (ad n7), .ref (ad n9), .int 0]) (rest := []) E G hA hX hN hml (u_X1_bestIn l hst D cI cJ cZ cMic cSrc cSt cAI cAJ ad T n3 n7 n9 (0 : Int32) eT11) (cwV 3 hts (gaV qA_115 qA_116 qA_117 qA_37 qA_118) rfl rfl rfl (by decide +kernel) ⟨Nat.le_of_ble_eq_true rfl, Nat.le_of_ble_eq_true rfl⟩) (oO_k g10).1 (cc_o1 (oO_k g10).2) rfl rfl hl.1 rfl (lv_room (Nat.le_of_ble_eq_true rfl)) dX0_bestOf_33 hcs (fun q14 T12 H locs hq G => ?_)
  obtain ⟨hq1, hq2⟩ := hq
  rw [hq2] at G
  refine lv_to hq1 ?_
  clear hq1 hq2
  have cp1 := cpr_sp cp0 (s_X1_bestIn eT11)
  rw [(osome2 h).2] at G
  refine w_cast (c2 := T1.1 - T0.1) (s2 := sg T1 - sg T0) (by rw [← (osome2 h).2, cp1.1] <;> rfl) (by rw [← (osome2 h).2, sg_cpr cp1] <;> rfl) ?_
  refine lv_to ((osome2 h).1) ?_
  exact kr36 ad _ _ _ had G
set_option maxHeartbeats 4000000 in
set_option maxRecDepth 100000 in
theorem a_X0_bestOf (l : Launch) (hst : l.stackTraces = false) (D : va_G) (cI cJ cZ cMic cSrc cSt cAI cAJ : ClassId) (ad : Nat → Nat) (T : AT) (o : Nat) (a0 : Nat) (a1 : Nat) (a2 : Int32) (a3 : Int32) {r1 : Int32} {T1 : AT} (h : g_X0_bestOf T o a0 a1 a2 a3 = some (r1, T1)) (hrc : RC T) (h_o : o < T.1) (h_a0 : a0 < T.1) (h_a1 : a1 < T.1) : kAi l yX0_bestOf (Cond.code yX0_bestOf cX0_bestOf 5 (some .int) :: wsA) 6 131 cI cJ cZ cMic cSrc cSt cAI cAJ D ad T [.ref (ad o), .ref (ad a0), .ref (ad a1), .int a2, .int a3] r1 T1 := by
  intro sz
  refine Met.ofW (cc := cX0_bestOf) (maxL := 5) (ret := (some .int)) (by decide) rfl ?_
  intro p e s m args below meth c s₁ B hml hv
  obtain ⟨rfl, hsz, hP, hK, hD0, hX, hN⟩ := hv
  have hx := B.exec
  have hb := B.bytes
  have hr := B.returns
  have hts := atoms_spec (ws := (Cond.code yX0_bestOf cX0_bestOf 5 (some .int) :: wsA)) B.pre
  have hown : s.vm.findClass RX0 = some m.cls := findClass_of_methodNamed B.named
  have hlocks := B.notSynchronized
  subst hsz
  have hD := hD0.self (sz := s.heap.size)
  generalize hAe : va_A (cW ad T.1 (cc cI cJ cZ cMic cSrc cSt cAI cAJ ad T)) s.heap.size = A at hD hX ⊢
  have hA : ∀ q : Nat, s.heap.size ≤ q → A q := fun q h => by rw [← hAe]; exact Or.inr h
  have G : gC cI cJ cZ cMic cSrc cSt cAI cAJ D ad A s.heap s.heap [] T := ⟨hP, hD, va_S.rf⟩
  have E : cE p c cX0_bestOf s m ([.ref (ad o), .ref (ad a0), .ref (ad a1), .int a2, .int a3] : List Value).toArray (Cond.code yX0_bestOf cX0_bestOf 5 (some .int) :: wsA) D RX0 (CT cI cJ cZ cMic cSrc cSt cAI cAJ) := ⟨hx, hb, hts, hown, hK⟩
  have hl := lv_entry ([.ref (ad o), .ref (ad a0), .ref (ad a1), .int a2, .int a3]) (n := 5) (Nat.le_of_ble_eq_true rfl)
  rw [lg_entry_eq]
  generalize (lg_sl ([.ref (ad o), .ref (ad a0), .ref (ad a1), .int a2, .int a3]) ++ List.replicate (5 - (lg_sl ([.ref (ad o), .ref (ad a0), .ref (ad a1), .int a2, .int a3])).length) Slot.unset).toArray = ls at hl ⊢
  have hl : lv_has ls 5 [(0, .ref (ad o)), (1, .ref (ad a0)), (2, .ref (ad a1)), (3, .int a2), (4, .int a3)] := hl
  have hgl := GL.rf T
  have had : ∀ n, n < T.1 → ad n = ad n := fun _ _ => rfl
  have hT1 := s_X0_bestOf h
  have hcs := cs_ok hgl hT1
  refine w_cast (Nat.sub_self T.1).symm (Nat.sub_self (sg T)).symm ?_
  have cp0 := cpr0 hrc
  unfold g_X0_bestOf at h
  refine lv_aload_n hx hb dX0_bestOf_0 rfl (lv_at hl 0 rfl) ?_
  obtain ⟨g2, h⟩ := oif_some h
  obtain ⟨n3, en3, h⟩ := obind_some h
  have h_n3 : n3 < T.1 := by rw [← cp0.1]; exact cp0.2.2 _ _ _ en3
  refine c_get E G o 0 (v := .ref (ad n3)) (oO_k g2).1 (cc_o0 (oO_k g2).2) rfl (fun w h => .tail _ (iA_13 h)) (by decide) (.tail _ qA_7) rfl (by rw [en3]; rfl) dX0_bestOf_1 ?_
  clear en3
  obtain ⟨g4, h⟩ := oif_some h
  obtain ⟨T5, eT5, h⟩ := obind_some h
  refine q_cvv (As := []) (rest := []) E G hA hX hN hml (u_X10_narrow l hst D cI cJ cZ cMic cSrc cSt cAI cAJ ad T n3 eT5) (cwV 0 hts (gaV qA_24 qA_25 qA_26 qA_6 qA_27) rfl rfl rfl (by decide +kernel) ⟨Nat.le_of_ble_eq_true rfl, Nat.le_of_ble_eq_true rfl⟩) (oO_k g4).1 (cc_o10 (oO_k g4).2) rfl rfl hl.1 rfl (lv_room (Nat.le_of_ble_eq_true rfl)) dX0_bestOf_4 hcs (fun T6 H locs hq G => ?_)
  rw [hq] at G
  clear hq
  have cp1 := cpr_sp cp0 (s_X10_narrow eT5)
  refine lv_aload_n hx hb dX0_bestOf_7 rfl (lv_at hl 0 rfl) ?_
  refine lv_aload_n hx hb dX0_bestOf_8 rfl (lv_at hl 1 rfl) ?_
  refine lv_aload_n hx hb dX0_bestOf_9 rfl (lv_at hl 2 rfl) ?_
  refine lv_iload_n hx hb dX0_bestOf_10 rfl (lv_at hl 3 rfl) ?_
  refine lv_iload hx hb dX0_bestOf_11 (lv_at hl 4 rfl) ?_
  refine lv_iconst (v := 0) hx hb dX0_bestOf_13 (by decide) ?_
  obtain ⟨g7, h⟩ := oif_some h
  obtain ⟨T8, eT8, h⟩ := obind_some h
  have hg2 := s_X0_measure eT8
  have hrc2 := hg2.2.2 cp1.2.2
  have hT2 := s_X0_bestOf_b17 _ _ _ h
  refine q_avv (As := [.ref (ad a0), .ref (ad a1), .int a2, .int a3, .int 0]) (rest := []) E G hA hX hN hml (a_X0_measure l hst D cI cJ cZ cMic cSrc cSt cAI cAJ ad T5 o a0 a1 a2 a3 (0 : Int32) eT8 cp1.2.2 (by rw [cp1.1]; exact h_o) (by rw [cp1.1]; exact h_a0) (by rw [cp1.1]; exact h_a1)) (cwV 5 hts (gaV qA_28 qA_29 qA_30 qA_31 qA_32) rfl rfl rfl (by decide +kernel) ⟨Nat.le_of_ble_eq_true rfl, Nat.le_of_ble_eq_true rfl⟩) (oO_k g7).1 (cc_o0 (oO_k g7).2) rfl rfl hl.1 rfl (lv_room (Nat.le_of_ble_eq_true rfl)) dX0_bestOf_14 (cs_av hgl cp1 hg2 hT2) (fun ad2 H locs hga G => ?_)
  refine w_cast (c2 := T8.1 - T.1) (s2 := sg T8 - sg T) (cs_f1 hgl cp1 hg2) (cs_f2 hgl cp1 hg2) ?_
  have hl := lv_sub hl [0, 1] rfl
  rw [show ad o = ad2 o from (hga o (by rw [cp1.1]; exact h_o)).symm] at hl
  rw [show ad a0 = ad2 a0 from (hga a0 (by rw [cp1.1]; exact h_a0)).symm] at hl
  exact a_X0_bestOf_b17 E hA hX hN hml hst (fun ad H locs ls had G => W.iret (v := r1) hx hb hr (fun t ht hW => ⟨⟨r1, (T1, ad), rfl, ⟨rfl, rfl, had⟩, ⟨by rw [ht]; exact G.1, va_K.moved hW.alike hK, G.2.1⟩⟩, G.2.2.F ht⟩) G.2.2.2.2 dX0_bestOf_36) _ _ _ _ _ _ _ h (GL.tr (gl_cpr hgl cp1) hg2) hrc2 (fun n hn => (hga n (by rw [cp1.1]; exact Nat.lt_of_lt_of_le hn hgl.1)).trans (had n hn)) (Nat.lt_of_lt_of_le (by rw [cp1.1]; exact h_o) hg2.1) (Nat.lt_of_lt_of_le (by rw [cp1.1]; exact h_a0) hg2.1) G hl
def g_X11_quotient_b13   (s0 : Int64) : Option (Int64) := some s0
set_option maxHeartbeats 4000000 in
set_option maxRecDepth 100000 in
theorem u_X11_quotient_b13 {p : Program} {l : Launch} {e : Env} {s : State} {m : MethodId} {args : Array Value} {below : List Frame} {meth : Method} {c : Code} {Q : State → Prop} {r1 : Int64}  (E : p.tables.exec = Jvm.exec ∧ c.code = cX11_quotient ∧ (∀ w ∈ (Cond.code yX11_quotient cX11_quotient 4 (some .long) :: wsA), w.before args s = true) ∧ s.vm.findClass RX11 = some m.cls) (hN : nX s) (hml : c.maxLocals = 4) (kr13 : ∀ (ls : Array Slot), W p l e { frames := 1, cells := 0, slots := 0, locals := 0 } s m args below meth c s.heap [] 0 0 Q (F0 m 13 ls [.long r1])) : ∀ (ls : Array Slot) (s0 : Int64), g_X11_quotient_b13 s0 = some r1 → lv_has ls 4 [] → W p l e { frames := 1, cells := 0, slots := 0, locals := 0 } s m args below meth c s.heap [] 0 0 Q (F0 m 13 ls [.long s0]) := by
  have hx := E.1
  have hb := E.2.1
  have hts := E.2.2.1
  have hown := E.2.2.2
  intro ls s0 h hl
  unfold g_X11_quotient_b13 at h
  refine lv_tol (osome1 h) ?_
  exact kr13 _
def g_X11_quotient  (a0 : Int64) (a1 : Int64) : Option (Int64) := elet (lg_cmp a1 (0 : Int64)) fun v2 => if v2 = 0 then (g_X11_quotient_b13 (0 : Int64)) else (oif (¬ a1 = 0) <| elet (a0 / a1) fun v5 => g_X11_quotient_b13 v5)
set_option maxHeartbeats 4000000 in
set_option maxRecDepth 100000 in
theorem u_X11_quotient (l : Launch) (a0 : Int64) (a1 : Int64) {r1 : Int64} (h : g_X11_quotient a0 a1 = some r1) : Met l yX11_quotient (Cond.code yX11_quotient cX11_quotient 4 (some .long) :: wsA) { frames := 1, cells := 0, slots := 0, locals := 0 } (va_Pc [.long a0, .long a1] nX) (vp_Sl (fun r => r = r1)) 0 0 (fun _ => False) := by
  refine Met.ofW (cc := cX11_quotient) (maxL := 4) (ret := (some .long)) (by decide) rfl ?_
  intro p e s m args below meth c s₁ B hml hv
  obtain ⟨rfl, hN⟩ := hv
  have hx := B.exec
  have hb := B.bytes
  have hr := B.returns
  have hts := atoms_spec (ws := (Cond.code yX11_quotient cX11_quotient 4 (some .long) :: wsA)) B.pre
  have hown : s.vm.findClass RX11 = some m.cls := findClass_of_methodNamed B.named
  have hlocks := B.notSynchronized
  have E : p.tables.exec = Jvm.exec ∧ c.code = cX11_quotient ∧ (∀ w ∈ (Cond.code yX11_quotient cX11_quotient 4 (some .long) :: wsA), w.before ([.long a0, .long a1] : List Value).toArray s = true) ∧ s.vm.findClass RX11 = some m.cls := ⟨hx, hb, hts, hown⟩
  have hl := lv_entry ([.long a0, .long a1]) (n := 4) (Nat.le_of_ble_eq_true rfl)
  rw [lg_entry_eq]
  generalize (lg_sl ([.long a0, .long a1]) ++ List.replicate (4 - (lg_sl ([.long a0, .long a1])).length) Slot.unset).toArray = ls at hl ⊢
  have hl : lv_has ls 4 [(0, .long a0), (2, .long a1)] := hl
  unfold g_X11_quotient at h
  refine lv_lload_n hx hb dX11_quotient_0 rfl (lv_at hl 1 rfl) ?_
  refine lv_lconst (v := 0) hx hb dX11_quotient_1 (by decide) ?_
  refine W.lcmp hx hb dX11_quotient_2 ?_
  refine lv_topi (fun v2 ev2 => ?_)
  have h := elet_at ev2 h
  clear ev2
  refine lv_if_ne (tgt := 10) hx hb dX11_quotient_3 (by decide) (fun c3 => ?_) (fun c3 => ?_)
  · have h := oif_neg c3 h
    refine lv_lload_n hx hb dX11_quotient_10 rfl (lv_at hl 0 rfl) ?_
    refine lv_lload_n hx hb dX11_quotient_11 rfl (lv_at hl 1 rfl) ?_
    obtain ⟨g4, h⟩ := oif_some h
    refine lv_ldiv hx hb dX11_quotient_12 g4 ?_
    refine lv_topl (fun v5 ev5 => ?_)
    have h := elet_at ev5 h
    clear ev5
    have hl := lv_sub hl [] rfl
    exact u_X11_quotient_b13 E hN hml (fun ls => W.lret (v := r1) hx hb hr (fun t ht hW => ⟨r1, rfl, rfl, ht⟩) (fun _ h => absurd h List.not_mem_nil) dX11_quotient_13) _ _ h hl
  · have h := oif_pos c3 h
    refine lv_lconst (v := 0) hx hb dX11_quotient_6 (by decide) ?_
    refine lv_goto (tgt := 13) hx hb dX11_quotient_7 (by decide) ?_
    have hl := lv_sub hl [] rfl
    exact u_X11_quotient_b13 E hN hml (fun ls => W.lret (v := r1) hx hb hr (fun t ht hW => ⟨r1, rfl, rfl, ht⟩) (fun _ h => absurd h List.not_mem_nil) dX11_quotient_13) _ _ h hl
def g_X11_remainder_b11   (s0 : Int32) : Option (Int32) := some s0
set_option maxHeartbeats 4000000 in
set_option maxRecDepth 100000 in
theorem u_X11_remainder_b11 {p : Program} {l : Launch} {e : Env} {s : State} {m : MethodId} {args : Array Value} {below : List Frame} {meth : Method} {c : Code} {Q : State → Prop} {r1 : Int32}  (E : p.tables.exec = Jvm.exec ∧ c.code = cX11_remainder ∧ (∀ w ∈ (Cond.code yX11_remainder cX11_remainder 2 (some .int) :: wsA), w.before args s = true) ∧ s.vm.findClass RX11 = some m.cls) (hN : nX s) (hml : c.maxLocals = 2) (kr11 : ∀ (ls : Array Slot), W p l e { frames := 1, cells := 0, slots := 0, locals := 0 } s m args below meth c s.heap [] 0 0 Q (F0 m 11 ls [.int r1])) : ∀ (ls : Array Slot) (s0 : Int32), g_X11_remainder_b11 s0 = some r1 → lv_has ls 2 [] → W p l e { frames := 1, cells := 0, slots := 0, locals := 0 } s m args below meth c s.heap [] 0 0 Q (F0 m 11 ls [.int s0]) := by
  have hx := E.1
  have hb := E.2.1
  have hts := E.2.2.1
  have hown := E.2.2.2
  intro ls s0 h hl
  unfold g_X11_remainder_b11 at h
  refine lv_to (osome1 h) ?_
  exact kr11 _
def g_X11_remainder  (a0 : Int32) (a1 : Int32) : Option (Int32) := if a1 = 0 then (g_X11_remainder_b11 0) else (oif (¬ a1 = 0) <| elet (a0 - a0 / a1 * a1) fun v4 => g_X11_remainder_b11 v4)
set_option maxHeartbeats 4000000 in
set_option maxRecDepth 100000 in
theorem u_X11_remainder (l : Launch) (a0 : Int32) (a1 : Int32) {r1 : Int32} (h : g_X11_remainder a0 a1 = some r1) : Met l yX11_remainder (Cond.code yX11_remainder cX11_remainder 2 (some .int) :: wsA) { frames := 1, cells := 0, slots := 0, locals := 0 } (va_Pc [.int a0, .int a1] nX) (vp_Si (fun r => r = r1)) 0 0 (fun _ => False) := by
  refine Met.ofW (cc := cX11_remainder) (maxL := 2) (ret := (some .int)) (by decide) rfl ?_
  intro p e s m args below meth c s₁ B hml hv
  obtain ⟨rfl, hN⟩ := hv
  have hx := B.exec
  have hb := B.bytes
  have hr := B.returns
  have hts := atoms_spec (ws := (Cond.code yX11_remainder cX11_remainder 2 (some .int) :: wsA)) B.pre
  have hown : s.vm.findClass RX11 = some m.cls := findClass_of_methodNamed B.named
  have hlocks := B.notSynchronized
  have E : p.tables.exec = Jvm.exec ∧ c.code = cX11_remainder ∧ (∀ w ∈ (Cond.code yX11_remainder cX11_remainder 2 (some .int) :: wsA), w.before ([.int a0, .int a1] : List Value).toArray s = true) ∧ s.vm.findClass RX11 = some m.cls := ⟨hx, hb, hts, hown⟩
  have hl := lv_entry ([.int a0, .int a1]) (n := 2) (Nat.le_of_ble_eq_true rfl)
  rw [lg_entry_eq]
  generalize (lg_sl ([.int a0, .int a1]) ++ List.replicate (2 - (lg_sl ([.int a0, .int a1])).length) Slot.unset).toArray = ls at hl ⊢
  have hl : lv_has ls 2 [(0, .int a0), (1, .int a1)] := hl
  unfold g_X11_remainder at h
  refine lv_iload_n hx hb dX11_remainder_0 rfl (lv_at hl 1 rfl) ?_
  refine lv_if_ne (tgt := 8) hx hb dX11_remainder_1 (by decide) (fun c2 => ?_) (fun c2 => ?_)
  · have h := oif_neg c2 h
    refine lv_iload_n hx hb dX11_remainder_8 rfl (lv_at hl 0 rfl) ?_
    refine lv_iload_n hx hb dX11_remainder_9 rfl (lv_at hl 1 rfl) ?_
    obtain ⟨g3, h⟩ := oif_some h
    refine lv_irem hx hb dX11_remainder_10 g3 ?_
    refine lv_topi (fun v4 ev4 => ?_)
    have h := elet_at ev4 h
    clear ev4
    have hl := lv_sub hl [] rfl
    exact u_X11_remainder_b11 E hN hml (fun ls => W.iret (v := r1) hx hb hr (fun t ht hW => ⟨r1, rfl, rfl, ht⟩) (fun _ h => absurd h List.not_mem_nil) dX11_remainder_11) _ _ h hl
  · have h := oif_pos c2 h
    refine lv_iconst (v := 0) hx hb dX11_remainder_4 (by decide) ?_
    refine lv_goto (tgt := 11) hx hb dX11_remainder_5 (by decide) ?_
    have hl := lv_sub hl [] rfl
    exact u_X11_remainder_b11 E hN hml (fun ls => W.iret (v := r1) hx hb hr (fun t ht hW => ⟨r1, rfl, rfl, ht⟩) (fun _ h => absurd h List.not_mem_nil) dX11_remainder_11) _ _ h hl
def g_X1_columnOf (T : AT) (o : Nat) (a0 : Int32) : Option (Int32 × AT) := oif (oO T o 1 = true) <| elet (T.2.2.1 o 3) fun v3 => obind (g_X11_remainder a0 v3) fun r4 => some (r4, T)
set_option maxHeartbeats 4000000 in
set_option maxRecDepth 100000 in
theorem u_X1_columnOf (l : Launch) (hst : l.stackTraces = false) (D : va_G) (cI cJ cZ cMic cSrc cSt cAI cAJ : ClassId) (ad : Nat → Nat) (T : AT) (o : Nat) (a0 : Int32) {r1 : Int32} {T1 : AT} (h : g_X1_columnOf T o a0 = some (r1, T1)) : kCi l yX1_columnOf (Cond.code yX1_columnOf cX1_columnOf 2 (some .int) :: wsA) 2 21 cI cJ cZ cMic cSrc cSt cAI cAJ D ad T [.ref (ad o), .int a0] (fun r T9 => r = r1 ∧ T9 = T1) := by
  intro sz
  refine Met.ofW (cc := cX1_columnOf) (maxL := 2) (ret := (some .int)) (by decide) rfl ?_
  intro p e s m args below meth c s₁ B hml hv
  obtain ⟨rfl, hsz, hP, hK, hD0, hX, hN⟩ := hv
  have hx := B.exec
  have hb := B.bytes
  have hr := B.returns
  have hts := atoms_spec (ws := (Cond.code yX1_columnOf cX1_columnOf 2 (some .int) :: wsA)) B.pre
  have hown : s.vm.findClass RX1 = some m.cls := findClass_of_methodNamed B.named
  have hlocks := B.notSynchronized
  subst hsz
  have hD := hD0.self (sz := s.heap.size)
  generalize hAe : va_A (cW ad T.1 (cc cI cJ cZ cMic cSrc cSt cAI cAJ ad T)) s.heap.size = A at hD hX ⊢
  have hA : ∀ q : Nat, s.heap.size ≤ q → A q := fun q h => by rw [← hAe]; exact Or.inr h
  have G : gC cI cJ cZ cMic cSrc cSt cAI cAJ D ad A s.heap s.heap [] T := ⟨hP, hD, va_S.rf⟩
  have E : cE p c cX1_columnOf s m ([.ref (ad o), .int a0] : List Value).toArray (Cond.code yX1_columnOf cX1_columnOf 2 (some .int) :: wsA) D RX1 (CT cI cJ cZ cMic cSrc cSt cAI cAJ) := ⟨hx, hb, hts, hown, hK⟩
  have hl := lv_entry ([.ref (ad o), .int a0]) (n := 2) (Nat.le_of_ble_eq_true rfl)
  rw [lg_entry_eq]
  generalize (lg_sl ([.ref (ad o), .int a0]) ++ List.replicate (2 - (lg_sl ([.ref (ad o), .int a0])).length) Slot.unset).toArray = ls at hl ⊢
  have hl : lv_has ls 2 [(0, .ref (ad o)), (1, .int a0)] := hl
  unfold g_X1_columnOf at h
  refine lv_iload_n hx hb dX1_columnOf_0 rfl (lv_at hl 1 rfl) ?_
  refine lv_aload_n hx hb dX1_columnOf_1 rfl (lv_at hl 0 rfl) ?_
  obtain ⟨g2, h⟩ := oif_some h
  refine c_get E G o 3 (oO_k g2).1 (cc_o1 (oO_k g2).2) rfl (fun w h => .tail _ (iA_15 h)) (by decide) (.tail _ qA_39) rfl rfl dX1_columnOf_2 ?_
  refine lv_topi (fun v3 ev3 => ?_)
  have h := elet_at ev3 h
  clear ev3
  obtain ⟨r4, er4, h⟩ := obind_some h
  refine q_stiN (As := [.int a0, .int v3]) (rest := []) ⟨hx, hb, hml, hown, hts⟩ hN (u_X11_remainder l a0 v3 er4) ⟨va_cnB (host := "AcousticCamera") 2 hts (gaC qA_145) rfl rfl rfl (hN.2.2.2.2.2 _ (List.mem_of_getElem? (i := 9) rfl)) (hts _ (.tail _ qA_131)) (by decide +kernel) ⟨Nat.le_of_ble_eq_true rfl, Nat.le_of_ble_eq_true rfl⟩, hts _ (.tail _ qA_144), trivial⟩ rfl hl.1 rfl (lv_room (Nat.le_of_ble_eq_true rfl)) dX1_columnOf_5 ⟨Nat.zero_le _, Nat.zero_le _⟩ (fun q5 hq => ?_)
  refine lv_to hq ?_
  clear hq er4
  exact W.iret (v := r4) hx hb hr (fun t ht hW => ⟨⟨r4, T, rfl, osome2 h, ⟨by rw [ht]; exact G.1, va_K.moved hW.alike hK, G.2.1⟩⟩, G.2.2.F ht⟩) G.2.2.2.2 dX1_columnOf_8
set_option maxHeartbeats 4000000 in
set_option maxRecDepth 100000 in
theorem s_X1_columnOf {T : AT} {o : Nat} {a0 : Int32} {r1 : Int32} {T1 : AT} (h : g_X1_columnOf T o a0 = some (r1, T1)) : SP T T1 := by
  have p0 := SP.rf T
  unfold g_X1_columnOf at h
  obtain ⟨g2, h⟩ := oif_some h
  obtain ⟨v3, -, h⟩ := elet_some h
  obtain ⟨r4, -, h⟩ := obind_some h
  rw [← (osome2 h).2]
  exact p0
def g_X1_rowOf (T : AT) (o : Nat) (a0 : Int32) : Option (Int32 × AT) := elet (a0.toInt64) fun v2 => oif (oO T o 1 = true) <| elet (T.2.2.1 o 3) fun v4 => elet (v4.toInt64) fun v5 => obind (g_X11_quotient v2 v5) fun r6 => elet (r6.toInt32) fun v8 => some (v8, T)
set_option maxHeartbeats 4000000 in
set_option maxRecDepth 100000 in
theorem u_X1_rowOf (l : Launch) (hst : l.stackTraces = false) (D : va_G) (cI cJ cZ cMic cSrc cSt cAI cAJ : ClassId) (ad : Nat → Nat) (T : AT) (o : Nat) (a0 : Int32) {r1 : Int32} {T1 : AT} (h : g_X1_rowOf T o a0 = some (r1, T1)) : kCi l yX1_rowOf (Cond.code yX1_rowOf cX1_rowOf 2 (some .int) :: wsA) 2 23 cI cJ cZ cMic cSrc cSt cAI cAJ D ad T [.ref (ad o), .int a0] (fun r T9 => r = r1 ∧ T9 = T1) := by
  intro sz
  refine Met.ofW (cc := cX1_rowOf) (maxL := 2) (ret := (some .int)) (by decide) rfl ?_
  intro p e s m args below meth c s₁ B hml hv
  obtain ⟨rfl, hsz, hP, hK, hD0, hX, hN⟩ := hv
  have hx := B.exec
  have hb := B.bytes
  have hr := B.returns
  have hts := atoms_spec (ws := (Cond.code yX1_rowOf cX1_rowOf 2 (some .int) :: wsA)) B.pre
  have hown : s.vm.findClass RX1 = some m.cls := findClass_of_methodNamed B.named
  have hlocks := B.notSynchronized
  subst hsz
  have hD := hD0.self (sz := s.heap.size)
  generalize hAe : va_A (cW ad T.1 (cc cI cJ cZ cMic cSrc cSt cAI cAJ ad T)) s.heap.size = A at hD hX ⊢
  have hA : ∀ q : Nat, s.heap.size ≤ q → A q := fun q h => by rw [← hAe]; exact Or.inr h
  have G : gC cI cJ cZ cMic cSrc cSt cAI cAJ D ad A s.heap s.heap [] T := ⟨hP, hD, va_S.rf⟩
  have E : cE p c cX1_rowOf s m ([.ref (ad o), .int a0] : List Value).toArray (Cond.code yX1_rowOf cX1_rowOf 2 (some .int) :: wsA) D RX1 (CT cI cJ cZ cMic cSrc cSt cAI cAJ) := ⟨hx, hb, hts, hown, hK⟩
  have hl := lv_entry ([.ref (ad o), .int a0]) (n := 2) (Nat.le_of_ble_eq_true rfl)
  rw [lg_entry_eq]
  generalize (lg_sl ([.ref (ad o), .int a0]) ++ List.replicate (2 - (lg_sl ([.ref (ad o), .int a0])).length) Slot.unset).toArray = ls at hl ⊢
  have hl : lv_has ls 2 [(0, .ref (ad o)), (1, .int a0)] := hl
  unfold g_X1_rowOf at h
  refine lv_iload_n hx hb dX1_rowOf_0 rfl (lv_at hl 1 rfl) ?_
  refine lv_i2l (v := a0.toInt64) hx hb dX1_rowOf_1 rfl ?_
  refine lv_topl (fun v2 ev2 => ?_)
  have h := elet_at ev2 h
  clear ev2
  refine lv_aload_n hx hb dX1_rowOf_2 rfl (lv_at hl 0 rfl) ?_
  obtain ⟨g3, h⟩ := oif_some h
  refine c_get E G o 3 (oO_k g3).1 (cc_o1 (oO_k g3).2) rfl (fun w h => .tail _ (iA_15 h)) (by decide) (.tail _ qA_39) rfl rfl dX1_rowOf_3 ?_
  refine lv_topi (fun v4 ev4 => ?_)
  have h := elet_at ev4 h
  clear ev4
  refine lv_i2l (v := v4.toInt64) hx hb dX1_rowOf_6 rfl ?_
  refine lv_topl (fun v5 ev5 => ?_)
  have h := elet_at ev5 h
  clear ev5
  obtain ⟨r6, er6, h⟩ := obind_some h
  refine q_stlN (As := [.long v2, .long v5]) (rest := []) ⟨hx, hb, hml, hown, hts⟩ hN (u_X11_quotient l v2 v5 er6) ⟨va_cnB (host := "AcousticCamera") 2 hts (gaC qA_132) rfl rfl rfl (hN.2.2.2.2.2 _ (List.mem_of_getElem? (i := 10) rfl)) (hts _ (.tail _ qA_131)) (by decide +kernel) ⟨Nat.le_of_ble_eq_true rfl, Nat.le_of_ble_eq_true rfl⟩, hts _ (.tail _ qA_130), trivial⟩ rfl hl.1 rfl (lv_room (Nat.le_of_ble_eq_true rfl)) dX1_rowOf_7 ⟨Nat.zero_le _, Nat.zero_le _⟩ (fun q7 hq => ?_)
  refine lv_tol hq ?_
  clear hq er6
  refine lv_l2i (v := r6.toInt32) hx hb dX1_rowOf_10 rfl ?_
  refine lv_topi (fun v8 ev8 => ?_)
  have h := elet_at ev8 h
  clear ev8
  exact W.iret (v := v8) hx hb hr (fun t ht hW => ⟨⟨v8, T, rfl, osome2 h, ⟨by rw [ht]; exact G.1, va_K.moved hW.alike hK, G.2.1⟩⟩, G.2.2.F ht⟩) G.2.2.2.2 dX1_rowOf_11
set_option maxHeartbeats 4000000 in
set_option maxRecDepth 100000 in
theorem s_X1_rowOf {T : AT} {o : Nat} {a0 : Int32} {r1 : Int32} {T1 : AT} (h : g_X1_rowOf T o a0 = some (r1, T1)) : SP T T1 := by
  have p0 := SP.rf T
  unfold g_X1_rowOf at h
  obtain ⟨v2, -, h⟩ := elet_some h
  obtain ⟨g3, h⟩ := oif_some h
  obtain ⟨v4, -, h⟩ := elet_some h
  obtain ⟨v5, -, h⟩ := elet_some h
  obtain ⟨r6, -, h⟩ := obind_some h
  obtain ⟨v7, -, h⟩ := elet_some h
  rw [← (osome2 h).2]
  exact p0
def g_X1_areaAround (T : AT) (o : Nat) (a0 : Int32) : Option (Nat × AT) := oif (oO T o 1 = true) <| obind2 (g_X1_columnOf T o a0) fun r5 T3 => oif (oO T3 o 1 = true) <| obind2 (g_X1_rowOf T3 o a0) fun r10 T8 => oif (oO T8 o 1 = true) <| obind (T8.2.2.2.2 o 8) fun n13 => elet (r5 - 1) fun v14 => elet (if v14 < 0 then 0 else v14) fun v15 => oif (aA T8 n13 100 = true) <| oif (inb 0 (T8.2.1 n13).2 = true) <| elet (uI T8 n13 (0 : Int32).toNatClampNeg v15) fun T18 => oif (oO T18 o 1 = true) <| obind (T18.2.2.2.2 o 8) fun n20 => elet (r10 - 1) fun v21 => elet (if v21 < 0 then 0 else v21) fun v22 => oif (aA T18 n20 100 = true) <| oif (inb 1 (T18.2.1 n20).2 = true) <| elet (uI T18 n20 (1 : Int32).toNatClampNeg v22) fun T25 => oif (oO T25 o 1 = true) <| obind (T25.2.2.2.2 o 8) fun n27 => elet (r5 + 1) fun v28 => oif (oO T25 o 1 = true) <| elet (T25.2.2.1 o 3) fun v30 => elet (v30 - 1) fun v31 => elet (if v31 < v28 then v31 else v28) fun v32 => oif (aA T25 n27 100 = true) <| oif (inb 2 (T25.2.1 n27).2 = true) <| elet (uI T25 n27 (2 : Int32).toNatClampNeg v32) fun T35 => oif (oO T35 o 1 = true) <| obind (T35.2.2.2.2 o 8) fun n37 => elet (r10 + 1) fun v38 => oif (oO T35 o 1 = true) <| elet (T35.2.2.1 o 4) fun v40 => elet (v40 - 1) fun v41 => elet (if v41 < v38 then v41 else v38) fun v42 => oif (aA T35 n37 100 = true) <| oif (inb 3 (T35.2.1 n37).2 = true) <| elet (uI T35 n37 (3 : Int32).toNatClampNeg v42) fun T45 => oif (oO T45 o 1 = true) <| obind (T45.2.2.2.2 o 8) fun n47 => some (n47, T45)
set_option maxHeartbeats 4000000 in
set_option maxRecDepth 100000 in
theorem u_X1_areaAround (l : Launch) (hst : l.stackTraces = false) (D : va_G) (cI cJ cZ cMic cSrc cSt cAI cAJ : ClassId) (ad : Nat → Nat) (T : AT) (o : Nat) (a0 : Int32) {r1 : Nat} {T1 : AT} (h : g_X1_areaAround T o a0 = some (r1, T1)) : kCr l yX1_areaAround (Cond.code yX1_areaAround cX1_areaAround 4 (some (.array .int)) :: wsA) 3 44 cI cJ cZ cMic cSrc cSt cAI cAJ D ad T [.ref (ad o), .int a0] (fun T9 => T9 = T1) (r1) := by
  intro sz
  refine Met.ofW (cc := cX1_areaAround) (maxL := 4) (ret := (some (.array .int))) (by decide) rfl ?_
  intro p e s m args below meth c s₁ B hml hv
  obtain ⟨rfl, hsz, hP, hK, hD0, hX, hN⟩ := hv
  have hx := B.exec
  have hb := B.bytes
  have hr := B.returns
  have hts := atoms_spec (ws := (Cond.code yX1_areaAround cX1_areaAround 4 (some (.array .int)) :: wsA)) B.pre
  have hown : s.vm.findClass RX1 = some m.cls := findClass_of_methodNamed B.named
  have hlocks := B.notSynchronized
  subst hsz
  have hD := hD0.self (sz := s.heap.size)
  generalize hAe : va_A (cW ad T.1 (cc cI cJ cZ cMic cSrc cSt cAI cAJ ad T)) s.heap.size = A at hD hX ⊢
  have hA : ∀ q : Nat, s.heap.size ≤ q → A q := fun q h => by rw [← hAe]; exact Or.inr h
  have G : gC cI cJ cZ cMic cSrc cSt cAI cAJ D ad A s.heap s.heap [] T := ⟨hP, hD, va_S.rf⟩
  have E : cE p c cX1_areaAround s m ([.ref (ad o), .int a0] : List Value).toArray (Cond.code yX1_areaAround cX1_areaAround 4 (some (.array .int)) :: wsA) D RX1 (CT cI cJ cZ cMic cSrc cSt cAI cAJ) := ⟨hx, hb, hts, hown, hK⟩
  have hl := lv_entry ([.ref (ad o), .int a0]) (n := 4) (Nat.le_of_ble_eq_true rfl)
  rw [lg_entry_eq]
  generalize (lg_sl ([.ref (ad o), .int a0]) ++ List.replicate (4 - (lg_sl ([.ref (ad o), .int a0])).length) Slot.unset).toArray = ls at hl ⊢
  have hl : lv_has ls 4 [(0, .ref (ad o)), (1, .int a0)] := hl
  unfold g_X1_areaAround at h
  refine lv_aload_n hx hb dX1_areaAround_0 rfl (lv_at hl 0 rfl) ?_
  refine lv_iload_n hx hb dX1_areaAround_1 rfl (lv_at hl 1 rfl) ?_
  obtain ⟨g2, h⟩ := oif_some h
  obtain ⟨r5, T3, eT3, h⟩ := obind2_some h
  refine q_cvi (As := [.int a0]) (rest := []) E G hA hX hN hml (u_X1_columnOf l hst D cI cJ cZ cMic cSrc cSt cAI cAJ ad T o a0 eT3) (cwV 1 hts (gaV qA_140 qA_141 qA_142 qA_37 qA_143) rfl rfl rfl (by decide +kernel) ⟨Nat.le_of_ble_eq_true rfl, Nat.le_of_ble_eq_true rfl⟩) (oO_k g2).1 (cc_o1 (oO_k g2).2) rfl rfl hl.1 rfl (lv_room (Nat.le_of_ble_eq_true rfl)) dX1_areaAround_2 ⟨Nat.zero_le _, Nat.zero_le _⟩ (fun q6 T4 H locs hq G => ?_)
  obtain ⟨hq1, hq2⟩ := hq
  rw [hq2] at G
  refine lv_to hq1 ?_
  clear hq1 hq2 eT3
  refine lv_istore_n (lv' := [(2, .int r5), (0, .ref (ad o)), (1, .int a0)]) hx hb dX1_areaAround_5 rfl hl (by decide) rfl (fun ls hl => ?_)
  refine lv_aload_n hx hb dX1_areaAround_6 rfl (lv_at hl 1 rfl) ?_
  refine lv_iload_n hx hb dX1_areaAround_7 rfl (lv_at hl 2 rfl) ?_
  obtain ⟨g7, h⟩ := oif_some h
  obtain ⟨r10, T8, eT8, h⟩ := obind2_some h
  refine q_cvi (As := [.int a0]) (rest := []) E G hA hX hN hml (u_X1_rowOf l hst D cI cJ cZ cMic cSrc cSt cAI cAJ ad T3 o a0 eT8) (cwV 1 hts (gaV qA_146 qA_147 qA_148 qA_37 qA_149) rfl rfl rfl (by decide +kernel) ⟨Nat.le_of_ble_eq_true rfl, Nat.le_of_ble_eq_true rfl⟩) (oO_k g7).1 (cc_o1 (oO_k g7).2) rfl rfl hl.1 rfl (lv_room (Nat.le_of_ble_eq_true rfl)) dX1_areaAround_8 ⟨Nat.zero_le _, Nat.zero_le _⟩ (fun q11 T9 H locs hq G => ?_)
  obtain ⟨hq1, hq2⟩ := hq
  rw [hq2] at G
  refine lv_to hq1 ?_
  clear hq1 hq2 eT8
  refine lv_istore_n (lv' := [(3, .int r10), (2, .int r5), (0, .ref (ad o)), (1, .int a0)]) hx hb dX1_areaAround_11 rfl hl (by decide) rfl (fun ls hl => ?_)
  refine lv_aload_n hx hb dX1_areaAround_12 rfl (lv_at hl 2 rfl) ?_
  obtain ⟨g12, h⟩ := oif_some h
  obtain ⟨n13, en13, h⟩ := obind_some h
  refine c_get E G o 8 (v := .ref (ad n13)) (oO_k g12).1 (cc_o1 (oO_k g12).2) rfl (fun w h => .tail _ (iA_15 h)) (by decide) (.tail _ qA_137) rfl (by rw [en13]; rfl) dX1_areaAround_13 ?_
  clear en13
  refine lv_iconst (v := 0) hx hb dX1_areaAround_16 (by decide) ?_
  refine lv_iload_n hx hb dX1_areaAround_17 rfl (lv_at hl 1 rfl) ?_
  refine lv_iconst (v := 1) hx hb dX1_areaAround_18 (by decide) ?_
  refine lv_isub hx hb dX1_areaAround_19 ?_
  refine lv_topi (fun v14 ev14 => ?_)
  have h := elet_at ev14 h
  clear ev14
  refine lv_iconst (v := 0) hx hb dX1_areaAround_20 (by decide) ?_
  refine va_mmax hx hb (hml.trans hl.1.symm) hown (hts _ (.tail _ qA_138)) (hts _ (.tail _ qA_17)) (hts _ (.tail _ qA_18)) (hts _ (.tail _ qA_19)) (Nat.le_of_ble_eq_true rfl) (Nat.le_of_ble_eq_true rfl) (Nat.zero_le _) (Nat.zero_le _) dX1_areaAround_21 ?_
  refine lv_topi (fun v15 ev15 => ?_)
  have h := elet_at ev15 h
  clear ev15
  obtain ⟨g16, h⟩ := oif_some h
  obtain ⟨g17, h⟩ := oif_some h
  refine c_iast E G n13 0 (k := (0 : Int32).toNatClampNeg) (v := v15) (aA_k g16).1 (cc_a100 (aA_k g16).2.1) rfl (inb_k g17).1 (inb_k g17).2 (aA_k g16).2.2 dX1_areaAround_24 (fun H locs G => ?_)
  have G := gC_up_i (f := upd (T8.2.2.1 n13) (0 : Int32).toNatClampNeg v15) (ccv_100 (aA_k g16).2.1) G
  obtain ⟨T18, eT18, h⟩ := elet_some h
  have G : gC cI cJ cZ cMic cSrc cSt cAI cAJ D ad A s.heap H locs T18 := by rw [eT18]; exact G
  clear eT18
  refine lv_aload_n hx hb dX1_areaAround_25 rfl (lv_at hl 2 rfl) ?_
  obtain ⟨g19, h⟩ := oif_some h
  obtain ⟨n20, en20, h⟩ := obind_some h
  refine c_get E G o 8 (v := .ref (ad n20)) (oO_k g19).1 (cc_o1 (oO_k g19).2) rfl (fun w h => .tail _ (iA_15 h)) (by decide) (.tail _ qA_137) rfl (by rw [en20]; rfl) dX1_areaAround_26 ?_
  clear en20
  refine lv_iconst (v := 1) hx hb dX1_areaAround_29 (by decide) ?_
  refine lv_iload_n hx hb dX1_areaAround_30 rfl (lv_at hl 0 rfl) ?_
  refine lv_iconst (v := 1) hx hb dX1_areaAround_31 (by decide) ?_
  refine lv_isub hx hb dX1_areaAround_32 ?_
  refine lv_topi (fun v21 ev21 => ?_)
  have h := elet_at ev21 h
  clear ev21
  refine lv_iconst (v := 0) hx hb dX1_areaAround_33 (by decide) ?_
  refine va_mmax hx hb (hml.trans hl.1.symm) hown (hts _ (.tail _ qA_138)) (hts _ (.tail _ qA_17)) (hts _ (.tail _ qA_18)) (hts _ (.tail _ qA_19)) (Nat.le_of_ble_eq_true rfl) (Nat.le_of_ble_eq_true rfl) (Nat.zero_le _) (Nat.zero_le _) dX1_areaAround_34 ?_
  refine lv_topi (fun v22 ev22 => ?_)
  have h := elet_at ev22 h
  clear ev22
  obtain ⟨g23, h⟩ := oif_some h
  obtain ⟨g24, h⟩ := oif_some h
  refine c_iast E G n20 0 (k := (1 : Int32).toNatClampNeg) (v := v22) (aA_k g23).1 (cc_a100 (aA_k g23).2.1) rfl (inb_k g24).1 (inb_k g24).2 (aA_k g23).2.2 dX1_areaAround_37 (fun H locs G => ?_)
  have G := gC_up_i (f := upd (T18.2.2.1 n20) (1 : Int32).toNatClampNeg v22) (ccv_100 (aA_k g23).2.1) G
  obtain ⟨T25, eT25, h⟩ := elet_some h
  have G : gC cI cJ cZ cMic cSrc cSt cAI cAJ D ad A s.heap H locs T25 := by rw [eT25]; exact G
  clear eT25
  refine lv_aload_n hx hb dX1_areaAround_38 rfl (lv_at hl 2 rfl) ?_
  obtain ⟨g26, h⟩ := oif_some h
  obtain ⟨n27, en27, h⟩ := obind_some h
  refine c_get E G o 8 (v := .ref (ad n27)) (oO_k g26).1 (cc_o1 (oO_k g26).2) rfl (fun w h => .tail _ (iA_15 h)) (by decide) (.tail _ qA_137) rfl (by rw [en27]; rfl) dX1_areaAround_39 ?_
  clear en27
  refine lv_iconst (v := 2) hx hb dX1_areaAround_42 (by decide) ?_
  refine lv_iload_n hx hb dX1_areaAround_43 rfl (lv_at hl 1 rfl) ?_
  refine lv_iconst (v := 1) hx hb dX1_areaAround_44 (by decide) ?_
  refine lv_iadd hx hb dX1_areaAround_45 ?_
  refine lv_topi (fun v28 ev28 => ?_)
  have h := elet_at ev28 h
  clear ev28
  refine lv_aload_n hx hb dX1_areaAround_46 rfl (lv_at hl 2 rfl) ?_
  obtain ⟨g29, h⟩ := oif_some h
  refine c_get E G o 3 (oO_k g29).1 (cc_o1 (oO_k g29).2) rfl (fun w h => .tail _ (iA_15 h)) (by decide) (.tail _ qA_39) rfl rfl dX1_areaAround_47 ?_
  refine lv_topi (fun v30 ev30 => ?_)
  have h := elet_at ev30 h
  clear ev30
  refine lv_iconst (v := 1) hx hb dX1_areaAround_50 (by decide) ?_
  refine lv_isub hx hb dX1_areaAround_51 ?_
  refine lv_topi (fun v31 ev31 => ?_)
  have h := elet_at ev31 h
  clear ev31
  refine va_mmin hx hb (hml.trans hl.1.symm) hown (hts _ (.tail _ qA_139)) (hts _ (.tail _ qA_50)) (hts _ (.tail _ qA_18)) (hts _ (.tail _ qA_51)) (Nat.le_of_ble_eq_true rfl) (Nat.le_of_ble_eq_true rfl) (Nat.zero_le _) (Nat.zero_le _) dX1_areaAround_52 ?_
  refine lv_topi (fun v32 ev32 => ?_)
  have h := elet_at ev32 h
  clear ev32
  obtain ⟨g33, h⟩ := oif_some h
  obtain ⟨g34, h⟩ := oif_some h
  refine c_iast E G n27 0 (k := (2 : Int32).toNatClampNeg) (v := v32) (aA_k g33).1 (cc_a100 (aA_k g33).2.1) rfl (inb_k g34).1 (inb_k g34).2 (aA_k g33).2.2 dX1_areaAround_55 (fun H locs G => ?_)
  have G := gC_up_i (f := upd (T25.2.2.1 n27) (2 : Int32).toNatClampNeg v32) (ccv_100 (aA_k g33).2.1) G
  obtain ⟨T35, eT35, h⟩ := elet_some h
  have G : gC cI cJ cZ cMic cSrc cSt cAI cAJ D ad A s.heap H locs T35 := by rw [eT35]; exact G
  clear eT35
  refine lv_aload_n hx hb dX1_areaAround_56 rfl (lv_at hl 2 rfl) ?_
  obtain ⟨g36, h⟩ := oif_some h
  obtain ⟨n37, en37, h⟩ := obind_some h
  refine c_get E G o 8 (v := .ref (ad n37)) (oO_k g36).1 (cc_o1 (oO_k g36).2) rfl (fun w h => .tail _ (iA_15 h)) (by decide) (.tail _ qA_137) rfl (by rw [en37]; rfl) dX1_areaAround_57 ?_
  clear en37
  refine lv_iconst (v := 3) hx hb dX1_areaAround_60 (by decide) ?_
  refine lv_iload_n hx hb dX1_areaAround_61 rfl (lv_at hl 0 rfl) ?_
  refine lv_iconst (v := 1) hx hb dX1_areaAround_62 (by decide) ?_
  refine lv_iadd hx hb dX1_areaAround_63 ?_
  refine lv_topi (fun v38 ev38 => ?_)
  have h := elet_at ev38 h
  clear ev38
  refine lv_aload_n hx hb dX1_areaAround_64 rfl (lv_at hl 2 rfl) ?_
  obtain ⟨g39, h⟩ := oif_some h
  refine c_get E G o 4 (oO_k g39).1 (cc_o1 (oO_k g39).2) rfl (fun w h => .tail _ (iA_15 h)) (by decide) (.tail _ qA_40) rfl rfl dX1_areaAround_65 ?_
  refine lv_topi (fun v40 ev40 => ?_)
  have h := elet_at ev40 h
  clear ev40
  refine lv_iconst (v := 1) hx hb dX1_areaAround_68 (by decide) ?_
  refine lv_isub hx hb dX1_areaAround_69 ?_
  refine lv_topi (fun v41 ev41 => ?_)
  have h := elet_at ev41 h
  clear ev41
  refine va_mmin hx hb (hml.trans hl.1.symm) hown (hts _ (.tail _ qA_139)) (hts _ (.tail _ qA_50)) (hts _ (.tail _ qA_18)) (hts _ (.tail _ qA_51)) (Nat.le_of_ble_eq_true rfl) (Nat.le_of_ble_eq_true rfl) (Nat.zero_le _) (Nat.zero_le _) dX1_areaAround_70 ?_
  refine lv_topi (fun v42 ev42 => ?_)
  have h := elet_at ev42 h
  clear ev42
  obtain ⟨g43, h⟩ := oif_some h
  obtain ⟨g44, h⟩ := oif_some h
  refine c_iast E G n37 0 (k := (3 : Int32).toNatClampNeg) (v := v42) (aA_k g43).1 (cc_a100 (aA_k g43).2.1) rfl (inb_k g44).1 (inb_k g44).2 (aA_k g43).2.2 dX1_areaAround_73 (fun H locs G => ?_)
  have G := gC_up_i (f := upd (T35.2.2.1 n37) (3 : Int32).toNatClampNeg v42) (ccv_100 (aA_k g43).2.1) G
  obtain ⟨T45, eT45, h⟩ := elet_some h
  have G : gC cI cJ cZ cMic cSrc cSt cAI cAJ D ad A s.heap H locs T45 := by rw [eT45]; exact G
  clear eT45
  refine lv_aload_n hx hb dX1_areaAround_74 rfl (lv_at hl 2 rfl) ?_
  obtain ⟨g46, h⟩ := oif_some h
  obtain ⟨n47, en47, h⟩ := obind_some h
  refine c_get E G o 8 (v := .ref (ad n47)) (oO_k g46).1 (cc_o1 (oO_k g46).2) rfl (fun w h => .tail _ (iA_15 h)) (by decide) (.tail _ qA_137) rfl (by rw [en47]; rfl) dX1_areaAround_75 ?_
  clear en47
  exact W.aret hx hb hr (.inr ⟨_, rfl⟩) (.inr ⟨_, rfl⟩) (fun t ht hW => ⟨⟨T45, ad n47, rfl, (osome2 h).2, ⟨congrArg ad (osome2 h).1, ⟨by rw [ht]; exact G.1, va_K.moved hW.alike hK, G.2.1⟩⟩⟩, G.2.2.F ht⟩) G.2.2.2.2 dX1_areaAround_78
set_option maxHeartbeats 4000000 in
set_option maxRecDepth 100000 in
theorem s_X1_areaAround {T : AT} {o : Nat} {a0 : Int32} {r1 : Nat} {T1 : AT} (h : g_X1_areaAround T o a0 = some (r1, T1)) : SP T T1 := by
  have p0 := SP.rf T
  unfold g_X1_areaAround at h
  obtain ⟨g2, h⟩ := oif_some h
  obtain ⟨r4, T3, eT3, h⟩ := obind2_some h
  have p1 : SP T T3 := SP.tr p0 (s_X1_columnOf eT3)
  obtain ⟨g5, h⟩ := oif_some h
  obtain ⟨r7, T6, eT6, h⟩ := obind2_some h
  have p2 : SP T T6 := SP.tr p1 (s_X1_rowOf eT6)
  obtain ⟨g8, h⟩ := oif_some h
  obtain ⟨n9, en9, h⟩ := obind_some h
  obtain ⟨v10, -, h⟩ := elet_some h
  obtain ⟨v11, -, h⟩ := elet_some h
  obtain ⟨g12, h⟩ := oif_some h
  obtain ⟨g13, h⟩ := oif_some h
  obtain ⟨T14, eT14, h⟩ := elet_some h
  have p3 : SP T T14 := SP.tr p2 (by rw [eT14]; exact sp_uI)
  obtain ⟨g15, h⟩ := oif_some h
  obtain ⟨n16, en16, h⟩ := obind_some h
  obtain ⟨v17, -, h⟩ := elet_some h
  obtain ⟨v18, -, h⟩ := elet_some h
  obtain ⟨g19, h⟩ := oif_some h
  obtain ⟨g20, h⟩ := oif_some h
  obtain ⟨T21, eT21, h⟩ := elet_some h
  have p4 : SP T T21 := SP.tr p3 (by rw [eT21]; exact sp_uI)
  obtain ⟨g22, h⟩ := oif_some h
  obtain ⟨n23, en23, h⟩ := obind_some h
  obtain ⟨v24, -, h⟩ := elet_some h
  obtain ⟨g25, h⟩ := oif_some h
  obtain ⟨v26, -, h⟩ := elet_some h
  obtain ⟨v27, -, h⟩ := elet_some h
  obtain ⟨v28, -, h⟩ := elet_some h
  obtain ⟨g29, h⟩ := oif_some h
  obtain ⟨g30, h⟩ := oif_some h
  obtain ⟨T31, eT31, h⟩ := elet_some h
  have p5 : SP T T31 := SP.tr p4 (by rw [eT31]; exact sp_uI)
  obtain ⟨g32, h⟩ := oif_some h
  obtain ⟨n33, en33, h⟩ := obind_some h
  obtain ⟨v34, -, h⟩ := elet_some h
  obtain ⟨g35, h⟩ := oif_some h
  obtain ⟨v36, -, h⟩ := elet_some h
  obtain ⟨v37, -, h⟩ := elet_some h
  obtain ⟨v38, -, h⟩ := elet_some h
  obtain ⟨g39, h⟩ := oif_some h
  obtain ⟨g40, h⟩ := oif_some h
  obtain ⟨T41, eT41, h⟩ := elet_some h
  have p6 : SP T T41 := SP.tr p5 (by rw [eT41]; exact sp_uI)
  obtain ⟨g42, h⟩ := oif_some h
  obtain ⟨n43, en43, h⟩ := obind_some h
  rw [← (osome2 h).2]
  exact p6
def g_X10_add_b56  (T : AT)  : Option (AT) := some T
def g_X10_add_b11  : Nat → AT → Nat → Int32 → Nat → Int32 → Int32 → Int32 → Option (AT)
  | 0, _, _, _, _, _, _, _ => none
  | n + 1, T, l0, l1, l2, l3, l4, l5 => oif (oO T l2 10 = true) <| elet (T.2.2.1 l2 2) fun v3 => if v3 ≤ l5 then (oif (oO T l0 10 = true) <| obind (g_X10_settle T l0 l1) fun T6 => g_X10_add_b56 T6) else (oif (oO T l0 10 = true) <| obind (T.2.2.2.2 l0 1) fun n9 => oif (aA T n9 107 = true) <| oif (inb l5 (T.2.1 n9).2 = true) <| obind (T.2.2.2.2 n9 l5.toNatClampNeg) fun n12 => oif (aA T n12 101 = true) <| oif (inb l1 (T.2.1 n12).2 = true) <| elet (T.2.2.2.1 n12 l1.toNatClampNeg) fun v15 => elet (l4.toInt64) fun v16 => oif (oO T l2 10 = true) <| obind (T.2.2.2.2 l2 1) fun n18 => oif (aA T n18 107 = true) <| oif (inb l5 (T.2.1 n18).2 = true) <| obind (T.2.2.2.2 n18 l5.toNatClampNeg) fun n21 => oif (aA T n21 101 = true) <| oif (inb l3 (T.2.1 n21).2 = true) <| elet (T.2.2.2.1 n21 l3.toNatClampNeg) fun v24 => elet (v16 * v24) fun v25 => elet (v15 + v25) fun v26 => oif (aA T n12 101 = true) <| oif (inb l1 (T.2.1 n12).2 = true) <| elet (uJ T n12 l1.toNatClampNeg v26) fun T29 => elet (l5 + Int32.ofInt (1)) fun v30 => g_X10_add_b11 n T29 l0 l1 l2 l3 l4 v30)
def g_X10_add_b8  (T : AT) (l0 : Nat) (l1 : Int32) (l2 : Nat) (l3 : Int32) (l4 : Int32) : Option (AT) := g_X10_add_b11 16384 T l0 l1 l2 l3 l4 0
def g_X10_add (T : AT) (o : Nat) (a0 : Int32) (a1 : Nat) (a2 : Int32) (a3 : Int32) : Option (AT) := oif (oO T a1 10 = true) <| elet (T.2.2.1 a1 2) fun v3 => oif (oO T o 10 = true) <| obind (g_X10_widenTo T o v3) fun T5 => g_X10_add_b8 T5 o a0 a1 a2 a3
set_option maxHeartbeats 4000000 in
set_option maxRecDepth 100000 in
theorem s_X10_add_b56 {T1 : AT} : ∀ (T : AT), g_X10_add_b56 T = some T1 → GL T T1 := by
  intro T h
  have p0 := GL.rf T
  unfold g_X10_add_b56 at h
  rw [← osome1 h]
  exact p0
set_option maxHeartbeats 4000000 in
set_option maxRecDepth 100000 in
theorem s_X10_add_b11 {T1 : AT} : ∀ n : Nat, ∀ (T : AT) (l0 : Nat) (l1 : Int32) (l2 : Nat) (l3 : Int32) (l4 : Int32) (l5 : Int32), g_X10_add_b11 n T l0 l1 l2 l3 l4 l5 = some T1 → GL T T1 := by
  intro n
  induction n with
  | zero =>
    intro T l0 l1 l2 l3 l4 l5 h
    have h : (none : Option (AT)) = some T1 := h
    cases h
  | succ n ih =>
    intro T l0 l1 l2 l3 l4 l5 h
    have p0 := GL.rf T
    unfold g_X10_add_b11 at h
    obtain ⟨g2, h⟩ := oif_some h
    obtain ⟨v3, -, h⟩ := elet_some h
    rcases oif_or h with ⟨c4, h⟩ | ⟨c4, h⟩
    · have h := h
      obtain ⟨g5, h⟩ := oif_some h
      obtain ⟨T6, eT6, h⟩ := obind_some h
      have p1 : GL T T6 := GL.tr p0 (s_X10_settle eT6)
      exact GL.tr p1 (s_X10_add_b56 _ h)
    · have h := h
      obtain ⟨g8, h⟩ := oif_some h
      obtain ⟨n9, en9, h⟩ := obind_some h
      obtain ⟨g10, h⟩ := oif_some h
      obtain ⟨g11, h⟩ := oif_some h
      obtain ⟨n12, en12, h⟩ := obind_some h
      obtain ⟨g13, h⟩ := oif_some h
      obtain ⟨g14, h⟩ := oif_some h
      obtain ⟨v15, -, h⟩ := elet_some h
      obtain ⟨v16, -, h⟩ := elet_some h
      obtain ⟨g17, h⟩ := oif_some h
      obtain ⟨n18, en18, h⟩ := obind_some h
      obtain ⟨g19, h⟩ := oif_some h
      obtain ⟨g20, h⟩ := oif_some h
      obtain ⟨n21, en21, h⟩ := obind_some h
      obtain ⟨g22, h⟩ := oif_some h
      obtain ⟨g23, h⟩ := oif_some h
      obtain ⟨v24, -, h⟩ := elet_some h
      obtain ⟨v25, -, h⟩ := elet_some h
      obtain ⟨v26, -, h⟩ := elet_some h
      obtain ⟨g27, h⟩ := oif_some h
      obtain ⟨g28, h⟩ := oif_some h
      obtain ⟨T29, eT29, h⟩ := elet_some h
      have p1 : GL T T29 := GL.tr p0 (by rw [eT29]; exact gl_sp sp_uJ)
      obtain ⟨v30, ev30, h⟩ := elet_some h
      exact GL.tr p1 (ih _ _ _ _ _ _ _ h)
set_option maxHeartbeats 4000000 in
set_option maxRecDepth 100000 in
theorem s_X10_add_b8 {T1 : AT} : ∀ (T : AT) (l0 : Nat) (l1 : Int32) (l2 : Nat) (l3 : Int32) (l4 : Int32), g_X10_add_b8 T l0 l1 l2 l3 l4 = some T1 → GL T T1 := by
  intro T l0 l1 l2 l3 l4 h
  have p0 := GL.rf T
  unfold g_X10_add_b8 at h
  exact GL.tr p0 (s_X10_add_b11 _ _ _ _ _ _ _ _ h)
set_option maxHeartbeats 4000000 in
set_option maxRecDepth 100000 in
theorem s_X10_add {T : AT} {o : Nat} {a0 : Int32} {a1 : Nat} {a2 : Int32} {a3 : Int32} {T1 : AT} (h : g_X10_add T o a0 a1 a2 a3 = some T1) : GL T T1 := by
  have p0 := GL.rf T
  unfold g_X10_add at h
  obtain ⟨g2, h⟩ := oif_some h
  obtain ⟨v3, -, h⟩ := elet_some h
  obtain ⟨g4, h⟩ := oif_some h
  obtain ⟨T5, eT5, h⟩ := obind_some h
  have p1 : GL T T5 := GL.tr p0 (s_X10_widenTo eT5)
  exact GL.tr p1 (s_X10_add_b8 _ _ _ _ _ _ h)
set_option maxHeartbeats 4000000 in
set_option maxRecDepth 100000 in
theorem a_X10_add_b56 {p : Program} {l : Launch} {e : Env} {s : State} {m : MethodId} {args : Array Value} {below : List Frame} {meth : Method} {c : Code} {Q : State → Prop} {D : va_G} {A : Nat → Prop} {cI cJ cZ cMic cSrc cSt cAI cAJ : ClassId} {ad0 : Nat → Nat} {T0 : AT} {T1 : AT} (E : cE p c cX10_add s m args (Cond.code yX10_add cX10_add 6 none :: wsA) D RX10 (CT cI cJ cZ cMic cSrc cSt cAI cAJ)) (hA : ∀ q : Nat, s.heap.size ≤ q → A q) (hX : xT A s) (hN : nX s) (hml : c.maxLocals = 6) (hst : l.stackTraces = false) (kr56 : ∀ (ad : Nat → Nat) (H : Heap) (locs : List Loc) (ls : Array Slot), (∀ n, n < T0.1 → ad n = ad0 n) → gC cI cJ cZ cMic cSrc cSt cAI cAJ D ad A s.heap H locs T1 → W p l e { frames := 3, cells := T1.1 - T0.1, slots := sg T1 - sg T0, locals := 49 } s m args below meth c H locs (T1.1 - T0.1) (sg T1 - sg T0) Q (F0 m 56 ls [])) : ∀ (T : AT) (ad : Nat → Nat) (H : Heap) (locs : List Loc) (ls : Array Slot), g_X10_add_b56 T = some T1 → GL T0 T → RC T → (∀ n, n < T0.1 → ad n = ad0 n) → gC cI cJ cZ cMic cSrc cSt cAI cAJ D ad A s.heap H locs T → lv_has ls 6 [] → W p l e { frames := 3, cells := T1.1 - T0.1, slots := sg T1 - sg T0, locals := 49 } s m args below meth c H locs (T.1 - T0.1) (sg T - sg T0) Q (F0 m 56 ls []) := by
  have hx := E.1
  have hb := E.2.1
  have hts := E.2.2.1
  have hown := E.2.2.2.1
  have hK := E.2.2.2.2
  intro T ad H locs ls h hgl hrc had G hl
  have hT1 := s_X10_add_b56 _ h
  have hcs := cs_ok hgl hT1
  have cp0 := cpr0 hrc
  unfold g_X10_add_b56 at h
  rw [osome1 h] at G
  refine w_cast (c2 := T1.1 - T0.1) (s2 := sg T1 - sg T0) (by rw [← osome1 h, cp0.1] <;> rfl) (by rw [← osome1 h, sg_cpr cp0] <;> rfl) ?_
  exact kr56 ad _ _ _ had G
set_option maxHeartbeats 4000000 in
set_option maxRecDepth 100000 in
theorem a_X10_add_b11 {p : Program} {l : Launch} {e : Env} {s : State} {m : MethodId} {args : Array Value} {below : List Frame} {meth : Method} {c : Code} {Q : State → Prop} {D : va_G} {A : Nat → Prop} {cI cJ cZ cMic cSrc cSt cAI cAJ : ClassId} {ad0 : Nat → Nat} {T0 : AT} {T1 : AT} (E : cE p c cX10_add s m args (Cond.code yX10_add cX10_add 6 none :: wsA) D RX10 (CT cI cJ cZ cMic cSrc cSt cAI cAJ)) (hA : ∀ q : Nat, s.heap.size ≤ q → A q) (hX : xT A s) (hN : nX s) (hml : c.maxLocals = 6) (hst : l.stackTraces = false) (kr56 : ∀ (ad : Nat → Nat) (H : Heap) (locs : List Loc) (ls : Array Slot), (∀ n, n < T0.1 → ad n = ad0 n) → gC cI cJ cZ cMic cSrc cSt cAI cAJ D ad A s.heap H locs T1 → W p l e { frames := 3, cells := T1.1 - T0.1, slots := sg T1 - sg T0, locals := 49 } s m args below meth c H locs (T1.1 - T0.1) (sg T1 - sg T0) Q (F0 m 56 ls [])) : ∀ n : Nat, ∀ (T : AT) (ad : Nat → Nat) (H : Heap) (locs : List Loc) (ls : Array Slot) (l0 : Nat) (l1 : Int32) (l2 : Nat) (l3 : Int32) (l4 : Int32) (l5 : Int32), g_X10_add_b11 n T l0 l1 l2 l3 l4 l5 = some T1 → GL T0 T → RC T → (∀ n, n < T0.1 → ad n = ad0 n) → l0 < T.1 → l2 < T.1 → gC cI cJ cZ cMic cSrc cSt cAI cAJ D ad A s.heap H locs T → lv_has ls 6 [(0, .ref (ad l0)), (1, .int l1), (2, .ref (ad l2)), (3, .int l3), (4, .int l4), (5, .int l5)] → W p l e { frames := 3, cells := T1.1 - T0.1, slots := sg T1 - sg T0, locals := 49 } s m args below meth c H locs (T.1 - T0.1) (sg T - sg T0) Q (F0 m 11 ls []) := by
  have hx := E.1
  have hb := E.2.1
  have hts := E.2.2.1
  have hown := E.2.2.2.1
  have hK := E.2.2.2.2
  intro n
  induction n with
  | zero =>
    intro T ad H locs ls l0 l1 l2 l3 l4 l5 h
    have h : (none : Option (AT)) = some T1 := h
    cases h
  | succ n ih =>
    intro T ad H locs ls l0 l1 l2 l3 l4 l5 h hgl hrc had h_l0 h_l2 G hl
    have hT1 := s_X10_add_b11 _ _ _ _ _ _ _ _ h
    have hcs := cs_ok hgl hT1
    have cp0 := cpr0 hrc
    unfold g_X10_add_b11 at h
    refine lv_iload hx hb dX10_add_11 (lv_at hl 5 rfl) ?_
    refine lv_aload_n hx hb dX10_add_13 rfl (lv_at hl 2 rfl) ?_
    obtain ⟨g2, h⟩ := oif_some h
    refine c_get E G l2 2 (oO_k g2).1 (cc_o10 (oO_k g2).2) rfl (fun w h => .tail _ (iA_12 h)) (by decide) (.tail _ qA_15) rfl rfl dX10_add_14 ?_
    refine lv_topi (fun v3 ev3 => ?_)
    have h := elet_at ev3 h
    clear ev3
    refine lv_icmp_ge (tgt := 51) hx hb dX10_add_17 (by decide) (fun c4 => ?_) (fun c4 => ?_)
    · have h := oif_pos c4 h
      refine lv_aload_n hx hb dX10_add_51 rfl (lv_at hl 0 rfl) ?_
      refine lv_iload_n hx hb dX10_add_52 rfl (lv_at hl 1 rfl) ?_
      obtain ⟨g5, h⟩ := oif_some h
      obtain ⟨T6, eT6, h⟩ := obind_some h
      have hg2 := s_X10_settle eT6
      have hrc2 := hg2.2.2 cp0.2.2
      have hT2 := s_X10_add_b56 _ h
      refine q_avv (As := [.int l1]) (rest := []) E G hA hX hN hml (a_X10_settle l hst D cI cJ cZ cMic cSrc cSt cAI cAJ ad T l0 l1 eT6 cp0.2.2 (by rw [cp0.1]; exact h_l0)) (cwV 1 hts (gaV qA_103 qA_91 qA_92 qA_6 qA_93) rfl rfl rfl (by decide +kernel) ⟨Nat.le_of_ble_eq_true rfl, Nat.le_of_ble_eq_true rfl⟩) (oO_k g5).1 (cc_o10 (oO_k g5).2) rfl rfl hl.1 rfl (lv_room (Nat.le_of_ble_eq_true rfl)) dX10_add_53 (cs_av hgl cp0 hg2 hT2) (fun ad2 H locs hga G => ?_)
      refine w_cast (c2 := T6.1 - T0.1) (s2 := sg T6 - sg T0) (cs_f1 hgl cp0 hg2) (cs_f2 hgl cp0 hg2) ?_
      have hl := lv_sub hl [] rfl
      exact a_X10_add_b56 E hA hX hN hml hst kr56 _ _ _ _ _ h (GL.tr (gl_cpr hgl cp0) hg2) hrc2 (fun n hn => (hga n (by rw [cp0.1]; exact Nat.lt_of_lt_of_le hn hgl.1)).trans (had n hn)) G hl
    · have h := oif_neg c4 h
      refine lv_aload_n hx hb dX10_add_20 rfl (lv_at hl 0 rfl) ?_
      obtain ⟨g8, h⟩ := oif_some h
      obtain ⟨n9, en9, h⟩ := obind_some h
      have h_n9 : n9 < T.1 := by rw [← cp0.1]; exact cp0.2.2 _ _ _ en9
      refine c_get E G l0 1 (v := .ref (ad n9)) (oO_k g8).1 (cc_o10 (oO_k g8).2) rfl (fun w h => .tail _ (iA_12 h)) (by decide) (.tail _ qA_14) rfl (by rw [en9]; rfl) dX10_add_21 ?_
      clear en9
      refine lv_iload hx hb dX10_add_24 (lv_at hl 5 rfl) ?_
      obtain ⟨g10, h⟩ := oif_some h
      obtain ⟨g11, h⟩ := oif_some h
      obtain ⟨n12, en12, h⟩ := obind_some h
      have h_n12 : n12 < T.1 := by rw [← cp0.1]; exact cp0.2.2 _ _ _ en12
      refine c_alda E G n9 7 (k := l5.toNatClampNeg) (v := .ref (ad n12)) (aA_k g10).1 (cc_a107 (aA_k g10).2.1) rfl (inb_k g11).1 (inb_k g11).2 (aA_k g10).2.2 (by show va_rf ((T.2.2.2.2 n9 l5.toNatClampNeg).map ad) = _; rw [en12]; rfl) dX10_add_26 ?_
      clear en12
      refine lv_iload_n hx hb dX10_add_27 rfl (lv_at hl 1 rfl) ?_
      refine lv_dup2_11 hx hb dX10_add_28 rfl rfl ?_
      obtain ⟨g13, h⟩ := oif_some h
      obtain ⟨g14, h⟩ := oif_some h
      refine c_lald E G n12 1 (k := l1.toNatClampNeg) (aA_k g13).1 (cc_a101 (aA_k g13).2.1) rfl (inb_k g14).1 (inb_k g14).2 (aA_k g13).2.2 dX10_add_29 ?_
      refine lv_topl (fun v15 ev15 => ?_)
      have h := elet_at ev15 h
      clear ev15
      refine lv_iload hx hb dX10_add_30 (lv_at hl 4 rfl) ?_
      refine lv_i2l (v := l4.toInt64) hx hb dX10_add_32 rfl ?_
      refine lv_topl (fun v16 ev16 => ?_)
      have h := elet_at ev16 h
      clear ev16
      refine lv_aload_n hx hb dX10_add_33 rfl (lv_at hl 2 rfl) ?_
      obtain ⟨g17, h⟩ := oif_some h
      obtain ⟨n18, en18, h⟩ := obind_some h
      have h_n18 : n18 < T.1 := by rw [← cp0.1]; exact cp0.2.2 _ _ _ en18
      refine c_get E G l2 1 (v := .ref (ad n18)) (oO_k g17).1 (cc_o10 (oO_k g17).2) rfl (fun w h => .tail _ (iA_12 h)) (by decide) (.tail _ qA_14) rfl (by rw [en18]; rfl) dX10_add_34 ?_
      clear en18
      refine lv_iload hx hb dX10_add_37 (lv_at hl 5 rfl) ?_
      obtain ⟨g19, h⟩ := oif_some h
      obtain ⟨g20, h⟩ := oif_some h
      obtain ⟨n21, en21, h⟩ := obind_some h
      have h_n21 : n21 < T.1 := by rw [← cp0.1]; exact cp0.2.2 _ _ _ en21
      refine c_alda E G n18 7 (k := l5.toNatClampNeg) (v := .ref (ad n21)) (aA_k g19).1 (cc_a107 (aA_k g19).2.1) rfl (inb_k g20).1 (inb_k g20).2 (aA_k g19).2.2 (by show va_rf ((T.2.2.2.2 n18 l5.toNatClampNeg).map ad) = _; rw [en21]; rfl) dX10_add_39 ?_
      clear en21
      refine lv_iload_n hx hb dX10_add_40 rfl (lv_at hl 3 rfl) ?_
      obtain ⟨g22, h⟩ := oif_some h
      obtain ⟨g23, h⟩ := oif_some h
      refine c_lald E G n21 1 (k := l3.toNatClampNeg) (aA_k g22).1 (cc_a101 (aA_k g22).2.1) rfl (inb_k g23).1 (inb_k g23).2 (aA_k g22).2.2 dX10_add_41 ?_
      refine lv_topl (fun v24 ev24 => ?_)
      have h := elet_at ev24 h
      clear ev24
      refine lv_lmul hx hb dX10_add_42 ?_
      refine lv_topl (fun v25 ev25 => ?_)
      have h := elet_at ev25 h
      clear ev25
      refine lv_ladd hx hb dX10_add_43 ?_
      refine lv_topl (fun v26 ev26 => ?_)
      have h := elet_at ev26 h
      clear ev26
      obtain ⟨g27, h⟩ := oif_some h
      obtain ⟨g28, h⟩ := oif_some h
      refine c_last E G n12 1 (k := l1.toNatClampNeg) (v := v26) (aA_k g27).1 (cc_a101 (aA_k g27).2.1) rfl (inb_k g28).1 (inb_k g28).2 (aA_k g27).2.2 dX10_add_44 (fun H locs G => ?_)
      have G := gC_up_j (f := vp_updL (T.2.2.2.1 n12) l1.toNatClampNeg v26) (ccv_101 (aA_k g27).2.1) G
      obtain ⟨T29, eT29, h⟩ := elet_some h
      have G : gC cI cJ cZ cMic cSrc cSt cAI cAJ D ad A s.heap H locs T29 := by rw [eT29]; exact G
      have cp1 := show CPR T T29 from by rw [eT29]; exact cpr_sp cp0 sp_uJ
      clear eT29
      obtain ⟨v30, ev30, h⟩ := elet_some h
      refine lv_iinc (v := v30) (lv' := [(5, .int v30), (0, .ref (ad l0)), (1, .int l1), (2, .ref (ad l2)), (3, .int l3), (4, .int l4)]) hx hb dX10_add_45 hl (k := 5) rfl ev30.symm (by decide) rfl (fun ls hl => ?_)
      refine lv_goto (tgt := 11) hx hb dX10_add_48 (by decide) ?_
      have hl := lv_sub hl [1, 2, 3, 4, 5, 0] rfl
      refine w_cast (c2 := T29.1 - T0.1) (s2 := sg T29 - sg T0) (by rw [cp1.1] <;> rfl) (by rw [sg_cpr cp1] <;> rfl) ?_
      exact ih _ _ _ _ _ _ _ _ _ _ _ h (gl_cpr hgl cp1) cp1.2.2 had (by rw [cp1.1]; exact h_l0) (by rw [cp1.1]; exact h_l2) G hl
set_option maxHeartbeats 4000000 in
set_option maxRecDepth 100000 in
theorem a_X10_add_b8 {p : Program} {l : Launch} {e : Env} {s : State} {m : MethodId} {args : Array Value} {below : List Frame} {meth : Method} {c : Code} {Q : State → Prop} {D : va_G} {A : Nat → Prop} {cI cJ cZ cMic cSrc cSt cAI cAJ : ClassId} {ad0 : Nat → Nat} {T0 : AT} {T1 : AT} (E : cE p c cX10_add s m args (Cond.code yX10_add cX10_add 6 none :: wsA) D RX10 (CT cI cJ cZ cMic cSrc cSt cAI cAJ)) (hA : ∀ q : Nat, s.heap.size ≤ q → A q) (hX : xT A s) (hN : nX s) (hml : c.maxLocals = 6) (hst : l.stackTraces = false) (kr56 : ∀ (ad : Nat → Nat) (H : Heap) (locs : List Loc) (ls : Array Slot), (∀ n, n < T0.1 → ad n = ad0 n) → gC cI cJ cZ cMic cSrc cSt cAI cAJ D ad A s.heap H locs T1 → W p l e { frames := 3, cells := T1.1 - T0.1, slots := sg T1 - sg T0, locals := 49 } s m args below meth c H locs (T1.1 - T0.1) (sg T1 - sg T0) Q (F0 m 56 ls [])) : ∀ (T : AT) (ad : Nat → Nat) (H : Heap) (locs : List Loc) (ls : Array Slot) (l0 : Nat) (l1 : Int32) (l2 : Nat) (l3 : Int32) (l4 : Int32), g_X10_add_b8 T l0 l1 l2 l3 l4 = some T1 → GL T0 T → RC T → (∀ n, n < T0.1 → ad n = ad0 n) → l0 < T.1 → l2 < T.1 → gC cI cJ cZ cMic cSrc cSt cAI cAJ D ad A s.heap H locs T → lv_has ls 6 [(0, .ref (ad l0)), (1, .int l1), (2, .ref (ad l2)), (3, .int l3), (4, .int l4)] → W p l e { frames := 3, cells := T1.1 - T0.1, slots := sg T1 - sg T0, locals := 49 } s m args below meth c H locs (T.1 - T0.1) (sg T - sg T0) Q (F0 m 8 ls []) := by
  have hx := E.1
  have hb := E.2.1
  have hts := E.2.2.1
  have hown := E.2.2.2.1
  have hK := E.2.2.2.2
  intro T ad H locs ls l0 l1 l2 l3 l4 h hgl hrc had h_l0 h_l2 G hl
  have hT1 := s_X10_add_b8 _ _ _ _ _ _ h
  have hcs := cs_ok hgl hT1
  have cp0 := cpr0 hrc
  unfold g_X10_add_b8 at h
  refine lv_iconst (v := 0) hx hb dX10_add_8 (by decide) ?_
  refine lv_istore (lv' := [(5, .int 0), (0, .ref (ad l0)), (1, .int l1), (2, .ref (ad l2)), (3, .int l3), (4, .int l4)]) hx hb dX10_add_9 hl (by decide) rfl (fun ls hl => ?_)
  have hl := lv_sub hl [1, 2, 3, 4, 5, 0] rfl
  refine w_cast (c2 := T.1 - T0.1) (s2 := sg T - sg T0) (by rw [cp0.1] <;> rfl) (by rw [sg_cpr cp0] <;> rfl) ?_
  exact a_X10_add_b11 E hA hX hN hml hst kr56 _ _ _ _ _ _ _ _ _ _ _ _ h (gl_cpr hgl cp0) cp0.2.2 had (by rw [cp0.1]; exact h_l0) (by rw [cp0.1]; exact h_l2) G hl
set_option maxHeartbeats 4000000 in
set_option maxRecDepth 100000 in
theorem a_X10_add (l : Launch) (hst : l.stackTraces = false) (D : va_G) (cI cJ cZ cMic cSrc cSt cAI cAJ : ClassId) (ad : Nat → Nat) (T : AT) (o : Nat) (a0 : Int32) (a1 : Nat) (a2 : Int32) (a3 : Int32) {T1 : AT} (h : g_X10_add T o a0 a1 a2 a3 = some T1) (hrc : RC T) (h_o : o < T.1) (h_a1 : a1 < T.1) : kAv l yX10_add (Cond.code yX10_add cX10_add 6 none :: wsA) 3 49 cI cJ cZ cMic cSrc cSt cAI cAJ D ad T [.ref (ad o), .int a0, .ref (ad a1), .int a2, .int a3] T1 := by
  intro sz
  refine Met.ofW (cc := cX10_add) (maxL := 6) (ret := none) (by decide) rfl ?_
  intro p e s m args below meth c s₁ B hml hv
  obtain ⟨rfl, hsz, hP, hK, hD0, hX, hN⟩ := hv
  have hx := B.exec
  have hb := B.bytes
  have hr := B.returns
  have hts := atoms_spec (ws := (Cond.code yX10_add cX10_add 6 none :: wsA)) B.pre
  have hown : s.vm.findClass RX10 = some m.cls := findClass_of_methodNamed B.named
  have hlocks := B.notSynchronized
  subst hsz
  have hD := hD0.self (sz := s.heap.size)
  generalize hAe : va_A (cW ad T.1 (cc cI cJ cZ cMic cSrc cSt cAI cAJ ad T)) s.heap.size = A at hD hX ⊢
  have hA : ∀ q : Nat, s.heap.size ≤ q → A q := fun q h => by rw [← hAe]; exact Or.inr h
  have G : gC cI cJ cZ cMic cSrc cSt cAI cAJ D ad A s.heap s.heap [] T := ⟨hP, hD, va_S.rf⟩
  have E : cE p c cX10_add s m ([.ref (ad o), .int a0, .ref (ad a1), .int a2, .int a3] : List Value).toArray (Cond.code yX10_add cX10_add 6 none :: wsA) D RX10 (CT cI cJ cZ cMic cSrc cSt cAI cAJ) := ⟨hx, hb, hts, hown, hK⟩
  have hl := lv_entry ([.ref (ad o), .int a0, .ref (ad a1), .int a2, .int a3]) (n := 6) (Nat.le_of_ble_eq_true rfl)
  rw [lg_entry_eq]
  generalize (lg_sl ([.ref (ad o), .int a0, .ref (ad a1), .int a2, .int a3]) ++ List.replicate (6 - (lg_sl ([.ref (ad o), .int a0, .ref (ad a1), .int a2, .int a3])).length) Slot.unset).toArray = ls at hl ⊢
  have hl : lv_has ls 6 [(0, .ref (ad o)), (1, .int a0), (2, .ref (ad a1)), (3, .int a2), (4, .int a3)] := hl
  have hgl := GL.rf T
  have had : ∀ n, n < T.1 → ad n = ad n := fun _ _ => rfl
  have hT1 := s_X10_add h
  have hcs := cs_ok hgl hT1
  refine w_cast (Nat.sub_self T.1).symm (Nat.sub_self (sg T)).symm ?_
  have cp0 := cpr0 hrc
  unfold g_X10_add at h
  refine lv_aload_n hx hb dX10_add_0 rfl (lv_at hl 0 rfl) ?_
  refine lv_aload_n hx hb dX10_add_1 rfl (lv_at hl 2 rfl) ?_
  obtain ⟨g2, h⟩ := oif_some h
  refine c_get E G a1 2 (oO_k g2).1 (cc_o10 (oO_k g2).2) rfl (fun w h => .tail _ (iA_12 h)) (by decide) (.tail _ qA_15) rfl rfl dX10_add_2 ?_
  refine lv_topi (fun v3 ev3 => ?_)
  have h := elet_at ev3 h
  clear ev3
  obtain ⟨g4, h⟩ := oif_some h
  obtain ⟨T5, eT5, h⟩ := obind_some h
  have hg2 := s_X10_widenTo eT5
  have hrc2 := hg2.2.2 cp0.2.2
  have hT2 := s_X10_add_b8 _ _ _ _ _ _ h
  refine q_avv (As := [.int v3]) (rest := []) E G hA hX hN hml (a_X10_widenTo l hst D cI cJ cZ cMic cSrc cSt cAI cAJ ad T o v3 eT5 cp0.2.2 (by rw [cp0.1]; exact h_o)) (cwV 1 hts (gaV qA_98 qA_78 qA_79 qA_6 qA_80) rfl rfl rfl (by decide +kernel) ⟨Nat.le_of_ble_eq_true rfl, Nat.le_of_ble_eq_true rfl⟩) (oO_k g4).1 (cc_o10 (oO_k g4).2) rfl rfl hl.1 rfl (lv_room (Nat.le_of_ble_eq_true rfl)) dX10_add_5 (cs_av hgl cp0 hg2 hT2) (fun ad2 H locs hga G => ?_)
  refine w_cast (c2 := T5.1 - T.1) (s2 := sg T5 - sg T) (cs_f1 hgl cp0 hg2) (cs_f2 hgl cp0 hg2) ?_
  have hl := lv_sub hl [0, 1, 2, 3, 4] rfl
  rw [show ad o = ad2 o from (hga o (by rw [cp0.1]; exact h_o)).symm] at hl
  rw [show ad a1 = ad2 a1 from (hga a1 (by rw [cp0.1]; exact h_a1)).symm] at hl
  exact a_X10_add_b8 E hA hX hN hml hst (fun ad H locs ls had G => W.vret hx hb hr (fun t ht hW => ⟨⟨(T1, ad), rfl, ⟨rfl, had⟩, ⟨by rw [ht]; exact G.1, va_K.moved hW.alike hK, G.2.1⟩⟩, G.2.2.F ht⟩) G.2.2.2.2 dX10_add_56) _ _ _ _ _ _ _ _ _ _ h (GL.tr (gl_cpr hgl cp0) hg2) hrc2 (fun n hn => (hga n (by rw [cp0.1]; exact Nat.lt_of_lt_of_le hn hgl.1)).trans (had n hn)) (Nat.lt_of_lt_of_le (by rw [cp0.1]; exact h_o) hg2.1) (Nat.lt_of_lt_of_le (by rw [cp0.1]; exact h_a1) hg2.1) G hl
def g_X0_score_b137 (k31 : AT → Nat → Nat → Nat → Int32 → Int32 → Int32 → Option (AT)) (T : AT) (l0 : Nat) (l1 : Nat) (l2 : Nat) (l3 : Int32) (l4 : Int32) (l5 : Int32) : Option (AT) := elet (l5 + Int32.ofInt (-1)) fun v2 => k31 T l0 l1 l2 l3 l4 v2
def g_X0_score_b131 (k31 : AT → Nat → Nat → Nat → Int32 → Int32 → Int32 → Option (AT)) (k52 : AT → Nat → Nat → Nat → Int32 → Int32 → Int32 → Int32 → Option (AT)) (T : AT) (l0 : Nat) (l1 : Nat) (l2 : Nat) (l3 : Int32) (l4 : Int32) (l5 : Int32) (l6 : Int32) : Option (AT) := elet (l6 + Int32.ofInt (1)) fun v2 => k52 T l0 l1 l2 l3 l4 l5 v2
def g_X0_score_b52 (k31 : AT → Nat → Nat → Nat → Int32 → Int32 → Int32 → Option (AT)) : Nat → AT → Nat → Nat → Nat → Int32 → Int32 → Int32 → Int32 → Option (AT)
  | 0, _, _, _, _, _, _, _, _ => none
  | n + 1, T, l0, l1, l2, l3, l4, l5, l6 => oif (oO T l1 6 = true) <| obind (T.2.2.2.2 l1 6) fun n3 => oif (oO T n3 1 = true) <| obind2 (g_X1_cells T n3) fun r7 T5 => if r7 ≤ l6 then (g_X0_score_b137 k31 T5 l0 l1 l2 l3 l4 l5) else (elet (l5 + 1) fun v10 => if l4 ≤ v10 then (g_X0_score_b137 k31 T5 l0 l1 l2 l3 l4 l5) else (elet (l5 + 1) fun v12 => obind (g_X0_rowStart v12) fun r13 => oif (oO T5 l1 6 = true) <| obind (T5.2.2.2.2 l1 6) fun n16 => oif (oO T5 l1 6 = true) <| obind (T5.2.2.2.2 l1 6) fun n18 => oif (oO T5 n18 1 = true) <| obind2 (g_X1_areaAround T5 n18 l6) fun n22 T20 => oif (Nat.blt n22 T20.1 = true) <| oif (oO T20 l0 0 = true) <| obind (T20.2.2.2.2 l0 0) fun n25 => oif (oO T20 n16 1 = true) <| obind2 (g_X1_bestIn T20 n16 n22 n25 r13) fun r29 T27 => oif (oO T27 l0 0 = true) <| obind (T27.2.2.2.2 l0 0) fun n32 => obind (g_X0_rowStart l5) fun r33 => elet (r33 + l6) fun v35 => oif (oO T27 l0 0 = true) <| obind (T27.2.2.2.2 l0 0) fun n37 => elet (r13 + r29) fun v38 => oif (oO T27 n32 10 = true) <| obind (g_X10_add T27 n32 v35 n37 v38 (1 : Int32)) fun T40 => g_X0_score_b131 k31 (g_X0_score_b52 k31 n) T40 l0 l1 l2 l3 l4 l5 l6))
def g_X0_score_b49 (k31 : AT → Nat → Nat → Nat → Int32 → Int32 → Int32 → Option (AT)) (T : AT) (l0 : Nat) (l1 : Nat) (l2 : Nat) (l3 : Int32) (l4 : Int32) (l5 : Int32) : Option (AT) := g_X0_score_b52 k31 16384 T l0 l1 l2 l3 l4 l5 0
def g_X0_score_b31  : Nat → AT → Nat → Nat → Nat → Int32 → Int32 → Int32 → Option (AT)
  | 0, _, _, _, _, _, _, _ => none
  | n + 1, T, l0, l1, l2, l3, l4, l5 => if l5 < 0 then (some T) else (elet (l5 * l3) fun v3 => oif (oO T l0 0 = true) <| obind (g_X0_measure T l0 l1 l2 v3 l3 l5) fun T5 => g_X0_score_b49 (g_X0_score_b31 n) T5 l0 l1 l2 l3 l4 l5)
def g_X0_score (T : AT) (o : Nat) (a0 : Nat) (a1 : Nat) (a2 : Int32) : Option (AT) := oif (oO T a0 6 = true) <| elet (T.2.2.1 a0 2) fun v3 => elet (v3.toInt64) fun v4 => elet (a2.toInt64) fun v5 => obind (g_X11_quotient v4 v5) fun r6 => elet (r6.toInt32) fun v8 => elet (if 50 < v8 then 50 else v8) fun v9 => oif (oO T o 0 = true) <| obind (T.2.2.2.2 o 0) fun n11 => oif (oO T n11 10 = true) <| obind (g_X10_narrow T n11) fun T13 => elet (v9 - 1) fun v15 => g_X0_score_b31 16384 T13 o a0 a1 a2 v9 v15
set_option maxHeartbeats 4000000 in
set_option maxRecDepth 100000 in
theorem s_X0_score_b137 {T1 : AT} {k31 : AT → Nat → Nat → Nat → Int32 → Int32 → Int32 → Option (AT)} (hk31 : ∀ (T : AT) (l0 : Nat) (l1 : Nat) (l2 : Nat) (l3 : Int32) (l4 : Int32) (l5 : Int32), k31 T l0 l1 l2 l3 l4 l5 = some T1 → GL T T1) : ∀ (T : AT) (l0 : Nat) (l1 : Nat) (l2 : Nat) (l3 : Int32) (l4 : Int32) (l5 : Int32), g_X0_score_b137 k31 T l0 l1 l2 l3 l4 l5 = some T1 → GL T T1 := by
  intro T l0 l1 l2 l3 l4 l5 h
  have p0 := GL.rf T
  unfold g_X0_score_b137 at h
  obtain ⟨v2, ev2, h⟩ := elet_some h
  exact GL.tr p0 (hk31 _ _ _ _ _ _ _ h)
set_option maxHeartbeats 4000000 in
set_option maxRecDepth 100000 in
theorem s_X0_score_b131 {T1 : AT} {k31 : AT → Nat → Nat → Nat → Int32 → Int32 → Int32 → Option (AT)} {k52 : AT → Nat → Nat → Nat → Int32 → Int32 → Int32 → Int32 → Option (AT)} (hk31 : ∀ (T : AT) (l0 : Nat) (l1 : Nat) (l2 : Nat) (l3 : Int32) (l4 : Int32) (l5 : Int32), k31 T l0 l1 l2 l3 l4 l5 = some T1 → GL T T1) (hk52 : ∀ (T : AT) (l0 : Nat) (l1 : Nat) (l2 : Nat) (l3 : Int32) (l4 : Int32) (l5 : Int32) (l6 : Int32), k52 T l0 l1 l2 l3 l4 l5 l6 = some T1 → GL T T1) : ∀ (T : AT) (l0 : Nat) (l1 : Nat) (l2 : Nat) (l3 : Int32) (l4 : Int32) (l5 : Int32) (l6 : Int32), g_X0_score_b131 k31 k52 T l0 l1 l2 l3 l4 l5 l6 = some T1 → GL T T1 := by
  intro T l0 l1 l2 l3 l4 l5 l6 h
  have p0 := GL.rf T
  unfold g_X0_score_b131 at h
  obtain ⟨v2, ev2, h⟩ := elet_some h
  exact GL.tr p0 (hk52 _ _ _ _ _ _ _ _ h)
set_option maxHeartbeats 4000000 in
set_option maxRecDepth 100000 in
theorem s_X0_score_b52 {T1 : AT} {k31 : AT → Nat → Nat → Nat → Int32 → Int32 → Int32 → Option (AT)} (hk31 : ∀ (T : AT) (l0 : Nat) (l1 : Nat) (l2 : Nat) (l3 : Int32) (l4 : Int32) (l5 : Int32), k31 T l0 l1 l2 l3 l4 l5 = some T1 → GL T T1) : ∀ n : Nat, ∀ (T : AT) (l0 : Nat) (l1 : Nat) (l2 : Nat) (l3 : Int32) (l4 : Int32) (l5 : Int32) (l6 : Int32), g_X0_score_b52 k31 n T l0 l1 l2 l3 l4 l5 l6 = some T1 → GL T T1 := by
  intro n
  induction n with
  | zero =>
    intro T l0 l1 l2 l3 l4 l5 l6 h
    have h : (none : Option (AT)) = some T1 := h
    cases h
  | succ n ih =>
    intro T l0 l1 l2 l3 l4 l5 l6 h
    have p0 := GL.rf T
    unfold g_X0_score_b52 at h
    obtain ⟨g2, h⟩ := oif_some h
    obtain ⟨n3, en3, h⟩ := obind_some h
    obtain ⟨g4, h⟩ := oif_some h
    obtain ⟨r6, T5, eT5, h⟩ := obind2_some h
    have p1 : GL T T5 := GL.tr p0 (gl_sp (s_X1_cells eT5))
    rcases oif_or h with ⟨c7, h⟩ | ⟨c7, h⟩
    · have h := h
      exact GL.tr p1 (s_X0_score_b137 hk31 _ _ _ _ _ _ _ h)
    · have h := h
      obtain ⟨v8, -, h⟩ := elet_some h
      rcases oif_or h with ⟨c9, h⟩ | ⟨c9, h⟩
      · have h := h
        exact GL.tr p1 (s_X0_score_b137 hk31 _ _ _ _ _ _ _ h)
      · have h := h
        obtain ⟨v10, -, h⟩ := elet_some h
        obtain ⟨r11, -, h⟩ := obind_some h
        obtain ⟨g12, h⟩ := oif_some h
        obtain ⟨n13, en13, h⟩ := obind_some h
        obtain ⟨g14, h⟩ := oif_some h
        obtain ⟨n15, en15, h⟩ := obind_some h
        obtain ⟨g16, h⟩ := oif_some h
        obtain ⟨r18, T17, eT17, h⟩ := obind2_some h
        obtain ⟨g19, h⟩ := oif_some h
        have p2 : GL T T17 := GL.tr p1 (gl_sp (s_X1_areaAround eT17))
        obtain ⟨g20, h⟩ := oif_some h
        obtain ⟨n21, en21, h⟩ := obind_some h
        obtain ⟨g22, h⟩ := oif_some h
        obtain ⟨r24, T23, eT23, h⟩ := obind2_some h
        have p3 : GL T T23 := GL.tr p2 (gl_sp (s_X1_bestIn eT23))
        obtain ⟨g25, h⟩ := oif_some h
        obtain ⟨n26, en26, h⟩ := obind_some h
        obtain ⟨r27, -, h⟩ := obind_some h
        obtain ⟨v28, -, h⟩ := elet_some h
        obtain ⟨g29, h⟩ := oif_some h
        obtain ⟨n30, en30, h⟩ := obind_some h
        obtain ⟨v31, -, h⟩ := elet_some h
        obtain ⟨g32, h⟩ := oif_some h
        obtain ⟨T33, eT33, h⟩ := obind_some h
        have p4 : GL T T33 := GL.tr p3 (s_X10_add eT33)
        exact GL.tr p4 (s_X0_score_b131 hk31 ih _ _ _ _ _ _ _ _ h)
set_option maxHeartbeats 4000000 in
set_option maxRecDepth 100000 in
theorem s_X0_score_b49 {T1 : AT} {k31 : AT → Nat → Nat → Nat → Int32 → Int32 → Int32 → Option (AT)} (hk31 : ∀ (T : AT) (l0 : Nat) (l1 : Nat) (l2 : Nat) (l3 : Int32) (l4 : Int32) (l5 : Int32), k31 T l0 l1 l2 l3 l4 l5 = some T1 → GL T T1) : ∀ (T : AT) (l0 : Nat) (l1 : Nat) (l2 : Nat) (l3 : Int32) (l4 : Int32) (l5 : Int32), g_X0_score_b49 k31 T l0 l1 l2 l3 l4 l5 = some T1 → GL T T1 := by
  intro T l0 l1 l2 l3 l4 l5 h
  have p0 := GL.rf T
  unfold g_X0_score_b49 at h
  exact GL.tr p0 (s_X0_score_b52 hk31 _ _ _ _ _ _ _ _ _ h)
set_option maxHeartbeats 4000000 in
set_option maxRecDepth 100000 in
theorem s_X0_score_b31 {T1 : AT} : ∀ n : Nat, ∀ (T : AT) (l0 : Nat) (l1 : Nat) (l2 : Nat) (l3 : Int32) (l4 : Int32) (l5 : Int32), g_X0_score_b31 n T l0 l1 l2 l3 l4 l5 = some T1 → GL T T1 := by
  intro n
  induction n with
  | zero =>
    intro T l0 l1 l2 l3 l4 l5 h
    have h : (none : Option (AT)) = some T1 := h
    cases h
  | succ n ih =>
    intro T l0 l1 l2 l3 l4 l5 h
    have p0 := GL.rf T
    unfold g_X0_score_b31 at h
    rcases oif_or h with ⟨c2, h⟩ | ⟨c2, h⟩
    · have h := h
      rw [← osome1 h]
      exact p0
    · have h := h
      obtain ⟨v3, -, h⟩ := elet_some h
      obtain ⟨g4, h⟩ := oif_some h
      obtain ⟨T5, eT5, h⟩ := obind_some h
      have p1 : GL T T5 := GL.tr p0 (s_X0_measure eT5)
      exact GL.tr p1 (s_X0_score_b49 ih _ _ _ _ _ _ _ h)
set_option maxHeartbeats 4000000 in
set_option maxRecDepth 100000 in
theorem s_X0_score {T : AT} {o : Nat} {a0 : Nat} {a1 : Nat} {a2 : Int32} {T1 : AT} (h : g_X0_score T o a0 a1 a2 = some T1) : GL T T1 := by
  have p0 := GL.rf T
  unfold g_X0_score at h
  obtain ⟨g2, h⟩ := oif_some h
  obtain ⟨v3, -, h⟩ := elet_some h
  obtain ⟨v4, -, h⟩ := elet_some h
  obtain ⟨v5, -, h⟩ := elet_some h
  obtain ⟨r6, -, h⟩ := obind_some h
  obtain ⟨v7, -, h⟩ := elet_some h
  obtain ⟨v8, -, h⟩ := elet_some h
  obtain ⟨g9, h⟩ := oif_some h
  obtain ⟨n10, en10, h⟩ := obind_some h
  obtain ⟨g11, h⟩ := oif_some h
  obtain ⟨T12, eT12, h⟩ := obind_some h
  have p1 : GL T T12 := GL.tr p0 (gl_sp (s_X10_narrow eT12))
  obtain ⟨v14, -, h⟩ := elet_some h
  exact GL.tr p1 (s_X0_score_b31 _ _ _ _ _ _ _ _ h)
set_option maxHeartbeats 4000000 in
set_option maxRecDepth 100000 in
theorem a_X0_score_b137 {p : Program} {l : Launch} {e : Env} {s : State} {m : MethodId} {args : Array Value} {below : List Frame} {meth : Method} {c : Code} {Q : State → Prop} {D : va_G} {A : Nat → Prop} {cI cJ cZ cMic cSrc cSt cAI cAJ : ClassId} {ad0 : Nat → Nat} {T0 : AT} {T1 : AT} (E : cE p c cX0_score s m args (Cond.code yX0_score cX0_score 9 none :: wsA) D RX0 (CT cI cJ cZ cMic cSrc cSt cAI cAJ)) (hA : ∀ q : Nat, s.heap.size ≤ q → A q) (hX : xT A s) (hN : nX s) (hml : c.maxLocals = 9) (hst : l.stackTraces = false) (kr143 : ∀ (ad : Nat → Nat) (H : Heap) (locs : List Loc) (ls : Array Slot), (∀ n, n < T0.1 → ad n = ad0 n) → gC cI cJ cZ cMic cSrc cSt cAI cAJ D ad A s.heap H locs T1 → W p l e { frames := 6, cells := T1.1 - T0.1, slots := sg T1 - sg T0, locals := 131 } s m args below meth c H locs (T1.1 - T0.1) (sg T1 - sg T0) Q (F0 m 143 ls [])) {k31 : AT → Nat → Nat → Nat → Int32 → Int32 → Int32 → Option (AT)} (hs31 : ∀ (T : AT) (l0 : Nat) (l1 : Nat) (l2 : Nat) (l3 : Int32) (l4 : Int32) (l5 : Int32), k31 T l0 l1 l2 l3 l4 l5 = some T1 → GL T T1) (hk31 : ∀ (T : AT) (ad : Nat → Nat) (H : Heap) (locs : List Loc) (ls : Array Slot) (l0 : Nat) (l1 : Nat) (l2 : Nat) (l3 : Int32) (l4 : Int32) (l5 : Int32), k31 T l0 l1 l2 l3 l4 l5 = some T1 → GL T0 T → RC T → (∀ n, n < T0.1 → ad n = ad0 n) → l0 < T.1 → l1 < T.1 → l2 < T.1 → gC cI cJ cZ cMic cSrc cSt cAI cAJ D ad A s.heap H locs T → lv_has ls 9 [(0, .ref (ad l0)), (1, .ref (ad l1)), (2, .ref (ad l2)), (3, .int l3), (4, .int l4), (5, .int l5)] → W p l e { frames := 6, cells := T1.1 - T0.1, slots := sg T1 - sg T0, locals := 131 } s m args below meth c H locs (T.1 - T0.1) (sg T - sg T0) Q (F0 m 31 ls [])) : ∀ (T : AT) (ad : Nat → Nat) (H : Heap) (locs : List Loc) (ls : Array Slot) (l0 : Nat) (l1 : Nat) (l2 : Nat) (l3 : Int32) (l4 : Int32) (l5 : Int32), g_X0_score_b137 k31 T l0 l1 l2 l3 l4 l5 = some T1 → GL T0 T → RC T → (∀ n, n < T0.1 → ad n = ad0 n) → l0 < T.1 → l1 < T.1 → l2 < T.1 → gC cI cJ cZ cMic cSrc cSt cAI cAJ D ad A s.heap H locs T → lv_has ls 9 [(0, .ref (ad l0)), (1, .ref (ad l1)), (2, .ref (ad l2)), (3, .int l3), (4, .int l4), (5, .int l5)] → W p l e { frames := 6, cells := T1.1 - T0.1, slots := sg T1 - sg T0, locals := 131 } s m args below meth c H locs (T.1 - T0.1) (sg T - sg T0) Q (F0 m 137 ls []) := by
  have hx := E.1
  have hb := E.2.1
  have hts := E.2.2.1
  have hown := E.2.2.2.1
  have hK := E.2.2.2.2
  intro T ad H locs ls l0 l1 l2 l3 l4 l5 h hgl hrc had h_l0 h_l1 h_l2 G hl
  have hT1 := s_X0_score_b137 hs31 _ _ _ _ _ _ _ h
  have hcs := cs_ok hgl hT1
  have cp0 := cpr0 hrc
  unfold g_X0_score_b137 at h
  obtain ⟨v2, ev2, h⟩ := elet_some h
  refine lv_iinc (v := v2) (lv' := [(5, .int v2), (0, .ref (ad l0)), (1, .ref (ad l1)), (2, .ref (ad l2)), (3, .int l3), (4, .int l4)]) hx hb dX0_score_137 hl (k := 5) rfl ev2.symm (by decide) rfl (fun ls hl => ?_)
  refine lv_goto (tgt := 31) hx hb dX0_score_140 (by decide) ?_
  have hl := lv_sub hl [1, 2, 3, 4, 5, 0] rfl
  refine w_cast (c2 := T.1 - T0.1) (s2 := sg T - sg T0) (by rw [cp0.1] <;> rfl) (by rw [sg_cpr cp0] <;> rfl) ?_
  exact hk31 _ _ _ _ _ _ _ _ _ _ _ h (gl_cpr hgl cp0) cp0.2.2 had (by rw [cp0.1]; exact h_l0) (by rw [cp0.1]; exact h_l1) (by rw [cp0.1]; exact h_l2) G hl
set_option maxHeartbeats 4000000 in
set_option maxRecDepth 100000 in
theorem a_X0_score_b131 {p : Program} {l : Launch} {e : Env} {s : State} {m : MethodId} {args : Array Value} {below : List Frame} {meth : Method} {c : Code} {Q : State → Prop} {D : va_G} {A : Nat → Prop} {cI cJ cZ cMic cSrc cSt cAI cAJ : ClassId} {ad0 : Nat → Nat} {T0 : AT} {T1 : AT} (E : cE p c cX0_score s m args (Cond.code yX0_score cX0_score 9 none :: wsA) D RX0 (CT cI cJ cZ cMic cSrc cSt cAI cAJ)) (hA : ∀ q : Nat, s.heap.size ≤ q → A q) (hX : xT A s) (hN : nX s) (hml : c.maxLocals = 9) (hst : l.stackTraces = false) (kr143 : ∀ (ad : Nat → Nat) (H : Heap) (locs : List Loc) (ls : Array Slot), (∀ n, n < T0.1 → ad n = ad0 n) → gC cI cJ cZ cMic cSrc cSt cAI cAJ D ad A s.heap H locs T1 → W p l e { frames := 6, cells := T1.1 - T0.1, slots := sg T1 - sg T0, locals := 131 } s m args below meth c H locs (T1.1 - T0.1) (sg T1 - sg T0) Q (F0 m 143 ls [])) {k31 : AT → Nat → Nat → Nat → Int32 → Int32 → Int32 → Option (AT)} {k52 : AT → Nat → Nat → Nat → Int32 → Int32 → Int32 → Int32 → Option (AT)} (hs31 : ∀ (T : AT) (l0 : Nat) (l1 : Nat) (l2 : Nat) (l3 : Int32) (l4 : Int32) (l5 : Int32), k31 T l0 l1 l2 l3 l4 l5 = some T1 → GL T T1) (hk31 : ∀ (T : AT) (ad : Nat → Nat) (H : Heap) (locs : List Loc) (ls : Array Slot) (l0 : Nat) (l1 : Nat) (l2 : Nat) (l3 : Int32) (l4 : Int32) (l5 : Int32), k31 T l0 l1 l2 l3 l4 l5 = some T1 → GL T0 T → RC T → (∀ n, n < T0.1 → ad n = ad0 n) → l0 < T.1 → l1 < T.1 → l2 < T.1 → gC cI cJ cZ cMic cSrc cSt cAI cAJ D ad A s.heap H locs T → lv_has ls 9 [(0, .ref (ad l0)), (1, .ref (ad l1)), (2, .ref (ad l2)), (3, .int l3), (4, .int l4), (5, .int l5)] → W p l e { frames := 6, cells := T1.1 - T0.1, slots := sg T1 - sg T0, locals := 131 } s m args below meth c H locs (T.1 - T0.1) (sg T - sg T0) Q (F0 m 31 ls [])) (hs52 : ∀ (T : AT) (l0 : Nat) (l1 : Nat) (l2 : Nat) (l3 : Int32) (l4 : Int32) (l5 : Int32) (l6 : Int32), k52 T l0 l1 l2 l3 l4 l5 l6 = some T1 → GL T T1) (hk52 : ∀ (T : AT) (ad : Nat → Nat) (H : Heap) (locs : List Loc) (ls : Array Slot) (l0 : Nat) (l1 : Nat) (l2 : Nat) (l3 : Int32) (l4 : Int32) (l5 : Int32) (l6 : Int32), k52 T l0 l1 l2 l3 l4 l5 l6 = some T1 → GL T0 T → RC T → (∀ n, n < T0.1 → ad n = ad0 n) → l0 < T.1 → l1 < T.1 → l2 < T.1 → gC cI cJ cZ cMic cSrc cSt cAI cAJ D ad A s.heap H locs T → lv_has ls 9 [(0, .ref (ad l0)), (1, .ref (ad l1)), (2, .ref (ad l2)), (3, .int l3), (4, .int l4), (5, .int l5), (6, .int l6)] → W p l e { frames := 6, cells := T1.1 - T0.1, slots := sg T1 - sg T0, locals := 131 } s m args below meth c H locs (T.1 - T0.1) (sg T - sg T0) Q (F0 m 52 ls [])) : ∀ (T : AT) (ad : Nat → Nat) (H : Heap) (locs : List Loc) (ls : Array Slot) (l0 : Nat) (l1 : Nat) (l2 : Nat) (l3 : Int32) (l4 : Int32) (l5 : Int32) (l6 : Int32), g_X0_score_b131 k31 k52 T l0 l1 l2 l3 l4 l5 l6 = some T1 → GL T0 T → RC T → (∀ n, n < T0.1 → ad n = ad0 n) → l0 < T.1 → l1 < T.1 → l2 < T.1 → gC cI cJ cZ cMic cSrc cSt cAI cAJ D ad A s.heap H locs T → lv_has ls 9 [(0, .ref (ad l0)), (1, .ref (ad l1)), (2, .ref (ad l2)), (3, .int l3), (4, .int l4), (5, .int l5), (6, .int l6)] → W p l e { frames := 6, cells := T1.1 - T0.1, slots := sg T1 - sg T0, locals := 131 } s m args below meth c H locs (T.1 - T0.1) (sg T - sg T0) Q (F0 m 131 ls []) := by
  have hx := E.1
  have hb := E.2.1
  have hts := E.2.2.1
  have hown := E.2.2.2.1
  have hK := E.2.2.2.2
  intro T ad H locs ls l0 l1 l2 l3 l4 l5 l6 h hgl hrc had h_l0 h_l1 h_l2 G hl
  have hT1 := s_X0_score_b131 hs31 hs52 _ _ _ _ _ _ _ _ h
  have hcs := cs_ok hgl hT1
  have cp0 := cpr0 hrc
  unfold g_X0_score_b131 at h
  obtain ⟨v2, ev2, h⟩ := elet_some h
  refine lv_iinc (v := v2) (lv' := [(6, .int v2), (0, .ref (ad l0)), (1, .ref (ad l1)), (2, .ref (ad l2)), (3, .int l3), (4, .int l4), (5, .int l5)]) hx hb dX0_score_131 hl (k := 6) rfl ev2.symm (by decide) rfl (fun ls hl => ?_)
  refine lv_goto (tgt := 52) hx hb dX0_score_134 (by decide) ?_
  have hl := lv_sub hl [1, 2, 3, 4, 5, 6, 0] rfl
  refine w_cast (c2 := T.1 - T0.1) (s2 := sg T - sg T0) (by rw [cp0.1] <;> rfl) (by rw [sg_cpr cp0] <;> rfl) ?_
  exact hk52 _ _ _ _ _ _ _ _ _ _ _ _ h (gl_cpr hgl cp0) cp0.2.2 had (by rw [cp0.1]; exact h_l0) (by rw [cp0.1]; exact h_l1) (by rw [cp0.1]; exact h_l2) G hl
set_option maxHeartbeats 4000000 in
set_option maxRecDepth 100000 in
theorem a_X0_score_b52 {p : Program} {l : Launch} {e : Env} {s : State} {m : MethodId} {args : Array Value} {below : List Frame} {meth : Method} {c : Code} {Q : State → Prop} {D : va_G} {A : Nat → Prop} {cI cJ cZ cMic cSrc cSt cAI cAJ : ClassId} {ad0 : Nat → Nat} {T0 : AT} {T1 : AT} (E : cE p c cX0_score s m args (Cond.code yX0_score cX0_score 9 none :: wsA) D RX0 (CT cI cJ cZ cMic cSrc cSt cAI cAJ)) (hA : ∀ q : Nat, s.heap.size ≤ q → A q) (hX : xT A s) (hN : nX s) (hml : c.maxLocals = 9) (hst : l.stackTraces = false) (kr143 : ∀ (ad : Nat → Nat) (H : Heap) (locs : List Loc) (ls : Array Slot), (∀ n, n < T0.1 → ad n = ad0 n) → gC cI cJ cZ cMic cSrc cSt cAI cAJ D ad A s.heap H locs T1 → W p l e { frames := 6, cells := T1.1 - T0.1, slots := sg T1 - sg T0, locals := 131 } s m args below meth c H locs (T1.1 - T0.1) (sg T1 - sg T0) Q (F0 m 143 ls [])) {k31 : AT → Nat → Nat → Nat → Int32 → Int32 → Int32 → Option (AT)} (hs31 : ∀ (T : AT) (l0 : Nat) (l1 : Nat) (l2 : Nat) (l3 : Int32) (l4 : Int32) (l5 : Int32), k31 T l0 l1 l2 l3 l4 l5 = some T1 → GL T T1) (hk31 : ∀ (T : AT) (ad : Nat → Nat) (H : Heap) (locs : List Loc) (ls : Array Slot) (l0 : Nat) (l1 : Nat) (l2 : Nat) (l3 : Int32) (l4 : Int32) (l5 : Int32), k31 T l0 l1 l2 l3 l4 l5 = some T1 → GL T0 T → RC T → (∀ n, n < T0.1 → ad n = ad0 n) → l0 < T.1 → l1 < T.1 → l2 < T.1 → gC cI cJ cZ cMic cSrc cSt cAI cAJ D ad A s.heap H locs T → lv_has ls 9 [(0, .ref (ad l0)), (1, .ref (ad l1)), (2, .ref (ad l2)), (3, .int l3), (4, .int l4), (5, .int l5)] → W p l e { frames := 6, cells := T1.1 - T0.1, slots := sg T1 - sg T0, locals := 131 } s m args below meth c H locs (T.1 - T0.1) (sg T - sg T0) Q (F0 m 31 ls [])) : ∀ n : Nat, ∀ (T : AT) (ad : Nat → Nat) (H : Heap) (locs : List Loc) (ls : Array Slot) (l0 : Nat) (l1 : Nat) (l2 : Nat) (l3 : Int32) (l4 : Int32) (l5 : Int32) (l6 : Int32), g_X0_score_b52 k31 n T l0 l1 l2 l3 l4 l5 l6 = some T1 → GL T0 T → RC T → (∀ n, n < T0.1 → ad n = ad0 n) → l0 < T.1 → l1 < T.1 → l2 < T.1 → gC cI cJ cZ cMic cSrc cSt cAI cAJ D ad A s.heap H locs T → lv_has ls 9 [(0, .ref (ad l0)), (1, .ref (ad l1)), (2, .ref (ad l2)), (3, .int l3), (4, .int l4), (5, .int l5), (6, .int l6)] → W p l e { frames := 6, cells := T1.1 - T0.1, slots := sg T1 - sg T0, locals := 131 } s m args below meth c H locs (T.1 - T0.1) (sg T - sg T0) Q (F0 m 52 ls []) := by
  have hx := E.1
  have hb := E.2.1
  have hts := E.2.2.1
  have hown := E.2.2.2.1
  have hK := E.2.2.2.2
  intro n
  induction n with
  | zero =>
    intro T ad H locs ls l0 l1 l2 l3 l4 l5 l6 h
    have h : (none : Option (AT)) = some T1 := h
    cases h
  | succ n ih =>
    intro T ad H locs ls l0 l1 l2 l3 l4 l5 l6 h hgl hrc had h_l0 h_l1 h_l2 G hl
    have hT1 := s_X0_score_b52 hs31 _ _ _ _ _ _ _ _ _ h
    have hcs := cs_ok hgl hT1
    have cp0 := cpr0 hrc
    unfold g_X0_score_b52 at h
    refine lv_iload hx hb dX0_score_52 (lv_at hl 6 rfl) ?_
    refine lv_aload_n hx hb dX0_score_54 rfl (lv_at hl 1 rfl) ?_
    obtain ⟨g2, h⟩ := oif_some h
    obtain ⟨n3, en3, h⟩ := obind_some h
    have h_n3 : n3 < T.1 := by rw [← cp0.1]; exact cp0.2.2 _ _ _ en3
    refine c_get E G l1 6 (v := .ref (ad n3)) (oO_k g2).1 (cc_o6 (oO_k g2).2) rfl (fun w h => .tail _ (iA_14 h)) (by decide) (.tail _ qA_22) rfl (by rw [en3]; rfl) dX0_score_55 ?_
    clear en3
    obtain ⟨g4, h⟩ := oif_some h
    obtain ⟨r7, T5, eT5, h⟩ := obind2_some h
    refine q_cvi (As := []) (rest := [.int l6]) E G hA hX hN hml (u_X1_cells l hst D cI cJ cZ cMic cSrc cSt cAI cAJ ad T n3 eT5) (cwV 0 hts (gaV qA_34 qA_35 qA_36 qA_37 qA_38) rfl rfl rfl (by decide +kernel) ⟨Nat.le_of_ble_eq_true rfl, Nat.le_of_ble_eq_true rfl⟩) (oO_k g4).1 (cc_o1 (oO_k g4).2) rfl rfl hl.1 rfl (lv_room (Nat.le_of_ble_eq_true rfl)) dX0_score_58 hcs (fun q8 T6 H locs hq G => ?_)
    obtain ⟨hq1, hq2⟩ := hq
    rw [hq2] at G
    refine lv_to hq1 ?_
    clear hq1 hq2
    have cp1 := cpr_sp cp0 (s_X1_cells eT5)
    refine lv_icmp_ge (tgt := 137) hx hb dX0_score_61 (by decide) (fun c9 => ?_) (fun c9 => ?_)
    · have h := oif_pos c9 h
      have hl := lv_sub hl [0, 1, 2, 3, 4, 5] rfl
      refine w_cast (c2 := T5.1 - T0.1) (s2 := sg T5 - sg T0) (by rw [cp1.1] <;> rfl) (by rw [sg_cpr cp1] <;> rfl) ?_
      exact a_X0_score_b137 E hA hX hN hml hst kr143 hs31 hk31 _ _ _ _ _ _ _ _ _ _ _ h (gl_cpr hgl cp1) cp1.2.2 had (by rw [cp1.1]; exact h_l0) (by rw [cp1.1]; exact h_l1) (by rw [cp1.1]; exact h_l2) G hl
    · have h := oif_neg c9 h
      refine lv_iload hx hb dX0_score_64 (lv_at hl 5 rfl) ?_
      refine lv_iconst (v := 1) hx hb dX0_score_66 (by decide) ?_
      refine lv_iadd hx hb dX0_score_67 ?_
      refine lv_topi (fun v10 ev10 => ?_)
      have h := elet_at ev10 h
      clear ev10
      refine lv_iload hx hb dX0_score_68 (lv_at hl 4 rfl) ?_
      refine lv_icmp_ge (tgt := 137) hx hb dX0_score_70 (by decide) (fun c11 => ?_) (fun c11 => ?_)
      · have h := oif_pos c11 h
        have hl := lv_sub hl [0, 1, 2, 3, 4, 5] rfl
        refine w_cast (c2 := T5.1 - T0.1) (s2 := sg T5 - sg T0) (by rw [cp1.1] <;> rfl) (by rw [sg_cpr cp1] <;> rfl) ?_
        exact a_X0_score_b137 E hA hX hN hml hst kr143 hs31 hk31 _ _ _ _ _ _ _ _ _ _ _ h (gl_cpr hgl cp1) cp1.2.2 had (by rw [cp1.1]; exact h_l0) (by rw [cp1.1]; exact h_l1) (by rw [cp1.1]; exact h_l2) G hl
      · have h := oif_neg c11 h
        refine lv_iload hx hb dX0_score_73 (lv_at hl 5 rfl) ?_
        refine lv_iconst (v := 1) hx hb dX0_score_75 (by decide) ?_
        refine lv_iadd hx hb dX0_score_76 ?_
        refine lv_topi (fun v12 ev12 => ?_)
        have h := elet_at ev12 h
        clear ev12
        obtain ⟨r13, er13, h⟩ := obind_some h
        refine q_sti (As := [.int v12]) (rest := []) ⟨hx, hb, hml, hown, hts⟩ hN (u_X0_rowStart l v12 er13) (cwS 1 hts (gaS qA_41 qA_42 qA_31 qA_43) rfl rfl rfl (by decide +kernel) ⟨Nat.le_of_ble_eq_true rfl, Nat.le_of_ble_eq_true rfl⟩) rfl hl.1 rfl (lv_room (Nat.le_of_ble_eq_true rfl)) dX0_score_77 hcs (fun q14 hq => ?_)
        refine lv_to hq ?_
        clear hq er13
        refine lv_istore (lv' := [(7, .int r13), (0, .ref (ad l0)), (1, .ref (ad l1)), (2, .ref (ad l2)), (3, .int l3), (4, .int l4), (5, .int l5), (6, .int l6)]) hx hb dX0_score_80 hl (by decide) rfl (fun ls hl => ?_)
        refine lv_aload_n hx hb dX0_score_82 rfl (lv_at hl 2 rfl) ?_
        obtain ⟨g15, h⟩ := oif_some h
        obtain ⟨n16, en16, h⟩ := obind_some h
        have h_n16 : n16 < T.1 := by rw [← cp1.1]; exact cp1.2.2 _ _ _ en16
        refine c_get E G l1 6 (v := .ref (ad n16)) (oO_k g15).1 (cc_o6 (oO_k g15).2) rfl (fun w h => .tail _ (iA_14 h)) (by decide) (.tail _ qA_22) rfl (by rw [en16]; rfl) dX0_score_83 ?_
        clear en16
        refine lv_aload_n hx hb dX0_score_86 rfl (lv_at hl 2 rfl) ?_
        obtain ⟨g17, h⟩ := oif_some h
        obtain ⟨n18, en18, h⟩ := obind_some h
        have h_n18 : n18 < T.1 := by rw [← cp1.1]; exact cp1.2.2 _ _ _ en18
        refine c_get E G l1 6 (v := .ref (ad n18)) (oO_k g17).1 (cc_o6 (oO_k g17).2) rfl (fun w h => .tail _ (iA_14 h)) (by decide) (.tail _ qA_22) rfl (by rw [en18]; rfl) dX0_score_87 ?_
        clear en18
        refine lv_iload hx hb dX0_score_90 (lv_at hl 7 rfl) ?_
        obtain ⟨g19, h⟩ := oif_some h
        obtain ⟨n22, T20, eT20, h⟩ := obind2_some h
        refine q_cvr (As := [.int l6]) (rest := [.ref (ad n16)]) E G hA hX hN hml (u_X1_areaAround l hst D cI cJ cZ cMic cSrc cSt cAI cAJ ad T5 n18 l6 eT20) (cwV 1 hts (gaV qA_133 qA_134 qA_135 qA_37 qA_136) rfl rfl rfl (by decide +kernel) ⟨Nat.le_of_ble_eq_true rfl, Nat.le_of_ble_eq_true rfl⟩) (oO_k g19).1 (cc_o1 (oO_k g19).2) rfl rfl hl.1 rfl (lv_room (Nat.le_of_ble_eq_true rfl)) dX0_score_92 hcs (fun T21 H locs hq G => ?_)
        rw [hq] at G
        clear hq
        have cp2 := cpr_sp cp1 (s_X1_areaAround eT20)
        obtain ⟨g23, h⟩ := oif_some h
        have h_n22 : n22 < T.1 := by rw [← cp2.1]; exact Nat.le_of_ble_eq_true g23
        refine lv_aload_n hx hb dX0_score_95 rfl (lv_at hl 1 rfl) ?_
        obtain ⟨g24, h⟩ := oif_some h
        obtain ⟨n25, en25, h⟩ := obind_some h
        have h_n25 : n25 < T.1 := by rw [← cp2.1]; exact cp2.2.2 _ _ _ en25
        refine c_get E G l0 0 (v := .ref (ad n25)) (oO_k g24).1 (cc_o0 (oO_k g24).2) rfl (fun w h => .tail _ (iA_13 h)) (by decide) (.tail _ qA_7) rfl (by rw [en25]; rfl) dX0_score_96 ?_
        clear en25
        refine lv_iload hx hb dX0_score_99 (lv_at hl 0 rfl) ?_
        obtain ⟨g26, h⟩ := oif_some h
        obtain ⟨r29, T27, eT27, h⟩ := obind2_some h
        refine q_cvi (As := [.ref (ad n22), .ref (ad n25), .int r13]) (rest := []) E G hA hX hN hml (u_X1_bestIn l hst D cI cJ cZ cMic cSrc cSt cAI cAJ ad T20 n16 n22 n25 r13 eT27) (cwV 3 hts (gaV qA_115 qA_116 qA_117 qA_37 qA_118) rfl rfl rfl (by decide +kernel) ⟨Nat.le_of_ble_eq_true rfl, Nat.le_of_ble_eq_true rfl⟩) (oO_k g26).1 (cc_o1 (oO_k g26).2) rfl rfl hl.1 rfl (lv_room (Nat.le_of_ble_eq_true rfl)) dX0_score_101 hcs (fun q30 T28 H locs hq G => ?_)
        obtain ⟨hq1, hq2⟩ := hq
        rw [hq2] at G
        refine lv_to hq1 ?_
        clear hq1 hq2
        have cp3 := cpr_sp cp2 (s_X1_bestIn eT27)
        refine lv_istore (lv' := [(8, .int r29), (7, .int r13), (0, .ref (ad l0)), (1, .ref (ad l1)), (2, .ref (ad l2)), (3, .int l3), (4, .int l4), (5, .int l5), (6, .int l6)]) hx hb dX0_score_104 hl (by decide) rfl (fun ls hl => ?_)
        refine lv_aload_n hx hb dX0_score_106 rfl (lv_at hl 2 rfl) ?_
        obtain ⟨g31, h⟩ := oif_some h
        obtain ⟨n32, en32, h⟩ := obind_some h
        have h_n32 : n32 < T.1 := by rw [← cp3.1]; exact cp3.2.2 _ _ _ en32
        refine c_get E G l0 0 (v := .ref (ad n32)) (oO_k g31).1 (cc_o0 (oO_k g31).2) rfl (fun w h => .tail _ (iA_13 h)) (by decide) (.tail _ qA_7) rfl (by rw [en32]; rfl) dX0_score_107 ?_
        clear en32
        refine lv_iload hx hb dX0_score_110 (lv_at hl 7 rfl) ?_
        obtain ⟨r33, er33, h⟩ := obind_some h
        refine q_sti (As := [.int l5]) (rest := [.ref (ad n32)]) ⟨hx, hb, hml, hown, hts⟩ hN (u_X0_rowStart l l5 er33) (cwS 1 hts (gaS qA_41 qA_42 qA_31 qA_43) rfl rfl rfl (by decide +kernel) ⟨Nat.le_of_ble_eq_true rfl, Nat.le_of_ble_eq_true rfl⟩) rfl hl.1 rfl (lv_room (Nat.le_of_ble_eq_true rfl)) dX0_score_112 hcs (fun q34 hq => ?_)
        refine lv_to hq ?_
        clear hq er33
        refine lv_iload hx hb dX0_score_115 (lv_at hl 8 rfl) ?_
        refine lv_iadd hx hb dX0_score_117 ?_
        refine lv_topi (fun v35 ev35 => ?_)
        have h := elet_at ev35 h
        clear ev35
        refine lv_aload_n hx hb dX0_score_118 rfl (lv_at hl 2 rfl) ?_
        obtain ⟨g36, h⟩ := oif_some h
        obtain ⟨n37, en37, h⟩ := obind_some h
        have h_n37 : n37 < T.1 := by rw [← cp3.1]; exact cp3.2.2 _ _ _ en37
        refine c_get E G l0 0 (v := .ref (ad n37)) (oO_k g36).1 (cc_o0 (oO_k g36).2) rfl (fun w h => .tail _ (iA_13 h)) (by decide) (.tail _ qA_7) rfl (by rw [en37]; rfl) dX0_score_119 ?_
        clear en37
        refine lv_iload hx hb dX0_score_122 (lv_at hl 1 rfl) ?_
        refine lv_iload hx hb dX0_score_124 (lv_at hl 0 rfl) ?_
        refine lv_iadd hx hb dX0_score_126 ?_
        refine lv_topi (fun v38 ev38 => ?_)
        have h := elet_at ev38 h
        clear ev38
        refine lv_iconst (v := 1) hx hb dX0_score_127 (by decide) ?_
        obtain ⟨g39, h⟩ := oif_some h
        obtain ⟨T40, eT40, h⟩ := obind_some h
        have hg2 := s_X10_add eT40
        have hrc2 := hg2.2.2 cp3.2.2
        have hT2 := s_X0_score_b131 hs31 (s_X0_score_b52 hs31 n) _ _ _ _ _ _ _ _ h
        refine q_avv (As := [.int v35, .ref (ad n37), .int v38, .int 1]) (rest := []) E G hA hX hN hml (a_X10_add l hst D cI cJ cZ cMic cSrc cSt cAI cAJ ad T27 n32 v35 n37 v38 (1 : Int32) eT40 cp3.2.2 (by rw [cp3.1]; exact h_n32) (by rw [cp3.1]; exact h_n37)) (cwV 4 hts (gaV qA_150 qA_151 qA_152 qA_6 qA_153) rfl rfl rfl (by decide +kernel) ⟨Nat.le_of_ble_eq_true rfl, Nat.le_of_ble_eq_true rfl⟩) (oO_k g39).1 (cc_o10 (oO_k g39).2) rfl rfl hl.1 rfl (lv_room (Nat.le_of_ble_eq_true rfl)) dX0_score_128 (cs_av hgl cp3 hg2 hT2) (fun ad2 H locs hga G => ?_)
        refine w_cast (c2 := T40.1 - T0.1) (s2 := sg T40 - sg T0) (cs_f1 hgl cp3 hg2) (cs_f2 hgl cp3 hg2) ?_
        have hl := lv_sub hl [2, 3, 4, 5, 6, 7, 8] rfl
        rw [show ad l0 = ad2 l0 from (hga l0 (by rw [cp3.1]; exact h_l0)).symm] at hl
        rw [show ad l1 = ad2 l1 from (hga l1 (by rw [cp3.1]; exact h_l1)).symm] at hl
        rw [show ad l2 = ad2 l2 from (hga l2 (by rw [cp3.1]; exact h_l2)).symm] at hl
        exact a_X0_score_b131 E hA hX hN hml hst kr143 hs31 hk31 (s_X0_score_b52 hs31 n) ih _ _ _ _ _ _ _ _ _ _ _ _ h (GL.tr (gl_cpr hgl cp3) hg2) hrc2 (fun n hn => (hga n (by rw [cp3.1]; exact Nat.lt_of_lt_of_le hn hgl.1)).trans (had n hn)) (Nat.lt_of_lt_of_le (by rw [cp3.1]; exact h_l0) hg2.1) (Nat.lt_of_lt_of_le (by rw [cp3.1]; exact h_l1) hg2.1) (Nat.lt_of_lt_of_le (by rw [cp3.1]; exact h_l2) hg2.1) G hl
set_option maxHeartbeats 4000000 in
set_option maxRecDepth 100000 in
theorem a_X0_score_b49 {p : Program} {l : Launch} {e : Env} {s : State} {m : MethodId} {args : Array Value} {below : List Frame} {meth : Method} {c : Code} {Q : State → Prop} {D : va_G} {A : Nat → Prop} {cI cJ cZ cMic cSrc cSt cAI cAJ : ClassId} {ad0 : Nat → Nat} {T0 : AT} {T1 : AT} (E : cE p c cX0_score s m args (Cond.code yX0_score cX0_score 9 none :: wsA) D RX0 (CT cI cJ cZ cMic cSrc cSt cAI cAJ)) (hA : ∀ q : Nat, s.heap.size ≤ q → A q) (hX : xT A s) (hN : nX s) (hml : c.maxLocals = 9) (hst : l.stackTraces = false) (kr143 : ∀ (ad : Nat → Nat) (H : Heap) (locs : List Loc) (ls : Array Slot), (∀ n, n < T0.1 → ad n = ad0 n) → gC cI cJ cZ cMic cSrc cSt cAI cAJ D ad A s.heap H locs T1 → W p l e { frames := 6, cells := T1.1 - T0.1, slots := sg T1 - sg T0, locals := 131 } s m args below meth c H locs (T1.1 - T0.1) (sg T1 - sg T0) Q (F0 m 143 ls [])) {k31 : AT → Nat → Nat → Nat → Int32 → Int32 → Int32 → Option (AT)} (hs31 : ∀ (T : AT) (l0 : Nat) (l1 : Nat) (l2 : Nat) (l3 : Int32) (l4 : Int32) (l5 : Int32), k31 T l0 l1 l2 l3 l4 l5 = some T1 → GL T T1) (hk31 : ∀ (T : AT) (ad : Nat → Nat) (H : Heap) (locs : List Loc) (ls : Array Slot) (l0 : Nat) (l1 : Nat) (l2 : Nat) (l3 : Int32) (l4 : Int32) (l5 : Int32), k31 T l0 l1 l2 l3 l4 l5 = some T1 → GL T0 T → RC T → (∀ n, n < T0.1 → ad n = ad0 n) → l0 < T.1 → l1 < T.1 → l2 < T.1 → gC cI cJ cZ cMic cSrc cSt cAI cAJ D ad A s.heap H locs T → lv_has ls 9 [(0, .ref (ad l0)), (1, .ref (ad l1)), (2, .ref (ad l2)), (3, .int l3), (4, .int l4), (5, .int l5)] → W p l e { frames := 6, cells := T1.1 - T0.1, slots := sg T1 - sg T0, locals := 131 } s m args below meth c H locs (T.1 - T0.1) (sg T - sg T0) Q (F0 m 31 ls [])) : ∀ (T : AT) (ad : Nat → Nat) (H : Heap) (locs : List Loc) (ls : Array Slot) (l0 : Nat) (l1 : Nat) (l2 : Nat) (l3 : Int32) (l4 : Int32) (l5 : Int32), g_X0_score_b49 k31 T l0 l1 l2 l3 l4 l5 = some T1 → GL T0 T → RC T → (∀ n, n < T0.1 → ad n = ad0 n) → l0 < T.1 → l1 < T.1 → l2 < T.1 → gC cI cJ cZ cMic cSrc cSt cAI cAJ D ad A s.heap H locs T → lv_has ls 9 [(0, .ref (ad l0)), (1, .ref (ad l1)), (2, .ref (ad l2)), (3, .int l3), (4, .int l4), (5, .int l5)] → W p l e { frames := 6, cells := T1.1 - T0.1, slots := sg T1 - sg T0, locals := 131 } s m args below meth c H locs (T.1 - T0.1) (sg T - sg T0) Q (F0 m 49 ls []) := by
  have hx := E.1
  have hb := E.2.1
  have hts := E.2.2.1
  have hown := E.2.2.2.1
  have hK := E.2.2.2.2
  intro T ad H locs ls l0 l1 l2 l3 l4 l5 h hgl hrc had h_l0 h_l1 h_l2 G hl
  have hT1 := s_X0_score_b49 hs31 _ _ _ _ _ _ _ h
  have hcs := cs_ok hgl hT1
  have cp0 := cpr0 hrc
  unfold g_X0_score_b49 at h
  refine lv_iconst (v := 0) hx hb dX0_score_49 (by decide) ?_
  refine lv_istore (lv' := [(6, .int 0), (0, .ref (ad l0)), (1, .ref (ad l1)), (2, .ref (ad l2)), (3, .int l3), (4, .int l4), (5, .int l5)]) hx hb dX0_score_50 hl (by decide) rfl (fun ls hl => ?_)
  have hl := lv_sub hl [1, 2, 3, 4, 5, 6, 0] rfl
  refine w_cast (c2 := T.1 - T0.1) (s2 := sg T - sg T0) (by rw [cp0.1] <;> rfl) (by rw [sg_cpr cp0] <;> rfl) ?_
  exact a_X0_score_b52 E hA hX hN hml hst kr143 hs31 hk31 _ _ _ _ _ _ _ _ _ _ _ _ _ h (gl_cpr hgl cp0) cp0.2.2 had (by rw [cp0.1]; exact h_l0) (by rw [cp0.1]; exact h_l1) (by rw [cp0.1]; exact h_l2) G hl
set_option maxHeartbeats 4000000 in
set_option maxRecDepth 100000 in
theorem a_X0_score_b31 {p : Program} {l : Launch} {e : Env} {s : State} {m : MethodId} {args : Array Value} {below : List Frame} {meth : Method} {c : Code} {Q : State → Prop} {D : va_G} {A : Nat → Prop} {cI cJ cZ cMic cSrc cSt cAI cAJ : ClassId} {ad0 : Nat → Nat} {T0 : AT} {T1 : AT} (E : cE p c cX0_score s m args (Cond.code yX0_score cX0_score 9 none :: wsA) D RX0 (CT cI cJ cZ cMic cSrc cSt cAI cAJ)) (hA : ∀ q : Nat, s.heap.size ≤ q → A q) (hX : xT A s) (hN : nX s) (hml : c.maxLocals = 9) (hst : l.stackTraces = false) (kr143 : ∀ (ad : Nat → Nat) (H : Heap) (locs : List Loc) (ls : Array Slot), (∀ n, n < T0.1 → ad n = ad0 n) → gC cI cJ cZ cMic cSrc cSt cAI cAJ D ad A s.heap H locs T1 → W p l e { frames := 6, cells := T1.1 - T0.1, slots := sg T1 - sg T0, locals := 131 } s m args below meth c H locs (T1.1 - T0.1) (sg T1 - sg T0) Q (F0 m 143 ls [])) : ∀ n : Nat, ∀ (T : AT) (ad : Nat → Nat) (H : Heap) (locs : List Loc) (ls : Array Slot) (l0 : Nat) (l1 : Nat) (l2 : Nat) (l3 : Int32) (l4 : Int32) (l5 : Int32), g_X0_score_b31 n T l0 l1 l2 l3 l4 l5 = some T1 → GL T0 T → RC T → (∀ n, n < T0.1 → ad n = ad0 n) → l0 < T.1 → l1 < T.1 → l2 < T.1 → gC cI cJ cZ cMic cSrc cSt cAI cAJ D ad A s.heap H locs T → lv_has ls 9 [(0, .ref (ad l0)), (1, .ref (ad l1)), (2, .ref (ad l2)), (3, .int l3), (4, .int l4), (5, .int l5)] → W p l e { frames := 6, cells := T1.1 - T0.1, slots := sg T1 - sg T0, locals := 131 } s m args below meth c H locs (T.1 - T0.1) (sg T - sg T0) Q (F0 m 31 ls []) := by
  have hx := E.1
  have hb := E.2.1
  have hts := E.2.2.1
  have hown := E.2.2.2.1
  have hK := E.2.2.2.2
  intro n
  induction n with
  | zero =>
    intro T ad H locs ls l0 l1 l2 l3 l4 l5 h
    have h : (none : Option (AT)) = some T1 := h
    cases h
  | succ n ih =>
    intro T ad H locs ls l0 l1 l2 l3 l4 l5 h hgl hrc had h_l0 h_l1 h_l2 G hl
    have hT1 := s_X0_score_b31 _ _ _ _ _ _ _ _ h
    have hcs := cs_ok hgl hT1
    have cp0 := cpr0 hrc
    unfold g_X0_score_b31 at h
    refine lv_iload hx hb dX0_score_31 (lv_at hl 5 rfl) ?_
    refine lv_if_lt (tgt := 143) hx hb dX0_score_33 (by decide) (fun c2 => ?_) (fun c2 => ?_)
    · have h := oif_pos c2 h
      rw [osome1 h] at G
      refine w_cast (c2 := T1.1 - T0.1) (s2 := sg T1 - sg T0) (by rw [← osome1 h, cp0.1] <;> rfl) (by rw [← osome1 h, sg_cpr cp0] <;> rfl) ?_
      exact kr143 ad _ _ _ had G
    · have h := oif_neg c2 h
      refine lv_aload_n hx hb dX0_score_36 rfl (lv_at hl 0 rfl) ?_
      refine lv_aload_n hx hb dX0_score_37 rfl (lv_at hl 1 rfl) ?_
      refine lv_aload_n hx hb dX0_score_38 rfl (lv_at hl 2 rfl) ?_
      refine lv_iload hx hb dX0_score_39 (lv_at hl 5 rfl) ?_
      refine lv_iload_n hx hb dX0_score_41 rfl (lv_at hl 3 rfl) ?_
      refine lv_imul hx hb dX0_score_42 ?_
      refine lv_topi (fun v3 ev3 => ?_)
      have h := elet_at ev3 h
      clear ev3
      refine lv_iload_n hx hb dX0_score_43 rfl (lv_at hl 3 rfl) ?_
      refine lv_iload hx hb dX0_score_44 (lv_at hl 5 rfl) ?_
      obtain ⟨g4, h⟩ := oif_some h
      obtain ⟨T5, eT5, h⟩ := obind_some h
      have hg2 := s_X0_measure eT5
      have hrc2 := hg2.2.2 cp0.2.2
      have hT2 := s_X0_score_b49 (s_X0_score_b31 n) _ _ _ _ _ _ _ h
      refine q_avv (As := [.ref (ad l1), .ref (ad l2), .int v3, .int l3, .int l5]) (rest := []) E G hA hX hN hml (a_X0_measure l hst D cI cJ cZ cMic cSrc cSt cAI cAJ ad T l0 l1 l2 v3 l3 l5 eT5 cp0.2.2 (by rw [cp0.1]; exact h_l0) (by rw [cp0.1]; exact h_l1) (by rw [cp0.1]; exact h_l2)) (cwV 5 hts (gaV qA_28 qA_29 qA_30 qA_31 qA_32) rfl rfl rfl (by decide +kernel) ⟨Nat.le_of_ble_eq_true rfl, Nat.le_of_ble_eq_true rfl⟩) (oO_k g4).1 (cc_o0 (oO_k g4).2) rfl rfl hl.1 rfl (lv_room (Nat.le_of_ble_eq_true rfl)) dX0_score_46 (cs_av hgl cp0 hg2 hT2) (fun ad2 H locs hga G => ?_)
      refine w_cast (c2 := T5.1 - T0.1) (s2 := sg T5 - sg T0) (cs_f1 hgl cp0 hg2) (cs_f2 hgl cp0 hg2) ?_
      have hl := lv_sub hl [0, 1, 2, 3, 4, 5] rfl
      rw [show ad l0 = ad2 l0 from (hga l0 (by rw [cp0.1]; exact h_l0)).symm] at hl
      rw [show ad l1 = ad2 l1 from (hga l1 (by rw [cp0.1]; exact h_l1)).symm] at hl
      rw [show ad l2 = ad2 l2 from (hga l2 (by rw [cp0.1]; exact h_l2)).symm] at hl
      exact a_X0_score_b49 E hA hX hN hml hst kr143 (s_X0_score_b31 n) ih _ _ _ _ _ _ _ _ _ _ _ h (GL.tr (gl_cpr hgl cp0) hg2) hrc2 (fun n hn => (hga n (by rw [cp0.1]; exact Nat.lt_of_lt_of_le hn hgl.1)).trans (had n hn)) (Nat.lt_of_lt_of_le (by rw [cp0.1]; exact h_l0) hg2.1) (Nat.lt_of_lt_of_le (by rw [cp0.1]; exact h_l1) hg2.1) (Nat.lt_of_lt_of_le (by rw [cp0.1]; exact h_l2) hg2.1) G hl
set_option maxHeartbeats 4000000 in
set_option maxRecDepth 100000 in
theorem a_X0_score (l : Launch) (hst : l.stackTraces = false) (D : va_G) (cI cJ cZ cMic cSrc cSt cAI cAJ : ClassId) (ad : Nat → Nat) (T : AT) (o : Nat) (a0 : Nat) (a1 : Nat) (a2 : Int32) {T1 : AT} (h : g_X0_score T o a0 a1 a2 = some T1) (hrc : RC T) (h_o : o < T.1) (h_a0 : a0 < T.1) (h_a1 : a1 < T.1) : kAv l yX0_score (Cond.code yX0_score cX0_score 9 none :: wsA) 6 131 cI cJ cZ cMic cSrc cSt cAI cAJ D ad T [.ref (ad o), .ref (ad a0), .ref (ad a1), .int a2] T1 := by
  intro sz
  refine Met.ofW (cc := cX0_score) (maxL := 9) (ret := none) (by decide) rfl ?_
  intro p e s m args below meth c s₁ B hml hv
  obtain ⟨rfl, hsz, hP, hK, hD0, hX, hN⟩ := hv
  have hx := B.exec
  have hb := B.bytes
  have hr := B.returns
  have hts := atoms_spec (ws := (Cond.code yX0_score cX0_score 9 none :: wsA)) B.pre
  have hown : s.vm.findClass RX0 = some m.cls := findClass_of_methodNamed B.named
  have hlocks := B.notSynchronized
  subst hsz
  have hD := hD0.self (sz := s.heap.size)
  generalize hAe : va_A (cW ad T.1 (cc cI cJ cZ cMic cSrc cSt cAI cAJ ad T)) s.heap.size = A at hD hX ⊢
  have hA : ∀ q : Nat, s.heap.size ≤ q → A q := fun q h => by rw [← hAe]; exact Or.inr h
  have G : gC cI cJ cZ cMic cSrc cSt cAI cAJ D ad A s.heap s.heap [] T := ⟨hP, hD, va_S.rf⟩
  have E : cE p c cX0_score s m ([.ref (ad o), .ref (ad a0), .ref (ad a1), .int a2] : List Value).toArray (Cond.code yX0_score cX0_score 9 none :: wsA) D RX0 (CT cI cJ cZ cMic cSrc cSt cAI cAJ) := ⟨hx, hb, hts, hown, hK⟩
  have hl := lv_entry ([.ref (ad o), .ref (ad a0), .ref (ad a1), .int a2]) (n := 9) (Nat.le_of_ble_eq_true rfl)
  rw [lg_entry_eq]
  generalize (lg_sl ([.ref (ad o), .ref (ad a0), .ref (ad a1), .int a2]) ++ List.replicate (9 - (lg_sl ([.ref (ad o), .ref (ad a0), .ref (ad a1), .int a2])).length) Slot.unset).toArray = ls at hl ⊢
  have hl : lv_has ls 9 [(0, .ref (ad o)), (1, .ref (ad a0)), (2, .ref (ad a1)), (3, .int a2)] := hl
  have hgl := GL.rf T
  have had : ∀ n, n < T.1 → ad n = ad n := fun _ _ => rfl
  have hT1 := s_X0_score h
  have hcs := cs_ok hgl hT1
  refine w_cast (Nat.sub_self T.1).symm (Nat.sub_self (sg T)).symm ?_
  have cp0 := cpr0 hrc
  unfold g_X0_score at h
  refine lv_aload_n hx hb dX0_score_0 rfl (lv_at hl 1 rfl) ?_
  obtain ⟨g2, h⟩ := oif_some h
  refine c_get E G a0 2 (oO_k g2).1 (cc_o6 (oO_k g2).2) rfl (fun w h => .tail _ (iA_14 h)) (by decide) (.tail _ qA_128) rfl rfl dX0_score_1 ?_
  refine lv_topi (fun v3 ev3 => ?_)
  have h := elet_at ev3 h
  clear ev3
  refine lv_i2l (v := v3.toInt64) hx hb dX0_score_4 rfl ?_
  refine lv_topl (fun v4 ev4 => ?_)
  have h := elet_at ev4 h
  clear ev4
  refine lv_iload_n hx hb dX0_score_5 rfl (lv_at hl 3 rfl) ?_
  refine lv_i2l (v := a2.toInt64) hx hb dX0_score_6 rfl ?_
  refine lv_topl (fun v5 ev5 => ?_)
  have h := elet_at ev5 h
  clear ev5
  obtain ⟨r6, er6, h⟩ := obind_some h
  refine q_stlN (As := [.long v4, .long v5]) (rest := []) ⟨hx, hb, hml, hown, hts⟩ hN (u_X11_quotient l v4 v5 er6) ⟨va_cnB (host := "AcousticCamera") 2 hts (gaC qA_132) rfl rfl rfl (hN.2.2.2.2.2 _ (List.mem_of_getElem? (i := 17) rfl)) (hts _ (.tail _ qA_131)) (by decide +kernel) ⟨Nat.le_of_ble_eq_true rfl, Nat.le_of_ble_eq_true rfl⟩, hts _ (.tail _ qA_130), trivial⟩ rfl hl.1 rfl (lv_room (Nat.le_of_ble_eq_true rfl)) dX0_score_7 hcs (fun q7 hq => ?_)
  refine lv_tol hq ?_
  clear hq er6
  refine lv_l2i (v := r6.toInt32) hx hb dX0_score_10 rfl ?_
  refine lv_topi (fun v8 ev8 => ?_)
  have h := elet_at ev8 h
  clear ev8
  refine lv_bipush (v := 50) hx hb dX0_score_11 (by decide) ?_
  refine va_mmin hx hb (hml.trans hl.1.symm) hown (hts _ (.tail _ qA_129)) (hts _ (.tail _ qA_50)) (hts _ (.tail _ qA_18)) (hts _ (.tail _ qA_51)) (Nat.le_of_ble_eq_true rfl) (Nat.le_of_ble_eq_true rfl) hcs.1 hcs.2 dX0_score_13 ?_
  refine lv_topi (fun v9 ev9 => ?_)
  have h := elet_at ev9 h
  clear ev9
  refine lv_istore (lv' := [(4, .int v9), (0, .ref (ad o)), (1, .ref (ad a0)), (2, .ref (ad a1)), (3, .int a2)]) hx hb dX0_score_16 hl (by decide) rfl (fun ls hl => ?_)
  refine lv_aload_n hx hb dX0_score_18 rfl (lv_at hl 1 rfl) ?_
  obtain ⟨g10, h⟩ := oif_some h
  obtain ⟨n11, en11, h⟩ := obind_some h
  have h_n11 : n11 < T.1 := by rw [← cp0.1]; exact cp0.2.2 _ _ _ en11
  refine c_get E G o 0 (v := .ref (ad n11)) (oO_k g10).1 (cc_o0 (oO_k g10).2) rfl (fun w h => .tail _ (iA_13 h)) (by decide) (.tail _ qA_7) rfl (by rw [en11]; rfl) dX0_score_19 ?_
  clear en11
  obtain ⟨g12, h⟩ := oif_some h
  obtain ⟨T13, eT13, h⟩ := obind_some h
  refine q_cvv (As := []) (rest := []) E G hA hX hN hml (u_X10_narrow l hst D cI cJ cZ cMic cSrc cSt cAI cAJ ad T n11 eT13) (cwV 0 hts (gaV qA_24 qA_25 qA_26 qA_6 qA_27) rfl rfl rfl (by decide +kernel) ⟨Nat.le_of_ble_eq_true rfl, Nat.le_of_ble_eq_true rfl⟩) (oO_k g12).1 (cc_o10 (oO_k g12).2) rfl rfl hl.1 rfl (lv_room (Nat.le_of_ble_eq_true rfl)) dX0_score_22 hcs (fun T14 H locs hq G => ?_)
  rw [hq] at G
  clear hq
  have cp1 := cpr_sp cp0 (s_X10_narrow eT13)
  refine lv_iload hx hb dX0_score_25 (lv_at hl 0 rfl) ?_
  refine lv_iconst (v := 1) hx hb dX0_score_27 (by decide) ?_
  refine lv_isub hx hb dX0_score_28 ?_
  refine lv_topi (fun v15 ev15 => ?_)
  have h := elet_at ev15 h
  clear ev15
  refine lv_istore (lv' := [(5, .int v15), (4, .int v9), (0, .ref (ad o)), (1, .ref (ad a0)), (2, .ref (ad a1)), (3, .int a2)]) hx hb dX0_score_29 hl (by decide) rfl (fun ls hl => ?_)
  have hl := lv_sub hl [2, 3, 4, 5, 1, 0] rfl
  refine w_cast (c2 := T13.1 - T.1) (s2 := sg T13 - sg T) (by rw [cp1.1] <;> rfl) (by rw [sg_cpr cp1] <;> rfl) ?_
  exact a_X0_score_b31 E hA hX hN hml hst (fun ad H locs ls had G => W.vret hx hb hr (fun t ht hW => ⟨⟨(T1, ad), rfl, ⟨rfl, had⟩, ⟨by rw [ht]; exact G.1, va_K.moved hW.alike hK, G.2.1⟩⟩, G.2.2.F ht⟩) G.2.2.2.2 dX0_score_143) _ _ _ _ _ _ _ _ _ _ _ _ h (gl_cpr hgl cp1) cp1.2.2 had (by rw [cp1.1]; exact h_o) (by rw [cp1.1]; exact h_a0) (by rw [cp1.1]; exact h_a1) G hl
end
