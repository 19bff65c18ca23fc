def g_X8_begin_b93 (k63 : AT → Nat → Nat → Int32 → Option (AT)) (T : AT) (s0 : Int32) (s1 : Int32) (s2 : Nat) (l0 : Nat) (l1 : Nat) (l2 : Int32) (l3 : Nat) : Option (AT) := oif (aA T s2 102 = true) <| oif (inb s1 (T.2.1 s2).2 = true) <| oif (s0 = 0 ∨ s0 = 1) <| elet (uI T s2 s1.toNatClampNeg s0) fun T4 => oif (oO T4 l0 8 = true) <| obind (T4.2.2.2.2 l0 6) fun n6 => oif (oO T4 l3 7 = true) <| elet (T4.2.2.1 l3 1) fun v8 => oif (aA T4 n6 100 = true) <| oif (inb l2 (T4.2.1 n6).2 = true) <| elet (uI T4 n6 l2.toNatClampNeg v8) fun T11 => oif (oO T11 l0 8 = true) <| obind (T11.2.2.2.2 l0 7) fun n13 => oif (oO T11 l3 7 = true) <| elet (T11.2.2.1 l3 2) fun v15 => oif (aA T11 n13 100 = true) <| oif (inb l2 (T11.2.1 n13).2 = true) <| elet (uI T11 n13 l2.toNatClampNeg v15) fun T18 => oif (oO T18 l0 8 = true) <| obind (T18.2.2.2.2 l0 8) fun n20 => oif (oO T18 l3 7 = true) <| elet (T18.2.2.1 l3 3) fun v22 => oif (aA T18 n20 100 = true) <| oif (inb l2 (T18.2.1 n20).2 = true) <| elet (uI T18 n20 l2.toNatClampNeg v22) fun T25 => oif (oO T25 l0 8 = true) <| obind (T25.2.2.2.2 l0 9) fun n27 => oif (oO T25 l3 7 = true) <| elet (T25.2.2.1 l3 4) fun v29 => oif (aA T25 n27 100 = true) <| oif (inb l2 (T25.2.1 n27).2 = true) <| elet (uI T25 n27 l2.toNatClampNeg v29) fun T32 => elet (l2 + Int32.ofInt (1)) fun v33 => k63 T32 l0 l1 v33
set_option maxHeartbeats 4000000 in
set_option maxRecDepth 100000 in
theorem u_X8_begin_b93 {p : Program} {l : Launch} {e : Env} {s : State} {m : MethodId} {args : Array Value} {below : List Frame} {meth : Method} {c : Code} {Q : State → Prop} {D : va_G} {A : Nat → Prop} {cI cJ cZ cMic cSrc cSt cAI cAJ : ClassId} {ad : Nat → Nat} {T1 : AT} (E : cE p c cX8_begin s m args (Cond.code yX8_begin cX8_begin 4 none :: wsA) D RX8 (CT cI cJ cZ cMic cSrc cSt cAI cAJ)) (hA : ∀ q : Nat, s.heap.size ≤ q → A q) (hX : xT A s) (hN : nX s) (hml : c.maxLocals = 4) (hst : l.stackTraces = false) (kr140 : ∀ (H : Heap) (locs : List Loc) (ls : Array Slot), gC cI cJ cZ cMic cSrc cSt cAI cAJ D ad A s.heap H locs T1 → W p l e { frames := 1, cells := 0, slots := 0, locals := 0 } s m args below meth c H locs 0 0 Q (F0 m 140 ls [])) {k63 : AT → Nat → Nat → Int32 → Option (AT)} (hk63 : ∀ (T : AT) (H : Heap) (locs : List Loc) (ls : Array Slot) (l0 : Nat) (l1 : Nat) (l2 : Int32), k63 T l0 l1 l2 = some T1 → gC cI cJ cZ cMic cSrc cSt cAI cAJ D ad A s.heap H locs T → lv_has ls 4 [(0, .ref (ad l0)), (1, .ref (ad l1)), (2, .int l2)] → W p l e { frames := 1, cells := 0, slots := 0, locals := 0 } s m args below meth c H locs 0 0 Q (F0 m 63 ls [])) : ∀ (T : AT) (H : Heap) (locs : List Loc) (ls : Array Slot) (s0 : Int32) (s1 : Int32) (s2 : Nat) (l0 : Nat) (l1 : Nat) (l2 : Int32) (l3 : Nat), g_X8_begin_b93 k63 T s0 s1 s2 l0 l1 l2 l3 = some T1 → gC cI cJ cZ cMic cSrc cSt cAI cAJ D ad A s.heap H locs T → lv_has ls 4 [(0, .ref (ad l0)), (1, .ref (ad l1)), (2, .int l2), (3, .ref (ad l3))] → W p l e { frames := 1, cells := 0, slots := 0, locals := 0 } s m args below meth c H locs 0 0 Q (F0 m 93 ls [.int s0, .int s1, .ref (ad s2)]) := by
  have hx := E.1
  have hb := E.2.1
  have hts := E.2.2.1
  have hown := E.2.2.2.1
  have hK := E.2.2.2.2
  intro T H locs ls s0 s1 s2 l0 l1 l2 l3 h G hl
  unfold g_X8_begin_b93 at h
  obtain ⟨g2, h⟩ := oif_some h
  obtain ⟨g3, h⟩ := oif_some h
  obtain ⟨gz, h⟩ := oif_some h
  refine c_zast E G s2 2 (k := s1.toNatClampNeg) (v := s0) (aA_k g2).1 (cc_a102 (aA_k g2).2.1) rfl (inb_k g3).1 (inb_k g3).2 (aA_k g2).2.2 (by rcases gz with rfl | rfl <;> rfl) dX8_begin_93 (fun H locs G => ?_)
  have G := gC_up_i (f := upd (T.2.2.1 s2) s1.toNatClampNeg s0) (ccv_102 (aA_k g2).2.1) G
  obtain ⟨T4, eT4, h⟩ := elet_some h
  have G : gC cI cJ cZ cMic cSrc cSt cAI cAJ D ad A s.heap H locs T4 := by rw [eT4]; exact G
  clear eT4
  refine lv_aload_n hx hb dX8_begin_94 rfl (lv_at hl 0 rfl) ?_
  obtain ⟨g5, h⟩ := oif_some h
  obtain ⟨n6, en6, h⟩ := obind_some h
  refine c_get E G l0 6 (v := .ref (ad n6)) (oO_k g5).1 (cc_o8 (oO_k g5).2) rfl (fun w h => .tail _ (iA_16 h)) (by decide) (.tail _ qA_586) rfl (by rw [en6]; rfl) dX8_begin_95 ?_
  clear en6
  refine lv_iload_n hx hb dX8_begin_98 rfl (lv_at hl 2 rfl) ?_
  refine lv_aload_n hx hb dX8_begin_99 rfl (lv_at hl 3 rfl) ?_
  obtain ⟨g7, h⟩ := oif_some h
  refine c_get E G l3 1 (oO_k g7).1 (cc_o7 (oO_k g7).2) rfl (fun w h => .tail _ (iA_20 h)) (by decide) (.tail _ qA_599) rfl rfl dX8_begin_100 ?_
  refine lv_topi (fun v8 ev8 => ?_)
  have h := elet_at ev8 h
  clear ev8
  obtain ⟨g9, h⟩ := oif_some h
  obtain ⟨g10, h⟩ := oif_some h
  refine c_iast E G n6 0 (k := l2.toNatClampNeg) (v := v8) (aA_k g9).1 (cc_a100 (aA_k g9).2.1) rfl (inb_k g10).1 (inb_k g10).2 (aA_k g9).2.2 dX8_begin_103 (fun H locs G => ?_)
  have G := gC_up_i (f := upd (T4.2.2.1 n6) l2.toNatClampNeg v8) (ccv_100 (aA_k g9).2.1) G
  obtain ⟨T11, eT11, h⟩ := elet_some h
  have G : gC cI cJ cZ cMic cSrc cSt cAI cAJ D ad A s.heap H locs T11 := by rw [eT11]; exact G
  clear eT11
  refine lv_aload_n hx hb dX8_begin_104 rfl (lv_at hl 0 rfl) ?_
  obtain ⟨g12, h⟩ := oif_some h
  obtain ⟨n13, en13, h⟩ := obind_some h
  refine c_get E G l0 7 (v := .ref (ad n13)) (oO_k g12).1 (cc_o8 (oO_k g12).2) rfl (fun w h => .tail _ (iA_16 h)) (by decide) (.tail _ qA_587) rfl (by rw [en13]; rfl) dX8_begin_105 ?_
  clear en13
  refine lv_iload_n hx hb dX8_begin_108 rfl (lv_at hl 2 rfl) ?_
  refine lv_aload_n hx hb dX8_begin_109 rfl (lv_at hl 3 rfl) ?_
  obtain ⟨g14, h⟩ := oif_some h
  refine c_get E G l3 2 (oO_k g14).1 (cc_o7 (oO_k g14).2) rfl (fun w h => .tail _ (iA_20 h)) (by decide) (.tail _ qA_600) rfl rfl dX8_begin_110 ?_
  refine lv_topi (fun v15 ev15 => ?_)
  have h := elet_at ev15 h
  clear ev15
  obtain ⟨g16, h⟩ := oif_some h
  obtain ⟨g17, h⟩ := oif_some h
  refine c_iast E G n13 0 (k := l2.toNatClampNeg) (v := v15) (aA_k g16).1 (cc_a100 (aA_k g16).2.1) rfl (inb_k g17).1 (inb_k g17).2 (aA_k g16).2.2 dX8_begin_113 (fun H locs G => ?_)
  have G := gC_up_i (f := upd (T11.2.2.1 n13) l2.toNatClampNeg v15) (ccv_100 (aA_k g16).2.1) G
  obtain ⟨T18, eT18, h⟩ := elet_some h
  have G : gC cI cJ cZ cMic cSrc cSt cAI cAJ D ad A s.heap H locs T18 := by rw [eT18]; exact G
  clear eT18
  refine lv_aload_n hx hb dX8_begin_114 rfl (lv_at hl 0 rfl) ?_
  obtain ⟨g19, h⟩ := oif_some h
  obtain ⟨n20, en20, h⟩ := obind_some h
  refine c_get E G l0 8 (v := .ref (ad n20)) (oO_k g19).1 (cc_o8 (oO_k g19).2) rfl (fun w h => .tail _ (iA_16 h)) (by decide) (.tail _ qA_588) rfl (by rw [en20]; rfl) dX8_begin_115 ?_
  clear en20
  refine lv_iload_n hx hb dX8_begin_118 rfl (lv_at hl 2 rfl) ?_
  refine lv_aload_n hx hb dX8_begin_119 rfl (lv_at hl 3 rfl) ?_
  obtain ⟨g21, h⟩ := oif_some h
  refine c_get E G l3 3 (oO_k g21).1 (cc_o7 (oO_k g21).2) rfl (fun w h => .tail _ (iA_20 h)) (by decide) (.tail _ qA_601) rfl rfl dX8_begin_120 ?_
  refine lv_topi (fun v22 ev22 => ?_)
  have h := elet_at ev22 h
  clear ev22
  obtain ⟨g23, h⟩ := oif_some h
  obtain ⟨g24, h⟩ := oif_some h
  refine c_iast E G n20 0 (k := l2.toNatClampNeg) (v := v22) (aA_k g23).1 (cc_a100 (aA_k g23).2.1) rfl (inb_k g24).1 (inb_k g24).2 (aA_k g23).2.2 dX8_begin_123 (fun H locs G => ?_)
  have G := gC_up_i (f := upd (T18.2.2.1 n20) l2.toNatClampNeg v22) (ccv_100 (aA_k g23).2.1) G
  obtain ⟨T25, eT25, h⟩ := elet_some h
  have G : gC cI cJ cZ cMic cSrc cSt cAI cAJ D ad A s.heap H locs T25 := by rw [eT25]; exact G
  clear eT25
  refine lv_aload_n hx hb dX8_begin_124 rfl (lv_at hl 0 rfl) ?_
  obtain ⟨g26, h⟩ := oif_some h
  obtain ⟨n27, en27, h⟩ := obind_some h
  refine c_get E G l0 9 (v := .ref (ad n27)) (oO_k g26).1 (cc_o8 (oO_k g26).2) rfl (fun w h => .tail _ (iA_16 h)) (by decide) (.tail _ qA_589) rfl (by rw [en27]; rfl) dX8_begin_125 ?_
  clear en27
  refine lv_iload_n hx hb dX8_begin_128 rfl (lv_at hl 2 rfl) ?_
  refine lv_aload_n hx hb dX8_begin_129 rfl (lv_at hl 3 rfl) ?_
  obtain ⟨g28, h⟩ := oif_some h
  refine c_get E G l3 4 (oO_k g28).1 (cc_o7 (oO_k g28).2) rfl (fun w h => .tail _ (iA_20 h)) (by decide) (.tail _ qA_602) rfl rfl dX8_begin_130 ?_
  refine lv_topi (fun v29 ev29 => ?_)
  have h := elet_at ev29 h
  clear ev29
  obtain ⟨g30, h⟩ := oif_some h
  obtain ⟨g31, h⟩ := oif_some h
  refine c_iast E G n27 0 (k := l2.toNatClampNeg) (v := v29) (aA_k g30).1 (cc_a100 (aA_k g30).2.1) rfl (inb_k g31).1 (inb_k g31).2 (aA_k g30).2.2 dX8_begin_133 (fun H locs G => ?_)
  have G := gC_up_i (f := upd (T25.2.2.1 n27) l2.toNatClampNeg v29) (ccv_100 (aA_k g30).2.1) G
  obtain ⟨T32, eT32, h⟩ := elet_some h
  have G : gC cI cJ cZ cMic cSrc cSt cAI cAJ D ad A s.heap H locs T32 := by rw [eT32]; exact G
  clear eT32
  obtain ⟨v33, ev33, h⟩ := elet_some h
  refine lv_iinc (v := v33) (lv' := [(2, .int v33), (0, .ref (ad l0)), (1, .ref (ad l1)), (3, .ref (ad l3))]) hx hb dX8_begin_134 hl (k := 2) rfl ev33.symm (by decide) rfl (fun ls hl => ?_)
  refine lv_goto (tgt := 63) hx hb dX8_begin_137 (by decide) ?_
  have hl := lv_sub hl [1, 2, 0] rfl
  exact hk63 _ _ _ _ _ _ _ h G hl
def g_X8_begin_b63  : Nat → AT → Nat → Nat → Int32 → Option (AT)
  | 0, _, _, _, _ => none
  | n + 1, T, l0, l1, l2 => if 6 ≤ l2 then (some T) else (oif (oO T l1 6 = true) <| obind (T.2.2.2.2 l1 7) fun n4 => oif (aA T n4 104 = true) <| oif (inb l2 (T.2.1 n4).2 = true) <| obind (T.2.2.2.2 n4 l2.toNatClampNeg) fun n7 => oif (oO T l0 8 = true) <| obind (T.2.2.2.2 l0 5) fun n9 => oif (oO T n7 7 = true) <| elet (T.2.2.1 n7 9) fun v11 => if v11 = 0 then (g_X8_begin_b93 (g_X8_begin_b63 n) T 1 l2 n9 l0 l1 l2 n7) else (g_X8_begin_b93 (g_X8_begin_b63 n) T 0 l2 n9 l0 l1 l2 n7))
set_option maxHeartbeats 4000000 in
set_option maxRecDepth 100000 in
theorem u_X8_begin_b63 {p : Program} {l : Launch} {e : Env} {s : State} {m : MethodId} {args : Array Value} {below : List Frame} {meth : Method} {c : Code} {Q : State → Prop} {D : va_G} {A : Nat → Prop} {cI cJ cZ cMic cSrc cSt cAI cAJ : ClassId} {ad : Nat → Nat} {T1 : AT} (E : cE p c cX8_begin s m args (Cond.code yX8_begin cX8_begin 4 none :: wsA) D RX8 (CT cI cJ cZ cMic cSrc cSt cAI cAJ)) (hA : ∀ q : Nat, s.heap.size ≤ q → A q) (hX : xT A s) (hN : nX s) (hml : c.maxLocals = 4) (hst : l.stackTraces = false) (kr140 : ∀ (H : Heap) (locs : List Loc) (ls : Array Slot), gC cI cJ cZ cMic cSrc cSt cAI cAJ D ad A s.heap H locs T1 → W p l e { frames := 1, cells := 0, slots := 0, locals := 0 } s m args below meth c H locs 0 0 Q (F0 m 140 ls [])) : ∀ n : Nat, ∀ (T : AT) (H : Heap) (locs : List Loc) (ls : Array Slot) (l0 : Nat) (l1 : Nat) (l2 : Int32), g_X8_begin_b63 n T l0 l1 l2 = some T1 → gC cI cJ cZ cMic cSrc cSt cAI cAJ D ad A s.heap H locs T → lv_has ls 4 [(0, .ref (ad l0)), (1, .ref (ad l1)), (2, .int l2)] → W p l e { frames := 1, cells := 0, slots := 0, locals := 0 } s m args below meth c H locs 0 0 Q (F0 m 63 ls []) := by
  have hx := E.1
  have hb := E.2.1
  have hts := E.2.2.1
  have hown := E.2.2.2.1
  have hK := E.2.2.2.2
  intro n
  induction n with
  | zero =>
    intro T H locs ls l0 l1 l2 h
    have h : (none : Option (AT)) = some T1 := h
    cases h
  | succ n ih =>
    intro T H locs ls l0 l1 l2 h G hl
    unfold g_X8_begin_b63 at h
    refine lv_iload_n hx hb dX8_begin_63 rfl (lv_at hl 2 rfl) ?_
    refine lv_bipush (v := 6) hx hb dX8_begin_64 (by decide) ?_
    refine lv_icmp_ge (tgt := 140) hx hb dX8_begin_66 (by decide) (fun c2 => ?_) (fun c2 => ?_)
    · have h := oif_pos c2 h
      rw [osome1 h] at G
      exact kr140 _ _ _ G
    · have h := oif_neg c2 h
      refine lv_aload_n hx hb dX8_begin_69 rfl (lv_at hl 1 rfl) ?_
      obtain ⟨g3, h⟩ := oif_some h
      obtain ⟨n4, en4, h⟩ := obind_some h
      refine c_get E G l1 7 (v := .ref (ad n4)) (oO_k g3).1 (cc_o6 (oO_k g3).2) rfl (fun w h => .tail _ (iA_14 h)) (by decide) (.tail _ qA_597) rfl (by rw [en4]; rfl) dX8_begin_70 ?_
      clear en4
      refine lv_iload_n hx hb dX8_begin_73 rfl (lv_at hl 2 rfl) ?_
      obtain ⟨g5, h⟩ := oif_some h
      obtain ⟨g6, h⟩ := oif_some h
      obtain ⟨n7, en7, h⟩ := obind_some h
      refine c_aldq E G n4 4 (k := l2.toNatClampNeg) (v := .ref (ad n7)) (aA_k g5).1 (cc_a104 (aA_k g5).2.1) rfl (inb_k g6).1 (inb_k g6).2 (aA_k g5).2.2 (by show va_rf ((T.2.2.2.2 n4 l2.toNatClampNeg).map ad) = _; rw [en7]; rfl) dX8_begin_74 ?_
      clear en7
      refine lv_astore_n (lv' := [(3, .ref (ad n7)), (0, .ref (ad l0)), (1, .ref (ad l1)), (2, .int l2)]) hx hb dX8_begin_75 rfl hl (by decide) rfl (fun ls hl => ?_)
      refine lv_aload_n hx hb dX8_begin_76 rfl (lv_at hl 1 rfl) ?_
      obtain ⟨g8, h⟩ := oif_some h
      obtain ⟨n9, en9, h⟩ := obind_some h
      refine c_get E G l0 5 (v := .ref (ad n9)) (oO_k g8).1 (cc_o8 (oO_k g8).2) rfl (fun w h => .tail _ (iA_16 h)) (by decide) (.tail _ qA_585) rfl (by rw [en9]; rfl) dX8_begin_77 ?_
      clear en9
      refine lv_iload_n hx hb dX8_begin_80 rfl (lv_at hl 3 rfl) ?_
      refine lv_aload_n hx hb dX8_begin_81 rfl (lv_at hl 0 rfl) ?_
      obtain ⟨g10, h⟩ := oif_some h
      refine c_get E G n7 9 (oO_k g10).1 (cc_o7 (oO_k g10).2) rfl (fun w h => .tail _ (iA_20 h)) (by decide) (.tail _ qA_598) rfl rfl dX8_begin_82 ?_
      refine lv_topi (fun v11 ev11 => ?_)
      have h := elet_at ev11 h
      clear ev11
      refine lv_if_ne (tgt := 92) hx hb dX8_begin_85 (by decide) (fun c12 => ?_) (fun c12 => ?_)
      · have h := oif_neg c12 h
        refine lv_iconst (v := 0) hx hb dX8_begin_92 (by decide) ?_
        have hl := lv_sub hl [1, 2, 3, 0] rfl
        exact u_X8_begin_b93 E hA hX hN hml hst kr140 ih _ _ _ _ _ _ _ _ _ _ _ h G hl
      · have h := oif_pos c12 h
        refine lv_iconst (v := 1) hx hb dX8_begin_88 (by decide) ?_
        refine lv_goto (tgt := 93) hx hb dX8_begin_89 (by decide) ?_
        have hl := lv_sub hl [1, 2, 3, 0] rfl
        exact u_X8_begin_b93 E hA hX hN hml hst kr140 ih _ _ _ _ _ _ _ _ _ _ _ h G hl
def g_X8_begin_b54 (k18 : AT → Nat → Nat → Int32 → Option (AT)) (T : AT) (s0 : Int32) (s1 : Int32) (s2 : Nat) (l0 : Nat) (l1 : Nat) (l2 : Int32) : Option (AT) := oif (aA T s2 100 = true) <| oif (inb s1 (T.2.1 s2).2 = true) <| elet (uI T s2 s1.toNatClampNeg s0) fun T4 => elet (l2 + Int32.ofInt (1)) fun v5 => k18 T4 l0 l1 v5
set_option maxHeartbeats 4000000 in
set_option maxRecDepth 100000 in
theorem u_X8_begin_b54 {p : Program} {l : Launch} {e : Env} {s : State} {m : MethodId} {args : Array Value} {below : List Frame} {meth : Method} {c : Code} {Q : State → Prop} {D : va_G} {A : Nat → Prop} {cI cJ cZ cMic cSrc cSt cAI cAJ : ClassId} {ad : Nat → Nat} {T1 : AT} (E : cE p c cX8_begin s m args (Cond.code yX8_begin cX8_begin 4 none :: wsA) D RX8 (CT cI cJ cZ cMic cSrc cSt cAI cAJ)) (hA : ∀ q : Nat, s.heap.size ≤ q → A q) (hX : xT A s) (hN : nX s) (hml : c.maxLocals = 4) (hst : l.stackTraces = false) (kr140 : ∀ (H : Heap) (locs : List Loc) (ls : Array Slot), gC cI cJ cZ cMic cSrc cSt cAI cAJ D ad A s.heap H locs T1 → W p l e { frames := 1, cells := 0, slots := 0, locals := 0 } s m args below meth c H locs 0 0 Q (F0 m 140 ls [])) {k18 : AT → Nat → Nat → Int32 → Option (AT)} (hk18 : ∀ (T : AT) (H : Heap) (locs : List Loc) (ls : Array Slot) (l0 : Nat) (l1 : Nat) (l2 : Int32), k18 T l0 l1 l2 = some T1 → gC cI cJ cZ cMic cSrc cSt cAI cAJ D ad A s.heap H locs T → lv_has ls 4 [(0, .ref (ad l0)), (1, .ref (ad l1)), (2, .int l2)] → W p l e { frames := 1, cells := 0, slots := 0, locals := 0 } s m args below meth c H locs 0 0 Q (F0 m 18 ls [])) : ∀ (T : AT) (H : Heap) (locs : List Loc) (ls : Array Slot) (s0 : Int32) (s1 : Int32) (s2 : Nat) (l0 : Nat) (l1 : Nat) (l2 : Int32), g_X8_begin_b54 k18 T s0 s1 s2 l0 l1 l2 = some T1 → gC cI cJ cZ cMic cSrc cSt cAI cAJ D ad A s.heap H locs T → lv_has ls 4 [(0, .ref (ad l0)), (1, .ref (ad l1)), (2, .int l2)] → W p l e { frames := 1, cells := 0, slots := 0, locals := 0 } s m args below meth c H locs 0 0 Q (F0 m 54 ls [.int s0, .int s1, .ref (ad s2)]) := by
  have hx := E.1
  have hb := E.2.1
  have hts := E.2.2.1
  have hown := E.2.2.2.1
  have hK := E.2.2.2.2
  intro T H locs ls s0 s1 s2 l0 l1 l2 h G hl
  unfold g_X8_begin_b54 at h
  obtain ⟨g2, h⟩ := oif_some h
  obtain ⟨g3, h⟩ := oif_some h
  refine c_iast E G s2 0 (k := s1.toNatClampNeg) (v := s0) (aA_k g2).1 (cc_a100 (aA_k g2).2.1) rfl (inb_k g3).1 (inb_k g3).2 (aA_k g2).2.2 dX8_begin_54 (fun H locs G => ?_)
  have G := gC_up_i (f := upd (T.2.2.1 s2) s1.toNatClampNeg s0) (ccv_100 (aA_k g2).2.1) G
  obtain ⟨T4, eT4, h⟩ := elet_some h
  have G : gC cI cJ cZ cMic cSrc cSt cAI cAJ D ad A s.heap H locs T4 := by rw [eT4]; exact G
  clear eT4
  obtain ⟨v5, ev5, h⟩ := elet_some h
  refine lv_iinc (v := v5) (lv' := [(2, .int v5), (0, .ref (ad l0)), (1, .ref (ad l1))]) hx hb dX8_begin_55 hl (k := 2) rfl ev5.symm (by decide) rfl (fun ls hl => ?_)
  refine lv_goto (tgt := 18) hx hb dX8_begin_58 (by decide) ?_
  have hl := lv_sub hl [1, 2, 0] rfl
  exact hk18 _ _ _ _ _ _ _ h G hl
def g_X8_begin_b18  : Nat → AT → Nat → Nat → Int32 → Option (AT)
  | 0, _, _, _, _ => none
  | n + 1, T, l0, l1, l2 => if 12 ≤ l2 then (g_X8_begin_b63 16384 T l0 l1 0) else (oif (oO T l0 8 = true) <| obind (T.2.2.2.2 l0 3) fun n4 => oif (aA T n4 102 = true) <| oif (inb l2 (T.2.1 n4).2 = true) <| elet (uI T n4 l2.toNatClampNeg 0) fun T7 => oif (oO T7 l0 8 = true) <| obind (T7.2.2.2.2 l0 4) fun n9 => oif (oO T7 l1 6 = true) <| elet (T7.2.2.1 l1 16) fun v11 => if v11 ≤ l2 then (g_X8_begin_b54 (g_X8_begin_b18 n) T7 1 l2 n9 l0 l1 l2) else (oif (oO T7 l1 6 = true) <| obind (T7.2.2.2.2 l1 15) fun n14 => oif (aA T7 n14 100 = true) <| oif (inb l2 (T7.2.1 n14).2 = true) <| elet (T7.2.2.1 n14 l2.toNatClampNeg) fun v17 => g_X8_begin_b54 (g_X8_begin_b18 n) T7 v17 l2 n9 l0 l1 l2))
set_option maxHeartbeats 4000000 in
set_option maxRecDepth 100000 in
theorem u_X8_begin_b18 {p : Program} {l : Launch} {e : Env} {s : State} {m : MethodId} {args : Array Value} {below : List Frame} {meth : Method} {c : Code} {Q : State → Prop} {D : va_G} {A : Nat → Prop} {cI cJ cZ cMic cSrc cSt cAI cAJ : ClassId} {ad : Nat → Nat} {T1 : AT} (E : cE p c cX8_begin s m args (Cond.code yX8_begin cX8_begin 4 none :: wsA) D RX8 (CT cI cJ cZ cMic cSrc cSt cAI cAJ)) (hA : ∀ q : Nat, s.heap.size ≤ q → A q) (hX : xT A s) (hN : nX s) (hml : c.maxLocals = 4) (hst : l.stackTraces = false) (kr140 : ∀ (H : Heap) (locs : List Loc) (ls : Array Slot), gC cI cJ cZ cMic cSrc cSt cAI cAJ D ad A s.heap H locs T1 → W p l e { frames := 1, cells := 0, slots := 0, locals := 0 } s m args below meth c H locs 0 0 Q (F0 m 140 ls [])) : ∀ n : Nat, ∀ (T : AT) (H : Heap) (locs : List Loc) (ls : Array Slot) (l0 : Nat) (l1 : Nat) (l2 : Int32), g_X8_begin_b18 n T l0 l1 l2 = some T1 → gC cI cJ cZ cMic cSrc cSt cAI cAJ D ad A s.heap H locs T → lv_has ls 4 [(0, .ref (ad l0)), (1, .ref (ad l1)), (2, .int l2)] → W p l e { frames := 1, cells := 0, slots := 0, locals := 0 } s m args below meth c H locs 0 0 Q (F0 m 18 ls []) := by
  have hx := E.1
  have hb := E.2.1
  have hts := E.2.2.1
  have hown := E.2.2.2.1
  have hK := E.2.2.2.2
  intro n
  induction n with
  | zero =>
    intro T H locs ls l0 l1 l2 h
    have h : (none : Option (AT)) = some T1 := h
    cases h
  | succ n ih =>
    intro T H locs ls l0 l1 l2 h G hl
    unfold g_X8_begin_b18 at h
    refine lv_iload_n hx hb dX8_begin_18 rfl (lv_at hl 2 rfl) ?_
    refine lv_bipush (v := 12) hx hb dX8_begin_19 (by decide) ?_
    refine lv_icmp_ge (tgt := 61) hx hb dX8_begin_21 (by decide) (fun c2 => ?_) (fun c2 => ?_)
    · have h := oif_pos c2 h
      refine lv_iconst (v := 0) hx hb dX8_begin_61 (by decide) ?_
      refine lv_istore_n (lv' := [(2, .int 0), (0, .ref (ad l0)), (1, .ref (ad l1))]) hx hb dX8_begin_62 rfl hl (by decide) rfl (fun ls hl => ?_)
      have hl := lv_sub hl [1, 2, 0] rfl
      exact u_X8_begin_b63 E hA hX hN hml hst kr140 _ _ _ _ _ _ _ _ h G hl
    · have h := oif_neg c2 h
      refine lv_aload_n hx hb dX8_begin_24 rfl (lv_at hl 0 rfl) ?_
      obtain ⟨g3, h⟩ := oif_some h
      obtain ⟨n4, en4, h⟩ := obind_some h
      refine c_get E G l0 3 (v := .ref (ad n4)) (oO_k g3).1 (cc_o8 (oO_k g3).2) rfl (fun w h => .tail _ (iA_16 h)) (by decide) (.tail _ qA_64) rfl (by rw [en4]; rfl) dX8_begin_25 ?_
      clear en4
      refine lv_iload_n hx hb dX8_begin_28 rfl (lv_at hl 2 rfl) ?_
      refine lv_iconst (v := 0) hx hb dX8_begin_29 (by decide) ?_
      obtain ⟨g5, h⟩ := oif_some h
      obtain ⟨g6, h⟩ := oif_some h
      refine c_zast E G n4 2 (k := l2.toNatClampNeg) (v := 0) (aA_k g5).1 (cc_a102 (aA_k g5).2.1) rfl (inb_k g6).1 (inb_k g6).2 (aA_k g5).2.2 rfl dX8_begin_30 (fun H locs G => ?_)
      have G := gC_up_i (f := upd (T.2.2.1 n4) l2.toNatClampNeg 0) (ccv_102 (aA_k g5).2.1) G
      obtain ⟨T7, eT7, h⟩ := elet_some h
      have G : gC cI cJ cZ cMic cSrc cSt cAI cAJ D ad A s.heap H locs T7 := by rw [eT7]; exact G
      clear eT7
      refine lv_aload_n hx hb dX8_begin_31 rfl (lv_at hl 0 rfl) ?_
      obtain ⟨g8, h⟩ := oif_some h
      obtain ⟨n9, en9, h⟩ := obind_some h
      refine c_get E G l0 4 (v := .ref (ad n9)) (oO_k g8).1 (cc_o8 (oO_k g8).2) rfl (fun w h => .tail _ (iA_16 h)) (by decide) (.tail _ qA_86) rfl (by rw [en9]; rfl) dX8_begin_32 ?_
      clear en9
      refine lv_iload_n hx hb dX8_begin_35 rfl (lv_at hl 2 rfl) ?_
      refine lv_iload_n hx hb dX8_begin_36 rfl (lv_at hl 2 rfl) ?_
      refine lv_aload_n hx hb dX8_begin_37 rfl (lv_at hl 1 rfl) ?_
      obtain ⟨g10, h⟩ := oif_some h
      refine c_get E G l1 16 (oO_k g10).1 (cc_o6 (oO_k g10).2) rfl (fun w h => .tail _ (iA_14 h)) (by decide) (.tail _ qA_595) rfl rfl dX8_begin_38 ?_
      refine lv_topi (fun v11 ev11 => ?_)
      have h := elet_at ev11 h
      clear ev11
      refine lv_icmp_ge (tgt := 53) hx hb dX8_begin_41 (by decide) (fun c12 => ?_) (fun c12 => ?_)
      · have h := oif_pos c12 h
        refine lv_iconst (v := 1) hx hb dX8_begin_53 (by decide) ?_
        have hl := lv_sub hl [0, 1, 2] rfl
        exact u_X8_begin_b54 E hA hX hN hml hst kr140 ih _ _ _ _ _ _ _ _ _ _ h G hl
      · have h := oif_neg c12 h
        refine lv_aload_n hx hb dX8_begin_44 rfl (lv_at hl 1 rfl) ?_
        obtain ⟨g13, h⟩ := oif_some h
        obtain ⟨n14, en14, h⟩ := obind_some h
        refine c_get E G l1 15 (v := .ref (ad n14)) (oO_k g13).1 (cc_o6 (oO_k g13).2) rfl (fun w h => .tail _ (iA_14 h)) (by decide) (.tail _ qA_596) rfl (by rw [en14]; rfl) dX8_begin_45 ?_
        clear en14
        refine lv_iload_n hx hb dX8_begin_48 rfl (lv_at hl 2 rfl) ?_
        obtain ⟨g15, h⟩ := oif_some h
        obtain ⟨g16, h⟩ := oif_some h
        refine c_iald E G n14 0 (k := l2.toNatClampNeg) (aA_k g15).1 (cc_a100 (aA_k g15).2.1) rfl (inb_k g16).1 (inb_k g16).2 (aA_k g15).2.2 dX8_begin_49 ?_
        refine lv_topi (fun v17 ev17 => ?_)
        have h := elet_at ev17 h
        clear ev17
        refine lv_goto (tgt := 54) hx hb dX8_begin_50 (by decide) ?_
        have hl := lv_sub hl [0, 1, 2] rfl
        exact u_X8_begin_b54 E hA hX hN hml hst kr140 ih _ _ _ _ _ _ _ _ _ _ h G hl
def g_X8_begin (T : AT) (o : Nat) (a0 : Nat) : Option (AT) := oif (oO T a0 6 = true) <| elet (T.2.2.1 a0 5) fun v3 => oif (oO T o 8 = true) <| elet (uI T o 0 v3) fun T5 => oif (oO T5 a0 6 = true) <| elet (T5.2.2.1 a0 2) fun v7 => oif (oO T5 o 8 = true) <| elet (uI T5 o 1 v7) fun T9 => g_X8_begin_b18 16384 T9 o a0 0
set_option maxHeartbeats 4000000 in
set_option maxRecDepth 100000 in
theorem u_X8_begin (l : Launch) (hst : l.stackTraces = false) (D : va_G) (cI cJ cZ cMic cSrc cSt cAI cAJ : ClassId) (ad : Nat → Nat) (T : AT) (o : Nat) (a0 : Nat) {T1 : AT} (h : g_X8_begin T o a0 = some T1) : kCv l yX8_begin (Cond.code yX8_begin cX8_begin 4 none :: wsA) 1 0 cI cJ cZ cMic cSrc cSt cAI cAJ D ad T [.ref (ad o), .ref (ad a0)] (fun T9 => T9 = T1) := by
  intro sz
  refine Met.ofW (cc := cX8_begin) (maxL := 4) (ret := none) (by decide) rfl ?_
  intro p e s m args below meth c s₁ B hml hv
  obtain ⟨rfl, hsz, hP, hK, hD0, hX, hN⟩ := hv
  have hx := B.exec
  have hb := B.bytes
  have hr := B.returns
  have hts := atoms_spec (ws := (Cond.code yX8_begin cX8_begin 4 none :: wsA)) B.pre
  have hown : s.vm.findClass RX8 = some m.cls := findClass_of_methodNamed B.named
  have hlocks := B.notSynchronized
  subst hsz
  have hD := hD0.self (sz := s.heap.size)
  generalize hAe : va_A (cW ad T.1 (cc cI cJ cZ cMic cSrc cSt cAI cAJ ad T)) s.heap.size = A at hD hX ⊢
  have hA : ∀ q : Nat, s.heap.size ≤ q → A q := fun q h => by rw [← hAe]; exact Or.inr h
  have G : gC cI cJ cZ cMic cSrc cSt cAI cAJ D ad A s.heap s.heap [] T := ⟨hP, hD, va_S.rf⟩
  have E : cE p c cX8_begin s m ([.ref (ad o), .ref (ad a0)] : List Value).toArray (Cond.code yX8_begin cX8_begin 4 none :: wsA) D RX8 (CT cI cJ cZ cMic cSrc cSt cAI cAJ) := ⟨hx, hb, hts, hown, hK⟩
  have hl := lv_entry ([.ref (ad o), .ref (ad a0)]) (n := 4) (Nat.le_of_ble_eq_true rfl)
  rw [lg_entry_eq]
  generalize (lg_sl ([.ref (ad o), .ref (ad a0)]) ++ List.replicate (4 - (lg_sl ([.ref (ad o), .ref (ad a0)])).length) Slot.unset).toArray = ls at hl ⊢
  have hl : lv_has ls 4 [(0, .ref (ad o)), (1, .ref (ad a0))] := hl
  unfold g_X8_begin at h
  refine lv_aload_n hx hb dX8_begin_0 rfl (lv_at hl 0 rfl) ?_
  refine lv_aload_n hx hb dX8_begin_1 rfl (lv_at hl 1 rfl) ?_
  obtain ⟨g2, h⟩ := oif_some h
  refine c_get E G a0 5 (oO_k g2).1 (cc_o6 (oO_k g2).2) rfl (fun w h => .tail _ (iA_14 h)) (by decide) (.tail _ qA_593) rfl rfl dX8_begin_2 ?_
  refine lv_topi (fun v3 ev3 => ?_)
  have h := elet_at ev3 h
  clear ev3
  obtain ⟨g4, h⟩ := oif_some h
  refine c_put E G o 0 (v := .int v3) (oO_k g4).1 (cc_o8 (oO_k g4).2) rfl (fun w h => .tail _ (iA_16 h)) tyX8 tyX8_ok nmX8 (by decide) (.tail _ qA_63) ⟨rfl, rfl, rfl⟩ rfl rfl (Nat.le_of_ble_eq_true rfl) dX8_begin_5 (fun H locs G => ?_)
  have G := gC_up_i (f := upd (T.2.2.1 o) 0 v3) (by rw [(oO_k g4).2]; rfl) G
  obtain ⟨T5, eT5, h⟩ := elet_some h
  have G : gC cI cJ cZ cMic cSrc cSt cAI cAJ D ad A s.heap H locs T5 := by rw [eT5]; exact G
  clear eT5
  refine lv_aload_n hx hb dX8_begin_8 rfl (lv_at hl 0 rfl) ?_
  refine lv_aload_n hx hb dX8_begin_9 rfl (lv_at hl 1 rfl) ?_
  obtain ⟨g6, h⟩ := oif_some h
  refine c_get E G a0 2 (oO_k g6).1 (cc_o6 (oO_k g6).2) rfl (fun w h => .tail _ (iA_14 h)) (by decide) (.tail _ qA_594) rfl rfl dX8_begin_10 ?_
  refine lv_topi (fun v7 ev7 => ?_)
  have h := elet_at ev7 h
  clear ev7
  obtain ⟨g8, h⟩ := oif_some h
  refine c_put E G o 1 (v := .int v7) (oO_k g8).1 (cc_o8 (oO_k g8).2) rfl (fun w h => .tail _ (iA_16 h)) tyX8 tyX8_ok nmX8 (by decide) (.tail _ qA_57) ⟨rfl, rfl, rfl⟩ rfl rfl (Nat.le_of_ble_eq_true rfl) dX8_begin_13 (fun H locs G => ?_)
  have G := gC_up_i (f := upd (T5.2.2.1 o) 1 v7) (by rw [(oO_k g8).2]; rfl) G
  obtain ⟨T9, eT9, h⟩ := elet_some h
  have G : gC cI cJ cZ cMic cSrc cSt cAI cAJ D ad A s.heap H locs T9 := by rw [eT9]; exact G
  clear eT9
  refine lv_iconst (v := 0) hx hb dX8_begin_16 (by decide) ?_
  refine lv_istore_n (lv' := [(2, .int 0), (0, .ref (ad o)), (1, .ref (ad a0))]) hx hb dX8_begin_17 rfl hl (by decide) rfl (fun ls hl => ?_)
  have hl := lv_sub hl [1, 2, 0] rfl
  exact u_X8_begin_b18 E hA hX hN hml hst (fun H locs ls G => W.vret hx hb hr (fun t ht hW => ⟨⟨T1, rfl, rfl, ⟨by rw [ht]; exact G.1, va_K.moved hW.alike hK, G.2.1⟩⟩, G.2.2.F ht⟩) G.2.2.2.2 dX8_begin_140) _ _ _ _ _ _ _ _ h G hl
set_option maxHeartbeats 4000000 in
set_option maxRecDepth 100000 in
theorem s_X8_begin_b93 {T1 : AT} {k63 : AT → Nat → Nat → Int32 → Option (AT)} (hk63 : ∀ (T : AT) (l0 : Nat) (l1 : Nat) (l2 : Int32), k63 T l0 l1 l2 = some T1 → SP T T1) : ∀ (T : AT) (s0 : Int32) (s1 : Int32) (s2 : Nat) (l0 : Nat) (l1 : Nat) (l2 : Int32) (l3 : Nat), g_X8_begin_b93 k63 T s0 s1 s2 l0 l1 l2 l3 = some T1 → SP T T1 := by
  intro T s0 s1 s2 l0 l1 l2 l3 h
  have p0 := SP.rf T
  unfold g_X8_begin_b93 at h
  obtain ⟨g2, h⟩ := oif_some h
  obtain ⟨g3, h⟩ := oif_some h
  obtain ⟨gz, h⟩ := oif_some h
  obtain ⟨T4, eT4, h⟩ := elet_some h
  have p1 : SP T T4 := SP.tr p0 (by rw [eT4]; exact sp_uI)
  obtain ⟨g5, h⟩ := oif_some h
  obtain ⟨n6, en6, h⟩ := obind_some h
  obtain ⟨g7, h⟩ := oif_some h
  obtain ⟨v8, -, h⟩ := elet_some h
  obtain ⟨g9, h⟩ := oif_some h
  obtain ⟨g10, h⟩ := oif_some h
  obtain ⟨T11, eT11, h⟩ := elet_some h
  have p2 : SP T T11 := SP.tr p1 (by rw [eT11]; exact sp_uI)
  obtain ⟨g12, h⟩ := oif_some h
  obtain ⟨n13, en13, h⟩ := obind_some h
  obtain ⟨g14, h⟩ := oif_some h
  obtain ⟨v15, -, h⟩ := elet_some h
  obtain ⟨g16, h⟩ := oif_some h
  obtain ⟨g17, h⟩ := oif_some h
  obtain ⟨T18, eT18, h⟩ := elet_some h
  have p3 : SP T T18 := SP.tr p2 (by rw [eT18]; exact sp_uI)
  obtain ⟨g19, h⟩ := oif_some h
  obtain ⟨n20, en20, h⟩ := obind_some h
  obtain ⟨g21, h⟩ := oif_some h
  obtain ⟨v22, -, h⟩ := elet_some h
  obtain ⟨g23, h⟩ := oif_some h
  obtain ⟨g24, h⟩ := oif_some h
  obtain ⟨T25, eT25, h⟩ := elet_some h
  have p4 : SP T T25 := SP.tr p3 (by rw [eT25]; exact sp_uI)
  obtain ⟨g26, h⟩ := oif_some h
  obtain ⟨n27, en27, h⟩ := obind_some h
  obtain ⟨g28, h⟩ := oif_some h
  obtain ⟨v29, -, h⟩ := elet_some h
  obtain ⟨g30, h⟩ := oif_some h
  obtain ⟨g31, h⟩ := oif_some h
  obtain ⟨T32, eT32, h⟩ := elet_some h
  have p5 : SP T T32 := SP.tr p4 (by rw [eT32]; exact sp_uI)
  obtain ⟨v33, ev33, h⟩ := elet_some h
  exact SP.tr p5 (hk63 _ _ _ _ h)
set_option maxHeartbeats 4000000 in
set_option maxRecDepth 100000 in
theorem s_X8_begin_b63 {T1 : AT} : ∀ n : Nat, ∀ (T : AT) (l0 : Nat) (l1 : Nat) (l2 : Int32), g_X8_begin_b63 n T l0 l1 l2 = some T1 → SP T T1 := by
  intro n
  induction n with
  | zero =>
    intro T l0 l1 l2 h
    have h : (none : Option (AT)) = some T1 := h
    cases h
  | succ n ih =>
    intro T l0 l1 l2 h
    have p0 := SP.rf T
    unfold g_X8_begin_b63 at h
    rcases oif_or h with ⟨c2, h⟩ | ⟨c2, h⟩
    · have h := h
      rw [← osome1 h]
      exact p0
    · have h := h
      obtain ⟨g3, h⟩ := oif_some h
      obtain ⟨n4, en4, h⟩ := obind_some h
      obtain ⟨g5, h⟩ := oif_some h
      obtain ⟨g6, h⟩ := oif_some h
      obtain ⟨n7, en7, h⟩ := obind_some h
      obtain ⟨g8, h⟩ := oif_some h
      obtain ⟨n9, en9, h⟩ := obind_some h
      obtain ⟨g10, h⟩ := oif_some h
      obtain ⟨v11, -, h⟩ := elet_some h
      rcases oif_or h with ⟨c12, h⟩ | ⟨c12, h⟩
      · have h := h
        exact SP.tr p0 (s_X8_begin_b93 ih _ _ _ _ _ _ _ _ h)
      · have h := h
        exact SP.tr p0 (s_X8_begin_b93 ih _ _ _ _ _ _ _ _ h)
set_option maxHeartbeats 4000000 in
set_option maxRecDepth 100000 in
theorem s_X8_begin_b54 {T1 : AT} {k18 : AT → Nat → Nat → Int32 → Option (AT)} (hk18 : ∀ (T : AT) (l0 : Nat) (l1 : Nat) (l2 : Int32), k18 T l0 l1 l2 = some T1 → SP T T1) : ∀ (T : AT) (s0 : Int32) (s1 : Int32) (s2 : Nat) (l0 : Nat) (l1 : Nat) (l2 : Int32), g_X8_begin_b54 k18 T s0 s1 s2 l0 l1 l2 = some T1 → SP T T1 := by
  intro T s0 s1 s2 l0 l1 l2 h
  have p0 := SP.rf T
  unfold g_X8_begin_b54 at h
  obtain ⟨g2, h⟩ := oif_some h
  obtain ⟨g3, h⟩ := oif_some h
  obtain ⟨T4, eT4, h⟩ := elet_some h
  have p1 : SP T T4 := SP.tr p0 (by rw [eT4]; exact sp_uI)
  obtain ⟨v5, ev5, h⟩ := elet_some h
  exact SP.tr p1 (hk18 _ _ _ _ h)
set_option maxHeartbeats 4000000 in
set_option maxRecDepth 100000 in
theorem s_X8_begin_b18 {T1 : AT} : ∀ n : Nat, ∀ (T : AT) (l0 : Nat) (l1 : Nat) (l2 : Int32), g_X8_begin_b18 n T l0 l1 l2 = some T1 → SP T T1 := by
  intro n
  induction n with
  | zero =>
    intro T l0 l1 l2 h
    have h : (none : Option (AT)) = some T1 := h
    cases h
  | succ n ih =>
    intro T l0 l1 l2 h
    have p0 := SP.rf T
    unfold g_X8_begin_b18 at h
    rcases oif_or h with ⟨c2, h⟩ | ⟨c2, h⟩
    · have h := h
      exact SP.tr p0 (s_X8_begin_b63 _ _ _ _ _ h)
    · have h := h
      obtain ⟨g3, h⟩ := oif_some h
      obtain ⟨n4, en4, h⟩ := obind_some h
      obtain ⟨g5, h⟩ := oif_some h
      obtain ⟨g6, h⟩ := oif_some h
      obtain ⟨T7, eT7, h⟩ := elet_some h
      have p1 : SP T T7 := SP.tr p0 (by rw [eT7]; exact sp_uI)
      obtain ⟨g8, h⟩ := oif_some h
      obtain ⟨n9, en9, h⟩ := obind_some h
      obtain ⟨g10, h⟩ := oif_some h
      obtain ⟨v11, -, h⟩ := elet_some h
      rcases oif_or h with ⟨c12, h⟩ | ⟨c12, h⟩
      · have h := h
        exact SP.tr p1 (s_X8_begin_b54 ih _ _ _ _ _ _ _ h)
      · have h := h
        obtain ⟨g13, h⟩ := oif_some h
        obtain ⟨n14, en14, h⟩ := obind_some h
        obtain ⟨g15, h⟩ := oif_some h
        obtain ⟨g16, h⟩ := oif_some h
        obtain ⟨v17, -, h⟩ := elet_some h
        exact SP.tr p1 (s_X8_begin_b54 ih _ _ _ _ _ _ _ h)
set_option maxHeartbeats 4000000 in
set_option maxRecDepth 100000 in
theorem s_X8_begin {T : AT} {o : Nat} {a0 : Nat} {T1 : AT} (h : g_X8_begin T o a0 = some T1) : SP T T1 := by
  have p0 := SP.rf T
  unfold g_X8_begin at h
  obtain ⟨g2, h⟩ := oif_some h
  obtain ⟨v3, -, h⟩ := elet_some h
  obtain ⟨g4, h⟩ := oif_some h
  obtain ⟨T5, eT5, h⟩ := elet_some h
  have p1 : SP T T5 := SP.tr p0 (by rw [eT5]; exact sp_uI)
  obtain ⟨g6, h⟩ := oif_some h
  obtain ⟨v7, -, h⟩ := elet_some h
  obtain ⟨g8, h⟩ := oif_some h
  obtain ⟨T9, eT9, h⟩ := elet_some h
  have p2 : SP T T9 := SP.tr p1 (by rw [eT9]; exact sp_uI)
  exact SP.tr p2 (s_X8_begin_b18 _ _ _ _ _ h)
def g_X10_copyFrom_b18  : Nat → AT → Nat → Nat → Int32 → Option (AT)
  | 0, _, _, _, _ => none
  | n + 1, T, l0, l1, l2 => oif (oO T l0 10 = true) <| elet (T.2.2.1 l0 2) fun v3 => if v3 ≤ l2 then (some T) else (oif (oO T l1 10 = true) <| obind (T.2.2.2.2 l1 1) fun n6 => oif (aA T n6 107 = true) <| oif (inb l2 (T.2.1 n6).2 = true) <| obind (T.2.2.2.2 n6 l2.toNatClampNeg) fun n9 => oif (oO T l0 10 = true) <| obind (T.2.2.2.2 l0 1) fun n11 => oif (aA T n11 107 = true) <| oif (inb l2 (T.2.1 n11).2 = true) <| obind (T.2.2.2.2 n11 l2.toNatClampNeg) fun n14 => oif (oO T l0 10 = true) <| elet (T.2.2.1 l0 0) fun v16 => oif (oO T l1 10 = true) <| elet (T.2.2.1 l1 0) fun v18 => elet (if v18 < v16 then v18 else v16) fun v19 => oif (aA T n9 101 = true) <| oif (aA T n14 101 = true) <| oif (0 ≤ v19 ∧ v19.toNatClampNeg ≤ (T.2.1 n9).2 ∧ v19.toNatClampNeg ≤ (T.2.1 n14).2) <| elet (uC T n9 n14 v19.toNatClampNeg) fun T23 => elet (l2 + Int32.ofInt (1)) fun v24 => g_X10_copyFrom_b18 n T23 l0 l1 v24)
def g_X10_copyFrom_b8  (T : AT) (l0 : Nat) (l1 : Nat) : Option (AT) := oif (oO T l1 10 = true) <| elet (T.2.2.1 l1 2) fun v3 => oif (oO T l0 10 = true) <| elet (uI T l0 2 v3) fun T5 => g_X10_copyFrom_b18 16384 T5 l0 l1 0
def g_X10_copyFrom (T : AT) (o : Nat) (a0 : Nat) : Option (AT) := oif (oO T a0 10 = true) <| elet (T.2.2.1 a0 2) fun v3 => oif (oO T o 10 = true) <| obind (g_X10_widenTo T o v3) fun T5 => g_X10_copyFrom_b8 T5 o a0
set_option maxHeartbeats 4000000 in
set_option maxRecDepth 100000 in
theorem s_X10_copyFrom_b18 {T1 : AT} : ∀ n : Nat, ∀ (T : AT) (l0 : Nat) (l1 : Nat) (l2 : Int32), g_X10_copyFrom_b18 n T l0 l1 l2 = some T1 → GL T T1 := by
  intro n
  induction n with
  | zero =>
    intro T l0 l1 l2 h
    have h : (none : Option (AT)) = some T1 := h
    cases h
  | succ n ih =>
    intro T l0 l1 l2 h
    have p0 := GL.rf T
    unfold g_X10_copyFrom_b18 at h
    obtain ⟨g2, h⟩ := oif_some h
    obtain ⟨v3, -, h⟩ := elet_some h
    rcases oif_or h with ⟨c4, h⟩ | ⟨c4, h⟩
    · have h := h
      rw [← osome1 h]
      exact p0
    · have h := h
      obtain ⟨g5, h⟩ := oif_some h
      obtain ⟨n6, en6, h⟩ := obind_some h
      obtain ⟨g7, h⟩ := oif_some h
      obtain ⟨g8, h⟩ := oif_some h
      obtain ⟨n9, en9, h⟩ := obind_some h
      obtain ⟨g10, h⟩ := oif_some h
      obtain ⟨n11, en11, h⟩ := obind_some h
      obtain ⟨g12, h⟩ := oif_some h
      obtain ⟨g13, h⟩ := oif_some h
      obtain ⟨n14, en14, h⟩ := obind_some h
      obtain ⟨g15, h⟩ := oif_some h
      obtain ⟨v16, -, h⟩ := elet_some h
      obtain ⟨g17, h⟩ := oif_some h
      obtain ⟨v18, -, h⟩ := elet_some h
      obtain ⟨v19, -, h⟩ := elet_some h
      obtain ⟨g20, h⟩ := oif_some h
      obtain ⟨g21, h⟩ := oif_some h
      obtain ⟨g22, h⟩ := oif_some h
      obtain ⟨T23, eT23, h⟩ := elet_some h
      have p1 : GL T T23 := GL.tr p0 (by rw [eT23]; exact gl_sp sp_uC)
      obtain ⟨v24, ev24, h⟩ := elet_some h
      exact GL.tr p1 (ih _ _ _ _ h)
set_option maxHeartbeats 4000000 in
set_option maxRecDepth 100000 in
theorem s_X10_copyFrom_b8 {T1 : AT} : ∀ (T : AT) (l0 : Nat) (l1 : Nat), g_X10_copyFrom_b8 T l0 l1 = some T1 → GL T T1 := by
  intro T l0 l1 h
  have p0 := GL.rf T
  unfold g_X10_copyFrom_b8 at h
  obtain ⟨g2, h⟩ := oif_some h
  obtain ⟨v3, -, h⟩ := elet_some h
  obtain ⟨g4, h⟩ := oif_some h
  obtain ⟨T5, eT5, h⟩ := elet_some h
  have p1 : GL T T5 := GL.tr p0 (by rw [eT5]; exact gl_sp sp_uI)
  exact GL.tr p1 (s_X10_copyFrom_b18 _ _ _ _ _ h)
set_option maxHeartbeats 4000000 in
set_option maxRecDepth 100000 in
theorem s_X10_copyFrom {T : AT} {o : Nat} {a0 : Nat} {T1 : AT} (h : g_X10_copyFrom T o a0 = some T1) : GL T T1 := by
  have p0 := GL.rf T
  unfold g_X10_copyFrom at h
  obtain ⟨g2, h⟩ := oif_some h
  obtain ⟨v3, -, h⟩ := elet_some h
  obtain ⟨g4, h⟩ := oif_some h
  obtain ⟨T5, eT5, h⟩ := obind_some h
  have p1 : GL T T5 := GL.tr p0 (s_X10_widenTo eT5)
  exact GL.tr p1 (s_X10_copyFrom_b8 _ _ _ h)
set_option maxHeartbeats 4000000 in
set_option maxRecDepth 100000 in
theorem a_X10_copyFrom_b18 {p : Program} {l : Launch} {e : Env} {s : State} {m : MethodId} {args : Array Value} {below : List Frame} {meth : Method} {c : Code} {Q : State → Prop} {D : va_G} {A : Nat → Prop} {cI cJ cZ cMic cSrc cSt cAI cAJ : ClassId} {ad0 : Nat → Nat} {T0 : AT} {T1 : AT} (E : cE p c cX10_copyFrom s m args (Cond.code yX10_copyFrom cX10_copyFrom 3 none :: wsA) D RX10 (CT cI cJ cZ cMic cSrc cSt cAI cAJ)) (hA : ∀ q : Nat, s.heap.size ≤ q → A q) (hX : xT A s) (hN : nX s) (hml : c.maxLocals = 3) (hst : l.stackTraces = false) (kr60 : ∀ (ad : Nat → Nat) (H : Heap) (locs : List Loc) (ls : Array Slot), (∀ n, n < T0.1 → ad n = ad0 n) → gC cI cJ cZ cMic cSrc cSt cAI cAJ D ad A s.heap H locs T1 → W p l e { frames := 2, cells := T1.1 - T0.1, slots := sg T1 - sg T0, locals := 40 } s m args below meth c H locs (T1.1 - T0.1) (sg T1 - sg T0) Q (F0 m 60 ls [])) : ∀ n : Nat, ∀ (T : AT) (ad : Nat → Nat) (H : Heap) (locs : List Loc) (ls : Array Slot) (l0 : Nat) (l1 : Nat) (l2 : Int32), g_X10_copyFrom_b18 n T l0 l1 l2 = some T1 → GL T0 T → RC T → (∀ n, n < T0.1 → ad n = ad0 n) → l0 < T.1 → l1 < T.1 → gC cI cJ cZ cMic cSrc cSt cAI cAJ D ad A s.heap H locs T → lv_has ls 3 [(0, .ref (ad l0)), (1, .ref (ad l1)), (2, .int l2)] → W p l e { frames := 2, cells := T1.1 - T0.1, slots := sg T1 - sg T0, locals := 40 } s m args below meth c H locs (T.1 - T0.1) (sg T - sg T0) Q (F0 m 18 ls []) := by
  have hx := E.1
  have hb := E.2.1
  have hts := E.2.2.1
  have hown := E.2.2.2.1
  have hK := E.2.2.2.2
  intro n
  induction n with
  | zero =>
    intro T ad H locs ls l0 l1 l2 h
    have h : (none : Option (AT)) = some T1 := h
    cases h
  | succ n ih =>
    intro T ad H locs ls l0 l1 l2 h hgl hrc had h_l0 h_l1 G hl
    have hT1 := s_X10_copyFrom_b18 _ _ _ _ _ h
    have hcs := cs_ok hgl hT1
    have cp0 := cpr0 hrc
    unfold g_X10_copyFrom_b18 at h
    refine lv_iload_n hx hb dX10_copyFrom_18 rfl (lv_at hl 2 rfl) ?_
    refine lv_aload_n hx hb dX10_copyFrom_19 rfl (lv_at hl 0 rfl) ?_
    obtain ⟨g2, h⟩ := oif_some h
    refine c_get E G l0 2 (oO_k g2).1 (cc_o10 (oO_k g2).2) rfl (fun w h => .tail _ (iA_12 h)) (by decide) (.tail _ qA_15) rfl rfl dX10_copyFrom_20 ?_
    refine lv_topi (fun v3 ev3 => ?_)
    have h := elet_at ev3 h
    clear ev3
    refine lv_icmp_ge (tgt := 60) hx hb dX10_copyFrom_23 (by decide) (fun c4 => ?_) (fun c4 => ?_)
    · have h := oif_pos c4 h
      rw [osome1 h] at G
      refine w_cast (c2 := T1.1 - T0.1) (s2 := sg T1 - sg T0) (by rw [← osome1 h, cp0.1] <;> rfl) (by rw [← osome1 h, sg_cpr cp0] <;> rfl) ?_
      exact kr60 ad _ _ _ had G
    · have h := oif_neg c4 h
      refine lv_aload_n hx hb dX10_copyFrom_26 rfl (lv_at hl 1 rfl) ?_
      obtain ⟨g5, h⟩ := oif_some h
      obtain ⟨n6, en6, h⟩ := obind_some h
      have h_n6 : n6 < T.1 := by rw [← cp0.1]; exact cp0.2.2 _ _ _ en6
      refine c_get E G l1 1 (v := .ref (ad n6)) (oO_k g5).1 (cc_o10 (oO_k g5).2) rfl (fun w h => .tail _ (iA_12 h)) (by decide) (.tail _ qA_14) rfl (by rw [en6]; rfl) dX10_copyFrom_27 ?_
      clear en6
      refine lv_iload_n hx hb dX10_copyFrom_30 rfl (lv_at hl 2 rfl) ?_
      obtain ⟨g7, h⟩ := oif_some h
      obtain ⟨g8, h⟩ := oif_some h
      obtain ⟨n9, en9, h⟩ := obind_some h
      have h_n9 : n9 < T.1 := by rw [← cp0.1]; exact cp0.2.2 _ _ _ en9
      refine c_alda E G n6 7 (k := l2.toNatClampNeg) (v := .ref (ad n9)) (aA_k g7).1 (cc_a107 (aA_k g7).2.1) rfl (inb_k g8).1 (inb_k g8).2 (aA_k g7).2.2 (by show va_rf ((T.2.2.2.2 n6 l2.toNatClampNeg).map ad) = _; rw [en9]; rfl) dX10_copyFrom_31 ?_
      clear en9
      refine lv_iconst (v := 0) hx hb dX10_copyFrom_32 (by decide) ?_
      refine lv_aload_n hx hb dX10_copyFrom_33 rfl (lv_at hl 0 rfl) ?_
      obtain ⟨g10, h⟩ := oif_some h
      obtain ⟨n11, en11, h⟩ := obind_some h
      have h_n11 : n11 < T.1 := by rw [← cp0.1]; exact cp0.2.2 _ _ _ en11
      refine c_get E G l0 1 (v := .ref (ad n11)) (oO_k g10).1 (cc_o10 (oO_k g10).2) rfl (fun w h => .tail _ (iA_12 h)) (by decide) (.tail _ qA_14) rfl (by rw [en11]; rfl) dX10_copyFrom_34 ?_
      clear en11
      refine lv_iload_n hx hb dX10_copyFrom_37 rfl (lv_at hl 2 rfl) ?_
      obtain ⟨g12, h⟩ := oif_some h
      obtain ⟨g13, h⟩ := oif_some h
      obtain ⟨n14, en14, h⟩ := obind_some h
      have h_n14 : n14 < T.1 := by rw [← cp0.1]; exact cp0.2.2 _ _ _ en14
      refine c_alda E G n11 7 (k := l2.toNatClampNeg) (v := .ref (ad n14)) (aA_k g12).1 (cc_a107 (aA_k g12).2.1) rfl (inb_k g13).1 (inb_k g13).2 (aA_k g12).2.2 (by show va_rf ((T.2.2.2.2 n11 l2.toNatClampNeg).map ad) = _; rw [en14]; rfl) dX10_copyFrom_38 ?_
      clear en14
      refine lv_iconst (v := 0) hx hb dX10_copyFrom_39 (by decide) ?_
      refine lv_aload_n hx hb dX10_copyFrom_40 rfl (lv_at hl 0 rfl) ?_
      obtain ⟨g15, h⟩ := oif_some h
      refine c_get E G l0 0 (oO_k g15).1 (cc_o10 (oO_k g15).2) rfl (fun w h => .tail _ (iA_12 h)) (by decide) (.tail _ qA_20) rfl rfl dX10_copyFrom_41 ?_
      refine lv_topi (fun v16 ev16 => ?_)
      have h := elet_at ev16 h
      clear ev16
      refine lv_aload_n hx hb dX10_copyFrom_44 rfl (lv_at hl 1 rfl) ?_
      obtain ⟨g17, h⟩ := oif_some h
      refine c_get E G l1 0 (oO_k g17).1 (cc_o10 (oO_k g17).2) rfl (fun w h => .tail _ (iA_12 h)) (by decide) (.tail _ qA_20) rfl rfl dX10_copyFrom_45 ?_
      refine lv_topi (fun v18 ev18 => ?_)
      have h := elet_at ev18 h
      clear ev18
      refine va_mmin hx hb (hml.trans hl.1.symm) hown (hts _ (.tail _ qA_609)) (hts _ (.tail _ qA_50)) (hts _ (.tail _ qA_18)) (hts _ (.tail _ qA_51)) (Nat.le_of_ble_eq_true rfl) (Nat.le_of_ble_eq_true rfl) hcs.1 hcs.2 dX10_copyFrom_48 ?_
      refine lv_topi (fun v19 ev19 => ?_)
      have h := elet_at ev19 h
      clear ev19
      obtain ⟨g20, h⟩ := oif_some h
      obtain ⟨g21, h⟩ := oif_some h
      obtain ⟨g22, h⟩ := oif_some h
      refine q_copyl E G n9 n14 (n := v19) (aA_k g20).1 (aA_k g21).1 (aA_k g20).2.1 (aA_k g21).2.1 g22.1 g22.2.1 g22.2.2 (hml.trans hl.1.symm) (hts _ (.tail _ qA_610)) (hts _ (.tail _ qA_611)) (hts _ (.tail _ qA_612)) (hts _ (.tail _ qA_613)) (Nat.le_of_ble_eq_true rfl) (Nat.le_of_ble_eq_true rfl) dX10_copyFrom_51 (fun H locs G => ?_)
      have G := id G
      obtain ⟨T23, eT23, h⟩ := elet_some h
      have G : gC cI cJ cZ cMic cSrc cSt cAI cAJ D ad A s.heap H locs T23 := by rw [eT23]; exact G
      have cp1 := show CPR T T23 from by rw [eT23]; exact cpr_sp cp0 sp_uC
      clear eT23
      obtain ⟨v24, ev24, h⟩ := elet_some h
      refine lv_iinc (v := v24) (lv' := [(2, .int v24), (0, .ref (ad l0)), (1, .ref (ad l1))]) hx hb dX10_copyFrom_54 hl (k := 2) rfl ev24.symm (by decide) rfl (fun ls hl => ?_)
      refine lv_goto (tgt := 18) hx hb dX10_copyFrom_57 (by decide) ?_
      have hl := lv_sub hl [1, 2, 0] rfl
      refine w_cast (c2 := T23.1 - T0.1) (s2 := sg T23 - sg T0) (by rw [cp1.1] <;> rfl) (by rw [sg_cpr cp1] <;> rfl) ?_
      exact ih _ _ _ _ _ _ _ _ h (gl_cpr hgl cp1) cp1.2.2 had (by rw [cp1.1]; exact h_l0) (by rw [cp1.1]; exact h_l1) G hl
set_option maxHeartbeats 4000000 in
set_option maxRecDepth 100000 in
theorem a_X10_copyFrom_b8 {p : Program} {l : Launch} {e : Env} {s : State} {m : MethodId} {args : Array Value} {below : List Frame} {meth : Method} {c : Code} {Q : State → Prop} {D : va_G} {A : Nat → Prop} {cI cJ cZ cMic cSrc cSt cAI cAJ : ClassId} {ad0 : Nat → Nat} {T0 : AT} {T1 : AT} (E : cE p c cX10_copyFrom s m args (Cond.code yX10_copyFrom cX10_copyFrom 3 none :: wsA) D RX10 (CT cI cJ cZ cMic cSrc cSt cAI cAJ)) (hA : ∀ q : Nat, s.heap.size ≤ q → A q) (hX : xT A s) (hN : nX s) (hml : c.maxLocals = 3) (hst : l.stackTraces = false) (kr60 : ∀ (ad : Nat → Nat) (H : Heap) (locs : List Loc) (ls : Array Slot), (∀ n, n < T0.1 → ad n = ad0 n) → gC cI cJ cZ cMic cSrc cSt cAI cAJ D ad A s.heap H locs T1 → W p l e { frames := 2, cells := T1.1 - T0.1, slots := sg T1 - sg T0, locals := 40 } s m args below meth c H locs (T1.1 - T0.1) (sg T1 - sg T0) Q (F0 m 60 ls [])) : ∀ (T : AT) (ad : Nat → Nat) (H : Heap) (locs : List Loc) (ls : Array Slot) (l0 : Nat) (l1 : Nat), g_X10_copyFrom_b8 T l0 l1 = some T1 → GL T0 T → RC T → (∀ n, n < T0.1 → ad n = ad0 n) → l0 < T.1 → l1 < T.1 → gC cI cJ cZ cMic cSrc cSt cAI cAJ D ad A s.heap H locs T → lv_has ls 3 [(0, .ref (ad l0)), (1, .ref (ad l1))] → W p l e { frames := 2, cells := T1.1 - T0.1, slots := sg T1 - sg T0, locals := 40 } s m args below meth c H locs (T.1 - T0.1) (sg T - sg T0) Q (F0 m 8 ls []) := by
  have hx := E.1
  have hb := E.2.1
  have hts := E.2.2.1
  have hown := E.2.2.2.1
  have hK := E.2.2.2.2
  intro T ad H locs ls l0 l1 h hgl hrc had h_l0 h_l1 G hl
  have hT1 := s_X10_copyFrom_b8 _ _ _ h
  have hcs := cs_ok hgl hT1
  have cp0 := cpr0 hrc
  unfold g_X10_copyFrom_b8 at h
  refine lv_aload_n hx hb dX10_copyFrom_8 rfl (lv_at hl 0 rfl) ?_
  refine lv_aload_n hx hb dX10_copyFrom_9 rfl (lv_at hl 1 rfl) ?_
  obtain ⟨g2, h⟩ := oif_some h
  refine c_get E G l1 2 (oO_k g2).1 (cc_o10 (oO_k g2).2) rfl (fun w h => .tail _ (iA_12 h)) (by decide) (.tail _ qA_15) rfl rfl dX10_copyFrom_10 ?_
  refine lv_topi (fun v3 ev3 => ?_)
  have h := elet_at ev3 h
  clear ev3
  obtain ⟨g4, h⟩ := oif_some h
  refine c_put E G l0 2 (v := .int v3) (oO_k g4).1 (cc_o10 (oO_k g4).2) rfl (fun w h => .tail _ (iA_12 h)) tyX10 tyX10_ok nmX10 (by decide) (.tail _ qA_15) ⟨rfl, rfl, rfl⟩ rfl rfl (Nat.le_of_ble_eq_true rfl) dX10_copyFrom_13 (fun H locs G => ?_)
  have G := gC_up_i (f := upd (T.2.2.1 l0) 2 v3) (by rw [(oO_k g4).2]; rfl) G
  obtain ⟨T5, eT5, h⟩ := elet_some h
  have G : gC cI cJ cZ cMic cSrc cSt cAI cAJ D ad A s.heap H locs T5 := by rw [eT5]; exact G
  have cp1 := show CPR T T5 from by rw [eT5]; exact cpr_sp cp0 sp_uI
  clear eT5
  refine lv_iconst (v := 0) hx hb dX10_copyFrom_16 (by decide) ?_
  refine lv_istore_n (lv' := [(2, .int 0), (0, .ref (ad l0)), (1, .ref (ad l1))]) hx hb dX10_copyFrom_17 rfl hl (by decide) rfl (fun ls hl => ?_)
  have hl := lv_sub hl [1, 2, 0] rfl
  refine w_cast (c2 := T5.1 - T0.1) (s2 := sg T5 - sg T0) (by rw [cp1.1] <;> rfl) (by rw [sg_cpr cp1] <;> rfl) ?_
  exact a_X10_copyFrom_b18 E hA hX hN hml hst kr60 _ _ _ _ _ _ _ _ _ h (gl_cpr hgl cp1) cp1.2.2 had (by rw [cp1.1]; exact h_l0) (by rw [cp1.1]; exact h_l1) G hl
set_option maxHeartbeats 4000000 in
set_option maxRecDepth 100000 in
theorem a_X10_copyFrom (l : Launch) (hst : l.stackTraces = false) (D : va_G) (cI cJ cZ cMic cSrc cSt cAI cAJ : ClassId) (ad : Nat → Nat) (T : AT) (o : Nat) (a0 : Nat) {T1 : AT} (h : g_X10_copyFrom T o a0 = some T1) (hrc : RC T) (h_o : o < T.1) (h_a0 : a0 < T.1) : kAv l yX10_copyFrom (Cond.code yX10_copyFrom cX10_copyFrom 3 none :: wsA) 2 40 cI cJ cZ cMic cSrc cSt cAI cAJ D ad T [.ref (ad o), .ref (ad a0)] T1 := by
  intro sz
  refine Met.ofW (cc := cX10_copyFrom) (maxL := 3) (ret := none) (by decide) rfl ?_
  intro p e s m args below meth c s₁ B hml hv
  obtain ⟨rfl, hsz, hP, hK, hD0, hX, hN⟩ := hv
  have hx := B.exec
  have hb := B.bytes
  have hr := B.returns
  have hts := atoms_spec (ws := (Cond.code yX10_copyFrom cX10_copyFrom 3 none :: wsA)) B.pre
  have hown : s.vm.findClass RX10 = some m.cls := findClass_of_methodNamed B.named
  have hlocks := B.notSynchronized
  subst hsz
  have hD := hD0.self (sz := s.heap.size)
  generalize hAe : va_A (cW ad T.1 (cc cI cJ cZ cMic cSrc cSt cAI cAJ ad T)) s.heap.size = A at hD hX ⊢
  have hA : ∀ q : Nat, s.heap.size ≤ q → A q := fun q h => by rw [← hAe]; exact Or.inr h
  have G : gC cI cJ cZ cMic cSrc cSt cAI cAJ D ad A s.heap s.heap [] T := ⟨hP, hD, va_S.rf⟩
  have E : cE p c cX10_copyFrom s m ([.ref (ad o), .ref (ad a0)] : List Value).toArray (Cond.code yX10_copyFrom cX10_copyFrom 3 none :: wsA) D RX10 (CT cI cJ cZ cMic cSrc cSt cAI cAJ) := ⟨hx, hb, hts, hown, hK⟩
  have hl := lv_entry ([.ref (ad o), .ref (ad a0)]) (n := 3) (Nat.le_of_ble_eq_true rfl)
  rw [lg_entry_eq]
  generalize (lg_sl ([.ref (ad o), .ref (ad a0)]) ++ List.replicate (3 - (lg_sl ([.ref (ad o), .ref (ad a0)])).length) Slot.unset).toArray = ls at hl ⊢
  have hl : lv_has ls 3 [(0, .ref (ad o)), (1, .ref (ad a0))] := hl
  have hgl := GL.rf T
  have had : ∀ n, n < T.1 → ad n = ad n := fun _ _ => rfl
  have hT1 := s_X10_copyFrom h
  have hcs := cs_ok hgl hT1
  refine w_cast (Nat.sub_self T.1).symm (Nat.sub_self (sg T)).symm ?_
  have cp0 := cpr0 hrc
  unfold g_X10_copyFrom at h
  refine lv_aload_n hx hb dX10_copyFrom_0 rfl (lv_at hl 0 rfl) ?_
  refine lv_aload_n hx hb dX10_copyFrom_1 rfl (lv_at hl 1 rfl) ?_
  obtain ⟨g2, h⟩ := oif_some h
  refine c_get E G a0 2 (oO_k g2).1 (cc_o10 (oO_k g2).2) rfl (fun w h => .tail _ (iA_12 h)) (by decide) (.tail _ qA_15) rfl rfl dX10_copyFrom_2 ?_
  refine lv_topi (fun v3 ev3 => ?_)
  have h := elet_at ev3 h
  clear ev3
  obtain ⟨g4, h⟩ := oif_some h
  obtain ⟨T5, eT5, h⟩ := obind_some h
  have hg2 := s_X10_widenTo eT5
  have hrc2 := hg2.2.2 cp0.2.2
  have hT2 := s_X10_copyFrom_b8 _ _ _ h
  refine q_avv (As := [.int v3]) (rest := []) E G hA hX hN hml (a_X10_widenTo l hst D cI cJ cZ cMic cSrc cSt cAI cAJ ad T o v3 eT5 cp0.2.2 (by rw [cp0.1]; exact h_o)) (cwV 1 hts (gaV qA_98 qA_78 qA_79 qA_6 qA_80) rfl rfl rfl (by decide +kernel) ⟨Nat.le_of_ble_eq_true rfl, Nat.le_of_ble_eq_true rfl⟩) (oO_k g4).1 (cc_o10 (oO_k g4).2) rfl rfl hl.1 rfl (lv_room (Nat.le_of_ble_eq_true rfl)) dX10_copyFrom_5 (cs_av hgl cp0 hg2 hT2) (fun ad2 H locs hga G => ?_)
  refine w_cast (c2 := T5.1 - T.1) (s2 := sg T5 - sg T) (cs_f1 hgl cp0 hg2) (cs_f2 hgl cp0 hg2) ?_
  have hl := lv_sub hl [0, 1] rfl
  rw [show ad o = ad2 o from (hga o (by rw [cp0.1]; exact h_o)).symm] at hl
  rw [show ad a0 = ad2 a0 from (hga a0 (by rw [cp0.1]; exact h_a0)).symm] at hl
  exact a_X10_copyFrom_b8 E hA hX hN hml hst (fun ad H locs ls had G => W.vret hx hb hr (fun t ht hW => ⟨⟨(T1, ad), rfl, ⟨rfl, had⟩, ⟨by rw [ht]; exact G.1, va_K.moved hW.alike hK, G.2.1⟩⟩, G.2.2.F ht⟩) G.2.2.2.2 dX10_copyFrom_60) _ _ _ _ _ _ _ h (GL.tr (gl_cpr hgl cp0) hg2) hrc2 (fun n hn => (hga n (by rw [cp0.1]; exact Nat.lt_of_lt_of_le hn hgl.1)).trans (had n hn)) (Nat.lt_of_lt_of_le (by rw [cp0.1]; exact h_o) hg2.1) (Nat.lt_of_lt_of_le (by rw [cp0.1]; exact h_a0) hg2.1) G hl
def g_X8_copyFrom_b147  (T : AT)  : Option (AT) := some T
def g_X8_copyFrom_b64  : Nat → AT → Nat → Nat → Int32 → Option (AT)
  | 0, _, _, _, _ => none
  | n + 1, T, l0, l1, l2 => if 6 ≤ l2 then (oif (oO T l0 8 = true) <| obind (T.2.2.2.2 l0 10) fun n4 => oif (oO T l1 8 = true) <| obind (T.2.2.2.2 l1 10) fun n6 => oif (oO T n4 10 = true) <| obind (g_X10_copyFrom T n4 n6) fun T8 => g_X8_copyFrom_b147 T8) else (oif (oO T l0 8 = true) <| obind (T.2.2.2.2 l0 5) fun n11 => oif (oO T l1 8 = true) <| obind (T.2.2.2.2 l1 5) fun n13 => oif (aA T n13 102 = true) <| oif (inb l2 (T.2.1 n13).2 = true) <| elet (T.2.2.1 n13 l2.toNatClampNeg) fun v16 => oif (aA T n11 102 = true) <| oif (inb l2 (T.2.1 n11).2 = true) <| oif (v16 = 0 ∨ v16 = 1) <| elet (uI T n11 l2.toNatClampNeg v16) fun T19 => oif (oO T19 l0 8 = true) <| obind (T19.2.2.2.2 l0 6) fun n21 => oif (oO T19 l1 8 = true) <| obind (T19.2.2.2.2 l1 6) fun n23 => oif (aA T19 n23 100 = true) <| oif (inb l2 (T19.2.1 n23).2 = true) <| elet (T19.2.2.1 n23 l2.toNatClampNeg) fun v26 => oif (aA T19 n21 100 = true) <| oif (inb l2 (T19.2.1 n21).2 = true) <| elet (uI T19 n21 l2.toNatClampNeg v26) fun T29 => oif (oO T29 l0 8 = true) <| obind (T29.2.2.2.2 l0 7) fun n31 => oif (oO T29 l1 8 = true) <| obind (T29.2.2.2.2 l1 7) fun n33 => oif (aA T29 n33 100 = true) <| oif (inb l2 (T29.2.1 n33).2 = true) <| elet (T29.2.2.1 n33 l2.toNatClampNeg) fun v36 => oif (aA T29 n31 100 = true) <| oif (inb l2 (T29.2.1 n31).2 = true) <| elet (uI T29 n31 l2.toNatClampNeg v36) fun T39 => oif (oO T39 l0 8 = true) <| obind (T39.2.2.2.2 l0 8) fun n41 => oif (oO T39 l1 8 = true) <| obind (T39.2.2.2.2 l1 8) fun n43 => oif (aA T39 n43 100 = true) <| oif (inb l2 (T39.2.1 n43).2 = true) <| elet (T39.2.2.1 n43 l2.toNatClampNeg) fun v46 => oif (aA T39 n41 100 = true) <| oif (inb l2 (T39.2.1 n41).2 = true) <| elet (uI T39 n41 l2.toNatClampNeg v46) fun T49 => oif (oO T49 l0 8 = true) <| obind (T49.2.2.2.2 l0 9) fun n51 => oif (oO T49 l1 8 = true) <| obind (T49.2.2.2.2 l1 9) fun n53 => oif (aA T49 n53 100 = true) <| oif (inb l2 (T49.2.1 n53).2 = true) <| elet (T49.2.2.1 n53 l2.toNatClampNeg) fun v56 => oif (aA T49 n51 100 = true) <| oif (inb l2 (T49.2.1 n51).2 = true) <| elet (uI T49 n51 l2.toNatClampNeg v56) fun T59 => elet (l2 + Int32.ofInt (1)) fun v60 => g_X8_copyFrom_b64 n T59 l0 l1 v60)
def g_X8_copyFrom_b26  : Nat → AT → Nat → Nat → Int32 → Option (AT)
  | 0, _, _, _, _ => none
  | n + 1, T, l0, l1, l2 => if 12 ≤ l2 then (g_X8_copyFrom_b64 16384 T l0 l1 0) else (oif (oO T l0 8 = true) <| obind (T.2.2.2.2 l0 3) fun n4 => oif (oO T l1 8 = true) <| obind (T.2.2.2.2 l1 3) fun n6 => oif (aA T n6 102 = true) <| oif (inb l2 (T.2.1 n6).2 = true) <| elet (T.2.2.1 n6 l2.toNatClampNeg) fun v9 => oif (aA T n4 102 = true) <| oif (inb l2 (T.2.1 n4).2 = true) <| oif (v9 = 0 ∨ v9 = 1) <| elet (uI T n4 l2.toNatClampNeg v9) fun T12 => oif (oO T12 l0 8 = true) <| obind (T12.2.2.2.2 l0 4) fun n14 => oif (oO T12 l1 8 = true) <| obind (T12.2.2.2.2 l1 4) fun n16 => oif (aA T12 n16 100 = true) <| oif (inb l2 (T12.2.1 n16).2 = true) <| elet (T12.2.2.1 n16 l2.toNatClampNeg) fun v19 => oif (aA T12 n14 100 = true) <| oif (inb l2 (T12.2.1 n14).2 = true) <| elet (uI T12 n14 l2.toNatClampNeg v19) fun T22 => elet (l2 + Int32.ofInt (1)) fun v23 => g_X8_copyFrom_b26 n T22 l0 l1 v23)
def g_X8_copyFrom (T : AT) (o : Nat) (a0 : Nat) : Option (AT) := oif (oO T a0 8 = true) <| elet (T.2.2.1 a0 0) fun v3 => oif (oO T o 8 = true) <| elet (uI T o 0 v3) fun T5 => oif (oO T5 a0 8 = true) <| elet (T5.2.2.1 a0 1) fun v7 => oif (oO T5 o 8 = true) <| elet (uI T5 o 1 v7) fun T9 => oif (oO T9 a0 8 = true) <| elet (T9.2.2.1 a0 2) fun v11 => oif (oO T9 o 8 = true) <| elet (uI T9 o 2 v11) fun T13 => g_X8_copyFrom_b26 16384 T13 o a0 0
set_option maxHeartbeats 4000000 in
set_option maxRecDepth 100000 in
theorem s_X8_copyFrom_b147 {T1 : AT} : ∀ (T : AT), g_X8_copyFrom_b147 T = some T1 → GL T T1 := by
  intro T h
  have p0 := GL.rf T
  unfold g_X8_copyFrom_b147 at h
  rw [← osome1 h]
  exact p0
set_option maxHeartbeats 4000000 in
set_option maxRecDepth 100000 in
theorem s_X8_copyFrom_b64 {T1 : AT} : ∀ n : Nat, ∀ (T : AT) (l0 : Nat) (l1 : Nat) (l2 : Int32), g_X8_copyFrom_b64 n T l0 l1 l2 = some T1 → GL T T1 := by
  intro n
  induction n with
  | zero =>
    intro T l0 l1 l2 h
    have h : (none : Option (AT)) = some T1 := h
    cases h
  | succ n ih =>
    intro T l0 l1 l2 h
    have p0 := GL.rf T
    unfold g_X8_copyFrom_b64 at h
    rcases oif_or h with ⟨c2, h⟩ | ⟨c2, h⟩
    · have h := h
      obtain ⟨g3, h⟩ := oif_some h
      obtain ⟨n4, en4, h⟩ := obind_some h
      obtain ⟨g5, h⟩ := oif_some h
      obtain ⟨n6, en6, h⟩ := obind_some h
      obtain ⟨g7, h⟩ := oif_some h
      obtain ⟨T8, eT8, h⟩ := obind_some h
      have p1 : GL T T8 := GL.tr p0 (s_X10_copyFrom eT8)
      exact GL.tr p1 (s_X8_copyFrom_b147 _ h)
    · have h := h
      obtain ⟨g10, h⟩ := oif_some h
      obtain ⟨n11, en11, h⟩ := obind_some h
      obtain ⟨g12, h⟩ := oif_some h
      obtain ⟨n13, en13, h⟩ := obind_some h
      obtain ⟨g14, h⟩ := oif_some h
      obtain ⟨g15, h⟩ := oif_some h
      obtain ⟨v16, -, h⟩ := elet_some h
      obtain ⟨g17, h⟩ := oif_some h
      obtain ⟨g18, h⟩ := oif_some h
      obtain ⟨gz, h⟩ := oif_some h
      obtain ⟨T19, eT19, h⟩ := elet_some h
      have p1 : GL T T19 := GL.tr p0 (by rw [eT19]; exact gl_sp sp_uI)
      obtain ⟨g20, h⟩ := oif_some h
      obtain ⟨n21, en21, h⟩ := obind_some h
      obtain ⟨g22, h⟩ := oif_some h
      obtain ⟨n23, en23, h⟩ := obind_some h
      obtain ⟨g24, h⟩ := oif_some h
      obtain ⟨g25, h⟩ := oif_some h
      obtain ⟨v26, -, h⟩ := elet_some h
      obtain ⟨g27, h⟩ := oif_some h
      obtain ⟨g28, h⟩ := oif_some h
      obtain ⟨T29, eT29, h⟩ := elet_some h
      have p2 : GL T T29 := GL.tr p1 (by rw [eT29]; exact gl_sp sp_uI)
      obtain ⟨g30, h⟩ := oif_some h
      obtain ⟨n31, en31, h⟩ := obind_some h
      obtain ⟨g32, h⟩ := oif_some h
      obtain ⟨n33, en33, h⟩ := obind_some h
      obtain ⟨g34, h⟩ := oif_some h
      obtain ⟨g35, h⟩ := oif_some h
      obtain ⟨v36, -, h⟩ := elet_some h
      obtain ⟨g37, h⟩ := oif_some h
      obtain ⟨g38, h⟩ := oif_some h
      obtain ⟨T39, eT39, h⟩ := elet_some h
      have p3 : GL T T39 := GL.tr p2 (by rw [eT39]; exact gl_sp sp_uI)
      obtain ⟨g40, h⟩ := oif_some h
      obtain ⟨n41, en41, h⟩ := obind_some h
      obtain ⟨g42, h⟩ := oif_some h
      obtain ⟨n43, en43, h⟩ := obind_some h
      obtain ⟨g44, h⟩ := oif_some h
      obtain ⟨g45, h⟩ := oif_some h
      obtain ⟨v46, -, h⟩ := elet_some h
      obtain ⟨g47, h⟩ := oif_some h
      obtain ⟨g48, h⟩ := oif_some h
      obtain ⟨T49, eT49, h⟩ := elet_some h
      have p4 : GL T T49 := GL.tr p3 (by rw [eT49]; exact gl_sp sp_uI)
      obtain ⟨g50, h⟩ := oif_some h
      obtain ⟨n51, en51, h⟩ := obind_some h
      obtain ⟨g52, h⟩ := oif_some h
      obtain ⟨n53, en53, h⟩ := obind_some h
      obtain ⟨g54, h⟩ := oif_some h
      obtain ⟨g55, h⟩ := oif_some h
      obtain ⟨v56, -, h⟩ := elet_some h
      obtain ⟨g57, h⟩ := oif_some h
      obtain ⟨g58, h⟩ := oif_some h
      obtain ⟨T59, eT59, h⟩ := elet_some h
      have p5 : GL T T59 := GL.tr p4 (by rw [eT59]; exact gl_sp sp_uI)
      obtain ⟨v60, ev60, h⟩ := elet_some h
      exact GL.tr p5 (ih _ _ _ _ h)
set_option maxHeartbeats 4000000 in
set_option maxRecDepth 100000 in
theorem s_X8_copyFrom_b26 {T1 : AT} : ∀ n : Nat, ∀ (T : AT) (l0 : Nat) (l1 : Nat) (l2 : Int32), g_X8_copyFrom_b26 n T l0 l1 l2 = some T1 → GL T T1 := by
  intro n
  induction n with
  | zero =>
    intro T l0 l1 l2 h
    have h : (none : Option (AT)) = some T1 := h
    cases h
  | succ n ih =>
    intro T l0 l1 l2 h
    have p0 := GL.rf T
    unfold g_X8_copyFrom_b26 at h
    rcases oif_or h with ⟨c2, h⟩ | ⟨c2, h⟩
    · have h := h
      exact GL.tr p0 (s_X8_copyFrom_b64 _ _ _ _ _ h)
    · have h := h
      obtain ⟨g3, h⟩ := oif_some h
      obtain ⟨n4, en4, h⟩ := obind_some h
      obtain ⟨g5, h⟩ := oif_some h
      obtain ⟨n6, en6, h⟩ := obind_some h
      obtain ⟨g7, h⟩ := oif_some h
      obtain ⟨g8, h⟩ := oif_some h
      obtain ⟨v9, -, h⟩ := elet_some h
      obtain ⟨g10, h⟩ := oif_some h
      obtain ⟨g11, h⟩ := oif_some h
      obtain ⟨gz, h⟩ := oif_some h
      obtain ⟨T12, eT12, h⟩ := elet_some h
      have p1 : GL T T12 := GL.tr p0 (by rw [eT12]; exact gl_sp sp_uI)
      obtain ⟨g13, h⟩ := oif_some h
      obtain ⟨n14, en14, h⟩ := obind_some h
      obtain ⟨g15, h⟩ := oif_some h
      obtain ⟨n16, en16, h⟩ := obind_some h
      obtain ⟨g17, h⟩ := oif_some h
      obtain ⟨g18, h⟩ := oif_some h
      obtain ⟨v19, -, h⟩ := elet_some h
      obtain ⟨g20, h⟩ := oif_some h
      obtain ⟨g21, h⟩ := oif_some h
      obtain ⟨T22, eT22, h⟩ := elet_some h
      have p2 : GL T T22 := GL.tr p1 (by rw [eT22]; exact gl_sp sp_uI)
      obtain ⟨v23, ev23, h⟩ := elet_some h
      exact GL.tr p2 (ih _ _ _ _ h)
set_option maxHeartbeats 4000000 in
set_option maxRecDepth 100000 in
theorem s_X8_copyFrom {T : AT} {o : Nat} {a0 : Nat} {T1 : AT} (h : g_X8_copyFrom T o a0 = some T1) : GL T T1 := by
  have p0 := GL.rf T
  unfold g_X8_copyFrom at h
  obtain ⟨g2, h⟩ := oif_some h
  obtain ⟨v3, -, h⟩ := elet_some h
  obtain ⟨g4, h⟩ := oif_some h
  obtain ⟨T5, eT5, h⟩ := elet_some h
  have p1 : GL T T5 := GL.tr p0 (by rw [eT5]; exact gl_sp sp_uI)
  obtain ⟨g6, h⟩ := oif_some h
  obtain ⟨v7, -, h⟩ := elet_some h
  obtain ⟨g8, h⟩ := oif_some h
  obtain ⟨T9, eT9, h⟩ := elet_some h
  have p2 : GL T T9 := GL.tr p1 (by rw [eT9]; exact gl_sp sp_uI)
  obtain ⟨g10, h⟩ := oif_some h
  obtain ⟨v11, -, h⟩ := elet_some h
  obtain ⟨g12, h⟩ := oif_some h
  obtain ⟨T13, eT13, h⟩ := elet_some h
  have p3 : GL T T13 := GL.tr p2 (by rw [eT13]; exact gl_sp sp_uI)
  exact GL.tr p3 (s_X8_copyFrom_b26 _ _ _ _ _ h)
set_option maxHeartbeats 4000000 in
set_option maxRecDepth 100000 in
theorem a_X8_copyFrom_b147 {p : Program} {l : Launch} {e : Env} {s : State} {m : MethodId} {args : Array Value} {below : List Frame} {meth : Method} {c : Code} {Q : State → Prop} {D : va_G} {A : Nat → Prop} {cI cJ cZ cMic cSrc cSt cAI cAJ : ClassId} {ad0 : Nat → Nat} {T0 : AT} {T1 : AT} (E : cE p c cX8_copyFrom s m args (Cond.code yX8_copyFrom cX8_copyFrom 3 none :: wsA) D RX8 (CT cI cJ cZ cMic cSrc cSt cAI cAJ)) (hA : ∀ q : Nat, s.heap.size ≤ q → A q) (hX : xT A s) (hN : nX s) (hml : c.maxLocals = 3) (hst : l.stackTraces = false) (kr147 : ∀ (ad : Nat → Nat) (H : Heap) (locs : List Loc) (ls : Array Slot), (∀ n, n < T0.1 → ad n = ad0 n) → gC cI cJ cZ cMic cSrc cSt cAI cAJ D ad A s.heap H locs T1 → W p l e { frames := 3, cells := T1.1 - T0.1, slots := sg T1 - sg T0, locals := 62 } s m args below meth c H locs (T1.1 - T0.1) (sg T1 - sg T0) Q (F0 m 147 ls [])) : ∀ (T : AT) (ad : Nat → Nat) (H : Heap) (locs : List Loc) (ls : Array Slot), g_X8_copyFrom_b147 T = some T1 → GL T0 T → RC T → (∀ n, n < T0.1 → ad n = ad0 n) → gC cI cJ cZ cMic cSrc cSt cAI cAJ D ad A s.heap H locs T → lv_has ls 3 [] → W p l e { frames := 3, cells := T1.1 - T0.1, slots := sg T1 - sg T0, locals := 62 } s m args below meth c H locs (T.1 - T0.1) (sg T - sg T0) Q (F0 m 147 ls []) := by
  have hx := E.1
  have hb := E.2.1
  have hts := E.2.2.1
  have hown := E.2.2.2.1
  have hK := E.2.2.2.2
  intro T ad H locs ls h hgl hrc had G hl
  have hT1 := s_X8_copyFrom_b147 _ h
  have hcs := cs_ok hgl hT1
  have cp0 := cpr0 hrc
  unfold g_X8_copyFrom_b147 at h
  rw [osome1 h] at G
  refine w_cast (c2 := T1.1 - T0.1) (s2 := sg T1 - sg T0) (by rw [← osome1 h, cp0.1] <;> rfl) (by rw [← osome1 h, sg_cpr cp0] <;> rfl) ?_
  exact kr147 ad _ _ _ had G
set_option maxHeartbeats 4000000 in
set_option maxRecDepth 100000 in
theorem a_X8_copyFrom_b64 {p : Program} {l : Launch} {e : Env} {s : State} {m : MethodId} {args : Array Value} {below : List Frame} {meth : Method} {c : Code} {Q : State → Prop} {D : va_G} {A : Nat → Prop} {cI cJ cZ cMic cSrc cSt cAI cAJ : ClassId} {ad0 : Nat → Nat} {T0 : AT} {T1 : AT} (E : cE p c cX8_copyFrom s m args (Cond.code yX8_copyFrom cX8_copyFrom 3 none :: wsA) D RX8 (CT cI cJ cZ cMic cSrc cSt cAI cAJ)) (hA : ∀ q : Nat, s.heap.size ≤ q → A q) (hX : xT A s) (hN : nX s) (hml : c.maxLocals = 3) (hst : l.stackTraces = false) (kr147 : ∀ (ad : Nat → Nat) (H : Heap) (locs : List Loc) (ls : Array Slot), (∀ n, n < T0.1 → ad n = ad0 n) → gC cI cJ cZ cMic cSrc cSt cAI cAJ D ad A s.heap H locs T1 → W p l e { frames := 3, cells := T1.1 - T0.1, slots := sg T1 - sg T0, locals := 62 } s m args below meth c H locs (T1.1 - T0.1) (sg T1 - sg T0) Q (F0 m 147 ls [])) : ∀ n : Nat, ∀ (T : AT) (ad : Nat → Nat) (H : Heap) (locs : List Loc) (ls : Array Slot) (l0 : Nat) (l1 : Nat) (l2 : Int32), g_X8_copyFrom_b64 n T l0 l1 l2 = some T1 → GL T0 T → RC T → (∀ n, n < T0.1 → ad n = ad0 n) → l0 < T.1 → l1 < T.1 → gC cI cJ cZ cMic cSrc cSt cAI cAJ D ad A s.heap H locs T → lv_has ls 3 [(0, .ref (ad l0)), (1, .ref (ad l1)), (2, .int l2)] → W p l e { frames := 3, cells := T1.1 - T0.1, slots := sg T1 - sg T0, locals := 62 } s m args below meth c H locs (T.1 - T0.1) (sg T - sg T0) Q (F0 m 64 ls []) := by
  have hx := E.1
  have hb := E.2.1
  have hts := E.2.2.1
  have hown := E.2.2.2.1
  have hK := E.2.2.2.2
  intro n
  induction n with
  | zero =>
    intro T ad H locs ls l0 l1 l2 h
    have h : (none : Option (AT)) = some T1 := h
    cases h
  | succ n ih =>
    intro T ad H locs ls l0 l1 l2 h hgl hrc had h_l0 h_l1 G hl
    have hT1 := s_X8_copyFrom_b64 _ _ _ _ _ h
    have hcs := cs_ok hgl hT1
    have cp0 := cpr0 hrc
    unfold g_X8_copyFrom_b64 at h
    refine lv_iload_n hx hb dX8_copyFrom_64 rfl (lv_at hl 2 rfl) ?_
    refine lv_bipush (v := 6) hx hb dX8_copyFrom_65 (by decide) ?_
    refine lv_icmp_ge (tgt := 136) hx hb dX8_copyFrom_67 (by decide) (fun c2 => ?_) (fun c2 => ?_)
    · have h := oif_pos c2 h
      refine lv_aload_n hx hb dX8_copyFrom_136 rfl (lv_at hl 0 rfl) ?_
      obtain ⟨g3, h⟩ := oif_some h
      obtain ⟨n4, en4, h⟩ := obind_some h
      have h_n4 : n4 < T.1 := by rw [← cp0.1]; exact cp0.2.2 _ _ _ en4
      refine c_get E G l0 10 (v := .ref (ad n4)) (oO_k g3).1 (cc_o8 (oO_k g3).2) rfl (fun w h => .tail _ (iA_16 h)) (by decide) (.tail _ qA_73) rfl (by rw [en4]; rfl) dX8_copyFrom_137 ?_
      clear en4
      refine lv_aload_n hx hb dX8_copyFrom_140 rfl (lv_at hl 1 rfl) ?_
      obtain ⟨g5, h⟩ := oif_some h
      obtain ⟨n6, en6, h⟩ := obind_some h
      have h_n6 : n6 < T.1 := by rw [← cp0.1]; exact cp0.2.2 _ _ _ en6
      refine c_get E G l1 10 (v := .ref (ad n6)) (oO_k g5).1 (cc_o8 (oO_k g5).2) rfl (fun w h => .tail _ (iA_16 h)) (by decide) (.tail _ qA_73) rfl (by rw [en6]; rfl) dX8_copyFrom_141 ?_
      clear en6
      obtain ⟨g7, h⟩ := oif_some h
      obtain ⟨T8, eT8, h⟩ := obind_some h
      have hg2 := s_X10_copyFrom eT8
      have hrc2 := hg2.2.2 cp0.2.2
      have hT2 := s_X8_copyFrom_b147 _ h
      refine q_avv (As := [.ref (ad n6)]) (rest := []) E G hA hX hN hml (a_X10_copyFrom l hst D cI cJ cZ cMic cSrc cSt cAI cAJ ad T n4 n6 eT8 cp0.2.2 (by rw [cp0.1]; exact h_n4) (by rw [cp0.1]; exact h_n6)) (cwV 1 hts (gaV qA_605 qA_606 qA_607 qA_6 qA_608) rfl rfl rfl (by decide +kernel) ⟨Nat.le_of_ble_eq_true rfl, Nat.le_of_ble_eq_true rfl⟩) (oO_k g7).1 (cc_o10 (oO_k g7).2) rfl rfl hl.1 rfl (lv_room (Nat.le_of_ble_eq_true rfl)) dX8_copyFrom_144 (cs_av hgl cp0 hg2 hT2) (fun ad2 H locs hga G => ?_)
      refine w_cast (c2 := T8.1 - T0.1) (s2 := sg T8 - sg T0) (cs_f1 hgl cp0 hg2) (cs_f2 hgl cp0 hg2) ?_
      have hl := lv_sub hl [] rfl
      exact a_X8_copyFrom_b147 E hA hX hN hml hst kr147 _ _ _ _ _ h (GL.tr (gl_cpr hgl cp0) hg2) hrc2 (fun n hn => (hga n (by rw [cp0.1]; exact Nat.lt_of_lt_of_le hn hgl.1)).trans (had n hn)) G hl
    · have h := oif_neg c2 h
      refine lv_aload_n hx hb dX8_copyFrom_70 rfl (lv_at hl 0 rfl) ?_
      obtain ⟨g10, h⟩ := oif_some h
      obtain ⟨n11, en11, h⟩ := obind_some h
      have h_n11 : n11 < T.1 := by rw [← cp0.1]; exact cp0.2.2 _ _ _ en11
      refine c_get E G l0 5 (v := .ref (ad n11)) (oO_k g10).1 (cc_o8 (oO_k g10).2) rfl (fun w h => .tail _ (iA_16 h)) (by decide) (.tail _ qA_585) rfl (by rw [en11]; rfl) dX8_copyFrom_71 ?_
      clear en11
      refine lv_iload_n hx hb dX8_copyFrom_74 rfl (lv_at hl 2 rfl) ?_
      refine lv_aload_n hx hb dX8_copyFrom_75 rfl (lv_at hl 1 rfl) ?_
      obtain ⟨g12, h⟩ := oif_some h
      obtain ⟨n13, en13, h⟩ := obind_some h
      have h_n13 : n13 < T.1 := by rw [← cp0.1]; exact cp0.2.2 _ _ _ en13
      refine c_get E G l1 5 (v := .ref (ad n13)) (oO_k g12).1 (cc_o8 (oO_k g12).2) rfl (fun w h => .tail _ (iA_16 h)) (by decide) (.tail _ qA_585) rfl (by rw [en13]; rfl) dX8_copyFrom_76 ?_
      clear en13
      refine lv_iload_n hx hb dX8_copyFrom_79 rfl (lv_at hl 2 rfl) ?_
      obtain ⟨g14, h⟩ := oif_some h
      obtain ⟨g15, h⟩ := oif_some h
      refine c_zald E G n13 2 (k := l2.toNatClampNeg) (aA_k g14).1 (cc_a102 (aA_k g14).2.1) rfl (inb_k g15).1 (inb_k g15).2 (aA_k g14).2.2 dX8_copyFrom_80 ?_
      refine lv_topi (fun v16 ev16 => ?_)
      have h := elet_at ev16 h
      clear ev16
      obtain ⟨g17, h⟩ := oif_some h
      obtain ⟨g18, h⟩ := oif_some h
      obtain ⟨gz, h⟩ := oif_some h
      refine c_zast E G n11 2 (k := l2.toNatClampNeg) (v := v16) (aA_k g17).1 (cc_a102 (aA_k g17).2.1) rfl (inb_k g18).1 (inb_k g18).2 (aA_k g17).2.2 (by rcases gz with rfl | rfl <;> rfl) dX8_copyFrom_81 (fun H locs G => ?_)
      have G := gC_up_i (f := upd (T.2.2.1 n11) l2.toNatClampNeg v16) (ccv_102 (aA_k g17).2.1) G
      obtain ⟨T19, eT19, h⟩ := elet_some h
      have G : gC cI cJ cZ cMic cSrc cSt cAI cAJ D ad A s.heap H locs T19 := by rw [eT19]; exact G
      have cp1 := show CPR T T19 from by rw [eT19]; exact cpr_sp cp0 sp_uI
      clear eT19
      refine lv_aload_n hx hb dX8_copyFrom_82 rfl (lv_at hl 0 rfl) ?_
      obtain ⟨g20, h⟩ := oif_some h
      obtain ⟨n21, en21, h⟩ := obind_some h
      have h_n21 : n21 < T.1 := by rw [← cp1.1]; exact cp1.2.2 _ _ _ en21
      refine c_get E G l0 6 (v := .ref (ad n21)) (oO_k g20).1 (cc_o8 (oO_k g20).2) rfl (fun w h => .tail _ (iA_16 h)) (by decide) (.tail _ qA_586) rfl (by rw [en21]; rfl) dX8_copyFrom_83 ?_
      clear en21
      refine lv_iload_n hx hb dX8_copyFrom_86 rfl (lv_at hl 2 rfl) ?_
      refine lv_aload_n hx hb dX8_copyFrom_87 rfl (lv_at hl 1 rfl) ?_
      obtain ⟨g22, h⟩ := oif_some h
      obtain ⟨n23, en23, h⟩ := obind_some h
      have h_n23 : n23 < T.1 := by rw [← cp1.1]; exact cp1.2.2 _ _ _ en23
      refine c_get E G l1 6 (v := .ref (ad n23)) (oO_k g22).1 (cc_o8 (oO_k g22).2) rfl (fun w h => .tail _ (iA_16 h)) (by decide) (.tail _ qA_586) rfl (by rw [en23]; rfl) dX8_copyFrom_88 ?_
      clear en23
      refine lv_iload_n hx hb dX8_copyFrom_91 rfl (lv_at hl 2 rfl) ?_
      obtain ⟨g24, h⟩ := oif_some h
      obtain ⟨g25, h⟩ := oif_some h
      refine c_iald E G n23 0 (k := l2.toNatClampNeg) (aA_k g24).1 (cc_a100 (aA_k g24).2.1) rfl (inb_k g25).1 (inb_k g25).2 (aA_k g24).2.2 dX8_copyFrom_92 ?_
      refine lv_topi (fun v26 ev26 => ?_)
      have h := elet_at ev26 h
      clear ev26
      obtain ⟨g27, h⟩ := oif_some h
      obtain ⟨g28, h⟩ := oif_some h
      refine c_iast E G n21 0 (k := l2.toNatClampNeg) (v := v26) (aA_k g27).1 (cc_a100 (aA_k g27).2.1) rfl (inb_k g28).1 (inb_k g28).2 (aA_k g27).2.2 dX8_copyFrom_93 (fun H locs G => ?_)
      have G := gC_up_i (f := upd (T19.2.2.1 n21) l2.toNatClampNeg v26) (ccv_100 (aA_k g27).2.1) G
      obtain ⟨T29, eT29, h⟩ := elet_some h
      have G : gC cI cJ cZ cMic cSrc cSt cAI cAJ D ad A s.heap H locs T29 := by rw [eT29]; exact G
      have cp2 := show CPR T T29 from by rw [eT29]; exact cpr_sp cp1 sp_uI
      clear eT29
      refine lv_aload_n hx hb dX8_copyFrom_94 rfl (lv_at hl 0 rfl) ?_
      obtain ⟨g30, h⟩ := oif_some h
      obtain ⟨n31, en31, h⟩ := obind_some h
      have h_n31 : n31 < T.1 := by rw [← cp2.1]; exact cp2.2.2 _ _ _ en31
      refine c_get E G l0 7 (v := .ref (ad n31)) (oO_k g30).1 (cc_o8 (oO_k g30).2) rfl (fun w h => .tail _ (iA_16 h)) (by decide) (.tail _ qA_587) rfl (by rw [en31]; rfl) dX8_copyFrom_95 ?_
      clear en31
      refine lv_iload_n hx hb dX8_copyFrom_98 rfl (lv_at hl 2 rfl) ?_
      refine lv_aload_n hx hb dX8_copyFrom_99 rfl (lv_at hl 1 rfl) ?_
      obtain ⟨g32, h⟩ := oif_some h
      obtain ⟨n33, en33, h⟩ := obind_some h
      have h_n33 : n33 < T.1 := by rw [← cp2.1]; exact cp2.2.2 _ _ _ en33
      refine c_get E G l1 7 (v := .ref (ad n33)) (oO_k g32).1 (cc_o8 (oO_k g32).2) rfl (fun w h => .tail _ (iA_16 h)) (by decide) (.tail _ qA_587) rfl (by rw [en33]; rfl) dX8_copyFrom_100 ?_
      clear en33
      refine lv_iload_n hx hb dX8_copyFrom_103 rfl (lv_at hl 2 rfl) ?_
      obtain ⟨g34, h⟩ := oif_some h
      obtain ⟨g35, h⟩ := oif_some h
      refine c_iald E G n33 0 (k := l2.toNatClampNeg) (aA_k g34).1 (cc_a100 (aA_k g34).2.1) rfl (inb_k g35).1 (inb_k g35).2 (aA_k g34).2.2 dX8_copyFrom_104 ?_
      refine lv_topi (fun v36 ev36 => ?_)
      have h := elet_at ev36 h
      clear ev36
      obtain ⟨g37, h⟩ := oif_some h
      obtain ⟨g38, h⟩ := oif_some h
      refine c_iast E G n31 0 (k := l2.toNatClampNeg) (v := v36) (aA_k g37).1 (cc_a100 (aA_k g37).2.1) rfl (inb_k g38).1 (inb_k g38).2 (aA_k g37).2.2 dX8_copyFrom_105 (fun H locs G => ?_)
      have G := gC_up_i (f := upd (T29.2.2.1 n31) l2.toNatClampNeg v36) (ccv_100 (aA_k g37).2.1) G
      obtain ⟨T39, eT39, h⟩ := elet_some h
      have G : gC cI cJ cZ cMic cSrc cSt cAI cAJ D ad A s.heap H locs T39 := by rw [eT39]; exact G
      have cp3 := show CPR T T39 from by rw [eT39]; exact cpr_sp cp2 sp_uI
      clear eT39
      refine lv_aload_n hx hb dX8_copyFrom_106 rfl (lv_at hl 0 rfl) ?_
      obtain ⟨g40, h⟩ := oif_some h
      obtain ⟨n41, en41, h⟩ := obind_some h
      have h_n41 : n41 < T.1 := by rw [← cp3.1]; exact cp3.2.2 _ _ _ en41
      refine c_get E G l0 8 (v := .ref (ad n41)) (oO_k g40).1 (cc_o8 (oO_k g40).2) rfl (fun w h => .tail _ (iA_16 h)) (by decide) (.tail _ qA_588) rfl (by rw [en41]; rfl) dX8_copyFrom_107 ?_
      clear en41
      refine lv_iload_n hx hb dX8_copyFrom_110 rfl (lv_at hl 2 rfl) ?_
      refine lv_aload_n hx hb dX8_copyFrom_111 rfl (lv_at hl 1 rfl) ?_
      obtain ⟨g42, h⟩ := oif_some h
      obtain ⟨n43, en43, h⟩ := obind_some h
      have h_n43 : n43 < T.1 := by rw [← cp3.1]; exact cp3.2.2 _ _ _ en43
      refine c_get E G l1 8 (v := .ref (ad n43)) (oO_k g42).1 (cc_o8 (oO_k g42).2) rfl (fun w h => .tail _ (iA_16 h)) (by decide) (.tail _ qA_588) rfl (by rw [en43]; rfl) dX8_copyFrom_112 ?_
      clear en43
      refine lv_iload_n hx hb dX8_copyFrom_115 rfl (lv_at hl 2 rfl) ?_
      obtain ⟨g44, h⟩ := oif_some h
      obtain ⟨g45, h⟩ := oif_some h
      refine c_iald E G n43 0 (k := l2.toNatClampNeg) (aA_k g44).1 (cc_a100 (aA_k g44).2.1) rfl (inb_k g45).1 (inb_k g45).2 (aA_k g44).2.2 dX8_copyFrom_116 ?_
      refine lv_topi (fun v46 ev46 => ?_)
      have h := elet_at ev46 h
      clear ev46
      obtain ⟨g47, h⟩ := oif_some h
      obtain ⟨g48, h⟩ := oif_some h
      refine c_iast E G n41 0 (k := l2.toNatClampNeg) (v := v46) (aA_k g47).1 (cc_a100 (aA_k g47).2.1) rfl (inb_k g48).1 (inb_k g48).2 (aA_k g47).2.2 dX8_copyFrom_117 (fun H locs G => ?_)
      have G := gC_up_i (f := upd (T39.2.2.1 n41) l2.toNatClampNeg v46) (ccv_100 (aA_k g47).2.1) G
      obtain ⟨T49, eT49, h⟩ := elet_some h
      have G : gC cI cJ cZ cMic cSrc cSt cAI cAJ D ad A s.heap H locs T49 := by rw [eT49]; exact G
      have cp4 := show CPR T T49 from by rw [eT49]; exact cpr_sp cp3 sp_uI
      clear eT49
      refine lv_aload_n hx hb dX8_copyFrom_118 rfl (lv_at hl 0 rfl) ?_
      obtain ⟨g50, h⟩ := oif_some h
      obtain ⟨n51, en51, h⟩ := obind_some h
      have h_n51 : n51 < T.1 := by rw [← cp4.1]; exact cp4.2.2 _ _ _ en51
      refine c_get E G l0 9 (v := .ref (ad n51)) (oO_k g50).1 (cc_o8 (oO_k g50).2) rfl (fun w h => .tail _ (iA_16 h)) (by decide) (.tail _ qA_589) rfl (by rw [en51]; rfl) dX8_copyFrom_119 ?_
      clear en51
      refine lv_iload_n hx hb dX8_copyFrom_122 rfl (lv_at hl 2 rfl) ?_
      refine lv_aload_n hx hb dX8_copyFrom_123 rfl (lv_at hl 1 rfl) ?_
      obtain ⟨g52, h⟩ := oif_some h
      obtain ⟨n53, en53, h⟩ := obind_some h
      have h_n53 : n53 < T.1 := by rw [← cp4.1]; exact cp4.2.2 _ _ _ en53
      refine c_get E G l1 9 (v := .ref (ad n53)) (oO_k g52).1 (cc_o8 (oO_k g52).2) rfl (fun w h => .tail _ (iA_16 h)) (by decide) (.tail _ qA_589) rfl (by rw [en53]; rfl) dX8_copyFrom_124 ?_
      clear en53
      refine lv_iload_n hx hb dX8_copyFrom_127 rfl (lv_at hl 2 rfl) ?_
      obtain ⟨g54, h⟩ := oif_some h
      obtain ⟨g55, h⟩ := oif_some h
      refine c_iald E G n53 0 (k := l2.toNatClampNeg) (aA_k g54).1 (cc_a100 (aA_k g54).2.1) rfl (inb_k g55).1 (inb_k g55).2 (aA_k g54).2.2 dX8_copyFrom_128 ?_
      refine lv_topi (fun v56 ev56 => ?_)
      have h := elet_at ev56 h
      clear ev56
      obtain ⟨g57, h⟩ := oif_some h
      obtain ⟨g58, h⟩ := oif_some h
      refine c_iast E G n51 0 (k := l2.toNatClampNeg) (v := v56) (aA_k g57).1 (cc_a100 (aA_k g57).2.1) rfl (inb_k g58).1 (inb_k g58).2 (aA_k g57).2.2 dX8_copyFrom_129 (fun H locs G => ?_)
      have G := gC_up_i (f := upd (T49.2.2.1 n51) l2.toNatClampNeg v56) (ccv_100 (aA_k g57).2.1) G
      obtain ⟨T59, eT59, h⟩ := elet_some h
      have G : gC cI cJ cZ cMic cSrc cSt cAI cAJ D ad A s.heap H locs T59 := by rw [eT59]; exact G
      have cp5 := show CPR T T59 from by rw [eT59]; exact cpr_sp cp4 sp_uI
      clear eT59
      obtain ⟨v60, ev60, h⟩ := elet_some h
      refine lv_iinc (v := v60) (lv' := [(2, .int v60), (0, .ref (ad l0)), (1, .ref (ad l1))]) hx hb dX8_copyFrom_130 hl (k := 2) rfl ev60.symm (by decide) rfl (fun ls hl => ?_)
      refine lv_goto (tgt := 64) hx hb dX8_copyFrom_133 (by decide) ?_
      have hl := lv_sub hl [1, 2, 0] rfl
      refine w_cast (c2 := T59.1 - T0.1) (s2 := sg T59 - sg T0) (by rw [cp5.1] <;> rfl) (by rw [sg_cpr cp5] <;> rfl) ?_
      exact ih _ _ _ _ _ _ _ _ h (gl_cpr hgl cp5) cp5.2.2 had (by rw [cp5.1]; exact h_l0) (by rw [cp5.1]; exact h_l1) G hl
set_option maxHeartbeats 4000000 in
set_option maxRecDepth 100000 in
theorem a_X8_copyFrom_b26 {p : Program} {l : Launch} {e : Env} {s : State} {m : MethodId} {args : Array Value} {below : List Frame} {meth : Method} {c : Code} {Q : State → Prop} {D : va_G} {A : Nat → Prop} {cI cJ cZ cMic cSrc cSt cAI cAJ : ClassId} {ad0 : Nat → Nat} {T0 : AT} {T1 : AT} (E : cE p c cX8_copyFrom s m args (Cond.code yX8_copyFrom cX8_copyFrom 3 none :: wsA) D RX8 (CT cI cJ cZ cMic cSrc cSt cAI cAJ)) (hA : ∀ q : Nat, s.heap.size ≤ q → A q) (hX : xT A s) (hN : nX s) (hml : c.maxLocals = 3) (hst : l.stackTraces = false) (kr147 : ∀ (ad : Nat → Nat) (H : Heap) (locs : List Loc) (ls : Array Slot), (∀ n, n < T0.1 → ad n = ad0 n) → gC cI cJ cZ cMic cSrc cSt cAI cAJ D ad A s.heap H locs T1 → W p l e { frames := 3, cells := T1.1 - T0.1, slots := sg T1 - sg T0, locals := 62 } s m args below meth c H locs (T1.1 - T0.1) (sg T1 - sg T0) Q (F0 m 147 ls [])) : ∀ n : Nat, ∀ (T : AT) (ad : Nat → Nat) (H : Heap) (locs : List Loc) (ls : Array Slot) (l0 : Nat) (l1 : Nat) (l2 : Int32), g_X8_copyFrom_b26 n T l0 l1 l2 = some T1 → GL T0 T → RC T → (∀ n, n < T0.1 → ad n = ad0 n) → l0 < T.1 → l1 < T.1 → gC cI cJ cZ cMic cSrc cSt cAI cAJ D ad A s.heap H locs T → lv_has ls 3 [(0, .ref (ad l0)), (1, .ref (ad l1)), (2, .int l2)] → W p l e { frames := 3, cells := T1.1 - T0.1, slots := sg T1 - sg T0, locals := 62 } s m args below meth c H locs (T.1 - T0.1) (sg T - sg T0) Q (F0 m 26 ls []) := by
  have hx := E.1
  have hb := E.2.1
  have hts := E.2.2.1
  have hown := E.2.2.2.1
  have hK := E.2.2.2.2
  intro n
  induction n with
  | zero =>
    intro T ad H locs ls l0 l1 l2 h
    have h : (none : Option (AT)) = some T1 := h
    cases h
  | succ n ih =>
    intro T ad H locs ls l0 l1 l2 h hgl hrc had h_l0 h_l1 G hl
    have hT1 := s_X8_copyFrom_b26 _ _ _ _ _ h
    have hcs := cs_ok hgl hT1
    have cp0 := cpr0 hrc
    unfold g_X8_copyFrom_b26 at h
    refine lv_iload_n hx hb dX8_copyFrom_26 rfl (lv_at hl 2 rfl) ?_
    refine lv_bipush (v := 12) hx hb dX8_copyFrom_27 (by decide) ?_
    refine lv_icmp_ge (tgt := 62) hx hb dX8_copyFrom_29 (by decide) (fun c2 => ?_) (fun c2 => ?_)
    · have h := oif_pos c2 h
      refine lv_iconst (v := 0) hx hb dX8_copyFrom_62 (by decide) ?_
      refine lv_istore_n (lv' := [(2, .int 0), (0, .ref (ad l0)), (1, .ref (ad l1))]) hx hb dX8_copyFrom_63 rfl hl (by decide) rfl (fun ls hl => ?_)
      have hl := lv_sub hl [1, 2, 0] rfl
      refine w_cast (c2 := T.1 - T0.1) (s2 := sg T - sg T0) (by rw [cp0.1] <;> rfl) (by rw [sg_cpr cp0] <;> rfl) ?_
      exact a_X8_copyFrom_b64 E hA hX hN hml hst kr147 _ _ _ _ _ _ _ _ _ h (gl_cpr hgl cp0) cp0.2.2 had (by rw [cp0.1]; exact h_l0) (by rw [cp0.1]; exact h_l1) G hl
    · have h := oif_neg c2 h
      refine lv_aload_n hx hb dX8_copyFrom_32 rfl (lv_at hl 0 rfl) ?_
      obtain ⟨g3, h⟩ := oif_some h
      obtain ⟨n4, en4, h⟩ := obind_some h
      have h_n4 : n4 < T.1 := by rw [← cp0.1]; exact cp0.2.2 _ _ _ en4
      refine c_get E G l0 3 (v := .ref (ad n4)) (oO_k g3).1 (cc_o8 (oO_k g3).2) rfl (fun w h => .tail _ (iA_16 h)) (by decide) (.tail _ qA_64) rfl (by rw [en4]; rfl) dX8_copyFrom_33 ?_
      clear en4
      refine lv_iload_n hx hb dX8_copyFrom_36 rfl (lv_at hl 2 rfl) ?_
      refine lv_aload_n hx hb dX8_copyFrom_37 rfl (lv_at hl 1 rfl) ?_
      obtain ⟨g5, h⟩ := oif_some h
      obtain ⟨n6, en6, h⟩ := obind_some h
      have h_n6 : n6 < T.1 := by rw [← cp0.1]; exact cp0.2.2 _ _ _ en6
      refine c_get E G l1 3 (v := .ref (ad n6)) (oO_k g5).1 (cc_o8 (oO_k g5).2) rfl (fun w h => .tail _ (iA_16 h)) (by decide) (.tail _ qA_64) rfl (by rw [en6]; rfl) dX8_copyFrom_38 ?_
      clear en6
      refine lv_iload_n hx hb dX8_copyFrom_41 rfl (lv_at hl 2 rfl) ?_
      obtain ⟨g7, h⟩ := oif_some h
      obtain ⟨g8, h⟩ := oif_some h
      refine c_zald E G n6 2 (k := l2.toNatClampNeg) (aA_k g7).1 (cc_a102 (aA_k g7).2.1) rfl (inb_k g8).1 (inb_k g8).2 (aA_k g7).2.2 dX8_copyFrom_42 ?_
      refine lv_topi (fun v9 ev9 => ?_)
      have h := elet_at ev9 h
      clear ev9
      obtain ⟨g10, h⟩ := oif_some h
      obtain ⟨g11, h⟩ := oif_some h
      obtain ⟨gz, h⟩ := oif_some h
      refine c_zast E G n4 2 (k := l2.toNatClampNeg) (v := v9) (aA_k g10).1 (cc_a102 (aA_k g10).2.1) rfl (inb_k g11).1 (inb_k g11).2 (aA_k g10).2.2 (by rcases gz with rfl | rfl <;> rfl) dX8_copyFrom_43 (fun H locs G => ?_)
      have G := gC_up_i (f := upd (T.2.2.1 n4) l2.toNatClampNeg v9) (ccv_102 (aA_k g10).2.1) G
      obtain ⟨T12, eT12, h⟩ := elet_some h
      have G : gC cI cJ cZ cMic cSrc cSt cAI cAJ D ad A s.heap H locs T12 := by rw [eT12]; exact G
      have cp1 := show CPR T T12 from by rw [eT12]; exact cpr_sp cp0 sp_uI
      clear eT12
      refine lv_aload_n hx hb dX8_copyFrom_44 rfl (lv_at hl 0 rfl) ?_
      obtain ⟨g13, h⟩ := oif_some h
      obtain ⟨n14, en14, h⟩ := obind_some h
      have h_n14 : n14 < T.1 := by rw [← cp1.1]; exact cp1.2.2 _ _ _ en14
      refine c_get E G l0 4 (v := .ref (ad n14)) (oO_k g13).1 (cc_o8 (oO_k g13).2) rfl (fun w h => .tail _ (iA_16 h)) (by decide) (.tail _ qA_86) rfl (by rw [en14]; rfl) dX8_copyFrom_45 ?_
      clear en14
      refine lv_iload_n hx hb dX8_copyFrom_48 rfl (lv_at hl 2 rfl) ?_
      refine lv_aload_n hx hb dX8_copyFrom_49 rfl (lv_at hl 1 rfl) ?_
      obtain ⟨g15, h⟩ := oif_some h
      obtain ⟨n16, en16, h⟩ := obind_some h
      have h_n16 : n16 < T.1 := by rw [← cp1.1]; exact cp1.2.2 _ _ _ en16
      refine c_get E G l1 4 (v := .ref (ad n16)) (oO_k g15).1 (cc_o8 (oO_k g15).2) rfl (fun w h => .tail _ (iA_16 h)) (by decide) (.tail _ qA_86) rfl (by rw [en16]; rfl) dX8_copyFrom_50 ?_
      clear en16
      refine lv_iload_n hx hb dX8_copyFrom_53 rfl (lv_at hl 2 rfl) ?_
      obtain ⟨g17, h⟩ := oif_some h
      obtain ⟨g18, h⟩ := oif_some h
      refine c_iald E G n16 0 (k := l2.toNatClampNeg) (aA_k g17).1 (cc_a100 (aA_k g17).2.1) rfl (inb_k g18).1 (inb_k g18).2 (aA_k g17).2.2 dX8_copyFrom_54 ?_
      refine lv_topi (fun v19 ev19 => ?_)
      have h := elet_at ev19 h
      clear ev19
      obtain ⟨g20, h⟩ := oif_some h
      obtain ⟨g21, h⟩ := oif_some h
      refine c_iast E G n14 0 (k := l2.toNatClampNeg) (v := v19) (aA_k g20).1 (cc_a100 (aA_k g20).2.1) rfl (inb_k g21).1 (inb_k g21).2 (aA_k g20).2.2 dX8_copyFrom_55 (fun H locs G => ?_)
      have G := gC_up_i (f := upd (T12.2.2.1 n14) l2.toNatClampNeg v19) (ccv_100 (aA_k g20).2.1) G
      obtain ⟨T22, eT22, h⟩ := elet_some h
      have G : gC cI cJ cZ cMic cSrc cSt cAI cAJ D ad A s.heap H locs T22 := by rw [eT22]; exact G
      have cp2 := show CPR T T22 from by rw [eT22]; exact cpr_sp cp1 sp_uI
      clear eT22
      obtain ⟨v23, ev23, h⟩ := elet_some h
      refine lv_iinc (v := v23) (lv' := [(2, .int v23), (0, .ref (ad l0)), (1, .ref (ad l1))]) hx hb dX8_copyFrom_56 hl (k := 2) rfl ev23.symm (by decide) rfl (fun ls hl => ?_)
      refine lv_goto (tgt := 26) hx hb dX8_copyFrom_59 (by decide) ?_
      have hl := lv_sub hl [1, 2, 0] rfl
      refine w_cast (c2 := T22.1 - T0.1) (s2 := sg T22 - sg T0) (by rw [cp2.1] <;> rfl) (by rw [sg_cpr cp2] <;> rfl) ?_
      exact ih _ _ _ _ _ _ _ _ h (gl_cpr hgl cp2) cp2.2.2 had (by rw [cp2.1]; exact h_l0) (by rw [cp2.1]; exact h_l1) G hl
set_option maxHeartbeats 4000000 in
set_option maxRecDepth 100000 in
theorem a_X8_copyFrom (l : Launch) (hst : l.stackTraces = false) (D : va_G) (cI cJ cZ cMic cSrc cSt cAI cAJ : ClassId) (ad : Nat → Nat) (T : AT) (o : Nat) (a0 : Nat) {T1 : AT} (h : g_X8_copyFrom T o a0 = some T1) (hrc : RC T) (h_o : o < T.1) (h_a0 : a0 < T.1) : kAv l yX8_copyFrom (Cond.code yX8_copyFrom cX8_copyFrom 3 none :: wsA) 3 62 cI cJ cZ cMic cSrc cSt cAI cAJ D ad T [.ref (ad o), .ref (ad a0)] T1 := by
  intro sz
  refine Met.ofW (cc := cX8_copyFrom) (maxL := 3) (ret := none) (by decide) rfl ?_
  intro p e s m args below meth c s₁ B hml hv
  obtain ⟨rfl, hsz, hP, hK, hD0, hX, hN⟩ := hv
  have hx := B.exec
  have hb := B.bytes
  have hr := B.returns
  have hts := atoms_spec (ws := (Cond.code yX8_copyFrom cX8_copyFrom 3 none :: wsA)) B.pre
  have hown : s.vm.findClass RX8 = some m.cls := findClass_of_methodNamed B.named
  have hlocks := B.notSynchronized
  subst hsz
  have hD := hD0.self (sz := s.heap.size)
  generalize hAe : va_A (cW ad T.1 (cc cI cJ cZ cMic cSrc cSt cAI cAJ ad T)) s.heap.size = A at hD hX ⊢
  have hA : ∀ q : Nat, s.heap.size ≤ q → A q := fun q h => by rw [← hAe]; exact Or.inr h
  have G : gC cI cJ cZ cMic cSrc cSt cAI cAJ D ad A s.heap s.heap [] T := ⟨hP, hD, va_S.rf⟩
  have E : cE p c cX8_copyFrom s m ([.ref (ad o), .ref (ad a0)] : List Value).toArray (Cond.code yX8_copyFrom cX8_copyFrom 3 none :: wsA) D RX8 (CT cI cJ cZ cMic cSrc cSt cAI cAJ) := ⟨hx, hb, hts, hown, hK⟩
  have hl := lv_entry ([.ref (ad o), .ref (ad a0)]) (n := 3) (Nat.le_of_ble_eq_true rfl)
  rw [lg_entry_eq]
  generalize (lg_sl ([.ref (ad o), .ref (ad a0)]) ++ List.replicate (3 - (lg_sl ([.ref (ad o), .ref (ad a0)])).length) Slot.unset).toArray = ls at hl ⊢
  have hl : lv_has ls 3 [(0, .ref (ad o)), (1, .ref (ad a0))] := hl
  have hgl := GL.rf T
  have had : ∀ n, n < T.1 → ad n = ad n := fun _ _ => rfl
  have hT1 := s_X8_copyFrom h
  have hcs := cs_ok hgl hT1
  refine w_cast (Nat.sub_self T.1).symm (Nat.sub_self (sg T)).symm ?_
  have cp0 := cpr0 hrc
  unfold g_X8_copyFrom at h
  refine lv_aload_n hx hb dX8_copyFrom_0 rfl (lv_at hl 0 rfl) ?_
  refine lv_aload_n hx hb dX8_copyFrom_1 rfl (lv_at hl 1 rfl) ?_
  obtain ⟨g2, h⟩ := oif_some h
  refine c_get E G a0 0 (oO_k g2).1 (cc_o8 (oO_k g2).2) rfl (fun w h => .tail _ (iA_16 h)) (by decide) (.tail _ qA_63) rfl rfl dX8_copyFrom_2 ?_
  refine lv_topi (fun v3 ev3 => ?_)
  have h := elet_at ev3 h
  clear ev3
  obtain ⟨g4, h⟩ := oif_some h
  refine c_put E G o 0 (v := .int v3) (oO_k g4).1 (cc_o8 (oO_k g4).2) rfl (fun w h => .tail _ (iA_16 h)) tyX8 tyX8_ok nmX8 (by decide) (.tail _ qA_63) ⟨rfl, rfl, rfl⟩ rfl rfl (Nat.le_of_ble_eq_true rfl) dX8_copyFrom_5 (fun H locs G => ?_)
  have G := gC_up_i (f := upd (T.2.2.1 o) 0 v3) (by rw [(oO_k g4).2]; rfl) G
  obtain ⟨T5, eT5, h⟩ := elet_some h
  have G : gC cI cJ cZ cMic cSrc cSt cAI cAJ D ad A s.heap H locs T5 := by rw [eT5]; exact G
  have cp1 := show CPR T T5 from by rw [eT5]; exact cpr_sp cp0 sp_uI
  clear eT5
  refine lv_aload_n hx hb dX8_copyFrom_8 rfl (lv_at hl 0 rfl) ?_
  refine lv_aload_n hx hb dX8_copyFrom_9 rfl (lv_at hl 1 rfl) ?_
  obtain ⟨g6, h⟩ := oif_some h
  refine c_get E G a0 1 (oO_k g6).1 (cc_o8 (oO_k g6).2) rfl (fun w h => .tail _ (iA_16 h)) (by decide) (.tail _ qA_57) rfl rfl dX8_copyFrom_10 ?_
  refine lv_topi (fun v7 ev7 => ?_)
  have h := elet_at ev7 h
  clear ev7
  obtain ⟨g8, h⟩ := oif_some h
  refine c_put E G o 1 (v := .int v7) (oO_k g8).1 (cc_o8 (oO_k g8).2) rfl (fun w h => .tail _ (iA_16 h)) tyX8 tyX8_ok nmX8 (by decide) (.tail _ qA_57) ⟨rfl, rfl, rfl⟩ rfl rfl (Nat.le_of_ble_eq_true rfl) dX8_copyFrom_13 (fun H locs G => ?_)
  have G := gC_up_i (f := upd (T5.2.2.1 o) 1 v7) (by rw [(oO_k g8).2]; rfl) G
  obtain ⟨T9, eT9, h⟩ := elet_some h
  have G : gC cI cJ cZ cMic cSrc cSt cAI cAJ D ad A s.heap H locs T9 := by rw [eT9]; exact G
  have cp2 := show CPR T T9 from by rw [eT9]; exact cpr_sp cp1 sp_uI
  clear eT9
  refine lv_aload_n hx hb dX8_copyFrom_16 rfl (lv_at hl 0 rfl) ?_
  refine lv_aload_n hx hb dX8_copyFrom_17 rfl (lv_at hl 1 rfl) ?_
  obtain ⟨g10, h⟩ := oif_some h
  refine c_get E G a0 2 (oO_k g10).1 (cc_o8 (oO_k g10).2) rfl (fun w h => .tail _ (iA_16 h)) (by decide) (.tail _ qA_604) rfl rfl dX8_copyFrom_18 ?_
  refine lv_topi (fun v11 ev11 => ?_)
  have h := elet_at ev11 h
  clear ev11
  obtain ⟨g12, h⟩ := oif_some h
  refine c_put E G o 2 (v := .int v11) (oO_k g12).1 (cc_o8 (oO_k g12).2) rfl (fun w h => .tail _ (iA_16 h)) tyX8 tyX8_ok nmX8 (by decide) (.tail _ qA_604) ⟨rfl, rfl, rfl⟩ rfl rfl (Nat.le_of_ble_eq_true rfl) dX8_copyFrom_21 (fun H locs G => ?_)
  have G := gC_up_i (f := upd (T9.2.2.1 o) 2 v11) (by rw [(oO_k g12).2]; rfl) G
  obtain ⟨T13, eT13, h⟩ := elet_some h
  have G : gC cI cJ cZ cMic cSrc cSt cAI cAJ D ad A s.heap H locs T13 := by rw [eT13]; exact G
  have cp3 := show CPR T T13 from by rw [eT13]; exact cpr_sp cp2 sp_uI
  clear eT13
  refine lv_iconst (v := 0) hx hb dX8_copyFrom_24 (by decide) ?_
  refine lv_istore_n (lv' := [(2, .int 0), (0, .ref (ad o)), (1, .ref (ad a0))]) hx hb dX8_copyFrom_25 rfl hl (by decide) rfl (fun ls hl => ?_)
  have hl := lv_sub hl [1, 2, 0] rfl
  refine w_cast (c2 := T13.1 - T.1) (s2 := sg T13 - sg T) (by rw [cp3.1] <;> rfl) (by rw [sg_cpr cp3] <;> rfl) ?_
  exact a_X8_copyFrom_b26 E hA hX hN hml hst (fun ad H locs ls had G => W.vret hx hb hr (fun t ht hW => ⟨⟨(T1, ad), rfl, ⟨rfl, had⟩, ⟨by rw [ht]; exact G.1, va_K.moved hW.alike hK, G.2.1⟩⟩, G.2.2.F ht⟩) G.2.2.2.2 dX8_copyFrom_147) _ _ _ _ _ _ _ _ _ h (gl_cpr hgl cp3) cp3.2.2 had (by rw [cp3.1]; exact h_o) (by rw [cp3.1]; exact h_a0) G hl
def g_X8_activeMics_b27 (k4 : AT → Nat → Int32 → Int32 → Option (Int32 × AT)) (T : AT) (s0 : Int32) (s1 : Int32) (l0 : Nat) (l2 : Int32) : Option (Int32 × AT) := elet (s1 + s0) fun v2 => elet (l2 + Int32.ofInt (1)) fun v3 => k4 T l0 v2 v3
set_option maxHeartbeats 4000000 in
set_option maxRecDepth 100000 in
theorem u_X8_activeMics_b27 {p : Program} {l : Launch} {e : Env} {s : State} {m : MethodId} {args : Array Value} {below : List Frame} {meth : Method} {c : Code} {Q : State → Prop} {D : va_G} {A : Nat → Prop} {cI cJ cZ cMic cSrc cSt cAI cAJ : ClassId} {ad : Nat → Nat} {r1 : Int32} {T1 : AT} (E : cE p c cX8_activeMics s m args (Cond.code yX8_activeMics cX8_activeMics 3 (some .int) :: wsA) D RX8 (CT cI cJ cZ cMic cSrc cSt cAI cAJ)) (hA : ∀ q : Nat, s.heap.size ≤ q → A q) (hX : xT A s) (hN : nX s) (hml : c.maxLocals = 3) (hst : l.stackTraces = false) (kr36 : ∀ (H : Heap) (locs : List Loc) (ls : Array Slot), gC cI cJ cZ cMic cSrc cSt cAI cAJ D ad A s.heap H locs T1 → W p l e { frames := 1, cells := 0, slots := 0, locals := 0 } s m args below meth c H locs 0 0 Q (F0 m 36 ls [.int r1])) {k4 : AT → Nat → Int32 → Int32 → Option (Int32 × AT)} (hk4 : ∀ (T : AT) (H : Heap) (locs : List Loc) (ls : Array Slot) (l0 : Nat) (l1 : Int32) (l2 : Int32), k4 T l0 l1 l2 = some (r1, T1) → gC cI cJ cZ cMic cSrc cSt cAI cAJ D ad A s.heap H locs T → lv_has ls 3 [(0, .ref (ad l0)), (1, .int l1), (2, .int l2)] → W p l e { frames := 1, cells := 0, slots := 0, locals := 0 } s m args below meth c H locs 0 0 Q (F0 m 4 ls [])) : ∀ (T : AT) (H : Heap) (locs : List Loc) (ls : Array Slot) (s0 : Int32) (s1 : Int32) (l0 : Nat) (l2 : Int32), g_X8_activeMics_b27 k4 T s0 s1 l0 l2 = some (r1, T1) → gC cI cJ cZ cMic cSrc cSt cAI cAJ D ad A s.heap H locs T → lv_has ls 3 [(0, .ref (ad l0)), (2, .int l2)] → W p l e { frames := 1, cells := 0, slots := 0, locals := 0 } s m args below meth c H locs 0 0 Q (F0 m 27 ls [.int s0, .int s1]) := by
  have hx := E.1
  have hb := E.2.1
  have hts := E.2.2.1
  have hown := E.2.2.2.1
  have hK := E.2.2.2.2
  intro T H locs ls s0 s1 l0 l2 h G hl
  unfold g_X8_activeMics_b27 at h
  refine lv_iadd hx hb dX8_activeMics_27 ?_
  refine lv_topi (fun v2 ev2 => ?_)
  have h := elet_at ev2 h
  clear ev2
  refine lv_istore_n (lv' := [(1, .int v2), (0, .ref (ad l0)), (2, .int l2)]) hx hb dX8_activeMics_28 rfl hl (by decide) rfl (fun ls hl => ?_)
  obtain ⟨v3, ev3, h⟩ := elet_some h
  refine lv_iinc (v := v3) (lv' := [(2, .int v3), (1, .int v2), (0, .ref (ad l0))]) hx hb dX8_activeMics_29 hl (k := 2) rfl ev3.symm (by decide) rfl (fun ls hl => ?_)
  refine lv_goto (tgt := 4) hx hb dX8_activeMics_32 (by decide) ?_
  have hl := lv_sub hl [2, 1, 0] rfl
  exact hk4 _ _ _ _ _ _ _ h G hl
def g_X8_activeMics_b4  : Nat → AT → Nat → Int32 → Int32 → Option (Int32 × AT)
  | 0, _, _, _, _ => none
  | n + 1, T, l0, l1, l2 => oif (oO T l0 8 = true) <| elet (T.2.2.1 l0 0) fun v3 => if v3 ≤ l2 then (some (l1, T)) else (oif (oO T l0 8 = true) <| obind (T.2.2.2.2 l0 3) fun n6 => oif (aA T n6 102 = true) <| oif (inb l2 (T.2.1 n6).2 = true) <| elet (T.2.2.1 n6 l2.toNatClampNeg) fun v9 => if v9 = 0 then (g_X8_activeMics_b27 (g_X8_activeMics_b4 n) T 1 l1 l0 l2) else (g_X8_activeMics_b27 (g_X8_activeMics_b4 n) T 0 l1 l0 l2))
set_option maxHeartbeats 4000000 in
set_option maxRecDepth 100000 in
theorem u_X8_activeMics_b4 {p : Program} {l : Launch} {e : Env} {s : State} {m : MethodId} {args : Array Value} {below : List Frame} {meth : Method} {c : Code} {Q : State → Prop} {D : va_G} {A : Nat → Prop} {cI cJ cZ cMic cSrc cSt cAI cAJ : ClassId} {ad : Nat → Nat} {r1 : Int32} {T1 : AT} (E : cE p c cX8_activeMics s m args (Cond.code yX8_activeMics cX8_activeMics 3 (some .int) :: wsA) D RX8 (CT cI cJ cZ cMic cSrc cSt cAI cAJ)) (hA : ∀ q : Nat, s.heap.size ≤ q → A q) (hX : xT A s) (hN : nX s) (hml : c.maxLocals = 3) (hst : l.stackTraces = false) (kr36 : ∀ (H : Heap) (locs : List Loc) (ls : Array Slot), gC cI cJ cZ cMic cSrc cSt cAI cAJ D ad A s.heap H locs T1 → W p l e { frames := 1, cells := 0, slots := 0, locals := 0 } s m args below meth c H locs 0 0 Q (F0 m 36 ls [.int r1])) : ∀ n : Nat, ∀ (T : AT) (H : Heap) (locs : List Loc) (ls : Array Slot) (l0 : Nat) (l1 : Int32) (l2 : Int32), g_X8_activeMics_b4 n T l0 l1 l2 = some (r1, T1) → gC cI cJ cZ cMic cSrc cSt cAI cAJ D ad A s.heap H locs T → lv_has ls 3 [(0, .ref (ad l0)), (1, .int l1), (2, .int l2)] → W p l e { frames := 1, cells := 0, slots := 0, locals := 0 } s m args below meth c H locs 0 0 Q (F0 m 4 ls []) := by
  have hx := E.1
  have hb := E.2.1
  have hts := E.2.2.1
  have hown := E.2.2.2.1
  have hK := E.2.2.2.2
  intro n
  induction n with
  | zero =>
    intro T H locs ls l0 l1 l2 h
    have h : (none : Option (Int32 × AT)) = some (r1, T1) := h
    cases h
  | succ n ih =>
    intro T H locs ls l0 l1 l2 h G hl
    unfold g_X8_activeMics_b4 at h
    refine lv_iload_n hx hb dX8_activeMics_4 rfl (lv_at hl 2 rfl) ?_
    refine lv_aload_n hx hb dX8_activeMics_5 rfl (lv_at hl 0 rfl) ?_
    obtain ⟨g2, h⟩ := oif_some h
    refine c_get E G l0 0 (oO_k g2).1 (cc_o8 (oO_k g2).2) rfl (fun w h => .tail _ (iA_16 h)) (by decide) (.tail _ qA_63) rfl rfl dX8_activeMics_6 ?_
    refine lv_topi (fun v3 ev3 => ?_)
    have h := elet_at ev3 h
    clear ev3
    refine lv_icmp_ge (tgt := 35) hx hb dX8_activeMics_9 (by decide) (fun c4 => ?_) (fun c4 => ?_)
    · have h := oif_pos c4 h
      refine lv_iload_n hx hb dX8_activeMics_35 rfl (lv_at hl 1 rfl) ?_
      rw [(osome2 h).2] at G
      refine lv_to (osome2 h).1 ?_
      exact kr36 _ _ _ G
    · have h := oif_neg c4 h
      refine lv_iload_n hx hb dX8_activeMics_12 rfl (lv_at hl 1 rfl) ?_
      refine lv_aload_n hx hb dX8_activeMics_13 rfl (lv_at hl 0 rfl) ?_
      obtain ⟨g5, h⟩ := oif_some h
      obtain ⟨n6, en6, h⟩ := obind_some h
      refine c_get E G l0 3 (v := .ref (ad n6)) (oO_k g5).1 (cc_o8 (oO_k g5).2) rfl (fun w h => .tail _ (iA_16 h)) (by decide) (.tail _ qA_64) rfl (by rw [en6]; rfl) dX8_activeMics_14 ?_
      clear en6
      refine lv_iload_n hx hb dX8_activeMics_17 rfl (lv_at hl 2 rfl) ?_
      obtain ⟨g7, h⟩ := oif_some h
      obtain ⟨g8, h⟩ := oif_some h
      refine c_zald E G n6 2 (k := l2.toNatClampNeg) (aA_k g7).1 (cc_a102 (aA_k g7).2.1) rfl (inb_k g8).1 (inb_k g8).2 (aA_k g7).2.2 dX8_activeMics_18 ?_
      refine lv_topi (fun v9 ev9 => ?_)
      have h := elet_at ev9 h
      clear ev9
      refine lv_if_eq (tgt := 26) hx hb dX8_activeMics_19 (by decide) (fun c10 => ?_) (fun c10 => ?_)
      · have h := oif_pos c10 h
        refine lv_iconst (v := 1) hx hb dX8_activeMics_26 (by decide) ?_
        have hl := lv_sub hl [0, 2] rfl
        exact u_X8_activeMics_b27 E hA hX hN hml hst kr36 ih _ _ _ _ _ _ _ _ h G hl
      · have h := oif_neg c10 h
        refine lv_iconst (v := 0) hx hb dX8_activeMics_22 (by decide) ?_
        refine lv_goto (tgt := 27) hx hb dX8_activeMics_23 (by decide) ?_
        have hl := lv_sub hl [0, 2] rfl
        exact u_X8_activeMics_b27 E hA hX hN hml hst kr36 ih _ _ _ _ _ _ _ _ h G hl
def g_X8_activeMics (T : AT) (o : Nat) : Option (Int32 × AT) := g_X8_activeMics_b4 16384 T o 0 0
set_option maxHeartbeats 4000000 in
set_option maxRecDepth 100000 in
theorem u_X8_activeMics (l : Launch) (hst : l.stackTraces = false) (D : va_G) (cI cJ cZ cMic cSrc cSt cAI cAJ : ClassId) (ad : Nat → Nat) (T : AT) (o : Nat) {r1 : Int32} {T1 : AT} (h : g_X8_activeMics T o = some (r1, T1)) : kCi l yX8_activeMics (Cond.code yX8_activeMics cX8_activeMics 3 (some .int) :: wsA) 1 0 cI cJ cZ cMic cSrc cSt cAI cAJ D ad T [.ref (ad o)] (fun r T9 => r = r1 ∧ T9 = T1) := by
  intro sz
  refine Met.ofW (cc := cX8_activeMics) (maxL := 3) (ret := (some .int)) (by decide) rfl ?_
  intro p e s m args below meth c s₁ B hml hv
  obtain ⟨rfl, hsz, hP, hK, hD0, hX, hN⟩ := hv
  have hx := B.exec
  have hb := B.bytes
  have hr := B.returns
  have hts := atoms_spec (ws := (Cond.code yX8_activeMics cX8_activeMics 3 (some .int) :: wsA)) B.pre
  have hown : s.vm.findClass RX8 = some m.cls := findClass_of_methodNamed B.named
  have hlocks := B.notSynchronized
  subst hsz
  have hD := hD0.self (sz := s.heap.size)
  generalize hAe : va_A (cW ad T.1 (cc cI cJ cZ cMic cSrc cSt cAI cAJ ad T)) s.heap.size = A at hD hX ⊢
  have hA : ∀ q : Nat, s.heap.size ≤ q → A q := fun q h => by rw [← hAe]; exact Or.inr h
  have G : gC cI cJ cZ cMic cSrc cSt cAI cAJ D ad A s.heap s.heap [] T := ⟨hP, hD, va_S.rf⟩
  have E : cE p c cX8_activeMics s m ([.ref (ad o)] : List Value).toArray (Cond.code yX8_activeMics cX8_activeMics 3 (some .int) :: wsA) D RX8 (CT cI cJ cZ cMic cSrc cSt cAI cAJ) := ⟨hx, hb, hts, hown, hK⟩
  have hl := lv_entry ([.ref (ad o)]) (n := 3) (Nat.le_of_ble_eq_true rfl)
  rw [lg_entry_eq]
  generalize (lg_sl ([.ref (ad o)]) ++ List.replicate (3 - (lg_sl ([.ref (ad o)])).length) Slot.unset).toArray = ls at hl ⊢
  have hl : lv_has ls 3 [(0, .ref (ad o))] := hl
  unfold g_X8_activeMics at h
  refine lv_iconst (v := 0) hx hb dX8_activeMics_0 (by decide) ?_
  refine lv_istore_n (lv' := [(1, .int 0), (0, .ref (ad o))]) hx hb dX8_activeMics_1 rfl hl (by decide) rfl (fun ls hl => ?_)
  refine lv_iconst (v := 0) hx hb dX8_activeMics_2 (by decide) ?_
  refine lv_istore_n (lv' := [(2, .int 0), (1, .int 0), (0, .ref (ad o))]) hx hb dX8_activeMics_3 rfl hl (by decide) rfl (fun ls hl => ?_)
  have hl := lv_sub hl [2, 1, 0] rfl
  exact u_X8_activeMics_b4 E hA hX hN hml hst (fun H locs ls G => W.iret (v := r1) hx hb hr (fun t ht hW => ⟨⟨r1, T1, rfl, ⟨rfl, rfl⟩, ⟨by rw [ht]; exact G.1, va_K.moved hW.alike hK, G.2.1⟩⟩, G.2.2.F ht⟩) G.2.2.2.2 dX8_activeMics_36) _ _ _ _ _ _ _ _ h G hl
set_option maxHeartbeats 4000000 in
set_option maxRecDepth 100000 in
theorem s_X8_activeMics_b27 {r1 : Int32} {T1 : AT} {k4 : AT → Nat → Int32 → Int32 → Option (Int32 × AT)} (hk4 : ∀ (T : AT) (l0 : Nat) (l1 : Int32) (l2 : Int32), k4 T l0 l1 l2 = some (r1, T1) → SP T T1) : ∀ (T : AT) (s0 : Int32) (s1 : Int32) (l0 : Nat) (l2 : Int32), g_X8_activeMics_b27 k4 T s0 s1 l0 l2 = some (r1, T1) → SP T T1 := by
  intro T s0 s1 l0 l2 h
  have p0 := SP.rf T
  unfold g_X8_activeMics_b27 at h
  obtain ⟨v2, -, h⟩ := elet_some h
  obtain ⟨v3, ev3, h⟩ := elet_some h
  exact SP.tr p0 (hk4 _ _ _ _ h)
set_option maxHeartbeats 4000000 in
set_option maxRecDepth 100000 in
theorem s_X8_activeMics_b4 {r1 : Int32} {T1 : AT} : ∀ n : Nat, ∀ (T : AT) (l0 : Nat) (l1 : Int32) (l2 : Int32), g_X8_activeMics_b4 n T l0 l1 l2 = some (r1, T1) → SP T T1 := by
  intro n
  induction n with
  | zero =>
    intro T l0 l1 l2 h
    have h : (none : Option (Int32 × AT)) = some (r1, T1) := h
    cases h
  | succ n ih =>
    intro T l0 l1 l2 h
    have p0 := SP.rf T
    unfold g_X8_activeMics_b4 at h
    obtain ⟨g2, h⟩ := oif_some h
    obtain ⟨v3, -, h⟩ := elet_some h
    rcases oif_or h with ⟨c4, h⟩ | ⟨c4, h⟩
    · have h := h
      rw [← (osome2 h).2]
      exact p0
    · have h := h
      obtain ⟨g5, h⟩ := oif_some h
      obtain ⟨n6, en6, h⟩ := obind_some h
      obtain ⟨g7, h⟩ := oif_some h
      obtain ⟨g8, h⟩ := oif_some h
      obtain ⟨v9, -, h⟩ := elet_some h
      rcases oif_or h with ⟨c10, h⟩ | ⟨c10, h⟩
      · have h := h
        exact SP.tr p0 (s_X8_activeMics_b27 ih _ _ _ _ _ h)
      · have h := h
        exact SP.tr p0 (s_X8_activeMics_b27 ih _ _ _ _ _ h)
set_option maxHeartbeats 4000000 in
set_option maxRecDepth 100000 in
theorem s_X8_activeMics {T : AT} {o : Nat} {r1 : Int32} {T1 : AT} (h : g_X8_activeMics T o = some (r1, T1)) : SP T T1 := by
  have p0 := SP.rf T
  unfold g_X8_activeMics at h
  exact SP.tr p0 (s_X8_activeMics_b4 _ _ _ _ _ h)
def g_X8_activeWeight_b32 (k4 : AT → Nat → Int32 → Int32 → Option (Int32 × AT)) (T : AT) (s0 : Int32) (s1 : Int32) (l0 : Nat) (l2 : Int32) : Option (Int32 × AT) := elet (s1 + s0) fun v2 => elet (l2 + Int32.ofInt (1)) fun v3 => k4 T l0 v2 v3
set_option maxHeartbeats 4000000 in
set_option maxRecDepth 100000 in
theorem u_X8_activeWeight_b32 {p : Program} {l : Launch} {e : Env} {s : State} {m : MethodId} {args : Array Value} {below : List Frame} {meth : Method} {c : Code} {Q : State → Prop} {D : va_G} {A : Nat → Prop} {cI cJ cZ cMic cSrc cSt cAI cAJ : ClassId} {ad : Nat → Nat} {r1 : Int32} {T1 : AT} (E : cE p c cX8_activeWeight s m args (Cond.code yX8_activeWeight cX8_activeWeight 3 (some .int) :: wsA) D RX8 (CT cI cJ cZ cMic cSrc cSt cAI cAJ)) (hA : ∀ q : Nat, s.heap.size ≤ q → A q) (hX : xT A s) (hN : nX s) (hml : c.maxLocals = 3) (hst : l.stackTraces = false) (kr41 : ∀ (H : Heap) (locs : List Loc) (ls : Array Slot), gC cI cJ cZ cMic cSrc cSt cAI cAJ D ad A s.heap H locs T1 → W p l e { frames := 1, cells := 0, slots := 0, locals := 0 } s m args below meth c H locs 0 0 Q (F0 m 41 ls [.int r1])) {k4 : AT → Nat → Int32 → Int32 → Option (Int32 × AT)} (hk4 : ∀ (T : AT) (H : Heap) (locs : List Loc) (ls : Array Slot) (l0 : Nat) (l1 : Int32) (l2 : Int32), k4 T l0 l1 l2 = some (r1, T1) → gC cI cJ cZ cMic cSrc cSt cAI cAJ D ad A s.heap H locs T → lv_has ls 3 [(0, .ref (ad l0)), (1, .int l1), (2, .int l2)] → W p l e { frames := 1, cells := 0, slots := 0, locals := 0 } s m args below meth c H locs 0 0 Q (F0 m 4 ls [])) : ∀ (T : AT) (H : Heap) (locs : List Loc) (ls : Array Slot) (s0 : Int32) (s1 : Int32) (l0 : Nat) (l2 : Int32), g_X8_activeWeight_b32 k4 T s0 s1 l0 l2 = some (r1, T1) → gC cI cJ cZ cMic cSrc cSt cAI cAJ D ad A s.heap H locs T → lv_has ls 3 [(0, .ref (ad l0)), (2, .int l2)] → W p l e { frames := 1, cells := 0, slots := 0, locals := 0 } s m args below meth c H locs 0 0 Q (F0 m 32 ls [.int s0, .int s1]) := by
  have hx := E.1
  have hb := E.2.1
  have hts := E.2.2.1
  have hown := E.2.2.2.1
  have hK := E.2.2.2.2
  intro T H locs ls s0 s1 l0 l2 h G hl
  unfold g_X8_activeWeight_b32 at h
  refine lv_iadd hx hb dX8_activeWeight_32 ?_
  refine lv_topi (fun v2 ev2 => ?_)
  have h := elet_at ev2 h
  clear ev2
  refine lv_istore_n (lv' := [(1, .int v2), (0, .ref (ad l0)), (2, .int l2)]) hx hb dX8_activeWeight_33 rfl hl (by decide) rfl (fun ls hl => ?_)
  obtain ⟨v3, ev3, h⟩ := elet_some h
  refine lv_iinc (v := v3) (lv' := [(2, .int v3), (1, .int v2), (0, .ref (ad l0))]) hx hb dX8_activeWeight_34 hl (k := 2) rfl ev3.symm (by decide) rfl (fun ls hl => ?_)
  refine lv_goto (tgt := 4) hx hb dX8_activeWeight_37 (by decide) ?_
  have hl := lv_sub hl [2, 1, 0] rfl
  exact hk4 _ _ _ _ _ _ _ h G hl
def g_X8_activeWeight_b4  : Nat → AT → Nat → Int32 → Int32 → Option (Int32 × AT)
  | 0, _, _, _, _ => none
  | n + 1, T, l0, l1, l2 => oif (oO T l0 8 = true) <| elet (T.2.2.1 l0 0) fun v3 => if v3 ≤ l2 then (some (l1, T)) else (oif (oO T l0 8 = true) <| obind (T.2.2.2.2 l0 3) fun n6 => oif (aA T n6 102 = true) <| oif (inb l2 (T.2.1 n6).2 = true) <| elet (T.2.2.1 n6 l2.toNatClampNeg) fun v9 => if v9 = 0 then (oif (oO T l0 8 = true) <| obind (T.2.2.2.2 l0 4) fun n12 => oif (aA T n12 100 = true) <| oif (inb l2 (T.2.1 n12).2 = true) <| elet (T.2.2.1 n12 l2.toNatClampNeg) fun v15 => g_X8_activeWeight_b32 (g_X8_activeWeight_b4 n) T v15 l1 l0 l2) else (g_X8_activeWeight_b32 (g_X8_activeWeight_b4 n) T 0 l1 l0 l2))
set_option maxHeartbeats 4000000 in
set_option maxRecDepth 100000 in
theorem u_X8_activeWeight_b4 {p : Program} {l : Launch} {e : Env} {s : State} {m : MethodId} {args : Array Value} {below : List Frame} {meth : Method} {c : Code} {Q : State → Prop} {D : va_G} {A : Nat → Prop} {cI cJ cZ cMic cSrc cSt cAI cAJ : ClassId} {ad : Nat → Nat} {r1 : Int32} {T1 : AT} (E : cE p c cX8_activeWeight s m args (Cond.code yX8_activeWeight cX8_activeWeight 3 (some .int) :: wsA) D RX8 (CT cI cJ cZ cMic cSrc cSt cAI cAJ)) (hA : ∀ q : Nat, s.heap.size ≤ q → A q) (hX : xT A s) (hN : nX s) (hml : c.maxLocals = 3) (hst : l.stackTraces = false) (kr41 : ∀ (H : Heap) (locs : List Loc) (ls : Array Slot), gC cI cJ cZ cMic cSrc cSt cAI cAJ D ad A s.heap H locs T1 → W p l e { frames := 1, cells := 0, slots := 0, locals := 0 } s m args below meth c H locs 0 0 Q (F0 m 41 ls [.int r1])) : ∀ n : Nat, ∀ (T : AT) (H : Heap) (locs : List Loc) (ls : Array Slot) (l0 : Nat) (l1 : Int32) (l2 : Int32), g_X8_activeWeight_b4 n T l0 l1 l2 = some (r1, T1) → gC cI cJ cZ cMic cSrc cSt cAI cAJ D ad A s.heap H locs T → lv_has ls 3 [(0, .ref (ad l0)), (1, .int l1), (2, .int l2)] → W p l e { frames := 1, cells := 0, slots := 0, locals := 0 } s m args below meth c H locs 0 0 Q (F0 m 4 ls []) := by
  have hx := E.1
  have hb := E.2.1
  have hts := E.2.2.1
  have hown := E.2.2.2.1
  have hK := E.2.2.2.2
  intro n
  induction n with
  | zero =>
    intro T H locs ls l0 l1 l2 h
    have h : (none : Option (Int32 × AT)) = some (r1, T1) := h
    cases h
  | succ n ih =>
    intro T H locs ls l0 l1 l2 h G hl
    unfold g_X8_activeWeight_b4 at h
    refine lv_iload_n hx hb dX8_activeWeight_4 rfl (lv_at hl 2 rfl) ?_
    refine lv_aload_n hx hb dX8_activeWeight_5 rfl (lv_at hl 0 rfl) ?_
    obtain ⟨g2, h⟩ := oif_some h
    refine c_get E G l0 0 (oO_k g2).1 (cc_o8 (oO_k g2).2) rfl (fun w h => .tail _ (iA_16 h)) (by decide) (.tail _ qA_63) rfl rfl dX8_activeWeight_6 ?_
    refine lv_topi (fun v3 ev3 => ?_)
    have h := elet_at ev3 h
    clear ev3
    refine lv_icmp_ge (tgt := 40) hx hb dX8_activeWeight_9 (by decide) (fun c4 => ?_) (fun c4 => ?_)
    · have h := oif_pos c4 h
      refine lv_iload_n hx hb dX8_activeWeight_40 rfl (lv_at hl 1 rfl) ?_
      rw [(osome2 h).2] at G
      refine lv_to (osome2 h).1 ?_
      exact kr41 _ _ _ G
    · have h := oif_neg c4 h
      refine lv_iload_n hx hb dX8_activeWeight_12 rfl (lv_at hl 1 rfl) ?_
      refine lv_aload_n hx hb dX8_activeWeight_13 rfl (lv_at hl 0 rfl) ?_
      obtain ⟨g5, h⟩ := oif_some h
      obtain ⟨n6, en6, h⟩ := obind_some h
      refine c_get E G l0 3 (v := .ref (ad n6)) (oO_k g5).1 (cc_o8 (oO_k g5).2) rfl (fun w h => .tail _ (iA_16 h)) (by decide) (.tail _ qA_64) rfl (by rw [en6]; rfl) dX8_activeWeight_14 ?_
      clear en6
      refine lv_iload_n hx hb dX8_activeWeight_17 rfl (lv_at hl 2 rfl) ?_
      obtain ⟨g7, h⟩ := oif_some h
      obtain ⟨g8, h⟩ := oif_some h
      refine c_zald E G n6 2 (k := l2.toNatClampNeg) (aA_k g7).1 (cc_a102 (aA_k g7).2.1) rfl (inb_k g8).1 (inb_k g8).2 (aA_k g7).2.2 dX8_activeWeight_18 ?_
      refine lv_topi (fun v9 ev9 => ?_)
      have h := elet_at ev9 h
      clear ev9
      refine lv_if_eq (tgt := 26) hx hb dX8_activeWeight_19 (by decide) (fun c10 => ?_) (fun c10 => ?_)
      · have h := oif_pos c10 h
        refine lv_aload_n hx hb dX8_activeWeight_26 rfl (lv_at hl 0 rfl) ?_
        obtain ⟨g11, h⟩ := oif_some h
        obtain ⟨n12, en12, h⟩ := obind_some h
        refine c_get E G l0 4 (v := .ref (ad n12)) (oO_k g11).1 (cc_o8 (oO_k g11).2) rfl (fun w h => .tail _ (iA_16 h)) (by decide) (.tail _ qA_86) rfl (by rw [en12]; rfl) dX8_activeWeight_27 ?_
        clear en12
        refine lv_iload_n hx hb dX8_activeWeight_30 rfl (lv_at hl 2 rfl) ?_
        obtain ⟨g13, h⟩ := oif_some h
        obtain ⟨g14, h⟩ := oif_some h
        refine c_iald E G n12 0 (k := l2.toNatClampNeg) (aA_k g13).1 (cc_a100 (aA_k g13).2.1) rfl (inb_k g14).1 (inb_k g14).2 (aA_k g13).2.2 dX8_activeWeight_31 ?_
        refine lv_topi (fun v15 ev15 => ?_)
        have h := elet_at ev15 h
        clear ev15
        have hl := lv_sub hl [0, 2] rfl
        exact u_X8_activeWeight_b32 E hA hX hN hml hst kr41 ih _ _ _ _ _ _ _ _ h G hl
      · have h := oif_neg c10 h
        refine lv_iconst (v := 0) hx hb dX8_activeWeight_22 (by decide) ?_
        refine lv_goto (tgt := 32) hx hb dX8_activeWeight_23 (by decide) ?_
        have hl := lv_sub hl [0, 2] rfl
        exact u_X8_activeWeight_b32 E hA hX hN hml hst kr41 ih _ _ _ _ _ _ _ _ h G hl
def g_X8_activeWeight (T : AT) (o : Nat) : Option (Int32 × AT) := g_X8_activeWeight_b4 16384 T o 0 0
set_option maxHeartbeats 4000000 in
set_option maxRecDepth 100000 in
theorem u_X8_activeWeight (l : Launch) (hst : l.stackTraces = false) (D : va_G) (cI cJ cZ cMic cSrc cSt cAI cAJ : ClassId) (ad : Nat → Nat) (T : AT) (o : Nat) {r1 : Int32} {T1 : AT} (h : g_X8_activeWeight T o = some (r1, T1)) : kCi l yX8_activeWeight (Cond.code yX8_activeWeight cX8_activeWeight 3 (some .int) :: wsA) 1 0 cI cJ cZ cMic cSrc cSt cAI cAJ D ad T [.ref (ad o)] (fun r T9 => r = r1 ∧ T9 = T1) := by
  intro sz
  refine Met.ofW (cc := cX8_activeWeight) (maxL := 3) (ret := (some .int)) (by decide) rfl ?_
  intro p e s m args below meth c s₁ B hml hv
  obtain ⟨rfl, hsz, hP, hK, hD0, hX, hN⟩ := hv
  have hx := B.exec
  have hb := B.bytes
  have hr := B.returns
  have hts := atoms_spec (ws := (Cond.code yX8_activeWeight cX8_activeWeight 3 (some .int) :: wsA)) B.pre
  have hown : s.vm.findClass RX8 = some m.cls := findClass_of_methodNamed B.named
  have hlocks := B.notSynchronized
  subst hsz
  have hD := hD0.self (sz := s.heap.size)
  generalize hAe : va_A (cW ad T.1 (cc cI cJ cZ cMic cSrc cSt cAI cAJ ad T)) s.heap.size = A at hD hX ⊢
  have hA : ∀ q : Nat, s.heap.size ≤ q → A q := fun q h => by rw [← hAe]; exact Or.inr h
  have G : gC cI cJ cZ cMic cSrc cSt cAI cAJ D ad A s.heap s.heap [] T := ⟨hP, hD, va_S.rf⟩
  have E : cE p c cX8_activeWeight s m ([.ref (ad o)] : List Value).toArray (Cond.code yX8_activeWeight cX8_activeWeight 3 (some .int) :: wsA) D RX8 (CT cI cJ cZ cMic cSrc cSt cAI cAJ) := ⟨hx, hb, hts, hown, hK⟩
  have hl := lv_entry ([.ref (ad o)]) (n := 3) (Nat.le_of_ble_eq_true rfl)
  rw [lg_entry_eq]
  generalize (lg_sl ([.ref (ad o)]) ++ List.replicate (3 - (lg_sl ([.ref (ad o)])).length) Slot.unset).toArray = ls at hl ⊢
  have hl : lv_has ls 3 [(0, .ref (ad o))] := hl
  unfold g_X8_activeWeight at h
  refine lv_iconst (v := 0) hx hb dX8_activeWeight_0 (by decide) ?_
  refine lv_istore_n (lv' := [(1, .int 0), (0, .ref (ad o))]) hx hb dX8_activeWeight_1 rfl hl (by decide) rfl (fun ls hl => ?_)
  refine lv_iconst (v := 0) hx hb dX8_activeWeight_2 (by decide) ?_
  refine lv_istore_n (lv' := [(2, .int 0), (1, .int 0), (0, .ref (ad o))]) hx hb dX8_activeWeight_3 rfl hl (by decide) rfl (fun ls hl => ?_)
  have hl := lv_sub hl [2, 1, 0] rfl
  exact u_X8_activeWeight_b4 E hA hX hN hml hst (fun H locs ls G => W.iret (v := r1) hx hb hr (fun t ht hW => ⟨⟨r1, T1, rfl, ⟨rfl, rfl⟩, ⟨by rw [ht]; exact G.1, va_K.moved hW.alike hK, G.2.1⟩⟩, G.2.2.F ht⟩) G.2.2.2.2 dX8_activeWeight_41) _ _ _ _ _ _ _ _ h G hl
set_option maxHeartbeats 4000000 in
set_option maxRecDepth 100000 in
theorem s_X8_activeWeight_b32 {r1 : Int32} {T1 : AT} {k4 : AT → Nat → Int32 → Int32 → Option (Int32 × AT)} (hk4 : ∀ (T : AT) (l0 : Nat) (l1 : Int32) (l2 : Int32), k4 T l0 l1 l2 = some (r1, T1) → SP T T1) : ∀ (T : AT) (s0 : Int32) (s1 : Int32) (l0 : Nat) (l2 : Int32), g_X8_activeWeight_b32 k4 T s0 s1 l0 l2 = some (r1, T1) → SP T T1 := by
  intro T s0 s1 l0 l2 h
  have p0 := SP.rf T
  unfold g_X8_activeWeight_b32 at h
  obtain ⟨v2, -, h⟩ := elet_some h
  obtain ⟨v3, ev3, h⟩ := elet_some h
  exact SP.tr p0 (hk4 _ _ _ _ h)
set_option maxHeartbeats 4000000 in
set_option maxRecDepth 100000 in
theorem s_X8_activeWeight_b4 {r1 : Int32} {T1 : AT} : ∀ n : Nat, ∀ (T : AT) (l0 : Nat) (l1 : Int32) (l2 : Int32), g_X8_activeWeight_b4 n T l0 l1 l2 = some (r1, T1) → SP T T1 := by
  intro n
  induction n with
  | zero =>
    intro T l0 l1 l2 h
    have h : (none : Option (Int32 × AT)) = some (r1, T1) := h
    cases h
  | succ n ih =>
    intro T l0 l1 l2 h
    have p0 := SP.rf T
    unfold g_X8_activeWeight_b4 at h
    obtain ⟨g2, h⟩ := oif_some h
    obtain ⟨v3, -, h⟩ := elet_some h
    rcases oif_or h with ⟨c4, h⟩ | ⟨c4, h⟩
    · have h := h
      rw [← (osome2 h).2]
      exact p0
    · have h := h
      obtain ⟨g5, h⟩ := oif_some h
      obtain ⟨n6, en6, h⟩ := obind_some h
      obtain ⟨g7, h⟩ := oif_some h
      obtain ⟨g8, h⟩ := oif_some h
      obtain ⟨v9, -, h⟩ := elet_some h
      rcases oif_or h with ⟨c10, h⟩ | ⟨c10, h⟩
      · have h := h
        obtain ⟨g11, h⟩ := oif_some h
        obtain ⟨n12, en12, h⟩ := obind_some h
        obtain ⟨g13, h⟩ := oif_some h
        obtain ⟨g14, h⟩ := oif_some h
        obtain ⟨v15, -, h⟩ := elet_some h
        exact SP.tr p0 (s_X8_activeWeight_b32 ih _ _ _ _ _ h)
      · have h := h
        exact SP.tr p0 (s_X8_activeWeight_b32 ih _ _ _ _ _ h)
set_option maxHeartbeats 4000000 in
set_option maxRecDepth 100000 in
theorem s_X8_activeWeight {T : AT} {o : Nat} {r1 : Int32} {T1 : AT} (h : g_X8_activeWeight T o = some (r1, T1)) : SP T T1 := by
  have p0 := SP.rf T
  unfold g_X8_activeWeight at h
  exact SP.tr p0 (s_X8_activeWeight_b4 _ _ _ _ _ h)
def g_X8_smallestDelay_b33 (k8 : AT → Nat → Nat → Int32 → Int32 → Option (Int32 × AT)) (T : AT) (l0 : Nat) (l1 : Nat) (l2 : Int32) (l3 : Int32) : Option (Int32 × AT) := elet (l3 + Int32.ofInt (1)) fun v2 => k8 T l0 l1 l2 v2
set_option maxHeartbeats 4000000 in
set_option maxRecDepth 100000 in
theorem u_X8_smallestDelay_b33 {p : Program} {l : Launch} {e : Env} {s : State} {m : MethodId} {args : Array Value} {below : List Frame} {meth : Method} {c : Code} {Q : State → Prop} {D : va_G} {A : Nat → Prop} {cI cJ cZ cMic cSrc cSt cAI cAJ : ClassId} {ad : Nat → Nat} {r1 : Int32} {T1 : AT} (E : cE p c cX8_smallestDelay s m args (Cond.code yX8_smallestDelay cX8_smallestDelay 4 (some .int) :: wsA) D RX8 (CT cI cJ cZ cMic cSrc cSt cAI cAJ)) (hA : ∀ q : Nat, s.heap.size ≤ q → A q) (hX : xT A s) (hN : nX s) (hml : c.maxLocals = 4) (hst : l.stackTraces = false) (kr40 : ∀ (H : Heap) (locs : List Loc) (ls : Array Slot), gC cI cJ cZ cMic cSrc cSt cAI cAJ D ad A s.heap H locs T1 → W p l e { frames := 2, cells := 0, slots := 0, locals := 38 } s m args below meth c H locs 0 0 Q (F0 m 40 ls [.int r1])) {k8 : AT → Nat → Nat → Int32 → Int32 → Option (Int32 × AT)} (hk8 : ∀ (T : AT) (H : Heap) (locs : List Loc) (ls : Array Slot) (l0 : Nat) (l1 : Nat) (l2 : Int32) (l3 : Int32), k8 T l0 l1 l2 l3 = some (r1, T1) → gC cI cJ cZ cMic cSrc cSt cAI cAJ D ad A s.heap H locs T → lv_has ls 4 [(0, .ref (ad l0)), (1, .ref (ad l1)), (2, .int l2), (3, .int l3)] → W p l e { frames := 2, cells := 0, slots := 0, locals := 38 } s m args below meth c H locs 0 0 Q (F0 m 8 ls [])) : ∀ (T : AT) (H : Heap) (locs : List Loc) (ls : Array Slot) (l0 : Nat) (l1 : Nat) (l2 : Int32) (l3 : Int32), g_X8_smallestDelay_b33 k8 T l0 l1 l2 l3 = some (r1, T1) → gC cI cJ cZ cMic cSrc cSt cAI cAJ D ad A s.heap H locs T → lv_has ls 4 [(0, .ref (ad l0)), (1, .ref (ad l1)), (2, .int l2), (3, .int l3)] → W p l e { frames := 2, cells := 0, slots := 0, locals := 38 } s m args below meth c H locs 0 0 Q (F0 m 33 ls []) := by
  have hx := E.1
  have hb := E.2.1
  have hts := E.2.2.1
  have hown := E.2.2.2.1
  have hK := E.2.2.2.2
  intro T H locs ls l0 l1 l2 l3 h G hl
  unfold g_X8_smallestDelay_b33 at h
  obtain ⟨v2, ev2, h⟩ := elet_some h
  refine lv_iinc (v := v2) (lv' := [(3, .int v2), (0, .ref (ad l0)), (1, .ref (ad l1)), (2, .int l2)]) hx hb dX8_smallestDelay_33 hl (k := 3) rfl ev2.symm (by decide) rfl (fun ls hl => ?_)
  refine lv_goto (tgt := 8) hx hb dX8_smallestDelay_36 (by decide) ?_
  have hl := lv_sub hl [1, 2, 3, 0] rfl
  exact hk8 _ _ _ _ _ _ _ _ h G hl
def g_X8_smallestDelay_b8  : Nat → AT → Nat → Nat → Int32 → Int32 → Option (Int32 × AT)
  | 0, _, _, _, _, _ => none
  | n + 1, T, l0, l1, l2, l3 => oif (oO T l0 8 = true) <| elet (T.2.2.1 l0 0) fun v3 => if v3 ≤ l3 then (some (l2, T)) else (oif (oO T l0 8 = true) <| obind (T.2.2.2.2 l0 3) fun n6 => oif (aA T n6 102 = true) <| oif (inb l3 (T.2.1 n6).2 = true) <| elet (T.2.2.1 n6 l3.toNatClampNeg) fun v9 => if v9 = 0 then (oif (aA T l1 100 = true) <| oif (inb l3 (T.2.1 l1).2 = true) <| elet (T.2.2.1 l1 l3.toNatClampNeg) fun v13 => elet (if v13 < l2 then v13 else l2) fun v14 => g_X8_smallestDelay_b33 (g_X8_smallestDelay_b8 n) T l0 l1 v14 l3) else (g_X8_smallestDelay_b33 (g_X8_smallestDelay_b8 n) T l0 l1 l2 l3))
set_option maxHeartbeats 4000000 in
set_option maxRecDepth 100000 in
theorem u_X8_smallestDelay_b8 {p : Program} {l : Launch} {e : Env} {s : State} {m : MethodId} {args : Array Value} {below : List Frame} {meth : Method} {c : Code} {Q : State → Prop} {D : va_G} {A : Nat → Prop} {cI cJ cZ cMic cSrc cSt cAI cAJ : ClassId} {ad : Nat → Nat} {r1 : Int32} {T1 : AT} (E : cE p c cX8_smallestDelay s m args (Cond.code yX8_smallestDelay cX8_smallestDelay 4 (some .int) :: wsA) D RX8 (CT cI cJ cZ cMic cSrc cSt cAI cAJ)) (hA : ∀ q : Nat, s.heap.size ≤ q → A q) (hX : xT A s) (hN : nX s) (hml : c.maxLocals = 4) (hst : l.stackTraces = false) (kr40 : ∀ (H : Heap) (locs : List Loc) (ls : Array Slot), gC cI cJ cZ cMic cSrc cSt cAI cAJ D ad A s.heap H locs T1 → W p l e { frames := 2, cells := 0, slots := 0, locals := 38 } s m args below meth c H locs 0 0 Q (F0 m 40 ls [.int r1])) : ∀ n : Nat, ∀ (T : AT) (H : Heap) (locs : List Loc) (ls : Array Slot) (l0 : Nat) (l1 : Nat) (l2 : Int32) (l3 : Int32), g_X8_smallestDelay_b8 n T l0 l1 l2 l3 = some (r1, T1) → gC cI cJ cZ cMic cSrc cSt cAI cAJ D ad A s.heap H locs T → lv_has ls 4 [(0, .ref (ad l0)), (1, .ref (ad l1)), (2, .int l2), (3, .int l3)] → W p l e { frames := 2, cells := 0, slots := 0, locals := 38 } s m args below meth c H locs 0 0 Q (F0 m 8 ls []) := by
  have hx := E.1
  have hb := E.2.1
  have hts := E.2.2.1
  have hown := E.2.2.2.1
  have hK := E.2.2.2.2
  intro n
  induction n with
  | zero =>
    intro T H locs ls l0 l1 l2 l3 h
    have h : (none : Option (Int32 × AT)) = some (r1, T1) := h
    cases h
  | succ n ih =>
    intro T H locs ls l0 l1 l2 l3 h G hl
    unfold g_X8_smallestDelay_b8 at h
    refine lv_iload_n hx hb dX8_smallestDelay_8 rfl (lv_at hl 3 rfl) ?_
    refine lv_aload_n hx hb dX8_smallestDelay_9 rfl (lv_at hl 0 rfl) ?_
    obtain ⟨g2, h⟩ := oif_some h
    refine c_get E G l0 0 (oO_k g2).1 (cc_o8 (oO_k g2).2) rfl (fun w h => .tail _ (iA_16 h)) (by decide) (.tail _ qA_63) rfl rfl dX8_smallestDelay_10 ?_
    refine lv_topi (fun v3 ev3 => ?_)
    have h := elet_at ev3 h
    clear ev3
    refine lv_icmp_ge (tgt := 39) hx hb dX8_smallestDelay_13 (by decide) (fun c4 => ?_) (fun c4 => ?_)
    · have h := oif_pos c4 h
      refine lv_iload_n hx hb dX8_smallestDelay_39 rfl (lv_at hl 2 rfl) ?_
      rw [(osome2 h).2] at G
      refine lv_to (osome2 h).1 ?_
      exact kr40 _ _ _ G
    · have h := oif_neg c4 h
      refine lv_aload_n hx hb dX8_smallestDelay_16 rfl (lv_at hl 0 rfl) ?_
      obtain ⟨g5, h⟩ := oif_some h
      obtain ⟨n6, en6, h⟩ := obind_some h
      refine c_get E G l0 3 (v := .ref (ad n6)) (oO_k g5).1 (cc_o8 (oO_k g5).2) rfl (fun w h => .tail _ (iA_16 h)) (by decide) (.tail _ qA_64) rfl (by rw [en6]; rfl) dX8_smallestDelay_17 ?_
      clear en6
      refine lv_iload_n hx hb dX8_smallestDelay_20 rfl (lv_at hl 3 rfl) ?_
      obtain ⟨g7, h⟩ := oif_some h
      obtain ⟨g8, h⟩ := oif_some h
      refine c_zald E G n6 2 (k := l3.toNatClampNeg) (aA_k g7).1 (cc_a102 (aA_k g7).2.1) rfl (inb_k g8).1 (inb_k g8).2 (aA_k g7).2.2 dX8_smallestDelay_21 ?_
      refine lv_topi (fun v9 ev9 => ?_)
      have h := elet_at ev9 h
      clear ev9
      refine lv_if_ne (tgt := 33) hx hb dX8_smallestDelay_22 (by decide) (fun c10 => ?_) (fun c10 => ?_)
      · have h := oif_neg c10 h
        have hl := lv_sub hl [0, 1, 2, 3] rfl
        exact u_X8_smallestDelay_b33 E hA hX hN hml hst kr40 ih _ _ _ _ _ _ _ _ h G hl
      · have h := oif_pos c10 h
        refine lv_iload_n hx hb dX8_smallestDelay_25 rfl (lv_at hl 2 rfl) ?_
        refine lv_aload_n hx hb dX8_smallestDelay_26 rfl (lv_at hl 1 rfl) ?_
        refine lv_iload_n hx hb dX8_smallestDelay_27 rfl (lv_at hl 3 rfl) ?_
        obtain ⟨g11, h⟩ := oif_some h
        obtain ⟨g12, h⟩ := oif_some h
        refine c_iald E G l1 0 (k := l3.toNatClampNeg) (aA_k g11).1 (cc_a100 (aA_k g11).2.1) rfl (inb_k g12).1 (inb_k g12).2 (aA_k g11).2.2 dX8_smallestDelay_28 ?_
        refine lv_topi (fun v13 ev13 => ?_)
        have h := elet_at ev13 h
        clear ev13
        refine va_mmin hx hb (hml.trans hl.1.symm) hown (hts _ (.tail _ qA_49)) (hts _ (.tail _ qA_50)) (hts _ (.tail _ qA_18)) (hts _ (.tail _ qA_51)) (Nat.le_of_ble_eq_true rfl) (Nat.le_of_ble_eq_true rfl) (Nat.zero_le _) (Nat.zero_le _) dX8_smallestDelay_29 ?_
        refine lv_topi (fun v14 ev14 => ?_)
        have h := elet_at ev14 h
        clear ev14
        refine lv_istore_n (lv' := [(2, .int v14), (0, .ref (ad l0)), (1, .ref (ad l1)), (3, .int l3)]) hx hb dX8_smallestDelay_32 rfl hl (by decide) rfl (fun ls hl => ?_)
        have hl := lv_sub hl [1, 2, 0, 3] rfl
        exact u_X8_smallestDelay_b33 E hA hX hN hml hst kr40 ih _ _ _ _ _ _ _ _ h G hl
def g_X8_smallestDelay (T : AT) (o : Nat) (a0 : Nat) : Option (Int32 × AT) := oif (oO T o 8 = true) <| obind2 (g_X8_greatestDelay T o a0) fun r5 T3 => g_X8_smallestDelay_b8 16384 T3 o a0 r5 0
set_option maxHeartbeats 4000000 in
set_option maxRecDepth 100000 in
theorem u_X8_smallestDelay (l : Launch) (hst : l.stackTraces = false) (D : va_G) (cI cJ cZ cMic cSrc cSt cAI cAJ : ClassId) (ad : Nat → Nat) (T : AT) (o : Nat) (a0 : Nat) {r1 : Int32} {T1 : AT} (h : g_X8_smallestDelay T o a0 = some (r1, T1)) : kCi l yX8_smallestDelay (Cond.code yX8_smallestDelay cX8_smallestDelay 4 (some .int) :: wsA) 2 38 cI cJ cZ cMic cSrc cSt cAI cAJ D ad T [.ref (ad o), .ref (ad a0)] (fun r T9 => r = r1 ∧ T9 = T1) := by
  intro sz
  refine Met.ofW (cc := cX8_smallestDelay) (maxL := 4) (ret := (some .int)) (by decide) rfl ?_
  intro p e s m args below meth c s₁ B hml hv
  obtain ⟨rfl, hsz, hP, hK, hD0, hX, hN⟩ := hv
  have hx := B.exec
  have hb := B.bytes
  have hr := B.returns
  have hts := atoms_spec (ws := (Cond.code yX8_smallestDelay cX8_smallestDelay 4 (some .int) :: wsA)) B.pre
  have hown : s.vm.findClass RX8 = some m.cls := findClass_of_methodNamed B.named
  have hlocks := B.notSynchronized
  subst hsz
  have hD := hD0.self (sz := s.heap.size)
  generalize hAe : va_A (cW ad T.1 (cc cI cJ cZ cMic cSrc cSt cAI cAJ ad T)) s.heap.size = A at hD hX ⊢
  have hA : ∀ q : Nat, s.heap.size ≤ q → A q := fun q h => by rw [← hAe]; exact Or.inr h
  have G : gC cI cJ cZ cMic cSrc cSt cAI cAJ D ad A s.heap s.heap [] T := ⟨hP, hD, va_S.rf⟩
  have E : cE p c cX8_smallestDelay s m ([.ref (ad o), .ref (ad a0)] : List Value).toArray (Cond.code yX8_smallestDelay cX8_smallestDelay 4 (some .int) :: wsA) D RX8 (CT cI cJ cZ cMic cSrc cSt cAI cAJ) := ⟨hx, hb, hts, hown, hK⟩
  have hl := lv_entry ([.ref (ad o), .ref (ad a0)]) (n := 4) (Nat.le_of_ble_eq_true rfl)
  rw [lg_entry_eq]
  generalize (lg_sl ([.ref (ad o), .ref (ad a0)]) ++ List.replicate (4 - (lg_sl ([.ref (ad o), .ref (ad a0)])).length) Slot.unset).toArray = ls at hl ⊢
  have hl : lv_has ls 4 [(0, .ref (ad o)), (1, .ref (ad a0))] := hl
  unfold g_X8_smallestDelay at h
  refine lv_aload_n hx hb dX8_smallestDelay_0 rfl (lv_at hl 0 rfl) ?_
  refine lv_aload_n hx hb dX8_smallestDelay_1 rfl (lv_at hl 1 rfl) ?_
  obtain ⟨g2, h⟩ := oif_some h
  obtain ⟨r5, T3, eT3, h⟩ := obind2_some h
  refine q_cvi (As := [.ref (ad a0)]) (rest := []) E G hA hX hN hml (u_X8_greatestDelay l hst D cI cJ cZ cMic cSrc cSt cAI cAJ ad T o a0 eT3) (cwV 1 hts (gaV qA_59 qA_60 qA_61 qA_47 qA_62) rfl rfl rfl (by decide +kernel) ⟨Nat.le_of_ble_eq_true rfl, Nat.le_of_ble_eq_true rfl⟩) (oO_k g2).1 (cc_o8 (oO_k g2).2) rfl rfl hl.1 rfl (lv_room (Nat.le_of_ble_eq_true rfl)) dX8_smallestDelay_2 ⟨Nat.zero_le _, Nat.zero_le _⟩ (fun q6 T4 H locs hq G => ?_)
  obtain ⟨hq1, hq2⟩ := hq
  rw [hq2] at G
  refine lv_to hq1 ?_
  clear hq1 hq2 eT3
  refine lv_istore_n (lv' := [(2, .int r5), (0, .ref (ad o)), (1, .ref (ad a0))]) hx hb dX8_smallestDelay_5 rfl hl (by decide) rfl (fun ls hl => ?_)
  refine lv_iconst (v := 0) hx hb dX8_smallestDelay_6 (by decide) ?_
  refine lv_istore_n (lv' := [(3, .int 0), (2, .int r5), (0, .ref (ad o)), (1, .ref (ad a0))]) hx hb dX8_smallestDelay_7 rfl hl (by decide) rfl (fun ls hl => ?_)
  have hl := lv_sub hl [2, 3, 1, 0] rfl
  exact u_X8_smallestDelay_b8 E hA hX hN hml hst (fun H locs ls G => W.iret (v := r1) hx hb hr (fun t ht hW => ⟨⟨r1, T1, rfl, ⟨rfl, rfl⟩, ⟨by rw [ht]; exact G.1, va_K.moved hW.alike hK, G.2.1⟩⟩, G.2.2.F ht⟩) G.2.2.2.2 dX8_smallestDelay_40) _ _ _ _ _ _ _ _ _ h G hl
set_option maxHeartbeats 4000000 in
set_option maxRecDepth 100000 in
theorem s_X8_smallestDelay_b33 {r1 : Int32} {T1 : AT} {k8 : AT → Nat → Nat → Int32 → Int32 → Option (Int32 × AT)} (hk8 : ∀ (T : AT) (l0 : Nat) (l1 : Nat) (l2 : Int32) (l3 : Int32), k8 T l0 l1 l2 l3 = some (r1, T1) → SP T T1) : ∀ (T : AT) (l0 : Nat) (l1 : Nat) (l2 : Int32) (l3 : Int32), g_X8_smallestDelay_b33 k8 T l0 l1 l2 l3 = some (r1, T1) → SP T T1 := by
  intro T l0 l1 l2 l3 h
  have p0 := SP.rf T
  unfold g_X8_smallestDelay_b33 at h
  obtain ⟨v2, ev2, h⟩ := elet_some h
  exact SP.tr p0 (hk8 _ _ _ _ _ h)
set_option maxHeartbeats 4000000 in
set_option maxRecDepth 100000 in
theorem s_X8_smallestDelay_b8 {r1 : Int32} {T1 : AT} : ∀ n : Nat, ∀ (T : AT) (l0 : Nat) (l1 : Nat) (l2 : Int32) (l3 : Int32), g_X8_smallestDelay_b8 n T l0 l1 l2 l3 = some (r1, T1) → SP T T1 := by
  intro n
  induction n with
  | zero =>
    intro T l0 l1 l2 l3 h
    have h : (none : Option (Int32 × AT)) = some (r1, T1) := h
    cases h
  | succ n ih =>
    intro T l0 l1 l2 l3 h
    have p0 := SP.rf T
    unfold g_X8_smallestDelay_b8 at h
    obtain ⟨g2, h⟩ := oif_some h
    obtain ⟨v3, -, h⟩ := elet_some h
    rcases oif_or h with ⟨c4, h⟩ | ⟨c4, h⟩
    · have h := h
      rw [← (osome2 h).2]
      exact p0
    · have h := h
      obtain ⟨g5, h⟩ := oif_some h
      obtain ⟨n6, en6, h⟩ := obind_some h
      obtain ⟨g7, h⟩ := oif_some h
      obtain ⟨g8, h⟩ := oif_some h
      obtain ⟨v9, -, h⟩ := elet_some h
      rcases oif_or h with ⟨c10, h⟩ | ⟨c10, h⟩
      · have h := h
        obtain ⟨g11, h⟩ := oif_some h
        obtain ⟨g12, h⟩ := oif_some h
        obtain ⟨v13, -, h⟩ := elet_some h
        obtain ⟨v14, -, h⟩ := elet_some h
        exact SP.tr p0 (s_X8_smallestDelay_b33 ih _ _ _ _ _ h)
      · have h := h
        exact SP.tr p0 (s_X8_smallestDelay_b33 ih _ _ _ _ _ h)
set_option maxHeartbeats 4000000 in
set_option maxRecDepth 100000 in
theorem s_X8_smallestDelay {T : AT} {o : Nat} {a0 : Nat} {r1 : Int32} {T1 : AT} (h : g_X8_smallestDelay T o a0 = some (r1, T1)) : SP T T1 := by
  have p0 := SP.rf T
  unfold g_X8_smallestDelay at h
  obtain ⟨g2, h⟩ := oif_some h
  obtain ⟨r4, T3, eT3, h⟩ := obind2_some h
  have p1 : SP T T3 := SP.tr p0 (s_X8_greatestDelay eT3)
  exact SP.tr p1 (s_X8_smallestDelay_b8 _ _ _ _ _ _ h)
def g_X8_powerOf_b13  (T : AT)  : Option (AT) := some T
def g_X8_powerOf (T : AT) (o : Nat) (a0 : Nat) (a1 : Nat) (a2 : Int32) : Option (AT) := oif (oO T o 8 = true) <| obind2 (g_X8_windowOf T o a0) fun r5 T3 => oif (oO T3 o 8 = true) <| obind (g_X8_blockPowerOf T3 o a0 (0 : Int32) r5 a1 a2) fun T8 => g_X8_powerOf_b13 T8
set_option maxHeartbeats 4000000 in
set_option maxRecDepth 100000 in
theorem s_X8_powerOf_b13 {T1 : AT} : ∀ (T : AT), g_X8_powerOf_b13 T = some T1 → GL T T1 := by
  intro T h
  have p0 := GL.rf T
  unfold g_X8_powerOf_b13 at h
  rw [← osome1 h]
  exact p0
set_option maxHeartbeats 4000000 in
set_option maxRecDepth 100000 in
theorem s_X8_powerOf {T : AT} {o : Nat} {a0 : Nat} {a1 : Nat} {a2 : Int32} {T1 : AT} (h : g_X8_powerOf T o a0 a1 a2 = some T1) : GL T T1 := by
  have p0 := GL.rf T
  unfold g_X8_powerOf at h
  obtain ⟨g2, h⟩ := oif_some h
  obtain ⟨r4, T3, eT3, h⟩ := obind2_some h
  have p1 : GL T T3 := GL.tr p0 (gl_sp (s_X8_windowOf eT3))
  obtain ⟨g5, h⟩ := oif_some h
  obtain ⟨T6, eT6, h⟩ := obind_some h
  have p2 : GL T T6 := GL.tr p1 (s_X8_blockPowerOf eT6)
  exact GL.tr p2 (s_X8_powerOf_b13 _ h)
set_option maxHeartbeats 4000000 in
set_option maxRecDepth 100000 in
theorem a_X8_powerOf_b13 {p : Program} {l : Launch} {e : Env} {s : State} {m : MethodId} {args : Array Value} {below : List Frame} {meth : Method} {c : Code} {Q : State → Prop} {D : va_G} {A : Nat → Prop} {cI cJ cZ cMic cSrc cSt cAI cAJ : ClassId} {ad0 : Nat → Nat} {T0 : AT} {T1 : AT} (E : cE p c cX8_powerOf s m args (Cond.code yX8_powerOf cX8_powerOf 4 none :: wsA) D RX8 (CT cI cJ cZ cMic cSrc cSt cAI cAJ)) (hA : ∀ q : Nat, s.heap.size ≤ q → A q) (hX : xT A s) (hN : nX s) (hml : c.maxLocals = 4) (hst : l.stackTraces = false) (kr13 : ∀ (ad : Nat → Nat) (H : Heap) (locs : List Loc) (ls : Array Slot), (∀ n, n < T0.1 → ad n = ad0 n) → gC cI cJ cZ cMic cSrc cSt cAI cAJ D ad A s.heap H locs T1 → W p l e { frames := 5, cells := T1.1 - T0.1, slots := sg T1 - sg T0, locals := 105 } s m args below meth c H locs (T1.1 - T0.1) (sg T1 - sg T0) Q (F0 m 13 ls [])) : ∀ (T : AT) (ad : Nat → Nat) (H : Heap) (locs : List Loc) (ls : Array Slot), g_X8_powerOf_b13 T = some T1 → GL T0 T → RC T → (∀ n, n < T0.1 → ad n = ad0 n) → gC cI cJ cZ cMic cSrc cSt cAI cAJ D ad A s.heap H locs T → lv_has ls 4 [] → W p l e { frames := 5, cells := T1.1 - T0.1, slots := sg T1 - sg T0, locals := 105 } s m args below meth c H locs (T.1 - T0.1) (sg T - sg T0) Q (F0 m 13 ls []) := by
  have hx := E.1
  have hb := E.2.1
  have hts := E.2.2.1
  have hown := E.2.2.2.1
  have hK := E.2.2.2.2
  intro T ad H locs ls h hgl hrc had G hl
  have hT1 := s_X8_powerOf_b13 _ h
  have hcs := cs_ok hgl hT1
  have cp0 := cpr0 hrc
  unfold g_X8_powerOf_b13 at h
  rw [osome1 h] at G
  refine w_cast (c2 := T1.1 - T0.1) (s2 := sg T1 - sg T0) (by rw [← osome1 h, cp0.1] <;> rfl) (by rw [← osome1 h, sg_cpr cp0] <;> rfl) ?_
  exact kr13 ad _ _ _ had G
set_option maxHeartbeats 4000000 in
set_option maxRecDepth 100000 in
theorem a_X8_powerOf (l : Launch) (hst : l.stackTraces = false) (D : va_G) (cI cJ cZ cMic cSrc cSt cAI cAJ : ClassId) (ad : Nat → Nat) (T : AT) (o : Nat) (a0 : Nat) (a1 : Nat) (a2 : Int32) {T1 : AT} (h : g_X8_powerOf T o a0 a1 a2 = some T1) (hrc : RC T) (h_o : o < T.1) (h_a0 : a0 < T.1) (h_a1 : a1 < T.1) : kAv l yX8_powerOf (Cond.code yX8_powerOf cX8_powerOf 4 none :: wsA) 5 105 cI cJ cZ cMic cSrc cSt cAI cAJ D ad T [.ref (ad o), .ref (ad a0), .ref (ad a1), .int a2] T1 := by
  intro sz
  refine Met.ofW (cc := cX8_powerOf) (maxL := 4) (ret := none) (by decide) rfl ?_
  intro p e s m args below meth c s₁ B hml hv
  obtain ⟨rfl, hsz, hP, hK, hD0, hX, hN⟩ := hv
  have hx := B.exec
  have hb := B.bytes
  have hr := B.returns
  have hts := atoms_spec (ws := (Cond.code yX8_powerOf cX8_powerOf 4 none :: wsA)) B.pre
  have hown : s.vm.findClass RX8 = some m.cls := findClass_of_methodNamed B.named
  have hlocks := B.notSynchronized
  subst hsz
  have hD := hD0.self (sz := s.heap.size)
  generalize hAe : va_A (cW ad T.1 (cc cI cJ cZ cMic cSrc cSt cAI cAJ ad T)) s.heap.size = A at hD hX ⊢
  have hA : ∀ q : Nat, s.heap.size ≤ q → A q := fun q h => by rw [← hAe]; exact Or.inr h
  have G : gC cI cJ cZ cMic cSrc cSt cAI cAJ D ad A s.heap s.heap [] T := ⟨hP, hD, va_S.rf⟩
  have E : cE p c cX8_powerOf s m ([.ref (ad o), .ref (ad a0), .ref (ad a1), .int a2] : List Value).toArray (Cond.code yX8_powerOf cX8_powerOf 4 none :: wsA) D RX8 (CT cI cJ cZ cMic cSrc cSt cAI cAJ) := ⟨hx, hb, hts, hown, hK⟩
  have hl := lv_entry ([.ref (ad o), .ref (ad a0), .ref (ad a1), .int a2]) (n := 4) (Nat.le_of_ble_eq_true rfl)
  rw [lg_entry_eq]
  generalize (lg_sl ([.ref (ad o), .ref (ad a0), .ref (ad a1), .int a2]) ++ List.replicate (4 - (lg_sl ([.ref (ad o), .ref (ad a0), .ref (ad a1), .int a2])).length) Slot.unset).toArray = ls at hl ⊢
  have hl : lv_has ls 4 [(0, .ref (ad o)), (1, .ref (ad a0)), (2, .ref (ad a1)), (3, .int a2)] := hl
  have hgl := GL.rf T
  have had : ∀ n, n < T.1 → ad n = ad n := fun _ _ => rfl
  have hT1 := s_X8_powerOf h
  have hcs := cs_ok hgl hT1
  refine w_cast (Nat.sub_self T.1).symm (Nat.sub_self (sg T)).symm ?_
  have cp0 := cpr0 hrc
  unfold g_X8_powerOf at h
  refine lv_aload_n hx hb dX8_powerOf_0 rfl (lv_at hl 0 rfl) ?_
  refine lv_aload_n hx hb dX8_powerOf_1 rfl (lv_at hl 1 rfl) ?_
  refine lv_iconst (v := 0) hx hb dX8_powerOf_2 (by decide) ?_
  refine lv_aload_n hx hb dX8_powerOf_3 rfl (lv_at hl 0 rfl) ?_
  refine lv_aload_n hx hb dX8_powerOf_4 rfl (lv_at hl 1 rfl) ?_
  obtain ⟨g2, h⟩ := oif_some h
  obtain ⟨r5, T3, eT3, h⟩ := obind2_some h
  refine q_cvi (As := [.ref (ad a0)]) (rest := [.int 0, .ref (ad a0), .ref (ad o)]) E G hA hX hN hml (u_X8_windowOf l hst D cI cJ cZ cMic cSrc cSt cAI cAJ ad T o a0 eT3) (cwV 1 hts (gaV qA_53 qA_54 qA_55 qA_47 qA_56) rfl rfl rfl (by decide +kernel) ⟨Nat.le_of_ble_eq_true rfl, Nat.le_of_ble_eq_true rfl⟩) (oO_k g2).1 (cc_o8 (oO_k g2).2) rfl rfl hl.1 rfl (lv_room (Nat.le_of_ble_eq_true rfl)) dX8_powerOf_5 hcs (fun q6 T4 H locs hq G => ?_)
  obtain ⟨hq1, hq2⟩ := hq
  rw [hq2] at G
  refine lv_to hq1 ?_
  clear hq1 hq2
  have cp1 := cpr_sp cp0 (s_X8_windowOf eT3)
  refine lv_aload_n hx hb dX8_powerOf_8 rfl (lv_at hl 2 rfl) ?_
  refine lv_iload_n hx hb dX8_powerOf_9 rfl (lv_at hl 3 rfl) ?_
  obtain ⟨g7, h⟩ := oif_some h
  obtain ⟨T8, eT8, h⟩ := obind_some h
  have hg2 := s_X8_blockPowerOf eT8
  have hrc2 := hg2.2.2 cp1.2.2
  have hT2 := s_X8_powerOf_b13 _ h
  refine q_avv (As := [.ref (ad a0), .int 0, .int r5, .ref (ad a1), .int a2]) (rest := []) E G hA hX hN hml (a_X8_blockPowerOf l hst D cI cJ cZ cMic cSrc cSt cAI cAJ ad T3 o a0 (0 : Int32) r5 a1 a2 eT8 cp1.2.2 (by rw [cp1.1]; exact h_o) (by rw [cp1.1]; exact h_a0) (by rw [cp1.1]; exact h_a1)) (cwV 5 hts (gaV qA_618 qA_45 qA_46 qA_47 qA_48) rfl rfl rfl (by decide +kernel) ⟨Nat.le_of_ble_eq_true rfl, Nat.le_of_ble_eq_true rfl⟩) (oO_k g7).1 (cc_o8 (oO_k g7).2) rfl rfl hl.1 rfl (lv_room (Nat.le_of_ble_eq_true rfl)) dX8_powerOf_10 (cs_av hgl cp1 hg2 hT2) (fun ad2 H locs hga G => ?_)
  refine w_cast (c2 := T8.1 - T.1) (s2 := sg T8 - sg T) (cs_f1 hgl cp1 hg2) (cs_f2 hgl cp1 hg2) ?_
  have hl := lv_sub hl [] rfl
  exact a_X8_powerOf_b13 E hA hX hN hml hst (fun ad H locs ls had G => W.vret hx hb hr (fun t ht hW => ⟨⟨(T1, ad), rfl, ⟨rfl, had⟩, ⟨by rw [ht]; exact G.1, va_K.moved hW.alike hK, G.2.1⟩⟩, G.2.2.F ht⟩) G.2.2.2.2 dX8_powerOf_13) _ _ _ _ _ h (GL.tr (gl_cpr hgl cp1) hg2) hrc2 (fun n hn => (hga n (by rw [cp1.1]; exact Nat.lt_of_lt_of_le hn hgl.1)).trans (had n hn)) G hl
def g_X8_productSum_b50 (k10 : AT → Nat → Int32 → Int32 → Int32 → Nat → Int32 → Int32 → Option (AT)) (T : AT) (l0 : Nat) (l1 : Int32) (l2 : Int32) (l3 : Int32) (l4 : Nat) (l5 : Int32) (l6 : Int32) : Option (AT) := elet (l6 + Int32.ofInt (1)) fun v2 => k10 T l0 l1 l2 l3 l4 l5 v2
def g_X8_productSum_b10  : Nat → AT → Nat → Int32 → Int32 → Int32 → Nat → Int32 → Int32 → Option (AT)
  | 0, _, _, _, _, _, _, _, _ => none
  | n + 1, T, l0, l1, l2, l3, l4, l5, l6 => elet (l6 + l3) fun v2 => oif (oO T l0 8 = true) <| elet (T.2.2.1 l0 1) fun v4 => if v4 ≤ v2 then (some T) else (oif (oO T l0 8 = true) <| obind (T.2.2.2.2 l0 10) fun n7 => obind (g_X8_placeOf l1 l6) fun r8 => oif (oO T l0 8 = true) <| obind (T.2.2.2.2 l0 10) fun n11 => elet (l6 + l3) fun v12 => obind (g_X8_placeOf l2 v12) fun r13 => oif (oO T l4 10 = true) <| obind (g_X10_addProduct T l4 l5 n7 r8 n11 r13) fun T16 => g_X8_productSum_b50 (g_X8_productSum_b10 n) T16 l0 l1 l2 l3 l4 l5 l6)
def g_X8_productSum (T : AT) (o : Nat) (a0 : Int32) (a1 : Int32) (a2 : Int32) (a3 : Nat) (a4 : Int32) : Option (AT) := oif (oO T a3 10 = true) <| obind (g_X10_clear T a3 a4) fun T3 => g_X8_productSum_b10 16384 T3 o a0 a1 a2 a3 a4 0
set_option maxHeartbeats 4000000 in
set_option maxRecDepth 100000 in
theorem s_X8_productSum_b50 {T1 : AT} {k10 : AT → Nat → Int32 → Int32 → Int32 → Nat → Int32 → Int32 → Option (AT)} (hk10 : ∀ (T : AT) (l0 : Nat) (l1 : Int32) (l2 : Int32) (l3 : Int32) (l4 : Nat) (l5 : Int32) (l6 : Int32), k10 T l0 l1 l2 l3 l4 l5 l6 = some T1 → GL T T1) : ∀ (T : AT) (l0 : Nat) (l1 : Int32) (l2 : Int32) (l3 : Int32) (l4 : Nat) (l5 : Int32) (l6 : Int32), g_X8_productSum_b50 k10 T l0 l1 l2 l3 l4 l5 l6 = some T1 → GL T T1 := by
  intro T l0 l1 l2 l3 l4 l5 l6 h
  have p0 := GL.rf T
  unfold g_X8_productSum_b50 at h
  obtain ⟨v2, ev2, h⟩ := elet_some h
  exact GL.tr p0 (hk10 _ _ _ _ _ _ _ _ h)
set_option maxHeartbeats 4000000 in
set_option maxRecDepth 100000 in
theorem s_X8_productSum_b10 {T1 : AT} : ∀ n : Nat, ∀ (T : AT) (l0 : Nat) (l1 : Int32) (l2 : Int32) (l3 : Int32) (l4 : Nat) (l5 : Int32) (l6 : Int32), g_X8_productSum_b10 n T l0 l1 l2 l3 l4 l5 l6 = some T1 → GL T T1 := by
  intro n
  induction n with
  | zero =>
    intro T l0 l1 l2 l3 l4 l5 l6 h
    have h : (none : Option (AT)) = some T1 := h
    cases h
  | succ n ih =>
    intro T l0 l1 l2 l3 l4 l5 l6 h
    have p0 := GL.rf T
    unfold g_X8_productSum_b10 at h
    obtain ⟨v2, -, h⟩ := elet_some h
    obtain ⟨g3, h⟩ := oif_some h
    obtain ⟨v4, -, h⟩ := elet_some h
    rcases oif_or h with ⟨c5, h⟩ | ⟨c5, h⟩
    · have h := h
      rw [← osome1 h]
      exact p0
    · have h := h
      obtain ⟨g6, h⟩ := oif_some h
      obtain ⟨n7, en7, h⟩ := obind_some h
      obtain ⟨r8, -, h⟩ := obind_some h
      obtain ⟨g9, h⟩ := oif_some h
      obtain ⟨n10, en10, h⟩ := obind_some h
      obtain ⟨v11, -, h⟩ := elet_some h
      obtain ⟨r12, -, h⟩ := obind_some h
      obtain ⟨g13, h⟩ := oif_some h
      obtain ⟨T14, eT14, h⟩ := obind_some h
      have p1 : GL T T14 := GL.tr p0 (s_X10_addProduct eT14)
      exact GL.tr p1 (s_X8_productSum_b50 ih _ _ _ _ _ _ _ _ h)
set_option maxHeartbeats 4000000 in
set_option maxRecDepth 100000 in
theorem s_X8_productSum {T : AT} {o : Nat} {a0 : Int32} {a1 : Int32} {a2 : Int32} {a3 : Nat} {a4 : Int32} {T1 : AT} (h : g_X8_productSum T o a0 a1 a2 a3 a4 = some T1) : GL T T1 := by
  have p0 := GL.rf T
  unfold g_X8_productSum at h
  obtain ⟨g2, h⟩ := oif_some h
  obtain ⟨T3, eT3, h⟩ := obind_some h
  have p1 : GL T T3 := GL.tr p0 (gl_sp (s_X10_clear eT3))
  exact GL.tr p1 (s_X8_productSum_b10 _ _ _ _ _ _ _ _ _ h)
set_option maxHeartbeats 4000000 in
set_option maxRecDepth 100000 in
theorem a_X8_productSum_b50 {p : Program} {l : Launch} {e : Env} {s : State} {m : MethodId} {args : Array Value} {below : List Frame} {meth : Method} {c : Code} {Q : State → Prop} {D : va_G} {A : Nat → Prop} {cI cJ cZ cMic cSrc cSt cAI cAJ : ClassId} {ad0 : Nat → Nat} {T0 : AT} {T1 : AT} (E : cE p c cX8_productSum s m args (Cond.code yX8_productSum cX8_productSum 7 none :: wsA) D RX8 (CT cI cJ cZ cMic cSrc cSt cAI cAJ)) (hA : ∀ q : Nat, s.heap.size ≤ q → A q) (hX : xT A s) (hN : nX s) (hml : c.maxLocals = 7) (hst : l.stackTraces = false) (kr56 : ∀ (ad : Nat → Nat) (H : Heap) (locs : List Loc) (ls : Array Slot), (∀ n, n < T0.1 → ad n = ad0 n) → gC cI cJ cZ cMic cSrc cSt cAI cAJ D ad A s.heap H locs T1 → W p l e { frames := 4, cells := T1.1 - T0.1, slots := sg T1 - sg T0, locals := 78 } s m args below meth c H locs (T1.1 - T0.1) (sg T1 - sg T0) Q (F0 m 56 ls [])) {k10 : AT → Nat → Int32 → Int32 → Int32 → Nat → Int32 → Int32 → Option (AT)} (hs10 : ∀ (T : AT) (l0 : Nat) (l1 : Int32) (l2 : Int32) (l3 : Int32) (l4 : Nat) (l5 : Int32) (l6 : Int32), k10 T l0 l1 l2 l3 l4 l5 l6 = some T1 → GL T T1) (hk10 : ∀ (T : AT) (ad : Nat → Nat) (H : Heap) (locs : List Loc) (ls : Array Slot) (l0 : Nat) (l1 : Int32) (l2 : Int32) (l3 : Int32) (l4 : Nat) (l5 : Int32) (l6 : Int32), k10 T l0 l1 l2 l3 l4 l5 l6 = some T1 → GL T0 T → RC T → (∀ n, n < T0.1 → ad n = ad0 n) → l0 < T.1 → l4 < T.1 → gC cI cJ cZ cMic cSrc cSt cAI cAJ D ad A s.heap H locs T → lv_has ls 7 [(0, .ref (ad l0)), (1, .int l1), (2, .int l2), (3, .int l3), (4, .ref (ad l4)), (5, .int l5), (6, .int l6)] → W p l e { frames := 4, cells := T1.1 - T0.1, slots := sg T1 - sg T0, locals := 78 } s m args below meth c H locs (T.1 - T0.1) (sg T - sg T0) Q (F0 m 10 ls [])) : ∀ (T : AT) (ad : Nat → Nat) (H : Heap) (locs : List Loc) (ls : Array Slot) (l0 : Nat) (l1 : Int32) (l2 : Int32) (l3 : Int32) (l4 : Nat) (l5 : Int32) (l6 : Int32), g_X8_productSum_b50 k10 T l0 l1 l2 l3 l4 l5 l6 = some T1 → GL T0 T → RC T → (∀ n, n < T0.1 → ad n = ad0 n) → l0 < T.1 → l4 < T.1 → gC cI cJ cZ cMic cSrc cSt cAI cAJ D ad A s.heap H locs T → lv_has ls 7 [(0, .ref (ad l0)), (1, .int l1), (2, .int l2), (3, .int l3), (4, .ref (ad l4)), (5, .int l5), (6, .int l6)] → W p l e { frames := 4, cells := T1.1 - T0.1, slots := sg T1 - sg T0, locals := 78 } s m args below meth c H locs (T.1 - T0.1) (sg T - sg T0) Q (F0 m 50 ls []) := by
  have hx := E.1
  have hb := E.2.1
  have hts := E.2.2.1
  have hown := E.2.2.2.1
  have hK := E.2.2.2.2
  intro T ad H locs ls l0 l1 l2 l3 l4 l5 l6 h hgl hrc had h_l0 h_l4 G hl
  have hT1 := s_X8_productSum_b50 hs10 _ _ _ _ _ _ _ _ h
  have hcs := cs_ok hgl hT1
  have cp0 := cpr0 hrc
  unfold g_X8_productSum_b50 at h
  obtain ⟨v2, ev2, h⟩ := elet_some h
  refine lv_iinc (v := v2) (lv' := [(6, .int v2), (0, .ref (ad l0)), (1, .int l1), (2, .int l2), (3, .int l3), (4, .ref (ad l4)), (5, .int l5)]) hx hb dX8_productSum_50 hl (k := 6) rfl ev2.symm (by decide) rfl (fun ls hl => ?_)
  refine lv_goto (tgt := 10) hx hb dX8_productSum_53 (by decide) ?_
  have hl := lv_sub hl [1, 2, 3, 4, 5, 6, 0] rfl
  refine w_cast (c2 := T.1 - T0.1) (s2 := sg T - sg T0) (by rw [cp0.1] <;> rfl) (by rw [sg_cpr cp0] <;> rfl) ?_
  exact hk10 _ _ _ _ _ _ _ _ _ _ _ _ h (gl_cpr hgl cp0) cp0.2.2 had (by rw [cp0.1]; exact h_l0) (by rw [cp0.1]; exact h_l4) G hl
set_option maxHeartbeats 4000000 in
set_option maxRecDepth 100000 in
theorem a_X8_productSum_b10 {p : Program} {l : Launch} {e : Env} {s : State} {m : MethodId} {args : Array Value} {below : List Frame} {meth : Method} {c : Code} {Q : State → Prop} {D : va_G} {A : Nat → Prop} {cI cJ cZ cMic cSrc cSt cAI cAJ : ClassId} {ad0 : Nat → Nat} {T0 : AT} {T1 : AT} (E : cE p c cX8_productSum s m args (Cond.code yX8_productSum cX8_productSum 7 none :: wsA) D RX8 (CT cI cJ cZ cMic cSrc cSt cAI cAJ)) (hA : ∀ q : Nat, s.heap.size ≤ q → A q) (hX : xT A s) (hN : nX s) (hml : c.maxLocals = 7) (hst : l.stackTraces = false) (kr56 : ∀ (ad : Nat → Nat) (H : Heap) (locs : List Loc) (ls : Array Slot), (∀ n, n < T0.1 → ad n = ad0 n) → gC cI cJ cZ cMic cSrc cSt cAI cAJ D ad A s.heap H locs T1 → W p l e { frames := 4, cells := T1.1 - T0.1, slots := sg T1 - sg T0, locals := 78 } s m args below meth c H locs (T1.1 - T0.1) (sg T1 - sg T0) Q (F0 m 56 ls [])) : ∀ n : Nat, ∀ (T : AT) (ad : Nat → Nat) (H : Heap) (locs : List Loc) (ls : Array Slot) (l0 : Nat) (l1 : Int32) (l2 : Int32) (l3 : Int32) (l4 : Nat) (l5 : Int32) (l6 : Int32), g_X8_productSum_b10 n T l0 l1 l2 l3 l4 l5 l6 = some T1 → GL T0 T → RC T → (∀ n, n < T0.1 → ad n = ad0 n) → l0 < T.1 → l4 < T.1 → gC cI cJ cZ cMic cSrc cSt cAI cAJ D ad A s.heap H locs T → lv_has ls 7 [(0, .ref (ad l0)), (1, .int l1), (2, .int l2), (3, .int l3), (4, .ref (ad l4)), (5, .int l5), (6, .int l6)] → W p l e { frames := 4, cells := T1.1 - T0.1, slots := sg T1 - sg T0, locals := 78 } s m args below meth c H locs (T.1 - T0.1) (sg T - sg T0) Q (F0 m 10 ls []) := by
  have hx := E.1
  have hb := E.2.1
  have hts := E.2.2.1
  have hown := E.2.2.2.1
  have hK := E.2.2.2.2
  intro n
  induction n with
  | zero =>
    intro T ad H locs ls l0 l1 l2 l3 l4 l5 l6 h
    have h : (none : Option (AT)) = some T1 := h
    cases h
  | succ n ih =>
    intro T ad H locs ls l0 l1 l2 l3 l4 l5 l6 h hgl hrc had h_l0 h_l4 G hl
    have hT1 := s_X8_productSum_b10 _ _ _ _ _ _ _ _ _ h
    have hcs := cs_ok hgl hT1
    have cp0 := cpr0 hrc
    unfold g_X8_productSum_b10 at h
    refine lv_iload hx hb dX8_productSum_10 (lv_at hl 6 rfl) ?_
    refine lv_iload_n hx hb dX8_productSum_12 rfl (lv_at hl 3 rfl) ?_
    refine lv_iadd hx hb dX8_productSum_13 ?_
    refine lv_topi (fun v2 ev2 => ?_)
    have h := elet_at ev2 h
    clear ev2
    refine lv_aload_n hx hb dX8_productSum_14 rfl (lv_at hl 0 rfl) ?_
    obtain ⟨g3, h⟩ := oif_some h
    refine c_get E G l0 1 (oO_k g3).1 (cc_o8 (oO_k g3).2) rfl (fun w h => .tail _ (iA_16 h)) (by decide) (.tail _ qA_57) rfl rfl dX8_productSum_15 ?_
    refine lv_topi (fun v4 ev4 => ?_)
    have h := elet_at ev4 h
    clear ev4
    refine lv_icmp_ge (tgt := 56) hx hb dX8_productSum_18 (by decide) (fun c5 => ?_) (fun c5 => ?_)
    · have h := oif_pos c5 h
      rw [osome1 h] at G
      refine w_cast (c2 := T1.1 - T0.1) (s2 := sg T1 - sg T0) (by rw [← osome1 h, cp0.1] <;> rfl) (by rw [← osome1 h, sg_cpr cp0] <;> rfl) ?_
      exact kr56 ad _ _ _ had G
    · have h := oif_neg c5 h
      refine lv_aload hx hb dX8_productSum_21 (lv_at hl 4 rfl) ?_
      refine lv_iload hx hb dX8_productSum_23 (lv_at hl 5 rfl) ?_
      refine lv_aload_n hx hb dX8_productSum_25 rfl (lv_at hl 0 rfl) ?_
      obtain ⟨g6, h⟩ := oif_some h
      obtain ⟨n7, en7, h⟩ := obind_some h
      have h_n7 : n7 < T.1 := by rw [← cp0.1]; exact cp0.2.2 _ _ _ en7
      refine c_get E G l0 10 (v := .ref (ad n7)) (oO_k g6).1 (cc_o8 (oO_k g6).2) rfl (fun w h => .tail _ (iA_16 h)) (by decide) (.tail _ qA_73) rfl (by rw [en7]; rfl) dX8_productSum_26 ?_
      clear en7
      refine lv_iload_n hx hb dX8_productSum_29 rfl (lv_at hl 1 rfl) ?_
      refine lv_iload hx hb dX8_productSum_30 (lv_at hl 6 rfl) ?_
      obtain ⟨r8, er8, h⟩ := obind_some h
      refine q_sti (As := [.int l1, .int l6]) (rest := [.ref (ad n7), .int l5, .ref (ad l4)]) ⟨hx, hb, hml, hown, hts⟩ hN (u_X8_placeOf l l1 l6 er8) (cwS 2 hts (gaS qA_87 qA_88 qA_47 qA_89) rfl rfl rfl (by decide +kernel) ⟨Nat.le_of_ble_eq_true rfl, Nat.le_of_ble_eq_true rfl⟩) rfl hl.1 rfl (lv_room (Nat.le_of_ble_eq_true rfl)) dX8_productSum_32 hcs (fun q9 hq => ?_)
      refine lv_to hq ?_
      clear hq er8
      refine lv_aload_n hx hb dX8_productSum_35 rfl (lv_at hl 0 rfl) ?_
      obtain ⟨g10, h⟩ := oif_some h
      obtain ⟨n11, en11, h⟩ := obind_some h
      have h_n11 : n11 < T.1 := by rw [← cp0.1]; exact cp0.2.2 _ _ _ en11
      refine c_get E G l0 10 (v := .ref (ad n11)) (oO_k g10).1 (cc_o8 (oO_k g10).2) rfl (fun w h => .tail _ (iA_16 h)) (by decide) (.tail _ qA_73) rfl (by rw [en11]; rfl) dX8_productSum_36 ?_
      clear en11
      refine lv_iload_n hx hb dX8_productSum_39 rfl (lv_at hl 2 rfl) ?_
      refine lv_iload hx hb dX8_productSum_40 (lv_at hl 6 rfl) ?_
      refine lv_iload_n hx hb dX8_productSum_42 rfl (lv_at hl 3 rfl) ?_
      refine lv_iadd hx hb dX8_productSum_43 ?_
      refine lv_topi (fun v12 ev12 => ?_)
      have h := elet_at ev12 h
      clear ev12
      obtain ⟨r13, er13, h⟩ := obind_some h
      refine q_sti (As := [.int l2, .int v12]) (rest := [.ref (ad n11), .int r8, .ref (ad n7), .int l5, .ref (ad l4)]) ⟨hx, hb, hml, hown, hts⟩ hN (u_X8_placeOf l l2 v12 er13) (cwS 2 hts (gaS qA_87 qA_88 qA_47 qA_89) rfl rfl rfl (by decide +kernel) ⟨Nat.le_of_ble_eq_true rfl, Nat.le_of_ble_eq_true rfl⟩) rfl hl.1 rfl (lv_room (Nat.le_of_ble_eq_true rfl)) dX8_productSum_44 hcs (fun q14 hq => ?_)
      refine lv_to hq ?_
      clear hq er13
      obtain ⟨g15, h⟩ := oif_some h
      obtain ⟨T16, eT16, h⟩ := obind_some h
      have hg2 := s_X10_addProduct eT16
      have hrc2 := hg2.2.2 cp0.2.2
      have hT2 := s_X8_productSum_b50 (s_X8_productSum_b10 n) _ _ _ _ _ _ _ _ h
      refine q_avv (As := [.int l5, .ref (ad n7), .int r8, .ref (ad n11), .int r13]) (rest := []) E G hA hX hN hml (a_X10_addProduct l hst D cI cJ cZ cMic cSrc cSt cAI cAJ ad T l4 l5 n7 r8 n11 r13 eT16 cp0.2.2 (by rw [cp0.1]; exact h_l4) (by rw [cp0.1]; exact h_n7) (by rw [cp0.1]; exact h_n11)) (cwV 5 hts (gaV qA_99 qA_100 qA_101 qA_6 qA_102) rfl rfl rfl (by decide +kernel) ⟨Nat.le_of_ble_eq_true rfl, Nat.le_of_ble_eq_true rfl⟩) (oO_k g15).1 (cc_o10 (oO_k g15).2) rfl rfl hl.1 rfl (lv_room (Nat.le_of_ble_eq_true rfl)) dX8_productSum_47 (cs_av hgl cp0 hg2 hT2) (fun ad2 H locs hga G => ?_)
      refine w_cast (c2 := T16.1 - T0.1) (s2 := sg T16 - sg T0) (cs_f1 hgl cp0 hg2) (cs_f2 hgl cp0 hg2) ?_
      have hl := lv_sub hl [0, 1, 2, 3, 4, 5, 6] rfl
      rw [show ad l0 = ad2 l0 from (hga l0 (by rw [cp0.1]; exact h_l0)).symm] at hl
      rw [show ad l4 = ad2 l4 from (hga l4 (by rw [cp0.1]; exact h_l4)).symm] at hl
      exact a_X8_productSum_b50 E hA hX hN hml hst kr56 (s_X8_productSum_b10 n) ih _ _ _ _ _ _ _ _ _ _ _ _ h (GL.tr (gl_cpr hgl cp0) hg2) hrc2 (fun n hn => (hga n (by rw [cp0.1]; exact Nat.lt_of_lt_of_le hn hgl.1)).trans (had n hn)) (Nat.lt_of_lt_of_le (by rw [cp0.1]; exact h_l0) hg2.1) (Nat.lt_of_lt_of_le (by rw [cp0.1]; exact h_l4) hg2.1) G hl
set_option maxHeartbeats 4000000 in
set_option maxRecDepth 100000 in
theorem a_X8_productSum (l : Launch) (hst : l.stackTraces = false) (D : va_G) (cI cJ cZ cMic cSrc cSt cAI cAJ : ClassId) (ad : Nat → Nat) (T : AT) (o : Nat) (a0 : Int32) (a1 : Int32) (a2 : Int32) (a3 : Nat) (a4 : Int32) {T1 : AT} (h : g_X8_productSum T o a0 a1 a2 a3 a4 = some T1) (hrc : RC T) (h_o : o < T.1) (h_a3 : a3 < T.1) : kAv l yX8_productSum (Cond.code yX8_productSum cX8_productSum 7 none :: wsA) 4 78 cI cJ cZ cMic cSrc cSt cAI cAJ D ad T [.ref (ad o), .int a0, .int a1, .int a2, .ref (ad a3), .int a4] T1 := by
  intro sz
  refine Met.ofW (cc := cX8_productSum) (maxL := 7) (ret := none) (by decide) rfl ?_
  intro p e s m args below meth c s₁ B hml hv
  obtain ⟨rfl, hsz, hP, hK, hD0, hX, hN⟩ := hv
  have hx := B.exec
  have hb := B.bytes
  have hr := B.returns
  have hts := atoms_spec (ws := (Cond.code yX8_productSum cX8_productSum 7 none :: wsA)) B.pre
  have hown : s.vm.findClass RX8 = some m.cls := findClass_of_methodNamed B.named
  have hlocks := B.notSynchronized
  subst hsz
  have hD := hD0.self (sz := s.heap.size)
  generalize hAe : va_A (cW ad T.1 (cc cI cJ cZ cMic cSrc cSt cAI cAJ ad T)) s.heap.size = A at hD hX ⊢
  have hA : ∀ q : Nat, s.heap.size ≤ q → A q := fun q h => by rw [← hAe]; exact Or.inr h
  have G : gC cI cJ cZ cMic cSrc cSt cAI cAJ D ad A s.heap s.heap [] T := ⟨hP, hD, va_S.rf⟩
  have E : cE p c cX8_productSum s m ([.ref (ad o), .int a0, .int a1, .int a2, .ref (ad a3), .int a4] : List Value).toArray (Cond.code yX8_productSum cX8_productSum 7 none :: wsA) D RX8 (CT cI cJ cZ cMic cSrc cSt cAI cAJ) := ⟨hx, hb, hts, hown, hK⟩
  have hl := lv_entry ([.ref (ad o), .int a0, .int a1, .int a2, .ref (ad a3), .int a4]) (n := 7) (Nat.le_of_ble_eq_true rfl)
  rw [lg_entry_eq]
  generalize (lg_sl ([.ref (ad o), .int a0, .int a1, .int a2, .ref (ad a3), .int a4]) ++ List.replicate (7 - (lg_sl ([.ref (ad o), .int a0, .int a1, .int a2, .ref (ad a3), .int a4])).length) Slot.unset).toArray = ls at hl ⊢
  have hl : lv_has ls 7 [(0, .ref (ad o)), (1, .int a0), (2, .int a1), (3, .int a2), (4, .ref (ad a3)), (5, .int a4)] := hl
  have hgl := GL.rf T
  have had : ∀ n, n < T.1 → ad n = ad n := fun _ _ => rfl
  have hT1 := s_X8_productSum h
  have hcs := cs_ok hgl hT1
  refine w_cast (Nat.sub_self T.1).symm (Nat.sub_self (sg T)).symm ?_
  have cp0 := cpr0 hrc
  unfold g_X8_productSum at h
  refine lv_aload hx hb dX8_productSum_0 (lv_at hl 4 rfl) ?_
  refine lv_iload hx hb dX8_productSum_2 (lv_at hl 5 rfl) ?_
  obtain ⟨g2, h⟩ := oif_some h
  obtain ⟨T3, eT3, h⟩ := obind_some h
  refine q_cvv (As := [.int a4]) (rest := []) E G hA hX hN hml (u_X10_clear l hst D cI cJ cZ cMic cSrc cSt cAI cAJ ad T a3 a4 eT3) (cwV 1 hts (gaV qA_65 qA_66 qA_67 qA_6 qA_68) rfl rfl rfl (by decide +kernel) ⟨Nat.le_of_ble_eq_true rfl, Nat.le_of_ble_eq_true rfl⟩) (oO_k g2).1 (cc_o10 (oO_k g2).2) rfl rfl hl.1 rfl (lv_room (Nat.le_of_ble_eq_true rfl)) dX8_productSum_4 hcs (fun T4 H locs hq G => ?_)
  rw [hq] at G
  clear hq
  have cp1 := cpr_sp cp0 (s_X10_clear eT3)
  refine lv_iconst (v := 0) hx hb dX8_productSum_7 (by decide) ?_
  refine lv_istore (lv' := [(6, .int 0), (0, .ref (ad o)), (1, .int a0), (2, .int a1), (3, .int a2), (4, .ref (ad a3)), (5, .int a4)]) hx hb dX8_productSum_8 hl (by decide) rfl (fun ls hl => ?_)
  have hl := lv_sub hl [1, 2, 3, 4, 5, 6, 0] rfl
  refine w_cast (c2 := T3.1 - T.1) (s2 := sg T3 - sg T) (by rw [cp1.1] <;> rfl) (by rw [sg_cpr cp1] <;> rfl) ?_
  exact a_X8_productSum_b10 E hA hX hN hml hst (fun ad H locs ls had G => W.vret hx hb hr (fun t ht hW => ⟨⟨(T1, ad), rfl, ⟨rfl, had⟩, ⟨by rw [ht]; exact G.1, va_K.moved hW.alike hK, G.2.1⟩⟩, G.2.2.F ht⟩) G.2.2.2.2 dX8_productSum_56) _ _ _ _ _ _ _ _ _ _ _ _ _ h (gl_cpr hgl cp1) cp1.2.2 had (by rw [cp1.1]; exact h_o) (by rw [cp1.1]; exact h_a3) G hl
def g_X10_multiply_b34  (T : AT)  : Option (AT) := some T
def g_X10_multiply_b2  : Nat → AT → Nat → Int32 → Int32 → Int32 → Option (AT)
  | 0, _, _, _, _, _ => none
  | n + 1, T, l0, l1, l2, l3 => oif (oO T l0 10 = true) <| elet (T.2.2.1 l0 2) fun v3 => if v3 ≤ l3 then (oif (oO T l0 10 = true) <| obind (g_X10_settle T l0 l1) fun T6 => g_X10_multiply_b34 T6) else (oif (oO T l0 10 = true) <| obind (T.2.2.2.2 l0 1) fun n9 => oif (aA T n9 107 = true) <| oif (inb l3 (T.2.1 n9).2 = true) <| obind (T.2.2.2.2 n9 l3.toNatClampNeg) fun n12 => oif (aA T n12 101 = true) <| oif (inb l1 (T.2.1 n12).2 = true) <| elet (T.2.2.2.1 n12 l1.toNatClampNeg) fun v15 => elet (l2.toInt64) fun v16 => elet (v15 * v16) fun v17 => oif (aA T n12 101 = true) <| oif (inb l1 (T.2.1 n12).2 = true) <| elet (uJ T n12 l1.toNatClampNeg v17) fun T20 => elet (l3 + Int32.ofInt (1)) fun v21 => g_X10_multiply_b2 n T20 l0 l1 l2 v21)
def g_X10_multiply (T : AT) (o : Nat) (a0 : Int32) (a1 : Int32) : Option (AT) := g_X10_multiply_b2 16384 T o a0 a1 0
set_option maxHeartbeats 4000000 in
set_option maxRecDepth 100000 in
theorem s_X10_multiply_b34 {T1 : AT} : ∀ (T : AT), g_X10_multiply_b34 T = some T1 → GL T T1 := by
  intro T h
  have p0 := GL.rf T
  unfold g_X10_multiply_b34 at h
  rw [← osome1 h]
  exact p0
set_option maxHeartbeats 4000000 in
set_option maxRecDepth 100000 in
theorem s_X10_multiply_b2 {T1 : AT} : ∀ n : Nat, ∀ (T : AT) (l0 : Nat) (l1 : Int32) (l2 : Int32) (l3 : Int32), g_X10_multiply_b2 n T l0 l1 l2 l3 = some T1 → GL T T1 := by
  intro n
  induction n with
  | zero =>
    intro T l0 l1 l2 l3 h
    have h : (none : Option (AT)) = some T1 := h
    cases h
  | succ n ih =>
    intro T l0 l1 l2 l3 h
    have p0 := GL.rf T
    unfold g_X10_multiply_b2 at h
    obtain ⟨g2, h⟩ := oif_some h
    obtain ⟨v3, -, h⟩ := elet_some h
    rcases oif_or h with ⟨c4, h⟩ | ⟨c4, h⟩
    · have h := h
      obtain ⟨g5, h⟩ := oif_some h
      obtain ⟨T6, eT6, h⟩ := obind_some h
      have p1 : GL T T6 := GL.tr p0 (s_X10_settle eT6)
      exact GL.tr p1 (s_X10_multiply_b34 _ h)
    · have h := h
      obtain ⟨g8, h⟩ := oif_some h
      obtain ⟨n9, en9, h⟩ := obind_some h
      obtain ⟨g10, h⟩ := oif_some h
      obtain ⟨g11, h⟩ := oif_some h
      obtain ⟨n12, en12, h⟩ := obind_some h
      obtain ⟨g13, h⟩ := oif_some h
      obtain ⟨g14, h⟩ := oif_some h
      obtain ⟨v15, -, h⟩ := elet_some h
      obtain ⟨v16, -, h⟩ := elet_some h
      obtain ⟨v17, -, h⟩ := elet_some h
      obtain ⟨g18, h⟩ := oif_some h
      obtain ⟨g19, h⟩ := oif_some h
      obtain ⟨T20, eT20, h⟩ := elet_some h
      have p1 : GL T T20 := GL.tr p0 (by rw [eT20]; exact gl_sp sp_uJ)
      obtain ⟨v21, ev21, h⟩ := elet_some h
      exact GL.tr p1 (ih _ _ _ _ _ h)
set_option maxHeartbeats 4000000 in
set_option maxRecDepth 100000 in
theorem s_X10_multiply {T : AT} {o : Nat} {a0 : Int32} {a1 : Int32} {T1 : AT} (h : g_X10_multiply T o a0 a1 = some T1) : GL T T1 := by
  have p0 := GL.rf T
  unfold g_X10_multiply at h
  exact GL.tr p0 (s_X10_multiply_b2 _ _ _ _ _ _ h)
set_option maxHeartbeats 4000000 in
set_option maxRecDepth 100000 in
theorem a_X10_multiply_b34 {p : Program} {l : Launch} {e : Env} {s : State} {m : MethodId} {args : Array Value} {below : List Frame} {meth : Method} {c : Code} {Q : State → Prop} {D : va_G} {A : Nat → Prop} {cI cJ cZ cMic cSrc cSt cAI cAJ : ClassId} {ad0 : Nat → Nat} {T0 : AT} {T1 : AT} (E : cE p c cX10_multiply s m args (Cond.code yX10_multiply cX10_multiply 4 none :: wsA) D RX10 (CT cI cJ cZ cMic cSrc cSt cAI cAJ)) (hA : ∀ q : Nat, s.heap.size ≤ q → A q) (hX : xT A s) (hN : nX s) (hml : c.maxLocals = 4) (hst : l.stackTraces = false) (kr34 : ∀ (ad : Nat → Nat) (H : Heap) (locs : List Loc) (ls : Array Slot), (∀ n, n < T0.1 → ad n = ad0 n) → gC cI cJ cZ cMic cSrc cSt cAI cAJ D ad A s.heap H locs T1 → W p l e { frames := 3, cells := T1.1 - T0.1, slots := sg T1 - sg T0, locals := 49 } s m args below meth c H locs (T1.1 - T0.1) (sg T1 - sg T0) Q (F0 m 34 ls [])) : ∀ (T : AT) (ad : Nat → Nat) (H : Heap) (locs : List Loc) (ls : Array Slot), g_X10_multiply_b34 T = some T1 → GL T0 T → RC T → (∀ n, n < T0.1 → ad n = ad0 n) → gC cI cJ cZ cMic cSrc cSt cAI cAJ D ad A s.heap H locs T → lv_has ls 4 [] → W p l e { frames := 3, cells := T1.1 - T0.1, slots := sg T1 - sg T0, locals := 49 } s m args below meth c H locs (T.1 - T0.1) (sg T - sg T0) Q (F0 m 34 ls []) := by
  have hx := E.1
  have hb := E.2.1
  have hts := E.2.2.1
  have hown := E.2.2.2.1
  have hK := E.2.2.2.2
  intro T ad H locs ls h hgl hrc had G hl
  have hT1 := s_X10_multiply_b34 _ h
  have hcs := cs_ok hgl hT1
  have cp0 := cpr0 hrc
  unfold g_X10_multiply_b34 at h
  rw [osome1 h] at G
  refine w_cast (c2 := T1.1 - T0.1) (s2 := sg T1 - sg T0) (by rw [← osome1 h, cp0.1] <;> rfl) (by rw [← osome1 h, sg_cpr cp0] <;> rfl) ?_
  exact kr34 ad _ _ _ had G
set_option maxHeartbeats 4000000 in
set_option maxRecDepth 100000 in
theorem a_X10_multiply_b2 {p : Program} {l : Launch} {e : Env} {s : State} {m : MethodId} {args : Array Value} {below : List Frame} {meth : Method} {c : Code} {Q : State → Prop} {D : va_G} {A : Nat → Prop} {cI cJ cZ cMic cSrc cSt cAI cAJ : ClassId} {ad0 : Nat → Nat} {T0 : AT} {T1 : AT} (E : cE p c cX10_multiply s m args (Cond.code yX10_multiply cX10_multiply 4 none :: wsA) D RX10 (CT cI cJ cZ cMic cSrc cSt cAI cAJ)) (hA : ∀ q : Nat, s.heap.size ≤ q → A q) (hX : xT A s) (hN : nX s) (hml : c.maxLocals = 4) (hst : l.stackTraces = false) (kr34 : ∀ (ad : Nat → Nat) (H : Heap) (locs : List Loc) (ls : Array Slot), (∀ n, n < T0.1 → ad n = ad0 n) → gC cI cJ cZ cMic cSrc cSt cAI cAJ D ad A s.heap H locs T1 → W p l e { frames := 3, cells := T1.1 - T0.1, slots := sg T1 - sg T0, locals := 49 } s m args below meth c H locs (T1.1 - T0.1) (sg T1 - sg T0) Q (F0 m 34 ls [])) : ∀ n : Nat, ∀ (T : AT) (ad : Nat → Nat) (H : Heap) (locs : List Loc) (ls : Array Slot) (l0 : Nat) (l1 : Int32) (l2 : Int32) (l3 : Int32), g_X10_multiply_b2 n T l0 l1 l2 l3 = some T1 → GL T0 T → RC T → (∀ n, n < T0.1 → ad n = ad0 n) → l0 < T.1 → gC cI cJ cZ cMic cSrc cSt cAI cAJ D ad A s.heap H locs T → lv_has ls 4 [(0, .ref (ad l0)), (1, .int l1), (2, .int l2), (3, .int l3)] → W p l e { frames := 3, cells := T1.1 - T0.1, slots := sg T1 - sg T0, locals := 49 } s m args below meth c H locs (T.1 - T0.1) (sg T - sg T0) Q (F0 m 2 ls []) := by
  have hx := E.1
  have hb := E.2.1
  have hts := E.2.2.1
  have hown := E.2.2.2.1
  have hK := E.2.2.2.2
  intro n
  induction n with
  | zero =>
    intro T ad H locs ls l0 l1 l2 l3 h
    have h : (none : Option (AT)) = some T1 := h
    cases h
  | succ n ih =>
    intro T ad H locs ls l0 l1 l2 l3 h hgl hrc had h_l0 G hl
    have hT1 := s_X10_multiply_b2 _ _ _ _ _ _ h
    have hcs := cs_ok hgl hT1
    have cp0 := cpr0 hrc
    unfold g_X10_multiply_b2 at h
    refine lv_iload_n hx hb dX10_multiply_2 rfl (lv_at hl 3 rfl) ?_
    refine lv_aload_n hx hb dX10_multiply_3 rfl (lv_at hl 0 rfl) ?_
    obtain ⟨g2, h⟩ := oif_some h
    refine c_get E G l0 2 (oO_k g2).1 (cc_o10 (oO_k g2).2) rfl (fun w h => .tail _ (iA_12 h)) (by decide) (.tail _ qA_15) rfl rfl dX10_multiply_4 ?_
    refine lv_topi (fun v3 ev3 => ?_)
    have h := elet_at ev3 h
    clear ev3
    refine lv_icmp_ge (tgt := 29) hx hb dX10_multiply_7 (by decide) (fun c4 => ?_) (fun c4 => ?_)
    · have h := oif_pos c4 h
      refine lv_aload_n hx hb dX10_multiply_29 rfl (lv_at hl 0 rfl) ?_
      refine lv_iload_n hx hb dX10_multiply_30 rfl (lv_at hl 1 rfl) ?_
      obtain ⟨g5, h⟩ := oif_some h
      obtain ⟨T6, eT6, h⟩ := obind_some h
      have hg2 := s_X10_settle eT6
      have hrc2 := hg2.2.2 cp0.2.2
      have hT2 := s_X10_multiply_b34 _ h
      refine q_avv (As := [.int l1]) (rest := []) E G hA hX hN hml (a_X10_settle l hst D cI cJ cZ cMic cSrc cSt cAI cAJ ad T l0 l1 eT6 cp0.2.2 (by rw [cp0.1]; exact h_l0)) (cwV 1 hts (gaV qA_103 qA_91 qA_92 qA_6 qA_93) rfl rfl rfl (by decide +kernel) ⟨Nat.le_of_ble_eq_true rfl, Nat.le_of_ble_eq_true rfl⟩) (oO_k g5).1 (cc_o10 (oO_k g5).2) rfl rfl hl.1 rfl (lv_room (Nat.le_of_ble_eq_true rfl)) dX10_multiply_31 (cs_av hgl cp0 hg2 hT2) (fun ad2 H locs hga G => ?_)
      refine w_cast (c2 := T6.1 - T0.1) (s2 := sg T6 - sg T0) (cs_f1 hgl cp0 hg2) (cs_f2 hgl cp0 hg2) ?_
      have hl := lv_sub hl [] rfl
      exact a_X10_multiply_b34 E hA hX hN hml hst kr34 _ _ _ _ _ h (GL.tr (gl_cpr hgl cp0) hg2) hrc2 (fun n hn => (hga n (by rw [cp0.1]; exact Nat.lt_of_lt_of_le hn hgl.1)).trans (had n hn)) G hl
    · have h := oif_neg c4 h
      refine lv_aload_n hx hb dX10_multiply_10 rfl (lv_at hl 0 rfl) ?_
      obtain ⟨g8, h⟩ := oif_some h
      obtain ⟨n9, en9, h⟩ := obind_some h
      have h_n9 : n9 < T.1 := by rw [← cp0.1]; exact cp0.2.2 _ _ _ en9
      refine c_get E G l0 1 (v := .ref (ad n9)) (oO_k g8).1 (cc_o10 (oO_k g8).2) rfl (fun w h => .tail _ (iA_12 h)) (by decide) (.tail _ qA_14) rfl (by rw [en9]; rfl) dX10_multiply_11 ?_
      clear en9
      refine lv_iload_n hx hb dX10_multiply_14 rfl (lv_at hl 3 rfl) ?_
      obtain ⟨g10, h⟩ := oif_some h
      obtain ⟨g11, h⟩ := oif_some h
      obtain ⟨n12, en12, h⟩ := obind_some h
      have h_n12 : n12 < T.1 := by rw [← cp0.1]; exact cp0.2.2 _ _ _ en12
      refine c_alda E G n9 7 (k := l3.toNatClampNeg) (v := .ref (ad n12)) (aA_k g10).1 (cc_a107 (aA_k g10).2.1) rfl (inb_k g11).1 (inb_k g11).2 (aA_k g10).2.2 (by show va_rf ((T.2.2.2.2 n9 l3.toNatClampNeg).map ad) = _; rw [en12]; rfl) dX10_multiply_15 ?_
      clear en12
      refine lv_iload_n hx hb dX10_multiply_16 rfl (lv_at hl 1 rfl) ?_
      refine lv_dup2_11 hx hb dX10_multiply_17 rfl rfl ?_
      obtain ⟨g13, h⟩ := oif_some h
      obtain ⟨g14, h⟩ := oif_some h
      refine c_lald E G n12 1 (k := l1.toNatClampNeg) (aA_k g13).1 (cc_a101 (aA_k g13).2.1) rfl (inb_k g14).1 (inb_k g14).2 (aA_k g13).2.2 dX10_multiply_18 ?_
      refine lv_topl (fun v15 ev15 => ?_)
      have h := elet_at ev15 h
      clear ev15
      refine lv_iload_n hx hb dX10_multiply_19 rfl (lv_at hl 2 rfl) ?_
      refine lv_i2l (v := l2.toInt64) hx hb dX10_multiply_20 rfl ?_
      refine lv_topl (fun v16 ev16 => ?_)
      have h := elet_at ev16 h
      clear ev16
      refine lv_lmul hx hb dX10_multiply_21 ?_
      refine lv_topl (fun v17 ev17 => ?_)
      have h := elet_at ev17 h
      clear ev17
      obtain ⟨g18, h⟩ := oif_some h
      obtain ⟨g19, h⟩ := oif_some h
      refine c_last E G n12 1 (k := l1.toNatClampNeg) (v := v17) (aA_k g18).1 (cc_a101 (aA_k g18).2.1) rfl (inb_k g19).1 (inb_k g19).2 (aA_k g18).2.2 dX10_multiply_22 (fun H locs G => ?_)
      have G := gC_up_j (f := vp_updL (T.2.2.2.1 n12) l1.toNatClampNeg v17) (ccv_101 (aA_k g18).2.1) G
      obtain ⟨T20, eT20, h⟩ := elet_some h
      have G : gC cI cJ cZ cMic cSrc cSt cAI cAJ D ad A s.heap H locs T20 := by rw [eT20]; exact G
      have cp1 := show CPR T T20 from by rw [eT20]; exact cpr_sp cp0 sp_uJ
      clear eT20
      obtain ⟨v21, ev21, h⟩ := elet_some h
      refine lv_iinc (v := v21) (lv' := [(3, .int v21), (0, .ref (ad l0)), (1, .int l1), (2, .int l2)]) hx hb dX10_multiply_23 hl (k := 3) rfl ev21.symm (by decide) rfl (fun ls hl => ?_)
      refine lv_goto (tgt := 2) hx hb dX10_multiply_26 (by decide) ?_
      have hl := lv_sub hl [1, 2, 3, 0] rfl
      refine w_cast (c2 := T20.1 - T0.1) (s2 := sg T20 - sg T0) (by rw [cp1.1] <;> rfl) (by rw [sg_cpr cp1] <;> rfl) ?_
      exact ih _ _ _ _ _ _ _ _ _ h (gl_cpr hgl cp1) cp1.2.2 had (by rw [cp1.1]; exact h_l0) G hl
set_option maxHeartbeats 4000000 in
set_option maxRecDepth 100000 in
theorem a_X10_multiply (l : Launch) (hst : l.stackTraces = false) (D : va_G) (cI cJ cZ cMic cSrc cSt cAI cAJ : ClassId) (ad : Nat → Nat) (T : AT) (o : Nat) (a0 : Int32) (a1 : Int32) {T1 : AT} (h : g_X10_multiply T o a0 a1 = some T1) (hrc : RC T) (h_o : o < T.1) : kAv l yX10_multiply (Cond.code yX10_multiply cX10_multiply 4 none :: wsA) 3 49 cI cJ cZ cMic cSrc cSt cAI cAJ D ad T [.ref (ad o), .int a0, .int a1] T1 := by
  intro sz
  refine Met.ofW (cc := cX10_multiply) (maxL := 4) (ret := none) (by decide) rfl ?_
  intro p e s m args below meth c s₁ B hml hv
  obtain ⟨rfl, hsz, hP, hK, hD0, hX, hN⟩ := hv
  have hx := B.exec
  have hb := B.bytes
  have hr := B.returns
  have hts := atoms_spec (ws := (Cond.code yX10_multiply cX10_multiply 4 none :: wsA)) B.pre
  have hown : s.vm.findClass RX10 = some m.cls := findClass_of_methodNamed B.named
  have hlocks := B.notSynchronized
  subst hsz
  have hD := hD0.self (sz := s.heap.size)
  generalize hAe : va_A (cW ad T.1 (cc cI cJ cZ cMic cSrc cSt cAI cAJ ad T)) s.heap.size = A at hD hX ⊢
  have hA : ∀ q : Nat, s.heap.size ≤ q → A q := fun q h => by rw [← hAe]; exact Or.inr h
  have G : gC cI cJ cZ cMic cSrc cSt cAI cAJ D ad A s.heap s.heap [] T := ⟨hP, hD, va_S.rf⟩
  have E : cE p c cX10_multiply s m ([.ref (ad o), .int a0, .int a1] : List Value).toArray (Cond.code yX10_multiply cX10_multiply 4 none :: wsA) D RX10 (CT cI cJ cZ cMic cSrc cSt cAI cAJ) := ⟨hx, hb, hts, hown, hK⟩
  have hl := lv_entry ([.ref (ad o), .int a0, .int a1]) (n := 4) (Nat.le_of_ble_eq_true rfl)
  rw [lg_entry_eq]
  generalize (lg_sl ([.ref (ad o), .int a0, .int a1]) ++ List.replicate (4 - (lg_sl ([.ref (ad o), .int a0, .int a1])).length) Slot.unset).toArray = ls at hl ⊢
  have hl : lv_has ls 4 [(0, .ref (ad o)), (1, .int a0), (2, .int a1)] := hl
  have hgl := GL.rf T
  have had : ∀ n, n < T.1 → ad n = ad n := fun _ _ => rfl
  have hT1 := s_X10_multiply h
  have hcs := cs_ok hgl hT1
  refine w_cast (Nat.sub_self T.1).symm (Nat.sub_self (sg T)).symm ?_
  have cp0 := cpr0 hrc
  unfold g_X10_multiply at h
  refine lv_iconst (v := 0) hx hb dX10_multiply_0 (by decide) ?_
  refine lv_istore_n (lv' := [(3, .int 0), (0, .ref (ad o)), (1, .int a0), (2, .int a1)]) hx hb dX10_multiply_1 rfl hl (by decide) rfl (fun ls hl => ?_)
  have hl := lv_sub hl [1, 2, 3, 0] rfl
  refine w_cast (c2 := T.1 - T.1) (s2 := sg T - sg T) (by rw [cp0.1] <;> rfl) (by rw [sg_cpr cp0] <;> rfl) ?_
  exact a_X10_multiply_b2 E hA hX hN hml hst (fun ad H locs ls had G => W.vret hx hb hr (fun t ht hW => ⟨⟨(T1, ad), rfl, ⟨rfl, had⟩, ⟨by rw [ht]; exact G.1, va_K.moved hW.alike hK, G.2.1⟩⟩, G.2.2.F ht⟩) G.2.2.2.2 dX10_multiply_34) _ _ _ _ _ _ _ _ _ _ h (gl_cpr hgl cp0) cp0.2.2 had (by rw [cp0.1]; exact h_o) G hl
def g_X8_subtractBeam_b115 (k18 : AT → Nat → Nat → Int32 → Int32 → Int32 → Int32 → Option (AT)) (k53 : AT → Nat → Nat → Int32 → Int32 → Int32 → Int32 → Int32 → Option (AT)) (T : AT) (l0 : Nat) (l1 : Nat) (l2 : Int32) (l3 : Int32) (l4 : Int32) (l5 : Int32) (l6 : Int32) : Option (AT) := elet (l6 + Int32.ofInt (1)) fun v2 => k53 T l0 l1 l2 l3 l4 l5 v2
def g_X8_subtractBeam_b53 (k18 : AT → Nat → Nat → Int32 → Int32 → Int32 → Int32 → Option (AT)) : Nat → AT → Nat → Nat → Int32 → Int32 → Int32 → Int32 → Int32 → Option (AT)
  | 0, _, _, _, _, _, _, _, _ => none
  | n + 1, T, l0, l1, l2, l3, l4, l5, l6 => oif (oO T l0 8 = true) <| elet (T.2.2.1 l0 0) fun v3 => if v3 ≤ l6 then (elet (l5 + Int32.ofInt (1)) fun v5 => k18 T l0 l1 l2 l3 l4 v5) else (oif (aA T l1 100 = true) <| oif (inb l6 (T.2.1 l1).2 = true) <| elet (T.2.2.1 l1 l6.toNatClampNeg) fun v8 => elet (l5 + v8) fun v9 => oif (oO T l0 8 = true) <| obind (T.2.2.2.2 l0 3) fun n11 => oif (aA T n11 102 = true) <| oif (inb l6 (T.2.1 n11).2 = true) <| elet (T.2.2.1 n11 l6.toNatClampNeg) fun v14 => if v14 = 0 then (if v9 < 0 then (g_X8_subtractBeam_b115 k18 (g_X8_subtractBeam_b53 k18 n) T l0 l1 l2 l3 l4 l5 l6) else (oif (oO T l0 8 = true) <| elet (T.2.2.1 l0 1) fun v18 => if v18 ≤ v9 then (g_X8_subtractBeam_b115 k18 (g_X8_subtractBeam_b53 k18 n) T l0 l1 l2 l3 l4 l5 l6) else (oif (oO T l0 8 = true) <| obind (T.2.2.2.2 l0 10) fun n21 => obind (g_X8_placeOf l6 v9) fun r22 => oif (oO T l0 8 = true) <| obind (T.2.2.2.2 l0 11) fun n25 => oif (oO T n21 10 = true) <| obind (g_X10_add T n21 r22 n25 (0 : Int32) ((-1) : Int32)) fun T27 => g_X8_subtractBeam_b115 k18 (g_X8_subtractBeam_b53 k18 n) T27 l0 l1 l2 l3 l4 l5 l6))) else (g_X8_subtractBeam_b115 k18 (g_X8_subtractBeam_b53 k18 n) T l0 l1 l2 l3 l4 l5 l6))
def g_X8_subtractBeam_b50 (k18 : AT → Nat → Nat → Int32 → Int32 → Int32 → Int32 → Option (AT)) (T : AT) (l0 : Nat) (l1 : Nat) (l2 : Int32) (l3 : Int32) (l4 : Int32) (l5 : Int32) : Option (AT) := g_X8_subtractBeam_b53 k18 16384 T l0 l1 l2 l3 l4 l5 0
def g_X8_subtractBeam_b41 (k18 : AT → Nat → Nat → Int32 → Int32 → Int32 → Int32 → Option (AT)) (T : AT) (l0 : Nat) (l1 : Nat) (l2 : Int32) (l3 : Int32) (l4 : Int32) (l5 : Int32) : Option (AT) := oif (oO T l0 8 = true) <| obind (T.2.2.2.2 l0 11) fun n3 => oif (oO T n3 10 = true) <| obind (g_X10_divide T n3 (0 : Int32) l3) fun T5 => g_X8_subtractBeam_b50 k18 T5 l0 l1 l2 l3 l4 l5
def g_X8_subtractBeam_b32 (k18 : AT → Nat → Nat → Int32 → Int32 → Int32 → Int32 → Option (AT)) (T : AT) (l0 : Nat) (l1 : Nat) (l2 : Int32) (l3 : Int32) (l4 : Int32) (l5 : Int32) : Option (AT) := oif (oO T l0 8 = true) <| obind (T.2.2.2.2 l0 11) fun n3 => oif (oO T n3 10 = true) <| obind (g_X10_multiply T n3 (0 : Int32) l2) fun T5 => g_X8_subtractBeam_b41 k18 T5 l0 l1 l2 l3 l4 l5
def g_X8_subtractBeam_b18  : Nat → AT → Nat → Nat → Int32 → Int32 → Int32 → Int32 → Option (AT)
  | 0, _, _, _, _, _, _, _ => none
  | n + 1, T, l0, l1, l2, l3, l4, l5 => if l4 ≤ l5 then (oif (oO T l0 8 = true) <| elet (T.2.2.1 l0 2) fun v4 => elet (v4 + 1) fun v5 => oif (oO T l0 8 = true) <| elet (uI T l0 2 v5) fun T7 => some T7) else (oif (oO T l0 8 = true) <| obind (g_X8_focus T l0 l1 l5) fun T9 => g_X8_subtractBeam_b32 (g_X8_subtractBeam_b18 n) T9 l0 l1 l2 l3 l4 l5)
def g_X8_subtractBeam (T : AT) (o : Nat) (a0 : Nat) (a1 : Int32) : Option (AT) := oif (oO T o 8 = true) <| obind2 (g_X8_activeWeight T o) fun r5 T3 => elet (100 * r5) fun v7 => oif (oO T3 o 8 = true) <| obind2 (g_X8_windowOf T3 o a0) fun r11 T9 => g_X8_subtractBeam_b18 16384 T9 o a0 a1 v7 r11 0
set_option maxHeartbeats 4000000 in
set_option maxRecDepth 100000 in
theorem s_X8_subtractBeam_b115 {T1 : AT} {k18 : AT → Nat → Nat → Int32 → Int32 → Int32 → Int32 → Option (AT)} {k53 : AT → Nat → Nat → Int32 → Int32 → Int32 → Int32 → Int32 → Option (AT)} (hk18 : ∀ (T : AT) (l0 : Nat) (l1 : Nat) (l2 : Int32) (l3 : Int32) (l4 : Int32) (l5 : Int32), k18 T l0 l1 l2 l3 l4 l5 = some T1 → GL T T1) (hk53 : ∀ (T : AT) (l0 : Nat) (l1 : Nat) (l2 : Int32) (l3 : Int32) (l4 : Int32) (l5 : Int32) (l6 : Int32), k53 T l0 l1 l2 l3 l4 l5 l6 = some T1 → GL T T1) : ∀ (T : AT) (l0 : Nat) (l1 : Nat) (l2 : Int32) (l3 : Int32) (l4 : Int32) (l5 : Int32) (l6 : Int32), g_X8_subtractBeam_b115 k18 k53 T l0 l1 l2 l3 l4 l5 l6 = some T1 → GL T T1 := by
  intro T l0 l1 l2 l3 l4 l5 l6 h
  have p0 := GL.rf T
  unfold g_X8_subtractBeam_b115 at h
  obtain ⟨v2, ev2, h⟩ := elet_some h
  exact GL.tr p0 (hk53 _ _ _ _ _ _ _ _ h)
set_option maxHeartbeats 4000000 in
set_option maxRecDepth 100000 in
theorem s_X8_subtractBeam_b53 {T1 : AT} {k18 : AT → Nat → Nat → Int32 → Int32 → Int32 → Int32 → Option (AT)} (hk18 : ∀ (T : AT) (l0 : Nat) (l1 : Nat) (l2 : Int32) (l3 : Int32) (l4 : Int32) (l5 : Int32), k18 T l0 l1 l2 l3 l4 l5 = some T1 → GL T T1) : ∀ n : Nat, ∀ (T : AT) (l0 : Nat) (l1 : Nat) (l2 : Int32) (l3 : Int32) (l4 : Int32) (l5 : Int32) (l6 : Int32), g_X8_subtractBeam_b53 k18 n T l0 l1 l2 l3 l4 l5 l6 = some T1 → GL T T1 := by
  intro n
  induction n with
  | zero =>
    intro T l0 l1 l2 l3 l4 l5 l6 h
    have h : (none : Option (AT)) = some T1 := h
    cases h
  | succ n ih =>
    intro T l0 l1 l2 l3 l4 l5 l6 h
    have p0 := GL.rf T
    unfold g_X8_subtractBeam_b53 at h
    obtain ⟨g2, h⟩ := oif_some h
    obtain ⟨v3, -, h⟩ := elet_some h
    rcases oif_or h with ⟨c4, h⟩ | ⟨c4, h⟩
    · have h := h
      obtain ⟨v5, ev5, h⟩ := elet_some h
      exact GL.tr p0 (hk18 _ _ _ _ _ _ _ h)
    · have h := h
      obtain ⟨g6, h⟩ := oif_some h
      obtain ⟨g7, h⟩ := oif_some h
      obtain ⟨v8, -, h⟩ := elet_some h
      obtain ⟨v9, -, h⟩ := elet_some h
      obtain ⟨g10, h⟩ := oif_some h
      obtain ⟨n11, en11, h⟩ := obind_some h
      obtain ⟨g12, h⟩ := oif_some h
      obtain ⟨g13, h⟩ := oif_some h
      obtain ⟨v14, -, h⟩ := elet_some h
      rcases oif_or h with ⟨c15, h⟩ | ⟨c15, h⟩
      · have h := h
        rcases oif_or h with ⟨c16, h⟩ | ⟨c16, h⟩
        · have h := h
          exact GL.tr p0 (s_X8_subtractBeam_b115 hk18 ih _ _ _ _ _ _ _ _ h)
        · have h := h
          obtain ⟨g17, h⟩ := oif_some h
          obtain ⟨v18, -, h⟩ := elet_some h
          rcases oif_or h with ⟨c19, h⟩ | ⟨c19, h⟩
          · have h := h
            exact GL.tr p0 (s_X8_subtractBeam_b115 hk18 ih _ _ _ _ _ _ _ _ h)
          · have h := h
            obtain ⟨g20, h⟩ := oif_some h
            obtain ⟨n21, en21, h⟩ := obind_some h
            obtain ⟨r22, -, h⟩ := obind_some h
            obtain ⟨g23, h⟩ := oif_some h
            obtain ⟨n24, en24, h⟩ := obind_some h
            obtain ⟨g25, h⟩ := oif_some h
            obtain ⟨T26, eT26, h⟩ := obind_some h
            have p1 : GL T T26 := GL.tr p0 (s_X10_add eT26)
            exact GL.tr p1 (s_X8_subtractBeam_b115 hk18 ih _ _ _ _ _ _ _ _ h)
      · have h := h
        exact GL.tr p0 (s_X8_subtractBeam_b115 hk18 ih _ _ _ _ _ _ _ _ h)
set_option maxHeartbeats 4000000 in
set_option maxRecDepth 100000 in
theorem s_X8_subtractBeam_b50 {T1 : AT} {k18 : AT → Nat → Nat → Int32 → Int32 → Int32 → Int32 → Option (AT)} (hk18 : ∀ (T : AT) (l0 : Nat) (l1 : Nat) (l2 : Int32) (l3 : Int32) (l4 : Int32) (l5 : Int32), k18 T l0 l1 l2 l3 l4 l5 = some T1 → GL T T1) : ∀ (T : AT) (l0 : Nat) (l1 : Nat) (l2 : Int32) (l3 : Int32) (l4 : Int32) (l5 : Int32), g_X8_subtractBeam_b50 k18 T l0 l1 l2 l3 l4 l5 = some T1 → GL T T1 := by
  intro T l0 l1 l2 l3 l4 l5 h
  have p0 := GL.rf T
  unfold g_X8_subtractBeam_b50 at h
  exact GL.tr p0 (s_X8_subtractBeam_b53 hk18 _ _ _ _ _ _ _ _ _ h)
set_option maxHeartbeats 4000000 in
set_option maxRecDepth 100000 in
theorem s_X8_subtractBeam_b41 {T1 : AT} {k18 : AT → Nat → Nat → Int32 → Int32 → Int32 → Int32 → Option (AT)} (hk18 : ∀ (T : AT) (l0 : Nat) (l1 : Nat) (l2 : Int32) (l3 : Int32) (l4 : Int32) (l5 : Int32), k18 T l0 l1 l2 l3 l4 l5 = some T1 → GL T T1) : ∀ (T : AT) (l0 : Nat) (l1 : Nat) (l2 : Int32) (l3 : Int32) (l4 : Int32) (l5 : Int32), g_X8_subtractBeam_b41 k18 T l0 l1 l2 l3 l4 l5 = some T1 → GL T T1 := by
  intro T l0 l1 l2 l3 l4 l5 h
  have p0 := GL.rf T
  unfold g_X8_subtractBeam_b41 at h
  obtain ⟨g2, h⟩ := oif_some h
  obtain ⟨n3, en3, h⟩ := obind_some h
  obtain ⟨g4, h⟩ := oif_some h
  obtain ⟨T5, eT5, h⟩ := obind_some h
  have p1 : GL T T5 := GL.tr p0 (s_X10_divide eT5)
  exact GL.tr p1 (s_X8_subtractBeam_b50 hk18 _ _ _ _ _ _ _ h)
set_option maxHeartbeats 4000000 in
set_option maxRecDepth 100000 in
theorem s_X8_subtractBeam_b32 {T1 : AT} {k18 : AT → Nat → Nat → Int32 → Int32 → Int32 → Int32 → Option (AT)} (hk18 : ∀ (T : AT) (l0 : Nat) (l1 : Nat) (l2 : Int32) (l3 : Int32) (l4 : Int32) (l5 : Int32), k18 T l0 l1 l2 l3 l4 l5 = some T1 → GL T T1) : ∀ (T : AT) (l0 : Nat) (l1 : Nat) (l2 : Int32) (l3 : Int32) (l4 : Int32) (l5 : Int32), g_X8_subtractBeam_b32 k18 T l0 l1 l2 l3 l4 l5 = some T1 → GL T T1 := by
  intro T l0 l1 l2 l3 l4 l5 h
  have p0 := GL.rf T
  unfold g_X8_subtractBeam_b32 at h
  obtain ⟨g2, h⟩ := oif_some h
  obtain ⟨n3, en3, h⟩ := obind_some h
  obtain ⟨g4, h⟩ := oif_some h
  obtain ⟨T5, eT5, h⟩ := obind_some h
  have p1 : GL T T5 := GL.tr p0 (s_X10_multiply eT5)
  exact GL.tr p1 (s_X8_subtractBeam_b41 hk18 _ _ _ _ _ _ _ h)
set_option maxHeartbeats 4000000 in
set_option maxRecDepth 100000 in
theorem s_X8_subtractBeam_b18 {T1 : AT} : ∀ n : Nat, ∀ (T : AT) (l0 : Nat) (l1 : Nat) (l2 : Int32) (l3 : Int32) (l4 : Int32) (l5 : Int32), g_X8_subtractBeam_b18 n T l0 l1 l2 l3 l4 l5 = some T1 → GL T T1 := by
  intro n
  induction n with
  | zero =>
    intro T l0 l1 l2 l3 l4 l5 h
    have h : (none : Option (AT)) = some T1 := h
    cases h
  | succ n ih =>
    intro T l0 l1 l2 l3 l4 l5 h
    have p0 := GL.rf T
    unfold g_X8_subtractBeam_b18 at h
    rcases oif_or h with ⟨c2, h⟩ | ⟨c2, h⟩
    · have h := h
      obtain ⟨g3, h⟩ := oif_some h
      obtain ⟨v4, -, h⟩ := elet_some h
      obtain ⟨v5, -, h⟩ := elet_some h
      obtain ⟨g6, h⟩ := oif_some h
      obtain ⟨T7, eT7, h⟩ := elet_some h
      have p1 : GL T T7 := GL.tr p0 (by rw [eT7]; exact gl_sp sp_uI)
      rw [← osome1 h]
      exact p1
    · have h := h
      obtain ⟨g8, h⟩ := oif_some h
      obtain ⟨T9, eT9, h⟩ := obind_some h
      have p1 : GL T T9 := GL.tr p0 (s_X8_focus eT9)
      exact GL.tr p1 (s_X8_subtractBeam_b32 ih _ _ _ _ _ _ _ h)
set_option maxHeartbeats 4000000 in
set_option maxRecDepth 100000 in
theorem s_X8_subtractBeam {T : AT} {o : Nat} {a0 : Nat} {a1 : Int32} {T1 : AT} (h : g_X8_subtractBeam T o a0 a1 = some T1) : GL T T1 := by
  have p0 := GL.rf T
  unfold g_X8_subtractBeam at h
  obtain ⟨g2, h⟩ := oif_some h
  obtain ⟨r4, T3, eT3, h⟩ := obind2_some h
  have p1 : GL T T3 := GL.tr p0 (gl_sp (s_X8_activeWeight eT3))
  obtain ⟨v5, -, h⟩ := elet_some h
  obtain ⟨g6, h⟩ := oif_some h
  obtain ⟨r8, T7, eT7, h⟩ := obind2_some h
  have p2 : GL T T7 := GL.tr p1 (gl_sp (s_X8_windowOf eT7))
  exact GL.tr p2 (s_X8_subtractBeam_b18 _ _ _ _ _ _ _ _ h)
set_option maxHeartbeats 4000000 in
set_option maxRecDepth 100000 in
theorem a_X8_subtractBeam_b115 {p : Program} {l : Launch} {e : Env} {s : State} {m : MethodId} {args : Array Value} {below : List Frame} {meth : Method} {c : Code} {Q : State → Prop} {D : va_G} {A : Nat → Prop} {cI cJ cZ cMic cSrc cSt cAI cAJ : ClassId} {ad0 : Nat → Nat} {T0 : AT} {T1 : AT} (E : cE p c cX8_subtractBeam s m args (Cond.code yX8_subtractBeam cX8_subtractBeam 8 none :: wsA) D RX8 (CT cI cJ cZ cMic cSrc cSt cAI cAJ)) (hA : ∀ q : Nat, s.heap.size ≤ q → A q) (hX : xT A s) (hN : nX s) (hml : c.maxLocals = 8) (hst : l.stackTraces = false) (kr137 : ∀ (ad : Nat → Nat) (H : Heap) (locs : List Loc) (ls : Array Slot), (∀ n, n < T0.1 → ad n = ad0 n) → gC cI cJ cZ cMic cSrc cSt cAI cAJ D ad A s.heap H locs T1 → W p l e { frames := 4, cells := T1.1 - T0.1, slots := sg T1 - sg T0, locals := 77 } s m args below meth c H locs (T1.1 - T0.1) (sg T1 - sg T0) Q (F0 m 137 ls [])) {k18 : AT → Nat → Nat → Int32 → Int32 → Int32 → Int32 → Option (AT)} {k53 : AT → Nat → Nat → Int32 → Int32 → Int32 → Int32 → Int32 → Option (AT)} (hs18 : ∀ (T : AT) (l0 : Nat) (l1 : Nat) (l2 : Int32) (l3 : Int32) (l4 : Int32) (l5 : Int32), k18 T l0 l1 l2 l3 l4 l5 = some T1 → GL T T1) (hk18 : ∀ (T : AT) (ad : Nat → Nat) (H : Heap) (locs : List Loc) (ls : Array Slot) (l0 : Nat) (l1 : Nat) (l2 : Int32) (l3 : Int32) (l4 : Int32) (l5 : Int32), k18 T l0 l1 l2 l3 l4 l5 = some T1 → GL T0 T → RC T → (∀ n, n < T0.1 → ad n = ad0 n) → l0 < T.1 → l1 < T.1 → gC cI cJ cZ cMic cSrc cSt cAI cAJ D ad A s.heap H locs T → lv_has ls 8 [(0, .ref (ad l0)), (1, .ref (ad l1)), (2, .int l2), (3, .int l3), (4, .int l4), (5, .int l5)] → W p l e { frames := 4, cells := T1.1 - T0.1, slots := sg T1 - sg T0, locals := 77 } s m args below meth c H locs (T.1 - T0.1) (sg T - sg T0) Q (F0 m 18 ls [])) (hs53 : ∀ (T : AT) (l0 : Nat) (l1 : Nat) (l2 : Int32) (l3 : Int32) (l4 : Int32) (l5 : Int32) (l6 : Int32), k53 T l0 l1 l2 l3 l4 l5 l6 = some T1 → GL T T1) (hk53 : ∀ (T : AT) (ad : Nat → Nat) (H : Heap) (locs : List Loc) (ls : Array Slot) (l0 : Nat) (l1 : Nat) (l2 : Int32) (l3 : Int32) (l4 : Int32) (l5 : Int32) (l6 : Int32), k53 T l0 l1 l2 l3 l4 l5 l6 = some T1 → GL T0 T → RC T → (∀ n, n < T0.1 → ad n = ad0 n) → l0 < T.1 → l1 < T.1 → gC cI cJ cZ cMic cSrc cSt cAI cAJ D ad A s.heap H locs T → lv_has ls 8 [(0, .ref (ad l0)), (1, .ref (ad l1)), (2, .int l2), (3, .int l3), (4, .int l4), (5, .int l5), (6, .int l6)] → W p l e { frames := 4, cells := T1.1 - T0.1, slots := sg T1 - sg T0, locals := 77 } s m args below meth c H locs (T.1 - T0.1) (sg T - sg T0) Q (F0 m 53 ls [])) : ∀ (T : AT) (ad : Nat → Nat) (H : Heap) (locs : List Loc) (ls : Array Slot) (l0 : Nat) (l1 : Nat) (l2 : Int32) (l3 : Int32) (l4 : Int32) (l5 : Int32) (l6 : Int32), g_X8_subtractBeam_b115 k18 k53 T l0 l1 l2 l3 l4 l5 l6 = some T1 → GL T0 T → RC T → (∀ n, n < T0.1 → ad n = ad0 n) → l0 < T.1 → l1 < T.1 → gC cI cJ cZ cMic cSrc cSt cAI cAJ D ad A s.heap H locs T → lv_has ls 8 [(0, .ref (ad l0)), (1, .ref (ad l1)), (2, .int l2), (3, .int l3), (4, .int l4), (5, .int l5), (6, .int l6)] → W p l e { frames := 4, cells := T1.1 - T0.1, slots := sg T1 - sg T0, locals := 77 } s m args below meth c H locs (T.1 - T0.1) (sg T - sg T0) Q (F0 m 115 ls []) := by
  have hx := E.1
  have hb := E.2.1
  have hts := E.2.2.1
  have hown := E.2.2.2.1
  have hK := E.2.2.2.2
  intro T ad H locs ls l0 l1 l2 l3 l4 l5 l6 h hgl hrc had h_l0 h_l1 G hl
  have hT1 := s_X8_subtractBeam_b115 hs18 hs53 _ _ _ _ _ _ _ _ h
  have hcs := cs_ok hgl hT1
  have cp0 := cpr0 hrc
  unfold g_X8_subtractBeam_b115 at h
  obtain ⟨v2, ev2, h⟩ := elet_some h
  refine lv_iinc (v := v2) (lv' := [(6, .int v2), (0, .ref (ad l0)), (1, .ref (ad l1)), (2, .int l2), (3, .int l3), (4, .int l4), (5, .int l5)]) hx hb dX8_subtractBeam_115 hl (k := 6) rfl ev2.symm (by decide) rfl (fun ls hl => ?_)
  refine lv_goto (tgt := 53) hx hb dX8_subtractBeam_118 (by decide) ?_
  have hl := lv_sub hl [1, 2, 3, 4, 5, 6, 0] rfl
  refine w_cast (c2 := T.1 - T0.1) (s2 := sg T - sg T0) (by rw [cp0.1] <;> rfl) (by rw [sg_cpr cp0] <;> rfl) ?_
  exact hk53 _ _ _ _ _ _ _ _ _ _ _ _ h (gl_cpr hgl cp0) cp0.2.2 had (by rw [cp0.1]; exact h_l0) (by rw [cp0.1]; exact h_l1) G hl
set_option maxHeartbeats 4000000 in
set_option maxRecDepth 100000 in
theorem a_X8_subtractBeam_b53 {p : Program} {l : Launch} {e : Env} {s : State} {m : MethodId} {args : Array Value} {below : List Frame} {meth : Method} {c : Code} {Q : State → Prop} {D : va_G} {A : Nat → Prop} {cI cJ cZ cMic cSrc cSt cAI cAJ : ClassId} {ad0 : Nat → Nat} {T0 : AT} {T1 : AT} (E : cE p c cX8_subtractBeam s m args (Cond.code yX8_subtractBeam cX8_subtractBeam 8 none :: wsA) D RX8 (CT cI cJ cZ cMic cSrc cSt cAI cAJ)) (hA : ∀ q : Nat, s.heap.size ≤ q → A q) (hX : xT A s) (hN : nX s) (hml : c.maxLocals = 8) (hst : l.stackTraces = false) (kr137 : ∀ (ad : Nat → Nat) (H : Heap) (locs : List Loc) (ls : Array Slot), (∀ n, n < T0.1 → ad n = ad0 n) → gC cI cJ cZ cMic cSrc cSt cAI cAJ D ad A s.heap H locs T1 → W p l e { frames := 4, cells := T1.1 - T0.1, slots := sg T1 - sg T0, locals := 77 } s m args below meth c H locs (T1.1 - T0.1) (sg T1 - sg T0) Q (F0 m 137 ls [])) {k18 : AT → Nat → Nat → Int32 → Int32 → Int32 → Int32 → Option (AT)} (hs18 : ∀ (T : AT) (l0 : Nat) (l1 : Nat) (l2 : Int32) (l3 : Int32) (l4 : Int32) (l5 : Int32), k18 T l0 l1 l2 l3 l4 l5 = some T1 → GL T T1) (hk18 : ∀ (T : AT) (ad : Nat → Nat) (H : Heap) (locs : List Loc) (ls : Array Slot) (l0 : Nat) (l1 : Nat) (l2 : Int32) (l3 : Int32) (l4 : Int32) (l5 : Int32), k18 T l0 l1 l2 l3 l4 l5 = some T1 → GL T0 T → RC T → (∀ n, n < T0.1 → ad n = ad0 n) → l0 < T.1 → l1 < T.1 → gC cI cJ cZ cMic cSrc cSt cAI cAJ D ad A s.heap H locs T → lv_has ls 8 [(0, .ref (ad l0)), (1, .ref (ad l1)), (2, .int l2), (3, .int l3), (4, .int l4), (5, .int l5)] → W p l e { frames := 4, cells := T1.1 - T0.1, slots := sg T1 - sg T0, locals := 77 } s m args below meth c H locs (T.1 - T0.1) (sg T - sg T0) Q (F0 m 18 ls [])) : ∀ n : Nat, ∀ (T : AT) (ad : Nat → Nat) (H : Heap) (locs : List Loc) (ls : Array Slot) (l0 : Nat) (l1 : Nat) (l2 : Int32) (l3 : Int32) (l4 : Int32) (l5 : Int32) (l6 : Int32), g_X8_subtractBeam_b53 k18 n T l0 l1 l2 l3 l4 l5 l6 = some T1 → GL T0 T → RC T → (∀ n, n < T0.1 → ad n = ad0 n) → l0 < T.1 → l1 < T.1 → gC cI cJ cZ cMic cSrc cSt cAI cAJ D ad A s.heap H locs T → lv_has ls 8 [(0, .ref (ad l0)), (1, .ref (ad l1)), (2, .int l2), (3, .int l3), (4, .int l4), (5, .int l5), (6, .int l6)] → W p l e { frames := 4, cells := T1.1 - T0.1, slots := sg T1 - sg T0, locals := 77 } s m args below meth c H locs (T.1 - T0.1) (sg T - sg T0) Q (F0 m 53 ls []) := by
  have hx := E.1
  have hb := E.2.1
  have hts := E.2.2.1
  have hown := E.2.2.2.1
  have hK := E.2.2.2.2
  intro n
  induction n with
  | zero =>
    intro T ad H locs ls l0 l1 l2 l3 l4 l5 l6 h
    have h : (none : Option (AT)) = some T1 := h
    cases h
  | succ n ih =>
    intro T ad H locs ls l0 l1 l2 l3 l4 l5 l6 h hgl hrc had h_l0 h_l1 G hl
    have hT1 := s_X8_subtractBeam_b53 hs18 _ _ _ _ _ _ _ _ _ h
    have hcs := cs_ok hgl hT1
    have cp0 := cpr0 hrc
    unfold g_X8_subtractBeam_b53 at h
    refine lv_iload hx hb dX8_subtractBeam_53 (lv_at hl 6 rfl) ?_
    refine lv_aload_n hx hb dX8_subtractBeam_55 rfl (lv_at hl 0 rfl) ?_
    obtain ⟨g2, h⟩ := oif_some h
    refine c_get E G l0 0 (oO_k g2).1 (cc_o8 (oO_k g2).2) rfl (fun w h => .tail _ (iA_16 h)) (by decide) (.tail _ qA_63) rfl rfl dX8_subtractBeam_56 ?_
    refine lv_topi (fun v3 ev3 => ?_)
    have h := elet_at ev3 h
    clear ev3
    refine lv_icmp_ge (tgt := 121) hx hb dX8_subtractBeam_59 (by decide) (fun c4 => ?_) (fun c4 => ?_)
    · have h := oif_pos c4 h
      obtain ⟨v5, ev5, h⟩ := elet_some h
      refine lv_iinc (v := v5) (lv' := [(5, .int v5), (0, .ref (ad l0)), (1, .ref (ad l1)), (2, .int l2), (3, .int l3), (4, .int l4), (6, .int l6)]) hx hb dX8_subtractBeam_121 hl (k := 5) rfl ev5.symm (by decide) rfl (fun ls hl => ?_)
      refine lv_goto (tgt := 18) hx hb dX8_subtractBeam_124 (by decide) ?_
      have hl := lv_sub hl [1, 2, 3, 4, 5, 0] rfl
      refine w_cast (c2 := T.1 - T0.1) (s2 := sg T - sg T0) (by rw [cp0.1] <;> rfl) (by rw [sg_cpr cp0] <;> rfl) ?_
      exact hk18 _ _ _ _ _ _ _ _ _ _ _ h (gl_cpr hgl cp0) cp0.2.2 had (by rw [cp0.1]; exact h_l0) (by rw [cp0.1]; exact h_l1) G hl
    · have h := oif_neg c4 h
      refine lv_iload hx hb dX8_subtractBeam_62 (lv_at hl 5 rfl) ?_
      refine lv_aload_n hx hb dX8_subtractBeam_64 rfl (lv_at hl 1 rfl) ?_
      refine lv_iload hx hb dX8_subtractBeam_65 (lv_at hl 6 rfl) ?_
      obtain ⟨g6, h⟩ := oif_some h
      obtain ⟨g7, h⟩ := oif_some h
      refine c_iald E G l1 0 (k := l6.toNatClampNeg) (aA_k g6).1 (cc_a100 (aA_k g6).2.1) rfl (inb_k g7).1 (inb_k g7).2 (aA_k g6).2.2 dX8_subtractBeam_67 ?_
      refine lv_topi (fun v8 ev8 => ?_)
      have h := elet_at ev8 h
      clear ev8
      refine lv_iadd hx hb dX8_subtractBeam_68 ?_
      refine lv_topi (fun v9 ev9 => ?_)
      have h := elet_at ev9 h
      clear ev9
      refine lv_istore (lv' := [(7, .int v9), (0, .ref (ad l0)), (1, .ref (ad l1)), (2, .int l2), (3, .int l3), (4, .int l4), (5, .int l5), (6, .int l6)]) hx hb dX8_subtractBeam_69 hl (by decide) rfl (fun ls hl => ?_)
      refine lv_aload_n hx hb dX8_subtractBeam_71 rfl (lv_at hl 1 rfl) ?_
      obtain ⟨g10, h⟩ := oif_some h
      obtain ⟨n11, en11, h⟩ := obind_some h
      have h_n11 : n11 < T.1 := by rw [← cp0.1]; exact cp0.2.2 _ _ _ en11
      refine c_get E G l0 3 (v := .ref (ad n11)) (oO_k g10).1 (cc_o8 (oO_k g10).2) rfl (fun w h => .tail _ (iA_16 h)) (by decide) (.tail _ qA_64) rfl (by rw [en11]; rfl) dX8_subtractBeam_72 ?_
      clear en11
      refine lv_iload hx hb dX8_subtractBeam_75 (lv_at hl 7 rfl) ?_
      obtain ⟨g12, h⟩ := oif_some h
      obtain ⟨g13, h⟩ := oif_some h
      refine c_zald E G n11 2 (k := l6.toNatClampNeg) (aA_k g12).1 (cc_a102 (aA_k g12).2.1) rfl (inb_k g13).1 (inb_k g13).2 (aA_k g12).2.2 dX8_subtractBeam_77 ?_
      refine lv_topi (fun v14 ev14 => ?_)
      have h := elet_at ev14 h
      clear ev14
      refine lv_if_ne (tgt := 115) hx hb dX8_subtractBeam_78 (by decide) (fun c15 => ?_) (fun c15 => ?_)
      · have h := oif_neg c15 h
        have hl := lv_sub hl [1, 2, 3, 4, 5, 6, 7] rfl
        refine w_cast (c2 := T.1 - T0.1) (s2 := sg T - sg T0) (by rw [cp0.1] <;> rfl) (by rw [sg_cpr cp0] <;> rfl) ?_
        exact a_X8_subtractBeam_b115 E hA hX hN hml hst kr137 hs18 hk18 (s_X8_subtractBeam_b53 hs18 n) ih _ _ _ _ _ _ _ _ _ _ _ _ h (gl_cpr hgl cp0) cp0.2.2 had (by rw [cp0.1]; exact h_l0) (by rw [cp0.1]; exact h_l1) G hl
      · have h := oif_pos c15 h
        refine lv_iload hx hb dX8_subtractBeam_81 (lv_at hl 0 rfl) ?_
        refine lv_if_lt (tgt := 115) hx hb dX8_subtractBeam_83 (by decide) (fun c16 => ?_) (fun c16 => ?_)
        · have h := oif_pos c16 h
          have hl := lv_sub hl [1, 2, 3, 4, 5, 6, 7] rfl
          refine w_cast (c2 := T.1 - T0.1) (s2 := sg T - sg T0) (by rw [cp0.1] <;> rfl) (by rw [sg_cpr cp0] <;> rfl) ?_
          exact a_X8_subtractBeam_b115 E hA hX hN hml hst kr137 hs18 hk18 (s_X8_subtractBeam_b53 hs18 n) ih _ _ _ _ _ _ _ _ _ _ _ _ h (gl_cpr hgl cp0) cp0.2.2 had (by rw [cp0.1]; exact h_l0) (by rw [cp0.1]; exact h_l1) G hl
        · have h := oif_neg c16 h
          refine lv_iload hx hb dX8_subtractBeam_86 (lv_at hl 0 rfl) ?_
          refine lv_aload_n hx hb dX8_subtractBeam_88 rfl (lv_at hl 1 rfl) ?_
          obtain ⟨g17, h⟩ := oif_some h
          refine c_get E G l0 1 (oO_k g17).1 (cc_o8 (oO_k g17).2) rfl (fun w h => .tail _ (iA_16 h)) (by decide) (.tail _ qA_57) rfl rfl dX8_subtractBeam_89 ?_
          refine lv_topi (fun v18 ev18 => ?_)
          have h := elet_at ev18 h
          clear ev18
          refine lv_icmp_ge (tgt := 115) hx hb dX8_subtractBeam_92 (by decide) (fun c19 => ?_) (fun c19 => ?_)
          · have h := oif_pos c19 h
            have hl := lv_sub hl [1, 2, 3, 4, 5, 6, 7] rfl
            refine w_cast (c2 := T.1 - T0.1) (s2 := sg T - sg T0) (by rw [cp0.1] <;> rfl) (by rw [sg_cpr cp0] <;> rfl) ?_
            exact a_X8_subtractBeam_b115 E hA hX hN hml hst kr137 hs18 hk18 (s_X8_subtractBeam_b53 hs18 n) ih _ _ _ _ _ _ _ _ _ _ _ _ h (gl_cpr hgl cp0) cp0.2.2 had (by rw [cp0.1]; exact h_l0) (by rw [cp0.1]; exact h_l1) G hl
          · have h := oif_neg c19 h
            refine lv_aload_n hx hb dX8_subtractBeam_95 rfl (lv_at hl 1 rfl) ?_
            obtain ⟨g20, h⟩ := oif_some h
            obtain ⟨n21, en21, h⟩ := obind_some h
            have h_n21 : n21 < T.1 := by rw [← cp0.1]; exact cp0.2.2 _ _ _ en21
            refine c_get E G l0 10 (v := .ref (ad n21)) (oO_k g20).1 (cc_o8 (oO_k g20).2) rfl (fun w h => .tail _ (iA_16 h)) (by decide) (.tail _ qA_73) rfl (by rw [en21]; rfl) dX8_subtractBeam_96 ?_
            clear en21
            refine lv_iload hx hb dX8_subtractBeam_99 (lv_at hl 7 rfl) ?_
            refine lv_iload hx hb dX8_subtractBeam_101 (lv_at hl 0 rfl) ?_
            obtain ⟨r22, er22, h⟩ := obind_some h
            refine q_sti (As := [.int l6, .int v9]) (rest := [.ref (ad n21)]) ⟨hx, hb, hml, hown, hts⟩ hN (u_X8_placeOf l l6 v9 er22) (cwS 2 hts (gaS qA_87 qA_88 qA_47 qA_89) rfl rfl rfl (by decide +kernel) ⟨Nat.le_of_ble_eq_true rfl, Nat.le_of_ble_eq_true rfl⟩) rfl hl.1 rfl (lv_room (Nat.le_of_ble_eq_true rfl)) dX8_subtractBeam_103 hcs (fun q23 hq => ?_)
            refine lv_to hq ?_
            clear hq er22
            refine lv_aload_n hx hb dX8_subtractBeam_106 rfl (lv_at hl 1 rfl) ?_
            obtain ⟨g24, h⟩ := oif_some h
            obtain ⟨n25, en25, h⟩ := obind_some h
            have h_n25 : n25 < T.1 := by rw [← cp0.1]; exact cp0.2.2 _ _ _ en25
            refine c_get E G l0 11 (v := .ref (ad n25)) (oO_k g24).1 (cc_o8 (oO_k g24).2) rfl (fun w h => .tail _ (iA_16 h)) (by decide) (.tail _ qA_52) rfl (by rw [en25]; rfl) dX8_subtractBeam_107 ?_
            clear en25
            refine lv_iconst (v := 0) hx hb dX8_subtractBeam_110 (by decide) ?_
            refine lv_iconst (v := (-1)) hx hb dX8_subtractBeam_111 (by decide) ?_
            obtain ⟨g26, h⟩ := oif_some h
            obtain ⟨T27, eT27, h⟩ := obind_some h
            have hg2 := s_X10_add eT27
            have hrc2 := hg2.2.2 cp0.2.2
            have hT2 := s_X8_subtractBeam_b115 hs18 (s_X8_subtractBeam_b53 hs18 n) _ _ _ _ _ _ _ _ h
            refine q_avv (As := [.int r22, .ref (ad n25), .int 0, .int (-1)]) (rest := []) E G hA hX hN hml (a_X10_add l hst D cI cJ cZ cMic cSrc cSt cAI cAJ ad T n21 r22 n25 (0 : Int32) ((-1) : Int32) eT27 cp0.2.2 (by rw [cp0.1]; exact h_n21) (by rw [cp0.1]; exact h_n25)) (cwV 4 hts (gaV qA_628 qA_151 qA_152 qA_6 qA_153) rfl rfl rfl (by decide +kernel) ⟨Nat.le_of_ble_eq_true rfl, Nat.le_of_ble_eq_true rfl⟩) (oO_k g26).1 (cc_o10 (oO_k g26).2) rfl rfl hl.1 rfl (lv_room (Nat.le_of_ble_eq_true rfl)) dX8_subtractBeam_112 (cs_av hgl cp0 hg2 hT2) (fun ad2 H locs hga G => ?_)
            refine w_cast (c2 := T27.1 - T0.1) (s2 := sg T27 - sg T0) (cs_f1 hgl cp0 hg2) (cs_f2 hgl cp0 hg2) ?_
            have hl := lv_sub hl [1, 2, 3, 4, 5, 6, 7] rfl
            rw [show ad l0 = ad2 l0 from (hga l0 (by rw [cp0.1]; exact h_l0)).symm] at hl
            rw [show ad l1 = ad2 l1 from (hga l1 (by rw [cp0.1]; exact h_l1)).symm] at hl
            exact a_X8_subtractBeam_b115 E hA hX hN hml hst kr137 hs18 hk18 (s_X8_subtractBeam_b53 hs18 n) ih _ _ _ _ _ _ _ _ _ _ _ _ h (GL.tr (gl_cpr hgl cp0) hg2) hrc2 (fun n hn => (hga n (by rw [cp0.1]; exact Nat.lt_of_lt_of_le hn hgl.1)).trans (had n hn)) (Nat.lt_of_lt_of_le (by rw [cp0.1]; exact h_l0) hg2.1) (Nat.lt_of_lt_of_le (by rw [cp0.1]; exact h_l1) hg2.1) G hl
set_option maxHeartbeats 4000000 in
set_option maxRecDepth 100000 in
theorem a_X8_subtractBeam_b50 {p : Program} {l : Launch} {e : Env} {s : State} {m : MethodId} {args : Array Value} {below : List Frame} {meth : Method} {c : Code} {Q : State → Prop} {D : va_G} {A : Nat → Prop} {cI cJ cZ cMic cSrc cSt cAI cAJ : ClassId} {ad0 : Nat → Nat} {T0 : AT} {T1 : AT} (E : cE p c cX8_subtractBeam s m args (Cond.code yX8_subtractBeam cX8_subtractBeam 8 none :: wsA) D RX8 (CT cI cJ cZ cMic cSrc cSt cAI cAJ)) (hA : ∀ q : Nat, s.heap.size ≤ q → A q) (hX : xT A s) (hN : nX s) (hml : c.maxLocals = 8) (hst : l.stackTraces = false) (kr137 : ∀ (ad : Nat → Nat) (H : Heap) (locs : List Loc) (ls : Array Slot), (∀ n, n < T0.1 → ad n = ad0 n) → gC cI cJ cZ cMic cSrc cSt cAI cAJ D ad A s.heap H locs T1 → W p l e { frames := 4, cells := T1.1 - T0.1, slots := sg T1 - sg T0, locals := 77 } s m args below meth c H locs (T1.1 - T0.1) (sg T1 - sg T0) Q (F0 m 137 ls [])) {k18 : AT → Nat → Nat → Int32 → Int32 → Int32 → Int32 → Option (AT)} (hs18 : ∀ (T : AT) (l0 : Nat) (l1 : Nat) (l2 : Int32) (l3 : Int32) (l4 : Int32) (l5 : Int32), k18 T l0 l1 l2 l3 l4 l5 = some T1 → GL T T1) (hk18 : ∀ (T : AT) (ad : Nat → Nat) (H : Heap) (locs : List Loc) (ls : Array Slot) (l0 : Nat) (l1 : Nat) (l2 : Int32) (l3 : Int32) (l4 : Int32) (l5 : Int32), k18 T l0 l1 l2 l3 l4 l5 = some T1 → GL T0 T → RC T → (∀ n, n < T0.1 → ad n = ad0 n) → l0 < T.1 → l1 < T.1 → gC cI cJ cZ cMic cSrc cSt cAI cAJ D ad A s.heap H locs T → lv_has ls 8 [(0, .ref (ad l0)), (1, .ref (ad l1)), (2, .int l2), (3, .int l3), (4, .int l4), (5, .int l5)] → W p l e { frames := 4, cells := T1.1 - T0.1, slots := sg T1 - sg T0, locals := 77 } s m args below meth c H locs (T.1 - T0.1) (sg T - sg T0) Q (F0 m 18 ls [])) : ∀ (T : AT) (ad : Nat → Nat) (H : Heap) (locs : List Loc) (ls : Array Slot) (l0 : Nat) (l1 : Nat) (l2 : Int32) (l3 : Int32) (l4 : Int32) (l5 : Int32), g_X8_subtractBeam_b50 k18 T l0 l1 l2 l3 l4 l5 = some T1 → GL T0 T → RC T → (∀ n, n < T0.1 → ad n = ad0 n) → l0 < T.1 → l1 < T.1 → gC cI cJ cZ cMic cSrc cSt cAI cAJ D ad A s.heap H locs T → lv_has ls 8 [(0, .ref (ad l0)), (1, .ref (ad l1)), (2, .int l2), (3, .int l3), (4, .int l4), (5, .int l5)] → W p l e { frames := 4, cells := T1.1 - T0.1, slots := sg T1 - sg T0, locals := 77 } s m args below meth c H locs (T.1 - T0.1) (sg T - sg T0) Q (F0 m 50 ls []) := by
  have hx := E.1
  have hb := E.2.1
  have hts := E.2.2.1
  have hown := E.2.2.2.1
  have hK := E.2.2.2.2
  intro T ad H locs ls l0 l1 l2 l3 l4 l5 h hgl hrc had h_l0 h_l1 G hl
  have hT1 := s_X8_subtractBeam_b50 hs18 _ _ _ _ _ _ _ h
  have hcs := cs_ok hgl hT1
  have cp0 := cpr0 hrc
  unfold g_X8_subtractBeam_b50 at h
  refine lv_iconst (v := 0) hx hb dX8_subtractBeam_50 (by decide) ?_
  refine lv_istore (lv' := [(6, .int 0), (0, .ref (ad l0)), (1, .ref (ad l1)), (2, .int l2), (3, .int l3), (4, .int l4), (5, .int l5)]) hx hb dX8_subtractBeam_51 hl (by decide) rfl (fun ls hl => ?_)
  have hl := lv_sub hl [1, 2, 3, 4, 5, 6, 0] rfl
  refine w_cast (c2 := T.1 - T0.1) (s2 := sg T - sg T0) (by rw [cp0.1] <;> rfl) (by rw [sg_cpr cp0] <;> rfl) ?_
  exact a_X8_subtractBeam_b53 E hA hX hN hml hst kr137 hs18 hk18 _ _ _ _ _ _ _ _ _ _ _ _ _ h (gl_cpr hgl cp0) cp0.2.2 had (by rw [cp0.1]; exact h_l0) (by rw [cp0.1]; exact h_l1) G hl
set_option maxHeartbeats 4000000 in
set_option maxRecDepth 100000 in
theorem a_X8_subtractBeam_b41 {p : Program} {l : Launch} {e : Env} {s : State} {m : MethodId} {args : Array Value} {below : List Frame} {meth : Method} {c : Code} {Q : State → Prop} {D : va_G} {A : Nat → Prop} {cI cJ cZ cMic cSrc cSt cAI cAJ : ClassId} {ad0 : Nat → Nat} {T0 : AT} {T1 : AT} (E : cE p c cX8_subtractBeam s m args (Cond.code yX8_subtractBeam cX8_subtractBeam 8 none :: wsA) D RX8 (CT cI cJ cZ cMic cSrc cSt cAI cAJ)) (hA : ∀ q : Nat, s.heap.size ≤ q → A q) (hX : xT A s) (hN : nX s) (hml : c.maxLocals = 8) (hst : l.stackTraces = false) (kr137 : ∀ (ad : Nat → Nat) (H : Heap) (locs : List Loc) (ls : Array Slot), (∀ n, n < T0.1 → ad n = ad0 n) → gC cI cJ cZ cMic cSrc cSt cAI cAJ D ad A s.heap H locs T1 → W p l e { frames := 4, cells := T1.1 - T0.1, slots := sg T1 - sg T0, locals := 77 } s m args below meth c H locs (T1.1 - T0.1) (sg T1 - sg T0) Q (F0 m 137 ls [])) {k18 : AT → Nat → Nat → Int32 → Int32 → Int32 → Int32 → Option (AT)} (hs18 : ∀ (T : AT) (l0 : Nat) (l1 : Nat) (l2 : Int32) (l3 : Int32) (l4 : Int32) (l5 : Int32), k18 T l0 l1 l2 l3 l4 l5 = some T1 → GL T T1) (hk18 : ∀ (T : AT) (ad : Nat → Nat) (H : Heap) (locs : List Loc) (ls : Array Slot) (l0 : Nat) (l1 : Nat) (l2 : Int32) (l3 : Int32) (l4 : Int32) (l5 : Int32), k18 T l0 l1 l2 l3 l4 l5 = some T1 → GL T0 T → RC T → (∀ n, n < T0.1 → ad n = ad0 n) → l0 < T.1 → l1 < T.1 → gC cI cJ cZ cMic cSrc cSt cAI cAJ D ad A s.heap H locs T → lv_has ls 8 [(0, .ref (ad l0)), (1, .ref (ad l1)), (2, .int l2), (3, .int l3), (4, .int l4), (5, .int l5)] → W p l e { frames := 4, cells := T1.1 - T0.1, slots := sg T1 - sg T0, locals := 77 } s m args below meth c H locs (T.1 - T0.1) (sg T - sg T0) Q (F0 m 18 ls [])) : ∀ (T : AT) (ad : Nat → Nat) (H : Heap) (locs : List Loc) (ls : Array Slot) (l0 : Nat) (l1 : Nat) (l2 : Int32) (l3 : Int32) (l4 : Int32) (l5 : Int32), g_X8_subtractBeam_b41 k18 T l0 l1 l2 l3 l4 l5 = some T1 → GL T0 T → RC T → (∀ n, n < T0.1 → ad n = ad0 n) → l0 < T.1 → l1 < T.1 → gC cI cJ cZ cMic cSrc cSt cAI cAJ D ad A s.heap H locs T → lv_has ls 8 [(0, .ref (ad l0)), (1, .ref (ad l1)), (2, .int l2), (3, .int l3), (4, .int l4), (5, .int l5)] → W p l e { frames := 4, cells := T1.1 - T0.1, slots := sg T1 - sg T0, locals := 77 } s m args below meth c H locs (T.1 - T0.1) (sg T - sg T0) Q (F0 m 41 ls []) := by
  have hx := E.1
  have hb := E.2.1
  have hts := E.2.2.1
  have hown := E.2.2.2.1
  have hK := E.2.2.2.2
  intro T ad H locs ls l0 l1 l2 l3 l4 l5 h hgl hrc had h_l0 h_l1 G hl
  have hT1 := s_X8_subtractBeam_b41 hs18 _ _ _ _ _ _ _ h
  have hcs := cs_ok hgl hT1
  have cp0 := cpr0 hrc
  unfold g_X8_subtractBeam_b41 at h
  refine lv_aload_n hx hb dX8_subtractBeam_41 rfl (lv_at hl 0 rfl) ?_
  obtain ⟨g2, h⟩ := oif_some h
  obtain ⟨n3, en3, h⟩ := obind_some h
  have h_n3 : n3 < T.1 := by rw [← cp0.1]; exact cp0.2.2 _ _ _ en3
  refine c_get E G l0 11 (v := .ref (ad n3)) (oO_k g2).1 (cc_o8 (oO_k g2).2) rfl (fun w h => .tail _ (iA_16 h)) (by decide) (.tail _ qA_52) rfl (by rw [en3]; rfl) dX8_subtractBeam_42 ?_
  clear en3
  refine lv_iconst (v := 0) hx hb dX8_subtractBeam_45 (by decide) ?_
  refine lv_iload_n hx hb dX8_subtractBeam_46 rfl (lv_at hl 3 rfl) ?_
  obtain ⟨g4, h⟩ := oif_some h
  obtain ⟨T5, eT5, h⟩ := obind_some h
  have hg2 := s_X10_divide eT5
  have hrc2 := hg2.2.2 cp0.2.2
  have hT2 := s_X8_subtractBeam_b50 hs18 _ _ _ _ _ _ _ h
  refine q_avv (As := [.int 0, .int l3]) (rest := []) E G hA hX hN hml (a_X10_divide l hst D cI cJ cZ cMic cSrc cSt cAI cAJ ad T n3 (0 : Int32) l3 eT5 cp0.2.2 (by rw [cp0.1]; exact h_n3)) (cwV 2 hts (gaV qA_104 qA_105 qA_106 qA_6 qA_107) rfl rfl rfl (by decide +kernel) ⟨Nat.le_of_ble_eq_true rfl, Nat.le_of_ble_eq_true rfl⟩) (oO_k g4).1 (cc_o10 (oO_k g4).2) rfl rfl hl.1 rfl (lv_room (Nat.le_of_ble_eq_true rfl)) dX8_subtractBeam_47 (cs_av hgl cp0 hg2 hT2) (fun ad2 H locs hga G => ?_)
  refine w_cast (c2 := T5.1 - T0.1) (s2 := sg T5 - sg T0) (cs_f1 hgl cp0 hg2) (cs_f2 hgl cp0 hg2) ?_
  have hl := lv_sub hl [0, 1, 2, 3, 4, 5] rfl
  rw [show ad l0 = ad2 l0 from (hga l0 (by rw [cp0.1]; exact h_l0)).symm] at hl
  rw [show ad l1 = ad2 l1 from (hga l1 (by rw [cp0.1]; exact h_l1)).symm] at hl
  exact a_X8_subtractBeam_b50 E hA hX hN hml hst kr137 hs18 hk18 _ _ _ _ _ _ _ _ _ _ _ h (GL.tr (gl_cpr hgl cp0) hg2) hrc2 (fun n hn => (hga n (by rw [cp0.1]; exact Nat.lt_of_lt_of_le hn hgl.1)).trans (had n hn)) (Nat.lt_of_lt_of_le (by rw [cp0.1]; exact h_l0) hg2.1) (Nat.lt_of_lt_of_le (by rw [cp0.1]; exact h_l1) hg2.1) G hl
set_option maxHeartbeats 4000000 in
set_option maxRecDepth 100000 in
theorem a_X8_subtractBeam_b32 {p : Program} {l : Launch} {e : Env} {s : State} {m : MethodId} {args : Array Value} {below : List Frame} {meth : Method} {c : Code} {Q : State → Prop} {D : va_G} {A : Nat → Prop} {cI cJ cZ cMic cSrc cSt cAI cAJ : ClassId} {ad0 : Nat → Nat} {T0 : AT} {T1 : AT} (E : cE p c cX8_subtractBeam s m args (Cond.code yX8_subtractBeam cX8_subtractBeam 8 none :: wsA) D RX8 (CT cI cJ cZ cMic cSrc cSt cAI cAJ)) (hA : ∀ q : Nat, s.heap.size ≤ q → A q) (hX : xT A s) (hN : nX s) (hml : c.maxLocals = 8) (hst : l.stackTraces = false) (kr137 : ∀ (ad : Nat → Nat) (H : Heap) (locs : List Loc) (ls : Array Slot), (∀ n, n < T0.1 → ad n = ad0 n) → gC cI cJ cZ cMic cSrc cSt cAI cAJ D ad A s.heap H locs T1 → W p l e { frames := 4, cells := T1.1 - T0.1, slots := sg T1 - sg T0, locals := 77 } s m args below meth c H locs (T1.1 - T0.1) (sg T1 - sg T0) Q (F0 m 137 ls [])) {k18 : AT → Nat → Nat → Int32 → Int32 → Int32 → Int32 → Option (AT)} (hs18 : ∀ (T : AT) (l0 : Nat) (l1 : Nat) (l2 : Int32) (l3 : Int32) (l4 : Int32) (l5 : Int32), k18 T l0 l1 l2 l3 l4 l5 = some T1 → GL T T1) (hk18 : ∀ (T : AT) (ad : Nat → Nat) (H : Heap) (locs : List Loc) (ls : Array Slot) (l0 : Nat) (l1 : Nat) (l2 : Int32) (l3 : Int32) (l4 : Int32) (l5 : Int32), k18 T l0 l1 l2 l3 l4 l5 = some T1 → GL T0 T → RC T → (∀ n, n < T0.1 → ad n = ad0 n) → l0 < T.1 → l1 < T.1 → gC cI cJ cZ cMic cSrc cSt cAI cAJ D ad A s.heap H locs T → lv_has ls 8 [(0, .ref (ad l0)), (1, .ref (ad l1)), (2, .int l2), (3, .int l3), (4, .int l4), (5, .int l5)] → W p l e { frames := 4, cells := T1.1 - T0.1, slots := sg T1 - sg T0, locals := 77 } s m args below meth c H locs (T.1 - T0.1) (sg T - sg T0) Q (F0 m 18 ls [])) : ∀ (T : AT) (ad : Nat → Nat) (H : Heap) (locs : List Loc) (ls : Array Slot) (l0 : Nat) (l1 : Nat) (l2 : Int32) (l3 : Int32) (l4 : Int32) (l5 : Int32), g_X8_subtractBeam_b32 k18 T l0 l1 l2 l3 l4 l5 = some T1 → GL T0 T → RC T → (∀ n, n < T0.1 → ad n = ad0 n) → l0 < T.1 → l1 < T.1 → gC cI cJ cZ cMic cSrc cSt cAI cAJ D ad A s.heap H locs T → lv_has ls 8 [(0, .ref (ad l0)), (1, .ref (ad l1)), (2, .int l2), (3, .int l3), (4, .int l4), (5, .int l5)] → W p l e { frames := 4, cells := T1.1 - T0.1, slots := sg T1 - sg T0, locals := 77 } s m args below meth c H locs (T.1 - T0.1) (sg T - sg T0) Q (F0 m 32 ls []) := by
  have hx := E.1
  have hb := E.2.1
  have hts := E.2.2.1
  have hown := E.2.2.2.1
  have hK := E.2.2.2.2
  intro T ad H locs ls l0 l1 l2 l3 l4 l5 h hgl hrc had h_l0 h_l1 G hl
  have hT1 := s_X8_subtractBeam_b32 hs18 _ _ _ _ _ _ _ h
  have hcs := cs_ok hgl hT1
  have cp0 := cpr0 hrc
  unfold g_X8_subtractBeam_b32 at h
  refine lv_aload_n hx hb dX8_subtractBeam_32 rfl (lv_at hl 0 rfl) ?_
  obtain ⟨g2, h⟩ := oif_some h
  obtain ⟨n3, en3, h⟩ := obind_some h
  have h_n3 : n3 < T.1 := by rw [← cp0.1]; exact cp0.2.2 _ _ _ en3
  refine c_get E G l0 11 (v := .ref (ad n3)) (oO_k g2).1 (cc_o8 (oO_k g2).2) rfl (fun w h => .tail _ (iA_16 h)) (by decide) (.tail _ qA_52) rfl (by rw [en3]; rfl) dX8_subtractBeam_33 ?_
  clear en3
  refine lv_iconst (v := 0) hx hb dX8_subtractBeam_36 (by decide) ?_
  refine lv_iload_n hx hb dX8_subtractBeam_37 rfl (lv_at hl 2 rfl) ?_
  obtain ⟨g4, h⟩ := oif_some h
  obtain ⟨T5, eT5, h⟩ := obind_some h
  have hg2 := s_X10_multiply eT5
  have hrc2 := hg2.2.2 cp0.2.2
  have hT2 := s_X8_subtractBeam_b41 hs18 _ _ _ _ _ _ _ h
  refine q_avv (As := [.int 0, .int l2]) (rest := []) E G hA hX hN hml (a_X10_multiply l hst D cI cJ cZ cMic cSrc cSt cAI cAJ ad T n3 (0 : Int32) l2 eT5 cp0.2.2 (by rw [cp0.1]; exact h_n3)) (cwV 2 hts (gaV qA_624 qA_625 qA_626 qA_6 qA_627) rfl rfl rfl (by decide +kernel) ⟨Nat.le_of_ble_eq_true rfl, Nat.le_of_ble_eq_true rfl⟩) (oO_k g4).1 (cc_o10 (oO_k g4).2) rfl rfl hl.1 rfl (lv_room (Nat.le_of_ble_eq_true rfl)) dX8_subtractBeam_38 (cs_av hgl cp0 hg2 hT2) (fun ad2 H locs hga G => ?_)
  refine w_cast (c2 := T5.1 - T0.1) (s2 := sg T5 - sg T0) (cs_f1 hgl cp0 hg2) (cs_f2 hgl cp0 hg2) ?_
  have hl := lv_sub hl [0, 1, 2, 3, 4, 5] rfl
  rw [show ad l0 = ad2 l0 from (hga l0 (by rw [cp0.1]; exact h_l0)).symm] at hl
  rw [show ad l1 = ad2 l1 from (hga l1 (by rw [cp0.1]; exact h_l1)).symm] at hl
  exact a_X8_subtractBeam_b41 E hA hX hN hml hst kr137 hs18 hk18 _ _ _ _ _ _ _ _ _ _ _ h (GL.tr (gl_cpr hgl cp0) hg2) hrc2 (fun n hn => (hga n (by rw [cp0.1]; exact Nat.lt_of_lt_of_le hn hgl.1)).trans (had n hn)) (Nat.lt_of_lt_of_le (by rw [cp0.1]; exact h_l0) hg2.1) (Nat.lt_of_lt_of_le (by rw [cp0.1]; exact h_l1) hg2.1) G hl
set_option maxHeartbeats 4000000 in
set_option maxRecDepth 100000 in
theorem a_X8_subtractBeam_b18 {p : Program} {l : Launch} {e : Env} {s : State} {m : MethodId} {args : Array Value} {below : List Frame} {meth : Method} {c : Code} {Q : State → Prop} {D : va_G} {A : Nat → Prop} {cI cJ cZ cMic cSrc cSt cAI cAJ : ClassId} {ad0 : Nat → Nat} {T0 : AT} {T1 : AT} (E : cE p c cX8_subtractBeam s m args (Cond.code yX8_subtractBeam cX8_subtractBeam 8 none :: wsA) D RX8 (CT cI cJ cZ cMic cSrc cSt cAI cAJ)) (hA : ∀ q : Nat, s.heap.size ≤ q → A q) (hX : xT A s) (hN : nX s) (hml : c.maxLocals = 8) (hst : l.stackTraces = false) (kr137 : ∀ (ad : Nat → Nat) (H : Heap) (locs : List Loc) (ls : Array Slot), (∀ n, n < T0.1 → ad n = ad0 n) → gC cI cJ cZ cMic cSrc cSt cAI cAJ D ad A s.heap H locs T1 → W p l e { frames := 4, cells := T1.1 - T0.1, slots := sg T1 - sg T0, locals := 77 } s m args below meth c H locs (T1.1 - T0.1) (sg T1 - sg T0) Q (F0 m 137 ls [])) : ∀ n : Nat, ∀ (T : AT) (ad : Nat → Nat) (H : Heap) (locs : List Loc) (ls : Array Slot) (l0 : Nat) (l1 : Nat) (l2 : Int32) (l3 : Int32) (l4 : Int32) (l5 : Int32), g_X8_subtractBeam_b18 n T l0 l1 l2 l3 l4 l5 = some T1 → GL T0 T → RC T → (∀ n, n < T0.1 → ad n = ad0 n) → l0 < T.1 → l1 < T.1 → gC cI cJ cZ cMic cSrc cSt cAI cAJ D ad A s.heap H locs T → lv_has ls 8 [(0, .ref (ad l0)), (1, .ref (ad l1)), (2, .int l2), (3, .int l3), (4, .int l4), (5, .int l5)] → W p l e { frames := 4, cells := T1.1 - T0.1, slots := sg T1 - sg T0, locals := 77 } s m args below meth c H locs (T.1 - T0.1) (sg T - sg T0) Q (F0 m 18 ls []) := by
  have hx := E.1
  have hb := E.2.1
  have hts := E.2.2.1
  have hown := E.2.2.2.1
  have hK := E.2.2.2.2
  intro n
  induction n with
  | zero =>
    intro T ad H locs ls l0 l1 l2 l3 l4 l5 h
    have h : (none : Option (AT)) = some T1 := h
    cases h
  | succ n ih =>
    intro T ad H locs ls l0 l1 l2 l3 l4 l5 h hgl hrc had h_l0 h_l1 G hl
    have hT1 := s_X8_subtractBeam_b18 _ _ _ _ _ _ _ _ h
    have hcs := cs_ok hgl hT1
    have cp0 := cpr0 hrc
    unfold g_X8_subtractBeam_b18 at h
    refine lv_iload hx hb dX8_subtractBeam_18 (lv_at hl 5 rfl) ?_
    refine lv_iload hx hb dX8_subtractBeam_20 (lv_at hl 4 rfl) ?_
    refine lv_icmp_ge (tgt := 127) hx hb dX8_subtractBeam_22 (by decide) (fun c2 => ?_) (fun c2 => ?_)
    · have h := oif_pos c2 h
      refine lv_aload_n hx hb dX8_subtractBeam_127 rfl (lv_at hl 0 rfl) ?_
      refine lv_dup hx hb dX8_subtractBeam_128 rfl ?_
      obtain ⟨g3, h⟩ := oif_some h
      refine c_get E G l0 2 (oO_k g3).1 (cc_o8 (oO_k g3).2) rfl (fun w h => .tail _ (iA_16 h)) (by decide) (.tail _ qA_604) rfl rfl dX8_subtractBeam_129 ?_
      refine lv_topi (fun v4 ev4 => ?_)
      have h := elet_at ev4 h
      clear ev4
      refine lv_iconst (v := 1) hx hb dX8_subtractBeam_132 (by decide) ?_
      refine lv_iadd hx hb dX8_subtractBeam_133 ?_
      refine lv_topi (fun v5 ev5 => ?_)
      have h := elet_at ev5 h
      clear ev5
      obtain ⟨g6, h⟩ := oif_some h
      refine c_put E G l0 2 (v := .int v5) (oO_k g6).1 (cc_o8 (oO_k g6).2) rfl (fun w h => .tail _ (iA_16 h)) tyX8 tyX8_ok nmX8 (by decide) (.tail _ qA_604) ⟨rfl, rfl, rfl⟩ rfl rfl (Nat.le_of_ble_eq_true rfl) dX8_subtractBeam_134 (fun H locs G => ?_)
      have G := gC_up_i (f := upd (T.2.2.1 l0) 2 v5) (by rw [(oO_k g6).2]; rfl) G
      obtain ⟨T7, eT7, h⟩ := elet_some h
      have G : gC cI cJ cZ cMic cSrc cSt cAI cAJ D ad A s.heap H locs T7 := by rw [eT7]; exact G
      have cp1 := show CPR T T7 from by rw [eT7]; exact cpr_sp cp0 sp_uI
      clear eT7
      rw [osome1 h] at G
      refine w_cast (c2 := T1.1 - T0.1) (s2 := sg T1 - sg T0) (by rw [← osome1 h, cp1.1] <;> rfl) (by rw [← osome1 h, sg_cpr cp1] <;> rfl) ?_
      exact kr137 ad _ _ _ had G
    · have h := oif_neg c2 h
      refine lv_aload_n hx hb dX8_subtractBeam_25 rfl (lv_at hl 0 rfl) ?_
      refine lv_aload_n hx hb dX8_subtractBeam_26 rfl (lv_at hl 1 rfl) ?_
      refine lv_iload hx hb dX8_subtractBeam_27 (lv_at hl 5 rfl) ?_
      obtain ⟨g8, h⟩ := oif_some h
      obtain ⟨T9, eT9, h⟩ := obind_some h
      have hg2 := s_X8_focus eT9
      have hrc2 := hg2.2.2 cp0.2.2
      have hT2 := s_X8_subtractBeam_b32 (s_X8_subtractBeam_b18 n) _ _ _ _ _ _ _ h
      refine q_avv (As := [.ref (ad l1), .int l5]) (rest := []) E G hA hX hN hml (a_X8_focus l hst D cI cJ cZ cMic cSrc cSt cAI cAJ ad T l0 l1 l5 eT9 cp0.2.2 (by rw [cp0.1]; exact h_l0) (by rw [cp0.1]; exact h_l1)) (cwV 2 hts (gaV qA_69 qA_70 qA_71 qA_47 qA_72) rfl rfl rfl (by decide +kernel) ⟨Nat.le_of_ble_eq_true rfl, Nat.le_of_ble_eq_true rfl⟩) (oO_k g8).1 (cc_o8 (oO_k g8).2) rfl rfl hl.1 rfl (lv_room (Nat.le_of_ble_eq_true rfl)) dX8_subtractBeam_29 (cs_av hgl cp0 hg2 hT2) (fun ad2 H locs hga G => ?_)
      refine w_cast (c2 := T9.1 - T0.1) (s2 := sg T9 - sg T0) (cs_f1 hgl cp0 hg2) (cs_f2 hgl cp0 hg2) ?_
      have hl := lv_sub hl [0, 1, 2, 3, 4, 5] rfl
      rw [show ad l0 = ad2 l0 from (hga l0 (by rw [cp0.1]; exact h_l0)).symm] at hl
      rw [show ad l1 = ad2 l1 from (hga l1 (by rw [cp0.1]; exact h_l1)).symm] at hl
      exact a_X8_subtractBeam_b32 E hA hX hN hml hst kr137 (s_X8_subtractBeam_b18 n) ih _ _ _ _ _ _ _ _ _ _ _ h (GL.tr (gl_cpr hgl cp0) hg2) hrc2 (fun n hn => (hga n (by rw [cp0.1]; exact Nat.lt_of_lt_of_le hn hgl.1)).trans (had n hn)) (Nat.lt_of_lt_of_le (by rw [cp0.1]; exact h_l0) hg2.1) (Nat.lt_of_lt_of_le (by rw [cp0.1]; exact h_l1) hg2.1) G hl
set_option maxHeartbeats 4000000 in
set_option maxRecDepth 100000 in
theorem a_X8_subtractBeam (l : Launch) (hst : l.stackTraces = false) (D : va_G) (cI cJ cZ cMic cSrc cSt cAI cAJ : ClassId) (ad : Nat → Nat) (T : AT) (o : Nat) (a0 : Nat) (a1 : Int32) {T1 : AT} (h : g_X8_subtractBeam T o a0 a1 = some T1) (hrc : RC T) (h_o : o < T.1) (h_a0 : a0 < T.1) : kAv l yX8_subtractBeam (Cond.code yX8_subtractBeam cX8_subtractBeam 8 none :: wsA) 4 77 cI cJ cZ cMic cSrc cSt cAI cAJ D ad T [.ref (ad o), .ref (ad a0), .int a1] T1 := by
  intro sz
  refine Met.ofW (cc := cX8_subtractBeam) (maxL := 8) (ret := none) (by decide) rfl ?_
  intro p e s m args below meth c s₁ B hml hv
  obtain ⟨rfl, hsz, hP, hK, hD0, hX, hN⟩ := hv
  have hx := B.exec
  have hb := B.bytes
  have hr := B.returns
  have hts := atoms_spec (ws := (Cond.code yX8_subtractBeam cX8_subtractBeam 8 none :: wsA)) B.pre
  have hown : s.vm.findClass RX8 = some m.cls := findClass_of_methodNamed B.named
  have hlocks := B.notSynchronized
  subst hsz
  have hD := hD0.self (sz := s.heap.size)
  generalize hAe : va_A (cW ad T.1 (cc cI cJ cZ cMic cSrc cSt cAI cAJ ad T)) s.heap.size = A at hD hX ⊢
  have hA : ∀ q : Nat, s.heap.size ≤ q → A q := fun q h => by rw [← hAe]; exact Or.inr h
  have G : gC cI cJ cZ cMic cSrc cSt cAI cAJ D ad A s.heap s.heap [] T := ⟨hP, hD, va_S.rf⟩
  have E : cE p c cX8_subtractBeam s m ([.ref (ad o), .ref (ad a0), .int a1] : List Value).toArray (Cond.code yX8_subtractBeam cX8_subtractBeam 8 none :: wsA) D RX8 (CT cI cJ cZ cMic cSrc cSt cAI cAJ) := ⟨hx, hb, hts, hown, hK⟩
  have hl := lv_entry ([.ref (ad o), .ref (ad a0), .int a1]) (n := 8) (Nat.le_of_ble_eq_true rfl)
  rw [lg_entry_eq]
  generalize (lg_sl ([.ref (ad o), .ref (ad a0), .int a1]) ++ List.replicate (8 - (lg_sl ([.ref (ad o), .ref (ad a0), .int a1])).length) Slot.unset).toArray = ls at hl ⊢
  have hl : lv_has ls 8 [(0, .ref (ad o)), (1, .ref (ad a0)), (2, .int a1)] := hl
  have hgl := GL.rf T
  have had : ∀ n, n < T.1 → ad n = ad n := fun _ _ => rfl
  have hT1 := s_X8_subtractBeam h
  have hcs := cs_ok hgl hT1
  refine w_cast (Nat.sub_self T.1).symm (Nat.sub_self (sg T)).symm ?_
  have cp0 := cpr0 hrc
  unfold g_X8_subtractBeam at h
  refine lv_bipush (v := 100) hx hb dX8_subtractBeam_0 (by decide) ?_
  refine lv_aload_n hx hb dX8_subtractBeam_2 rfl (lv_at hl 0 rfl) ?_
  obtain ⟨g2, h⟩ := oif_some h
  obtain ⟨r5, T3, eT3, h⟩ := obind2_some h
  refine q_cvi (As := []) (rest := [.int 100]) E G hA hX hN hml (u_X8_activeWeight l hst D cI cJ cZ cMic cSrc cSt cAI cAJ ad T o eT3) (cwV 0 hts (gaV qA_621 qA_622 qA_623 qA_47 qA_615) rfl rfl rfl (by decide +kernel) ⟨Nat.le_of_ble_eq_true rfl, Nat.le_of_ble_eq_true rfl⟩) (oO_k g2).1 (cc_o8 (oO_k g2).2) rfl rfl hl.1 rfl (lv_room (Nat.le_of_ble_eq_true rfl)) dX8_subtractBeam_3 hcs (fun q6 T4 H locs hq G => ?_)
  obtain ⟨hq1, hq2⟩ := hq
  rw [hq2] at G
  refine lv_to hq1 ?_
  clear hq1 hq2
  have cp1 := cpr_sp cp0 (s_X8_activeWeight eT3)
  refine lv_imul hx hb dX8_subtractBeam_6 ?_
  refine lv_topi (fun v7 ev7 => ?_)
  have h := elet_at ev7 h
  clear ev7
  refine lv_istore_n (lv' := [(3, .int v7), (0, .ref (ad o)), (1, .ref (ad a0)), (2, .int a1)]) hx hb dX8_subtractBeam_7 rfl hl (by decide) rfl (fun ls hl => ?_)
  refine lv_aload_n hx hb dX8_subtractBeam_8 rfl (lv_at hl 1 rfl) ?_
  refine lv_aload_n hx hb dX8_subtractBeam_9 rfl (lv_at hl 2 rfl) ?_
  obtain ⟨g8, h⟩ := oif_some h
  obtain ⟨r11, T9, eT9, h⟩ := obind2_some h
  refine q_cvi (As := [.ref (ad a0)]) (rest := []) E G hA hX hN hml (u_X8_windowOf l hst D cI cJ cZ cMic cSrc cSt cAI cAJ ad T3 o a0 eT9) (cwV 1 hts (gaV qA_53 qA_54 qA_55 qA_47 qA_56) rfl rfl rfl (by decide +kernel) ⟨Nat.le_of_ble_eq_true rfl, Nat.le_of_ble_eq_true rfl⟩) (oO_k g8).1 (cc_o8 (oO_k g8).2) rfl rfl hl.1 rfl (lv_room (Nat.le_of_ble_eq_true rfl)) dX8_subtractBeam_10 hcs (fun q12 T10 H locs hq G => ?_)
  obtain ⟨hq1, hq2⟩ := hq
  rw [hq2] at G
  refine lv_to hq1 ?_
  clear hq1 hq2
  have cp2 := cpr_sp cp1 (s_X8_windowOf eT9)
  refine lv_istore (lv' := [(4, .int r11), (3, .int v7), (0, .ref (ad o)), (1, .ref (ad a0)), (2, .int a1)]) hx hb dX8_subtractBeam_13 hl (by decide) rfl (fun ls hl => ?_)
  refine lv_iconst (v := 0) hx hb dX8_subtractBeam_15 (by decide) ?_
  refine lv_istore (lv' := [(5, .int 0), (4, .int r11), (3, .int v7), (0, .ref (ad o)), (1, .ref (ad a0)), (2, .int a1)]) hx hb dX8_subtractBeam_16 hl (by decide) rfl (fun ls hl => ?_)
  have hl := lv_sub hl [3, 4, 5, 2, 1, 0] rfl
  refine w_cast (c2 := T9.1 - T.1) (s2 := sg T9 - sg T) (by rw [cp2.1] <;> rfl) (by rw [sg_cpr cp2] <;> rfl) ?_
  exact a_X8_subtractBeam_b18 E hA hX hN hml hst (fun ad H locs ls had G => W.vret hx hb hr (fun t ht hW => ⟨⟨(T1, ad), rfl, ⟨rfl, had⟩, ⟨by rw [ht]; exact G.1, va_K.moved hW.alike hK, G.2.1⟩⟩, G.2.2.F ht⟩) G.2.2.2.2 dX8_subtractBeam_137) _ _ _ _ _ _ _ _ _ _ _ _ h (gl_cpr hgl cp2) cp2.2.2 had (by rw [cp2.1]; exact h_o) (by rw [cp2.1]; exact h_a0) G hl
