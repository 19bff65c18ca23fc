section
/-! 11kj.cd9.lean.txt -/
def g_X8_begin_b93 (k63 : AT → Nat → Nat → Int32 → Option (AT)) (T : AT) (s0 : Int32) (s1 : Int32) (s2 : Nat) (l0 : Nat) (l1 : Nat) (l2 : Int32) (l3 : Nat) : Option (AT) := oif (aA T s2 102 = true) <| oif (inb s1 (T.2.1 s2).2 = true) <| oif (s0 = 0 ∨ s0 = 1) <| elet (uI T s2 s1.toNatClampNeg s0) fun T4 => oif (oO T4 l0 8 = true) <| obind (T4.2.2.2.2 l0 6) fun n6 => oif (oO T4 l3 7 = true) <| elet (T4.2.2.1 l3 1) fun v8 => oif (aA T4 n6 100 = true) <| oif (inb l2 (T4.2.1 n6).2 = true) <| elet (uI T4 n6 l2.toNatClampNeg v8) fun T11 => oif (oO T11 l0 8 = true) <| obind (T11.2.2.2.2 l0 7) fun n13 => oif (oO T11 l3 7 = true) <| elet (T11.2.2.1 l3 2) fun v15 => oif (aA T11 n13 100 = true) <| oif (inb l2 (T11.2.1 n13).2 = true) <| elet (uI T11 n13 l2.toNatClampNeg v15) fun T18 => oif (oO T18 l0 8 = true) <| obind (T18.2.2.2.2 l0 8) fun n20 => oif (oO T18 l3 7 = true) <| elet (T18.2.2.1 l3 3) fun v22 => oif (aA T18 n20 100 = true) <| oif (inb l2 (T18.2.1 n20).2 = true) <| elet (uI T18 n20 l2.toNatClampNeg v22) fun T25 => oif (oO T25 l0 8 = true) <| obind (T25.2.2.2.2 l0 9) fun n27 => oif (oO T25 l3 7 = true) <| elet (T25.2.2.1 l3 4) fun v29 => oif (aA T25 n27 100 = true) <| oif (inb l2 (T25.2.1 n27).2 = true) <| elet (uI T25 n27 l2.toNatClampNeg v29) fun T32 => elet (l2 + Int32.ofInt (1)) fun v33 => k63 T32 l0 l1 v33
set_option maxHeartbeats 4000000 in
set_option maxRecDepth 100000 in
theorem u_X8_begin_b93 {p : Program} {l : Launch} {e : Env} {s : State} {m : MethodId} {args : Array Value} {below : List Frame} {meth : Method} {c : Code} {Q : State → Prop} {D : va_G} {A : Nat → Prop} {cI cJ cZ cMic cSrc cSt cAI cAJ : ClassId} {ad : Nat → Nat} {T1 : AT} (E : cE p c cX8_begin s m args (Cond.code yX8_begin cX8_begin 4 none :: wsA) D RX8 (CT cI cJ cZ cMic cSrc cSt cAI cAJ)) (hA : ∀ q : Nat, s.heap.size ≤ q → A q) (hX : xT A s) (hN : nX s) (hml : c.maxLocals = 4) (hst : l.stackTraces = false) (kr140 : ∀ (H : Heap) (locs : List Loc) (ls : Array Slot), gC cI cJ cZ cMic cSrc cSt cAI cAJ D ad A s.heap H locs T1 → W p l e { frames := 1, cells := 0, slots := 0, locals := 0 } s m args below meth c H locs 0 0 Q (F0 m 140 ls [])) {k63 : AT → Nat → Nat → Int32 → Option (AT)} (hk63 : ∀ (T : AT) (H : Heap) (locs : List Loc) (ls : Array Slot) (l0 : Nat) (l1 : Nat) (l2 : Int32), k63 T l0 l1 l2 = some T1 → gC cI cJ cZ cMic cSrc cSt cAI cAJ D ad A s.heap H locs T → lv_has ls 4 [(0, .ref (ad l0)), (1, .ref (ad l1)), (2, .int l2)] → W p l e { frames := 1, cells := 0, slots := 0, locals := 0 } s m args below meth c H locs 0 0 Q (F0 m 63 ls [])) : ∀ (T : AT) (H : Heap) (locs : List Loc) (ls : Array Slot) (s0 : Int32) (s1 : Int32) (s2 : Nat) (l0 : Nat) (l1 : Nat) (l2 : Int32) (l3 : Nat), g_X8_begin_b93 k63 T s0 s1 s2 l0 l1 l2 l3 = some T1 → gC cI cJ cZ cMic cSrc cSt cAI cAJ D ad A s.heap H locs T → lv_has ls 4 [(0, .ref (ad l0)), (1, .ref (ad l1)), (2, .int l2), (3, .ref (ad l3))] → W p l e { frames := 1, cells := 0, slots := 0, locals := 0 } s m args below meth c H locs 0 0 Q (F0 m 93 ls [.int s0, .int s1, .ref (ad s2)]) := by
  have hx := E.1
  have hb := E.2.1
  have hts := E.2.2.1
  have hown := E.2.2.2.1
  have hK := E.2.2.2.2
  intro T H locs ls s0 s1 s2 l0 l1 l2 l3 h G hl
  unfold g_X8_begin_b93 at h
  obtain ⟨g2, h⟩ := oif_some h
  obtain ⟨g3, h⟩ := oif_some h
  obtain ⟨gz, h⟩ := oif_some h
  refine c_zast E G s2 2 (k := s1.toNatClampNeg) (v := s0) (aA_k g2).1 (cc_a102 (aA_k g2).2.1) rfl (inb_k g3).1 (inb_k g3).2 (aA_k g2).2.2 (by rcases gz with rfl | rfl <;> rfl) dX8_begin_93 (fun H locs G => ?_)
  have G := gC_up_i (f := upd (T.2.2.1 s2) s1.toNatClampNeg s0) (ccv_102 (aA_k g2).2.1) G
  obtain ⟨T4, eT4, h⟩ := elet_some h
  have G : gC cI cJ cZ cMic cSrc cSt cAI cAJ D ad A s.heap H locs T4 := by rw [eT4]; exact G
  clear eT4
  refine lv_aload_n hx hb dX8_begin_94 rfl (lv_at hl 0 rfl) ?_
  obtain ⟨g5, h⟩ := oif_some h
  obtain ⟨n6, en6, h⟩ := obind_some h
  refine c_get E G l0 6 (v := .ref (ad n6)) (oO_k g5).1 (cc_o8 (oO_k g5).2) rfl (fun w h => .tail _ (iA_16 h)) (by decide) (.tail _ qA_586) rfl (by rw [en6]; rfl) dX8_begin_95 ?_
  clear en6
  refine lv_iload_n hx hb dX8_begin_98 rfl (lv_at hl 2 rfl) ?_
  refine lv_aload_n hx hb dX8_begin_99 rfl (lv_at hl 3 rfl) ?_
  obtain ⟨g7, h⟩ := oif_some h
  refine c_get E G l3 1 (oO_k g7).1 (cc_o7 (oO_k g7).2) rfl (fun w h => .tail _ (iA_20 h)) (by decide) (.tail _ qA_599) rfl rfl dX8_begin_100 ?_
  refine lv_topi (fun v8 ev8 => ?_)
  have h := elet_at ev8 h
  clear ev8
  obtain ⟨g9, h⟩ := oif_some h
  obtain ⟨g10, h⟩ := oif_some h
  refine c_iast E G n6 0 (k := l2.toNatClampNeg) (v := v8) (aA_k g9).1 (cc_a100 (aA_k g9).2.1) rfl (inb_k g10).1 (inb_k g10).2 (aA_k g9).2.2 dX8_begin_103 (fun H locs G => ?_)
  have G := gC_up_i (f := upd (T4.2.2.1 n6) l2.toNatClampNeg v8) (ccv_100 (aA_k g9).2.1) G
  obtain ⟨T11, eT11, h⟩ := elet_some h
  have G : gC cI cJ cZ cMic cSrc cSt cAI cAJ D ad A s.heap H locs T11 := by rw [eT11]; exact G
  clear eT11
  refine lv_aload_n hx hb dX8_begin_104 rfl (lv_at hl 0 rfl) ?_
  obtain ⟨g12, h⟩ := oif_some h
  obtain ⟨n13, en13, h⟩ := obind_some h
  refine c_get E G l0 7 (v := .ref (ad n13)) (oO_k g12).1 (cc_o8 (oO_k g12).2) rfl (fun w h => .tail _ (iA_16 h)) (by decide) (.tail _ qA_587) rfl (by rw [en13]; rfl) dX8_begin_105 ?_
  clear en13
  refine lv_iload_n hx hb dX8_begin_108 rfl (lv_at hl 2 rfl) ?_
  refine lv_aload_n hx hb dX8_begin_109 rfl (lv_at hl 3 rfl) ?_
  obtain ⟨g14, h⟩ := oif_some h
  refine c_get E G l3 2 (oO_k g14).1 (cc_o7 (oO_k g14).2) rfl (fun w h => .tail _ (iA_20 h)) (by decide) (.tail _ qA_600) rfl rfl dX8_begin_110 ?_
  refine lv_topi (fun v15 ev15 => ?_)
  have h := elet_at ev15 h
  clear ev15
  obtain ⟨g16, h⟩ := oif_some h
  obtain ⟨g17, h⟩ := oif_some h
  refine c_iast E G n13 0 (k := l2.toNatClampNeg) (v := v15) (aA_k g16).1 (cc_a100 (aA_k g16).2.1) rfl (inb_k g17).1 (inb_k g17).2 (aA_k g16).2.2 dX8_begin_113 (fun H locs G => ?_)
  have G := gC_up_i (f := upd (T11.2.2.1 n13) l2.toNatClampNeg v15) (ccv_100 (aA_k g16).2.1) G
  obtain ⟨T18, eT18, h⟩ := elet_some h
  have G : gC cI cJ cZ cMic cSrc cSt cAI cAJ D ad A s.heap H locs T18 := by rw [eT18]; exact G
  clear eT18
  refine lv_aload_n hx hb dX8_begin_114 rfl (lv_at hl 0 rfl) ?_
  obtain ⟨g19, h⟩ := oif_some h
  obtain ⟨n20, en20, h⟩ := obind_some h
  refine c_get E G l0 8 (v := .ref (ad n20)) (oO_k g19).1 (cc_o8 (oO_k g19).2) rfl (fun w h => .tail _ (iA_16 h)) (by decide) (.tail _ qA_588) rfl (by rw [en20]; rfl) dX8_begin_115 ?_
  clear en20
  refine lv_iload_n hx hb dX8_begin_118 rfl (lv_at hl 2 rfl) ?_
  refine lv_aload_n hx hb dX8_begin_119 rfl (lv_at hl 3 rfl) ?_
  obtain ⟨g21, h⟩ := oif_some h
  refine c_get E G l3 3 (oO_k g21).1 (cc_o7 (oO_k g21).2) rfl (fun w h => .tail _ (iA_20 h)) (by decide) (.tail _ qA_601) rfl rfl dX8_begin_120 ?_
  refine lv_topi (fun v22 ev22 => ?_)
  have h := elet_at ev22 h
  clear ev22
  obtain ⟨g23, h⟩ := oif_some h
  obtain ⟨g24, h⟩ := oif_some h
  refine c_iast E G n20 0 (k := l2.toNatClampNeg) (v := v22) (aA_k g23).1 (cc_a100 (aA_k g23).2.1) rfl (inb_k g24).1 (inb_k g24).2 (aA_k g23).2.2 dX8_begin_123 (fun H locs G => ?_)
  have G := gC_up_i (f := upd (T18.2.2.1 n20) l2.toNatClampNeg v22) (ccv_100 (aA_k g23).2.1) G
  obtain ⟨T25, eT25, h⟩ := elet_some h
  have G : gC cI cJ cZ cMic cSrc cSt cAI cAJ D ad A s.heap H locs T25 := by rw [eT25]; exact G
  clear eT25
  refine lv_aload_n hx hb dX8_begin_124 rfl (lv_at hl 0 rfl) ?_
  obtain ⟨g26, h⟩ := oif_some h
  obtain ⟨n27, en27, h⟩ := obind_some h
  refine c_get E G l0 9 (v := .ref (ad n27)) (oO_k g26).1 (cc_o8 (oO_k g26).2) rfl (fun w h => .tail _ (iA_16 h)) (by decide) (.tail _ qA_589) rfl (by rw [en27]; rfl) dX8_begin_125 ?_
  clear en27
  refine lv_iload_n hx hb dX8_begin_128 rfl (lv_at hl 2 rfl) ?_
  refine lv_aload_n hx hb dX8_begin_129 rfl (lv_at hl 3 rfl) ?_
  obtain ⟨g28, h⟩ := oif_some h
  refine c_get E G l3 4 (oO_k g28).1 (cc_o7 (oO_k g28).2) rfl (fun w h => .tail _ (iA_20 h)) (by decide) (.tail _ qA_602) rfl rfl dX8_begin_130 ?_
  refine lv_topi (fun v29 ev29 => ?_)
  have h := elet_at ev29 h
  clear ev29
  obtain ⟨g30, h⟩ := oif_some h
  obtain ⟨g31, h⟩ := oif_some h
  refine c_iast E G n27 0 (k := l2.toNatClampNeg) (v := v29) (aA_k g30).1 (cc_a100 (aA_k g30).2.1) rfl (inb_k g31).1 (inb_k g31).2 (aA_k g30).2.2 dX8_begin_133 (fun H locs G => ?_)
  have G := gC_up_i (f := upd (T25.2.2.1 n27) l2.toNatClampNeg v29) (ccv_100 (aA_k g30).2.1) G
  obtain ⟨T32, eT32, h⟩ := elet_some h
  have G : gC cI cJ cZ cMic cSrc cSt cAI cAJ D ad A s.heap H locs T32 := by rw [eT32]; exact G
  clear eT32
  obtain ⟨v33, ev33, h⟩ := elet_some h
  refine lv_iinc (v := v33) (lv' := [(2, .int v33), (0, .ref (ad l0)), (1, .ref (ad l1)), (3, .ref (ad l3))]) hx hb dX8_begin_134 hl (k := 2) rfl ev33.symm (by decide) rfl (fun ls hl => ?_)
  refine lv_goto (tgt := 63) hx hb dX8_begin_137 (by decide) ?_
  have hl := lv_sub hl [1, 2, 0] rfl
  exact hk63 _ _ _ _ _ _ _ h G hl
def g_X8_begin_b63  : Nat → AT → Nat → Nat → Int32 → Option (AT)
  | 0, _, _, _, _ => none
  | n + 1, T, l0, l1, l2 => if 6 ≤ l2 then (some T) else (oif (oO T l1 6 = true) <| obind (T.2.2.2.2 l1 7) fun n4 => oif (aA T n4 104 = true) <| oif (inb l2 (T.2.1 n4).2 = true) <| obind (T.2.2.2.2 n4 l2.toNatClampNeg) fun n7 => oif (oO T l0 8 = true) <| obind (T.2.2.2.2 l0 5) fun n9 => oif (oO T n7 7 = true) <| elet (T.2.2.1 n7 9) fun v11 => if v11 = 0 then (g_X8_begin_b93 (g_X8_begin_b63 n) T 1 l2 n9 l0 l1 l2 n7) else (g_X8_begin_b93 (g_X8_begin_b63 n) T 0 l2 n9 l0 l1 l2 n7))
set_option maxHeartbeats 4000000 in
set_option maxRecDepth 100000 in
theorem u_X8_begin_b63 {p : Program} {l : Launch} {e : Env} {s : State} {m : MethodId} {args : Array Value} {below : List Frame} {meth : Method} {c : Code} {Q : State → Prop} {D : va_G} {A : Nat → Prop} {cI cJ cZ cMic cSrc cSt cAI cAJ : ClassId} {ad : Nat → Nat} {T1 : AT} (E : cE p c cX8_begin s m args (Cond.code yX8_begin cX8_begin 4 none :: wsA) D RX8 (CT cI cJ cZ cMic cSrc cSt cAI cAJ)) (hA : ∀ q : Nat, s.heap.size ≤ q → A q) (hX : xT A s) (hN : nX s) (hml : c.maxLocals = 4) (hst : l.stackTraces = false) (kr140 : ∀ (H : Heap) (locs : List Loc) (ls : Array Slot), gC cI cJ cZ cMic cSrc cSt cAI cAJ D ad A s.heap H locs T1 → W p l e { frames := 1, cells := 0, slots := 0, locals := 0 } s m args below meth c H locs 0 0 Q (F0 m 140 ls [])) : ∀ n : Nat, ∀ (T : AT) (H : Heap) (locs : List Loc) (ls : Array Slot) (l0 : Nat) (l1 : Nat) (l2 : Int32), g_X8_begin_b63 n T l0 l1 l2 = some T1 → gC cI cJ cZ cMic cSrc cSt cAI cAJ D ad A s.heap H locs T → lv_has ls 4 [(0, .ref (ad l0)), (1, .ref (ad l1)), (2, .int l2)] → W p l e { frames := 1, cells := 0, slots := 0, locals := 0 } s m args below meth c H locs 0 0 Q (F0 m 63 ls []) := by
  have hx := E.1
  have hb := E.2.1
  have hts := E.2.2.1
  have hown := E.2.2.2.1
  have hK := E.2.2.2.2
  intro n
  induction n with
  | zero =>
    intro T H locs ls l0 l1 l2 h
    have h : (none : Option (AT)) = some T1 := h
    cases h
  | succ n ih =>
    intro T H locs ls l0 l1 l2 h G hl
    unfold g_X8_begin_b63 at h
    refine lv_iload_n hx hb dX8_begin_63 rfl (lv_at hl 2 rfl) ?_
    refine lv_bipush (v := 6) hx hb dX8_begin_64 (by decide) ?_
    refine lv_icmp_ge (tgt := 140) hx hb dX8_begin_66 (by decide) (fun c2 => ?_) (fun c2 => ?_)
    · have h := oif_pos c2 h
      rw [osome1 h] at G
      exact kr140 _ _ _ G
    · have h := oif_neg c2 h
      refine lv_aload_n hx hb dX8_begin_69 rfl (lv_at hl 1 rfl) ?_
      obtain ⟨g3, h⟩ := oif_some h
      obtain ⟨n4, en4, h⟩ := obind_some h
      refine c_get E G l1 7 (v := .ref (ad n4)) (oO_k g3).1 (cc_o6 (oO_k g3).2) rfl (fun w h => .tail _ (iA_14 h)) (by decide) (.tail _ qA_597) rfl (by rw [en4]; rfl) dX8_begin_70 ?_
      clear en4
      refine lv_iload_n hx hb dX8_begin_73 rfl (lv_at hl 2 rfl) ?_
      obtain ⟨g5, h⟩ := oif_some h
      obtain ⟨g6, h⟩ := oif_some h
      obtain ⟨n7, en7, h⟩ := obind_some h
      refine c_aldq E G n4 4 (k := l2.toNatClampNeg) (v := .ref (ad n7)) (aA_k g5).1 (cc_a104 (aA_k g5).2.1) rfl (inb_k g6).1 (inb_k g6).2 (aA_k g5).2.2 (by show va_rf ((T.2.2.2.2 n4 l2.toNatClampNeg).map ad) = _; rw [en7]; rfl) dX8_begin_74 ?_
      clear en7
      refine lv_astore_n (lv' := [(3, .ref (ad n7)), (0, .ref (ad l0)), (1, .ref (ad l1)), (2, .int l2)]) hx hb dX8_begin_75 rfl hl (by decide) rfl (fun ls hl => ?_)
      refine lv_aload_n hx hb dX8_begin_76 rfl (lv_at hl 1 rfl) ?_
      obtain ⟨g8, h⟩ := oif_some h
      obtain ⟨n9, en9, h⟩ := obind_some h
      refine c_get E G l0 5 (v := .ref (ad n9)) (oO_k g8).1 (cc_o8 (oO_k g8).2) rfl (fun w h => .tail _ (iA_16 h)) (by decide) (.tail _ qA_585) rfl (by rw [en9]; rfl) dX8_begin_77 ?_
      clear en9
      refine lv_iload_n hx hb dX8_begin_80 rfl (lv_at hl 3 rfl) ?_
      refine lv_aload_n hx hb dX8_begin_81 rfl (lv_at hl 0 rfl) ?_
      obtain ⟨g10, h⟩ := oif_some h
      refine c_get E G n7 9 (oO_k g10).1 (cc_o7 (oO_k g10).2) rfl (fun w h => .tail _ (iA_20 h)) (by decide) (.tail _ qA_598) rfl rfl dX8_begin_82 ?_
      refine lv_topi (fun v11 ev11 => ?_)
      have h := elet_at ev11 h
      clear ev11
      refine lv_if_ne (tgt := 92) hx hb dX8_begin_85 (by decide) (fun c12 => ?_) (fun c12 => ?_)
      · have h := oif_neg c12 h
        refine lv_iconst (v := 0) hx hb dX8_begin_92 (by decide) ?_
        have hl := lv_sub hl [1, 2, 3, 0] rfl
        exact u_X8_begin_b93 E hA hX hN hml hst kr140 ih _ _ _ _ _ _ _ _ _ _ _ h G hl
      · have h := oif_pos c12 h
        refine lv_iconst (v := 1) hx hb dX8_begin_88 (by decide) ?_
        refine lv_goto (tgt := 93) hx hb dX8_begin_89 (by decide) ?_
        have hl := lv_sub hl [1, 2, 3, 0] rfl
        exact u_X8_begin_b93 E hA hX hN hml hst kr140 ih _ _ _ _ _ _ _ _ _ _ _ h G hl
def g_X8_begin_b54 (k18 : AT → Nat → Nat → Int32 → Option (AT)) (T : AT) (s0 : Int32) (s1 : Int32) (s2 : Nat) (l0 : Nat) (l1 : Nat) (l2 : Int32) : Option (AT) := oif (aA T s2 100 = true) <| oif (inb s1 (T.2.1 s2).2 = true) <| elet (uI T s2 s1.toNatClampNeg s0) fun T4 => elet (l2 + Int32.ofInt (1)) fun v5 => k18 T4 l0 l1 v5
set_option maxHeartbeats 4000000 in
set_option maxRecDepth 100000 in
theorem u_X8_begin_b54 {p : Program} {l : Launch} {e : Env} {s : State} {m : MethodId} {args : Array Value} {below : List Frame} {meth : Method} {c : Code} {Q : State → Prop} {D : va_G} {A : Nat → Prop} {cI cJ cZ cMic cSrc cSt cAI cAJ : ClassId} {ad : Nat → Nat} {T1 : AT} (E : cE p c cX8_begin s m args (Cond.code yX8_begin cX8_begin 4 none :: wsA) D RX8 (CT cI cJ cZ cMic cSrc cSt cAI cAJ)) (hA : ∀ q : Nat, s.heap.size ≤ q → A q) (hX : xT A s) (hN : nX s) (hml : c.maxLocals = 4) (hst : l.stackTraces = false) (kr140 : ∀ (H : Heap) (locs : List Loc) (ls : Array Slot), gC cI cJ cZ cMic cSrc cSt cAI cAJ D ad A s.heap H locs T1 → W p l e { frames := 1, cells := 0, slots := 0, locals := 0 } s m args below meth c H locs 0 0 Q (F0 m 140 ls [])) {k18 : AT → Nat → Nat → Int32 → Option (AT)} (hk18 : ∀ (T : AT) (H : Heap) (locs : List Loc) (ls : Array Slot) (l0 : Nat) (l1 : Nat) (l2 : Int32), k18 T l0 l1 l2 = some T1 → gC cI cJ cZ cMic cSrc cSt cAI cAJ D ad A s.heap H locs T → lv_has ls 4 [(0, .ref (ad l0)), (1, .ref (ad l1)), (2, .int l2)] → W p l e { frames := 1, cells := 0, slots := 0, locals := 0 } s m args below meth c H locs 0 0 Q (F0 m 18 ls [])) : ∀ (T : AT) (H : Heap) (locs : List Loc) (ls : Array Slot) (s0 : Int32) (s1 : Int32) (s2 : Nat) (l0 : Nat) (l1 : Nat) (l2 : Int32), g_X8_begin_b54 k18 T s0 s1 s2 l0 l1 l2 = some T1 → gC cI cJ cZ cMic cSrc cSt cAI cAJ D ad A s.heap H locs T → lv_has ls 4 [(0, .ref (ad l0)), (1, .ref (ad l1)), (2, .int l2)] → W p l e { frames := 1, cells := 0, slots := 0, locals := 0 } s m args below meth c H locs 0 0 Q (F0 m 54 ls [.int s0, .int s1, .ref (ad s2)]) := by
  have hx := E.1
  have hb := E.2.1
  have hts := E.2.2.1
  have hown := E.2.2.2.1
  have hK := E.2.2.2.2
  intro T H locs ls s0 s1 s2 l0 l1 l2 h G hl
  unfold g_X8_begin_b54 at h
  obtain ⟨g2, h⟩ := oif_some h
  obtain ⟨g3, h⟩ := oif_some h
  refine c_iast E G s2 0 (k := s1.toNatClampNeg) (v := s0) (aA_k g2).1 (cc_a100 (aA_k g2).2.1) rfl (inb_k g3).1 (inb_k g3).2 (aA_k g2).2.2 dX8_begin_54 (fun H locs G => ?_)
  have G := gC_up_i (f := upd (T.2.2.1 s2) s1.toNatClampNeg s0) (ccv_100 (aA_k g2).2.1) G
  obtain ⟨T4, eT4, h⟩ := elet_some h
  have G : gC cI cJ cZ cMic cSrc cSt cAI cAJ D ad A s.heap H locs T4 := by rw [eT4]; exact G
  clear eT4
  obtain ⟨v5, ev5, h⟩ := elet_some h
  refine lv_iinc (v := v5) (lv' := [(2, .int v5), (0, .ref (ad l0)), (1, .ref (ad l1))]) hx hb dX8_begin_55 hl (k := 2) rfl ev5.symm (by decide) rfl (fun ls hl => ?_)
  refine lv_goto (tgt := 18) hx hb dX8_begin_58 (by decide) ?_
  have hl := lv_sub hl [1, 2, 0] rfl
  exact hk18 _ _ _ _ _ _ _ h G hl
def g_X8_begin_b18  : Nat → AT → Nat → Nat → Int32 → Option (AT)
  | 0, _, _, _, _ => none
  | n + 1, T, l0, l1, l2 => if 12 ≤ l2 then (g_X8_begin_b63 16384 T l0 l1 0) else (oif (oO T l0 8 = true) <| obind (T.2.2.2.2 l0 3) fun n4 => oif (aA T n4 102 = true) <| oif (inb l2 (T.2.1 n4).2 = true) <| elet (uI T n4 l2.toNatClampNeg 0) fun T7 => oif (oO T7 l0 8 = true) <| obind (T7.2.2.2.2 l0 4) fun n9 => oif (oO T7 l1 6 = true) <| elet (T7.2.2.1 l1 16) fun v11 => if v11 ≤ l2 then (g_X8_begin_b54 (g_X8_begin_b18 n) T7 1 l2 n9 l0 l1 l2) else (oif (oO T7 l1 6 = true) <| obind (T7.2.2.2.2 l1 15) fun n14 => oif (aA T7 n14 100 = true) <| oif (inb l2 (T7.2.1 n14).2 = true) <| elet (T7.2.2.1 n14 l2.toNatClampNeg) fun v17 => g_X8_begin_b54 (g_X8_begin_b18 n) T7 v17 l2 n9 l0 l1 l2))
set_option maxHeartbeats 4000000 in
set_option maxRecDepth 100000 in
theorem u_X8_begin_b18 {p : Program} {l : Launch} {e : Env} {s : State} {m : MethodId} {args : Array Value} {below : List Frame} {meth : Method} {c : Code} {Q : State → Prop} {D : va_G} {A : Nat → Prop} {cI cJ cZ cMic cSrc cSt cAI cAJ : ClassId} {ad : Nat → Nat} {T1 : AT} (E : cE p c cX8_begin s m args (Cond.code yX8_begin cX8_begin 4 none :: wsA) D RX8 (CT cI cJ cZ cMic cSrc cSt cAI cAJ)) (hA : ∀ q : Nat, s.heap.size ≤ q → A q) (hX : xT A s) (hN : nX s) (hml : c.maxLocals = 4) (hst : l.stackTraces = false) (kr140 : ∀ (H : Heap) (locs : List Loc) (ls : Array Slot), gC cI cJ cZ cMic cSrc cSt cAI cAJ D ad A s.heap H locs T1 → W p l e { frames := 1, cells := 0, slots := 0, locals := 0 } s m args below meth c H locs 0 0 Q (F0 m 140 ls [])) : ∀ n : Nat, ∀ (T : AT) (H : Heap) (locs : List Loc) (ls : Array Slot) (l0 : Nat) (l1 : Nat) (l2 : Int32), g_X8_begin_b18 n T l0 l1 l2 = some T1 → gC cI cJ cZ cMic cSrc cSt cAI cAJ D ad A s.heap H locs T → lv_has ls 4 [(0, .ref (ad l0)), (1, .ref (ad l1)), (2, .int l2)] → W p l e { frames := 1, cells := 0, slots := 0, locals := 0 } s m args below meth c H locs 0 0 Q (F0 m 18 ls []) := by
  have hx := E.1
  have hb := E.2.1
  have hts := E.2.2.1
  have hown := E.2.2.2.1
  have hK := E.2.2.2.2
  intro n
  induction n with
  | zero =>
    intro T H locs ls l0 l1 l2 h
    have h : (none : Option (AT)) = some T1 := h
    cases h
  | succ n ih =>
    intro T H locs ls l0 l1 l2 h G hl
    unfold g_X8_begin_b18 at h
    refine lv_iload_n hx hb dX8_begin_18 rfl (lv_at hl 2 rfl) ?_
    refine lv_bipush (v := 12) hx hb dX8_begin_19 (by decide) ?_
    refine lv_icmp_ge (tgt := 61) hx hb dX8_begin_21 (by decide) (fun c2 => ?_) (fun c2 => ?_)
    · have h := oif_pos c2 h
      refine lv_iconst (v := 0) hx hb dX8_begin_61 (by decide) ?_
      refine lv_istore_n (lv' := [(2, .int 0), (0, .ref (ad l0)), (1, .ref (ad l1))]) hx hb dX8_begin_62 rfl hl (by decide) rfl (fun ls hl => ?_)
      have hl := lv_sub hl [1, 2, 0] rfl
      exact u_X8_begin_b63 E hA hX hN hml hst kr140 _ _ _ _ _ _ _ _ h G hl
    · have h := oif_neg c2 h
      refine lv_aload_n hx hb dX8_begin_24 rfl (lv_at hl 0 rfl) ?_
      obtain ⟨g3, h⟩ := oif_some h
      obtain ⟨n4, en4, h⟩ := obind_some h
      refine c_get E G l0 3 (v := .ref (ad n4)) (oO_k g3).1 (cc_o8 (oO_k g3).2) rfl (fun w h => .tail _ (iA_16 h)) (by decide) (.tail _ qA_64) rfl (by rw [en4]; rfl) dX8_begin_25 ?_
      clear en4
      refine lv_iload_n hx hb dX8_begin_28 rfl (lv_at hl 2 rfl) ?_
      refine lv_iconst (v := 0) hx hb dX8_begin_29 (by decide) ?_
      obtain ⟨g5, h⟩ := oif_some h
      obtain ⟨g6, h⟩ := oif_some h
      refine c_zast E G n4 2 (k := l2.toNatClampNeg) (v := 0) (aA_k g5).1 (cc_a102 (aA_k g5).2.1) rfl (inb_k g6).1 (inb_k g6).2 (aA_k g5).2.2 rfl dX8_begin_30 (fun H locs G => ?_)
      have G := gC_up_i (f := upd (T.2.2.1 n4) l2.toNatClampNeg 0) (ccv_102 (aA_k g5).2.1) G
      obtain ⟨T7, eT7, h⟩ := elet_some h
      have G : gC cI cJ cZ cMic cSrc cSt cAI cAJ D ad A s.heap H locs T7 := by rw [eT7]; exact G
      clear eT7
      refine lv_aload_n hx hb dX8_begin_31 rfl (lv_at hl 0 rfl) ?_
      obtain ⟨g8, h⟩ := oif_some h
      obtain ⟨n9, en9, h⟩ := obind_some h
      refine c_get E G l0 4 (v := .ref (ad n9)) (oO_k g8).1 (cc_o8 (oO_k g8).2) rfl (fun w h => .tail _ (iA_16 h)) (by decide) (.tail _ qA_86) rfl (by rw [en9]; rfl) dX8_begin_32 ?_
      clear en9
      refine lv_iload_n hx hb dX8_begin_35 rfl (lv_at hl 2 rfl) ?_
      refine lv_iload_n hx hb dX8_begin_36 rfl (lv_at hl 2 rfl) ?_
      refine lv_aload_n hx hb dX8_begin_37 rfl (lv_at hl 1 rfl) ?_
      obtain ⟨g10, h⟩ := oif_some h
      refine c_get E G l1 16 (oO_k g10).1 (cc_o6 (oO_k g10).2) rfl (fun w h => .tail _ (iA_14 h)) (by decide) (.tail _ qA_595) rfl rfl dX8_begin_38 ?_
      refine lv_topi (fun v11 ev11 => ?_)
      have h := elet_at ev11 h
      clear ev11
      refine lv_icmp_ge (tgt := 53) hx hb dX8_begin_41 (by decide) (fun c12 => ?_) (fun c12 => ?_)
      · have h := oif_pos c12 h
        refine lv_iconst (v := 1) hx hb dX8_begin_53 (by decide) ?_
        have hl := lv_sub hl [0, 1, 2] rfl
        exact u_X8_begin_b54 E hA hX hN hml hst kr140 ih _ _ _ _ _ _ _ _ _ _ h G hl
      · have h := oif_neg c12 h
        refine lv_aload_n hx hb dX8_begin_44 rfl (lv_at hl 1 rfl) ?_
        obtain ⟨g13, h⟩ := oif_some h
        obtain ⟨n14, en14, h⟩ := obind_some h
        refine c_get E G l1 15 (v := .ref (ad n14)) (oO_k g13).1 (cc_o6 (oO_k g13).2) rfl (fun w h => .tail _ (iA_14 h)) (by decide) (.tail _ qA_596) rfl (by rw [en14]; rfl) dX8_begin_45 ?_
        clear en14
        refine lv_iload_n hx hb dX8_begin_48 rfl (lv_at hl 2 rfl) ?_
        obtain ⟨g15, h⟩ := oif_some h
        obtain ⟨g16, h⟩ := oif_some h
        refine c_iald E G n14 0 (k := l2.toNatClampNeg) (aA_k g15).1 (cc_a100 (aA_k g15).2.1) rfl (inb_k g16).1 (inb_k g16).2 (aA_k g15).2.2 dX8_begin_49 ?_
        refine lv_topi (fun v17 ev17 => ?_)
        have h := elet_at ev17 h
        clear ev17
        refine lv_goto (tgt := 54) hx hb dX8_begin_50 (by decide) ?_
        have hl := lv_sub hl [0, 1, 2] rfl
        exact u_X8_begin_b54 E hA hX hN hml hst kr140 ih _ _ _ _ _ _ _ _ _ _ h G hl
def g_X8_begin (T : AT) (o : Nat) (a0 : Nat) : Option (AT) := oif (oO T a0 6 = true) <| elet (T.2.2.1 a0 5) fun v3 => oif (oO T o 8 = true) <| elet (uI T o 0 v3) fun T5 => oif (oO T5 a0 6 = true) <| elet (T5.2.2.1 a0 2) fun v7 => oif (oO T5 o 8 = true) <| elet (uI T5 o 1 v7) fun T9 => g_X8_begin_b18 16384 T9 o a0 0
set_option maxHeartbeats 4000000 in
set_option maxRecDepth 100000 in
theorem u_X8_begin (l : Launch) (hst : l.stackTraces = false) (D : va_G) (cI cJ cZ cMic cSrc cSt cAI cAJ : ClassId) (ad : Nat → Nat) (T : AT) (o : Nat) (a0 : Nat) {T1 : AT} (h : g_X8_begin T o a0 = some T1) : kCv l yX8_begin (Cond.code yX8_begin cX8_begin 4 none :: wsA) 1 0 cI cJ cZ cMic cSrc cSt cAI cAJ D ad T [.ref (ad o), .ref (ad a0)] (fun T9 => T9 = T1) := by
  intro sz
  refine Met.ofW (cc := cX8_begin) (maxL := 4) (ret := none) (by decide) rfl ?_
  intro p e s m args below meth c s₁ B hml hv
  obtain ⟨rfl, hsz, hP, hK, hD0, hX, hN⟩ := hv
  have hx := B.exec
  have hb := B.bytes
  have hr := B.returns
  have hts := atoms_spec (ws := (Cond.code yX8_begin cX8_begin 4 none :: wsA)) B.pre
  have hown : s.vm.findClass RX8 = some m.cls := findClass_of_methodNamed B.named
  have hlocks := B.notSynchronized
  subst hsz
  have hD := hD0.self (sz := s.heap.size)
  generalize hAe : va_A (cW ad T.1 (cc cI cJ cZ cMic cSrc cSt cAI cAJ ad T)) s.heap.size = A at hD hX ⊢
  have hA : ∀ q : Nat, s.heap.size ≤ q → A q := fun q h => by rw [← hAe]; exact Or.inr h
  have G : gC cI cJ cZ cMic cSrc cSt cAI cAJ D ad A s.heap s.heap [] T := ⟨hP, hD, va_S.rf⟩
  have E : cE p c cX8_begin s m ([.ref (ad o), .ref (ad a0)] : List Value).toArray (Cond.code yX8_begin cX8_begin 4 none :: wsA) D RX8 (CT cI cJ cZ cMic cSrc cSt cAI cAJ) := ⟨hx, hb, hts, hown, hK⟩
  have hl := lv_entry ([.ref (ad o), .ref (ad a0)]) (n := 4) (Nat.le_of_ble_eq_true rfl)
  rw [lg_entry_eq]
  generalize (lg_sl ([.ref (ad o), .ref (ad a0)]) ++ List.replicate (4 - (lg_sl ([.ref (ad o), .ref (ad a0)])).length) Slot.unset).toArray = ls at hl ⊢
  have hl : lv_has ls 4 [(0, .ref (ad o)), (1, .ref (ad a0))] := hl
  unfold g_X8_begin at h
  refine lv_aload_n hx hb dX8_begin_0 rfl (lv_at hl 0 rfl) ?_
  refine lv_aload_n hx hb dX8_begin_1 rfl (lv_at hl 1 rfl) ?_
  obtain ⟨g2, h⟩ := oif_some h
  refine c_get E G a0 5 (oO_k g2).1 (cc_o6 (oO_k g2).2) rfl (fun w h => .tail _ (iA_14 h)) (by decide) (.tail _ qA_593) rfl rfl dX8_begin_2 ?_
  refine lv_topi (fun v3 ev3 => ?_)
  have h := elet_at ev3 h
  clear ev3
  obtain ⟨g4, h⟩ := oif_some h
  refine c_put E G o 0 (v := .int v3) (oO_k g4).1 (cc_o8 (oO_k g4).2) rfl (fun w h => .tail _ (iA_16 h)) tyX8 tyX8_ok nmX8 (by decide) (.tail _ qA_63) ⟨rfl, rfl, rfl⟩ rfl rfl (Nat.le_of_ble_eq_true rfl) dX8_begin_5 (fun H locs G => ?_)
  have G := gC_up_i (f := upd (T.2.2.1 o) 0 v3) (by rw [(oO_k g4).2]; rfl) G
  obtain ⟨T5, eT5, h⟩ := elet_some h
  have G : gC cI cJ cZ cMic cSrc cSt cAI cAJ D ad A s.heap H locs T5 := by rw [eT5]; exact G
  clear eT5
  refine lv_aload_n hx hb dX8_begin_8 rfl (lv_at hl 0 rfl) ?_
  refine lv_aload_n hx hb dX8_begin_9 rfl (lv_at hl 1 rfl) ?_
  obtain ⟨g6, h⟩ := oif_some h
  refine c_get E G a0 2 (oO_k g6).1 (cc_o6 (oO_k g6).2) rfl (fun w h => .tail _ (iA_14 h)) (by decide) (.tail _ qA_594) rfl rfl dX8_begin_10 ?_
  refine lv_topi (fun v7 ev7 => ?_)
  have h := elet_at ev7 h
  clear ev7
  obtain ⟨g8, h⟩ := oif_some h
  refine c_put E G o 1 (v := .int v7) (oO_k g8).1 (cc_o8 (oO_k g8).2) rfl (fun w h => .tail _ (iA_16 h)) tyX8 tyX8_ok nmX8 (by decide) (.tail _ qA_57) ⟨rfl, rfl, rfl⟩ rfl rfl (Nat.le_of_ble_eq_true rfl) dX8_begin_13 (fun H locs G => ?_)
  have G := gC_up_i (f := upd (T5.2.2.1 o) 1 v7) (by rw [(oO_k g8).2]; rfl) G
  obtain ⟨T9, eT9, h⟩ := elet_some h
  have G : gC cI cJ cZ cMic cSrc cSt cAI cAJ D ad A s.heap H locs T9 := by rw [eT9]; exact G
  clear eT9
  refine lv_iconst (v := 0) hx hb dX8_begin_16 (by decide) ?_
  refine lv_istore_n (lv' := [(2, .int 0), (0, .ref (ad o)), (1, .ref (ad a0))]) hx hb dX8_begin_17 rfl hl (by decide) rfl (fun ls hl => ?_)
  have hl := lv_sub hl [1, 2, 0] rfl
  exact u_X8_begin_b18 E hA hX hN hml hst (fun H locs ls G => W.vret hx hb hr (fun t ht hW => ⟨⟨T1, rfl, rfl, ⟨by rw [ht]; exact G.1, va_K.moved hW.alike hK, G.2.1⟩⟩, G.2.2.F ht⟩) G.2.2.2.2 dX8_begin_140) _ _ _ _ _ _ _ _ h G hl
set_option maxHeartbeats 4000000 in
set_option maxRecDepth 100000 in
theorem s_X8_begin_b93 {T1 : AT} {k63 : AT → Nat → Nat → Int32 → Option (AT)} (hk63 : ∀ (T : AT) (l0 : Nat) (l1 : Nat) (l2 : Int32), k63 T l0 l1 l2 = some T1 → SP T T1) : ∀ (T : AT) (s0 : Int32) (s1 : Int32) (s2 : Nat) (l0 : Nat) (l1 : Nat) (l2 : Int32) (l3 : Nat), g_X8_begin_b93 k63 T s0 s1 s2 l0 l1 l2 l3 = some T1 → SP T T1 := by
  intro T s0 s1 s2 l0 l1 l2 l3 h
  have p0 := SP.rf T
  unfold g_X8_begin_b93 at h
  obtain ⟨g2, h⟩ := oif_some h
  obtain ⟨g3, h⟩ := oif_some h
  obtain ⟨gz, h⟩ := oif_some h
  obtain ⟨T4, eT4, h⟩ := elet_some h
  have p1 : SP T T4 := SP.tr p0 (by rw [eT4]; exact sp_uI)
  obtain ⟨g5, h⟩ := oif_some h
  obtain ⟨n6, en6, h⟩ := obind_some h
  obtain ⟨g7, h⟩ := oif_some h
  obtain ⟨v8, -, h⟩ := elet_some h
  obtain ⟨g9, h⟩ := oif_some h
  obtain ⟨g10, h⟩ := oif_some h
  obtain ⟨T11, eT11, h⟩ := elet_some h
  have p2 : SP T T11 := SP.tr p1 (by rw [eT11]; exact sp_uI)
  obtain ⟨g12, h⟩ := oif_some h
  obtain ⟨n13, en13, h⟩ := obind_some h
  obtain ⟨g14, h⟩ := oif_some h
  obtain ⟨v15, -, h⟩ := elet_some h
  obtain ⟨g16, h⟩ := oif_some h
  obtain ⟨g17, h⟩ := oif_some h
  obtain ⟨T18, eT18, h⟩ := elet_some h
  have p3 : SP T T18 := SP.tr p2 (by rw [eT18]; exact sp_uI)
  obtain ⟨g19, h⟩ := oif_some h
  obtain ⟨n20, en20, h⟩ := obind_some h
  obtain ⟨g21, h⟩ := oif_some h
  obtain ⟨v22, -, h⟩ := elet_some h
  obtain ⟨g23, h⟩ := oif_some h
  obtain ⟨g24, h⟩ := oif_some h
  obtain ⟨T25, eT25, h⟩ := elet_some h
  have p4 : SP T T25 := SP.tr p3 (by rw [eT25]; exact sp_uI)
  obtain ⟨g26, h⟩ := oif_some h
  obtain ⟨n27, en27, h⟩ := obind_some h
  obtain ⟨g28, h⟩ := oif_some h
  obtain ⟨v29, -, h⟩ := elet_some h
  obtain ⟨g30, h⟩ := oif_some h
  obtain ⟨g31, h⟩ := oif_some h
  obtain ⟨T32, eT32, h⟩ := elet_some h
  have p5 : SP T T32 := SP.tr p4 (by rw [eT32]; exact sp_uI)
  obtain ⟨v33, ev33, h⟩ := elet_some h
  exact SP.tr p5 (hk63 _ _ _ _ h)
set_option maxHeartbeats 4000000 in
set_option maxRecDepth 100000 in
theorem s_X8_begin_b63 {T1 : AT} : ∀ n : Nat, ∀ (T : AT) (l0 : Nat) (l1 : Nat) (l2 : Int32), g_X8_begin_b63 n T l0 l1 l2 = some T1 → SP T T1 := by
  intro n
  induction n with
  | zero =>
    intro T l0 l1 l2 h
    have h : (none : Option (AT)) = some T1 := h
    cases h
  | succ n ih =>
    intro T l0 l1 l2 h
    have p0 := SP.rf T
    unfold g_X8_begin_b63 at h
    rcases oif_or h with ⟨c2, h⟩ | ⟨c2, h⟩
    · have h := h
      rw [← osome1 h]
      exact p0
    · have h := h
      obtain ⟨g3, h⟩ := oif_some h
      obtain ⟨n4, en4, h⟩ := obind_some h
      obtain ⟨g5, h⟩ := oif_some h
      obtain ⟨g6, h⟩ := oif_some h
      obtain ⟨n7, en7, h⟩ := obind_some h
      obtain ⟨g8, h⟩ := oif_some h
      obtain ⟨n9, en9, h⟩ := obind_some h
      obtain ⟨g10, h⟩ := oif_some h
      obtain ⟨v11, -, h⟩ := elet_some h
      rcases oif_or h with ⟨c12, h⟩ | ⟨c12, h⟩
      · have h := h
        exact SP.tr p0 (s_X8_begin_b93 ih _ _ _ _ _ _ _ _ h)
      · have h := h
        exact SP.tr p0 (s_X8_begin_b93 ih _ _ _ _ _ _ _ _ h)
set_option maxHeartbeats 4000000 in
set_option maxRecDepth 100000 in
theorem s_X8_begin_b54 {T1 : AT} {k18 : AT → Nat → Nat → Int32 → Option (AT)} (hk18 : ∀ (T : AT) (l0 : Nat) (l1 : Nat) (l2 : Int32), k18 T l0 l1 l2 = some T1 → SP T T1) : ∀ (T : AT) (s0 : Int32) (s1 : Int32) (s2 : Nat) (l0 : Nat) (l1 : Nat) (l2 : Int32), g_X8_begin_b54 k18 T s0 s1 s2 l0 l1 l2 = some T1 → SP T T1 := by
  intro T s0 s1 s2 l0 l1 l2 h
  have p0 := SP.rf T
  unfold g_X8_begin_b54 at h
  obtain ⟨g2, h⟩ := oif_some h
  obtain ⟨g3, h⟩ := oif_some h
  obtain ⟨T4, eT4, h⟩ := elet_some h
  have p1 : SP T T4 := SP.tr p0 (by rw [eT4]; exact sp_uI)
  obtain ⟨v5, ev5, h⟩ := elet_some h
  exact SP.tr p1 (hk18 _ _ _ _ h)
set_option maxHeartbeats 4000000 in
set_option maxRecDepth 100000 in
theorem s_X8_begin_b18 {T1 : AT} : ∀ n : Nat, ∀ (T : AT) (l0 : Nat) (l1 : Nat) (l2 : Int32), g_X8_begin_b18 n T l0 l1 l2 = some T1 → SP T T1 := by
  intro n
  induction n with
  | zero =>
    intro T l0 l1 l2 h
    have h : (none : Option (AT)) = some T1 := h
    cases h
  | succ n ih =>
    intro T l0 l1 l2 h
    have p0 := SP.rf T
    unfold g_X8_begin_b18 at h
    rcases oif_or h with ⟨c2, h⟩ | ⟨c2, h⟩
    · have h := h
      exact SP.tr p0 (s_X8_begin_b63 _ _ _ _ _ h)
    · have h := h
      obtain ⟨g3, h⟩ := oif_some h
      obtain ⟨n4, en4, h⟩ := obind_some h
      obtain ⟨g5, h⟩ := oif_some h
      obtain ⟨g6, h⟩ := oif_some h
      obtain ⟨T7, eT7, h⟩ := elet_some h
      have p1 : SP T T7 := SP.tr p0 (by rw [eT7]; exact sp_uI)
      obtain ⟨g8, h⟩ := oif_some h
      obtain ⟨n9, en9, h⟩ := obind_some h
      obtain ⟨g10, h⟩ := oif_some h
      obtain ⟨v11, -, h⟩ := elet_some h
      rcases oif_or h with ⟨c12, h⟩ | ⟨c12, h⟩
      · have h := h
        exact SP.tr p1 (s_X8_begin_b54 ih _ _ _ _ _ _ _ h)
      · have h := h
        obtain ⟨g13, h⟩ := oif_some h
        obtain ⟨n14, en14, h⟩ := obind_some h
        obtain ⟨g15, h⟩ := oif_some h
        obtain ⟨g16, h⟩ := oif_some h
        obtain ⟨v17, -, h⟩ := elet_some h
        exact SP.tr p1 (s_X8_begin_b54 ih _ _ _ _ _ _ _ h)
set_option maxHeartbeats 4000000 in
set_option maxRecDepth 100000 in
theorem s_X8_begin {T : AT} {o : Nat} {a0 : Nat} {T1 : AT} (h : g_X8_begin T o a0 = some T1) : SP T T1 := by
  have p0 := SP.rf T
  unfold g_X8_begin at h
  obtain ⟨g2, h⟩ := oif_some h
  obtain ⟨v3, -, h⟩ := elet_some h
  obtain ⟨g4, h⟩ := oif_some h
  obtain ⟨T5, eT5, h⟩ := elet_some h
  have p1 : SP T T5 := SP.tr p0 (by rw [eT5]; exact sp_uI)
  obtain ⟨g6, h⟩ := oif_some h
  obtain ⟨v7, -, h⟩ := elet_some h
  obtain ⟨g8, h⟩ := oif_some h
  obtain ⟨T9, eT9, h⟩ := elet_some h
  have p2 : SP T T9 := SP.tr p1 (by rw [eT9]; exact sp_uI)
  exact SP.tr p2 (s_X8_begin_b18 _ _ _ _ _ h)
def g_X10_copyFrom_b18  : Nat → AT → Nat → Nat → Int32 → Option (AT)
  | 0, _, _, _, _ => none
  | n + 1, T, l0, l1, l2 => oif (oO T l0 10 = true) <| elet (T.2.2.1 l0 2) fun v3 => if v3 ≤ l2 then (some T) else (oif (oO T l1 10 = true) <| obind (T.2.2.2.2 l1 1) fun n6 => oif (aA T n6 107 = true) <| oif (inb l2 (T.2.1 n6).2 = true) <| obind (T.2.2.2.2 n6 l2.toNatClampNeg) fun n9 => oif (oO T l0 10 = true) <| obind (T.2.2.2.2 l0 1) fun n11 => oif (aA T n11 107 = true) <| oif (inb l2 (T.2.1 n11).2 = true) <| obind (T.2.2.2.2 n11 l2.toNatClampNeg) fun n14 => oif (oO T l0 10 = true) <| elet (T.2.2.1 l0 0) fun v16 => oif (oO T l1 10 = true) <| elet (T.2.2.1 l1 0) fun v18 => elet (if v18 < v16 then v18 else v16) fun v19 => oif (aA T n9 101 = true) <| oif (aA T n14 101 = true) <| oif (0 ≤ v19 ∧ v19.toNatClampNeg ≤ (T.2.1 n9).2 ∧ v19.toNatClampNeg ≤ (T.2.1 n14).2) <| elet (uC T n9 n14 v19.toNatClampNeg) fun T23 => elet (l2 + Int32.ofInt (1)) fun v24 => g_X10_copyFrom_b18 n T23 l0 l1 v24)
def g_X10_copyFrom_b8  (T : AT) (l0 : Nat) (l1 : Nat) : Option (AT) := oif (oO T l1 10 = true) <| elet (T.2.2.1 l1 2) fun v3 => oif (oO T l0 10 = true) <| elet (uI T l0 2 v3) fun T5 => g_X10_copyFrom_b18 16384 T5 l0 l1 0
def g_X10_copyFrom (T : AT) (o : Nat) (a0 : Nat) : Option (AT) := oif (oO T a0 10 = true) <| elet (T.2.2.1 a0 2) fun v3 => oif (oO T o 10 = true) <| obind (g_X10_widenTo T o v3) fun T5 => g_X10_copyFrom_b8 T5 o a0
set_option maxHeartbeats 4000000 in
set_option maxRecDepth 100000 in
theorem s_X10_copyFrom_b18 {T1 : AT} : ∀ n : Nat, ∀ (T : AT) (l0 : Nat) (l1 : Nat) (l2 : Int32), g_X10_copyFrom_b18 n T l0 l1 l2 = some T1 → GL T T1 := by
  intro n
  induction n with
  | zero =>
    intro T l0 l1 l2 h
    have h : (none : Option (AT)) = some T1 := h
    cases h
  | succ n ih =>
    intro T l0 l1 l2 h
    have p0 := GL.rf T
    unfold g_X10_copyFrom_b18 at h
    obtain ⟨g2, h⟩ := oif_some h
    obtain ⟨v3, -, h⟩ := elet_some h
    rcases oif_or h with ⟨c4, h⟩ | ⟨c4, h⟩
    · have h := h
      rw [← osome1 h]
      exact p0
    · have h := h
      obtain ⟨g5, h⟩ := oif_some h
      obtain ⟨n6, en6, h⟩ := obind_some h
      obtain ⟨g7, h⟩ := oif_some h
      obtain ⟨g8, h⟩ := oif_some h
      obtain ⟨n9, en9, h⟩ := obind_some h
      obtain ⟨g10, h⟩ := oif_some h
      obtain ⟨n11, en11, h⟩ := obind_some h
      obtain ⟨g12, h⟩ := oif_some h
      obtain ⟨g13, h⟩ := oif_some h
      obtain ⟨n14, en14, h⟩ := obind_some h
      obtain ⟨g15, h⟩ := oif_some h
      obtain ⟨v16, -, h⟩ := elet_some h
      obtain ⟨g17, h⟩ := oif_some h
      obtain ⟨v18, -, h⟩ := elet_some h
      obtain ⟨v19, -, h⟩ := elet_some h
      obtain ⟨g20, h⟩ := oif_some h
      obtain ⟨g21, h⟩ := oif_some h
      obtain ⟨g22, h⟩ := oif_some h
      obtain ⟨T23, eT23, h⟩ := elet_some h
      have p1 : GL T T23 := GL.tr p0 (by rw [eT23]; exact gl_sp sp_uC)
      obtain ⟨v24, ev24, h⟩ := elet_some h
      exact GL.tr p1 (ih _ _ _ _ h)
set_option maxHeartbeats 4000000 in
set_option maxRecDepth 100000 in
theorem s_X10_copyFrom_b8 {T1 : AT} : ∀ (T : AT) (l0 : Nat) (l1 : Nat), g_X10_copyFrom_b8 T l0 l1 = some T1 → GL T T1 := by
  intro T l0 l1 h
  have p0 := GL.rf T
  unfold g_X10_copyFrom_b8 at h
  obtain ⟨g2, h⟩ := oif_some h
  obtain ⟨v3, -, h⟩ := elet_some h
  obtain ⟨g4, h⟩ := oif_some h
  obtain ⟨T5, eT5, h⟩ := elet_some h
  have p1 : GL T T5 := GL.tr p0 (by rw [eT5]; exact gl_sp sp_uI)
  exact GL.tr p1 (s_X10_copyFrom_b18 _ _ _ _ _ h)
set_option maxHeartbeats 4000000 in
set_option maxRecDepth 100000 in
theorem s_X10_copyFrom {T : AT} {o : Nat} {a0 : Nat} {T1 : AT} (h : g_X10_copyFrom T o a0 = some T1) : GL T T1 := by
  have p0 := GL.rf T
  unfold g_X10_copyFrom at h
  obtain ⟨g2, h⟩ := oif_some h
  obtain ⟨v3, -, h⟩ := elet_some h
  obtain ⟨g4, h⟩ := oif_some h
  obtain ⟨T5, eT5, h⟩ := obind_some h
  have p1 : GL T T5 := GL.tr p0 (s_X10_widenTo eT5)
  exact GL.tr p1 (s_X10_copyFrom_b8 _ _ _ h)
set_option maxHeartbeats 4000000 in
set_option maxRecDepth 100000 in
theorem a_X10_copyFrom_b18 {p : Program} {l : Launch} {e : Env} {s : State} {m : MethodId} {args : Array Value} {below : List Frame} {meth : Method} {c : Code} {Q : State → Prop} {D : va_G} {A : Nat → Prop} {cI cJ cZ cMic cSrc cSt cAI cAJ : ClassId} {ad0 : Nat → Nat} {T0 : AT} {T1 : AT} (E : cE p c cX10_copyFrom s m args (Cond.code yX10_copyFrom cX10_copyFrom 3 none :: wsA) D RX10 (CT cI cJ cZ cMic cSrc cSt cAI cAJ)) (hA : ∀ q : Nat, s.heap.size ≤ q → A q) (hX : xT A s) (hN : nX s) (hml : c.maxLocals = 3) (hst : l.stackTraces = false) (kr60 : ∀ (ad : Nat → Nat) (H : Heap) (locs : List Loc) (ls : Array Slot), (∀ n, n < T0.1 → ad n = ad0 n) → gC cI cJ cZ cMic cSrc cSt cAI cAJ D ad A s.heap H locs T1 → W p l e { frames := 2, cells := T1.1 - T0.1, slots := sg T1 - sg T0, locals := 40 } s m args below meth c H locs (T1.1 - T0.1) (sg T1 - sg T0) Q (F0 m 60 ls [])) : ∀ n : Nat, ∀ (T : AT) (ad : Nat → Nat) (H : Heap) (locs : List Loc) (ls : Array Slot) (l0 : Nat) (l1 : Nat) (l2 : Int32), g_X10_copyFrom_b18 n T l0 l1 l2 = some T1 → GL T0 T → RC T → (∀ n, n < T0.1 → ad n = ad0 n) → l0 < T.1 → l1 < T.1 → gC cI cJ cZ cMic cSrc cSt cAI cAJ D ad A s.heap H locs T → lv_has ls 3 [(0, .ref (ad l0)), (1, .ref (ad l1)), (2, .int l2)] → W p l e { frames := 2, cells := T1.1 - T0.1, slots := sg T1 - sg T0, locals := 40 } s m args below meth c H locs (T.1 - T0.1) (sg T - sg T0) Q (F0 m 18 ls []) := by
  have hx := E.1
  have hb := E.2.1
  have hts := E.2.2.1
  have hown := E.2.2.2.1
  have hK := E.2.2.2.2
  intro n
  induction n with
  | zero =>
    intro T ad H locs ls l0 l1 l2 h
    have h : (none : Option (AT)) = some T1 := h
    cases h
  | succ n ih =>
    intro T ad H locs ls l0 l1 l2 h hgl hrc had h_l0 h_l1 G hl
    have hT1 := s_X10_copyFrom_b18 _ _ _ _ _ h
    have hcs := cs_ok hgl hT1
    have cp0 := cpr0 hrc
    unfold g_X10_copyFrom_b18 at h
    refine lv_iload_n hx hb dX10_copyFrom_18 rfl (lv_at hl 2 rfl) ?_
    refine lv_aload_n hx hb dX10_copyFrom_19 rfl (lv_at hl 0 rfl) ?_
    obtain ⟨g2, h⟩ := oif_some h
    refine c_get E G l0 2 (oO_k g2).1 (cc_o10 (oO_k g2).2) rfl (fun w h => .tail _ (iA_12 h)) (by decide) (.tail _ qA_15) rfl rfl dX10_copyFrom_20 ?_
    refine lv_topi (fun v3 ev3 => ?_)
    have h := elet_at ev3 h
    clear ev3
    refine lv_icmp_ge (tgt := 60) hx hb dX10_copyFrom_23 (by decide) (fun c4 => ?_) (fun c4 => ?_)
    · have h := oif_pos c4 h
      rw [osome1 h] at G
      refine w_cast (c2 := T1.1 - T0.1) (s2 := sg T1 - sg T0) (by rw [← osome1 h, cp0.1] <;> rfl) (by rw [← osome1 h, sg_cpr cp0] <;> rfl) ?_
      exact kr60 ad _ _ _ had G
    · have h := oif_neg c4 h
      refine lv_aload_n hx hb dX10_copyFrom_26 rfl (lv_at hl 1 rfl) ?_
      obtain ⟨g5, h⟩ := oif_some h
      obtain ⟨n6, en6, h⟩ := obind_some h
      have h_n6 : n6 < T.1 := by rw [← cp0.1]; exact cp0.2.2 _ _ _ en6
      refine c_get E G l1 1 (v := .ref (ad n6)) (oO_k g5).1 (cc_o10 (oO_k g5).2) rfl (fun w h => .tail _ (iA_12 h)) (by decide) (.tail _ qA_14) rfl (by rw [en6]; rfl) dX10_copyFrom_27 ?_
      clear en6
      refine lv_iload_n hx hb dX10_copyFrom_30 rfl (lv_at hl 2 rfl) ?_
      obtain ⟨g7, h⟩ := oif_some h
      obtain ⟨g8, h⟩ := oif_some h
      obtain ⟨n9, en9, h⟩ := obind_some h
      have h_n9 : n9 < T.1 := by rw [← cp0.1]; exact cp0.2.2 _ _ _ en9
      refine c_alda E G n6 7 (k := l2.toNatClampNeg) (v := .ref (ad n9)) (aA_k g7).1 (cc_a107 (aA_k g7).2.1) rfl (inb_k g8).1 (inb_k g8).2 (aA_k g7).2.2 (by show va_rf ((T.2.2.2.2 n6 l2.toNatClampNeg).map ad) = _; rw [en9]; rfl) dX10_copyFrom_31 ?_
      clear en9
      refine lv_iconst (v := 0) hx hb dX10_copyFrom_32 (by decide) ?_
      refine lv_aload_n hx hb dX10_copyFrom_33 rfl (lv_at hl 0 rfl) ?_
      obtain ⟨g10, h⟩ := oif_some h
      obtain ⟨n11, en11, h⟩ := obind_some h
      have h_n11 : n11 < T.1 := by rw [← cp0.1]; exact cp0.2.2 _ _ _ en11
      refine c_get E G l0 1 (v := .ref (ad n11)) (oO_k g10).1 (cc_o10 (oO_k g10).2) rfl (fun w h => .tail _ (iA_12 h)) (by decide) (.tail _ qA_14) rfl (by rw [en11]; rfl) dX10_copyFrom_34 ?_
      clear en11
      refine lv_iload_n hx hb dX10_copyFrom_37 rfl (lv_at hl 2 rfl) ?_
      obtain ⟨g12, h⟩ := oif_some h
      obtain ⟨g13, h⟩ := oif_some h
      obtain ⟨n14, en14, h⟩ := obind_some h
      have h_n14 : n14 < T.1 := by rw [← cp0.1]; exact cp0.2.2 _ _ _ en14
      refine c_alda E G n11 7 (k := l2.toNatClampNeg) (v := .ref (ad n14)) (aA_k g12).1 (cc_a107 (aA_k g12).2.1) rfl (inb_k g13).1 (inb_k g13).2 (aA_k g12).2.2 (by show va_rf ((T.2.2.2.2 n11 l2.toNatClampNeg).map ad) = _; rw [en14]; rfl) dX10_copyFrom_38 ?_
      clear en14
      refine lv_iconst (v := 0) hx hb dX10_copyFrom_39 (by decide) ?_
      refine lv_aload_n hx hb dX10_copyFrom_40 rfl (lv_at hl 0 rfl) ?_
      obtain ⟨g15, h⟩ := oif_some h
      refine c_get E G l0 0 (oO_k g15).1 (cc_o10 (oO_k g15).2) rfl (fun w h => .tail _ (iA_12 h)) (by decide) (.tail _ qA_20) rfl rfl dX10_copyFrom_41 ?_
      refine lv_topi (fun v16 ev16 => ?_)
      have h := elet_at ev16 h
      clear ev16
      refine lv_aload_n hx hb dX10_copyFrom_44 rfl (lv_at hl 1 rfl) ?_
      obtain ⟨g17, h⟩ := oif_some h
      refine c_get E G l1 0 (oO_k g17).1 (cc_o10 (oO_k g17).2) rfl (fun w h => .tail _ (iA_12 h)) (by decide) (.tail _ qA_20) rfl rfl dX10_copyFrom_45 ?_
      refine lv_topi (fun v18 ev18 => ?_)
      have h := elet_at ev18 h
      clear ev18
      refine va_mmin hx hb (hml.trans hl.1.symm) hown (hts _ (.tail _ qA_609)) (hts _ (.tail _ qA_50)) (hts _ (.tail _ qA_18)) (hts _ (.tail _ qA_51)) (Nat.le_of_ble_eq_true rfl) (Nat.le_of_ble_eq_true rfl) hcs.1 hcs.2 dX10_copyFrom_48 ?_
      refine lv_topi (fun v19 ev19 => ?_)
      have h := elet_at ev19 h
      clear ev19
      obtain ⟨g20, h⟩ := oif_some h
      obtain ⟨g21, h⟩ := oif_some h
      obtain ⟨g22, h⟩ := oif_some h
      refine q_copyl E G n9 n14 (n := v19) (aA_k g20).1 (aA_k g21).1 (aA_k g20).2.1 (aA_k g21).2.1 g22.1 g22.2.1 g22.2.2 (hml.trans hl.1.symm) (hts _ (.tail _ qA_610)) (hts _ (.tail _ qA_611)) (hts _ (.tail _ qA_612)) (hts _ (.tail _ qA_613)) (Nat.le_of_ble_eq_true rfl) (Nat.le_of_ble_eq_true rfl) dX10_copyFrom_51 (fun H locs G => ?_)
      have G := id G
      obtain ⟨T23, eT23, h⟩ := elet_some h
      have G : gC cI cJ cZ cMic cSrc cSt cAI cAJ D ad A s.heap H locs T23 := by rw [eT23]; exact G
      have cp1 := show CPR T T23 from by rw [eT23]; exact cpr_sp cp0 sp_uC
      clear eT23
      obtain ⟨v24, ev24, h⟩ := elet_some h
      refine lv_iinc (v := v24) (lv' := [(2, .int v24), (0, .ref (ad l0)), (1, .ref (ad l1))]) hx hb dX10_copyFrom_54 hl (k := 2) rfl ev24.symm (by decide) rfl (fun ls hl => ?_)
      refine lv_goto (tgt := 18) hx hb dX10_copyFrom_57 (by decide) ?_
      have hl := lv_sub hl [1, 2, 0] rfl
      refine w_cast (c2 := T23.1 - T0.1) (s2 := sg T23 - sg T0) (by rw [cp1.1] <;> rfl) (by rw [sg_cpr cp1] <;> rfl) ?_
      exact ih _ _ _ _ _ _ _ _ h (gl_cpr hgl cp1) cp1.2.2 had (by rw [cp1.1]; exact h_l0) (by rw [cp1.1]; exact h_l1) G hl
set_option maxHeartbeats 4000000 in
set_option maxRecDepth 100000 in
theorem a_X10_copyFrom_b8 {p : Program} {l : Launch} {e : Env} {s : State} {m : MethodId} {args : Array Value} {below : List Frame} {meth : Method} {c : Code} {Q : State → Prop} {D : va_G} {A : Nat → Prop} {cI cJ cZ cMic cSrc cSt cAI cAJ : ClassId} {ad0 : Nat → Nat} {T0 : AT} {T1 : AT} (E : cE p c cX10_copyFrom s m args (Cond.code yX10_copyFrom cX10_copyFrom 3 none :: wsA) D RX10 (CT cI cJ cZ cMic cSrc cSt cAI cAJ)) (hA : ∀ q : Nat, s.heap.size ≤ q → A q) (hX : xT A s) (hN : nX s) (hml : c.maxLocals = 3) (hst : l.stackTraces = false) (kr60 : ∀ (ad : Nat → Nat) (H : Heap) (locs : List Loc) (ls : Array Slot), (∀ n, n < T0.1 → ad n = ad0 n) → gC cI cJ cZ cMic cSrc cSt cAI cAJ D ad A s.heap H locs T1 → W p l e { frames := 2, cells := T1.1 - T0.1, slots := sg T1 - sg T0, locals := 40 } s m args below meth c H locs (T1.1 - T0.1) (sg T1 - sg T0) Q (F0 m 60 ls [])) : ∀ (T : AT) (ad : Nat → Nat) (H : Heap) (locs : List Loc) (ls : Array Slot) (l0 : Nat) (l1 : Nat), g_X10_copyFrom_b8 T l0 l1 = some T1 → GL T0 T → RC T → (∀ n, n < T0.1 → ad n = ad0 n) → l0 < T.1 → l1 < T.1 → gC cI cJ cZ cMic cSrc cSt cAI cAJ D ad A s.heap H locs T → lv_has ls 3 [(0, .ref (ad l0)), (1, .ref (ad l1))] → W p l e { frames := 2, cells := T1.1 - T0.1, slots := sg T1 - sg T0, locals := 40 } s m args below meth c H locs (T.1 - T0.1) (sg T - sg T0) Q (F0 m 8 ls []) := by
  have hx := E.1
  have hb := E.2.1
  have hts := E.2.2.1
  have hown := E.2.2.2.1
  have hK := E.2.2.2.2
  intro T ad H locs ls l0 l1 h hgl hrc had h_l0 h_l1 G hl
  have hT1 := s_X10_copyFrom_b8 _ _ _ h
  have hcs := cs_ok hgl hT1
  have cp0 := cpr0 hrc
  unfold g_X10_copyFrom_b8 at h
  refine lv_aload_n hx hb dX10_copyFrom_8 rfl (lv_at hl 0 rfl) ?_
  refine lv_aload_n hx hb dX10_copyFrom_9 rfl (lv_at hl 1 rfl) ?_
  obtain ⟨g2, h⟩ := oif_some h
  refine c_get E G l1 2 (oO_k g2).1 (cc_o10 (oO_k g2).2) rfl (fun w h => .tail _ (iA_12 h)) (by decide) (.tail _ qA_15) rfl rfl dX10_copyFrom_10 ?_
  refine lv_topi (fun v3 ev3 => ?_)
  have h := elet_at ev3 h
  clear ev3
  obtain ⟨g4, h⟩ := oif_some h
  refine c_put E G l0 2 (v := .int v3) (oO_k g4).1 (cc_o10 (oO_k g4).2) rfl (fun w h => .tail _ (iA_12 h)) tyX10 tyX10_ok nmX10 (by decide) (.tail _ qA_15) ⟨rfl, rfl, rfl⟩ rfl rfl (Nat.le_of_ble_eq_true rfl) dX10_copyFrom_13 (fun H locs G => ?_)
  have G := gC_up_i (f := upd (T.2.2.1 l0) 2 v3) (by rw [(oO_k g4).2]; rfl) G
  obtain ⟨T5, eT5, h⟩ := elet_some h
  have G : gC cI cJ cZ cMic cSrc cSt cAI cAJ D ad A s.heap H locs T5 := by rw [eT5]; exact G
  have cp1 := show CPR T T5 from by rw [eT5]; exact cpr_sp cp0 sp_uI
  clear eT5
  refine lv_iconst (v := 0) hx hb dX10_copyFrom_16 (by decide) ?_
  refine lv_istore_n (lv' := [(2, .int 0), (0, .ref (ad l0)), (1, .ref (ad l1))]) hx hb dX10_copyFrom_17 rfl hl (by decide) rfl (fun ls hl => ?_)
  have hl := lv_sub hl [1, 2, 0] rfl
  refine w_cast (c2 := T5.1 - T0.1) (s2 := sg T5 - sg T0) (by rw [cp1.1] <;> rfl) (by rw [sg_cpr cp1] <;> rfl) ?_
  exact a_X10_copyFrom_b18 E hA hX hN hml hst kr60 _ _ _ _ _ _ _ _ _ h (gl_cpr hgl cp1) cp1.2.2 had (by rw [cp1.1]; exact h_l0) (by rw [cp1.1]; exact h_l1) G hl
set_option maxHeartbeats 4000000 in
set_option maxRecDepth 100000 in
theorem a_X10_copyFrom (l : Launch) (hst : l.stackTraces = false) (D : va_G) (cI cJ cZ cMic cSrc cSt cAI cAJ : ClassId) (ad : Nat → Nat) (T : AT) (o : Nat) (a0 : Nat) {T1 : AT} (h : g_X10_copyFrom T o a0 = some T1) (hrc : RC T) (h_o : o < T.1) (h_a0 : a0 < T.1) : kAv l yX10_copyFrom (Cond.code yX10_copyFrom cX10_copyFrom 3 none :: wsA) 2 40 cI cJ cZ cMic cSrc cSt cAI cAJ D ad T [.ref (ad o), .ref (ad a0)] T1 := by
  intro sz
  refine Met.ofW (cc := cX10_copyFrom) (maxL := 3) (ret := none) (by decide) rfl ?_
  intro p e s m args below meth c s₁ B hml hv
  obtain ⟨rfl, hsz, hP, hK, hD0, hX, hN⟩ := hv
  have hx := B.exec
  have hb := B.bytes
  have hr := B.returns
  have hts := atoms_spec (ws := (Cond.code yX10_copyFrom cX10_copyFrom 3 none :: wsA)) B.pre
  have hown : s.vm.findClass RX10 = some m.cls := findClass_of_methodNamed B.named
  have hlocks := B.notSynchronized
  subst hsz
  have hD := hD0.self (sz := s.heap.size)
  generalize hAe : va_A (cW ad T.1 (cc cI cJ cZ cMic cSrc cSt cAI cAJ ad T)) s.heap.size = A at hD hX ⊢
  have hA : ∀ q : Nat, s.heap.size ≤ q → A q := fun q h => by rw [← hAe]; exact Or.inr h
  have G : gC cI cJ cZ cMic cSrc cSt cAI cAJ D ad A s.heap s.heap [] T := ⟨hP, hD, va_S.rf⟩
  have E : cE p c cX10_copyFrom s m ([.ref (ad o), .ref (ad a0)] : List Value).toArray (Cond.code yX10_copyFrom cX10_copyFrom 3 none :: wsA) D RX10 (CT cI cJ cZ cMic cSrc cSt cAI cAJ) := ⟨hx, hb, hts, hown, hK⟩
  have hl := lv_entry ([.ref (ad o), .ref (ad a0)]) (n := 3) (Nat.le_of_ble_eq_true rfl)
  rw [lg_entry_eq]
  generalize (lg_sl ([.ref (ad o), .ref (ad a0)]) ++ List.replicate (3 - (lg_sl ([.ref (ad o), .ref (ad a0)])).length) Slot.unset).toArray = ls at hl ⊢
  have hl : lv_has ls 3 [(0, .ref (ad o)), (1, .ref (ad a0))] := hl
  have hgl := GL.rf T
  have had : ∀ n, n < T.1 → ad n = ad n := fun _ _ => rfl
  have hT1 := s_X10_copyFrom h
  have hcs := cs_ok hgl hT1
  refine w_cast (Nat.sub_self T.1).symm (Nat.sub_self (sg T)).symm ?_
  have cp0 := cpr0 hrc
  unfold g_X10_copyFrom at h
  refine lv_aload_n hx hb dX10_copyFrom_0 rfl (lv_at hl 0 rfl) ?_
  refine lv_aload_n hx hb dX10_copyFrom_1 rfl (lv_at hl 1 rfl) ?_
  obtain ⟨g2, h⟩ := oif_some h
  refine c_get E G a0 2 (oO_k g2).1 (cc_o10 (oO_k g2).2) rfl (fun w h => .tail _ (iA_12 h)) (by decide) (.tail _ qA_15) rfl rfl dX10_copyFrom_2 ?_
  refine lv_topi (fun v3 ev3 => ?_)
  have h := elet_at ev3 h
  clear ev3
  obtain ⟨g4, h⟩ := oif_some h
  obtain ⟨T5, eT5, h⟩ := obind_some h
  have hg2 := s_X10_widenTo eT5
  have hrc2 := hg2.2.2 cp0.2.2
  have hT2 := s_X10_copyFrom_b8 _ _ _ h
  refine q_avv (As := [.int v3]) (rest := []) E G hA hX hN hml (a_X10_widenTo l hst D cI cJ cZ cMic cSrc cSt cAI cAJ ad T o v3 eT5 cp0.2.2 (by rw [cp0.1]; exact h_o)) (cwV 1 hts (gaV qA_98 qA_78 qA_79 qA_6 qA_80) rfl rfl rfl (by decide +kernel) ⟨Nat.le_of_ble_eq_true rfl, Nat.le_of_ble_eq_true rfl⟩) (oO_k g4).1 (cc_o10 (oO_k g4).2) rfl rfl hl.1 rfl (lv_room (Nat.le_of_ble_eq_true rfl)) dX10_copyFrom_5 (cs_av hgl cp0 hg2 hT2) (fun ad2 H locs hga G => ?_)
  refine w_cast (c2 := T5.1 - T.1) (s2 := sg T5 - sg T) (cs_f1 hgl cp0 hg2) (cs_f2 hgl cp0 hg2) ?_
  have hl := lv_sub hl [0, 1] rfl
  rw [show ad o = ad2 o from (hga o (by rw [cp0.1]; exact h_o)).symm] at hl
  rw [show ad a0 = ad2 a0 from (hga a0 (by rw [cp0.1]; exact h_a0)).symm] at hl
  exact a_X10_copyFrom_b8 E hA hX hN hml hst (fun ad H locs ls had G => W.vret hx hb hr (fun t ht hW => ⟨⟨(T1, ad), rfl, ⟨rfl, had⟩, ⟨by rw [ht]; exact G.1, va_K.moved hW.alike hK, G.2.1⟩⟩, G.2.2.F ht⟩) G.2.2.2.2 dX10_copyFrom_60) _ _ _ _ _ _ _ h (GL.tr (gl_cpr hgl cp0) hg2) hrc2 (fun n hn => (hga n (by rw [cp0.1]; exact Nat.lt_of_lt_of_le hn hgl.1)).trans (had n hn)) (Nat.lt_of_lt_of_le (by rw [cp0.1]; exact h_o) hg2.1) (Nat.lt_of_lt_of_le (by rw [cp0.1]; exact h_a0) hg2.1) G hl
def g_X8_copyFrom_b147  (T : AT)  : Option (AT) := some T
def g_X8_copyFrom_b64  : Nat → AT → Nat → Nat → Int32 → Option (AT)
  | 0, _, _, _, _ => none
  | n + 1, T, l0, l1, l2 => if 6 ≤ l2 then (oif (oO T l0 8 = true) <| obind (T.2.2.2.2 l0 10) fun n4 => oif (oO T l1 8 = true) <| obind (T.2.2.2.2 l1 10) fun n6 => oif (oO T n4 10 = true) <| obind (g_X10_copyFrom T n4 n6) fun T8 => g_X8_copyFrom_b147 T8) else (oif (oO T l0 8 = true) <| obind (T.2.2.2.2 l0 5) fun n11 => oif (oO T l1 8 = true) <| obind (T.2.2.2.2 l1 5) fun n13 => oif (aA T n13 102 = true) <| oif (inb l2 (T.2.1 n13).2 = true) <| elet (T.2.2.1 n13 l2.toNatClampNeg) fun v16 => oif (aA T n11 102 = true) <| oif (inb l2 (T.2.1 n11).2 = true) <| oif (v16 = 0 ∨ v16 = 1) <| elet (uI T n11 l2.toNatClampNeg v16) fun T19 => oif (oO T19 l0 8 = true) <| obind (T19.2.2.2.2 l0 6) fun n21 => oif (oO T19 l1 8 = true) <| obind (T19.2.2.2.2 l1 6) fun n23 => oif (aA T19 n23 100 = true) <| oif (inb l2 (T19.2.1 n23).2 = true) <| elet (T19.2.2.1 n23 l2.toNatClampNeg) fun v26 => oif (aA T19 n21 100 = true) <| oif (inb l2 (T19.2.1 n21).2 = true) <| elet (uI T19 n21 l2.toNatClampNeg v26) fun T29 => oif (oO T29 l0 8 = true) <| obind (T29.2.2.2.2 l0 7) fun n31 => oif (oO T29 l1 8 = true) <| obind (T29.2.2.2.2 l1 7) fun n33 => oif (aA T29 n33 100 = true) <| oif (inb l2 (T29.2.1 n33).2 = true) <| elet (T29.2.2.1 n33 l2.toNatClampNeg) fun v36 => oif (aA T29 n31 100 = true) <| oif (inb l2 (T29.2.1 n31).2 = true) <| elet (uI T29 n31 l2.toNatClampNeg v36) fun T39 => oif (oO T39 l0 8 = true) <| obind (T39.2.2.2.2 l0 8) fun n41 => oif (oO T39 l1 8 = true) <| obind (T39.2.2.2.2 l1 8) fun n43 => oif (aA T39 n43 100 = true) <| oif (inb l2 (T39.2.1 n43).2 = true) <| elet (T39.2.2.1 n43 l2.toNatClampNeg) fun v46 => oif (aA T39 n41 100 = true) <| oif (inb l2 (T39.2.1 n41).2 = true) <| elet (uI T39 n41 l2.toNatClampNeg v46) fun T49 => oif (oO T49 l0 8 = true) <| obind (T49.2.2.2.2 l0 9) fun n51 => oif (oO T49 l1 8 = true) <| obind (T49.2.2.2.2 l1 9) fun n53 => oif (aA T49 n53 100 = true) <| oif (inb l2 (T49.2.1 n53).2 = true) <| elet (T49.2.2.1 n53 l2.toNatClampNeg) fun v56 => oif (aA T49 n51 100 = true) <| oif (inb l2 (T49.2.1 n51).2 = true) <| elet (uI T49 n51 l2.toNatClampNeg v56) fun T59 => elet (l2 + Int32.ofInt (1)) fun v60 => g_X8_copyFrom_b64 n T59 l0 l1 v60)
def g_X8_copyFrom_b26  : Nat → AT → Nat → Nat → Int32 → Option (AT)
  | 0, _, _, _, _ => none
  | n + 1, T, l0, l1, l2 => if 12 ≤ l2 then (g_X8_copyFrom_b64 16384 T l0 l1 0) else (oif (oO T l0 8 = true) <| obind (T.2.2.2.2 l0 3) fun n4 => oif (oO T l1 8 = true) <| obind (T.2.2.2.2 l1 3) fun n6 => oif (aA T n6 102 = true) <| oif (inb l2 (T.2.1 n6).2 = true) <| elet (T.2.2.1 n6 l2.toNatClampNeg) fun v9 => oif (aA T n4 102 = true) <| oif (inb l2 (T.2.1 n4).2 = true) <| oif (v9 = 0 ∨ v9 = 1) <| elet (uI T n4 l2.toNatClampNeg v9) fun T12 => oif (oO T12 l0 8 = true) <| obind (T12.2.2.2.2 l0 4) fun n14 => oif (oO T12 l1 8 = true) <| obind (T12.2.2.2.2 l1 4) fun n16 => oif (aA T12 n16 100 = true) <| oif (inb l2 (T12.2.1 n16).2 = true) <| elet (T12.2.2.1 n16 l2.toNatClampNeg) fun v19 => oif (aA T12 n14 100 = true) <| oif (inb l2 (T12.2.1 n14).2 = true) <| elet (uI T12 n14 l2.toNatClampNeg v19) fun T22 => elet (l2 + Int32.ofInt (1)) fun v23 => g_X8_copyFrom_b26 n T22 l0 l1 v23)
def g_X8_copyFrom (T : AT) (o : Nat) (a0 : Nat) : Option (AT) := oif (oO T a0 8 = true) <| elet (T.2.2.1 a0 0) fun v3 => oif (oO T o 8 = true) <| elet (uI T o 0 v3) fun T5 => oif (oO T5 a0 8 = true) <| elet (T5.2.2.1 a0 1) fun v7 => oif (oO T5 o 8 = true) <| elet (uI T5 o 1 v7) fun T9 => oif (oO T9 a0 8 = true) <| elet (T9.2.2.1 a0 2) fun v11 => oif (oO T9 o 8 = true) <| elet (uI T9 o 2 v11) fun T13 => g_X8_copyFrom_b26 16384 T13 o a0 0
set_option maxHeartbeats 4000000 in
set_option maxRecDepth 100000 in
theorem s_X8_copyFrom_b147 {T1 : AT} : ∀ (T : AT), g_X8_copyFrom_b147 T = some T1 → GL T T1 := by
  intro T h
  have p0 := GL.rf T
  unfold g_X8_copyFrom_b147 at h
  rw [← osome1 h]
  exact p0
set_option maxHeartbeats 4000000 in
set_option maxRecDepth 100000 in
theorem s_X8_copyFrom_b64 {T1 : AT} : ∀ n : Nat, ∀ (T : AT) (l0 : Nat) (l1 : Nat) (l2 : Int32), g_X8_copyFrom_b64 n T l0 l1 l2 = some T1 → GL T T1 := by
  intro n
  induction n with
  | zero =>
    intro T l0 l1 l2 h
    have h : (none : Option (AT)) = some T1 := h
    cases h
  | succ n ih =>
    intro T l0 l1 l2 h
    have p0 := GL.rf T
    unfold g_X8_copyFrom_b64 at h
    rcases oif_or h with ⟨c2, h⟩ | ⟨c2, h⟩
    · have h := h
      obtain ⟨g3, h⟩ := oif_some h
      obtain ⟨n4, en4, h⟩ := obind_some h
      obtain ⟨g5, h⟩ := oif_some h
      obtain ⟨n6, en6, h⟩ := obind_some h
      obtain ⟨g7, h⟩ := oif_some h
      obtain ⟨T8, eT8, h⟩ := obind_some h
      have p1 : GL T T8 := GL.tr p0 (s_X10_copyFrom eT8)
      exact GL.tr p1 (s_X8_copyFrom_b147 _ h)
    · have h := h
      obtain ⟨g10, h⟩ := oif_some h
      obtain ⟨n11, en11, h⟩ := obind_some h
      obtain ⟨g12, h⟩ := oif_some h
      obtain ⟨n13, en13, h⟩ := obind_some h
      obtain ⟨g14, h⟩ := oif_some h
      obtain ⟨g15, h⟩ := oif_some h
      obtain ⟨v16, -, h⟩ := elet_some h
      obtain ⟨g17, h⟩ := oif_some h
      obtain ⟨g18, h⟩ := oif_some h
      obtain ⟨gz, h⟩ := oif_some h
      obtain ⟨T19, eT19, h⟩ := elet_some h
      have p1 : GL T T19 := GL.tr p0 (by rw [eT19]; exact gl_sp sp_uI)
      obtain ⟨g20, h⟩ := oif_some h
      obtain ⟨n21, en21, h⟩ := obind_some h
      obtain ⟨g22, h⟩ := oif_some h
      obtain ⟨n23, en23, h⟩ := obind_some h
      obtain ⟨g24, h⟩ := oif_some h
      obtain ⟨g25, h⟩ := oif_some h
      obtain ⟨v26, -, h⟩ := elet_some h
      obtain ⟨g27, h⟩ := oif_some h
      obtain ⟨g28, h⟩ := oif_some h
      obtain ⟨T29, eT29, h⟩ := elet_some h
      have p2 : GL T T29 := GL.tr p1 (by rw [eT29]; exact gl_sp sp_uI)
      obtain ⟨g30, h⟩ := oif_some h
      obtain ⟨n31, en31, h⟩ := obind_some h
      obtain ⟨g32, h⟩ := oif_some h
      obtain ⟨n33, en33, h⟩ := obind_some h
      obtain ⟨g34, h⟩ := oif_some h
      obtain ⟨g35, h⟩ := oif_some h
      obtain ⟨v36, -, h⟩ := elet_some h
      obtain ⟨g37, h⟩ := oif_some h
      obtain ⟨g38, h⟩ := oif_some h
      obtain ⟨T39, eT39, h⟩ := elet_some h
      have p3 : GL T T39 := GL.tr p2 (by rw [eT39]; exact gl_sp sp_uI)
      obtain ⟨g40, h⟩ := oif_some h
      obtain ⟨n41, en41, h⟩ := obind_some h
      obtain ⟨g42, h⟩ := oif_some h
      obtain ⟨n43, en43, h⟩ := obind_some h
      obtain ⟨g44, h⟩ := oif_some h
      obtain ⟨g45, h⟩ := oif_some h
      obtain ⟨v46, -, h⟩ := elet_some h
      obtain ⟨g47, h⟩ := oif_some h
      obtain ⟨g48, h⟩ := oif_some h
      obtain ⟨T49, eT49, h⟩ := elet_some h
      have p4 : GL T T49 := GL.tr p3 (by rw [eT49]; exact gl_sp sp_uI)
      obtain ⟨g50, h⟩ := oif_some h
      obtain ⟨n51, en51, h⟩ := obind_some h
      obtain ⟨g52, h⟩ := oif_some h
      obtain ⟨n53, en53, h⟩ := obind_some h
      obtain ⟨g54, h⟩ := oif_some h
      obtain ⟨g55, h⟩ := oif_some h
      obtain ⟨v56, -, h⟩ := elet_some h
      obtain ⟨g57, h⟩ := oif_some h
      obtain ⟨g58, h⟩ := oif_some h
      obtain ⟨T59, eT59, h⟩ := elet_some h
      have p5 : GL T T59 := GL.tr p4 (by rw [eT59]; exact gl_sp sp_uI)
      obtain ⟨v60, ev60, h⟩ := elet_some h
      exact GL.tr p5 (ih _ _ _ _ h)
set_option maxHeartbeats 4000000 in
set_option maxRecDepth 100000 in
theorem s_X8_copyFrom_b26 {T1 : AT} : ∀ n : Nat, ∀ (T : AT) (l0 : Nat) (l1 : Nat) (l2 : Int32), g_X8_copyFrom_b26 n T l0 l1 l2 = some T1 → GL T T1 := by
  intro n
  induction n with
  | zero =>
    intro T l0 l1 l2 h
    have h : (none : Option (AT)) = some T1 := h
    cases h
  | succ n ih =>
    intro T l0 l1 l2 h
    have p0 := GL.rf T
    unfold g_X8_copyFrom_b26 at h
    rcases oif_or h with ⟨c2, h⟩ | ⟨c2, h⟩
    · have h := h
      exact GL.tr p0 (s_X8_copyFrom_b64 _ _ _ _ _ h)
    · have h := h
      obtain ⟨g3, h⟩ := oif_some h
      obtain ⟨n4, en4, h⟩ := obind_some h
      obtain ⟨g5, h⟩ := oif_some h
      obtain ⟨n6, en6, h⟩ := obind_some h
      obtain ⟨g7, h⟩ := oif_some h
      obtain ⟨g8, h⟩ := oif_some h
      obtain ⟨v9, -, h⟩ := elet_some h
      obtain ⟨g10, h⟩ := oif_some h
      obtain ⟨g11, h⟩ := oif_some h
      obtain ⟨gz, h⟩ := oif_some h
      obtain ⟨T12, eT12, h⟩ := elet_some h
      have p1 : GL T T12 := GL.tr p0 (by rw [eT12]; exact gl_sp sp_uI)
      obtain ⟨g13, h⟩ := oif_some h
      obtain ⟨n14, en14, h⟩ := obind_some h
      obtain ⟨g15, h⟩ := oif_some h
      obtain ⟨n16, en16, h⟩ := obind_some h
      obtain ⟨g17, h⟩ := oif_some h
      obtain ⟨g18, h⟩ := oif_some h
      obtain ⟨v19, -, h⟩ := elet_some h
      obtain ⟨g20, h⟩ := oif_some h
      obtain ⟨g21, h⟩ := oif_some h
      obtain ⟨T22, eT22, h⟩ := elet_some h
      have p2 : GL T T22 := GL.tr p1 (by rw [eT22]; exact gl_sp sp_uI)
      obtain ⟨v23, ev23, h⟩ := elet_some h
      exact GL.tr p2 (ih _ _ _ _ h)
set_option maxHeartbeats 4000000 in
set_option maxRecDepth 100000 in
theorem s_X8_copyFrom {T : AT} {o : Nat} {a0 : Nat} {T1 : AT} (h : g_X8_copyFrom T o a0 = some T1) : GL T T1 := by
  have p0 := GL.rf T
  unfold g_X8_copyFrom at h
  obtain ⟨g2, h⟩ := oif_some h
  obtain ⟨v3, -, h⟩ := elet_some h
  obtain ⟨g4, h⟩ := oif_some h
  obtain ⟨T5, eT5, h⟩ := elet_some h
  have p1 : GL T T5 := GL.tr p0 (by rw [eT5]; exact gl_sp sp_uI)
  obtain ⟨g6, h⟩ := oif_some h
  obtain ⟨v7, -, h⟩ := elet_some h
  obtain ⟨g8, h⟩ := oif_some h
  obtain ⟨T9, eT9, h⟩ := elet_some h
  have p2 : GL T T9 := GL.tr p1 (by rw [eT9]; exact gl_sp sp_uI)
  obtain ⟨g10, h⟩ := oif_some h
  obtain ⟨v11, -, h⟩ := elet_some h
  obtain ⟨g12, h⟩ := oif_some h
  obtain ⟨T13, eT13, h⟩ := elet_some h
  have p3 : GL T T13 := GL.tr p2 (by rw [eT13]; exact gl_sp sp_uI)
  exact GL.tr p3 (s_X8_copyFrom_b26 _ _ _ _ _ h)
set_option maxHeartbeats 4000000 in
set_option maxRecDepth 100000 in
theorem a_X8_copyFrom_b147 {p : Program} {l : Launch} {e : Env} {s : State} {m : MethodId} {args : Array Value} {below : List Frame} {meth : Method} {c : Code} {Q : State → Prop} {D : va_G} {A : Nat → Prop} {cI cJ cZ cMic cSrc cSt cAI cAJ : ClassId} {ad0 : Nat → Nat} {T0 : AT} {T1 : AT} (E : cE p c cX8_copyFrom s m args (Cond.code yX8_copyFrom cX8_copyFrom 3 none :: wsA) D RX8 (CT cI cJ cZ cMic cSrc cSt cAI cAJ)) (hA : ∀ q : Nat, s.heap.size ≤ q → A q) (hX : xT A s) (hN : nX s) (hml : c.maxLocals = 3) (hst : l.stackTraces = false) (kr147 : ∀ (ad : Nat → Nat) (H : Heap) (locs : List Loc) (ls : Array Slot), (∀ n, n < T0.1 → ad n = ad0 n) → gC cI cJ cZ cMic cSrc cSt cAI cAJ D ad A s.heap H locs T1 → W p l e { frames := 3, cells := T1.1 - T0.1, slots := sg T1 - sg T0, locals := 62 } s m args below meth c H locs (T1.1 - T0.1) (sg T1 - sg T0) Q (F0 m 147 ls [])) : ∀ (T : AT) (ad : Nat → Nat) (H : Heap) (locs : List Loc) (ls : Array Slot), g_X8_copyFrom_b147 T = some T1 → GL T0 T → RC T → (∀ n, n < T0.1 → ad n = ad0 n) → gC cI cJ cZ cMic cSrc cSt cAI cAJ D ad A s.heap H locs T → lv_has ls 3 [] → W p l e { frames := 3, cells := T1.1 - T0.1, slots := sg T1 - sg T0, locals := 62 } s m args below meth c H locs (T.1 - T0.1) (sg T - sg T0) Q (F0 m 147 ls []) := by
  have hx := E.1
  have hb := E.2.1
  have hts := E.2.2.1
  have hown := E.2.2.2.1
  have hK := E.2.2.2.2
  intro T ad H locs ls h hgl hrc had G hl
  have hT1 := s_X8_copyFrom_b147 _ h
  have hcs := cs_ok hgl hT1
  have cp0 := cpr0 hrc
  unfold g_X8_copyFrom_b147 at h
  rw [osome1 h] at G
  refine w_cast (c2 := T1.1 - T0.1) (s2 := sg T1 - sg T0) (by rw [← osome1 h, cp0.1] <;> rfl) (by rw [← osome1 h, sg_cpr cp0] <;> rfl) ?_
  exact kr147 ad _ _ _ had G
set_option maxHeartbeats 4000000 in
set_option maxRecDepth 100000 in
theorem a_X8_copyFrom_b64 {p : Program} {l : Launch} {e : Env} {s : State} {m : MethodId} {args : Array Value} {below : List Frame} {meth : Method} {c : Code} {Q : State → Prop} {D : va_G} {A : Nat → Prop} {cI cJ cZ cMic cSrc cSt cAI cAJ : ClassId} {ad0 : Nat → Nat} {T0 : AT} {T1 : AT} (E : cE p c cX8_copyFrom s m args (Cond.code yX8_copyFrom cX8_copyFrom 3 none :: wsA) D RX8 (CT cI cJ cZ cMic cSrc cSt cAI cAJ)) (hA : ∀ q : Nat, s.heap.size ≤ q → A q) (hX : xT A s) (hN : nX s) (hml : c.maxLocals = 3) (hst : l.stackTraces = false) (kr147 : ∀ (ad : Nat → Nat) (H : Heap) (locs : List Loc) (ls : Array Slot), (∀ n, n < T0.1 → ad n = ad0 n) → gC cI cJ cZ cMic cSrc cSt cAI cAJ D ad A s.heap H locs T1 → W p l e { frames := 3, cells := T1.1 - T0.1, slots := sg T1 - sg T0, locals := 62 } s m args below meth c H locs (T1.1 - T0.1) (sg T1 - sg T0) Q (F0 m 147 ls [])) : ∀ n : Nat, ∀ (T : AT) (ad : Nat → Nat) (H : Heap) (locs : List Loc) (ls : Array Slot) (l0 : Nat) (l1 : Nat) (l2 : Int32), g_X8_copyFrom_b64 n T l0 l1 l2 = some T1 → GL T0 T → RC T → (∀ n, n < T0.1 → ad n = ad0 n) → l0 < T.1 → l1 < T.1 → gC cI cJ cZ cMic cSrc cSt cAI cAJ D ad A s.heap H locs T → lv_has ls 3 [(0, .ref (ad l0)), (1, .ref (ad l1)), (2, .int l2)] → W p l e { frames := 3, cells := T1.1 - T0.1, slots := sg T1 - sg T0, locals := 62 } s m args below meth c H locs (T.1 - T0.1) (sg T - sg T0) Q (F0 m 64 ls []) := by
  have hx := E.1
  have hb := E.2.1
  have hts := E.2.2.1
  have hown := E.2.2.2.1
  have hK := E.2.2.2.2
  intro n
  induction n with
  | zero =>
    intro T ad H locs ls l0 l1 l2 h
    have h : (none : Option (AT)) = some T1 := h
    cases h
  | succ n ih =>
    intro T ad H locs ls l0 l1 l2 h hgl hrc had h_l0 h_l1 G hl
    have hT1 := s_X8_copyFrom_b64 _ _ _ _ _ h
    have hcs := cs_ok hgl hT1
    have cp0 := cpr0 hrc
    unfold g_X8_copyFrom_b64 at h
    refine lv_iload_n hx hb dX8_copyFrom_64 rfl (lv_at hl 2 rfl) ?_
    refine lv_bipush (v := 6) hx hb dX8_copyFrom_65 (by decide) ?_
    refine lv_icmp_ge (tgt := 136) hx hb dX8_copyFrom_67 (by decide) (fun c2 => ?_) (fun c2 => ?_)
    · have h := oif_pos c2 h
      refine lv_aload_n hx hb dX8_copyFrom_136 rfl (lv_at hl 0 rfl) ?_
      obtain ⟨g3, h⟩ := oif_some h
      obtain ⟨n4, en4, h⟩ := obind_some h
      have h_n4 : n4 < T.1 := by rw [← cp0.1]; exact cp0.2.2 _ _ _ en4
      refine c_get E G l0 10 (v := .ref (ad n4)) (oO_k g3).1 (cc_o8 (oO_k g3).2) rfl (fun w h => .tail _ (iA_16 h)) (by decide) (.tail _ qA_73) rfl (by rw [en4]; rfl) dX8_copyFrom_137 ?_
      clear en4
      refine lv_aload_n hx hb dX8_copyFrom_140 rfl (lv_at hl 1 rfl) ?_
      obtain ⟨g5, h⟩ := oif_some h
      obtain ⟨n6, en6, h⟩ := obind_some h
      have h_n6 : n6 < T.1 := by rw [← cp0.1]; exact cp0.2.2 _ _ _ en6
      refine c_get E G l1 10 (v := .ref (ad n6)) (oO_k g5).1 (cc_o8 (oO_k g5).2) rfl (fun w h => .tail _ (iA_16 h)) (by decide) (.tail _ qA_73) rfl (by rw [en6]; rfl) dX8_copyFrom_141 ?_
      clear en6
      obtain ⟨g7, h⟩ := oif_some h
      obtain ⟨T8, eT8, h⟩ := obind_some h
      have hg2 := s_X10_copyFrom eT8
      have hrc2 := hg2.2.2 cp0.2.2
      have hT2 := s_X8_copyFrom_b147 _ h
      refine q_avv (As := [.ref (ad n6)]) (rest := []) E G hA hX hN hml (a_X10_copyFrom l hst D cI cJ cZ cMic cSrc cSt cAI cAJ ad T n4 n6 eT8 cp0.2.2 (by rw [cp0.1]; exact h_n4) (by rw [cp0.1]; exact h_n6)) (cwV 1 hts (gaV qA_605 qA_606 qA_607 qA_6 qA_608) rfl rfl rfl (by decide +kernel) ⟨Nat.le_of_ble_eq_true rfl, Nat.le_of_ble_eq_true rfl⟩) (oO_k g7).1 (cc_o10 (oO_k g7).2) rfl rfl hl.1 rfl (lv_room (Nat.le_of_ble_eq_true rfl)) dX8_copyFrom_144 (cs_av hgl cp0 hg2 hT2) (fun ad2 H locs hga G => ?_)
      refine w_cast (c2 := T8.1 - T0.1) (s2 := sg T8 - sg T0) (cs_f1 hgl cp0 hg2) (cs_f2 hgl cp0 hg2) ?_
      have hl := lv_sub hl [] rfl
      exact a_X8_copyFrom_b147 E hA hX hN hml hst kr147 _ _ _ _ _ h (GL.tr (gl_cpr hgl cp0) hg2) hrc2 (fun n hn => (hga n (by rw [cp0.1]; exact Nat.lt_of_lt_of_le hn hgl.1)).trans (had n hn)) G hl
    · have h := oif_neg c2 h
      refine lv_aload_n hx hb dX8_copyFrom_70 rfl (lv_at hl 0 rfl) ?_
      obtain ⟨g10, h⟩ := oif_some h
      obtain ⟨n11, en11, h⟩ := obind_some h
      have h_n11 : n11 < T.1 := by rw [← cp0.1]; exact cp0.2.2 _ _ _ en11
      refine c_get E G l0 5 (v := .ref (ad n11)) (oO_k g10).1 (cc_o8 (oO_k g10).2) rfl (fun w h => .tail _ (iA_16 h)) (by decide) (.tail _ qA_585) rfl (by rw [en11]; rfl) dX8_copyFrom_71 ?_
      clear en11
      refine lv_iload_n hx hb dX8_copyFrom_74 rfl (lv_at hl 2 rfl) ?_
      refine lv_aload_n hx hb dX8_copyFrom_75 rfl (lv_at hl 1 rfl) ?_
      obtain ⟨g12, h⟩ := oif_some h
      obtain ⟨n13, en13, h⟩ := obind_some h
      have h_n13 : n13 < T.1 := by rw [← cp0.1]; exact cp0.2.2 _ _ _ en13
      refine c_get E G l1 5 (v := .ref (ad n13)) (oO_k g12).1 (cc_o8 (oO_k g12).2) rfl (fun w h => .tail _ (iA_16 h)) (by decide) (.tail _ qA_585) rfl (by rw [en13]; rfl) dX8_copyFrom_76 ?_
      clear en13
      refine lv_iload_n hx hb dX8_copyFrom_79 rfl (lv_at hl 2 rfl) ?_
      obtain ⟨g14, h⟩ := oif_some h
      obtain ⟨g15, h⟩ := oif_some h
      refine c_zald E G n13 2 (k := l2.toNatClampNeg) (aA_k g14).1 (cc_a102 (aA_k g14).2.1) rfl (inb_k g15).1 (inb_k g15).2 (aA_k g14).2.2 dX8_copyFrom_80 ?_
      refine lv_topi (fun v16 ev16 => ?_)
      have h := elet_at ev16 h
      clear ev16
      obtain ⟨g17, h⟩ := oif_some h
      obtain ⟨g18, h⟩ := oif_some h
      obtain ⟨gz, h⟩ := oif_some h
      refine c_zast E G n11 2 (k := l2.toNatClampNeg) (v := v16) (aA_k g17).1 (cc_a102 (aA_k g17).2.1) rfl (inb_k g18).1 (inb_k g18).2 (aA_k g17).2.2 (by rcases gz with rfl | rfl <;> rfl) dX8_copyFrom_81 (fun H locs G => ?_)
      have G := gC_up_i (f := upd (T.2.2.1 n11) l2.toNatClampNeg v16) (ccv_102 (aA_k g17).2.1) G
      obtain ⟨T19, eT19, h⟩ := elet_some h
      have G : gC cI cJ cZ cMic cSrc cSt cAI cAJ D ad A s.heap H locs T19 := by rw [eT19]; exact G
      have cp1 := show CPR T T19 from by rw [eT19]; exact cpr_sp cp0 sp_uI
      clear eT19
      refine lv_aload_n hx hb dX8_copyFrom_82 rfl (lv_at hl 0 rfl) ?_
      obtain ⟨g20, h⟩ := oif_some h
      obtain ⟨n21, en21, h⟩ := obind_some h
      have h_n21 : n21 < T.1 := by rw [← cp1.1]; exact cp1.2.2 _ _ _ en21
      refine c_get E G l0 6 (v := .ref (ad n21)) (oO_k g20).1 (cc_o8 (oO_k g20).2) rfl (fun w h => .tail _ (iA_16 h)) (by decide) (.tail _ qA_586) rfl (by rw [en21]; rfl) dX8_copyFrom_83 ?_
      clear en21
      refine lv_iload_n hx hb dX8_copyFrom_86 rfl (lv_at hl 2 rfl) ?_
      refine lv_aload_n hx hb dX8_copyFrom_87 rfl (lv_at hl 1 rfl) ?_
      obtain ⟨g22, h⟩ := oif_some h
      obtain ⟨n23, en23, h⟩ := obind_some h
      have h_n23 : n23 < T.1 := by rw [← cp1.1]; exact cp1.2.2 _ _ _ en23
      refine c_get E G l1 6 (v := .ref (ad n23)) (oO_k g22).1 (cc_o8 (oO_k g22).2) rfl (fun w h => .tail _ (iA_16 h)) (by decide) (.tail _ qA_586) rfl (by rw [en23]; rfl) dX8_copyFrom_88 ?_
      clear en23
      refine lv_iload_n hx hb dX8_copyFrom_91 rfl (lv_at hl 2 rfl) ?_
      obtain ⟨g24, h⟩ := oif_some h
      obtain ⟨g25, h⟩ := oif_some h
      refine c_iald E G n23 0 (k := l2.toNatClampNeg) (aA_k g24).1 (cc_a100 (aA_k g24).2.1) rfl (inb_k g25).1 (inb_k g25).2 (aA_k g24).2.2 dX8_copyFrom_92 ?_
      refine lv_topi (fun v26 ev26 => ?_)
      have h := elet_at ev26 h
      clear ev26
      obtain ⟨g27, h⟩ := oif_some h
      obtain ⟨g28, h⟩ := oif_some h
      refine c_iast E G n21 0 (k := l2.toNatClampNeg) (v := v26) (aA_k g27).1 (cc_a100 (aA_k g27).2.1) rfl (inb_k g28).1 (inb_k g28).2 (aA_k g27).2.2 dX8_copyFrom_93 (fun H locs G => ?_)
      have G := gC_up_i (f := upd (T19.2.2.1 n21) l2.toNatClampNeg v26) (ccv_100 (aA_k g27).2.1) G
      obtain ⟨T29, eT29, h⟩ := elet_some h
      have G : gC cI cJ cZ cMic cSrc cSt cAI cAJ D ad A s.heap H locs T29 := by rw [eT29]; exact G
      have cp2 := show CPR T T29 from by rw [eT29]; exact cpr_sp cp1 sp_uI
      clear eT29
      refine lv_aload_n hx hb dX8_copyFrom_94 rfl (lv_at hl 0 rfl) ?_
      obtain ⟨g30, h⟩ := oif_some h
      obtain ⟨n31, en31, h⟩ := obind_some h
      have h_n31 : n31 < T.1 := by rw [← cp2.1]; exact cp2.2.2 _ _ _ en31
      refine c_get E G l0 7 (v := .ref (ad n31)) (oO_k g30).1 (cc_o8 (oO_k g30).2) rfl (fun w h => .tail _ (iA_16 h)) (by decide) (.tail _ qA_587) rfl (by rw [en31]; rfl) dX8_copyFrom_95 ?_
      clear en31
      refine lv_iload_n hx hb dX8_copyFrom_98 rfl (lv_at hl 2 rfl) ?_
      refine lv_aload_n hx hb dX8_copyFrom_99 rfl (lv_at hl 1 rfl) ?_
      obtain ⟨g32, h⟩ := oif_some h
      obtain ⟨n33, en33, h⟩ := obind_some h
      have h_n33 : n33 < T.1 := by rw [← cp2.1]; exact cp2.2.2 _ _ _ en33
      refine c_get E G l1 7 (v := .ref (ad n33)) (oO_k g32).1 (cc_o8 (oO_k g32).2) rfl (fun w h => .tail _ (iA_16 h)) (by decide) (.tail _ qA_587) rfl (by rw [en33]; rfl) dX8_copyFrom_100 ?_
      clear en33
      refine lv_iload_n hx hb dX8_copyFrom_103 rfl (lv_at hl 2 rfl) ?_
      obtain ⟨g34, h⟩ := oif_some h
      obtain ⟨g35, h⟩ := oif_some h
      refine c_iald E G n33 0 (k := l2.toNatClampNeg) (aA_k g34).1 (cc_a100 (aA_k g34).2.1) rfl (inb_k g35).1 (inb_k g35).2 (aA_k g34).2.2 dX8_copyFrom_104 ?_
      refine lv_topi (fun v36 ev36 => ?_)
      have h := elet_at ev36 h
      clear ev36
      obtain ⟨g37, h⟩ := oif_some h
      obtain ⟨g38, h⟩ := oif_some h
      refine c_iast E G n31 0 (k := l2.toNatClampNeg) (v := v36) (aA_k g37).1 (cc_a100 (aA_k g37).2.1) rfl (inb_k g38).1 (inb_k g38).2 (aA_k g37).2.2 dX8_copyFrom_105 (fun H locs G => ?_)
      have G := gC_up_i (f := upd (T29.2.2.1 n31) l2.toNatClampNeg v36) (ccv_100 (aA_k g37).2.1) G
      obtain ⟨T39, eT39, h⟩ := elet_some h
      have G : gC cI cJ cZ cMic cSrc cSt cAI cAJ D ad A s.heap H locs T39 := by rw [eT39]; exact G
      have cp3 := show CPR T T39 from by rw [eT39]; exact cpr_sp cp2 sp_uI
      clear eT39
      refine lv_aload_n hx hb dX8_copyFrom_106 rfl (lv_at hl 0 rfl) ?_
      obtain ⟨g40, h⟩ := oif_some h
      obtain ⟨n41, en41, h⟩ := obind_some h
      have h_n41 : n41 < T.1 := by rw [← cp3.1]; exact cp3.2.2 _ _ _ en41
      refine c_get E G l0 8 (v := .ref (ad n41)) (oO_k g40).1 (cc_o8 (oO_k g40).2) rfl (fun w h => .tail _ (iA_16 h)) (by decide) (.tail _ qA_588) rfl (by rw [en41]; rfl) dX8_copyFrom_107 ?_
      clear en41
      refine lv_iload_n hx hb dX8_copyFrom_110 rfl (lv_at hl 2 rfl) ?_
      refine lv_aload_n hx hb dX8_copyFrom_111 rfl (lv_at hl 1 rfl) ?_
      obtain ⟨g42, h⟩ := oif_some h
      obtain ⟨n43, en43, h⟩ := obind_some h
      have h_n43 : n43 < T.1 := by rw [← cp3.1]; exact cp3.2.2 _ _ _ en43
      refine c_get E G l1 8 (v := .ref (ad n43)) (oO_k g42).1 (cc_o8 (oO_k g42).2) rfl (fun w h => .tail _ (iA_16 h)) (by decide) (.tail _ qA_588) rfl (by rw [en43]; rfl) dX8_copyFrom_112 ?_
      clear en43
      refine lv_iload_n hx hb dX8_copyFrom_115 rfl (lv_at hl 2 rfl) ?_
      obtain ⟨g44, h⟩ := oif_some h
      obtain ⟨g45, h⟩ := oif_some h
      refine c_iald E G n43 0 (k := l2.toNatClampNeg) (aA_k g44).1 (cc_a100 (aA_k g44).2.1) rfl (inb_k g45).1 (inb_k g45).2 (aA_k g44).2.2 dX8_copyFrom_116 ?_
      refine lv_topi (fun v46 ev46 => ?_)
      have h := elet_at ev46 h
      clear ev46
      obtain ⟨g47, h⟩ := oif_some h
      obtain ⟨g48, h⟩ := oif_some h
      refine c_iast E G n41 0 (k := l2.toNatClampNeg) (v := v46) (aA_k g47).1 (cc_a100 (aA_k g47).2.1) rfl (inb_k g48).1 (inb_k g48).2 (aA_k g47).2.2 dX8_copyFrom_117 (fun H locs G => ?_)
      have G := gC_up_i (f := upd (T39.2.2.1 n41) l2.toNatClampNeg v46) (ccv_100 (aA_k g47).2.1) G
      obtain ⟨T49, eT49, h⟩ := elet_some h
      have G : gC cI cJ cZ cMic cSrc cSt cAI cAJ D ad A s.heap H locs T49 := by rw [eT49]; exact G
      have cp4 := show CPR T T49 from by rw [eT49]; exact cpr_sp cp3 sp_uI
      clear eT49
      refine lv_aload_n hx hb dX8_copyFrom_118 rfl (lv_at hl 0 rfl) ?_
      obtain ⟨g50, h⟩ := oif_some h
      obtain ⟨n51, en51, h⟩ := obind_some h
      have h_n51 : n51 < T.1 := by rw [← cp4.1]; exact cp4.2.2 _ _ _ en51
      refine c_get E G l0 9 (v := .ref (ad n51)) (oO_k g50).1 (cc_o8 (oO_k g50).2) rfl (fun w h => .tail _ (iA_16 h)) (by decide) (.tail _ qA_589) rfl (by rw [en51]; rfl) dX8_copyFrom_119 ?_
      clear en51
      refine lv_iload_n hx hb dX8_copyFrom_122 rfl (lv_at hl 2 rfl) ?_
      refine lv_aload_n hx hb dX8_copyFrom_123 rfl (lv_at hl 1 rfl) ?_
      obtain ⟨g52, h⟩ := oif_some h
      obtain ⟨n53, en53, h⟩ := obind_some h
      have h_n53 : n53 < T.1 := by rw [← cp4.1]; exact cp4.2.2 _ _ _ en53
      refine c_get E G l1 9 (v := .ref (ad n53)) (oO_k g52).1 (cc_o8 (oO_k g52).2) rfl (fun w h => .tail _ (iA_16 h)) (by decide) (.tail _ qA_589) rfl (by rw [en53]; rfl) dX8_copyFrom_124 ?_
      clear en53
      refine lv_iload_n hx hb dX8_copyFrom_127 rfl (lv_at hl 2 rfl) ?_
      obtain ⟨g54, h⟩ := oif_some h
      obtain ⟨g55, h⟩ := oif_some h
      refine c_iald E G n53 0 (k := l2.toNatClampNeg) (aA_k g54).1 (cc_a100 (aA_k g54).2.1) rfl (inb_k g55).1 (inb_k g55).2 (aA_k g54).2.2 dX8_copyFrom_128 ?_
      refine lv_topi (fun v56 ev56 => ?_)
      have h := elet_at ev56 h
      clear ev56
      obtain ⟨g57, h⟩ := oif_some h
      obtain ⟨g58, h⟩ := oif_some h
      refine c_iast E G n51 0 (k := l2.toNatClampNeg) (v := v56) (aA_k g57).1 (cc_a100 (aA_k g57).2.1) rfl (inb_k g58).1 (inb_k g58).2 (aA_k g57).2.2 dX8_copyFrom_129 (fun H locs G => ?_)
      have G := gC_up_i (f := upd (T49.2.2.1 n51) l2.toNatClampNeg v56) (ccv_100 (aA_k g57).2.1) G
      obtain ⟨T59, eT59, h⟩ := elet_some h
      have G : gC cI cJ cZ cMic cSrc cSt cAI cAJ D ad A s.heap H locs T59 := by rw [eT59]; exact G
      have cp5 := show CPR T T59 from by rw [eT59]; exact cpr_sp cp4 sp_uI
      clear eT59
      obtain ⟨v60, ev60, h⟩ := elet_some h
      refine lv_iinc (v := v60) (lv' := [(2, .int v60), (0, .ref (ad l0)), (1, .ref (ad l1))]) hx hb dX8_copyFrom_130 hl (k := 2) rfl ev60.symm (by decide) rfl (fun ls hl => ?_)
      refine lv_goto (tgt := 64) hx hb dX8_copyFrom_133 (by decide) ?_
      have hl := lv_sub hl [1, 2, 0] rfl
      refine w_cast (c2 := T59.1 - T0.1) (s2 := sg T59 - sg T0) (by rw [cp5.1] <;> rfl) (by rw [sg_cpr cp5] <;> rfl) ?_
      exact ih _ _ _ _ _ _ _ _ h (gl_cpr hgl cp5) cp5.2.2 had (by rw [cp5.1]; exact h_l0) (by rw [cp5.1]; exact h_l1) G hl
set_option maxHeartbeats 4000000 in
set_option maxRecDepth 100000 in
theorem a_X8_copyFrom_b26 {p : Program} {l : Launch} {e : Env} {s : State} {m : MethodId} {args : Array Value} {below : List Frame} {meth : Method} {c : Code} {Q : State → Prop} {D : va_G} {A : Nat → Prop} {cI cJ cZ cMic cSrc cSt cAI cAJ : ClassId} {ad0 : Nat → Nat} {T0 : AT} {T1 : AT} (E : cE p c cX8_copyFrom s m args (Cond.code yX8_copyFrom cX8_copyFrom 3 none :: wsA) D RX8 (CT cI cJ cZ cMic cSrc cSt cAI cAJ)) (hA : ∀ q : Nat, s.heap.size ≤ q → A q) (hX : xT A s) (hN : nX s) (hml : c.maxLocals = 3) (hst : l.stackTraces = false) (kr147 : ∀ (ad : Nat → Nat) (H : Heap) (locs : List Loc) (ls : Array Slot), (∀ n, n < T0.1 → ad n = ad0 n) → gC cI cJ cZ cMic cSrc cSt cAI cAJ D ad A s.heap H locs T1 → W p l e { frames := 3, cells := T1.1 - T0.1, slots := sg T1 - sg T0, locals := 62 } s m args below meth c H locs (T1.1 - T0.1) (sg T1 - sg T0) Q (F0 m 147 ls [])) : ∀ n : Nat, ∀ (T : AT) (ad : Nat → Nat) (H : Heap) (locs : List Loc) (ls : Array Slot) (l0 : Nat) (l1 : Nat) (l2 : Int32), g_X8_copyFrom_b26 n T l0 l1 l2 = some T1 → GL T0 T → RC T → (∀ n, n < T0.1 → ad n = ad0 n) → l0 < T.1 → l1 < T.1 → gC cI cJ cZ cMic cSrc cSt cAI cAJ D ad A s.heap H locs T → lv_has ls 3 [(0, .ref (ad l0)), (1, .ref (ad l1)), (2, .int l2)] → W p l e { frames := 3, cells := T1.1 - T0.1, slots := sg T1 - sg T0, locals := 62 } s m args below meth c H locs (T.1 - T0.1) (sg T - sg T0) Q (F0 m 26 ls []) := by
  have hx := E.1
  have hb := E.2.1
  have hts := E.2.2.1
  have hown := E.2.2.2.1
  have hK := E.2.2.2.2
  intro n
  induction n with
  | zero =>
    intro T ad H locs ls l0 l1 l2 h
    have h : (none : Option (AT)) = some T1 := h
    cases h
  | succ n ih =>
    intro T ad H locs ls l0 l1 l2 h hgl hrc had h_l0 h_l1 G hl
    have hT1 := s_X8_copyFrom_b26 _ _ _ _ _ h
    have hcs := cs_ok hgl hT1
    have cp0 := cpr0 hrc
    unfold g_X8_copyFrom_b26 at h
    refine lv_iload_n hx hb dX8_copyFrom_26 rfl (lv_at hl 2 rfl) ?_
    refine lv_bipush (v := 12) hx hb dX8_copyFrom_27 (by decide) ?_
    refine lv_icmp_ge (tgt := 62) hx hb dX8_copyFrom_29 (by decide) (fun c2 => ?_) (fun c2 => ?_)
    · have h := oif_pos c2 h
      refine lv_iconst (v := 0) hx hb dX8_copyFrom_62 (by decide) ?_
      refine lv_istore_n (lv' := [(2, .int 0), (0, .ref (ad l0)), (1, .ref (ad l1))]) hx hb dX8_copyFrom_63 rfl hl (by decide) rfl (fun ls hl => ?_)
      have hl := lv_sub hl [1, 2, 0] rfl
      refine w_cast (c2 := T.1 - T0.1) (s2 := sg T - sg T0) (by rw [cp0.1] <;> rfl) (by rw [sg_cpr cp0] <;> rfl) ?_
      exact a_X8_copyFrom_b64 E hA hX hN hml hst kr147 _ _ _ _ _ _ _ _ _ h (gl_cpr hgl cp0) cp0.2.2 had (by rw [cp0.1]; exact h_l0) (by rw [cp0.1]; exact h_l1) G hl
    · have h := oif_neg c2 h
      refine lv_aload_n hx hb dX8_copyFrom_32 rfl (lv_at hl 0 rfl) ?_
      obtain ⟨g3, h⟩ := oif_some h
      obtain ⟨n4, en4, h⟩ := obind_some h
      have h_n4 : n4 < T.1 := by rw [← cp0.1]; exact cp0.2.2 _ _ _ en4
      refine c_get E G l0 3 (v := .ref (ad n4)) (oO_k g3).1 (cc_o8 (oO_k g3).2) rfl (fun w h => .tail _ (iA_16 h)) (by decide) (.tail _ qA_64) rfl (by rw [en4]; rfl) dX8_copyFrom_33 ?_
      clear en4
      refine lv_iload_n hx hb dX8_copyFrom_36 rfl (lv_at hl 2 rfl) ?_
      refine lv_aload_n hx hb dX8_copyFrom_37 rfl (lv_at hl 1 rfl) ?_
      obtain ⟨g5, h⟩ := oif_some h
      obtain ⟨n6, en6, h⟩ := obind_some h
      have h_n6 : n6 < T.1 := by rw [← cp0.1]; exact cp0.2.2 _ _ _ en6
      refine c_get E G l1 3 (v := .ref (ad n6)) (oO_k g5).1 (cc_o8 (oO_k g5).2) rfl (fun w h => .tail _ (iA_16 h)) (by decide) (.tail _ qA_64) rfl (by rw [en6]; rfl) dX8_copyFrom_38 ?_
      clear en6
      refine lv_iload_n hx hb dX8_copyFrom_41 rfl (lv_at hl 2 rfl) ?_
      obtain ⟨g7, h⟩ := oif_some h
      obtain ⟨g8, h⟩ := oif_some h
      refine c_zald E G n6 2 (k := l2.toNatClampNeg) (aA_k g7).1 (cc_a102 (aA_k g7).2.1) rfl (inb_k g8).1 (inb_k g8).2 (aA_k g7).2.2 dX8_copyFrom_42 ?_
      refine lv_topi (fun v9 ev9 => ?_)
      have h := elet_at ev9 h
      clear ev9
      obtain ⟨g10, h⟩ := oif_some h
      obtain ⟨g11, h⟩ := oif_some h
      obtain ⟨gz, h⟩ := oif_some h
      refine c_zast E G n4 2 (k := l2.toNatClampNeg) (v := v9) (aA_k g10).1 (cc_a102 (aA_k g10).2.1) rfl (inb_k g11).1 (inb_k g11).2 (aA_k g10).2.2 (by rcases gz with rfl | rfl <;> rfl) dX8_copyFrom_43 (fun H locs G => ?_)
      have G := gC_up_i (f := upd (T.2.2.1 n4) l2.toNatClampNeg v9) (ccv_102 (aA_k g10).2.1) G
      obtain ⟨T12, eT12, h⟩ := elet_some h
      have G : gC cI cJ cZ cMic cSrc cSt cAI cAJ D ad A s.heap H locs T12 := by rw [eT12]; exact G
      have cp1 := show CPR T T12 from by rw [eT12]; exact cpr_sp cp0 sp_uI
      clear eT12
      refine lv_aload_n hx hb dX8_copyFrom_44 rfl (lv_at hl 0 rfl) ?_
      obtain ⟨g13, h⟩ := oif_some h
      obtain ⟨n14, en14, h⟩ := obind_some h
      have h_n14 : n14 < T.1 := by rw [← cp1.1]; exact cp1.2.2 _ _ _ en14
      refine c_get E G l0 4 (v := .ref (ad n14)) (oO_k g13).1 (cc_o8 (oO_k g13).2) rfl (fun w h => .tail _ (iA_16 h)) (by decide) (.tail _ qA_86) rfl (by rw [en14]; rfl) dX8_copyFrom_45 ?_
      clear en14
      refine lv_iload_n hx hb dX8_copyFrom_48 rfl (lv_at hl 2 rfl) ?_
      refine lv_aload_n hx hb dX8_copyFrom_49 rfl (lv_at hl 1 rfl) ?_
      obtain ⟨g15, h⟩ := oif_some h
      obtain ⟨n16, en16, h⟩ := obind_some h
      have h_n16 : n16 < T.1 := by rw [← cp1.1]; exact cp1.2.2 _ _ _ en16
      refine c_get E G l1 4 (v := .ref (ad n16)) (oO_k g15).1 (cc_o8 (oO_k g15).2) rfl (fun w h => .tail _ (iA_16 h)) (by decide) (.tail _ qA_86) rfl (by rw [en16]; rfl) dX8_copyFrom_50 ?_
      clear en16
      refine lv_iload_n hx hb dX8_copyFrom_53 rfl (lv_at hl 2 rfl) ?_
      obtain ⟨g17, h⟩ := oif_some h
      obtain ⟨g18, h⟩ := oif_some h
      refine c_iald E G n16 0 (k := l2.toNatClampNeg) (aA_k g17).1 (cc_a100 (aA_k g17).2.1) rfl (inb_k g18).1 (inb_k g18).2 (aA_k g17).2.2 dX8_copyFrom_54 ?_
      refine lv_topi (fun v19 ev19 => ?_)
      have h := elet_at ev19 h
      clear ev19
      obtain ⟨g20, h⟩ := oif_some h
      obtain ⟨g21, h⟩ := oif_some h
      refine c_iast E G n14 0 (k := l2.toNatClampNeg) (v := v19) (aA_k g20).1 (cc_a100 (aA_k g20).2.1) rfl (inb_k g21).1 (inb_k g21).2 (aA_k g20).2.2 dX8_copyFrom_55 (fun H locs G => ?_)
      have G := gC_up_i (f := upd (T12.2.2.1 n14) l2.toNatClampNeg v19) (ccv_100 (aA_k g20).2.1) G
      obtain ⟨T22, eT22, h⟩ := elet_some h
      have G : gC cI cJ cZ cMic cSrc cSt cAI cAJ D ad A s.heap H locs T22 := by rw [eT22]; exact G
      have cp2 := show CPR T T22 from by rw [eT22]; exact cpr_sp cp1 sp_uI
      clear eT22
      obtain ⟨v23, ev23, h⟩ := elet_some h
      refine lv_iinc (v := v23) (lv' := [(2, .int v23), (0, .ref (ad l0)), (1, .ref (ad l1))]) hx hb dX8_copyFrom_56 hl (k := 2) rfl ev23.symm (by decide) rfl (fun ls hl => ?_)
      refine lv_goto (tgt := 26) hx hb dX8_copyFrom_59 (by decide) ?_
      have hl := lv_sub hl [1, 2, 0] rfl
      refine w_cast (c2 := T22.1 - T0.1) (s2 := sg T22 - sg T0) (by rw [cp2.1] <;> rfl) (by rw [sg_cpr cp2] <;> rfl) ?_
      exact ih _ _ _ _ _ _ _ _ h (gl_cpr hgl cp2) cp2.2.2 had (by rw [cp2.1]; exact h_l0) (by rw [cp2.1]; exact h_l1) G hl
set_option maxHeartbeats 4000000 in
set_option maxRecDepth 100000 in
theorem a_X8_copyFrom (l : Launch) (hst : l.stackTraces = false) (D : va_G) (cI cJ cZ cMic cSrc cSt cAI cAJ : ClassId) (ad : Nat → Nat) (T : AT) (o : Nat) (a0 : Nat) {T1 : AT} (h : g_X8_copyFrom T o a0 = some T1) (hrc : RC T) (h_o : o < T.1) (h_a0 : a0 < T.1) : kAv l yX8_copyFrom (Cond.code yX8_copyFrom cX8_copyFrom 3 none :: wsA) 3 62 cI cJ cZ cMic cSrc cSt cAI cAJ D ad T [.ref (ad o), .ref (ad a0)] T1 := by
  intro sz
  refine Met.ofW (cc := cX8_copyFrom) (maxL := 3) (ret := none) (by decide) rfl ?_
  intro p e s m args below meth c s₁ B hml hv
  obtain ⟨rfl, hsz, hP, hK, hD0, hX, hN⟩ := hv
  have hx := B.exec
  have hb := B.bytes
  have hr := B.returns
  have hts := atoms_spec (ws := (Cond.code yX8_copyFrom cX8_copyFrom 3 none :: wsA)) B.pre
  have hown : s.vm.findClass RX8 = some m.cls := findClass_of_methodNamed B.named
  have hlocks := B.notSynchronized
  subst hsz
  have hD := hD0.self (sz := s.heap.size)
  generalize hAe : va_A (cW ad T.1 (cc cI cJ cZ cMic cSrc cSt cAI cAJ ad T)) s.heap.size = A at hD hX ⊢
  have hA : ∀ q : Nat, s.heap.size ≤ q → A q := fun q h => by rw [← hAe]; exact Or.inr h
  have G : gC cI cJ cZ cMic cSrc cSt cAI cAJ D ad A s.heap s.heap [] T := ⟨hP, hD, va_S.rf⟩
  have E : cE p c cX8_copyFrom s m ([.ref (ad o), .ref (ad a0)] : List Value).toArray (Cond.code yX8_copyFrom cX8_copyFrom 3 none :: wsA) D RX8 (CT cI cJ cZ cMic cSrc cSt cAI cAJ) := ⟨hx, hb, hts, hown, hK⟩
  have hl := lv_entry ([.ref (ad o), .ref (ad a0)]) (n := 3) (Nat.le_of_ble_eq_true rfl)
  rw [lg_entry_eq]
  generalize (lg_sl ([.ref (ad o), .ref (ad a0)]) ++ List.replicate (3 - (lg_sl ([.ref (ad o), .ref (ad a0)])).length) Slot.unset).toArray = ls at hl ⊢
  have hl : lv_has ls 3 [(0, .ref (ad o)), (1, .ref (ad a0))] := hl
  have hgl := GL.rf T
  have had : ∀ n, n < T.1 → ad n = ad n := fun _ _ => rfl
  have hT1 := s_X8_copyFrom h
  have hcs := cs_ok hgl hT1
  refine w_cast (Nat.sub_self T.1).symm (Nat.sub_self (sg T)).symm ?_
  have cp0 := cpr0 hrc
  unfold g_X8_copyFrom at h
  refine lv_aload_n hx hb dX8_copyFrom_0 rfl (lv_at hl 0 rfl) ?_
  refine lv_aload_n hx hb dX8_copyFrom_1 rfl (lv_at hl 1 rfl) ?_
  obtain ⟨g2, h⟩ := oif_some h
  refine c_get E G a0 0 (oO_k g2).1 (cc_o8 (oO_k g2).2) rfl (fun w h => .tail _ (iA_16 h)) (by decide) (.tail _ qA_63) rfl rfl dX8_copyFrom_2 ?_
  refine lv_topi (fun v3 ev3 => ?_)
  have h := elet_at ev3 h
  clear ev3
  obtain ⟨g4, h⟩ := oif_some h
  refine c_put E G o 0 (v := .int v3) (oO_k g4).1 (cc_o8 (oO_k g4).2) rfl (fun w h => .tail _ (iA_16 h)) tyX8 tyX8_ok nmX8 (by decide) (.tail _ qA_63) ⟨rfl, rfl, rfl⟩ rfl rfl (Nat.le_of_ble_eq_true rfl) dX8_copyFrom_5 (fun H locs G => ?_)
  have G := gC_up_i (f := upd (T.2.2.1 o) 0 v3) (by rw [(oO_k g4).2]; rfl) G
  obtain ⟨T5, eT5, h⟩ := elet_some h
  have G : gC cI cJ cZ cMic cSrc cSt cAI cAJ D ad A s.heap H locs T5 := by rw [eT5]; exact G
  have cp1 := show CPR T T5 from by rw [eT5]; exact cpr_sp cp0 sp_uI
  clear eT5
  refine lv_aload_n hx hb dX8_copyFrom_8 rfl (lv_at hl 0 rfl) ?_
  refine lv_aload_n hx hb dX8_copyFrom_9 rfl (lv_at hl 1 rfl) ?_
  obtain ⟨g6, h⟩ := oif_some h
  refine c_get E G a0 1 (oO_k g6).1 (cc_o8 (oO_k g6).2) rfl (fun w h => .tail _ (iA_16 h)) (by decide) (.tail _ qA_57) rfl rfl dX8_copyFrom_10 ?_
  refine lv_topi (fun v7 ev7 => ?_)
  have h := elet_at ev7 h
  clear ev7
  obtain ⟨g8, h⟩ := oif_some h
  refine c_put E G o 1 (v := .int v7) (oO_k g8).1 (cc_o8 (oO_k g8).2) rfl (fun w h => .tail _ (iA_16 h)) tyX8 tyX8_ok nmX8 (by decide) (.tail _ qA_57) ⟨rfl, rfl, rfl⟩ rfl rfl (Nat.le_of_ble_eq_true rfl) dX8_copyFrom_13 (fun H locs G => ?_)
  have G := gC_up_i (f := upd (T5.2.2.1 o) 1 v7) (by rw [(oO_k g8).2]; rfl) G
  obtain ⟨T9, eT9, h⟩ := elet_some h
  have G : gC cI cJ cZ cMic cSrc cSt cAI cAJ D ad A s.heap H locs T9 := by rw [eT9]; exact G
  have cp2 := show CPR T T9 from by rw [eT9]; exact cpr_sp cp1 sp_uI
  clear eT9
  refine lv_aload_n hx hb dX8_copyFrom_16 rfl (lv_at hl 0 rfl) ?_
  refine lv_aload_n hx hb dX8_copyFrom_17 rfl (lv_at hl 1 rfl) ?_
  obtain ⟨g10, h⟩ := oif_some h
  refine c_get E G a0 2 (oO_k g10).1 (cc_o8 (oO_k g10).2) rfl (fun w h => .tail _ (iA_16 h)) (by decide) (.tail _ qA_604) rfl rfl dX8_copyFrom_18 ?_
  refine lv_topi (fun v11 ev11 => ?_)
  have h := elet_at ev11 h
  clear ev11
  obtain ⟨g12, h⟩ := oif_some h
  refine c_put E G o 2 (v := .int v11) (oO_k g12).1 (cc_o8 (oO_k g12).2) rfl (fun w h => .tail _ (iA_16 h)) tyX8 tyX8_ok nmX8 (by decide) (.tail _ qA_604) ⟨rfl, rfl, rfl⟩ rfl rfl (Nat.le_of_ble_eq_true rfl) dX8_copyFrom_21 (fun H locs G => ?_)
  have G := gC_up_i (f := upd (T9.2.2.1 o) 2 v11) (by rw [(oO_k g12).2]; rfl) G
  obtain ⟨T13, eT13, h⟩ := elet_some h
  have G : gC cI cJ cZ cMic cSrc cSt cAI cAJ D ad A s.heap H locs T13 := by rw [eT13]; exact G
  have cp3 := show CPR T T13 from by rw [eT13]; exact cpr_sp cp2 sp_uI
  clear eT13
  refine lv_iconst (v := 0) hx hb dX8_copyFrom_24 (by decide) ?_
  refine lv_istore_n (lv' := [(2, .int 0), (0, .ref (ad o)), (1, .ref (ad a0))]) hx hb dX8_copyFrom_25 rfl hl (by decide) rfl (fun ls hl => ?_)
  have hl := lv_sub hl [1, 2, 0] rfl
  refine w_cast (c2 := T13.1 - T.1) (s2 := sg T13 - sg T) (by rw [cp3.1] <;> rfl) (by rw [sg_cpr cp3] <;> rfl) ?_
  exact a_X8_copyFrom_b26 E hA hX hN hml hst (fun ad H locs ls had G => W.vret hx hb hr (fun t ht hW => ⟨⟨(T1, ad), rfl, ⟨rfl, had⟩, ⟨by rw [ht]; exact G.1, va_K.moved hW.alike hK, G.2.1⟩⟩, G.2.2.F ht⟩) G.2.2.2.2 dX8_copyFrom_147) _ _ _ _ _ _ _ _ _ h (gl_cpr hgl cp3) cp3.2.2 had (by rw [cp3.1]; exact h_o) (by rw [cp3.1]; exact h_a0) G hl
def g_X8_activeMics_b27 (k4 : AT → Nat → Int32 → Int32 → Option (Int32 × AT)) (T : AT) (s0 : Int32) (s1 : Int32) (l0 : Nat) (l2 : Int32) : Option (Int32 × AT) := elet (s1 + s0) fun v2 => elet (l2 + Int32.ofInt (1)) fun v3 => k4 T l0 v2 v3
set_option maxHeartbeats 4000000 in
set_option maxRecDepth 100000 in
theorem u_X8_activeMics_b27 {p : Program} {l : Launch} {e : Env} {s : State} {m : MethodId} {args : Array Value} {below : List Frame} {meth : Method} {c : Code} {Q : State → Prop} {D : va_G} {A : Nat → Prop} {cI cJ cZ cMic cSrc cSt cAI cAJ : ClassId} {ad : Nat → Nat} {r1 : Int32} {T1 : AT} (E : cE p c cX8_activeMics s m args (Cond.code yX8_activeMics cX8_activeMics 3 (some .int) :: wsA) D RX8 (CT cI cJ cZ cMic cSrc cSt cAI cAJ)) (hA : ∀ q : Nat, s.heap.size ≤ q → A q) (hX : xT A s) (hN : nX s) (hml : c.maxLocals = 3) (hst : l.stackTraces = false) (kr36 : ∀ (H : Heap) (locs : List Loc) (ls : Array Slot), gC cI cJ cZ cMic cSrc cSt cAI cAJ D ad A s.heap H locs T1 → W p l e { frames := 1, cells := 0, slots := 0, locals := 0 } s m args below meth c H locs 0 0 Q (F0 m 36 ls [.int r1])) {k4 : AT → Nat → Int32 → Int32 → Option (Int32 × AT)} (hk4 : ∀ (T : AT) (H : Heap) (locs : List Loc) (ls : Array Slot) (l0 : Nat) (l1 : Int32) (l2 : Int32), k4 T l0 l1 l2 = some (r1, T1) → gC cI cJ cZ cMic cSrc cSt cAI cAJ D ad A s.heap H locs T → lv_has ls 3 [(0, .ref (ad l0)), (1, .int l1), (2, .int l2)] → W p l e { frames := 1, cells := 0, slots := 0, locals := 0 } s m args below meth c H locs 0 0 Q (F0 m 4 ls [])) : ∀ (T : AT) (H : Heap) (locs : List Loc) (ls : Array Slot) (s0 : Int32) (s1 : Int32) (l0 : Nat) (l2 : Int32), g_X8_activeMics_b27 k4 T s0 s1 l0 l2 = some (r1, T1) → gC cI cJ cZ cMic cSrc cSt cAI cAJ D ad A s.heap H locs T → lv_has ls 3 [(0, .ref (ad l0)), (2, .int l2)] → W p l e { frames := 1, cells := 0, slots := 0, locals := 0 } s m args below meth c H locs 0 0 Q (F0 m 27 ls [.int s0, .int s1]) := by
  have hx := E.1
  have hb := E.2.1
  have hts := E.2.2.1
  have hown := E.2.2.2.1
  have hK := E.2.2.2.2
  intro T H locs ls s0 s1 l0 l2 h G hl
  unfold g_X8_activeMics_b27 at h
  refine lv_iadd hx hb dX8_activeMics_27 ?_
  refine lv_topi (fun v2 ev2 => ?_)
  have h := elet_at ev2 h
  clear ev2
  refine lv_istore_n (lv' := [(1, .int v2), (0, .ref (ad l0)), (2, .int l2)]) hx hb dX8_activeMics_28 rfl hl (by decide) rfl (fun ls hl => ?_)
  obtain ⟨v3, ev3, h⟩ := elet_some h
  refine lv_iinc (v := v3) (lv' := [(2, .int v3), (1, .int v2), (0, .ref (ad l0))]) hx hb dX8_activeMics_29 hl (k := 2) rfl ev3.symm (by decide) rfl (fun ls hl => ?_)
  refine lv_goto (tgt := 4) hx hb dX8_activeMics_32 (by decide) ?_
  have hl := lv_sub hl [2, 1, 0] rfl
  exact hk4 _ _ _ _ _ _ _ h G hl
def g_X8_activeMics_b4  : Nat → AT → Nat → Int32 → Int32 → Option (Int32 × AT)
  | 0, _, _, _, _ => none
  | n + 1, T, l0, l1, l2 => oif (oO T l0 8 = true) <| elet (T.2.2.1 l0 0) fun v3 => if v3 ≤ l2 then (some (l1, T)) else (oif (oO T l0 8 = true) <| obind (T.2.2.2.2 l0 3) fun n6 => oif (aA T n6 102 = true) <| oif (inb l2 (T.2.1 n6).2 = true) <| elet (T.2.2.1 n6 l2.toNatClampNeg) fun v9 => if v9 = 0 then (g_X8_activeMics_b27 (g_X8_activeMics_b4 n) T 1 l1 l0 l2) else (g_X8_activeMics_b27 (g_X8_activeMics_b4 n) T 0 l1 l0 l2))
set_option maxHeartbeats 4000000 in
set_option maxRecDepth 100000 in
theorem u_X8_activeMics_b4 {p : Program} {l : Launch} {e : Env} {s : State} {m : MethodId} {args : Array Value} {below : List Frame} {meth : Method} {c : Code} {Q : State → Prop} {D : va_G} {A : Nat → Prop} {cI cJ cZ cMic cSrc cSt cAI cAJ : ClassId} {ad : Nat → Nat} {r1 : Int32} {T1 : AT} (E : cE p c cX8_activeMics s m args (Cond.code yX8_activeMics cX8_activeMics 3 (some .int) :: wsA) D RX8 (CT cI cJ cZ cMic cSrc cSt cAI cAJ)) (hA : ∀ q : Nat, s.heap.size ≤ q → A q) (hX : xT A s) (hN : nX s) (hml : c.maxLocals = 3) (hst : l.stackTraces = false) (kr36 : ∀ (H : Heap) (locs : List Loc) (ls : Array Slot), gC cI cJ cZ cMic cSrc cSt cAI cAJ D ad A s.heap H locs T1 → W p l e { frames := 1, cells := 0, slots := 0, locals := 0 } s m args below meth c H locs 0 0 Q (F0 m 36 ls [.int r1])) : ∀ n : Nat, ∀ (T : AT) (H : Heap) (locs : List Loc) (ls : Array Slot) (l0 : Nat) (l1 : Int32) (l2 : Int32), g_X8_activeMics_b4 n T l0 l1 l2 = some (r1, T1) → gC cI cJ cZ cMic cSrc cSt cAI cAJ D ad A s.heap H locs T → lv_has ls 3 [(0, .ref (ad l0)), (1, .int l1), (2, .int l2)] → W p l e { frames := 1, cells := 0, slots := 0, locals := 0 } s m args below meth c H locs 0 0 Q (F0 m 4 ls []) := by
  have hx := E.1
  have hb := E.2.1
  have hts := E.2.2.1
  have hown := E.2.2.2.1
  have hK := E.2.2.2.2
  intro n
  induction n with
  | zero =>
    intro T H locs ls l0 l1 l2 h
    have h : (none : Option (Int32 × AT)) = some (r1, T1) := h
    cases h
  | succ n ih =>
    intro T H locs ls l0 l1 l2 h G hl
    unfold g_X8_activeMics_b4 at h
    refine lv_iload_n hx hb dX8_activeMics_4 rfl (lv_at hl 2 rfl) ?_
    refine lv_aload_n hx hb dX8_activeMics_5 rfl (lv_at hl 0 rfl) ?_
    obtain ⟨g2, h⟩ := oif_some h
    refine c_get E G l0 0 (oO_k g2).1 (cc_o8 (oO_k g2).2) rfl (fun w h => .tail _ (iA_16 h)) (by decide) (.tail _ qA_63) rfl rfl dX8_activeMics_6 ?_
    refine lv_topi (fun v3 ev3 => ?_)
    have h := elet_at ev3 h
    clear ev3
    refine lv_icmp_ge (tgt := 35) hx hb dX8_activeMics_9 (by decide) (fun c4 => ?_) (fun c4 => ?_)
    · have h := oif_pos c4 h
      refine lv_iload_n hx hb dX8_activeMics_35 rfl (lv_at hl 1 rfl) ?_
      rw [(osome2 h).2] at G
      refine lv_to (osome2 h).1 ?_
      exact kr36 _ _ _ G
    · have h := oif_neg c4 h
      refine lv_iload_n hx hb dX8_activeMics_12 rfl (lv_at hl 1 rfl) ?_
      refine lv_aload_n hx hb dX8_activeMics_13 rfl (lv_at hl 0 rfl) ?_
      obtain ⟨g5, h⟩ := oif_some h
      obtain ⟨n6, en6, h⟩ := obind_some h
      refine c_get E G l0 3 (v := .ref (ad n6)) (oO_k g5).1 (cc_o8 (oO_k g5).2) rfl (fun w h => .tail _ (iA_16 h)) (by decide) (.tail _ qA_64) rfl (by rw [en6]; rfl) dX8_activeMics_14 ?_
      clear en6
      refine lv_iload_n hx hb dX8_activeMics_17 rfl (lv_at hl 2 rfl) ?_
      obtain ⟨g7, h⟩ := oif_some h
      obtain ⟨g8, h⟩ := oif_some h
      refine c_zald E G n6 2 (k := l2.toNatClampNeg) (aA_k g7).1 (cc_a102 (aA_k g7).2.1) rfl (inb_k g8).1 (inb_k g8).2 (aA_k g7).2.2 dX8_activeMics_18 ?_
      refine lv_topi (fun v9 ev9 => ?_)
      have h := elet_at ev9 h
      clear ev9
      refine lv_if_eq (tgt := 26) hx hb dX8_activeMics_19 (by decide) (fun c10 => ?_) (fun c10 => ?_)
      · have h := oif_pos c10 h
        refine lv_iconst (v := 1) hx hb dX8_activeMics_26 (by decide) ?_
        have hl := lv_sub hl [0, 2] rfl
        exact u_X8_activeMics_b27 E hA hX hN hml hst kr36 ih _ _ _ _ _ _ _ _ h G hl
      · have h := oif_neg c10 h
        refine lv_iconst (v := 0) hx hb dX8_activeMics_22 (by decide) ?_
        refine lv_goto (tgt := 27) hx hb dX8_activeMics_23 (by decide) ?_
        have hl := lv_sub hl [0, 2] rfl
        exact u_X8_activeMics_b27 E hA hX hN hml hst kr36 ih _ _ _ _ _ _ _ _ h G hl
def g_X8_activeMics (T : AT) (o : Nat) : Option (Int32 × AT) := g_X8_activeMics_b4 16384 T o 0 0
set_option maxHeartbeats 4000000 in
set_option maxRecDepth 100000 in
theorem u_X8_activeMics (l : Launch) (hst : l.stackTraces = false) (D : va_G) (cI cJ cZ cMic cSrc cSt cAI cAJ : ClassId) (ad : Nat → Nat) (T : AT) (o : Nat) {r1 : Int32} {T1 : AT} (h : g_X8_activeMics T o = some (r1, T1)) : kCi l yX8_activeMics (Cond.code yX8_activeMics cX8_activeMics 3 (some .int) :: wsA) 1 0 cI cJ cZ cMic cSrc cSt cAI cAJ D ad T [.ref (ad o)] (fun r T9 => r = r1 ∧ T9 = T1) := by
  intro sz
  refine Met.ofW (cc := cX8_activeMics) (maxL := 3) (ret := (some .int)) (by decide) rfl ?_
  intro p e s m args below meth c s₁ B hml hv
  obtain ⟨rfl, hsz, hP, hK, hD0, hX, hN⟩ := hv
  have hx := B.exec
  have hb := B.bytes
  have hr := B.returns
  have hts := atoms_spec (ws := (Cond.code yX8_activeMics cX8_activeMics 3 (some .int) :: wsA)) B.pre
  have hown : s.vm.findClass RX8 = some m.cls := findClass_of_methodNamed B.named
  have hlocks := B.notSynchronized
  subst hsz
  have hD := hD0.self (sz := s.heap.size)
  generalize hAe : va_A (cW ad T.1 (cc cI cJ cZ cMic cSrc cSt cAI cAJ ad T)) s.heap.size = A at hD hX ⊢
  have hA : ∀ q : Nat, s.heap.size ≤ q → A q := fun q h => by rw [← hAe]; exact Or.inr h
  have G : gC cI cJ cZ cMic cSrc cSt cAI cAJ D ad A s.heap s.heap [] T := ⟨hP, hD, va_S.rf⟩
  have E : cE p c cX8_activeMics s m ([.ref (ad o)] : List Value).toArray (Cond.code yX8_activeMics cX8_activeMics 3 (some .int) :: wsA) D RX8 (CT cI cJ cZ cMic cSrc cSt cAI cAJ) := ⟨hx, hb, hts, hown, hK⟩
  have hl := lv_entry ([.ref (ad o)]) (n := 3) (Nat.le_of_ble_eq_true rfl)
  rw [lg_entry_eq]
  generalize (lg_sl ([.ref (ad o)]) ++ List.replicate (3 - (lg_sl ([.ref (ad o)])).length) Slot.unset).toArray = ls at hl ⊢
  have hl : lv_has ls 3 [(0, .ref (ad o))] := hl
  unfold g_X8_activeMics at h
  refine lv_iconst (v := 0) hx hb dX8_activeMics_0 (by decide) ?_
  refine lv_istore_n (lv' := [(1, .int 0), (0, .ref (ad o))]) hx hb dX8_activeMics_1 rfl hl (by decide) rfl (fun ls hl => ?_)
  refine lv_iconst (v := 0) hx hb dX8_activeMics_2 (by decide) ?_
  refine lv_istore_n (lv' := [(2, .int 0), (1, .int 0), (0, .ref (ad o))]) hx hb dX8_activeMics_3 rfl hl (by decide) rfl (fun ls hl => ?_)
  have hl := lv_sub hl [2, 1, 0] rfl
  exact u_X8_activeMics_b4 E hA hX hN hml hst (fun H locs ls G => W.iret (v := r1) hx hb hr (fun t ht hW => ⟨⟨r1, T1, rfl, ⟨rfl, rfl⟩, ⟨by rw [ht]; exact G.1, va_K.moved hW.alike hK, G.2.1⟩⟩, G.2.2.F ht⟩) G.2.2.2.2 dX8_activeMics_36) _ _ _ _ _ _ _ _ h G hl
set_option maxHeartbeats 4000000 in
set_option maxRecDepth 100000 in
theorem s_X8_activeMics_b27 {r1 : Int32} {T1 : AT} {k4 : AT → Nat → Int32 → Int32 → Option (Int32 × AT)} (hk4 : ∀ (T : AT) (l0 : Nat) (l1 : Int32) (l2 : Int32), k4 T l0 l1 l2 = some (r1, T1) → SP T T1) : ∀ (T : AT) (s0 : Int32) (s1 : Int32) (l0 : Nat) (l2 : Int32), g_X8_activeMics_b27 k4 T s0 s1 l0 l2 = some (r1, T1) → SP T T1 := by
  intro T s0 s1 l0 l2 h
  have p0 := SP.rf T
  unfold g_X8_activeMics_b27 at h
  obtain ⟨v2, -, h⟩ := elet_some h
  obtain ⟨v3, ev3, h⟩ := elet_some h
  exact SP.tr p0 (hk4 _ _ _ _ h)
set_option maxHeartbeats 4000000 in
set_option maxRecDepth 100000 in
theorem s_X8_activeMics_b4 {r1 : Int32} {T1 : AT} : ∀ n : Nat, ∀ (T : AT) (l0 : Nat) (l1 : Int32) (l2 : Int32), g_X8_activeMics_b4 n T l0 l1 l2 = some (r1, T1) → SP T T1 := by
  intro n
  induction n with
  | zero =>
    intro T l0 l1 l2 h
    have h : (none : Option (Int32 × AT)) = some (r1, T1) := h
    cases h
  | succ n ih =>
    intro T l0 l1 l2 h
    have p0 := SP.rf T
    unfold g_X8_activeMics_b4 at h
    obtain ⟨g2, h⟩ := oif_some h
    obtain ⟨v3, -, h⟩ := elet_some h
    rcases oif_or h with ⟨c4, h⟩ | ⟨c4, h⟩
    · have h := h
      rw [← (osome2 h).2]
      exact p0
    · have h := h
      obtain ⟨g5, h⟩ := oif_some h
      obtain ⟨n6, en6, h⟩ := obind_some h
      obtain ⟨g7, h⟩ := oif_some h
      obtain ⟨g8, h⟩ := oif_some h
      obtain ⟨v9, -, h⟩ := elet_some h
      rcases oif_or h with ⟨c10, h⟩ | ⟨c10, h⟩
      · have h := h
        exact SP.tr p0 (s_X8_activeMics_b27 ih _ _ _ _ _ h)
      · have h := h
        exact SP.tr p0 (s_X8_activeMics_b27 ih _ _ _ _ _ h)
set_option maxHeartbeats 4000000 in
set_option maxRecDepth 100000 in
theorem s_X8_activeMics {T : AT} {o : Nat} {r1 : Int32} {T1 : AT} (h : g_X8_activeMics T o = some (r1, T1)) : SP T T1 := by
  have p0 := SP.rf T
  unfold g_X8_activeMics at h
  exact SP.tr p0 (s_X8_activeMics_b4 _ _ _ _ _ h)
def g_X8_activeWeight_b32 (k4 : AT → Nat → Int32 → Int32 → Option (Int32 × AT)) (T : AT) (s0 : Int32) (s1 : Int32) (l0 : Nat) (l2 : Int32) : Option (Int32 × AT) := elet (s1 + s0) fun v2 => elet (l2 + Int32.ofInt (1)) fun v3 => k4 T l0 v2 v3
set_option maxHeartbeats 4000000 in
set_option maxRecDepth 100000 in
theorem u_X8_activeWeight_b32 {p : Program} {l : Launch} {e : Env} {s : State} {m : MethodId} {args : Array Value} {below : List Frame} {meth : Method} {c : Code} {Q : State → Prop} {D : va_G} {A : Nat → Prop} {cI cJ cZ cMic cSrc cSt cAI cAJ : ClassId} {ad : Nat → Nat} {r1 : Int32} {T1 : AT} (E : cE p c cX8_activeWeight s m args (Cond.code yX8_activeWeight cX8_activeWeight 3 (some .int) :: wsA) D RX8 (CT cI cJ cZ cMic cSrc cSt cAI cAJ)) (hA : ∀ q : Nat, s.heap.size ≤ q → A q) (hX : xT A s) (hN : nX s) (hml : c.maxLocals = 3) (hst : l.stackTraces = false) (kr41 : ∀ (H : Heap) (locs : List Loc) (ls : Array Slot), gC cI cJ cZ cMic cSrc cSt cAI cAJ D ad A s.heap H locs T1 → W p l e { frames := 1, cells := 0, slots := 0, locals := 0 } s m args below meth c H locs 0 0 Q (F0 m 41 ls [.int r1])) {k4 : AT → Nat → Int32 → Int32 → Option (Int32 × AT)} (hk4 : ∀ (T : AT) (H : Heap) (locs : List Loc) (ls : Array Slot) (l0 : Nat) (l1 : Int32) (l2 : Int32), k4 T l0 l1 l2 = some (r1, T1) → gC cI cJ cZ cMic cSrc cSt cAI cAJ D ad A s.heap H locs T → lv_has ls 3 [(0, .ref (ad l0)), (1, .int l1), (2, .int l2)] → W p l e { frames := 1, cells := 0, slots := 0, locals := 0 } s m args below meth c H locs 0 0 Q (F0 m 4 ls [])) : ∀ (T : AT) (H : Heap) (locs : List Loc) (ls : Array Slot) (s0 : Int32) (s1 : Int32) (l0 : Nat) (l2 : Int32), g_X8_activeWeight_b32 k4 T s0 s1 l0 l2 = some (r1, T1) → gC cI cJ cZ cMic cSrc cSt cAI cAJ D ad A s.heap H locs T → lv_has ls 3 [(0, .ref (ad l0)), (2, .int l2)] → W p l e { frames := 1, cells := 0, slots := 0, locals := 0 } s m args below meth c H locs 0 0 Q (F0 m 32 ls [.int s0, .int s1]) := by
  have hx := E.1
  have hb := E.2.1
  have hts := E.2.2.1
  have hown := E.2.2.2.1
  have hK := E.2.2.2.2
  intro T H locs ls s0 s1 l0 l2 h G hl
  unfold g_X8_activeWeight_b32 at h
  refine lv_iadd hx hb dX8_activeWeight_32 ?_
  refine lv_topi (fun v2 ev2 => ?_)
  have h := elet_at ev2 h
  clear ev2
  refine lv_istore_n (lv' := [(1, .int v2), (0, .ref (ad l0)), (2, .int l2)]) hx hb dX8_activeWeight_33 rfl hl (by decide) rfl (fun ls hl => ?_)
  obtain ⟨v3, ev3, h⟩ := elet_some h
  refine lv_iinc (v := v3) (lv' := [(2, .int v3), (1, .int v2), (0, .ref (ad l0))]) hx hb dX8_activeWeight_34 hl (k := 2) rfl ev3.symm (by decide) rfl (fun ls hl => ?_)
  refine lv_goto (tgt := 4) hx hb dX8_activeWeight_37 (by decide) ?_
  have hl := lv_sub hl [2, 1, 0] rfl
  exact hk4 _ _ _ _ _ _ _ h G hl
def g_X8_activeWeight_b4  : Nat → AT → Nat → Int32 → Int32 → Option (Int32 × AT)
  | 0, _, _, _, _ => none
  | n + 1, T, l0, l1, l2 => oif (oO T l0 8 = true) <| elet (T.2.2.1 l0 0) fun v3 => if v3 ≤ l2 then (some (l1, T)) else (oif (oO T l0 8 = true) <| obind (T.2.2.2.2 l0 3) fun n6 => oif (aA T n6 102 = true) <| oif (inb l2 (T.2.1 n6).2 = true) <| elet (T.2.2.1 n6 l2.toNatClampNeg) fun v9 => if v9 = 0 then (oif (oO T l0 8 = true) <| obind (T.2.2.2.2 l0 4) fun n12 => oif (aA T n12 100 = true) <| oif (inb l2 (T.2.1 n12).2 = true) <| elet (T.2.2.1 n12 l2.toNatClampNeg) fun v15 => g_X8_activeWeight_b32 (g_X8_activeWeight_b4 n) T v15 l1 l0 l2) else (g_X8_activeWeight_b32 (g_X8_activeWeight_b4 n) T 0 l1 l0 l2))
set_option maxHeartbeats 4000000 in
set_option maxRecDepth 100000 in
theorem u_X8_activeWeight_b4 {p : Program} {l : Launch} {e : Env} {s : State} {m : MethodId} {args : Array Value} {below : List Frame} {meth : Method} {c : Code} {Q : State → Prop} {D : va_G} {A : Nat → Prop} {cI cJ cZ cMic cSrc cSt cAI cAJ : ClassId} {ad : Nat → Nat} {r1 : Int32} {T1 : AT} (E : cE p c cX8_activeWeight s m args (Cond.code yX8_activeWeight cX8_activeWeight 3 (some .int) :: wsA) D RX8 (CT cI cJ cZ cMic cSrc cSt cAI cAJ)) (hA : ∀ q : Nat, s.heap.size ≤ q → A q) (hX : xT A s) (hN : nX s) (hml : c.maxLocals = 3) (hst : l.stackTraces = false) (kr41 : ∀ (H : Heap) (locs : List Loc) (ls : Array Slot), gC cI cJ cZ cMic cSrc cSt cAI cAJ D ad A s.heap H locs T1 → W p l e { frames := 1, cells := 0, slots := 0, locals := 0 } s m args below meth c H locs 0 0 Q (F0 m 41 ls [.int r1])) : ∀ n : Nat, ∀ (T : AT) (H : Heap) (locs : List Loc) (ls : Array Slot) (l0 : Nat) (l1 : Int32) (l2 : Int32), g_X8_activeWeight_b4 n T l0 l1 l2 = some (r1, T1) → gC cI cJ cZ cMic cSrc cSt cAI cAJ D ad A s.heap H locs T → lv_has ls 3 [(0, .ref (ad l0)), (1, .int l1), (2, .int l2)] → W p l e { frames := 1, cells := 0, slots := 0, locals := 0 } s m args below meth c H locs 0 0 Q (F0 m 4 ls []) := by
  have hx := E.1
  have hb := E.2.1
  have hts := E.2.2.1
  have hown := E.2.2.2.1
  have hK := E.2.2.2.2
  intro n
  induction n with
  | zero =>
    intro T H locs ls l0 l1 l2 h
    have h : (none : Option (Int32 × AT)) = some (r1, T1) := h
    cases h
  | succ n ih =>
    intro T H locs ls l0 l1 l2 h G hl
    unfold g_X8_activeWeight_b4 at h
    refine lv_iload_n hx hb dX8_activeWeight_4 rfl (lv_at hl 2 rfl) ?_
    refine lv_aload_n hx hb dX8_activeWeight_5 rfl (lv_at hl 0 rfl) ?_
    obtain ⟨g2, h⟩ := oif_some h
    refine c_get E G l0 0 (oO_k g2).1 (cc_o8 (oO_k g2).2) rfl (fun w h => .tail _ (iA_16 h)) (by decide) (.tail _ qA_63) rfl rfl dX8_activeWeight_6 ?_
    refine lv_topi (fun v3 ev3 => ?_)
    have h := elet_at ev3 h
    clear ev3
    refine lv_icmp_ge (tgt := 40) hx hb dX8_activeWeight_9 (by decide) (fun c4 => ?_) (fun c4 => ?_)
    · have h := oif_pos c4 h
      refine lv_iload_n hx hb dX8_activeWeight_40 rfl (lv_at hl 1 rfl) ?_
      rw [(osome2 h).2] at G
      refine lv_to (osome2 h).1 ?_
      exact kr41 _ _ _ G
    · have h := oif_neg c4 h
      refine lv_iload_n hx hb dX8_activeWeight_12 rfl (lv_at hl 1 rfl) ?_
      refine lv_aload_n hx hb dX8_activeWeight_13 rfl (lv_at hl 0 rfl) ?_
      obtain ⟨g5, h⟩ := oif_some h
      obtain ⟨n6, en6, h⟩ := obind_some h
      refine c_get E G l0 3 (v := .ref (ad n6)) (oO_k g5).1 (cc_o8 (oO_k g5).2) rfl (fun w h => .tail _ (iA_16 h)) (by decide) (.tail _ qA_64) rfl (by rw [en6]; rfl) dX8_activeWeight_14 ?_
      clear en6
      refine lv_iload_n hx hb dX8_activeWeight_17 rfl (lv_at hl 2 rfl) ?_
      obtain ⟨g7, h⟩ := oif_some h
      obtain ⟨g8, h⟩ := oif_some h
      refine c_zald E G n6 2 (k := l2.toNatClampNeg) (aA_k g7).1 (cc_a102 (aA_k g7).2.1) rfl (inb_k g8).1 (inb_k g8).2 (aA_k g7).2.2 dX8_activeWeight_18 ?_
      refine lv_topi (fun v9 ev9 => ?_)
      have h := elet_at ev9 h
      clear ev9
      refine lv_if_eq (tgt := 26) hx hb dX8_activeWeight_19 (by decide) (fun c10 => ?_) (fun c10 => ?_)
      · have h := oif_pos c10 h
        refine lv_aload_n hx hb dX8_activeWeight_26 rfl (lv_at hl 0 rfl) ?_
        obtain ⟨g11, h⟩ := oif_some h
        obtain ⟨n12, en12, h⟩ := obind_some h
        refine c_get E G l0 4 (v := .ref (ad n12)) (oO_k g11).1 (cc_o8 (oO_k g11).2) rfl (fun w h => .tail _ (iA_16 h)) (by decide) (.tail _ qA_86) rfl (by rw [en12]; rfl) dX8_activeWeight_27 ?_
        clear en12
        refine lv_iload_n hx hb dX8_activeWeight_30 rfl (lv_at hl 2 rfl) ?_
        obtain ⟨g13, h⟩ := oif_some h
        obtain ⟨g14, h⟩ := oif_some h
        refine c_iald E G n12 0 (k := l2.toNatClampNeg) (aA_k g13).1 (cc_a100 (aA_k g13).2.1) rfl (inb_k g14).1 (inb_k g14).2 (aA_k g13).2.2 dX8_activeWeight_31 ?_
        refine lv_topi (fun v15 ev15 => ?_)
        have h := elet_at ev15 h
        clear ev15
        have hl := lv_sub hl [0, 2] rfl
        exact u_X8_activeWeight_b32 E hA hX hN hml hst kr41 ih _ _ _ _ _ _ _ _ h G hl
      · have h := oif_neg c10 h
        refine lv_iconst (v := 0) hx hb dX8_activeWeight_22 (by decide) ?_
        refine lv_goto (tgt := 32) hx hb dX8_activeWeight_23 (by decide) ?_
        have hl := lv_sub hl [0, 2] rfl
        exact u_X8_activeWeight_b32 E hA hX hN hml hst kr41 ih _ _ _ _ _ _ _ _ h G hl
def g_X8_activeWeight (T : AT) (o : Nat) : Option (Int32 × AT) := g_X8_activeWeight_b4 16384 T o 0 0
set_option maxHeartbeats 4000000 in
set_option maxRecDepth 100000 in
theorem u_X8_activeWeight (l : Launch) (hst : l.stackTraces = false) (D : va_G) (cI cJ cZ cMic cSrc cSt cAI cAJ : ClassId) (ad : Nat → Nat) (T : AT) (o : Nat) {r1 : Int32} {T1 : AT} (h : g_X8_activeWeight T o = some (r1, T1)) : kCi l yX8_activeWeight (Cond.code yX8_activeWeight cX8_activeWeight 3 (some .int) :: wsA) 1 0 cI cJ cZ cMic cSrc cSt cAI cAJ D ad T [.ref (ad o)] (fun r T9 => r = r1 ∧ T9 = T1) := by
  intro sz
  refine Met.ofW (cc := cX8_activeWeight) (maxL := 3) (ret := (some .int)) (by decide) rfl ?_
  intro p e s m args below meth c s₁ B hml hv
  obtain ⟨rfl, hsz, hP, hK, hD0, hX, hN⟩ := hv
  have hx := B.exec
  have hb := B.bytes
  have hr := B.returns
  have hts := atoms_spec (ws := (Cond.code yX8_activeWeight cX8_activeWeight 3 (some .int) :: wsA)) B.pre
  have hown : s.vm.findClass RX8 = some m.cls := findClass_of_methodNamed B.named
  have hlocks := B.notSynchronized
  subst hsz
  have hD := hD0.self (sz := s.heap.size)
  generalize hAe : va_A (cW ad T.1 (cc cI cJ cZ cMic cSrc cSt cAI cAJ ad T)) s.heap.size = A at hD hX ⊢
  have hA : ∀ q : Nat, s.heap.size ≤ q → A q := fun q h => by rw [← hAe]; exact Or.inr h
  have G : gC cI cJ cZ cMic cSrc cSt cAI cAJ D ad A s.heap s.heap [] T := ⟨hP, hD, va_S.rf⟩
  have E : cE p c cX8_activeWeight s m ([.ref (ad o)] : List Value).toArray (Cond.code yX8_activeWeight cX8_activeWeight 3 (some .int) :: wsA) D RX8 (CT cI cJ cZ cMic cSrc cSt cAI cAJ) := ⟨hx, hb, hts, hown, hK⟩
  have hl := lv_entry ([.ref (ad o)]) (n := 3) (Nat.le_of_ble_eq_true rfl)
  rw [lg_entry_eq]
  generalize (lg_sl ([.ref (ad o)]) ++ List.replicate (3 - (lg_sl ([.ref (ad o)])).length) Slot.unset).toArray = ls at hl ⊢
  have hl : lv_has ls 3 [(0, .ref (ad o))] := hl
  unfold g_X8_activeWeight at h
  refine lv_iconst (v := 0) hx hb dX8_activeWeight_0 (by decide) ?_
  refine lv_istore_n (lv' := [(1, .int 0), (0, .ref (ad o))]) hx hb dX8_activeWeight_1 rfl hl (by decide) rfl (fun ls hl => ?_)
  refine lv_iconst (v := 0) hx hb dX8_activeWeight_2 (by decide) ?_
  refine lv_istore_n (lv' := [(2, .int 0), (1, .int 0), (0, .ref (ad o))]) hx hb dX8_activeWeight_3 rfl hl (by decide) rfl (fun ls hl => ?_)
  have hl := lv_sub hl [2, 1, 0] rfl
  exact u_X8_activeWeight_b4 E hA hX hN hml hst (fun H locs ls G => W.iret (v := r1) hx hb hr (fun t ht hW => ⟨⟨r1, T1, rfl, ⟨rfl, rfl⟩, ⟨by rw [ht]; exact G.1, va_K.moved hW.alike hK, G.2.1⟩⟩, G.2.2.F ht⟩) G.2.2.2.2 dX8_activeWeight_41) _ _ _ _ _ _ _ _ h G hl
set_option maxHeartbeats 4000000 in
set_option maxRecDepth 100000 in
theorem s_X8_activeWeight_b32 {r1 : Int32} {T1 : AT} {k4 : AT → Nat → Int32 → Int32 → Option (Int32 × AT)} (hk4 : ∀ (T : AT) (l0 : Nat) (l1 : Int32) (l2 : Int32), k4 T l0 l1 l2 = some (r1, T1) → SP T T1) : ∀ (T : AT) (s0 : Int32) (s1 : Int32) (l0 : Nat) (l2 : Int32), g_X8_activeWeight_b32 k4 T s0 s1 l0 l2 = some (r1, T1) → SP T T1 := by
  intro T s0 s1 l0 l2 h
  have p0 := SP.rf T
  unfold g_X8_activeWeight_b32 at h
  obtain ⟨v2, -, h⟩ := elet_some h
  obtain ⟨v3, ev3, h⟩ := elet_some h
  exact SP.tr p0 (hk4 _ _ _ _ h)
set_option maxHeartbeats 4000000 in
set_option maxRecDepth 100000 in
theorem s_X8_activeWeight_b4 {r1 : Int32} {T1 : AT} : ∀ n : Nat, ∀ (T : AT) (l0 : Nat) (l1 : Int32) (l2 : Int32), g_X8_activeWeight_b4 n T l0 l1 l2 = some (r1, T1) → SP T T1 := by
  intro n
  induction n with
  | zero =>
    intro T l0 l1 l2 h
    have h : (none : Option (Int32 × AT)) = some (r1, T1) := h
    cases h
  | succ n ih =>
    intro T l0 l1 l2 h
    have p0 := SP.rf T
    unfold g_X8_activeWeight_b4 at h
    obtain ⟨g2, h⟩ := oif_some h
    obtain ⟨v3, -, h⟩ := elet_some h
    rcases oif_or h with ⟨c4, h⟩ | ⟨c4, h⟩
    · have h := h
      rw [← (osome2 h).2]
      exact p0
    · have h := h
      obtain ⟨g5, h⟩ := oif_some h
      obtain ⟨n6, en6, h⟩ := obind_some h
      obtain ⟨g7, h⟩ := oif_some h
      obtain ⟨g8, h⟩ := oif_some h
      obtain ⟨v9, -, h⟩ := elet_some h
      rcases oif_or h with ⟨c10, h⟩ | ⟨c10, h⟩
      · have h := h
        obtain ⟨g11, h⟩ := oif_some h
        obtain ⟨n12, en12, h⟩ := obind_some h
        obtain ⟨g13, h⟩ := oif_some h
        obtain ⟨g14, h⟩ := oif_some h
        obtain ⟨v15, -, h⟩ := elet_some h
        exact SP.tr p0 (s_X8_activeWeight_b32 ih _ _ _ _ _ h)
      · have h := h
        exact SP.tr p0 (s_X8_activeWeight_b32 ih _ _ _ _ _ h)
set_option maxHeartbeats 4000000 in
set_option maxRecDepth 100000 in
theorem s_X8_activeWeight {T : AT} {o : Nat} {r1 : Int32} {T1 : AT} (h : g_X8_activeWeight T o = some (r1, T1)) : SP T T1 := by
  have p0 := SP.rf T
  unfold g_X8_activeWeight at h
  exact SP.tr p0 (s_X8_activeWeight_b4 _ _ _ _ _ h)
def g_X8_smallestDelay_b33 (k8 : AT → Nat → Nat → Int32 → Int32 → Option (Int32 × AT)) (T : AT) (l0 : Nat) (l1 : Nat) (l2 : Int32) (l3 : Int32) : Option (Int32 × AT) := elet (l3 + Int32.ofInt (1)) fun v2 => k8 T l0 l1 l2 v2
set_option maxHeartbeats 4000000 in
set_option maxRecDepth 100000 in
theorem u_X8_smallestDelay_b33 {p : Program} {l : Launch} {e : Env} {s : State} {m : MethodId} {args : Array Value} {below : List Frame} {meth : Method} {c : Code} {Q : State → Prop} {D : va_G} {A : Nat → Prop} {cI cJ cZ cMic cSrc cSt cAI cAJ : ClassId} {ad : Nat → Nat} {r1 : Int32} {T1 : AT} (E : cE p c cX8_smallestDelay s m args (Cond.code yX8_smallestDelay cX8_smallestDelay 4 (some .int) :: wsA) D RX8 (CT cI cJ cZ cMic cSrc cSt cAI cAJ)) (hA : ∀ q : Nat, s.heap.size ≤ q → A q) (hX : xT A s) (hN : nX s) (hml : c.maxLocals = 4) (hst : l.stackTraces = false) (kr40 : ∀ (H : Heap) (locs : List Loc) (ls : Array Slot), gC cI cJ cZ cMic cSrc cSt cAI cAJ D ad A s.heap H locs T1 → W p l e { frames := 2, cells := 0, slots := 0, locals := 38 } s m args below meth c H locs 0 0 Q (F0 m 40 ls [.int r1])) {k8 : AT → Nat → Nat → Int32 → Int32 → Option (Int32 × AT)} (hk8 : ∀ (T : AT) (H : Heap) (locs : List Loc) (ls : Array Slot) (l0 : Nat) (l1 : Nat) (l2 : Int32) (l3 : Int32), k8 T l0 l1 l2 l3 = some (r1, T1) → gC cI cJ cZ cMic cSrc cSt cAI cAJ D ad A s.heap H locs T → lv_has ls 4 [(0, .ref (ad l0)), (1, .ref (ad l1)), (2, .int l2), (3, .int l3)] → W p l e { frames := 2, cells := 0, slots := 0, locals := 38 } s m args below meth c H locs 0 0 Q (F0 m 8 ls [])) : ∀ (T : AT) (H : Heap) (locs : List Loc) (ls : Array Slot) (l0 : Nat) (l1 : Nat) (l2 : Int32) (l3 : Int32), g_X8_smallestDelay_b33 k8 T l0 l1 l2 l3 = some (r1, T1) → gC cI cJ cZ cMic cSrc cSt cAI cAJ D ad A s.heap H locs T → lv_has ls 4 [(0, .ref (ad l0)), (1, .ref (ad l1)), (2, .int l2), (3, .int l3)] → W p l e { frames := 2, cells := 0, slots := 0, locals := 38 } s m args below meth c H locs 0 0 Q (F0 m 33 ls []) := by
  have hx := E.1
  have hb := E.2.1
  have hts := E.2.2.1
  have hown := E.2.2.2.1
  have hK := E.2.2.2.2
  intro T H locs ls l0 l1 l2 l3 h G hl
  unfold g_X8_smallestDelay_b33 at h
  obtain ⟨v2, ev2, h⟩ := elet_some h
  refine lv_iinc (v := v2) (lv' := [(3, .int v2), (0, .ref (ad l0)), (1, .ref (ad l1)), (2, .int l2)]) hx hb dX8_smallestDelay_33 hl (k := 3) rfl ev2.symm (by decide) rfl (fun ls hl => ?_)
  refine lv_goto (tgt := 8) hx hb dX8_smallestDelay_36 (by decide) ?_
  have hl := lv_sub hl [1, 2, 3, 0] rfl
  exact hk8 _ _ _ _ _ _ _ _ h G hl
def g_X8_smallestDelay_b8  : Nat → AT → Nat → Nat → Int32 → Int32 → Option (Int32 × AT)
  | 0, _, _, _, _, _ => none
  | n + 1, T, l0, l1, l2, l3 => oif (oO T l0 8 = true) <| elet (T.2.2.1 l0 0) fun v3 => if v3 ≤ l3 then (some (l2, T)) else (oif (oO T l0 8 = true) <| obind (T.2.2.2.2 l0 3) fun n6 => oif (aA T n6 102 = true) <| oif (inb l3 (T.2.1 n6).2 = true) <| elet (T.2.2.1 n6 l3.toNatClampNeg) fun v9 => if v9 = 0 then (oif (aA T l1 100 = true) <| oif (inb l3 (T.2.1 l1).2 = true) <| elet (T.2.2.1 l1 l3.toNatClampNeg) fun v13 => elet (if v13 < l2 then v13 else l2) fun v14 => g_X8_smallestDelay_b33 (g_X8_smallestDelay_b8 n) T l0 l1 v14 l3) else (g_X8_smallestDelay_b33 (g_X8_smallestDelay_b8 n) T l0 l1 l2 l3))
set_option maxHeartbeats 4000000 in
set_option maxRecDepth 100000 in
theorem u_X8_smallestDelay_b8 {p : Program} {l : Launch} {e : Env} {s : State} {m : MethodId} {args : Array Value} {below : List Frame} {meth : Method} {c : Code} {Q : State → Prop} {D : va_G} {A : Nat → Prop} {cI cJ cZ cMic cSrc cSt cAI cAJ : ClassId} {ad : Nat → Nat} {r1 : Int32} {T1 : AT} (E : cE p c cX8_smallestDelay s m args (Cond.code yX8_smallestDelay cX8_smallestDelay 4 (some .int) :: wsA) D RX8 (CT cI cJ cZ cMic cSrc cSt cAI cAJ)) (hA : ∀ q : Nat, s.heap.size ≤ q → A q) (hX : xT A s) (hN : nX s) (hml : c.maxLocals = 4) (hst : l.stackTraces = false) (kr40 : ∀ (H : Heap) (locs : List Loc) (ls : Array Slot), gC cI cJ cZ cMic cSrc cSt cAI cAJ D ad A s.heap H locs T1 → W p l e { frames := 2, cells := 0, slots := 0, locals := 38 } s m args below meth c H locs 0 0 Q (F0 m 40 ls [.int r1])) : ∀ n : Nat, ∀ (T : AT) (H : Heap) (locs : List Loc) (ls : Array Slot) (l0 : Nat) (l1 : Nat) (l2 : Int32) (l3 : Int32), g_X8_smallestDelay_b8 n T l0 l1 l2 l3 = some (r1, T1) → gC cI cJ cZ cMic cSrc cSt cAI cAJ D ad A s.heap H locs T → lv_has ls 4 [(0, .ref (ad l0)), (1, .ref (ad l1)), (2, .int l2), (3, .int l3)] → W p l e { frames := 2, cells := 0, slots := 0, locals := 38 } s m args below meth c H locs 0 0 Q (F0 m 8 ls []) := by
  have hx := E.1
  have hb := E.2.1
  have hts := E.2.2.1
  have hown := E.2.2.2.1
  have hK := E.2.2.2.2
  intro n
  induction n with
  | zero =>
    intro T H locs ls l0 l1 l2 l3 h
    have h : (none : Option (Int32 × AT)) = some (r1, T1) := h
    cases h
  | succ n ih =>
    intro T H locs ls l0 l1 l2 l3 h G hl
    unfold g_X8_smallestDelay_b8 at h
    refine lv_iload_n hx hb dX8_smallestDelay_8 rfl (lv_at hl 3 rfl) ?_
    refine lv_aload_n hx hb dX8_smallestDelay_9 rfl (lv_at hl 0 rfl) ?_
    obtain ⟨g2, h⟩ := oif_some h
    refine c_get E G l0 0 (oO_k g2).1 (cc_o8 (oO_k g2).2) rfl (fun w h => .tail _ (iA_16 h)) (by decide) (.tail _ qA_63) rfl rfl dX8_smallestDelay_10 ?_
    refine lv_topi (fun v3 ev3 => ?_)
    have h := elet_at ev3 h
    clear ev3
    refine lv_icmp_ge (tgt := 39) hx hb dX8_smallestDelay_13 (by decide) (fun c4 => ?_) (fun c4 => ?_)
    · have h := oif_pos c4 h
      refine lv_iload_n hx hb dX8_smallestDelay_39 rfl (lv_at hl 2 rfl) ?_
      rw [(osome2 h).2] at G
      refine lv_to (osome2 h).1 ?_
      exact kr40 _ _ _ G
    · have h := oif_neg c4 h
      refine lv_aload_n hx hb dX8_smallestDelay_16 rfl (lv_at hl 0 rfl) ?_
      obtain ⟨g5, h⟩ := oif_some h
      obtain ⟨n6, en6, h⟩ := obind_some h
      refine c_get E G l0 3 (v := .ref (ad n6)) (oO_k g5).1 (cc_o8 (oO_k g5).2) rfl (fun w h => .tail _ (iA_16 h)) (by decide) (.tail _ qA_64) rfl (by rw [en6]; rfl) dX8_smallestDelay_17 ?_
      clear en6
      refine lv_iload_n hx hb dX8_smallestDelay_20 rfl (lv_at hl 3 rfl) ?_
      obtain ⟨g7, h⟩ := oif_some h
      obtain ⟨g8, h⟩ := oif_some h
      refine c_zald E G n6 2 (k := l3.toNatClampNeg) (aA_k g7).1 (cc_a102 (aA_k g7).2.1) rfl (inb_k g8).1 (inb_k g8).2 (aA_k g7).2.2 dX8_smallestDelay_21 ?_
      refine lv_topi (fun v9 ev9 => ?_)
      have h := elet_at ev9 h
      clear ev9
      refine lv_if_ne (tgt := 33) hx hb dX8_smallestDelay_22 (by decide) (fun c10 => ?_) (fun c10 => ?_)
      · have h := oif_neg c10 h
        have hl := lv_sub hl [0, 1, 2, 3] rfl
        exact u_X8_smallestDelay_b33 E hA hX hN hml hst kr40 ih _ _ _ _ _ _ _ _ h G hl
      · have h := oif_pos c10 h
        refine lv_iload_n hx hb dX8_smallestDelay_25 rfl (lv_at hl 2 rfl) ?_
        refine lv_aload_n hx hb dX8_smallestDelay_26 rfl (lv_at hl 1 rfl) ?_
        refine lv_iload_n hx hb dX8_smallestDelay_27 rfl (lv_at hl 3 rfl) ?_
        obtain ⟨g11, h⟩ := oif_some h
        obtain ⟨g12, h⟩ := oif_some h
        refine c_iald E G l1 0 (k := l3.toNatClampNeg) (aA_k g11).1 (cc_a100 (aA_k g11).2.1) rfl (inb_k g12).1 (inb_k g12).2 (aA_k g11).2.2 dX8_smallestDelay_28 ?_
        refine lv_topi (fun v13 ev13 => ?_)
        have h := elet_at ev13 h
        clear ev13
        refine va_mmin hx hb (hml.trans hl.1.symm) hown (hts _ (.tail _ qA_49)) (hts _ (.tail _ qA_50)) (hts _ (.tail _ qA_18)) (hts _ (.tail _ qA_51)) (Nat.le_of_ble_eq_true rfl) (Nat.le_of_ble_eq_true rfl) (Nat.zero_le _) (Nat.zero_le _) dX8_smallestDelay_29 ?_
        refine lv_topi (fun v14 ev14 => ?_)
        have h := elet_at ev14 h
        clear ev14
        refine lv_istore_n (lv' := [(2, .int v14), (0, .ref (ad l0)), (1, .ref (ad l1)), (3, .int l3)]) hx hb dX8_smallestDelay_32 rfl hl (by decide) rfl (fun ls hl => ?_)
        have hl := lv_sub hl [1, 2, 0, 3] rfl
        exact u_X8_smallestDelay_b33 E hA hX hN hml hst kr40 ih _ _ _ _ _ _ _ _ h G hl
def g_X8_smallestDelay (T : AT) (o : Nat) (a0 : Nat) : Option (Int32 × AT) := oif (oO T o 8 = true) <| obind2 (g_X8_greatestDelay T o a0) fun r5 T3 => g_X8_smallestDelay_b8 16384 T3 o a0 r5 0
set_option maxHeartbeats 4000000 in
set_option maxRecDepth 100000 in
theorem u_X8_smallestDelay (l : Launch) (hst : l.stackTraces = false) (D : va_G) (cI cJ cZ cMic cSrc cSt cAI cAJ : ClassId) (ad : Nat → Nat) (T : AT) (o : Nat) (a0 : Nat) {r1 : Int32} {T1 : AT} (h : g_X8_smallestDelay T o a0 = some (r1, T1)) : kCi l yX8_smallestDelay (Cond.code yX8_smallestDelay cX8_smallestDelay 4 (some .int) :: wsA) 2 38 cI cJ cZ cMic cSrc cSt cAI cAJ D ad T [.ref (ad o), .ref (ad a0)] (fun r T9 => r = r1 ∧ T9 = T1) := by
  intro sz
  refine Met.ofW (cc := cX8_smallestDelay) (maxL := 4) (ret := (some .int)) (by decide) rfl ?_
  intro p e s m args below meth c s₁ B hml hv
  obtain ⟨rfl, hsz, hP, hK, hD0, hX, hN⟩ := hv
  have hx := B.exec
  have hb := B.bytes
  have hr := B.returns
  have hts := atoms_spec (ws := (Cond.code yX8_smallestDelay cX8_smallestDelay 4 (some .int) :: wsA)) B.pre
  have hown : s.vm.findClass RX8 = some m.cls := findClass_of_methodNamed B.named
  have hlocks := B.notSynchronized
  subst hsz
  have hD := hD0.self (sz := s.heap.size)
  generalize hAe : va_A (cW ad T.1 (cc cI cJ cZ cMic cSrc cSt cAI cAJ ad T)) s.heap.size = A at hD hX ⊢
  have hA : ∀ q : Nat, s.heap.size ≤ q → A q := fun q h => by rw [← hAe]; exact Or.inr h
  have G : gC cI cJ cZ cMic cSrc cSt cAI cAJ D ad A s.heap s.heap [] T := ⟨hP, hD, va_S.rf⟩
  have E : cE p c cX8_smallestDelay s m ([.ref (ad o), .ref (ad a0)] : List Value).toArray (Cond.code yX8_smallestDelay cX8_smallestDelay 4 (some .int) :: wsA) D RX8 (CT cI cJ cZ cMic cSrc cSt cAI cAJ) := ⟨hx, hb, hts, hown, hK⟩
  have hl := lv_entry ([.ref (ad o), .ref (ad a0)]) (n := 4) (Nat.le_of_ble_eq_true rfl)
  rw [lg_entry_eq]
  generalize (lg_sl ([.ref (ad o), .ref (ad a0)]) ++ List.replicate (4 - (lg_sl ([.ref (ad o), .ref (ad a0)])).length) Slot.unset).toArray = ls at hl ⊢
  have hl : lv_has ls 4 [(0, .ref (ad o)), (1, .ref (ad a0))] := hl
  unfold g_X8_smallestDelay at h
  refine lv_aload_n hx hb dX8_smallestDelay_0 rfl (lv_at hl 0 rfl) ?_
  refine lv_aload_n hx hb dX8_smallestDelay_1 rfl (lv_at hl 1 rfl) ?_
  obtain ⟨g2, h⟩ := oif_some h
  obtain ⟨r5, T3, eT3, h⟩ := obind2_some h
  refine q_cvi (As := [.ref (ad a0)]) (rest := []) E G hA hX hN hml (u_X8_greatestDelay l hst D cI cJ cZ cMic cSrc cSt cAI cAJ ad T o a0 eT3) (cwV 1 hts (gaV qA_59 qA_60 qA_61 qA_47 qA_62) rfl rfl rfl (by decide +kernel) ⟨Nat.le_of_ble_eq_true rfl, Nat.le_of_ble_eq_true rfl⟩) (oO_k g2).1 (cc_o8 (oO_k g2).2) rfl rfl hl.1 rfl (lv_room (Nat.le_of_ble_eq_true rfl)) dX8_smallestDelay_2 ⟨Nat.zero_le _, Nat.zero_le _⟩ (fun q6 T4 H locs hq G => ?_)
  obtain ⟨hq1, hq2⟩ := hq
  rw [hq2] at G
  refine lv_to hq1 ?_
  clear hq1 hq2 eT3
  refine lv_istore_n (lv' := [(2, .int r5), (0, .ref (ad o)), (1, .ref (ad a0))]) hx hb dX8_smallestDelay_5 rfl hl (by decide) rfl (fun ls hl => ?_)
  refine lv_iconst (v := 0) hx hb dX8_smallestDelay_6 (by decide) ?_
  refine lv_istore_n (lv' := [(3, .int 0), (2, .int r5), (0, .ref (ad o)), (1, .ref (ad a0))]) hx hb dX8_smallestDelay_7 rfl hl (by decide) rfl (fun ls hl => ?_)
  have hl := lv_sub hl [2, 3, 1, 0] rfl
  exact u_X8_smallestDelay_b8 E hA hX hN hml hst (fun H locs ls G => W.iret (v := r1) hx hb hr (fun t ht hW => ⟨⟨r1, T1, rfl, ⟨rfl, rfl⟩, ⟨by rw [ht]; exact G.1, va_K.moved hW.alike hK, G.2.1⟩⟩, G.2.2.F ht⟩) G.2.2.2.2 dX8_smallestDelay_40) _ _ _ _ _ _ _ _ _ h G hl
set_option maxHeartbeats 4000000 in
set_option maxRecDepth 100000 in
theorem s_X8_smallestDelay_b33 {r1 : Int32} {T1 : AT} {k8 : AT → Nat → Nat → Int32 → Int32 → Option (Int32 × AT)} (hk8 : ∀ (T : AT) (l0 : Nat) (l1 : Nat) (l2 : Int32) (l3 : Int32), k8 T l0 l1 l2 l3 = some (r1, T1) → SP T T1) : ∀ (T : AT) (l0 : Nat) (l1 : Nat) (l2 : Int32) (l3 : Int32), g_X8_smallestDelay_b33 k8 T l0 l1 l2 l3 = some (r1, T1) → SP T T1 := by
  intro T l0 l1 l2 l3 h
  have p0 := SP.rf T
  unfold g_X8_smallestDelay_b33 at h
  obtain ⟨v2, ev2, h⟩ := elet_some h
  exact SP.tr p0 (hk8 _ _ _ _ _ h)
set_option maxHeartbeats 4000000 in
set_option maxRecDepth 100000 in
theorem s_X8_smallestDelay_b8 {r1 : Int32} {T1 : AT} : ∀ n : Nat, ∀ (T : AT) (l0 : Nat) (l1 : Nat) (l2 : Int32) (l3 : Int32), g_X8_smallestDelay_b8 n T l0 l1 l2 l3 = some (r1, T1) → SP T T1 := by
  intro n
  induction n with
  | zero =>
    intro T l0 l1 l2 l3 h
    have h : (none : Option (Int32 × AT)) = some (r1, T1) := h
    cases h
  | succ n ih =>
    intro T l0 l1 l2 l3 h
    have p0 := SP.rf T
    unfold g_X8_smallestDelay_b8 at h
    obtain ⟨g2, h⟩ := oif_some h
    obtain ⟨v3, -, h⟩ := elet_some h
    rcases oif_or h with ⟨c4, h⟩ | ⟨c4, h⟩
    · have h := h
      rw [← (osome2 h).2]
      exact p0
    · have h := h
      obtain ⟨g5, h⟩ := oif_some h
      obtain ⟨n6, en6, h⟩ := obind_some h
      obtain ⟨g7, h⟩ := oif_some h
      obtain ⟨g8, h⟩ := oif_some h
      obtain ⟨v9, -, h⟩ := elet_some h
      rcases oif_or h with ⟨c10, h⟩ | ⟨c10, h⟩
      · have h := h
        obtain ⟨g11, h⟩ := oif_some h
        obtain ⟨g12, h⟩ := oif_some h
        obtain ⟨v13, -, h⟩ := elet_some h
        obtain ⟨v14, -, h⟩ := elet_some h
        exact SP.tr p0 (s_X8_smallestDelay_b33 ih _ _ _ _ _ h)
      · have h := h
        exact SP.tr p0 (s_X8_smallestDelay_b33 ih _ _ _ _ _ h)
set_option maxHeartbeats 4000000 in
set_option maxRecDepth 100000 in
theorem s_X8_smallestDelay {T : AT} {o : Nat} {a0 : Nat} {r1 : Int32} {T1 : AT} (h : g_X8_smallestDelay T o a0 = some (r1, T1)) : SP T T1 := by
  have p0 := SP.rf T
  unfold g_X8_smallestDelay at h
  obtain ⟨g2, h⟩ := oif_some h
  obtain ⟨r4, T3, eT3, h⟩ := obind2_some h
  have p1 : SP T T3 := SP.tr p0 (s_X8_greatestDelay eT3)
  exact SP.tr p1 (s_X8_smallestDelay_b8 _ _ _ _ _ _ h)
def g_X8_powerOf_b13  (T : AT)  : Option (AT) := some T
def g_X8_powerOf (T : AT) (o : Nat) (a0 : Nat) (a1 : Nat) (a2 : Int32) : Option (AT) := oif (oO T o 8 = true) <| obind2 (g_X8_windowOf T o a0) fun r5 T3 => oif (oO T3 o 8 = true) <| obind (g_X8_blockPowerOf T3 o a0 (0 : Int32) r5 a1 a2) fun T8 => g_X8_powerOf_b13 T8
set_option maxHeartbeats 4000000 in
set_option maxRecDepth 100000 in
theorem s_X8_powerOf_b13 {T1 : AT} : ∀ (T : AT), g_X8_powerOf_b13 T = some T1 → GL T T1 := by
  intro T h
  have p0 := GL.rf T
  unfold g_X8_powerOf_b13 at h
  rw [← osome1 h]
  exact p0
set_option maxHeartbeats 4000000 in
set_option maxRecDepth 100000 in
theorem s_X8_powerOf {T : AT} {o : Nat} {a0 : Nat} {a1 : Nat} {a2 : Int32} {T1 : AT} (h : g_X8_powerOf T o a0 a1 a2 = some T1) : GL T T1 := by
  have p0 := GL.rf T
  unfold g_X8_powerOf at h
  obtain ⟨g2, h⟩ := oif_some h
  obtain ⟨r4, T3, eT3, h⟩ := obind2_some h
  have p1 : GL T T3 := GL.tr p0 (gl_sp (s_X8_windowOf eT3))
  obtain ⟨g5, h⟩ := oif_some h
  obtain ⟨T6, eT6, h⟩ := obind_some h
  have p2 : GL T T6 := GL.tr p1 (s_X8_blockPowerOf eT6)
  exact GL.tr p2 (s_X8_powerOf_b13 _ h)
set_option maxHeartbeats 4000000 in
set_option maxRecDepth 100000 in
theorem a_X8_powerOf_b13 {p : Program} {l : Launch} {e : Env} {s : State} {m : MethodId} {args : Array Value} {below : List Frame} {meth : Method} {c : Code} {Q : State → Prop} {D : va_G} {A : Nat → Prop} {cI cJ cZ cMic cSrc cSt cAI cAJ : ClassId} {ad0 : Nat → Nat} {T0 : AT} {T1 : AT} (E : cE p c cX8_powerOf s m args (Cond.code yX8_powerOf cX8_powerOf 4 none :: wsA) D RX8 (CT cI cJ cZ cMic cSrc cSt cAI cAJ)) (hA : ∀ q : Nat, s.heap.size ≤ q → A q) (hX : xT A s) (hN : nX s) (hml : c.maxLocals = 4) (hst : l.stackTraces = false) (kr13 : ∀ (ad : Nat → Nat) (H : Heap) (locs : List Loc) (ls : Array Slot), (∀ n, n < T0.1 → ad n = ad0 n) → gC cI cJ cZ cMic cSrc cSt cAI cAJ D ad A s.heap H locs T1 → W p l e { frames := 5, cells := T1.1 - T0.1, slots := sg T1 - sg T0, locals := 105 } s m args below meth c H locs (T1.1 - T0.1) (sg T1 - sg T0) Q (F0 m 13 ls [])) : ∀ (T : AT) (ad : Nat → Nat) (H : Heap) (locs : List Loc) (ls : Array Slot), g_X8_powerOf_b13 T = some T1 → GL T0 T → RC T → (∀ n, n < T0.1 → ad n = ad0 n) → gC cI cJ cZ cMic cSrc cSt cAI cAJ D ad A s.heap H locs T → lv_has ls 4 [] → W p l e { frames := 5, cells := T1.1 - T0.1, slots := sg T1 - sg T0, locals := 105 } s m args below meth c H locs (T.1 - T0.1) (sg T - sg T0) Q (F0 m 13 ls []) := by
  have hx := E.1
  have hb := E.2.1
  have hts := E.2.2.1
  have hown := E.2.2.2.1
  have hK := E.2.2.2.2
  intro T ad H locs ls h hgl hrc had G hl
  have hT1 := s_X8_powerOf_b13 _ h
  have hcs := cs_ok hgl hT1
  have cp0 := cpr0 hrc
  unfold g_X8_powerOf_b13 at h
  rw [osome1 h] at G
  refine w_cast (c2 := T1.1 - T0.1) (s2 := sg T1 - sg T0) (by rw [← osome1 h, cp0.1] <;> rfl) (by rw [← osome1 h, sg_cpr cp0] <;> rfl) ?_
  exact kr13 ad _ _ _ had G
set_option maxHeartbeats 4000000 in
set_option maxRecDepth 100000 in
theorem a_X8_powerOf (l : Launch) (hst : l.stackTraces = false) (D : va_G) (cI cJ cZ cMic cSrc cSt cAI cAJ : ClassId) (ad : Nat → Nat) (T : AT) (o : Nat) (a0 : Nat) (a1 : Nat) (a2 : Int32) {T1 : AT} (h : g_X8_powerOf T o a0 a1 a2 = some T1) (hrc : RC T) (h_o : o < T.1) (h_a0 : a0 < T.1) (h_a1 : a1 < T.1) : kAv l yX8_powerOf (Cond.code yX8_powerOf cX8_powerOf 4 none :: wsA) 5 105 cI cJ cZ cMic cSrc cSt cAI cAJ D ad T [.ref (ad o), .ref (ad a0), .ref (ad a1), .int a2] T1 := by
  intro sz
  refine Met.ofW (cc := cX8_powerOf) (maxL := 4) (ret := none) (by decide) rfl ?_
  intro p e s m args below meth c s₁ B hml hv
  obtain ⟨rfl, hsz, hP, hK, hD0, hX, hN⟩ := hv
  have hx := B.exec
  have hb := B.bytes
  have hr := B.returns
  have hts := atoms_spec (ws := (Cond.code yX8_powerOf cX8_powerOf 4 none :: wsA)) B.pre
  have hown : s.vm.findClass RX8 = some m.cls := findClass_of_methodNamed B.named
  have hlocks := B.notSynchronized
  subst hsz
  have hD := hD0.self (sz := s.heap.size)
  generalize hAe : va_A (cW ad T.1 (cc cI cJ cZ cMic cSrc cSt cAI cAJ ad T)) s.heap.size = A at hD hX ⊢
  have hA : ∀ q : Nat, s.heap.size ≤ q → A q := fun q h => by rw [← hAe]; exact Or.inr h
  have G : gC cI cJ cZ cMic cSrc cSt cAI cAJ D ad A s.heap s.heap [] T := ⟨hP, hD, va_S.rf⟩
  have E : cE p c cX8_powerOf s m ([.ref (ad o), .ref (ad a0), .ref (ad a1), .int a2] : List Value).toArray (Cond.code yX8_powerOf cX8_powerOf 4 none :: wsA) D RX8 (CT cI cJ cZ cMic cSrc cSt cAI cAJ) := ⟨hx, hb, hts, hown, hK⟩
  have hl := lv_entry ([.ref (ad o), .ref (ad a0), .ref (ad a1), .int a2]) (n := 4) (Nat.le_of_ble_eq_true rfl)
  rw [lg_entry_eq]
  generalize (lg_sl ([.ref (ad o), .ref (ad a0), .ref (ad a1), .int a2]) ++ List.replicate (4 - (lg_sl ([.ref (ad o), .ref (ad a0), .ref (ad a1), .int a2])).length) Slot.unset).toArray = ls at hl ⊢
  have hl : lv_has ls 4 [(0, .ref (ad o)), (1, .ref (ad a0)), (2, .ref (ad a1)), (3, .int a2)] := hl
  have hgl := GL.rf T
  have had : ∀ n, n < T.1 → ad n = ad n := fun _ _ => rfl
  have hT1 := s_X8_powerOf h
  have hcs := cs_ok hgl hT1
  refine w_cast (Nat.sub_self T.1).symm (Nat.sub_self (sg T)).symm ?_
  have cp0 := cpr0 hrc
  unfold g_X8_powerOf at h
  refine lv_aload_n hx hb dX8_powerOf_0 rfl (lv_at hl 0 rfl) ?_
  refine lv_aload_n hx hb dX8_powerOf_1 rfl (lv_at hl 1 rfl) ?_
  refine lv_iconst (v := 0) hx hb dX8_powerOf_2 (by decide) ?_
  refine lv_aload_n hx hb dX8_powerOf_3 rfl (lv_at hl 0 rfl) ?_
  refine lv_aload_n hx hb dX8_powerOf_4 rfl (lv_at hl 1 rfl) ?_
  obtain ⟨g2, h⟩ := oif_some h
  obtain ⟨r5, T3, eT3, h⟩ := obind2_some h
  refine q_cvi (As := [.ref (ad a0)]) (rest := [.int 0, .ref (ad a0), .ref (ad o)]) E G hA hX hN hml (u_X8_windowOf l hst D cI cJ cZ cMic cSrc cSt cAI cAJ ad T o a0 eT3) (cwV 1 hts (gaV qA_53 qA_54 qA_55 qA_47 qA_56) rfl rfl rfl (by decide +kernel) ⟨Nat.le_of_ble_eq_true rfl, Nat.le_of_ble_eq_true rfl⟩) (oO_k g2).1 (cc_o8 (oO_k g2).2) rfl rfl hl.1 rfl (lv_room (Nat.le_of_ble_eq_true rfl)) dX8_powerOf_5 hcs (fun q6 T4 H locs hq G => ?_)
  obtain ⟨hq1, hq2⟩ := hq
  rw [hq2] at G
  refine lv_to hq1 ?_
  clear hq1 hq2
  have cp1 := cpr_sp cp0 (s_X8_windowOf eT3)
  refine lv_aload_n hx hb dX8_powerOf_8 rfl (lv_at hl 2 rfl) ?_
  refine lv_iload_n hx hb dX8_powerOf_9 rfl (lv_at hl 3 rfl) ?_
  obtain ⟨g7, h⟩ := oif_some h
  obtain ⟨T8, eT8, h⟩ := obind_some h
  have hg2 := s_X8_blockPowerOf eT8
  have hrc2 := hg2.2.2 cp1.2.2
  have hT2 := s_X8_powerOf_b13 _ h
  refine q_avv (As := [.ref (ad a0), .int 0, .int r5, .ref (ad a1), .int a2]) (rest := []) E G hA hX hN hml (a_X8_blockPowerOf l hst D cI cJ cZ cMic cSrc cSt cAI cAJ ad T3 o a0 (0 : Int32) r5 a1 a2 eT8 cp1.2.2 (by rw [cp1.1]; exact h_o) (by rw [cp1.1]; exact h_a0) (by rw [cp1.1]; exact h_a1)) (cwV 5 hts (gaV qA_618 qA_45 qA_46 qA_47 qA_48) rfl rfl rfl (by decide +kernel) ⟨Nat.le_of_ble_eq_true rfl, Nat.le_of_ble_eq_true rfl⟩) (oO_k g7).1 (cc_o8 (oO_k g7).2) rfl rfl hl.1 rfl (lv_room (Nat.le_of_ble_eq_true rfl)) dX8_powerOf_10 (cs_av hgl cp1 hg2 hT2) (fun ad2 H locs hga G => ?_)
  refine w_cast (c2 := T8.1 - T.1) (s2 := sg T8 - sg T) (cs_f1 hgl cp1 hg2) (cs_f2 hgl cp1 hg2) ?_
  have hl := lv_sub hl [] rfl
  exact a_X8_powerOf_b13 E hA hX hN hml hst (fun ad H locs ls had G => W.vret hx hb hr (fun t ht hW => ⟨⟨(T1, ad), rfl, ⟨rfl, had⟩, ⟨by rw [ht]; exact G.1, va_K.moved hW.alike hK, G.2.1⟩⟩, G.2.2.F ht⟩) G.2.2.2.2 dX8_powerOf_13) _ _ _ _ _ h (GL.tr (gl_cpr hgl cp1) hg2) hrc2 (fun n hn => (hga n (by rw [cp1.1]; exact Nat.lt_of_lt_of_le hn hgl.1)).trans (had n hn)) G hl
def g_X8_productSum_b50 (k10 : AT → Nat → Int32 → Int32 → Int32 → Nat → Int32 → Int32 → Option (AT)) (T : AT) (l0 : Nat) (l1 : Int32) (l2 : Int32) (l3 : Int32) (l4 : Nat) (l5 : Int32) (l6 : Int32) : Option (AT) := elet (l6 + Int32.ofInt (1)) fun v2 => k10 T l0 l1 l2 l3 l4 l5 v2
def g_X8_productSum_b10  : Nat → AT → Nat → Int32 → Int32 → Int32 → Nat → Int32 → Int32 → Option (AT)
  | 0, _, _, _, _, _, _, _, _ => none
  | n + 1, T, l0, l1, l2, l3, l4, l5, l6 => elet (l6 + l3) fun v2 => oif (oO T l0 8 = true) <| elet (T.2.2.1 l0 1) fun v4 => if v4 ≤ v2 then (some T) else (oif (oO T l0 8 = true) <| obind (T.2.2.2.2 l0 10) fun n7 => obind (g_X8_placeOf l1 l6) fun r8 => oif (oO T l0 8 = true) <| obind (T.2.2.2.2 l0 10) fun n11 => elet (l6 + l3) fun v12 => obind (g_X8_placeOf l2 v12) fun r13 => oif (oO T l4 10 = true) <| obind (g_X10_addProduct T l4 l5 n7 r8 n11 r13) fun T16 => g_X8_productSum_b50 (g_X8_productSum_b10 n) T16 l0 l1 l2 l3 l4 l5 l6)
def g_X8_productSum (T : AT) (o : Nat) (a0 : Int32) (a1 : Int32) (a2 : Int32) (a3 : Nat) (a4 : Int32) : Option (AT) := oif (oO T a3 10 = true) <| obind (g_X10_clear T a3 a4) fun T3 => g_X8_productSum_b10 16384 T3 o a0 a1 a2 a3 a4 0
set_option maxHeartbeats 4000000 in
set_option maxRecDepth 100000 in
theorem s_X8_productSum_b50 {T1 : AT} {k10 : AT → Nat → Int32 → Int32 → Int32 → Nat → Int32 → Int32 → Option (AT)} (hk10 : ∀ (T : AT) (l0 : Nat) (l1 : Int32) (l2 : Int32) (l3 : Int32) (l4 : Nat) (l5 : Int32) (l6 : Int32), k10 T l0 l1 l2 l3 l4 l5 l6 = some T1 → GL T T1) : ∀ (T : AT) (l0 : Nat) (l1 : Int32) (l2 : Int32) (l3 : Int32) (l4 : Nat) (l5 : Int32) (l6 : Int32), g_X8_productSum_b50 k10 T l0 l1 l2 l3 l4 l5 l6 = some T1 → GL T T1 := by
  intro T l0 l1 l2 l3 l4 l5 l6 h
  have p0 := GL.rf T
  unfold g_X8_productSum_b50 at h
  obtain ⟨v2, ev2, h⟩ := elet_some h
  exact GL.tr p0 (hk10 _ _ _ _ _ _ _ _ h)
set_option maxHeartbeats 4000000 in
set_option maxRecDepth 100000 in
theorem s_X8_productSum_b10 {T1 : AT} : ∀ n : Nat, ∀ (T : AT) (l0 : Nat) (l1 : Int32) (l2 : Int32) (l3 : Int32) (l4 : Nat) (l5 : Int32) (l6 : Int32), g_X8_productSum_b10 n T l0 l1 l2 l3 l4 l5 l6 = some T1 → GL T T1 := by
  intro n
  induction n with
  | zero =>
    intro T l0 l1 l2 l3 l4 l5 l6 h
    have h : (none : Option (AT)) = some T1 := h
    cases h
  | succ n ih =>
    intro T l0 l1 l2 l3 l4 l5 l6 h
    have p0 := GL.rf T
    unfold g_X8_productSum_b10 at h
    obtain ⟨v2, -, h⟩ := elet_some h
    obtain ⟨g3, h⟩ := oif_some h
    obtain ⟨v4, -, h⟩ := elet_some h
    rcases oif_or h with ⟨c5, h⟩ | ⟨c5, h⟩
    · have h := h
      rw [← osome1 h]
      exact p0
    · have h := h
      obtain ⟨g6, h⟩ := oif_some h
      obtain ⟨n7, en7, h⟩ := obind_some h
      obtain ⟨r8, -, h⟩ := obind_some h
      obtain ⟨g9, h⟩ := oif_some h
      obtain ⟨n10, en10, h⟩ := obind_some h
      obtain ⟨v11, -, h⟩ := elet_some h
      obtain ⟨r12, -, h⟩ := obind_some h
      obtain ⟨g13, h⟩ := oif_some h
      obtain ⟨T14, eT14, h⟩ := obind_some h
      have p1 : GL T T14 := GL.tr p0 (s_X10_addProduct eT14)
      exact GL.tr p1 (s_X8_productSum_b50 ih _ _ _ _ _ _ _ _ h)
set_option maxHeartbeats 4000000 in
set_option maxRecDepth 100000 in
theorem s_X8_productSum {T : AT} {o : Nat} {a0 : Int32} {a1 : Int32} {a2 : Int32} {a3 : Nat} {a4 : Int32} {T1 : AT} (h : g_X8_productSum T o a0 a1 a2 a3 a4 = some T1) : GL T T1 := by
  have p0 := GL.rf T
  unfold g_X8_productSum at h
  obtain ⟨g2, h⟩ := oif_some h
  obtain ⟨T3, eT3, h⟩ := obind_some h
  have p1 : GL T T3 := GL.tr p0 (gl_sp (s_X10_clear eT3))
  exact GL.tr p1 (s_X8_productSum_b10 _ _ _ _ _ _ _ _ _ h)
set_option maxHeartbeats 4000000 in
set_option maxRecDepth 100000 in
theorem a_X8_productSum_b50 {p : Program} {l : Launch} {e : Env} {s : State} {m : MethodId} {args : Array Value} {below : List Frame} {meth : Method} {c : Code} {Q : State → Prop} {D : va_G} {A : Nat → Prop} {cI cJ cZ cMic cSrc cSt cAI cAJ : ClassId} {ad0 : Nat → Nat} {T0 : AT} {T1 : AT} (E : cE p c cX8_productSum s m args (Cond.code yX8_productSum cX8_productSum 7 none :: wsA) D RX8 (CT cI cJ cZ cMic cSrc cSt cAI cAJ)) (hA : ∀ q : Nat, s.heap.size ≤ q → A q) (hX : xT A s) (hN : nX s) (hml : c.maxLocals = 7) (hst : l.stackTraces = false) (kr56 : ∀ (ad : Nat → Nat) (H : Heap) (locs : List Loc) (ls : Array Slot), (∀ n, n < T0.1 → ad n = ad0 n) → gC cI cJ cZ cMic cSrc cSt cAI cAJ D ad A s.heap H locs T1 → W p l e { frames := 4, cells := T1.1 - T0.1, slots := sg T1 - sg T0, locals := 78 } s m args below meth c H locs (T1.1 - T0.1) (sg T1 - sg T0) Q (F0 m 56 ls [])) {k10 : AT → Nat → Int32 → Int32 → Int32 → Nat → Int32 → Int32 → Option (AT)} (hs10 : ∀ (T : AT) (l0 : Nat) (l1 : Int32) (l2 : Int32) (l3 : Int32) (l4 : Nat) (l5 : Int32) (l6 : Int32), k10 T l0 l1 l2 l3 l4 l5 l6 = some T1 → GL T T1) (hk10 : ∀ (T : AT) (ad : Nat → Nat) (H : Heap) (locs : List Loc) (ls : Array Slot) (l0 : Nat) (l1 : Int32) (l2 : Int32) (l3 : Int32) (l4 : Nat) (l5 : Int32) (l6 : Int32), k10 T l0 l1 l2 l3 l4 l5 l6 = some T1 → GL T0 T → RC T → (∀ n, n < T0.1 → ad n = ad0 n) → l0 < T.1 → l4 < T.1 → gC cI cJ cZ cMic cSrc cSt cAI cAJ D ad A s.heap H locs T → lv_has ls 7 [(0, .ref (ad l0)), (1, .int l1), (2, .int l2), (3, .int l3), (4, .ref (ad l4)), (5, .int l5), (6, .int l6)] → W p l e { frames := 4, cells := T1.1 - T0.1, slots := sg T1 - sg T0, locals := 78 } s m args below meth c H locs (T.1 - T0.1) (sg T - sg T0) Q (F0 m 10 ls [])) : ∀ (T : AT) (ad : Nat → Nat) (H : Heap) (locs : List Loc) (ls : Array Slot) (l0 : Nat) (l1 : Int32) (l2 : Int32) (l3 : Int32) (l4 : Nat) (l5 : Int32) (l6 : Int32), g_X8_productSum_b50 k10 T l0 l1 l2 l3 l4 l5 l6 = some T1 → GL T0 T → RC T → (∀ n, n < T0.1 → ad n = ad0 n) → l0 < T.1 → l4 < T.1 → gC cI cJ cZ cMic cSrc cSt cAI cAJ D ad A s.heap H locs T → lv_has ls 7 [(0, .ref (ad l0)), (1, .int l1), (2, .int l2), (3, .int l3), (4, .ref (ad l4)), (5, .int l5), (6, .int l6)] → W p l e { frames := 4, cells := T1.1 - T0.1, slots := sg T1 - sg T0, locals := 78 } s m args below meth c H locs (T.1 - T0.1) (sg T - sg T0) Q (F0 m 50 ls []) := by
  have hx := E.1
  have hb := E.2.1
  have hts := E.2.2.1
  have hown := E.2.2.2.1
  have hK := E.2.2.2.2
  intro T ad H locs ls l0 l1 l2 l3 l4 l5 l6 h hgl hrc had h_l0 h_l4 G hl
  have hT1 := s_X8_productSum_b50 hs10 _ _ _ _ _ _ _ _ h
  have hcs := cs_ok hgl hT1
  have cp0 := cpr0 hrc
  unfold g_X8_productSum_b50 at h
  obtain ⟨v2, ev2, h⟩ := elet_some h
  refine lv_iinc (v := v2) (lv' := [(6, .int v2), (0, .ref (ad l0)), (1, .int l1), (2, .int l2), (3, .int l3), (4, .ref (ad l4)), (5, .int l5)]) hx hb dX8_productSum_50 hl (k := 6) rfl ev2.symm (by decide) rfl (fun ls hl => ?_)
  refine lv_goto (tgt := 10) hx hb dX8_productSum_53 (by decide) ?_
  have hl := lv_sub hl [1, 2, 3, 4, 5, 6, 0] rfl
  refine w_cast (c2 := T.1 - T0.1) (s2 := sg T - sg T0) (by rw [cp0.1] <;> rfl) (by rw [sg_cpr cp0] <;> rfl) ?_
  exact hk10 _ _ _ _ _ _ _ _ _ _ _ _ h (gl_cpr hgl cp0) cp0.2.2 had (by rw [cp0.1]; exact h_l0) (by rw [cp0.1]; exact h_l4) G hl
set_option maxHeartbeats 4000000 in
set_option maxRecDepth 100000 in
theorem a_X8_productSum_b10 {p : Program} {l : Launch} {e : Env} {s : State} {m : MethodId} {args : Array Value} {below : List Frame} {meth : Method} {c : Code} {Q : State → Prop} {D : va_G} {A : Nat → Prop} {cI cJ cZ cMic cSrc cSt cAI cAJ : ClassId} {ad0 : Nat → Nat} {T0 : AT} {T1 : AT} (E : cE p c cX8_productSum s m args (Cond.code yX8_productSum cX8_productSum 7 none :: wsA) D RX8 (CT cI cJ cZ cMic cSrc cSt cAI cAJ)) (hA : ∀ q : Nat, s.heap.size ≤ q → A q) (hX : xT A s) (hN : nX s) (hml : c.maxLocals = 7) (hst : l.stackTraces = false) (kr56 : ∀ (ad : Nat → Nat) (H : Heap) (locs : List Loc) (ls : Array Slot), (∀ n, n < T0.1 → ad n = ad0 n) → gC cI cJ cZ cMic cSrc cSt cAI cAJ D ad A s.heap H locs T1 → W p l e { frames := 4, cells := T1.1 - T0.1, slots := sg T1 - sg T0, locals := 78 } s m args below meth c H locs (T1.1 - T0.1) (sg T1 - sg T0) Q (F0 m 56 ls [])) : ∀ n : Nat, ∀ (T : AT) (ad : Nat → Nat) (H : Heap) (locs : List Loc) (ls : Array Slot) (l0 : Nat) (l1 : Int32) (l2 : Int32) (l3 : Int32) (l4 : Nat) (l5 : Int32) (l6 : Int32), g_X8_productSum_b10 n T l0 l1 l2 l3 l4 l5 l6 = some T1 → GL T0 T → RC T → (∀ n, n < T0.1 → ad n = ad0 n) → l0 < T.1 → l4 < T.1 → gC cI cJ cZ cMic cSrc cSt cAI cAJ D ad A s.heap H locs T → lv_has ls 7 [(0, .ref (ad l0)), (1, .int l1), (2, .int l2), (3, .int l3), (4, .ref (ad l4)), (5, .int l5), (6, .int l6)] → W p l e { frames := 4, cells := T1.1 - T0.1, slots := sg T1 - sg T0, locals := 78 } s m args below meth c H locs (T.1 - T0.1) (sg T - sg T0) Q (F0 m 10 ls []) := by
  have hx := E.1
  have hb := E.2.1
  have hts := E.2.2.1
  have hown := E.2.2.2.1
  have hK := E.2.2.2.2
  intro n
  induction n with
  | zero =>
    intro T ad H locs ls l0 l1 l2 l3 l4 l5 l6 h
    have h : (none : Option (AT)) = some T1 := h
    cases h
  | succ n ih =>
    intro T ad H locs ls l0 l1 l2 l3 l4 l5 l6 h hgl hrc had h_l0 h_l4 G hl
    have hT1 := s_X8_productSum_b10 _ _ _ _ _ _ _ _ _ h
    have hcs := cs_ok hgl hT1
    have cp0 := cpr0 hrc
    unfold g_X8_productSum_b10 at h
    refine lv_iload hx hb dX8_productSum_10 (lv_at hl 6 rfl) ?_
    refine lv_iload_n hx hb dX8_productSum_12 rfl (lv_at hl 3 rfl) ?_
    refine lv_iadd hx hb dX8_productSum_13 ?_
    refine lv_topi (fun v2 ev2 => ?_)
    have h := elet_at ev2 h
    clear ev2
    refine lv_aload_n hx hb dX8_productSum_14 rfl (lv_at hl 0 rfl) ?_
    obtain ⟨g3, h⟩ := oif_some h
    refine c_get E G l0 1 (oO_k g3).1 (cc_o8 (oO_k g3).2) rfl (fun w h => .tail _ (iA_16 h)) (by decide) (.tail _ qA_57) rfl rfl dX8_productSum_15 ?_
    refine lv_topi (fun v4 ev4 => ?_)
    have h := elet_at ev4 h
    clear ev4
    refine lv_icmp_ge (tgt := 56) hx hb dX8_productSum_18 (by decide) (fun c5 => ?_) (fun c5 => ?_)
    · have h := oif_pos c5 h
      rw [osome1 h] at G
      refine w_cast (c2 := T1.1 - T0.1) (s2 := sg T1 - sg T0) (by rw [← osome1 h, cp0.1] <;> rfl) (by rw [← osome1 h, sg_cpr cp0] <;> rfl) ?_
      exact kr56 ad _ _ _ had G
    · have h := oif_neg c5 h
      refine lv_aload hx hb dX8_productSum_21 (lv_at hl 4 rfl) ?_
      refine lv_iload hx hb dX8_productSum_23 (lv_at hl 5 rfl) ?_
      refine lv_aload_n hx hb dX8_productSum_25 rfl (lv_at hl 0 rfl) ?_
      obtain ⟨g6, h⟩ := oif_some h
      obtain ⟨n7, en7, h⟩ := obind_some h
      have h_n7 : n7 < T.1 := by rw [← cp0.1]; exact cp0.2.2 _ _ _ en7
      refine c_get E G l0 10 (v := .ref (ad n7)) (oO_k g6).1 (cc_o8 (oO_k g6).2) rfl (fun w h => .tail _ (iA_16 h)) (by decide) (.tail _ qA_73) rfl (by rw [en7]; rfl) dX8_productSum_26 ?_
      clear en7
      refine lv_iload_n hx hb dX8_productSum_29 rfl (lv_at hl 1 rfl) ?_
      refine lv_iload hx hb dX8_productSum_30 (lv_at hl 6 rfl) ?_
      obtain ⟨r8, er8, h⟩ := obind_some h
      refine q_sti (As := [.int l1, .int l6]) (rest := [.ref (ad n7), .int l5, .ref (ad l4)]) ⟨hx, hb, hml, hown, hts⟩ hN (u_X8_placeOf l l1 l6 er8) (cwS 2 hts (gaS qA_87 qA_88 qA_47 qA_89) rfl rfl rfl (by decide +kernel) ⟨Nat.le_of_ble_eq_true rfl, Nat.le_of_ble_eq_true rfl⟩) rfl hl.1 rfl (lv_room (Nat.le_of_ble_eq_true rfl)) dX8_productSum_32 hcs (fun q9 hq => ?_)
      refine lv_to hq ?_
      clear hq er8
      refine lv_aload_n hx hb dX8_productSum_35 rfl (lv_at hl 0 rfl) ?_
      obtain ⟨g10, h⟩ := oif_some h
      obtain ⟨n11, en11, h⟩ := obind_some h
      have h_n11 : n11 < T.1 := by rw [← cp0.1]; exact cp0.2.2 _ _ _ en11
      refine c_get E G l0 10 (v := .ref (ad n11)) (oO_k g10).1 (cc_o8 (oO_k g10).2) rfl (fun w h => .tail _ (iA_16 h)) (by decide) (.tail _ qA_73) rfl (by rw [en11]; rfl) dX8_productSum_36 ?_
      clear en11
      refine lv_iload_n hx hb dX8_productSum_39 rfl (lv_at hl 2 rfl) ?_
      refine lv_iload hx hb dX8_productSum_40 (lv_at hl 6 rfl) ?_
      refine lv_iload_n hx hb dX8_productSum_42 rfl (lv_at hl 3 rfl) ?_
      refine lv_iadd hx hb dX8_productSum_43 ?_
      refine lv_topi (fun v12 ev12 => ?_)
      have h := elet_at ev12 h
      clear ev12
      obtain ⟨r13, er13, h⟩ := obind_some h
      refine q_sti (As := [.int l2, .int v12]) (rest := [.ref (ad n11), .int r8, .ref (ad n7), .int l5, .ref (ad l4)]) ⟨hx, hb, hml, hown, hts⟩ hN (u_X8_placeOf l l2 v12 er13) (cwS 2 hts (gaS qA_87 qA_88 qA_47 qA_89) rfl rfl rfl (by decide +kernel) ⟨Nat.le_of_ble_eq_true rfl, Nat.le_of_ble_eq_true rfl⟩) rfl hl.1 rfl (lv_room (Nat.le_of_ble_eq_true rfl)) dX8_productSum_44 hcs (fun q14 hq => ?_)
      refine lv_to hq ?_
      clear hq er13
      obtain ⟨g15, h⟩ := oif_some h
      obtain ⟨T16, eT16, h⟩ := obind_some h
      have hg2 := s_X10_addProduct eT16
      have hrc2 := hg2.2.2 cp0.2.2
      have hT2 := s_X8_productSum_b50 (s_X8_productSum_b10 n) _ _ _ _ _ _ _ _ h
      refine q_avv (As := [.int l5, .ref (ad n7), .int r8, .ref (ad n11), .int r13]) (rest := []) E G hA hX hN hml (a_X10_addProduct l hst D cI cJ cZ cMic cSrc cSt cAI cAJ ad T l4 l5 n7 r8 n11 r13 eT16 cp0.2.2 (by rw [cp0.1]; exact h_l4) (by rw [cp0.1]; exact h_n7) (by rw [cp0.1]; exact h_n11)) (cwV 5 hts (gaV qA_99 qA_100 qA_101 qA_6 qA_102) rfl rfl rfl (by decide +kernel) ⟨Nat.le_of_ble_eq_true rfl, Nat.le_of_ble_eq_true rfl⟩) (oO_k g15).1 (cc_o10 (oO_k g15).2) rfl rfl hl.1 rfl (lv_room (Nat.le_of_ble_eq_true rfl)) dX8_productSum_47 (cs_av hgl cp0 hg2 hT2) (fun ad2 H locs hga G => ?_)
      refine w_cast (c2 := T16.1 - T0.1) (s2 := sg T16 - sg T0) (cs_f1 hgl cp0 hg2) (cs_f2 hgl cp0 hg2) ?_
      have hl := lv_sub hl [0, 1, 2, 3, 4, 5, 6] rfl
      rw [show ad l0 = ad2 l0 from (hga l0 (by rw [cp0.1]; exact h_l0)).symm] at hl
      rw [show ad l4 = ad2 l4 from (hga l4 (by rw [cp0.1]; exact h_l4)).symm] at hl
      exact a_X8_productSum_b50 E hA hX hN hml hst kr56 (s_X8_productSum_b10 n) ih _ _ _ _ _ _ _ _ _ _ _ _ h (GL.tr (gl_cpr hgl cp0) hg2) hrc2 (fun n hn => (hga n (by rw [cp0.1]; exact Nat.lt_of_lt_of_le hn hgl.1)).trans (had n hn)) (Nat.lt_of_lt_of_le (by rw [cp0.1]; exact h_l0) hg2.1) (Nat.lt_of_lt_of_le (by rw [cp0.1]; exact h_l4) hg2.1) G hl
set_option maxHeartbeats 4000000 in
set_option maxRecDepth 100000 in
theorem a_X8_productSum (l : Launch) (hst : l.stackTraces = false) (D : va_G) (cI cJ cZ cMic cSrc cSt cAI cAJ : ClassId) (ad : Nat → Nat) (T : AT) (o : Nat) (a0 : Int32) (a1 : Int32) (a2 : Int32) (a3 : Nat) (a4 : Int32) {T1 : AT} (h : g_X8_productSum T o a0 a1 a2 a3 a4 = some T1) (hrc : RC T) (h_o : o < T.1) (h_a3 : a3 < T.1) : kAv l yX8_productSum (Cond.code yX8_productSum cX8_productSum 7 none :: wsA) 4 78 cI cJ cZ cMic cSrc cSt cAI cAJ D ad T [.ref (ad o), .int a0, .int a1, .int a2, .ref (ad a3), .int a4] T1 := by
  intro sz
  refine Met.ofW (cc := cX8_productSum) (maxL := 7) (ret := none) (by decide) rfl ?_
  intro p e s m args below meth c s₁ B hml hv
  obtain ⟨rfl, hsz, hP, hK, hD0, hX, hN⟩ := hv
  have hx := B.exec
  have hb := B.bytes
  have hr := B.returns
  have hts := atoms_spec (ws := (Cond.code yX8_productSum cX8_productSum 7 none :: wsA)) B.pre
  have hown : s.vm.findClass RX8 = some m.cls := findClass_of_methodNamed B.named
  have hlocks := B.notSynchronized
  subst hsz
  have hD := hD0.self (sz := s.heap.size)
  generalize hAe : va_A (cW ad T.1 (cc cI cJ cZ cMic cSrc cSt cAI cAJ ad T)) s.heap.size = A at hD hX ⊢
  have hA : ∀ q : Nat, s.heap.size ≤ q → A q := fun q h => by rw [← hAe]; exact Or.inr h
  have G : gC cI cJ cZ cMic cSrc cSt cAI cAJ D ad A s.heap s.heap [] T := ⟨hP, hD, va_S.rf⟩
  have E : cE p c cX8_productSum s m ([.ref (ad o), .int a0, .int a1, .int a2, .ref (ad a3), .int a4] : List Value).toArray (Cond.code yX8_productSum cX8_productSum 7 none :: wsA) D RX8 (CT cI cJ cZ cMic cSrc cSt cAI cAJ) := ⟨hx, hb, hts, hown, hK⟩
  have hl := lv_entry ([.ref (ad o), .int a0, .int a1, .int a2, .ref (ad a3), .int a4]) (n := 7) (Nat.le_of_ble_eq_true rfl)
  rw [lg_entry_eq]
  generalize (lg_sl ([.ref (ad o), .int a0, .int a1, .int a2, .ref (ad a3), .int a4]) ++ List.replicate (7 - (lg_sl ([.ref (ad o), .int a0, .int a1, .int a2, .ref (ad a3), .int a4])).length) Slot.unset).toArray = ls at hl ⊢
  have hl : lv_has ls 7 [(0, .ref (ad o)), (1, .int a0), (2, .int a1), (3, .int a2), (4, .ref (ad a3)), (5, .int a4)] := hl
  have hgl := GL.rf T
  have had : ∀ n, n < T.1 → ad n = ad n := fun _ _ => rfl
  have hT1 := s_X8_productSum h
  have hcs := cs_ok hgl hT1
  refine w_cast (Nat.sub_self T.1).symm (Nat.sub_self (sg T)).symm ?_
  have cp0 := cpr0 hrc
  unfold g_X8_productSum at h
  refine lv_aload hx hb dX8_productSum_0 (lv_at hl 4 rfl) ?_
  refine lv_iload hx hb dX8_productSum_2 (lv_at hl 5 rfl) ?_
  obtain ⟨g2, h⟩ := oif_some h
  obtain ⟨T3, eT3, h⟩ := obind_some h
  refine q_cvv (As := [.int a4]) (rest := []) E G hA hX hN hml (u_X10_clear l hst D cI cJ cZ cMic cSrc cSt cAI cAJ ad T a3 a4 eT3) (cwV 1 hts (gaV qA_65 qA_66 qA_67 qA_6 qA_68) rfl rfl rfl (by decide +kernel) ⟨Nat.le_of_ble_eq_true rfl, Nat.le_of_ble_eq_true rfl⟩) (oO_k g2).1 (cc_o10 (oO_k g2).2) rfl rfl hl.1 rfl (lv_room (Nat.le_of_ble_eq_true rfl)) dX8_productSum_4 hcs (fun T4 H locs hq G => ?_)
  rw [hq] at G
  clear hq
  have cp1 := cpr_sp cp0 (s_X10_clear eT3)
  refine lv_iconst (v := 0) hx hb dX8_productSum_7 (by decide) ?_
  refine lv_istore (lv' := [(6, .int 0), (0, .ref (ad o)), (1, .int a0), (2, .int a1), (3, .int a2), (4, .ref (ad a3)), (5, .int a4)]) hx hb dX8_productSum_8 hl (by decide) rfl (fun ls hl => ?_)
  have hl := lv_sub hl [1, 2, 3, 4, 5, 6, 0] rfl
  refine w_cast (c2 := T3.1 - T.1) (s2 := sg T3 - sg T) (by rw [cp1.1] <;> rfl) (by rw [sg_cpr cp1] <;> rfl) ?_
  exact a_X8_productSum_b10 E hA hX hN hml hst (fun ad H locs ls had G => W.vret hx hb hr (fun t ht hW => ⟨⟨(T1, ad), rfl, ⟨rfl, had⟩, ⟨by rw [ht]; exact G.1, va_K.moved hW.alike hK, G.2.1⟩⟩, G.2.2.F ht⟩) G.2.2.2.2 dX8_productSum_56) _ _ _ _ _ _ _ _ _ _ _ _ _ h (gl_cpr hgl cp1) cp1.2.2 had (by rw [cp1.1]; exact h_o) (by rw [cp1.1]; exact h_a3) G hl
def g_X10_multiply_b34  (T : AT)  : Option (AT) := some T
def g_X10_multiply_b2  : Nat → AT → Nat → Int32 → Int32 → Int32 → Option (AT)
  | 0, _, _, _, _, _ => none
  | n + 1, T, l0, l1, l2, l3 => oif (oO T l0 10 = true) <| elet (T.2.2.1 l0 2) fun v3 => if v3 ≤ l3 then (oif (oO T l0 10 = true) <| obind (g_X10_settle T l0 l1) fun T6 => g_X10_multiply_b34 T6) else (oif (oO T l0 10 = true) <| obind (T.2.2.2.2 l0 1) fun n9 => oif (aA T n9 107 = true) <| oif (inb l3 (T.2.1 n9).2 = true) <| obind (T.2.2.2.2 n9 l3.toNatClampNeg) fun n12 => oif (aA T n12 101 = true) <| oif (inb l1 (T.2.1 n12).2 = true) <| elet (T.2.2.2.1 n12 l1.toNatClampNeg) fun v15 => elet (l2.toInt64) fun v16 => elet (v15 * v16) fun v17 => oif (aA T n12 101 = true) <| oif (inb l1 (T.2.1 n12).2 = true) <| elet (uJ T n12 l1.toNatClampNeg v17) fun T20 => elet (l3 + Int32.ofInt (1)) fun v21 => g_X10_multiply_b2 n T20 l0 l1 l2 v21)
def g_X10_multiply (T : AT) (o : Nat) (a0 : Int32) (a1 : Int32) : Option (AT) := g_X10_multiply_b2 16384 T o a0 a1 0
set_option maxHeartbeats 4000000 in
set_option maxRecDepth 100000 in
theorem s_X10_multiply_b34 {T1 : AT} : ∀ (T : AT), g_X10_multiply_b34 T = some T1 → GL T T1 := by
  intro T h
  have p0 := GL.rf T
  unfold g_X10_multiply_b34 at h
  rw [← osome1 h]
  exact p0
set_option maxHeartbeats 4000000 in
set_option maxRecDepth 100000 in
theorem s_X10_multiply_b2 {T1 : AT} : ∀ n : Nat, ∀ (T : AT) (l0 : Nat) (l1 : Int32) (l2 : Int32) (l3 : Int32), g_X10_multiply_b2 n T l0 l1 l2 l3 = some T1 → GL T T1 := by
  intro n
  induction n with
  | zero =>
    intro T l0 l1 l2 l3 h
    have h : (none : Option (AT)) = some T1 := h
    cases h
  | succ n ih =>
    intro T l0 l1 l2 l3 h
    have p0 := GL.rf T
    unfold g_X10_multiply_b2 at h
    obtain ⟨g2, h⟩ := oif_some h
    obtain ⟨v3, -, h⟩ := elet_some h
    rcases oif_or h with ⟨c4, h⟩ | ⟨c4, h⟩
    · have h := h
      obtain ⟨g5, h⟩ := oif_some h
      obtain ⟨T6, eT6, h⟩ := obind_some h
      have p1 : GL T T6 := GL.tr p0 (s_X10_settle eT6)
      exact GL.tr p1 (s_X10_multiply_b34 _ h)
    · have h := h
      obtain ⟨g8, h⟩ := oif_some h
      obtain ⟨n9, en9, h⟩ := obind_some h
      obtain ⟨g10, h⟩ := oif_some h
      obtain ⟨g11, h⟩ := oif_some h
      obtain ⟨n12, en12, h⟩ := obind_some h
      obtain ⟨g13, h⟩ := oif_some h
      obtain ⟨g14, h⟩ := oif_some h
      obtain ⟨v15, -, h⟩ := elet_some h
      obtain ⟨v16, -, h⟩ := elet_some h
      obtain ⟨v17, -, h⟩ := elet_some h
      obtain ⟨g18, h⟩ := oif_some h
      obtain ⟨g19, h⟩ := oif_some h
      obtain ⟨T20, eT20, h⟩ := elet_some h
      have p1 : GL T T20 := GL.tr p0 (by rw [eT20]; exact gl_sp sp_uJ)
      obtain ⟨v21, ev21, h⟩ := elet_some h
      exact GL.tr p1 (ih _ _ _ _ _ h)
set_option maxHeartbeats 4000000 in
set_option maxRecDepth 100000 in
theorem s_X10_multiply {T : AT} {o : Nat} {a0 : Int32} {a1 : Int32} {T1 : AT} (h : g_X10_multiply T o a0 a1 = some T1) : GL T T1 := by
  have p0 := GL.rf T
  unfold g_X10_multiply at h
  exact GL.tr p0 (s_X10_multiply_b2 _ _ _ _ _ _ h)
set_option maxHeartbeats 4000000 in
set_option maxRecDepth 100000 in
theorem a_X10_multiply_b34 {p : Program} {l : Launch} {e : Env} {s : State} {m : MethodId} {args : Array Value} {below : List Frame} {meth : Method} {c : Code} {Q : State → Prop} {D : va_G} {A : Nat → Prop} {cI cJ cZ cMic cSrc cSt cAI cAJ : ClassId} {ad0 : Nat → Nat} {T0 : AT} {T1 : AT} (E : cE p c cX10_multiply s m args (Cond.code yX10_multiply cX10_multiply 4 none :: wsA) D RX10 (CT cI cJ cZ cMic cSrc cSt cAI cAJ)) (hA : ∀ q : Nat, s.heap.size ≤ q → A q) (hX : xT A s) (hN : nX s) (hml : c.maxLocals = 4) (hst : l.stackTraces = false) (kr34 : ∀ (ad : Nat → Nat) (H : Heap) (locs : List Loc) (ls : Array Slot), (∀ n, n < T0.1 → ad n = ad0 n) → gC cI cJ cZ cMic cSrc cSt cAI cAJ D ad A s.heap H locs T1 → W p l e { frames := 3, cells := T1.1 - T0.1, slots := sg T1 - sg T0, locals := 49 } s m args below meth c H locs (T1.1 - T0.1) (sg T1 - sg T0) Q (F0 m 34 ls [])) : ∀ (T : AT) (ad : Nat → Nat) (H : Heap) (locs : List Loc) (ls : Array Slot), g_X10_multiply_b34 T = some T1 → GL T0 T → RC T → (∀ n, n < T0.1 → ad n = ad0 n) → gC cI cJ cZ cMic cSrc cSt cAI cAJ D ad A s.heap H locs T → lv_has ls 4 [] → W p l e { frames := 3, cells := T1.1 - T0.1, slots := sg T1 - sg T0, locals := 49 } s m args below meth c H locs (T.1 - T0.1) (sg T - sg T0) Q (F0 m 34 ls []) := by
  have hx := E.1
  have hb := E.2.1
  have hts := E.2.2.1
  have hown := E.2.2.2.1
  have hK := E.2.2.2.2
  intro T ad H locs ls h hgl hrc had G hl
  have hT1 := s_X10_multiply_b34 _ h
  have hcs := cs_ok hgl hT1
  have cp0 := cpr0 hrc
  unfold g_X10_multiply_b34 at h
  rw [osome1 h] at G
  refine w_cast (c2 := T1.1 - T0.1) (s2 := sg T1 - sg T0) (by rw [← osome1 h, cp0.1] <;> rfl) (by rw [← osome1 h, sg_cpr cp0] <;> rfl) ?_
  exact kr34 ad _ _ _ had G
set_option maxHeartbeats 4000000 in
set_option maxRecDepth 100000 in
theorem a_X10_multiply_b2 {p : Program} {l : Launch} {e : Env} {s : State} {m : MethodId} {args : Array Value} {below : List Frame} {meth : Method} {c : Code} {Q : State → Prop} {D : va_G} {A : Nat → Prop} {cI cJ cZ cMic cSrc cSt cAI cAJ : ClassId} {ad0 : Nat → Nat} {T0 : AT} {T1 : AT} (E : cE p c cX10_multiply s m args (Cond.code yX10_multiply cX10_multiply 4 none :: wsA) D RX10 (CT cI cJ cZ cMic cSrc cSt cAI cAJ)) (hA : ∀ q : Nat, s.heap.size ≤ q → A q) (hX : xT A s) (hN : nX s) (hml : c.maxLocals = 4) (hst : l.stackTraces = false) (kr34 : ∀ (ad : Nat → Nat) (H : Heap) (locs : List Loc) (ls : Array Slot), (∀ n, n < T0.1 → ad n = ad0 n) → gC cI cJ cZ cMic cSrc cSt cAI cAJ D ad A s.heap H locs T1 → W p l e { frames := 3, cells := T1.1 - T0.1, slots := sg T1 - sg T0, locals := 49 } s m args below meth c H locs (T1.1 - T0.1) (sg T1 - sg T0) Q (F0 m 34 ls [])) : ∀ n : Nat, ∀ (T : AT) (ad : Nat → Nat) (H : Heap) (locs : List Loc) (ls : Array Slot) (l0 : Nat) (l1 : Int32) (l2 : Int32) (l3 : Int32), g_X10_multiply_b2 n T l0 l1 l2 l3 = some T1 → GL T0 T → RC T → (∀ n, n < T0.1 → ad n = ad0 n) → l0 < T.1 → gC cI cJ cZ cMic cSrc cSt cAI cAJ D ad A s.heap H locs T → lv_has ls 4 [(0, .ref (ad l0)), (1, .int l1), (2, .int l2), (3, .int l3)] → W p l e { frames := 3, cells := T1.1 - T0.1, slots := sg T1 - sg T0, locals := 49 } s m args below meth c H locs (T.1 - T0.1) (sg T - sg T0) Q (F0 m 2 ls []) := by
  have hx := E.1
  have hb := E.2.1
  have hts := E.2.2.1
  have hown := E.2.2.2.1
  have hK := E.2.2.2.2
  intro n
  induction n with
  | zero =>
    intro T ad H locs ls l0 l1 l2 l3 h
    have h : (none : Option (AT)) = some T1 := h
    cases h
  | succ n ih =>
    intro T ad H locs ls l0 l1 l2 l3 h hgl hrc had h_l0 G hl
    have hT1 := s_X10_multiply_b2 _ _ _ _ _ _ h
    have hcs := cs_ok hgl hT1
    have cp0 := cpr0 hrc
    unfold g_X10_multiply_b2 at h
    refine lv_iload_n hx hb dX10_multiply_2 rfl (lv_at hl 3 rfl) ?_
    refine lv_aload_n hx hb dX10_multiply_3 rfl (lv_at hl 0 rfl) ?_
    obtain ⟨g2, h⟩ := oif_some h
    refine c_get E G l0 2 (oO_k g2).1 (cc_o10 (oO_k g2).2) rfl (fun w h => .tail _ (iA_12 h)) (by decide) (.tail _ qA_15) rfl rfl dX10_multiply_4 ?_
    refine lv_topi (fun v3 ev3 => ?_)
    have h := elet_at ev3 h
    clear ev3
    refine lv_icmp_ge (tgt := 29) hx hb dX10_multiply_7 (by decide) (fun c4 => ?_) (fun c4 => ?_)
    · have h := oif_pos c4 h
      refine lv_aload_n hx hb dX10_multiply_29 rfl (lv_at hl 0 rfl) ?_
      refine lv_iload_n hx hb dX10_multiply_30 rfl (lv_at hl 1 rfl) ?_
      obtain ⟨g5, h⟩ := oif_some h
      obtain ⟨T6, eT6, h⟩ := obind_some h
      have hg2 := s_X10_settle eT6
      have hrc2 := hg2.2.2 cp0.2.2
      have hT2 := s_X10_multiply_b34 _ h
      refine q_avv (As := [.int l1]) (rest := []) E G hA hX hN hml (a_X10_settle l hst D cI cJ cZ cMic cSrc cSt cAI cAJ ad T l0 l1 eT6 cp0.2.2 (by rw [cp0.1]; exact h_l0)) (cwV 1 hts (gaV qA_103 qA_91 qA_92 qA_6 qA_93) rfl rfl rfl (by decide +kernel) ⟨Nat.le_of_ble_eq_true rfl, Nat.le_of_ble_eq_true rfl⟩) (oO_k g5).1 (cc_o10 (oO_k g5).2) rfl rfl hl.1 rfl (lv_room (Nat.le_of_ble_eq_true rfl)) dX10_multiply_31 (cs_av hgl cp0 hg2 hT2) (fun ad2 H locs hga G => ?_)
      refine w_cast (c2 := T6.1 - T0.1) (s2 := sg T6 - sg T0) (cs_f1 hgl cp0 hg2) (cs_f2 hgl cp0 hg2) ?_
      have hl := lv_sub hl [] rfl
      exact a_X10_multiply_b34 E hA hX hN hml hst kr34 _ _ _ _ _ h (GL.tr (gl_cpr hgl cp0) hg2) hrc2 (fun n hn => (hga n (by rw [cp0.1]; exact Nat.lt_of_lt_of_le hn hgl.1)).trans (had n hn)) G hl
    · have h := oif_neg c4 h
      refine lv_aload_n hx hb dX10_multiply_10 rfl (lv_at hl 0 rfl) ?_
      obtain ⟨g8, h⟩ := oif_some h
      obtain ⟨n9, en9, h⟩ := obind_some h
      have h_n9 : n9 < T.1 := by rw [← cp0.1]; exact cp0.2.2 _ _ _ en9
      refine c_get E G l0 1 (v := .ref (ad n9)) (oO_k g8).1 (cc_o10 (oO_k g8).2) rfl (fun w h => .tail _ (iA_12 h)) (by decide) (.tail _ qA_14) rfl (by rw [en9]; rfl) dX10_multiply_11 ?_
      clear en9
      refine lv_iload_n hx hb dX10_multiply_14 rfl (lv_at hl 3 rfl) ?_
      obtain ⟨g10, h⟩ := oif_some h
      obtain ⟨g11, h⟩ := oif_some h
      obtain ⟨n12, en12, h⟩ := obind_some h
      have h_n12 : n12 < T.1 := by rw [← cp0.1]; exact cp0.2.2 _ _ _ en12
      refine c_alda E G n9 7 (k := l3.toNatClampNeg) (v := .ref (ad n12)) (aA_k g10).1 (cc_a107 (aA_k g10).2.1) rfl (inb_k g11).1 (inb_k g11).2 (aA_k g10).2.2 (by show va_rf ((T.2.2.2.2 n9 l3.toNatClampNeg).map ad) = _; rw [en12]; rfl) dX10_multiply_15 ?_
      clear en12
      refine lv_iload_n hx hb dX10_multiply_16 rfl (lv_at hl 1 rfl) ?_
      refine lv_dup2_11 hx hb dX10_multiply_17 rfl rfl ?_
      obtain ⟨g13, h⟩ := oif_some h
      obtain ⟨g14, h⟩ := oif_some h
      refine c_lald E G n12 1 (k := l1.toNatClampNeg) (aA_k g13).1 (cc_a101 (aA_k g13).2.1) rfl (inb_k g14).1 (inb_k g14).2 (aA_k g13).2.2 dX10_multiply_18 ?_
      refine lv_topl (fun v15 ev15 => ?_)
      have h := elet_at ev15 h
      clear ev15
      refine lv_iload_n hx hb dX10_multiply_19 rfl (lv_at hl 2 rfl) ?_
      refine lv_i2l (v := l2.toInt64) hx hb dX10_multiply_20 rfl ?_
      refine lv_topl (fun v16 ev16 => ?_)
      have h := elet_at ev16 h
      clear ev16
      refine lv_lmul hx hb dX10_multiply_21 ?_
      refine lv_topl (fun v17 ev17 => ?_)
      have h := elet_at ev17 h
      clear ev17
      obtain ⟨g18, h⟩ := oif_some h
      obtain ⟨g19, h⟩ := oif_some h
      refine c_last E G n12 1 (k := l1.toNatClampNeg) (v := v17) (aA_k g18).1 (cc_a101 (aA_k g18).2.1) rfl (inb_k g19).1 (inb_k g19).2 (aA_k g18).2.2 dX10_multiply_22 (fun H locs G => ?_)
      have G := gC_up_j (f := vp_updL (T.2.2.2.1 n12) l1.toNatClampNeg v17) (ccv_101 (aA_k g18).2.1) G
      obtain ⟨T20, eT20, h⟩ := elet_some h
      have G : gC cI cJ cZ cMic cSrc cSt cAI cAJ D ad A s.heap H locs T20 := by rw [eT20]; exact G
      have cp1 := show CPR T T20 from by rw [eT20]; exact cpr_sp cp0 sp_uJ
      clear eT20
      obtain ⟨v21, ev21, h⟩ := elet_some h
      refine lv_iinc (v := v21) (lv' := [(3, .int v21), (0, .ref (ad l0)), (1, .int l1), (2, .int l2)]) hx hb dX10_multiply_23 hl (k := 3) rfl ev21.symm (by decide) rfl (fun ls hl => ?_)
      refine lv_goto (tgt := 2) hx hb dX10_multiply_26 (by decide) ?_
      have hl := lv_sub hl [1, 2, 3, 0] rfl
      refine w_cast (c2 := T20.1 - T0.1) (s2 := sg T20 - sg T0) (by rw [cp1.1] <;> rfl) (by rw [sg_cpr cp1] <;> rfl) ?_
      exact ih _ _ _ _ _ _ _ _ _ h (gl_cpr hgl cp1) cp1.2.2 had (by rw [cp1.1]; exact h_l0) G hl
set_option maxHeartbeats 4000000 in
set_option maxRecDepth 100000 in
theorem a_X10_multiply (l : Launch) (hst : l.stackTraces = false) (D : va_G) (cI cJ cZ cMic cSrc cSt cAI cAJ : ClassId) (ad : Nat → Nat) (T : AT) (o : Nat) (a0 : Int32) (a1 : Int32) {T1 : AT} (h : g_X10_multiply T o a0 a1 = some T1) (hrc : RC T) (h_o : o < T.1) : kAv l yX10_multiply (Cond.code yX10_multiply cX10_multiply 4 none :: wsA) 3 49 cI cJ cZ cMic cSrc cSt cAI cAJ D ad T [.ref (ad o), .int a0, .int a1] T1 := by
  intro sz
  refine Met.ofW (cc := cX10_multiply) (maxL := 4) (ret := none) (by decide) rfl ?_
  intro p e s m args below meth c s₁ B hml hv
  obtain ⟨rfl, hsz, hP, hK, hD0, hX, hN⟩ := hv
  have hx := B.exec
  have hb := B.bytes
  have hr := B.returns
  have hts := atoms_spec (ws := (Cond.code yX10_multiply cX10_multiply 4 none :: wsA)) B.pre
  have hown : s.vm.findClass RX10 = some m.cls := findClass_of_methodNamed B.named
  have hlocks := B.notSynchronized
  subst hsz
  have hD := hD0.self (sz := s.heap.size)
  generalize hAe : va_A (cW ad T.1 (cc cI cJ cZ cMic cSrc cSt cAI cAJ ad T)) s.heap.size = A at hD hX ⊢
  have hA : ∀ q : Nat, s.heap.size ≤ q → A q := fun q h => by rw [← hAe]; exact Or.inr h
  have G : gC cI cJ cZ cMic cSrc cSt cAI cAJ D ad A s.heap s.heap [] T := ⟨hP, hD, va_S.rf⟩
  have E : cE p c cX10_multiply s m ([.ref (ad o), .int a0, .int a1] : List Value).toArray (Cond.code yX10_multiply cX10_multiply 4 none :: wsA) D RX10 (CT cI cJ cZ cMic cSrc cSt cAI cAJ) := ⟨hx, hb, hts, hown, hK⟩
  have hl := lv_entry ([.ref (ad o), .int a0, .int a1]) (n := 4) (Nat.le_of_ble_eq_true rfl)
  rw [lg_entry_eq]
  generalize (lg_sl ([.ref (ad o), .int a0, .int a1]) ++ List.replicate (4 - (lg_sl ([.ref (ad o), .int a0, .int a1])).length) Slot.unset).toArray = ls at hl ⊢
  have hl : lv_has ls 4 [(0, .ref (ad o)), (1, .int a0), (2, .int a1)] := hl
  have hgl := GL.rf T
  have had : ∀ n, n < T.1 → ad n = ad n := fun _ _ => rfl
  have hT1 := s_X10_multiply h
  have hcs := cs_ok hgl hT1
  refine w_cast (Nat.sub_self T.1).symm (Nat.sub_self (sg T)).symm ?_
  have cp0 := cpr0 hrc
  unfold g_X10_multiply at h
  refine lv_iconst (v := 0) hx hb dX10_multiply_0 (by decide) ?_
  refine lv_istore_n (lv' := [(3, .int 0), (0, .ref (ad o)), (1, .int a0), (2, .int a1)]) hx hb dX10_multiply_1 rfl hl (by decide) rfl (fun ls hl => ?_)
  have hl := lv_sub hl [1, 2, 3, 0] rfl
  refine w_cast (c2 := T.1 - T.1) (s2 := sg T - sg T) (by rw [cp0.1] <;> rfl) (by rw [sg_cpr cp0] <;> rfl) ?_
  exact a_X10_multiply_b2 E hA hX hN hml hst (fun ad H locs ls had G => W.vret hx hb hr (fun t ht hW => ⟨⟨(T1, ad), rfl, ⟨rfl, had⟩, ⟨by rw [ht]; exact G.1, va_K.moved hW.alike hK, G.2.1⟩⟩, G.2.2.F ht⟩) G.2.2.2.2 dX10_multiply_34) _ _ _ _ _ _ _ _ _ _ h (gl_cpr hgl cp0) cp0.2.2 had (by rw [cp0.1]; exact h_o) G hl
def g_X8_subtractBeam_b115 (k18 : AT → Nat → Nat → Int32 → Int32 → Int32 → Int32 → Option (AT)) (k53 : AT → Nat → Nat → Int32 → Int32 → Int32 → Int32 → Int32 → Option (AT)) (T : AT) (l0 : Nat) (l1 : Nat) (l2 : Int32) (l3 : Int32) (l4 : Int32) (l5 : Int32) (l6 : Int32) : Option (AT) := elet (l6 + Int32.ofInt (1)) fun v2 => k53 T l0 l1 l2 l3 l4 l5 v2
def g_X8_subtractBeam_b53 (k18 : AT → Nat → Nat → Int32 → Int32 → Int32 → Int32 → Option (AT)) : Nat → AT → Nat → Nat → Int32 → Int32 → Int32 → Int32 → Int32 → Option (AT)
  | 0, _, _, _, _, _, _, _, _ => none
  | n + 1, T, l0, l1, l2, l3, l4, l5, l6 => oif (oO T l0 8 = true) <| elet (T.2.2.1 l0 0) fun v3 => if v3 ≤ l6 then (elet (l5 + Int32.ofInt (1)) fun v5 => k18 T l0 l1 l2 l3 l4 v5) else (oif (aA T l1 100 = true) <| oif (inb l6 (T.2.1 l1).2 = true) <| elet (T.2.2.1 l1 l6.toNatClampNeg) fun v8 => elet (l5 + v8) fun v9 => oif (oO T l0 8 = true) <| obind (T.2.2.2.2 l0 3) fun n11 => oif (aA T n11 102 = true) <| oif (inb l6 (T.2.1 n11).2 = true) <| elet (T.2.2.1 n11 l6.toNatClampNeg) fun v14 => if v14 = 0 then (if v9 < 0 then (g_X8_subtractBeam_b115 k18 (g_X8_subtractBeam_b53 k18 n) T l0 l1 l2 l3 l4 l5 l6) else (oif (oO T l0 8 = true) <| elet (T.2.2.1 l0 1) fun v18 => if v18 ≤ v9 then (g_X8_subtractBeam_b115 k18 (g_X8_subtractBeam_b53 k18 n) T l0 l1 l2 l3 l4 l5 l6) else (oif (oO T l0 8 = true) <| obind (T.2.2.2.2 l0 10) fun n21 => obind (g_X8_placeOf l6 v9) fun r22 => oif (oO T l0 8 = true) <| obind (T.2.2.2.2 l0 11) fun n25 => oif (oO T n21 10 = true) <| obind (g_X10_add T n21 r22 n25 (0 : Int32) ((-1) : Int32)) fun T27 => g_X8_subtractBeam_b115 k18 (g_X8_subtractBeam_b53 k18 n) T27 l0 l1 l2 l3 l4 l5 l6))) else (g_X8_subtractBeam_b115 k18 (g_X8_subtractBeam_b53 k18 n) T l0 l1 l2 l3 l4 l5 l6))
def g_X8_subtractBeam_b50 (k18 : AT → Nat → Nat → Int32 → Int32 → Int32 → Int32 → Option (AT)) (T : AT) (l0 : Nat) (l1 : Nat) (l2 : Int32) (l3 : Int32) (l4 : Int32) (l5 : Int32) : Option (AT) := g_X8_subtractBeam_b53 k18 16384 T l0 l1 l2 l3 l4 l5 0
def g_X8_subtractBeam_b41 (k18 : AT → Nat → Nat → Int32 → Int32 → Int32 → Int32 → Option (AT)) (T : AT) (l0 : Nat) (l1 : Nat) (l2 : Int32) (l3 : Int32) (l4 : Int32) (l5 : Int32) : Option (AT) := oif (oO T l0 8 = true) <| obind (T.2.2.2.2 l0 11) fun n3 => oif (oO T n3 10 = true) <| obind (g_X10_divide T n3 (0 : Int32) l3) fun T5 => g_X8_subtractBeam_b50 k18 T5 l0 l1 l2 l3 l4 l5
def g_X8_subtractBeam_b32 (k18 : AT → Nat → Nat → Int32 → Int32 → Int32 → Int32 → Option (AT)) (T : AT) (l0 : Nat) (l1 : Nat) (l2 : Int32) (l3 : Int32) (l4 : Int32) (l5 : Int32) : Option (AT) := oif (oO T l0 8 = true) <| obind (T.2.2.2.2 l0 11) fun n3 => oif (oO T n3 10 = true) <| obind (g_X10_multiply T n3 (0 : Int32) l2) fun T5 => g_X8_subtractBeam_b41 k18 T5 l0 l1 l2 l3 l4 l5
def g_X8_subtractBeam_b18  : Nat → AT → Nat → Nat → Int32 → Int32 → Int32 → Int32 → Option (AT)
  | 0, _, _, _, _, _, _, _ => none
  | n + 1, T, l0, l1, l2, l3, l4, l5 => if l4 ≤ l5 then (oif (oO T l0 8 = true) <| elet (T.2.2.1 l0 2) fun v4 => elet (v4 + 1) fun v5 => oif (oO T l0 8 = true) <| elet (uI T l0 2 v5) fun T7 => some T7) else (oif (oO T l0 8 = true) <| obind (g_X8_focus T l0 l1 l5) fun T9 => g_X8_subtractBeam_b32 (g_X8_subtractBeam_b18 n) T9 l0 l1 l2 l3 l4 l5)
def g_X8_subtractBeam (T : AT) (o : Nat) (a0 : Nat) (a1 : Int32) : Option (AT) := oif (oO T o 8 = true) <| obind2 (g_X8_activeWeight T o) fun r5 T3 => elet (100 * r5) fun v7 => oif (oO T3 o 8 = true) <| obind2 (g_X8_windowOf T3 o a0) fun r11 T9 => g_X8_subtractBeam_b18 16384 T9 o a0 a1 v7 r11 0
set_option maxHeartbeats 4000000 in
set_option maxRecDepth 100000 in
theorem s_X8_subtractBeam_b115 {T1 : AT} {k18 : AT → Nat → Nat → Int32 → Int32 → Int32 → Int32 → Option (AT)} {k53 : AT → Nat → Nat → Int32 → Int32 → Int32 → Int32 → Int32 → Option (AT)} (hk18 : ∀ (T : AT) (l0 : Nat) (l1 : Nat) (l2 : Int32) (l3 : Int32) (l4 : Int32) (l5 : Int32), k18 T l0 l1 l2 l3 l4 l5 = some T1 → GL T T1) (hk53 : ∀ (T : AT) (l0 : Nat) (l1 : Nat) (l2 : Int32) (l3 : Int32) (l4 : Int32) (l5 : Int32) (l6 : Int32), k53 T l0 l1 l2 l3 l4 l5 l6 = some T1 → GL T T1) : ∀ (T : AT) (l0 : Nat) (l1 : Nat) (l2 : Int32) (l3 : Int32) (l4 : Int32) (l5 : Int32) (l6 : Int32), g_X8_subtractBeam_b115 k18 k53 T l0 l1 l2 l3 l4 l5 l6 = some T1 → GL T T1 := by
  intro T l0 l1 l2 l3 l4 l5 l6 h
  have p0 := GL.rf T
  unfold g_X8_subtractBeam_b115 at h
  obtain ⟨v2, ev2, h⟩ := elet_some h
  exact GL.tr p0 (hk53 _ _ _ _ _ _ _ _ h)
set_option maxHeartbeats 4000000 in
set_option maxRecDepth 100000 in
theorem s_X8_subtractBeam_b53 {T1 : AT} {k18 : AT → Nat → Nat → Int32 → Int32 → Int32 → Int32 → Option (AT)} (hk18 : ∀ (T : AT) (l0 : Nat) (l1 : Nat) (l2 : Int32) (l3 : Int32) (l4 : Int32) (l5 : Int32), k18 T l0 l1 l2 l3 l4 l5 = some T1 → GL T T1) : ∀ n : Nat, ∀ (T : AT) (l0 : Nat) (l1 : Nat) (l2 : Int32) (l3 : Int32) (l4 : Int32) (l5 : Int32) (l6 : Int32), g_X8_subtractBeam_b53 k18 n T l0 l1 l2 l3 l4 l5 l6 = some T1 → GL T T1 := by
  intro n
  induction n with
  | zero =>
    intro T l0 l1 l2 l3 l4 l5 l6 h
    have h : (none : Option (AT)) = some T1 := h
    cases h
  | succ n ih =>
    intro T l0 l1 l2 l3 l4 l5 l6 h
    have p0 := GL.rf T
    unfold g_X8_subtractBeam_b53 at h
    obtain ⟨g2, h⟩ := oif_some h
    obtain ⟨v3, -, h⟩ := elet_some h
    rcases oif_or h with ⟨c4, h⟩ | ⟨c4, h⟩
    · have h := h
      obtain ⟨v5, ev5, h⟩ := elet_some h
      exact GL.tr p0 (hk18 _ _ _ _ _ _ _ h)
    · have h := h
      obtain ⟨g6, h⟩ := oif_some h
      obtain ⟨g7, h⟩ := oif_some h
      obtain ⟨v8, -, h⟩ := elet_some h
      obtain ⟨v9, -, h⟩ := elet_some h
      obtain ⟨g10, h⟩ := oif_some h
      obtain ⟨n11, en11, h⟩ := obind_some h
      obtain ⟨g12, h⟩ := oif_some h
      obtain ⟨g13, h⟩ := oif_some h
      obtain ⟨v14, -, h⟩ := elet_some h
      rcases oif_or h with ⟨c15, h⟩ | ⟨c15, h⟩
      · have h := h
        rcases oif_or h with ⟨c16, h⟩ | ⟨c16, h⟩
        · have h := h
          exact GL.tr p0 (s_X8_subtractBeam_b115 hk18 ih _ _ _ _ _ _ _ _ h)
        · have h := h
          obtain ⟨g17, h⟩ := oif_some h
          obtain ⟨v18, -, h⟩ := elet_some h
          rcases oif_or h with ⟨c19, h⟩ | ⟨c19, h⟩
          · have h := h
            exact GL.tr p0 (s_X8_subtractBeam_b115 hk18 ih _ _ _ _ _ _ _ _ h)
          · have h := h
            obtain ⟨g20, h⟩ := oif_some h
            obtain ⟨n21, en21, h⟩ := obind_some h
            obtain ⟨r22, -, h⟩ := obind_some h
            obtain ⟨g23, h⟩ := oif_some h
            obtain ⟨n24, en24, h⟩ := obind_some h
            obtain ⟨g25, h⟩ := oif_some h
            obtain ⟨T26, eT26, h⟩ := obind_some h
            have p1 : GL T T26 := GL.tr p0 (s_X10_add eT26)
            exact GL.tr p1 (s_X8_subtractBeam_b115 hk18 ih _ _ _ _ _ _ _ _ h)
      · have h := h
        exact GL.tr p0 (s_X8_subtractBeam_b115 hk18 ih _ _ _ _ _ _ _ _ h)
set_option maxHeartbeats 4000000 in
set_option maxRecDepth 100000 in
theorem s_X8_subtractBeam_b50 {T1 : AT} {k18 : AT → Nat → Nat → Int32 → Int32 → Int32 → Int32 → Option (AT)} (hk18 : ∀ (T : AT) (l0 : Nat) (l1 : Nat) (l2 : Int32) (l3 : Int32) (l4 : Int32) (l5 : Int32), k18 T l0 l1 l2 l3 l4 l5 = some T1 → GL T T1) : ∀ (T : AT) (l0 : Nat) (l1 : Nat) (l2 : Int32) (l3 : Int32) (l4 : Int32) (l5 : Int32), g_X8_subtractBeam_b50 k18 T l0 l1 l2 l3 l4 l5 = some T1 → GL T T1 := by
  intro T l0 l1 l2 l3 l4 l5 h
  have p0 := GL.rf T
  unfold g_X8_subtractBeam_b50 at h
  exact GL.tr p0 (s_X8_subtractBeam_b53 hk18 _ _ _ _ _ _ _ _ _ h)
set_option maxHeartbeats 4000000 in
set_option maxRecDepth 100000 in
theorem s_X8_subtractBeam_b41 {T1 : AT} {k18 : AT → Nat → Nat → Int32 → Int32 → Int32 → Int32 → Option (AT)} (hk18 : ∀ (T : AT) (l0 : Nat) (l1 : Nat) (l2 : Int32) (l3 : Int32) (l4 : Int32) (l5 : Int32), k18 T l0 l1 l2 l3 l4 l5 = some T1 → GL T T1) : ∀ (T : AT) (l0 : Nat) (l1 : Nat) (l2 : Int32) (l3 : Int32) (l4 : Int32) (l5 : Int32), g_X8_subtractBeam_b41 k18 T l0 l1 l2 l3 l4 l5 = some T1 → GL T T1 := by
  intro T l0 l1 l2 l3 l4 l5 h
  have p0 := GL.rf T
  unfold g_X8_subtractBeam_b41 at h
  obtain ⟨g2, h⟩ := oif_some h
  obtain ⟨n3, en3, h⟩ := obind_some h
  obtain ⟨g4, h⟩ := oif_some h
  obtain ⟨T5, eT5, h⟩ := obind_some h
  have p1 : GL T T5 := GL.tr p0 (s_X10_divide eT5)
  exact GL.tr p1 (s_X8_subtractBeam_b50 hk18 _ _ _ _ _ _ _ h)
set_option maxHeartbeats 4000000 in
set_option maxRecDepth 100000 in
theorem s_X8_subtractBeam_b32 {T1 : AT} {k18 : AT → Nat → Nat → Int32 → Int32 → Int32 → Int32 → Option (AT)} (hk18 : ∀ (T : AT) (l0 : Nat) (l1 : Nat) (l2 : Int32) (l3 : Int32) (l4 : Int32) (l5 : Int32), k18 T l0 l1 l2 l3 l4 l5 = some T1 → GL T T1) : ∀ (T : AT) (l0 : Nat) (l1 : Nat) (l2 : Int32) (l3 : Int32) (l4 : Int32) (l5 : Int32), g_X8_subtractBeam_b32 k18 T l0 l1 l2 l3 l4 l5 = some T1 → GL T T1 := by
  intro T l0 l1 l2 l3 l4 l5 h
  have p0 := GL.rf T
  unfold g_X8_subtractBeam_b32 at h
  obtain ⟨g2, h⟩ := oif_some h
  obtain ⟨n3, en3, h⟩ := obind_some h
  obtain ⟨g4, h⟩ := oif_some h
  obtain ⟨T5, eT5, h⟩ := obind_some h
  have p1 : GL T T5 := GL.tr p0 (s_X10_multiply eT5)
  exact GL.tr p1 (s_X8_subtractBeam_b41 hk18 _ _ _ _ _ _ _ h)
set_option maxHeartbeats 4000000 in
set_option maxRecDepth 100000 in
theorem s_X8_subtractBeam_b18 {T1 : AT} : ∀ n : Nat, ∀ (T : AT) (l0 : Nat) (l1 : Nat) (l2 : Int32) (l3 : Int32) (l4 : Int32) (l5 : Int32), g_X8_subtractBeam_b18 n T l0 l1 l2 l3 l4 l5 = some T1 → GL T T1 := by
  intro n
  induction n with
  | zero =>
    intro T l0 l1 l2 l3 l4 l5 h
    have h : (none : Option (AT)) = some T1 := h
    cases h
  | succ n ih =>
    intro T l0 l1 l2 l3 l4 l5 h
    have p0 := GL.rf T
    unfold g_X8_subtractBeam_b18 at h
    rcases oif_or h with ⟨c2, h⟩ | ⟨c2, h⟩
    · have h := h
      obtain ⟨g3, h⟩ := oif_some h
      obtain ⟨v4, -, h⟩ := elet_some h
      obtain ⟨v5, -, h⟩ := elet_some h
      obtain ⟨g6, h⟩ := oif_some h
      obtain ⟨T7, eT7, h⟩ := elet_some h
      have p1 : GL T T7 := GL.tr p0 (by rw [eT7]; exact gl_sp sp_uI)
      rw [← osome1 h]
      exact p1
    · have h := h
      obtain ⟨g8, h⟩ := oif_some h
      obtain ⟨T9, eT9, h⟩ := obind_some h
      have p1 : GL T T9 := GL.tr p0 (s_X8_focus eT9)
      exact GL.tr p1 (s_X8_subtractBeam_b32 ih _ _ _ _ _ _ _ h)
set_option maxHeartbeats 4000000 in
set_option maxRecDepth 100000 in
theorem s_X8_subtractBeam {T : AT} {o : Nat} {a0 : Nat} {a1 : Int32} {T1 : AT} (h : g_X8_subtractBeam T o a0 a1 = some T1) : GL T T1 := by
  have p0 := GL.rf T
  unfold g_X8_subtractBeam at h
  obtain ⟨g2, h⟩ := oif_some h
  obtain ⟨r4, T3, eT3, h⟩ := obind2_some h
  have p1 : GL T T3 := GL.tr p0 (gl_sp (s_X8_activeWeight eT3))
  obtain ⟨v5, -, h⟩ := elet_some h
  obtain ⟨g6, h⟩ := oif_some h
  obtain ⟨r8, T7, eT7, h⟩ := obind2_some h
  have p2 : GL T T7 := GL.tr p1 (gl_sp (s_X8_windowOf eT7))
  exact GL.tr p2 (s_X8_subtractBeam_b18 _ _ _ _ _ _ _ _ h)
set_option maxHeartbeats 4000000 in
set_option maxRecDepth 100000 in
theorem a_X8_subtractBeam_b115 {p : Program} {l : Launch} {e : Env} {s : State} {m : MethodId} {args : Array Value} {below : List Frame} {meth : Method} {c : Code} {Q : State → Prop} {D : va_G} {A : Nat → Prop} {cI cJ cZ cMic cSrc cSt cAI cAJ : ClassId} {ad0 : Nat → Nat} {T0 : AT} {T1 : AT} (E : cE p c cX8_subtractBeam s m args (Cond.code yX8_subtractBeam cX8_subtractBeam 8 none :: wsA) D RX8 (CT cI cJ cZ cMic cSrc cSt cAI cAJ)) (hA : ∀ q : Nat, s.heap.size ≤ q → A q) (hX : xT A s) (hN : nX s) (hml : c.maxLocals = 8) (hst : l.stackTraces = false) (kr137 : ∀ (ad : Nat → Nat) (H : Heap) (locs : List Loc) (ls : Array Slot), (∀ n, n < T0.1 → ad n = ad0 n) → gC cI cJ cZ cMic cSrc cSt cAI cAJ D ad A s.heap H locs T1 → W p l e { frames := 4, cells := T1.1 - T0.1, slots := sg T1 - sg T0, locals := 77 } s m args below meth c H locs (T1.1 - T0.1) (sg T1 - sg T0) Q (F0 m 137 ls [])) {k18 : AT → Nat → Nat → Int32 → Int32 → Int32 → Int32 → Option (AT)} {k53 : AT → Nat → Nat → Int32 → Int32 → Int32 → Int32 → Int32 → Option (AT)} (hs18 : ∀ (T : AT) (l0 : Nat) (l1 : Nat) (l2 : Int32) (l3 : Int32) (l4 : Int32) (l5 : Int32), k18 T l0 l1 l2 l3 l4 l5 = some T1 → GL T T1) (hk18 : ∀ (T : AT) (ad : Nat → Nat) (H : Heap) (locs : List Loc) (ls : Array Slot) (l0 : Nat) (l1 : Nat) (l2 : Int32) (l3 : Int32) (l4 : Int32) (l5 : Int32), k18 T l0 l1 l2 l3 l4 l5 = some T1 → GL T0 T → RC T → (∀ n, n < T0.1 → ad n = ad0 n) → l0 < T.1 → l1 < T.1 → gC cI cJ cZ cMic cSrc cSt cAI cAJ D ad A s.heap H locs T → lv_has ls 8 [(0, .ref (ad l0)), (1, .ref (ad l1)), (2, .int l2), (3, .int l3), (4, .int l4), (5, .int l5)] → W p l e { frames := 4, cells := T1.1 - T0.1, slots := sg T1 - sg T0, locals := 77 } s m args below meth c H locs (T.1 - T0.1) (sg T - sg T0) Q (F0 m 18 ls [])) (hs53 : ∀ (T : AT) (l0 : Nat) (l1 : Nat) (l2 : Int32) (l3 : Int32) (l4 : Int32) (l5 : Int32) (l6 : Int32), k53 T l0 l1 l2 l3 l4 l5 l6 = some T1 → GL T T1) (hk53 : ∀ (T : AT) (ad : Nat → Nat) (H : Heap) (locs : List Loc) (ls : Array Slot) (l0 : Nat) (l1 : Nat) (l2 : Int32) (l3 : Int32) (l4 : Int32) (l5 : Int32) (l6 : Int32), k53 T l0 l1 l2 l3 l4 l5 l6 = some T1 → GL T0 T → RC T → (∀ n, n < T0.1 → ad n = ad0 n) → l0 < T.1 → l1 < T.1 → gC cI cJ cZ cMic cSrc cSt cAI cAJ D ad A s.heap H locs T → lv_has ls 8 [(0, .ref (ad l0)), (1, .ref (ad l1)), (2, .int l2), (3, .int l3), (4, .int l4), (5, .int l5), (6, .int l6)] → W p l e { frames := 4, cells := T1.1 - T0.1, slots := sg T1 - sg T0, locals := 77 } s m args below meth c H locs (T.1 - T0.1) (sg T - sg T0) Q (F0 m 53 ls [])) : ∀ (T : AT) (ad : Nat → Nat) (H : Heap) (locs : List Loc) (ls : Array Slot) (l0 : Nat) (l1 : Nat) (l2 : Int32) (l3 : Int32) (l4 : Int32) (l5 : Int32) (l6 : Int32), g_X8_subtractBeam_b115 k18 k53 T l0 l1 l2 l3 l4 l5 l6 = some T1 → GL T0 T → RC T → (∀ n, n < T0.1 → ad n = ad0 n) → l0 < T.1 → l1 < T.1 → gC cI cJ cZ cMic cSrc cSt cAI cAJ D ad A s.heap H locs T → lv_has ls 8 [(0, .ref (ad l0)), (1, .ref (ad l1)), (2, .int l2), (3, .int l3), (4, .int l4), (5, .int l5), (6, .int l6)] → W p l e { frames := 4, cells := T1.1 - T0.1, slots := sg T1 - sg T0, locals := 77 } s m args below meth c H locs (T.1 - T0.1) (sg T - sg T0) Q (F0 m 115 ls []) := by
  have hx := E.1
  have hb := E.2.1
  have hts := E.2.2.1
  have hown := E.2.2.2.1
  have hK := E.2.2.2.2
  intro T ad H locs ls l0 l1 l2 l3 l4 l5 l6 h hgl hrc had h_l0 h_l1 G hl
  have hT1 := s_X8_subtractBeam_b115 hs18 hs53 _ _ _ _ _ _ _ _ h
  have hcs := cs_ok hgl hT1
  have cp0 := cpr0 hrc
  unfold g_X8_subtractBeam_b115 at h
  obtain ⟨v2, ev2, h⟩ := elet_some h
  refine lv_iinc (v := v2) (lv' := [(6, .int v2), (0, .ref (ad l0)), (1, .ref (ad l1)), (2, .int l2), (3, .int l3), (4, .int l4), (5, .int l5)]) hx hb dX8_subtractBeam_115 hl (k := 6) rfl ev2.symm (by decide) rfl (fun ls hl => ?_)
  refine lv_goto (tgt := 53) hx hb dX8_subtractBeam_118 (by decide) ?_
  have hl := lv_sub hl [1, 2, 3, 4, 5, 6, 0] rfl
  refine w_cast (c2 := T.1 - T0.1) (s2 := sg T - sg T0) (by rw [cp0.1] <;> rfl) (by rw [sg_cpr cp0] <;> rfl) ?_
  exact hk53 _ _ _ _ _ _ _ _ _ _ _ _ h (gl_cpr hgl cp0) cp0.2.2 had (by rw [cp0.1]; exact h_l0) (by rw [cp0.1]; exact h_l1) G hl
set_option maxHeartbeats 4000000 in
set_option maxRecDepth 100000 in
theorem a_X8_subtractBeam_b53 {p : Program} {l : Launch} {e : Env} {s : State} {m : MethodId} {args : Array Value} {below : List Frame} {meth : Method} {c : Code} {Q : State → Prop} {D : va_G} {A : Nat → Prop} {cI cJ cZ cMic cSrc cSt cAI cAJ : ClassId} {ad0 : Nat → Nat} {T0 : AT} {T1 : AT} (E : cE p c cX8_subtractBeam s m args (Cond.code yX8_subtractBeam cX8_subtractBeam 8 none :: wsA) D RX8 (CT cI cJ cZ cMic cSrc cSt cAI cAJ)) (hA : ∀ q : Nat, s.heap.size ≤ q → A q) (hX : xT A s) (hN : nX s) (hml : c.maxLocals = 8) (hst : l.stackTraces = false) (kr137 : ∀ (ad : Nat → Nat) (H : Heap) (locs : List Loc) (ls : Array Slot), (∀ n, n < T0.1 → ad n = ad0 n) → gC cI cJ cZ cMic cSrc cSt cAI cAJ D ad A s.heap H locs T1 → W p l e { frames := 4, cells := T1.1 - T0.1, slots := sg T1 - sg T0, locals := 77 } s m args below meth c H locs (T1.1 - T0.1) (sg T1 - sg T0) Q (F0 m 137 ls [])) {k18 : AT → Nat → Nat → Int32 → Int32 → Int32 → Int32 → Option (AT)} (hs18 : ∀ (T : AT) (l0 : Nat) (l1 : Nat) (l2 : Int32) (l3 : Int32) (l4 : Int32) (l5 : Int32), k18 T l0 l1 l2 l3 l4 l5 = some T1 → GL T T1) (hk18 : ∀ (T : AT) (ad : Nat → Nat) (H : Heap) (locs : List Loc) (ls : Array Slot) (l0 : Nat) (l1 : Nat) (l2 : Int32) (l3 : Int32) (l4 : Int32) (l5 : Int32), k18 T l0 l1 l2 l3 l4 l5 = some T1 → GL T0 T → RC T → (∀ n, n < T0.1 → ad n = ad0 n) → l0 < T.1 → l1 < T.1 → gC cI cJ cZ cMic cSrc cSt cAI cAJ D ad A s.heap H locs T → lv_has ls 8 [(0, .ref (ad l0)), (1, .ref (ad l1)), (2, .int l2), (3, .int l3), (4, .int l4), (5, .int l5)] → W p l e { frames := 4, cells := T1.1 - T0.1, slots := sg T1 - sg T0, locals := 77 } s m args below meth c H locs (T.1 - T0.1) (sg T - sg T0) Q (F0 m 18 ls [])) : ∀ n : Nat, ∀ (T : AT) (ad : Nat → Nat) (H : Heap) (locs : List Loc) (ls : Array Slot) (l0 : Nat) (l1 : Nat) (l2 : Int32) (l3 : Int32) (l4 : Int32) (l5 : Int32) (l6 : Int32), g_X8_subtractBeam_b53 k18 n T l0 l1 l2 l3 l4 l5 l6 = some T1 → GL T0 T → RC T → (∀ n, n < T0.1 → ad n = ad0 n) → l0 < T.1 → l1 < T.1 → gC cI cJ cZ cMic cSrc cSt cAI cAJ D ad A s.heap H locs T → lv_has ls 8 [(0, .ref (ad l0)), (1, .ref (ad l1)), (2, .int l2), (3, .int l3), (4, .int l4), (5, .int l5), (6, .int l6)] → W p l e { frames := 4, cells := T1.1 - T0.1, slots := sg T1 - sg T0, locals := 77 } s m args below meth c H locs (T.1 - T0.1) (sg T - sg T0) Q (F0 m 53 ls []) := by
  have hx := E.1
  have hb := E.2.1
  have hts := E.2.2.1
  have hown := E.2.2.2.1
  have hK := E.2.2.2.2
  intro n
  induction n with
  | zero =>
    intro T ad H locs ls l0 l1 l2 l3 l4 l5 l6 h
    have h : (none : Option (AT)) = some T1 := h
    cases h
  | succ n ih =>
    intro T ad H locs ls l0 l1 l2 l3 l4 l5 l6 h hgl hrc had h_l0 h_l1 G hl
    have hT1 := s_X8_subtractBeam_b53 hs18 _ _ _ _ _ _ _ _ _ h
    have hcs := cs_ok hgl hT1
    have cp0 := cpr0 hrc
    unfold g_X8_subtractBeam_b53 at h
    refine lv_iload hx hb dX8_subtractBeam_53 (lv_at hl 6 rfl) ?_
    refine lv_aload_n hx hb dX8_subtractBeam_55 rfl (lv_at hl 0 rfl) ?_
    obtain ⟨g2, h⟩ := oif_some h
    refine c_get E G l0 0 (oO_k g2).1 (cc_o8 (oO_k g2).2) rfl (fun w h => .tail _ (iA_16 h)) (by decide) (.tail _ qA_63) rfl rfl dX8_subtractBeam_56 ?_
    refine lv_topi (fun v3 ev3 => ?_)
    have h := elet_at ev3 h
    clear ev3
    refine lv_icmp_ge (tgt := 121) hx hb dX8_subtractBeam_59 (by decide) (fun c4 => ?_) (fun c4 => ?_)
    · have h := oif_pos c4 h
      obtain ⟨v5, ev5, h⟩ := elet_some h
      refine lv_iinc (v := v5) (lv' := [(5, .int v5), (0, .ref (ad l0)), (1, .ref (ad l1)), (2, .int l2), (3, .int l3), (4, .int l4), (6, .int l6)]) hx hb dX8_subtractBeam_121 hl (k := 5) rfl ev5.symm (by decide) rfl (fun ls hl => ?_)
      refine lv_goto (tgt := 18) hx hb dX8_subtractBeam_124 (by decide) ?_
      have hl := lv_sub hl [1, 2, 3, 4, 5, 0] rfl
      refine w_cast (c2 := T.1 - T0.1) (s2 := sg T - sg T0) (by rw [cp0.1] <;> rfl) (by rw [sg_cpr cp0] <;> rfl) ?_
      exact hk18 _ _ _ _ _ _ _ _ _ _ _ h (gl_cpr hgl cp0) cp0.2.2 had (by rw [cp0.1]; exact h_l0) (by rw [cp0.1]; exact h_l1) G hl
    · have h := oif_neg c4 h
      refine lv_iload hx hb dX8_subtractBeam_62 (lv_at hl 5 rfl) ?_
      refine lv_aload_n hx hb dX8_subtractBeam_64 rfl (lv_at hl 1 rfl) ?_
      refine lv_iload hx hb dX8_subtractBeam_65 (lv_at hl 6 rfl) ?_
      obtain ⟨g6, h⟩ := oif_some h
      obtain ⟨g7, h⟩ := oif_some h
      refine c_iald E G l1 0 (k := l6.toNatClampNeg) (aA_k g6).1 (cc_a100 (aA_k g6).2.1) rfl (inb_k g7).1 (inb_k g7).2 (aA_k g6).2.2 dX8_subtractBeam_67 ?_
      refine lv_topi (fun v8 ev8 => ?_)
      have h := elet_at ev8 h
      clear ev8
      refine lv_iadd hx hb dX8_subtractBeam_68 ?_
      refine lv_topi (fun v9 ev9 => ?_)
      have h := elet_at ev9 h
      clear ev9
      refine lv_istore (lv' := [(7, .int v9), (0, .ref (ad l0)), (1, .ref (ad l1)), (2, .int l2), (3, .int l3), (4, .int l4), (5, .int l5), (6, .int l6)]) hx hb dX8_subtractBeam_69 hl (by decide) rfl (fun ls hl => ?_)
      refine lv_aload_n hx hb dX8_subtractBeam_71 rfl (lv_at hl 1 rfl) ?_
      obtain ⟨g10, h⟩ := oif_some h
      obtain ⟨n11, en11, h⟩ := obind_some h
      have h_n11 : n11 < T.1 := by rw [← cp0.1]; exact cp0.2.2 _ _ _ en11
      refine c_get E G l0 3 (v := .ref (ad n11)) (oO_k g10).1 (cc_o8 (oO_k g10).2) rfl (fun w h => .tail _ (iA_16 h)) (by decide) (.tail _ qA_64) rfl (by rw [en11]; rfl) dX8_subtractBeam_72 ?_
      clear en11
      refine lv_iload hx hb dX8_subtractBeam_75 (lv_at hl 7 rfl) ?_
      obtain ⟨g12, h⟩ := oif_some h
      obtain ⟨g13, h⟩ := oif_some h
      refine c_zald E G n11 2 (k := l6.toNatClampNeg) (aA_k g12).1 (cc_a102 (aA_k g12).2.1) rfl (inb_k g13).1 (inb_k g13).2 (aA_k g12).2.2 dX8_subtractBeam_77 ?_
      refine lv_topi (fun v14 ev14 => ?_)
      have h := elet_at ev14 h
      clear ev14
      refine lv_if_ne (tgt := 115) hx hb dX8_subtractBeam_78 (by decide) (fun c15 => ?_) (fun c15 => ?_)
      · have h := oif_neg c15 h
        have hl := lv_sub hl [1, 2, 3, 4, 5, 6, 7] rfl
        refine w_cast (c2 := T.1 - T0.1) (s2 := sg T - sg T0) (by rw [cp0.1] <;> rfl) (by rw [sg_cpr cp0] <;> rfl) ?_
        exact a_X8_subtractBeam_b115 E hA hX hN hml hst kr137 hs18 hk18 (s_X8_subtractBeam_b53 hs18 n) ih _ _ _ _ _ _ _ _ _ _ _ _ h (gl_cpr hgl cp0) cp0.2.2 had (by rw [cp0.1]; exact h_l0) (by rw [cp0.1]; exact h_l1) G hl
      · have h := oif_pos c15 h
        refine lv_iload hx hb dX8_subtractBeam_81 (lv_at hl 0 rfl) ?_
        refine lv_if_lt (tgt := 115) hx hb dX8_subtractBeam_83 (by decide) (fun c16 => ?_) (fun c16 => ?_)
        · have h := oif_pos c16 h
          have hl := lv_sub hl [1, 2, 3, 4, 5, 6, 7] rfl
          refine w_cast (c2 := T.1 - T0.1) (s2 := sg T - sg T0) (by rw [cp0.1] <;> rfl) (by rw [sg_cpr cp0] <;> rfl) ?_
          exact a_X8_subtractBeam_b115 E hA hX hN hml hst kr137 hs18 hk18 (s_X8_subtractBeam_b53 hs18 n) ih _ _ _ _ _ _ _ _ _ _ _ _ h (gl_cpr hgl cp0) cp0.2.2 had (by rw [cp0.1]; exact h_l0) (by rw [cp0.1]; exact h_l1) G hl
        · have h := oif_neg c16 h
          refine lv_iload hx hb dX8_subtractBeam_86 (lv_at hl 0 rfl) ?_
          refine lv_aload_n hx hb dX8_subtractBeam_88 rfl (lv_at hl 1 rfl) ?_
          obtain ⟨g17, h⟩ := oif_some h
          refine c_get E G l0 1 (oO_k g17).1 (cc_o8 (oO_k g17).2) rfl (fun w h => .tail _ (iA_16 h)) (by decide) (.tail _ qA_57) rfl rfl dX8_subtractBeam_89 ?_
          refine lv_topi (fun v18 ev18 => ?_)
          have h := elet_at ev18 h
          clear ev18
          refine lv_icmp_ge (tgt := 115) hx hb dX8_subtractBeam_92 (by decide) (fun c19 => ?_) (fun c19 => ?_)
          · have h := oif_pos c19 h
            have hl := lv_sub hl [1, 2, 3, 4, 5, 6, 7] rfl
            refine w_cast (c2 := T.1 - T0.1) (s2 := sg T - sg T0) (by rw [cp0.1] <;> rfl) (by rw [sg_cpr cp0] <;> rfl) ?_
            exact a_X8_subtractBeam_b115 E hA hX hN hml hst kr137 hs18 hk18 (s_X8_subtractBeam_b53 hs18 n) ih _ _ _ _ _ _ _ _ _ _ _ _ h (gl_cpr hgl cp0) cp0.2.2 had (by rw [cp0.1]; exact h_l0) (by rw [cp0.1]; exact h_l1) G hl
          · have h := oif_neg c19 h
            refine lv_aload_n hx hb dX8_subtractBeam_95 rfl (lv_at hl 1 rfl) ?_
            obtain ⟨g20, h⟩ := oif_some h
            obtain ⟨n21, en21, h⟩ := obind_some h
            have h_n21 : n21 < T.1 := by rw [← cp0.1]; exact cp0.2.2 _ _ _ en21
            refine c_get E G l0 10 (v := .ref (ad n21)) (oO_k g20).1 (cc_o8 (oO_k g20).2) rfl (fun w h => .tail _ (iA_16 h)) (by decide) (.tail _ qA_73) rfl (by rw [en21]; rfl) dX8_subtractBeam_96 ?_
            clear en21
            refine lv_iload hx hb dX8_subtractBeam_99 (lv_at hl 7 rfl) ?_
            refine lv_iload hx hb dX8_subtractBeam_101 (lv_at hl 0 rfl) ?_
            obtain ⟨r22, er22, h⟩ := obind_some h
            refine q_sti (As := [.int l6, .int v9]) (rest := [.ref (ad n21)]) ⟨hx, hb, hml, hown, hts⟩ hN (u_X8_placeOf l l6 v9 er22) (cwS 2 hts (gaS qA_87 qA_88 qA_47 qA_89) rfl rfl rfl (by decide +kernel) ⟨Nat.le_of_ble_eq_true rfl, Nat.le_of_ble_eq_true rfl⟩) rfl hl.1 rfl (lv_room (Nat.le_of_ble_eq_true rfl)) dX8_subtractBeam_103 hcs (fun q23 hq => ?_)
            refine lv_to hq ?_
            clear hq er22
            refine lv_aload_n hx hb dX8_subtractBeam_106 rfl (lv_at hl 1 rfl) ?_
            obtain ⟨g24, h⟩ := oif_some h
            obtain ⟨n25, en25, h⟩ := obind_some h
            have h_n25 : n25 < T.1 := by rw [← cp0.1]; exact cp0.2.2 _ _ _ en25
            refine c_get E G l0 11 (v := .ref (ad n25)) (oO_k g24).1 (cc_o8 (oO_k g24).2) rfl (fun w h => .tail _ (iA_16 h)) (by decide) (.tail _ qA_52) rfl (by rw [en25]; rfl) dX8_subtractBeam_107 ?_
            clear en25
            refine lv_iconst (v := 0) hx hb dX8_subtractBeam_110 (by decide) ?_
            refine lv_iconst (v := (-1)) hx hb dX8_subtractBeam_111 (by decide) ?_
            obtain ⟨g26, h⟩ := oif_some h
            obtain ⟨T27, eT27, h⟩ := obind_some h
            have hg2 := s_X10_add eT27
            have hrc2 := hg2.2.2 cp0.2.2
            have hT2 := s_X8_subtractBeam_b115 hs18 (s_X8_subtractBeam_b53 hs18 n) _ _ _ _ _ _ _ _ h
            refine q_avv (As := [.int r22, .ref (ad n25), .int 0, .int (-1)]) (rest := []) E G hA hX hN hml (a_X10_add l hst D cI cJ cZ cMic cSrc cSt cAI cAJ ad T n21 r22 n25 (0 : Int32) ((-1) : Int32) eT27 cp0.2.2 (by rw [cp0.1]; exact h_n21) (by rw [cp0.1]; exact h_n25)) (cwV 4 hts (gaV qA_628 qA_151 qA_152 qA_6 qA_153) rfl rfl rfl (by decide +kernel) ⟨Nat.le_of_ble_eq_true rfl, Nat.le_of_ble_eq_true rfl⟩) (oO_k g26).1 (cc_o10 (oO_k g26).2) rfl rfl hl.1 rfl (lv_room (Nat.le_of_ble_eq_true rfl)) dX8_subtractBeam_112 (cs_av hgl cp0 hg2 hT2) (fun ad2 H locs hga G => ?_)
            refine w_cast (c2 := T27.1 - T0.1) (s2 := sg T27 - sg T0) (cs_f1 hgl cp0 hg2) (cs_f2 hgl cp0 hg2) ?_
            have hl := lv_sub hl [1, 2, 3, 4, 5, 6, 7] rfl
            rw [show ad l0 = ad2 l0 from (hga l0 (by rw [cp0.1]; exact h_l0)).symm] at hl
            rw [show ad l1 = ad2 l1 from (hga l1 (by rw [cp0.1]; exact h_l1)).symm] at hl
            exact a_X8_subtractBeam_b115 E hA hX hN hml hst kr137 hs18 hk18 (s_X8_subtractBeam_b53 hs18 n) ih _ _ _ _ _ _ _ _ _ _ _ _ h (GL.tr (gl_cpr hgl cp0) hg2) hrc2 (fun n hn => (hga n (by rw [cp0.1]; exact Nat.lt_of_lt_of_le hn hgl.1)).trans (had n hn)) (Nat.lt_of_lt_of_le (by rw [cp0.1]; exact h_l0) hg2.1) (Nat.lt_of_lt_of_le (by rw [cp0.1]; exact h_l1) hg2.1) G hl
set_option maxHeartbeats 4000000 in
set_option maxRecDepth 100000 in
theorem a_X8_subtractBeam_b50 {p : Program} {l : Launch} {e : Env} {s : State} {m : MethodId} {args : Array Value} {below : List Frame} {meth : Method} {c : Code} {Q : State → Prop} {D : va_G} {A : Nat → Prop} {cI cJ cZ cMic cSrc cSt cAI cAJ : ClassId} {ad0 : Nat → Nat} {T0 : AT} {T1 : AT} (E : cE p c cX8_subtractBeam s m args (Cond.code yX8_subtractBeam cX8_subtractBeam 8 none :: wsA) D RX8 (CT cI cJ cZ cMic cSrc cSt cAI cAJ)) (hA : ∀ q : Nat, s.heap.size ≤ q → A q) (hX : xT A s) (hN : nX s) (hml : c.maxLocals = 8) (hst : l.stackTraces = false) (kr137 : ∀ (ad : Nat → Nat) (H : Heap) (locs : List Loc) (ls : Array Slot), (∀ n, n < T0.1 → ad n = ad0 n) → gC cI cJ cZ cMic cSrc cSt cAI cAJ D ad A s.heap H locs T1 → W p l e { frames := 4, cells := T1.1 - T0.1, slots := sg T1 - sg T0, locals := 77 } s m args below meth c H locs (T1.1 - T0.1) (sg T1 - sg T0) Q (F0 m 137 ls [])) {k18 : AT → Nat → Nat → Int32 → Int32 → Int32 → Int32 → Option (AT)} (hs18 : ∀ (T : AT) (l0 : Nat) (l1 : Nat) (l2 : Int32) (l3 : Int32) (l4 : Int32) (l5 : Int32), k18 T l0 l1 l2 l3 l4 l5 = some T1 → GL T T1) (hk18 : ∀ (T : AT) (ad : Nat → Nat) (H : Heap) (locs : List Loc) (ls : Array Slot) (l0 : Nat) (l1 : Nat) (l2 : Int32) (l3 : Int32) (l4 : Int32) (l5 : Int32), k18 T l0 l1 l2 l3 l4 l5 = some T1 → GL T0 T → RC T → (∀ n, n < T0.1 → ad n = ad0 n) → l0 < T.1 → l1 < T.1 → gC cI cJ cZ cMic cSrc cSt cAI cAJ D ad A s.heap H locs T → lv_has ls 8 [(0, .ref (ad l0)), (1, .ref (ad l1)), (2, .int l2), (3, .int l3), (4, .int l4), (5, .int l5)] → W p l e { frames := 4, cells := T1.1 - T0.1, slots := sg T1 - sg T0, locals := 77 } s m args below meth c H locs (T.1 - T0.1) (sg T - sg T0) Q (F0 m 18 ls [])) : ∀ (T : AT) (ad : Nat → Nat) (H : Heap) (locs : List Loc) (ls : Array Slot) (l0 : Nat) (l1 : Nat) (l2 : Int32) (l3 : Int32) (l4 : Int32) (l5 : Int32), g_X8_subtractBeam_b50 k18 T l0 l1 l2 l3 l4 l5 = some T1 → GL T0 T → RC T → (∀ n, n < T0.1 → ad n = ad0 n) → l0 < T.1 → l1 < T.1 → gC cI cJ cZ cMic cSrc cSt cAI cAJ D ad A s.heap H locs T → lv_has ls 8 [(0, .ref (ad l0)), (1, .ref (ad l1)), (2, .int l2), (3, .int l3), (4, .int l4), (5, .int l5)] → W p l e { frames := 4, cells := T1.1 - T0.1, slots := sg T1 - sg T0, locals := 77 } s m args below meth c H locs (T.1 - T0.1) (sg T - sg T0) Q (F0 m 50 ls []) := by
  have hx := E.1
  have hb := E.2.1
  have hts := E.2.2.1
  have hown := E.2.2.2.1
  have hK := E.2.2.2.2
  intro T ad H locs ls l0 l1 l2 l3 l4 l5 h hgl hrc had h_l0 h_l1 G hl
  have hT1 := s_X8_subtractBeam_b50 hs18 _ _ _ _ _ _ _ h
  have hcs := cs_ok hgl hT1
  have cp0 := cpr0 hrc
  unfold g_X8_subtractBeam_b50 at h
  refine lv_iconst (v := 0) hx hb dX8_subtractBeam_50 (by decide) ?_
  refine lv_istore (lv' := [(6, .int 0), (0, .ref (ad l0)), (1, .ref (ad l1)), (2, .int l2), (3, .int l3), (4, .int l4), (5, .int l5)]) hx hb dX8_subtractBeam_51 hl (by decide) rfl (fun ls hl => ?_)
  have hl := lv_sub hl [1, 2, 3, 4, 5, 6, 0] rfl
  refine w_cast (c2 := T.1 - T0.1) (s2 := sg T - sg T0) (by rw [cp0.1] <;> rfl) (by rw [sg_cpr cp0] <;> rfl) ?_
  exact a_X8_subtractBeam_b53 E hA hX hN hml hst kr137 hs18 hk18 _ _ _ _ _ _ _ _ _ _ _ _ _ h (gl_cpr hgl cp0) cp0.2.2 had (by rw [cp0.1]; exact h_l0) (by rw [cp0.1]; exact h_l1) G hl
set_option maxHeartbeats 4000000 in
set_option maxRecDepth 100000 in
theorem a_X8_subtractBeam_b41 {p : Program} {l : Launch} {e : Env} {s : State} {m : MethodId} {args : Array Value} {below : List Frame} {meth : Method} {c : Code} {Q : State → Prop} {D : va_G} {A : Nat → Prop} {cI cJ cZ cMic cSrc cSt cAI cAJ : ClassId} {ad0 : Nat → Nat} {T0 : AT} {T1 : AT} (E : cE p c cX8_subtractBeam s m args (Cond.code yX8_subtractBeam cX8_subtractBeam 8 none :: wsA) D RX8 (CT cI cJ cZ cMic cSrc cSt cAI cAJ)) (hA : ∀ q : Nat, s.heap.size ≤ q → A q) (hX : xT A s) (hN : nX s) (hml : c.maxLocals = 8) (hst : l.stackTraces = false) (kr137 : ∀ (ad : Nat → Nat) (H : Heap) (locs : List Loc) (ls : Array Slot), (∀ n, n < T0.1 → ad n = ad0 n) → gC cI cJ cZ cMic cSrc cSt cAI cAJ D ad A s.heap H locs T1 → W p l e { frames := 4, cells := T1.1 - T0.1, slots := sg T1 - sg T0, locals := 77 } s m args below meth c H locs (T1.1 - T0.1) (sg T1 - sg T0) Q (F0 m 137 ls [])) {k18 : AT → Nat → Nat → Int32 → Int32 → Int32 → Int32 → Option (AT)} (hs18 : ∀ (T : AT) (l0 : Nat) (l1 : Nat) (l2 : Int32) (l3 : Int32) (l4 : Int32) (l5 : Int32), k18 T l0 l1 l2 l3 l4 l5 = some T1 → GL T T1) (hk18 : ∀ (T : AT) (ad : Nat → Nat) (H : Heap) (locs : List Loc) (ls : Array Slot) (l0 : Nat) (l1 : Nat) (l2 : Int32) (l3 : Int32) (l4 : Int32) (l5 : Int32), k18 T l0 l1 l2 l3 l4 l5 = some T1 → GL T0 T → RC T → (∀ n, n < T0.1 → ad n = ad0 n) → l0 < T.1 → l1 < T.1 → gC cI cJ cZ cMic cSrc cSt cAI cAJ D ad A s.heap H locs T → lv_has ls 8 [(0, .ref (ad l0)), (1, .ref (ad l1)), (2, .int l2), (3, .int l3), (4, .int l4), (5, .int l5)] → W p l e { frames := 4, cells := T1.1 - T0.1, slots := sg T1 - sg T0, locals := 77 } s m args below meth c H locs (T.1 - T0.1) (sg T - sg T0) Q (F0 m 18 ls [])) : ∀ (T : AT) (ad : Nat → Nat) (H : Heap) (locs : List Loc) (ls : Array Slot) (l0 : Nat) (l1 : Nat) (l2 : Int32) (l3 : Int32) (l4 : Int32) (l5 : Int32), g_X8_subtractBeam_b41 k18 T l0 l1 l2 l3 l4 l5 = some T1 → GL T0 T → RC T → (∀ n, n < T0.1 → ad n = ad0 n) → l0 < T.1 → l1 < T.1 → gC cI cJ cZ cMic cSrc cSt cAI cAJ D ad A s.heap H locs T → lv_has ls 8 [(0, .ref (ad l0)), (1, .ref (ad l1)), (2, .int l2), (3, .int l3), (4, .int l4), (5, .int l5)] → W p l e { frames := 4, cells := T1.1 - T0.1, slots := sg T1 - sg T0, locals := 77 } s m args below meth c H locs (T.1 - T0.1) (sg T - sg T0) Q (F0 m 41 ls []) := by
  have hx := E.1
  have hb := E.2.1
  have hts := E.2.2.1
  have hown := E.2.2.2.1
  have hK := E.2.2.2.2
  intro T ad H locs ls l0 l1 l2 l3 l4 l5 h hgl hrc had h_l0 h_l1 G hl
  have hT1 := s_X8_subtractBeam_b41 hs18 _ _ _ _ _ _ _ h
  have hcs := cs_ok hgl hT1
  have cp0 := cpr0 hrc
  unfold g_X8_subtractBeam_b41 at h
  refine lv_aload_n hx hb dX8_subtractBeam_41 rfl (lv_at hl 0 rfl) ?_
  obtain ⟨g2, h⟩ := oif_some h
  obtain ⟨n3, en3, h⟩ := obind_some h
  have h_n3 : n3 < T.1 := by rw [← cp0.1]; exact cp0.2.2 _ _ _ en3
  refine c_get E G l0 11 (v := .ref (ad n3)) (oO_k g2).1 (cc_o8 (oO_k g2).2) rfl (fun w h => .tail _ (iA_16 h)) (by decide) (.tail _ qA_52) rfl (by rw [en3]; rfl) dX8_subtractBeam_42 ?_
  clear en3
  refine lv_iconst (v := 0) hx hb dX8_subtractBeam_45 (by decide) ?_
  refine lv_iload_n hx hb dX8_subtractBeam_46 rfl (lv_at hl 3 rfl) ?_
  obtain ⟨g4, h⟩ := oif_some h
  obtain ⟨T5, eT5, h⟩ := obind_some h
  have hg2 := s_X10_divide eT5
  have hrc2 := hg2.2.2 cp0.2.2
  have hT2 := s_X8_subtractBeam_b50 hs18 _ _ _ _ _ _ _ h
  refine q_avv (As := [.int 0, .int l3]) (rest := []) E G hA hX hN hml (a_X10_divide l hst D cI cJ cZ cMic cSrc cSt cAI cAJ ad T n3 (0 : Int32) l3 eT5 cp0.2.2 (by rw [cp0.1]; exact h_n3)) (cwV 2 hts (gaV qA_104 qA_105 qA_106 qA_6 qA_107) rfl rfl rfl (by decide +kernel) ⟨Nat.le_of_ble_eq_true rfl, Nat.le_of_ble_eq_true rfl⟩) (oO_k g4).1 (cc_o10 (oO_k g4).2) rfl rfl hl.1 rfl (lv_room (Nat.le_of_ble_eq_true rfl)) dX8_subtractBeam_47 (cs_av hgl cp0 hg2 hT2) (fun ad2 H locs hga G => ?_)
  refine w_cast (c2 := T5.1 - T0.1) (s2 := sg T5 - sg T0) (cs_f1 hgl cp0 hg2) (cs_f2 hgl cp0 hg2) ?_
  have hl := lv_sub hl [0, 1, 2, 3, 4, 5] rfl
  rw [show ad l0 = ad2 l0 from (hga l0 (by rw [cp0.1]; exact h_l0)).symm] at hl
  rw [show ad l1 = ad2 l1 from (hga l1 (by rw [cp0.1]; exact h_l1)).symm] at hl
  exact a_X8_subtractBeam_b50 E hA hX hN hml hst kr137 hs18 hk18 _ _ _ _ _ _ _ _ _ _ _ h (GL.tr (gl_cpr hgl cp0) hg2) hrc2 (fun n hn => (hga n (by rw [cp0.1]; exact Nat.lt_of_lt_of_le hn hgl.1)).trans (had n hn)) (Nat.lt_of_lt_of_le (by rw [cp0.1]; exact h_l0) hg2.1) (Nat.lt_of_lt_of_le (by rw [cp0.1]; exact h_l1) hg2.1) G hl
set_option maxHeartbeats 4000000 in
set_option maxRecDepth 100000 in
theorem a_X8_subtractBeam_b32 {p : Program} {l : Launch} {e : Env} {s : State} {m : MethodId} {args : Array Value} {below : List Frame} {meth : Method} {c : Code} {Q : State → Prop} {D : va_G} {A : Nat → Prop} {cI cJ cZ cMic cSrc cSt cAI cAJ : ClassId} {ad0 : Nat → Nat} {T0 : AT} {T1 : AT} (E : cE p c cX8_subtractBeam s m args (Cond.code yX8_subtractBeam cX8_subtractBeam 8 none :: wsA) D RX8 (CT cI cJ cZ cMic cSrc cSt cAI cAJ)) (hA : ∀ q : Nat, s.heap.size ≤ q → A q) (hX : xT A s) (hN : nX s) (hml : c.maxLocals = 8) (hst : l.stackTraces = false) (kr137 : ∀ (ad : Nat → Nat) (H : Heap) (locs : List Loc) (ls : Array Slot), (∀ n, n < T0.1 → ad n = ad0 n) → gC cI cJ cZ cMic cSrc cSt cAI cAJ D ad A s.heap H locs T1 → W p l e { frames := 4, cells := T1.1 - T0.1, slots := sg T1 - sg T0, locals := 77 } s m args below meth c H locs (T1.1 - T0.1) (sg T1 - sg T0) Q (F0 m 137 ls [])) {k18 : AT → Nat → Nat → Int32 → Int32 → Int32 → Int32 → Option (AT)} (hs18 : ∀ (T : AT) (l0 : Nat) (l1 : Nat) (l2 : Int32) (l3 : Int32) (l4 : Int32) (l5 : Int32), k18 T l0 l1 l2 l3 l4 l5 = some T1 → GL T T1) (hk18 : ∀ (T : AT) (ad : Nat → Nat) (H : Heap) (locs : List Loc) (ls : Array Slot) (l0 : Nat) (l1 : Nat) (l2 : Int32) (l3 : Int32) (l4 : Int32) (l5 : Int32), k18 T l0 l1 l2 l3 l4 l5 = some T1 → GL T0 T → RC T → (∀ n, n < T0.1 → ad n = ad0 n) → l0 < T.1 → l1 < T.1 → gC cI cJ cZ cMic cSrc cSt cAI cAJ D ad A s.heap H locs T → lv_has ls 8 [(0, .ref (ad l0)), (1, .ref (ad l1)), (2, .int l2), (3, .int l3), (4, .int l4), (5, .int l5)] → W p l e { frames := 4, cells := T1.1 - T0.1, slots := sg T1 - sg T0, locals := 77 } s m args below meth c H locs (T.1 - T0.1) (sg T - sg T0) Q (F0 m 18 ls [])) : ∀ (T : AT) (ad : Nat → Nat) (H : Heap) (locs : List Loc) (ls : Array Slot) (l0 : Nat) (l1 : Nat) (l2 : Int32) (l3 : Int32) (l4 : Int32) (l5 : Int32), g_X8_subtractBeam_b32 k18 T l0 l1 l2 l3 l4 l5 = some T1 → GL T0 T → RC T → (∀ n, n < T0.1 → ad n = ad0 n) → l0 < T.1 → l1 < T.1 → gC cI cJ cZ cMic cSrc cSt cAI cAJ D ad A s.heap H locs T → lv_has ls 8 [(0, .ref (ad l0)), (1, .ref (ad l1)), (2, .int l2), (3, .int l3), (4, .int l4), (5, .int l5)] → W p l e { frames := 4, cells := T1.1 - T0.1, slots := sg T1 - sg T0, locals := 77 } s m args below meth c H locs (T.1 - T0.1) (sg T - sg T0) Q (F0 m 32 ls []) := by
  have hx := E.1
  have hb := E.2.1
  have hts := E.2.2.1
  have hown := E.2.2.2.1
  have hK := E.2.2.2.2
  intro T ad H locs ls l0 l1 l2 l3 l4 l5 h hgl hrc had h_l0 h_l1 G hl
  have hT1 := s_X8_subtractBeam_b32 hs18 _ _ _ _ _ _ _ h
  have hcs := cs_ok hgl hT1
  have cp0 := cpr0 hrc
  unfold g_X8_subtractBeam_b32 at h
  refine lv_aload_n hx hb dX8_subtractBeam_32 rfl (lv_at hl 0 rfl) ?_
  obtain ⟨g2, h⟩ := oif_some h
  obtain ⟨n3, en3, h⟩ := obind_some h
  have h_n3 : n3 < T.1 := by rw [← cp0.1]; exact cp0.2.2 _ _ _ en3
  refine c_get E G l0 11 (v := .ref (ad n3)) (oO_k g2).1 (cc_o8 (oO_k g2).2) rfl (fun w h => .tail _ (iA_16 h)) (by decide) (.tail _ qA_52) rfl (by rw [en3]; rfl) dX8_subtractBeam_33 ?_
  clear en3
  refine lv_iconst (v := 0) hx hb dX8_subtractBeam_36 (by decide) ?_
  refine lv_iload_n hx hb dX8_subtractBeam_37 rfl (lv_at hl 2 rfl) ?_
  obtain ⟨g4, h⟩ := oif_some h
  obtain ⟨T5, eT5, h⟩ := obind_some h
  have hg2 := s_X10_multiply eT5
  have hrc2 := hg2.2.2 cp0.2.2
  have hT2 := s_X8_subtractBeam_b41 hs18 _ _ _ _ _ _ _ h
  refine q_avv (As := [.int 0, .int l2]) (rest := []) E G hA hX hN hml (a_X10_multiply l hst D cI cJ cZ cMic cSrc cSt cAI cAJ ad T n3 (0 : Int32) l2 eT5 cp0.2.2 (by rw [cp0.1]; exact h_n3)) (cwV 2 hts (gaV qA_624 qA_625 qA_626 qA_6 qA_627) rfl rfl rfl (by decide +kernel) ⟨Nat.le_of_ble_eq_true rfl, Nat.le_of_ble_eq_true rfl⟩) (oO_k g4).1 (cc_o10 (oO_k g4).2) rfl rfl hl.1 rfl (lv_room (Nat.le_of_ble_eq_true rfl)) dX8_subtractBeam_38 (cs_av hgl cp0 hg2 hT2) (fun ad2 H locs hga G => ?_)
  refine w_cast (c2 := T5.1 - T0.1) (s2 := sg T5 - sg T0) (cs_f1 hgl cp0 hg2) (cs_f2 hgl cp0 hg2) ?_
  have hl := lv_sub hl [0, 1, 2, 3, 4, 5] rfl
  rw [show ad l0 = ad2 l0 from (hga l0 (by rw [cp0.1]; exact h_l0)).symm] at hl
  rw [show ad l1 = ad2 l1 from (hga l1 (by rw [cp0.1]; exact h_l1)).symm] at hl
  exact a_X8_subtractBeam_b41 E hA hX hN hml hst kr137 hs18 hk18 _ _ _ _ _ _ _ _ _ _ _ h (GL.tr (gl_cpr hgl cp0) hg2) hrc2 (fun n hn => (hga n (by rw [cp0.1]; exact Nat.lt_of_lt_of_le hn hgl.1)).trans (had n hn)) (Nat.lt_of_lt_of_le (by rw [cp0.1]; exact h_l0) hg2.1) (Nat.lt_of_lt_of_le (by rw [cp0.1]; exact h_l1) hg2.1) G hl
set_option maxHeartbeats 4000000 in
set_option maxRecDepth 100000 in
theorem a_X8_subtractBeam_b18 {p : Program} {l : Launch} {e : Env} {s : State} {m : MethodId} {args : Array Value} {below : List Frame} {meth : Method} {c : Code} {Q : State → Prop} {D : va_G} {A : Nat → Prop} {cI cJ cZ cMic cSrc cSt cAI cAJ : ClassId} {ad0 : Nat → Nat} {T0 : AT} {T1 : AT} (E : cE p c cX8_subtractBeam s m args (Cond.code yX8_subtractBeam cX8_subtractBeam 8 none :: wsA) D RX8 (CT cI cJ cZ cMic cSrc cSt cAI cAJ)) (hA : ∀ q : Nat, s.heap.size ≤ q → A q) (hX : xT A s) (hN : nX s) (hml : c.maxLocals = 8) (hst : l.stackTraces = false) (kr137 : ∀ (ad : Nat → Nat) (H : Heap) (locs : List Loc) (ls : Array Slot), (∀ n, n < T0.1 → ad n = ad0 n) → gC cI cJ cZ cMic cSrc cSt cAI cAJ D ad A s.heap H locs T1 → W p l e { frames := 4, cells := T1.1 - T0.1, slots := sg T1 - sg T0, locals := 77 } s m args below meth c H locs (T1.1 - T0.1) (sg T1 - sg T0) Q (F0 m 137 ls [])) : ∀ n : Nat, ∀ (T : AT) (ad : Nat → Nat) (H : Heap) (locs : List Loc) (ls : Array Slot) (l0 : Nat) (l1 : Nat) (l2 : Int32) (l3 : Int32) (l4 : Int32) (l5 : Int32), g_X8_subtractBeam_b18 n T l0 l1 l2 l3 l4 l5 = some T1 → GL T0 T → RC T → (∀ n, n < T0.1 → ad n = ad0 n) → l0 < T.1 → l1 < T.1 → gC cI cJ cZ cMic cSrc cSt cAI cAJ D ad A s.heap H locs T → lv_has ls 8 [(0, .ref (ad l0)), (1, .ref (ad l1)), (2, .int l2), (3, .int l3), (4, .int l4), (5, .int l5)] → W p l e { frames := 4, cells := T1.1 - T0.1, slots := sg T1 - sg T0, locals := 77 } s m args below meth c H locs (T.1 - T0.1) (sg T - sg T0) Q (F0 m 18 ls []) := by
  have hx := E.1
  have hb := E.2.1
  have hts := E.2.2.1
  have hown := E.2.2.2.1
  have hK := E.2.2.2.2
  intro n
  induction n with
  | zero =>
    intro T ad H locs ls l0 l1 l2 l3 l4 l5 h
    have h : (none : Option (AT)) = some T1 := h
    cases h
  | succ n ih =>
    intro T ad H locs ls l0 l1 l2 l3 l4 l5 h hgl hrc had h_l0 h_l1 G hl
    have hT1 := s_X8_subtractBeam_b18 _ _ _ _ _ _ _ _ h
    have hcs := cs_ok hgl hT1
    have cp0 := cpr0 hrc
    unfold g_X8_subtractBeam_b18 at h
    refine lv_iload hx hb dX8_subtractBeam_18 (lv_at hl 5 rfl) ?_
    refine lv_iload hx hb dX8_subtractBeam_20 (lv_at hl 4 rfl) ?_
    refine lv_icmp_ge (tgt := 127) hx hb dX8_subtractBeam_22 (by decide) (fun c2 => ?_) (fun c2 => ?_)
    · have h := oif_pos c2 h
      refine lv_aload_n hx hb dX8_subtractBeam_127 rfl (lv_at hl 0 rfl) ?_
      refine lv_dup hx hb dX8_subtractBeam_128 rfl ?_
      obtain ⟨g3, h⟩ := oif_some h
      refine c_get E G l0 2 (oO_k g3).1 (cc_o8 (oO_k g3).2) rfl (fun w h => .tail _ (iA_16 h)) (by decide) (.tail _ qA_604) rfl rfl dX8_subtractBeam_129 ?_
      refine lv_topi (fun v4 ev4 => ?_)
      have h := elet_at ev4 h
      clear ev4
      refine lv_iconst (v := 1) hx hb dX8_subtractBeam_132 (by decide) ?_
      refine lv_iadd hx hb dX8_subtractBeam_133 ?_
      refine lv_topi (fun v5 ev5 => ?_)
      have h := elet_at ev5 h
      clear ev5
      obtain ⟨g6, h⟩ := oif_some h
      refine c_put E G l0 2 (v := .int v5) (oO_k g6).1 (cc_o8 (oO_k g6).2) rfl (fun w h => .tail _ (iA_16 h)) tyX8 tyX8_ok nmX8 (by decide) (.tail _ qA_604) ⟨rfl, rfl, rfl⟩ rfl rfl (Nat.le_of_ble_eq_true rfl) dX8_subtractBeam_134 (fun H locs G => ?_)
      have G := gC_up_i (f := upd (T.2.2.1 l0) 2 v5) (by rw [(oO_k g6).2]; rfl) G
      obtain ⟨T7, eT7, h⟩ := elet_some h
      have G : gC cI cJ cZ cMic cSrc cSt cAI cAJ D ad A s.heap H locs T7 := by rw [eT7]; exact G
      have cp1 := show CPR T T7 from by rw [eT7]; exact cpr_sp cp0 sp_uI
      clear eT7
      rw [osome1 h] at G
      refine w_cast (c2 := T1.1 - T0.1) (s2 := sg T1 - sg T0) (by rw [← osome1 h, cp1.1] <;> rfl) (by rw [← osome1 h, sg_cpr cp1] <;> rfl) ?_
      exact kr137 ad _ _ _ had G
    · have h := oif_neg c2 h
      refine lv_aload_n hx hb dX8_subtractBeam_25 rfl (lv_at hl 0 rfl) ?_
      refine lv_aload_n hx hb dX8_subtractBeam_26 rfl (lv_at hl 1 rfl) ?_
      refine lv_iload hx hb dX8_subtractBeam_27 (lv_at hl 5 rfl) ?_
      obtain ⟨g8, h⟩ := oif_some h
      obtain ⟨T9, eT9, h⟩ := obind_some h
      have hg2 := s_X8_focus eT9
      have hrc2 := hg2.2.2 cp0.2.2
      have hT2 := s_X8_subtractBeam_b32 (s_X8_subtractBeam_b18 n) _ _ _ _ _ _ _ h
      refine q_avv (As := [.ref (ad l1), .int l5]) (rest := []) E G hA hX hN hml (a_X8_focus l hst D cI cJ cZ cMic cSrc cSt cAI cAJ ad T l0 l1 l5 eT9 cp0.2.2 (by rw [cp0.1]; exact h_l0) (by rw [cp0.1]; exact h_l1)) (cwV 2 hts (gaV qA_69 qA_70 qA_71 qA_47 qA_72) rfl rfl rfl (by decide +kernel) ⟨Nat.le_of_ble_eq_true rfl, Nat.le_of_ble_eq_true rfl⟩) (oO_k g8).1 (cc_o8 (oO_k g8).2) rfl rfl hl.1 rfl (lv_room (Nat.le_of_ble_eq_true rfl)) dX8_subtractBeam_29 (cs_av hgl cp0 hg2 hT2) (fun ad2 H locs hga G => ?_)
      refine w_cast (c2 := T9.1 - T0.1) (s2 := sg T9 - sg T0) (cs_f1 hgl cp0 hg2) (cs_f2 hgl cp0 hg2) ?_
      have hl := lv_sub hl [0, 1, 2, 3, 4, 5] rfl
      rw [show ad l0 = ad2 l0 from (hga l0 (by rw [cp0.1]; exact h_l0)).symm] at hl
      rw [show ad l1 = ad2 l1 from (hga l1 (by rw [cp0.1]; exact h_l1)).symm] at hl
      exact a_X8_subtractBeam_b32 E hA hX hN hml hst kr137 (s_X8_subtractBeam_b18 n) ih _ _ _ _ _ _ _ _ _ _ _ h (GL.tr (gl_cpr hgl cp0) hg2) hrc2 (fun n hn => (hga n (by rw [cp0.1]; exact Nat.lt_of_lt_of_le hn hgl.1)).trans (had n hn)) (Nat.lt_of_lt_of_le (by rw [cp0.1]; exact h_l0) hg2.1) (Nat.lt_of_lt_of_le (by rw [cp0.1]; exact h_l1) hg2.1) G hl
set_option maxHeartbeats 4000000 in
set_option maxRecDepth 100000 in
theorem a_X8_subtractBeam (l : Launch) (hst : l.stackTraces = false) (D : va_G) (cI cJ cZ cMic cSrc cSt cAI cAJ : ClassId) (ad : Nat → Nat) (T : AT) (o : Nat) (a0 : Nat) (a1 : Int32) {T1 : AT} (h : g_X8_subtractBeam T o a0 a1 = some T1) (hrc : RC T) (h_o : o < T.1) (h_a0 : a0 < T.1) : kAv l yX8_subtractBeam (Cond.code yX8_subtractBeam cX8_subtractBeam 8 none :: wsA) 4 77 cI cJ cZ cMic cSrc cSt cAI cAJ D ad T [.ref (ad o), .ref (ad a0), .int a1] T1 := by
  intro sz
  refine Met.ofW (cc := cX8_subtractBeam) (maxL := 8) (ret := none) (by decide) rfl ?_
  intro p e s m args below meth c s₁ B hml hv
  obtain ⟨rfl, hsz, hP, hK, hD0, hX, hN⟩ := hv
  have hx := B.exec
  have hb := B.bytes
  have hr := B.returns
  have hts := atoms_spec (ws := (Cond.code yX8_subtractBeam cX8_subtractBeam 8 none :: wsA)) B.pre
  have hown : s.vm.findClass RX8 = some m.cls := findClass_of_methodNamed B.named
  have hlocks := B.notSynchronized
  subst hsz
  have hD := hD0.self (sz := s.heap.size)
  generalize hAe : va_A (cW ad T.1 (cc cI cJ cZ cMic cSrc cSt cAI cAJ ad T)) s.heap.size = A at hD hX ⊢
  have hA : ∀ q : Nat, s.heap.size ≤ q → A q := fun q h => by rw [← hAe]; exact Or.inr h
  have G : gC cI cJ cZ cMic cSrc cSt cAI cAJ D ad A s.heap s.heap [] T := ⟨hP, hD, va_S.rf⟩
  have E : cE p c cX8_subtractBeam s m ([.ref (ad o), .ref (ad a0), .int a1] : List Value).toArray (Cond.code yX8_subtractBeam cX8_subtractBeam 8 none :: wsA) D RX8 (CT cI cJ cZ cMic cSrc cSt cAI cAJ) := ⟨hx, hb, hts, hown, hK⟩
  have hl := lv_entry ([.ref (ad o), .ref (ad a0), .int a1]) (n := 8) (Nat.le_of_ble_eq_true rfl)
  rw [lg_entry_eq]
  generalize (lg_sl ([.ref (ad o), .ref (ad a0), .int a1]) ++ List.replicate (8 - (lg_sl ([.ref (ad o), .ref (ad a0), .int a1])).length) Slot.unset).toArray = ls at hl ⊢
  have hl : lv_has ls 8 [(0, .ref (ad o)), (1, .ref (ad a0)), (2, .int a1)] := hl
  have hgl := GL.rf T
  have had : ∀ n, n < T.1 → ad n = ad n := fun _ _ => rfl
  have hT1 := s_X8_subtractBeam h
  have hcs := cs_ok hgl hT1
  refine w_cast (Nat.sub_self T.1).symm (Nat.sub_self (sg T)).symm ?_
  have cp0 := cpr0 hrc
  unfold g_X8_subtractBeam at h
  refine lv_bipush (v := 100) hx hb dX8_subtractBeam_0 (by decide) ?_
  refine lv_aload_n hx hb dX8_subtractBeam_2 rfl (lv_at hl 0 rfl) ?_
  obtain ⟨g2, h⟩ := oif_some h
  obtain ⟨r5, T3, eT3, h⟩ := obind2_some h
  refine q_cvi (As := []) (rest := [.int 100]) E G hA hX hN hml (u_X8_activeWeight l hst D cI cJ cZ cMic cSrc cSt cAI cAJ ad T o eT3) (cwV 0 hts (gaV qA_621 qA_622 qA_623 qA_47 qA_615) rfl rfl rfl (by decide +kernel) ⟨Nat.le_of_ble_eq_true rfl, Nat.le_of_ble_eq_true rfl⟩) (oO_k g2).1 (cc_o8 (oO_k g2).2) rfl rfl hl.1 rfl (lv_room (Nat.le_of_ble_eq_true rfl)) dX8_subtractBeam_3 hcs (fun q6 T4 H locs hq G => ?_)
  obtain ⟨hq1, hq2⟩ := hq
  rw [hq2] at G
  refine lv_to hq1 ?_
  clear hq1 hq2
  have cp1 := cpr_sp cp0 (s_X8_activeWeight eT3)
  refine lv_imul hx hb dX8_subtractBeam_6 ?_
  refine lv_topi (fun v7 ev7 => ?_)
  have h := elet_at ev7 h
  clear ev7
  refine lv_istore_n (lv' := [(3, .int v7), (0, .ref (ad o)), (1, .ref (ad a0)), (2, .int a1)]) hx hb dX8_subtractBeam_7 rfl hl (by decide) rfl (fun ls hl => ?_)
  refine lv_aload_n hx hb dX8_subtractBeam_8 rfl (lv_at hl 1 rfl) ?_
  refine lv_aload_n hx hb dX8_subtractBeam_9 rfl (lv_at hl 2 rfl) ?_
  obtain ⟨g8, h⟩ := oif_some h
  obtain ⟨r11, T9, eT9, h⟩ := obind2_some h
  refine q_cvi (As := [.ref (ad a0)]) (rest := []) E G hA hX hN hml (u_X8_windowOf l hst D cI cJ cZ cMic cSrc cSt cAI cAJ ad T3 o a0 eT9) (cwV 1 hts (gaV qA_53 qA_54 qA_55 qA_47 qA_56) rfl rfl rfl (by decide +kernel) ⟨Nat.le_of_ble_eq_true rfl, Nat.le_of_ble_eq_true rfl⟩) (oO_k g8).1 (cc_o8 (oO_k g8).2) rfl rfl hl.1 rfl (lv_room (Nat.le_of_ble_eq_true rfl)) dX8_subtractBeam_10 hcs (fun q12 T10 H locs hq G => ?_)
  obtain ⟨hq1, hq2⟩ := hq
  rw [hq2] at G
  refine lv_to hq1 ?_
  clear hq1 hq2
  have cp2 := cpr_sp cp1 (s_X8_windowOf eT9)
  refine lv_istore (lv' := [(4, .int r11), (3, .int v7), (0, .ref (ad o)), (1, .ref (ad a0)), (2, .int a1)]) hx hb dX8_subtractBeam_13 hl (by decide) rfl (fun ls hl => ?_)
  refine lv_iconst (v := 0) hx hb dX8_subtractBeam_15 (by decide) ?_
  refine lv_istore (lv' := [(5, .int 0), (4, .int r11), (3, .int v7), (0, .ref (ad o)), (1, .ref (ad a0)), (2, .int a1)]) hx hb dX8_subtractBeam_16 hl (by decide) rfl (fun ls hl => ?_)
  have hl := lv_sub hl [3, 4, 5, 2, 1, 0] rfl
  refine w_cast (c2 := T9.1 - T.1) (s2 := sg T9 - sg T) (by rw [cp2.1] <;> rfl) (by rw [sg_cpr cp2] <;> rfl) ?_
  exact a_X8_subtractBeam_b18 E hA hX hN hml hst (fun ad H locs ls had G => W.vret hx hb hr (fun t ht hW => ⟨⟨(T1, ad), rfl, ⟨rfl, had⟩, ⟨by rw [ht]; exact G.1, va_K.moved hW.alike hK, G.2.1⟩⟩, G.2.2.F ht⟩) G.2.2.2.2 dX8_subtractBeam_137) _ _ _ _ _ _ _ _ _ _ _ _ h (gl_cpr hgl cp2) cp2.2.2 had (by rw [cp2.1]; exact h_o) (by rw [cp2.1]; exact h_a0) G hl
end
section
/-! 11kk.cd10.lean.txt -/
def g_X9_addWord_b43 (k3 : AT → Nat → Int32 → Int32 → Option (AT)) (T : AT) (l0 : Nat) (l1 : Int32) (l2 : Int32) : Option (AT) := elet (l2 + Int32.ofInt (-8)) fun v2 => k3 T l0 l1 v2
set_option maxHeartbeats 4000000 in
set_option maxRecDepth 100000 in
theorem u_X9_addWord_b43 {p : Program} {l : Launch} {e : Env} {s : State} {m : MethodId} {args : Array Value} {below : List Frame} {meth : Method} {c : Code} {Q : State → Prop} {D : va_G} {A : Nat → Prop} {cI cJ cZ cMic cSrc cSt cAI cAJ : ClassId} {ad : Nat → Nat} {T1 : AT} (E : cE p c cX9_addWord s m args (Cond.code yX9_addWord cX9_addWord 3 none :: wsA) D RX9 (CT cI cJ cZ cMic cSrc cSt cAI cAJ)) (hA : ∀ q : Nat, s.heap.size ≤ q → A q) (hX : xT A s) (hN : nX s) (hml : c.maxLocals = 3) (hst : l.stackTraces = false) (kr49 : ∀ (H : Heap) (locs : List Loc) (ls : Array Slot), gC cI cJ cZ cMic cSrc cSt cAI cAJ D ad A s.heap H locs T1 → W p l e { frames := 1, cells := 0, slots := 0, locals := 0 } s m args below meth c H locs 0 0 Q (F0 m 49 ls [])) {k3 : AT → Nat → Int32 → Int32 → Option (AT)} (hk3 : ∀ (T : AT) (H : Heap) (locs : List Loc) (ls : Array Slot) (l0 : Nat) (l1 : Int32) (l2 : Int32), k3 T l0 l1 l2 = some T1 → gC cI cJ cZ cMic cSrc cSt cAI cAJ D ad A s.heap H locs T → lv_has ls 3 [(0, .ref (ad l0)), (1, .int l1), (2, .int l2)] → W p l e { frames := 1, cells := 0, slots := 0, locals := 0 } s m args below meth c H locs 0 0 Q (F0 m 3 ls [])) : ∀ (T : AT) (H : Heap) (locs : List Loc) (ls : Array Slot) (l0 : Nat) (l1 : Int32) (l2 : Int32), g_X9_addWord_b43 k3 T l0 l1 l2 = some T1 → gC cI cJ cZ cMic cSrc cSt cAI cAJ D ad A s.heap H locs T → lv_has ls 3 [(0, .ref (ad l0)), (1, .int l1), (2, .int l2)] → W p l e { frames := 1, cells := 0, slots := 0, locals := 0 } s m args below meth c H locs 0 0 Q (F0 m 43 ls []) := by
  have hx := E.1
  have hb := E.2.1
  have hts := E.2.2.1
  have hown := E.2.2.2.1
  have hK := E.2.2.2.2
  intro T H locs ls l0 l1 l2 h G hl
  unfold g_X9_addWord_b43 at h
  obtain ⟨v2, ev2, h⟩ := elet_some h
  refine lv_iinc (v := v2) (lv' := [(2, .int v2), (0, .ref (ad l0)), (1, .int l1)]) hx hb dX9_addWord_43 hl (k := 2) rfl ev2.symm (by decide) rfl (fun ls hl => ?_)
  refine lv_goto (tgt := 3) hx hb dX9_addWord_46 (by decide) ?_
  have hl := lv_sub hl [1, 2, 0] rfl
  exact hk3 _ _ _ _ _ _ _ h G hl
def g_X9_addWord_b3  : Nat → AT → Nat → Int32 → Int32 → Option (AT)
  | 0, _, _, _, _ => none
  | n + 1, T, l0, l1, l2 => if l2 < 0 then (some T) else (oif (oO T l0 9 = true) <| elet (T.2.2.1 l0 1) fun v4 => if 1000 ≤ v4 then (g_X9_addWord_b43 (g_X9_addWord_b3 n) T l0 l1 l2) else (oif (oO T l0 9 = true) <| obind (T.2.2.2.2 l0 0) fun n7 => oif (oO T l0 9 = true) <| elet (T.2.2.1 l0 1) fun v9 => elet ((l1.toUInt32 >>> (l2.toUInt32 &&& Int32.toUInt32 31)).toInt32) fun v10 => elet (v10 &&& 255) fun v11 => oif (aA T n7 100 = true) <| oif (inb v9 (T.2.1 n7).2 = true) <| elet (uI T n7 v9.toNatClampNeg v11) fun T14 => oif (oO T14 l0 9 = true) <| elet (T14.2.2.1 l0 1) fun v16 => elet (v16 + 1) fun v17 => oif (oO T14 l0 9 = true) <| elet (uI T14 l0 1 v17) fun T19 => g_X9_addWord_b43 (g_X9_addWord_b3 n) T19 l0 l1 l2))
set_option maxHeartbeats 4000000 in
set_option maxRecDepth 100000 in
theorem u_X9_addWord_b3 {p : Program} {l : Launch} {e : Env} {s : State} {m : MethodId} {args : Array Value} {below : List Frame} {meth : Method} {c : Code} {Q : State → Prop} {D : va_G} {A : Nat → Prop} {cI cJ cZ cMic cSrc cSt cAI cAJ : ClassId} {ad : Nat → Nat} {T1 : AT} (E : cE p c cX9_addWord s m args (Cond.code yX9_addWord cX9_addWord 3 none :: wsA) D RX9 (CT cI cJ cZ cMic cSrc cSt cAI cAJ)) (hA : ∀ q : Nat, s.heap.size ≤ q → A q) (hX : xT A s) (hN : nX s) (hml : c.maxLocals = 3) (hst : l.stackTraces = false) (kr49 : ∀ (H : Heap) (locs : List Loc) (ls : Array Slot), gC cI cJ cZ cMic cSrc cSt cAI cAJ D ad A s.heap H locs T1 → W p l e { frames := 1, cells := 0, slots := 0, locals := 0 } s m args below meth c H locs 0 0 Q (F0 m 49 ls [])) : ∀ n : Nat, ∀ (T : AT) (H : Heap) (locs : List Loc) (ls : Array Slot) (l0 : Nat) (l1 : Int32) (l2 : Int32), g_X9_addWord_b3 n T l0 l1 l2 = some T1 → gC cI cJ cZ cMic cSrc cSt cAI cAJ D ad A s.heap H locs T → lv_has ls 3 [(0, .ref (ad l0)), (1, .int l1), (2, .int l2)] → W p l e { frames := 1, cells := 0, slots := 0, locals := 0 } s m args below meth c H locs 0 0 Q (F0 m 3 ls []) := by
  have hx := E.1
  have hb := E.2.1
  have hts := E.2.2.1
  have hown := E.2.2.2.1
  have hK := E.2.2.2.2
  intro n
  induction n with
  | zero =>
    intro T H locs ls l0 l1 l2 h
    have h : (none : Option (AT)) = some T1 := h
    cases h
  | succ n ih =>
    intro T H locs ls l0 l1 l2 h G hl
    unfold g_X9_addWord_b3 at h
    refine lv_iload_n hx hb dX9_addWord_3 rfl (lv_at hl 2 rfl) ?_
    refine lv_if_lt (tgt := 49) hx hb dX9_addWord_4 (by decide) (fun c2 => ?_) (fun c2 => ?_)
    · have h := oif_pos c2 h
      rw [osome1 h] at G
      exact kr49 _ _ _ G
    · have h := oif_neg c2 h
      refine lv_aload_n hx hb dX9_addWord_7 rfl (lv_at hl 0 rfl) ?_
      obtain ⟨g3, h⟩ := oif_some h
      refine c_get E G l0 1 (oO_k g3).1 (cc_o9 (oO_k g3).2) rfl (fun w h => .tail _ (iA_18 h)) (by decide) (.tail _ qA_632) rfl rfl dX9_addWord_8 ?_
      refine lv_topi (fun v4 ev4 => ?_)
      have h := elet_at ev4 h
      clear ev4
      refine lv_sipush (v := 1000) hx hb dX9_addWord_11 (by decide) ?_
      refine lv_icmp_ge (tgt := 43) hx hb dX9_addWord_14 (by decide) (fun c5 => ?_) (fun c5 => ?_)
      · have h := oif_pos c5 h
        have hl := lv_sub hl [0, 1, 2] rfl
        exact u_X9_addWord_b43 E hA hX hN hml hst kr49 ih _ _ _ _ _ _ _ h G hl
      · have h := oif_neg c5 h
        refine lv_aload_n hx hb dX9_addWord_17 rfl (lv_at hl 0 rfl) ?_
        obtain ⟨g6, h⟩ := oif_some h
        obtain ⟨n7, en7, h⟩ := obind_some h
        refine c_get E G l0 0 (v := .ref (ad n7)) (oO_k g6).1 (cc_o9 (oO_k g6).2) rfl (fun w h => .tail _ (iA_18 h)) (by decide) (.tail _ qA_192) rfl (by rw [en7]; rfl) dX9_addWord_18 ?_
        clear en7
        refine lv_aload_n hx hb dX9_addWord_21 rfl (lv_at hl 0 rfl) ?_
        obtain ⟨g8, h⟩ := oif_some h
        refine c_get E G l0 1 (oO_k g8).1 (cc_o9 (oO_k g8).2) rfl (fun w h => .tail _ (iA_18 h)) (by decide) (.tail _ qA_632) rfl rfl dX9_addWord_22 ?_
        refine lv_topi (fun v9 ev9 => ?_)
        have h := elet_at ev9 h
        clear ev9
        refine lv_iload_n hx hb dX9_addWord_25 rfl (lv_at hl 1 rfl) ?_
        refine lv_iload_n hx hb dX9_addWord_26 rfl (lv_at hl 2 rfl) ?_
        refine lv_iushr (v := (l1.toUInt32 >>> (l2.toUInt32 &&& Int32.toUInt32 31)).toInt32) hx hb dX9_addWord_27 rfl ?_
        refine lv_topi (fun v10 ev10 => ?_)
        have h := elet_at ev10 h
        clear ev10
        refine lv_sipush (v := 255) hx hb dX9_addWord_28 (by decide) ?_
        refine lv_iand hx hb dX9_addWord_31 ?_
        refine lv_topi (fun v11 ev11 => ?_)
        have h := elet_at ev11 h
        clear ev11
        obtain ⟨g12, h⟩ := oif_some h
        obtain ⟨g13, h⟩ := oif_some h
        refine c_iast E G n7 0 (k := v9.toNatClampNeg) (v := v11) (aA_k g12).1 (cc_a100 (aA_k g12).2.1) rfl (inb_k g13).1 (inb_k g13).2 (aA_k g12).2.2 dX9_addWord_32 (fun H locs G => ?_)
        have G := gC_up_i (f := upd (T.2.2.1 n7) v9.toNatClampNeg v11) (ccv_100 (aA_k g12).2.1) G
        obtain ⟨T14, eT14, h⟩ := elet_some h
        have G : gC cI cJ cZ cMic cSrc cSt cAI cAJ D ad A s.heap H locs T14 := by rw [eT14]; exact G
        clear eT14
        refine lv_aload_n hx hb dX9_addWord_33 rfl (lv_at hl 0 rfl) ?_
        refine lv_dup hx hb dX9_addWord_34 rfl ?_
        obtain ⟨g15, h⟩ := oif_some h
        refine c_get E G l0 1 (oO_k g15).1 (cc_o9 (oO_k g15).2) rfl (fun w h => .tail _ (iA_18 h)) (by decide) (.tail _ qA_632) rfl rfl dX9_addWord_35 ?_
        refine lv_topi (fun v16 ev16 => ?_)
        have h := elet_at ev16 h
        clear ev16
        refine lv_iconst (v := 1) hx hb dX9_addWord_38 (by decide) ?_
        refine lv_iadd hx hb dX9_addWord_39 ?_
        refine lv_topi (fun v17 ev17 => ?_)
        have h := elet_at ev17 h
        clear ev17
        obtain ⟨g18, h⟩ := oif_some h
        refine c_put E G l0 1 (v := .int v17) (oO_k g18).1 (cc_o9 (oO_k g18).2) rfl (fun w h => .tail _ (iA_18 h)) tyX9 tyX9_ok nmX9 (by decide) (.tail _ qA_632) ⟨rfl, rfl, rfl⟩ rfl rfl (Nat.le_of_ble_eq_true rfl) dX9_addWord_40 (fun H locs G => ?_)
        have G := gC_up_i (f := upd (T14.2.2.1 l0) 1 v17) (by rw [(oO_k g18).2]; rfl) G
        obtain ⟨T19, eT19, h⟩ := elet_some h
        have G : gC cI cJ cZ cMic cSrc cSt cAI cAJ D ad A s.heap H locs T19 := by rw [eT19]; exact G
        clear eT19
        have hl := lv_sub hl [0, 1, 2] rfl
        exact u_X9_addWord_b43 E hA hX hN hml hst kr49 ih _ _ _ _ _ _ _ h G hl
def g_X9_addWord (T : AT) (o : Nat) (a0 : Int32) : Option (AT) := g_X9_addWord_b3 16384 T o a0 24
set_option maxHeartbeats 4000000 in
set_option maxRecDepth 100000 in
theorem u_X9_addWord (l : Launch) (hst : l.stackTraces = false) (D : va_G) (cI cJ cZ cMic cSrc cSt cAI cAJ : ClassId) (ad : Nat → Nat) (T : AT) (o : Nat) (a0 : Int32) {T1 : AT} (h : g_X9_addWord T o a0 = some T1) : kCv l yX9_addWord (Cond.code yX9_addWord cX9_addWord 3 none :: wsA) 1 0 cI cJ cZ cMic cSrc cSt cAI cAJ D ad T [.ref (ad o), .int a0] (fun T9 => T9 = T1) := by
  intro sz
  refine Met.ofW (cc := cX9_addWord) (maxL := 3) (ret := none) (by decide) rfl ?_
  intro p e s m args below meth c s₁ B hml hv
  obtain ⟨rfl, hsz, hP, hK, hD0, hX, hN⟩ := hv
  have hx := B.exec
  have hb := B.bytes
  have hr := B.returns
  have hts := atoms_spec (ws := (Cond.code yX9_addWord cX9_addWord 3 none :: wsA)) B.pre
  have hown : s.vm.findClass RX9 = some m.cls := findClass_of_methodNamed B.named
  have hlocks := B.notSynchronized
  subst hsz
  have hD := hD0.self (sz := s.heap.size)
  generalize hAe : va_A (cW ad T.1 (cc cI cJ cZ cMic cSrc cSt cAI cAJ ad T)) s.heap.size = A at hD hX ⊢
  have hA : ∀ q : Nat, s.heap.size ≤ q → A q := fun q h => by rw [← hAe]; exact Or.inr h
  have G : gC cI cJ cZ cMic cSrc cSt cAI cAJ D ad A s.heap s.heap [] T := ⟨hP, hD, va_S.rf⟩
  have E : cE p c cX9_addWord s m ([.ref (ad o), .int a0] : List Value).toArray (Cond.code yX9_addWord cX9_addWord 3 none :: wsA) D RX9 (CT cI cJ cZ cMic cSrc cSt cAI cAJ) := ⟨hx, hb, hts, hown, hK⟩
  have hl := lv_entry ([.ref (ad o), .int a0]) (n := 3) (Nat.le_of_ble_eq_true rfl)
  rw [lg_entry_eq]
  generalize (lg_sl ([.ref (ad o), .int a0]) ++ List.replicate (3 - (lg_sl ([.ref (ad o), .int a0])).length) Slot.unset).toArray = ls at hl ⊢
  have hl : lv_has ls 3 [(0, .ref (ad o)), (1, .int a0)] := hl
  unfold g_X9_addWord at h
  refine lv_bipush (v := 24) hx hb dX9_addWord_0 (by decide) ?_
  refine lv_istore_n (lv' := [(2, .int 24), (0, .ref (ad o)), (1, .int a0)]) hx hb dX9_addWord_2 rfl hl (by decide) rfl (fun ls hl => ?_)
  have hl := lv_sub hl [1, 2, 0] rfl
  exact u_X9_addWord_b3 E hA hX hN hml hst (fun H locs ls G => W.vret hx hb hr (fun t ht hW => ⟨⟨T1, rfl, rfl, ⟨by rw [ht]; exact G.1, va_K.moved hW.alike hK, G.2.1⟩⟩, G.2.2.F ht⟩) G.2.2.2.2 dX9_addWord_49) _ _ _ _ _ _ _ _ h G hl
set_option maxHeartbeats 4000000 in
set_option maxRecDepth 100000 in
theorem s_X9_addWord_b43 {T1 : AT} {k3 : AT → Nat → Int32 → Int32 → Option (AT)} (hk3 : ∀ (T : AT) (l0 : Nat) (l1 : Int32) (l2 : Int32), k3 T l0 l1 l2 = some T1 → SP T T1) : ∀ (T : AT) (l0 : Nat) (l1 : Int32) (l2 : Int32), g_X9_addWord_b43 k3 T l0 l1 l2 = some T1 → SP T T1 := by
  intro T l0 l1 l2 h
  have p0 := SP.rf T
  unfold g_X9_addWord_b43 at h
  obtain ⟨v2, ev2, h⟩ := elet_some h
  exact SP.tr p0 (hk3 _ _ _ _ h)
set_option maxHeartbeats 4000000 in
set_option maxRecDepth 100000 in
theorem s_X9_addWord_b3 {T1 : AT} : ∀ n : Nat, ∀ (T : AT) (l0 : Nat) (l1 : Int32) (l2 : Int32), g_X9_addWord_b3 n T l0 l1 l2 = some T1 → SP T T1 := by
  intro n
  induction n with
  | zero =>
    intro T l0 l1 l2 h
    have h : (none : Option (AT)) = some T1 := h
    cases h
  | succ n ih =>
    intro T l0 l1 l2 h
    have p0 := SP.rf T
    unfold g_X9_addWord_b3 at h
    rcases oif_or h with ⟨c2, h⟩ | ⟨c2, h⟩
    · have h := h
      rw [← osome1 h]
      exact p0
    · have h := h
      obtain ⟨g3, h⟩ := oif_some h
      obtain ⟨v4, -, h⟩ := elet_some h
      rcases oif_or h with ⟨c5, h⟩ | ⟨c5, h⟩
      · have h := h
        exact SP.tr p0 (s_X9_addWord_b43 ih _ _ _ _ h)
      · have h := h
        obtain ⟨g6, h⟩ := oif_some h
        obtain ⟨n7, en7, h⟩ := obind_some h
        obtain ⟨g8, h⟩ := oif_some h
        obtain ⟨v9, -, h⟩ := elet_some h
        obtain ⟨v10, -, h⟩ := elet_some h
        obtain ⟨v11, -, h⟩ := elet_some h
        obtain ⟨g12, h⟩ := oif_some h
        obtain ⟨g13, h⟩ := oif_some h
        obtain ⟨T14, eT14, h⟩ := elet_some h
        have p1 : SP T T14 := SP.tr p0 (by rw [eT14]; exact sp_uI)
        obtain ⟨g15, h⟩ := oif_some h
        obtain ⟨v16, -, h⟩ := elet_some h
        obtain ⟨v17, -, h⟩ := elet_some h
        obtain ⟨g18, h⟩ := oif_some h
        obtain ⟨T19, eT19, h⟩ := elet_some h
        have p2 : SP T T19 := SP.tr p1 (by rw [eT19]; exact sp_uI)
        exact SP.tr p2 (s_X9_addWord_b43 ih _ _ _ _ h)
set_option maxHeartbeats 4000000 in
set_option maxRecDepth 100000 in
theorem s_X9_addWord {T : AT} {o : Nat} {a0 : Int32} {T1 : AT} (h : g_X9_addWord T o a0 = some T1) : SP T T1 := by
  have p0 := SP.rf T
  unfold g_X9_addWord at h
  exact SP.tr p0 (s_X9_addWord_b3 _ _ _ _ _ h)
def g_X10_value_b10  : Nat → AT → Nat → Int32 → Int64 → Int32 → Option (Int64 × AT)
  | 0, _, _, _, _, _ => none
  | n + 1, T, l0, l1, l2, l4 => if l4 < 0 then (some (l2, T)) else (elet (l2 <<< ((28 : Int32).toInt64 &&& 63)) fun v3 => oif (oO T l0 10 = true) <| obind (T.2.2.2.2 l0 1) fun n5 => oif (aA T n5 107 = true) <| oif (inb l4 (T.2.1 n5).2 = true) <| obind (T.2.2.2.2 n5 l4.toNatClampNeg) fun n8 => oif (aA T n8 101 = true) <| oif (inb l1 (T.2.1 n8).2 = true) <| elet (T.2.2.2.1 n8 l1.toNatClampNeg) fun v11 => elet (v3 + v11) fun v12 => elet (l4 + Int32.ofInt (-1)) fun v13 => g_X10_value_b10 n T l0 l1 v12 v13)
set_option maxHeartbeats 4000000 in
set_option maxRecDepth 100000 in
theorem u_X10_value_b10 {p : Program} {l : Launch} {e : Env} {s : State} {m : MethodId} {args : Array Value} {below : List Frame} {meth : Method} {c : Code} {Q : State → Prop} {D : va_G} {A : Nat → Prop} {cI cJ cZ cMic cSrc cSt cAI cAJ : ClassId} {ad : Nat → Nat} {r1 : Int64} {T1 : AT} (E : cE p c cX10_value s m args (Cond.code yX10_value cX10_value 5 (some .long) :: wsA) D RX10 (CT cI cJ cZ cMic cSrc cSt cAI cAJ)) (hA : ∀ q : Nat, s.heap.size ≤ q → A q) (hX : xT A s) (hN : nX s) (hml : c.maxLocals = 5) (hst : l.stackTraces = false) (kr37 : ∀ (H : Heap) (locs : List Loc) (ls : Array Slot), gC cI cJ cZ cMic cSrc cSt cAI cAJ D ad A s.heap H locs T1 → W p l e { frames := 1, cells := 0, slots := 0, locals := 0 } s m args below meth c H locs 0 0 Q (F0 m 37 ls [.long r1])) : ∀ n : Nat, ∀ (T : AT) (H : Heap) (locs : List Loc) (ls : Array Slot) (l0 : Nat) (l1 : Int32) (l2 : Int64) (l4 : Int32), g_X10_value_b10 n T l0 l1 l2 l4 = some (r1, T1) → gC cI cJ cZ cMic cSrc cSt cAI cAJ D ad A s.heap H locs T → lv_has ls 5 [(0, .ref (ad l0)), (1, .int l1), (2, .long l2), (4, .int l4)] → W p l e { frames := 1, cells := 0, slots := 0, locals := 0 } s m args below meth c H locs 0 0 Q (F0 m 10 ls []) := by
  have hx := E.1
  have hb := E.2.1
  have hts := E.2.2.1
  have hown := E.2.2.2.1
  have hK := E.2.2.2.2
  intro n
  induction n with
  | zero =>
    intro T H locs ls l0 l1 l2 l4 h
    have h : (none : Option (Int64 × AT)) = some (r1, T1) := h
    cases h
  | succ n ih =>
    intro T H locs ls l0 l1 l2 l4 h G hl
    unfold g_X10_value_b10 at h
    refine lv_iload hx hb dX10_value_10 (lv_at hl 3 rfl) ?_
    refine lv_if_lt (tgt := 36) hx hb dX10_value_12 (by decide) (fun c2 => ?_) (fun c2 => ?_)
    · have h := oif_pos c2 h
      refine lv_lload_n hx hb dX10_value_36 rfl (lv_at hl 2 rfl) ?_
      rw [(osome2 h).2] at G
      refine lv_tol (osome2 h).1 ?_
      exact kr37 _ _ _ G
    · have h := oif_neg c2 h
      refine lv_lload_n hx hb dX10_value_15 rfl (lv_at hl 2 rfl) ?_
      refine lv_bipush (v := 28) hx hb dX10_value_16 (by decide) ?_
      refine lv_lshl (v := l2 <<< ((28 : Int32).toInt64 &&& 63)) hx hb dX10_value_18 rfl ?_
      refine lv_topl (fun v3 ev3 => ?_)
      have h := elet_at ev3 h
      clear ev3
      refine lv_aload_n hx hb dX10_value_19 rfl (lv_at hl 0 rfl) ?_
      obtain ⟨g4, h⟩ := oif_some h
      obtain ⟨n5, en5, h⟩ := obind_some h
      refine c_get E G l0 1 (v := .ref (ad n5)) (oO_k g4).1 (cc_o10 (oO_k g4).2) rfl (fun w h => .tail _ (iA_12 h)) (by decide) (.tail _ qA_14) rfl (by rw [en5]; rfl) dX10_value_20 ?_
      clear en5
      refine lv_iload hx hb dX10_value_23 (lv_at hl 3 rfl) ?_
      obtain ⟨g6, h⟩ := oif_some h
      obtain ⟨g7, h⟩ := oif_some h
      obtain ⟨n8, en8, h⟩ := obind_some h
      refine c_alda E G n5 7 (k := l4.toNatClampNeg) (v := .ref (ad n8)) (aA_k g6).1 (cc_a107 (aA_k g6).2.1) rfl (inb_k g7).1 (inb_k g7).2 (aA_k g6).2.2 (by show va_rf ((T.2.2.2.2 n5 l4.toNatClampNeg).map ad) = _; rw [en8]; rfl) dX10_value_25 ?_
      clear en8
      refine lv_iload_n hx hb dX10_value_26 rfl (lv_at hl 1 rfl) ?_
      obtain ⟨g9, h⟩ := oif_some h
      obtain ⟨g10, h⟩ := oif_some h
      refine c_lald E G n8 1 (k := l1.toNatClampNeg) (aA_k g9).1 (cc_a101 (aA_k g9).2.1) rfl (inb_k g10).1 (inb_k g10).2 (aA_k g9).2.2 dX10_value_27 ?_
      refine lv_topl (fun v11 ev11 => ?_)
      have h := elet_at ev11 h
      clear ev11
      refine lv_ladd hx hb dX10_value_28 ?_
      refine lv_topl (fun v12 ev12 => ?_)
      have h := elet_at ev12 h
      clear ev12
      refine lv_lstore_n (lv' := [(2, .long v12), (0, .ref (ad l0)), (1, .int l1), (4, .int l4)]) hx hb dX10_value_29 rfl hl (by decide) rfl (fun ls hl => ?_)
      obtain ⟨v13, ev13, h⟩ := elet_some h
      refine lv_iinc (v := v13) (lv' := [(4, .int v13), (2, .long v12), (0, .ref (ad l0)), (1, .int l1)]) hx hb dX10_value_30 hl (k := 3) rfl ev13.symm (by decide) rfl (fun ls hl => ?_)
      refine lv_goto (tgt := 10) hx hb dX10_value_33 (by decide) ?_
      have hl := lv_sub hl [2, 3, 1, 0] rfl
      exact ih _ _ _ _ _ _ _ _ h G hl
def g_X10_value (T : AT) (o : Nat) (a0 : Int32) : Option (Int64 × AT) := oif (oO T o 10 = true) <| elet (T.2.2.1 o 2) fun v3 => elet (v3 - 1) fun v4 => g_X10_value_b10 16384 T o a0 (0 : Int64) v4
set_option maxHeartbeats 4000000 in
set_option maxRecDepth 100000 in
theorem u_X10_value (l : Launch) (hst : l.stackTraces = false) (D : va_G) (cI cJ cZ cMic cSrc cSt cAI cAJ : ClassId) (ad : Nat → Nat) (T : AT) (o : Nat) (a0 : Int32) {r1 : Int64} {T1 : AT} (h : g_X10_value T o a0 = some (r1, T1)) : kCl l yX10_value (Cond.code yX10_value cX10_value 5 (some .long) :: wsA) 1 0 cI cJ cZ cMic cSrc cSt cAI cAJ D ad T [.ref (ad o), .int a0] (fun r T9 => r = r1 ∧ T9 = T1) := by
  intro sz
  refine Met.ofW (cc := cX10_value) (maxL := 5) (ret := (some .long)) (by decide) rfl ?_
  intro p e s m args below meth c s₁ B hml hv
  obtain ⟨rfl, hsz, hP, hK, hD0, hX, hN⟩ := hv
  have hx := B.exec
  have hb := B.bytes
  have hr := B.returns
  have hts := atoms_spec (ws := (Cond.code yX10_value cX10_value 5 (some .long) :: wsA)) B.pre
  have hown : s.vm.findClass RX10 = some m.cls := findClass_of_methodNamed B.named
  have hlocks := B.notSynchronized
  subst hsz
  have hD := hD0.self (sz := s.heap.size)
  generalize hAe : va_A (cW ad T.1 (cc cI cJ cZ cMic cSrc cSt cAI cAJ ad T)) s.heap.size = A at hD hX ⊢
  have hA : ∀ q : Nat, s.heap.size ≤ q → A q := fun q h => by rw [← hAe]; exact Or.inr h
  have G : gC cI cJ cZ cMic cSrc cSt cAI cAJ D ad A s.heap s.heap [] T := ⟨hP, hD, va_S.rf⟩
  have E : cE p c cX10_value s m ([.ref (ad o), .int a0] : List Value).toArray (Cond.code yX10_value cX10_value 5 (some .long) :: wsA) D RX10 (CT cI cJ cZ cMic cSrc cSt cAI cAJ) := ⟨hx, hb, hts, hown, hK⟩
  have hl := lv_entry ([.ref (ad o), .int a0]) (n := 5) (Nat.le_of_ble_eq_true rfl)
  rw [lg_entry_eq]
  generalize (lg_sl ([.ref (ad o), .int a0]) ++ List.replicate (5 - (lg_sl ([.ref (ad o), .int a0])).length) Slot.unset).toArray = ls at hl ⊢
  have hl : lv_has ls 5 [(0, .ref (ad o)), (1, .int a0)] := hl
  unfold g_X10_value at h
  refine lv_lconst (v := 0) hx hb dX10_value_0 (by decide) ?_
  refine lv_lstore_n (lv' := [(2, .long (0 : Int64)), (0, .ref (ad o)), (1, .int a0)]) hx hb dX10_value_1 rfl hl (by decide) rfl (fun ls hl => ?_)
  refine lv_aload_n hx hb dX10_value_2 rfl (lv_at hl 1 rfl) ?_
  obtain ⟨g2, h⟩ := oif_some h
  refine c_get E G o 2 (oO_k g2).1 (cc_o10 (oO_k g2).2) rfl (fun w h => .tail _ (iA_12 h)) (by decide) (.tail _ qA_15) rfl rfl dX10_value_3 ?_
  refine lv_topi (fun v3 ev3 => ?_)
  have h := elet_at ev3 h
  clear ev3
  refine lv_iconst (v := 1) hx hb dX10_value_6 (by decide) ?_
  refine lv_isub hx hb dX10_value_7 ?_
  refine lv_topi (fun v4 ev4 => ?_)
  have h := elet_at ev4 h
  clear ev4
  refine lv_istore (lv' := [(4, .int v4), (2, .long (0 : Int64)), (0, .ref (ad o)), (1, .int a0)]) hx hb dX10_value_8 hl (by decide) rfl (fun ls hl => ?_)
  have hl := lv_sub hl [2, 3, 1, 0] rfl
  exact u_X10_value_b10 E hA hX hN hml hst (fun H locs ls G => W.lret (v := r1) hx hb hr (fun t ht hW => ⟨⟨r1, T1, rfl, ⟨rfl, rfl⟩, ⟨by rw [ht]; exact G.1, va_K.moved hW.alike hK, G.2.1⟩⟩, G.2.2.F ht⟩) G.2.2.2.2 dX10_value_37) _ _ _ _ _ _ _ _ _ h G hl
set_option maxHeartbeats 4000000 in
set_option maxRecDepth 100000 in
theorem s_X10_value_b10 {r1 : Int64} {T1 : AT} : ∀ n : Nat, ∀ (T : AT) (l0 : Nat) (l1 : Int32) (l2 : Int64) (l4 : Int32), g_X10_value_b10 n T l0 l1 l2 l4 = some (r1, T1) → SP T T1 := by
  intro n
  induction n with
  | zero =>
    intro T l0 l1 l2 l4 h
    have h : (none : Option (Int64 × AT)) = some (r1, T1) := h
    cases h
  | succ n ih =>
    intro T l0 l1 l2 l4 h
    have p0 := SP.rf T
    unfold g_X10_value_b10 at h
    rcases oif_or h with ⟨c2, h⟩ | ⟨c2, h⟩
    · have h := h
      rw [← (osome2 h).2]
      exact p0
    · have h := h
      obtain ⟨v3, -, h⟩ := elet_some h
      obtain ⟨g4, h⟩ := oif_some h
      obtain ⟨n5, en5, h⟩ := obind_some h
      obtain ⟨g6, h⟩ := oif_some h
      obtain ⟨g7, h⟩ := oif_some h
      obtain ⟨n8, en8, h⟩ := obind_some h
      obtain ⟨g9, h⟩ := oif_some h
      obtain ⟨g10, h⟩ := oif_some h
      obtain ⟨v11, -, h⟩ := elet_some h
      obtain ⟨v12, -, h⟩ := elet_some h
      obtain ⟨v13, ev13, h⟩ := elet_some h
      exact SP.tr p0 (ih _ _ _ _ _ h)
set_option maxHeartbeats 4000000 in
set_option maxRecDepth 100000 in
theorem s_X10_value {T : AT} {o : Nat} {a0 : Int32} {r1 : Int64} {T1 : AT} (h : g_X10_value T o a0 = some (r1, T1)) : SP T T1 := by
  have p0 := SP.rf T
  unfold g_X10_value at h
  obtain ⟨g2, h⟩ := oif_some h
  obtain ⟨v3, -, h⟩ := elet_some h
  obtain ⟨v4, -, h⟩ := elet_some h
  exact SP.tr p0 (s_X10_value_b10 _ _ _ _ _ _ h)
def g_X10_partsBelow_b7  : Nat → AT → Nat → Int32 → Int32 → Option (Int32 × AT)
  | 0, _, _, _, _ => none
  | n + 1, T, l0, l1, l2 => if l2 ≤ 1 then (some (0, T)) else (oif (oO T l0 10 = true) <| obind (T.2.2.2.2 l0 1) fun n4 => oif (aA T n4 107 = true) <| oif (inb l2 (T.2.1 n4).2 = true) <| obind (T.2.2.2.2 n4 l2.toNatClampNeg) fun n7 => oif (aA T n7 101 = true) <| oif (inb l1 (T.2.1 n7).2 = true) <| elet (T.2.2.2.1 n7 l1.toNatClampNeg) fun v10 => elet (lg_cmp v10 (0 : Int64)) fun v11 => if v11 = 0 then (elet (l2 + Int32.ofInt (-1)) fun v13 => g_X10_partsBelow_b7 n T l0 l1 v13) else (elet (l2 - 1) fun v14 => some (v14, T)))
set_option maxHeartbeats 4000000 in
set_option maxRecDepth 100000 in
theorem u_X10_partsBelow_b7 {p : Program} {l : Launch} {e : Env} {s : State} {m : MethodId} {args : Array Value} {below : List Frame} {meth : Method} {c : Code} {Q : State → Prop} {D : va_G} {A : Nat → Prop} {cI cJ cZ cMic cSrc cSt cAI cAJ : ClassId} {ad : Nat → Nat} {r1 : Int32} {T1 : AT} (E : cE p c cX10_partsBelow s m args (Cond.code yX10_partsBelow cX10_partsBelow 3 (some .int) :: wsA) D RX10 (CT cI cJ cZ cMic cSrc cSt cAI cAJ)) (hA : ∀ q : Nat, s.heap.size ≤ q → A q) (hX : xT A s) (hN : nX s) (hml : c.maxLocals = 3) (hst : l.stackTraces = false) (kr28 : ∀ (H : Heap) (locs : List Loc) (ls : Array Slot), gC cI cJ cZ cMic cSrc cSt cAI cAJ D ad A s.heap H locs T1 → W p l e { frames := 1, cells := 0, slots := 0, locals := 0 } s m args below meth c H locs 0 0 Q (F0 m 28 ls [.int r1])) (kr36 : ∀ (H : Heap) (locs : List Loc) (ls : Array Slot), gC cI cJ cZ cMic cSrc cSt cAI cAJ D ad A s.heap H locs T1 → W p l e { frames := 1, cells := 0, slots := 0, locals := 0 } s m args below meth c H locs 0 0 Q (F0 m 36 ls [.int r1])) : ∀ n : Nat, ∀ (T : AT) (H : Heap) (locs : List Loc) (ls : Array Slot) (l0 : Nat) (l1 : Int32) (l2 : Int32), g_X10_partsBelow_b7 n T l0 l1 l2 = some (r1, T1) → gC cI cJ cZ cMic cSrc cSt cAI cAJ D ad A s.heap H locs T → lv_has ls 3 [(0, .ref (ad l0)), (1, .int l1), (2, .int l2)] → W p l e { frames := 1, cells := 0, slots := 0, locals := 0 } s m args below meth c H locs 0 0 Q (F0 m 7 ls []) := by
  have hx := E.1
  have hb := E.2.1
  have hts := E.2.2.1
  have hown := E.2.2.2.1
  have hK := E.2.2.2.2
  intro n
  induction n with
  | zero =>
    intro T H locs ls l0 l1 l2 h
    have h : (none : Option (Int32 × AT)) = some (r1, T1) := h
    cases h
  | succ n ih =>
    intro T H locs ls l0 l1 l2 h G hl
    unfold g_X10_partsBelow_b7 at h
    refine lv_iload_n hx hb dX10_partsBelow_7 rfl (lv_at hl 2 rfl) ?_
    refine lv_iconst (v := 1) hx hb dX10_partsBelow_8 (by decide) ?_
    refine lv_icmp_le (tgt := 35) hx hb dX10_partsBelow_9 (by decide) (fun c2 => ?_) (fun c2 => ?_)
    · have h := oif_pos c2 h
      refine lv_iconst (v := 0) hx hb dX10_partsBelow_35 (by decide) ?_
      rw [(osome2 h).2] at G
      refine lv_to (osome2 h).1 ?_
      exact kr36 _ _ _ G
    · have h := oif_neg c2 h
      refine lv_aload_n hx hb dX10_partsBelow_12 rfl (lv_at hl 0 rfl) ?_
      obtain ⟨g3, h⟩ := oif_some h
      obtain ⟨n4, en4, h⟩ := obind_some h
      refine c_get E G l0 1 (v := .ref (ad n4)) (oO_k g3).1 (cc_o10 (oO_k g3).2) rfl (fun w h => .tail _ (iA_12 h)) (by decide) (.tail _ qA_14) rfl (by rw [en4]; rfl) dX10_partsBelow_13 ?_
      clear en4
      refine lv_iload_n hx hb dX10_partsBelow_16 rfl (lv_at hl 2 rfl) ?_
      obtain ⟨g5, h⟩ := oif_some h
      obtain ⟨g6, h⟩ := oif_some h
      obtain ⟨n7, en7, h⟩ := obind_some h
      refine c_alda E G n4 7 (k := l2.toNatClampNeg) (v := .ref (ad n7)) (aA_k g5).1 (cc_a107 (aA_k g5).2.1) rfl (inb_k g6).1 (inb_k g6).2 (aA_k g5).2.2 (by show va_rf ((T.2.2.2.2 n4 l2.toNatClampNeg).map ad) = _; rw [en7]; rfl) dX10_partsBelow_17 ?_
      clear en7
      refine lv_iload_n hx hb dX10_partsBelow_18 rfl (lv_at hl 1 rfl) ?_
      obtain ⟨g8, h⟩ := oif_some h
      obtain ⟨g9, h⟩ := oif_some h
      refine c_lald E G n7 1 (k := l1.toNatClampNeg) (aA_k g8).1 (cc_a101 (aA_k g8).2.1) rfl (inb_k g9).1 (inb_k g9).2 (aA_k g8).2.2 dX10_partsBelow_19 ?_
      refine lv_topl (fun v10 ev10 => ?_)
      have h := elet_at ev10 h
      clear ev10
      refine lv_lconst (v := 0) hx hb dX10_partsBelow_20 (by decide) ?_
      refine W.lcmp hx hb dX10_partsBelow_21 ?_
      refine lv_topi (fun v11 ev11 => ?_)
      have h := elet_at ev11 h
      clear ev11
      refine lv_if_eq (tgt := 29) hx hb dX10_partsBelow_22 (by decide) (fun c12 => ?_) (fun c12 => ?_)
      · have h := oif_pos c12 h
        obtain ⟨v13, ev13, h⟩ := elet_some h
        refine lv_iinc (v := v13) (lv' := [(2, .int v13), (0, .ref (ad l0)), (1, .int l1)]) hx hb dX10_partsBelow_29 hl (k := 2) rfl ev13.symm (by decide) rfl (fun ls hl => ?_)
        refine lv_goto (tgt := 7) hx hb dX10_partsBelow_32 (by decide) ?_
        have hl := lv_sub hl [1, 2, 0] rfl
        exact ih _ _ _ _ _ _ _ h G hl
      · have h := oif_neg c12 h
        refine lv_iload_n hx hb dX10_partsBelow_25 rfl (lv_at hl 2 rfl) ?_
        refine lv_iconst (v := 1) hx hb dX10_partsBelow_26 (by decide) ?_
        refine lv_isub hx hb dX10_partsBelow_27 ?_
        refine lv_topi (fun v14 ev14 => ?_)
        have h := elet_at ev14 h
        clear ev14
        rw [(osome2 h).2] at G
        refine lv_to (osome2 h).1 ?_
        exact kr28 _ _ _ G
def g_X10_partsBelow (T : AT) (o : Nat) (a0 : Int32) : Option (Int32 × AT) := oif (oO T o 10 = true) <| elet (T.2.2.1 o 2) fun v3 => elet (v3 - 1) fun v4 => g_X10_partsBelow_b7 16384 T o a0 v4
set_option maxHeartbeats 4000000 in
set_option maxRecDepth 100000 in
theorem u_X10_partsBelow (l : Launch) (hst : l.stackTraces = false) (D : va_G) (cI cJ cZ cMic cSrc cSt cAI cAJ : ClassId) (ad : Nat → Nat) (T : AT) (o : Nat) (a0 : Int32) {r1 : Int32} {T1 : AT} (h : g_X10_partsBelow T o a0 = some (r1, T1)) : kCi l yX10_partsBelow (Cond.code yX10_partsBelow cX10_partsBelow 3 (some .int) :: wsA) 1 0 cI cJ cZ cMic cSrc cSt cAI cAJ D ad T [.ref (ad o), .int a0] (fun r T9 => r = r1 ∧ T9 = T1) := by
  intro sz
  refine Met.ofW (cc := cX10_partsBelow) (maxL := 3) (ret := (some .int)) (by decide) rfl ?_
  intro p e s m args below meth c s₁ B hml hv
  obtain ⟨rfl, hsz, hP, hK, hD0, hX, hN⟩ := hv
  have hx := B.exec
  have hb := B.bytes
  have hr := B.returns
  have hts := atoms_spec (ws := (Cond.code yX10_partsBelow cX10_partsBelow 3 (some .int) :: wsA)) B.pre
  have hown : s.vm.findClass RX10 = some m.cls := findClass_of_methodNamed B.named
  have hlocks := B.notSynchronized
  subst hsz
  have hD := hD0.self (sz := s.heap.size)
  generalize hAe : va_A (cW ad T.1 (cc cI cJ cZ cMic cSrc cSt cAI cAJ ad T)) s.heap.size = A at hD hX ⊢
  have hA : ∀ q : Nat, s.heap.size ≤ q → A q := fun q h => by rw [← hAe]; exact Or.inr h
  have G : gC cI cJ cZ cMic cSrc cSt cAI cAJ D ad A s.heap s.heap [] T := ⟨hP, hD, va_S.rf⟩
  have E : cE p c cX10_partsBelow s m ([.ref (ad o), .int a0] : List Value).toArray (Cond.code yX10_partsBelow cX10_partsBelow 3 (some .int) :: wsA) D RX10 (CT cI cJ cZ cMic cSrc cSt cAI cAJ) := ⟨hx, hb, hts, hown, hK⟩
  have hl := lv_entry ([.ref (ad o), .int a0]) (n := 3) (Nat.le_of_ble_eq_true rfl)
  rw [lg_entry_eq]
  generalize (lg_sl ([.ref (ad o), .int a0]) ++ List.replicate (3 - (lg_sl ([.ref (ad o), .int a0])).length) Slot.unset).toArray = ls at hl ⊢
  have hl : lv_has ls 3 [(0, .ref (ad o)), (1, .int a0)] := hl
  unfold g_X10_partsBelow at h
  refine lv_aload_n hx hb dX10_partsBelow_0 rfl (lv_at hl 0 rfl) ?_
  obtain ⟨g2, h⟩ := oif_some h
  refine c_get E G o 2 (oO_k g2).1 (cc_o10 (oO_k g2).2) rfl (fun w h => .tail _ (iA_12 h)) (by decide) (.tail _ qA_15) rfl rfl dX10_partsBelow_1 ?_
  refine lv_topi (fun v3 ev3 => ?_)
  have h := elet_at ev3 h
  clear ev3
  refine lv_iconst (v := 1) hx hb dX10_partsBelow_4 (by decide) ?_
  refine lv_isub hx hb dX10_partsBelow_5 ?_
  refine lv_topi (fun v4 ev4 => ?_)
  have h := elet_at ev4 h
  clear ev4
  refine lv_istore_n (lv' := [(2, .int v4), (0, .ref (ad o)), (1, .int a0)]) hx hb dX10_partsBelow_6 rfl hl (by decide) rfl (fun ls hl => ?_)
  have hl := lv_sub hl [1, 2, 0] rfl
  exact u_X10_partsBelow_b7 E hA hX hN hml hst (fun H locs ls G => W.iret (v := r1) hx hb hr (fun t ht hW => ⟨⟨r1, T1, rfl, ⟨rfl, rfl⟩, ⟨by rw [ht]; exact G.1, va_K.moved hW.alike hK, G.2.1⟩⟩, G.2.2.F ht⟩) G.2.2.2.2 dX10_partsBelow_28) (fun H locs ls G => W.iret (v := r1) hx hb hr (fun t ht hW => ⟨⟨r1, T1, rfl, ⟨rfl, rfl⟩, ⟨by rw [ht]; exact G.1, va_K.moved hW.alike hK, G.2.1⟩⟩, G.2.2.F ht⟩) G.2.2.2.2 dX10_partsBelow_36) _ _ _ _ _ _ _ _ h G hl
set_option maxHeartbeats 4000000 in
set_option maxRecDepth 100000 in
theorem s_X10_partsBelow_b7 {r1 : Int32} {T1 : AT} : ∀ n : Nat, ∀ (T : AT) (l0 : Nat) (l1 : Int32) (l2 : Int32), g_X10_partsBelow_b7 n T l0 l1 l2 = some (r1, T1) → SP T T1 := by
  intro n
  induction n with
  | zero =>
    intro T l0 l1 l2 h
    have h : (none : Option (Int32 × AT)) = some (r1, T1) := h
    cases h
  | succ n ih =>
    intro T l0 l1 l2 h
    have p0 := SP.rf T
    unfold g_X10_partsBelow_b7 at h
    rcases oif_or h with ⟨c2, h⟩ | ⟨c2, h⟩
    · have h := h
      rw [← (osome2 h).2]
      exact p0
    · have h := h
      obtain ⟨g3, h⟩ := oif_some h
      obtain ⟨n4, en4, h⟩ := obind_some h
      obtain ⟨g5, h⟩ := oif_some h
      obtain ⟨g6, h⟩ := oif_some h
      obtain ⟨n7, en7, h⟩ := obind_some h
      obtain ⟨g8, h⟩ := oif_some h
      obtain ⟨g9, h⟩ := oif_some h
      obtain ⟨v10, -, h⟩ := elet_some h
      obtain ⟨v11, -, h⟩ := elet_some h
      rcases oif_or h with ⟨c12, h⟩ | ⟨c12, h⟩
      · have h := h
        obtain ⟨v13, ev13, h⟩ := elet_some h
        exact SP.tr p0 (ih _ _ _ _ h)
      · have h := h
        obtain ⟨v14, -, h⟩ := elet_some h
        rw [← (osome2 h).2]
        exact p0
set_option maxHeartbeats 4000000 in
set_option maxRecDepth 100000 in
theorem s_X10_partsBelow {T : AT} {o : Nat} {a0 : Int32} {r1 : Int32} {T1 : AT} (h : g_X10_partsBelow T o a0 = some (r1, T1)) : SP T T1 := by
  have p0 := SP.rf T
  unfold g_X10_partsBelow at h
  obtain ⟨g2, h⟩ := oif_some h
  obtain ⟨v3, -, h⟩ := elet_some h
  obtain ⟨v4, -, h⟩ := elet_some h
  exact SP.tr p0 (s_X10_partsBelow_b7 _ _ _ _ _ h)
def g_X10_leading_b88  (T : AT) (s0 : Int64) : Option (UInt32 × AT) := elet (FP.l2f s0) fun v2 => some (v2, T)
set_option maxHeartbeats 4000000 in
set_option maxRecDepth 100000 in
theorem u_X10_leading_b88 {p : Program} {l : Launch} {e : Env} {s : State} {m : MethodId} {args : Array Value} {below : List Frame} {meth : Method} {c : Code} {Q : State → Prop} {D : va_G} {A : Nat → Prop} {cI cJ cZ cMic cSrc cSt cAI cAJ : ClassId} {ad : Nat → Nat} {r1 : UInt32} {T1 : AT} (E : cE p c cX10_leading s m args (Cond.code yX10_leading cX10_leading 7 (some .float) :: wsA) D RX10 (CT cI cJ cZ cMic cSrc cSt cAI cAJ)) (hA : ∀ q : Nat, s.heap.size ≤ q → A q) (hX : xT A s) (hN : nX s) (hml : c.maxLocals = 7) (hst : l.stackTraces = false) (kr89 : ∀ (H : Heap) (locs : List Loc) (ls : Array Slot), gC cI cJ cZ cMic cSrc cSt cAI cAJ D ad A s.heap H locs T1 → W p l e { frames := 2, cells := 0, slots := 0, locals := 22 } s m args below meth c H locs 0 0 Q (F0 m 89 ls [.float r1])) : ∀ (T : AT) (H : Heap) (locs : List Loc) (ls : Array Slot) (s0 : Int64), g_X10_leading_b88 T s0 = some (r1, T1) → gC cI cJ cZ cMic cSrc cSt cAI cAJ D ad A s.heap H locs T → lv_has ls 7 [] → W p l e { frames := 2, cells := 0, slots := 0, locals := 22 } s m args below meth c H locs 0 0 Q (F0 m 88 ls [.long s0]) := by
  have hx := E.1
  have hb := E.2.1
  have hts := E.2.2.1
  have hown := E.2.2.2.1
  have hK := E.2.2.2.2
  intro T H locs ls s0 h G hl
  unfold g_X10_leading_b88 at h
  refine lv_l2f hx hb dX10_leading_88 ?_
  refine lv_topf (fun v2 ev2 => ?_)
  have h := elet_at ev2 h
  clear ev2
  rw [(osome2 h).2] at G
  refine lv_tof (osome2 h).1 ?_
  exact kr89 _ _ _ G
def g_X10_leading_b73  (T : AT) (l3 : Int64) (l5 : Int64) : Option (UInt32 × AT) := elet (lg_cmp l3 (0 : Int64)) fun v2 => if v2 = 0 then (g_X10_leading_b88 T l5) else (elet (l5 ||| (1 : Int64)) fun v4 => g_X10_leading_b88 T v4)
set_option maxHeartbeats 4000000 in
set_option maxRecDepth 100000 in
theorem u_X10_leading_b73 {p : Program} {l : Launch} {e : Env} {s : State} {m : MethodId} {args : Array Value} {below : List Frame} {meth : Method} {c : Code} {Q : State → Prop} {D : va_G} {A : Nat → Prop} {cI cJ cZ cMic cSrc cSt cAI cAJ : ClassId} {ad : Nat → Nat} {r1 : UInt32} {T1 : AT} (E : cE p c cX10_leading s m args (Cond.code yX10_leading cX10_leading 7 (some .float) :: wsA) D RX10 (CT cI cJ cZ cMic cSrc cSt cAI cAJ)) (hA : ∀ q : Nat, s.heap.size ≤ q → A q) (hX : xT A s) (hN : nX s) (hml : c.maxLocals = 7) (hst : l.stackTraces = false) (kr89 : ∀ (H : Heap) (locs : List Loc) (ls : Array Slot), gC cI cJ cZ cMic cSrc cSt cAI cAJ D ad A s.heap H locs T1 → W p l e { frames := 2, cells := 0, slots := 0, locals := 22 } s m args below meth c H locs 0 0 Q (F0 m 89 ls [.float r1])) : ∀ (T : AT) (H : Heap) (locs : List Loc) (ls : Array Slot) (l3 : Int64) (l5 : Int64), g_X10_leading_b73 T l3 l5 = some (r1, T1) → gC cI cJ cZ cMic cSrc cSt cAI cAJ D ad A s.heap H locs T → lv_has ls 7 [(3, .long l3), (5, .long l5)] → W p l e { frames := 2, cells := 0, slots := 0, locals := 22 } s m args below meth c H locs 0 0 Q (F0 m 73 ls []) := by
  have hx := E.1
  have hb := E.2.1
  have hts := E.2.2.1
  have hown := E.2.2.2.1
  have hK := E.2.2.2.2
  intro T H locs ls l3 l5 h G hl
  unfold g_X10_leading_b73 at h
  refine lv_lload_n hx hb dX10_leading_73 rfl (lv_at hl 0 rfl) ?_
  refine lv_lconst (v := 0) hx hb dX10_leading_74 (by decide) ?_
  refine W.lcmp hx hb dX10_leading_75 ?_
  refine lv_topi (fun v2 ev2 => ?_)
  have h := elet_at ev2 h
  clear ev2
  refine lv_if_ne (tgt := 84) hx hb dX10_leading_76 (by decide) (fun c3 => ?_) (fun c3 => ?_)
  · have h := oif_neg c3 h
    refine lv_lload hx hb dX10_leading_84 (lv_at hl 1 rfl) ?_
    refine lv_lconst (v := 1) hx hb dX10_leading_86 (by decide) ?_
    refine lv_lor hx hb dX10_leading_87 ?_
    refine lv_topl (fun v4 ev4 => ?_)
    have h := elet_at ev4 h
    clear ev4
    have hl := lv_sub hl [] rfl
    exact u_X10_leading_b88 E hA hX hN hml hst kr89 _ _ _ _ _ h G hl
  · have h := oif_pos c3 h
    refine lv_lload hx hb dX10_leading_79 (lv_at hl 1 rfl) ?_
    refine lv_goto (tgt := 88) hx hb dX10_leading_81 (by decide) ?_
    have hl := lv_sub hl [] rfl
    exact u_X10_leading_b88 E hA hX hN hml hst kr89 _ _ _ _ _ h G hl
def g_X10_leading_b11  : Nat → AT → Nat → Int32 → Int32 → Int64 → Int32 → Option (UInt32 × AT)
  | 0, _, _, _, _, _, _ => none
  | n + 1, T, l0, l1, l2, l3, l5 => if l2 ≤ l5 then (oif (oO T l0 10 = true) <| obind (T.2.2.2.2 l0 1) fun n4 => oif (aA T n4 107 = true) <| oif (inb l2 (T.2.1 n4).2 = true) <| obind (T.2.2.2.2 n4 l2.toNatClampNeg) fun n7 => oif (aA T n7 101 = true) <| oif (inb l1 (T.2.1 n7).2 = true) <| elet (T.2.2.2.1 n7 l1.toNatClampNeg) fun v10 => elet (l2 + 1) fun v11 => oif (oO T l0 10 = true) <| elet (T.2.2.1 l0 2) fun v13 => if v13 ≤ v11 then (g_X10_leading_b73 T l3 v10) else (oif (oO T l0 10 = true) <| obind (T.2.2.2.2 l0 1) fun n16 => elet (l2 + 1) fun v17 => oif (aA T n16 107 = true) <| oif (inb v17 (T.2.1 n16).2 = true) <| obind (T.2.2.2.2 n16 v17.toNatClampNeg) fun n20 => oif (aA T n20 101 = true) <| oif (inb l1 (T.2.1 n20).2 = true) <| elet (T.2.2.2.1 n20 l1.toNatClampNeg) fun v23 => elet (v23 <<< ((28 : Int32).toInt64 &&& 63)) fun v24 => elet (v10 + v24) fun v25 => g_X10_leading_b73 T l3 v25)) else (oif (oO T l0 10 = true) <| obind (T.2.2.2.2 l0 1) fun n27 => oif (aA T n27 107 = true) <| oif (inb l5 (T.2.1 n27).2 = true) <| obind (T.2.2.2.2 n27 l5.toNatClampNeg) fun n30 => oif (aA T n30 101 = true) <| oif (inb l1 (T.2.1 n30).2 = true) <| elet (T.2.2.2.1 n30 l1.toNatClampNeg) fun v33 => elet (l3 ||| v33) fun v34 => elet (l5 + Int32.ofInt (1)) fun v35 => g_X10_leading_b11 n T l0 l1 l2 v34 v35)
set_option maxHeartbeats 4000000 in
set_option maxRecDepth 100000 in
theorem u_X10_leading_b11 {p : Program} {l : Launch} {e : Env} {s : State} {m : MethodId} {args : Array Value} {below : List Frame} {meth : Method} {c : Code} {Q : State → Prop} {D : va_G} {A : Nat → Prop} {cI cJ cZ cMic cSrc cSt cAI cAJ : ClassId} {ad : Nat → Nat} {r1 : UInt32} {T1 : AT} (E : cE p c cX10_leading s m args (Cond.code yX10_leading cX10_leading 7 (some .float) :: wsA) D RX10 (CT cI cJ cZ cMic cSrc cSt cAI cAJ)) (hA : ∀ q : Nat, s.heap.size ≤ q → A q) (hX : xT A s) (hN : nX s) (hml : c.maxLocals = 7) (hst : l.stackTraces = false) (kr89 : ∀ (H : Heap) (locs : List Loc) (ls : Array Slot), gC cI cJ cZ cMic cSrc cSt cAI cAJ D ad A s.heap H locs T1 → W p l e { frames := 2, cells := 0, slots := 0, locals := 22 } s m args below meth c H locs 0 0 Q (F0 m 89 ls [.float r1])) : ∀ n : Nat, ∀ (T : AT) (H : Heap) (locs : List Loc) (ls : Array Slot) (l0 : Nat) (l1 : Int32) (l2 : Int32) (l3 : Int64) (l5 : Int32), g_X10_leading_b11 n T l0 l1 l2 l3 l5 = some (r1, T1) → gC cI cJ cZ cMic cSrc cSt cAI cAJ D ad A s.heap H locs T → lv_has ls 7 [(0, .ref (ad l0)), (1, .int l1), (2, .int l2), (3, .long l3), (5, .int l5)] → W p l e { frames := 2, cells := 0, slots := 0, locals := 22 } s m args below meth c H locs 0 0 Q (F0 m 11 ls []) := by
  have hx := E.1
  have hb := E.2.1
  have hts := E.2.2.1
  have hown := E.2.2.2.1
  have hK := E.2.2.2.2
  intro n
  induction n with
  | zero =>
    intro T H locs ls l0 l1 l2 l3 l5 h
    have h : (none : Option (UInt32 × AT)) = some (r1, T1) := h
    cases h
  | succ n ih =>
    intro T H locs ls l0 l1 l2 l3 l5 h G hl
    unfold g_X10_leading_b11 at h
    refine lv_iload hx hb dX10_leading_11 (lv_at hl 4 rfl) ?_
    refine lv_iload_n hx hb dX10_leading_13 rfl (lv_at hl 2 rfl) ?_
    refine lv_icmp_ge (tgt := 35) hx hb dX10_leading_14 (by decide) (fun c2 => ?_) (fun c2 => ?_)
    · have h := oif_pos c2 h
      refine lv_aload_n hx hb dX10_leading_35 rfl (lv_at hl 0 rfl) ?_
      obtain ⟨g3, h⟩ := oif_some h
      obtain ⟨n4, en4, h⟩ := obind_some h
      refine c_get E G l0 1 (v := .ref (ad n4)) (oO_k g3).1 (cc_o10 (oO_k g3).2) rfl (fun w h => .tail _ (iA_12 h)) (by decide) (.tail _ qA_14) rfl (by rw [en4]; rfl) dX10_leading_36 ?_
      clear en4
      refine lv_iload_n hx hb dX10_leading_39 rfl (lv_at hl 2 rfl) ?_
      obtain ⟨g5, h⟩ := oif_some h
      obtain ⟨g6, h⟩ := oif_some h
      obtain ⟨n7, en7, h⟩ := obind_some h
      refine c_alda E G n4 7 (k := l2.toNatClampNeg) (v := .ref (ad n7)) (aA_k g5).1 (cc_a107 (aA_k g5).2.1) rfl (inb_k g6).1 (inb_k g6).2 (aA_k g5).2.2 (by show va_rf ((T.2.2.2.2 n4 l2.toNatClampNeg).map ad) = _; rw [en7]; rfl) dX10_leading_40 ?_
      clear en7
      refine lv_iload_n hx hb dX10_leading_41 rfl (lv_at hl 1 rfl) ?_
      obtain ⟨g8, h⟩ := oif_some h
      obtain ⟨g9, h⟩ := oif_some h
      refine c_lald E G n7 1 (k := l1.toNatClampNeg) (aA_k g8).1 (cc_a101 (aA_k g8).2.1) rfl (inb_k g9).1 (inb_k g9).2 (aA_k g8).2.2 dX10_leading_42 ?_
      refine lv_topl (fun v10 ev10 => ?_)
      have h := elet_at ev10 h
      clear ev10
      refine lv_lstore (lv' := [(5, .long v10), (0, .ref (ad l0)), (1, .int l1), (2, .int l2), (3, .long l3)]) hx hb dX10_leading_43 hl (by decide) rfl (fun ls hl => ?_)
      refine lv_iload_n hx hb dX10_leading_45 rfl (lv_at hl 3 rfl) ?_
      refine lv_iconst (v := 1) hx hb dX10_leading_46 (by decide) ?_
      refine lv_iadd hx hb dX10_leading_47 ?_
      refine lv_topi (fun v11 ev11 => ?_)
      have h := elet_at ev11 h
      clear ev11
      refine lv_aload_n hx hb dX10_leading_48 rfl (lv_at hl 1 rfl) ?_
      obtain ⟨g12, h⟩ := oif_some h
      refine c_get E G l0 2 (oO_k g12).1 (cc_o10 (oO_k g12).2) rfl (fun w h => .tail _ (iA_12 h)) (by decide) (.tail _ qA_15) rfl rfl dX10_leading_49 ?_
      refine lv_topi (fun v13 ev13 => ?_)
      have h := elet_at ev13 h
      clear ev13
      refine lv_icmp_ge (tgt := 73) hx hb dX10_leading_52 (by decide) (fun c14 => ?_) (fun c14 => ?_)
      · have h := oif_pos c14 h
        have hl := lv_sub hl [4, 0] rfl
        exact u_X10_leading_b73 E hA hX hN hml hst kr89 _ _ _ _ _ _ h G hl
      · have h := oif_neg c14 h
        refine lv_lload hx hb dX10_leading_55 (lv_at hl 0 rfl) ?_
        refine lv_aload_n hx hb dX10_leading_57 rfl (lv_at hl 1 rfl) ?_
        obtain ⟨g15, h⟩ := oif_some h
        obtain ⟨n16, en16, h⟩ := obind_some h
        refine c_get E G l0 1 (v := .ref (ad n16)) (oO_k g15).1 (cc_o10 (oO_k g15).2) rfl (fun w h => .tail _ (iA_12 h)) (by decide) (.tail _ qA_14) rfl (by rw [en16]; rfl) dX10_leading_58 ?_
        clear en16
        refine lv_iload_n hx hb dX10_leading_61 rfl (lv_at hl 3 rfl) ?_
        refine lv_iconst (v := 1) hx hb dX10_leading_62 (by decide) ?_
        refine lv_iadd hx hb dX10_leading_63 ?_
        refine lv_topi (fun v17 ev17 => ?_)
        have h := elet_at ev17 h
        clear ev17
        obtain ⟨g18, h⟩ := oif_some h
        obtain ⟨g19, h⟩ := oif_some h
        obtain ⟨n20, en20, h⟩ := obind_some h
        refine c_alda E G n16 7 (k := v17.toNatClampNeg) (v := .ref (ad n20)) (aA_k g18).1 (cc_a107 (aA_k g18).2.1) rfl (inb_k g19).1 (inb_k g19).2 (aA_k g18).2.2 (by show va_rf ((T.2.2.2.2 n16 v17.toNatClampNeg).map ad) = _; rw [en20]; rfl) dX10_leading_64 ?_
        clear en20
        refine lv_iload_n hx hb dX10_leading_65 rfl (lv_at hl 2 rfl) ?_
        obtain ⟨g21, h⟩ := oif_some h
        obtain ⟨g22, h⟩ := oif_some h
        refine c_lald E G n20 1 (k := l1.toNatClampNeg) (aA_k g21).1 (cc_a101 (aA_k g21).2.1) rfl (inb_k g22).1 (inb_k g22).2 (aA_k g21).2.2 dX10_leading_66 ?_
        refine lv_topl (fun v23 ev23 => ?_)
        have h := elet_at ev23 h
        clear ev23
        refine lv_bipush (v := 28) hx hb dX10_leading_67 (by decide) ?_
        refine lv_lshl (v := v23 <<< ((28 : Int32).toInt64 &&& 63)) hx hb dX10_leading_69 rfl ?_
        refine lv_topl (fun v24 ev24 => ?_)
        have h := elet_at ev24 h
        clear ev24
        refine lv_ladd hx hb dX10_leading_70 ?_
        refine lv_topl (fun v25 ev25 => ?_)
        have h := elet_at ev25 h
        clear ev25
        refine lv_lstore (lv' := [(5, .long v25), (0, .ref (ad l0)), (1, .int l1), (2, .int l2), (3, .long l3)]) hx hb dX10_leading_71 hl (by decide) rfl (fun ls hl => ?_)
        have hl := lv_sub hl [4, 0] rfl
        exact u_X10_leading_b73 E hA hX hN hml hst kr89 _ _ _ _ _ _ h G hl
    · have h := oif_neg c2 h
      refine lv_lload_n hx hb dX10_leading_17 rfl (lv_at hl 3 rfl) ?_
      refine lv_aload_n hx hb dX10_leading_18 rfl (lv_at hl 0 rfl) ?_
      obtain ⟨g26, h⟩ := oif_some h
      obtain ⟨n27, en27, h⟩ := obind_some h
      refine c_get E G l0 1 (v := .ref (ad n27)) (oO_k g26).1 (cc_o10 (oO_k g26).2) rfl (fun w h => .tail _ (iA_12 h)) (by decide) (.tail _ qA_14) rfl (by rw [en27]; rfl) dX10_leading_19 ?_
      clear en27
      refine lv_iload hx hb dX10_leading_22 (lv_at hl 4 rfl) ?_
      obtain ⟨g28, h⟩ := oif_some h
      obtain ⟨g29, h⟩ := oif_some h
      obtain ⟨n30, en30, h⟩ := obind_some h
      refine c_alda E G n27 7 (k := l5.toNatClampNeg) (v := .ref (ad n30)) (aA_k g28).1 (cc_a107 (aA_k g28).2.1) rfl (inb_k g29).1 (inb_k g29).2 (aA_k g28).2.2 (by show va_rf ((T.2.2.2.2 n27 l5.toNatClampNeg).map ad) = _; rw [en30]; rfl) dX10_leading_24 ?_
      clear en30
      refine lv_iload_n hx hb dX10_leading_25 rfl (lv_at hl 1 rfl) ?_
      obtain ⟨g31, h⟩ := oif_some h
      obtain ⟨g32, h⟩ := oif_some h
      refine c_lald E G n30 1 (k := l1.toNatClampNeg) (aA_k g31).1 (cc_a101 (aA_k g31).2.1) rfl (inb_k g32).1 (inb_k g32).2 (aA_k g31).2.2 dX10_leading_26 ?_
      refine lv_topl (fun v33 ev33 => ?_)
      have h := elet_at ev33 h
      clear ev33
      refine lv_lor hx hb dX10_leading_27 ?_
      refine lv_topl (fun v34 ev34 => ?_)
      have h := elet_at ev34 h
      clear ev34
      refine lv_lstore_n (lv' := [(3, .long v34), (0, .ref (ad l0)), (1, .int l1), (2, .int l2), (5, .int l5)]) hx hb dX10_leading_28 rfl hl (by decide) rfl (fun ls hl => ?_)
      obtain ⟨v35, ev35, h⟩ := elet_some h
      refine lv_iinc (v := v35) (lv' := [(5, .int v35), (3, .long v34), (0, .ref (ad l0)), (1, .int l1), (2, .int l2)]) hx hb dX10_leading_29 hl (k := 4) rfl ev35.symm (by decide) rfl (fun ls hl => ?_)
      refine lv_goto (tgt := 11) hx hb dX10_leading_32 (by decide) ?_
      have hl := lv_sub hl [2, 3, 4, 1, 0] rfl
      exact ih _ _ _ _ _ _ _ _ _ h G hl
def g_X10_leading (T : AT) (o : Nat) (a0 : Int32) : Option (UInt32 × AT) := oif (oO T o 10 = true) <| obind2 (g_X10_partsBelow T o a0) fun r5 T3 => g_X10_leading_b11 16384 T3 o a0 r5 (0 : Int64) 0
set_option maxHeartbeats 4000000 in
set_option maxRecDepth 100000 in
theorem u_X10_leading (l : Launch) (hst : l.stackTraces = false) (D : va_G) (cI cJ cZ cMic cSrc cSt cAI cAJ : ClassId) (ad : Nat → Nat) (T : AT) (o : Nat) (a0 : Int32) {r1 : UInt32} {T1 : AT} (h : g_X10_leading T o a0 = some (r1, T1)) : kCf l yX10_leading (Cond.code yX10_leading cX10_leading 7 (some .float) :: wsA) 2 22 cI cJ cZ cMic cSrc cSt cAI cAJ D ad T [.ref (ad o), .int a0] (fun r T9 => r = r1 ∧ T9 = T1) := by
  intro sz
  refine Met.ofW (cc := cX10_leading) (maxL := 7) (ret := (some .float)) (by decide) rfl ?_
  intro p e s m args below meth c s₁ B hml hv
  obtain ⟨rfl, hsz, hP, hK, hD0, hX, hN⟩ := hv
  have hx := B.exec
  have hb := B.bytes
  have hr := B.returns
  have hts := atoms_spec (ws := (Cond.code yX10_leading cX10_leading 7 (some .float) :: wsA)) B.pre
  have hown : s.vm.findClass RX10 = some m.cls := findClass_of_methodNamed B.named
  have hlocks := B.notSynchronized
  subst hsz
  have hD := hD0.self (sz := s.heap.size)
  generalize hAe : va_A (cW ad T.1 (cc cI cJ cZ cMic cSrc cSt cAI cAJ ad T)) s.heap.size = A at hD hX ⊢
  have hA : ∀ q : Nat, s.heap.size ≤ q → A q := fun q h => by rw [← hAe]; exact Or.inr h
  have G : gC cI cJ cZ cMic cSrc cSt cAI cAJ D ad A s.heap s.heap [] T := ⟨hP, hD, va_S.rf⟩
  have E : cE p c cX10_leading s m ([.ref (ad o), .int a0] : List Value).toArray (Cond.code yX10_leading cX10_leading 7 (some .float) :: wsA) D RX10 (CT cI cJ cZ cMic cSrc cSt cAI cAJ) := ⟨hx, hb, hts, hown, hK⟩
  have hl := lv_entry ([.ref (ad o), .int a0]) (n := 7) (Nat.le_of_ble_eq_true rfl)
  rw [lg_entry_eq]
  generalize (lg_sl ([.ref (ad o), .int a0]) ++ List.replicate (7 - (lg_sl ([.ref (ad o), .int a0])).length) Slot.unset).toArray = ls at hl ⊢
  have hl : lv_has ls 7 [(0, .ref (ad o)), (1, .int a0)] := hl
  unfold g_X10_leading at h
  refine lv_aload_n hx hb dX10_leading_0 rfl (lv_at hl 0 rfl) ?_
  refine lv_iload_n hx hb dX10_leading_1 rfl (lv_at hl 1 rfl) ?_
  obtain ⟨g2, h⟩ := oif_some h
  obtain ⟨r5, T3, eT3, h⟩ := obind2_some h
  refine q_cvi (As := [.int a0]) (rest := []) E G hA hX hN hml (u_X10_partsBelow l hst D cI cJ cZ cMic cSrc cSt cAI cAJ ad T o a0 eT3) (cwV 1 hts (gaV qA_640 qA_641 qA_642 qA_6 qA_643) rfl rfl rfl (by decide +kernel) ⟨Nat.le_of_ble_eq_true rfl, Nat.le_of_ble_eq_true rfl⟩) (oO_k g2).1 (cc_o10 (oO_k g2).2) rfl rfl hl.1 rfl (lv_room (Nat.le_of_ble_eq_true rfl)) dX10_leading_2 ⟨Nat.zero_le _, Nat.zero_le _⟩ (fun q6 T4 H locs hq G => ?_)
  obtain ⟨hq1, hq2⟩ := hq
  rw [hq2] at G
  refine lv_to hq1 ?_
  clear hq1 hq2 eT3
  refine lv_istore_n (lv' := [(2, .int r5), (0, .ref (ad o)), (1, .int a0)]) hx hb dX10_leading_5 rfl hl (by decide) rfl (fun ls hl => ?_)
  refine lv_lconst (v := 0) hx hb dX10_leading_6 (by decide) ?_
  refine lv_lstore_n (lv' := [(3, .long (0 : Int64)), (2, .int r5), (0, .ref (ad o)), (1, .int a0)]) hx hb dX10_leading_7 rfl hl (by decide) rfl (fun ls hl => ?_)
  refine lv_iconst (v := 0) hx hb dX10_leading_8 (by decide) ?_
  refine lv_istore (lv' := [(5, .int 0), (3, .long (0 : Int64)), (2, .int r5), (0, .ref (ad o)), (1, .int a0)]) hx hb dX10_leading_9 hl (by decide) rfl (fun ls hl => ?_)
  have hl := lv_sub hl [3, 4, 2, 1, 0] rfl
  exact u_X10_leading_b11 E hA hX hN hml hst (fun H locs ls G => W.fret (v := r1) hx hb hr (fun t ht hW => ⟨⟨r1, T1, rfl, ⟨rfl, rfl⟩, ⟨by rw [ht]; exact G.1, va_K.moved hW.alike hK, G.2.1⟩⟩, G.2.2.F ht⟩) G.2.2.2.2 dX10_leading_89) _ _ _ _ _ _ _ _ _ _ h G hl
set_option maxHeartbeats 4000000 in
set_option maxRecDepth 100000 in
theorem s_X10_leading_b88 {r1 : UInt32} {T1 : AT} : ∀ (T : AT) (s0 : Int64), g_X10_leading_b88 T s0 = some (r1, T1) → SP T T1 := by
  intro T s0 h
  have p0 := SP.rf T
  unfold g_X10_leading_b88 at h
  obtain ⟨v2, -, h⟩ := elet_some h
  rw [← (osome2 h).2]
  exact p0
set_option maxHeartbeats 4000000 in
set_option maxRecDepth 100000 in
theorem s_X10_leading_b73 {r1 : UInt32} {T1 : AT} : ∀ (T : AT) (l3 : Int64) (l5 : Int64), g_X10_leading_b73 T l3 l5 = some (r1, T1) → SP T T1 := by
  intro T l3 l5 h
  have p0 := SP.rf T
  unfold g_X10_leading_b73 at h
  obtain ⟨v2, -, h⟩ := elet_some h
  rcases oif_or h with ⟨c3, h⟩ | ⟨c3, h⟩
  · have h := h
    exact SP.tr p0 (s_X10_leading_b88 _ _ h)
  · have h := h
    obtain ⟨v4, -, h⟩ := elet_some h
    exact SP.tr p0 (s_X10_leading_b88 _ _ h)
set_option maxHeartbeats 4000000 in
set_option maxRecDepth 100000 in
theorem s_X10_leading_b11 {r1 : UInt32} {T1 : AT} : ∀ n : Nat, ∀ (T : AT) (l0 : Nat) (l1 : Int32) (l2 : Int32) (l3 : Int64) (l5 : Int32), g_X10_leading_b11 n T l0 l1 l2 l3 l5 = some (r1, T1) → SP T T1 := by
  intro n
  induction n with
  | zero =>
    intro T l0 l1 l2 l3 l5 h
    have h : (none : Option (UInt32 × AT)) = some (r1, T1) := h
    cases h
  | succ n ih =>
    intro T l0 l1 l2 l3 l5 h
    have p0 := SP.rf T
    unfold g_X10_leading_b11 at h
    rcases oif_or h with ⟨c2, h⟩ | ⟨c2, h⟩
    · have h := h
      obtain ⟨g3, h⟩ := oif_some h
      obtain ⟨n4, en4, h⟩ := obind_some h
      obtain ⟨g5, h⟩ := oif_some h
      obtain ⟨g6, h⟩ := oif_some h
      obtain ⟨n7, en7, h⟩ := obind_some h
      obtain ⟨g8, h⟩ := oif_some h
      obtain ⟨g9, h⟩ := oif_some h
      obtain ⟨v10, -, h⟩ := elet_some h
      obtain ⟨v11, -, h⟩ := elet_some h
      obtain ⟨g12, h⟩ := oif_some h
      obtain ⟨v13, -, h⟩ := elet_some h
      rcases oif_or h with ⟨c14, h⟩ | ⟨c14, h⟩
      · have h := h
        exact SP.tr p0 (s_X10_leading_b73 _ _ _ h)
      · have h := h
        obtain ⟨g15, h⟩ := oif_some h
        obtain ⟨n16, en16, h⟩ := obind_some h
        obtain ⟨v17, -, h⟩ := elet_some h
        obtain ⟨g18, h⟩ := oif_some h
        obtain ⟨g19, h⟩ := oif_some h
        obtain ⟨n20, en20, h⟩ := obind_some h
        obtain ⟨g21, h⟩ := oif_some h
        obtain ⟨g22, h⟩ := oif_some h
        obtain ⟨v23, -, h⟩ := elet_some h
        obtain ⟨v24, -, h⟩ := elet_some h
        obtain ⟨v25, -, h⟩ := elet_some h
        exact SP.tr p0 (s_X10_leading_b73 _ _ _ h)
    · have h := h
      obtain ⟨g26, h⟩ := oif_some h
      obtain ⟨n27, en27, h⟩ := obind_some h
      obtain ⟨g28, h⟩ := oif_some h
      obtain ⟨g29, h⟩ := oif_some h
      obtain ⟨n30, en30, h⟩ := obind_some h
      obtain ⟨g31, h⟩ := oif_some h
      obtain ⟨g32, h⟩ := oif_some h
      obtain ⟨v33, -, h⟩ := elet_some h
      obtain ⟨v34, -, h⟩ := elet_some h
      obtain ⟨v35, ev35, h⟩ := elet_some h
      exact SP.tr p0 (ih _ _ _ _ _ _ h)
set_option maxHeartbeats 4000000 in
set_option maxRecDepth 100000 in
theorem s_X10_leading {T : AT} {o : Nat} {a0 : Int32} {r1 : UInt32} {T1 : AT} (h : g_X10_leading T o a0 = some (r1, T1)) : SP T T1 := by
  have p0 := SP.rf T
  unfold g_X10_leading at h
  obtain ⟨g2, h⟩ := oif_some h
  obtain ⟨r4, T3, eT3, h⟩ := obind2_some h
  have p1 : SP T T3 := SP.tr p0 (s_X10_partsBelow eT3)
  exact SP.tr p1 (s_X10_leading_b11 _ _ _ _ _ _ _ h)
def g_X10_ratio_b30  : Nat → AT → Nat → Int32 → UInt32 → Int32 → Option (UInt32 × AT)
  | 0, _, _, _, _, _ => none
  | n + 1, T, l0, l1, l4, l5 => oif (oO T l0 10 = true) <| obind2 (g_X10_partsBelow T l0 l1) fun r5 T3 => if r5 ≤ l5 then (some (l4, T3)) else (oif (FP.fmul l4 (1300234240 : UInt32) &&& 0x7fffffff ≤ 0x7f800000) <| elet (FP.fmul l4 (1300234240 : UInt32)) fun v9 => elet (l5 + Int32.ofInt (1)) fun v10 => g_X10_ratio_b30 n T3 l0 l1 v9 v10)
set_option maxHeartbeats 4000000 in
set_option maxRecDepth 100000 in
theorem u_X10_ratio_b30 {p : Program} {l : Launch} {e : Env} {s : State} {m : MethodId} {args : Array Value} {below : List Frame} {meth : Method} {c : Code} {Q : State → Prop} {D : va_G} {A : Nat → Prop} {cI cJ cZ cMic cSrc cSt cAI cAJ : ClassId} {ad : Nat → Nat} {r1 : UInt32} {T1 : AT} (E : cE p c cX10_ratio s m args (Cond.code yX10_ratio cX10_ratio 6 (some .float) :: wsA) D RX10 (CT cI cJ cZ cMic cSrc cSt cAI cAJ)) (hA : ∀ q : Nat, s.heap.size ≤ q → A q) (hX : xT A s) (hN : nX s) (hml : c.maxLocals = 6) (hst : l.stackTraces = false) (kr13 : ∀ (H : Heap) (locs : List Loc) (ls : Array Slot), gC cI cJ cZ cMic cSrc cSt cAI cAJ D ad A s.heap H locs T1 → W p l e { frames := 3, cells := 0, slots := 0, locals := 48 } s m args below meth c H locs 0 0 Q (F0 m 13 ls [.float r1])) (kr55 : ∀ (H : Heap) (locs : List Loc) (ls : Array Slot), gC cI cJ cZ cMic cSrc cSt cAI cAJ D ad A s.heap H locs T1 → W p l e { frames := 3, cells := 0, slots := 0, locals := 48 } s m args below meth c H locs 0 0 Q (F0 m 55 ls [.float r1])) : ∀ n : Nat, ∀ (T : AT) (H : Heap) (locs : List Loc) (ls : Array Slot) (l0 : Nat) (l1 : Int32) (l4 : UInt32) (l5 : Int32), g_X10_ratio_b30 n T l0 l1 l4 l5 = some (r1, T1) → gC cI cJ cZ cMic cSrc cSt cAI cAJ D ad A s.heap H locs T → lv_has ls 6 [(0, .ref (ad l0)), (1, .int l1), (4, .float l4), (5, .int l5)] → W p l e { frames := 3, cells := 0, slots := 0, locals := 48 } s m args below meth c H locs 0 0 Q (F0 m 30 ls []) := by
  have hx := E.1
  have hb := E.2.1
  have hts := E.2.2.1
  have hown := E.2.2.2.1
  have hK := E.2.2.2.2
  intro n
  induction n with
  | zero =>
    intro T H locs ls l0 l1 l4 l5 h
    have h : (none : Option (UInt32 × AT)) = some (r1, T1) := h
    cases h
  | succ n ih =>
    intro T H locs ls l0 l1 l4 l5 h G hl
    unfold g_X10_ratio_b30 at h
    refine lv_iload hx hb dX10_ratio_30 (lv_at hl 3 rfl) ?_
    refine lv_aload_n hx hb dX10_ratio_32 rfl (lv_at hl 0 rfl) ?_
    refine lv_iload_n hx hb dX10_ratio_33 rfl (lv_at hl 1 rfl) ?_
    obtain ⟨g2, h⟩ := oif_some h
    obtain ⟨r5, T3, eT3, h⟩ := obind2_some h
    refine q_cvi (As := [.int l1]) (rest := [.int l5]) E G hA hX hN hml (u_X10_partsBelow l hst D cI cJ cZ cMic cSrc cSt cAI cAJ ad T l0 l1 eT3) (cwV 1 hts (gaV qA_640 qA_641 qA_642 qA_6 qA_643) rfl rfl rfl (by decide +kernel) ⟨Nat.le_of_ble_eq_true rfl, Nat.le_of_ble_eq_true rfl⟩) (oO_k g2).1 (cc_o10 (oO_k g2).2) rfl rfl hl.1 rfl (lv_room (Nat.le_of_ble_eq_true rfl)) dX10_ratio_34 ⟨Nat.zero_le _, Nat.zero_le _⟩ (fun q6 T4 H locs hq G => ?_)
    obtain ⟨hq1, hq2⟩ := hq
    rw [hq2] at G
    refine lv_to hq1 ?_
    clear hq1 hq2 eT3
    refine lv_icmp_ge (tgt := 53) hx hb dX10_ratio_37 (by decide) (fun c7 => ?_) (fun c7 => ?_)
    · have h := oif_pos c7 h
      refine lv_fload hx hb dX10_ratio_53 (lv_at hl 2 rfl) ?_
      rw [(osome2 h).2] at G
      refine lv_tof (osome2 h).1 ?_
      exact kr55 _ _ _ G
    · have h := oif_neg c7 h
      refine lv_fload hx hb dX10_ratio_40 (lv_at hl 2 rfl) ?_
      refine lv_ldcf (v := 1300234240) hx hb hown (hts _ (.tail _ qA_635)) dX10_ratio_42 ?_
      obtain ⟨g8, h⟩ := oif_some h
      refine lv_fmul hx hb dX10_ratio_44 g8 ?_
      refine lv_topf (fun v9 ev9 => ?_)
      have h := elet_at ev9 h
      clear ev9
      refine lv_fstore (lv' := [(4, .float v9), (0, .ref (ad l0)), (1, .int l1), (5, .int l5)]) hx hb dX10_ratio_45 hl (by decide) rfl (fun ls hl => ?_)
      obtain ⟨v10, ev10, h⟩ := elet_some h
      refine lv_iinc (v := v10) (lv' := [(5, .int v10), (4, .float v9), (0, .ref (ad l0)), (1, .int l1)]) hx hb dX10_ratio_47 hl (k := 3) rfl ev10.symm (by decide) rfl (fun ls hl => ?_)
      refine lv_goto (tgt := 30) hx hb dX10_ratio_50 (by decide) ?_
      have hl := lv_sub hl [2, 3, 1, 0] rfl
      exact ih _ _ _ _ _ _ _ _ h G hl
def g_X10_ratio (T : AT) (o : Nat) (a0 : Int32) (a1 : Int32) : Option (UInt32 × AT) := oif (oO T o 10 = true) <| obind2 (g_X10_leading T o a1) fun r5 T3 => elet (Op.cmpValue (FP.fcmp r5 FP.fconst0) .l) fun v7 => if v7 = 0 then (some (FP.fconst0, T3)) else (oif (oO T3 o 10 = true) <| obind2 (g_X10_leading T3 o a0) fun r12 T10 => oif (FP.fdiv r12 r5 &&& 0x7fffffff ≤ 0x7f800000) <| elet (FP.fdiv r12 r5) fun v15 => oif (oO T10 o 10 = true) <| obind2 (g_X10_partsBelow T10 o a1) fun r19 T17 => g_X10_ratio_b30 16384 T17 o a0 v15 r19)
set_option maxHeartbeats 4000000 in
set_option maxRecDepth 100000 in
theorem u_X10_ratio (l : Launch) (hst : l.stackTraces = false) (D : va_G) (cI cJ cZ cMic cSrc cSt cAI cAJ : ClassId) (ad : Nat → Nat) (T : AT) (o : Nat) (a0 : Int32) (a1 : Int32) {r1 : UInt32} {T1 : AT} (h : g_X10_ratio T o a0 a1 = some (r1, T1)) : kCf l yX10_ratio (Cond.code yX10_ratio cX10_ratio 6 (some .float) :: wsA) 3 48 cI cJ cZ cMic cSrc cSt cAI cAJ D ad T [.ref (ad o), .int a0, .int a1] (fun r T9 => r = r1 ∧ T9 = T1) := by
  intro sz
  refine Met.ofW (cc := cX10_ratio) (maxL := 6) (ret := (some .float)) (by decide) rfl ?_
  intro p e s m args below meth c s₁ B hml hv
  obtain ⟨rfl, hsz, hP, hK, hD0, hX, hN⟩ := hv
  have hx := B.exec
  have hb := B.bytes
  have hr := B.returns
  have hts := atoms_spec (ws := (Cond.code yX10_ratio cX10_ratio 6 (some .float) :: wsA)) B.pre
  have hown : s.vm.findClass RX10 = some m.cls := findClass_of_methodNamed B.named
  have hlocks := B.notSynchronized
  subst hsz
  have hD := hD0.self (sz := s.heap.size)
  generalize hAe : va_A (cW ad T.1 (cc cI cJ cZ cMic cSrc cSt cAI cAJ ad T)) s.heap.size = A at hD hX ⊢
  have hA : ∀ q : Nat, s.heap.size ≤ q → A q := fun q h => by rw [← hAe]; exact Or.inr h
  have G : gC cI cJ cZ cMic cSrc cSt cAI cAJ D ad A s.heap s.heap [] T := ⟨hP, hD, va_S.rf⟩
  have E : cE p c cX10_ratio s m ([.ref (ad o), .int a0, .int a1] : List Value).toArray (Cond.code yX10_ratio cX10_ratio 6 (some .float) :: wsA) D RX10 (CT cI cJ cZ cMic cSrc cSt cAI cAJ) := ⟨hx, hb, hts, hown, hK⟩
  have hl := lv_entry ([.ref (ad o), .int a0, .int a1]) (n := 6) (Nat.le_of_ble_eq_true rfl)
  rw [lg_entry_eq]
  generalize (lg_sl ([.ref (ad o), .int a0, .int a1]) ++ List.replicate (6 - (lg_sl ([.ref (ad o), .int a0, .int a1])).length) Slot.unset).toArray = ls at hl ⊢
  have hl : lv_has ls 6 [(0, .ref (ad o)), (1, .int a0), (2, .int a1)] := hl
  unfold g_X10_ratio at h
  refine lv_aload_n hx hb dX10_ratio_0 rfl (lv_at hl 0 rfl) ?_
  refine lv_iload_n hx hb dX10_ratio_1 rfl (lv_at hl 2 rfl) ?_
  obtain ⟨g2, h⟩ := oif_some h
  obtain ⟨r5, T3, eT3, h⟩ := obind2_some h
  refine q_cvf (As := [.int a1]) (rest := []) E G hA hX hN hml (u_X10_leading l hst D cI cJ cZ cMic cSrc cSt cAI cAJ ad T o a1 eT3) (cwV 1 hts (gaV qA_636 qA_637 qA_638 qA_6 qA_639) rfl rfl rfl (by decide +kernel) ⟨Nat.le_of_ble_eq_true rfl, Nat.le_of_ble_eq_true rfl⟩) (oO_k g2).1 (cc_o10 (oO_k g2).2) rfl rfl hl.1 rfl (lv_room (Nat.le_of_ble_eq_true rfl)) dX10_ratio_2 ⟨Nat.zero_le _, Nat.zero_le _⟩ (fun q6 T4 H locs hq G => ?_)
  obtain ⟨hq1, hq2⟩ := hq
  rw [hq2] at G
  refine lv_tof hq1 ?_
  clear hq1 hq2 eT3
  refine lv_fstore_n (lv' := [(3, .float r5), (0, .ref (ad o)), (1, .int a0), (2, .int a1)]) hx hb dX10_ratio_5 rfl hl (by decide) rfl (fun ls hl => ?_)
  refine lv_fload_n hx hb dX10_ratio_6 rfl (lv_at hl 0 rfl) ?_
  refine lv_fconst0 hx hb dX10_ratio_7 ?_
  refine lv_fcmp hx hb dX10_ratio_8 ?_
  refine lv_topi (fun v7 ev7 => ?_)
  have h := elet_at ev7 h
  clear ev7
  refine lv_if_ne (tgt := 14) hx hb dX10_ratio_9 (by decide) (fun c8 => ?_) (fun c8 => ?_)
  · have h := oif_neg c8 h
    refine lv_aload_n hx hb dX10_ratio_14 rfl (lv_at hl 1 rfl) ?_
    refine lv_iload_n hx hb dX10_ratio_15 rfl (lv_at hl 2 rfl) ?_
    obtain ⟨g9, h⟩ := oif_some h
    obtain ⟨r12, T10, eT10, h⟩ := obind2_some h
    refine q_cvf (As := [.int a0]) (rest := []) E G hA hX hN hml (u_X10_leading l hst D cI cJ cZ cMic cSrc cSt cAI cAJ ad T3 o a0 eT10) (cwV 1 hts (gaV qA_636 qA_637 qA_638 qA_6 qA_639) rfl rfl rfl (by decide +kernel) ⟨Nat.le_of_ble_eq_true rfl, Nat.le_of_ble_eq_true rfl⟩) (oO_k g9).1 (cc_o10 (oO_k g9).2) rfl rfl hl.1 rfl (lv_room (Nat.le_of_ble_eq_true rfl)) dX10_ratio_16 ⟨Nat.zero_le _, Nat.zero_le _⟩ (fun q13 T11 H locs hq G => ?_)
    obtain ⟨hq1, hq2⟩ := hq
    rw [hq2] at G
    refine lv_tof hq1 ?_
    clear hq1 hq2 eT10
    refine lv_fload_n hx hb dX10_ratio_19 rfl (lv_at hl 0 rfl) ?_
    obtain ⟨g14, h⟩ := oif_some h
    refine lv_fdiv hx hb dX10_ratio_20 g14 ?_
    refine lv_topf (fun v15 ev15 => ?_)
    have h := elet_at ev15 h
    clear ev15
    refine lv_fstore (lv' := [(4, .float v15), (3, .float r5), (0, .ref (ad o)), (1, .int a0), (2, .int a1)]) hx hb dX10_ratio_21 hl (by decide) rfl (fun ls hl => ?_)
    refine lv_aload_n hx hb dX10_ratio_23 rfl (lv_at hl 2 rfl) ?_
    refine lv_iload_n hx hb dX10_ratio_24 rfl (lv_at hl 4 rfl) ?_
    obtain ⟨g16, h⟩ := oif_some h
    obtain ⟨r19, T17, eT17, h⟩ := obind2_some h
    refine q_cvi (As := [.int a1]) (rest := []) E G hA hX hN hml (u_X10_partsBelow l hst D cI cJ cZ cMic cSrc cSt cAI cAJ ad T10 o a1 eT17) (cwV 1 hts (gaV qA_640 qA_641 qA_642 qA_6 qA_643) rfl rfl rfl (by decide +kernel) ⟨Nat.le_of_ble_eq_true rfl, Nat.le_of_ble_eq_true rfl⟩) (oO_k g16).1 (cc_o10 (oO_k g16).2) rfl rfl hl.1 rfl (lv_room (Nat.le_of_ble_eq_true rfl)) dX10_ratio_25 ⟨Nat.zero_le _, Nat.zero_le _⟩ (fun q20 T18 H locs hq G => ?_)
    obtain ⟨hq1, hq2⟩ := hq
    rw [hq2] at G
    refine lv_to hq1 ?_
    clear hq1 hq2 eT17
    refine lv_istore (lv' := [(5, .int r19), (4, .float v15), (3, .float r5), (0, .ref (ad o)), (1, .int a0), (2, .int a1)]) hx hb dX10_ratio_28 hl (by decide) rfl (fun ls hl => ?_)
    have hl := lv_sub hl [3, 4, 1, 0] rfl
    exact u_X10_ratio_b30 E hA hX hN hml hst (fun H locs ls G => W.fret (v := r1) hx hb hr (fun t ht hW => ⟨⟨r1, T1, rfl, ⟨rfl, rfl⟩, ⟨by rw [ht]; exact G.1, va_K.moved hW.alike hK, G.2.1⟩⟩, G.2.2.F ht⟩) G.2.2.2.2 dX10_ratio_13) (fun H locs ls G => W.fret (v := r1) hx hb hr (fun t ht hW => ⟨⟨r1, T1, rfl, ⟨rfl, rfl⟩, ⟨by rw [ht]; exact G.1, va_K.moved hW.alike hK, G.2.1⟩⟩, G.2.2.F ht⟩) G.2.2.2.2 dX10_ratio_55) _ _ _ _ _ _ _ _ _ h G hl
  · have h := oif_pos c8 h
    refine lv_fconst0 hx hb dX10_ratio_12 ?_
    exact W.fret (v := FP.fconst0) hx hb hr (fun t ht hW => ⟨⟨FP.fconst0, T3, rfl, osome2 h, ⟨by rw [ht]; exact G.1, va_K.moved hW.alike hK, G.2.1⟩⟩, G.2.2.F ht⟩) G.2.2.2.2 dX10_ratio_13
set_option maxHeartbeats 4000000 in
set_option maxRecDepth 100000 in
theorem s_X10_ratio_b30 {r1 : UInt32} {T1 : AT} : ∀ n : Nat, ∀ (T : AT) (l0 : Nat) (l1 : Int32) (l4 : UInt32) (l5 : Int32), g_X10_ratio_b30 n T l0 l1 l4 l5 = some (r1, T1) → SP T T1 := by
  intro n
  induction n with
  | zero =>
    intro T l0 l1 l4 l5 h
    have h : (none : Option (UInt32 × AT)) = some (r1, T1) := h
    cases h
  | succ n ih =>
    intro T l0 l1 l4 l5 h
    have p0 := SP.rf T
    unfold g_X10_ratio_b30 at h
    obtain ⟨g2, h⟩ := oif_some h
    obtain ⟨r4, T3, eT3, h⟩ := obind2_some h
    have p1 : SP T T3 := SP.tr p0 (s_X10_partsBelow eT3)
    rcases oif_or h with ⟨c5, h⟩ | ⟨c5, h⟩
    · have h := h
      rw [← (osome2 h).2]
      exact p1
    · have h := h
      obtain ⟨g6, h⟩ := oif_some h
      obtain ⟨v7, -, h⟩ := elet_some h
      obtain ⟨v8, ev8, h⟩ := elet_some h
      exact SP.tr p1 (ih _ _ _ _ _ h)
set_option maxHeartbeats 4000000 in
set_option maxRecDepth 100000 in
theorem s_X10_ratio {T : AT} {o : Nat} {a0 : Int32} {a1 : Int32} {r1 : UInt32} {T1 : AT} (h : g_X10_ratio T o a0 a1 = some (r1, T1)) : SP T T1 := by
  have p0 := SP.rf T
  unfold g_X10_ratio at h
  obtain ⟨g2, h⟩ := oif_some h
  obtain ⟨r4, T3, eT3, h⟩ := obind2_some h
  have p1 : SP T T3 := SP.tr p0 (s_X10_leading eT3)
  obtain ⟨v5, -, h⟩ := elet_some h
  rcases oif_or h with ⟨c6, h⟩ | ⟨c6, h⟩
  · have h := h
    rw [← (osome2 h).2]
    exact p1
  · have h := h
    obtain ⟨g7, h⟩ := oif_some h
    obtain ⟨r9, T8, eT8, h⟩ := obind2_some h
    have p2 : SP T T8 := SP.tr p1 (s_X10_leading eT8)
    obtain ⟨g10, h⟩ := oif_some h
    obtain ⟨v11, -, h⟩ := elet_some h
    obtain ⟨g12, h⟩ := oif_some h
    obtain ⟨r14, T13, eT13, h⟩ := obind2_some h
    have p3 : SP T T13 := SP.tr p2 (s_X10_partsBelow eT13)
    exact SP.tr p3 (s_X10_ratio_b30 _ _ _ _ _ _ h)
def g_X11_append (T : AT) (o : Nat) (a0 : Int32) (a1 : Int32) (a2 : Int32) (a3 : Int32) (a4 : Int32) : Option (Int32 × AT) := oif (oO T o 11 = true) <| obind (T.2.2.2.2 o 0) fun n3 => oif (oO T n3 9 = true) <| elet (T.2.2.1 n3 1) fun v5 => elet (v5 + 20) fun v6 => if v6 ≤ 1000 then (oif (oO T o 11 = true) <| obind (T.2.2.2.2 o 0) fun n9 => oif (oO T n9 9 = true) <| obind (g_X9_addWord T n9 a0) fun T11 => oif (oO T11 o 11 = true) <| obind (T11.2.2.2.2 o 0) fun n14 => oif (oO T11 n14 9 = true) <| obind (g_X9_addWord T11 n14 a1) fun T16 => oif (oO T16 o 11 = true) <| obind (T16.2.2.2.2 o 0) fun n19 => oif (oO T16 n19 9 = true) <| obind (g_X9_addWord T16 n19 a2) fun T21 => oif (oO T21 o 11 = true) <| obind (T21.2.2.2.2 o 0) fun n24 => oif (oO T21 n24 9 = true) <| obind (g_X9_addWord T21 n24 a3) fun T26 => oif (oO T26 o 11 = true) <| obind (T26.2.2.2.2 o 0) fun n29 => oif (oO T26 n29 9 = true) <| obind (g_X9_addWord T26 n29 a4) fun T31 => oif (oO T31 o 11 = true) <| obind (T31.2.2.2.2 o 0) fun n34 => oif (oO T31 n34 9 = true) <| elet (T31.2.2.1 n34 1) fun v36 => some (v36, T31)) else (some ((-1), T))
set_option maxHeartbeats 4000000 in
set_option maxRecDepth 100000 in
theorem u_X11_append (l : Launch) (hst : l.stackTraces = false) (D : va_G) (cI cJ cZ cMic cSrc cSt cAI cAJ : ClassId) (ad : Nat → Nat) (T : AT) (o : Nat) (a0 : Int32) (a1 : Int32) (a2 : Int32) (a3 : Int32) (a4 : Int32) {r1 : Int32} {T1 : AT} (h : g_X11_append T o a0 a1 a2 a3 a4 = some (r1, T1)) : kCi l yX11_append (Cond.code yX11_append cX11_append 6 (some .int) :: wsA) 2 22 cI cJ cZ cMic cSrc cSt cAI cAJ D ad T [.ref (ad o), .int a0, .int a1, .int a2, .int a3, .int a4] (fun r T9 => r = r1 ∧ T9 = T1) := by
  intro sz
  refine Met.ofW (cc := cX11_append) (maxL := 6) (ret := (some .int)) (by decide) rfl ?_
  intro p e s m args below meth c s₁ B hml hv
  obtain ⟨rfl, hsz, hP, hK, hD0, hX, hN⟩ := hv
  have hx := B.exec
  have hb := B.bytes
  have hr := B.returns
  have hts := atoms_spec (ws := (Cond.code yX11_append cX11_append 6 (some .int) :: wsA)) B.pre
  have hown : s.vm.findClass RX11 = some m.cls := findClass_of_methodNamed B.named
  have hlocks := B.notSynchronized
  subst hsz
  have hD := hD0.self (sz := s.heap.size)
  generalize hAe : va_A (cW ad T.1 (cc cI cJ cZ cMic cSrc cSt cAI cAJ ad T)) s.heap.size = A at hD hX ⊢
  have hA : ∀ q : Nat, s.heap.size ≤ q → A q := fun q h => by rw [← hAe]; exact Or.inr h
  have G : gC cI cJ cZ cMic cSrc cSt cAI cAJ D ad A s.heap s.heap [] T := ⟨hP, hD, va_S.rf⟩
  have E : cE p c cX11_append s m ([.ref (ad o), .int a0, .int a1, .int a2, .int a3, .int a4] : List Value).toArray (Cond.code yX11_append cX11_append 6 (some .int) :: wsA) D RX11 (CT cI cJ cZ cMic cSrc cSt cAI cAJ) := ⟨hx, hb, hts, hown, hK⟩
  have hl := lv_entry ([.ref (ad o), .int a0, .int a1, .int a2, .int a3, .int a4]) (n := 6) (Nat.le_of_ble_eq_true rfl)
  rw [lg_entry_eq]
  generalize (lg_sl ([.ref (ad o), .int a0, .int a1, .int a2, .int a3, .int a4]) ++ List.replicate (6 - (lg_sl ([.ref (ad o), .int a0, .int a1, .int a2, .int a3, .int a4])).length) Slot.unset).toArray = ls at hl ⊢
  have hl : lv_has ls 6 [(0, .ref (ad o)), (1, .int a0), (2, .int a1), (3, .int a2), (4, .int a3), (5, .int a4)] := hl
  unfold g_X11_append at h
  refine lv_aload_n hx hb dX11_append_0 rfl (lv_at hl 0 rfl) ?_
  obtain ⟨g2, h⟩ := oif_some h
  obtain ⟨n3, en3, h⟩ := obind_some h
  refine c_get E G o 0 (v := .ref (ad n3)) (oO_k g2).1 (cc_o11 (oO_k g2).2) rfl (fun w h => .tail _ (iA_23 h)) (by decide) (.tail _ qA_648) rfl (by rw [en3]; rfl) dX11_append_1 ?_
  clear en3
  obtain ⟨g4, h⟩ := oif_some h
  refine c_get E G n3 1 (oO_k g4).1 (cc_o9 (oO_k g4).2) rfl (fun w h => .tail _ (iA_18 h)) (by decide) (.tail _ qA_688) rfl rfl dX11_append_4 ?_
  refine lv_topi (fun v5 ev5 => ?_)
  have h := elet_at ev5 h
  clear ev5
  refine lv_bipush (v := 20) hx hb dX11_append_7 (by decide) ?_
  refine lv_iadd hx hb dX11_append_9 ?_
  refine lv_topi (fun v6 ev6 => ?_)
  have h := elet_at ev6 h
  clear ev6
  refine lv_sipush (v := 1000) hx hb dX11_append_10 (by decide) ?_
  refine lv_icmp_le (tgt := 18) hx hb dX11_append_13 (by decide) (fun c7 => ?_) (fun c7 => ?_)
  · have h := oif_pos c7 h
    refine lv_aload_n hx hb dX11_append_18 rfl (lv_at hl 0 rfl) ?_
    obtain ⟨g8, h⟩ := oif_some h
    obtain ⟨n9, en9, h⟩ := obind_some h
    refine c_get E G o 0 (v := .ref (ad n9)) (oO_k g8).1 (cc_o11 (oO_k g8).2) rfl (fun w h => .tail _ (iA_23 h)) (by decide) (.tail _ qA_648) rfl (by rw [en9]; rfl) dX11_append_19 ?_
    clear en9
    refine lv_iload_n hx hb dX11_append_22 rfl (lv_at hl 1 rfl) ?_
    obtain ⟨g10, h⟩ := oif_some h
    obtain ⟨T11, eT11, h⟩ := obind_some h
    refine q_cvv (As := [.int a0]) (rest := []) E G hA hX hN hml (u_X9_addWord l hst D cI cJ cZ cMic cSrc cSt cAI cAJ ad T n9 a0 eT11) (cwV 1 hts (gaV qA_689 qA_690 qA_691 qA_185 qA_631) rfl rfl rfl (by decide +kernel) ⟨Nat.le_of_ble_eq_true rfl, Nat.le_of_ble_eq_true rfl⟩) (oO_k g10).1 (cc_o9 (oO_k g10).2) rfl rfl hl.1 rfl (lv_room (Nat.le_of_ble_eq_true rfl)) dX11_append_23 ⟨Nat.zero_le _, Nat.zero_le _⟩ (fun T12 H locs hq G => ?_)
    rw [hq] at G
    clear hq eT11
    refine lv_aload_n hx hb dX11_append_26 rfl (lv_at hl 0 rfl) ?_
    obtain ⟨g13, h⟩ := oif_some h
    obtain ⟨n14, en14, h⟩ := obind_some h
    refine c_get E G o 0 (v := .ref (ad n14)) (oO_k g13).1 (cc_o11 (oO_k g13).2) rfl (fun w h => .tail _ (iA_23 h)) (by decide) (.tail _ qA_648) rfl (by rw [en14]; rfl) dX11_append_27 ?_
    clear en14
    refine lv_iload_n hx hb dX11_append_30 rfl (lv_at hl 2 rfl) ?_
    obtain ⟨g15, h⟩ := oif_some h
    obtain ⟨T16, eT16, h⟩ := obind_some h
    refine q_cvv (As := [.int a1]) (rest := []) E G hA hX hN hml (u_X9_addWord l hst D cI cJ cZ cMic cSrc cSt cAI cAJ ad T11 n14 a1 eT16) (cwV 1 hts (gaV qA_689 qA_690 qA_691 qA_185 qA_631) rfl rfl rfl (by decide +kernel) ⟨Nat.le_of_ble_eq_true rfl, Nat.le_of_ble_eq_true rfl⟩) (oO_k g15).1 (cc_o9 (oO_k g15).2) rfl rfl hl.1 rfl (lv_room (Nat.le_of_ble_eq_true rfl)) dX11_append_31 ⟨Nat.zero_le _, Nat.zero_le _⟩ (fun T17 H locs hq G => ?_)
    rw [hq] at G
    clear hq eT16
    refine lv_aload_n hx hb dX11_append_34 rfl (lv_at hl 0 rfl) ?_
    obtain ⟨g18, h⟩ := oif_some h
    obtain ⟨n19, en19, h⟩ := obind_some h
    refine c_get E G o 0 (v := .ref (ad n19)) (oO_k g18).1 (cc_o11 (oO_k g18).2) rfl (fun w h => .tail _ (iA_23 h)) (by decide) (.tail _ qA_648) rfl (by rw [en19]; rfl) dX11_append_35 ?_
    clear en19
    refine lv_iload_n hx hb dX11_append_38 rfl (lv_at hl 3 rfl) ?_
    obtain ⟨g20, h⟩ := oif_some h
    obtain ⟨T21, eT21, h⟩ := obind_some h
    refine q_cvv (As := [.int a2]) (rest := []) E G hA hX hN hml (u_X9_addWord l hst D cI cJ cZ cMic cSrc cSt cAI cAJ ad T16 n19 a2 eT21) (cwV 1 hts (gaV qA_689 qA_690 qA_691 qA_185 qA_631) rfl rfl rfl (by decide +kernel) ⟨Nat.le_of_ble_eq_true rfl, Nat.le_of_ble_eq_true rfl⟩) (oO_k g20).1 (cc_o9 (oO_k g20).2) rfl rfl hl.1 rfl (lv_room (Nat.le_of_ble_eq_true rfl)) dX11_append_39 ⟨Nat.zero_le _, Nat.zero_le _⟩ (fun T22 H locs hq G => ?_)
    rw [hq] at G
    clear hq eT21
    refine lv_aload_n hx hb dX11_append_42 rfl (lv_at hl 0 rfl) ?_
    obtain ⟨g23, h⟩ := oif_some h
    obtain ⟨n24, en24, h⟩ := obind_some h
    refine c_get E G o 0 (v := .ref (ad n24)) (oO_k g23).1 (cc_o11 (oO_k g23).2) rfl (fun w h => .tail _ (iA_23 h)) (by decide) (.tail _ qA_648) rfl (by rw [en24]; rfl) dX11_append_43 ?_
    clear en24
    refine lv_iload hx hb dX11_append_46 (lv_at hl 4 rfl) ?_
    obtain ⟨g25, h⟩ := oif_some h
    obtain ⟨T26, eT26, h⟩ := obind_some h
    refine q_cvv (As := [.int a3]) (rest := []) E G hA hX hN hml (u_X9_addWord l hst D cI cJ cZ cMic cSrc cSt cAI cAJ ad T21 n24 a3 eT26) (cwV 1 hts (gaV qA_689 qA_690 qA_691 qA_185 qA_631) rfl rfl rfl (by decide +kernel) ⟨Nat.le_of_ble_eq_true rfl, Nat.le_of_ble_eq_true rfl⟩) (oO_k g25).1 (cc_o9 (oO_k g25).2) rfl rfl hl.1 rfl (lv_room (Nat.le_of_ble_eq_true rfl)) dX11_append_48 ⟨Nat.zero_le _, Nat.zero_le _⟩ (fun T27 H locs hq G => ?_)
    rw [hq] at G
    clear hq eT26
    refine lv_aload_n hx hb dX11_append_51 rfl (lv_at hl 0 rfl) ?_
    obtain ⟨g28, h⟩ := oif_some h
    obtain ⟨n29, en29, h⟩ := obind_some h
    refine c_get E G o 0 (v := .ref (ad n29)) (oO_k g28).1 (cc_o11 (oO_k g28).2) rfl (fun w h => .tail _ (iA_23 h)) (by decide) (.tail _ qA_648) rfl (by rw [en29]; rfl) dX11_append_52 ?_
    clear en29
    refine lv_iload hx hb dX11_append_55 (lv_at hl 5 rfl) ?_
    obtain ⟨g30, h⟩ := oif_some h
    obtain ⟨T31, eT31, h⟩ := obind_some h
    refine q_cvv (As := [.int a4]) (rest := []) E G hA hX hN hml (u_X9_addWord l hst D cI cJ cZ cMic cSrc cSt cAI cAJ ad T26 n29 a4 eT31) (cwV 1 hts (gaV qA_689 qA_690 qA_691 qA_185 qA_631) rfl rfl rfl (by decide +kernel) ⟨Nat.le_of_ble_eq_true rfl, Nat.le_of_ble_eq_true rfl⟩) (oO_k g30).1 (cc_o9 (oO_k g30).2) rfl rfl hl.1 rfl (lv_room (Nat.le_of_ble_eq_true rfl)) dX11_append_57 ⟨Nat.zero_le _, Nat.zero_le _⟩ (fun T32 H locs hq G => ?_)
    rw [hq] at G
    clear hq eT31
    refine lv_aload_n hx hb dX11_append_60 rfl (lv_at hl 0 rfl) ?_
    obtain ⟨g33, h⟩ := oif_some h
    obtain ⟨n34, en34, h⟩ := obind_some h
    refine c_get E G o 0 (v := .ref (ad n34)) (oO_k g33).1 (cc_o11 (oO_k g33).2) rfl (fun w h => .tail _ (iA_23 h)) (by decide) (.tail _ qA_648) rfl (by rw [en34]; rfl) dX11_append_61 ?_
    clear en34
    obtain ⟨g35, h⟩ := oif_some h
    refine c_get E G n34 1 (oO_k g35).1 (cc_o9 (oO_k g35).2) rfl (fun w h => .tail _ (iA_18 h)) (by decide) (.tail _ qA_688) rfl rfl dX11_append_64 ?_
    refine lv_topi (fun v36 ev36 => ?_)
    have h := elet_at ev36 h
    clear ev36
    exact W.iret (v := v36) hx hb hr (fun t ht hW => ⟨⟨v36, T31, rfl, osome2 h, ⟨by rw [ht]; exact G.1, va_K.moved hW.alike hK, G.2.1⟩⟩, G.2.2.F ht⟩) G.2.2.2.2 dX11_append_67
  · have h := oif_neg c7 h
    refine lv_iconst (v := (-1)) hx hb dX11_append_16 (by decide) ?_
    exact W.iret (v := (-1)) hx hb hr (fun t ht hW => ⟨⟨(-1), T, rfl, osome2 h, ⟨by rw [ht]; exact G.1, va_K.moved hW.alike hK, G.2.1⟩⟩, G.2.2.F ht⟩) G.2.2.2.2 dX11_append_17
set_option maxHeartbeats 4000000 in
set_option maxRecDepth 100000 in
theorem s_X11_append {T : AT} {o : Nat} {a0 : Int32} {a1 : Int32} {a2 : Int32} {a3 : Int32} {a4 : Int32} {r1 : Int32} {T1 : AT} (h : g_X11_append T o a0 a1 a2 a3 a4 = some (r1, T1)) : SP T T1 := by
  have p0 := SP.rf T
  unfold g_X11_append at h
  obtain ⟨g2, h⟩ := oif_some h
  obtain ⟨n3, en3, h⟩ := obind_some h
  obtain ⟨g4, h⟩ := oif_some h
  obtain ⟨v5, -, h⟩ := elet_some h
  obtain ⟨v6, -, h⟩ := elet_some h
  rcases oif_or h with ⟨c7, h⟩ | ⟨c7, h⟩
  · have h := h
    obtain ⟨g8, h⟩ := oif_some h
    obtain ⟨n9, en9, h⟩ := obind_some h
    obtain ⟨g10, h⟩ := oif_some h
    obtain ⟨T11, eT11, h⟩ := obind_some h
    have p1 : SP T T11 := SP.tr p0 (s_X9_addWord eT11)
    obtain ⟨g13, h⟩ := oif_some h
    obtain ⟨n14, en14, h⟩ := obind_some h
    obtain ⟨g15, h⟩ := oif_some h
    obtain ⟨T16, eT16, h⟩ := obind_some h
    have p2 : SP T T16 := SP.tr p1 (s_X9_addWord eT16)
    obtain ⟨g18, h⟩ := oif_some h
    obtain ⟨n19, en19, h⟩ := obind_some h
    obtain ⟨g20, h⟩ := oif_some h
    obtain ⟨T21, eT21, h⟩ := obind_some h
    have p3 : SP T T21 := SP.tr p2 (s_X9_addWord eT21)
    obtain ⟨g23, h⟩ := oif_some h
    obtain ⟨n24, en24, h⟩ := obind_some h
    obtain ⟨g25, h⟩ := oif_some h
    obtain ⟨T26, eT26, h⟩ := obind_some h
    have p4 : SP T T26 := SP.tr p3 (s_X9_addWord eT26)
    obtain ⟨g28, h⟩ := oif_some h
    obtain ⟨n29, en29, h⟩ := obind_some h
    obtain ⟨g30, h⟩ := oif_some h
    obtain ⟨T31, eT31, h⟩ := obind_some h
    have p5 : SP T T31 := SP.tr p4 (s_X9_addWord eT31)
    obtain ⟨g33, h⟩ := oif_some h
    obtain ⟨n34, en34, h⟩ := obind_some h
    obtain ⟨g35, h⟩ := oif_some h
    obtain ⟨v36, -, h⟩ := elet_some h
    rw [← (osome2 h).2]
    exact p5
  · have h := h
    rw [← (osome2 h).2]
    exact p0
def g_X11_begin_b48  : Nat → AT → Nat → Int32 → Option (AT)
  | 0, _, _, _ => none
  | n + 1, T, l0, l1 => if 2 ≤ l1 then (some T) else (oif (oO T l0 11 = true) <| obind (T.2.2.2.2 l0 10) fun n4 => oif (aA T n4 102 = true) <| oif (inb l1 (T.2.1 n4).2 = true) <| elet (uI T n4 l1.toNatClampNeg 0) fun T7 => elet (l1 + Int32.ofInt (1)) fun v8 => g_X11_begin_b48 n T7 l0 v8)
def g_X11_begin_b33  (T : AT) (l0 : Nat) : Option (AT) := oif (oO T l0 11 = true) <| elet (uI T l0 16 0) fun T3 => oif (oO T3 l0 11 = true) <| obind (T3.2.2.2.2 l0 4) fun n5 => oif (oO T3 n5 4 = true) <| elet (uI T3 n5 0 0) fun T7 => g_X11_begin_b48 16384 T7 l0 0
def g_X11_begin (T : AT) (o : Nat) : Option (AT) := oif (oO T o 11 = true) <| obind (T.2.2.2.2 o 14) fun n3 => oif (oO T n3 6 = true) <| obind (g_X6_measureDelays T n3) fun T5 => oif (oO T5 o 11 = true) <| obind (T5.2.2.2.2 o 6) fun n8 => oif (oO T5 o 11 = true) <| obind (T5.2.2.2.2 o 14) fun n10 => oif (oO T5 n8 8 = true) <| obind (g_X8_begin T5 n8 n10) fun T12 => oif (oO T12 o 11 = true) <| obind (T12.2.2.2.2 o 2) fun n15 => oif (oO T12 o 11 = true) <| obind (T12.2.2.2.2 o 14) fun n17 => oif (oO T12 o 11 = true) <| obind (T12.2.2.2.2 o 6) fun n19 => oif (oO T12 n15 5 = true) <| obind (g_X5_record T12 n15 n17 n19) fun T21 => g_X11_begin_b33 T21 o
set_option maxHeartbeats 4000000 in
set_option maxRecDepth 100000 in
theorem s_X11_begin_b48 {T1 : AT} : ∀ n : Nat, ∀ (T : AT) (l0 : Nat) (l1 : Int32), g_X11_begin_b48 n T l0 l1 = some T1 → GL T T1 := by
  intro n
  induction n with
  | zero =>
    intro T l0 l1 h
    have h : (none : Option (AT)) = some T1 := h
    cases h
  | succ n ih =>
    intro T l0 l1 h
    have p0 := GL.rf T
    unfold g_X11_begin_b48 at h
    rcases oif_or h with ⟨c2, h⟩ | ⟨c2, h⟩
    · have h := h
      rw [← osome1 h]
      exact p0
    · have h := h
      obtain ⟨g3, h⟩ := oif_some h
      obtain ⟨n4, en4, h⟩ := obind_some h
      obtain ⟨g5, h⟩ := oif_some h
      obtain ⟨g6, h⟩ := oif_some h
      obtain ⟨T7, eT7, h⟩ := elet_some h
      have p1 : GL T T7 := GL.tr p0 (by rw [eT7]; exact gl_sp sp_uI)
      obtain ⟨v8, ev8, h⟩ := elet_some h
      exact GL.tr p1 (ih _ _ _ h)
set_option maxHeartbeats 4000000 in
set_option maxRecDepth 100000 in
theorem s_X11_begin_b33 {T1 : AT} : ∀ (T : AT) (l0 : Nat), g_X11_begin_b33 T l0 = some T1 → GL T T1 := by
  intro T l0 h
  have p0 := GL.rf T
  unfold g_X11_begin_b33 at h
  obtain ⟨g2, h⟩ := oif_some h
  obtain ⟨T3, eT3, h⟩ := elet_some h
  have p1 : GL T T3 := GL.tr p0 (by rw [eT3]; exact gl_sp sp_uI)
  obtain ⟨g4, h⟩ := oif_some h
  obtain ⟨n5, en5, h⟩ := obind_some h
  obtain ⟨g6, h⟩ := oif_some h
  obtain ⟨T7, eT7, h⟩ := elet_some h
  have p2 : GL T T7 := GL.tr p1 (by rw [eT7]; exact gl_sp sp_uI)
  exact GL.tr p2 (s_X11_begin_b48 _ _ _ _ h)
set_option maxHeartbeats 4000000 in
set_option maxRecDepth 100000 in
theorem s_X11_begin {T : AT} {o : Nat} {T1 : AT} (h : g_X11_begin T o = some T1) : GL T T1 := by
  have p0 := GL.rf T
  unfold g_X11_begin at h
  obtain ⟨g2, h⟩ := oif_some h
  obtain ⟨n3, en3, h⟩ := obind_some h
  obtain ⟨g4, h⟩ := oif_some h
  obtain ⟨T5, eT5, h⟩ := obind_some h
  have p1 : GL T T5 := GL.tr p0 (gl_sp (s_X6_measureDelays eT5))
  obtain ⟨g7, h⟩ := oif_some h
  obtain ⟨n8, en8, h⟩ := obind_some h
  obtain ⟨g9, h⟩ := oif_some h
  obtain ⟨n10, en10, h⟩ := obind_some h
  obtain ⟨g11, h⟩ := oif_some h
  obtain ⟨T12, eT12, h⟩ := obind_some h
  have p2 : GL T T12 := GL.tr p1 (gl_sp (s_X8_begin eT12))
  obtain ⟨g14, h⟩ := oif_some h
  obtain ⟨n15, en15, h⟩ := obind_some h
  obtain ⟨g16, h⟩ := oif_some h
  obtain ⟨n17, en17, h⟩ := obind_some h
  obtain ⟨g18, h⟩ := oif_some h
  obtain ⟨n19, en19, h⟩ := obind_some h
  obtain ⟨g20, h⟩ := oif_some h
  obtain ⟨T21, eT21, h⟩ := obind_some h
  have p3 : GL T T21 := GL.tr p2 (s_X5_record eT21)
  exact GL.tr p3 (s_X11_begin_b33 _ _ h)
set_option maxHeartbeats 4000000 in
set_option maxRecDepth 100000 in
theorem a_X11_begin_b48 {p : Program} {l : Launch} {e : Env} {s : State} {m : MethodId} {args : Array Value} {below : List Frame} {meth : Method} {c : Code} {Q : State → Prop} {D : va_G} {A : Nat → Prop} {cI cJ cZ cMic cSrc cSt cAI cAJ : ClassId} {ad0 : Nat → Nat} {T0 : AT} {T1 : AT} (E : cE p c cX11_begin s m args (Cond.code yX11_begin cX11_begin 2 none :: wsA) D RX11 (CT cI cJ cZ cMic cSrc cSt cAI cAJ)) (hA : ∀ q : Nat, s.heap.size ≤ q → A q) (hX : xT A s) (hN : nX s) (hml : c.maxLocals = 2) (hst : l.stackTraces = false) (kr66 : ∀ (ad : Nat → Nat) (H : Heap) (locs : List Loc) (ls : Array Slot), (∀ n, n < T0.1 → ad n = ad0 n) → gC cI cJ cZ cMic cSrc cSt cAI cAJ D ad A s.heap H locs T1 → W p l e { frames := 6, cells := T1.1 - T0.1, slots := sg T1 - sg T0, locals := 124 } s m args below meth c H locs (T1.1 - T0.1) (sg T1 - sg T0) Q (F0 m 66 ls [])) : ∀ n : Nat, ∀ (T : AT) (ad : Nat → Nat) (H : Heap) (locs : List Loc) (ls : Array Slot) (l0 : Nat) (l1 : Int32), g_X11_begin_b48 n T l0 l1 = some T1 → GL T0 T → RC T → (∀ n, n < T0.1 → ad n = ad0 n) → l0 < T.1 → gC cI cJ cZ cMic cSrc cSt cAI cAJ D ad A s.heap H locs T → lv_has ls 2 [(0, .ref (ad l0)), (1, .int l1)] → W p l e { frames := 6, cells := T1.1 - T0.1, slots := sg T1 - sg T0, locals := 124 } s m args below meth c H locs (T.1 - T0.1) (sg T - sg T0) Q (F0 m 48 ls []) := by
  have hx := E.1
  have hb := E.2.1
  have hts := E.2.2.1
  have hown := E.2.2.2.1
  have hK := E.2.2.2.2
  intro n
  induction n with
  | zero =>
    intro T ad H locs ls l0 l1 h
    have h : (none : Option (AT)) = some T1 := h
    cases h
  | succ n ih =>
    intro T ad H locs ls l0 l1 h hgl hrc had h_l0 G hl
    have hT1 := s_X11_begin_b48 _ _ _ _ h
    have hcs := cs_ok hgl hT1
    have cp0 := cpr0 hrc
    unfold g_X11_begin_b48 at h
    refine lv_iload_n hx hb dX11_begin_48 rfl (lv_at hl 1 rfl) ?_
    refine lv_iconst (v := 2) hx hb dX11_begin_49 (by decide) ?_
    refine lv_icmp_ge (tgt := 66) hx hb dX11_begin_50 (by decide) (fun c2 => ?_) (fun c2 => ?_)
    · have h := oif_pos c2 h
      rw [osome1 h] at G
      refine w_cast (c2 := T1.1 - T0.1) (s2 := sg T1 - sg T0) (by rw [← osome1 h, cp0.1] <;> rfl) (by rw [← osome1 h, sg_cpr cp0] <;> rfl) ?_
      exact kr66 ad _ _ _ had G
    · have h := oif_neg c2 h
      refine lv_aload_n hx hb dX11_begin_53 rfl (lv_at hl 0 rfl) ?_
      obtain ⟨g3, h⟩ := oif_some h
      obtain ⟨n4, en4, h⟩ := obind_some h
      have h_n4 : n4 < T.1 := by rw [← cp0.1]; exact cp0.2.2 _ _ _ en4
      refine c_get E G l0 10 (v := .ref (ad n4)) (oO_k g3).1 (cc_o11 (oO_k g3).2) rfl (fun w h => .tail _ (iA_23 h)) (by decide) (.tail _ qA_668) rfl (by rw [en4]; rfl) dX11_begin_54 ?_
      clear en4
      refine lv_iload_n hx hb dX11_begin_57 rfl (lv_at hl 1 rfl) ?_
      refine lv_iconst (v := 0) hx hb dX11_begin_58 (by decide) ?_
      obtain ⟨g5, h⟩ := oif_some h
      obtain ⟨g6, h⟩ := oif_some h
      refine c_zast E G n4 2 (k := l1.toNatClampNeg) (v := 0) (aA_k g5).1 (cc_a102 (aA_k g5).2.1) rfl (inb_k g6).1 (inb_k g6).2 (aA_k g5).2.2 rfl dX11_begin_59 (fun H locs G => ?_)
      have G := gC_up_i (f := upd (T.2.2.1 n4) l1.toNatClampNeg 0) (ccv_102 (aA_k g5).2.1) G
      obtain ⟨T7, eT7, h⟩ := elet_some h
      have G : gC cI cJ cZ cMic cSrc cSt cAI cAJ D ad A s.heap H locs T7 := by rw [eT7]; exact G
      have cp1 := show CPR T T7 from by rw [eT7]; exact cpr_sp cp0 sp_uI
      clear eT7
      obtain ⟨v8, ev8, h⟩ := elet_some h
      refine lv_iinc (v := v8) (lv' := [(1, .int v8), (0, .ref (ad l0))]) hx hb dX11_begin_60 hl (k := 1) rfl ev8.symm (by decide) rfl (fun ls hl => ?_)
      refine lv_goto (tgt := 48) hx hb dX11_begin_63 (by decide) ?_
      have hl := lv_sub hl [1, 0] rfl
      refine w_cast (c2 := T7.1 - T0.1) (s2 := sg T7 - sg T0) (by rw [cp1.1] <;> rfl) (by rw [sg_cpr cp1] <;> rfl) ?_
      exact ih _ _ _ _ _ _ _ h (gl_cpr hgl cp1) cp1.2.2 had (by rw [cp1.1]; exact h_l0) G hl
set_option maxHeartbeats 4000000 in
set_option maxRecDepth 100000 in
theorem a_X11_begin_b33 {p : Program} {l : Launch} {e : Env} {s : State} {m : MethodId} {args : Array Value} {below : List Frame} {meth : Method} {c : Code} {Q : State → Prop} {D : va_G} {A : Nat → Prop} {cI cJ cZ cMic cSrc cSt cAI cAJ : ClassId} {ad0 : Nat → Nat} {T0 : AT} {T1 : AT} (E : cE p c cX11_begin s m args (Cond.code yX11_begin cX11_begin 2 none :: wsA) D RX11 (CT cI cJ cZ cMic cSrc cSt cAI cAJ)) (hA : ∀ q : Nat, s.heap.size ≤ q → A q) (hX : xT A s) (hN : nX s) (hml : c.maxLocals = 2) (hst : l.stackTraces = false) (kr66 : ∀ (ad : Nat → Nat) (H : Heap) (locs : List Loc) (ls : Array Slot), (∀ n, n < T0.1 → ad n = ad0 n) → gC cI cJ cZ cMic cSrc cSt cAI cAJ D ad A s.heap H locs T1 → W p l e { frames := 6, cells := T1.1 - T0.1, slots := sg T1 - sg T0, locals := 124 } s m args below meth c H locs (T1.1 - T0.1) (sg T1 - sg T0) Q (F0 m 66 ls [])) : ∀ (T : AT) (ad : Nat → Nat) (H : Heap) (locs : List Loc) (ls : Array Slot) (l0 : Nat), g_X11_begin_b33 T l0 = some T1 → GL T0 T → RC T → (∀ n, n < T0.1 → ad n = ad0 n) → l0 < T.1 → gC cI cJ cZ cMic cSrc cSt cAI cAJ D ad A s.heap H locs T → lv_has ls 2 [(0, .ref (ad l0))] → W p l e { frames := 6, cells := T1.1 - T0.1, slots := sg T1 - sg T0, locals := 124 } s m args below meth c H locs (T.1 - T0.1) (sg T - sg T0) Q (F0 m 33 ls []) := by
  have hx := E.1
  have hb := E.2.1
  have hts := E.2.2.1
  have hown := E.2.2.2.1
  have hK := E.2.2.2.2
  intro T ad H locs ls l0 h hgl hrc had h_l0 G hl
  have hT1 := s_X11_begin_b33 _ _ h
  have hcs := cs_ok hgl hT1
  have cp0 := cpr0 hrc
  unfold g_X11_begin_b33 at h
  refine lv_aload_n hx hb dX11_begin_33 rfl (lv_at hl 0 rfl) ?_
  refine lv_iconst (v := 0) hx hb dX11_begin_34 (by decide) ?_
  obtain ⟨g2, h⟩ := oif_some h
  refine c_put E G l0 16 (v := .int 0) (oO_k g2).1 (cc_o11 (oO_k g2).2) rfl (fun w h => .tail _ (iA_23 h)) tyX11 tyX11_ok nmX11 (by decide) (.tail _ qA_703) ⟨rfl, rfl, rfl⟩ rfl rfl (Nat.le_of_ble_eq_true rfl) dX11_begin_35 (fun H locs G => ?_)
  have G := gC_up_i (f := upd (T.2.2.1 l0) 16 0) (by rw [(oO_k g2).2]; rfl) G
  obtain ⟨T3, eT3, h⟩ := elet_some h
  have G : gC cI cJ cZ cMic cSrc cSt cAI cAJ D ad A s.heap H locs T3 := by rw [eT3]; exact G
  have cp1 := show CPR T T3 from by rw [eT3]; exact cpr_sp cp0 sp_uI
  clear eT3
  refine lv_aload_n hx hb dX11_begin_38 rfl (lv_at hl 0 rfl) ?_
  obtain ⟨g4, h⟩ := oif_some h
  obtain ⟨n5, en5, h⟩ := obind_some h
  have h_n5 : n5 < T.1 := by rw [← cp1.1]; exact cp1.2.2 _ _ _ en5
  refine c_get E G l0 4 (v := .ref (ad n5)) (oO_k g4).1 (cc_o11 (oO_k g4).2) rfl (fun w h => .tail _ (iA_23 h)) (by decide) (.tail _ qA_660) rfl (by rw [en5]; rfl) dX11_begin_39 ?_
  clear en5
  refine lv_iconst (v := 0) hx hb dX11_begin_42 (by decide) ?_
  obtain ⟨g6, h⟩ := oif_some h
  refine c_put E G n5 0 (v := .int 0) (oO_k g6).1 (cc_o4 (oO_k g6).2) rfl (fun w h => .tail _ (iA_21 h)) tyX4 tyX4_ok nmX4 (by decide) (.tail _ qA_704) ⟨rfl, rfl, rfl⟩ rfl rfl (Nat.le_of_ble_eq_true rfl) dX11_begin_43 (fun H locs G => ?_)
  have G := gC_up_i (f := upd (T3.2.2.1 n5) 0 0) (by rw [(oO_k g6).2]; rfl) G
  obtain ⟨T7, eT7, h⟩ := elet_some h
  have G : gC cI cJ cZ cMic cSrc cSt cAI cAJ D ad A s.heap H locs T7 := by rw [eT7]; exact G
  have cp2 := show CPR T T7 from by rw [eT7]; exact cpr_sp cp1 sp_uI
  clear eT7
  refine lv_iconst (v := 0) hx hb dX11_begin_46 (by decide) ?_
  refine lv_istore_n (lv' := [(1, .int 0), (0, .ref (ad l0))]) hx hb dX11_begin_47 rfl hl (by decide) rfl (fun ls hl => ?_)
  have hl := lv_sub hl [1, 0] rfl
  refine w_cast (c2 := T7.1 - T0.1) (s2 := sg T7 - sg T0) (by rw [cp2.1] <;> rfl) (by rw [sg_cpr cp2] <;> rfl) ?_
  exact a_X11_begin_b48 E hA hX hN hml hst kr66 _ _ _ _ _ _ _ _ h (gl_cpr hgl cp2) cp2.2.2 had (by rw [cp2.1]; exact h_l0) G hl
set_option maxHeartbeats 4000000 in
set_option maxRecDepth 100000 in
theorem a_X11_begin (l : Launch) (hst : l.stackTraces = false) (D : va_G) (cI cJ cZ cMic cSrc cSt cAI cAJ : ClassId) (ad : Nat → Nat) (T : AT) (o : Nat) {T1 : AT} (h : g_X11_begin T o = some T1) (hrc : RC T) (h_o : o < T.1) : kAv l yX11_begin (Cond.code yX11_begin cX11_begin 2 none :: wsA) 6 124 cI cJ cZ cMic cSrc cSt cAI cAJ D ad T [.ref (ad o)] T1 := by
  intro sz
  refine Met.ofW (cc := cX11_begin) (maxL := 2) (ret := none) (by decide) rfl ?_
  intro p e s m args below meth c s₁ B hml hv
  obtain ⟨rfl, hsz, hP, hK, hD0, hX, hN⟩ := hv
  have hx := B.exec
  have hb := B.bytes
  have hr := B.returns
  have hts := atoms_spec (ws := (Cond.code yX11_begin cX11_begin 2 none :: wsA)) B.pre
  have hown : s.vm.findClass RX11 = some m.cls := findClass_of_methodNamed B.named
  have hlocks := B.notSynchronized
  subst hsz
  have hD := hD0.self (sz := s.heap.size)
  generalize hAe : va_A (cW ad T.1 (cc cI cJ cZ cMic cSrc cSt cAI cAJ ad T)) s.heap.size = A at hD hX ⊢
  have hA : ∀ q : Nat, s.heap.size ≤ q → A q := fun q h => by rw [← hAe]; exact Or.inr h
  have G : gC cI cJ cZ cMic cSrc cSt cAI cAJ D ad A s.heap s.heap [] T := ⟨hP, hD, va_S.rf⟩
  have E : cE p c cX11_begin s m ([.ref (ad o)] : List Value).toArray (Cond.code yX11_begin cX11_begin 2 none :: wsA) D RX11 (CT cI cJ cZ cMic cSrc cSt cAI cAJ) := ⟨hx, hb, hts, hown, hK⟩
  have hl := lv_entry ([.ref (ad o)]) (n := 2) (Nat.le_of_ble_eq_true rfl)
  rw [lg_entry_eq]
  generalize (lg_sl ([.ref (ad o)]) ++ List.replicate (2 - (lg_sl ([.ref (ad o)])).length) Slot.unset).toArray = ls at hl ⊢
  have hl : lv_has ls 2 [(0, .ref (ad o))] := hl
  have hgl := GL.rf T
  have had : ∀ n, n < T.1 → ad n = ad n := fun _ _ => rfl
  have hT1 := s_X11_begin h
  have hcs := cs_ok hgl hT1
  refine w_cast (Nat.sub_self T.1).symm (Nat.sub_self (sg T)).symm ?_
  have cp0 := cpr0 hrc
  unfold g_X11_begin at h
  refine lv_aload_n hx hb dX11_begin_0 rfl (lv_at hl 0 rfl) ?_
  obtain ⟨g2, h⟩ := oif_some h
  obtain ⟨n3, en3, h⟩ := obind_some h
  have h_n3 : n3 < T.1 := by rw [← cp0.1]; exact cp0.2.2 _ _ _ en3
  refine c_get E G o 14 (v := .ref (ad n3)) (oO_k g2).1 (cc_o11 (oO_k g2).2) rfl (fun w h => .tail _ (iA_23 h)) (by decide) (.tail _ qA_675) rfl (by rw [en3]; rfl) dX11_begin_1 ?_
  clear en3
  obtain ⟨g4, h⟩ := oif_some h
  obtain ⟨T5, eT5, h⟩ := obind_some h
  refine q_cvv (As := []) (rest := []) E G hA hX hN hml (u_X6_measureDelays l hst D cI cJ cZ cMic cSrc cSt cAI cAJ ad T n3 eT5) (cwV 0 hts (gaV qA_705 qA_706 qA_707 qA_207 qA_575) rfl rfl rfl (by decide +kernel) ⟨Nat.le_of_ble_eq_true rfl, Nat.le_of_ble_eq_true rfl⟩) (oO_k g4).1 (cc_o6 (oO_k g4).2) rfl rfl hl.1 rfl (lv_room (Nat.le_of_ble_eq_true rfl)) dX11_begin_4 hcs (fun T6 H locs hq G => ?_)
  rw [hq] at G
  clear hq
  have cp1 := cpr_sp cp0 (s_X6_measureDelays eT5)
  refine lv_aload_n hx hb dX11_begin_7 rfl (lv_at hl 0 rfl) ?_
  obtain ⟨g7, h⟩ := oif_some h
  obtain ⟨n8, en8, h⟩ := obind_some h
  have h_n8 : n8 < T.1 := by rw [← cp1.1]; exact cp1.2.2 _ _ _ en8
  refine c_get E G o 6 (v := .ref (ad n8)) (oO_k g7).1 (cc_o11 (oO_k g7).2) rfl (fun w h => .tail _ (iA_23 h)) (by decide) (.tail _ qA_664) rfl (by rw [en8]; rfl) dX11_begin_8 ?_
  clear en8
  refine lv_aload_n hx hb dX11_begin_11 rfl (lv_at hl 0 rfl) ?_
  obtain ⟨g9, h⟩ := oif_some h
  obtain ⟨n10, en10, h⟩ := obind_some h
  have h_n10 : n10 < T.1 := by rw [← cp1.1]; exact cp1.2.2 _ _ _ en10
  refine c_get E G o 14 (v := .ref (ad n10)) (oO_k g9).1 (cc_o11 (oO_k g9).2) rfl (fun w h => .tail _ (iA_23 h)) (by decide) (.tail _ qA_675) rfl (by rw [en10]; rfl) dX11_begin_12 ?_
  clear en10
  obtain ⟨g11, h⟩ := oif_some h
  obtain ⟨T12, eT12, h⟩ := obind_some h
  refine q_cvv (As := [.ref (ad n10)]) (rest := []) E G hA hX hN hml (u_X8_begin l hst D cI cJ cZ cMic cSrc cSt cAI cAJ ad T5 n8 n10 eT12) (cwV 1 hts (gaV qA_708 qA_709 qA_710 qA_47 qA_592) rfl rfl rfl (by decide +kernel) ⟨Nat.le_of_ble_eq_true rfl, Nat.le_of_ble_eq_true rfl⟩) (oO_k g11).1 (cc_o8 (oO_k g11).2) rfl rfl hl.1 rfl (lv_room (Nat.le_of_ble_eq_true rfl)) dX11_begin_15 hcs (fun T13 H locs hq G => ?_)
  rw [hq] at G
  clear hq
  have cp2 := cpr_sp cp1 (s_X8_begin eT12)
  refine lv_aload_n hx hb dX11_begin_18 rfl (lv_at hl 0 rfl) ?_
  obtain ⟨g14, h⟩ := oif_some h
  obtain ⟨n15, en15, h⟩ := obind_some h
  have h_n15 : n15 < T.1 := by rw [← cp2.1]; exact cp2.2.2 _ _ _ en15
  refine c_get E G o 2 (v := .ref (ad n15)) (oO_k g14).1 (cc_o11 (oO_k g14).2) rfl (fun w h => .tail _ (iA_23 h)) (by decide) (.tail _ qA_654) rfl (by rw [en15]; rfl) dX11_begin_19 ?_
  clear en15
  refine lv_aload_n hx hb dX11_begin_22 rfl (lv_at hl 0 rfl) ?_
  obtain ⟨g16, h⟩ := oif_some h
  obtain ⟨n17, en17, h⟩ := obind_some h
  have h_n17 : n17 < T.1 := by rw [← cp2.1]; exact cp2.2.2 _ _ _ en17
  refine c_get E G o 14 (v := .ref (ad n17)) (oO_k g16).1 (cc_o11 (oO_k g16).2) rfl (fun w h => .tail _ (iA_23 h)) (by decide) (.tail _ qA_675) rfl (by rw [en17]; rfl) dX11_begin_23 ?_
  clear en17
  refine lv_aload_n hx hb dX11_begin_26 rfl (lv_at hl 0 rfl) ?_
  obtain ⟨g18, h⟩ := oif_some h
  obtain ⟨n19, en19, h⟩ := obind_some h
  have h_n19 : n19 < T.1 := by rw [← cp2.1]; exact cp2.2.2 _ _ _ en19
  refine c_get E G o 6 (v := .ref (ad n19)) (oO_k g18).1 (cc_o11 (oO_k g18).2) rfl (fun w h => .tail _ (iA_23 h)) (by decide) (.tail _ qA_664) rfl (by rw [en19]; rfl) dX11_begin_27 ?_
  clear en19
  obtain ⟨g20, h⟩ := oif_some h
  obtain ⟨T21, eT21, h⟩ := obind_some h
  have hg2 := s_X5_record eT21
  have hrc2 := hg2.2.2 cp2.2.2
  have hT2 := s_X11_begin_b33 _ _ h
  refine q_avv (As := [.ref (ad n17), .ref (ad n19)]) (rest := []) E G hA hX hN hml (a_X5_record l hst D cI cJ cZ cMic cSrc cSt cAI cAJ ad T12 n15 n17 n19 eT21 cp2.2.2 (by rw [cp2.1]; exact h_n15) (by rw [cp2.1]; exact h_n17) (by rw [cp2.1]; exact h_n19)) (cwV 2 hts (gaV qA_711 qA_712 qA_713 qA_475 qA_463) rfl rfl rfl (by decide +kernel) ⟨Nat.le_of_ble_eq_true rfl, Nat.le_of_ble_eq_true rfl⟩) (oO_k g20).1 (cc_o5 (oO_k g20).2) rfl rfl hl.1 rfl (lv_room (Nat.le_of_ble_eq_true rfl)) dX11_begin_30 (cs_av hgl cp2 hg2 hT2) (fun ad2 H locs hga G => ?_)
  refine w_cast (c2 := T21.1 - T.1) (s2 := sg T21 - sg T) (cs_f1 hgl cp2 hg2) (cs_f2 hgl cp2 hg2) ?_
  have hl := lv_sub hl [0] rfl
  rw [show ad o = ad2 o from (hga o (by rw [cp2.1]; exact h_o)).symm] at hl
  exact a_X11_begin_b33 E hA hX hN hml hst (fun ad H locs ls had G => W.vret hx hb hr (fun t ht hW => ⟨⟨(T1, ad), rfl, ⟨rfl, had⟩, ⟨by rw [ht]; exact G.1, va_K.moved hW.alike hK, G.2.1⟩⟩, G.2.2.F ht⟩) G.2.2.2.2 dX11_begin_66) _ _ _ _ _ _ h (GL.tr (gl_cpr hgl cp2) hg2) hrc2 (fun n hn => (hga n (by rw [cp2.1]; exact Nat.lt_of_lt_of_le hn hgl.1)).trans (had n hn)) (Nat.lt_of_lt_of_le (by rw [cp2.1]; exact h_o) hg2.1) G hl
def g_X11_load_b15  (T : AT)  : Option (Nat × Int32 × AT) := some (2, 0, T)
def g_X11_load_b65  (T : AT) (l0 : Nat) : Option (Nat × Int32 × AT) := oif (oO T l0 11 = true) <| obind (T.2.2.2.2 l0 14) fun n3 => oif (oO T n3 6 = true) <| obind (T.2.2.2.2 n3 6) fun n5 => oif (oO T n5 1 = true) <| obind2 (g_X1_cells T n5) fun r9 T7 => some (0, r9, T7)
def g_X11_load (T : AT) (o : Nat) (a0 : Int32) : Option (Nat × Int32 × AT) := if a0 < 0 then (g_X11_load_b15 T) else (oif (oO T o 11 = true) <| obind (T.2.2.2.2 o 0) fun n4 => oif (oO T n4 9 = true) <| elet (T.2.2.1 n4 1) fun v6 => if a0 ≤ v6 then (oif (oO T o 11 = true) <| obind (T.2.2.2.2 o 0) fun n9 => oif (oO T n9 9 = true) <| elet (uI T n9 1 0) fun T11 => oif (oO T11 o 11 = true) <| obind (T11.2.2.2.2 o 1) fun n13 => oif (oO T11 o 11 = true) <| obind (T11.2.2.2.2 o 15) fun n15 => oif (oO T11 n13 3 = true) <| othr (g_X3_parse T11 n13 a0 n15) 0 fun r19 T17 => oif (oO T17 o 11 = true) <| obind (T17.2.2.2.2 o 14) fun n22 => oif (oO T17 o 11 = true) <| obind (T17.2.2.2.2 o 15) fun n24 => oif (oO T17 o 11 = true) <| oif (Nat.blt n24 T17.1 = true) <| elet (uR T17 o 14 n24) fun T27 => oif (oO T27 o 11 = true) <| oif (Nat.blt n22 T27.1 = true) <| elet (uR T27 o 15 n22) fun T30 => oif (oO T30 o 11 = true) <| obind (g_X11_begin T30 o) fun T32 => g_X11_load_b65 T32 o) else (g_X11_load_b15 T))
set_option maxHeartbeats 4000000 in
set_option maxRecDepth 100000 in
theorem s_X11_load_b15 {e1 : Nat} {r1 : Int32} {T1 : AT} : ∀ (T : AT), g_X11_load_b15 T = some (e1, r1, T1) → GL T T1 := by
  intro T h
  have p0 := GL.rf T
  unfold g_X11_load_b15 at h
  rw [← (osome3 h).2.2]
  exact p0
set_option maxHeartbeats 4000000 in
set_option maxRecDepth 100000 in
theorem s_X11_load_b65 {e1 : Nat} {r1 : Int32} {T1 : AT} : ∀ (T : AT) (l0 : Nat), g_X11_load_b65 T l0 = some (e1, r1, T1) → GL T T1 := by
  intro T l0 h
  have p0 := GL.rf T
  unfold g_X11_load_b65 at h
  obtain ⟨g2, h⟩ := oif_some h
  obtain ⟨n3, en3, h⟩ := obind_some h
  obtain ⟨g4, h⟩ := oif_some h
  obtain ⟨n5, en5, h⟩ := obind_some h
  obtain ⟨g6, h⟩ := oif_some h
  obtain ⟨r8, T7, eT7, h⟩ := obind2_some h
  have p1 : GL T T7 := GL.tr p0 (gl_sp (s_X1_cells eT7))
  rw [← (osome3 h).2.2]
  exact p1
set_option maxHeartbeats 4000000 in
set_option maxRecDepth 100000 in
theorem s_X11_load {T : AT} {o : Nat} {a0 : Int32} {e1 : Nat} {r1 : Int32} {T1 : AT} (h : g_X11_load T o a0 = some (e1, r1, T1)) : GL T T1 := by
  have p0 := GL.rf T
  unfold g_X11_load at h
  rcases oif_or h with ⟨c2, h⟩ | ⟨c2, h⟩
  · have h := h
    exact GL.tr p0 (s_X11_load_b15 _ h)
  · have h := h
    obtain ⟨g3, h⟩ := oif_some h
    obtain ⟨n4, en4, h⟩ := obind_some h
    obtain ⟨g5, h⟩ := oif_some h
    obtain ⟨v6, -, h⟩ := elet_some h
    rcases oif_or h with ⟨c7, h⟩ | ⟨c7, h⟩
    · have h := h
      obtain ⟨g8, h⟩ := oif_some h
      obtain ⟨n9, en9, h⟩ := obind_some h
      obtain ⟨g10, h⟩ := oif_some h
      obtain ⟨T11, eT11, h⟩ := elet_some h
      have p1 : GL T T11 := GL.tr p0 (by rw [eT11]; exact gl_sp sp_uI)
      obtain ⟨g12, h⟩ := oif_some h
      obtain ⟨n13, en13, h⟩ := obind_some h
      obtain ⟨g14, h⟩ := oif_some h
      obtain ⟨n15, en15, h⟩ := obind_some h
      obtain ⟨g16, h⟩ := oif_some h
      rcases othr_s h with ⟨k9, r9, e9, -⟩ | ⟨r18, T17, eT17, h⟩
      · exact GL.tr p1 (gl_sp (s_X3_parse e9))
      have p2 : GL T T17 := GL.tr p1 (gl_sp (s_X3_parse eT17))
      obtain ⟨g19, h⟩ := oif_some h
      obtain ⟨n20, en20, h⟩ := obind_some h
      obtain ⟨g21, h⟩ := oif_some h
      obtain ⟨n22, en22, h⟩ := obind_some h
      obtain ⟨g23, h⟩ := oif_some h
      obtain ⟨g24, h⟩ := oif_some h
      obtain ⟨T25, eT25, h⟩ := elet_some h
      have p3 : GL T T25 := GL.tr p2 (by rw [eT25]; exact gl_uR (Nat.le_of_ble_eq_true g24))
      obtain ⟨g26, h⟩ := oif_some h
      obtain ⟨g27, h⟩ := oif_some h
      obtain ⟨T28, eT28, h⟩ := elet_some h
      have p4 : GL T T28 := GL.tr p3 (by rw [eT28]; exact gl_uR (Nat.le_of_ble_eq_true g27))
      obtain ⟨g29, h⟩ := oif_some h
      obtain ⟨T30, eT30, h⟩ := obind_some h
      have p5 : GL T T30 := GL.tr p4 (s_X11_begin eT30)
      exact GL.tr p5 (s_X11_load_b65 _ _ h)
    · have h := h
      exact GL.tr p0 (s_X11_load_b15 _ h)
set_option maxHeartbeats 4000000 in
set_option maxRecDepth 100000 in
theorem a_X11_load_b15 {p : Program} {l : Launch} {e : Env} {s : State} {m : MethodId} {args : Array Value} {below : List Frame} {meth : Method} {c : Code} {Q : State → Prop} {D : va_G} {A : Nat → Prop} {cI cJ cZ cMic cSrc cSt cAI cAJ : ClassId} {ad0 : Nat → Nat} {T0 : AT} {r1 : Int32} {T1 : AT} (E : cE p c cX11_load s m args (Cond.code yX11_load cX11_load 3 (some .int) :: wsA) D RX11 (CT cI cJ cZ cMic cSrc cSt cAI cAJ)) (hA : ∀ q : Nat, s.heap.size ≤ q → A q) (hX : xT A s) (hN : nX s) (hml : c.maxLocals = 3) (hst : l.stackTraces = false) {h0 : Nat} (hA0 : ∀ a : Nat, A a → h0 ≤ a) (hT : sAll h0 s) (kr75 : ∀ (ad : Nat → Nat) (H : Heap) (locs : List Loc) (ls : Array Slot), (∀ n, n < T0.1 → ad n = ad0 n) → gC cI cJ cZ cMic cSrc cSt cAI cAJ D ad A s.heap H locs T1 → W p l e { frames := 12, cells := T1.1 - T0.1, slots := sg T1 - sg T0, locals := 215 } s m args below meth c H locs (T1.1 - T0.1) (sg T1 - sg T0) Q (F0 m 75 ls [.int r1])) : ∀ (T : AT) (ad : Nat → Nat) (H : Heap) (locs : List Loc) (ls : Array Slot), g_X11_load_b15 T = some (0, r1, T1) → GL T0 T → RC T → (∀ n, n < T0.1 → ad n = ad0 n) → gC cI cJ cZ cMic cSrc cSt cAI cAJ D ad A s.heap H locs T → lv_has ls 3 [] → W p l e { frames := 12, cells := T1.1 - T0.1, slots := sg T1 - sg T0, locals := 215 } s m args below meth c H locs (T.1 - T0.1) (sg T - sg T0) Q (F0 m 15 ls []) := by
  have hx := E.1
  have hb := E.2.1
  have hts := E.2.2.1
  have hown := E.2.2.2.1
  have hK := E.2.2.2.2
  intro T ad H locs ls h hgl hrc had G hl
  have hT1 := s_X11_load_b15 _ h
  have hcs := cs_ok hgl hT1
  have cp0 := cpr0 hrc
  unfold g_X11_load_b15 at h
  exact absurd (osome3 h).1 (by decide)
set_option maxHeartbeats 4000000 in
set_option maxRecDepth 100000 in
theorem a_X11_load_b65 {p : Program} {l : Launch} {e : Env} {s : State} {m : MethodId} {args : Array Value} {below : List Frame} {meth : Method} {c : Code} {Q : State → Prop} {D : va_G} {A : Nat → Prop} {cI cJ cZ cMic cSrc cSt cAI cAJ : ClassId} {ad0 : Nat → Nat} {T0 : AT} {r1 : Int32} {T1 : AT} (E : cE p c cX11_load s m args (Cond.code yX11_load cX11_load 3 (some .int) :: wsA) D RX11 (CT cI cJ cZ cMic cSrc cSt cAI cAJ)) (hA : ∀ q : Nat, s.heap.size ≤ q → A q) (hX : xT A s) (hN : nX s) (hml : c.maxLocals = 3) (hst : l.stackTraces = false) {h0 : Nat} (hA0 : ∀ a : Nat, A a → h0 ≤ a) (hT : sAll h0 s) (kr75 : ∀ (ad : Nat → Nat) (H : Heap) (locs : List Loc) (ls : Array Slot), (∀ n, n < T0.1 → ad n = ad0 n) → gC cI cJ cZ cMic cSrc cSt cAI cAJ D ad A s.heap H locs T1 → W p l e { frames := 12, cells := T1.1 - T0.1, slots := sg T1 - sg T0, locals := 215 } s m args below meth c H locs (T1.1 - T0.1) (sg T1 - sg T0) Q (F0 m 75 ls [.int r1])) : ∀ (T : AT) (ad : Nat → Nat) (H : Heap) (locs : List Loc) (ls : Array Slot) (l0 : Nat), g_X11_load_b65 T l0 = some (0, r1, T1) → GL T0 T → RC T → (∀ n, n < T0.1 → ad n = ad0 n) → l0 < T.1 → gC cI cJ cZ cMic cSrc cSt cAI cAJ D ad A s.heap H locs T → lv_has ls 3 [(0, .ref (ad l0))] → W p l e { frames := 12, cells := T1.1 - T0.1, slots := sg T1 - sg T0, locals := 215 } s m args below meth c H locs (T.1 - T0.1) (sg T - sg T0) Q (F0 m 65 ls []) := by
  have hx := E.1
  have hb := E.2.1
  have hts := E.2.2.1
  have hown := E.2.2.2.1
  have hK := E.2.2.2.2
  intro T ad H locs ls l0 h hgl hrc had h_l0 G hl
  have hT1 := s_X11_load_b65 _ _ h
  have hcs := cs_ok hgl hT1
  have cp0 := cpr0 hrc
  unfold g_X11_load_b65 at h
  refine lv_aload_n hx hb dX11_load_65 rfl (lv_at hl 0 rfl) ?_
  obtain ⟨g2, h⟩ := oif_some h
  obtain ⟨n3, en3, h⟩ := obind_some h
  have h_n3 : n3 < T.1 := by rw [← cp0.1]; exact cp0.2.2 _ _ _ en3
  refine c_get E G l0 14 (v := .ref (ad n3)) (oO_k g2).1 (cc_o11 (oO_k g2).2) rfl (fun w h => .tail _ (iA_23 h)) (by decide) (.tail _ qA_675) rfl (by rw [en3]; rfl) dX11_load_66 ?_
  clear en3
  obtain ⟨g4, h⟩ := oif_some h
  obtain ⟨n5, en5, h⟩ := obind_some h
  have h_n5 : n5 < T.1 := by rw [← cp0.1]; exact cp0.2.2 _ _ _ en5
  refine c_get E G n3 6 (v := .ref (ad n5)) (oO_k g4).1 (cc_o6 (oO_k g4).2) rfl (fun w h => .tail _ (iA_14 h)) (by decide) (.tail _ qA_695) rfl (by rw [en5]; rfl) dX11_load_69 ?_
  clear en5
  obtain ⟨g6, h⟩ := oif_some h
  obtain ⟨r9, T7, eT7, h⟩ := obind2_some h
  refine q_cvi (As := []) (rest := []) E G hA hX hN hml (u_X1_cells l hst D cI cJ cZ cMic cSrc cSt cAI cAJ ad T n5 eT7) (cwV 0 hts (gaV qA_714 qA_35 qA_36 qA_37 qA_38) rfl rfl rfl (by decide +kernel) ⟨Nat.le_of_ble_eq_true rfl, Nat.le_of_ble_eq_true rfl⟩) (oO_k g6).1 (cc_o1 (oO_k g6).2) rfl rfl hl.1 rfl (lv_room (Nat.le_of_ble_eq_true rfl)) dX11_load_72 hcs (fun q10 T8 H locs hq G => ?_)
  obtain ⟨hq1, hq2⟩ := hq
  rw [hq2] at G
  refine lv_to hq1 ?_
  clear hq1 hq2
  have cp1 := cpr_sp cp0 (s_X1_cells eT7)
  rw [(osome3 h).2.2] at G
  refine w_cast (c2 := T1.1 - T0.1) (s2 := sg T1 - sg T0) (by rw [← (osome3 h).2.2, cp1.1] <;> rfl) (by rw [← (osome3 h).2.2, sg_cpr cp1] <;> rfl) ?_
  refine lv_to ((osome3 h).2.1) ?_
  exact kr75 ad _ _ _ had G
set_option maxHeartbeats 4000000 in
set_option maxRecDepth 100000 in
theorem a_X11_load (l : Launch) (hst : l.stackTraces = false) (D : va_G) (cI cJ cZ cMic cSrc cSt cAI cAJ : ClassId) (ad : Nat → Nat) (T : AT) (h0 : Nat) (o : Nat) (a0 : Int32) {r1 : Int32} {T1 : AT} (h : g_X11_load T o a0 = some (0, r1, T1)) (hrc : RC T) (h_o : o < T.1) : kAiS l yX11_load (Cond.code yX11_load cX11_load 3 (some .int) :: wsA) 12 215 cI cJ cZ cMic cSrc cSt cAI cAJ D ad T [.ref (ad o), .int a0] (yT0 cI cJ cZ cMic cSrc cSt cAI cAJ h0 ad T) r1 T1 := by
  intro sz
  refine Met.ofW (cc := cX11_load) (maxL := 3) (ret := (some .int)) (by decide) rfl ?_
  intro p e s m args below meth c s₁ B hml hv
  obtain ⟨rfl, ⟨hsz, hP, hK, hD0, hX, hN⟩, hA1, hT⟩ := hv
  have hx := B.exec
  have hb := B.bytes
  have hr := B.returns
  have hts := atoms_spec (ws := (Cond.code yX11_load cX11_load 3 (some .int) :: wsA)) B.pre
  have hown : s.vm.findClass RX11 = some m.cls := findClass_of_methodNamed B.named
  have hlocks := B.notSynchronized
  subst hsz
  have hD := hD0.self (sz := s.heap.size)
  generalize hAe : va_A (cW ad T.1 (cc cI cJ cZ cMic cSrc cSt cAI cAJ ad T)) s.heap.size = A at hD hX hA1 ⊢
  have hA : ∀ q : Nat, s.heap.size ≤ q → A q := fun q h => by rw [← hAe]; exact Or.inr h
  have G : gC cI cJ cZ cMic cSrc cSt cAI cAJ D ad A s.heap s.heap [] T := ⟨hP, hD, va_S.rf⟩
  have E : cE p c cX11_load s m ([.ref (ad o), .int a0] : List Value).toArray (Cond.code yX11_load cX11_load 3 (some .int) :: wsA) D RX11 (CT cI cJ cZ cMic cSrc cSt cAI cAJ) := ⟨hx, hb, hts, hown, hK⟩
  have hA0 : ∀ a : Nat, A a → h0 ≤ a := hA1
  have hl := lv_entry ([.ref (ad o), .int a0]) (n := 3) (Nat.le_of_ble_eq_true rfl)
  rw [lg_entry_eq]
  generalize (lg_sl ([.ref (ad o), .int a0]) ++ List.replicate (3 - (lg_sl ([.ref (ad o), .int a0])).length) Slot.unset).toArray = ls at hl ⊢
  have hl : lv_has ls 3 [(0, .ref (ad o)), (1, .int a0)] := hl
  have hgl := GL.rf T
  have had : ∀ n, n < T.1 → ad n = ad n := fun _ _ => rfl
  have hT1 := s_X11_load h
  have hcs := cs_ok hgl hT1
  refine w_cast (Nat.sub_self T.1).symm (Nat.sub_self (sg T)).symm ?_
  have cp0 := cpr0 hrc
  unfold g_X11_load at h
  refine lv_iload_n hx hb dX11_load_0 rfl (lv_at hl 1 rfl) ?_
  refine lv_if_lt (tgt := 15) hx hb dX11_load_1 (by decide) (fun c2 => ?_) (fun c2 => ?_)
  · have h := oif_pos c2 h
    have hl := lv_sub hl [] rfl
    refine w_cast (c2 := T.1 - T.1) (s2 := sg T - sg T) (by rw [cp0.1] <;> rfl) (by rw [sg_cpr cp0] <;> rfl) ?_
    exact a_X11_load_b15 E hA hX hN hml hst hA0 hT (fun ad H locs ls had G => W.iret (v := r1) hx hb hr (fun t ht hW => ⟨⟨r1, (T1, ad), rfl, ⟨rfl, rfl, had⟩, ⟨by rw [ht]; exact G.1, va_K.moved hW.alike hK, G.2.1⟩⟩, G.2.2.F ht⟩) G.2.2.2.2 dX11_load_75) _ _ _ _ _ h (gl_cpr hgl cp0) cp0.2.2 had G hl
  · have h := oif_neg c2 h
    refine lv_iload_n hx hb dX11_load_4 rfl (lv_at hl 1 rfl) ?_
    refine lv_aload_n hx hb dX11_load_5 rfl (lv_at hl 0 rfl) ?_
    obtain ⟨g3, h⟩ := oif_some h
    obtain ⟨n4, en4, h⟩ := obind_some h
    have h_n4 : n4 < T.1 := by rw [← cp0.1]; exact cp0.2.2 _ _ _ en4
    refine c_get E G o 0 (v := .ref (ad n4)) (oO_k g3).1 (cc_o11 (oO_k g3).2) rfl (fun w h => .tail _ (iA_23 h)) (by decide) (.tail _ qA_648) rfl (by rw [en4]; rfl) dX11_load_6 ?_
    clear en4
    obtain ⟨g5, h⟩ := oif_some h
    refine c_get E G n4 1 (oO_k g5).1 (cc_o9 (oO_k g5).2) rfl (fun w h => .tail _ (iA_18 h)) (by decide) (.tail _ qA_688) rfl rfl dX11_load_9 ?_
    refine lv_topi (fun v6 ev6 => ?_)
    have h := elet_at ev6 h
    clear ev6
    refine lv_icmp_le (tgt := 23) hx hb dX11_load_12 (by decide) (fun c7 => ?_) (fun c7 => ?_)
    · have h := oif_pos c7 h
      refine lv_aload_n hx hb dX11_load_23 rfl (lv_at hl 0 rfl) ?_
      obtain ⟨g8, h⟩ := oif_some h
      obtain ⟨n9, en9, h⟩ := obind_some h
      have h_n9 : n9 < T.1 := by rw [← cp0.1]; exact cp0.2.2 _ _ _ en9
      refine c_get E G o 0 (v := .ref (ad n9)) (oO_k g8).1 (cc_o11 (oO_k g8).2) rfl (fun w h => .tail _ (iA_23 h)) (by decide) (.tail _ qA_648) rfl (by rw [en9]; rfl) dX11_load_24 ?_
      clear en9
      refine lv_iconst (v := 0) hx hb dX11_load_27 (by decide) ?_
      obtain ⟨g10, h⟩ := oif_some h
      refine c_put E G n9 1 (v := .int 0) (oO_k g10).1 (cc_o9 (oO_k g10).2) rfl (fun w h => .tail _ (iA_18 h)) tyX9 tyX9_ok nmX9 (by decide) (.tail _ qA_688) ⟨rfl, rfl, rfl⟩ rfl rfl (Nat.le_of_ble_eq_true rfl) dX11_load_28 (fun H locs G => ?_)
      have G := gC_up_i (f := upd (T.2.2.1 n9) 1 0) (by rw [(oO_k g10).2]; rfl) G
      obtain ⟨T11, eT11, h⟩ := elet_some h
      have G : gC cI cJ cZ cMic cSrc cSt cAI cAJ D ad A s.heap H locs T11 := by rw [eT11]; exact G
      have cp1 := show CPR T T11 from by rw [eT11]; exact cpr_sp cp0 sp_uI
      clear eT11
      refine lv_aload_n hx hb dX11_load_31 rfl (lv_at hl 0 rfl) ?_
      obtain ⟨g12, h⟩ := oif_some h
      obtain ⟨n13, en13, h⟩ := obind_some h
      have h_n13 : n13 < T.1 := by rw [← cp1.1]; exact cp1.2.2 _ _ _ en13
      refine c_get E G o 1 (v := .ref (ad n13)) (oO_k g12).1 (cc_o11 (oO_k g12).2) rfl (fun w h => .tail _ (iA_23 h)) (by decide) (.tail _ qA_651) rfl (by rw [en13]; rfl) dX11_load_32 ?_
      clear en13
      refine lv_iload_n hx hb dX11_load_35 rfl (lv_at hl 1 rfl) ?_
      refine lv_aload_n hx hb dX11_load_36 rfl (lv_at hl 0 rfl) ?_
      obtain ⟨g14, h⟩ := oif_some h
      obtain ⟨n15, en15, h⟩ := obind_some h
      have h_n15 : n15 < T.1 := by rw [← cp1.1]; exact cp1.2.2 _ _ _ en15
      refine c_get E G o 15 (v := .ref (ad n15)) (oO_k g14).1 (cc_o11 (oO_k g14).2) rfl (fun w h => .tail _ (iA_23 h)) (by decide) (.tail _ qA_676) rfl (by rw [en15]; rfl) dX11_load_37 ?_
      clear en15
      obtain ⟨g16, h⟩ := oif_some h
      obtain ⟨r19, T17, eT17, h⟩ := othr_n h
      refine q_cvvX (As := [.int a0, .ref (ad n15)]) (rest := []) E G hA hX hN hml (u_X3_parse l hst D cI cJ cZ cMic cSrc cSt cAI cAJ ad T11 h0 n13 a0 n15 eT17) (cwV 2 hts (gaV qA_696 qA_697 qA_698 qA_222 qA_175) rfl rfl rfl (by decide +kernel) ⟨Nat.le_of_ble_eq_true rfl, Nat.le_of_ble_eq_true rfl⟩) (oO_k g16).1 (cc_o3 (oO_k g16).2) rfl rfl hl.1 rfl (lv_room (Nat.le_of_ble_eq_true rfl)) dX11_load_40 hcs (yT0.blind) (yT0.go hT hA0 hA G) (fun T18 H locs hq G => ?_)
      rw [hq] at G
      clear hq
      have cp2 := cpr_sp cp1 (s_X3_parse eT17)
      refine lv_aload_n hx hb dX11_load_43 rfl (lv_at hl 0 rfl) ?_
      obtain ⟨g21, h⟩ := oif_some h
      obtain ⟨n22, en22, h⟩ := obind_some h
      have h_n22 : n22 < T.1 := by rw [← cp2.1]; exact cp2.2.2 _ _ _ en22
      refine c_get E G o 14 (v := .ref (ad n22)) (oO_k g21).1 (cc_o11 (oO_k g21).2) rfl (fun w h => .tail _ (iA_23 h)) (by decide) (.tail _ qA_675) rfl (by rw [en22]; rfl) dX11_load_44 ?_
      clear en22
      refine lv_astore_n (lv' := [(2, .ref (ad n22)), (0, .ref (ad o)), (1, .int a0)]) hx hb dX11_load_47 rfl hl (by decide) rfl (fun ls hl => ?_)
      refine lv_aload_n hx hb dX11_load_48 rfl (lv_at hl 1 rfl) ?_
      refine lv_aload_n hx hb dX11_load_49 rfl (lv_at hl 1 rfl) ?_
      obtain ⟨g23, h⟩ := oif_some h
      obtain ⟨n24, en24, h⟩ := obind_some h
      have h_n24 : n24 < T.1 := by rw [← cp2.1]; exact cp2.2.2 _ _ _ en24
      refine c_get E G o 15 (v := .ref (ad n24)) (oO_k g23).1 (cc_o11 (oO_k g23).2) rfl (fun w h => .tail _ (iA_23 h)) (by decide) (.tail _ qA_676) rfl (by rw [en24]; rfl) dX11_load_50 ?_
      clear en24
      obtain ⟨g25, h⟩ := oif_some h
      obtain ⟨g26, h⟩ := oif_some h
      refine c_put E G o 14 (v := .ref (ad n24)) (oO_k g25).1 (cc_o11 (oO_k g25).2) rfl (fun w h => .tail _ (iA_23 h)) tyX11 tyX11_ok nmX11 (by decide) (.tail _ qA_675) ⟨rfl, rfl, rfl⟩ rfl rfl (Nat.le_of_ble_eq_true rfl) dX11_load_53 (fun H locs G => ?_)
      have G := gC_up_r (f := va_up (T17.2.2.2.2 o) 14 (some n24)) (by rw [(oO_k g25).2]; rfl) G
      obtain ⟨T27, eT27, h⟩ := elet_some h
      have G : gC cI cJ cZ cMic cSrc cSt cAI cAJ D ad A s.heap H locs T27 := by rw [eT27]; exact G
      have cp3 := show CPR T T27 from by rw [eT27]; exact cpr_uR cp2 (Nat.le_of_ble_eq_true g26)
      clear eT27
      refine lv_aload_n hx hb dX11_load_56 rfl (lv_at hl 1 rfl) ?_
      refine lv_aload_n hx hb dX11_load_57 rfl (lv_at hl 0 rfl) ?_
      obtain ⟨g28, h⟩ := oif_some h
      obtain ⟨g29, h⟩ := oif_some h
      refine c_put E G o 15 (v := .ref (ad n22)) (oO_k g28).1 (cc_o11 (oO_k g28).2) rfl (fun w h => .tail _ (iA_23 h)) tyX11 tyX11_ok nmX11 (by decide) (.tail _ qA_676) ⟨rfl, rfl, rfl⟩ rfl rfl (Nat.le_of_ble_eq_true rfl) dX11_load_58 (fun H locs G => ?_)
      have G := gC_up_r (f := va_up (T27.2.2.2.2 o) 15 (some n22)) (by rw [(oO_k g28).2]; rfl) G
      obtain ⟨T30, eT30, h⟩ := elet_some h
      have G : gC cI cJ cZ cMic cSrc cSt cAI cAJ D ad A s.heap H locs T30 := by rw [eT30]; exact G
      have cp4 := show CPR T T30 from by rw [eT30]; exact cpr_uR cp3 (Nat.le_of_ble_eq_true g29)
      clear eT30
      refine lv_aload_n hx hb dX11_load_61 rfl (lv_at hl 1 rfl) ?_
      obtain ⟨g31, h⟩ := oif_some h
      obtain ⟨T32, eT32, h⟩ := obind_some h
      have hg2 := s_X11_begin eT32
      have hrc2 := hg2.2.2 cp4.2.2
      have hT2 := s_X11_load_b65 _ _ h
      refine q_avv (As := []) (rest := []) E G hA hX hN hml (a_X11_begin l hst D cI cJ cZ cMic cSrc cSt cAI cAJ ad T30 o eT32 cp4.2.2 (by rw [cp4.1]; exact h_o)) (cwV 0 hts (gaV qA_699 qA_700 qA_701 qA_131 qA_702) rfl rfl rfl (by decide +kernel) ⟨Nat.le_of_ble_eq_true rfl, Nat.le_of_ble_eq_true rfl⟩) (oO_k g31).1 (cc_o11 (oO_k g31).2) rfl rfl hl.1 rfl (lv_room (Nat.le_of_ble_eq_true rfl)) dX11_load_62 (cs_av hgl cp4 hg2 hT2) (fun ad2 H locs hga G => ?_)
      refine w_cast (c2 := T32.1 - T.1) (s2 := sg T32 - sg T) (cs_f1 hgl cp4 hg2) (cs_f2 hgl cp4 hg2) ?_
      have hl := lv_sub hl [1] rfl
      rw [show ad o = ad2 o from (hga o (by rw [cp4.1]; exact h_o)).symm] at hl
      exact a_X11_load_b65 E hA hX hN hml hst hA0 hT (fun ad H locs ls had G => W.iret (v := r1) hx hb hr (fun t ht hW => ⟨⟨r1, (T1, ad), rfl, ⟨rfl, rfl, had⟩, ⟨by rw [ht]; exact G.1, va_K.moved hW.alike hK, G.2.1⟩⟩, G.2.2.F ht⟩) G.2.2.2.2 dX11_load_75) _ _ _ _ _ _ h (GL.tr (gl_cpr hgl cp4) hg2) hrc2 (fun n hn => (hga n (by rw [cp4.1]; exact Nat.lt_of_lt_of_le hn hgl.1)).trans (had n hn)) (Nat.lt_of_lt_of_le (by rw [cp4.1]; exact h_o) hg2.1) G hl
    · have h := oif_neg c7 h
      have hl := lv_sub hl [] rfl
      refine w_cast (c2 := T.1 - T.1) (s2 := sg T - sg T) (by rw [cp0.1] <;> rfl) (by rw [sg_cpr cp0] <;> rfl) ?_
      exact a_X11_load_b15 E hA hX hN hml hst hA0 hT (fun ad H locs ls had G => W.iret (v := r1) hx hb hr (fun t ht hW => ⟨⟨r1, (T1, ad), rfl, ⟨rfl, rfl, had⟩, ⟨by rw [ht]; exact G.1, va_K.moved hW.alike hK, G.2.1⟩⟩, G.2.2.F ht⟩) G.2.2.2.2 dX11_load_75) _ _ _ _ _ h (gl_cpr hgl cp0) cp0.2.2 had G hl
set_option maxHeartbeats 4000000 in
set_option maxRecDepth 100000 in
theorem b_X11_load_b15 {p : Program} {l : Launch} {e : Env} {s : State} {m : MethodId} {args : Array Value} {below : List Frame} {meth : Method} {c : Code} {Qc : Array Value → State → Outcome → State → Prop} {XC : String → State → State → Prop} {D : va_G} {A : Nat → Prop} {cI cJ cZ cMic cSrc cSt cAI cAJ : ClassId} {ad0 : Nat → Nat} {T0 : AT} {e1 : Nat} {r1 : Int32} {T1 : AT} (E : cE p c cX11_load s m args (Cond.code yX11_load cX11_load 3 (some .int) :: wsA) D RX11 (CT cI cJ cZ cMic cSrc cSt cAI cAJ)) (hA : ∀ q : Nat, s.heap.size ≤ q → A q) (hX : xT A s) (hN : nX s) (hml : c.maxLocals = 3) {h0 : Nat} (hA0 : ∀ a : Nat, A a → h0 ≤ a) (hT : sAll h0 s) (hst : l.stackTraces = false) (htab : ∀ x ∈ c.exceptionTable.toList, False) (hlocks : meth.locks = false) (kx : ∀ (ad : Nat → Nat) (H : Heap) (locs : List Loc) (t : State), (∀ n, n < T0.1 → ad n = ad0 n) → gC cI cJ cZ cMic cSrc cSt cAI cAJ D ad A s.heap H locs T1 → s.vm.Alike t.vm → H.size ≤ t.heap.size → (∀ q, q < H.size → t.heap[q]? = H[q]?) → XC (exn e1) s t) : ∀ (T : AT) (ad : Nat → Nat) (H : Heap) (locs : List Loc) (ls : Array Slot), g_X11_load_b15 T = some (e1 + 1, r1, T1) → GL T0 T → RC T → (∀ n, n < T0.1 → ad n = ad0 n) → gC cI cJ cZ cMic cSrc cSt cAI cAJ D ad A s.heap H locs T → lv_has ls 3 [] → W p l e { frames := 12, cells := T1.1 - T0.1 + 1, slots := sg T1 - sg T0 + 6, locals := 215 } s m args below meth c H locs (T.1 - T0.1) (sg T - sg T0) (vx_MQ below Qc XC args s (T1.1 - T0.1 + 1) (sg T1 - sg T0 + 6) A) (F0 m 15 ls []) := by
  have hx := E.1
  have hb := E.2.1
  have hts := E.2.2.1
  have hown := E.2.2.2.1
  have hK := E.2.2.2.2
  intro T ad H locs ls h hgl hrc had G hl
  have hT1 := s_X11_load_b15 _ h
  have hcs := cs_okx hgl hT1
  have hcx := cs_okx1 hgl hT1
  have cp0 := cpr0 hrc
  unfold g_X11_load_b15 at h
  have hz : exn e1 = xIOB := by rw [show e1 = 1 by have := (osome3 h).1; omega]; rfl
  rw [(osome3 h).2.2] at G
  refine w_cast (c2 := T1.1 - T0.1) (s2 := sg T1 - sg T0) (by rw [← (osome3 h).2.2, cp0.1] <;> rfl) (by rw [← (osome3 h).2.2, sg_cpr cp0] <;> rfl) ?_
  refine vx_throw0 (own := RX11) (cls := xIOB) (names := ["java/lang/RuntimeException", "java/lang/Exception"]) (ik := 103) (ic := 105) (A := A) hx hb hst hown (by decide +kernel) (by decide +kernel) (hts _ (.tail _ qA_693)) (hts _ (.tail _ qA_694)) (vx_hat (B := xB) (fun w h => hts w (.tail _ (iA_25 h))) (by decide +kernel) hX.use) (by decide +kernel) hX.1 hX.2.1 G.2.2 (hl.1.trans hml.symm) dX11_load_15 dX11_load_18 dX11_load_19 dX11_load_22 (fun x hx => (htab x hx).elim) (Nat.le_of_ble_eq_true rfl) (Nat.le_of_ble_eq_true rfl) (Nat.le_refl _) (Nat.le_refl _) hlocks (fun t hvm h1 h2 => ?_) G.2.2.2.2 (Nat.le_refl _) (Nat.le_refl _)
  rw [← hz]
  exact kx ad _ _ _ had G hvm h1 h2
set_option maxHeartbeats 4000000 in
set_option maxRecDepth 100000 in
theorem b_X11_load_b65 {p : Program} {l : Launch} {e : Env} {s : State} {m : MethodId} {args : Array Value} {below : List Frame} {meth : Method} {c : Code} {Qc : Array Value → State → Outcome → State → Prop} {XC : String → State → State → Prop} {D : va_G} {A : Nat → Prop} {cI cJ cZ cMic cSrc cSt cAI cAJ : ClassId} {ad0 : Nat → Nat} {T0 : AT} {e1 : Nat} {r1 : Int32} {T1 : AT} (E : cE p c cX11_load s m args (Cond.code yX11_load cX11_load 3 (some .int) :: wsA) D RX11 (CT cI cJ cZ cMic cSrc cSt cAI cAJ)) (hA : ∀ q : Nat, s.heap.size ≤ q → A q) (hX : xT A s) (hN : nX s) (hml : c.maxLocals = 3) {h0 : Nat} (hA0 : ∀ a : Nat, A a → h0 ≤ a) (hT : sAll h0 s) (hst : l.stackTraces = false) (htab : ∀ x ∈ c.exceptionTable.toList, False) (hlocks : meth.locks = false) (kx : ∀ (ad : Nat → Nat) (H : Heap) (locs : List Loc) (t : State), (∀ n, n < T0.1 → ad n = ad0 n) → gC cI cJ cZ cMic cSrc cSt cAI cAJ D ad A s.heap H locs T1 → s.vm.Alike t.vm → H.size ≤ t.heap.size → (∀ q, q < H.size → t.heap[q]? = H[q]?) → XC (exn e1) s t) : ∀ (T : AT) (ad : Nat → Nat) (H : Heap) (locs : List Loc) (ls : Array Slot) (l0 : Nat), g_X11_load_b65 T l0 = some (e1 + 1, r1, T1) → GL T0 T → RC T → (∀ n, n < T0.1 → ad n = ad0 n) → l0 < T.1 → gC cI cJ cZ cMic cSrc cSt cAI cAJ D ad A s.heap H locs T → lv_has ls 3 [(0, .ref (ad l0))] → W p l e { frames := 12, cells := T1.1 - T0.1 + 1, slots := sg T1 - sg T0 + 6, locals := 215 } s m args below meth c H locs (T.1 - T0.1) (sg T - sg T0) (vx_MQ below Qc XC args s (T1.1 - T0.1 + 1) (sg T1 - sg T0 + 6) A) (F0 m 65 ls []) := by
  have hx := E.1
  have hb := E.2.1
  have hts := E.2.2.1
  have hown := E.2.2.2.1
  have hK := E.2.2.2.2
  intro T ad H locs ls l0 h hgl hrc had h_l0 G hl
  have hT1 := s_X11_load_b65 _ _ h
  have hcs := cs_okx hgl hT1
  have hcx := cs_okx1 hgl hT1
  have cp0 := cpr0 hrc
  unfold g_X11_load_b65 at h
  refine lv_aload_n hx hb dX11_load_65 rfl (lv_at hl 0 rfl) ?_
  obtain ⟨g2, h⟩ := oif_some h
  obtain ⟨n3, en3, h⟩ := obind_some h
  have h_n3 : n3 < T.1 := by rw [← cp0.1]; exact cp0.2.2 _ _ _ en3
  refine c_get E G l0 14 (v := .ref (ad n3)) (oO_k g2).1 (cc_o11 (oO_k g2).2) rfl (fun w h => .tail _ (iA_23 h)) (by decide) (.tail _ qA_675) rfl (by rw [en3]; rfl) dX11_load_66 ?_
  clear en3
  obtain ⟨g4, h⟩ := oif_some h
  obtain ⟨n5, en5, h⟩ := obind_some h
  have h_n5 : n5 < T.1 := by rw [← cp0.1]; exact cp0.2.2 _ _ _ en5
  refine c_get E G n3 6 (v := .ref (ad n5)) (oO_k g4).1 (cc_o6 (oO_k g4).2) rfl (fun w h => .tail _ (iA_14 h)) (by decide) (.tail _ qA_695) rfl (by rw [en5]; rfl) dX11_load_69 ?_
  clear en5
  obtain ⟨g6, h⟩ := oif_some h
  obtain ⟨r9, T7, eT7, h⟩ := obind2_some h
  refine q_cvi (As := []) (rest := []) E G hA hX hN hml (u_X1_cells l hst D cI cJ cZ cMic cSrc cSt cAI cAJ ad T n5 eT7) (cwV 0 hts (gaV qA_714 qA_35 qA_36 qA_37 qA_38) rfl rfl rfl (by decide +kernel) ⟨Nat.le_of_ble_eq_true rfl, Nat.le_of_ble_eq_true rfl⟩) (oO_k g6).1 (cc_o1 (oO_k g6).2) rfl rfl hl.1 rfl (lv_room (Nat.le_of_ble_eq_true rfl)) dX11_load_72 hcs (fun q10 T8 H locs hq G => ?_)
  obtain ⟨hq1, hq2⟩ := hq
  rw [hq2] at G
  refine lv_to hq1 ?_
  clear hq1 hq2
  have cp1 := cpr_sp cp0 (s_X1_cells eT7)
  exact (Nat.succ_ne_zero _ (congrArg Prod.fst (Option.some.inj h)).symm).elim
set_option maxHeartbeats 4000000 in
set_option maxRecDepth 100000 in
theorem b_X11_load (l : Launch) (hst : l.stackTraces = false) (D : va_G) (cI cJ cZ cMic cSrc cSt cAI cAJ : ClassId) (ad : Nat → Nat) (T : AT) (h0 : Nat) (o : Nat) (a0 : Int32) {e1 : Nat} {r1 : Int32} {T1 : AT} (h : g_X11_load T o a0 = some (e1 + 1, r1, T1)) (hrc : RC T) (h_o : o < T.1) : kAXiS l yX11_load (Cond.code yX11_load cX11_load 3 (some .int) :: wsA) 12 215 cI cJ cZ cMic cSrc cSt cAI cAJ D ad T [.ref (ad o), .int a0] (yT0 cI cJ cZ cMic cSrc cSt cAI cAJ h0 ad T) e1 T1 := by
  intro sz
  refine vx_ofW (cc := cX11_load) (maxL := 3) (ret := (some .int)) (by decide) rfl ?_
  intro p e s m args below meth c s₁ B hml htab hv
  obtain ⟨rfl, ⟨hsz, hP, hK, hD0, hX, hN⟩, hA1, hT⟩ := hv
  have hx := B.exec
  have hb := B.bytes
  have hr := B.returns
  have hts := atoms_spec (ws := (Cond.code yX11_load cX11_load 3 (some .int) :: wsA)) B.pre
  have hown : s.vm.findClass RX11 = some m.cls := findClass_of_methodNamed B.named
  have hlocks := B.notSynchronized
  subst hsz
  have hD := hD0.self (sz := s.heap.size)
  generalize hAe : va_A (cW ad T.1 (cc cI cJ cZ cMic cSrc cSt cAI cAJ ad T)) s.heap.size = A at hD hX hA1 ⊢
  have hA : ∀ q : Nat, s.heap.size ≤ q → A q := fun q h => by rw [← hAe]; exact Or.inr h
  have G : gC cI cJ cZ cMic cSrc cSt cAI cAJ D ad A s.heap s.heap [] T := ⟨hP, hD, va_S.rf⟩
  have E : cE p c cX11_load s m ([.ref (ad o), .int a0] : List Value).toArray (Cond.code yX11_load cX11_load 3 (some .int) :: wsA) D RX11 (CT cI cJ cZ cMic cSrc cSt cAI cAJ) := ⟨hx, hb, hts, hown, hK⟩
  have hA0 : ∀ a : Nat, A a → h0 ≤ a := hA1
  have htab : ∀ x ∈ c.exceptionTable.toList, False := fun x hx => htab x hx
  have hl := lv_entry ([.ref (ad o), .int a0]) (n := 3) (Nat.le_of_ble_eq_true rfl)
  rw [lg_entry_eq]
  generalize (lg_sl ([.ref (ad o), .int a0]) ++ List.replicate (3 - (lg_sl ([.ref (ad o), .int a0])).length) Slot.unset).toArray = ls at hl ⊢
  have hl : lv_has ls 3 [(0, .ref (ad o)), (1, .int a0)] := hl
  have hgl := GL.rf T
  have had : ∀ n, n < T.1 → ad n = ad n := fun _ _ => rfl
  have hT1 := s_X11_load h
  have hcs := cs_okx hgl hT1
  have hcx := cs_okx1 hgl hT1
  refine w_cast (Nat.sub_self T.1).symm (Nat.sub_self (sg T)).symm ?_
  have cp0 := cpr0 hrc
  unfold g_X11_load at h
  refine lv_iload_n hx hb dX11_load_0 rfl (lv_at hl 1 rfl) ?_
  refine lv_if_lt (tgt := 15) hx hb dX11_load_1 (by decide) (fun c2 => ?_) (fun c2 => ?_)
  · have h := oif_pos c2 h
    have hl := lv_sub hl [] rfl
    refine w_cast (c2 := T.1 - T.1) (s2 := sg T - sg T) (by rw [cp0.1] <;> rfl) (by rw [sg_cpr cp0] <;> rfl) ?_
    exact b_X11_load_b15 E hA hX hN hml hA0 hT hst htab hlocks (fun ad H locs t had G hvm h1 h2 => ⟨(T1, ad), trivial, ⟨⟨rfl, rfl, had⟩, (c_thrown G hK hvm h1 h2).1⟩, (c_thrown G hK hvm h1 h2).2⟩) _ _ _ _ _ h (gl_cpr hgl cp0) cp0.2.2 had G hl
  · have h := oif_neg c2 h
    refine lv_iload_n hx hb dX11_load_4 rfl (lv_at hl 1 rfl) ?_
    refine lv_aload_n hx hb dX11_load_5 rfl (lv_at hl 0 rfl) ?_
    obtain ⟨g3, h⟩ := oif_some h
    obtain ⟨n4, en4, h⟩ := obind_some h
    have h_n4 : n4 < T.1 := by rw [← cp0.1]; exact cp0.2.2 _ _ _ en4
    refine c_get E G o 0 (v := .ref (ad n4)) (oO_k g3).1 (cc_o11 (oO_k g3).2) rfl (fun w h => .tail _ (iA_23 h)) (by decide) (.tail _ qA_648) rfl (by rw [en4]; rfl) dX11_load_6 ?_
    clear en4
    obtain ⟨g5, h⟩ := oif_some h
    refine c_get E G n4 1 (oO_k g5).1 (cc_o9 (oO_k g5).2) rfl (fun w h => .tail _ (iA_18 h)) (by decide) (.tail _ qA_688) rfl rfl dX11_load_9 ?_
    refine lv_topi (fun v6 ev6 => ?_)
    have h := elet_at ev6 h
    clear ev6
    refine lv_icmp_le (tgt := 23) hx hb dX11_load_12 (by decide) (fun c7 => ?_) (fun c7 => ?_)
    · have h := oif_pos c7 h
      refine lv_aload_n hx hb dX11_load_23 rfl (lv_at hl 0 rfl) ?_
      obtain ⟨g8, h⟩ := oif_some h
      obtain ⟨n9, en9, h⟩ := obind_some h
      have h_n9 : n9 < T.1 := by rw [← cp0.1]; exact cp0.2.2 _ _ _ en9
      refine c_get E G o 0 (v := .ref (ad n9)) (oO_k g8).1 (cc_o11 (oO_k g8).2) rfl (fun w h => .tail _ (iA_23 h)) (by decide) (.tail _ qA_648) rfl (by rw [en9]; rfl) dX11_load_24 ?_
      clear en9
      refine lv_iconst (v := 0) hx hb dX11_load_27 (by decide) ?_
      obtain ⟨g10, h⟩ := oif_some h
      refine c_put E G n9 1 (v := .int 0) (oO_k g10).1 (cc_o9 (oO_k g10).2) rfl (fun w h => .tail _ (iA_18 h)) tyX9 tyX9_ok nmX9 (by decide) (.tail _ qA_688) ⟨rfl, rfl, rfl⟩ rfl rfl (Nat.le_of_ble_eq_true rfl) dX11_load_28 (fun H locs G => ?_)
      have G := gC_up_i (f := upd (T.2.2.1 n9) 1 0) (by rw [(oO_k g10).2]; rfl) G
      obtain ⟨T11, eT11, h⟩ := elet_some h
      have G : gC cI cJ cZ cMic cSrc cSt cAI cAJ D ad A s.heap H locs T11 := by rw [eT11]; exact G
      have cp1 := show CPR T T11 from by rw [eT11]; exact cpr_sp cp0 sp_uI
      clear eT11
      refine lv_aload_n hx hb dX11_load_31 rfl (lv_at hl 0 rfl) ?_
      obtain ⟨g12, h⟩ := oif_some h
      obtain ⟨n13, en13, h⟩ := obind_some h
      have h_n13 : n13 < T.1 := by rw [← cp1.1]; exact cp1.2.2 _ _ _ en13
      refine c_get E G o 1 (v := .ref (ad n13)) (oO_k g12).1 (cc_o11 (oO_k g12).2) rfl (fun w h => .tail _ (iA_23 h)) (by decide) (.tail _ qA_651) rfl (by rw [en13]; rfl) dX11_load_32 ?_
      clear en13
      refine lv_iload_n hx hb dX11_load_35 rfl (lv_at hl 1 rfl) ?_
      refine lv_aload_n hx hb dX11_load_36 rfl (lv_at hl 0 rfl) ?_
      obtain ⟨g14, h⟩ := oif_some h
      obtain ⟨n15, en15, h⟩ := obind_some h
      have h_n15 : n15 < T.1 := by rw [← cp1.1]; exact cp1.2.2 _ _ _ en15
      refine c_get E G o 15 (v := .ref (ad n15)) (oO_k g14).1 (cc_o11 (oO_k g14).2) rfl (fun w h => .tail _ (iA_23 h)) (by decide) (.tail _ qA_676) rfl (by rw [en15]; rfl) dX11_load_37 ?_
      clear en15
      obtain ⟨g16, h⟩ := oif_some h
      rcases othr_t h with ⟨r0, eT17⟩ | ⟨r19, T17, eT17, h⟩
      · refine q_xvvX (As := [.int a0, .ref (ad n15)]) (rest := []) E G hA hX hN hml (x_X3_parse l hst D cI cJ cZ cMic cSrc cSt cAI cAJ ad T11 h0 n13 a0 n15 eT17) (cwV 2 hts (gaV qA_696 qA_697 qA_698 qA_222 qA_175) rfl rfl rfl (by decide +kernel) ⟨Nat.le_of_ble_eq_true rfl, Nat.le_of_ble_eq_true rfl⟩) (oO_k g16).1 (cc_o3 (oO_k g16).2) rfl rfl hl.1 rfl (lv_room (Nat.le_of_ble_eq_true rfl)) dX11_load_40 hcx (yT0.blind) (yT0.go hT hA0 hA G) (fun E9 ce q9 T9 H locs hp G hce hcv hcl => ?_)
        obtain ⟨hE, hT⟩ := hp
        subst hE
        rw [hT] at G
        exact vx_out (fun x hx => (htab x hx).elim) hlocks hce hcv hcl (fun t ht hvm => ⟨(T1, ad), trivial, ⟨⟨rfl, rfl, had⟩, by rw [ht]; exact G.1, va_K.moved hvm hK, G.2.1⟩, G.2.2.F ht⟩) G.2.2.2.2 hcx.1 hcx.2
      refine q_cvvX (As := [.int a0, .ref (ad n15)]) (rest := []) E G hA hX hN hml (u_X3_parse l hst D cI cJ cZ cMic cSrc cSt cAI cAJ ad T11 h0 n13 a0 n15 eT17) (cwV 2 hts (gaV qA_696 qA_697 qA_698 qA_222 qA_175) rfl rfl rfl (by decide +kernel) ⟨Nat.le_of_ble_eq_true rfl, Nat.le_of_ble_eq_true rfl⟩) (oO_k g16).1 (cc_o3 (oO_k g16).2) rfl rfl hl.1 rfl (lv_room (Nat.le_of_ble_eq_true rfl)) dX11_load_40 hcs (yT0.blind) (yT0.go hT hA0 hA G) (fun T18 H locs hq G => ?_)
      rw [hq] at G
      clear hq
      have cp2 := cpr_sp cp1 (s_X3_parse eT17)
      refine lv_aload_n hx hb dX11_load_43 rfl (lv_at hl 0 rfl) ?_
      obtain ⟨g21, h⟩ := oif_some h
      obtain ⟨n22, en22, h⟩ := obind_some h
      have h_n22 : n22 < T.1 := by rw [← cp2.1]; exact cp2.2.2 _ _ _ en22
      refine c_get E G o 14 (v := .ref (ad n22)) (oO_k g21).1 (cc_o11 (oO_k g21).2) rfl (fun w h => .tail _ (iA_23 h)) (by decide) (.tail _ qA_675) rfl (by rw [en22]; rfl) dX11_load_44 ?_
      clear en22
      refine lv_astore_n (lv' := [(2, .ref (ad n22)), (0, .ref (ad o)), (1, .int a0)]) hx hb dX11_load_47 rfl hl (by decide) rfl (fun ls hl => ?_)
      refine lv_aload_n hx hb dX11_load_48 rfl (lv_at hl 1 rfl) ?_
      refine lv_aload_n hx hb dX11_load_49 rfl (lv_at hl 1 rfl) ?_
      obtain ⟨g23, h⟩ := oif_some h
      obtain ⟨n24, en24, h⟩ := obind_some h
      have h_n24 : n24 < T.1 := by rw [← cp2.1]; exact cp2.2.2 _ _ _ en24
      refine c_get E G o 15 (v := .ref (ad n24)) (oO_k g23).1 (cc_o11 (oO_k g23).2) rfl (fun w h => .tail _ (iA_23 h)) (by decide) (.tail _ qA_676) rfl (by rw [en24]; rfl) dX11_load_50 ?_
      clear en24
      obtain ⟨g25, h⟩ := oif_some h
      obtain ⟨g26, h⟩ := oif_some h
      refine c_put E G o 14 (v := .ref (ad n24)) (oO_k g25).1 (cc_o11 (oO_k g25).2) rfl (fun w h => .tail _ (iA_23 h)) tyX11 tyX11_ok nmX11 (by decide) (.tail _ qA_675) ⟨rfl, rfl, rfl⟩ rfl rfl (Nat.le_of_ble_eq_true rfl) dX11_load_53 (fun H locs G => ?_)
      have G := gC_up_r (f := va_up (T17.2.2.2.2 o) 14 (some n24)) (by rw [(oO_k g25).2]; rfl) G
      obtain ⟨T27, eT27, h⟩ := elet_some h
      have G : gC cI cJ cZ cMic cSrc cSt cAI cAJ D ad A s.heap H locs T27 := by rw [eT27]; exact G
      have cp3 := show CPR T T27 from by rw [eT27]; exact cpr_uR cp2 (Nat.le_of_ble_eq_true g26)
      clear eT27
      refine lv_aload_n hx hb dX11_load_56 rfl (lv_at hl 1 rfl) ?_
      refine lv_aload_n hx hb dX11_load_57 rfl (lv_at hl 0 rfl) ?_
      obtain ⟨g28, h⟩ := oif_some h
      obtain ⟨g29, h⟩ := oif_some h
      refine c_put E G o 15 (v := .ref (ad n22)) (oO_k g28).1 (cc_o11 (oO_k g28).2) rfl (fun w h => .tail _ (iA_23 h)) tyX11 tyX11_ok nmX11 (by decide) (.tail _ qA_676) ⟨rfl, rfl, rfl⟩ rfl rfl (Nat.le_of_ble_eq_true rfl) dX11_load_58 (fun H locs G => ?_)
      have G := gC_up_r (f := va_up (T27.2.2.2.2 o) 15 (some n22)) (by rw [(oO_k g28).2]; rfl) G
      obtain ⟨T30, eT30, h⟩ := elet_some h
      have G : gC cI cJ cZ cMic cSrc cSt cAI cAJ D ad A s.heap H locs T30 := by rw [eT30]; exact G
      have cp4 := show CPR T T30 from by rw [eT30]; exact cpr_uR cp3 (Nat.le_of_ble_eq_true g29)
      clear eT30
      refine lv_aload_n hx hb dX11_load_61 rfl (lv_at hl 1 rfl) ?_
      obtain ⟨g31, h⟩ := oif_some h
      obtain ⟨T32, eT32, h⟩ := obind_some h
      have hg2 := s_X11_begin eT32
      have hrc2 := hg2.2.2 cp4.2.2
      have hT2 := s_X11_load_b65 _ _ h
      refine q_avv (As := []) (rest := []) E G hA hX hN hml (a_X11_begin l hst D cI cJ cZ cMic cSrc cSt cAI cAJ ad T30 o eT32 cp4.2.2 (by rw [cp4.1]; exact h_o)) (cwV 0 hts (gaV qA_699 qA_700 qA_701 qA_131 qA_702) rfl rfl rfl (by decide +kernel) ⟨Nat.le_of_ble_eq_true rfl, Nat.le_of_ble_eq_true rfl⟩) (oO_k g31).1 (cc_o11 (oO_k g31).2) rfl rfl hl.1 rfl (lv_room (Nat.le_of_ble_eq_true rfl)) dX11_load_62 (cs_avx hgl cp4 hg2 hT2) (fun ad2 H locs hga G => ?_)
      refine w_cast (c2 := T32.1 - T.1) (s2 := sg T32 - sg T) (cs_f1 hgl cp4 hg2) (cs_f2 hgl cp4 hg2) ?_
      have hl := lv_sub hl [1] rfl
      rw [show ad o = ad2 o from (hga o (by rw [cp4.1]; exact h_o)).symm] at hl
      exact b_X11_load_b65 E hA hX hN hml hA0 hT hst htab hlocks (fun ad H locs t had G hvm h1 h2 => ⟨(T1, ad), trivial, ⟨⟨rfl, rfl, had⟩, (c_thrown G hK hvm h1 h2).1⟩, (c_thrown G hK hvm h1 h2).2⟩) _ _ _ _ _ _ h (GL.tr (gl_cpr hgl cp4) hg2) hrc2 (fun n hn => (hga n (by rw [cp4.1]; exact Nat.lt_of_lt_of_le hn hgl.1)).trans (had n hn)) (Nat.lt_of_lt_of_le (by rw [cp4.1]; exact h_o) hg2.1) G hl
    · have h := oif_neg c7 h
      have hl := lv_sub hl [] rfl
      refine w_cast (c2 := T.1 - T.1) (s2 := sg T - sg T) (by rw [cp0.1] <;> rfl) (by rw [sg_cpr cp0] <;> rfl) ?_
      exact b_X11_load_b15 E hA hX hN hml hA0 hT hst htab hlocks (fun ad H locs t had G hvm h1 h2 => ⟨(T1, ad), trivial, ⟨⟨rfl, rfl, had⟩, (c_thrown G hK hvm h1 h2).1⟩, (c_thrown G hK hvm h1 h2).2⟩) _ _ _ _ _ h (gl_cpr hgl cp0) cp0.2.2 had G hl
def g_X11_parseError (T : AT) (o : Nat) : Option (Int32 × AT) := oif (oO T o 11 = true) <| obind (T.2.2.2.2 o 1) fun n3 => oif (oO T n3 3 = true) <| elet (T.2.2.1 n3 2) fun v5 => some (v5, T)
set_option maxHeartbeats 4000000 in
set_option maxRecDepth 100000 in
theorem u_X11_parseError (l : Launch) (hst : l.stackTraces = false) (D : va_G) (cI cJ cZ cMic cSrc cSt cAI cAJ : ClassId) (ad : Nat → Nat) (T : AT) (o : Nat) {r1 : Int32} {T1 : AT} (h : g_X11_parseError T o = some (r1, T1)) : kCi l yX11_parseError (Cond.code yX11_parseError cX11_parseError 1 (some .int) :: wsA) 1 0 cI cJ cZ cMic cSrc cSt cAI cAJ D ad T [.ref (ad o)] (fun r T9 => r = r1 ∧ T9 = T1) := by
  intro sz
  refine Met.ofW (cc := cX11_parseError) (maxL := 1) (ret := (some .int)) (by decide) rfl ?_
  intro p e s m args below meth c s₁ B hml hv
  obtain ⟨rfl, hsz, hP, hK, hD0, hX, hN⟩ := hv
  have hx := B.exec
  have hb := B.bytes
  have hr := B.returns
  have hts := atoms_spec (ws := (Cond.code yX11_parseError cX11_parseError 1 (some .int) :: wsA)) B.pre
  have hown : s.vm.findClass RX11 = some m.cls := findClass_of_methodNamed B.named
  have hlocks := B.notSynchronized
  subst hsz
  have hD := hD0.self (sz := s.heap.size)
  generalize hAe : va_A (cW ad T.1 (cc cI cJ cZ cMic cSrc cSt cAI cAJ ad T)) s.heap.size = A at hD hX ⊢
  have hA : ∀ q : Nat, s.heap.size ≤ q → A q := fun q h => by rw [← hAe]; exact Or.inr h
  have G : gC cI cJ cZ cMic cSrc cSt cAI cAJ D ad A s.heap s.heap [] T := ⟨hP, hD, va_S.rf⟩
  have E : cE p c cX11_parseError s m ([.ref (ad o)] : List Value).toArray (Cond.code yX11_parseError cX11_parseError 1 (some .int) :: wsA) D RX11 (CT cI cJ cZ cMic cSrc cSt cAI cAJ) := ⟨hx, hb, hts, hown, hK⟩
  have hl := lv_entry ([.ref (ad o)]) (n := 1) (Nat.le_of_ble_eq_true rfl)
  rw [lg_entry_eq]
  generalize (lg_sl ([.ref (ad o)]) ++ List.replicate (1 - (lg_sl ([.ref (ad o)])).length) Slot.unset).toArray = ls at hl ⊢
  have hl : lv_has ls 1 [(0, .ref (ad o))] := hl
  unfold g_X11_parseError at h
  refine lv_aload_n hx hb dX11_parseError_0 rfl (lv_at hl 0 rfl) ?_
  obtain ⟨g2, h⟩ := oif_some h
  obtain ⟨n3, en3, h⟩ := obind_some h
  refine c_get E G o 1 (v := .ref (ad n3)) (oO_k g2).1 (cc_o11 (oO_k g2).2) rfl (fun w h => .tail _ (iA_23 h)) (by decide) (.tail _ qA_651) rfl (by rw [en3]; rfl) dX11_parseError_1 ?_
  clear en3
  obtain ⟨g4, h⟩ := oif_some h
  refine c_get E G n3 2 (oO_k g4).1 (cc_o3 (oO_k g4).2) rfl (fun w h => .tail _ (iA_17 h)) (by decide) (.tail _ qA_716) rfl rfl dX11_parseError_4 ?_
  refine lv_topi (fun v5 ev5 => ?_)
  have h := elet_at ev5 h
  clear ev5
  exact W.iret (v := v5) hx hb hr (fun t ht hW => ⟨⟨v5, T, rfl, osome2 h, ⟨by rw [ht]; exact G.1, va_K.moved hW.alike hK, G.2.1⟩⟩, G.2.2.F ht⟩) G.2.2.2.2 dX11_parseError_7
set_option maxHeartbeats 4000000 in
set_option maxRecDepth 100000 in
theorem s_X11_parseError {T : AT} {o : Nat} {r1 : Int32} {T1 : AT} (h : g_X11_parseError T o = some (r1, T1)) : SP T T1 := by
  have p0 := SP.rf T
  unfold g_X11_parseError at h
  obtain ⟨g2, h⟩ := oif_some h
  obtain ⟨n3, en3, h⟩ := obind_some h
  obtain ⟨g4, h⟩ := oif_some h
  obtain ⟨v5, -, h⟩ := elet_some h
  rw [← (osome2 h).2]
  exact p0
def g_X11_errorPosition (T : AT) (o : Nat) : Option (Int32 × AT) := oif (oO T o 11 = true) <| obind (T.2.2.2.2 o 1) fun n3 => oif (oO T n3 3 = true) <| elet (T.2.2.1 n3 3) fun v5 => some (v5, T)
set_option maxHeartbeats 4000000 in
set_option maxRecDepth 100000 in
theorem u_X11_errorPosition (l : Launch) (hst : l.stackTraces = false) (D : va_G) (cI cJ cZ cMic cSrc cSt cAI cAJ : ClassId) (ad : Nat → Nat) (T : AT) (o : Nat) {r1 : Int32} {T1 : AT} (h : g_X11_errorPosition T o = some (r1, T1)) : kCi l yX11_errorPosition (Cond.code yX11_errorPosition cX11_errorPosition 1 (some .int) :: wsA) 1 0 cI cJ cZ cMic cSrc cSt cAI cAJ D ad T [.ref (ad o)] (fun r T9 => r = r1 ∧ T9 = T1) := by
  intro sz
  refine Met.ofW (cc := cX11_errorPosition) (maxL := 1) (ret := (some .int)) (by decide) rfl ?_
  intro p e s m args below meth c s₁ B hml hv
  obtain ⟨rfl, hsz, hP, hK, hD0, hX, hN⟩ := hv
  have hx := B.exec
  have hb := B.bytes
  have hr := B.returns
  have hts := atoms_spec (ws := (Cond.code yX11_errorPosition cX11_errorPosition 1 (some .int) :: wsA)) B.pre
  have hown : s.vm.findClass RX11 = some m.cls := findClass_of_methodNamed B.named
  have hlocks := B.notSynchronized
  subst hsz
  have hD := hD0.self (sz := s.heap.size)
  generalize hAe : va_A (cW ad T.1 (cc cI cJ cZ cMic cSrc cSt cAI cAJ ad T)) s.heap.size = A at hD hX ⊢
  have hA : ∀ q : Nat, s.heap.size ≤ q → A q := fun q h => by rw [← hAe]; exact Or.inr h
  have G : gC cI cJ cZ cMic cSrc cSt cAI cAJ D ad A s.heap s.heap [] T := ⟨hP, hD, va_S.rf⟩
  have E : cE p c cX11_errorPosition s m ([.ref (ad o)] : List Value).toArray (Cond.code yX11_errorPosition cX11_errorPosition 1 (some .int) :: wsA) D RX11 (CT cI cJ cZ cMic cSrc cSt cAI cAJ) := ⟨hx, hb, hts, hown, hK⟩
  have hl := lv_entry ([.ref (ad o)]) (n := 1) (Nat.le_of_ble_eq_true rfl)
  rw [lg_entry_eq]
  generalize (lg_sl ([.ref (ad o)]) ++ List.replicate (1 - (lg_sl ([.ref (ad o)])).length) Slot.unset).toArray = ls at hl ⊢
  have hl : lv_has ls 1 [(0, .ref (ad o))] := hl
  unfold g_X11_errorPosition at h
  refine lv_aload_n hx hb dX11_errorPosition_0 rfl (lv_at hl 0 rfl) ?_
  obtain ⟨g2, h⟩ := oif_some h
  obtain ⟨n3, en3, h⟩ := obind_some h
  refine c_get E G o 1 (v := .ref (ad n3)) (oO_k g2).1 (cc_o11 (oO_k g2).2) rfl (fun w h => .tail _ (iA_23 h)) (by decide) (.tail _ qA_651) rfl (by rw [en3]; rfl) dX11_errorPosition_1 ?_
  clear en3
  obtain ⟨g4, h⟩ := oif_some h
  refine c_get E G n3 3 (oO_k g4).1 (cc_o3 (oO_k g4).2) rfl (fun w h => .tail _ (iA_17 h)) (by decide) (.tail _ qA_718) rfl rfl dX11_errorPosition_4 ?_
  refine lv_topi (fun v5 ev5 => ?_)
  have h := elet_at ev5 h
  clear ev5
  exact W.iret (v := v5) hx hb hr (fun t ht hW => ⟨⟨v5, T, rfl, osome2 h, ⟨by rw [ht]; exact G.1, va_K.moved hW.alike hK, G.2.1⟩⟩, G.2.2.F ht⟩) G.2.2.2.2 dX11_errorPosition_7
set_option maxHeartbeats 4000000 in
set_option maxRecDepth 100000 in
theorem s_X11_errorPosition {T : AT} {o : Nat} {r1 : Int32} {T1 : AT} (h : g_X11_errorPosition T o = some (r1, T1)) : SP T T1 := by
  have p0 := SP.rf T
  unfold g_X11_errorPosition at h
  obtain ⟨g2, h⟩ := oif_some h
  obtain ⟨n3, en3, h⟩ := obind_some h
  obtain ⟨g4, h⟩ := oif_some h
  obtain ⟨v5, -, h⟩ := elet_some h
  rw [← (osome2 h).2]
  exact p0
def g_X11_buffered (T : AT) (o : Nat) : Option (Int32 × AT) := oif (oO T o 11 = true) <| obind (T.2.2.2.2 o 0) fun n3 => oif (oO T n3 9 = true) <| elet (T.2.2.1 n3 1) fun v5 => some (v5, T)
set_option maxHeartbeats 4000000 in
set_option maxRecDepth 100000 in
theorem u_X11_buffered (l : Launch) (hst : l.stackTraces = false) (D : va_G) (cI cJ cZ cMic cSrc cSt cAI cAJ : ClassId) (ad : Nat → Nat) (T : AT) (o : Nat) {r1 : Int32} {T1 : AT} (h : g_X11_buffered T o = some (r1, T1)) : kCi l yX11_buffered (Cond.code yX11_buffered cX11_buffered 1 (some .int) :: wsA) 1 0 cI cJ cZ cMic cSrc cSt cAI cAJ D ad T [.ref (ad o)] (fun r T9 => r = r1 ∧ T9 = T1) := by
  intro sz
  refine Met.ofW (cc := cX11_buffered) (maxL := 1) (ret := (some .int)) (by decide) rfl ?_
  intro p e s m args below meth c s₁ B hml hv
  obtain ⟨rfl, hsz, hP, hK, hD0, hX, hN⟩ := hv
  have hx := B.exec
  have hb := B.bytes
  have hr := B.returns
  have hts := atoms_spec (ws := (Cond.code yX11_buffered cX11_buffered 1 (some .int) :: wsA)) B.pre
  have hown : s.vm.findClass RX11 = some m.cls := findClass_of_methodNamed B.named
  have hlocks := B.notSynchronized
  subst hsz
  have hD := hD0.self (sz := s.heap.size)
  generalize hAe : va_A (cW ad T.1 (cc cI cJ cZ cMic cSrc cSt cAI cAJ ad T)) s.heap.size = A at hD hX ⊢
  have hA : ∀ q : Nat, s.heap.size ≤ q → A q := fun q h => by rw [← hAe]; exact Or.inr h
  have G : gC cI cJ cZ cMic cSrc cSt cAI cAJ D ad A s.heap s.heap [] T := ⟨hP, hD, va_S.rf⟩
  have E : cE p c cX11_buffered s m ([.ref (ad o)] : List Value).toArray (Cond.code yX11_buffered cX11_buffered 1 (some .int) :: wsA) D RX11 (CT cI cJ cZ cMic cSrc cSt cAI cAJ) := ⟨hx, hb, hts, hown, hK⟩
  have hl := lv_entry ([.ref (ad o)]) (n := 1) (Nat.le_of_ble_eq_true rfl)
  rw [lg_entry_eq]
  generalize (lg_sl ([.ref (ad o)]) ++ List.replicate (1 - (lg_sl ([.ref (ad o)])).length) Slot.unset).toArray = ls at hl ⊢
  have hl : lv_has ls 1 [(0, .ref (ad o))] := hl
  unfold g_X11_buffered at h
  refine lv_aload_n hx hb dX11_buffered_0 rfl (lv_at hl 0 rfl) ?_
  obtain ⟨g2, h⟩ := oif_some h
  obtain ⟨n3, en3, h⟩ := obind_some h
  refine c_get E G o 0 (v := .ref (ad n3)) (oO_k g2).1 (cc_o11 (oO_k g2).2) rfl (fun w h => .tail _ (iA_23 h)) (by decide) (.tail _ qA_648) rfl (by rw [en3]; rfl) dX11_buffered_1 ?_
  clear en3
  obtain ⟨g4, h⟩ := oif_some h
  refine c_get E G n3 1 (oO_k g4).1 (cc_o9 (oO_k g4).2) rfl (fun w h => .tail _ (iA_18 h)) (by decide) (.tail _ qA_688) rfl rfl dX11_buffered_4 ?_
  refine lv_topi (fun v5 ev5 => ?_)
  have h := elet_at ev5 h
  clear ev5
  exact W.iret (v := v5) hx hb hr (fun t ht hW => ⟨⟨v5, T, rfl, osome2 h, ⟨by rw [ht]; exact G.1, va_K.moved hW.alike hK, G.2.1⟩⟩, G.2.2.F ht⟩) G.2.2.2.2 dX11_buffered_7
set_option maxHeartbeats 4000000 in
set_option maxRecDepth 100000 in
theorem s_X11_buffered {T : AT} {o : Nat} {r1 : Int32} {T1 : AT} (h : g_X11_buffered T o = some (r1, T1)) : SP T T1 := by
  have p0 := SP.rf T
  unfold g_X11_buffered at h
  obtain ⟨g2, h⟩ := oif_some h
  obtain ⟨n3, en3, h⟩ := obind_some h
  obtain ⟨g4, h⟩ := oif_some h
  obtain ⟨v5, -, h⟩ := elet_some h
  rw [← (osome2 h).2]
  exact p0
def g_X11_mics (T : AT) (o : Nat) : Option (Int32 × AT) := oif (oO T o 11 = true) <| obind (T.2.2.2.2 o 14) fun n3 => oif (oO T n3 6 = true) <| elet (T.2.2.1 n3 5) fun v5 => some (v5, T)
set_option maxHeartbeats 4000000 in
set_option maxRecDepth 100000 in
theorem u_X11_mics (l : Launch) (hst : l.stackTraces = false) (D : va_G) (cI cJ cZ cMic cSrc cSt cAI cAJ : ClassId) (ad : Nat → Nat) (T : AT) (o : Nat) {r1 : Int32} {T1 : AT} (h : g_X11_mics T o = some (r1, T1)) : kCi l yX11_mics (Cond.code yX11_mics cX11_mics 1 (some .int) :: wsA) 1 0 cI cJ cZ cMic cSrc cSt cAI cAJ D ad T [.ref (ad o)] (fun r T9 => r = r1 ∧ T9 = T1) := by
  intro sz
  refine Met.ofW (cc := cX11_mics) (maxL := 1) (ret := (some .int)) (by decide) rfl ?_
  intro p e s m args below meth c s₁ B hml hv
  obtain ⟨rfl, hsz, hP, hK, hD0, hX, hN⟩ := hv
  have hx := B.exec
  have hb := B.bytes
  have hr := B.returns
  have hts := atoms_spec (ws := (Cond.code yX11_mics cX11_mics 1 (some .int) :: wsA)) B.pre
  have hown : s.vm.findClass RX11 = some m.cls := findClass_of_methodNamed B.named
  have hlocks := B.notSynchronized
  subst hsz
  have hD := hD0.self (sz := s.heap.size)
  generalize hAe : va_A (cW ad T.1 (cc cI cJ cZ cMic cSrc cSt cAI cAJ ad T)) s.heap.size = A at hD hX ⊢
  have hA : ∀ q : Nat, s.heap.size ≤ q → A q := fun q h => by rw [← hAe]; exact Or.inr h
  have G : gC cI cJ cZ cMic cSrc cSt cAI cAJ D ad A s.heap s.heap [] T := ⟨hP, hD, va_S.rf⟩
  have E : cE p c cX11_mics s m ([.ref (ad o)] : List Value).toArray (Cond.code yX11_mics cX11_mics 1 (some .int) :: wsA) D RX11 (CT cI cJ cZ cMic cSrc cSt cAI cAJ) := ⟨hx, hb, hts, hown, hK⟩
  have hl := lv_entry ([.ref (ad o)]) (n := 1) (Nat.le_of_ble_eq_true rfl)
  rw [lg_entry_eq]
  generalize (lg_sl ([.ref (ad o)]) ++ List.replicate (1 - (lg_sl ([.ref (ad o)])).length) Slot.unset).toArray = ls at hl ⊢
  have hl : lv_has ls 1 [(0, .ref (ad o))] := hl
  unfold g_X11_mics at h
  refine lv_aload_n hx hb dX11_mics_0 rfl (lv_at hl 0 rfl) ?_
  obtain ⟨g2, h⟩ := oif_some h
  obtain ⟨n3, en3, h⟩ := obind_some h
  refine c_get E G o 14 (v := .ref (ad n3)) (oO_k g2).1 (cc_o11 (oO_k g2).2) rfl (fun w h => .tail _ (iA_23 h)) (by decide) (.tail _ qA_675) rfl (by rw [en3]; rfl) dX11_mics_1 ?_
  clear en3
  obtain ⟨g4, h⟩ := oif_some h
  refine c_get E G n3 5 (oO_k g4).1 (cc_o6 (oO_k g4).2) rfl (fun w h => .tail _ (iA_14 h)) (by decide) (.tail _ qA_721) rfl rfl dX11_mics_4 ?_
  refine lv_topi (fun v5 ev5 => ?_)
  have h := elet_at ev5 h
  clear ev5
  exact W.iret (v := v5) hx hb hr (fun t ht hW => ⟨⟨v5, T, rfl, osome2 h, ⟨by rw [ht]; exact G.1, va_K.moved hW.alike hK, G.2.1⟩⟩, G.2.2.F ht⟩) G.2.2.2.2 dX11_mics_7
set_option maxHeartbeats 4000000 in
set_option maxRecDepth 100000 in
theorem s_X11_mics {T : AT} {o : Nat} {r1 : Int32} {T1 : AT} (h : g_X11_mics T o = some (r1, T1)) : SP T T1 := by
  have p0 := SP.rf T
  unfold g_X11_mics at h
  obtain ⟨g2, h⟩ := oif_some h
  obtain ⟨n3, en3, h⟩ := obind_some h
  obtain ⟨g4, h⟩ := oif_some h
  obtain ⟨v5, -, h⟩ := elet_some h
  rw [← (osome2 h).2]
  exact p0
def g_X11_needCamera (T : AT) (o : Nat) : Option (Nat × Int32 × AT) := oif (oO T o 11 = true) <| obind (T.2.2.2.2 o 14) fun n3 => oif (oO T n3 6 = true) <| elet (T.2.2.1 n3 5) fun v5 => if v5 = 0 then (some (1, 0, T)) else (some (0, 0, T))
set_option maxHeartbeats 4000000 in
set_option maxRecDepth 100000 in
theorem u_X11_needCamera (l : Launch) (hst : l.stackTraces = false) (D : va_G) (cI cJ cZ cMic cSrc cSt cAI cAJ : ClassId) (ad : Nat → Nat) (T : AT) (o : Nat) {r1 : Int32} {T1 : AT} (h : g_X11_needCamera T o = some (0, r1, T1)) : kCv l yX11_needCamera (Cond.code yX11_needCamera cX11_needCamera 1 none :: wsA) 6 81 cI cJ cZ cMic cSrc cSt cAI cAJ D ad T [.ref (ad o)] (fun T9 => T9 = T1) := by
  intro sz
  refine Met.ofW (cc := cX11_needCamera) (maxL := 1) (ret := none) (by decide) rfl ?_
  intro p e s m args below meth c s₁ B hml hv
  obtain ⟨rfl, hsz, hP, hK, hD0, hX, hN⟩ := hv
  have hx := B.exec
  have hb := B.bytes
  have hr := B.returns
  have hts := atoms_spec (ws := (Cond.code yX11_needCamera cX11_needCamera 1 none :: wsA)) B.pre
  have hown : s.vm.findClass RX11 = some m.cls := findClass_of_methodNamed B.named
  have hlocks := B.notSynchronized
  subst hsz
  have hD := hD0.self (sz := s.heap.size)
  generalize hAe : va_A (cW ad T.1 (cc cI cJ cZ cMic cSrc cSt cAI cAJ ad T)) s.heap.size = A at hD hX ⊢
  have hA : ∀ q : Nat, s.heap.size ≤ q → A q := fun q h => by rw [← hAe]; exact Or.inr h
  have G : gC cI cJ cZ cMic cSrc cSt cAI cAJ D ad A s.heap s.heap [] T := ⟨hP, hD, va_S.rf⟩
  have E : cE p c cX11_needCamera s m ([.ref (ad o)] : List Value).toArray (Cond.code yX11_needCamera cX11_needCamera 1 none :: wsA) D RX11 (CT cI cJ cZ cMic cSrc cSt cAI cAJ) := ⟨hx, hb, hts, hown, hK⟩
  have hl := lv_entry ([.ref (ad o)]) (n := 1) (Nat.le_of_ble_eq_true rfl)
  rw [lg_entry_eq]
  generalize (lg_sl ([.ref (ad o)]) ++ List.replicate (1 - (lg_sl ([.ref (ad o)])).length) Slot.unset).toArray = ls at hl ⊢
  have hl : lv_has ls 1 [(0, .ref (ad o))] := hl
  unfold g_X11_needCamera at h
  refine lv_aload_n hx hb dX11_needCamera_0 rfl (lv_at hl 0 rfl) ?_
  obtain ⟨g2, h⟩ := oif_some h
  obtain ⟨n3, en3, h⟩ := obind_some h
  refine c_get E G o 14 (v := .ref (ad n3)) (oO_k g2).1 (cc_o11 (oO_k g2).2) rfl (fun w h => .tail _ (iA_23 h)) (by decide) (.tail _ qA_675) rfl (by rw [en3]; rfl) dX11_needCamera_1 ?_
  clear en3
  obtain ⟨g4, h⟩ := oif_some h
  refine c_get E G n3 5 (oO_k g4).1 (cc_o6 (oO_k g4).2) rfl (fun w h => .tail _ (iA_14 h)) (by decide) (.tail _ qA_721) rfl rfl dX11_needCamera_4 ?_
  refine lv_topi (fun v5 ev5 => ?_)
  have h := elet_at ev5 h
  clear ev5
  refine lv_if_ne (tgt := 18) hx hb dX11_needCamera_7 (by decide) (fun c6 => ?_) (fun c6 => ?_)
  · have h := oif_neg c6 h
    exact W.vret hx hb hr (fun t ht hW => ⟨⟨T, rfl, (osome3 h).2.2, ⟨by rw [ht]; exact G.1, va_K.moved hW.alike hK, G.2.1⟩⟩, G.2.2.F ht⟩) G.2.2.2.2 dX11_needCamera_18
  · have h := oif_pos c6 h
    exact absurd (osome3 h).1 (by decide)
set_option maxHeartbeats 4000000 in
set_option maxRecDepth 100000 in
theorem s_X11_needCamera {T : AT} {o : Nat} {e1 : Nat} {r1 : Int32} {T1 : AT} (h : g_X11_needCamera T o = some (e1, r1, T1)) : SP T T1 := by
  have p0 := SP.rf T
  unfold g_X11_needCamera at h
  obtain ⟨g2, h⟩ := oif_some h
  obtain ⟨n3, en3, h⟩ := obind_some h
  obtain ⟨g4, h⟩ := oif_some h
  obtain ⟨v5, -, h⟩ := elet_some h
  rcases oif_or h with ⟨c6, h⟩ | ⟨c6, h⟩
  · have h := h
    rw [← (osome3 h).2.2]
    exact p0
  · have h := h
    rw [← (osome3 h).2.2]
    exact p0
set_option maxHeartbeats 4000000 in
set_option maxRecDepth 100000 in
theorem x_X11_needCamera (l : Launch) (hst : l.stackTraces = false) (D : va_G) (cI cJ cZ cMic cSrc cSt cAI cAJ : ClassId) (ad : Nat → Nat) (T : AT) (o : Nat) {e1 : Nat} {r1 : Int32} {T1 : AT} (h : g_X11_needCamera T o = some (e1 + 1, r1, T1)) : kXv l yX11_needCamera (Cond.code yX11_needCamera cX11_needCamera 1 none :: wsA) 6 81 cI cJ cZ cMic cSrc cSt cAI cAJ D ad T [.ref (ad o)] e1 T1 := by
  intro sz
  refine vx_ofW (cc := cX11_needCamera) (maxL := 1) (ret := none) (by decide) rfl ?_
  intro p e s m args below meth c s₁ B hml htab hv
  obtain ⟨rfl, hsz, hP, hK, hD0, hX, hN⟩ := hv
  have hx := B.exec
  have hb := B.bytes
  have hr := B.returns
  have hts := atoms_spec (ws := (Cond.code yX11_needCamera cX11_needCamera 1 none :: wsA)) B.pre
  have hown : s.vm.findClass RX11 = some m.cls := findClass_of_methodNamed B.named
  have hlocks := B.notSynchronized
  subst hsz
  have hD := hD0.self (sz := s.heap.size)
  generalize hAe : va_A (cW ad T.1 (cc cI cJ cZ cMic cSrc cSt cAI cAJ ad T)) s.heap.size = A at hD hX ⊢
  have hA : ∀ q : Nat, s.heap.size ≤ q → A q := fun q h => by rw [← hAe]; exact Or.inr h
  have G : gC cI cJ cZ cMic cSrc cSt cAI cAJ D ad A s.heap s.heap [] T := ⟨hP, hD, va_S.rf⟩
  have E : cE p c cX11_needCamera s m ([.ref (ad o)] : List Value).toArray (Cond.code yX11_needCamera cX11_needCamera 1 none :: wsA) D RX11 (CT cI cJ cZ cMic cSrc cSt cAI cAJ) := ⟨hx, hb, hts, hown, hK⟩
  have htab : ∀ x ∈ c.exceptionTable.toList, False := fun x hx => htab x hx
  have hl := lv_entry ([.ref (ad o)]) (n := 1) (Nat.le_of_ble_eq_true rfl)
  rw [lg_entry_eq]
  generalize (lg_sl ([.ref (ad o)]) ++ List.replicate (1 - (lg_sl ([.ref (ad o)])).length) Slot.unset).toArray = ls at hl ⊢
  have hl : lv_has ls 1 [(0, .ref (ad o))] := hl
  unfold g_X11_needCamera at h
  refine lv_aload_n hx hb dX11_needCamera_0 rfl (lv_at hl 0 rfl) ?_
  obtain ⟨g2, h⟩ := oif_some h
  obtain ⟨n3, en3, h⟩ := obind_some h
  refine c_get E G o 14 (v := .ref (ad n3)) (oO_k g2).1 (cc_o11 (oO_k g2).2) rfl (fun w h => .tail _ (iA_23 h)) (by decide) (.tail _ qA_675) rfl (by rw [en3]; rfl) dX11_needCamera_1 ?_
  clear en3
  obtain ⟨g4, h⟩ := oif_some h
  refine c_get E G n3 5 (oO_k g4).1 (cc_o6 (oO_k g4).2) rfl (fun w h => .tail _ (iA_14 h)) (by decide) (.tail _ qA_721) rfl rfl dX11_needCamera_4 ?_
  refine lv_topi (fun v5 ev5 => ?_)
  have h := elet_at ev5 h
  clear ev5
  refine lv_if_ne (tgt := 18) hx hb dX11_needCamera_7 (by decide) (fun c6 => ?_) (fun c6 => ?_)
  · have h := oif_neg c6 h
    exact (Nat.succ_ne_zero _ (congrArg Prod.fst (Option.some.inj h)).symm).elim
  · have h := oif_pos c6 h
    have hz : exn e1 = xISE := by rw [show e1 = 0 by have := (osome3 h).1; omega]; rfl
    rw [(osome3 h).2.2] at G
    refine vx_throw0 (own := RX11) (cls := xISE) (names := ["java/lang/RuntimeException", "java/lang/Exception"]) (ik := 397) (ic := 399) (A := A) hx hb hst hown (by decide +kernel) (by decide +kernel) (hts _ (.tail _ qA_732)) (hts _ (.tail _ qA_733)) (vx_hat (B := xB) (fun w h => hts w (.tail _ (iA_26 h))) (by decide +kernel) hX.use) (by decide +kernel) hX.1 hX.2.1 G.2.2 (hl.1.trans hml.symm) dX11_needCamera_10 dX11_needCamera_13 dX11_needCamera_14 dX11_needCamera_17 (fun x hx => (htab x hx).elim) (Nat.le_of_ble_eq_true rfl) (Nat.le_of_ble_eq_true rfl) (Nat.le_of_ble_eq_true rfl) (Nat.le_of_ble_eq_true rfl) hlocks (fun t hvm h1 h2 => ?_) G.2.2.2.2 (Nat.le_refl _) (Nat.le_refl _)
    exact ⟨T1, trivial, ⟨⟨hz.symm, rfl⟩, (c_thrown G hK hvm h1 h2).1⟩, (c_thrown G hK hvm h1 h2).2⟩
def g_X11_needIndex_b9  (T : AT)  : Option (Nat × Int32 × AT) := some (2, 0, T)
set_option maxHeartbeats 4000000 in
set_option maxRecDepth 100000 in
theorem u_X11_needIndex_b9 {p : Program} {l : Launch} {e : Env} {s : State} {m : MethodId} {args : Array Value} {below : List Frame} {meth : Method} {c : Code} {Q : State → Prop} {D : va_G} {A : Nat → Prop} {cI cJ cZ cMic cSrc cSt cAI cAJ : ClassId} {ad : Nat → Nat} {r1 : Int32} {T1 : AT} (E : cE p c cX11_needIndex s m args (Cond.code yX11_needIndex cX11_needIndex 2 none :: wsA) D RX11 (CT cI cJ cZ cMic cSrc cSt cAI cAJ)) (hA : ∀ q : Nat, s.heap.size ≤ q → A q) (hX : xT A s) (hN : nX s) (hml : c.maxLocals = 2) (hst : l.stackTraces = false) (kr17 : ∀ (H : Heap) (locs : List Loc) (ls : Array Slot), gC cI cJ cZ cMic cSrc cSt cAI cAJ D ad A s.heap H locs T1 → W p l e { frames := 6, cells := 0, slots := 0, locals := 81 } s m args below meth c H locs 0 0 Q (F0 m 17 ls [])) : ∀ (T : AT) (H : Heap) (locs : List Loc) (ls : Array Slot), g_X11_needIndex_b9 T = some (0, r1, T1) → gC cI cJ cZ cMic cSrc cSt cAI cAJ D ad A s.heap H locs T → lv_has ls 2 [] → W p l e { frames := 6, cells := 0, slots := 0, locals := 81 } s m args below meth c H locs 0 0 Q (F0 m 9 ls []) := by
  have hx := E.1
  have hb := E.2.1
  have hts := E.2.2.1
  have hown := E.2.2.2.1
  have hK := E.2.2.2.2
  intro T H locs ls h G hl
  unfold g_X11_needIndex_b9 at h
  exact absurd (osome3 h).1 (by decide)
def g_X11_needIndex (T : AT) (a0 : Int32) (a1 : Int32) : Option (Nat × Int32 × AT) := if a0 < 0 then (g_X11_needIndex_b9 T) else (if a0 < a1 then (some (0, 0, T)) else (g_X11_needIndex_b9 T))
set_option maxHeartbeats 4000000 in
set_option maxRecDepth 100000 in
theorem u_X11_needIndex (l : Launch) (hst : l.stackTraces = false) (D : va_G) (cI cJ cZ cMic cSrc cSt cAI cAJ : ClassId) (ad : Nat → Nat) (T : AT) (a0 : Int32) (a1 : Int32) {r1 : Int32} {T1 : AT} (h : g_X11_needIndex T a0 a1 = some (0, r1, T1)) : kCv l yX11_needIndex (Cond.code yX11_needIndex cX11_needIndex 2 none :: wsA) 6 81 cI cJ cZ cMic cSrc cSt cAI cAJ D ad T [.int a0, .int a1] (fun T9 => T9 = T1) := by
  intro sz
  refine Met.ofW (cc := cX11_needIndex) (maxL := 2) (ret := none) (by decide) rfl ?_
  intro p e s m args below meth c s₁ B hml hv
  obtain ⟨rfl, hsz, hP, hK, hD0, hX, hN⟩ := hv
  have hx := B.exec
  have hb := B.bytes
  have hr := B.returns
  have hts := atoms_spec (ws := (Cond.code yX11_needIndex cX11_needIndex 2 none :: wsA)) B.pre
  have hown : s.vm.findClass RX11 = some m.cls := findClass_of_methodNamed B.named
  have hlocks := B.notSynchronized
  subst hsz
  have hD := hD0.self (sz := s.heap.size)
  generalize hAe : va_A (cW ad T.1 (cc cI cJ cZ cMic cSrc cSt cAI cAJ ad T)) s.heap.size = A at hD hX ⊢
  have hA : ∀ q : Nat, s.heap.size ≤ q → A q := fun q h => by rw [← hAe]; exact Or.inr h
  have G : gC cI cJ cZ cMic cSrc cSt cAI cAJ D ad A s.heap s.heap [] T := ⟨hP, hD, va_S.rf⟩
  have E : cE p c cX11_needIndex s m ([.int a0, .int a1] : List Value).toArray (Cond.code yX11_needIndex cX11_needIndex 2 none :: wsA) D RX11 (CT cI cJ cZ cMic cSrc cSt cAI cAJ) := ⟨hx, hb, hts, hown, hK⟩
  have hl := lv_entry ([.int a0, .int a1]) (n := 2) (Nat.le_of_ble_eq_true rfl)
  rw [lg_entry_eq]
  generalize (lg_sl ([.int a0, .int a1]) ++ List.replicate (2 - (lg_sl ([.int a0, .int a1])).length) Slot.unset).toArray = ls at hl ⊢
  have hl : lv_has ls 2 [(0, .int a0), (1, .int a1)] := hl
  unfold g_X11_needIndex at h
  refine lv_iload_n hx hb dX11_needIndex_0 rfl (lv_at hl 0 rfl) ?_
  refine lv_if_lt (tgt := 9) hx hb dX11_needIndex_1 (by decide) (fun c2 => ?_) (fun c2 => ?_)
  · have h := oif_pos c2 h
    have hl := lv_sub hl [] rfl
    exact u_X11_needIndex_b9 E hA hX hN hml hst (fun H locs ls G => W.vret hx hb hr (fun t ht hW => ⟨⟨T1, rfl, rfl, ⟨by rw [ht]; exact G.1, va_K.moved hW.alike hK, G.2.1⟩⟩, G.2.2.F ht⟩) G.2.2.2.2 dX11_needIndex_17) _ _ _ _ h G hl
  · have h := oif_neg c2 h
    refine lv_iload_n hx hb dX11_needIndex_4 rfl (lv_at hl 0 rfl) ?_
    refine lv_iload_n hx hb dX11_needIndex_5 rfl (lv_at hl 1 rfl) ?_
    refine lv_icmp_lt (tgt := 17) hx hb dX11_needIndex_6 (by decide) (fun c3 => ?_) (fun c3 => ?_)
    · have h := oif_pos c3 h
      exact W.vret hx hb hr (fun t ht hW => ⟨⟨T, rfl, (osome3 h).2.2, ⟨by rw [ht]; exact G.1, va_K.moved hW.alike hK, G.2.1⟩⟩, G.2.2.F ht⟩) G.2.2.2.2 dX11_needIndex_17
    · have h := oif_neg c3 h
      have hl := lv_sub hl [] rfl
      exact u_X11_needIndex_b9 E hA hX hN hml hst (fun H locs ls G => W.vret hx hb hr (fun t ht hW => ⟨⟨T1, rfl, rfl, ⟨by rw [ht]; exact G.1, va_K.moved hW.alike hK, G.2.1⟩⟩, G.2.2.F ht⟩) G.2.2.2.2 dX11_needIndex_17) _ _ _ _ h G hl
set_option maxHeartbeats 4000000 in
set_option maxRecDepth 100000 in
theorem s_X11_needIndex_b9 {e1 : Nat} {r1 : Int32} {T1 : AT} : ∀ (T : AT), g_X11_needIndex_b9 T = some (e1, r1, T1) → SP T T1 := by
  intro T h
  have p0 := SP.rf T
  unfold g_X11_needIndex_b9 at h
  rw [← (osome3 h).2.2]
  exact p0
set_option maxHeartbeats 4000000 in
set_option maxRecDepth 100000 in
theorem s_X11_needIndex {T : AT} {a0 : Int32} {a1 : Int32} {e1 : Nat} {r1 : Int32} {T1 : AT} (h : g_X11_needIndex T a0 a1 = some (e1, r1, T1)) : SP T T1 := by
  have p0 := SP.rf T
  unfold g_X11_needIndex at h
  rcases oif_or h with ⟨c2, h⟩ | ⟨c2, h⟩
  · have h := h
    exact SP.tr p0 (s_X11_needIndex_b9 _ h)
  · have h := h
    rcases oif_or h with ⟨c3, h⟩ | ⟨c3, h⟩
    · have h := h
      rw [← (osome3 h).2.2]
      exact p0
    · have h := h
      exact SP.tr p0 (s_X11_needIndex_b9 _ h)
set_option maxHeartbeats 4000000 in
set_option maxRecDepth 100000 in
theorem x_X11_needIndex_b9 {p : Program} {l : Launch} {e : Env} {s : State} {m : MethodId} {args : Array Value} {below : List Frame} {meth : Method} {c : Code} {Qc : Array Value → State → Outcome → State → Prop} {XC : String → State → State → Prop} {D : va_G} {A : Nat → Prop} {cI cJ cZ cMic cSrc cSt cAI cAJ : ClassId} {ad : Nat → Nat} {e1 : Nat} {r1 : Int32} {T1 : AT} (E : cE p c cX11_needIndex s m args (Cond.code yX11_needIndex cX11_needIndex 2 none :: wsA) D RX11 (CT cI cJ cZ cMic cSrc cSt cAI cAJ)) (hA : ∀ q : Nat, s.heap.size ≤ q → A q) (hX : xT A s) (hN : nX s) (hml : c.maxLocals = 2) (hz9 : True) (hst : l.stackTraces = false) (htab : ∀ x ∈ c.exceptionTable.toList, False) (hlocks : meth.locks = false) (kx : ∀ (H : Heap) (locs : List Loc) (t : State), gC cI cJ cZ cMic cSrc cSt cAI cAJ D ad A s.heap H locs T1 → s.vm.Alike t.vm → H.size ≤ t.heap.size → (∀ q, q < H.size → t.heap[q]? = H[q]?) → XC (exn e1) s t) : ∀ (T : AT) (H : Heap) (locs : List Loc) (ls : Array Slot), g_X11_needIndex_b9 T = some (e1 + 1, r1, T1) → gC cI cJ cZ cMic cSrc cSt cAI cAJ D ad A s.heap H locs T → lv_has ls 2 [] → W p l e { frames := 6, cells := 1, slots := 6, locals := 81 } s m args below meth c H locs 0 0 (vx_MQ below Qc XC args s 1 6 A) (F0 m 9 ls []) := by
  have hx := E.1
  have hb := E.2.1
  have hts := E.2.2.1
  have hown := E.2.2.2.1
  have hK := E.2.2.2.2
  intro T H locs ls h G hl
  unfold g_X11_needIndex_b9 at h
  have hz : exn e1 = xIOB := by rw [show e1 = 1 by have := (osome3 h).1; omega]; rfl
  rw [(osome3 h).2.2] at G
  refine vx_throw0 (own := RX11) (cls := xIOB) (names := ["java/lang/RuntimeException", "java/lang/Exception"]) (ik := 103) (ic := 105) (A := A) hx hb hst hown (by decide +kernel) (by decide +kernel) (hts _ (.tail _ qA_693)) (hts _ (.tail _ qA_694)) (vx_hat (B := xB) (fun w h => hts w (.tail _ (iA_25 h))) (by decide +kernel) hX.use) (by decide +kernel) hX.1 hX.2.1 G.2.2 (hl.1.trans hml.symm) dX11_needIndex_9 dX11_needIndex_12 dX11_needIndex_13 dX11_needIndex_16 (fun x hx => (htab x hx).elim) (Nat.le_of_ble_eq_true rfl) (Nat.le_of_ble_eq_true rfl) (Nat.le_of_ble_eq_true rfl) (Nat.le_of_ble_eq_true rfl) hlocks (fun t hvm h1 h2 => ?_) G.2.2.2.2 (Nat.le_refl _) (Nat.le_refl _)
  rw [← hz]
  exact kx _ _ _ G hvm h1 h2
set_option maxHeartbeats 4000000 in
set_option maxRecDepth 100000 in
theorem x_X11_needIndex (l : Launch) (hst : l.stackTraces = false) (D : va_G) (cI cJ cZ cMic cSrc cSt cAI cAJ : ClassId) (ad : Nat → Nat) (T : AT) (a0 : Int32) (a1 : Int32) {e1 : Nat} {r1 : Int32} {T1 : AT} (h : g_X11_needIndex T a0 a1 = some (e1 + 1, r1, T1)) : kXv l yX11_needIndex (Cond.code yX11_needIndex cX11_needIndex 2 none :: wsA) 6 81 cI cJ cZ cMic cSrc cSt cAI cAJ D ad T [.int a0, .int a1] e1 T1 := by
  intro sz
  refine vx_ofW (cc := cX11_needIndex) (maxL := 2) (ret := none) (by decide) rfl ?_
  intro p e s m args below meth c s₁ B hml htab hv
  obtain ⟨rfl, hsz, hP, hK, hD0, hX, hN⟩ := hv
  have hx := B.exec
  have hb := B.bytes
  have hr := B.returns
  have hts := atoms_spec (ws := (Cond.code yX11_needIndex cX11_needIndex 2 none :: wsA)) B.pre
  have hown : s.vm.findClass RX11 = some m.cls := findClass_of_methodNamed B.named
  have hlocks := B.notSynchronized
  subst hsz
  have hD := hD0.self (sz := s.heap.size)
  generalize hAe : va_A (cW ad T.1 (cc cI cJ cZ cMic cSrc cSt cAI cAJ ad T)) s.heap.size = A at hD hX ⊢
  have hA : ∀ q : Nat, s.heap.size ≤ q → A q := fun q h => by rw [← hAe]; exact Or.inr h
  have G : gC cI cJ cZ cMic cSrc cSt cAI cAJ D ad A s.heap s.heap [] T := ⟨hP, hD, va_S.rf⟩
  have E : cE p c cX11_needIndex s m ([.int a0, .int a1] : List Value).toArray (Cond.code yX11_needIndex cX11_needIndex 2 none :: wsA) D RX11 (CT cI cJ cZ cMic cSrc cSt cAI cAJ) := ⟨hx, hb, hts, hown, hK⟩
  have htab : ∀ x ∈ c.exceptionTable.toList, False := fun x hx => htab x hx
  have hl := lv_entry ([.int a0, .int a1]) (n := 2) (Nat.le_of_ble_eq_true rfl)
  rw [lg_entry_eq]
  generalize (lg_sl ([.int a0, .int a1]) ++ List.replicate (2 - (lg_sl ([.int a0, .int a1])).length) Slot.unset).toArray = ls at hl ⊢
  have hl : lv_has ls 2 [(0, .int a0), (1, .int a1)] := hl
  unfold g_X11_needIndex at h
  refine lv_iload_n hx hb dX11_needIndex_0 rfl (lv_at hl 0 rfl) ?_
  refine lv_if_lt (tgt := 9) hx hb dX11_needIndex_1 (by decide) (fun c2 => ?_) (fun c2 => ?_)
  · have h := oif_pos c2 h
    have hl := lv_sub hl [] rfl
    exact x_X11_needIndex_b9 E hA hX hN hml trivial hst htab hlocks (fun H locs t G hvm h1 h2 => ⟨T1, trivial, ⟨⟨rfl, rfl⟩, (c_thrown G hK hvm h1 h2).1⟩, (c_thrown G hK hvm h1 h2).2⟩) _ _ _ _ h G hl
  · have h := oif_neg c2 h
    refine lv_iload_n hx hb dX11_needIndex_4 rfl (lv_at hl 0 rfl) ?_
    refine lv_iload_n hx hb dX11_needIndex_5 rfl (lv_at hl 1 rfl) ?_
    refine lv_icmp_lt (tgt := 17) hx hb dX11_needIndex_6 (by decide) (fun c3 => ?_) (fun c3 => ?_)
    · have h := oif_pos c3 h
      exact (Nat.succ_ne_zero _ (congrArg Prod.fst (Option.some.inj h)).symm).elim
    · have h := oif_neg c3 h
      have hl := lv_sub hl [] rfl
      exact x_X11_needIndex_b9 E hA hX hN hml trivial hst htab hlocks (fun H locs t G hvm h1 h2 => ⟨T1, trivial, ⟨⟨rfl, rfl⟩, (c_thrown G hK hvm h1 h2).1⟩, (c_thrown G hK hvm h1 h2).2⟩) _ _ _ _ h G hl
def g_X11_needMic (T : AT) (o : Nat) (a0 : Int32) : Option (Nat × Int32 × AT) := oif (oO T o 11 = true) <| obind (T.2.2.2.2 o 14) fun n3 => oif (oO T n3 6 = true) <| elet (T.2.2.1 n3 5) fun v5 => othr (g_X11_needIndex T a0 v5) 0 fun r8 T6 => some (0, 0, T6)
set_option maxHeartbeats 4000000 in
set_option maxRecDepth 100000 in
theorem u_X11_needMic (l : Launch) (hst : l.stackTraces = false) (D : va_G) (cI cJ cZ cMic cSrc cSt cAI cAJ : ClassId) (ad : Nat → Nat) (T : AT) (o : Nat) (a0 : Int32) {r1 : Int32} {T1 : AT} (h : g_X11_needMic T o a0 = some (0, r1, T1)) : kCv l yX11_needMic (Cond.code yX11_needMic cX11_needMic 2 none :: wsA) 7 102 cI cJ cZ cMic cSrc cSt cAI cAJ D ad T [.ref (ad o), .int a0] (fun T9 => T9 = T1) := by
  intro sz
  refine Met.ofW (cc := cX11_needMic) (maxL := 2) (ret := none) (by decide) rfl ?_
  intro p e s m args below meth c s₁ B hml hv
  obtain ⟨rfl, hsz, hP, hK, hD0, hX, hN⟩ := hv
  have hx := B.exec
  have hb := B.bytes
  have hr := B.returns
  have hts := atoms_spec (ws := (Cond.code yX11_needMic cX11_needMic 2 none :: wsA)) B.pre
  have hown : s.vm.findClass RX11 = some m.cls := findClass_of_methodNamed B.named
  have hlocks := B.notSynchronized
  subst hsz
  have hD := hD0.self (sz := s.heap.size)
  generalize hAe : va_A (cW ad T.1 (cc cI cJ cZ cMic cSrc cSt cAI cAJ ad T)) s.heap.size = A at hD hX ⊢
  have hA : ∀ q : Nat, s.heap.size ≤ q → A q := fun q h => by rw [← hAe]; exact Or.inr h
  have G : gC cI cJ cZ cMic cSrc cSt cAI cAJ D ad A s.heap s.heap [] T := ⟨hP, hD, va_S.rf⟩
  have E : cE p c cX11_needMic s m ([.ref (ad o), .int a0] : List Value).toArray (Cond.code yX11_needMic cX11_needMic 2 none :: wsA) D RX11 (CT cI cJ cZ cMic cSrc cSt cAI cAJ) := ⟨hx, hb, hts, hown, hK⟩
  have hl := lv_entry ([.ref (ad o), .int a0]) (n := 2) (Nat.le_of_ble_eq_true rfl)
  rw [lg_entry_eq]
  generalize (lg_sl ([.ref (ad o), .int a0]) ++ List.replicate (2 - (lg_sl ([.ref (ad o), .int a0])).length) Slot.unset).toArray = ls at hl ⊢
  have hl : lv_has ls 2 [(0, .ref (ad o)), (1, .int a0)] := hl
  unfold g_X11_needMic at h
  refine lv_iload_n hx hb dX11_needMic_0 rfl (lv_at hl 1 rfl) ?_
  refine lv_aload_n hx hb dX11_needMic_1 rfl (lv_at hl 0 rfl) ?_
  obtain ⟨g2, h⟩ := oif_some h
  obtain ⟨n3, en3, h⟩ := obind_some h
  refine c_get E G o 14 (v := .ref (ad n3)) (oO_k g2).1 (cc_o11 (oO_k g2).2) rfl (fun w h => .tail _ (iA_23 h)) (by decide) (.tail _ qA_675) rfl (by rw [en3]; rfl) dX11_needMic_2 ?_
  clear en3
  obtain ⟨g4, h⟩ := oif_some h
  refine c_get E G n3 5 (oO_k g4).1 (cc_o6 (oO_k g4).2) rfl (fun w h => .tail _ (iA_14 h)) (by decide) (.tail _ qA_721) rfl rfl dX11_needMic_5 ?_
  refine lv_topi (fun v5 ev5 => ?_)
  have h := elet_at ev5 h
  clear ev5
  obtain ⟨r8, T6, eT6, h⟩ := othr_n h
  refine q_csv (As := [.int a0, .int v5]) (rest := []) E G hA hX hN hml (u_X11_needIndex l hst D cI cJ cZ cMic cSrc cSt cAI cAJ ad T a0 v5 eT6) (cwS 2 hts (gaS qA_738 qA_739 qA_131 qA_740) rfl rfl rfl (by decide +kernel) ⟨Nat.le_of_ble_eq_true rfl, Nat.le_of_ble_eq_true rfl⟩) rfl hl.1 rfl (lv_room (Nat.le_of_ble_eq_true rfl)) dX11_needMic_8 ⟨Nat.zero_le _, Nat.zero_le _⟩ (fun T7 H locs hq G => ?_)
  rw [hq] at G
  clear hq eT6
  exact W.vret hx hb hr (fun t ht hW => ⟨⟨T6, rfl, (osome3 h).2.2, ⟨by rw [ht]; exact G.1, va_K.moved hW.alike hK, G.2.1⟩⟩, G.2.2.F ht⟩) G.2.2.2.2 dX11_needMic_11
set_option maxHeartbeats 4000000 in
set_option maxRecDepth 100000 in
theorem s_X11_needMic {T : AT} {o : Nat} {a0 : Int32} {e1 : Nat} {r1 : Int32} {T1 : AT} (h : g_X11_needMic T o a0 = some (e1, r1, T1)) : SP T T1 := by
  have p0 := SP.rf T
  unfold g_X11_needMic at h
  obtain ⟨g2, h⟩ := oif_some h
  obtain ⟨n3, en3, h⟩ := obind_some h
  obtain ⟨g4, h⟩ := oif_some h
  obtain ⟨v5, -, h⟩ := elet_some h
  rcases othr_s h with ⟨k9, r9, e9, -⟩ | ⟨r7, T6, eT6, h⟩
  · exact SP.tr p0 (s_X11_needIndex e9)
  have p1 : SP T T6 := SP.tr p0 (s_X11_needIndex eT6)
  rw [← (osome3 h).2.2]
  exact p1
set_option maxHeartbeats 4000000 in
set_option maxRecDepth 100000 in
theorem x_X11_needMic (l : Launch) (hst : l.stackTraces = false) (D : va_G) (cI cJ cZ cMic cSrc cSt cAI cAJ : ClassId) (ad : Nat → Nat) (T : AT) (o : Nat) (a0 : Int32) {e1 : Nat} {r1 : Int32} {T1 : AT} (h : g_X11_needMic T o a0 = some (e1 + 1, r1, T1)) : kXv l yX11_needMic (Cond.code yX11_needMic cX11_needMic 2 none :: wsA) 7 102 cI cJ cZ cMic cSrc cSt cAI cAJ D ad T [.ref (ad o), .int a0] e1 T1 := by
  intro sz
  refine vx_ofW (cc := cX11_needMic) (maxL := 2) (ret := none) (by decide) rfl ?_
  intro p e s m args below meth c s₁ B hml htab hv
  obtain ⟨rfl, hsz, hP, hK, hD0, hX, hN⟩ := hv
  have hx := B.exec
  have hb := B.bytes
  have hr := B.returns
  have hts := atoms_spec (ws := (Cond.code yX11_needMic cX11_needMic 2 none :: wsA)) B.pre
  have hown : s.vm.findClass RX11 = some m.cls := findClass_of_methodNamed B.named
  have hlocks := B.notSynchronized
  subst hsz
  have hD := hD0.self (sz := s.heap.size)
  generalize hAe : va_A (cW ad T.1 (cc cI cJ cZ cMic cSrc cSt cAI cAJ ad T)) s.heap.size = A at hD hX ⊢
  have hA : ∀ q : Nat, s.heap.size ≤ q → A q := fun q h => by rw [← hAe]; exact Or.inr h
  have G : gC cI cJ cZ cMic cSrc cSt cAI cAJ D ad A s.heap s.heap [] T := ⟨hP, hD, va_S.rf⟩
  have E : cE p c cX11_needMic s m ([.ref (ad o), .int a0] : List Value).toArray (Cond.code yX11_needMic cX11_needMic 2 none :: wsA) D RX11 (CT cI cJ cZ cMic cSrc cSt cAI cAJ) := ⟨hx, hb, hts, hown, hK⟩
  have htab : ∀ x ∈ c.exceptionTable.toList, False := fun x hx => htab x hx
  have hl := lv_entry ([.ref (ad o), .int a0]) (n := 2) (Nat.le_of_ble_eq_true rfl)
  rw [lg_entry_eq]
  generalize (lg_sl ([.ref (ad o), .int a0]) ++ List.replicate (2 - (lg_sl ([.ref (ad o), .int a0])).length) Slot.unset).toArray = ls at hl ⊢
  have hl : lv_has ls 2 [(0, .ref (ad o)), (1, .int a0)] := hl
  unfold g_X11_needMic at h
  refine lv_iload_n hx hb dX11_needMic_0 rfl (lv_at hl 1 rfl) ?_
  refine lv_aload_n hx hb dX11_needMic_1 rfl (lv_at hl 0 rfl) ?_
  obtain ⟨g2, h⟩ := oif_some h
  obtain ⟨n3, en3, h⟩ := obind_some h
  refine c_get E G o 14 (v := .ref (ad n3)) (oO_k g2).1 (cc_o11 (oO_k g2).2) rfl (fun w h => .tail _ (iA_23 h)) (by decide) (.tail _ qA_675) rfl (by rw [en3]; rfl) dX11_needMic_2 ?_
  clear en3
  obtain ⟨g4, h⟩ := oif_some h
  refine c_get E G n3 5 (oO_k g4).1 (cc_o6 (oO_k g4).2) rfl (fun w h => .tail _ (iA_14 h)) (by decide) (.tail _ qA_721) rfl rfl dX11_needMic_5 ?_
  refine lv_topi (fun v5 ev5 => ?_)
  have h := elet_at ev5 h
  clear ev5
  rcases othr_t h with ⟨r0, eT6⟩ | ⟨r8, T6, eT6, h⟩
  · refine q_xsv (As := [.int a0, .int v5]) (rest := []) E G hA hX hN hml (x_X11_needIndex l hst D cI cJ cZ cMic cSrc cSt cAI cAJ ad T a0 v5 eT6) (cwS 2 hts (gaS qA_738 qA_739 qA_131 qA_740) rfl rfl rfl (by decide +kernel) ⟨Nat.le_of_ble_eq_true rfl, Nat.le_of_ble_eq_true rfl⟩) rfl hl.1 rfl (lv_room (Nat.le_of_ble_eq_true rfl)) dX11_needMic_8 ⟨Nat.le_of_ble_eq_true rfl, Nat.le_of_ble_eq_true rfl⟩ (fun E9 ce q9 T9 H locs hp G hce hcv hcl => ?_)
    obtain ⟨hE, hT⟩ := hp
    subst hE
    rw [hT] at G
    exact vx_out (fun x hx => (htab x hx).elim) hlocks hce hcv hcl (fun t ht hvm => ⟨T1, trivial, ⟨⟨rfl, rfl⟩, by rw [ht]; exact G.1, va_K.moved hvm hK, G.2.1⟩, G.2.2.F ht⟩) G.2.2.2.2 (Nat.le_refl _) (Nat.le_refl _)
  refine q_csv (As := [.int a0, .int v5]) (rest := []) E G hA hX hN hml (u_X11_needIndex l hst D cI cJ cZ cMic cSrc cSt cAI cAJ ad T a0 v5 eT6) (cwS 2 hts (gaS qA_738 qA_739 qA_131 qA_740) rfl rfl rfl (by decide +kernel) ⟨Nat.le_of_ble_eq_true rfl, Nat.le_of_ble_eq_true rfl⟩) rfl hl.1 rfl (lv_room (Nat.le_of_ble_eq_true rfl)) dX11_needMic_8 ⟨Nat.zero_le _, Nat.zero_le _⟩ (fun T7 H locs hq G => ?_)
  rw [hq] at G
  clear hq eT6
  exact (Nat.succ_ne_zero _ (congrArg Prod.fst (Option.some.inj h)).symm).elim
def g_X11_needRange_b10  (T : AT)  : Option (Nat × Int32 × AT) := some (3, 0, T)
set_option maxHeartbeats 4000000 in
set_option maxRecDepth 100000 in
theorem u_X11_needRange_b10 {p : Program} {l : Launch} {e : Env} {s : State} {m : MethodId} {args : Array Value} {below : List Frame} {meth : Method} {c : Code} {Q : State → Prop} {D : va_G} {A : Nat → Prop} {cI cJ cZ cMic cSrc cSt cAI cAJ : ClassId} {ad : Nat → Nat} {r1 : Int32} {T1 : AT} (E : cE p c cX11_needRange s m args (Cond.code yX11_needRange cX11_needRange 3 none :: wsA) D RX11 (CT cI cJ cZ cMic cSrc cSt cAI cAJ)) (hA : ∀ q : Nat, s.heap.size ≤ q → A q) (hX : xT A s) (hN : nX s) (hml : c.maxLocals = 3) (hst : l.stackTraces = false) (kr18 : ∀ (H : Heap) (locs : List Loc) (ls : Array Slot), gC cI cJ cZ cMic cSrc cSt cAI cAJ D ad A s.heap H locs T1 → W p l e { frames := 6, cells := 0, slots := 0, locals := 81 } s m args below meth c H locs 0 0 Q (F0 m 18 ls [])) : ∀ (T : AT) (H : Heap) (locs : List Loc) (ls : Array Slot), g_X11_needRange_b10 T = some (0, r1, T1) → gC cI cJ cZ cMic cSrc cSt cAI cAJ D ad A s.heap H locs T → lv_has ls 3 [] → W p l e { frames := 6, cells := 0, slots := 0, locals := 81 } s m args below meth c H locs 0 0 Q (F0 m 10 ls []) := by
  have hx := E.1
  have hb := E.2.1
  have hts := E.2.2.1
  have hown := E.2.2.2.1
  have hK := E.2.2.2.2
  intro T H locs ls h G hl
  unfold g_X11_needRange_b10 at h
  exact absurd (osome3 h).1 (by decide)
def g_X11_needRange (T : AT) (a0 : Int32) (a1 : Int32) (a2 : Int32) : Option (Nat × Int32 × AT) := if a0 < a1 then (g_X11_needRange_b10 T) else (if a0 ≤ a2 then (some (0, 0, T)) else (g_X11_needRange_b10 T))
set_option maxHeartbeats 4000000 in
set_option maxRecDepth 100000 in
theorem u_X11_needRange (l : Launch) (hst : l.stackTraces = false) (D : va_G) (cI cJ cZ cMic cSrc cSt cAI cAJ : ClassId) (ad : Nat → Nat) (T : AT) (a0 : Int32) (a1 : Int32) (a2 : Int32) {r1 : Int32} {T1 : AT} (h : g_X11_needRange T a0 a1 a2 = some (0, r1, T1)) : kCv l yX11_needRange (Cond.code yX11_needRange cX11_needRange 3 none :: wsA) 6 81 cI cJ cZ cMic cSrc cSt cAI cAJ D ad T [.int a0, .int a1, .int a2] (fun T9 => T9 = T1) := by
  intro sz
  refine Met.ofW (cc := cX11_needRange) (maxL := 3) (ret := none) (by decide) rfl ?_
  intro p e s m args below meth c s₁ B hml hv
  obtain ⟨rfl, hsz, hP, hK, hD0, hX, hN⟩ := hv
  have hx := B.exec
  have hb := B.bytes
  have hr := B.returns
  have hts := atoms_spec (ws := (Cond.code yX11_needRange cX11_needRange 3 none :: wsA)) B.pre
  have hown : s.vm.findClass RX11 = some m.cls := findClass_of_methodNamed B.named
  have hlocks := B.notSynchronized
  subst hsz
  have hD := hD0.self (sz := s.heap.size)
  generalize hAe : va_A (cW ad T.1 (cc cI cJ cZ cMic cSrc cSt cAI cAJ ad T)) s.heap.size = A at hD hX ⊢
  have hA : ∀ q : Nat, s.heap.size ≤ q → A q := fun q h => by rw [← hAe]; exact Or.inr h
  have G : gC cI cJ cZ cMic cSrc cSt cAI cAJ D ad A s.heap s.heap [] T := ⟨hP, hD, va_S.rf⟩
  have E : cE p c cX11_needRange s m ([.int a0, .int a1, .int a2] : List Value).toArray (Cond.code yX11_needRange cX11_needRange 3 none :: wsA) D RX11 (CT cI cJ cZ cMic cSrc cSt cAI cAJ) := ⟨hx, hb, hts, hown, hK⟩
  have hl := lv_entry ([.int a0, .int a1, .int a2]) (n := 3) (Nat.le_of_ble_eq_true rfl)
  rw [lg_entry_eq]
  generalize (lg_sl ([.int a0, .int a1, .int a2]) ++ List.replicate (3 - (lg_sl ([.int a0, .int a1, .int a2])).length) Slot.unset).toArray = ls at hl ⊢
  have hl : lv_has ls 3 [(0, .int a0), (1, .int a1), (2, .int a2)] := hl
  unfold g_X11_needRange at h
  refine lv_iload_n hx hb dX11_needRange_0 rfl (lv_at hl 0 rfl) ?_
  refine lv_iload_n hx hb dX11_needRange_1 rfl (lv_at hl 1 rfl) ?_
  refine lv_icmp_lt (tgt := 10) hx hb dX11_needRange_2 (by decide) (fun c2 => ?_) (fun c2 => ?_)
  · have h := oif_pos c2 h
    have hl := lv_sub hl [] rfl
    exact u_X11_needRange_b10 E hA hX hN hml hst (fun H locs ls G => W.vret hx hb hr (fun t ht hW => ⟨⟨T1, rfl, rfl, ⟨by rw [ht]; exact G.1, va_K.moved hW.alike hK, G.2.1⟩⟩, G.2.2.F ht⟩) G.2.2.2.2 dX11_needRange_18) _ _ _ _ h G hl
  · have h := oif_neg c2 h
    refine lv_iload_n hx hb dX11_needRange_5 rfl (lv_at hl 0 rfl) ?_
    refine lv_iload_n hx hb dX11_needRange_6 rfl (lv_at hl 2 rfl) ?_
    refine lv_icmp_le (tgt := 18) hx hb dX11_needRange_7 (by decide) (fun c3 => ?_) (fun c3 => ?_)
    · have h := oif_pos c3 h
      exact W.vret hx hb hr (fun t ht hW => ⟨⟨T, rfl, (osome3 h).2.2, ⟨by rw [ht]; exact G.1, va_K.moved hW.alike hK, G.2.1⟩⟩, G.2.2.F ht⟩) G.2.2.2.2 dX11_needRange_18
    · have h := oif_neg c3 h
      have hl := lv_sub hl [] rfl
      exact u_X11_needRange_b10 E hA hX hN hml hst (fun H locs ls G => W.vret hx hb hr (fun t ht hW => ⟨⟨T1, rfl, rfl, ⟨by rw [ht]; exact G.1, va_K.moved hW.alike hK, G.2.1⟩⟩, G.2.2.F ht⟩) G.2.2.2.2 dX11_needRange_18) _ _ _ _ h G hl
set_option maxHeartbeats 4000000 in
set_option maxRecDepth 100000 in
theorem s_X11_needRange_b10 {e1 : Nat} {r1 : Int32} {T1 : AT} : ∀ (T : AT), g_X11_needRange_b10 T = some (e1, r1, T1) → SP T T1 := by
  intro T h
  have p0 := SP.rf T
  unfold g_X11_needRange_b10 at h
  rw [← (osome3 h).2.2]
  exact p0
set_option maxHeartbeats 4000000 in
set_option maxRecDepth 100000 in
theorem s_X11_needRange {T : AT} {a0 : Int32} {a1 : Int32} {a2 : Int32} {e1 : Nat} {r1 : Int32} {T1 : AT} (h : g_X11_needRange T a0 a1 a2 = some (e1, r1, T1)) : SP T T1 := by
  have p0 := SP.rf T
  unfold g_X11_needRange at h
  rcases oif_or h with ⟨c2, h⟩ | ⟨c2, h⟩
  · have h := h
    exact SP.tr p0 (s_X11_needRange_b10 _ h)
  · have h := h
    rcases oif_or h with ⟨c3, h⟩ | ⟨c3, h⟩
    · have h := h
      rw [← (osome3 h).2.2]
      exact p0
    · have h := h
      exact SP.tr p0 (s_X11_needRange_b10 _ h)
set_option maxHeartbeats 4000000 in
set_option maxRecDepth 100000 in
theorem x_X11_needRange_b10 {p : Program} {l : Launch} {e : Env} {s : State} {m : MethodId} {args : Array Value} {below : List Frame} {meth : Method} {c : Code} {Qc : Array Value → State → Outcome → State → Prop} {XC : String → State → State → Prop} {D : va_G} {A : Nat → Prop} {cI cJ cZ cMic cSrc cSt cAI cAJ : ClassId} {ad : Nat → Nat} {e1 : Nat} {r1 : Int32} {T1 : AT} (E : cE p c cX11_needRange s m args (Cond.code yX11_needRange cX11_needRange 3 none :: wsA) D RX11 (CT cI cJ cZ cMic cSrc cSt cAI cAJ)) (hA : ∀ q : Nat, s.heap.size ≤ q → A q) (hX : xT A s) (hN : nX s) (hml : c.maxLocals = 3) (hz9 : True) (hst : l.stackTraces = false) (htab : ∀ x ∈ c.exceptionTable.toList, False) (hlocks : meth.locks = false) (kx : ∀ (H : Heap) (locs : List Loc) (t : State), gC cI cJ cZ cMic cSrc cSt cAI cAJ D ad A s.heap H locs T1 → s.vm.Alike t.vm → H.size ≤ t.heap.size → (∀ q, q < H.size → t.heap[q]? = H[q]?) → XC (exn e1) s t) : ∀ (T : AT) (H : Heap) (locs : List Loc) (ls : Array Slot), g_X11_needRange_b10 T = some (e1 + 1, r1, T1) → gC cI cJ cZ cMic cSrc cSt cAI cAJ D ad A s.heap H locs T → lv_has ls 3 [] → W p l e { frames := 6, cells := 1, slots := 6, locals := 81 } s m args below meth c H locs 0 0 (vx_MQ below Qc XC args s 1 6 A) (F0 m 10 ls []) := by
  have hx := E.1
  have hb := E.2.1
  have hts := E.2.2.1
  have hown := E.2.2.2.1
  have hK := E.2.2.2.2
  intro T H locs ls h G hl
  unfold g_X11_needRange_b10 at h
  have hz : exn e1 = xIAE := by rw [show e1 = 2 by have := (osome3 h).1; omega]; rfl
  rw [(osome3 h).2.2] at G
  refine vx_throw0 (own := RX11) (cls := xIAE) (names := ["java/lang/RuntimeException", "java/lang/Exception"]) (ik := 416) (ic := 418) (A := A) hx hb hst hown (by decide +kernel) (by decide +kernel) (hts _ (.tail _ qA_744)) (hts _ (.tail _ qA_298)) (vx_hat (B := xB) (fun w h => hts w (.tail _ (iA_27 h))) (by decide +kernel) hX.use) (by decide +kernel) hX.1 hX.2.1 G.2.2 (hl.1.trans hml.symm) dX11_needRange_10 dX11_needRange_13 dX11_needRange_14 dX11_needRange_17 (fun x hx => (htab x hx).elim) (Nat.le_of_ble_eq_true rfl) (Nat.le_of_ble_eq_true rfl) (Nat.le_of_ble_eq_true rfl) (Nat.le_of_ble_eq_true rfl) hlocks (fun t hvm h1 h2 => ?_) G.2.2.2.2 (Nat.le_refl _) (Nat.le_refl _)
  rw [← hz]
  exact kx _ _ _ G hvm h1 h2
set_option maxHeartbeats 4000000 in
set_option maxRecDepth 100000 in
theorem x_X11_needRange (l : Launch) (hst : l.stackTraces = false) (D : va_G) (cI cJ cZ cMic cSrc cSt cAI cAJ : ClassId) (ad : Nat → Nat) (T : AT) (a0 : Int32) (a1 : Int32) (a2 : Int32) {e1 : Nat} {r1 : Int32} {T1 : AT} (h : g_X11_needRange T a0 a1 a2 = some (e1 + 1, r1, T1)) : kXv l yX11_needRange (Cond.code yX11_needRange cX11_needRange 3 none :: wsA) 6 81 cI cJ cZ cMic cSrc cSt cAI cAJ D ad T [.int a0, .int a1, .int a2] e1 T1 := by
  intro sz
  refine vx_ofW (cc := cX11_needRange) (maxL := 3) (ret := none) (by decide) rfl ?_
  intro p e s m args below meth c s₁ B hml htab hv
  obtain ⟨rfl, hsz, hP, hK, hD0, hX, hN⟩ := hv
  have hx := B.exec
  have hb := B.bytes
  have hr := B.returns
  have hts := atoms_spec (ws := (Cond.code yX11_needRange cX11_needRange 3 none :: wsA)) B.pre
  have hown : s.vm.findClass RX11 = some m.cls := findClass_of_methodNamed B.named
  have hlocks := B.notSynchronized
  subst hsz
  have hD := hD0.self (sz := s.heap.size)
  generalize hAe : va_A (cW ad T.1 (cc cI cJ cZ cMic cSrc cSt cAI cAJ ad T)) s.heap.size = A at hD hX ⊢
  have hA : ∀ q : Nat, s.heap.size ≤ q → A q := fun q h => by rw [← hAe]; exact Or.inr h
  have G : gC cI cJ cZ cMic cSrc cSt cAI cAJ D ad A s.heap s.heap [] T := ⟨hP, hD, va_S.rf⟩
  have E : cE p c cX11_needRange s m ([.int a0, .int a1, .int a2] : List Value).toArray (Cond.code yX11_needRange cX11_needRange 3 none :: wsA) D RX11 (CT cI cJ cZ cMic cSrc cSt cAI cAJ) := ⟨hx, hb, hts, hown, hK⟩
  have htab : ∀ x ∈ c.exceptionTable.toList, False := fun x hx => htab x hx
  have hl := lv_entry ([.int a0, .int a1, .int a2]) (n := 3) (Nat.le_of_ble_eq_true rfl)
  rw [lg_entry_eq]
  generalize (lg_sl ([.int a0, .int a1, .int a2]) ++ List.replicate (3 - (lg_sl ([.int a0, .int a1, .int a2])).length) Slot.unset).toArray = ls at hl ⊢
  have hl : lv_has ls 3 [(0, .int a0), (1, .int a1), (2, .int a2)] := hl
  unfold g_X11_needRange at h
  refine lv_iload_n hx hb dX11_needRange_0 rfl (lv_at hl 0 rfl) ?_
  refine lv_iload_n hx hb dX11_needRange_1 rfl (lv_at hl 1 rfl) ?_
  refine lv_icmp_lt (tgt := 10) hx hb dX11_needRange_2 (by decide) (fun c2 => ?_) (fun c2 => ?_)
  · have h := oif_pos c2 h
    have hl := lv_sub hl [] rfl
    exact x_X11_needRange_b10 E hA hX hN hml trivial hst htab hlocks (fun H locs t G hvm h1 h2 => ⟨T1, trivial, ⟨⟨rfl, rfl⟩, (c_thrown G hK hvm h1 h2).1⟩, (c_thrown G hK hvm h1 h2).2⟩) _ _ _ _ h G hl
  · have h := oif_neg c2 h
    refine lv_iload_n hx hb dX11_needRange_5 rfl (lv_at hl 0 rfl) ?_
    refine lv_iload_n hx hb dX11_needRange_6 rfl (lv_at hl 2 rfl) ?_
    refine lv_icmp_le (tgt := 18) hx hb dX11_needRange_7 (by decide) (fun c3 => ?_) (fun c3 => ?_)
    · have h := oif_pos c3 h
      exact (Nat.succ_ne_zero _ (congrArg Prod.fst (Option.some.inj h)).symm).elim
    · have h := oif_neg c3 h
      have hl := lv_sub hl [] rfl
      exact x_X11_needRange_b10 E hA hX hN hml trivial hst htab hlocks (fun H locs t G hvm h1 h2 => ⟨T1, trivial, ⟨⟨rfl, rfl⟩, (c_thrown G hK hvm h1 h2).1⟩, (c_thrown G hK hvm h1 h2).2⟩) _ _ _ _ h G hl
def g_X11_micAt (T : AT) (o : Nat) (a0 : Int32) (a1 : Int32) : Option (Nat × Int32 × AT) := oif (oO T o 11 = true) <| othr (g_X11_needCamera T o) 0 fun r5 T3 => oif (oO T3 o 11 = true) <| othr (g_X11_needMic T3 o a0) 0 fun r10 T8 => othr (g_X11_needRange T8 a1 (0 : Int32) (3 : Int32)) 0 fun r14 T12 => if a1 = 0 then (oif (oO T12 o 11 = true) <| obind (T12.2.2.2.2 o 14) fun n18 => oif (oO T12 n18 6 = true) <| obind (T12.2.2.2.2 n18 4) fun n20 => oif (aA T12 n20 103 = true) <| oif (inb a0 (T12.2.1 n20).2 = true) <| obind (T12.2.2.2.2 n20 a0.toNatClampNeg) fun n23 => oif (oO T12 n23 2 = true) <| elet (T12.2.2.1 n23 0) fun v25 => some (0, v25, T12)) else (if a1 = 1 then (oif (oO T12 o 11 = true) <| obind (T12.2.2.2.2 o 14) fun n28 => oif (oO T12 n28 6 = true) <| obind (T12.2.2.2.2 n28 4) fun n30 => oif (aA T12 n30 103 = true) <| oif (inb a0 (T12.2.1 n30).2 = true) <| obind (T12.2.2.2.2 n30 a0.toNatClampNeg) fun n33 => oif (oO T12 n33 2 = true) <| elet (T12.2.2.1 n33 1) fun v35 => some (0, v35, T12)) else (if a1 = 2 then (oif (oO T12 o 11 = true) <| obind (T12.2.2.2.2 o 14) fun n38 => oif (oO T12 n38 6 = true) <| obind (T12.2.2.2.2 n38 4) fun n40 => oif (aA T12 n40 103 = true) <| oif (inb a0 (T12.2.1 n40).2 = true) <| obind (T12.2.2.2.2 n40 a0.toNatClampNeg) fun n43 => oif (oO T12 n43 2 = true) <| elet (T12.2.2.1 n43 2) fun v45 => some (0, v45, T12)) else (oif (oO T12 o 11 = true) <| obind (T12.2.2.2.2 o 6) fun n47 => oif (oO T12 n47 8 = true) <| obind (T12.2.2.2.2 n47 4) fun n49 => oif (aA T12 n49 100 = true) <| oif (inb a0 (T12.2.1 n49).2 = true) <| elet (T12.2.2.1 n49 a0.toNatClampNeg) fun v52 => some (0, v52, T12))))
set_option maxHeartbeats 4000000 in
set_option maxRecDepth 100000 in
theorem u_X11_micAt (l : Launch) (hst : l.stackTraces = false) (D : va_G) (cI cJ cZ cMic cSrc cSt cAI cAJ : ClassId) (ad : Nat → Nat) (T : AT) (o : Nat) (a0 : Int32) (a1 : Int32) {r1 : Int32} {T1 : AT} (h : g_X11_micAt T o a0 a1 = some (0, r1, T1)) : kCi l yX11_micAt (Cond.code yX11_micAt cX11_micAt 3 (some .int) :: wsA) 8 123 cI cJ cZ cMic cSrc cSt cAI cAJ D ad T [.ref (ad o), .int a0, .int a1] (fun r T9 => r = r1 ∧ T9 = T1) := by
  intro sz
  refine Met.ofW (cc := cX11_micAt) (maxL := 3) (ret := (some .int)) (by decide) rfl ?_
  intro p e s m args below meth c s₁ B hml hv
  obtain ⟨rfl, hsz, hP, hK, hD0, hX, hN⟩ := hv
  have hx := B.exec
  have hb := B.bytes
  have hr := B.returns
  have hts := atoms_spec (ws := (Cond.code yX11_micAt cX11_micAt 3 (some .int) :: wsA)) B.pre
  have hown : s.vm.findClass RX11 = some m.cls := findClass_of_methodNamed B.named
  have hlocks := B.notSynchronized
  subst hsz
  have hD := hD0.self (sz := s.heap.size)
  generalize hAe : va_A (cW ad T.1 (cc cI cJ cZ cMic cSrc cSt cAI cAJ ad T)) s.heap.size = A at hD hX ⊢
  have hA : ∀ q : Nat, s.heap.size ≤ q → A q := fun q h => by rw [← hAe]; exact Or.inr h
  have G : gC cI cJ cZ cMic cSrc cSt cAI cAJ D ad A s.heap s.heap [] T := ⟨hP, hD, va_S.rf⟩
  have E : cE p c cX11_micAt s m ([.ref (ad o), .int a0, .int a1] : List Value).toArray (Cond.code yX11_micAt cX11_micAt 3 (some .int) :: wsA) D RX11 (CT cI cJ cZ cMic cSrc cSt cAI cAJ) := ⟨hx, hb, hts, hown, hK⟩
  have hl := lv_entry ([.ref (ad o), .int a0, .int a1]) (n := 3) (Nat.le_of_ble_eq_true rfl)
  rw [lg_entry_eq]
  generalize (lg_sl ([.ref (ad o), .int a0, .int a1]) ++ List.replicate (3 - (lg_sl ([.ref (ad o), .int a0, .int a1])).length) Slot.unset).toArray = ls at hl ⊢
  have hl : lv_has ls 3 [(0, .ref (ad o)), (1, .int a0), (2, .int a1)] := hl
  unfold g_X11_micAt at h
  refine lv_aload_n hx hb dX11_micAt_0 rfl (lv_at hl 0 rfl) ?_
  obtain ⟨g2, h⟩ := oif_some h
  obtain ⟨r5, T3, eT3, h⟩ := othr_n h
  refine q_cvv (As := []) (rest := []) E G hA hX hN hml (u_X11_needCamera l hst D cI cJ cZ cMic cSrc cSt cAI cAJ ad T o eT3) (cwV 0 hts (gaV qA_728 qA_729 qA_730 qA_131 qA_731) rfl rfl rfl (by decide +kernel) ⟨Nat.le_of_ble_eq_true rfl, Nat.le_of_ble_eq_true rfl⟩) (oO_k g2).1 (cc_o11 (oO_k g2).2) rfl rfl hl.1 rfl (lv_room (Nat.le_of_ble_eq_true rfl)) dX11_micAt_1 ⟨Nat.zero_le _, Nat.zero_le _⟩ (fun T4 H locs hq G => ?_)
  rw [hq] at G
  clear hq eT3
  refine lv_aload_n hx hb dX11_micAt_4 rfl (lv_at hl 0 rfl) ?_
  refine lv_iload_n hx hb dX11_micAt_5 rfl (lv_at hl 1 rfl) ?_
  obtain ⟨g7, h⟩ := oif_some h
  obtain ⟨r10, T8, eT8, h⟩ := othr_n h
  refine q_cvv (As := [.int a0]) (rest := []) E G hA hX hN hml (u_X11_needMic l hst D cI cJ cZ cMic cSrc cSt cAI cAJ ad T3 o a0 eT8) (cwV 1 hts (gaV qA_734 qA_735 qA_736 qA_131 qA_737) rfl rfl rfl (by decide +kernel) ⟨Nat.le_of_ble_eq_true rfl, Nat.le_of_ble_eq_true rfl⟩) (oO_k g7).1 (cc_o11 (oO_k g7).2) rfl rfl hl.1 rfl (lv_room (Nat.le_of_ble_eq_true rfl)) dX11_micAt_6 ⟨Nat.zero_le _, Nat.zero_le _⟩ (fun T9 H locs hq G => ?_)
  rw [hq] at G
  clear hq eT8
  refine lv_iload_n hx hb dX11_micAt_9 rfl (lv_at hl 2 rfl) ?_
  refine lv_iconst (v := 0) hx hb dX11_micAt_10 (by decide) ?_
  refine lv_iconst (v := 3) hx hb dX11_micAt_11 (by decide) ?_
  obtain ⟨r14, T12, eT12, h⟩ := othr_n h
  refine q_csv (As := [.int a1, .int 0, .int 3]) (rest := []) E G hA hX hN hml (u_X11_needRange l hst D cI cJ cZ cMic cSrc cSt cAI cAJ ad T8 a1 (0 : Int32) (3 : Int32) eT12) (cwS 3 hts (gaS qA_741 qA_742 qA_131 qA_743) rfl rfl rfl (by decide +kernel) ⟨Nat.le_of_ble_eq_true rfl, Nat.le_of_ble_eq_true rfl⟩) rfl hl.1 rfl (lv_room (Nat.le_of_ble_eq_true rfl)) dX11_micAt_12 ⟨Nat.zero_le _, Nat.zero_le _⟩ (fun T13 H locs hq G => ?_)
  rw [hq] at G
  clear hq eT12
  refine lv_iload_n hx hb dX11_micAt_15 rfl (lv_at hl 2 rfl) ?_
  by_cases c16 : a1 = 0
  · have h := oif_pos c16 h
    refine lv_tableIn (off := 28) (tgt := 44) hx hb dX11_micAt_16 (by rw [c16]; decide) (by rw [c16]; decide) (by rw [c16]; rfl) (by decide) ?_
    refine lv_aload_n hx hb dX11_micAt_44 rfl (lv_at hl 0 rfl) ?_
    obtain ⟨g17, h⟩ := oif_some h
    obtain ⟨n18, en18, h⟩ := obind_some h
    refine c_get E G o 14 (v := .ref (ad n18)) (oO_k g17).1 (cc_o11 (oO_k g17).2) rfl (fun w h => .tail _ (iA_23 h)) (by decide) (.tail _ qA_675) rfl (by rw [en18]; rfl) dX11_micAt_45 ?_
    clear en18
    obtain ⟨g19, h⟩ := oif_some h
    obtain ⟨n20, en20, h⟩ := obind_some h
    refine c_get E G n18 4 (v := .ref (ad n20)) (oO_k g19).1 (cc_o6 (oO_k g19).2) rfl (fun w h => .tail _ (iA_14 h)) (by decide) (.tail _ qA_723) rfl (by rw [en20]; rfl) dX11_micAt_48 ?_
    clear en20
    refine lv_iload_n hx hb dX11_micAt_51 rfl (lv_at hl 1 rfl) ?_
    obtain ⟨g21, h⟩ := oif_some h
    obtain ⟨g22, h⟩ := oif_some h
    obtain ⟨n23, en23, h⟩ := obind_some h
    refine c_aldq E G n20 3 (k := a0.toNatClampNeg) (v := .ref (ad n23)) (aA_k g21).1 (cc_a103 (aA_k g21).2.1) rfl (inb_k g22).1 (inb_k g22).2 (aA_k g21).2.2 (by show va_rf ((T12.2.2.2.2 n20 a0.toNatClampNeg).map ad) = _; rw [en23]; rfl) dX11_micAt_52 ?_
    clear en23
    obtain ⟨g24, h⟩ := oif_some h
    refine c_get E G n23 0 (oO_k g24).1 (cc_o2 (oO_k g24).2) rfl (fun w h => .tail _ (iA_19 h)) (by decide) (.tail _ qA_724) rfl rfl dX11_micAt_53 ?_
    refine lv_topi (fun v25 ev25 => ?_)
    have h := elet_at ev25 h
    clear ev25
    exact W.iret (v := v25) hx hb hr (fun t ht hW => ⟨⟨v25, T12, rfl, (osome3 h).2, ⟨by rw [ht]; exact G.1, va_K.moved hW.alike hK, G.2.1⟩⟩, G.2.2.F ht⟩) G.2.2.2.2 dX11_micAt_56
  have h := oif_neg c16 h
  by_cases c26 : a1 = 1
  · have h := oif_pos c26 h
    refine lv_tableIn (off := 41) (tgt := 57) hx hb dX11_micAt_16 (by rw [c26]; decide) (by rw [c26]; decide) (by rw [c26]; rfl) (by decide) ?_
    refine lv_aload_n hx hb dX11_micAt_57 rfl (lv_at hl 0 rfl) ?_
    obtain ⟨g27, h⟩ := oif_some h
    obtain ⟨n28, en28, h⟩ := obind_some h
    refine c_get E G o 14 (v := .ref (ad n28)) (oO_k g27).1 (cc_o11 (oO_k g27).2) rfl (fun w h => .tail _ (iA_23 h)) (by decide) (.tail _ qA_675) rfl (by rw [en28]; rfl) dX11_micAt_58 ?_
    clear en28
    obtain ⟨g29, h⟩ := oif_some h
    obtain ⟨n30, en30, h⟩ := obind_some h
    refine c_get E G n28 4 (v := .ref (ad n30)) (oO_k g29).1 (cc_o6 (oO_k g29).2) rfl (fun w h => .tail _ (iA_14 h)) (by decide) (.tail _ qA_723) rfl (by rw [en30]; rfl) dX11_micAt_61 ?_
    clear en30
    refine lv_iload_n hx hb dX11_micAt_64 rfl (lv_at hl 1 rfl) ?_
    obtain ⟨g31, h⟩ := oif_some h
    obtain ⟨g32, h⟩ := oif_some h
    obtain ⟨n33, en33, h⟩ := obind_some h
    refine c_aldq E G n30 3 (k := a0.toNatClampNeg) (v := .ref (ad n33)) (aA_k g31).1 (cc_a103 (aA_k g31).2.1) rfl (inb_k g32).1 (inb_k g32).2 (aA_k g31).2.2 (by show va_rf ((T12.2.2.2.2 n30 a0.toNatClampNeg).map ad) = _; rw [en33]; rfl) dX11_micAt_65 ?_
    clear en33
    obtain ⟨g34, h⟩ := oif_some h
    refine c_get E G n33 1 (oO_k g34).1 (cc_o2 (oO_k g34).2) rfl (fun w h => .tail _ (iA_19 h)) (by decide) (.tail _ qA_725) rfl rfl dX11_micAt_66 ?_
    refine lv_topi (fun v35 ev35 => ?_)
    have h := elet_at ev35 h
    clear ev35
    exact W.iret (v := v35) hx hb hr (fun t ht hW => ⟨⟨v35, T12, rfl, (osome3 h).2, ⟨by rw [ht]; exact G.1, va_K.moved hW.alike hK, G.2.1⟩⟩, G.2.2.F ht⟩) G.2.2.2.2 dX11_micAt_69
  have h := oif_neg c26 h
  by_cases c36 : a1 = 2
  · have h := oif_pos c36 h
    refine lv_tableIn (off := 54) (tgt := 70) hx hb dX11_micAt_16 (by rw [c36]; decide) (by rw [c36]; decide) (by rw [c36]; rfl) (by decide) ?_
    refine lv_aload_n hx hb dX11_micAt_70 rfl (lv_at hl 0 rfl) ?_
    obtain ⟨g37, h⟩ := oif_some h
    obtain ⟨n38, en38, h⟩ := obind_some h
    refine c_get E G o 14 (v := .ref (ad n38)) (oO_k g37).1 (cc_o11 (oO_k g37).2) rfl (fun w h => .tail _ (iA_23 h)) (by decide) (.tail _ qA_675) rfl (by rw [en38]; rfl) dX11_micAt_71 ?_
    clear en38
    obtain ⟨g39, h⟩ := oif_some h
    obtain ⟨n40, en40, h⟩ := obind_some h
    refine c_get E G n38 4 (v := .ref (ad n40)) (oO_k g39).1 (cc_o6 (oO_k g39).2) rfl (fun w h => .tail _ (iA_14 h)) (by decide) (.tail _ qA_723) rfl (by rw [en40]; rfl) dX11_micAt_74 ?_
    clear en40
    refine lv_iload_n hx hb dX11_micAt_77 rfl (lv_at hl 1 rfl) ?_
    obtain ⟨g41, h⟩ := oif_some h
    obtain ⟨g42, h⟩ := oif_some h
    obtain ⟨n43, en43, h⟩ := obind_some h
    refine c_aldq E G n40 3 (k := a0.toNatClampNeg) (v := .ref (ad n43)) (aA_k g41).1 (cc_a103 (aA_k g41).2.1) rfl (inb_k g42).1 (inb_k g42).2 (aA_k g41).2.2 (by show va_rf ((T12.2.2.2.2 n40 a0.toNatClampNeg).map ad) = _; rw [en43]; rfl) dX11_micAt_78 ?_
    clear en43
    obtain ⟨g44, h⟩ := oif_some h
    refine c_get E G n43 2 (oO_k g44).1 (cc_o2 (oO_k g44).2) rfl (fun w h => .tail _ (iA_19 h)) (by decide) (.tail _ qA_726) rfl rfl dX11_micAt_79 ?_
    refine lv_topi (fun v45 ev45 => ?_)
    have h := elet_at ev45 h
    clear ev45
    exact W.iret (v := v45) hx hb hr (fun t ht hW => ⟨⟨v45, T12, rfl, (osome3 h).2, ⟨by rw [ht]; exact G.1, va_K.moved hW.alike hK, G.2.1⟩⟩, G.2.2.F ht⟩) G.2.2.2.2 dX11_micAt_82
  have h := oif_neg c36 h
  refine lv_tableOut (tgt := 83) hx hb dX11_micAt_16 (tsw_0_2 c16 c26 c36) (by decide) ?_
  refine lv_aload_n hx hb dX11_micAt_83 rfl (lv_at hl 0 rfl) ?_
  obtain ⟨g46, h⟩ := oif_some h
  obtain ⟨n47, en47, h⟩ := obind_some h
  refine c_get E G o 6 (v := .ref (ad n47)) (oO_k g46).1 (cc_o11 (oO_k g46).2) rfl (fun w h => .tail _ (iA_23 h)) (by decide) (.tail _ qA_664) rfl (by rw [en47]; rfl) dX11_micAt_84 ?_
  clear en47
  obtain ⟨g48, h⟩ := oif_some h
  obtain ⟨n49, en49, h⟩ := obind_some h
  refine c_get E G n47 4 (v := .ref (ad n49)) (oO_k g48).1 (cc_o8 (oO_k g48).2) rfl (fun w h => .tail _ (iA_16 h)) (by decide) (.tail _ qA_727) rfl (by rw [en49]; rfl) dX11_micAt_87 ?_
  clear en49
  refine lv_iload_n hx hb dX11_micAt_90 rfl (lv_at hl 1 rfl) ?_
  obtain ⟨g50, h⟩ := oif_some h
  obtain ⟨g51, h⟩ := oif_some h
  refine c_iald E G n49 0 (k := a0.toNatClampNeg) (aA_k g50).1 (cc_a100 (aA_k g50).2.1) rfl (inb_k g51).1 (inb_k g51).2 (aA_k g50).2.2 dX11_micAt_91 ?_
  refine lv_topi (fun v52 ev52 => ?_)
  have h := elet_at ev52 h
  clear ev52
  exact W.iret (v := v52) hx hb hr (fun t ht hW => ⟨⟨v52, T12, rfl, (osome3 h).2, ⟨by rw [ht]; exact G.1, va_K.moved hW.alike hK, G.2.1⟩⟩, G.2.2.F ht⟩) G.2.2.2.2 dX11_micAt_92
set_option maxHeartbeats 4000000 in
set_option maxRecDepth 100000 in
theorem s_X11_micAt {T : AT} {o : Nat} {a0 : Int32} {a1 : Int32} {e1 : Nat} {r1 : Int32} {T1 : AT} (h : g_X11_micAt T o a0 a1 = some (e1, r1, T1)) : SP T T1 := by
  have p0 := SP.rf T
  unfold g_X11_micAt at h
  obtain ⟨g2, h⟩ := oif_some h
  rcases othr_s h with ⟨k9, r9, e9, -⟩ | ⟨r4, T3, eT3, h⟩
  · exact SP.tr p0 (s_X11_needCamera e9)
  have p1 : SP T T3 := SP.tr p0 (s_X11_needCamera eT3)
  obtain ⟨g5, h⟩ := oif_some h
  rcases othr_s h with ⟨k9, r9, e9, -⟩ | ⟨r7, T6, eT6, h⟩
  · exact SP.tr p1 (s_X11_needMic e9)
  have p2 : SP T T6 := SP.tr p1 (s_X11_needMic eT6)
  rcases othr_s h with ⟨k9, r9, e9, -⟩ | ⟨r9, T8, eT8, h⟩
  · exact SP.tr p2 (s_X11_needRange e9)
  have p3 : SP T T8 := SP.tr p2 (s_X11_needRange eT8)
  by_cases c10 : a1 = 0
  · have h := oif_pos c10 h
    obtain ⟨g11, h⟩ := oif_some h
    obtain ⟨n12, en12, h⟩ := obind_some h
    obtain ⟨g13, h⟩ := oif_some h
    obtain ⟨n14, en14, h⟩ := obind_some h
    obtain ⟨g15, h⟩ := oif_some h
    obtain ⟨g16, h⟩ := oif_some h
    obtain ⟨n17, en17, h⟩ := obind_some h
    obtain ⟨g18, h⟩ := oif_some h
    obtain ⟨v19, -, h⟩ := elet_some h
    rw [← (osome3 h).2.2]
    exact p3
  have h := oif_neg c10 h
  by_cases c20 : a1 = 1
  · have h := oif_pos c20 h
    obtain ⟨g21, h⟩ := oif_some h
    obtain ⟨n22, en22, h⟩ := obind_some h
    obtain ⟨g23, h⟩ := oif_some h
    obtain ⟨n24, en24, h⟩ := obind_some h
    obtain ⟨g25, h⟩ := oif_some h
    obtain ⟨g26, h⟩ := oif_some h
    obtain ⟨n27, en27, h⟩ := obind_some h
    obtain ⟨g28, h⟩ := oif_some h
    obtain ⟨v29, -, h⟩ := elet_some h
    rw [← (osome3 h).2.2]
    exact p3
  have h := oif_neg c20 h
  by_cases c30 : a1 = 2
  · have h := oif_pos c30 h
    obtain ⟨g31, h⟩ := oif_some h
    obtain ⟨n32, en32, h⟩ := obind_some h
    obtain ⟨g33, h⟩ := oif_some h
    obtain ⟨n34, en34, h⟩ := obind_some h
    obtain ⟨g35, h⟩ := oif_some h
    obtain ⟨g36, h⟩ := oif_some h
    obtain ⟨n37, en37, h⟩ := obind_some h
    obtain ⟨g38, h⟩ := oif_some h
    obtain ⟨v39, -, h⟩ := elet_some h
    rw [← (osome3 h).2.2]
    exact p3
  have h := oif_neg c30 h
  obtain ⟨g40, h⟩ := oif_some h
  obtain ⟨n41, en41, h⟩ := obind_some h
  obtain ⟨g42, h⟩ := oif_some h
  obtain ⟨n43, en43, h⟩ := obind_some h
  obtain ⟨g44, h⟩ := oif_some h
  obtain ⟨g45, h⟩ := oif_some h
  obtain ⟨v46, -, h⟩ := elet_some h
  rw [← (osome3 h).2.2]
  exact p3
set_option maxHeartbeats 4000000 in
set_option maxRecDepth 100000 in
theorem x_X11_micAt (l : Launch) (hst : l.stackTraces = false) (D : va_G) (cI cJ cZ cMic cSrc cSt cAI cAJ : ClassId) (ad : Nat → Nat) (T : AT) (o : Nat) (a0 : Int32) (a1 : Int32) {e1 : Nat} {r1 : Int32} {T1 : AT} (h : g_X11_micAt T o a0 a1 = some (e1 + 1, r1, T1)) : kXi l yX11_micAt (Cond.code yX11_micAt cX11_micAt 3 (some .int) :: wsA) 8 123 cI cJ cZ cMic cSrc cSt cAI cAJ D ad T [.ref (ad o), .int a0, .int a1] e1 T1 := by
  intro sz
  refine vx_ofW (cc := cX11_micAt) (maxL := 3) (ret := (some .int)) (by decide) rfl ?_
  intro p e s m args below meth c s₁ B hml htab hv
  obtain ⟨rfl, hsz, hP, hK, hD0, hX, hN⟩ := hv
  have hx := B.exec
  have hb := B.bytes
  have hr := B.returns
  have hts := atoms_spec (ws := (Cond.code yX11_micAt cX11_micAt 3 (some .int) :: wsA)) B.pre
  have hown : s.vm.findClass RX11 = some m.cls := findClass_of_methodNamed B.named
  have hlocks := B.notSynchronized
  subst hsz
  have hD := hD0.self (sz := s.heap.size)
  generalize hAe : va_A (cW ad T.1 (cc cI cJ cZ cMic cSrc cSt cAI cAJ ad T)) s.heap.size = A at hD hX ⊢
  have hA : ∀ q : Nat, s.heap.size ≤ q → A q := fun q h => by rw [← hAe]; exact Or.inr h
  have G : gC cI cJ cZ cMic cSrc cSt cAI cAJ D ad A s.heap s.heap [] T := ⟨hP, hD, va_S.rf⟩
  have E : cE p c cX11_micAt s m ([.ref (ad o), .int a0, .int a1] : List Value).toArray (Cond.code yX11_micAt cX11_micAt 3 (some .int) :: wsA) D RX11 (CT cI cJ cZ cMic cSrc cSt cAI cAJ) := ⟨hx, hb, hts, hown, hK⟩
  have htab : ∀ x ∈ c.exceptionTable.toList, False := fun x hx => htab x hx
  have hl := lv_entry ([.ref (ad o), .int a0, .int a1]) (n := 3) (Nat.le_of_ble_eq_true rfl)
  rw [lg_entry_eq]
  generalize (lg_sl ([.ref (ad o), .int a0, .int a1]) ++ List.replicate (3 - (lg_sl ([.ref (ad o), .int a0, .int a1])).length) Slot.unset).toArray = ls at hl ⊢
  have hl : lv_has ls 3 [(0, .ref (ad o)), (1, .int a0), (2, .int a1)] := hl
  unfold g_X11_micAt at h
  refine lv_aload_n hx hb dX11_micAt_0 rfl (lv_at hl 0 rfl) ?_
  obtain ⟨g2, h⟩ := oif_some h
  rcases othr_t h with ⟨r0, eT3⟩ | ⟨r5, T3, eT3, h⟩
  · refine q_xvv (As := []) (rest := []) E G hA hX hN hml (x_X11_needCamera l hst D cI cJ cZ cMic cSrc cSt cAI cAJ ad T o eT3) (cwV 0 hts (gaV qA_728 qA_729 qA_730 qA_131 qA_731) rfl rfl rfl (by decide +kernel) ⟨Nat.le_of_ble_eq_true rfl, Nat.le_of_ble_eq_true rfl⟩) (oO_k g2).1 (cc_o11 (oO_k g2).2) rfl rfl hl.1 rfl (lv_room (Nat.le_of_ble_eq_true rfl)) dX11_micAt_1 ⟨Nat.le_of_ble_eq_true rfl, Nat.le_of_ble_eq_true rfl⟩ (fun E9 ce q9 T9 H locs hp G hce hcv hcl => ?_)
    obtain ⟨hE, hT⟩ := hp
    subst hE
    rw [hT] at G
    exact vx_out (fun x hx => (htab x hx).elim) hlocks hce hcv hcl (fun t ht hvm => ⟨T1, trivial, ⟨⟨rfl, rfl⟩, by rw [ht]; exact G.1, va_K.moved hvm hK, G.2.1⟩, G.2.2.F ht⟩) G.2.2.2.2 (Nat.le_refl _) (Nat.le_refl _)
  refine q_cvv (As := []) (rest := []) E G hA hX hN hml (u_X11_needCamera l hst D cI cJ cZ cMic cSrc cSt cAI cAJ ad T o eT3) (cwV 0 hts (gaV qA_728 qA_729 qA_730 qA_131 qA_731) rfl rfl rfl (by decide +kernel) ⟨Nat.le_of_ble_eq_true rfl, Nat.le_of_ble_eq_true rfl⟩) (oO_k g2).1 (cc_o11 (oO_k g2).2) rfl rfl hl.1 rfl (lv_room (Nat.le_of_ble_eq_true rfl)) dX11_micAt_1 ⟨Nat.zero_le _, Nat.zero_le _⟩ (fun T4 H locs hq G => ?_)
  rw [hq] at G
  clear hq eT3
  refine lv_aload_n hx hb dX11_micAt_4 rfl (lv_at hl 0 rfl) ?_
  refine lv_iload_n hx hb dX11_micAt_5 rfl (lv_at hl 1 rfl) ?_
  obtain ⟨g7, h⟩ := oif_some h
  rcases othr_t h with ⟨r0, eT8⟩ | ⟨r10, T8, eT8, h⟩
  · refine q_xvv (As := [.int a0]) (rest := []) E G hA hX hN hml (x_X11_needMic l hst D cI cJ cZ cMic cSrc cSt cAI cAJ ad T3 o a0 eT8) (cwV 1 hts (gaV qA_734 qA_735 qA_736 qA_131 qA_737) rfl rfl rfl (by decide +kernel) ⟨Nat.le_of_ble_eq_true rfl, Nat.le_of_ble_eq_true rfl⟩) (oO_k g7).1 (cc_o11 (oO_k g7).2) rfl rfl hl.1 rfl (lv_room (Nat.le_of_ble_eq_true rfl)) dX11_micAt_6 ⟨Nat.le_of_ble_eq_true rfl, Nat.le_of_ble_eq_true rfl⟩ (fun E9 ce q9 T9 H locs hp G hce hcv hcl => ?_)
    obtain ⟨hE, hT⟩ := hp
    subst hE
    rw [hT] at G
    exact vx_out (fun x hx => (htab x hx).elim) hlocks hce hcv hcl (fun t ht hvm => ⟨T1, trivial, ⟨⟨rfl, rfl⟩, by rw [ht]; exact G.1, va_K.moved hvm hK, G.2.1⟩, G.2.2.F ht⟩) G.2.2.2.2 (Nat.le_refl _) (Nat.le_refl _)
  refine q_cvv (As := [.int a0]) (rest := []) E G hA hX hN hml (u_X11_needMic l hst D cI cJ cZ cMic cSrc cSt cAI cAJ ad T3 o a0 eT8) (cwV 1 hts (gaV qA_734 qA_735 qA_736 qA_131 qA_737) rfl rfl rfl (by decide +kernel) ⟨Nat.le_of_ble_eq_true rfl, Nat.le_of_ble_eq_true rfl⟩) (oO_k g7).1 (cc_o11 (oO_k g7).2) rfl rfl hl.1 rfl (lv_room (Nat.le_of_ble_eq_true rfl)) dX11_micAt_6 ⟨Nat.zero_le _, Nat.zero_le _⟩ (fun T9 H locs hq G => ?_)
  rw [hq] at G
  clear hq eT8
  refine lv_iload_n hx hb dX11_micAt_9 rfl (lv_at hl 2 rfl) ?_
  refine lv_iconst (v := 0) hx hb dX11_micAt_10 (by decide) ?_
  refine lv_iconst (v := 3) hx hb dX11_micAt_11 (by decide) ?_
  rcases othr_t h with ⟨r0, eT12⟩ | ⟨r14, T12, eT12, h⟩
  · refine q_xsv (As := [.int a1, .int 0, .int 3]) (rest := []) E G hA hX hN hml (x_X11_needRange l hst D cI cJ cZ cMic cSrc cSt cAI cAJ ad T8 a1 (0 : Int32) (3 : Int32) eT12) (cwS 3 hts (gaS qA_741 qA_742 qA_131 qA_743) rfl rfl rfl (by decide +kernel) ⟨Nat.le_of_ble_eq_true rfl, Nat.le_of_ble_eq_true rfl⟩) rfl hl.1 rfl (lv_room (Nat.le_of_ble_eq_true rfl)) dX11_micAt_12 ⟨Nat.le_of_ble_eq_true rfl, Nat.le_of_ble_eq_true rfl⟩ (fun E9 ce q9 T9 H locs hp G hce hcv hcl => ?_)
    obtain ⟨hE, hT⟩ := hp
    subst hE
    rw [hT] at G
    exact vx_out (fun x hx => (htab x hx).elim) hlocks hce hcv hcl (fun t ht hvm => ⟨T1, trivial, ⟨⟨rfl, rfl⟩, by rw [ht]; exact G.1, va_K.moved hvm hK, G.2.1⟩, G.2.2.F ht⟩) G.2.2.2.2 (Nat.le_refl _) (Nat.le_refl _)
  refine q_csv (As := [.int a1, .int 0, .int 3]) (rest := []) E G hA hX hN hml (u_X11_needRange l hst D cI cJ cZ cMic cSrc cSt cAI cAJ ad T8 a1 (0 : Int32) (3 : Int32) eT12) (cwS 3 hts (gaS qA_741 qA_742 qA_131 qA_743) rfl rfl rfl (by decide +kernel) ⟨Nat.le_of_ble_eq_true rfl, Nat.le_of_ble_eq_true rfl⟩) rfl hl.1 rfl (lv_room (Nat.le_of_ble_eq_true rfl)) dX11_micAt_12 ⟨Nat.zero_le _, Nat.zero_le _⟩ (fun T13 H locs hq G => ?_)
  rw [hq] at G
  clear hq eT12
  refine lv_iload_n hx hb dX11_micAt_15 rfl (lv_at hl 2 rfl) ?_
  by_cases c16 : a1 = 0
  · have h := oif_pos c16 h
    refine lv_tableIn (off := 28) (tgt := 44) hx hb dX11_micAt_16 (by rw [c16]; decide) (by rw [c16]; decide) (by rw [c16]; rfl) (by decide) ?_
    refine lv_aload_n hx hb dX11_micAt_44 rfl (lv_at hl 0 rfl) ?_
    obtain ⟨g17, h⟩ := oif_some h
    obtain ⟨n18, en18, h⟩ := obind_some h
    refine c_get E G o 14 (v := .ref (ad n18)) (oO_k g17).1 (cc_o11 (oO_k g17).2) rfl (fun w h => .tail _ (iA_23 h)) (by decide) (.tail _ qA_675) rfl (by rw [en18]; rfl) dX11_micAt_45 ?_
    clear en18
    obtain ⟨g19, h⟩ := oif_some h
    obtain ⟨n20, en20, h⟩ := obind_some h
    refine c_get E G n18 4 (v := .ref (ad n20)) (oO_k g19).1 (cc_o6 (oO_k g19).2) rfl (fun w h => .tail _ (iA_14 h)) (by decide) (.tail _ qA_723) rfl (by rw [en20]; rfl) dX11_micAt_48 ?_
    clear en20
    refine lv_iload_n hx hb dX11_micAt_51 rfl (lv_at hl 1 rfl) ?_
    obtain ⟨g21, h⟩ := oif_some h
    obtain ⟨g22, h⟩ := oif_some h
    obtain ⟨n23, en23, h⟩ := obind_some h
    refine c_aldq E G n20 3 (k := a0.toNatClampNeg) (v := .ref (ad n23)) (aA_k g21).1 (cc_a103 (aA_k g21).2.1) rfl (inb_k g22).1 (inb_k g22).2 (aA_k g21).2.2 (by show va_rf ((T12.2.2.2.2 n20 a0.toNatClampNeg).map ad) = _; rw [en23]; rfl) dX11_micAt_52 ?_
    clear en23
    obtain ⟨g24, h⟩ := oif_some h
    refine c_get E G n23 0 (oO_k g24).1 (cc_o2 (oO_k g24).2) rfl (fun w h => .tail _ (iA_19 h)) (by decide) (.tail _ qA_724) rfl rfl dX11_micAt_53 ?_
    refine lv_topi (fun v25 ev25 => ?_)
    have h := elet_at ev25 h
    clear ev25
    exact (Nat.succ_ne_zero _ (congrArg Prod.fst (Option.some.inj h)).symm).elim
  have h := oif_neg c16 h
  by_cases c26 : a1 = 1
  · have h := oif_pos c26 h
    refine lv_tableIn (off := 41) (tgt := 57) hx hb dX11_micAt_16 (by rw [c26]; decide) (by rw [c26]; decide) (by rw [c26]; rfl) (by decide) ?_
    refine lv_aload_n hx hb dX11_micAt_57 rfl (lv_at hl 0 rfl) ?_
    obtain ⟨g27, h⟩ := oif_some h
    obtain ⟨n28, en28, h⟩ := obind_some h
    refine c_get E G o 14 (v := .ref (ad n28)) (oO_k g27).1 (cc_o11 (oO_k g27).2) rfl (fun w h => .tail _ (iA_23 h)) (by decide) (.tail _ qA_675) rfl (by rw [en28]; rfl) dX11_micAt_58 ?_
    clear en28
    obtain ⟨g29, h⟩ := oif_some h
    obtain ⟨n30, en30, h⟩ := obind_some h
    refine c_get E G n28 4 (v := .ref (ad n30)) (oO_k g29).1 (cc_o6 (oO_k g29).2) rfl (fun w h => .tail _ (iA_14 h)) (by decide) (.tail _ qA_723) rfl (by rw [en30]; rfl) dX11_micAt_61 ?_
    clear en30
    refine lv_iload_n hx hb dX11_micAt_64 rfl (lv_at hl 1 rfl) ?_
    obtain ⟨g31, h⟩ := oif_some h
    obtain ⟨g32, h⟩ := oif_some h
    obtain ⟨n33, en33, h⟩ := obind_some h
    refine c_aldq E G n30 3 (k := a0.toNatClampNeg) (v := .ref (ad n33)) (aA_k g31).1 (cc_a103 (aA_k g31).2.1) rfl (inb_k g32).1 (inb_k g32).2 (aA_k g31).2.2 (by show va_rf ((T12.2.2.2.2 n30 a0.toNatClampNeg).map ad) = _; rw [en33]; rfl) dX11_micAt_65 ?_
    clear en33
    obtain ⟨g34, h⟩ := oif_some h
    refine c_get E G n33 1 (oO_k g34).1 (cc_o2 (oO_k g34).2) rfl (fun w h => .tail _ (iA_19 h)) (by decide) (.tail _ qA_725) rfl rfl dX11_micAt_66 ?_
    refine lv_topi (fun v35 ev35 => ?_)
    have h := elet_at ev35 h
    clear ev35
    exact (Nat.succ_ne_zero _ (congrArg Prod.fst (Option.some.inj h)).symm).elim
  have h := oif_neg c26 h
  by_cases c36 : a1 = 2
  · have h := oif_pos c36 h
    refine lv_tableIn (off := 54) (tgt := 70) hx hb dX11_micAt_16 (by rw [c36]; decide) (by rw [c36]; decide) (by rw [c36]; rfl) (by decide) ?_
    refine lv_aload_n hx hb dX11_micAt_70 rfl (lv_at hl 0 rfl) ?_
    obtain ⟨g37, h⟩ := oif_some h
    obtain ⟨n38, en38, h⟩ := obind_some h
    refine c_get E G o 14 (v := .ref (ad n38)) (oO_k g37).1 (cc_o11 (oO_k g37).2) rfl (fun w h => .tail _ (iA_23 h)) (by decide) (.tail _ qA_675) rfl (by rw [en38]; rfl) dX11_micAt_71 ?_
    clear en38
    obtain ⟨g39, h⟩ := oif_some h
    obtain ⟨n40, en40, h⟩ := obind_some h
    refine c_get E G n38 4 (v := .ref (ad n40)) (oO_k g39).1 (cc_o6 (oO_k g39).2) rfl (fun w h => .tail _ (iA_14 h)) (by decide) (.tail _ qA_723) rfl (by rw [en40]; rfl) dX11_micAt_74 ?_
    clear en40
    refine lv_iload_n hx hb dX11_micAt_77 rfl (lv_at hl 1 rfl) ?_
    obtain ⟨g41, h⟩ := oif_some h
    obtain ⟨g42, h⟩ := oif_some h
    obtain ⟨n43, en43, h⟩ := obind_some h
    refine c_aldq E G n40 3 (k := a0.toNatClampNeg) (v := .ref (ad n43)) (aA_k g41).1 (cc_a103 (aA_k g41).2.1) rfl (inb_k g42).1 (inb_k g42).2 (aA_k g41).2.2 (by show va_rf ((T12.2.2.2.2 n40 a0.toNatClampNeg).map ad) = _; rw [en43]; rfl) dX11_micAt_78 ?_
    clear en43
    obtain ⟨g44, h⟩ := oif_some h
    refine c_get E G n43 2 (oO_k g44).1 (cc_o2 (oO_k g44).2) rfl (fun w h => .tail _ (iA_19 h)) (by decide) (.tail _ qA_726) rfl rfl dX11_micAt_79 ?_
    refine lv_topi (fun v45 ev45 => ?_)
    have h := elet_at ev45 h
    clear ev45
    exact (Nat.succ_ne_zero _ (congrArg Prod.fst (Option.some.inj h)).symm).elim
  have h := oif_neg c36 h
  refine lv_tableOut (tgt := 83) hx hb dX11_micAt_16 (tsw_0_2 c16 c26 c36) (by decide) ?_
  refine lv_aload_n hx hb dX11_micAt_83 rfl (lv_at hl 0 rfl) ?_
  obtain ⟨g46, h⟩ := oif_some h
  obtain ⟨n47, en47, h⟩ := obind_some h
  refine c_get E G o 6 (v := .ref (ad n47)) (oO_k g46).1 (cc_o11 (oO_k g46).2) rfl (fun w h => .tail _ (iA_23 h)) (by decide) (.tail _ qA_664) rfl (by rw [en47]; rfl) dX11_micAt_84 ?_
  clear en47
  obtain ⟨g48, h⟩ := oif_some h
  obtain ⟨n49, en49, h⟩ := obind_some h
  refine c_get E G n47 4 (v := .ref (ad n49)) (oO_k g48).1 (cc_o8 (oO_k g48).2) rfl (fun w h => .tail _ (iA_16 h)) (by decide) (.tail _ qA_727) rfl (by rw [en49]; rfl) dX11_micAt_87 ?_
  clear en49
  refine lv_iload_n hx hb dX11_micAt_90 rfl (lv_at hl 1 rfl) ?_
  obtain ⟨g50, h⟩ := oif_some h
  obtain ⟨g51, h⟩ := oif_some h
  refine c_iald E G n49 0 (k := a0.toNatClampNeg) (aA_k g50).1 (cc_a100 (aA_k g50).2.1) rfl (inb_k g51).1 (inb_k g51).2 (aA_k g50).2.2 dX11_micAt_91 ?_
  refine lv_topi (fun v52 ev52 => ?_)
  have h := elet_at ev52 h
  clear ev52
  exact (Nat.succ_ne_zero _ (congrArg Prod.fst (Option.some.inj h)).symm).elim
end
